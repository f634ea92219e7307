theorem c_X12_pick {l : Launch} {D : va_G} {c : Nat → ClassId} {H0 : Heap} {sa : Nat × Nat × (Nat → Int32)} {w : mW} {μ : mM} (hw : mWF w) (hT : mT w μ) {p1 : Int} (hp1 : 0 ≤ p1 ∧ p1 ≤ 9) {p2 : Int} (hp2 : 0 ≤ p2 ∧ p2 ≤ 9) (hIPK : PK μ) : sC (gG l D c H0 sa) mX12_pick 14 0 0 [.ref 106, iv p1, iv p2] (mk w μ) (qI w [106026, 106027, 106028, 106029, 106030, 106031, 126999, 151999, 152999, 153999, 165999] μ (fun z μ1 => ((-99999999) ≤ z ∧ z ≤ 19) ∧ mG [(160, 960)] μ μ1 ∧ (z = -99999999 ∨ (0 ≤ z ∧ z ≤ 19)) ∧ (z = -99999999 ∨ 0 ≤ μ1 126 (160 + 40 * z).toNat) ∧ True)) := by
  sorry
theorem vc_X12_look_1  : (0 : Int) ≤ (120 : Int) := by omega
theorem vc_X12_look_2  : ((120 : Int) : Int) % (40 : Int) = (0 : Int) := by omega
theorem vc_X12_look_3 {z73 : Int} (h0 : z73 = -99999999 ∨ z73 = -4 ∨ (0 ≤ z73 ∧ z73 ≤ 19)) : -99999999 ≤ z73 ∧ z73 ≤ 19 := by omega
theorem vc_X12_look_4 {z57 z68 z73 : Int} (h0 : z57 = -99999999 ∨ 0 ≤ z68) (h1 : ¬ z57 = z73) (h2 : (-99999999) ≤ z57 ∧ z57 ≤ 19) (h3 : z57 = (-99999999) ∨ z57 = (-4) ∨ (0 ≤ z57 ∧ z57 ≤ 19)) (h4 : (-1) ≤ z68 ∧ z68 ≤ 9) (h5 : (-99999999) ≤ z73 ∧ z73 ≤ 19) (h6 : z73 = -99999999 ∨ z73 = -4 ∨ (0 ≤ z73 ∧ z73 ≤ 19)) : z57 = -99999999 ∨ z57 = -4 ∨ (0 ≤ z57 ∧ z57 ≤ 19) := by omega
theorem vc_X12_look_5  : ((40 : Int) * (3 : Int)) = (120 : Int) := by omega
theorem vc_X12_look_6 {p1 p2 : Int} (h0 : 0 ≤ p1 ∧ p1 ≤ 9) (h1 : 0 ≤ p2 ∧ p2 ≤ 9) : (3 : Int) < (30 + ((10 * p1) + p2)) ∨ (30 + ((10 * p1) + p2)) < (3 : Int) := by omega
theorem vc_X12_look_7 {p1 p2 : Int} (h0 : 0 ≤ p1 ∧ p1 ≤ 9) (h1 : 0 ≤ p2 ∧ p2 ≤ 9) : 0 ≤ (40 * (30 + ((10 * p1) + p2))) := by omega
theorem vc_X12_look_8 {p1 p2 : Int} (h0 : 0 ≤ p1 ∧ p1 ≤ 9) (h1 : 0 ≤ p2 ∧ p2 ≤ 9) : (40 * (30 + ((10 * p1) + p2))) % 40 = 0 := by omega
theorem vc_X12_look_9 {z57 z68 z73 z85 : Int} (h0 : z57 = -99999999 ∨ 0 ≤ z68) (h1 : ¬ z57 = z73) (h2 : z85 = z68) (h3 : (-99999999) ≤ z57 ∧ z57 ≤ 19) (h4 : z57 = (-99999999) ∨ z57 = (-4) ∨ (0 ≤ z57 ∧ z57 ≤ 19)) (h5 : (-1) ≤ z68 ∧ z68 ≤ 9) (h6 : (-99999999) ≤ z73 ∧ z73 ≤ 19) (h7 : z73 = -99999999 ∨ z73 = -4 ∨ (0 ≤ z73 ∧ z73 ≤ 19)) (h8 : (-1) ≤ z85 ∧ z85 ≤ 9) : z57 = -99999999 ∨ 0 ≤ z68 := by omega
theorem vc_X12_look_10 {p1 p2 : Int} (h0 : 0 ≤ p1 ∧ p1 ≤ 9) (h1 : 0 ≤ p2 ∧ p2 ≤ 9) : (40 * (30 + ((10 * p1) + p2))) = 1200 + 40 * ((10 * p1) + p2) := by omega
theorem vc_X12_look_11 {z526 : Int} (h0 : (21 - z526) < ((0 : Nat) : Int)) (h1 : 0 ≤ z526 ∧ z526 ≤ 20) : False := by omega
theorem vc_X12_look_12  : (80 : Int) ≤ (80 : Int) ∧ (960 : Int) ≤ (960 : Int) := by omega
theorem vc_X12_look_13 {p1 p2 : Int} (h0 : 0 ≤ p1 ∧ p1 ≤ 9) (h1 : 0 ≤ p2 ∧ p2 ≤ 9) : (40 * (30 + ((10 * p1) + p2))) ≤ (40 * (30 + ((10 * p1) + p2))) ∧ ((40 * (30 + ((10 * p1) + p2))) + 40) ≤ ((40 * (30 + ((10 * p1) + p2))) + 40) := by omega
theorem vc_X12_look_14  : (21200 : Int) ≤ (21200 : Int) ∧ (53200 : Int) ≤ (53200 : Int) := by omega
theorem vc_X12_look_15 {z526 z537 : Int} (h0 : z526 < z537) (h1 : 0 ≤ z526 ∧ z526 ≤ 20) (h2 : 0 ≤ z537 ∧ z537 ≤ 20) : 0 ≤ z526 ∧ z526 ≤ 19 := by omega
theorem vc_X12_look_16 {z526 z537 : Int} (h0 : z526 < z537) (h1 : 0 ≤ z526 ∧ z526 ≤ 19) (h2 : 0 ≤ z537 ∧ z537 ≤ 20) : 1 ≤ z537 ∧ z537 ≤ 20 := by omega
theorem vc_X12_look_17 {p1 z569 z572 z579 : Int} (h0 : z579 = 0) (h1 : (z579 = 1 → z569 = p1 ∨ z572 = p1)) (h2 : (z579 = 0 → ¬ z569 = p1 ∧ ¬ z572 = p1)) (h3 : 0 ≤ p1 ∧ p1 ≤ 9) (h4 : 0 ≤ z569 ∧ z569 ≤ 9) (h5 : 0 ≤ z572 ∧ z572 ≤ 9) (h6 : 0 ≤ z579 ∧ z579 ≤ 1) : 0 ≤ z579 ∧ z579 ≤ 0 := by omega
theorem vc_X12_look_18 {p1 z569 z572 z579 : Int} (h0 : (z579 = 1 → z569 = p1 ∨ z572 = p1)) (h1 : (z579 = 0 → ¬ z569 = p1 ∧ ¬ z572 = p1)) (h2 : z579 = 0) (h3 : 0 ≤ p1 ∧ p1 ≤ 9) (h4 : 0 ≤ z569 ∧ z569 ≤ 9) (h5 : 0 ≤ z572 ∧ z572 ≤ 9) (h6 : 0 ≤ z579 ∧ z579 ≤ 0) : z579 = 0 := by omega
theorem vc_X12_look_19 {N z526 z537 : Int} (h0 : (21 - z526) < N + 1) (h1 : z526 < z537) (h2 : 0 ≤ z526 ∧ z526 ≤ 19) (h3 : 1 ≤ z537 ∧ z537 ≤ 20) : (21 - (z526 + 1)) < N := by omega
theorem vc_X12_look_20 {p1 p2 z569 z572 z579 : Int} (h0 : (z579 = 1 → z569 = p1 ∨ z572 = p1)) (h1 : (z579 = 0 → ¬ z569 = p1 ∧ ¬ z572 = p1)) (h2 : ¬ z569 = p1 ∧ ¬ z572 = p1) (h3 : z579 = 0) (h4 : 0 ≤ p1 ∧ p1 ≤ 9) (h5 : 0 ≤ p2 ∧ p2 ≤ 9) (h6 : 0 ≤ z569 ∧ z569 ≤ 9) (h7 : 0 ≤ z572 ∧ z572 ≤ 9) (h8 : 0 ≤ z579 ∧ z579 ≤ 0) : (40 * (30 + ((10 * p1) + p2))) ≤ (40 * (30 + ((10 * p1) + p2))) ∧ ((40 * (30 + ((10 * p1) + p2))) + 40) ≤ ((40 * (30 + ((10 * p1) + p2))) + 40) := by omega
theorem vc_X12_look_21 {p1 z569 z572 z579 : Int} (h0 : ¬ z579 = 0) (h1 : (z579 = 1 → z569 = p1 ∨ z572 = p1)) (h2 : (z579 = 0 → ¬ z569 = p1 ∧ ¬ z572 = p1)) (h3 : 0 ≤ p1 ∧ p1 ≤ 9) (h4 : 0 ≤ z569 ∧ z569 ≤ 9) (h5 : 0 ≤ z572 ∧ z572 ≤ 9) (h6 : 0 ≤ z579 ∧ z579 ≤ 1) : 1 ≤ z579 ∧ z579 ≤ 1 := by omega
theorem vc_X12_look_22 {p1 z569 z572 z579 : Int} (h0 : (z579 = 1 → z569 = p1 ∨ z572 = p1)) (h1 : (z579 = 0 → ¬ z569 = p1 ∧ ¬ z572 = p1)) (h2 : ¬ z579 = 0) (h3 : 0 ≤ p1 ∧ p1 ≤ 9) (h4 : 0 ≤ z569 ∧ z569 ≤ 9) (h5 : 0 ≤ z572 ∧ z572 ≤ 9) (h6 : 1 ≤ z579 ∧ z579 ≤ 1) : z579 = 1 := by omega
theorem vc_X12_look_23 {z598 : Int} (h0 : z598 = 0) (h1 : 0 ≤ z598 ∧ z598 ≤ 1) : 0 ≤ z598 ∧ z598 ≤ 0 := by omega
theorem vc_X12_look_24 {p1 p2 z569 z572 z579 : Int} (h0 : (z579 = 1 → z569 = p1 ∨ z572 = p1)) (h1 : (z579 = 0 → ¬ z569 = p1 ∧ ¬ z572 = p1)) (h2 : z569 = p1 ∨ z572 = p1) (h3 : ¬ z579 = 0) (h4 : 0 ≤ p1 ∧ p1 ≤ 9) (h5 : 0 ≤ p2 ∧ p2 ≤ 9) (h6 : 0 ≤ z569 ∧ z569 ≤ 9) (h7 : 0 ≤ z572 ∧ z572 ≤ 9) (h8 : 1 ≤ z579 ∧ z579 ≤ 1) : (40 * (30 + ((10 * p1) + p2))) ≤ (40 * (30 + ((10 * p1) + p2))) ∧ ((40 * (30 + ((10 * p1) + p2))) + 40) ≤ ((40 * (30 + ((10 * p1) + p2))) + 40) := by omega
theorem vc_X12_look_25 {z598 : Int} (h0 : ¬ z598 = 0) (h1 : 0 ≤ z598 ∧ z598 ≤ 1) : 1 ≤ z598 ∧ z598 ≤ 1 := by omega
theorem vc_X12_look_26 {z526 z537 : Int} (h0 : z526 < z537) (h1 : 0 ≤ z526 ∧ z526 ≤ 19) (h2 : 1 ≤ z537 ∧ z537 ≤ 20) : z526 < z537 := by omega
theorem vc_X12_look_27 {p1 z569 z572 z579 : Int} (h0 : (z579 = 1 → z569 = p1 ∨ z572 = p1)) (h1 : (z579 = 0 → ¬ z569 = p1 ∧ ¬ z572 = p1)) (h2 : z569 = p1 ∨ z572 = p1) (h3 : ¬ z579 = 0) (h4 : 0 ≤ p1 ∧ p1 ≤ 9) (h5 : 0 ≤ z569 ∧ z569 ≤ 9) (h6 : 0 ≤ z572 ∧ z572 ≤ 9) (h7 : 1 ≤ z579 ∧ z579 ≤ 1) : z569 = p1 ∨ z572 = p1 := by omega
theorem vc_X12_look_28  : (80 : Int) ≤ (80 : Int) ∧ (120 : Int) ≤ (960 : Int) := by omega
theorem vc_X12_look_29  : (21 - 0) < ((22 : Nat) : Int) := by omega
theorem vc_X12_look_30 {z618 : Int} (h0 : z618 = 0) (h1 : 0 ≤ z618 ∧ z618 ≤ 1) : 0 ≤ z618 ∧ z618 ≤ 0 := by omega
theorem vc_X12_look_31 {z57 z68 z73 : Int} (h0 : z57 = -99999999 ∨ 0 ≤ z68) (h1 : z57 = z73) (h2 : (-99999999) ≤ z57 ∧ z57 ≤ 19) (h3 : z57 = (-99999999) ∨ z57 = (-4) ∨ (0 ≤ z57 ∧ z57 ≤ 19)) (h4 : (-1) ≤ z68 ∧ z68 ≤ 9) (h5 : (-99999999) ≤ z73 ∧ z73 ≤ 19) (h6 : z73 = -99999999 ∨ z73 = -4 ∨ (0 ≤ z73 ∧ z73 ≤ 19)) : z57 = -99999999 ∨ z57 = -4 ∨ (0 ≤ z57 ∧ z57 ≤ 19) := by omega
theorem vc_X12_look_32 {z57 z628 z68 z73 : Int} (h0 : z57 = -99999999 ∨ 0 ≤ z68) (h1 : z57 = z73) (h2 : z628 = z68) (h3 : (-99999999) ≤ z57 ∧ z57 ≤ 19) (h4 : z57 = (-99999999) ∨ z57 = (-4) ∨ (0 ≤ z57 ∧ z57 ≤ 19)) (h5 : (-1) ≤ z628 ∧ z628 ≤ 9) (h6 : (-1) ≤ z68 ∧ z68 ≤ 9) (h7 : (-99999999) ≤ z73 ∧ z73 ≤ 19) (h8 : z73 = -99999999 ∨ z73 = -4 ∨ (0 ≤ z73 ∧ z73 ≤ 19)) : z57 = -99999999 ∨ 0 ≤ z68 := by omega
theorem vc_X12_look_33 {z1069 : Int} (h0 : (21 - z1069) < ((0 : Nat) : Int)) (h1 : 0 ≤ z1069 ∧ z1069 ≤ 20) : False := by omega
theorem vc_X12_look_34 {z1069 z1080 : Int} (h0 : z1069 < z1080) (h1 : 0 ≤ z1069 ∧ z1069 ≤ 20) (h2 : 0 ≤ z1080 ∧ z1080 ≤ 20) : 0 ≤ z1069 ∧ z1069 ≤ 19 := by omega
theorem vc_X12_look_35 {z1069 z1080 : Int} (h0 : z1069 < z1080) (h1 : 0 ≤ z1069 ∧ z1069 ≤ 19) (h2 : 0 ≤ z1080 ∧ z1080 ≤ 20) : 1 ≤ z1080 ∧ z1080 ≤ 20 := by omega
theorem vc_X12_look_36 {p1 z1112 z1115 z1122 : Int} (h0 : z1122 = 0) (h1 : (z1122 = 1 → z1112 = p1 ∨ z1115 = p1)) (h2 : (z1122 = 0 → ¬ z1112 = p1 ∧ ¬ z1115 = p1)) (h3 : 0 ≤ p1 ∧ p1 ≤ 9) (h4 : 0 ≤ z1112 ∧ z1112 ≤ 9) (h5 : 0 ≤ z1115 ∧ z1115 ≤ 9) (h6 : 0 ≤ z1122 ∧ z1122 ≤ 1) : 0 ≤ z1122 ∧ z1122 ≤ 0 := by omega
theorem vc_X12_look_37 {p1 z1112 z1115 z1122 : Int} (h0 : (z1122 = 1 → z1112 = p1 ∨ z1115 = p1)) (h1 : (z1122 = 0 → ¬ z1112 = p1 ∧ ¬ z1115 = p1)) (h2 : z1122 = 0) (h3 : 0 ≤ p1 ∧ p1 ≤ 9) (h4 : 0 ≤ z1112 ∧ z1112 ≤ 9) (h5 : 0 ≤ z1115 ∧ z1115 ≤ 9) (h6 : 0 ≤ z1122 ∧ z1122 ≤ 0) : z1122 = 0 := by omega
theorem vc_X12_look_38 {N z1069 z1080 : Int} (h0 : (21 - z1069) < N + 1) (h1 : z1069 < z1080) (h2 : 0 ≤ z1069 ∧ z1069 ≤ 19) (h3 : 1 ≤ z1080 ∧ z1080 ≤ 20) : (21 - (z1069 + 1)) < N := by omega
theorem vc_X12_look_39 {p1 p2 z1112 z1115 z1122 : Int} (h0 : (z1122 = 1 → z1112 = p1 ∨ z1115 = p1)) (h1 : (z1122 = 0 → ¬ z1112 = p1 ∧ ¬ z1115 = p1)) (h2 : ¬ z1112 = p1 ∧ ¬ z1115 = p1) (h3 : z1122 = 0) (h4 : 0 ≤ p1 ∧ p1 ≤ 9) (h5 : 0 ≤ p2 ∧ p2 ≤ 9) (h6 : 0 ≤ z1112 ∧ z1112 ≤ 9) (h7 : 0 ≤ z1115 ∧ z1115 ≤ 9) (h8 : 0 ≤ z1122 ∧ z1122 ≤ 0) : (40 * (30 + ((10 * p1) + p2))) ≤ (40 * (30 + ((10 * p1) + p2))) ∧ ((40 * (30 + ((10 * p1) + p2))) + 40) ≤ ((40 * (30 + ((10 * p1) + p2))) + 40) := by omega
theorem vc_X12_look_40 {p1 z1112 z1115 z1122 : Int} (h0 : ¬ z1122 = 0) (h1 : (z1122 = 1 → z1112 = p1 ∨ z1115 = p1)) (h2 : (z1122 = 0 → ¬ z1112 = p1 ∧ ¬ z1115 = p1)) (h3 : 0 ≤ p1 ∧ p1 ≤ 9) (h4 : 0 ≤ z1112 ∧ z1112 ≤ 9) (h5 : 0 ≤ z1115 ∧ z1115 ≤ 9) (h6 : 0 ≤ z1122 ∧ z1122 ≤ 1) : 1 ≤ z1122 ∧ z1122 ≤ 1 := by omega
theorem vc_X12_look_41 {p1 z1112 z1115 z1122 : Int} (h0 : (z1122 = 1 → z1112 = p1 ∨ z1115 = p1)) (h1 : (z1122 = 0 → ¬ z1112 = p1 ∧ ¬ z1115 = p1)) (h2 : ¬ z1122 = 0) (h3 : 0 ≤ p1 ∧ p1 ≤ 9) (h4 : 0 ≤ z1112 ∧ z1112 ≤ 9) (h5 : 0 ≤ z1115 ∧ z1115 ≤ 9) (h6 : 1 ≤ z1122 ∧ z1122 ≤ 1) : z1122 = 1 := by omega
theorem vc_X12_look_42 {z1141 : Int} (h0 : z1141 = 0) (h1 : 0 ≤ z1141 ∧ z1141 ≤ 1) : 0 ≤ z1141 ∧ z1141 ≤ 0 := by omega
theorem vc_X12_look_43 {p1 p2 z1112 z1115 z1122 : Int} (h0 : (z1122 = 1 → z1112 = p1 ∨ z1115 = p1)) (h1 : (z1122 = 0 → ¬ z1112 = p1 ∧ ¬ z1115 = p1)) (h2 : z1112 = p1 ∨ z1115 = p1) (h3 : ¬ z1122 = 0) (h4 : 0 ≤ p1 ∧ p1 ≤ 9) (h5 : 0 ≤ p2 ∧ p2 ≤ 9) (h6 : 0 ≤ z1112 ∧ z1112 ≤ 9) (h7 : 0 ≤ z1115 ∧ z1115 ≤ 9) (h8 : 1 ≤ z1122 ∧ z1122 ≤ 1) : (40 * (30 + ((10 * p1) + p2))) ≤ (40 * (30 + ((10 * p1) + p2))) ∧ ((40 * (30 + ((10 * p1) + p2))) + 40) ≤ ((40 * (30 + ((10 * p1) + p2))) + 40) := by omega
theorem vc_X12_look_44 {z1141 : Int} (h0 : ¬ z1141 = 0) (h1 : 0 ≤ z1141 ∧ z1141 ≤ 1) : 1 ≤ z1141 ∧ z1141 ≤ 1 := by omega
theorem vc_X12_look_45 {z1069 z1080 : Int} (h0 : z1069 < z1080) (h1 : 0 ≤ z1069 ∧ z1069 ≤ 19) (h2 : 1 ≤ z1080 ∧ z1080 ≤ 20) : z1069 < z1080 := by omega
theorem vc_X12_look_46 {p1 z1112 z1115 z1122 : Int} (h0 : (z1122 = 1 → z1112 = p1 ∨ z1115 = p1)) (h1 : (z1122 = 0 → ¬ z1112 = p1 ∧ ¬ z1115 = p1)) (h2 : z1112 = p1 ∨ z1115 = p1) (h3 : ¬ z1122 = 0) (h4 : 0 ≤ p1 ∧ p1 ≤ 9) (h5 : 0 ≤ z1112 ∧ z1112 ≤ 9) (h6 : 0 ≤ z1115 ∧ z1115 ≤ 9) (h7 : 1 ≤ z1122 ∧ z1122 ≤ 1) : z1112 = p1 ∨ z1115 = p1 := by omega
theorem vc_X12_look_47 {z618 : Int} (h0 : ¬ z618 = 0) (h1 : 0 ≤ z618 ∧ z618 ≤ 1) : 1 ≤ z618 ∧ z618 ≤ 1 := by omega
theorem vc_X12_look_48 {z1 : Int} (h0 : z1 < 0) (h1 : (-1) ≤ z1 ∧ z1 ≤ 2) : (-1) ≤ z1 ∧ z1 ≤ (-1) := by omega
theorem vc_X12_look_49 {z1164 : Int} (h0 : ¬ z1164 = (-99999999)) (h1 : z1164 = -99999999 ∨ (0 ≤ z1164 ∧ z1164 ≤ 19)) (h2 : (-99999999) ≤ z1164 ∧ z1164 ≤ 19) : 0 ≤ z1164 ∧ z1164 ≤ 19 := by omega
theorem vc_X12_look_50 {z1164 : Int} (h0 : z1164 = -99999999 ∨ (0 ≤ z1164 ∧ z1164 ≤ 19)) (h1 : ¬ z1164 = (-99999999)) (h2 : 0 ≤ z1164 ∧ z1164 ≤ 19) : 0 ≤ (40 * (4 + z1164)) := by omega
theorem vc_X12_look_51 {z1164 : Int} (h0 : z1164 = -99999999 ∨ (0 ≤ z1164 ∧ z1164 ≤ 19)) (h1 : ¬ z1164 = (-99999999)) (h2 : 0 ≤ z1164 ∧ z1164 ≤ 19) : (40 * (4 + z1164)) % 40 = 0 := by omega
theorem vc_X12_look_52 {z1164 : Int} (h0 : z1164 = -99999999 ∨ (0 ≤ z1164 ∧ z1164 ≤ 19)) (h1 : ¬ z1164 = (-99999999)) (h2 : 0 ≤ z1164 ∧ z1164 ≤ 19) : ¬ z1164 = -99999999 := by omega
theorem vc_X12_look_53 {z1164 : Int} (h0 : z1164 = -99999999 ∨ (0 ≤ z1164 ∧ z1164 ≤ 19)) (h1 : ¬ z1164 = (-99999999)) (h2 : 0 ≤ z1164 ∧ z1164 ≤ 19) : 160 + 40 * z1164 = (40 * (4 + z1164)) := by omega
theorem vc_X12_look_54 {z1167 : Int} (h0 : 0 ≤ z1167) (h1 : (-1) ≤ z1167 ∧ z1167 ≤ 9) : 0 ≤ z1167 ∧ z1167 ≤ 9 := by omega
theorem vc_X12_look_55 {z1164 : Int} (h0 : z1164 = -99999999 ∨ (0 ≤ z1164 ∧ z1164 ≤ 19)) (h1 : ¬ z1164 = (-99999999)) (h2 : 0 ≤ z1164 ∧ z1164 ≤ 19) : (4 + z1164) < (3 : Int) ∨ (3 : Int) < (4 + z1164) := by omega
theorem vc_X12_look_56  : (0 : Int) ≤ ((40 : Int) * (3 : Int)) := by omega
theorem vc_X12_look_57  : (((40 : Int) * (3 : Int)) : Int) % (40 : Int) = (0 : Int) := by omega
theorem vc_X12_look_58 {z1167 z1177 : Int} (h0 : z1177 = z1167) (h1 : 0 ≤ z1167) (h2 : 0 ≤ z1167 ∧ z1167 ≤ 9) (h3 : (-1) ≤ z1177 ∧ z1177 ≤ 9) : 0 ≤ z1177 ∧ z1177 ≤ 9 := by omega
theorem vc_X12_look_59  : (80 : Int) ≤ (160 : Int) ∧ (960 : Int) ≤ (960 : Int) := by omega
theorem vc_X12_look_60  : (80 : Int) ≤ ((40 : Int) * (3 : Int)) ∧ (((40 : Int) * (3 : Int)) + (40 : Int)) ≤ (960 : Int) := by omega
theorem vc_X12_look_61 {z1164 : Int} (h0 : z1164 = -99999999 ∨ (0 ≤ z1164 ∧ z1164 ≤ 19)) (h1 : ¬ z1164 = (-99999999)) (h2 : 0 ≤ z1164 ∧ z1164 ≤ 19) : z1164 = (-99999999) ∨ z1164 = (-4) ∨ (0 ≤ z1164 ∧ z1164 ≤ 19) := by omega
theorem vc_X12_look_62  : (160 : Int) ≤ (160 : Int) ∧ (960 : Int) ≤ (960 : Int) := by omega
theorem vc_X12_look_63  : ((40 : Int) * (3 : Int)) ≤ ((40 : Int) * (3 : Int)) ∧ (((40 : Int) * (3 : Int)) + (40 : Int)) ≤ (((40 : Int) * (3 : Int)) + (40 : Int)) := by omega
theorem vc_X12_look_64  : ((1 : Int) ≤ (((40 : Int) * (3 : Int)) : Int) ∧ ((((40 : Int) * (3 : Int)) + (40 : Int)) : Int) ≤ (1200 : Int)) ∨ (5200 : Int) ≤ (((40 : Int) * (3 : Int)) : Int) := by omega
theorem vc_X12_look_65  : ((1 : Int) ≤ ((160 : Int) : Int) ∧ ((960 : Int) : Int) ≤ (1200 : Int)) ∨ (5200 : Int) ≤ ((160 : Int) : Int) := by omega
theorem vc_X12_look_66  : (120 : Int) = ((40 : Int) * (3 : Int)) := by omega
theorem vc_X12_look_67 {z1164 z1167 z1177 : Int} (h0 : z1164 = -99999999 ∨ (0 ≤ z1164 ∧ z1164 ≤ 19)) (h1 : ¬ z1164 = (-99999999)) (h2 : 0 ≤ z1167) (h3 : z1177 = z1167) (h4 : 0 ≤ z1164 ∧ z1164 ≤ 19) (h5 : 0 ≤ z1167 ∧ z1167 ≤ 9) (h6 : 0 ≤ z1177 ∧ z1177 ≤ 9) : z1164 = -99999999 ∨ 0 ≤ z1167 := by omega
theorem vc_X12_look_68 {z1164 : Int} (h0 : z1164 = (-99999999)) (h1 : z1164 = -99999999 ∨ (0 ≤ z1164 ∧ z1164 ≤ 19)) (h2 : (-99999999) ≤ z1164 ∧ z1164 ≤ 19) : (-99999999) ≤ z1164 ∧ z1164 ≤ (-99999999) := by omega
theorem vc_X12_look_69 {z1189 : Int} (h0 : z1189 = -1) (h1 : (-1) ≤ z1189 ∧ z1189 ≤ 9) : (-1) ≤ z1189 ∧ z1189 ≤ (-1) := by omega
theorem vc_X12_look_70  : (80 : Int) ≤ ((40 : Int) * (3 : Int)) ∧ (((40 : Int) * (3 : Int)) + (1 : Int)) ≤ (960 : Int) := by omega
theorem vc_X12_look_71 {z1164 : Int} (h0 : z1164 = -99999999 ∨ (0 ≤ z1164 ∧ z1164 ≤ 19)) (h1 : z1164 = (-99999999)) (h2 : (-99999999) ≤ z1164 ∧ z1164 ≤ (-99999999)) : z1164 = (-99999999) ∨ z1164 = (-4) ∨ (0 ≤ z1164 ∧ z1164 ≤ 19) := by omega
theorem vc_X12_look_72  : ((40 : Int) * (3 : Int)) ≤ ((40 : Int) * (3 : Int)) ∧ (((40 : Int) * (3 : Int)) + (1 : Int)) ≤ (((40 : Int) * (3 : Int)) + (1 : Int)) := by omega
theorem vc_X12_look_73  : ((1 : Int) ≤ (((40 : Int) * (3 : Int)) : Int) ∧ ((((40 : Int) * (3 : Int)) + (1 : Int)) : Int) ≤ (1200 : Int)) ∨ (5200 : Int) ≤ (((40 : Int) * (3 : Int)) : Int) := by omega
theorem vc_X12_look_74 {z1164 : Int} (h0 : z1164 = -99999999 ∨ (0 ≤ z1164 ∧ z1164 ≤ 19)) (h1 : z1164 = (-99999999)) (h2 : (-99999999) ≤ z1164 ∧ z1164 ≤ (-99999999)) : z1164 = -99999999 ∨ 0 ≤ ((-1) : Int) := by omega
theorem vc_X12_look_75 {z1 : Int} (h0 : 0 ≤ z1) (h1 : (-1) ≤ z1 ∧ z1 ≤ 2) : 0 ≤ z1 ∧ z1 ≤ 2 := by omega
theorem vc_X12_look_76 {p2 : Int} (h0 : 0 ≤ p2 ∧ p2 ≤ 9) : (-2147483648 ≤ p2 ∧ p2 ≤ 2147483647) ∧ ((120 : Int) % 40 = 0 → -1 ≤ p2 ∧ p2 ≤ 9) ∧ ((120 : Int) % 40 = 4 → 0 ≤ p2 ∧ p2 ≤ 20) ∧ ((120 : Int) % 40 = 5 → 0 ≤ p2 ∧ p2 ≤ 8) := by omega
theorem vc_X12_look_77  : (-(2147483648 : Int) ≤ ((100 : Int) : Int) ∧ ((100 : Int) : Int) ≤ (2147483647 : Int)) ∧ ((((120 : Int) + (1 : Int)) : Int) % (40 : Int) = (0 : Int) → -(1 : Int) ≤ ((100 : Int) : Int) ∧ ((100 : Int) : Int) ≤ (9 : Int)) ∧ ((((120 : Int) + (1 : Int)) : Int) % (40 : Int) = (4 : Int) → (0 : Int) ≤ ((100 : Int) : Int) ∧ ((100 : Int) : Int) ≤ (20 : Int)) ∧ ((((120 : Int) + (1 : Int)) : Int) % (40 : Int) = (5 : Int) → (0 : Int) ≤ ((100 : Int) : Int) ∧ ((100 : Int) : Int) ≤ (8 : Int)) := by omega
theorem vc_X12_look_78 {z1 : Int} (h0 : 0 ≤ z1) (h1 : 0 ≤ z1 ∧ z1 ≤ 2) : (-2147483648 ≤ z1 ∧ z1 ≤ 2147483647) ∧ (((120 + 2) : Int) % 40 = 0 → -1 ≤ z1 ∧ z1 ≤ 9) ∧ (((120 + 2) : Int) % 40 = 4 → 0 ≤ z1 ∧ z1 ≤ 20) ∧ (((120 + 2) : Int) % 40 = 5 → 0 ≤ z1 ∧ z1 ≤ 8) := by omega
theorem vc_X12_look_79  : (-(2147483648 : Int) ≤ ((0 : Int) : Int) ∧ ((0 : Int) : Int) ≤ (2147483647 : Int)) ∧ ((((120 : Int) + (3 : Int)) : Int) % (40 : Int) = (0 : Int) → -(1 : Int) ≤ ((0 : Int) : Int) ∧ ((0 : Int) : Int) ≤ (9 : Int)) ∧ ((((120 : Int) + (3 : Int)) : Int) % (40 : Int) = (4 : Int) → (0 : Int) ≤ ((0 : Int) : Int) ∧ ((0 : Int) : Int) ≤ (20 : Int)) ∧ ((((120 : Int) + (3 : Int)) : Int) % (40 : Int) = (5 : Int) → (0 : Int) ≤ ((0 : Int) : Int) ∧ ((0 : Int) : Int) ≤ (8 : Int)) := by omega
theorem vc_X12_look_80  : (-(2147483648 : Int) ≤ ((0 : Int) : Int) ∧ ((0 : Int) : Int) ≤ (2147483647 : Int)) ∧ ((((120 : Int) + (4 : Int)) : Int) % (40 : Int) = (0 : Int) → -(1 : Int) ≤ ((0 : Int) : Int) ∧ ((0 : Int) : Int) ≤ (9 : Int)) ∧ ((((120 : Int) + (4 : Int)) : Int) % (40 : Int) = (4 : Int) → (0 : Int) ≤ ((0 : Int) : Int) ∧ ((0 : Int) : Int) ≤ (20 : Int)) ∧ ((((120 : Int) + (4 : Int)) : Int) % (40 : Int) = (5 : Int) → (0 : Int) ≤ ((0 : Int) : Int) ∧ ((0 : Int) : Int) ≤ (8 : Int)) := by omega
theorem vc_X12_look_81  : (-(2147483648 : Int) ≤ ((0 : Int) : Int) ∧ ((0 : Int) : Int) ≤ (2147483647 : Int)) ∧ ((((120 : Int) + (5 : Int)) : Int) % (40 : Int) = (0 : Int) → -(1 : Int) ≤ ((0 : Int) : Int) ∧ ((0 : Int) : Int) ≤ (9 : Int)) ∧ ((((120 : Int) + (5 : Int)) : Int) % (40 : Int) = (4 : Int) → (0 : Int) ≤ ((0 : Int) : Int) ∧ ((0 : Int) : Int) ≤ (20 : Int)) ∧ ((((120 : Int) + (5 : Int)) : Int) % (40 : Int) = (5 : Int) → (0 : Int) ≤ ((0 : Int) : Int) ∧ ((0 : Int) : Int) ≤ (8 : Int)) := by omega
theorem vc_X12_look_82  : (0 : Int) ≤ (120 : Int) ∧ (80 : Int) ≤ (120 : Int) ∧ (120 : Int) < (960 : Int) := by omega
theorem vc_X12_look_83  : (0 : Int) ≤ ((120 : Int) + (1 : Int)) ∧ (80 : Int) ≤ ((120 : Int) + (1 : Int)) ∧ ((120 : Int) + (1 : Int)) < (960 : Int) := by omega
theorem vc_X12_look_84  : (0 : Int) ≤ ((120 : Int) + (2 : Int)) ∧ (80 : Int) ≤ ((120 : Int) + (2 : Int)) ∧ ((120 : Int) + (2 : Int)) < (960 : Int) := by omega
theorem vc_X12_look_85  : (0 : Int) ≤ ((120 : Int) + (3 : Int)) ∧ (80 : Int) ≤ ((120 : Int) + (3 : Int)) ∧ ((120 : Int) + (3 : Int)) < (960 : Int) := by omega
theorem vc_X12_look_86  : (0 : Int) ≤ ((120 : Int) + (4 : Int)) ∧ (80 : Int) ≤ ((120 : Int) + (4 : Int)) ∧ ((120 : Int) + (4 : Int)) < (960 : Int) := by omega
theorem vc_X12_look_87  : (0 : Int) ≤ ((120 : Int) + (5 : Int)) ∧ (80 : Int) ≤ ((120 : Int) + (5 : Int)) ∧ ((120 : Int) + (5 : Int)) < (960 : Int) := by omega
theorem vc_X12_look_88  : (((-4) : Int) : Int) = ((-99999999) : Int) ∨ (((-4) : Int) : Int) = ((-4) : Int) ∨ ((0 : Int) ≤ (((-4) : Int) : Int) ∧ (((-4) : Int) : Int) ≤ (19 : Int)) := by omega
theorem vc_X12_look_89  : (0 : Int) ≤ (120 : Int) ∧ (120 : Int) ≤ (120 : Int) ∧ (120 : Int) < ((120 : Int) + (1 : Int)) := by omega
theorem vc_X12_look_90  : (0 : Int) ≤ ((120 : Int) + (1 : Int)) ∧ ((120 : Int) + (1 : Int)) ≤ ((120 : Int) + (1 : Int)) ∧ ((120 : Int) + (1 : Int)) < (((120 : Int) + (1 : Int)) + (1 : Int)) := by omega
theorem vc_X12_look_91  : (0 : Int) ≤ ((120 : Int) + (2 : Int)) ∧ ((120 : Int) + (2 : Int)) ≤ ((120 : Int) + (2 : Int)) ∧ ((120 : Int) + (2 : Int)) < (((120 : Int) + (2 : Int)) + (1 : Int)) := by omega
theorem vc_X12_look_92  : (0 : Int) ≤ ((120 : Int) + (3 : Int)) ∧ ((120 : Int) + (3 : Int)) ≤ ((120 : Int) + (3 : Int)) ∧ ((120 : Int) + (3 : Int)) < (((120 : Int) + (3 : Int)) + (1 : Int)) := by omega
theorem vc_X12_look_93  : (0 : Int) ≤ ((120 : Int) + (4 : Int)) ∧ ((120 : Int) + (4 : Int)) ≤ ((120 : Int) + (4 : Int)) ∧ ((120 : Int) + (4 : Int)) < (((120 : Int) + (4 : Int)) + (1 : Int)) := by omega
theorem vc_X12_look_94  : (0 : Int) ≤ ((120 : Int) + (5 : Int)) ∧ ((120 : Int) + (5 : Int)) ≤ ((120 : Int) + (5 : Int)) ∧ ((120 : Int) + (5 : Int)) < (((120 : Int) + (5 : Int)) + (1 : Int)) := by omega
theorem vc_X12_look_95  : ((1 : Int) ≤ (((120 : Int) + (5 : Int)) : Int) ∧ ((((120 : Int) + (5 : Int)) + (1 : Int)) : Int) ≤ (1200 : Int)) ∨ (5200 : Int) ≤ (((120 : Int) + (5 : Int)) : Int) := by omega
theorem vc_X12_look_96  : ((1 : Int) ≤ (((120 : Int) + (4 : Int)) : Int) ∧ ((((120 : Int) + (4 : Int)) + (1 : Int)) : Int) ≤ (1200 : Int)) ∨ (5200 : Int) ≤ (((120 : Int) + (4 : Int)) : Int) := by omega
theorem vc_X12_look_97  : ((1 : Int) ≤ (((120 : Int) + (3 : Int)) : Int) ∧ ((((120 : Int) + (3 : Int)) + (1 : Int)) : Int) ≤ (1200 : Int)) ∨ (5200 : Int) ≤ (((120 : Int) + (3 : Int)) : Int) := by omega
theorem vc_X12_look_98  : ((1 : Int) ≤ (((120 : Int) + (2 : Int)) : Int) ∧ ((((120 : Int) + (2 : Int)) + (1 : Int)) : Int) ≤ (1200 : Int)) ∨ (5200 : Int) ≤ (((120 : Int) + (2 : Int)) : Int) := by omega
theorem vc_X12_look_99  : ((1 : Int) ≤ (((120 : Int) + (1 : Int)) : Int) ∧ ((((120 : Int) + (1 : Int)) + (1 : Int)) : Int) ≤ (1200 : Int)) ∨ (5200 : Int) ≤ (((120 : Int) + (1 : Int)) : Int) := by omega
theorem vc_X12_look_100  : ((1 : Int) ≤ ((120 : Int) : Int) ∧ (((120 : Int) + (1 : Int)) : Int) ≤ (1200 : Int)) ∨ (5200 : Int) ≤ ((120 : Int) : Int) := by omega
theorem vc_X12_look_101  : (120 : Int).toNat ≠ ((120 + 1) : Int).toNat := by omega
theorem vc_X12_look_102  : (120 : Int).toNat ≠ ((120 + 2) : Int).toNat := by omega
theorem vc_X12_look_103  : (120 : Int).toNat ≠ ((120 + 3) : Int).toNat := by omega
theorem vc_X12_look_104  : (120 : Int).toNat ≠ ((120 + 4) : Int).toNat := by omega
theorem vc_X12_look_105  : (120 : Int).toNat ≠ ((120 + 5) : Int).toNat := by omega
theorem vc_X12_look_106 {p2 : Int} (h0 : 0 ≤ p2 ∧ p2 ≤ 9) : ((-4) : Int) = -99999999 ∨ 0 ≤ p2 := by omega
set_option maxRecDepth 4000 in
set_option maxHeartbeats 4000000 in
theorem c_X12_look {l : Launch} {D : va_G} {c : Nat → ClassId} {H0 : Heap} {sa : Nat × Nat × (Nat → Int32)} {w : mW} {μ : mM} (hw : mWF w) (hT : mT w μ) {p1 : Int} (hp1 : 0 ≤ p1 ∧ p1 ≤ 9) {p2 : Int} (hp2 : 0 ≤ p2 ∧ p2 ≤ 9) (hIG1 : G1 μ) (hIPK : PK μ) : sC (gG l D c H0 sa) mX12_look 15 0 0 [.ref 106, iv p1, iv p2] (mk w μ) (qV w [106026, 106027, 106028, 106029, 106030, 106031, 106072, 126999, 151999, 152999, 153999, 155999, 156999, 157999, 158999, 159999, 160999, 161999, 165999] μ (fun μ1 => mG [(80, 960), ((40 * (30 + ((10 * p1) + p2))), ((40 * (30 + ((10 * p1) + p2))) + 40)), (21200, 53200)] μ μ1 ∧ G1 μ1 ∧ True)) := by
  refine sC.of rfl (by decide) (le_t rfl) ?_
  refine mr_lvE (lv' := [(0, .ref 106), (1, iv p1), (2, iv p2)]) rfl ?_
  refine mr_bipush (pc := 0) (z := 10) dX12_look_0 (by decide) ?_
  refine mr_iload_n (pc := 2) (z := p1) dX12_look_2 rfl rfl ?_
  refine mr_imul (pc := 3) (x := 10) (y := p1) dX12_look_3 ?_
  refine mr_iload_n (pc := 4) (z := p2) dX12_look_4 rfl rfl ?_
  refine mr_iadd (pc := 5) (x := (10 * p1)) (y := p2) dX12_look_5 ?_
  refine mr_istore_n (pc := 6) (lv' := [(3, iv ((10 * p1) + p2)), (0, .ref 106), (1, iv p1), (2, iv p2)]) dX12_look_6 rfl (by decide) rfl ?_
  refine sv_aload_n (pc := 7) dX12_look_7 rfl rfl ?_
  refine gf_X12_82 (pc := 8) dX12_look_8 wF_X12_448 (A_106 hw) hT ?_
  refine mr_iload_n (pc := 11) (z := ((10 * p1) + p2)) dX12_look_11 rfl rfl ?_
  refine la_162 (pc := 12) dX12_look_12 (A_162 hw) hT (rIx (n := 100) (rAdd (e := 0) (f := 99) (rMulL (n := 10) (e := 0) (f := 90) hp1 rfl) hp2 rfl) rfl) fun z1 q2 h3 => ?_
  have J67 : ∀ (z57 : Int) (μ60 : mM), (mT w μ60) → (mF [106026, 106027, 106028, 106029, 106030, 106031, 126999, 151999, 152999, 153999, 165999] w μ μ60) → (mG [(80, 960), ((40 * (30 + ((10 * p1) + p2))), ((40 * (30 + ((10 * p1) + p2))) + 40)), (21200, 53200)] μ μ60) → (((-99999999) ≤ z57 ∧ z57 ≤ 19)) → ((z57 = (-99999999) ∨ z57 = (-4) ∨ (0 ≤ z57 ∧ z57 ≤ 19))) → (G1 μ60) → (PK μ60) → ((z57 = -99999999 ∨ 0 ≤ μ60 126 ((120 : Int).toNat))) → sV (gG l D c H0 sa) mX12_look (sRm 15 0 0) (sZ (gG l D c H0 sa) 0 0 (qV w [106026, 106027, 106028, 106029, 106030, 106031, 106072, 126999, 151999, 152999, 153999, 155999, 156999, 157999, 158999, 159999, 160999, 161999, 165999] μ (fun μ1 => mG [(80, 960), ((40 * (30 + ((10 * p1) + p2))), ((40 * (30 + ((10 * p1) + p2))) + 40)), (21200, 53200)] μ μ1 ∧ G1 μ1 ∧ True))) 123 [(0, .ref 106), (1, iv p1), (2, iv p2), (3, iv ((10 * p1) + p2)), (4, iv z57)] [] (mk w μ60) 0 0 := by
    intro z57 μ60 T61 F62 G63 h58 h59 I64 I65 h66
    obtain ⟨z68, q69⟩ : ∃ z, μ60 126 ((120 : Int).toNat) = z := ⟨_, rfl⟩
    have h70 := rt7 T61 (A_126 hw) vc_X12_look_1 q69
    have h71 : (-1) ≤ z68 ∧ z68 ≤ 9 := h70.2.1 vc_X12_look_2
    have h72 : z57 = -99999999 ∨ 0 ≤ z68 := q69 ▸ h66
    refine mr_iload (pc := 123) (z := z57) dX12_look_123 rfl ?_
    refine sv_aload_n (pc := 125) dX12_look_125 rfl rfl ?_
    refine gf_X12_81 (pc := 126) dX12_look_126 wF_X12_445 (A_106 hw) T61 ?_
    refine mr_iload_n (pc := 129) (z := ((10 * p1) + p2)) dX12_look_129 rfl rfl ?_
    refine la_161 (pc := 130) dX12_look_130 (A_161 hw) T61 (rIx (n := 100) (rAdd (e := 0) (f := 99) (rMulL (n := 10) (e := 0) (f := 90) hp1 rfl) hp2 rfl) rfl) fun z73 q74 h75 => ?_
    have h76 : (-99999999) ≤ z73 ∧ z73 ≤ 19 := (vc_X12_look_3 h75)
    refine mr_icmp_ne (pc := 131) (tgt := 147) dX12_look_131 (by decide) (r32 h58 rfl) (r32 h76 rfl) (fun h77 => ?_) (fun h77 => ?_)
    · refine sv_aload_n (pc := 147) dX12_look_147 rfl rfl ?_
      refine gf_X12_81 (pc := 148) dX12_look_148 wF_X12_445 (A_106 hw) T61 ?_
      refine mr_iload_n (pc := 151) (z := ((10 * p1) + p2)) dX12_look_151 rfl rfl ?_
      refine mr_iload (pc := 152) (z := z57) dX12_look_152 rfl ?_
      refine ss_161 (pc := 154) dX12_look_154 (A_161 hw) T61 (rIx (n := 100) (rAdd (e := 0) (f := 99) (rMulL (n := 10) (e := 0) (f := 90) hp1 rfl) hp2 rfl) rfl) (vc_X12_look_4 h72 h77 h58 h59 h71 h76 h75) fun μ78 u79 T80 => ?_
      refine sv_aload_n (pc := 155) dX12_look_155 rfl rfl ?_
      refine mr_iconst (pc := 156) (z := 3) dX12_look_156 ?_
      refine mr_bipush (pc := 157) (z := 30) dX12_look_157 (by decide) ?_
      refine mr_iload_n (pc := 159) (z := ((10 * p1) + p2)) dX12_look_159 rfl rfl ?_
      refine mr_iadd (pc := 160) (x := 30) (y := ((10 * p1) + p2)) dX12_look_160 ?_
      refine mr_cVV (pc := 161) (c_X12_copy hw T80 (rW (c := 0) (d := 2099) (rR (x := 3)) rfl) (rW (c := 0) (d := 2099) (rAdd (e := 30) (f := 129) (rR (x := 30)) (rAdd (e := 0) (f := 99) (rMulL (n := 10) (e := 0) (f := 90) hp1 rfl) hp2 rfl) rfl) rfl) (eqIx vc_X12_look_5 (u79.f (Or.inl (mAt.ne (A_161 hw) (A_126 hw) rfl)) q69)) (vc_X12_look_6 hp1 hp2)) (gOk _ _ _ _ _) dX12_look_161 (tX12_copy _ _ _ _ _) ⟨wV_X12_copy, wL_X12_copy⟩ wM_X12_559 (gCX12 _ _ _ _ _) rfl (A_106 hw) rfl ⟨le_t rfl, le_t rfl⟩ ⟨le_t rfl, le_t rfl⟩ rfl (le_t rfl) fun μ81 T82 F83 h84 => ?_
      obtain ⟨z85, q86, h87⟩ := h84
      have h88 := rt7 T82 (A_126 hw) (vc_X12_look_7 hp1 hp2) q86
      have h89 : (-1) ≤ z85 ∧ z85 ≤ 9 := h88.2.1 (vc_X12_look_8 hp1 hp2)
      have q90 : μ81 126 ((40 * (30 + ((10 * p1) + p2))).toNat) = z68 := q86.trans h87.2.1
      have I91 : G1 μ81 := G1.look I64 hw (rAdd (e := 0) (f := 99) (rMulL (n := 10) (e := 0) (f := 90) hp1 rfl) hp2 rfl) u79 F83 (vc_X12_look_10 hp1 hp2) h87.1 q90 (vc_X12_look_9 h72 h77 h87.2.1 h58 h59 h71 h76 h75 h89)
      refine mr_iconst (pc := 164) (z := 0) dX12_look_164 ?_
      refine mr_istore (pc := 165) (lv' := [(5, iv 0), (0, .ref 106), (1, iv p1), (2, iv p2), (3, iv ((10 * p1) + p2)), (4, iv z57)]) dX12_look_165 (by decide) rfl ?_
      have L528 : ∀ (nL528 : Nat) (z526 : Int) (μ527 : mM), mT w μ527 → mF [106026, 106027, 106028, 106029, 106030, 106031, 106072, 126999, 151999, 152999, 153999, 155999, 156999, 157999, 158999, 159999, 160999] w μ81 μ527 → mG [(80, 960), ((40 * (30 + ((10 * p1) + p2))), ((40 * (30 + ((10 * p1) + p2))) + 40)), (21200, 53200)] μ81 μ527 → (0 ≤ z526 ∧ z526 ≤ 20) → G1 μ527 → PK μ527 → (21 - z526) < (nL528 : Int) → sV (gG l D c H0 sa) mX12_look (sRm 15 0 0) (sZ (gG l D c H0 sa) 0 0 (qV w [106026, 106027, 106028, 106029, 106030, 106031, 106072, 126999, 151999, 152999, 153999, 155999, 156999, 157999, 158999, 159999, 160999, 161999, 165999] μ (fun μ1 => mG [(80, 960), ((40 * (30 + ((10 * p1) + p2))), ((40 * (30 + ((10 * p1) + p2))) + 40)), (21200, 53200)] μ μ1 ∧ G1 μ1 ∧ True))) 167 [(0, .ref 106), (1, iv p1), (2, iv p2), (5, iv z526)] [] (mk w μ527) 0 0 := by
        intro nL528
        induction nL528 with
        | zero => intro z526 μ527 T530 F531 G532 h529 I533 I534 h535; exact ((vc_X12_look_11 h535 h529)).elim
        | succ nL528 ih536 =>
          intro z526 μ527 T530 F531 G532 h529 I533 I534 h535
          refine mr_iload (pc := 167) (z := z526) dX12_look_167 rfl ?_
          refine sv_aload_n (pc := 169) dX12_look_169 rfl rfl ?_
          refine gf_X12_6 (pc := 170) dX12_look_170 wF_X12_37 (A_106 hw) T530 fun z537 q538 h539 => ?_
          refine mr_icmp_ge (pc := 173) (tgt := 210) dX12_look_173 (by decide) (r32 h529 rfl) (r32 h539 rfl) (fun h566 => ?_) (fun h566 => ?_)
          · exact mr_vret dX12_look_210 rfl (le_t rfl) (le_t rfl) T530 (mF.call (mF.call (mF.up (mF.call mF.refl F62 rfl) (A_161 hw) u79 rfl) F83 rfl) F531 rfl) ⟨(mG.call (mG.call (mG.upO (mG.call mG.refl G63 (List.forall_mem_cons.mpr ⟨⟨_, List.mem_cons_self, vc_X12_look_12⟩, (List.forall_mem_cons.mpr ⟨⟨_, (List.mem_cons_of_mem _ List.mem_cons_self), (vc_X12_look_13 hp1 hp2)⟩, (List.forall_mem_cons.mpr ⟨⟨_, (List.mem_cons_of_mem _ (List.mem_cons_of_mem _ List.mem_cons_self)), vc_X12_look_14⟩, (fun _ h => absurd h List.not_mem_nil)⟩)⟩)⟩)) u79 rfl) h87.1 (List.forall_mem_cons.mpr ⟨⟨_, (List.mem_cons_of_mem _ List.mem_cons_self), (vc_X12_look_13 hp1 hp2)⟩, (fun _ h => absurd h List.not_mem_nil)⟩)) G532 (List.forall_mem_cons.mpr ⟨⟨_, List.mem_cons_self, vc_X12_look_12⟩, (List.forall_mem_cons.mpr ⟨⟨_, (List.mem_cons_of_mem _ List.mem_cons_self), (vc_X12_look_13 hp1 hp2)⟩, (List.forall_mem_cons.mpr ⟨⟨_, (List.mem_cons_of_mem _ (List.mem_cons_of_mem _ List.mem_cons_self)), vc_X12_look_14⟩, (fun _ h => absurd h List.not_mem_nil)⟩)⟩)⟩)), I533, trivial⟩
          have h567 : 0 ≤ z526 ∧ z526 ≤ 19 := (vc_X12_look_15 h566 h529 h539)
          have h568 : 1 ≤ z537 ∧ z537 ≤ 20 := (vc_X12_look_16 h566 h567 h539)
          refine sv_aload_n (pc := 176) dX12_look_176 rfl rfl ?_
          refine mr_iload (pc := 177) (z := z526) dX12_look_177 rfl ?_
          refine mr_iload_n (pc := 179) (z := p1) dX12_look_179 rfl rfl ?_
          obtain ⟨z569, q570⟩ : ∃ z, μ527 110 ((2 * z526).toNat) = z := ⟨_, rfl⟩
          have h571 : (0 ≤ z569 ∧ z569 ≤ 9) := by rw [← q570]; exact T530 110 110 (A_110 hw) ((2 * z526).toNat)
          obtain ⟨z572, q573⟩ : ∃ z, μ527 110 (((2 * z526) + 1).toNat) = z := ⟨_, rfl⟩
          have h574 : (0 ≤ z572 ∧ z572 ≤ 9) := by rw [← q573]; exact T530 110 110 (A_110 hw) (((2 * z526) + 1).toNat)
          refine mr_cVP (pc := 180) (c_X12_isAt hw T530 h567 (rW (c := (-2147483648)) (d := 2147483647) hp1 rfl) q570 q573) (gOk _ _ _ _ _) dX12_look_180 (tX12_isAt _ _ _ _ _) ⟨wV_X12_isAt, wL_X12_isAt⟩ wM_X12_562 (gCX12 _ _ _ _ _) rfl (A_106 hw) rfl ⟨le_t rfl, le_t rfl⟩ ⟨le_t rfl, le_t rfl⟩ rfl (le_t rfl) fun z579 h578 => ?_
          refine mr_if_eq (pc := 183) (tgt := 204) dX12_look_183 (by decide) (r32 h578.1 rfl) (fun h593 => ?_) (fun h593 => ?_)
          · have h594 : 0 ≤ z579 ∧ z579 ≤ 0 := (vc_X12_look_17 h593 h578.2.1 h578.2.2.1 hp1 h571 h574 h578.1)
            have h595 : ¬ z569 = p1 ∧ ¬ z572 = p1 := (h578.2.2.1 (vc_X12_look_18 h578.2.1 h578.2.2.1 h593 hp1 h571 h574 h594))
            refine mr_iinc (pc := 204) (lv' := [(5, iv (z526 + 1)), (0, .ref 106), (1, iv p1), (2, iv p2)]) dX12_look_204 rfl (by decide) rfl ?_
            refine sv_goto (pc := 207) (tgt := 167) dX12_look_207 (by decide) ?_
            refine mr_lvS (lv' := [(0, .ref 106), (1, iv p1), (2, iv p2), (5, iv (z526 + 1))]) (List.forall_mem_cons.mpr ⟨rfl, List.forall_mem_cons.mpr ⟨rfl, List.forall_mem_cons.mpr ⟨rfl, List.forall_mem_cons.mpr ⟨rfl, fun _ h => absurd h List.not_mem_nil⟩⟩⟩⟩) ?_
            exact ih536 (z526 + 1) μ527 T530 (mF.call mF.refl F531 rfl) (mG.call mG.refl G532 (List.forall_mem_cons.mpr ⟨⟨_, List.mem_cons_self, vc_X12_look_12⟩, (List.forall_mem_cons.mpr ⟨⟨_, (List.mem_cons_of_mem _ List.mem_cons_self), (vc_X12_look_20 h578.2.1 h578.2.2.1 h595 h593 hp1 hp2 h571 h574 h594)⟩, (List.forall_mem_cons.mpr ⟨⟨_, (List.mem_cons_of_mem _ (List.mem_cons_of_mem _ List.mem_cons_self)), vc_X12_look_14⟩, (fun _ h => absurd h List.not_mem_nil)⟩)⟩)⟩)) (rW (c := 0) (d := 20) (rAdd (e := 1) (f := 20) h567 (rR (x := 1)) rfl) rfl) I533 I534 (vc_X12_look_19 (nS h535) h566 h567 h568)
          have h596 : 1 ≤ z579 ∧ z579 ≤ 1 := (vc_X12_look_21 h593 h578.2.1 h578.2.2.1 hp1 h571 h574 h578.1)
          have h597 : z569 = p1 ∨ z572 = p1 := (h578.2.1 (vc_X12_look_22 h578.2.1 h578.2.2.1 h593 hp1 h571 h574 h596))
          refine sv_aload_n (pc := 186) dX12_look_186 rfl rfl ?_
          refine gf_X12_9 (pc := 187) dX12_look_187 wF_X12_53 (A_106 hw) T530 ?_
          refine mr_iload (pc := 190) (z := z526) dX12_look_190 rfl ?_
          refine la_112 (pc := 192) dX12_look_192 (A_112 hw) T530 (rIx (n := 20) h567 rfl) fun z598 q599 h600 => ?_
          refine mr_if_eq (pc := 193) (tgt := 204) dX12_look_193 (by decide) (r32 h600 rfl) (fun h607 => ?_) (fun h607 => ?_)
          · have h608 : 0 ≤ z598 ∧ z598 ≤ 0 := (vc_X12_look_23 h607 h600)
            refine mr_iinc (pc := 204) (lv' := [(5, iv (z526 + 1)), (0, .ref 106), (1, iv p1), (2, iv p2)]) dX12_look_204 rfl (by decide) rfl ?_
            refine sv_goto (pc := 207) (tgt := 167) dX12_look_207 (by decide) ?_
            refine mr_lvS (lv' := [(0, .ref 106), (1, iv p1), (2, iv p2), (5, iv (z526 + 1))]) (List.forall_mem_cons.mpr ⟨rfl, List.forall_mem_cons.mpr ⟨rfl, List.forall_mem_cons.mpr ⟨rfl, List.forall_mem_cons.mpr ⟨rfl, fun _ h => absurd h List.not_mem_nil⟩⟩⟩⟩) ?_
            exact ih536 (z526 + 1) μ527 T530 (mF.call mF.refl F531 rfl) (mG.call mG.refl G532 (List.forall_mem_cons.mpr ⟨⟨_, List.mem_cons_self, vc_X12_look_12⟩, (List.forall_mem_cons.mpr ⟨⟨_, (List.mem_cons_of_mem _ List.mem_cons_self), (vc_X12_look_24 h578.2.1 h578.2.2.1 h597 h593 hp1 hp2 h571 h574 h596)⟩, (List.forall_mem_cons.mpr ⟨⟨_, (List.mem_cons_of_mem _ (List.mem_cons_of_mem _ List.mem_cons_self)), vc_X12_look_14⟩, (fun _ h => absurd h List.not_mem_nil)⟩)⟩)⟩)) (rW (c := 0) (d := 20) (rAdd (e := 1) (f := 20) h567 (rR (x := 1)) rfl) rfl) I533 I534 (vc_X12_look_19 (nS h535) h566 h567 h568)
          have h609 : 1 ≤ z598 ∧ z598 ≤ 1 := (vc_X12_look_25 h607 h600)
          refine sv_aload_n (pc := 196) dX12_look_196 rfl rfl ?_
          refine mr_iload_n (pc := 197) (z := p1) dX12_look_197 rfl rfl ?_
          refine mr_iload (pc := 198) (z := z526) dX12_look_198 rfl ?_
          refine mr_iload_n (pc := 200) (z := p2) dX12_look_200 rfl rfl ?_
          refine mr_cVV (pc := 201) (c_X12_say hw T530 hp1 h567 hp2 q570 q573 q538 (vc_X12_look_26 h566 h567 h568) (vc_X12_look_27 h578.2.1 h578.2.2.1 h597 h593 hp1 h571 h574 h596) I533 I534) (gOk _ _ _ _ _) dX12_look_201 (tX12_say _ _ _ _ _) ⟨wV_X12_say, wL_X12_say⟩ wM_X12_587 (gCX12 _ _ _ _ _) rfl (A_106 hw) rfl ⟨le_t rfl, le_t rfl⟩ ⟨le_t rfl, le_t rfl⟩ rfl (le_t rfl) fun μ610 T611 F612 h613 => ?_
          refine mr_iinc (pc := 204) (lv' := [(5, iv (z526 + 1)), (0, .ref 106), (1, iv p1), (2, iv p2)]) dX12_look_204 rfl (by decide) rfl ?_
          refine sv_goto (pc := 207) (tgt := 167) dX12_look_207 (by decide) ?_
          refine mr_lvS (lv' := [(0, .ref 106), (1, iv p1), (2, iv p2), (5, iv (z526 + 1))]) (List.forall_mem_cons.mpr ⟨rfl, List.forall_mem_cons.mpr ⟨rfl, List.forall_mem_cons.mpr ⟨rfl, List.forall_mem_cons.mpr ⟨rfl, fun _ h => absurd h List.not_mem_nil⟩⟩⟩⟩) ?_
          exact ih536 (z526 + 1) μ610 T611 (mF.call (mF.call mF.refl F531 rfl) F612 rfl) (mG.call (mG.call mG.refl G532 (List.forall_mem_cons.mpr ⟨⟨_, List.mem_cons_self, vc_X12_look_12⟩, (List.forall_mem_cons.mpr ⟨⟨_, (List.mem_cons_of_mem _ List.mem_cons_self), (vc_X12_look_24 h578.2.1 h578.2.2.1 h597 h593 hp1 hp2 h571 h574 h596)⟩, (List.forall_mem_cons.mpr ⟨⟨_, (List.mem_cons_of_mem _ (List.mem_cons_of_mem _ List.mem_cons_self)), vc_X12_look_14⟩, (fun _ h => absurd h List.not_mem_nil)⟩)⟩)⟩)) h613.1 (List.forall_mem_cons.mpr ⟨⟨_, List.mem_cons_self, vc_X12_look_28⟩, (List.forall_mem_cons.mpr ⟨⟨_, (List.mem_cons_of_mem _ (List.mem_cons_of_mem _ List.mem_cons_self)), vc_X12_look_14⟩, (fun _ h => absurd h List.not_mem_nil)⟩)⟩)) (rW (c := 0) (d := 20) (rAdd (e := 1) (f := 20) h567 (rR (x := 1)) rfl) rfl) h613.2.1 (PK.keep I534 hw ((mF.call mF.refl F612 rfl) : mF [106026, 106027, 106028, 106029, 106030, 106031, 106072, 126999, 151999, 152999, 153999, 155999, 156999, 157999, 158999, 159999, 160999] w μ527 μ610) rfl) (vc_X12_look_19 (nS h535) h566 h567 h568)
      refine mr_lvS (lv' := [(0, .ref 106), (1, iv p1), (2, iv p2), (5, iv 0)]) (List.forall_mem_cons.mpr ⟨rfl, List.forall_mem_cons.mpr ⟨rfl, List.forall_mem_cons.mpr ⟨rfl, List.forall_mem_cons.mpr ⟨rfl, fun _ h => absurd h List.not_mem_nil⟩⟩⟩⟩) ?_
      exact L528 22 0 μ81 T82 mF.refl mG.refl (rW (c := 0) (d := 20) (rR (x := 0)) rfl) I91 (PK.keep I65 hw ((mF.call (mF.up mF.refl (A_161 hw) u79 rfl) F83 rfl) : mF [126999, 161999] w μ60 μ81) rfl) vc_X12_look_29
    refine sv_aload_n (pc := 134) dX12_look_134 rfl rfl ?_
    refine mr_iconst (pc := 135) (z := 3) dX12_look_135 ?_
    refine mr_bipush (pc := 136) (z := 30) dX12_look_136 (by decide) ?_
    refine mr_iload_n (pc := 138) (z := ((10 * p1) + p2)) dX12_look_138 rfl rfl ?_
    refine mr_iadd (pc := 139) (x := 30) (y := ((10 * p1) + p2)) dX12_look_139 ?_
    refine mr_cVP (pc := 140) (c_X12_same hw T61 (rW (c := 0) (d := 2099) (rR (x := 3)) rfl) (rW (c := 0) (d := 2099) (rAdd (e := 30) (f := 129) (rR (x := 30)) (rAdd (e := 0) (f := 99) (rMulL (n := 10) (e := 0) (f := 90) hp1 rfl) hp2 rfl) rfl) rfl)) (gOk _ _ _ _ _) dX12_look_140 (tX12_same _ _ _ _ _) ⟨wV_X12_same, wL_X12_same⟩ wM_X12_584 (gCX12 _ _ _ _ _) rfl (A_106 hw) rfl ⟨le_t rfl, le_t rfl⟩ ⟨le_t rfl, le_t rfl⟩ rfl (le_t rfl) fun z618 h617 => ?_
    refine mr_if_eq (pc := 143) (tgt := 147) dX12_look_143 (by decide) (r32 h617.1 rfl) (fun h619 => ?_) (fun h619 => ?_)
    · have h620 : 0 ≤ z618 ∧ z618 ≤ 0 := (vc_X12_look_30 h619 h617.1)
      refine sv_aload_n (pc := 147) dX12_look_147 rfl rfl ?_
      refine gf_X12_81 (pc := 148) dX12_look_148 wF_X12_445 (A_106 hw) T61 ?_
      refine mr_iload_n (pc := 151) (z := ((10 * p1) + p2)) dX12_look_151 rfl rfl ?_
      refine mr_iload (pc := 152) (z := z57) dX12_look_152 rfl ?_
      refine ss_161 (pc := 154) dX12_look_154 (A_161 hw) T61 (rIx (n := 100) (rAdd (e := 0) (f := 99) (rMulL (n := 10) (e := 0) (f := 90) hp1 rfl) hp2 rfl) rfl) (vc_X12_look_31 h72 h77 h58 h59 h71 h76 h75) fun μ621 u622 T623 => ?_
      refine sv_aload_n (pc := 155) dX12_look_155 rfl rfl ?_
      refine mr_iconst (pc := 156) (z := 3) dX12_look_156 ?_
      refine mr_bipush (pc := 157) (z := 30) dX12_look_157 (by decide) ?_
      refine mr_iload_n (pc := 159) (z := ((10 * p1) + p2)) dX12_look_159 rfl rfl ?_
      refine mr_iadd (pc := 160) (x := 30) (y := ((10 * p1) + p2)) dX12_look_160 ?_
      refine mr_cVV (pc := 161) (c_X12_copy hw T623 (rW (c := 0) (d := 2099) (rR (x := 3)) rfl) (rW (c := 0) (d := 2099) (rAdd (e := 30) (f := 129) (rR (x := 30)) (rAdd (e := 0) (f := 99) (rMulL (n := 10) (e := 0) (f := 90) hp1 rfl) hp2 rfl) rfl) rfl) (eqIx vc_X12_look_5 (u622.f (Or.inl (mAt.ne (A_161 hw) (A_126 hw) rfl)) q69)) (vc_X12_look_6 hp1 hp2)) (gOk _ _ _ _ _) dX12_look_161 (tX12_copy _ _ _ _ _) ⟨wV_X12_copy, wL_X12_copy⟩ wM_X12_559 (gCX12 _ _ _ _ _) rfl (A_106 hw) rfl ⟨le_t rfl, le_t rfl⟩ ⟨le_t rfl, le_t rfl⟩ rfl (le_t rfl) fun μ624 T625 F626 h627 => ?_
      obtain ⟨z628, q629, h630⟩ := h627
      have h631 := rt7 T625 (A_126 hw) (vc_X12_look_7 hp1 hp2) q629
      have h632 : (-1) ≤ z628 ∧ z628 ≤ 9 := h631.2.1 (vc_X12_look_8 hp1 hp2)
      have q633 : μ624 126 ((40 * (30 + ((10 * p1) + p2))).toNat) = z68 := q629.trans h630.2.1
      have I634 : G1 μ624 := G1.look I64 hw (rAdd (e := 0) (f := 99) (rMulL (n := 10) (e := 0) (f := 90) hp1 rfl) hp2 rfl) u622 F626 (vc_X12_look_10 hp1 hp2) h630.1 q633 (vc_X12_look_32 h72 h77 h630.2.1 h58 h59 h632 h71 h76 h75)
      refine mr_iconst (pc := 164) (z := 0) dX12_look_164 ?_
      refine mr_istore (pc := 165) (lv' := [(5, iv 0), (0, .ref 106), (1, iv p1), (2, iv p2), (3, iv ((10 * p1) + p2)), (4, iv z57)]) dX12_look_165 (by decide) rfl ?_
      have L1071 : ∀ (nL1071 : Nat) (z1069 : Int) (μ1070 : mM), mT w μ1070 → mF [106026, 106027, 106028, 106029, 106030, 106031, 106072, 126999, 151999, 152999, 153999, 155999, 156999, 157999, 158999, 159999, 160999] w μ624 μ1070 → mG [(80, 960), ((40 * (30 + ((10 * p1) + p2))), ((40 * (30 + ((10 * p1) + p2))) + 40)), (21200, 53200)] μ624 μ1070 → (0 ≤ z1069 ∧ z1069 ≤ 20) → G1 μ1070 → PK μ1070 → (21 - z1069) < (nL1071 : Int) → sV (gG l D c H0 sa) mX12_look (sRm 15 0 0) (sZ (gG l D c H0 sa) 0 0 (qV w [106026, 106027, 106028, 106029, 106030, 106031, 106072, 126999, 151999, 152999, 153999, 155999, 156999, 157999, 158999, 159999, 160999, 161999, 165999] μ (fun μ1 => mG [(80, 960), ((40 * (30 + ((10 * p1) + p2))), ((40 * (30 + ((10 * p1) + p2))) + 40)), (21200, 53200)] μ μ1 ∧ G1 μ1 ∧ True))) 167 [(0, .ref 106), (1, iv p1), (2, iv p2), (5, iv z1069)] [] (mk w μ1070) 0 0 := by
        intro nL1071
        induction nL1071 with
        | zero => intro z1069 μ1070 T1073 F1074 G1075 h1072 I1076 I1077 h1078; exact ((vc_X12_look_33 h1078 h1072)).elim
        | succ nL1071 ih1079 =>
          intro z1069 μ1070 T1073 F1074 G1075 h1072 I1076 I1077 h1078
          refine mr_iload (pc := 167) (z := z1069) dX12_look_167 rfl ?_
          refine sv_aload_n (pc := 169) dX12_look_169 rfl rfl ?_
          refine gf_X12_6 (pc := 170) dX12_look_170 wF_X12_37 (A_106 hw) T1073 fun z1080 q1081 h1082 => ?_
          refine mr_icmp_ge (pc := 173) (tgt := 210) dX12_look_173 (by decide) (r32 h1072 rfl) (r32 h1082 rfl) (fun h1109 => ?_) (fun h1109 => ?_)
          · exact mr_vret dX12_look_210 rfl (le_t rfl) (le_t rfl) T1073 (mF.call (mF.call (mF.up (mF.call mF.refl F62 rfl) (A_161 hw) u622 rfl) F626 rfl) F1074 rfl) ⟨(mG.call (mG.call (mG.upO (mG.call mG.refl G63 (List.forall_mem_cons.mpr ⟨⟨_, List.mem_cons_self, vc_X12_look_12⟩, (List.forall_mem_cons.mpr ⟨⟨_, (List.mem_cons_of_mem _ List.mem_cons_self), (vc_X12_look_13 hp1 hp2)⟩, (List.forall_mem_cons.mpr ⟨⟨_, (List.mem_cons_of_mem _ (List.mem_cons_of_mem _ List.mem_cons_self)), vc_X12_look_14⟩, (fun _ h => absurd h List.not_mem_nil)⟩)⟩)⟩)) u622 rfl) h630.1 (List.forall_mem_cons.mpr ⟨⟨_, (List.mem_cons_of_mem _ List.mem_cons_self), (vc_X12_look_13 hp1 hp2)⟩, (fun _ h => absurd h List.not_mem_nil)⟩)) G1075 (List.forall_mem_cons.mpr ⟨⟨_, List.mem_cons_self, vc_X12_look_12⟩, (List.forall_mem_cons.mpr ⟨⟨_, (List.mem_cons_of_mem _ List.mem_cons_self), (vc_X12_look_13 hp1 hp2)⟩, (List.forall_mem_cons.mpr ⟨⟨_, (List.mem_cons_of_mem _ (List.mem_cons_of_mem _ List.mem_cons_self)), vc_X12_look_14⟩, (fun _ h => absurd h List.not_mem_nil)⟩)⟩)⟩)), I1076, trivial⟩
          have h1110 : 0 ≤ z1069 ∧ z1069 ≤ 19 := (vc_X12_look_34 h1109 h1072 h1082)
          have h1111 : 1 ≤ z1080 ∧ z1080 ≤ 20 := (vc_X12_look_35 h1109 h1110 h1082)
          refine sv_aload_n (pc := 176) dX12_look_176 rfl rfl ?_
          refine mr_iload (pc := 177) (z := z1069) dX12_look_177 rfl ?_
          refine mr_iload_n (pc := 179) (z := p1) dX12_look_179 rfl rfl ?_
          obtain ⟨z1112, q1113⟩ : ∃ z, μ1070 110 ((2 * z1069).toNat) = z := ⟨_, rfl⟩
          have h1114 : (0 ≤ z1112 ∧ z1112 ≤ 9) := by rw [← q1113]; exact T1073 110 110 (A_110 hw) ((2 * z1069).toNat)
          obtain ⟨z1115, q1116⟩ : ∃ z, μ1070 110 (((2 * z1069) + 1).toNat) = z := ⟨_, rfl⟩
          have h1117 : (0 ≤ z1115 ∧ z1115 ≤ 9) := by rw [← q1116]; exact T1073 110 110 (A_110 hw) (((2 * z1069) + 1).toNat)
          refine mr_cVP (pc := 180) (c_X12_isAt hw T1073 h1110 (rW (c := (-2147483648)) (d := 2147483647) hp1 rfl) q1113 q1116) (gOk _ _ _ _ _) dX12_look_180 (tX12_isAt _ _ _ _ _) ⟨wV_X12_isAt, wL_X12_isAt⟩ wM_X12_562 (gCX12 _ _ _ _ _) rfl (A_106 hw) rfl ⟨le_t rfl, le_t rfl⟩ ⟨le_t rfl, le_t rfl⟩ rfl (le_t rfl) fun z1122 h1121 => ?_
          refine mr_if_eq (pc := 183) (tgt := 204) dX12_look_183 (by decide) (r32 h1121.1 rfl) (fun h1136 => ?_) (fun h1136 => ?_)
          · have h1137 : 0 ≤ z1122 ∧ z1122 ≤ 0 := (vc_X12_look_36 h1136 h1121.2.1 h1121.2.2.1 hp1 h1114 h1117 h1121.1)
            have h1138 : ¬ z1112 = p1 ∧ ¬ z1115 = p1 := (h1121.2.2.1 (vc_X12_look_37 h1121.2.1 h1121.2.2.1 h1136 hp1 h1114 h1117 h1137))
            refine mr_iinc (pc := 204) (lv' := [(5, iv (z1069 + 1)), (0, .ref 106), (1, iv p1), (2, iv p2)]) dX12_look_204 rfl (by decide) rfl ?_
            refine sv_goto (pc := 207) (tgt := 167) dX12_look_207 (by decide) ?_
            refine mr_lvS (lv' := [(0, .ref 106), (1, iv p1), (2, iv p2), (5, iv (z1069 + 1))]) (List.forall_mem_cons.mpr ⟨rfl, List.forall_mem_cons.mpr ⟨rfl, List.forall_mem_cons.mpr ⟨rfl, List.forall_mem_cons.mpr ⟨rfl, fun _ h => absurd h List.not_mem_nil⟩⟩⟩⟩) ?_
            exact ih1079 (z1069 + 1) μ1070 T1073 (mF.call mF.refl F1074 rfl) (mG.call mG.refl G1075 (List.forall_mem_cons.mpr ⟨⟨_, List.mem_cons_self, vc_X12_look_12⟩, (List.forall_mem_cons.mpr ⟨⟨_, (List.mem_cons_of_mem _ List.mem_cons_self), (vc_X12_look_39 h1121.2.1 h1121.2.2.1 h1138 h1136 hp1 hp2 h1114 h1117 h1137)⟩, (List.forall_mem_cons.mpr ⟨⟨_, (List.mem_cons_of_mem _ (List.mem_cons_of_mem _ List.mem_cons_self)), vc_X12_look_14⟩, (fun _ h => absurd h List.not_mem_nil)⟩)⟩)⟩)) (rW (c := 0) (d := 20) (rAdd (e := 1) (f := 20) h1110 (rR (x := 1)) rfl) rfl) I1076 I1077 (vc_X12_look_38 (nS h1078) h1109 h1110 h1111)
          have h1139 : 1 ≤ z1122 ∧ z1122 ≤ 1 := (vc_X12_look_40 h1136 h1121.2.1 h1121.2.2.1 hp1 h1114 h1117 h1121.1)
          have h1140 : z1112 = p1 ∨ z1115 = p1 := (h1121.2.1 (vc_X12_look_41 h1121.2.1 h1121.2.2.1 h1136 hp1 h1114 h1117 h1139))
          refine sv_aload_n (pc := 186) dX12_look_186 rfl rfl ?_
          refine gf_X12_9 (pc := 187) dX12_look_187 wF_X12_53 (A_106 hw) T1073 ?_
          refine mr_iload (pc := 190) (z := z1069) dX12_look_190 rfl ?_
          refine la_112 (pc := 192) dX12_look_192 (A_112 hw) T1073 (rIx (n := 20) h1110 rfl) fun z1141 q1142 h1143 => ?_
          refine mr_if_eq (pc := 193) (tgt := 204) dX12_look_193 (by decide) (r32 h1143 rfl) (fun h1150 => ?_) (fun h1150 => ?_)
          · have h1151 : 0 ≤ z1141 ∧ z1141 ≤ 0 := (vc_X12_look_42 h1150 h1143)
            refine mr_iinc (pc := 204) (lv' := [(5, iv (z1069 + 1)), (0, .ref 106), (1, iv p1), (2, iv p2)]) dX12_look_204 rfl (by decide) rfl ?_
            refine sv_goto (pc := 207) (tgt := 167) dX12_look_207 (by decide) ?_
            refine mr_lvS (lv' := [(0, .ref 106), (1, iv p1), (2, iv p2), (5, iv (z1069 + 1))]) (List.forall_mem_cons.mpr ⟨rfl, List.forall_mem_cons.mpr ⟨rfl, List.forall_mem_cons.mpr ⟨rfl, List.forall_mem_cons.mpr ⟨rfl, fun _ h => absurd h List.not_mem_nil⟩⟩⟩⟩) ?_
            exact ih1079 (z1069 + 1) μ1070 T1073 (mF.call mF.refl F1074 rfl) (mG.call mG.refl G1075 (List.forall_mem_cons.mpr ⟨⟨_, List.mem_cons_self, vc_X12_look_12⟩, (List.forall_mem_cons.mpr ⟨⟨_, (List.mem_cons_of_mem _ List.mem_cons_self), (vc_X12_look_43 h1121.2.1 h1121.2.2.1 h1140 h1136 hp1 hp2 h1114 h1117 h1139)⟩, (List.forall_mem_cons.mpr ⟨⟨_, (List.mem_cons_of_mem _ (List.mem_cons_of_mem _ List.mem_cons_self)), vc_X12_look_14⟩, (fun _ h => absurd h List.not_mem_nil)⟩)⟩)⟩)) (rW (c := 0) (d := 20) (rAdd (e := 1) (f := 20) h1110 (rR (x := 1)) rfl) rfl) I1076 I1077 (vc_X12_look_38 (nS h1078) h1109 h1110 h1111)
          have h1152 : 1 ≤ z1141 ∧ z1141 ≤ 1 := (vc_X12_look_44 h1150 h1143)
          refine sv_aload_n (pc := 196) dX12_look_196 rfl rfl ?_
          refine mr_iload_n (pc := 197) (z := p1) dX12_look_197 rfl rfl ?_
          refine mr_iload (pc := 198) (z := z1069) dX12_look_198 rfl ?_
          refine mr_iload_n (pc := 200) (z := p2) dX12_look_200 rfl rfl ?_
          refine mr_cVV (pc := 201) (c_X12_say hw T1073 hp1 h1110 hp2 q1113 q1116 q1081 (vc_X12_look_45 h1109 h1110 h1111) (vc_X12_look_46 h1121.2.1 h1121.2.2.1 h1140 h1136 hp1 h1114 h1117 h1139) I1076 I1077) (gOk _ _ _ _ _) dX12_look_201 (tX12_say _ _ _ _ _) ⟨wV_X12_say, wL_X12_say⟩ wM_X12_587 (gCX12 _ _ _ _ _) rfl (A_106 hw) rfl ⟨le_t rfl, le_t rfl⟩ ⟨le_t rfl, le_t rfl⟩ rfl (le_t rfl) fun μ1153 T1154 F1155 h1156 => ?_
          refine mr_iinc (pc := 204) (lv' := [(5, iv (z1069 + 1)), (0, .ref 106), (1, iv p1), (2, iv p2)]) dX12_look_204 rfl (by decide) rfl ?_
          refine sv_goto (pc := 207) (tgt := 167) dX12_look_207 (by decide) ?_
          refine mr_lvS (lv' := [(0, .ref 106), (1, iv p1), (2, iv p2), (5, iv (z1069 + 1))]) (List.forall_mem_cons.mpr ⟨rfl, List.forall_mem_cons.mpr ⟨rfl, List.forall_mem_cons.mpr ⟨rfl, List.forall_mem_cons.mpr ⟨rfl, fun _ h => absurd h List.not_mem_nil⟩⟩⟩⟩) ?_
          exact ih1079 (z1069 + 1) μ1153 T1154 (mF.call (mF.call mF.refl F1074 rfl) F1155 rfl) (mG.call (mG.call mG.refl G1075 (List.forall_mem_cons.mpr ⟨⟨_, List.mem_cons_self, vc_X12_look_12⟩, (List.forall_mem_cons.mpr ⟨⟨_, (List.mem_cons_of_mem _ List.mem_cons_self), (vc_X12_look_43 h1121.2.1 h1121.2.2.1 h1140 h1136 hp1 hp2 h1114 h1117 h1139)⟩, (List.forall_mem_cons.mpr ⟨⟨_, (List.mem_cons_of_mem _ (List.mem_cons_of_mem _ List.mem_cons_self)), vc_X12_look_14⟩, (fun _ h => absurd h List.not_mem_nil)⟩)⟩)⟩)) h1156.1 (List.forall_mem_cons.mpr ⟨⟨_, List.mem_cons_self, vc_X12_look_28⟩, (List.forall_mem_cons.mpr ⟨⟨_, (List.mem_cons_of_mem _ (List.mem_cons_of_mem _ List.mem_cons_self)), vc_X12_look_14⟩, (fun _ h => absurd h List.not_mem_nil)⟩)⟩)) (rW (c := 0) (d := 20) (rAdd (e := 1) (f := 20) h1110 (rR (x := 1)) rfl) rfl) h1156.2.1 (PK.keep I1077 hw ((mF.call mF.refl F1155 rfl) : mF [106026, 106027, 106028, 106029, 106030, 106031, 106072, 126999, 151999, 152999, 153999, 155999, 156999, 157999, 158999, 159999, 160999] w μ1070 μ1153) rfl) (vc_X12_look_38 (nS h1078) h1109 h1110 h1111)
      refine mr_lvS (lv' := [(0, .ref 106), (1, iv p1), (2, iv p2), (5, iv 0)]) (List.forall_mem_cons.mpr ⟨rfl, List.forall_mem_cons.mpr ⟨rfl, List.forall_mem_cons.mpr ⟨rfl, List.forall_mem_cons.mpr ⟨rfl, fun _ h => absurd h List.not_mem_nil⟩⟩⟩⟩) ?_
      exact L1071 22 0 μ624 T625 mF.refl mG.refl (rW (c := 0) (d := 20) (rR (x := 0)) rfl) I634 (PK.keep I65 hw ((mF.call (mF.up mF.refl (A_161 hw) u622 rfl) F626 rfl) : mF [126999, 161999] w μ60 μ624) rfl) vc_X12_look_29
    have h1157 : 1 ≤ z618 ∧ z618 ≤ 1 := (vc_X12_look_47 h619 h617.1)
    exact mr_vret dX12_look_146 rfl (le_t rfl) (le_t rfl) T61 (mF.call mF.refl F62 rfl) ⟨(mG.call mG.refl G63 (List.forall_mem_cons.mpr ⟨⟨_, List.mem_cons_self, vc_X12_look_12⟩, (List.forall_mem_cons.mpr ⟨⟨_, (List.mem_cons_of_mem _ List.mem_cons_self), (vc_X12_look_13 hp1 hp2)⟩, (List.forall_mem_cons.mpr ⟨⟨_, (List.mem_cons_of_mem _ (List.mem_cons_of_mem _ List.mem_cons_self)), vc_X12_look_14⟩, (fun _ h => absurd h List.not_mem_nil)⟩)⟩)⟩)), I64, trivial⟩
  refine mr_if_lt (pc := 13) (tgt := 91) dX12_look_13 (by decide) (r32 h3 rfl) (fun h1158 => ?_) (fun h1158 => ?_)
  · have h1159 : (-1) ≤ z1 ∧ z1 ≤ (-1) := (vc_X12_look_48 h1158 h3)
    refine sv_aload_n (pc := 91) dX12_look_91 rfl rfl ?_
    refine mr_iload_n (pc := 92) (z := p1) dX12_look_92 rfl rfl ?_
    refine mr_iload_n (pc := 93) (z := p2) dX12_look_93 rfl rfl ?_
    refine mr_cVI (pc := 94) (c_X12_pick hw hT hp1 hp2 hIPK) (gOk _ _ _ _ _) dX12_look_94 (tX12_pick _ _ _ _ _) ⟨wV_X12_pick, wL_X12_pick⟩ wM_X12_581 (gCX12 _ _ _ _ _) rfl (A_106 hw) rfl ⟨le_t rfl, le_t rfl⟩ ⟨le_t rfl, le_t rfl⟩ rfl (le_t rfl) fun z1164 μ1160 T1161 F1162 h1163 => ?_
    refine mr_istore (pc := 97) (lv' := [(4, iv z1164), (3, iv ((10 * p1) + p2)), (0, .ref 106), (1, iv p1), (2, iv p2)]) dX12_look_97 (by decide) rfl ?_
    refine mr_iload (pc := 99) (z := z1164) dX12_look_99 rfl ?_
    refine mr_ldc (pc := 101) (z := (-99999999)) dX12_look_101 wG_X12_29 (by decide) ?_
    refine mr_icmp_ne (pc := 103) (tgt := 114) dX12_look_103 (by decide) (r32 h1163.1 rfl) (r32 (rR (x := (-99999999))) rfl) (fun h1165 => ?_) (fun h1165 => ?_)
    · have h1166 : 0 ≤ z1164 ∧ z1164 ≤ 19 := (vc_X12_look_49 h1165 h1163.2.2.1 h1163.1)
      refine sv_aload_n (pc := 114) dX12_look_114 rfl rfl ?_
      refine mr_iconst (pc := 115) (z := 4) dX12_look_115 ?_
      refine mr_iload (pc := 116) (z := z1164) dX12_look_116 rfl ?_
      refine mr_iadd (pc := 118) (x := 4) (y := z1164) dX12_look_118 ?_
      refine mr_iconst (pc := 119) (z := 3) dX12_look_119 ?_
      obtain ⟨z1167, q1168⟩ : ∃ z, μ1160 126 ((40 * (4 + z1164)).toNat) = z := ⟨_, rfl⟩
      have h1169 := rt7 T1161 (A_126 hw) (vc_X12_look_50 h1163.2.2.1 h1165 h1166) q1168
      have h1170 : (-1) ≤ z1167 ∧ z1167 ≤ 9 := h1169.2.1 (vc_X12_look_51 h1163.2.2.1 h1165 h1166)
      have h1171 : 0 ≤ z1167 := pk_use h1163.2.2.2.1 (vc_X12_look_52 h1163.2.2.1 h1165 h1166) (vc_X12_look_53 h1163.2.2.1 h1165 h1166) q1168
      have h1172 : 0 ≤ z1167 ∧ z1167 ≤ 9 := (vc_X12_look_54 h1171 h1170)
      refine mr_cVV (pc := 120) (c_X12_copy hw T1161 (rW (c := 0) (d := 2099) (rAdd (e := 4) (f := 23) (rR (x := 4)) h1166 rfl) rfl) (rW (c := 0) (d := 2099) (rR (x := 3)) rfl) q1168 (vc_X12_look_55 h1163.2.2.1 h1165 h1166)) (gOk _ _ _ _ _) dX12_look_120 (tX12_copy _ _ _ _ _) ⟨wV_X12_copy, wL_X12_copy⟩ wM_X12_559 (gCX12 _ _ _ _ _) rfl (A_106 hw) rfl ⟨le_t rfl, le_t rfl⟩ ⟨le_t rfl, le_t rfl⟩ rfl (le_t rfl) fun μ1173 T1174 F1175 h1176 => ?_
      obtain ⟨z1177, q1178, h1179⟩ := h1176
      have h1180 := rt7 T1174 (A_126 hw) vc_X12_look_56 q1178
      have h1181 : (-1) ≤ z1177 ∧ z1177 ≤ 9 := h1180.2.1 vc_X12_look_57
      have q1182 : μ1173 126 (((40 * 3) : Int).toNat) = z1167 := q1178.trans h1179.2.1
      have h1183 : 0 ≤ z1177 ∧ z1177 ≤ 9 := (vc_X12_look_58 h1179.2.1 h1171 h1172 h1181)
      refine mr_lvS (lv' := [(0, .ref 106), (1, iv p1), (2, iv p2), (3, iv ((10 * p1) + p2)), (4, iv z1164)]) (List.forall_mem_cons.mpr ⟨rfl, List.forall_mem_cons.mpr ⟨rfl, List.forall_mem_cons.mpr ⟨rfl, List.forall_mem_cons.mpr ⟨rfl, List.forall_mem_cons.mpr ⟨rfl, fun _ h => absurd h List.not_mem_nil⟩⟩⟩⟩⟩) ?_
      exact J67 z1164 μ1173 T1174 (mF.call (mF.call mF.refl F1162 rfl) F1175 rfl) (mG.call (mG.call mG.refl h1163.2.1 (List.forall_mem_cons.mpr ⟨⟨_, List.mem_cons_self, vc_X12_look_59⟩, (fun _ h => absurd h List.not_mem_nil)⟩)) h1179.1 (List.forall_mem_cons.mpr ⟨⟨_, List.mem_cons_self, vc_X12_look_60⟩, (fun _ h => absurd h List.not_mem_nil)⟩)) (rW (c := (-99999999)) (d := 19) h1166 rfl) (vc_X12_look_61 h1163.2.2.1 h1165 h1166) (G1.keep hIG1 hw ((mF.call (mF.call mF.refl F1162 rfl) F1175 rfl) : mF [106026, 106027, 106028, 106029, 106030, 106031, 126999, 151999, 152999, 153999, 165999] w μ μ1173) rfl rfl ((mG.call (mG.call mG.refl h1163.2.1 (List.forall_mem_cons.mpr ⟨⟨_, List.mem_cons_self, vc_X12_look_62⟩, (fun _ h => absurd h List.not_mem_nil)⟩)) h1179.1 (List.forall_mem_cons.mpr ⟨⟨_, (List.mem_cons_of_mem _ List.mem_cons_self), vc_X12_look_63⟩, (fun _ h => absurd h List.not_mem_nil)⟩)) : mG [(160, 960), ((40 * 3), ((40 * 3) + 40))] μ μ1173) (List.forall_mem_cons.mpr ⟨vc_X12_look_65, (List.forall_mem_cons.mpr ⟨vc_X12_look_64, (fun _ h => absurd h List.not_mem_nil)⟩)⟩)) (PK.keep hIPK hw ((mF.call (mF.call mF.refl F1162 rfl) F1175 rfl) : mF [106026, 106027, 106028, 106029, 106030, 106031, 126999, 151999, 152999, 153999, 165999] w μ μ1173) rfl) (by rw [(eqIx vc_X12_look_66 q1182)]; exact (vc_X12_look_67 h1163.2.2.1 h1165 h1171 h1179.2.1 h1166 h1172 h1183))
    have h1184 : (-99999999) ≤ z1164 ∧ z1164 ≤ (-99999999) := (vc_X12_look_68 h1165 h1163.2.2.1 h1163.1)
    refine sv_aload_n (pc := 106) dX12_look_106 rfl rfl ?_
    refine mr_iconst (pc := 107) (z := 3) dX12_look_107 ?_
    refine mr_cVV (pc := 108) (c_X12_nothing hw T1161 (rW (c := 0) (d := 2099) (rR (x := 3)) rfl)) (gOk _ _ _ _ _) dX12_look_108 (tX12_nothing _ _ _ _ _) ⟨wV_X12_nothing, wL_X12_nothing⟩ wM_X12_539 (gCX12 _ _ _ _ _) rfl (A_106 hw) rfl ⟨le_t rfl, le_t rfl⟩ ⟨le_t rfl, le_t rfl⟩ rfl (le_t rfl) fun μ1185 T1186 F1187 h1188 => ?_
    obtain ⟨z1189, q1190, h1191⟩ := h1188
    have h1192 := rt7 T1186 (A_126 hw) vc_X12_look_56 q1190
    have h1193 : (-1) ≤ z1189 ∧ z1189 ≤ 9 := h1192.2.1 vc_X12_look_57
    have q1194 : μ1185 126 (((40 * 3) : Int).toNat) = (-1) := q1190.trans h1191.2.1
    have h1195 : (-1) ≤ z1189 ∧ z1189 ≤ (-1) := (vc_X12_look_69 h1191.2.1 h1193)
    refine sv_goto (pc := 111) (tgt := 123) dX12_look_111 (by decide) ?_
    refine mr_lvS (lv' := [(0, .ref 106), (1, iv p1), (2, iv p2), (3, iv ((10 * p1) + p2)), (4, iv z1164)]) (List.forall_mem_cons.mpr ⟨rfl, List.forall_mem_cons.mpr ⟨rfl, List.forall_mem_cons.mpr ⟨rfl, List.forall_mem_cons.mpr ⟨rfl, List.forall_mem_cons.mpr ⟨rfl, fun _ h => absurd h List.not_mem_nil⟩⟩⟩⟩⟩) ?_
    exact J67 z1164 μ1185 T1186 (mF.call (mF.call mF.refl F1162 rfl) F1187 rfl) (mG.call (mG.call mG.refl h1163.2.1 (List.forall_mem_cons.mpr ⟨⟨_, List.mem_cons_self, vc_X12_look_59⟩, (fun _ h => absurd h List.not_mem_nil)⟩)) h1191.1 (List.forall_mem_cons.mpr ⟨⟨_, List.mem_cons_self, vc_X12_look_70⟩, (fun _ h => absurd h List.not_mem_nil)⟩)) (rW (c := (-99999999)) (d := 19) h1184 rfl) (vc_X12_look_71 h1163.2.2.1 h1165 h1184) (G1.keep hIG1 hw ((mF.call (mF.call mF.refl F1162 rfl) F1187 rfl) : mF [106026, 106027, 106028, 106029, 106030, 106031, 126999, 151999, 152999, 153999, 165999] w μ μ1185) rfl rfl ((mG.call (mG.call mG.refl h1163.2.1 (List.forall_mem_cons.mpr ⟨⟨_, List.mem_cons_self, vc_X12_look_62⟩, (fun _ h => absurd h List.not_mem_nil)⟩)) h1191.1 (List.forall_mem_cons.mpr ⟨⟨_, (List.mem_cons_of_mem _ List.mem_cons_self), vc_X12_look_72⟩, (fun _ h => absurd h List.not_mem_nil)⟩)) : mG [(160, 960), ((40 * 3), ((40 * 3) + 1))] μ μ1185) (List.forall_mem_cons.mpr ⟨vc_X12_look_65, (List.forall_mem_cons.mpr ⟨vc_X12_look_73, (fun _ h => absurd h List.not_mem_nil)⟩)⟩)) (PK.keep hIPK hw ((mF.call (mF.call mF.refl F1162 rfl) F1187 rfl) : mF [106026, 106027, 106028, 106029, 106030, 106031, 126999, 151999, 152999, 153999, 165999] w μ μ1185) rfl) (by rw [(eqIx vc_X12_look_66 q1194)]; exact (vc_X12_look_74 h1163.2.2.1 h1165 h1184))
  have h1196 : 0 ≤ z1 ∧ z1 ≤ 2 := (vc_X12_look_75 h1158 h3)
  refine mr_bipush (pc := 16) (z := (-4)) dX12_look_16 (by decide) ?_
  refine mr_istore (pc := 18) (lv' := [(4, iv (-4)), (3, iv ((10 * p1) + p2)), (0, .ref 106), (1, iv p1), (2, iv p2)]) dX12_look_18 (by decide) rfl ?_
  refine mr_bipush (pc := 20) (z := 120) dX12_look_20 (by decide) ?_
  refine mr_istore (pc := 22) (lv' := [(5, iv 120), (4, iv (-4)), (3, iv ((10 * p1) + p2)), (0, .ref 106), (1, iv p1), (2, iv p2)]) dX12_look_22 (by decide) rfl ?_
  refine sv_aload_n (pc := 24) dX12_look_24 rfl rfl ?_
  refine gf_X12_32 (pc := 25) dX12_look_25 wF_X12_148 (A_106 hw) hT ?_
  refine mr_iload (pc := 28) (z := 120) dX12_look_28 rfl ?_
  refine mr_iload_n (pc := 30) (z := p2) dX12_look_30 rfl rfl ?_
  refine ss_126 (pc := 31) dX12_look_31 (A_126 hw) hT (rIx (n := 84000) (rR (x := 120)) rfl) (vc_X12_look_76 hp2) fun μ1197 u1198 T1199 => ?_
  refine sv_aload_n (pc := 32) dX12_look_32 rfl rfl ?_
  refine gf_X12_32 (pc := 33) dX12_look_33 wF_X12_148 (A_106 hw) T1199 ?_
  refine mr_iload (pc := 36) (z := 120) dX12_look_36 rfl ?_
  refine mr_iconst (pc := 38) (z := 1) dX12_look_38 ?_
  refine mr_iadd (pc := 39) (x := 120) (y := 1) dX12_look_39 ?_
  refine mr_bipush (pc := 40) (z := 100) dX12_look_40 (by decide) ?_
  refine ss_126 (pc := 42) dX12_look_42 (A_126 hw) T1199 (rIx (n := 84000) (rAdd (e := 121) (f := 121) (rR (x := 120)) (rR (x := 1)) rfl) rfl) vc_X12_look_77 fun μ1200 u1201 T1202 => ?_
  refine sv_aload_n (pc := 43) dX12_look_43 rfl rfl ?_
  refine gf_X12_32 (pc := 44) dX12_look_44 wF_X12_148 (A_106 hw) T1202 ?_
  refine mr_iload (pc := 47) (z := 120) dX12_look_47 rfl ?_
  refine mr_iconst (pc := 49) (z := 2) dX12_look_49 ?_
  refine mr_iadd (pc := 50) (x := 120) (y := 2) dX12_look_50 ?_
  refine sv_aload_n (pc := 51) dX12_look_51 rfl rfl ?_
  refine gf_X12_82 (pc := 52) dX12_look_52 wF_X12_448 (A_106 hw) T1202 ?_
  refine mr_iload_n (pc := 55) (z := ((10 * p1) + p2)) dX12_look_55 rfl rfl ?_
  refine lk_162 (pc := 56) dX12_look_56 (A_162 hw) (rIx (n := 100) (rAdd (e := 0) (f := 99) (rMulL (n := 10) (e := 0) (f := 90) hp1 rfl) hp2 rfl) rfl) (u1201.f (Or.inl (mAt.ne (A_126 hw) (A_162 hw) rfl)) (u1198.f (Or.inl (mAt.ne (A_126 hw) (A_162 hw) rfl)) q2)) ?_
  refine ss_126 (pc := 57) dX12_look_57 (A_126 hw) T1202 (rIx (n := 84000) (rAdd (e := 122) (f := 122) (rR (x := 120)) (rR (x := 2)) rfl) rfl) (vc_X12_look_78 h1158 h1196) fun μ1203 u1204 T1205 => ?_
  refine sv_aload_n (pc := 58) dX12_look_58 rfl rfl ?_
  refine gf_X12_32 (pc := 59) dX12_look_59 wF_X12_148 (A_106 hw) T1205 ?_
  refine mr_iload (pc := 62) (z := 120) dX12_look_62 rfl ?_
  refine mr_iconst (pc := 64) (z := 3) dX12_look_64 ?_
  refine mr_iadd (pc := 65) (x := 120) (y := 3) dX12_look_65 ?_
  refine mr_iconst (pc := 66) (z := 0) dX12_look_66 ?_
  refine ss_126 (pc := 67) dX12_look_67 (A_126 hw) T1205 (rIx (n := 84000) (rAdd (e := 123) (f := 123) (rR (x := 120)) (rR (x := 3)) rfl) rfl) vc_X12_look_79 fun μ1206 u1207 T1208 => ?_
  refine sv_aload_n (pc := 68) dX12_look_68 rfl rfl ?_
  refine gf_X12_32 (pc := 69) dX12_look_69 wF_X12_148 (A_106 hw) T1208 ?_
  refine mr_iload (pc := 72) (z := 120) dX12_look_72 rfl ?_
  refine mr_iconst (pc := 74) (z := 4) dX12_look_74 ?_
  refine mr_iadd (pc := 75) (x := 120) (y := 4) dX12_look_75 ?_
  refine mr_iconst (pc := 76) (z := 0) dX12_look_76 ?_
  refine ss_126 (pc := 77) dX12_look_77 (A_126 hw) T1208 (rIx (n := 84000) (rAdd (e := 124) (f := 124) (rR (x := 120)) (rR (x := 4)) rfl) rfl) vc_X12_look_80 fun μ1209 u1210 T1211 => ?_
  refine sv_aload_n (pc := 78) dX12_look_78 rfl rfl ?_
  refine gf_X12_32 (pc := 79) dX12_look_79 wF_X12_148 (A_106 hw) T1211 ?_
  refine mr_iload (pc := 82) (z := 120) dX12_look_82 rfl ?_
  refine mr_iconst (pc := 84) (z := 5) dX12_look_84 ?_
  refine mr_iadd (pc := 85) (x := 120) (y := 5) dX12_look_85 ?_
  refine mr_iconst (pc := 86) (z := 0) dX12_look_86 ?_
  refine ss_126 (pc := 87) dX12_look_87 (A_126 hw) T1211 (rIx (n := 84000) (rAdd (e := 125) (f := 125) (rR (x := 120)) (rR (x := 5)) rfl) rfl) vc_X12_look_81 fun μ1212 u1213 T1214 => ?_
  refine sv_goto (pc := 88) (tgt := 123) dX12_look_88 (by decide) ?_
  refine mr_lvS (lv' := [(0, .ref 106), (1, iv p1), (2, iv p2), (3, iv ((10 * p1) + p2)), (4, iv (-4))]) (List.forall_mem_cons.mpr ⟨rfl, List.forall_mem_cons.mpr ⟨rfl, List.forall_mem_cons.mpr ⟨rfl, List.forall_mem_cons.mpr ⟨rfl, List.forall_mem_cons.mpr ⟨rfl, fun _ h => absurd h List.not_mem_nil⟩⟩⟩⟩⟩) ?_
  exact J67 (-4) μ1212 T1214 (mF.up (mF.up (mF.up (mF.up (mF.up (mF.up mF.refl (A_126 hw) u1198 rfl) (A_126 hw) u1201 rfl) (A_126 hw) u1204 rfl) (A_126 hw) u1207 rfl) (A_126 hw) u1210 rfl) (A_126 hw) u1213 rfl) (mG.up (mG.up (mG.up (mG.up (mG.up (mG.up mG.refl u1198 List.mem_cons_self vc_X12_look_82) u1201 List.mem_cons_self vc_X12_look_83) u1204 List.mem_cons_self vc_X12_look_84) u1207 List.mem_cons_self vc_X12_look_85) u1210 List.mem_cons_self vc_X12_look_86) u1213 List.mem_cons_self vc_X12_look_87) (rW (c := (-99999999)) (d := 19) (rR (x := (-4))) rfl) vc_X12_look_88 (G1.keep hIG1 hw ((mF.up (mF.up (mF.up (mF.up (mF.up (mF.up mF.refl (A_126 hw) u1198 rfl) (A_126 hw) u1201 rfl) (A_126 hw) u1204 rfl) (A_126 hw) u1207 rfl) (A_126 hw) u1210 rfl) (A_126 hw) u1213 rfl) : mF [126999] w μ μ1212) rfl rfl ((mG.up (mG.up (mG.up (mG.up (mG.up (mG.up mG.refl u1198 List.mem_cons_self vc_X12_look_89) u1201 (List.mem_cons_of_mem _ List.mem_cons_self) vc_X12_look_90) u1204 (List.mem_cons_of_mem _ (List.mem_cons_of_mem _ List.mem_cons_self)) vc_X12_look_91) u1207 (List.mem_cons_of_mem _ (List.mem_cons_of_mem _ (List.mem_cons_of_mem _ List.mem_cons_self))) vc_X12_look_92) u1210 (List.mem_cons_of_mem _ (List.mem_cons_of_mem _ (List.mem_cons_of_mem _ (List.mem_cons_of_mem _ List.mem_cons_self)))) vc_X12_look_93) u1213 (List.mem_cons_of_mem _ (List.mem_cons_of_mem _ (List.mem_cons_of_mem _ (List.mem_cons_of_mem _ (List.mem_cons_of_mem _ List.mem_cons_self))))) vc_X12_look_94) : mG [(120, (120 + 1)), ((120 + 1), ((120 + 1) + 1)), ((120 + 2), ((120 + 2) + 1)), ((120 + 3), ((120 + 3) + 1)), ((120 + 4), ((120 + 4) + 1)), ((120 + 5), ((120 + 5) + 1))] μ μ1212) (List.forall_mem_cons.mpr ⟨vc_X12_look_100, (List.forall_mem_cons.mpr ⟨vc_X12_look_99, (List.forall_mem_cons.mpr ⟨vc_X12_look_98, (List.forall_mem_cons.mpr ⟨vc_X12_look_97, (List.forall_mem_cons.mpr ⟨vc_X12_look_96, (List.forall_mem_cons.mpr ⟨vc_X12_look_95, (fun _ h => absurd h List.not_mem_nil)⟩)⟩)⟩)⟩)⟩)⟩)) (PK.keep hIPK hw ((mF.up (mF.up (mF.up (mF.up (mF.up (mF.up mF.refl (A_126 hw) u1198 rfl) (A_126 hw) u1201 rfl) (A_126 hw) u1204 rfl) (A_126 hw) u1207 rfl) (A_126 hw) u1210 rfl) (A_126 hw) u1213 rfl) : mF [126999] w μ μ1212) rfl) (by rw [(u1213.f (Or.inr vc_X12_look_105) (u1210.f (Or.inr vc_X12_look_104) (u1207.f (Or.inr vc_X12_look_103) (u1204.f (Or.inr vc_X12_look_102) (u1201.f (Or.inr vc_X12_look_101) u1198.1)))))]; exact (vc_X12_look_106 hp2))
theorem vc_X12_lookAll_1 {z67 : Int} (h0 : (11 - z67) < ((0 : Nat) : Int)) (h1 : 0 ≤ z67 ∧ z67 ≤ 10) : False := by omega
theorem vc_X12_lookAll_2  : (80 : Int) ≤ (80 : Int) ∧ (960 : Int) ≤ (960 : Int) := by omega
theorem vc_X12_lookAll_3 {p1 : Int} (h0 : 0 ≤ p1 ∧ p1 ≤ 9) : ((400 * p1) + 1200) ≤ ((400 * p1) + 1200) ∧ ((400 * p1) + 1600) ≤ ((400 * p1) + 1600) := by omega
theorem vc_X12_lookAll_4  : (21200 : Int) ≤ (21200 : Int) ∧ (53200 : Int) ≤ (53200 : Int) := by omega
theorem vc_X12_lookAll_5 {z67 z78 : Int} (h0 : z67 < z78) (h1 : 0 ≤ z67 ∧ z67 ≤ 10) (h2 : 0 ≤ z78 ∧ z78 ≤ 10) : 0 ≤ z67 ∧ z67 ≤ 9 := by omega
theorem vc_X12_lookAll_6 {z67 z78 : Int} (h0 : z67 < z78) (h1 : 0 ≤ z67 ∧ z67 ≤ 9) (h2 : 0 ≤ z78 ∧ z78 ≤ 10) : 1 ≤ z78 ∧ z78 ≤ 10 := by omega
theorem vc_X12_lookAll_7 {N z67 z78 : Int} (h0 : (11 - z67) < N + 1) (h1 : z67 < z78) (h2 : 0 ≤ z67 ∧ z67 ≤ 9) (h3 : 1 ≤ z78 ∧ z78 ≤ 10) : (11 - (z67 + 1)) < N := by omega
theorem vc_X12_lookAll_8 {p1 z67 z78 : Int} (h0 : z67 < z78) (h1 : 0 ≤ p1 ∧ p1 ≤ 9) (h2 : 0 ≤ z67 ∧ z67 ≤ 9) (h3 : 1 ≤ z78 ∧ z78 ≤ 10) : ((400 * p1) + 1200) ≤ (40 * (30 + ((10 * p1) + z67))) ∧ ((40 * (30 + ((10 * p1) + z67))) + 40) ≤ ((400 * p1) + 1600) := by omega
theorem vc_X12_lookAll_9  : (11 - 0) < ((12 : Nat) : Int) := by omega
set_option maxRecDepth 4000 in
set_option maxHeartbeats 4000000 in
theorem c_X12_lookAll {l : Launch} {D : va_G} {c : Nat → ClassId} {H0 : Heap} {sa : Nat × Nat × (Nat → Int32)} {w : mW} {μ : mM} (hw : mWF w) (hT : mT w μ) {p1 : Int} (hp1 : 0 ≤ p1 ∧ p1 ≤ 9) (hIG1 : G1 μ) (hIPK : PK μ) : sC (gG l D c H0 sa) mX12_lookAll 16 0 0 [.ref 106, iv p1] (mk w μ) (qV w [106026, 106027, 106028, 106029, 106030, 106031, 106072, 126999, 151999, 152999, 153999, 155999, 156999, 157999, 158999, 159999, 160999, 161999, 165999] μ (fun μ1 => mG [(80, 960), (((400 * p1) + 1200), ((400 * p1) + 1600)), (21200, 53200)] μ μ1 ∧ G1 μ1 ∧ True)) := by
  refine sC.of rfl (by decide) (le_t rfl) ?_
  refine mr_lvE (lv' := [(0, .ref 106), (1, iv p1)]) rfl ?_
  refine mr_iconst (pc := 0) (z := 0) dX12_lookAll_0 ?_
  refine mr_istore_n (pc := 1) (lv' := [(2, iv 0), (0, .ref 106), (1, iv p1)]) dX12_lookAll_1 rfl (by decide) rfl ?_
  have L69 : ∀ (nL69 : Nat) (z67 : Int) (μ68 : mM), mT w μ68 → mF [106026, 106027, 106028, 106029, 106030, 106031, 106072, 126999, 151999, 152999, 153999, 155999, 156999, 157999, 158999, 159999, 160999, 161999, 165999] w μ μ68 → mG [(80, 960), (((400 * p1) + 1200), ((400 * p1) + 1600)), (21200, 53200)] μ μ68 → (0 ≤ z67 ∧ z67 ≤ 10) → G1 μ68 → PK μ68 → (11 - z67) < (nL69 : Int) → sV (gG l D c H0 sa) mX12_lookAll (sRm 16 0 0) (sZ (gG l D c H0 sa) 0 0 (qV w [106026, 106027, 106028, 106029, 106030, 106031, 106072, 126999, 151999, 152999, 153999, 155999, 156999, 157999, 158999, 159999, 160999, 161999, 165999] μ (fun μ1 => mG [(80, 960), (((400 * p1) + 1200), ((400 * p1) + 1600)), (21200, 53200)] μ μ1 ∧ G1 μ1 ∧ True))) 2 [(0, .ref 106), (1, iv p1), (2, iv z67)] [] (mk w μ68) 0 0 := by
    intro nL69
    induction nL69 with
    | zero => intro z67 μ68 T71 F72 G73 h70 I74 I75 h76; exact ((vc_X12_lookAll_1 h76 h70)).elim
    | succ nL69 ih77 =>
      intro z67 μ68 T71 F72 G73 h70 I74 I75 h76
      refine mr_iload_n (pc := 2) (z := z67) dX12_lookAll_2 rfl rfl ?_
      refine sv_aload_n (pc := 3) dX12_lookAll_3 rfl rfl ?_
      refine gf_X12_2 (pc := 4) dX12_lookAll_4 wF_X12_15 (A_106 hw) T71 fun z78 q79 h80 => ?_
      refine mr_icmp_ge (pc := 7) (tgt := 22) dX12_lookAll_7 (by decide) (r32 h70 rfl) (r32 h80 rfl) (fun h87 => ?_) (fun h87 => ?_)
      · exact mr_vret dX12_lookAll_22 rfl (le_t rfl) (le_t rfl) T71 (mF.call mF.refl F72 rfl) ⟨(mG.call mG.refl G73 (List.forall_mem_cons.mpr ⟨⟨_, List.mem_cons_self, vc_X12_lookAll_2⟩, (List.forall_mem_cons.mpr ⟨⟨_, (List.mem_cons_of_mem _ List.mem_cons_self), (vc_X12_lookAll_3 hp1)⟩, (List.forall_mem_cons.mpr ⟨⟨_, (List.mem_cons_of_mem _ (List.mem_cons_of_mem _ List.mem_cons_self)), vc_X12_lookAll_4⟩, (fun _ h => absurd h List.not_mem_nil)⟩)⟩)⟩)), I74, trivial⟩
      have h88 : 0 ≤ z67 ∧ z67 ≤ 9 := (vc_X12_lookAll_5 h87 h70 h80)
      have h89 : 1 ≤ z78 ∧ z78 ≤ 10 := (vc_X12_lookAll_6 h87 h88 h80)
      refine sv_aload_n (pc := 10) dX12_lookAll_10 rfl rfl ?_
      refine mr_iload_n (pc := 11) (z := p1) dX12_lookAll_11 rfl rfl ?_
      refine mr_iload_n (pc := 12) (z := z67) dX12_lookAll_12 rfl rfl ?_
      refine mr_cVV (pc := 13) (c_X12_look hw T71 hp1 h88 I74 I75) (gOk _ _ _ _ _) dX12_lookAll_13 (tX12_look _ _ _ _ _) ⟨wV_X12_look, wL_X12_look⟩ wM_X12_597 (gCX12 _ _ _ _ _) rfl (A_106 hw) rfl ⟨le_t rfl, le_t rfl⟩ ⟨le_t rfl, le_t rfl⟩ rfl (le_t rfl) fun μ90 T91 F92 h93 => ?_
      refine mr_iinc (pc := 16) (lv' := [(2, iv (z67 + 1)), (0, .ref 106), (1, iv p1)]) dX12_lookAll_16 rfl (by decide) rfl ?_
      refine sv_goto (pc := 19) (tgt := 2) dX12_lookAll_19 (by decide) ?_
      refine mr_lvS (lv' := [(0, .ref 106), (1, iv p1), (2, iv (z67 + 1))]) (List.forall_mem_cons.mpr ⟨rfl, List.forall_mem_cons.mpr ⟨rfl, List.forall_mem_cons.mpr ⟨rfl, fun _ h => absurd h List.not_mem_nil⟩⟩⟩) ?_
      exact ih77 (z67 + 1) μ90 T91 (mF.call (mF.call mF.refl F72 rfl) F92 rfl) (mG.call (mG.call mG.refl G73 (List.forall_mem_cons.mpr ⟨⟨_, List.mem_cons_self, vc_X12_lookAll_2⟩, (List.forall_mem_cons.mpr ⟨⟨_, (List.mem_cons_of_mem _ List.mem_cons_self), (vc_X12_lookAll_3 hp1)⟩, (List.forall_mem_cons.mpr ⟨⟨_, (List.mem_cons_of_mem _ (List.mem_cons_of_mem _ List.mem_cons_self)), vc_X12_lookAll_4⟩, (fun _ h => absurd h List.not_mem_nil)⟩)⟩)⟩)) h93.1 (List.forall_mem_cons.mpr ⟨⟨_, List.mem_cons_self, vc_X12_lookAll_2⟩, (List.forall_mem_cons.mpr ⟨⟨_, (List.mem_cons_of_mem _ List.mem_cons_self), (vc_X12_lookAll_8 h87 hp1 h88 h89)⟩, (List.forall_mem_cons.mpr ⟨⟨_, (List.mem_cons_of_mem _ (List.mem_cons_of_mem _ List.mem_cons_self)), vc_X12_lookAll_4⟩, (fun _ h => absurd h List.not_mem_nil)⟩)⟩)⟩)) (rW (c := 0) (d := 10) (rAdd (e := 1) (f := 10) h88 (rR (x := 1)) rfl) rfl) h93.2.1 (PK.keep I75 hw ((mF.call mF.refl F92 rfl) : mF [106026, 106027, 106028, 106029, 106030, 106031, 106072, 126999, 151999, 152999, 153999, 155999, 156999, 157999, 158999, 159999, 160999, 161999, 165999] w μ68 μ90) rfl) (vc_X12_lookAll_7 (nS h76) h87 h88 h89)
  refine mr_lvS (lv' := [(0, .ref 106), (1, iv p1), (2, iv 0)]) (List.forall_mem_cons.mpr ⟨rfl, List.forall_mem_cons.mpr ⟨rfl, List.forall_mem_cons.mpr ⟨rfl, fun _ h => absurd h List.not_mem_nil⟩⟩⟩) ?_
  exact L69 12 0 μ hT mF.refl mG.refl (rW (c := 0) (d := 10) (rR (x := 0)) rfl) hIG1 hIPK vc_X12_lookAll_9
theorem vc_X12_sayAll_1 {f_ties p2 : Int} (h0 : p2 < f_ties) (h1 : 0 ≤ f_ties ∧ f_ties ≤ 20) (h2 : 0 ≤ p2 ∧ p2 ≤ 19) : 1 ≤ f_ties ∧ f_ties ≤ 20 := by omega
theorem vc_X12_sayAll_2 {z258 : Int} (h0 : (11 - z258) < ((0 : Nat) : Int)) (h1 : 0 ≤ z258 ∧ z258 ≤ 10) : False := by omega
theorem vc_X12_sayAll_3  : (80 : Int) ≤ (80 : Int) ∧ (120 : Int) ≤ (120 : Int) := by omega
theorem vc_X12_sayAll_4  : (21200 : Int) ≤ (21200 : Int) ∧ (53200 : Int) ≤ (53200 : Int) := by omega
theorem vc_X12_sayAll_5 {z258 z269 : Int} (h0 : z258 < z269) (h1 : 0 ≤ z258 ∧ z258 ≤ 10) (h2 : 0 ≤ z269 ∧ z269 ≤ 10) : 0 ≤ z258 ∧ z258 ≤ 9 := by omega
theorem vc_X12_sayAll_6 {z258 z269 : Int} (h0 : z258 < z269) (h1 : 0 ≤ z258 ∧ z258 ≤ 9) (h2 : 0 ≤ z269 ∧ z269 ≤ 10) : 1 ≤ z269 ∧ z269 ≤ 10 := by omega
theorem vc_X12_sayAll_7 {z286 : Int} (h0 : z286 = 0) (h1 : 0 ≤ z286 ∧ z286 ≤ 1) : 0 ≤ z286 ∧ z286 ≤ 0 := by omega
theorem vc_X12_sayAll_8 {z286 : Int} (h0 : ¬ z286 = 0) (h1 : 0 ≤ z286 ∧ z286 ≤ 1) : 1 ≤ z286 ∧ z286 ≤ 1 := by omega
theorem vc_X12_sayAll_9 {f_ties p2 : Int} (h0 : p2 < f_ties) (h1 : 1 ≤ f_ties ∧ f_ties ≤ 20) (h2 : 0 ≤ p2 ∧ p2 ≤ 19) : p2 < f_ties := by omega
theorem vc_X12_sayAll_10 {f_e0 f_e1 p1 : Int} (h0 : f_e0 = p1 ∨ f_e1 = p1) (h1 : 0 ≤ f_e0 ∧ f_e0 ≤ 9) (h2 : 0 ≤ f_e1 ∧ f_e1 ≤ 9) (h3 : 0 ≤ p1 ∧ p1 ≤ 9) : f_e0 = p1 ∨ f_e1 = p1 := by omega
theorem vc_X12_sayAll_11 {N z258 z269 : Int} (h0 : (11 - z258) < N + 1) (h1 : z258 < z269) (h2 : 0 ≤ z258 ∧ z258 ≤ 9) (h3 : 1 ≤ z269 ∧ z269 ≤ 10) : (11 - (z258 + 1)) < N := by omega
theorem vc_X12_sayAll_12  : (11 - 0) < ((12 : Nat) : Int) := by omega
set_option maxRecDepth 4000 in
set_option maxHeartbeats 4000000 in
theorem c_X12_sayAll {l : Launch} {D : va_G} {c : Nat → ClassId} {H0 : Heap} {sa : Nat × Nat × (Nat → Int32)} {w : mW} {μ : mM} (hw : mWF w) (hT : mT w μ) {p1 : Int} (hp1 : 0 ≤ p1 ∧ p1 ≤ 9) {p2 : Int} (hp2 : 0 ≤ p2 ∧ p2 ≤ 19) {f_e0 : Int} (q_f_e0 : μ 110 ((2 * p2).toNat) = f_e0) {f_e1 : Int} (q_f_e1 : μ 110 (((2 * p2) + 1).toNat) = f_e1) {f_ties : Int} (q_f_ties : μ 106 6 = f_ties) (hq0 : p2 < f_ties) (hq1 : f_e0 = p1 ∨ f_e1 = p1) (hIG1 : G1 μ) (hIPK : PK μ) : sC (gG l D c H0 sa) mX12_sayAll 10 0 0 [.ref 106, iv p1, iv p2] (mk w μ) (qV w [106026, 106027, 106028, 106029, 106030, 106031, 106072, 126999, 151999, 152999, 153999, 155999, 156999, 157999, 158999, 159999, 160999] μ (fun μ1 => mG [(80, 120), (21200, 53200)] μ μ1 ∧ G1 μ1 ∧ True)) := by
  refine sC.of rfl (by decide) (le_t rfl) ?_
  have ht_f_e0 : (0 ≤ f_e0 ∧ f_e0 ≤ 9) := by rw [← q_f_e0]; exact hT 110 110 (A_110 hw) ((2 * p2).toNat)
  have ht_f_e1 : (0 ≤ f_e1 ∧ f_e1 ≤ 9) := by rw [← q_f_e1]; exact hT 110 110 (A_110 hw) (((2 * p2) + 1).toNat)
  have ht_f_ties : (0 ≤ f_ties ∧ f_ties ≤ 20) := by rw [← q_f_ties]; exact hT 106 106 (A_106 hw) 6
  have h1 : 1 ≤ f_ties ∧ f_ties ≤ 20 := (vc_X12_sayAll_1 hq0 ht_f_ties hp2)
  refine mr_lvE (lv' := [(0, .ref 106), (1, iv p1), (2, iv p2)]) rfl ?_
  refine mr_iconst (pc := 0) (z := 0) dX12_sayAll_0 ?_
  refine mr_istore_n (pc := 1) (lv' := [(3, iv 0), (0, .ref 106), (1, iv p1), (2, iv p2)]) dX12_sayAll_1 rfl (by decide) rfl ?_
  have L260 : ∀ (nL260 : Nat) (z258 : Int) (μ259 : mM), mT w μ259 → mF [106026, 106027, 106028, 106029, 106030, 106031, 106072, 126999, 151999, 152999, 153999, 155999, 156999, 157999, 158999, 159999, 160999] w μ μ259 → mG [(80, 120), (21200, 53200)] μ μ259 → (0 ≤ z258 ∧ z258 ≤ 10) → G1 μ259 → PK μ259 → (11 - z258) < (nL260 : Int) → sV (gG l D c H0 sa) mX12_sayAll (sRm 10 0 0) (sZ (gG l D c H0 sa) 0 0 (qV w [106026, 106027, 106028, 106029, 106030, 106031, 106072, 126999, 151999, 152999, 153999, 155999, 156999, 157999, 158999, 159999, 160999] μ (fun μ1 => mG [(80, 120), (21200, 53200)] μ μ1 ∧ G1 μ1 ∧ True))) 2 [(0, .ref 106), (1, iv p1), (2, iv p2), (3, iv z258)] [] (mk w μ259) 0 0 := by
    intro nL260
    induction nL260 with
    | zero => intro z258 μ259 T262 F263 G264 h261 I265 I266 h267; exact ((vc_X12_sayAll_2 h267 h261)).elim
    | succ nL260 ih268 =>
      intro z258 μ259 T262 F263 G264 h261 I265 I266 h267
      refine mr_iload_n (pc := 2) (z := z258) dX12_sayAll_2 rfl rfl ?_
      refine sv_aload_n (pc := 3) dX12_sayAll_3 rfl rfl ?_
      refine gf_X12_2 (pc := 4) dX12_sayAll_4 wF_X12_15 (A_106 hw) T262 fun z269 q270 h271 => ?_
      refine mr_icmp_ge (pc := 7) (tgt := 32) dX12_sayAll_7 (by decide) (r32 h261 rfl) (r32 h271 rfl) (fun h283 => ?_) (fun h283 => ?_)
      · exact mr_vret dX12_sayAll_32 rfl (le_t rfl) (le_t rfl) T262 (mF.call mF.refl F263 rfl) ⟨(mG.call mG.refl G264 (List.forall_mem_cons.mpr ⟨⟨_, List.mem_cons_self, vc_X12_sayAll_3⟩, (List.forall_mem_cons.mpr ⟨⟨_, (List.mem_cons_of_mem _ List.mem_cons_self), vc_X12_sayAll_4⟩, (fun _ h => absurd h List.not_mem_nil)⟩)⟩)), I265, trivial⟩
      have h284 : 0 ≤ z258 ∧ z258 ≤ 9 := (vc_X12_sayAll_5 h283 h261 h271)
      have h285 : 1 ≤ z269 ∧ z269 ≤ 10 := (vc_X12_sayAll_6 h283 h284 h271)
      refine sv_aload_n (pc := 10) dX12_sayAll_10 rfl rfl ?_
      refine gf_X12_9 (pc := 11) dX12_sayAll_11 wF_X12_53 (A_106 hw) T262 ?_
      refine mr_iload_n (pc := 14) (z := p2) dX12_sayAll_14 rfl rfl ?_
      refine la_112 (pc := 15) dX12_sayAll_15 (A_112 hw) T262 (rIx (n := 20) hp2 rfl) fun z286 q287 h288 => ?_
      refine mr_if_eq (pc := 16) (tgt := 32) dX12_sayAll_16 (by decide) (r32 h288 rfl) (fun h295 => ?_) (fun h295 => ?_)
      · have h296 : 0 ≤ z286 ∧ z286 ≤ 0 := (vc_X12_sayAll_7 h295 h288)
        exact mr_vret dX12_sayAll_32 rfl (le_t rfl) (le_t rfl) T262 (mF.call mF.refl F263 rfl) ⟨(mG.call mG.refl G264 (List.forall_mem_cons.mpr ⟨⟨_, List.mem_cons_self, vc_X12_sayAll_3⟩, (List.forall_mem_cons.mpr ⟨⟨_, (List.mem_cons_of_mem _ List.mem_cons_self), vc_X12_sayAll_4⟩, (fun _ h => absurd h List.not_mem_nil)⟩)⟩)), I265, trivial⟩
      have h297 : 1 ≤ z286 ∧ z286 ≤ 1 := (vc_X12_sayAll_8 h295 h288)
      refine sv_aload_n (pc := 19) dX12_sayAll_19 rfl rfl ?_
      refine mr_iload_n (pc := 20) (z := p1) dX12_sayAll_20 rfl rfl ?_
      refine mr_iload_n (pc := 21) (z := p2) dX12_sayAll_21 rfl rfl ?_
      refine mr_iload_n (pc := 22) (z := z258) dX12_sayAll_22 rfl rfl ?_
      refine mr_cVV (pc := 23) (c_X12_say hw T262 hp1 hp2 h284 (F263.f (A_110 hw) rfl q_f_e0) (F263.f (A_110 hw) rfl q_f_e1) (F263.f (A_106 hw) rfl q_f_ties) (vc_X12_sayAll_9 hq0 h1 hp2) (vc_X12_sayAll_10 hq1 ht_f_e0 ht_f_e1 hp1) I265 I266) (gOk _ _ _ _ _) dX12_sayAll_23 (tX12_say _ _ _ _ _) ⟨wV_X12_say, wL_X12_say⟩ wM_X12_587 (gCX12 _ _ _ _ _) rfl (A_106 hw) rfl ⟨le_t rfl, le_t rfl⟩ ⟨le_t rfl, le_t rfl⟩ rfl (le_t rfl) fun μ298 T299 F300 h301 => ?_
      refine mr_iinc (pc := 26) (lv' := [(3, iv (z258 + 1)), (0, .ref 106), (1, iv p1), (2, iv p2)]) dX12_sayAll_26 rfl (by decide) rfl ?_
      refine sv_goto (pc := 29) (tgt := 2) dX12_sayAll_29 (by decide) ?_
      refine mr_lvS (lv' := [(0, .ref 106), (1, iv p1), (2, iv p2), (3, iv (z258 + 1))]) (List.forall_mem_cons.mpr ⟨rfl, List.forall_mem_cons.mpr ⟨rfl, List.forall_mem_cons.mpr ⟨rfl, List.forall_mem_cons.mpr ⟨rfl, fun _ h => absurd h List.not_mem_nil⟩⟩⟩⟩) ?_
      exact ih268 (z258 + 1) μ298 T299 (mF.call (mF.call mF.refl F263 rfl) F300 rfl) (mG.call (mG.call mG.refl G264 (List.forall_mem_cons.mpr ⟨⟨_, List.mem_cons_self, vc_X12_sayAll_3⟩, (List.forall_mem_cons.mpr ⟨⟨_, (List.mem_cons_of_mem _ List.mem_cons_self), vc_X12_sayAll_4⟩, (fun _ h => absurd h List.not_mem_nil)⟩)⟩)) h301.1 (List.forall_mem_cons.mpr ⟨⟨_, List.mem_cons_self, vc_X12_sayAll_3⟩, (List.forall_mem_cons.mpr ⟨⟨_, (List.mem_cons_of_mem _ List.mem_cons_self), vc_X12_sayAll_4⟩, (fun _ h => absurd h List.not_mem_nil)⟩)⟩)) (rW (c := 0) (d := 10) (rAdd (e := 1) (f := 10) h284 (rR (x := 1)) rfl) rfl) h301.2.1 (PK.keep I266 hw ((mF.call mF.refl F300 rfl) : mF [106026, 106027, 106028, 106029, 106030, 106031, 106072, 126999, 151999, 152999, 153999, 155999, 156999, 157999, 158999, 159999, 160999] w μ259 μ298) rfl) (vc_X12_sayAll_11 (nS h267) h283 h284 h285)
  refine mr_lvS (lv' := [(0, .ref 106), (1, iv p1), (2, iv p2), (3, iv 0)]) (List.forall_mem_cons.mpr ⟨rfl, List.forall_mem_cons.mpr ⟨rfl, List.forall_mem_cons.mpr ⟨rfl, List.forall_mem_cons.mpr ⟨rfl, fun _ h => absurd h List.not_mem_nil⟩⟩⟩⟩) ?_
  exact L260 12 0 μ hT mF.refl mG.refl (rW (c := 0) (d := 10) (rR (x := 0)) rfl) hIG1 hIPK vc_X12_sayAll_12
theorem vc_X12_rethink_1 {z911 : Int} (h0 : (11 - z911) < ((0 : Nat) : Int)) (h1 : 0 ≤ z911 ∧ z911 ≤ 10) : False := by omega
theorem vc_X12_rethink_2 {z1268 : Int} (h0 : (11 - z1268) < ((0 : Nat) : Int)) (h1 : 0 ≤ z1268 ∧ z1268 ≤ 10) : False := by omega
theorem vc_X12_rethink_3  : (80 : Int) ≤ (80 : Int) ∧ (5200 : Int) ≤ (5200 : Int) := by omega
theorem vc_X12_rethink_4  : (21200 : Int) ≤ (21200 : Int) ∧ (53200 : Int) ≤ (53200 : Int) := by omega
theorem vc_X12_rethink_5 {z1268 z911 z922 : Int} (h0 : z1268 < z922) (h1 : z922 ≤ z911) (h2 : 0 ≤ z1268 ∧ z1268 ≤ 10) (h3 : 0 ≤ z911 ∧ z911 ≤ 10) (h4 : 0 ≤ z922 ∧ z922 ≤ 10) : 0 ≤ z1268 ∧ z1268 ≤ 9 := by omega
theorem vc_X12_rethink_6 {z1268 z911 z922 : Int} (h0 : z1268 < z922) (h1 : z922 ≤ z911) (h2 : 0 ≤ z1268 ∧ z1268 ≤ 9) (h3 : 0 ≤ z911 ∧ z911 ≤ 10) (h4 : 0 ≤ z922 ∧ z922 ≤ 10) : 1 ≤ z922 ∧ z922 ≤ 10 := by omega
theorem vc_X12_rethink_7 {z1544 : Int} (h0 : (21 - z1544) < ((0 : Nat) : Int)) (h1 : 0 ≤ z1544 ∧ z1544 ≤ 20) : False := by omega
theorem vc_X12_rethink_8 {N z1268 z911 z922 : Int} (h0 : (11 - z1268) < N + 1) (h1 : z1268 < z922) (h2 : z922 ≤ z911) (h3 : 0 ≤ z1268 ∧ z1268 ≤ 9) (h4 : 0 ≤ z911 ∧ z911 ≤ 10) (h5 : 1 ≤ z922 ∧ z922 ≤ 10) : (11 - (z1268 + 1)) < N := by omega
theorem vc_X12_rethink_9 {z1544 z1555 : Int} (h0 : z1544 < z1555) (h1 : 0 ≤ z1544 ∧ z1544 ≤ 20) (h2 : 0 ≤ z1555 ∧ z1555 ≤ 20) : 0 ≤ z1544 ∧ z1544 ≤ 19 := by omega
theorem vc_X12_rethink_10 {z1544 z1555 : Int} (h0 : z1544 < z1555) (h1 : 0 ≤ z1544 ∧ z1544 ≤ 19) (h2 : 0 ≤ z1555 ∧ z1555 ≤ 20) : 1 ≤ z1555 ∧ z1555 ≤ 20 := by omega
theorem vc_X12_rethink_11 {z1268 z1582 z1585 z1592 : Int} (h0 : z1592 = 0) (h1 : (z1592 = 1 → z1582 = z1268 ∨ z1585 = z1268)) (h2 : (z1592 = 0 → ¬ z1582 = z1268 ∧ ¬ z1585 = z1268)) (h3 : 0 ≤ z1268 ∧ z1268 ≤ 9) (h4 : 0 ≤ z1582 ∧ z1582 ≤ 9) (h5 : 0 ≤ z1585 ∧ z1585 ≤ 9) (h6 : 0 ≤ z1592 ∧ z1592 ≤ 1) : 0 ≤ z1592 ∧ z1592 ≤ 0 := by omega
theorem vc_X12_rethink_12 {z1268 z1582 z1585 z1592 z922 : Int} (h0 : (z1592 = 1 → z1582 = z1268 ∨ z1585 = z1268)) (h1 : (z1592 = 0 → ¬ z1582 = z1268 ∧ ¬ z1585 = z1268)) (h2 : z1592 = 0) (h3 : z1268 < z922) (h4 : 0 ≤ z1268 ∧ z1268 ≤ 9) (h5 : 0 ≤ z1582 ∧ z1582 ≤ 9) (h6 : 0 ≤ z1585 ∧ z1585 ≤ 9) (h7 : 0 ≤ z1592 ∧ z1592 ≤ 0) (h8 : 1 ≤ z922 ∧ z922 ≤ 10) : z1592 = 0 := by omega
theorem vc_X12_rethink_13 {N z1544 z1555 : Int} (h0 : (21 - z1544) < N + 1) (h1 : z1544 < z1555) (h2 : 0 ≤ z1544 ∧ z1544 ≤ 19) (h3 : 1 ≤ z1555 ∧ z1555 ≤ 20) : (21 - (z1544 + 1)) < N := by omega
theorem vc_X12_rethink_14 {z1268 z1582 z1585 z1592 : Int} (h0 : ¬ z1592 = 0) (h1 : (z1592 = 1 → z1582 = z1268 ∨ z1585 = z1268)) (h2 : (z1592 = 0 → ¬ z1582 = z1268 ∧ ¬ z1585 = z1268)) (h3 : 0 ≤ z1268 ∧ z1268 ≤ 9) (h4 : 0 ≤ z1582 ∧ z1582 ≤ 9) (h5 : 0 ≤ z1585 ∧ z1585 ≤ 9) (h6 : 0 ≤ z1592 ∧ z1592 ≤ 1) : 1 ≤ z1592 ∧ z1592 ≤ 1 := by omega
theorem vc_X12_rethink_15 {z1268 z1582 z1585 z1592 z922 : Int} (h0 : (z1592 = 1 → z1582 = z1268 ∨ z1585 = z1268)) (h1 : (z1592 = 0 → ¬ z1582 = z1268 ∧ ¬ z1585 = z1268)) (h2 : ¬ z1592 = 0) (h3 : z1268 < z922) (h4 : 0 ≤ z1268 ∧ z1268 ≤ 9) (h5 : 0 ≤ z1582 ∧ z1582 ≤ 9) (h6 : 0 ≤ z1585 ∧ z1585 ≤ 9) (h7 : 1 ≤ z1592 ∧ z1592 ≤ 1) (h8 : 1 ≤ z922 ∧ z922 ≤ 10) : z1592 = 1 := by omega
theorem vc_X12_rethink_16 {z1544 z1555 : Int} (h0 : z1544 < z1555) (h1 : 0 ≤ z1544 ∧ z1544 ≤ 19) (h2 : 1 ≤ z1555 ∧ z1555 ≤ 20) : z1544 < z1555 := by omega
theorem vc_X12_rethink_17 {z1268 z1582 z1585 z1592 z911 z922 : Int} (h0 : z1268 < z922) (h1 : (z1592 = 1 → z1582 = z1268 ∨ z1585 = z1268)) (h2 : (z1592 = 0 → ¬ z1582 = z1268 ∧ ¬ z1585 = z1268)) (h3 : z1582 = z1268 ∨ z1585 = z1268) (h4 : z922 ≤ z911) (h5 : ¬ z1592 = 0) (h6 : 0 ≤ z1268 ∧ z1268 ≤ 9) (h7 : 0 ≤ z1582 ∧ z1582 ≤ 9) (h8 : 0 ≤ z1585 ∧ z1585 ≤ 9) (h9 : 1 ≤ z1592 ∧ z1592 ≤ 1) (h10 : 0 ≤ z911 ∧ z911 ≤ 10) (h11 : 1 ≤ z922 ∧ z922 ≤ 10) : z1582 = z1268 ∨ z1585 = z1268 := by omega
theorem vc_X12_rethink_18  : (80 : Int) ≤ (80 : Int) ∧ (120 : Int) ≤ (5200 : Int) := by omega
theorem vc_X12_rethink_19  : (21 - 0) < ((22 : Nat) : Int) := by omega
theorem vc_X12_rethink_20  : (11 - 0) < ((12 : Nat) : Int) := by omega
theorem vc_X12_rethink_21 {z911 z922 : Int} (h0 : z911 < z922) (h1 : 0 ≤ z911 ∧ z911 ≤ 10) (h2 : 0 ≤ z922 ∧ z922 ≤ 10) : 0 ≤ z911 ∧ z911 ≤ 9 := by omega
theorem vc_X12_rethink_22 {z911 z922 : Int} (h0 : z911 < z922) (h1 : 0 ≤ z911 ∧ z911 ≤ 9) (h2 : 0 ≤ z922 ∧ z922 ≤ 10) : 1 ≤ z922 ∧ z922 ≤ 10 := by omega
theorem vc_X12_rethink_23 {N z911 z922 : Int} (h0 : (11 - z911) < N + 1) (h1 : z911 < z922) (h2 : 0 ≤ z911 ∧ z911 ≤ 9) (h3 : 1 ≤ z922 ∧ z922 ≤ 10) : (11 - (z911 + 1)) < N := by omega
theorem vc_X12_rethink_24  : (80 : Int) ≤ (80 : Int) ∧ (960 : Int) ≤ (5200 : Int) := by omega
theorem vc_X12_rethink_25 {z911 z922 : Int} (h0 : z911 < z922) (h1 : 0 ≤ z911 ∧ z911 ≤ 9) (h2 : 1 ≤ z922 ∧ z922 ≤ 10) : 80 ≤ ((400 * z911) + 1200) ∧ ((400 * z911) + 1600) ≤ 5200 := by omega
set_option maxRecDepth 4000 in
set_option maxHeartbeats 4000000 in
theorem c_X12_rethink {l : Launch} {D : va_G} {c : Nat → ClassId} {H0 : Heap} {sa : Nat × Nat × (Nat → Int32)} {w : mW} {μ : mM} (hw : mWF w) (hT : mT w μ) (hIG1 : G1 μ) (hIPK : PK μ) : sC (gG l D c H0 sa) mX12_rethink 17 0 0 [.ref 106] (mk w μ) (qV w [106026, 106027, 106028, 106029, 106030, 106031, 106072, 126999, 151999, 152999, 153999, 155999, 156999, 157999, 158999, 159999, 160999, 161999, 165999] μ (fun μ1 => mG [(80, 5200), (21200, 53200)] μ μ1 ∧ G1 μ1 ∧ True)) := by
  refine sC.of rfl (by decide) (le_t rfl) ?_
  refine mr_lvE (lv' := [(0, .ref 106)]) rfl ?_
  refine mr_iconst (pc := 0) (z := 0) dX12_rethink_0 ?_
  refine mr_istore_n (pc := 1) (lv' := [(1, iv 0), (0, .ref 106)]) dX12_rethink_1 rfl (by decide) rfl ?_
  have L913 : ∀ (nL913 : Nat) (z911 : Int) (μ912 : mM), mT w μ912 → mF [106026, 106027, 106028, 106029, 106030, 106031, 106072, 126999, 151999, 152999, 153999, 155999, 156999, 157999, 158999, 159999, 160999, 161999, 165999] w μ μ912 → mG [(80, 5200), (21200, 53200)] μ μ912 → (0 ≤ z911 ∧ z911 ≤ 10) → G1 μ912 → PK μ912 → (11 - z911) < (nL913 : Int) → sV (gG l D c H0 sa) mX12_rethink (sRm 17 0 0) (sZ (gG l D c H0 sa) 0 0 (qV w [106026, 106027, 106028, 106029, 106030, 106031, 106072, 126999, 151999, 152999, 153999, 155999, 156999, 157999, 158999, 159999, 160999, 161999, 165999] μ (fun μ1 => mG [(80, 5200), (21200, 53200)] μ μ1 ∧ G1 μ1 ∧ True))) 2 [(0, .ref 106), (1, iv z911)] [] (mk w μ912) 0 0 := by
    intro nL913
    induction nL913 with
    | zero => intro z911 μ912 T915 F916 G917 h914 I918 I919 h920; exact ((vc_X12_rethink_1 h920 h914)).elim
    | succ nL913 ih921 =>
      intro z911 μ912 T915 F916 G917 h914 I918 I919 h920
      refine mr_iload_n (pc := 2) (z := z911) dX12_rethink_2 rfl rfl ?_
      refine sv_aload_n (pc := 3) dX12_rethink_3 rfl rfl ?_
      refine gf_X12_5 (pc := 4) dX12_rethink_4 wF_X12_34 (A_106 hw) T915 fun z922 q923 h924 => ?_
      refine mr_icmp_ge (pc := 7) (tgt := 21) dX12_rethink_7 (by decide) (r32 h914 rfl) (r32 h924 rfl) (fun h931 => ?_) (fun h931 => ?_)
      · refine mr_iconst (pc := 21) (z := 0) dX12_rethink_21 ?_
        refine mr_istore_n (pc := 22) (lv' := [(1, iv 0), (0, .ref 106)]) dX12_rethink_22 rfl (by decide) rfl ?_
        have L1270 : ∀ (nL1270 : Nat) (z1268 : Int) (μ1269 : mM), mT w μ1269 → mF [106026, 106027, 106028, 106029, 106030, 106031, 106072, 126999, 151999, 152999, 153999, 155999, 156999, 157999, 158999, 159999, 160999] w μ912 μ1269 → mG [(80, 5200), (21200, 53200)] μ912 μ1269 → (0 ≤ z1268 ∧ z1268 ≤ 10) → G1 μ1269 → PK μ1269 → (11 - z1268) < (nL1270 : Int) → sV (gG l D c H0 sa) mX12_rethink (sRm 17 0 0) (sZ (gG l D c H0 sa) 0 0 (qV w [106026, 106027, 106028, 106029, 106030, 106031, 106072, 126999, 151999, 152999, 153999, 155999, 156999, 157999, 158999, 159999, 160999, 161999, 165999] μ (fun μ1 => mG [(80, 5200), (21200, 53200)] μ μ1 ∧ G1 μ1 ∧ True))) 23 [(0, .ref 106), (1, iv z1268)] [] (mk w μ1269) 0 0 := by
          intro nL1270
          induction nL1270 with
          | zero => intro z1268 μ1269 T1272 F1273 G1274 h1271 I1275 I1276 h1277; exact ((vc_X12_rethink_2 h1277 h1271)).elim
          | succ nL1270 ih1278 =>
            intro z1268 μ1269 T1272 F1273 G1274 h1271 I1275 I1276 h1277
            refine mr_iload_n (pc := 23) (z := z1268) dX12_rethink_23 rfl rfl ?_
            refine sv_aload_n (pc := 24) dX12_rethink_24 rfl rfl ?_
            refine gk_X12_5 (pc := 25) dX12_rethink_25 wF_X12_34 (A_106 hw) (F1273.f (A_106 hw) rfl q923) ?_
            refine mr_icmp_ge (pc := 28) (tgt := 68) dX12_rethink_28 (by decide) (r32 h1271 rfl) (r32 h924 rfl) (fun h1333 => ?_) (fun h1333 => ?_)
            · exact mr_vret dX12_rethink_68 rfl (le_t rfl) (le_t rfl) T1272 (mF.call (mF.call mF.refl F916 rfl) F1273 rfl) ⟨(mG.call (mG.call mG.refl G917 (List.forall_mem_cons.mpr ⟨⟨_, List.mem_cons_self, vc_X12_rethink_3⟩, (List.forall_mem_cons.mpr ⟨⟨_, (List.mem_cons_of_mem _ List.mem_cons_self), vc_X12_rethink_4⟩, (fun _ h => absurd h List.not_mem_nil)⟩)⟩)) G1274 (List.forall_mem_cons.mpr ⟨⟨_, List.mem_cons_self, vc_X12_rethink_3⟩, (List.forall_mem_cons.mpr ⟨⟨_, (List.mem_cons_of_mem _ List.mem_cons_self), vc_X12_rethink_4⟩, (fun _ h => absurd h List.not_mem_nil)⟩)⟩)), I1275, trivial⟩
            have h1334 : 0 ≤ z1268 ∧ z1268 ≤ 9 := (vc_X12_rethink_5 h1333 h931 h1271 h914 h924)
            have h1335 : 1 ≤ z922 ∧ z922 ≤ 10 := (vc_X12_rethink_6 h1333 h931 h1334 h914 h924)
            refine mr_iconst (pc := 31) (z := 0) dX12_rethink_31 ?_
            refine mr_istore_n (pc := 32) (lv' := [(2, iv 0), (0, .ref 106), (1, iv z1268)]) dX12_rethink_32 rfl (by decide) rfl ?_
            have L1546 : ∀ (nL1546 : Nat) (z1544 : Int) (μ1545 : mM), mT w μ1545 → mF [106026, 106027, 106028, 106029, 106030, 106031, 106072, 126999, 151999, 152999, 153999, 155999, 156999, 157999, 158999, 159999, 160999] w μ1269 μ1545 → mG [(80, 5200), (21200, 53200)] μ1269 μ1545 → (0 ≤ z1544 ∧ z1544 ≤ 20) → G1 μ1545 → PK μ1545 → (21 - z1544) < (nL1546 : Int) → sV (gG l D c H0 sa) mX12_rethink (sRm 17 0 0) (sZ (gG l D c H0 sa) 0 0 (qV w [106026, 106027, 106028, 106029, 106030, 106031, 106072, 126999, 151999, 152999, 153999, 155999, 156999, 157999, 158999, 159999, 160999, 161999, 165999] μ (fun μ1 => mG [(80, 5200), (21200, 53200)] μ μ1 ∧ G1 μ1 ∧ True))) 33 [(0, .ref 106), (1, iv z1268), (2, iv z1544)] [] (mk w μ1545) 0 0 := by
              intro nL1546
              induction nL1546 with
              | zero => intro z1544 μ1545 T1548 F1549 G1550 h1547 I1551 I1552 h1553; exact ((vc_X12_rethink_7 h1553 h1547)).elim
              | succ nL1546 ih1554 =>
                intro z1544 μ1545 T1548 F1549 G1550 h1547 I1551 I1552 h1553
                refine mr_iload_n (pc := 33) (z := z1544) dX12_rethink_33 rfl rfl ?_
                refine sv_aload_n (pc := 34) dX12_rethink_34 rfl rfl ?_
                refine gf_X12_6 (pc := 35) dX12_rethink_35 wF_X12_37 (A_106 hw) T1548 fun z1555 q1556 h1557 => ?_
                refine mr_icmp_ge (pc := 38) (tgt := 62) dX12_rethink_38 (by decide) (r32 h1547 rfl) (r32 h1557 rfl) (fun h1579 => ?_) (fun h1579 => ?_)
                · refine mr_iinc (pc := 62) (lv' := [(1, iv (z1268 + 1)), (0, .ref 106), (2, iv z1544)]) dX12_rethink_62 rfl (by decide) rfl ?_
                  refine sv_goto (pc := 65) (tgt := 23) dX12_rethink_65 (by decide) ?_
                  refine mr_lvS (lv' := [(0, .ref 106), (1, iv (z1268 + 1))]) (List.forall_mem_cons.mpr ⟨rfl, List.forall_mem_cons.mpr ⟨rfl, fun _ h => absurd h List.not_mem_nil⟩⟩) ?_
                  exact ih1278 (z1268 + 1) μ1545 T1548 (mF.call (mF.call mF.refl F1273 rfl) F1549 rfl) (mG.call (mG.call mG.refl G1274 (List.forall_mem_cons.mpr ⟨⟨_, List.mem_cons_self, vc_X12_rethink_3⟩, (List.forall_mem_cons.mpr ⟨⟨_, (List.mem_cons_of_mem _ List.mem_cons_self), vc_X12_rethink_4⟩, (fun _ h => absurd h List.not_mem_nil)⟩)⟩)) G1550 (List.forall_mem_cons.mpr ⟨⟨_, List.mem_cons_self, vc_X12_rethink_3⟩, (List.forall_mem_cons.mpr ⟨⟨_, (List.mem_cons_of_mem _ List.mem_cons_self), vc_X12_rethink_4⟩, (fun _ h => absurd h List.not_mem_nil)⟩)⟩)) (rW (c := 0) (d := 10) (rAdd (e := 1) (f := 10) h1334 (rR (x := 1)) rfl) rfl) I1551 I1552 (vc_X12_rethink_8 (nS h1277) h1333 h931 h1334 h914 h1335)
                have h1580 : 0 ≤ z1544 ∧ z1544 ≤ 19 := (vc_X12_rethink_9 h1579 h1547 h1557)
                have h1581 : 1 ≤ z1555 ∧ z1555 ≤ 20 := (vc_X12_rethink_10 h1579 h1580 h1557)
                refine sv_aload_n (pc := 41) dX12_rethink_41 rfl rfl ?_
                refine mr_iload_n (pc := 42) (z := z1544) dX12_rethink_42 rfl rfl ?_
                refine mr_iload_n (pc := 43) (z := z1268) dX12_rethink_43 rfl rfl ?_
                obtain ⟨z1582, q1583⟩ : ∃ z, μ1545 110 ((2 * z1544).toNat) = z := ⟨_, rfl⟩
                have h1584 : (0 ≤ z1582 ∧ z1582 ≤ 9) := by rw [← q1583]; exact T1548 110 110 (A_110 hw) ((2 * z1544).toNat)
                obtain ⟨z1585, q1586⟩ : ∃ z, μ1545 110 (((2 * z1544) + 1).toNat) = z := ⟨_, rfl⟩
                have h1587 : (0 ≤ z1585 ∧ z1585 ≤ 9) := by rw [← q1586]; exact T1548 110 110 (A_110 hw) (((2 * z1544) + 1).toNat)
                refine mr_cVP (pc := 44) (c_X12_isAt hw T1548 h1580 (rW (c := (-2147483648)) (d := 2147483647) h1334 rfl) q1583 q1586) (gOk _ _ _ _ _) dX12_rethink_44 (tX12_isAt _ _ _ _ _) ⟨wV_X12_isAt, wL_X12_isAt⟩ wM_X12_562 (gCX12 _ _ _ _ _) rfl (A_106 hw) rfl ⟨le_t rfl, le_t rfl⟩ ⟨le_t rfl, le_t rfl⟩ rfl (le_t rfl) fun z1592 h1591 => ?_
                refine mr_if_eq (pc := 47) (tgt := 56) dX12_rethink_47 (by decide) (r32 h1591.1 rfl) (fun h1601 => ?_) (fun h1601 => ?_)
                · have h1602 : 0 ≤ z1592 ∧ z1592 ≤ 0 := (vc_X12_rethink_11 h1601 h1591.2.1 h1591.2.2.1 h1334 h1584 h1587 h1591.1)
                  have h1603 : ¬ z1582 = z1268 ∧ ¬ z1585 = z1268 := (h1591.2.2.1 (vc_X12_rethink_12 h1591.2.1 h1591.2.2.1 h1601 h1333 h1334 h1584 h1587 h1602 h1335))
                  refine mr_iinc (pc := 56) (lv' := [(2, iv (z1544 + 1)), (0, .ref 106), (1, iv z1268)]) dX12_rethink_56 rfl (by decide) rfl ?_
                  refine sv_goto (pc := 59) (tgt := 33) dX12_rethink_59 (by decide) ?_
                  refine mr_lvS (lv' := [(0, .ref 106), (1, iv z1268), (2, iv (z1544 + 1))]) (List.forall_mem_cons.mpr ⟨rfl, List.forall_mem_cons.mpr ⟨rfl, List.forall_mem_cons.mpr ⟨rfl, fun _ h => absurd h List.not_mem_nil⟩⟩⟩) ?_
                  exact ih1554 (z1544 + 1) μ1545 T1548 (mF.call mF.refl F1549 rfl) (mG.call mG.refl G1550 (List.forall_mem_cons.mpr ⟨⟨_, List.mem_cons_self, vc_X12_rethink_3⟩, (List.forall_mem_cons.mpr ⟨⟨_, (List.mem_cons_of_mem _ List.mem_cons_self), vc_X12_rethink_4⟩, (fun _ h => absurd h List.not_mem_nil)⟩)⟩)) (rW (c := 0) (d := 20) (rAdd (e := 1) (f := 20) h1580 (rR (x := 1)) rfl) rfl) I1551 I1552 (vc_X12_rethink_13 (nS h1553) h1579 h1580 h1581)
                have h1604 : 1 ≤ z1592 ∧ z1592 ≤ 1 := (vc_X12_rethink_14 h1601 h1591.2.1 h1591.2.2.1 h1334 h1584 h1587 h1591.1)
                have h1605 : z1582 = z1268 ∨ z1585 = z1268 := (h1591.2.1 (vc_X12_rethink_15 h1591.2.1 h1591.2.2.1 h1601 h1333 h1334 h1584 h1587 h1604 h1335))
                refine sv_aload_n (pc := 50) dX12_rethink_50 rfl rfl ?_
                refine mr_iload_n (pc := 51) (z := z1268) dX12_rethink_51 rfl rfl ?_
                refine mr_iload_n (pc := 52) (z := z1544) dX12_rethink_52 rfl rfl ?_
                refine mr_cVV (pc := 53) (c_X12_sayAll hw T1548 h1334 h1580 q1583 q1586 q1556 (vc_X12_rethink_16 h1579 h1580 h1581) (vc_X12_rethink_17 h1333 h1591.2.1 h1591.2.2.1 h1605 h931 h1601 h1334 h1584 h1587 h1604 h914 h1335) I1551 I1552) (gOk _ _ _ _ _) dX12_rethink_53 (tX12_sayAll _ _ _ _ _) ⟨wV_X12_sayAll, wL_X12_sayAll⟩ wM_X12_603 (gCX12 _ _ _ _ _) rfl (A_106 hw) rfl ⟨le_t rfl, le_t rfl⟩ ⟨le_t rfl, le_t rfl⟩ rfl (le_t rfl) fun μ1606 T1607 F1608 h1609 => ?_
                refine mr_iinc (pc := 56) (lv' := [(2, iv (z1544 + 1)), (0, .ref 106), (1, iv z1268)]) dX12_rethink_56 rfl (by decide) rfl ?_
                refine sv_goto (pc := 59) (tgt := 33) dX12_rethink_59 (by decide) ?_
                refine mr_lvS (lv' := [(0, .ref 106), (1, iv z1268), (2, iv (z1544 + 1))]) (List.forall_mem_cons.mpr ⟨rfl, List.forall_mem_cons.mpr ⟨rfl, List.forall_mem_cons.mpr ⟨rfl, fun _ h => absurd h List.not_mem_nil⟩⟩⟩) ?_
                exact ih1554 (z1544 + 1) μ1606 T1607 (mF.call (mF.call mF.refl F1549 rfl) F1608 rfl) (mG.call (mG.call mG.refl G1550 (List.forall_mem_cons.mpr ⟨⟨_, List.mem_cons_self, vc_X12_rethink_3⟩, (List.forall_mem_cons.mpr ⟨⟨_, (List.mem_cons_of_mem _ List.mem_cons_self), vc_X12_rethink_4⟩, (fun _ h => absurd h List.not_mem_nil)⟩)⟩)) h1609.1 (List.forall_mem_cons.mpr ⟨⟨_, List.mem_cons_self, vc_X12_rethink_18⟩, (List.forall_mem_cons.mpr ⟨⟨_, (List.mem_cons_of_mem _ List.mem_cons_self), vc_X12_rethink_4⟩, (fun _ h => absurd h List.not_mem_nil)⟩)⟩)) (rW (c := 0) (d := 20) (rAdd (e := 1) (f := 20) h1580 (rR (x := 1)) rfl) rfl) h1609.2.1 (PK.keep I1552 hw ((mF.call mF.refl F1608 rfl) : mF [106026, 106027, 106028, 106029, 106030, 106031, 106072, 126999, 151999, 152999, 153999, 155999, 156999, 157999, 158999, 159999, 160999] w μ1545 μ1606) rfl) (vc_X12_rethink_13 (nS h1553) h1579 h1580 h1581)
            refine mr_lvS (lv' := [(0, .ref 106), (1, iv z1268), (2, iv 0)]) (List.forall_mem_cons.mpr ⟨rfl, List.forall_mem_cons.mpr ⟨rfl, List.forall_mem_cons.mpr ⟨rfl, fun _ h => absurd h List.not_mem_nil⟩⟩⟩) ?_
            exact L1546 22 0 μ1269 T1272 mF.refl mG.refl (rW (c := 0) (d := 20) (rR (x := 0)) rfl) I1275 I1276 vc_X12_rethink_19
        refine mr_lvS (lv' := [(0, .ref 106), (1, iv 0)]) (List.forall_mem_cons.mpr ⟨rfl, List.forall_mem_cons.mpr ⟨rfl, fun _ h => absurd h List.not_mem_nil⟩⟩) ?_
        exact L1270 12 0 μ912 T915 mF.refl mG.refl (rW (c := 0) (d := 10) (rR (x := 0)) rfl) I918 I919 vc_X12_rethink_20
      have h1610 : 0 ≤ z911 ∧ z911 ≤ 9 := (vc_X12_rethink_21 h931 h914 h924)
      have h1611 : 1 ≤ z922 ∧ z922 ≤ 10 := (vc_X12_rethink_22 h931 h1610 h924)
      refine sv_aload_n (pc := 10) dX12_rethink_10 rfl rfl ?_
      refine mr_iload_n (pc := 11) (z := z911) dX12_rethink_11 rfl rfl ?_
      refine mr_cVV (pc := 12) (c_X12_lookAll hw T915 h1610 I918 I919) (gOk _ _ _ _ _) dX12_rethink_12 (tX12_lookAll _ _ _ _ _) ⟨wV_X12_lookAll, wL_X12_lookAll⟩ wM_X12_600 (gCX12 _ _ _ _ _) rfl (A_106 hw) rfl ⟨le_t rfl, le_t rfl⟩ ⟨le_t rfl, le_t rfl⟩ rfl (le_t rfl) fun μ1612 T1613 F1614 h1615 => ?_
      refine mr_iinc (pc := 15) (lv' := [(1, iv (z911 + 1)), (0, .ref 106)]) dX12_rethink_15 rfl (by decide) rfl ?_
      refine sv_goto (pc := 18) (tgt := 2) dX12_rethink_18 (by decide) ?_
      refine mr_lvS (lv' := [(0, .ref 106), (1, iv (z911 + 1))]) (List.forall_mem_cons.mpr ⟨rfl, List.forall_mem_cons.mpr ⟨rfl, fun _ h => absurd h List.not_mem_nil⟩⟩) ?_
      exact ih921 (z911 + 1) μ1612 T1613 (mF.call (mF.call mF.refl F916 rfl) F1614 rfl) (mG.call (mG.call mG.refl G917 (List.forall_mem_cons.mpr ⟨⟨_, List.mem_cons_self, vc_X12_rethink_3⟩, (List.forall_mem_cons.mpr ⟨⟨_, (List.mem_cons_of_mem _ List.mem_cons_self), vc_X12_rethink_4⟩, (fun _ h => absurd h List.not_mem_nil)⟩)⟩)) h1615.1 (List.forall_mem_cons.mpr ⟨⟨_, List.mem_cons_self, vc_X12_rethink_24⟩, (List.forall_mem_cons.mpr ⟨⟨_, List.mem_cons_self, (vc_X12_rethink_25 h931 h1610 h1611)⟩, (List.forall_mem_cons.mpr ⟨⟨_, (List.mem_cons_of_mem _ List.mem_cons_self), vc_X12_rethink_4⟩, (fun _ h => absurd h List.not_mem_nil)⟩)⟩)⟩)) (rW (c := 0) (d := 10) (rAdd (e := 1) (f := 10) h1610 (rR (x := 1)) rfl) rfl) h1615.2.1 (PK.keep I919 hw ((mF.call mF.refl F1614 rfl) : mF [106026, 106027, 106028, 106029, 106030, 106031, 106072, 126999, 151999, 152999, 153999, 155999, 156999, 157999, 158999, 159999, 160999, 161999, 165999] w μ912 μ1612) rfl) (vc_X12_rethink_23 (nS h920) h931 h1610 h1611)
  refine mr_lvS (lv' := [(0, .ref 106), (1, iv 0)]) (List.forall_mem_cons.mpr ⟨rfl, List.forall_mem_cons.mpr ⟨rfl, fun _ h => absurd h List.not_mem_nil⟩⟩) ?_
  exact L913 12 0 μ hT mF.refl mG.refl (rW (c := 0) (d := 10) (rR (x := 0)) rfl) hIG1 hIPK vc_X12_rethink_20
theorem vc_X12_today_1 {p1 : Int} (h0 : 0 ≤ p1) (h1 : (-2147483648) ≤ p1 ∧ p1 ≤ 2147483647) : 0 ≤ p1 ∧ p1 ≤ 2147483647 := by omega
theorem vc_X12_today_2 {p1 : Int} (h0 : p1 < 0) (h1 : (-2147483648) ≤ p1 ∧ p1 ≤ 2147483647) : (-2147483648) ≤ p1 ∧ p1 ≤ (-1) := by omega
set_option maxRecDepth 4000 in
set_option maxHeartbeats 4000000 in
theorem c_X12_today {l : Launch} {D : va_G} {c : Nat → ClassId} {H0 : Heap} {sa : Nat × Nat × (Nat → Int32)} {w : mW} {μ : mM} (hw : mWF w) (hT : mT w μ) {p1 : Int} (hp1 : (-2147483648) ≤ p1 ∧ p1 ≤ 2147483647) (hIG1 : G1 μ) (hIPK : PK μ) : sC (gG l D c H0 sa) mX12_today 18 0 0 [.ref 106, iv p1] (mk w μ) (qI w [106017, 106026, 106027, 106028, 106029, 106030, 106031, 106072, 126999, 151999, 152999, 153999, 155999, 156999, 157999, 158999, 159999, 160999, 161999, 165999] μ (fun z μ1 => ((-2147483648) ≤ z ∧ z ≤ 2147483647) ∧ G1 μ1 ∧ True)) := by
  refine sC.of rfl (by decide) (le_t rfl) ?_
  refine mr_lvE (lv' := [(0, .ref 106), (1, iv p1)]) rfl ?_
  refine mr_iload_n (pc := 0) (z := p1) dX12_today_0 rfl rfl ?_
  refine mr_if_ge (pc := 1) (tgt := 6) dX12_today_1 (by decide) hp1 (fun h1 => ?_) (fun h1 => ?_)
  · have h2 : 0 ≤ p1 ∧ p1 ≤ 2147483647 := (vc_X12_today_1 h1 hp1)
    refine sv_aload_n (pc := 6) dX12_today_6 rfl rfl ?_
    refine gf_X12_17 (pc := 7) dX12_today_7 wF_X12_85 (A_106 hw) hT fun z3 q4 h5 => ?_
    refine mr_istore_n (pc := 10) (lv' := [(2, iv z3), (0, .ref 106), (1, iv p1)]) dX12_today_10 rfl (by decide) rfl ?_
    refine sv_aload_n (pc := 11) dX12_today_11 rfl rfl ?_
    refine mr_iload_n (pc := 12) (z := p1) dX12_today_12 rfl rfl ?_
    refine pf_X12_17 (pc := 13) dX12_today_13 wF_X12_85 (A_106 hw) hT h2 fun μ6 u7 T8 => ?_
    refine sv_aload_n (pc := 16) dX12_today_16 rfl rfl ?_
    refine mr_cVV (pc := 17) (c_X12_rethink hw T8 (G1.keep hIG1 hw ((mF.up mF.refl (A_106 hw) u7 rfl) : mF [106017] w μ μ6) rfl rfl ((mG.upO mG.refl u7 rfl) : mG [] μ μ6) (fun _ h => absurd h List.not_mem_nil)) (PK.keep hIPK hw ((mF.up mF.refl (A_106 hw) u7 rfl) : mF [106017] w μ μ6) rfl)) (gOk _ _ _ _ _) dX12_today_17 (tX12_rethink _ _ _ _ _) ⟨wV_X12_rethink, wL_X12_rethink⟩ wM_X12_88 (gCX12 _ _ _ _ _) rfl (A_106 hw) rfl ⟨le_t rfl, le_t rfl⟩ ⟨le_t rfl, le_t rfl⟩ rfl (le_t rfl) fun μ9 T10 F11 h12 => ?_
    refine mr_iload_n (pc := 20) (z := z3) dX12_today_20 rfl rfl ?_
    exact mr_iret dX12_today_21 rfl (le_t rfl) (le_t rfl) T10 (mF.call (mF.up mF.refl (A_106 hw) u7 rfl) F11 rfl) ⟨(rW (c := (-2147483648)) (d := 2147483647) h5 rfl), h12.2.1, trivial⟩
  have h13 : (-2147483648) ≤ p1 ∧ p1 ≤ (-1) := (vc_X12_today_2 h1 hp1)
  refine mr_iconst (pc := 4) (z := (-1)) dX12_today_4 ?_
  exact mr_iret dX12_today_5 rfl (le_t rfl) (le_t rfl) hT mF.refl ⟨(rW (c := (-2147483648)) (d := 2147483647) (rR (x := (-1))) rfl), hIG1, trivial⟩
theorem vc_X12_right_1 {p1 z1 z8 : Int} (h0 : z8 = 0) (h1 : (z8 = 1 → 0 ≤ p1 ∧ p1 < z1)) (h2 : (z8 = 0 → p1 < 0 ∨ z1 ≤ p1)) (h3 : (-2147483648) ≤ p1 ∧ p1 ≤ 2147483647) (h4 : 0 ≤ z1 ∧ z1 ≤ 10) (h5 : 0 ≤ z8 ∧ z8 ≤ 1) : 0 ≤ z8 ∧ z8 ≤ 0 := by omega
theorem vc_X12_right_2 {p1 z1 z8 : Int} (h0 : (z8 = 1 → 0 ≤ p1 ∧ p1 < z1)) (h1 : (z8 = 0 → p1 < 0 ∨ z1 ≤ p1)) (h2 : z8 = 0) (h3 : (-2147483648) ≤ p1 ∧ p1 ≤ 2147483647) (h4 : 0 ≤ z1 ∧ z1 ≤ 10) (h5 : 0 ≤ z8 ∧ z8 ≤ 0) : z8 = 0 := by omega
theorem vc_X12_right_3 {p1 z1 z8 : Int} (h0 : ¬ z8 = 0) (h1 : (z8 = 1 → 0 ≤ p1 ∧ p1 < z1)) (h2 : (z8 = 0 → p1 < 0 ∨ z1 ≤ p1)) (h3 : (-2147483648) ≤ p1 ∧ p1 ≤ 2147483647) (h4 : 0 ≤ z1 ∧ z1 ≤ 10) (h5 : 0 ≤ z8 ∧ z8 ≤ 1) : 1 ≤ z8 ∧ z8 ≤ 1 := by omega
theorem vc_X12_right_4 {p1 z1 z8 : Int} (h0 : (z8 = 1 → 0 ≤ p1 ∧ p1 < z1)) (h1 : (z8 = 0 → p1 < 0 ∨ z1 ≤ p1)) (h2 : ¬ z8 = 0) (h3 : (-2147483648) ≤ p1 ∧ p1 ≤ 2147483647) (h4 : 0 ≤ z1 ∧ z1 ≤ 10) (h5 : 1 ≤ z8 ∧ z8 ≤ 1) : z8 = 1 := by omega
theorem vc_X12_right_5 {p1 z1 z8 : Int} (h0 : 0 ≤ p1 ∧ p1 < z1) (h1 : (z8 = 1 → 0 ≤ p1 ∧ p1 < z1)) (h2 : (z8 = 0 → p1 < 0 ∨ z1 ≤ p1)) (h3 : (-2147483648) ≤ p1 ∧ p1 ≤ 2147483647) (h4 : 0 ≤ z1 ∧ z1 ≤ 10) (h5 : 1 ≤ z8 ∧ z8 ≤ 1) : 0 ≤ p1 ∧ p1 ≤ 9 := by omega
theorem vc_X12_right_6 {p1 z1 z8 : Int} (h0 : 0 ≤ p1 ∧ p1 < z1) (h1 : (z8 = 1 → 0 ≤ p1 ∧ p1 < z1)) (h2 : (z8 = 0 → p1 < 0 ∨ z1 ≤ p1)) (h3 : 0 ≤ p1 ∧ p1 ≤ 9) (h4 : 0 ≤ z1 ∧ z1 ≤ 10) (h5 : 1 ≤ z8 ∧ z8 ≤ 1) : 1 ≤ z1 ∧ z1 ≤ 10 := by omega
theorem vc_X12_right_7 {p3 z16 z23 : Int} (h0 : z23 = 0) (h1 : (z23 = 1 → 0 ≤ p3 ∧ p3 < z16)) (h2 : (z23 = 0 → p3 < 0 ∨ z16 ≤ p3)) (h3 : (-2147483648) ≤ p3 ∧ p3 ≤ 2147483647) (h4 : 0 ≤ z16 ∧ z16 ≤ 10) (h5 : 0 ≤ z23 ∧ z23 ≤ 1) : 0 ≤ z23 ∧ z23 ≤ 0 := by omega
theorem vc_X12_right_8 {p3 z16 z23 : Int} (h0 : (z23 = 1 → 0 ≤ p3 ∧ p3 < z16)) (h1 : (z23 = 0 → p3 < 0 ∨ z16 ≤ p3)) (h2 : z23 = 0) (h3 : (-2147483648) ≤ p3 ∧ p3 ≤ 2147483647) (h4 : 0 ≤ z16 ∧ z16 ≤ 10) (h5 : 0 ≤ z23 ∧ z23 ≤ 0) : z23 = 0 := by omega
theorem vc_X12_right_9 {p3 z16 z23 : Int} (h0 : ¬ z23 = 0) (h1 : (z23 = 1 → 0 ≤ p3 ∧ p3 < z16)) (h2 : (z23 = 0 → p3 < 0 ∨ z16 ≤ p3)) (h3 : (-2147483648) ≤ p3 ∧ p3 ≤ 2147483647) (h4 : 0 ≤ z16 ∧ z16 ≤ 10) (h5 : 0 ≤ z23 ∧ z23 ≤ 1) : 1 ≤ z23 ∧ z23 ≤ 1 := by omega
theorem vc_X12_right_10 {p3 z16 z23 : Int} (h0 : (z23 = 1 → 0 ≤ p3 ∧ p3 < z16)) (h1 : (z23 = 0 → p3 < 0 ∨ z16 ≤ p3)) (h2 : ¬ z23 = 0) (h3 : (-2147483648) ≤ p3 ∧ p3 ≤ 2147483647) (h4 : 0 ≤ z16 ∧ z16 ≤ 10) (h5 : 1 ≤ z23 ∧ z23 ≤ 1) : z23 = 1 := by omega
theorem vc_X12_right_11 {p3 z16 z23 : Int} (h0 : 0 ≤ p3 ∧ p3 < z16) (h1 : (z23 = 1 → 0 ≤ p3 ∧ p3 < z16)) (h2 : (z23 = 0 → p3 < 0 ∨ z16 ≤ p3)) (h3 : (-2147483648) ≤ p3 ∧ p3 ≤ 2147483647) (h4 : 0 ≤ z16 ∧ z16 ≤ 10) (h5 : 1 ≤ z23 ∧ z23 ≤ 1) : 0 ≤ p3 ∧ p3 ≤ 9 := by omega
theorem vc_X12_right_12 {p2 z30 z37 : Int} (h0 : z37 = 0) (h1 : (z37 = 1 → z30 ≤ p2 ∧ p2 ≤ (32 : Int))) (h2 : (z37 = 0 → p2 < z30 ∨ (32 : Int) < p2)) (h3 : (-2147483648) ≤ p2 ∧ p2 ≤ 2147483647) (h4 : 0 ≤ z30 ∧ z30 ≤ 32) (h5 : 0 ≤ z37 ∧ z37 ≤ 1) : 0 ≤ z37 ∧ z37 ≤ 0 := by omega
theorem vc_X12_right_13 {p2 z30 z37 : Int} (h0 : (z37 = 1 → z30 ≤ p2 ∧ p2 ≤ (32 : Int))) (h1 : (z37 = 0 → p2 < z30 ∨ (32 : Int) < p2)) (h2 : z37 = 0) (h3 : (-2147483648) ≤ p2 ∧ p2 ≤ 2147483647) (h4 : 0 ≤ z30 ∧ z30 ≤ 32) (h5 : 0 ≤ z37 ∧ z37 ≤ 0) : z37 = 0 := by omega
theorem vc_X12_right_14 {p2 z30 z37 : Int} (h0 : ¬ z37 = 0) (h1 : (z37 = 1 → z30 ≤ p2 ∧ p2 ≤ (32 : Int))) (h2 : (z37 = 0 → p2 < z30 ∨ (32 : Int) < p2)) (h3 : (-2147483648) ≤ p2 ∧ p2 ≤ 2147483647) (h4 : 0 ≤ z30 ∧ z30 ≤ 32) (h5 : 0 ≤ z37 ∧ z37 ≤ 1) : 1 ≤ z37 ∧ z37 ≤ 1 := by omega
theorem vc_X12_right_15 {p2 z30 z37 : Int} (h0 : (z37 = 1 → z30 ≤ p2 ∧ p2 ≤ (32 : Int))) (h1 : (z37 = 0 → p2 < z30 ∨ (32 : Int) < p2)) (h2 : ¬ z37 = 0) (h3 : (-2147483648) ≤ p2 ∧ p2 ≤ 2147483647) (h4 : 0 ≤ z30 ∧ z30 ≤ 32) (h5 : 1 ≤ z37 ∧ z37 ≤ 1) : z37 = 1 := by omega
theorem vc_X12_right_16 {p2 z30 z37 : Int} (h0 : z30 ≤ p2 ∧ p2 ≤ (32 : Int)) (h1 : (z37 = 1 → z30 ≤ p2 ∧ p2 ≤ (32 : Int))) (h2 : (z37 = 0 → p2 < z30 ∨ (32 : Int) < p2)) (h3 : (-2147483648) ≤ p2 ∧ p2 ≤ 2147483647) (h4 : 0 ≤ z30 ∧ z30 ≤ 32) (h5 : 1 ≤ z37 ∧ z37 ≤ 1) : 0 ≤ p2 ∧ p2 ≤ 32 := by omega
theorem vc_X12_right_17 {p4 : Int} (h0 : p4 < 0) (h1 : (-2147483648) ≤ p4 ∧ p4 ≤ 2147483647) : (-2147483648) ≤ p4 ∧ p4 ≤ (-1) := by omega
theorem vc_X12_right_18 {p4 : Int} (h0 : 0 ≤ p4) (h1 : (-2147483648) ≤ p4 ∧ p4 ≤ 2147483647) : 0 ≤ p4 ∧ p4 ≤ 2147483647 := by omega
theorem vc_X12_right_19 {p4 p5 : Int} (h0 : p4 < p5) (h1 : 0 ≤ p4) (h2 : 0 ≤ p4 ∧ p4 ≤ 2147483647) (h3 : (-2147483648) ≤ p5 ∧ p5 ≤ 2147483647) : 1 ≤ p5 ∧ p5 ≤ 2147483647 := by omega
theorem vc_X12_right_20 {p4 p5 : Int} (h0 : p4 < p5) (h1 : 0 ≤ p4) (h2 : 0 ≤ p4 ∧ p4 ≤ 2147483647) (h3 : 1 ≤ p5 ∧ p5 ≤ 2147483647) : 0 ≤ p4 ∧ p4 ≤ 2147483646 := by omega
theorem vc_X12_right_21 {p6 : Int} (h0 : 0 ≤ p6) (h1 : (-2147483648) ≤ p6 ∧ p6 ≤ 2147483647) : 0 ≤ p6 ∧ p6 ≤ 2147483647 := by omega
theorem vc_X12_right_22 {z52 : Int} (h0 : ¬ z52 = 30) (h1 : 0 ≤ z52 ∧ z52 ≤ 30) : 0 ≤ z52 ∧ z52 ≤ 29 := by omega
theorem vc_X12_right_23 {z52 : Int} (h0 : z52 = 30) (h1 : 0 ≤ z52 ∧ z52 ≤ 30) : 30 ≤ z52 ∧ z52 ≤ 30 := by omega
theorem vc_X12_right_24 {p6 : Int} (h0 : p6 < 0) (h1 : (-2147483648) ≤ p6 ∧ p6 ≤ 2147483647) : (-2147483648) ≤ p6 ∧ p6 ≤ (-1) := by omega
set_option maxRecDepth 4000 in
set_option maxHeartbeats 4000000 in
theorem c_X12_right {l : Launch} {D : va_G} {c : Nat → ClassId} {H0 : Heap} {sa : Nat × Nat × (Nat → Int32)} {w : mW} {μ : mM} (hw : mWF w) (hT : mT w μ) {p1 : Int} (hp1 : (-2147483648) ≤ p1 ∧ p1 ≤ 2147483647) {p2 : Int} (hp2 : (-2147483648) ≤ p2 ∧ p2 ≤ 2147483647) {p3 : Int} (hp3 : (-2147483648) ≤ p3 ∧ p3 ≤ 2147483647) {p4 : Int} (hp4 : (-2147483648) ≤ p4 ∧ p4 ≤ 2147483647) {p5 : Int} (hp5 : (-2147483648) ≤ p5 ∧ p5 ≤ 2147483647) {p6 : Int} (hp6 : (-2147483648) ≤ p6 ∧ p6 ≤ 2147483647) (hIG1 : G1 μ) (hIPK : PK μ) : sC (gG l D c H0 sa) mX12_right 18 0 0 [.ref 106, iv p1, iv p2, iv p3, iv p4, iv p5, iv p6] (mk w μ) (qI w [106018, 106026, 106027, 106028, 106029, 106030, 106031, 106072, 119999, 120999, 121999, 122999, 123999, 124999, 125999, 126999, 151999, 152999, 153999, 155999, 156999, 157999, 158999, 159999, 160999, 161999, 165999] μ (fun z μ1 => ((-2147483648) ≤ z ∧ z ≤ 2147483647) ∧ G1 μ1 ∧ True)) := by
  refine sC.of rfl (by decide) (le_t rfl) ?_
  refine mr_lvE (lv' := [(0, .ref 106), (1, iv p1), (2, iv p2), (3, iv p3), (4, iv p4), (5, iv p5), (6, iv p6)]) rfl ?_
  refine sv_aload_n (pc := 0) dX12_right_0 rfl rfl ?_
  refine mr_iload_n (pc := 1) (z := p1) dX12_right_1 rfl rfl ?_
  obtain ⟨z1, q2⟩ : ∃ z, μ 106 2 = z := ⟨_, rfl⟩
  have h3 : (0 ≤ z1 ∧ z1 ≤ 10) := by rw [← q2]; exact hT 106 106 (A_106 hw) 2
  refine mr_cVP (pc := 2) (c_X12_isPrefix hw hT hp1 q2) (gOk _ _ _ _ _) dX12_right_2 (tX12_isPrefix _ _ _ _ _) ⟨wV_X12_isPrefix, wL_X12_isPrefix⟩ wM_X12_92 (gCX12 _ _ _ _ _) rfl (A_106 hw) rfl ⟨le_t rfl, le_t rfl⟩ ⟨le_t rfl, le_t rfl⟩ rfl (le_t rfl) fun z8 h7 => ?_
  refine mr_if_eq (pc := 5) (tgt := 48) dX12_right_5 (by decide) (r32 h7.1 rfl) (fun h9 => ?_) (fun h9 => ?_)
  · have h10 : 0 ≤ z8 ∧ z8 ≤ 0 := (vc_X12_right_1 h9 h7.2.1 h7.2.2.1 hp1 h3 h7.1)
    have h11 : p1 < 0 ∨ z1 ≤ p1 := (h7.2.2.1 (vc_X12_right_2 h7.2.1 h7.2.2.1 h9 hp1 h3 h10))
    refine mr_iconst (pc := 48) (z := (-1)) dX12_right_48 ?_
    exact mr_iret dX12_right_49 rfl (le_t rfl) (le_t rfl) hT mF.refl ⟨(rW (c := (-2147483648)) (d := 2147483647) (rR (x := (-1))) rfl), hIG1, trivial⟩
  have h12 : 1 ≤ z8 ∧ z8 ≤ 1 := (vc_X12_right_3 h9 h7.2.1 h7.2.2.1 hp1 h3 h7.1)
  have h13 : 0 ≤ p1 ∧ p1 < z1 := (h7.2.1 (vc_X12_right_4 h7.2.1 h7.2.2.1 h9 hp1 h3 h12))
  have h14 : 0 ≤ p1 ∧ p1 ≤ 9 := (vc_X12_right_5 h13 h7.2.1 h7.2.2.1 hp1 h3 h12)
  have h15 : 1 ≤ z1 ∧ z1 ≤ 10 := (vc_X12_right_6 h13 h7.2.1 h7.2.2.1 h14 h3 h12)
  refine sv_aload_n (pc := 8) dX12_right_8 rfl rfl ?_
  refine mr_iload_n (pc := 9) (z := p3) dX12_right_9 rfl rfl ?_
  obtain ⟨z16, q17⟩ : ∃ z, μ 106 5 = z := ⟨_, rfl⟩
  have h18 : (0 ≤ z16 ∧ z16 ≤ 10) := by rw [← q17]; exact hT 106 106 (A_106 hw) 5
  refine mr_cVP (pc := 10) (c_X12_isDomain hw hT hp3 q17) (gOk _ _ _ _ _) dX12_right_10 (tX12_isDomain _ _ _ _ _) ⟨wV_X12_isDomain, wL_X12_isDomain⟩ wM_X12_49 (gCX12 _ _ _ _ _) rfl (A_106 hw) rfl ⟨le_t rfl, le_t rfl⟩ ⟨le_t rfl, le_t rfl⟩ rfl (le_t rfl) fun z23 h22 => ?_
  refine mr_if_eq (pc := 13) (tgt := 48) dX12_right_13 (by decide) (r32 h22.1 rfl) (fun h24 => ?_) (fun h24 => ?_)
  · have h25 : 0 ≤ z23 ∧ z23 ≤ 0 := (vc_X12_right_7 h24 h22.2.1 h22.2.2.1 hp3 h18 h22.1)
    have h26 : p3 < 0 ∨ z16 ≤ p3 := (h22.2.2.1 (vc_X12_right_8 h22.2.1 h22.2.2.1 h24 hp3 h18 h25))
    refine mr_iconst (pc := 48) (z := (-1)) dX12_right_48 ?_
    exact mr_iret dX12_right_49 rfl (le_t rfl) (le_t rfl) hT mF.refl ⟨(rW (c := (-2147483648)) (d := 2147483647) (rR (x := (-1))) rfl), hIG1, trivial⟩
  have h27 : 1 ≤ z23 ∧ z23 ≤ 1 := (vc_X12_right_9 h24 h22.2.1 h22.2.2.1 hp3 h18 h22.1)
  have h28 : 0 ≤ p3 ∧ p3 < z16 := (h22.2.1 (vc_X12_right_10 h22.2.1 h22.2.2.1 h24 hp3 h18 h27))
  have h29 : 0 ≤ p3 ∧ p3 ≤ 9 := (vc_X12_right_11 h28 h22.2.1 h22.2.2.1 hp3 h18 h27)
  refine mr_iload_n (pc := 16) (z := p2) dX12_right_16 rfl rfl ?_
  refine sv_aload_n (pc := 17) dX12_right_17 rfl rfl ?_
  refine gf_X12_4 (pc := 18) dX12_right_18 wF_X12_26 (A_106 hw) hT ?_
  refine mr_iload_n (pc := 21) (z := p1) dX12_right_21 rfl rfl ?_
  refine la_109 (pc := 22) dX12_right_22 (A_109 hw) hT (rIx (n := 10) h14 rfl) fun z30 q31 h32 => ?_
  refine mr_bipush (pc := 23) (z := 32) dX12_right_23 (by decide) ?_
  refine mr_cSP (pc := 25) (c_X12_in hw hT hp2 (rW (c := (-2147483648)) (d := 2147483647) h32 rfl) (rW (c := (-2147483648)) (d := 2147483647) (rR (x := 32)) rfl)) (gOk _ _ _ _ _) dX12_right_25 (tX12_in _ _ _ _ _) wS_X12_in wM_X12_18 ⟨le_t rfl, le_t rfl⟩ ⟨le_t rfl, le_t rfl⟩ rfl (le_t rfl) fun z37 h36 => ?_
  refine mr_if_eq (pc := 28) (tgt := 48) dX12_right_28 (by decide) (r32 h36.1 rfl) (fun h38 => ?_) (fun h38 => ?_)
  · have h39 : 0 ≤ z37 ∧ z37 ≤ 0 := (vc_X12_right_12 h38 h36.2.1 h36.2.2.1 hp2 h32 h36.1)
    have h40 : p2 < z30 ∨ (32 : Int) < p2 := (h36.2.2.1 (vc_X12_right_13 h36.2.1 h36.2.2.1 h38 hp2 h32 h39))
    refine mr_iconst (pc := 48) (z := (-1)) dX12_right_48 ?_
    exact mr_iret dX12_right_49 rfl (le_t rfl) (le_t rfl) hT mF.refl ⟨(rW (c := (-2147483648)) (d := 2147483647) (rR (x := (-1))) rfl), hIG1, trivial⟩
  have h41 : 1 ≤ z37 ∧ z37 ≤ 1 := (vc_X12_right_14 h38 h36.2.1 h36.2.2.1 hp2 h32 h36.1)
  have h42 : z30 ≤ p2 ∧ p2 ≤ (32 : Int) := (h36.2.1 (vc_X12_right_15 h36.2.1 h36.2.2.1 h38 hp2 h32 h41))
  have h43 : 0 ≤ p2 ∧ p2 ≤ 32 := (vc_X12_right_16 h42 h36.2.1 h36.2.2.1 hp2 h32 h41)
  refine mr_iload (pc := 31) (z := p4) dX12_right_31 rfl ?_
  refine mr_if_lt (pc := 33) (tgt := 48) dX12_right_33 (by decide) hp4 (fun h44 => ?_) (fun h44 => ?_)
  · have h45 : (-2147483648) ≤ p4 ∧ p4 ≤ (-1) := (vc_X12_right_17 h44 hp4)
    refine mr_iconst (pc := 48) (z := (-1)) dX12_right_48 ?_
    exact mr_iret dX12_right_49 rfl (le_t rfl) (le_t rfl) hT mF.refl ⟨(rW (c := (-2147483648)) (d := 2147483647) (rR (x := (-1))) rfl), hIG1, trivial⟩
  have h46 : 0 ≤ p4 ∧ p4 ≤ 2147483647 := (vc_X12_right_18 h44 hp4)
  refine mr_iload (pc := 36) (z := p5) dX12_right_36 rfl ?_
  refine mr_iload (pc := 38) (z := p4) dX12_right_38 rfl ?_
  refine mr_icmp_le (pc := 40) (tgt := 48) dX12_right_40 (by decide) hp5 (r32 h46 rfl) (fun h47 => ?_) (fun h47 => ?_)
  · refine mr_iconst (pc := 48) (z := (-1)) dX12_right_48 ?_
    exact mr_iret dX12_right_49 rfl (le_t rfl) (le_t rfl) hT mF.refl ⟨(rW (c := (-2147483648)) (d := 2147483647) (rR (x := (-1))) rfl), hIG1, trivial⟩
  have h48 : 1 ≤ p5 ∧ p5 ≤ 2147483647 := (vc_X12_right_19 h47 h44 h46 hp5)
  have h49 : 0 ≤ p4 ∧ p4 ≤ 2147483646 := (vc_X12_right_20 h47 h44 h46 h48)
  refine mr_iload (pc := 43) (z := p6) dX12_right_43 rfl ?_
  refine mr_if_ge (pc := 45) (tgt := 50) dX12_right_45 (by decide) hp6 (fun h50 => ?_) (fun h50 => ?_)
  · have h51 : 0 ≤ p6 ∧ p6 ≤ 2147483647 := (vc_X12_right_21 h50 hp6)
    refine sv_aload_n (pc := 50) dX12_right_50 rfl rfl ?_
    refine gf_X12_18 (pc := 51) dX12_right_51 wF_X12_95 (A_106 hw) hT fun z52 q53 h54 => ?_
    refine mr_bipush (pc := 54) (z := 30) dX12_right_54 (by decide) ?_
    refine mr_icmp_ne (pc := 56) (tgt := 62) dX12_right_56 (by decide) (r32 h54 rfl) (r32 (rR (x := 30)) rfl) (fun h55 => ?_) (fun h55 => ?_)
    · have h56 : 0 ≤ z52 ∧ z52 ≤ 29 := (vc_X12_right_22 h55 h54)
      refine sv_aload_n (pc := 62) dX12_right_62 rfl rfl ?_
      refine gf_X12_19 (pc := 63) dX12_right_63 wF_X12_98 (A_106 hw) hT ?_
      refine sv_aload_n (pc := 66) dX12_right_66 rfl rfl ?_
      refine gk_X12_18 (pc := 67) dX12_right_67 wF_X12_95 (A_106 hw) q53 ?_
      refine mr_iload_n (pc := 70) (z := p1) dX12_right_70 rfl rfl ?_
      refine ss_119 (pc := 71) dX12_right_71 (A_119 hw) hT (rIx (n := 30) h56 rfl) h14 fun μ57 u58 T59 => ?_
      refine sv_aload_n (pc := 72) dX12_right_72 rfl rfl ?_
      refine gf_X12_20 (pc := 73) dX12_right_73 wF_X12_101 (A_106 hw) T59 ?_
      refine sv_aload_n (pc := 76) dX12_right_76 rfl rfl ?_
      refine gk_X12_18 (pc := 77) dX12_right_77 wF_X12_95 (A_106 hw) (u58.f (Or.inl (mAt.ne (A_119 hw) (A_106 hw) rfl)) q53) ?_
      refine mr_iload_n (pc := 80) (z := p2) dX12_right_80 rfl rfl ?_
      refine ss_120 (pc := 81) dX12_right_81 (A_120 hw) T59 (rIx (n := 30) h56 rfl) (rW (c := (-2147483648)) (d := 2147483647) h43 rfl) fun μ60 u61 T62 => ?_
      refine sv_aload_n (pc := 82) dX12_right_82 rfl rfl ?_
      refine gf_X12_21 (pc := 83) dX12_right_83 wF_X12_104 (A_106 hw) T62 ?_
      refine sv_aload_n (pc := 86) dX12_right_86 rfl rfl ?_
      refine gk_X12_18 (pc := 87) dX12_right_87 wF_X12_95 (A_106 hw) (u61.f (Or.inl (mAt.ne (A_120 hw) (A_106 hw) rfl)) (u58.f (Or.inl (mAt.ne (A_119 hw) (A_106 hw) rfl)) q53)) ?_
      refine mr_iload_n (pc := 90) (z := p3) dX12_right_90 rfl rfl ?_
      refine ss_121 (pc := 91) dX12_right_91 (A_121 hw) T62 (rIx (n := 30) h56 rfl) (rW (c := (-2147483648)) (d := 2147483647) h29 rfl) fun μ63 u64 T65 => ?_
      refine sv_aload_n (pc := 92) dX12_right_92 rfl rfl ?_
      refine gf_X12_22 (pc := 93) dX12_right_93 wF_X12_107 (A_106 hw) T65 ?_
      refine sv_aload_n (pc := 96) dX12_right_96 rfl rfl ?_
      refine gk_X12_18 (pc := 97) dX12_right_97 wF_X12_95 (A_106 hw) (u64.f (Or.inl (mAt.ne (A_121 hw) (A_106 hw) rfl)) (u61.f (Or.inl (mAt.ne (A_120 hw) (A_106 hw) rfl)) (u58.f (Or.inl (mAt.ne (A_119 hw) (A_106 hw) rfl)) q53))) ?_
      refine mr_iload (pc := 100) (z := p4) dX12_right_100 rfl ?_
      refine ss_122 (pc := 102) dX12_right_102 (A_122 hw) T65 (rIx (n := 30) h56 rfl) (rW (c := (-2147483648)) (d := 2147483647) h49 rfl) fun μ66 u67 T68 => ?_
      refine sv_aload_n (pc := 103) dX12_right_103 rfl rfl ?_
      refine gf_X12_23 (pc := 104) dX12_right_104 wF_X12_110 (A_106 hw) T68 ?_
      refine sv_aload_n (pc := 107) dX12_right_107 rfl rfl ?_
      refine gk_X12_18 (pc := 108) dX12_right_108 wF_X12_95 (A_106 hw) (u67.f (Or.inl (mAt.ne (A_122 hw) (A_106 hw) rfl)) (u64.f (Or.inl (mAt.ne (A_121 hw) (A_106 hw) rfl)) (u61.f (Or.inl (mAt.ne (A_120 hw) (A_106 hw) rfl)) (u58.f (Or.inl (mAt.ne (A_119 hw) (A_106 hw) rfl)) q53)))) ?_
      refine mr_iload (pc := 111) (z := p5) dX12_right_111 rfl ?_
      refine ss_123 (pc := 113) dX12_right_113 (A_123 hw) T68 (rIx (n := 30) h56 rfl) (rW (c := (-2147483648)) (d := 2147483647) h48 rfl) fun μ69 u70 T71 => ?_
      refine sv_aload_n (pc := 114) dX12_right_114 rfl rfl ?_
      refine gf_X12_24 (pc := 115) dX12_right_115 wF_X12_113 (A_106 hw) T71 ?_
      refine sv_aload_n (pc := 118) dX12_right_118 rfl rfl ?_
      refine gk_X12_18 (pc := 119) dX12_right_119 wF_X12_95 (A_106 hw) (u70.f (Or.inl (mAt.ne (A_123 hw) (A_106 hw) rfl)) (u67.f (Or.inl (mAt.ne (A_122 hw) (A_106 hw) rfl)) (u64.f (Or.inl (mAt.ne (A_121 hw) (A_106 hw) rfl)) (u61.f (Or.inl (mAt.ne (A_120 hw) (A_106 hw) rfl)) (u58.f (Or.inl (mAt.ne (A_119 hw) (A_106 hw) rfl)) q53))))) ?_
      refine mr_iload (pc := 122) (z := p6) dX12_right_122 rfl ?_
      refine ss_124 (pc := 124) dX12_right_124 (A_124 hw) T71 (rIx (n := 30) h56 rfl) (rW (c := (-2147483648)) (d := 2147483647) h51 rfl) fun μ72 u73 T74 => ?_
      refine sv_aload_n (pc := 125) dX12_right_125 rfl rfl ?_
      refine gf_X12_25 (pc := 126) dX12_right_126 wF_X12_116 (A_106 hw) T74 ?_
      refine sv_aload_n (pc := 129) dX12_right_129 rfl rfl ?_
      refine gk_X12_18 (pc := 130) dX12_right_130 wF_X12_95 (A_106 hw) (u73.f (Or.inl (mAt.ne (A_124 hw) (A_106 hw) rfl)) (u70.f (Or.inl (mAt.ne (A_123 hw) (A_106 hw) rfl)) (u67.f (Or.inl (mAt.ne (A_122 hw) (A_106 hw) rfl)) (u64.f (Or.inl (mAt.ne (A_121 hw) (A_106 hw) rfl)) (u61.f (Or.inl (mAt.ne (A_120 hw) (A_106 hw) rfl)) (u58.f (Or.inl (mAt.ne (A_119 hw) (A_106 hw) rfl)) q53)))))) ?_
      refine mr_ldc (pc := 133) (z := (-99999999)) dX12_right_133 wG_X12_29 (by decide) ?_
      refine ss_125 (pc := 135) dX12_right_135 (A_125 hw) T74 (rIx (n := 30) h56 rfl) (rW (c := (-2147483648)) (d := 2147483647) (rR (x := (-99999999))) rfl) fun μ75 u76 T77 => ?_
      refine sv_aload_n (pc := 136) dX12_right_136 rfl rfl ?_
      refine sv_dup (pc := 137) dX12_right_137 rfl ?_
      refine gk_X12_18 (pc := 138) dX12_right_138 wF_X12_95 (A_106 hw) (u76.f (Or.inl (mAt.ne (A_125 hw) (A_106 hw) rfl)) (u73.f (Or.inl (mAt.ne (A_124 hw) (A_106 hw) rfl)) (u70.f (Or.inl (mAt.ne (A_123 hw) (A_106 hw) rfl)) (u67.f (Or.inl (mAt.ne (A_122 hw) (A_106 hw) rfl)) (u64.f (Or.inl (mAt.ne (A_121 hw) (A_106 hw) rfl)) (u61.f (Or.inl (mAt.ne (A_120 hw) (A_106 hw) rfl)) (u58.f (Or.inl (mAt.ne (A_119 hw) (A_106 hw) rfl)) q53))))))) ?_
      refine mr_iconst (pc := 141) (z := 1) dX12_right_141 ?_
      refine mr_iadd (pc := 142) (x := z52) (y := 1) dX12_right_142 ?_
      refine pf_X12_18 (pc := 143) dX12_right_143 wF_X12_95 (A_106 hw) T77 (rW (c := 0) (d := 30) (rAdd (e := 1) (f := 30) h56 (rR (x := 1)) rfl) rfl) fun μ78 u79 T80 => ?_
      refine sv_aload_n (pc := 146) dX12_right_146 rfl rfl ?_
      refine mr_iconst (pc := 147) (z := 0) dX12_right_147 ?_
      refine pf_X12_26 (pc := 148) dX12_right_148 wF_X12_119 (A_106 hw) T80 (rW (c := 0) (d := 1) (rR (x := 0)) rfl) fun μ81 u82 T83 => ?_
      refine sv_aload_n (pc := 151) dX12_right_151 rfl rfl ?_
      refine mr_cVV (pc := 152) (c_X12_rethink hw T83 (G1.keep hIG1 hw ((mF.up (mF.up (mF.up (mF.up (mF.up (mF.up (mF.up (mF.up (mF.up mF.refl (A_119 hw) u58 rfl) (A_120 hw) u61 rfl) (A_121 hw) u64 rfl) (A_122 hw) u67 rfl) (A_123 hw) u70 rfl) (A_124 hw) u73 rfl) (A_125 hw) u76 rfl) (A_106 hw) u79 rfl) (A_106 hw) u82 rfl) : mF [106018, 106026, 119999, 120999, 121999, 122999, 123999, 124999, 125999] w μ μ81) rfl rfl ((mG.upO (mG.upO (mG.upO (mG.upO (mG.upO (mG.upO (mG.upO (mG.upO (mG.upO mG.refl u58 rfl) u61 rfl) u64 rfl) u67 rfl) u70 rfl) u73 rfl) u76 rfl) u79 rfl) u82 rfl) : mG [] μ μ81) (fun _ h => absurd h List.not_mem_nil)) (PK.keep hIPK hw ((mF.up (mF.up (mF.up (mF.up (mF.up (mF.up (mF.up (mF.up (mF.up mF.refl (A_119 hw) u58 rfl) (A_120 hw) u61 rfl) (A_121 hw) u64 rfl) (A_122 hw) u67 rfl) (A_123 hw) u70 rfl) (A_124 hw) u73 rfl) (A_125 hw) u76 rfl) (A_106 hw) u79 rfl) (A_106 hw) u82 rfl) : mF [106018, 106026, 119999, 120999, 121999, 122999, 123999, 124999, 125999] w μ μ81) rfl)) (gOk _ _ _ _ _) dX12_right_152 (tX12_rethink _ _ _ _ _) ⟨wV_X12_rethink, wL_X12_rethink⟩ wM_X12_88 (gCX12 _ _ _ _ _) rfl (A_106 hw) rfl ⟨le_t rfl, le_t rfl⟩ ⟨le_t rfl, le_t rfl⟩ rfl (le_t rfl) fun μ84 T85 F86 h87 => ?_
      refine sv_aload_n (pc := 155) dX12_right_155 rfl rfl ?_
      refine gk_X12_18 (pc := 156) dX12_right_156 wF_X12_95 (A_106 hw) (F86.f (A_106 hw) rfl (u82.f (Or.inr (by decide)) u79.1)) ?_
      refine mr_iconst (pc := 159) (z := 1) dX12_right_159 ?_
      refine mr_isub (pc := 160) (x := (z52 + 1)) (y := 1) dX12_right_160 ?_
      exact mr_iret dX12_right_161 rfl (le_t rfl) (le_t rfl) T85 (mF.call (mF.up (mF.up (mF.up (mF.up (mF.up (mF.up (mF.up (mF.up (mF.up mF.refl (A_119 hw) u58 rfl) (A_120 hw) u61 rfl) (A_121 hw) u64 rfl) (A_122 hw) u67 rfl) (A_123 hw) u70 rfl) (A_124 hw) u73 rfl) (A_125 hw) u76 rfl) (A_106 hw) u79 rfl) (A_106 hw) u82 rfl) F86 rfl) ⟨(rW (c := (-2147483648)) (d := 2147483647) (rSub (e := 0) (f := 29) (rAdd (e := 1) (f := 30) h56 (rR (x := 1)) rfl) (rR (x := 1)) rfl) rfl), h87.2.1, trivial⟩
    have h88 : 30 ≤ z52 ∧ z52 ≤ 30 := (vc_X12_right_23 h55 h54)
    refine mr_bipush (pc := 59) (z := (-3)) dX12_right_59 (by decide) ?_
    exact mr_iret dX12_right_61 rfl (le_t rfl) (le_t rfl) hT mF.refl ⟨(rW (c := (-2147483648)) (d := 2147483647) (rR (x := (-3))) rfl), hIG1, trivial⟩
  have h89 : (-2147483648) ≤ p6 ∧ p6 ≤ (-1) := (vc_X12_right_24 h50 hp6)
  refine mr_iconst (pc := 48) (z := (-1)) dX12_right_48 ?_
  exact mr_iret dX12_right_49 rfl (le_t rfl) (le_t rfl) hT mF.refl ⟨(rW (c := (-2147483648)) (d := 2147483647) (rR (x := (-1))) rfl), hIG1, trivial⟩
theorem vc_X12_strike_1 {p1 z1 z8 : Int} (h0 : z8 = 0) (h1 : (z8 = 1 → (0 : Int) ≤ p1 ∧ p1 ≤ (z1 - 1))) (h2 : (z8 = 0 → p1 < (0 : Int) ∨ (z1 - 1) < p1)) (h3 : (-2147483648) ≤ p1 ∧ p1 ≤ 2147483647) (h4 : 0 ≤ z1 ∧ z1 ≤ 30) (h5 : 0 ≤ z8 ∧ z8 ≤ 1) : 0 ≤ z8 ∧ z8 ≤ 0 := by omega
theorem vc_X12_strike_2 {p1 z1 z8 : Int} (h0 : (z8 = 1 → (0 : Int) ≤ p1 ∧ p1 ≤ (z1 - 1))) (h1 : (z8 = 0 → p1 < (0 : Int) ∨ (z1 - 1) < p1)) (h2 : z8 = 0) (h3 : (-2147483648) ≤ p1 ∧ p1 ≤ 2147483647) (h4 : 0 ≤ z1 ∧ z1 ≤ 30) (h5 : 0 ≤ z8 ∧ z8 ≤ 0) : z8 = 0 := by omega
theorem vc_X12_strike_3 {p1 z1 z8 : Int} (h0 : ¬ z8 = 0) (h1 : (z8 = 1 → (0 : Int) ≤ p1 ∧ p1 ≤ (z1 - 1))) (h2 : (z8 = 0 → p1 < (0 : Int) ∨ (z1 - 1) < p1)) (h3 : (-2147483648) ≤ p1 ∧ p1 ≤ 2147483647) (h4 : 0 ≤ z1 ∧ z1 ≤ 30) (h5 : 0 ≤ z8 ∧ z8 ≤ 1) : 1 ≤ z8 ∧ z8 ≤ 1 := by omega
theorem vc_X12_strike_4 {p1 z1 z8 : Int} (h0 : (z8 = 1 → (0 : Int) ≤ p1 ∧ p1 ≤ (z1 - 1))) (h1 : (z8 = 0 → p1 < (0 : Int) ∨ (z1 - 1) < p1)) (h2 : ¬ z8 = 0) (h3 : (-2147483648) ≤ p1 ∧ p1 ≤ 2147483647) (h4 : 0 ≤ z1 ∧ z1 ≤ 30) (h5 : 1 ≤ z8 ∧ z8 ≤ 1) : z8 = 1 := by omega
theorem vc_X12_strike_5 {p1 z1 z8 : Int} (h0 : (0 : Int) ≤ p1 ∧ p1 ≤ (z1 - 1)) (h1 : (z8 = 1 → (0 : Int) ≤ p1 ∧ p1 ≤ (z1 - 1))) (h2 : (z8 = 0 → p1 < (0 : Int) ∨ (z1 - 1) < p1)) (h3 : (-2147483648) ≤ p1 ∧ p1 ≤ 2147483647) (h4 : 0 ≤ z1 ∧ z1 ≤ 30) (h5 : 1 ≤ z8 ∧ z8 ≤ 1) : 0 ≤ p1 ∧ p1 ≤ 2147483647 := by omega
theorem vc_X12_strike_6 {p1 z1 z8 : Int} (h0 : (z8 = 1 → (0 : Int) ≤ p1 ∧ p1 ≤ (z1 - 1))) (h1 : (z8 = 0 → p1 < (0 : Int) ∨ (z1 - 1) < p1)) (h2 : (0 : Int) ≤ p1 ∧ p1 ≤ (z1 - 1)) (h3 : ¬ z8 = 0) (h4 : 0 ≤ p1 ∧ p1 ≤ 2147483647) (h5 : 0 ≤ z1 ∧ z1 ≤ 30) (h6 : 1 ≤ z8 ∧ z8 ≤ 1) : 0 ≤ p1 ∧ p1 < 30 := by omega
theorem vc_X12_strike_7 {z19 : Int} (h0 : z19 = (-99999999)) (h1 : (-2147483648) ≤ z19 ∧ z19 ≤ 2147483647) : (-99999999) ≤ z19 ∧ z19 ≤ (-99999999) := by omega
theorem vc_X12_strike_8 {p2 z15 : Int} (h0 : p2 < z15) (h1 : (-2147483648) ≤ p2 ∧ p2 ≤ 2147483647) (h2 : (-2147483648) ≤ z15 ∧ z15 ≤ 2147483647) : (-2147483648) ≤ p2 ∧ p2 ≤ 2147483646 := by omega
theorem vc_X12_strike_9 {p2 z15 : Int} (h0 : p2 < z15) (h1 : (-2147483648) ≤ p2 ∧ p2 ≤ 2147483646) (h2 : (-2147483648) ≤ z15 ∧ z15 ≤ 2147483647) : (-2147483647) ≤ z15 ∧ z15 ≤ 2147483647 := by omega
set_option maxRecDepth 4000 in
set_option maxHeartbeats 4000000 in
theorem c_X12_strike {l : Launch} {D : va_G} {c : Nat → ClassId} {H0 : Heap} {sa : Nat × Nat × (Nat → Int32)} {w : mW} {μ : mM} (hw : mWF w) (hT : mT w μ) {p1 : Int} (hp1 : (-2147483648) ≤ p1 ∧ p1 ≤ 2147483647) {p2 : Int} (hp2 : (-2147483648) ≤ p2 ∧ p2 ≤ 2147483647) (hIG1 : G1 μ) (hIPK : PK μ) : sC (gG l D c H0 sa) mX12_strike 18 0 0 [.ref 106, iv p1, iv p2] (mk w μ) (qI w [106026, 106027, 106028, 106029, 106030, 106031, 106072, 125999, 126999, 151999, 152999, 153999, 155999, 156999, 157999, 158999, 159999, 160999, 161999, 165999] μ (fun z μ1 => ((-2147483648) ≤ z ∧ z ≤ 2147483647) ∧ G1 μ1 ∧ True)) := by
  refine sC.of rfl (by decide) (le_t rfl) ?_
  refine mr_lvE (lv' := [(0, .ref 106), (1, iv p1), (2, iv p2)]) rfl ?_
  refine mr_iload_n (pc := 0) (z := p1) dX12_strike_0 rfl rfl ?_
  refine mr_iconst (pc := 1) (z := 0) dX12_strike_1 ?_
  refine sv_aload_n (pc := 2) dX12_strike_2 rfl rfl ?_
  refine gf_X12_18 (pc := 3) dX12_strike_3 wF_X12_95 (A_106 hw) hT fun z1 q2 h3 => ?_
  refine mr_iconst (pc := 6) (z := 1) dX12_strike_6 ?_
  refine mr_isub (pc := 7) (x := z1) (y := 1) dX12_strike_7 ?_
  refine mr_cSP (pc := 8) (c_X12_in hw hT hp1 (rW (c := (-2147483648)) (d := 2147483647) (rR (x := 0)) rfl) (rW (c := (-2147483648)) (d := 2147483647) (rSub (e := (-1)) (f := 29) h3 (rR (x := 1)) rfl) rfl)) (gOk _ _ _ _ _) dX12_strike_8 (tX12_in _ _ _ _ _) wS_X12_in wM_X12_18 ⟨le_t rfl, le_t rfl⟩ ⟨le_t rfl, le_t rfl⟩ rfl (le_t rfl) fun z8 h7 => ?_
  refine mr_if_eq (pc := 11) (tgt := 24) dX12_strike_11 (by decide) (r32 h7.1 rfl) (fun h9 => ?_) (fun h9 => ?_)
  · have h10 : 0 ≤ z8 ∧ z8 ≤ 0 := (vc_X12_strike_1 h9 h7.2.1 h7.2.2.1 hp1 h3 h7.1)
    have h11 : p1 < (0 : Int) ∨ (z1 - 1) < p1 := (h7.2.2.1 (vc_X12_strike_2 h7.2.1 h7.2.2.1 h9 hp1 h3 h10))
    refine mr_iconst (pc := 24) (z := (-1)) dX12_strike_24 ?_
    exact mr_iret dX12_strike_25 rfl (le_t rfl) (le_t rfl) hT mF.refl ⟨(rW (c := (-2147483648)) (d := 2147483647) (rR (x := (-1))) rfl), hIG1, trivial⟩
  have h12 : 1 ≤ z8 ∧ z8 ≤ 1 := (vc_X12_strike_3 h9 h7.2.1 h7.2.2.1 hp1 h3 h7.1)
  have h13 : (0 : Int) ≤ p1 ∧ p1 ≤ (z1 - 1) := (h7.2.1 (vc_X12_strike_4 h7.2.1 h7.2.2.1 h9 hp1 h3 h12))
  have h14 : 0 ≤ p1 ∧ p1 ≤ 2147483647 := (vc_X12_strike_5 h13 h7.2.1 h7.2.2.1 hp1 h3 h12)
  refine mr_iload_n (pc := 14) (z := p2) dX12_strike_14 rfl rfl ?_
  refine sv_aload_n (pc := 15) dX12_strike_15 rfl rfl ?_
  refine gf_X12_24 (pc := 16) dX12_strike_16 wF_X12_113 (A_106 hw) hT ?_
  refine mr_iload_n (pc := 19) (z := p1) dX12_strike_19 rfl rfl ?_
  refine la_124 (pc := 20) dX12_strike_20 (A_124 hw) hT (vc_X12_strike_6 h7.2.1 h7.2.2.1 h13 h9 h14 h3 h12) fun z15 q16 h17 => ?_
  refine mr_icmp_ge (pc := 21) (tgt := 26) dX12_strike_21 (by decide) hp2 h17 (fun h18 => ?_) (fun h18 => ?_)
  · refine sv_aload_n (pc := 26) dX12_strike_26 rfl rfl ?_
    refine gf_X12_25 (pc := 27) dX12_strike_27 wF_X12_116 (A_106 hw) hT ?_
    refine mr_iload_n (pc := 30) (z := p1) dX12_strike_30 rfl rfl ?_
    refine la_125 (pc := 31) dX12_strike_31 (A_125 hw) hT (vc_X12_strike_6 h7.2.1 h7.2.2.1 h13 h9 h14 h3 h12) fun z19 q20 h21 => ?_
    refine mr_ldc (pc := 32) (z := (-99999999)) dX12_strike_32 wG_X12_29 (by decide) ?_
    refine mr_icmp_eq (pc := 34) (tgt := 40) dX12_strike_34 (by decide) h21 (r32 (rR (x := (-99999999))) rfl) (fun h22 => ?_) (fun h22 => ?_)
    · have h23 : (-99999999) ≤ z19 ∧ z19 ≤ (-99999999) := (vc_X12_strike_7 h22 h21)
      refine sv_aload_n (pc := 40) dX12_strike_40 rfl rfl ?_
      refine gf_X12_25 (pc := 41) dX12_strike_41 wF_X12_116 (A_106 hw) hT ?_
      refine mr_iload_n (pc := 44) (z := p1) dX12_strike_44 rfl rfl ?_
      refine mr_iload_n (pc := 45) (z := p2) dX12_strike_45 rfl rfl ?_
      refine ss_125 (pc := 46) dX12_strike_46 (A_125 hw) hT (vc_X12_strike_6 h7.2.1 h7.2.2.1 h13 h9 h14 h3 h12) hp2 fun μ24 u25 T26 => ?_
      refine sv_aload_n (pc := 47) dX12_strike_47 rfl rfl ?_
      refine mr_iconst (pc := 48) (z := 0) dX12_strike_48 ?_
      refine pf_X12_26 (pc := 49) dX12_strike_49 wF_X12_119 (A_106 hw) T26 (rW (c := 0) (d := 1) (rR (x := 0)) rfl) fun μ27 u28 T29 => ?_
      refine sv_aload_n (pc := 52) dX12_strike_52 rfl rfl ?_
      refine mr_cVV (pc := 53) (c_X12_rethink hw T29 (G1.keep hIG1 hw ((mF.up (mF.up mF.refl (A_125 hw) u25 rfl) (A_106 hw) u28 rfl) : mF [106026, 125999] w μ μ27) rfl rfl ((mG.upO (mG.upO mG.refl u25 rfl) u28 rfl) : mG [] μ μ27) (fun _ h => absurd h List.not_mem_nil)) (PK.keep hIPK hw ((mF.up (mF.up mF.refl (A_125 hw) u25 rfl) (A_106 hw) u28 rfl) : mF [106026, 125999] w μ μ27) rfl)) (gOk _ _ _ _ _) dX12_strike_53 (tX12_rethink _ _ _ _ _) ⟨wV_X12_rethink, wL_X12_rethink⟩ wM_X12_88 (gCX12 _ _ _ _ _) rfl (A_106 hw) rfl ⟨le_t rfl, le_t rfl⟩ ⟨le_t rfl, le_t rfl⟩ rfl (le_t rfl) fun μ30 T31 F32 h33 => ?_
      refine mr_iconst (pc := 56) (z := 0) dX12_strike_56 ?_
      exact mr_iret dX12_strike_57 rfl (le_t rfl) (le_t rfl) T31 (mF.call (mF.up (mF.up mF.refl (A_125 hw) u25 rfl) (A_106 hw) u28 rfl) F32 rfl) ⟨(rW (c := (-2147483648)) (d := 2147483647) (rR (x := 0)) rfl), h33.2.1, trivial⟩
    refine mr_bipush (pc := 37) (z := (-2)) dX12_strike_37 (by decide) ?_
    exact mr_iret dX12_strike_39 rfl (le_t rfl) (le_t rfl) hT mF.refl ⟨(rW (c := (-2147483648)) (d := 2147483647) (rR (x := (-2))) rfl), hIG1, trivial⟩
  have h34 : (-2147483648) ≤ p2 ∧ p2 ≤ 2147483646 := (vc_X12_strike_8 h18 hp2 h17)
  have h35 : (-2147483647) ≤ z15 ∧ z15 ≤ 2147483647 := (vc_X12_strike_9 h18 h34 h17)
  refine mr_iconst (pc := 24) (z := (-1)) dX12_strike_24 ?_
  exact mr_iret dX12_strike_25 rfl (le_t rfl) (le_t rfl) hT mF.refl ⟨(rW (c := (-2147483648)) (d := 2147483647) (rR (x := (-1))) rfl), hIG1, trivial⟩
theorem vc_X12_announce_1 {p1 z1 z8 : Int} (h0 : z8 = 0) (h1 : (z8 = 1 → 0 ≤ p1 ∧ p1 < z1)) (h2 : (z8 = 0 → p1 < 0 ∨ z1 ≤ p1)) (h3 : (-2147483648) ≤ p1 ∧ p1 ≤ 2147483647) (h4 : 0 ≤ z1 ∧ z1 ≤ 10) (h5 : 0 ≤ z8 ∧ z8 ≤ 1) : 0 ≤ z8 ∧ z8 ≤ 0 := by omega
theorem vc_X12_announce_2 {p1 z1 z8 : Int} (h0 : (z8 = 1 → 0 ≤ p1 ∧ p1 < z1)) (h1 : (z8 = 0 → p1 < 0 ∨ z1 ≤ p1)) (h2 : z8 = 0) (h3 : (-2147483648) ≤ p1 ∧ p1 ≤ 2147483647) (h4 : 0 ≤ z1 ∧ z1 ≤ 10) (h5 : 0 ≤ z8 ∧ z8 ≤ 0) : z8 = 0 := by omega
theorem vc_X12_announce_3 {p1 z1 z8 : Int} (h0 : ¬ z8 = 0) (h1 : (z8 = 1 → 0 ≤ p1 ∧ p1 < z1)) (h2 : (z8 = 0 → p1 < 0 ∨ z1 ≤ p1)) (h3 : (-2147483648) ≤ p1 ∧ p1 ≤ 2147483647) (h4 : 0 ≤ z1 ∧ z1 ≤ 10) (h5 : 0 ≤ z8 ∧ z8 ≤ 1) : 1 ≤ z8 ∧ z8 ≤ 1 := by omega
theorem vc_X12_announce_4 {p1 z1 z8 : Int} (h0 : (z8 = 1 → 0 ≤ p1 ∧ p1 < z1)) (h1 : (z8 = 0 → p1 < 0 ∨ z1 ≤ p1)) (h2 : ¬ z8 = 0) (h3 : (-2147483648) ≤ p1 ∧ p1 ≤ 2147483647) (h4 : 0 ≤ z1 ∧ z1 ≤ 10) (h5 : 1 ≤ z8 ∧ z8 ≤ 1) : z8 = 1 := by omega
theorem vc_X12_announce_5 {p1 z1 z8 : Int} (h0 : 0 ≤ p1 ∧ p1 < z1) (h1 : (z8 = 1 → 0 ≤ p1 ∧ p1 < z1)) (h2 : (z8 = 0 → p1 < 0 ∨ z1 ≤ p1)) (h3 : (-2147483648) ≤ p1 ∧ p1 ≤ 2147483647) (h4 : 0 ≤ z1 ∧ z1 ≤ 10) (h5 : 1 ≤ z8 ∧ z8 ≤ 1) : 0 ≤ p1 ∧ p1 ≤ 9 := by omega
theorem vc_X12_announce_6 {p1 z1 z8 : Int} (h0 : 0 ≤ p1 ∧ p1 < z1) (h1 : (z8 = 1 → 0 ≤ p1 ∧ p1 < z1)) (h2 : (z8 = 0 → p1 < 0 ∨ z1 ≤ p1)) (h3 : 0 ≤ p1 ∧ p1 ≤ 9) (h4 : 0 ≤ z1 ∧ z1 ≤ 10) (h5 : 1 ≤ z8 ∧ z8 ≤ 1) : 1 ≤ z1 ∧ z1 ≤ 10 := by omega
theorem vc_X12_announce_7 {p2 z16 z23 : Int} (h0 : z23 = 0) (h1 : (z23 = 1 → 0 ≤ p2 ∧ p2 < z16)) (h2 : (z23 = 0 → p2 < 0 ∨ z16 ≤ p2)) (h3 : (-2147483648) ≤ p2 ∧ p2 ≤ 2147483647) (h4 : 0 ≤ z16 ∧ z16 ≤ 10) (h5 : 0 ≤ z23 ∧ z23 ≤ 1) : 0 ≤ z23 ∧ z23 ≤ 0 := by omega
theorem vc_X12_announce_8 {p2 z16 z23 : Int} (h0 : (z23 = 1 → 0 ≤ p2 ∧ p2 < z16)) (h1 : (z23 = 0 → p2 < 0 ∨ z16 ≤ p2)) (h2 : z23 = 0) (h3 : (-2147483648) ≤ p2 ∧ p2 ≤ 2147483647) (h4 : 0 ≤ z16 ∧ z16 ≤ 10) (h5 : 0 ≤ z23 ∧ z23 ≤ 0) : z23 = 0 := by omega
theorem vc_X12_announce_9 {p2 z16 z23 : Int} (h0 : ¬ z23 = 0) (h1 : (z23 = 1 → 0 ≤ p2 ∧ p2 < z16)) (h2 : (z23 = 0 → p2 < 0 ∨ z16 ≤ p2)) (h3 : (-2147483648) ≤ p2 ∧ p2 ≤ 2147483647) (h4 : 0 ≤ z16 ∧ z16 ≤ 10) (h5 : 0 ≤ z23 ∧ z23 ≤ 1) : 1 ≤ z23 ∧ z23 ≤ 1 := by omega
theorem vc_X12_announce_10 {p2 z16 z23 : Int} (h0 : (z23 = 1 → 0 ≤ p2 ∧ p2 < z16)) (h1 : (z23 = 0 → p2 < 0 ∨ z16 ≤ p2)) (h2 : ¬ z23 = 0) (h3 : (-2147483648) ≤ p2 ∧ p2 ≤ 2147483647) (h4 : 0 ≤ z16 ∧ z16 ≤ 10) (h5 : 1 ≤ z23 ∧ z23 ≤ 1) : z23 = 1 := by omega
theorem vc_X12_announce_11 {p2 z16 z23 : Int} (h0 : 0 ≤ p2 ∧ p2 < z16) (h1 : (z23 = 1 → 0 ≤ p2 ∧ p2 < z16)) (h2 : (z23 = 0 → p2 < 0 ∨ z16 ≤ p2)) (h3 : (-2147483648) ≤ p2 ∧ p2 ≤ 2147483647) (h4 : 0 ≤ z16 ∧ z16 ≤ 10) (h5 : 1 ≤ z23 ∧ z23 ≤ 1) : 0 ≤ p2 ∧ p2 ≤ 9 := by omega
theorem vc_X12_announce_12 {p3 z34 : Int} (h0 : ¬ z34 = 0) (h1 : (z34 = 1 → (0 : Int) ≤ p3 ∧ p3 ≤ (2 : Int))) (h2 : (z34 = 0 → p3 < (0 : Int) ∨ (2 : Int) < p3)) (h3 : (-2147483648) ≤ p3 ∧ p3 ≤ 2147483647) (h4 : 0 ≤ z34 ∧ z34 ≤ 1) : 1 ≤ z34 ∧ z34 ≤ 1 := by omega
theorem vc_X12_announce_13 {p3 z34 : Int} (h0 : (z34 = 1 → (0 : Int) ≤ p3 ∧ p3 ≤ (2 : Int))) (h1 : (z34 = 0 → p3 < (0 : Int) ∨ (2 : Int) < p3)) (h2 : ¬ z34 = 0) (h3 : (-2147483648) ≤ p3 ∧ p3 ≤ 2147483647) (h4 : 1 ≤ z34 ∧ z34 ≤ 1) : z34 = 1 := by omega
theorem vc_X12_announce_14 {p3 z34 : Int} (h0 : (0 : Int) ≤ p3 ∧ p3 ≤ (2 : Int)) (h1 : (z34 = 1 → (0 : Int) ≤ p3 ∧ p3 ≤ (2 : Int))) (h2 : (z34 = 0 → p3 < (0 : Int) ∨ (2 : Int) < p3)) (h3 : (-2147483648) ≤ p3 ∧ p3 ≤ 2147483647) (h4 : 1 ≤ z34 ∧ z34 ≤ 1) : 0 ≤ p3 ∧ p3 ≤ 2 := by omega
theorem vc_X12_announce_15 {p3 z34 z39 : Int} (h0 : z39 = p3) (h1 : (z34 = 1 → (0 : Int) ≤ p3 ∧ p3 ≤ (2 : Int))) (h2 : (z34 = 0 → p3 < (0 : Int) ∨ (2 : Int) < p3)) (h3 : (0 : Int) ≤ p3 ∧ p3 ≤ (2 : Int)) (h4 : 0 ≤ p3 ∧ p3 ≤ 2) (h5 : 1 ≤ z34 ∧ z34 ≤ 1) (h6 : (-1) ≤ z39 ∧ z39 ≤ 2) : 0 ≤ z39 ∧ z39 ≤ 2 := by omega
theorem vc_X12_announce_16 {p3 z34 : Int} (h0 : z34 = 0) (h1 : (z34 = 1 → (0 : Int) ≤ p3 ∧ p3 ≤ (2 : Int))) (h2 : (z34 = 0 → p3 < (0 : Int) ∨ (2 : Int) < p3)) (h3 : (-2147483648) ≤ p3 ∧ p3 ≤ 2147483647) (h4 : 0 ≤ z34 ∧ z34 ≤ 1) : 0 ≤ z34 ∧ z34 ≤ 0 := by omega
theorem vc_X12_announce_17 {p3 z34 : Int} (h0 : (z34 = 1 → (0 : Int) ≤ p3 ∧ p3 ≤ (2 : Int))) (h1 : (z34 = 0 → p3 < (0 : Int) ∨ (2 : Int) < p3)) (h2 : z34 = 0) (h3 : (-2147483648) ≤ p3 ∧ p3 ≤ 2147483647) (h4 : 0 ≤ z34 ∧ z34 ≤ 0) : z34 = 0 := by omega
set_option maxRecDepth 4000 in
set_option maxHeartbeats 4000000 in
theorem c_X12_announce {l : Launch} {D : va_G} {c : Nat → ClassId} {H0 : Heap} {sa : Nat × Nat × (Nat → Int32)} {w : mW} {μ : mM} (hw : mWF w) (hT : mT w μ) {p1 : Int} (hp1 : (-2147483648) ≤ p1 ∧ p1 ≤ 2147483647) {p2 : Int} (hp2 : (-2147483648) ≤ p2 ∧ p2 ≤ 2147483647) {p3 : Int} (hp3 : (-2147483648) ≤ p3 ∧ p3 ≤ 2147483647) (hIG1 : G1 μ) (hIPK : PK μ) : sC (gG l D c H0 sa) mX12_announce 16 0 0 [.ref 106, iv p1, iv p2, iv p3] (mk w μ) (qI w [106026, 106027, 106028, 106029, 106030, 106031, 106072, 126999, 151999, 152999, 153999, 155999, 156999, 157999, 158999, 159999, 160999, 161999, 162999, 165999] μ (fun z μ1 => ((-2147483648) ≤ z ∧ z ≤ 2147483647) ∧ G1 μ1 ∧ True)) := by
  refine sC.of rfl (by decide) (le_t rfl) ?_
  refine mr_lvE (lv' := [(0, .ref 106), (1, iv p1), (2, iv p2), (3, iv p3)]) rfl ?_
  refine sv_aload_n (pc := 0) dX12_announce_0 rfl rfl ?_
  refine mr_iload_n (pc := 1) (z := p1) dX12_announce_1 rfl rfl ?_
  obtain ⟨z1, q2⟩ : ∃ z, μ 106 5 = z := ⟨_, rfl⟩
  have h3 : (0 ≤ z1 ∧ z1 ≤ 10) := by rw [← q2]; exact hT 106 106 (A_106 hw) 5
  refine mr_cVP (pc := 2) (c_X12_isDomain hw hT hp1 q2) (gOk _ _ _ _ _) dX12_announce_2 (tX12_isDomain _ _ _ _ _) ⟨wV_X12_isDomain, wL_X12_isDomain⟩ wM_X12_49 (gCX12 _ _ _ _ _) rfl (A_106 hw) rfl ⟨le_t rfl, le_t rfl⟩ ⟨le_t rfl, le_t rfl⟩ rfl (le_t rfl) fun z8 h7 => ?_
  refine mr_if_eq (pc := 5) (tgt := 25) dX12_announce_5 (by decide) (r32 h7.1 rfl) (fun h9 => ?_) (fun h9 => ?_)
  · have h10 : 0 ≤ z8 ∧ z8 ≤ 0 := (vc_X12_announce_1 h9 h7.2.1 h7.2.2.1 hp1 h3 h7.1)
    have h11 : p1 < 0 ∨ z1 ≤ p1 := (h7.2.2.1 (vc_X12_announce_2 h7.2.1 h7.2.2.1 h9 hp1 h3 h10))
    refine mr_iconst (pc := 25) (z := (-1)) dX12_announce_25 ?_
    exact mr_iret dX12_announce_26 rfl (le_t rfl) (le_t rfl) hT mF.refl ⟨(rW (c := (-2147483648)) (d := 2147483647) (rR (x := (-1))) rfl), hIG1, trivial⟩
  have h12 : 1 ≤ z8 ∧ z8 ≤ 1 := (vc_X12_announce_3 h9 h7.2.1 h7.2.2.1 hp1 h3 h7.1)
  have h13 : 0 ≤ p1 ∧ p1 < z1 := (h7.2.1 (vc_X12_announce_4 h7.2.1 h7.2.2.1 h9 hp1 h3 h12))
  have h14 : 0 ≤ p1 ∧ p1 ≤ 9 := (vc_X12_announce_5 h13 h7.2.1 h7.2.2.1 hp1 h3 h12)
  have h15 : 1 ≤ z1 ∧ z1 ≤ 10 := (vc_X12_announce_6 h13 h7.2.1 h7.2.2.1 h14 h3 h12)
  refine sv_aload_n (pc := 8) dX12_announce_8 rfl rfl ?_
  refine mr_iload_n (pc := 9) (z := p2) dX12_announce_9 rfl rfl ?_
  obtain ⟨z16, q17⟩ : ∃ z, μ 106 2 = z := ⟨_, rfl⟩
  have h18 : (0 ≤ z16 ∧ z16 ≤ 10) := by rw [← q17]; exact hT 106 106 (A_106 hw) 2
  refine mr_cVP (pc := 10) (c_X12_isPrefix hw hT hp2 q17) (gOk _ _ _ _ _) dX12_announce_10 (tX12_isPrefix _ _ _ _ _) ⟨wV_X12_isPrefix, wL_X12_isPrefix⟩ wM_X12_92 (gCX12 _ _ _ _ _) rfl (A_106 hw) rfl ⟨le_t rfl, le_t rfl⟩ ⟨le_t rfl, le_t rfl⟩ rfl (le_t rfl) fun z23 h22 => ?_
  refine mr_if_eq (pc := 13) (tgt := 25) dX12_announce_13 (by decide) (r32 h22.1 rfl) (fun h24 => ?_) (fun h24 => ?_)
  · have h25 : 0 ≤ z23 ∧ z23 ≤ 0 := (vc_X12_announce_7 h24 h22.2.1 h22.2.2.1 hp2 h18 h22.1)
    have h26 : p2 < 0 ∨ z16 ≤ p2 := (h22.2.2.1 (vc_X12_announce_8 h22.2.1 h22.2.2.1 h24 hp2 h18 h25))
    refine mr_iconst (pc := 25) (z := (-1)) dX12_announce_25 ?_
    exact mr_iret dX12_announce_26 rfl (le_t rfl) (le_t rfl) hT mF.refl ⟨(rW (c := (-2147483648)) (d := 2147483647) (rR (x := (-1))) rfl), hIG1, trivial⟩
  have h27 : 1 ≤ z23 ∧ z23 ≤ 1 := (vc_X12_announce_9 h24 h22.2.1 h22.2.2.1 hp2 h18 h22.1)
  have h28 : 0 ≤ p2 ∧ p2 < z16 := (h22.2.1 (vc_X12_announce_10 h22.2.1 h22.2.2.1 h24 hp2 h18 h27))
  have h29 : 0 ≤ p2 ∧ p2 ≤ 9 := (vc_X12_announce_11 h28 h22.2.1 h22.2.2.1 hp2 h18 h27)
  refine mr_iload_n (pc := 16) (z := p3) dX12_announce_16 rfl rfl ?_
  refine mr_iconst (pc := 17) (z := 0) dX12_announce_17 ?_
  refine mr_iconst (pc := 18) (z := 2) dX12_announce_18 ?_
  refine mr_cSP (pc := 19) (c_X12_in hw hT hp3 (rW (c := (-2147483648)) (d := 2147483647) (rR (x := 0)) rfl) (rW (c := (-2147483648)) (d := 2147483647) (rR (x := 2)) rfl)) (gOk _ _ _ _ _) dX12_announce_19 (tX12_in _ _ _ _ _) wS_X12_in wM_X12_18 ⟨le_t rfl, le_t rfl⟩ ⟨le_t rfl, le_t rfl⟩ rfl (le_t rfl) fun z34 h33 => ?_
  refine mr_if_ne (pc := 22) (tgt := 27) dX12_announce_22 (by decide) (r32 h33.1 rfl) (fun h35 => ?_) (fun h35 => ?_)
  · have h36 : 1 ≤ z34 ∧ z34 ≤ 1 := (vc_X12_announce_12 h35 h33.2.1 h33.2.2.1 hp3 h33.1)
    have h37 : (0 : Int) ≤ p3 ∧ p3 ≤ (2 : Int) := (h33.2.1 (vc_X12_announce_13 h33.2.1 h33.2.2.1 h35 hp3 h36))
    have h38 : 0 ≤ p3 ∧ p3 ≤ 2 := (vc_X12_announce_14 h37 h33.2.1 h33.2.2.1 hp3 h36)
    refine mr_bipush (pc := 27) (z := 10) dX12_announce_27 (by decide) ?_
    refine mr_iload_n (pc := 29) (z := p1) dX12_announce_29 rfl rfl ?_
    refine mr_imul (pc := 30) (x := 10) (y := p1) dX12_announce_30 ?_
    refine mr_iload_n (pc := 31) (z := p2) dX12_announce_31 rfl rfl ?_
    refine mr_iadd (pc := 32) (x := (10 * p1)) (y := p2) dX12_announce_32 ?_
    refine mr_istore (pc := 33) (lv' := [(4, iv ((10 * p1) + p2)), (0, .ref 106), (1, iv p1), (2, iv p2), (3, iv p3)]) dX12_announce_33 (by decide) rfl ?_
    refine sv_aload_n (pc := 35) dX12_announce_35 rfl rfl ?_
    refine gf_X12_82 (pc := 36) dX12_announce_36 wF_X12_448 (A_106 hw) hT ?_
    refine mr_iload (pc := 39) (z := ((10 * p1) + p2)) dX12_announce_39 rfl ?_
    refine la_162 (pc := 41) dX12_announce_41 (A_162 hw) hT (rIx (n := 100) (rAdd (e := 0) (f := 99) (rMulL (n := 10) (e := 0) (f := 90) h14 rfl) h29 rfl) rfl) fun z39 q40 h41 => ?_
    refine mr_iload_n (pc := 42) (z := p3) dX12_announce_42 rfl rfl ?_
    refine mr_icmp_ne (pc := 43) (tgt := 49) dX12_announce_43 (by decide) (r32 h41 rfl) (r32 h38 rfl) (fun h42 => ?_) (fun h42 => ?_)
    · refine sv_aload_n (pc := 49) dX12_announce_49 rfl rfl ?_
      refine gf_X12_82 (pc := 50) dX12_announce_50 wF_X12_448 (A_106 hw) hT ?_
      refine mr_iload (pc := 53) (z := ((10 * p1) + p2)) dX12_announce_53 rfl ?_
      refine mr_iload_n (pc := 55) (z := p3) dX12_announce_55 rfl rfl ?_
      refine ss_162 (pc := 56) dX12_announce_56 (A_162 hw) hT (rIx (n := 100) (rAdd (e := 0) (f := 99) (rMulL (n := 10) (e := 0) (f := 90) h14 rfl) h29 rfl) rfl) (rW (c := (-1)) (d := 2) h38 rfl) fun μ43 u44 T45 => ?_
      refine sv_aload_n (pc := 57) dX12_announce_57 rfl rfl ?_
      refine mr_iload_n (pc := 58) (z := p1) dX12_announce_58 rfl rfl ?_
      refine mr_iload_n (pc := 59) (z := p2) dX12_announce_59 rfl rfl ?_
      refine mr_cVV (pc := 60) (c_X12_look hw T45 h14 h29 (G1.keep hIG1 hw ((mF.up mF.refl (A_162 hw) u44 rfl) : mF [162999] w μ μ43) rfl rfl ((mG.upO mG.refl u44 rfl) : mG [] μ μ43) (fun _ h => absurd h List.not_mem_nil)) (PK.keep hIPK hw ((mF.up mF.refl (A_162 hw) u44 rfl) : mF [162999] w μ μ43) rfl)) (gOk _ _ _ _ _) dX12_announce_60 (tX12_look _ _ _ _ _) ⟨wV_X12_look, wL_X12_look⟩ wM_X12_597 (gCX12 _ _ _ _ _) rfl (A_106 hw) rfl ⟨le_t rfl, le_t rfl⟩ ⟨le_t rfl, le_t rfl⟩ rfl (le_t rfl) fun μ46 T47 F48 h49 => ?_
      refine mr_iconst (pc := 63) (z := 0) dX12_announce_63 ?_
      exact mr_iret dX12_announce_64 rfl (le_t rfl) (le_t rfl) T47 (mF.call (mF.up mF.refl (A_162 hw) u44 rfl) F48 rfl) ⟨(rW (c := (-2147483648)) (d := 2147483647) (rR (x := 0)) rfl), h49.2.1, trivial⟩
    have h50 : 0 ≤ z39 ∧ z39 ≤ 2 := (vc_X12_announce_15 h42 h33.2.1 h33.2.2.1 h37 h38 h36 h41)
    refine mr_bipush (pc := 46) (z := (-2)) dX12_announce_46 (by decide) ?_
    exact mr_iret dX12_announce_48 rfl (le_t rfl) (le_t rfl) hT mF.refl ⟨(rW (c := (-2147483648)) (d := 2147483647) (rR (x := (-2))) rfl), hIG1, trivial⟩
  have h51 : 0 ≤ z34 ∧ z34 ≤ 0 := (vc_X12_announce_16 h35 h33.2.1 h33.2.2.1 hp3 h33.1)
  have h52 : p3 < (0 : Int) ∨ (2 : Int) < p3 := (h33.2.2.1 (vc_X12_announce_17 h33.2.1 h33.2.2.1 h35 hp3 h51))
  refine mr_iconst (pc := 25) (z := (-1)) dX12_announce_25 ?_
  exact mr_iret dX12_announce_26 rfl (le_t rfl) (le_t rfl) hT mF.refl ⟨(rW (c := (-2147483648)) (d := 2147483647) (rR (x := (-1))) rfl), hIG1, trivial⟩
theorem vc_X12_withdraw_1 {p1 z1 z8 : Int} (h0 : z8 = 0) (h1 : (z8 = 1 → 0 ≤ p1 ∧ p1 < z1)) (h2 : (z8 = 0 → p1 < 0 ∨ z1 ≤ p1)) (h3 : (-2147483648) ≤ p1 ∧ p1 ≤ 2147483647) (h4 : 0 ≤ z1 ∧ z1 ≤ 10) (h5 : 0 ≤ z8 ∧ z8 ≤ 1) : 0 ≤ z8 ∧ z8 ≤ 0 := by omega
theorem vc_X12_withdraw_2 {p1 z1 z8 : Int} (h0 : (z8 = 1 → 0 ≤ p1 ∧ p1 < z1)) (h1 : (z8 = 0 → p1 < 0 ∨ z1 ≤ p1)) (h2 : z8 = 0) (h3 : (-2147483648) ≤ p1 ∧ p1 ≤ 2147483647) (h4 : 0 ≤ z1 ∧ z1 ≤ 10) (h5 : 0 ≤ z8 ∧ z8 ≤ 0) : z8 = 0 := by omega
theorem vc_X12_withdraw_3 {p1 z1 z8 : Int} (h0 : ¬ z8 = 0) (h1 : (z8 = 1 → 0 ≤ p1 ∧ p1 < z1)) (h2 : (z8 = 0 → p1 < 0 ∨ z1 ≤ p1)) (h3 : (-2147483648) ≤ p1 ∧ p1 ≤ 2147483647) (h4 : 0 ≤ z1 ∧ z1 ≤ 10) (h5 : 0 ≤ z8 ∧ z8 ≤ 1) : 1 ≤ z8 ∧ z8 ≤ 1 := by omega
theorem vc_X12_withdraw_4 {p1 z1 z8 : Int} (h0 : (z8 = 1 → 0 ≤ p1 ∧ p1 < z1)) (h1 : (z8 = 0 → p1 < 0 ∨ z1 ≤ p1)) (h2 : ¬ z8 = 0) (h3 : (-2147483648) ≤ p1 ∧ p1 ≤ 2147483647) (h4 : 0 ≤ z1 ∧ z1 ≤ 10) (h5 : 1 ≤ z8 ∧ z8 ≤ 1) : z8 = 1 := by omega
theorem vc_X12_withdraw_5 {p1 z1 z8 : Int} (h0 : 0 ≤ p1 ∧ p1 < z1) (h1 : (z8 = 1 → 0 ≤ p1 ∧ p1 < z1)) (h2 : (z8 = 0 → p1 < 0 ∨ z1 ≤ p1)) (h3 : (-2147483648) ≤ p1 ∧ p1 ≤ 2147483647) (h4 : 0 ≤ z1 ∧ z1 ≤ 10) (h5 : 1 ≤ z8 ∧ z8 ≤ 1) : 0 ≤ p1 ∧ p1 ≤ 9 := by omega
theorem vc_X12_withdraw_6 {p1 z1 z8 : Int} (h0 : 0 ≤ p1 ∧ p1 < z1) (h1 : (z8 = 1 → 0 ≤ p1 ∧ p1 < z1)) (h2 : (z8 = 0 → p1 < 0 ∨ z1 ≤ p1)) (h3 : 0 ≤ p1 ∧ p1 ≤ 9) (h4 : 0 ≤ z1 ∧ z1 ≤ 10) (h5 : 1 ≤ z8 ∧ z8 ≤ 1) : 1 ≤ z1 ∧ z1 ≤ 10 := by omega
theorem vc_X12_withdraw_7 {p2 z16 z23 : Int} (h0 : ¬ z23 = 0) (h1 : (z23 = 1 → 0 ≤ p2 ∧ p2 < z16)) (h2 : (z23 = 0 → p2 < 0 ∨ z16 ≤ p2)) (h3 : (-2147483648) ≤ p2 ∧ p2 ≤ 2147483647) (h4 : 0 ≤ z16 ∧ z16 ≤ 10) (h5 : 0 ≤ z23 ∧ z23 ≤ 1) : 1 ≤ z23 ∧ z23 ≤ 1 := by omega
theorem vc_X12_withdraw_8 {p2 z16 z23 : Int} (h0 : (z23 = 1 → 0 ≤ p2 ∧ p2 < z16)) (h1 : (z23 = 0 → p2 < 0 ∨ z16 ≤ p2)) (h2 : ¬ z23 = 0) (h3 : (-2147483648) ≤ p2 ∧ p2 ≤ 2147483647) (h4 : 0 ≤ z16 ∧ z16 ≤ 10) (h5 : 1 ≤ z23 ∧ z23 ≤ 1) : z23 = 1 := by omega
theorem vc_X12_withdraw_9 {p2 z16 z23 : Int} (h0 : 0 ≤ p2 ∧ p2 < z16) (h1 : (z23 = 1 → 0 ≤ p2 ∧ p2 < z16)) (h2 : (z23 = 0 → p2 < 0 ∨ z16 ≤ p2)) (h3 : (-2147483648) ≤ p2 ∧ p2 ≤ 2147483647) (h4 : 0 ≤ z16 ∧ z16 ≤ 10) (h5 : 1 ≤ z23 ∧ z23 ≤ 1) : 0 ≤ p2 ∧ p2 ≤ 9 := by omega
theorem vc_X12_withdraw_10 {z28 : Int} (h0 : 0 ≤ z28) (h1 : (-1) ≤ z28 ∧ z28 ≤ 2) : 0 ≤ z28 ∧ z28 ≤ 2 := by omega
theorem vc_X12_withdraw_11 {z28 : Int} (h0 : z28 < 0) (h1 : (-1) ≤ z28 ∧ z28 ≤ 2) : (-1) ≤ z28 ∧ z28 ≤ (-1) := by omega
theorem vc_X12_withdraw_12 {p2 z16 z23 : Int} (h0 : z23 = 0) (h1 : (z23 = 1 → 0 ≤ p2 ∧ p2 < z16)) (h2 : (z23 = 0 → p2 < 0 ∨ z16 ≤ p2)) (h3 : (-2147483648) ≤ p2 ∧ p2 ≤ 2147483647) (h4 : 0 ≤ z16 ∧ z16 ≤ 10) (h5 : 0 ≤ z23 ∧ z23 ≤ 1) : 0 ≤ z23 ∧ z23 ≤ 0 := by omega
theorem vc_X12_withdraw_13 {p2 z16 z23 : Int} (h0 : (z23 = 1 → 0 ≤ p2 ∧ p2 < z16)) (h1 : (z23 = 0 → p2 < 0 ∨ z16 ≤ p2)) (h2 : z23 = 0) (h3 : (-2147483648) ≤ p2 ∧ p2 ≤ 2147483647) (h4 : 0 ≤ z16 ∧ z16 ≤ 10) (h5 : 0 ≤ z23 ∧ z23 ≤ 0) : z23 = 0 := by omega
set_option maxRecDepth 4000 in
set_option maxHeartbeats 4000000 in
theorem c_X12_withdraw {l : Launch} {D : va_G} {c : Nat → ClassId} {H0 : Heap} {sa : Nat × Nat × (Nat → Int32)} {w : mW} {μ : mM} (hw : mWF w) (hT : mT w μ) {p1 : Int} (hp1 : (-2147483648) ≤ p1 ∧ p1 ≤ 2147483647) {p2 : Int} (hp2 : (-2147483648) ≤ p2 ∧ p2 ≤ 2147483647) (hIG1 : G1 μ) (hIPK : PK μ) : sC (gG l D c H0 sa) mX12_withdraw 16 0 0 [.ref 106, iv p1, iv p2] (mk w μ) (qI w [106026, 106027, 106028, 106029, 106030, 106031, 106072, 126999, 151999, 152999, 153999, 155999, 156999, 157999, 158999, 159999, 160999, 161999, 162999, 165999] μ (fun z μ1 => ((-2147483648) ≤ z ∧ z ≤ 2147483647) ∧ G1 μ1 ∧ True)) := by
  refine sC.of rfl (by decide) (le_t rfl) ?_
  refine mr_lvE (lv' := [(0, .ref 106), (1, iv p1), (2, iv p2)]) rfl ?_
  refine sv_aload_n (pc := 0) dX12_withdraw_0 rfl rfl ?_
  refine mr_iload_n (pc := 1) (z := p1) dX12_withdraw_1 rfl rfl ?_
  obtain ⟨z1, q2⟩ : ∃ z, μ 106 5 = z := ⟨_, rfl⟩
  have h3 : (0 ≤ z1 ∧ z1 ≤ 10) := by rw [← q2]; exact hT 106 106 (A_106 hw) 5
  refine mr_cVP (pc := 2) (c_X12_isDomain hw hT hp1 q2) (gOk _ _ _ _ _) dX12_withdraw_2 (tX12_isDomain _ _ _ _ _) ⟨wV_X12_isDomain, wL_X12_isDomain⟩ wM_X12_49 (gCX12 _ _ _ _ _) rfl (A_106 hw) rfl ⟨le_t rfl, le_t rfl⟩ ⟨le_t rfl, le_t rfl⟩ rfl (le_t rfl) fun z8 h7 => ?_
  refine mr_if_eq (pc := 5) (tgt := 16) dX12_withdraw_5 (by decide) (r32 h7.1 rfl) (fun h9 => ?_) (fun h9 => ?_)
  · have h10 : 0 ≤ z8 ∧ z8 ≤ 0 := (vc_X12_withdraw_1 h9 h7.2.1 h7.2.2.1 hp1 h3 h7.1)
    have h11 : p1 < 0 ∨ z1 ≤ p1 := (h7.2.2.1 (vc_X12_withdraw_2 h7.2.1 h7.2.2.1 h9 hp1 h3 h10))
    refine mr_iconst (pc := 16) (z := (-1)) dX12_withdraw_16 ?_
    exact mr_iret dX12_withdraw_17 rfl (le_t rfl) (le_t rfl) hT mF.refl ⟨(rW (c := (-2147483648)) (d := 2147483647) (rR (x := (-1))) rfl), hIG1, trivial⟩
  have h12 : 1 ≤ z8 ∧ z8 ≤ 1 := (vc_X12_withdraw_3 h9 h7.2.1 h7.2.2.1 hp1 h3 h7.1)
  have h13 : 0 ≤ p1 ∧ p1 < z1 := (h7.2.1 (vc_X12_withdraw_4 h7.2.1 h7.2.2.1 h9 hp1 h3 h12))
  have h14 : 0 ≤ p1 ∧ p1 ≤ 9 := (vc_X12_withdraw_5 h13 h7.2.1 h7.2.2.1 hp1 h3 h12)
  have h15 : 1 ≤ z1 ∧ z1 ≤ 10 := (vc_X12_withdraw_6 h13 h7.2.1 h7.2.2.1 h14 h3 h12)
  refine sv_aload_n (pc := 8) dX12_withdraw_8 rfl rfl ?_
  refine mr_iload_n (pc := 9) (z := p2) dX12_withdraw_9 rfl rfl ?_
  obtain ⟨z16, q17⟩ : ∃ z, μ 106 2 = z := ⟨_, rfl⟩
  have h18 : (0 ≤ z16 ∧ z16 ≤ 10) := by rw [← q17]; exact hT 106 106 (A_106 hw) 2
  refine mr_cVP (pc := 10) (c_X12_isPrefix hw hT hp2 q17) (gOk _ _ _ _ _) dX12_withdraw_10 (tX12_isPrefix _ _ _ _ _) ⟨wV_X12_isPrefix, wL_X12_isPrefix⟩ wM_X12_92 (gCX12 _ _ _ _ _) rfl (A_106 hw) rfl ⟨le_t rfl, le_t rfl⟩ ⟨le_t rfl, le_t rfl⟩ rfl (le_t rfl) fun z23 h22 => ?_
  refine mr_if_ne (pc := 13) (tgt := 18) dX12_withdraw_13 (by decide) (r32 h22.1 rfl) (fun h24 => ?_) (fun h24 => ?_)
  · have h25 : 1 ≤ z23 ∧ z23 ≤ 1 := (vc_X12_withdraw_7 h24 h22.2.1 h22.2.2.1 hp2 h18 h22.1)
    have h26 : 0 ≤ p2 ∧ p2 < z16 := (h22.2.1 (vc_X12_withdraw_8 h22.2.1 h22.2.2.1 h24 hp2 h18 h25))
    have h27 : 0 ≤ p2 ∧ p2 ≤ 9 := (vc_X12_withdraw_9 h26 h22.2.1 h22.2.2.1 hp2 h18 h25)
    refine sv_aload_n (pc := 18) dX12_withdraw_18 rfl rfl ?_
    refine gf_X12_82 (pc := 19) dX12_withdraw_19 wF_X12_448 (A_106 hw) hT ?_
    refine mr_bipush (pc := 22) (z := 10) dX12_withdraw_22 (by decide) ?_
    refine mr_iload_n (pc := 24) (z := p1) dX12_withdraw_24 rfl rfl ?_
    refine mr_imul (pc := 25) (x := 10) (y := p1) dX12_withdraw_25 ?_
    refine mr_iload_n (pc := 26) (z := p2) dX12_withdraw_26 rfl rfl ?_
    refine mr_iadd (pc := 27) (x := (10 * p1)) (y := p2) dX12_withdraw_27 ?_
    refine la_162 (pc := 28) dX12_withdraw_28 (A_162 hw) hT (rIx (n := 100) (rAdd (e := 0) (f := 99) (rMulL (n := 10) (e := 0) (f := 90) h14 rfl) h27 rfl) rfl) fun z28 q29 h30 => ?_
    refine mr_if_ge (pc := 29) (tgt := 35) dX12_withdraw_29 (by decide) (r32 h30 rfl) (fun h31 => ?_) (fun h31 => ?_)
    · have h32 : 0 ≤ z28 ∧ z28 ≤ 2 := (vc_X12_withdraw_10 h31 h30)
      refine sv_aload_n (pc := 35) dX12_withdraw_35 rfl rfl ?_
      refine gf_X12_82 (pc := 36) dX12_withdraw_36 wF_X12_448 (A_106 hw) hT ?_
      refine mr_bipush (pc := 39) (z := 10) dX12_withdraw_39 (by decide) ?_
      refine mr_iload_n (pc := 41) (z := p1) dX12_withdraw_41 rfl rfl ?_
      refine mr_imul (pc := 42) (x := 10) (y := p1) dX12_withdraw_42 ?_
      refine mr_iload_n (pc := 43) (z := p2) dX12_withdraw_43 rfl rfl ?_
      refine mr_iadd (pc := 44) (x := (10 * p1)) (y := p2) dX12_withdraw_44 ?_
      refine mr_iconst (pc := 45) (z := (-1)) dX12_withdraw_45 ?_
      refine ss_162 (pc := 46) dX12_withdraw_46 (A_162 hw) hT (rIx (n := 100) (rAdd (e := 0) (f := 99) (rMulL (n := 10) (e := 0) (f := 90) h14 rfl) h27 rfl) rfl) (rW (c := (-1)) (d := 2) (rR (x := (-1))) rfl) fun μ33 u34 T35 => ?_
      refine sv_aload_n (pc := 47) dX12_withdraw_47 rfl rfl ?_
      refine mr_iload_n (pc := 48) (z := p1) dX12_withdraw_48 rfl rfl ?_
      refine mr_iload_n (pc := 49) (z := p2) dX12_withdraw_49 rfl rfl ?_
      refine mr_cVV (pc := 50) (c_X12_look hw T35 h14 h27 (G1.keep hIG1 hw ((mF.up mF.refl (A_162 hw) u34 rfl) : mF [162999] w μ μ33) rfl rfl ((mG.upO mG.refl u34 rfl) : mG [] μ μ33) (fun _ h => absurd h List.not_mem_nil)) (PK.keep hIPK hw ((mF.up mF.refl (A_162 hw) u34 rfl) : mF [162999] w μ μ33) rfl)) (gOk _ _ _ _ _) dX12_withdraw_50 (tX12_look _ _ _ _ _) ⟨wV_X12_look, wL_X12_look⟩ wM_X12_597 (gCX12 _ _ _ _ _) rfl (A_106 hw) rfl ⟨le_t rfl, le_t rfl⟩ ⟨le_t rfl, le_t rfl⟩ rfl (le_t rfl) fun μ36 T37 F38 h39 => ?_
      refine mr_iconst (pc := 53) (z := 0) dX12_withdraw_53 ?_
      exact mr_iret dX12_withdraw_54 rfl (le_t rfl) (le_t rfl) T37 (mF.call (mF.up mF.refl (A_162 hw) u34 rfl) F38 rfl) ⟨(rW (c := (-2147483648)) (d := 2147483647) (rR (x := 0)) rfl), h39.2.1, trivial⟩
    have h40 : (-1) ≤ z28 ∧ z28 ≤ (-1) := (vc_X12_withdraw_11 h31 h30)
    refine mr_bipush (pc := 32) (z := (-2)) dX12_withdraw_32 (by decide) ?_
    exact mr_iret dX12_withdraw_34 rfl (le_t rfl) (le_t rfl) hT mF.refl ⟨(rW (c := (-2147483648)) (d := 2147483647) (rR (x := (-2))) rfl), hIG1, trivial⟩
  have h41 : 0 ≤ z23 ∧ z23 ≤ 0 := (vc_X12_withdraw_12 h24 h22.2.1 h22.2.2.1 hp2 h18 h22.1)
  have h42 : p2 < 0 ∨ z16 ≤ p2 := (h22.2.2.1 (vc_X12_withdraw_13 h22.2.1 h22.2.2.1 h24 hp2 h18 h41))
  refine mr_iconst (pc := 16) (z := (-1)) dX12_withdraw_16 ?_
  exact mr_iret dX12_withdraw_17 rfl (le_t rfl) (le_t rfl) hT mF.refl ⟨(rW (c := (-2147483648)) (d := 2147483647) (rR (x := (-1))) rfl), hIG1, trivial⟩
theorem vc_X12_raise_1 {p1 z1 z8 : Int} (h0 : ¬ z8 = 0) (h1 : (z8 = 1 → 0 ≤ p1 ∧ p1 < z1)) (h2 : (z8 = 0 → p1 < 0 ∨ z1 ≤ p1)) (h3 : (-2147483648) ≤ p1 ∧ p1 ≤ 2147483647) (h4 : 0 ≤ z1 ∧ z1 ≤ 20) (h5 : 0 ≤ z8 ∧ z8 ≤ 1) : 1 ≤ z8 ∧ z8 ≤ 1 := by omega
theorem vc_X12_raise_2 {p1 z1 z8 : Int} (h0 : (z8 = 1 → 0 ≤ p1 ∧ p1 < z1)) (h1 : (z8 = 0 → p1 < 0 ∨ z1 ≤ p1)) (h2 : ¬ z8 = 0) (h3 : (-2147483648) ≤ p1 ∧ p1 ≤ 2147483647) (h4 : 0 ≤ z1 ∧ z1 ≤ 20) (h5 : 1 ≤ z8 ∧ z8 ≤ 1) : z8 = 1 := by omega
theorem vc_X12_raise_3 {p1 z1 z8 : Int} (h0 : 0 ≤ p1 ∧ p1 < z1) (h1 : (z8 = 1 → 0 ≤ p1 ∧ p1 < z1)) (h2 : (z8 = 0 → p1 < 0 ∨ z1 ≤ p1)) (h3 : (-2147483648) ≤ p1 ∧ p1 ≤ 2147483647) (h4 : 0 ≤ z1 ∧ z1 ≤ 20) (h5 : 1 ≤ z8 ∧ z8 ≤ 1) : 0 ≤ p1 ∧ p1 ≤ 19 := by omega
theorem vc_X12_raise_4 {p1 z1 z8 : Int} (h0 : 0 ≤ p1 ∧ p1 < z1) (h1 : (z8 = 1 → 0 ≤ p1 ∧ p1 < z1)) (h2 : (z8 = 0 → p1 < 0 ∨ z1 ≤ p1)) (h3 : 0 ≤ p1 ∧ p1 ≤ 19) (h4 : 0 ≤ z1 ∧ z1 ≤ 20) (h5 : 1 ≤ z8 ∧ z8 ≤ 1) : 1 ≤ z1 ∧ z1 ≤ 20 := by omega
theorem vc_X12_raise_5 {p2 : Int} (h0 : ¬ p2 = 0) (h1 : 0 ≤ p2 ∧ p2 ≤ 1) : 1 ≤ p2 ∧ p2 ≤ 1 := by omega
theorem vc_X12_raise_6 {p2 : Int} (h0 : p2 = 0) (h1 : 1 ≤ p2 ∧ p2 ≤ 1) : False := by omega
theorem vc_X12_raise_7 {p1 z1 z8 : Int} (h0 : (z8 = 1 → 0 ≤ p1 ∧ p1 < z1)) (h1 : (z8 = 0 → p1 < 0 ∨ z1 ≤ p1)) (h2 : 0 ≤ p1 ∧ p1 < z1) (h3 : ¬ z8 = 0) (h4 : 0 ≤ p1 ∧ p1 ≤ 19) (h5 : 1 ≤ z1 ∧ z1 ≤ 20) (h6 : 1 ≤ z8 ∧ z8 ≤ 1) : p1 < z1 := by omega
theorem vc_X12_raise_8 {z27 z30 : Int} (h0 : 0 ≤ z27 ∧ z27 ≤ 9) (h1 : 0 ≤ z30 ∧ z30 ≤ 9) : z27 = z27 ∨ z30 = z27 := by omega
theorem vc_X12_raise_9 {z27 z30 : Int} (h0 : 0 ≤ z27 ∧ z27 ≤ 9) (h1 : 0 ≤ z30 ∧ z30 ≤ 9) : z27 = z30 ∨ z30 = z30 := by omega
theorem vc_X12_raise_10 {p2 : Int} (h0 : p2 = 0) (h1 : 0 ≤ p2 ∧ p2 ≤ 1) : 0 ≤ p2 ∧ p2 ≤ 0 := by omega
theorem vc_X12_raise_11 {z19 : Int} (h0 : ¬ z19 = 0) (h1 : 0 ≤ z19 ∧ z19 ≤ 1) : 1 ≤ z19 ∧ z19 ≤ 1 := by omega
theorem vc_X12_raise_12 {p2 : Int} (h0 : ¬ p2 = 0) (h1 : 0 ≤ p2 ∧ p2 ≤ 0) : False := by omega
theorem vc_X12_raise_13 {p1 z1 z51 z8 : Int} (h0 : z51 = (((20 * p1) + (10 * 0)) + 0)) (h1 : (z8 = 1 → 0 ≤ p1 ∧ p1 < z1)) (h2 : (z8 = 0 → p1 < 0 ∨ z1 ≤ p1)) (h3 : 0 ≤ p1 ∧ p1 < z1) (h4 : 0 ≤ p1 ∧ p1 ≤ 19) (h5 : 1 ≤ z1 ∧ z1 ≤ 20) (h6 : 0 ≤ z51 ∧ z51 ≤ 449) (h7 : 1 ≤ z8 ∧ z8 ≤ 1) : 0 ≤ z51 ∧ z51 ≤ 380 := by omega
theorem vc_X12_raise_14 {z328 : Int} (h0 : (401 - z328) < ((0 : Nat) : Int)) (h1 : 0 ≤ z328 ∧ z328 ≤ 400) : False := by omega
theorem vc_X12_raise_15 {p1 z1 z343 z51 z8 : Int} (h0 : z343 = (((20 * p1) + (10 * 2)) + 0)) (h1 : (z8 = 1 → 0 ≤ p1 ∧ p1 < z1)) (h2 : (z8 = 0 → p1 < 0 ∨ z1 ≤ p1)) (h3 : 0 ≤ p1 ∧ p1 < z1) (h4 : z51 = (((20 * p1) + (10 * 0)) + 0)) (h5 : 0 ≤ p1 ∧ p1 ≤ 19) (h6 : 1 ≤ z1 ∧ z1 ≤ 20) (h7 : 0 ≤ z343 ∧ z343 ≤ 449) (h8 : 0 ≤ z51 ∧ z51 ≤ 380) (h9 : 1 ≤ z8 ∧ z8 ≤ 1) : 20 ≤ z343 ∧ z343 ≤ 400 := by omega
theorem vc_X12_raise_16 {p1 z328 z343 : Int} (h0 : z343 ≤ z328) (h1 : z343 = (((20 * p1) + (10 * 2)) + 0)) (h2 : 0 ≤ p1 ∧ p1 ≤ 19) (h3 : 0 ≤ z328 ∧ z328 ≤ 400) (h4 : 20 ≤ z343 ∧ z343 ≤ 400) : 20 ≤ z328 ∧ z328 ≤ 400 := by omega
theorem vc_X12_raise_17 {p1 z328 z343 : Int} (h0 : z328 < z343) (h1 : z343 = (((20 * p1) + (10 * 2)) + 0)) (h2 : 0 ≤ p1 ∧ p1 ≤ 19) (h3 : 0 ≤ z328 ∧ z328 ≤ 400) (h4 : 20 ≤ z343 ∧ z343 ≤ 400) : 0 ≤ z328 ∧ z328 ≤ 399 := by omega
theorem vc_X12_raise_18 {p1 z328 z343 : Int} (h0 : z328 < z343) (h1 : z343 = (((20 * p1) + (10 * 2)) + 0)) (h2 : 0 ≤ p1 ∧ p1 ≤ 19) (h3 : 0 ≤ z328 ∧ z328 ≤ 399) (h4 : 20 ≤ z343 ∧ z343 ≤ 400) : 0 ≤ (40 * (130 + z328)) := by omega
theorem vc_X12_raise_19 {p1 z328 z343 : Int} (h0 : z328 < z343) (h1 : z343 = (((20 * p1) + (10 * 2)) + 0)) (h2 : 0 ≤ p1 ∧ p1 ≤ 19) (h3 : 0 ≤ z328 ∧ z328 ≤ 399) (h4 : 20 ≤ z343 ∧ z343 ≤ 400) : (40 * (130 + z328)) % 40 = 0 := by omega
theorem vc_X12_raise_20 {z399 : Int} (h0 : z399 = -1) (h1 : (-1) ≤ z399 ∧ z399 ≤ 9) : (-1) ≤ z399 ∧ z399 ≤ (-1) := by omega
theorem vc_X12_raise_21 {p1 z328 z343 : Int} (h0 : z328 < z343) (h1 : z343 = (((20 * p1) + (10 * 2)) + 0)) (h2 : 0 ≤ p1 ∧ p1 ≤ 19) (h3 : 0 ≤ z328 ∧ z328 ≤ 399) (h4 : 20 ≤ z343 ∧ z343 ≤ 400) : 0 ≤ (40 * (530 + z328)) := by omega
theorem vc_X12_raise_22 {p1 z328 z343 : Int} (h0 : z328 < z343) (h1 : z343 = (((20 * p1) + (10 * 2)) + 0)) (h2 : 0 ≤ p1 ∧ p1 ≤ 19) (h3 : 0 ≤ z328 ∧ z328 ≤ 399) (h4 : 20 ≤ z343 ∧ z343 ≤ 400) : (40 * (530 + z328)) % 40 = 0 := by omega
theorem vc_X12_raise_23 {z410 : Int} (h0 : z410 = -1) (h1 : (-1) ≤ z410 ∧ z410 ≤ 9) : (-1) ≤ z410 ∧ z410 ≤ (-1) := by omega
theorem vc_X12_raise_24 {N p1 z328 z343 : Int} (h0 : (401 - z328) < N + 1) (h1 : z328 < z343) (h2 : z343 = (((20 * p1) + (10 * 2)) + 0)) (h3 : 0 ≤ p1 ∧ p1 ≤ 19) (h4 : 0 ≤ z328 ∧ z328 ≤ 399) (h5 : 20 ≤ z343 ∧ z343 ≤ 400) : (401 - (z328 + 1)) < N := by omega
theorem vc_X12_raise_25 {p1 z328 z343 : Int} (h0 : z328 < z343) (h1 : z343 = (((20 * p1) + (10 * 2)) + 0)) (h2 : 0 ≤ p1 ∧ p1 ≤ 19) (h3 : 0 ≤ z328 ∧ z328 ≤ 399) (h4 : 20 ≤ z343 ∧ z343 ≤ 400) : (40 * (130 + z328)) ≤ (40 * (130 + z328)) ∧ ((40 * (130 + z328)) + 1) ≤ ((40 * (130 + z328)) + 1) := by omega
theorem vc_X12_raise_26 {p1 z328 z343 : Int} (h0 : z328 < z343) (h1 : z343 = (((20 * p1) + (10 * 2)) + 0)) (h2 : 0 ≤ p1 ∧ p1 ≤ 19) (h3 : 0 ≤ z328 ∧ z328 ≤ 399) (h4 : 20 ≤ z343 ∧ z343 ≤ 400) : (40 * (530 + z328)) ≤ (40 * (530 + z328)) ∧ ((40 * (530 + z328)) + 1) ≤ ((40 * (530 + z328)) + 1) := by omega
theorem vc_X12_raise_27 {p1 z328 z343 : Int} (h0 : z328 < z343) (h1 : z343 = (((20 * p1) + (10 * 2)) + 0)) (h2 : 0 ≤ p1 ∧ p1 ≤ 19) (h3 : 0 ≤ z328 ∧ z328 ≤ 399) (h4 : 20 ≤ z343 ∧ z343 ≤ 400) : (1 ≤ (40 * (530 + z328)) ∧ ((40 * (530 + z328)) + 1) ≤ 1200) ∨ 5200 ≤ (40 * (530 + z328)) := by omega
theorem vc_X12_raise_28 {p1 z328 z343 : Int} (h0 : z328 < z343) (h1 : z343 = (((20 * p1) + (10 * 2)) + 0)) (h2 : 0 ≤ p1 ∧ p1 ≤ 19) (h3 : 0 ≤ z328 ∧ z328 ≤ 399) (h4 : 20 ≤ z343 ∧ z343 ≤ 400) : (1 ≤ (40 * (130 + z328)) ∧ ((40 * (130 + z328)) + 1) ≤ 1200) ∨ 5200 ≤ (40 * (130 + z328)) := by omega
theorem vc_X12_raise_29 {p1 z1 z51 z8 : Int} (h0 : z51 = (((20 * p1) + (10 * 0)) + 0)) (h1 : (z8 = 1 → 0 ≤ p1 ∧ p1 < z1)) (h2 : (z8 = 0 → p1 < 0 ∨ z1 ≤ p1)) (h3 : 0 ≤ p1 ∧ p1 < z1) (h4 : 0 ≤ p1 ∧ p1 ≤ 19) (h5 : 1 ≤ z1 ∧ z1 ≤ 20) (h6 : 0 ≤ z51 ∧ z51 ≤ 380) (h7 : 1 ≤ z8 ∧ z8 ≤ 1) : (401 - z51) < ((402 : Nat) : Int) := by omega
theorem vc_X12_raise_30 {z19 : Int} (h0 : z19 = 0) (h1 : 0 ≤ z19 ∧ z19 ≤ 1) : 0 ≤ z19 ∧ z19 ≤ 0 := by omega
theorem vc_X12_raise_31 {z14 : Int} (h0 : z14 = 0) (h1 : 0 ≤ z14 ∧ z14 ≤ 1) : 0 ≤ z14 ∧ z14 ≤ 0 := by omega
theorem vc_X12_raise_32 {z14 : Int} (h0 : ¬ z14 = 0) (h1 : 0 ≤ z14 ∧ z14 ≤ 1) : 1 ≤ z14 ∧ z14 ≤ 1 := by omega
theorem vc_X12_raise_33 {p1 z1 z8 : Int} (h0 : z8 = 0) (h1 : (z8 = 1 → 0 ≤ p1 ∧ p1 < z1)) (h2 : (z8 = 0 → p1 < 0 ∨ z1 ≤ p1)) (h3 : (-2147483648) ≤ p1 ∧ p1 ≤ 2147483647) (h4 : 0 ≤ z1 ∧ z1 ≤ 20) (h5 : 0 ≤ z8 ∧ z8 ≤ 1) : 0 ≤ z8 ∧ z8 ≤ 0 := by omega
theorem vc_X12_raise_34 {p1 z1 z8 : Int} (h0 : (z8 = 1 → 0 ≤ p1 ∧ p1 < z1)) (h1 : (z8 = 0 → p1 < 0 ∨ z1 ≤ p1)) (h2 : z8 = 0) (h3 : (-2147483648) ≤ p1 ∧ p1 ≤ 2147483647) (h4 : 0 ≤ z1 ∧ z1 ≤ 20) (h5 : 0 ≤ z8 ∧ z8 ≤ 0) : z8 = 0 := by omega
set_option maxRecDepth 4000 in
set_option maxHeartbeats 4000000 in
theorem c_X12_raise {l : Launch} {D : va_G} {c : Nat → ClassId} {H0 : Heap} {sa : Nat × Nat × (Nat → Int32)} {w : mW} {μ : mM} (hw : mWF w) (hT : mT w μ) {p1 : Int} (hp1 : (-2147483648) ≤ p1 ∧ p1 ≤ 2147483647) {p2 : Int} (hp2 : 0 ≤ p2 ∧ p2 ≤ 1) (hIG1 : G1 μ) (hIPK : PK μ) : sC (gG l D c H0 sa) mX12_raise 17 0 0 [.ref 106, iv p1, iv p2] (mk w μ) (qI w [106026, 106027, 106028, 106029, 106030, 106031, 106072, 112999, 126999, 151999, 152999, 153999, 155999, 156999, 157999, 158999, 159999, 160999, 161999, 165999] μ (fun z μ1 => ((-2147483648) ≤ z ∧ z ≤ 2147483647) ∧ G1 μ1 ∧ True)) := by
  refine sC.of rfl (by decide) (le_t rfl) ?_
  refine mr_lvE (lv' := [(0, .ref 106), (1, iv p1), (2, iv p2)]) rfl ?_
  refine sv_aload_n (pc := 0) dX12_raise_0 rfl rfl ?_
  refine mr_iload_n (pc := 1) (z := p1) dX12_raise_1 rfl rfl ?_
  obtain ⟨z1, q2⟩ : ∃ z, μ 106 6 = z := ⟨_, rfl⟩
  have h3 : (0 ≤ z1 ∧ z1 ≤ 20) := by rw [← q2]; exact hT 106 106 (A_106 hw) 6
  refine mr_cVP (pc := 2) (c_X12_isTie hw hT hp1 q2) (gOk _ _ _ _ _) dX12_raise_2 (tX12_isTie _ _ _ _ _) ⟨wV_X12_isTie, wL_X12_isTie⟩ wM_X12_66 (gCX12 _ _ _ _ _) rfl (A_106 hw) rfl ⟨le_t rfl, le_t rfl⟩ ⟨le_t rfl, le_t rfl⟩ rfl (le_t rfl) fun z8 h7 => ?_
  refine mr_if_ne (pc := 5) (tgt := 10) dX12_raise_5 (by decide) (r32 h7.1 rfl) (fun h9 => ?_) (fun h9 => ?_)
  · have h10 : 1 ≤ z8 ∧ z8 ≤ 1 := (vc_X12_raise_1 h9 h7.2.1 h7.2.2.1 hp1 h3 h7.1)
    have h11 : 0 ≤ p1 ∧ p1 < z1 := (h7.2.1 (vc_X12_raise_2 h7.2.1 h7.2.2.1 h9 hp1 h3 h10))
    have h12 : 0 ≤ p1 ∧ p1 ≤ 19 := (vc_X12_raise_3 h11 h7.2.1 h7.2.2.1 hp1 h3 h10)
    have h13 : 1 ≤ z1 ∧ z1 ≤ 20 := (vc_X12_raise_4 h11 h7.2.1 h7.2.2.1 h12 h3 h10)
    refine sv_aload_n (pc := 10) dX12_raise_10 rfl rfl ?_
    refine gf_X12_9 (pc := 11) dX12_raise_11 wF_X12_53 (A_106 hw) hT ?_
    refine mr_iload_n (pc := 14) (z := p1) dX12_raise_14 rfl rfl ?_
    refine la_112 (pc := 15) dX12_raise_15 (A_112 hw) hT (rIx (n := 20) h12 rfl) fun z14 q15 h16 => ?_
    have J21 : ∀ (z19 : Int), ((0 ≤ z19 ∧ z19 ≤ 1)) → sV (gG l D c H0 sa) mX12_raise (sRm 17 0 0) (sZ (gG l D c H0 sa) 0 0 (qI w [106026, 106027, 106028, 106029, 106030, 106031, 106072, 112999, 126999, 151999, 152999, 153999, 155999, 156999, 157999, 158999, 159999, 160999, 161999, 165999] μ (fun z μ1 => ((-2147483648) ≤ z ∧ z ≤ 2147483647) ∧ G1 μ1 ∧ True))) 24 [(0, .ref 106), (1, iv p1), (2, iv p2)] [iv z19] (mk w μ) 0 0 := by
      intro z19 h20
      refine mr_istore_n (pc := 24) (lv' := [(3, iv z19), (0, .ref 106), (1, iv p1), (2, iv p2)]) dX12_raise_24 rfl (by decide) rfl ?_
      refine mr_iload_n (pc := 25) (z := p2) dX12_raise_25 rfl rfl ?_
      refine mr_if_ne (pc := 26) (tgt := 35) dX12_raise_26 (by decide) (r32 hp2 rfl) (fun h22 => ?_) (fun h22 => ?_)
      · have h23 : 1 ≤ p2 ∧ p2 ≤ 1 := (vc_X12_raise_5 h22 hp2)
        refine sv_aload_n (pc := 35) dX12_raise_35 rfl rfl ?_
        refine gf_X12_9 (pc := 36) dX12_raise_36 wF_X12_53 (A_106 hw) hT ?_
        refine mr_iload_n (pc := 39) (z := p1) dX12_raise_39 rfl rfl ?_
        refine mr_iload_n (pc := 40) (z := p2) dX12_raise_40 rfl rfl ?_
        refine ss_112 (pc := 41) dX12_raise_41 (A_112 hw) hT (rIx (n := 20) h12 rfl) (rW (c := 0) (d := 1) h23 rfl) fun μ24 u25 T26 => ?_
        refine mr_iload_n (pc := 42) (z := p2) dX12_raise_42 rfl rfl ?_
        refine mr_if_eq (pc := 43) (tgt := 76) dX12_raise_43 (by decide) (r32 h23 rfl) (fun h => ((vc_X12_raise_6 h h23)).elim) (fun _ => ?_)
        refine sv_aload_n (pc := 46) dX12_raise_46 rfl rfl ?_
        refine sv_aload_n (pc := 47) dX12_raise_47 rfl rfl ?_
        refine gf_X12_7 (pc := 48) dX12_raise_48 wF_X12_40 (A_106 hw) T26 ?_
        refine mr_iconst (pc := 51) (z := 2) dX12_raise_51 ?_
        refine mr_iload_n (pc := 52) (z := p1) dX12_raise_52 rfl rfl ?_
        refine mr_imul (pc := 53) (x := 2) (y := p1) dX12_raise_53 ?_
        refine la_110 (pc := 54) dX12_raise_54 (A_110 hw) T26 (rIx (n := 40) (rMulL (n := 2) (e := 0) (f := 38) h12 rfl) rfl) fun z27 q28 h29 => ?_
        refine mr_iload_n (pc := 55) (z := p1) dX12_raise_55 rfl rfl ?_
        obtain ⟨z30, q31⟩ : ∃ z, μ24 110 (((2 * p1) + 1).toNat) = z := ⟨_, rfl⟩
        have h32 : (0 ≤ z30 ∧ z30 ≤ 9) := by rw [← q31]; exact T26 110 110 (A_110 hw) (((2 * p1) + 1).toNat)
        refine mr_cVV (pc := 56) (c_X12_sayAll hw T26 h29 h12 q28 q31 (u25.f (Or.inl (mAt.ne (A_112 hw) (A_106 hw) rfl)) q2) (vc_X12_raise_7 h7.2.1 h7.2.2.1 h11 h9 h12 h13 h10) (vc_X12_raise_8 h29 h32) (G1.keep hIG1 hw ((mF.up mF.refl (A_112 hw) u25 rfl) : mF [112999] w μ μ24) rfl rfl ((mG.upO mG.refl u25 rfl) : mG [] μ μ24) (fun _ h => absurd h List.not_mem_nil)) (PK.keep hIPK hw ((mF.up mF.refl (A_112 hw) u25 rfl) : mF [112999] w μ μ24) rfl)) (gOk _ _ _ _ _) dX12_raise_56 (tX12_sayAll _ _ _ _ _) ⟨wV_X12_sayAll, wL_X12_sayAll⟩ wM_X12_603 (gCX12 _ _ _ _ _) rfl (A_106 hw) rfl ⟨le_t rfl, le_t rfl⟩ ⟨le_t rfl, le_t rfl⟩ rfl (le_t rfl) fun μ33 T34 F35 h36 => ?_
        refine sv_aload_n (pc := 59) dX12_raise_59 rfl rfl ?_
        refine sv_aload_n (pc := 60) dX12_raise_60 rfl rfl ?_
        refine gf_X12_7 (pc := 61) dX12_raise_61 wF_X12_40 (A_106 hw) T34 ?_
        refine mr_iconst (pc := 64) (z := 2) dX12_raise_64 ?_
        refine mr_iload_n (pc := 65) (z := p1) dX12_raise_65 rfl rfl ?_
        refine mr_imul (pc := 66) (x := 2) (y := p1) dX12_raise_66 ?_
        refine mr_iconst (pc := 67) (z := 1) dX12_raise_67 ?_
        refine mr_iadd (pc := 68) (x := (2 * p1)) (y := 1) dX12_raise_68 ?_
        refine lk_110 (pc := 69) dX12_raise_69 (A_110 hw) (rIx (n := 40) (rAdd (e := 1) (f := 39) (rMulL (n := 2) (e := 0) (f := 38) h12 rfl) (rR (x := 1)) rfl) rfl) (F35.f (A_110 hw) rfl q31) ?_
        refine mr_iload_n (pc := 70) (z := p1) dX12_raise_70 rfl rfl ?_
        refine mr_cVV (pc := 71) (c_X12_sayAll hw T34 h32 h12 (F35.f (A_110 hw) rfl q28) (F35.f (A_110 hw) rfl q31) (F35.f (A_106 hw) rfl (u25.f (Or.inl (mAt.ne (A_112 hw) (A_106 hw) rfl)) q2)) (vc_X12_raise_7 h7.2.1 h7.2.2.1 h11 h9 h12 h13 h10) (vc_X12_raise_9 h29 h32) h36.2.1 (PK.keep hIPK hw ((mF.call (mF.up mF.refl (A_112 hw) u25 rfl) F35 rfl) : mF [106026, 106027, 106028, 106029, 106030, 106031, 106072, 112999, 126999, 151999, 152999, 153999, 155999, 156999, 157999, 158999, 159999, 160999] w μ μ33) rfl)) (gOk _ _ _ _ _) dX12_raise_71 (tX12_sayAll _ _ _ _ _) ⟨wV_X12_sayAll, wL_X12_sayAll⟩ wM_X12_603 (gCX12 _ _ _ _ _) rfl (A_106 hw) rfl ⟨le_t rfl, le_t rfl⟩ ⟨le_t rfl, le_t rfl⟩ rfl (le_t rfl) fun μ37 T38 F39 h40 => ?_
        refine mr_iload_n (pc := 74) (z := z19) dX12_raise_74 rfl rfl ?_
        exact mr_iret dX12_raise_75 rfl (le_t rfl) (le_t rfl) T38 (mF.call (mF.call (mF.up mF.refl (A_112 hw) u25 rfl) F35 rfl) F39 rfl) ⟨(rW (c := (-2147483648)) (d := 2147483647) h20 rfl), h40.2.1, trivial⟩
      have h41 : 0 ≤ p2 ∧ p2 ≤ 0 := (vc_X12_raise_10 h22 hp2)
      refine mr_iload_n (pc := 29) (z := z19) dX12_raise_29 rfl rfl ?_
      refine mr_if_ne (pc := 30) (tgt := 35) dX12_raise_30 (by decide) (r32 h20 rfl) (fun h42 => ?_) (fun h42 => ?_)
      · have h43 : 1 ≤ z19 ∧ z19 ≤ 1 := (vc_X12_raise_11 h42 h20)
        refine sv_aload_n (pc := 35) dX12_raise_35 rfl rfl ?_
        refine gf_X12_9 (pc := 36) dX12_raise_36 wF_X12_53 (A_106 hw) hT ?_
        refine mr_iload_n (pc := 39) (z := p1) dX12_raise_39 rfl rfl ?_
        refine mr_iload_n (pc := 40) (z := p2) dX12_raise_40 rfl rfl ?_
        refine ss_112 (pc := 41) dX12_raise_41 (A_112 hw) hT (rIx (n := 20) h12 rfl) (rW (c := 0) (d := 1) h41 rfl) fun μ44 u45 T46 => ?_
        refine mr_iload_n (pc := 42) (z := p2) dX12_raise_42 rfl rfl ?_
        refine mr_if_eq (pc := 43) (tgt := 76) dX12_raise_43 (by decide) (r32 h41 rfl) (fun _ => ?_) (fun h => ((vc_X12_raise_12 h h41)).elim)
        refine mr_iload_n (pc := 76) (z := p1) dX12_raise_76 rfl rfl ?_
        refine mr_iconst (pc := 77) (z := 0) dX12_raise_77 ?_
        refine mr_iconst (pc := 78) (z := 0) dX12_raise_78 ?_
        refine mr_cSP (pc := 79) (c_X12_slot hw T46 (rW (c := 0) (d := 20) h12 rfl) (rW (c := 0) (d := 2) (rR (x := 0)) rfl) (rW (c := 0) (d := 9) (rR (x := 0)) rfl)) (gOk _ _ _ _ _) dX12_raise_79 (tX12_slot _ _ _ _ _) wS_X12_slot wM_X12_545 ⟨le_t rfl, le_t rfl⟩ ⟨le_t rfl, le_t rfl⟩ rfl (le_t rfl) fun z51 h50 => ?_
        have h52 : 0 ≤ z51 ∧ z51 ≤ 380 := (vc_X12_raise_13 h50.2.1 h7.2.1 h7.2.2.1 h11 h12 h13 h50.1 h10)
        refine mr_istore (pc := 82) (lv' := [(4, iv z51), (3, iv z19), (0, .ref 106), (1, iv p1), (2, iv p2)]) dX12_raise_82 (by decide) rfl ?_
        have L330 : ∀ (nL330 : Nat) (z328 : Int) (μ329 : mM), mT w μ329 → mF [126999, 155999, 157999, 159999] w μ44 μ329 → (0 ≤ z328 ∧ z328 ≤ 400) → G1 μ329 → PK μ329 → (401 - z328) < (nL330 : Int) → sV (gG l D c H0 sa) mX12_raise (sRm 17 0 0) (sZ (gG l D c H0 sa) 0 0 (qI w [106026, 106027, 106028, 106029, 106030, 106031, 106072, 112999, 126999, 151999, 152999, 153999, 155999, 156999, 157999, 158999, 159999, 160999, 161999, 165999] μ (fun z μ1 => ((-2147483648) ≤ z ∧ z ≤ 2147483647) ∧ G1 μ1 ∧ True))) 84 [(0, .ref 106), (1, iv p1), (3, iv z19), (4, iv z328)] [] (mk w μ329) 0 0 := by
          intro nL330
          induction nL330 with
          | zero => intro z328 μ329 T332 F333 h331 I335 I336 h337; exact ((vc_X12_raise_14 h337 h331)).elim
          | succ nL330 ih338 =>
            intro z328 μ329 T332 F333 h331 I335 I336 h337
            refine mr_iload (pc := 84) (z := z328) dX12_raise_84 rfl ?_
            refine mr_iload_n (pc := 86) (z := p1) dX12_raise_86 rfl rfl ?_
            refine mr_iconst (pc := 87) (z := 2) dX12_raise_87 ?_
            refine mr_iconst (pc := 88) (z := 0) dX12_raise_88 ?_
            refine mr_cSP (pc := 89) (c_X12_slot hw T332 (rW (c := 0) (d := 20) h12 rfl) (rW (c := 0) (d := 2) (rR (x := 2)) rfl) (rW (c := 0) (d := 9) (rR (x := 0)) rfl)) (gOk _ _ _ _ _) dX12_raise_89 (tX12_slot _ _ _ _ _) wS_X12_slot wM_X12_545 ⟨le_t rfl, le_t rfl⟩ ⟨le_t rfl, le_t rfl⟩ rfl (le_t rfl) fun z343 h342 => ?_
            have h344 : 20 ≤ z343 ∧ z343 ≤ 400 := (vc_X12_raise_15 h342.2.1 h7.2.1 h7.2.2.1 h11 h50.2.1 h12 h13 h342.1 h52 h10)
            refine mr_icmp_ge (pc := 92) (tgt := 145) dX12_raise_92 (by decide) (r32 h331 rfl) (r32 h344 rfl) (fun h378 => ?_) (fun h378 => ?_)
            · have h379 : 20 ≤ z328 ∧ z328 ≤ 400 := (vc_X12_raise_16 h378 h342.2.1 h12 h331 h344)
              refine sv_aload_n (pc := 145) dX12_raise_145 rfl rfl ?_
              refine sv_aload_n (pc := 146) dX12_raise_146 rfl rfl ?_
              refine gf_X12_7 (pc := 147) dX12_raise_147 wF_X12_40 (A_106 hw) T332 ?_
              refine mr_iconst (pc := 150) (z := 2) dX12_raise_150 ?_
              refine mr_iload_n (pc := 151) (z := p1) dX12_raise_151 rfl rfl ?_
              refine mr_imul (pc := 152) (x := 2) (y := p1) dX12_raise_152 ?_
              refine la_110 (pc := 153) dX12_raise_153 (A_110 hw) T332 (rIx (n := 40) (rMulL (n := 2) (e := 0) (f := 38) h12 rfl) rfl) fun z380 q381 h382 => ?_
              refine mr_cVV (pc := 154) (c_X12_lookAll hw T332 h382 I335 I336) (gOk _ _ _ _ _) dX12_raise_154 (tX12_lookAll _ _ _ _ _) ⟨wV_X12_lookAll, wL_X12_lookAll⟩ wM_X12_600 (gCX12 _ _ _ _ _) rfl (A_106 hw) rfl ⟨le_t rfl, le_t rfl⟩ ⟨le_t rfl, le_t rfl⟩ rfl (le_t rfl) fun μ383 T384 F385 h386 => ?_
              refine sv_aload_n (pc := 157) dX12_raise_157 rfl rfl ?_
              refine sv_aload_n (pc := 158) dX12_raise_158 rfl rfl ?_
              refine gf_X12_7 (pc := 159) dX12_raise_159 wF_X12_40 (A_106 hw) T384 ?_
              refine mr_iconst (pc := 162) (z := 2) dX12_raise_162 ?_
              refine mr_iload_n (pc := 163) (z := p1) dX12_raise_163 rfl rfl ?_
              refine mr_imul (pc := 164) (x := 2) (y := p1) dX12_raise_164 ?_
              refine mr_iconst (pc := 165) (z := 1) dX12_raise_165 ?_
              refine mr_iadd (pc := 166) (x := (2 * p1)) (y := 1) dX12_raise_166 ?_
              refine la_110 (pc := 167) dX12_raise_167 (A_110 hw) T384 (rIx (n := 40) (rAdd (e := 1) (f := 39) (rMulL (n := 2) (e := 0) (f := 38) h12 rfl) (rR (x := 1)) rfl) rfl) fun z387 q388 h389 => ?_
              refine mr_cVV (pc := 168) (c_X12_lookAll hw T384 h389 h386.2.1 (PK.keep I336 hw ((mF.call mF.refl F385 rfl) : mF [106026, 106027, 106028, 106029, 106030, 106031, 106072, 126999, 151999, 152999, 153999, 155999, 156999, 157999, 158999, 159999, 160999, 161999, 165999] w μ329 μ383) rfl)) (gOk _ _ _ _ _) dX12_raise_168 (tX12_lookAll _ _ _ _ _) ⟨wV_X12_lookAll, wL_X12_lookAll⟩ wM_X12_600 (gCX12 _ _ _ _ _) rfl (A_106 hw) rfl ⟨le_t rfl, le_t rfl⟩ ⟨le_t rfl, le_t rfl⟩ rfl (le_t rfl) fun μ390 T391 F392 h393 => ?_
              refine mr_iload_n (pc := 171) (z := z19) dX12_raise_171 rfl rfl ?_
              exact mr_iret dX12_raise_172 rfl (le_t rfl) (le_t rfl) T391 (mF.call (mF.call (mF.call (mF.up mF.refl (A_112 hw) u45 rfl) F333 rfl) F385 rfl) F392 rfl) ⟨(rW (c := (-2147483648)) (d := 2147483647) h43 rfl), h393.2.1, trivial⟩
            have h394 : 0 ≤ z328 ∧ z328 ≤ 399 := (vc_X12_raise_17 h378 h342.2.1 h12 h331 h344)
            refine sv_aload_n (pc := 95) dX12_raise_95 rfl rfl ?_
            refine mr_sipush (pc := 96) (z := 130) dX12_raise_96 (by decide) ?_
            refine mr_iload (pc := 99) (z := z328) dX12_raise_99 rfl ?_
            refine mr_iadd (pc := 101) (x := 130) (y := z328) dX12_raise_101 ?_
            refine mr_cVV (pc := 102) (c_X12_nothing hw T332 (rW (c := 0) (d := 2099) (rAdd (e := 130) (f := 529) (rR (x := 130)) h394 rfl) rfl)) (gOk _ _ _ _ _) dX12_raise_102 (tX12_nothing _ _ _ _ _) ⟨wV_X12_nothing, wL_X12_nothing⟩ wM_X12_539 (gCX12 _ _ _ _ _) rfl (A_106 hw) rfl ⟨le_t rfl, le_t rfl⟩ ⟨le_t rfl, le_t rfl⟩ rfl (le_t rfl) fun μ395 T396 F397 h398 => ?_
            obtain ⟨z399, q400, h401⟩ := h398
            have h402 := rt7 T396 (A_126 hw) (vc_X12_raise_18 h378 h342.2.1 h12 h394 h344) q400
            have h403 : (-1) ≤ z399 ∧ z399 ≤ 9 := h402.2.1 (vc_X12_raise_19 h378 h342.2.1 h12 h394 h344)
            have q404 : μ395 126 ((40 * (130 + z328)).toNat) = (-1) := q400.trans h401.2.1
            have h405 : (-1) ≤ z399 ∧ z399 ≤ (-1) := (vc_X12_raise_20 h401.2.1 h403)
            refine sv_aload_n (pc := 105) dX12_raise_105 rfl rfl ?_
            refine mr_sipush (pc := 106) (z := 530) dX12_raise_106 (by decide) ?_
            refine mr_iload (pc := 109) (z := z328) dX12_raise_109 rfl ?_
            refine mr_iadd (pc := 111) (x := 530) (y := z328) dX12_raise_111 ?_
            refine mr_cVV (pc := 112) (c_X12_nothing hw T396 (rW (c := 0) (d := 2099) (rAdd (e := 530) (f := 929) (rR (x := 530)) h394 rfl) rfl)) (gOk _ _ _ _ _) dX12_raise_112 (tX12_nothing _ _ _ _ _) ⟨wV_X12_nothing, wL_X12_nothing⟩ wM_X12_539 (gCX12 _ _ _ _ _) rfl (A_106 hw) rfl ⟨le_t rfl, le_t rfl⟩ ⟨le_t rfl, le_t rfl⟩ rfl (le_t rfl) fun μ406 T407 F408 h409 => ?_
            obtain ⟨z410, q411, h412⟩ := h409
            have h413 := rt7 T407 (A_126 hw) (vc_X12_raise_21 h378 h342.2.1 h12 h394 h344) q411
            have h414 : (-1) ≤ z410 ∧ z410 ≤ 9 := h413.2.1 (vc_X12_raise_22 h378 h342.2.1 h12 h394 h344)
            have q415 : μ406 126 ((40 * (530 + z328)).toNat) = (-1) := q411.trans h412.2.1
            have h416 : (-1) ≤ z410 ∧ z410 ≤ (-1) := (vc_X12_raise_23 h412.2.1 h414)
            refine sv_aload_n (pc := 115) dX12_raise_115 rfl rfl ?_
            refine gf_X12_75 (pc := 116) dX12_raise_116 wF_X12_427 (A_106 hw) T407 ?_
            refine mr_iload (pc := 119) (z := z328) dX12_raise_119 rfl ?_
            refine mr_iconst (pc := 121) (z := 0) dX12_raise_121 ?_
            refine ss_155 (pc := 122) dX12_raise_122 (A_155 hw) T407 (rIx (n := 400) h394 rfl) (rW (c := 0) (d := 1) (rR (x := 0)) rfl) fun μ417 u418 T419 => ?_
            refine sv_aload_n (pc := 123) dX12_raise_123 rfl rfl ?_
            refine gf_X12_77 (pc := 124) dX12_raise_124 wF_X12_433 (A_106 hw) T419 ?_
            refine mr_iload (pc := 127) (z := z328) dX12_raise_127 rfl ?_
            refine mr_iconst (pc := 129) (z := (-1)) dX12_raise_129 ?_
            refine ss_157 (pc := 130) dX12_raise_130 (A_157 hw) T419 (rIx (n := 400) h394 rfl) (rW (c := (-1)) (d := 2000001000) (rR (x := (-1))) rfl) fun μ420 u421 T422 => ?_
            refine sv_aload_n (pc := 131) dX12_raise_131 rfl rfl ?_
            refine gf_X12_79 (pc := 132) dX12_raise_132 wF_X12_439 (A_106 hw) T422 ?_
            refine mr_iload (pc := 135) (z := z328) dX12_raise_135 rfl ?_
            refine mr_iconst (pc := 137) (z := (-1)) dX12_raise_137 ?_
            refine ss_159 (pc := 138) dX12_raise_138 (A_159 hw) T422 (rIx (n := 400) h394 rfl) (rW (c := (-1)) (d := 2000001000) (rR (x := (-1))) rfl) fun μ423 u424 T425 => ?_
            refine mr_iinc (pc := 139) (lv' := [(4, iv (z328 + 1)), (0, .ref 106), (1, iv p1), (3, iv z19)]) dX12_raise_139 rfl (by decide) rfl ?_
            refine sv_goto (pc := 142) (tgt := 84) dX12_raise_142 (by decide) ?_
            refine mr_lvS (lv' := [(0, .ref 106), (1, iv p1), (3, iv z19), (4, iv (z328 + 1))]) (List.forall_mem_cons.mpr ⟨rfl, List.forall_mem_cons.mpr ⟨rfl, List.forall_mem_cons.mpr ⟨rfl, List.forall_mem_cons.mpr ⟨rfl, fun _ h => absurd h List.not_mem_nil⟩⟩⟩⟩) ?_
            exact ih338 (z328 + 1) μ423 T425 (mF.up (mF.up (mF.up (mF.call (mF.call (mF.call mF.refl F333 rfl) F397 rfl) F408 rfl) (A_155 hw) u418 rfl) (A_157 hw) u421 rfl) (A_159 hw) u424 rfl) (rW (c := 0) (d := 400) (rAdd (e := 1) (f := 400) h394 (rR (x := 1)) rfl) rfl) (G1.keep I335 hw ((mF.up (mF.up (mF.up (mF.call (mF.call mF.refl F397 rfl) F408 rfl) (A_155 hw) u418 rfl) (A_157 hw) u421 rfl) (A_159 hw) u424 rfl) : mF [126999, 155999, 157999, 159999] w μ329 μ423) rfl rfl ((mG.upO (mG.upO (mG.upO (mG.call (mG.call mG.refl h401.1 (List.forall_mem_cons.mpr ⟨⟨_, List.mem_cons_self, (vc_X12_raise_25 h378 h342.2.1 h12 h394 h344)⟩, (fun _ h => absurd h List.not_mem_nil)⟩)) h412.1 (List.forall_mem_cons.mpr ⟨⟨_, (List.mem_cons_of_mem _ List.mem_cons_self), (vc_X12_raise_26 h378 h342.2.1 h12 h394 h344)⟩, (fun _ h => absurd h List.not_mem_nil)⟩)) u418 rfl) u421 rfl) u424 rfl) : mG [((40 * (130 + z328)), ((40 * (130 + z328)) + 1)), ((40 * (530 + z328)), ((40 * (530 + z328)) + 1))] μ329 μ423) (List.forall_mem_cons.mpr ⟨(vc_X12_raise_28 h378 h342.2.1 h12 h394 h344), (List.forall_mem_cons.mpr ⟨(vc_X12_raise_27 h378 h342.2.1 h12 h394 h344), (fun _ h => absurd h List.not_mem_nil)⟩)⟩)) (PK.keep I336 hw ((mF.up (mF.up (mF.up (mF.call (mF.call mF.refl F397 rfl) F408 rfl) (A_155 hw) u418 rfl) (A_157 hw) u421 rfl) (A_159 hw) u424 rfl) : mF [126999, 155999, 157999, 159999] w μ329 μ423) rfl) (vc_X12_raise_24 (nS h337) h378 h342.2.1 h12 h394 h344)
        refine mr_lvS (lv' := [(0, .ref 106), (1, iv p1), (3, iv z19), (4, iv z51)]) (List.forall_mem_cons.mpr ⟨rfl, List.forall_mem_cons.mpr ⟨rfl, List.forall_mem_cons.mpr ⟨rfl, List.forall_mem_cons.mpr ⟨rfl, fun _ h => absurd h List.not_mem_nil⟩⟩⟩⟩) ?_
        exact L330 402 z51 μ44 T46 mF.refl (rW (c := 0) (d := 400) h52 rfl) (G1.keep hIG1 hw ((mF.up mF.refl (A_112 hw) u45 rfl) : mF [112999] w μ μ44) rfl rfl ((mG.upO mG.refl u45 rfl) : mG [] μ μ44) (fun _ h => absurd h List.not_mem_nil)) (PK.keep hIPK hw ((mF.up mF.refl (A_112 hw) u45 rfl) : mF [112999] w μ μ44) rfl) (vc_X12_raise_29 h50.2.1 h7.2.1 h7.2.2.1 h11 h12 h13 h52 h10)
      have h426 : 0 ≤ z19 ∧ z19 ≤ 0 := (vc_X12_raise_30 h42 h20)
      refine mr_iconst (pc := 33) (z := 0) dX12_raise_33 ?_
      exact mr_iret dX12_raise_34 rfl (le_t rfl) (le_t rfl) hT mF.refl ⟨(rW (c := (-2147483648)) (d := 2147483647) (rR (x := 0)) rfl), hIG1, trivial⟩
    refine mr_if_eq (pc := 16) (tgt := 23) dX12_raise_16 (by decide) (r32 h16 rfl) (fun h427 => ?_) (fun h427 => ?_)
    · have h428 : 0 ≤ z14 ∧ z14 ≤ 0 := (vc_X12_raise_31 h427 h16)
      refine mr_iconst (pc := 23) (z := 0) dX12_raise_23 ?_
      exact J21 0 (rW (c := 0) (d := 1) (rR (x := 0)) rfl)
    have h429 : 1 ≤ z14 ∧ z14 ≤ 1 := (vc_X12_raise_32 h427 h16)
    refine mr_iconst (pc := 19) (z := 1) dX12_raise_19 ?_
    refine sv_goto (pc := 20) (tgt := 24) dX12_raise_20 (by decide) ?_
    exact J21 1 (rW (c := 0) (d := 1) (rR (x := 1)) rfl)
  have h430 : 0 ≤ z8 ∧ z8 ≤ 0 := (vc_X12_raise_33 h9 h7.2.1 h7.2.2.1 hp1 h3 h7.1)
  have h431 : p1 < 0 ∨ z1 ≤ p1 := (h7.2.2.1 (vc_X12_raise_34 h7.2.1 h7.2.2.1 h9 hp1 h3 h430))
  refine mr_iconst (pc := 8) (z := (-1)) dX12_raise_8 ?_
  exact mr_iret dX12_raise_9 rfl (le_t rfl) (le_t rfl) hT mF.refl ⟨(rW (c := (-2147483648)) (d := 2147483647) (rR (x := (-1))) rfl), hIG1, trivial⟩
theorem vc_X12_use_1 {p1 z1 z8 : Int} (h0 : z8 = 0) (h1 : (z8 = 1 → 0 ≤ p1 ∧ p1 < z1)) (h2 : (z8 = 0 → p1 < 0 ∨ z1 ≤ p1)) (h3 : (-2147483648) ≤ p1 ∧ p1 ≤ 2147483647) (h4 : 0 ≤ z1 ∧ z1 ≤ 20) (h5 : 0 ≤ z8 ∧ z8 ≤ 1) : 0 ≤ z8 ∧ z8 ≤ 0 := by omega
theorem vc_X12_use_2 {p1 z1 z8 : Int} (h0 : (z8 = 1 → 0 ≤ p1 ∧ p1 < z1)) (h1 : (z8 = 0 → p1 < 0 ∨ z1 ≤ p1)) (h2 : z8 = 0) (h3 : (-2147483648) ≤ p1 ∧ p1 ≤ 2147483647) (h4 : 0 ≤ z1 ∧ z1 ≤ 20) (h5 : 0 ≤ z8 ∧ z8 ≤ 0) : z8 = 0 := by omega
theorem vc_X12_use_3 {p1 z1 z8 : Int} (h0 : ¬ z8 = 0) (h1 : (z8 = 1 → 0 ≤ p1 ∧ p1 < z1)) (h2 : (z8 = 0 → p1 < 0 ∨ z1 ≤ p1)) (h3 : (-2147483648) ≤ p1 ∧ p1 ≤ 2147483647) (h4 : 0 ≤ z1 ∧ z1 ≤ 20) (h5 : 0 ≤ z8 ∧ z8 ≤ 1) : 1 ≤ z8 ∧ z8 ≤ 1 := by omega
theorem vc_X12_use_4 {p1 z1 z8 : Int} (h0 : (z8 = 1 → 0 ≤ p1 ∧ p1 < z1)) (h1 : (z8 = 0 → p1 < 0 ∨ z1 ≤ p1)) (h2 : ¬ z8 = 0) (h3 : (-2147483648) ≤ p1 ∧ p1 ≤ 2147483647) (h4 : 0 ≤ z1 ∧ z1 ≤ 20) (h5 : 1 ≤ z8 ∧ z8 ≤ 1) : z8 = 1 := by omega
theorem vc_X12_use_5 {p1 z1 z8 : Int} (h0 : 0 ≤ p1 ∧ p1 < z1) (h1 : (z8 = 1 → 0 ≤ p1 ∧ p1 < z1)) (h2 : (z8 = 0 → p1 < 0 ∨ z1 ≤ p1)) (h3 : (-2147483648) ≤ p1 ∧ p1 ≤ 2147483647) (h4 : 0 ≤ z1 ∧ z1 ≤ 20) (h5 : 1 ≤ z8 ∧ z8 ≤ 1) : 0 ≤ p1 ∧ p1 ≤ 19 := by omega
theorem vc_X12_use_6 {p1 z1 z8 : Int} (h0 : 0 ≤ p1 ∧ p1 < z1) (h1 : (z8 = 1 → 0 ≤ p1 ∧ p1 < z1)) (h2 : (z8 = 0 → p1 < 0 ∨ z1 ≤ p1)) (h3 : 0 ≤ p1 ∧ p1 ≤ 19) (h4 : 0 ≤ z1 ∧ z1 ≤ 20) (h5 : 1 ≤ z8 ∧ z8 ≤ 1) : 1 ≤ z1 ∧ z1 ≤ 20 := by omega
theorem vc_X12_use_7 {p2 z20 : Int} (h0 : z20 = 0) (h1 : (z20 = 1 → (0 : Int) ≤ p2 ∧ p2 ≤ (1 : Int))) (h2 : (z20 = 0 → p2 < (0 : Int) ∨ (1 : Int) < p2)) (h3 : (-2147483648) ≤ p2 ∧ p2 ≤ 2147483647) (h4 : 0 ≤ z20 ∧ z20 ≤ 1) : 0 ≤ z20 ∧ z20 ≤ 0 := by omega
theorem vc_X12_use_8 {p2 z20 : Int} (h0 : (z20 = 1 → (0 : Int) ≤ p2 ∧ p2 ≤ (1 : Int))) (h1 : (z20 = 0 → p2 < (0 : Int) ∨ (1 : Int) < p2)) (h2 : z20 = 0) (h3 : (-2147483648) ≤ p2 ∧ p2 ≤ 2147483647) (h4 : 0 ≤ z20 ∧ z20 ≤ 0) : z20 = 0 := by omega
theorem vc_X12_use_9 {p2 z20 : Int} (h0 : ¬ z20 = 0) (h1 : (z20 = 1 → (0 : Int) ≤ p2 ∧ p2 ≤ (1 : Int))) (h2 : (z20 = 0 → p2 < (0 : Int) ∨ (1 : Int) < p2)) (h3 : (-2147483648) ≤ p2 ∧ p2 ≤ 2147483647) (h4 : 0 ≤ z20 ∧ z20 ≤ 1) : 1 ≤ z20 ∧ z20 ≤ 1 := by omega
theorem vc_X12_use_10 {p2 z20 : Int} (h0 : (z20 = 1 → (0 : Int) ≤ p2 ∧ p2 ≤ (1 : Int))) (h1 : (z20 = 0 → p2 < (0 : Int) ∨ (1 : Int) < p2)) (h2 : ¬ z20 = 0) (h3 : (-2147483648) ≤ p2 ∧ p2 ≤ 2147483647) (h4 : 1 ≤ z20 ∧ z20 ≤ 1) : z20 = 1 := by omega
theorem vc_X12_use_11 {p2 z20 : Int} (h0 : (0 : Int) ≤ p2 ∧ p2 ≤ (1 : Int)) (h1 : (z20 = 1 → (0 : Int) ≤ p2 ∧ p2 ≤ (1 : Int))) (h2 : (z20 = 0 → p2 < (0 : Int) ∨ (1 : Int) < p2)) (h3 : (-2147483648) ≤ p2 ∧ p2 ≤ 2147483647) (h4 : 1 ≤ z20 ∧ z20 ≤ 1) : 0 ≤ p2 ∧ p2 ≤ 1 := by omega
theorem vc_X12_use_12 {p3 z31 : Int} (h0 : z31 = 0) (h1 : (z31 = 1 → (0 : Int) ≤ p3 ∧ p3 ≤ (1 : Int))) (h2 : (z31 = 0 → p3 < (0 : Int) ∨ (1 : Int) < p3)) (h3 : (-2147483648) ≤ p3 ∧ p3 ≤ 2147483647) (h4 : 0 ≤ z31 ∧ z31 ≤ 1) : 0 ≤ z31 ∧ z31 ≤ 0 := by omega
theorem vc_X12_use_13 {p3 z31 : Int} (h0 : (z31 = 1 → (0 : Int) ≤ p3 ∧ p3 ≤ (1 : Int))) (h1 : (z31 = 0 → p3 < (0 : Int) ∨ (1 : Int) < p3)) (h2 : z31 = 0) (h3 : (-2147483648) ≤ p3 ∧ p3 ≤ 2147483647) (h4 : 0 ≤ z31 ∧ z31 ≤ 0) : z31 = 0 := by omega
theorem vc_X12_use_14 {p3 z31 : Int} (h0 : ¬ z31 = 0) (h1 : (z31 = 1 → (0 : Int) ≤ p3 ∧ p3 ≤ (1 : Int))) (h2 : (z31 = 0 → p3 < (0 : Int) ∨ (1 : Int) < p3)) (h3 : (-2147483648) ≤ p3 ∧ p3 ≤ 2147483647) (h4 : 0 ≤ z31 ∧ z31 ≤ 1) : 1 ≤ z31 ∧ z31 ≤ 1 := by omega
theorem vc_X12_use_15 {p3 z31 : Int} (h0 : (z31 = 1 → (0 : Int) ≤ p3 ∧ p3 ≤ (1 : Int))) (h1 : (z31 = 0 → p3 < (0 : Int) ∨ (1 : Int) < p3)) (h2 : ¬ z31 = 0) (h3 : (-2147483648) ≤ p3 ∧ p3 ≤ 2147483647) (h4 : 1 ≤ z31 ∧ z31 ≤ 1) : z31 = 1 := by omega
theorem vc_X12_use_16 {p3 z31 : Int} (h0 : (0 : Int) ≤ p3 ∧ p3 ≤ (1 : Int)) (h1 : (z31 = 1 → (0 : Int) ≤ p3 ∧ p3 ≤ (1 : Int))) (h2 : (z31 = 0 → p3 < (0 : Int) ∨ (1 : Int) < p3)) (h3 : (-2147483648) ≤ p3 ∧ p3 ≤ 2147483647) (h4 : 1 ≤ z31 ∧ z31 ≤ 1) : 0 ≤ p3 ∧ p3 ≤ 1 := by omega
theorem vc_X12_use_17 {p4 : Int} (h0 : p4 = (-99999999)) (h1 : (-2147483648) ≤ p4 ∧ p4 ≤ 2147483647) : (-99999999) ≤ p4 ∧ p4 ≤ (-99999999) := by omega
theorem vc_X12_use_18 {p4 : Int} (h0 : p4 = (-99999999)) (h1 : (-99999999) ≤ p4 ∧ p4 ≤ (-99999999)) : p4 = -99999999 ∨ (0 ≤ p4 ∧ p4 ≤ 11) := by omega
theorem vc_X12_use_19 {p4 z43 : Int} (h0 : p4 = (-99999999)) (h1 : (-99999999) ≤ p4 ∧ p4 ≤ (-99999999)) (h2 : 0 ≤ z43 ∧ z43 ≤ 12) : p4 = -99999999 ∨ (0 ≤ p4 ∧ p4 < z43) := by omega
theorem vc_X12_use_20 {p3 z31 : Int} (h0 : ¬ p3 = 0) (h1 : (z31 = 1 → (0 : Int) ≤ p3 ∧ p3 ≤ (1 : Int))) (h2 : (z31 = 0 → p3 < (0 : Int) ∨ (1 : Int) < p3)) (h3 : (0 : Int) ≤ p3 ∧ p3 ≤ (1 : Int)) (h4 : 0 ≤ p3 ∧ p3 ≤ 1) (h5 : 1 ≤ z31 ∧ z31 ≤ 1) : 1 ≤ p3 ∧ p3 ≤ 1 := by omega
theorem vc_X12_use_21 {p1 z1 z8 : Int} (h0 : (z8 = 1 → 0 ≤ p1 ∧ p1 < z1)) (h1 : (z8 = 0 → p1 < 0 ∨ z1 ≤ p1)) (h2 : 0 ≤ p1 ∧ p1 < z1) (h3 : ¬ z8 = 0) (h4 : 0 ≤ p1 ∧ p1 ≤ 19) (h5 : 1 ≤ z1 ∧ z1 ≤ 20) (h6 : 1 ≤ z8 ∧ z8 ≤ 1) : p1 < z1 := by omega
theorem vc_X12_use_22 {z47 z68 z71 : Int} (h0 : 0 ≤ z47 ∧ z47 ≤ 9) (h1 : 0 ≤ z68 ∧ z68 ≤ 9) (h2 : 0 ≤ z71 ∧ z71 ≤ 9) : z68 = z47 ∨ z71 = z47 := by omega
theorem vc_X12_use_23 {p3 z31 : Int} (h0 : p3 = 0) (h1 : (z31 = 1 → (0 : Int) ≤ p3 ∧ p3 ≤ (1 : Int))) (h2 : (z31 = 0 → p3 < (0 : Int) ∨ (1 : Int) < p3)) (h3 : (0 : Int) ≤ p3 ∧ p3 ≤ (1 : Int)) (h4 : 0 ≤ p3 ∧ p3 ≤ 1) (h5 : 1 ≤ z31 ∧ z31 ≤ 1) : 0 ≤ p3 ∧ p3 ≤ 0 := by omega
theorem vc_X12_use_24 {p4 z83 z90 : Int} (h0 : ¬ z90 = 0) (h1 : (z90 = 1 → (0 : Int) ≤ p4 ∧ p4 ≤ (z83 - 1))) (h2 : (z90 = 0 → p4 < (0 : Int) ∨ (z83 - 1) < p4)) (h3 : (-2147483648) ≤ p4 ∧ p4 ≤ 2147483647) (h4 : 0 ≤ z83 ∧ z83 ≤ 12) (h5 : 0 ≤ z90 ∧ z90 ≤ 1) : 1 ≤ z90 ∧ z90 ≤ 1 := by omega
theorem vc_X12_use_25 {p4 z83 z90 : Int} (h0 : (z90 = 1 → (0 : Int) ≤ p4 ∧ p4 ≤ (z83 - 1))) (h1 : (z90 = 0 → p4 < (0 : Int) ∨ (z83 - 1) < p4)) (h2 : ¬ z90 = 0) (h3 : ¬ p4 = (-99999999)) (h4 : (-2147483648) ≤ p4 ∧ p4 ≤ 2147483647) (h5 : 0 ≤ z83 ∧ z83 ≤ 12) (h6 : 1 ≤ z90 ∧ z90 ≤ 1) : z90 = 1 := by omega
theorem vc_X12_use_26 {p4 z83 z90 : Int} (h0 : (0 : Int) ≤ p4 ∧ p4 ≤ (z83 - 1)) (h1 : ¬ p4 = (-99999999)) (h2 : (z90 = 1 → (0 : Int) ≤ p4 ∧ p4 ≤ (z83 - 1))) (h3 : (z90 = 0 → p4 < (0 : Int) ∨ (z83 - 1) < p4)) (h4 : (-2147483648) ≤ p4 ∧ p4 ≤ 2147483647) (h5 : 0 ≤ z83 ∧ z83 ≤ 12) (h6 : 1 ≤ z90 ∧ z90 ≤ 1) : 0 ≤ p4 ∧ p4 ≤ 2147483647 := by omega
theorem vc_X12_use_27 {p4 z83 z90 : Int} (h0 : ¬ p4 = (-99999999)) (h1 : (z90 = 1 → (0 : Int) ≤ p4 ∧ p4 ≤ (z83 - 1))) (h2 : (z90 = 0 → p4 < (0 : Int) ∨ (z83 - 1) < p4)) (h3 : (0 : Int) ≤ p4 ∧ p4 ≤ (z83 - 1)) (h4 : ¬ z90 = 0) (h5 : 0 ≤ p4 ∧ p4 ≤ 2147483647) (h6 : 0 ≤ z83 ∧ z83 ≤ 12) (h7 : 1 ≤ z90 ∧ z90 ≤ 1) : p4 = -99999999 ∨ (0 ≤ p4 ∧ p4 ≤ 11) := by omega
theorem vc_X12_use_28 {p4 z83 z90 : Int} (h0 : ¬ p4 = (-99999999)) (h1 : (z90 = 1 → (0 : Int) ≤ p4 ∧ p4 ≤ (z83 - 1))) (h2 : (z90 = 0 → p4 < (0 : Int) ∨ (z83 - 1) < p4)) (h3 : (0 : Int) ≤ p4 ∧ p4 ≤ (z83 - 1)) (h4 : ¬ z90 = 0) (h5 : 0 ≤ p4 ∧ p4 ≤ 2147483647) (h6 : 0 ≤ z83 ∧ z83 ≤ 12) (h7 : 1 ≤ z90 ∧ z90 ≤ 1) : p4 = -99999999 ∨ (0 ≤ p4 ∧ p4 < z83) := by omega
theorem vc_X12_use_29 {z120 z123 z99 : Int} (h0 : 0 ≤ z120 ∧ z120 ≤ 9) (h1 : 0 ≤ z123 ∧ z123 ≤ 9) (h2 : 0 ≤ z99 ∧ z99 ≤ 9) : z120 = z99 ∨ z123 = z99 := by omega
theorem vc_X12_use_30 {p4 z83 z90 : Int} (h0 : z90 = 0) (h1 : (z90 = 1 → (0 : Int) ≤ p4 ∧ p4 ≤ (z83 - 1))) (h2 : (z90 = 0 → p4 < (0 : Int) ∨ (z83 - 1) < p4)) (h3 : (-2147483648) ≤ p4 ∧ p4 ≤ 2147483647) (h4 : 0 ≤ z83 ∧ z83 ≤ 12) (h5 : 0 ≤ z90 ∧ z90 ≤ 1) : 0 ≤ z90 ∧ z90 ≤ 0 := by omega
theorem vc_X12_use_31 {p4 z83 z90 : Int} (h0 : (z90 = 1 → (0 : Int) ≤ p4 ∧ p4 ≤ (z83 - 1))) (h1 : (z90 = 0 → p4 < (0 : Int) ∨ (z83 - 1) < p4)) (h2 : z90 = 0) (h3 : ¬ p4 = (-99999999)) (h4 : (-2147483648) ≤ p4 ∧ p4 ≤ 2147483647) (h5 : 0 ≤ z83 ∧ z83 ≤ 12) (h6 : 0 ≤ z90 ∧ z90 ≤ 0) : z90 = 0 := by omega
set_option maxRecDepth 4000 in
set_option maxHeartbeats 4000000 in
theorem c_X12_use {l : Launch} {D : va_G} {c : Nat → ClassId} {H0 : Heap} {sa : Nat × Nat × (Nat → Int32)} {w : mW} {μ : mM} (hw : mWF w) (hT : mT w μ) {p1 : Int} (hp1 : (-2147483648) ≤ p1 ∧ p1 ≤ 2147483647) {p2 : Int} (hp2 : (-2147483648) ≤ p2 ∧ p2 ≤ 2147483647) {p3 : Int} (hp3 : (-2147483648) ≤ p3 ∧ p3 ≤ 2147483647) {p4 : Int} (hp4 : (-2147483648) ≤ p4 ∧ p4 ≤ 2147483647) (hIG1 : G1 μ) (hIPK : PK μ) : sC (gG l D c H0 sa) mX12_use 17 0 0 [.ref 106, iv p1, iv p2, iv p3, iv p4] (mk w μ) (qI w [106026, 106027, 106028, 106029, 106030, 106031, 106072, 115999, 126999, 151999, 152999, 153999, 155999, 156999, 157999, 158999, 159999, 160999, 161999, 165999] μ (fun z μ1 => ((-2147483648) ≤ z ∧ z ≤ 2147483647) ∧ G1 μ1 ∧ PK μ1 ∧ True)) := by
  refine sC.of rfl (by decide) (le_t rfl) ?_
  refine mr_lvE (lv' := [(0, .ref 106), (1, iv p1), (2, iv p2), (3, iv p3), (4, iv p4)]) rfl ?_
  refine sv_aload_n (pc := 0) dX12_use_0 rfl rfl ?_
  refine mr_iload_n (pc := 1) (z := p1) dX12_use_1 rfl rfl ?_
  obtain ⟨z1, q2⟩ : ∃ z, μ 106 6 = z := ⟨_, rfl⟩
  have h3 : (0 ≤ z1 ∧ z1 ≤ 20) := by rw [← q2]; exact hT 106 106 (A_106 hw) 6
  refine mr_cVP (pc := 2) (c_X12_isTie hw hT hp1 q2) (gOk _ _ _ _ _) dX12_use_2 (tX12_isTie _ _ _ _ _) ⟨wV_X12_isTie, wL_X12_isTie⟩ wM_X12_66 (gCX12 _ _ _ _ _) rfl (A_106 hw) rfl ⟨le_t rfl, le_t rfl⟩ ⟨le_t rfl, le_t rfl⟩ rfl (le_t rfl) fun z8 h7 => ?_
  refine mr_if_eq (pc := 5) (tgt := 48) dX12_use_5 (by decide) (r32 h7.1 rfl) (fun h9 => ?_) (fun h9 => ?_)
  · have h10 : 0 ≤ z8 ∧ z8 ≤ 0 := (vc_X12_use_1 h9 h7.2.1 h7.2.2.1 hp1 h3 h7.1)
    have h11 : p1 < 0 ∨ z1 ≤ p1 := (h7.2.2.1 (vc_X12_use_2 h7.2.1 h7.2.2.1 h9 hp1 h3 h10))
    refine mr_iconst (pc := 48) (z := (-1)) dX12_use_48 ?_
    exact mr_iret dX12_use_49 rfl (le_t rfl) (le_t rfl) hT mF.refl ⟨(rW (c := (-2147483648)) (d := 2147483647) (rR (x := (-1))) rfl), hIG1, hIPK, trivial⟩
  have h12 : 1 ≤ z8 ∧ z8 ≤ 1 := (vc_X12_use_3 h9 h7.2.1 h7.2.2.1 hp1 h3 h7.1)
  have h13 : 0 ≤ p1 ∧ p1 < z1 := (h7.2.1 (vc_X12_use_4 h7.2.1 h7.2.2.1 h9 hp1 h3 h12))
  have h14 : 0 ≤ p1 ∧ p1 ≤ 19 := (vc_X12_use_5 h13 h7.2.1 h7.2.2.1 hp1 h3 h12)
  have h15 : 1 ≤ z1 ∧ z1 ≤ 20 := (vc_X12_use_6 h13 h7.2.1 h7.2.2.1 h14 h3 h12)
  refine mr_iload_n (pc := 8) (z := p2) dX12_use_8 rfl rfl ?_
  refine mr_iconst (pc := 9) (z := 0) dX12_use_9 ?_
  refine mr_iconst (pc := 10) (z := 1) dX12_use_10 ?_
  refine mr_cSP (pc := 11) (c_X12_in hw hT hp2 (rW (c := (-2147483648)) (d := 2147483647) (rR (x := 0)) rfl) (rW (c := (-2147483648)) (d := 2147483647) (rR (x := 1)) rfl)) (gOk _ _ _ _ _) dX12_use_11 (tX12_in _ _ _ _ _) wS_X12_in wM_X12_18 ⟨le_t rfl, le_t rfl⟩ ⟨le_t rfl, le_t rfl⟩ rfl (le_t rfl) fun z20 h19 => ?_
  refine mr_if_eq (pc := 14) (tgt := 48) dX12_use_14 (by decide) (r32 h19.1 rfl) (fun h21 => ?_) (fun h21 => ?_)
  · have h22 : 0 ≤ z20 ∧ z20 ≤ 0 := (vc_X12_use_7 h21 h19.2.1 h19.2.2.1 hp2 h19.1)
    have h23 : p2 < (0 : Int) ∨ (1 : Int) < p2 := (h19.2.2.1 (vc_X12_use_8 h19.2.1 h19.2.2.1 h21 hp2 h22))
    refine mr_iconst (pc := 48) (z := (-1)) dX12_use_48 ?_
    exact mr_iret dX12_use_49 rfl (le_t rfl) (le_t rfl) hT mF.refl ⟨(rW (c := (-2147483648)) (d := 2147483647) (rR (x := (-1))) rfl), hIG1, hIPK, trivial⟩
  have h24 : 1 ≤ z20 ∧ z20 ≤ 1 := (vc_X12_use_9 h21 h19.2.1 h19.2.2.1 hp2 h19.1)
  have h25 : (0 : Int) ≤ p2 ∧ p2 ≤ (1 : Int) := (h19.2.1 (vc_X12_use_10 h19.2.1 h19.2.2.1 h21 hp2 h24))
  have h26 : 0 ≤ p2 ∧ p2 ≤ 1 := (vc_X12_use_11 h25 h19.2.1 h19.2.2.1 hp2 h24)
  refine mr_iload_n (pc := 17) (z := p3) dX12_use_17 rfl rfl ?_
  refine mr_iconst (pc := 18) (z := 0) dX12_use_18 ?_
  refine mr_iconst (pc := 19) (z := 1) dX12_use_19 ?_
  refine mr_cSP (pc := 20) (c_X12_in hw hT hp3 (rW (c := (-2147483648)) (d := 2147483647) (rR (x := 0)) rfl) (rW (c := (-2147483648)) (d := 2147483647) (rR (x := 1)) rfl)) (gOk _ _ _ _ _) dX12_use_20 (tX12_in _ _ _ _ _) wS_X12_in wM_X12_18 ⟨le_t rfl, le_t rfl⟩ ⟨le_t rfl, le_t rfl⟩ rfl (le_t rfl) fun z31 h30 => ?_
  refine mr_if_eq (pc := 23) (tgt := 48) dX12_use_23 (by decide) (r32 h30.1 rfl) (fun h32 => ?_) (fun h32 => ?_)
  · have h33 : 0 ≤ z31 ∧ z31 ≤ 0 := (vc_X12_use_12 h32 h30.2.1 h30.2.2.1 hp3 h30.1)
    have h34 : p3 < (0 : Int) ∨ (1 : Int) < p3 := (h30.2.2.1 (vc_X12_use_13 h30.2.1 h30.2.2.1 h32 hp3 h33))
    refine mr_iconst (pc := 48) (z := (-1)) dX12_use_48 ?_
    exact mr_iret dX12_use_49 rfl (le_t rfl) (le_t rfl) hT mF.refl ⟨(rW (c := (-2147483648)) (d := 2147483647) (rR (x := (-1))) rfl), hIG1, hIPK, trivial⟩
  have h35 : 1 ≤ z31 ∧ z31 ≤ 1 := (vc_X12_use_14 h32 h30.2.1 h30.2.2.1 hp3 h30.1)
  have h36 : (0 : Int) ≤ p3 ∧ p3 ≤ (1 : Int) := (h30.2.1 (vc_X12_use_15 h30.2.1 h30.2.2.1 h32 hp3 h35))
  have h37 : 0 ≤ p3 ∧ p3 ≤ 1 := (vc_X12_use_16 h36 h30.2.1 h30.2.2.1 hp3 h35)
  refine mr_iload (pc := 26) (z := p4) dX12_use_26 rfl ?_
  refine mr_ldc (pc := 28) (z := (-99999999)) dX12_use_28 wG_X12_29 (by decide) ?_
  refine mr_icmp_eq (pc := 30) (tgt := 50) dX12_use_30 (by decide) hp4 (r32 (rR (x := (-99999999))) rfl) (fun h38 => ?_) (fun h38 => ?_)
  · have h39 : (-99999999) ≤ p4 ∧ p4 ≤ (-99999999) := (vc_X12_use_17 h38 hp4)
    refine sv_aload_n (pc := 50) dX12_use_50 rfl rfl ?_
    refine gf_X12_12 (pc := 51) dX12_use_51 wF_X12_63 (A_106 hw) hT ?_
    refine mr_iconst (pc := 54) (z := 4) dX12_use_54 ?_
    refine mr_iload_n (pc := 55) (z := p1) dX12_use_55 rfl rfl ?_
    refine mr_imul (pc := 56) (x := 4) (y := p1) dX12_use_56 ?_
    refine mr_iconst (pc := 57) (z := 2) dX12_use_57 ?_
    refine mr_iload_n (pc := 58) (z := p2) dX12_use_58 rfl rfl ?_
    refine mr_imul (pc := 59) (x := 2) (y := p2) dX12_use_59 ?_
    refine mr_iadd (pc := 60) (x := (4 * p1)) (y := (2 * p2)) dX12_use_60 ?_
    refine mr_iload_n (pc := 61) (z := p3) dX12_use_61 rfl rfl ?_
    refine mr_iadd (pc := 62) (x := ((4 * p1) + (2 * p2))) (y := p3) dX12_use_62 ?_
    refine mr_iload (pc := 63) (z := p4) dX12_use_63 rfl ?_
    refine ss_115 (pc := 65) dX12_use_65 (A_115 hw) hT (rIx (n := 80) (rAdd (e := 0) (f := 79) (rAdd (e := 0) (f := 78) (rMulL (n := 4) (e := 0) (f := 76) h14 rfl) (rMulL (n := 2) (e := 0) (f := 2) h26 rfl) rfl) h37 rfl) rfl) (vc_X12_use_18 h38 h39) fun μ40 u41 T42 => ?_
    obtain ⟨z43, q44⟩ : ∃ z, μ40 106 39 = z := ⟨_, rfl⟩
    have h45 : (0 ≤ z43 ∧ z43 ≤ 12) := by rw [← q44]; exact T42 106 106 (A_106 hw) 39
    have I46 : PK μ40 := PK.use hIPK u41 (u41.2 106 39 (Or.inl (by decide)) ▸ q44) (vc_X12_use_19 h38 h39 h45)
    refine sv_aload_n (pc := 66) dX12_use_66 rfl rfl ?_
    refine gf_X12_7 (pc := 67) dX12_use_67 wF_X12_40 (A_106 hw) T42 ?_
    refine mr_iconst (pc := 70) (z := 2) dX12_use_70 ?_
    refine mr_iload_n (pc := 71) (z := p1) dX12_use_71 rfl rfl ?_
    refine mr_imul (pc := 72) (x := 2) (y := p1) dX12_use_72 ?_
    refine mr_iload_n (pc := 73) (z := p2) dX12_use_73 rfl rfl ?_
    refine mr_iadd (pc := 74) (x := (2 * p1)) (y := p2) dX12_use_74 ?_
    refine la_110 (pc := 75) dX12_use_75 (A_110 hw) T42 (rIx (n := 40) (rAdd (e := 0) (f := 39) (rMulL (n := 2) (e := 0) (f := 38) h14 rfl) h26 rfl) rfl) fun z47 q48 h49 => ?_
    refine mr_istore (pc := 76) (lv' := [(5, iv z47), (0, .ref 106), (1, iv p1), (2, iv p2), (3, iv p3), (4, iv p4)]) dX12_use_76 (by decide) rfl ?_
    refine mr_iload_n (pc := 78) (z := p3) dX12_use_78 rfl rfl ?_
    refine mr_if_ne (pc := 79) (tgt := 91) dX12_use_79 (by decide) (r32 h37 rfl) (fun h66 => ?_) (fun h66 => ?_)
    · have h67 : 1 ≤ p3 ∧ p3 ≤ 1 := (vc_X12_use_20 h66 h30.2.1 h30.2.2.1 h36 h37 h35)
      refine sv_aload_n (pc := 91) dX12_use_91 rfl rfl ?_
      refine mr_iload (pc := 92) (z := z47) dX12_use_92 rfl ?_
      refine mr_iload_n (pc := 94) (z := p1) dX12_use_94 rfl rfl ?_
      obtain ⟨z68, q69⟩ : ∃ z, μ40 110 ((2 * p1).toNat) = z := ⟨_, rfl⟩
      have h70 : (0 ≤ z68 ∧ z68 ≤ 9) := by rw [← q69]; exact T42 110 110 (A_110 hw) ((2 * p1).toNat)
      obtain ⟨z71, q72⟩ : ∃ z, μ40 110 (((2 * p1) + 1).toNat) = z := ⟨_, rfl⟩
      have h73 : (0 ≤ z71 ∧ z71 ≤ 9) := by rw [← q72]; exact T42 110 110 (A_110 hw) (((2 * p1) + 1).toNat)
      refine mr_cVV (pc := 95) (c_X12_sayAll hw T42 h49 h14 q69 q72 (u41.f (Or.inl (mAt.ne (A_115 hw) (A_106 hw) rfl)) q2) (vc_X12_use_21 h7.2.1 h7.2.2.1 h13 h9 h14 h15 h12) (vc_X12_use_22 h49 h70 h73) (G1.keep hIG1 hw ((mF.up mF.refl (A_115 hw) u41 rfl) : mF [115999] w μ μ40) rfl rfl ((mG.upO mG.refl u41 rfl) : mG [] μ μ40) (fun _ h => absurd h List.not_mem_nil)) I46) (gOk _ _ _ _ _) dX12_use_95 (tX12_sayAll _ _ _ _ _) ⟨wV_X12_sayAll, wL_X12_sayAll⟩ wM_X12_603 (gCX12 _ _ _ _ _) rfl (A_106 hw) rfl ⟨le_t rfl, le_t rfl⟩ ⟨le_t rfl, le_t rfl⟩ rfl (le_t rfl) fun μ74 T75 F76 h77 => ?_
      refine mr_iconst (pc := 98) (z := 0) dX12_use_98 ?_
      exact mr_iret dX12_use_99 rfl (le_t rfl) (le_t rfl) T75 (mF.call (mF.up mF.refl (A_115 hw) u41 rfl) F76 rfl) ⟨(rW (c := (-2147483648)) (d := 2147483647) (rR (x := 0)) rfl), h77.2.1, (PK.keep I46 hw ((mF.call mF.refl F76 rfl) : mF [106026, 106027, 106028, 106029, 106030, 106031, 106072, 126999, 151999, 152999, 153999, 155999, 156999, 157999, 158999, 159999, 160999] w μ40 μ74) rfl), trivial⟩
    have h78 : 0 ≤ p3 ∧ p3 ≤ 0 := (vc_X12_use_23 h66 h30.2.1 h30.2.2.1 h36 h37 h35)
    refine sv_aload_n (pc := 82) dX12_use_82 rfl rfl ?_
    refine mr_iload (pc := 83) (z := z47) dX12_use_83 rfl ?_
    refine mr_cVV (pc := 85) (c_X12_lookAll hw T42 h49 (G1.keep hIG1 hw ((mF.up mF.refl (A_115 hw) u41 rfl) : mF [115999] w μ μ40) rfl rfl ((mG.upO mG.refl u41 rfl) : mG [] μ μ40) (fun _ h => absurd h List.not_mem_nil)) I46) (gOk _ _ _ _ _) dX12_use_85 (tX12_lookAll _ _ _ _ _) ⟨wV_X12_lookAll, wL_X12_lookAll⟩ wM_X12_600 (gCX12 _ _ _ _ _) rfl (A_106 hw) rfl ⟨le_t rfl, le_t rfl⟩ ⟨le_t rfl, le_t rfl⟩ rfl (le_t rfl) fun μ79 T80 F81 h82 => ?_
    refine sv_goto (pc := 88) (tgt := 98) dX12_use_88 (by decide) ?_
    refine mr_iconst (pc := 98) (z := 0) dX12_use_98 ?_
    exact mr_iret dX12_use_99 rfl (le_t rfl) (le_t rfl) T80 (mF.call (mF.up mF.refl (A_115 hw) u41 rfl) F81 rfl) ⟨(rW (c := (-2147483648)) (d := 2147483647) (rR (x := 0)) rfl), h82.2.1, (PK.keep I46 hw ((mF.call mF.refl F81 rfl) : mF [106026, 106027, 106028, 106029, 106030, 106031, 106072, 126999, 151999, 152999, 153999, 155999, 156999, 157999, 158999, 159999, 160999, 161999, 165999] w μ40 μ79) rfl), trivial⟩
  refine mr_iload (pc := 33) (z := p4) dX12_use_33 rfl ?_
  refine mr_iconst (pc := 35) (z := 0) dX12_use_35 ?_
  refine sv_aload_n (pc := 36) dX12_use_36 rfl rfl ?_
  refine gf_X12_39 (pc := 37) dX12_use_37 wF_X12_355 (A_106 hw) hT fun z83 q84 h85 => ?_
  refine mr_iconst (pc := 40) (z := 1) dX12_use_40 ?_
  refine mr_isub (pc := 41) (x := z83) (y := 1) dX12_use_41 ?_
  refine mr_cSP (pc := 42) (c_X12_in hw hT hp4 (rW (c := (-2147483648)) (d := 2147483647) (rR (x := 0)) rfl) (rW (c := (-2147483648)) (d := 2147483647) (rSub (e := (-1)) (f := 11) h85 (rR (x := 1)) rfl) rfl)) (gOk _ _ _ _ _) dX12_use_42 (tX12_in _ _ _ _ _) wS_X12_in wM_X12_18 ⟨le_t rfl, le_t rfl⟩ ⟨le_t rfl, le_t rfl⟩ rfl (le_t rfl) fun z90 h89 => ?_
  refine mr_if_ne (pc := 45) (tgt := 50) dX12_use_45 (by decide) (r32 h89.1 rfl) (fun h91 => ?_) (fun h91 => ?_)
  · have h92 : 1 ≤ z90 ∧ z90 ≤ 1 := (vc_X12_use_24 h91 h89.2.1 h89.2.2.1 hp4 h85 h89.1)
    have h93 : (0 : Int) ≤ p4 ∧ p4 ≤ (z83 - 1) := (h89.2.1 (vc_X12_use_25 h89.2.1 h89.2.2.1 h91 h38 hp4 h85 h92))
    have h94 : 0 ≤ p4 ∧ p4 ≤ 2147483647 := (vc_X12_use_26 h93 h38 h89.2.1 h89.2.2.1 hp4 h85 h92)
    refine sv_aload_n (pc := 50) dX12_use_50 rfl rfl ?_
    refine gf_X12_12 (pc := 51) dX12_use_51 wF_X12_63 (A_106 hw) hT ?_
    refine mr_iconst (pc := 54) (z := 4) dX12_use_54 ?_
    refine mr_iload_n (pc := 55) (z := p1) dX12_use_55 rfl rfl ?_
    refine mr_imul (pc := 56) (x := 4) (y := p1) dX12_use_56 ?_
    refine mr_iconst (pc := 57) (z := 2) dX12_use_57 ?_
    refine mr_iload_n (pc := 58) (z := p2) dX12_use_58 rfl rfl ?_
    refine mr_imul (pc := 59) (x := 2) (y := p2) dX12_use_59 ?_
    refine mr_iadd (pc := 60) (x := (4 * p1)) (y := (2 * p2)) dX12_use_60 ?_
    refine mr_iload_n (pc := 61) (z := p3) dX12_use_61 rfl rfl ?_
    refine mr_iadd (pc := 62) (x := ((4 * p1) + (2 * p2))) (y := p3) dX12_use_62 ?_
    refine mr_iload (pc := 63) (z := p4) dX12_use_63 rfl ?_
    refine ss_115 (pc := 65) dX12_use_65 (A_115 hw) hT (rIx (n := 80) (rAdd (e := 0) (f := 79) (rAdd (e := 0) (f := 78) (rMulL (n := 4) (e := 0) (f := 76) h14 rfl) (rMulL (n := 2) (e := 0) (f := 2) h26 rfl) rfl) h37 rfl) rfl) (vc_X12_use_27 h38 h89.2.1 h89.2.2.1 h93 h91 h94 h85 h92) fun μ95 u96 T97 => ?_
    have I98 : PK μ95 := PK.use hIPK u96 (u96.2 106 39 (Or.inl (by decide)) ▸ (u96.f (Or.inl (mAt.ne (A_115 hw) (A_106 hw) rfl)) q84)) (vc_X12_use_28 h38 h89.2.1 h89.2.2.1 h93 h91 h94 h85 h92)
    refine sv_aload_n (pc := 66) dX12_use_66 rfl rfl ?_
    refine gf_X12_7 (pc := 67) dX12_use_67 wF_X12_40 (A_106 hw) T97 ?_
    refine mr_iconst (pc := 70) (z := 2) dX12_use_70 ?_
    refine mr_iload_n (pc := 71) (z := p1) dX12_use_71 rfl rfl ?_
    refine mr_imul (pc := 72) (x := 2) (y := p1) dX12_use_72 ?_
    refine mr_iload_n (pc := 73) (z := p2) dX12_use_73 rfl rfl ?_
    refine mr_iadd (pc := 74) (x := (2 * p1)) (y := p2) dX12_use_74 ?_
    refine la_110 (pc := 75) dX12_use_75 (A_110 hw) T97 (rIx (n := 40) (rAdd (e := 0) (f := 39) (rMulL (n := 2) (e := 0) (f := 38) h14 rfl) h26 rfl) rfl) fun z99 q100 h101 => ?_
    refine mr_istore (pc := 76) (lv' := [(5, iv z99), (0, .ref 106), (1, iv p1), (2, iv p2), (3, iv p3), (4, iv p4)]) dX12_use_76 (by decide) rfl ?_
    refine mr_iload_n (pc := 78) (z := p3) dX12_use_78 rfl rfl ?_
    refine mr_if_ne (pc := 79) (tgt := 91) dX12_use_79 (by decide) (r32 h37 rfl) (fun h118 => ?_) (fun h118 => ?_)
    · have h119 : 1 ≤ p3 ∧ p3 ≤ 1 := (vc_X12_use_20 h118 h30.2.1 h30.2.2.1 h36 h37 h35)
      refine sv_aload_n (pc := 91) dX12_use_91 rfl rfl ?_
      refine mr_iload (pc := 92) (z := z99) dX12_use_92 rfl ?_
      refine mr_iload_n (pc := 94) (z := p1) dX12_use_94 rfl rfl ?_
      obtain ⟨z120, q121⟩ : ∃ z, μ95 110 ((2 * p1).toNat) = z := ⟨_, rfl⟩
      have h122 : (0 ≤ z120 ∧ z120 ≤ 9) := by rw [← q121]; exact T97 110 110 (A_110 hw) ((2 * p1).toNat)
      obtain ⟨z123, q124⟩ : ∃ z, μ95 110 (((2 * p1) + 1).toNat) = z := ⟨_, rfl⟩
      have h125 : (0 ≤ z123 ∧ z123 ≤ 9) := by rw [← q124]; exact T97 110 110 (A_110 hw) (((2 * p1) + 1).toNat)
      refine mr_cVV (pc := 95) (c_X12_sayAll hw T97 h101 h14 q121 q124 (u96.f (Or.inl (mAt.ne (A_115 hw) (A_106 hw) rfl)) q2) (vc_X12_use_21 h7.2.1 h7.2.2.1 h13 h9 h14 h15 h12) (vc_X12_use_29 h122 h125 h101) (G1.keep hIG1 hw ((mF.up mF.refl (A_115 hw) u96 rfl) : mF [115999] w μ μ95) rfl rfl ((mG.upO mG.refl u96 rfl) : mG [] μ μ95) (fun _ h => absurd h List.not_mem_nil)) I98) (gOk _ _ _ _ _) dX12_use_95 (tX12_sayAll _ _ _ _ _) ⟨wV_X12_sayAll, wL_X12_sayAll⟩ wM_X12_603 (gCX12 _ _ _ _ _) rfl (A_106 hw) rfl ⟨le_t rfl, le_t rfl⟩ ⟨le_t rfl, le_t rfl⟩ rfl (le_t rfl) fun μ126 T127 F128 h129 => ?_
      refine mr_iconst (pc := 98) (z := 0) dX12_use_98 ?_
      exact mr_iret dX12_use_99 rfl (le_t rfl) (le_t rfl) T127 (mF.call (mF.up mF.refl (A_115 hw) u96 rfl) F128 rfl) ⟨(rW (c := (-2147483648)) (d := 2147483647) (rR (x := 0)) rfl), h129.2.1, (PK.keep I98 hw ((mF.call mF.refl F128 rfl) : mF [106026, 106027, 106028, 106029, 106030, 106031, 106072, 126999, 151999, 152999, 153999, 155999, 156999, 157999, 158999, 159999, 160999] w μ95 μ126) rfl), trivial⟩
    have h130 : 0 ≤ p3 ∧ p3 ≤ 0 := (vc_X12_use_23 h118 h30.2.1 h30.2.2.1 h36 h37 h35)
    refine sv_aload_n (pc := 82) dX12_use_82 rfl rfl ?_
    refine mr_iload (pc := 83) (z := z99) dX12_use_83 rfl ?_
    refine mr_cVV (pc := 85) (c_X12_lookAll hw T97 h101 (G1.keep hIG1 hw ((mF.up mF.refl (A_115 hw) u96 rfl) : mF [115999] w μ μ95) rfl rfl ((mG.upO mG.refl u96 rfl) : mG [] μ μ95) (fun _ h => absurd h List.not_mem_nil)) I98) (gOk _ _ _ _ _) dX12_use_85 (tX12_lookAll _ _ _ _ _) ⟨wV_X12_lookAll, wL_X12_lookAll⟩ wM_X12_600 (gCX12 _ _ _ _ _) rfl (A_106 hw) rfl ⟨le_t rfl, le_t rfl⟩ ⟨le_t rfl, le_t rfl⟩ rfl (le_t rfl) fun μ131 T132 F133 h134 => ?_
    refine sv_goto (pc := 88) (tgt := 98) dX12_use_88 (by decide) ?_
    refine mr_iconst (pc := 98) (z := 0) dX12_use_98 ?_
    exact mr_iret dX12_use_99 rfl (le_t rfl) (le_t rfl) T132 (mF.call (mF.up mF.refl (A_115 hw) u96 rfl) F133 rfl) ⟨(rW (c := (-2147483648)) (d := 2147483647) (rR (x := 0)) rfl), h134.2.1, (PK.keep I98 hw ((mF.call mF.refl F133 rfl) : mF [106026, 106027, 106028, 106029, 106030, 106031, 106072, 126999, 151999, 152999, 153999, 155999, 156999, 157999, 158999, 159999, 160999, 161999, 165999] w μ95 μ131) rfl), trivial⟩
  have h135 : 0 ≤ z90 ∧ z90 ≤ 0 := (vc_X12_use_30 h91 h89.2.1 h89.2.2.1 hp4 h85 h89.1)
  have h136 : p4 < (0 : Int) ∨ (z83 - 1) < p4 := (h89.2.2.1 (vc_X12_use_31 h89.2.1 h89.2.2.1 h91 h38 hp4 h85 h135))
  refine mr_iconst (pc := 48) (z := (-1)) dX12_use_48 ?_
  exact mr_iret dX12_use_49 rfl (le_t rfl) (le_t rfl) hT mF.refl ⟨(rW (c := (-2147483648)) (d := 2147483647) (rR (x := (-1))) rfl), hIG1, hIPK, trivial⟩
theorem vc_X12_tie_pk_1 {p1 z1 z8 : Int} (h0 : z8 = 0) (h1 : (z8 = 1 → 0 ≤ p1 ∧ p1 < z1)) (h2 : (z8 = 0 → p1 < 0 ∨ z1 ≤ p1)) (h3 : (-2147483648) ≤ p1 ∧ p1 ≤ 2147483647) (h4 : 0 ≤ z1 ∧ z1 ≤ 10) (h5 : 0 ≤ z8 ∧ z8 ≤ 1) : 0 ≤ z8 ∧ z8 ≤ 0 := by omega
theorem vc_X12_tie_pk_2 {p1 z1 z8 : Int} (h0 : (z8 = 1 → 0 ≤ p1 ∧ p1 < z1)) (h1 : (z8 = 0 → p1 < 0 ∨ z1 ≤ p1)) (h2 : z8 = 0) (h3 : (-2147483648) ≤ p1 ∧ p1 ≤ 2147483647) (h4 : 0 ≤ z1 ∧ z1 ≤ 10) (h5 : 0 ≤ z8 ∧ z8 ≤ 0) : z8 = 0 := by omega
theorem vc_X12_tie_pk_3 {p1 z1 z8 : Int} (h0 : ¬ z8 = 0) (h1 : (z8 = 1 → 0 ≤ p1 ∧ p1 < z1)) (h2 : (z8 = 0 → p1 < 0 ∨ z1 ≤ p1)) (h3 : (-2147483648) ≤ p1 ∧ p1 ≤ 2147483647) (h4 : 0 ≤ z1 ∧ z1 ≤ 10) (h5 : 0 ≤ z8 ∧ z8 ≤ 1) : 1 ≤ z8 ∧ z8 ≤ 1 := by omega
theorem vc_X12_tie_pk_4 {p1 z1 z8 : Int} (h0 : (z8 = 1 → 0 ≤ p1 ∧ p1 < z1)) (h1 : (z8 = 0 → p1 < 0 ∨ z1 ≤ p1)) (h2 : ¬ z8 = 0) (h3 : (-2147483648) ≤ p1 ∧ p1 ≤ 2147483647) (h4 : 0 ≤ z1 ∧ z1 ≤ 10) (h5 : 1 ≤ z8 ∧ z8 ≤ 1) : z8 = 1 := by omega
theorem vc_X12_tie_pk_5 {p1 z1 z8 : Int} (h0 : 0 ≤ p1 ∧ p1 < z1) (h1 : (z8 = 1 → 0 ≤ p1 ∧ p1 < z1)) (h2 : (z8 = 0 → p1 < 0 ∨ z1 ≤ p1)) (h3 : (-2147483648) ≤ p1 ∧ p1 ≤ 2147483647) (h4 : 0 ≤ z1 ∧ z1 ≤ 10) (h5 : 1 ≤ z8 ∧ z8 ≤ 1) : 0 ≤ p1 ∧ p1 ≤ 9 := by omega
theorem vc_X12_tie_pk_6 {p1 z1 z8 : Int} (h0 : 0 ≤ p1 ∧ p1 < z1) (h1 : (z8 = 1 → 0 ≤ p1 ∧ p1 < z1)) (h2 : (z8 = 0 → p1 < 0 ∨ z1 ≤ p1)) (h3 : 0 ≤ p1 ∧ p1 ≤ 9) (h4 : 0 ≤ z1 ∧ z1 ≤ 10) (h5 : 1 ≤ z8 ∧ z8 ≤ 1) : 1 ≤ z1 ∧ z1 ≤ 10 := by omega
theorem vc_X12_tie_pk_7 {p2 z1 z20 : Int} (h0 : z20 = 0) (h1 : (z20 = 1 → 0 ≤ p2 ∧ p2 < z1)) (h2 : (z20 = 0 → p2 < 0 ∨ z1 ≤ p2)) (h3 : (-2147483648) ≤ p2 ∧ p2 ≤ 2147483647) (h4 : 1 ≤ z1 ∧ z1 ≤ 10) (h5 : 0 ≤ z20 ∧ z20 ≤ 1) : 0 ≤ z20 ∧ z20 ≤ 0 := by omega
theorem vc_X12_tie_pk_8 {p1 p2 z1 z20 z8 : Int} (h0 : (z20 = 1 → 0 ≤ p2 ∧ p2 < z1)) (h1 : (z20 = 0 → p2 < 0 ∨ z1 ≤ p2)) (h2 : z20 = 0) (h3 : (z8 = 1 → 0 ≤ p1 ∧ p1 < z1)) (h4 : (z8 = 0 → p1 < 0 ∨ z1 ≤ p1)) (h5 : 0 ≤ p1 ∧ p1 < z1) (h6 : 0 ≤ p1 ∧ p1 ≤ 9) (h7 : (-2147483648) ≤ p2 ∧ p2 ≤ 2147483647) (h8 : 1 ≤ z1 ∧ z1 ≤ 10) (h9 : 0 ≤ z20 ∧ z20 ≤ 0) (h10 : 1 ≤ z8 ∧ z8 ≤ 1) : z20 = 0 := by omega
theorem vc_X12_tie_pk_9 {p2 z1 z20 : Int} (h0 : ¬ z20 = 0) (h1 : (z20 = 1 → 0 ≤ p2 ∧ p2 < z1)) (h2 : (z20 = 0 → p2 < 0 ∨ z1 ≤ p2)) (h3 : (-2147483648) ≤ p2 ∧ p2 ≤ 2147483647) (h4 : 1 ≤ z1 ∧ z1 ≤ 10) (h5 : 0 ≤ z20 ∧ z20 ≤ 1) : 1 ≤ z20 ∧ z20 ≤ 1 := by omega
theorem vc_X12_tie_pk_10 {p1 p2 z1 z20 z8 : Int} (h0 : (z20 = 1 → 0 ≤ p2 ∧ p2 < z1)) (h1 : (z20 = 0 → p2 < 0 ∨ z1 ≤ p2)) (h2 : ¬ z20 = 0) (h3 : (z8 = 1 → 0 ≤ p1 ∧ p1 < z1)) (h4 : (z8 = 0 → p1 < 0 ∨ z1 ≤ p1)) (h5 : 0 ≤ p1 ∧ p1 < z1) (h6 : 0 ≤ p1 ∧ p1 ≤ 9) (h7 : (-2147483648) ≤ p2 ∧ p2 ≤ 2147483647) (h8 : 1 ≤ z1 ∧ z1 ≤ 10) (h9 : 1 ≤ z20 ∧ z20 ≤ 1) (h10 : 1 ≤ z8 ∧ z8 ≤ 1) : z20 = 1 := by omega
theorem vc_X12_tie_pk_11 {p1 p2 z1 z20 z8 : Int} (h0 : 0 ≤ p2 ∧ p2 < z1) (h1 : (z8 = 1 → 0 ≤ p1 ∧ p1 < z1)) (h2 : (z8 = 0 → p1 < 0 ∨ z1 ≤ p1)) (h3 : 0 ≤ p1 ∧ p1 < z1) (h4 : (z20 = 1 → 0 ≤ p2 ∧ p2 < z1)) (h5 : (z20 = 0 → p2 < 0 ∨ z1 ≤ p2)) (h6 : 0 ≤ p1 ∧ p1 ≤ 9) (h7 : (-2147483648) ≤ p2 ∧ p2 ≤ 2147483647) (h8 : 1 ≤ z1 ∧ z1 ≤ 10) (h9 : 1 ≤ z20 ∧ z20 ≤ 1) (h10 : 1 ≤ z8 ∧ z8 ≤ 1) : 0 ≤ p2 ∧ p2 ≤ 9 := by omega
theorem vc_X12_tie_pk_12 {p3 z32 : Int} (h0 : ¬ z32 = 0) (h1 : (z32 = 1 → (0 : Int) ≤ p3 ∧ p3 ≤ (2 : Int))) (h2 : (z32 = 0 → p3 < (0 : Int) ∨ (2 : Int) < p3)) (h3 : (-2147483648) ≤ p3 ∧ p3 ≤ 2147483647) (h4 : 0 ≤ z32 ∧ z32 ≤ 1) : 1 ≤ z32 ∧ z32 ≤ 1 := by omega
theorem vc_X12_tie_pk_13 {p3 z32 : Int} (h0 : (z32 = 1 → (0 : Int) ≤ p3 ∧ p3 ≤ (2 : Int))) (h1 : (z32 = 0 → p3 < (0 : Int) ∨ (2 : Int) < p3)) (h2 : ¬ z32 = 0) (h3 : (-2147483648) ≤ p3 ∧ p3 ≤ 2147483647) (h4 : 1 ≤ z32 ∧ z32 ≤ 1) : z32 = 1 := by omega
theorem vc_X12_tie_pk_14 {p3 z32 : Int} (h0 : (0 : Int) ≤ p3 ∧ p3 ≤ (2 : Int)) (h1 : (z32 = 1 → (0 : Int) ≤ p3 ∧ p3 ≤ (2 : Int))) (h2 : (z32 = 0 → p3 < (0 : Int) ∨ (2 : Int) < p3)) (h3 : (-2147483648) ≤ p3 ∧ p3 ≤ 2147483647) (h4 : 1 ≤ z32 ∧ z32 ≤ 1) : 0 ≤ p3 ∧ p3 ≤ 2 := by omega
theorem vc_X12_tie_pk_15 {z41 : Int} (h0 : z41 = (-99999999)) (h1 : z41 = -99999999 ∨ (0 ≤ z41 ∧ z41 ≤ 19)) (h2 : (-99999999) ≤ z41 ∧ z41 ≤ 19) : (-99999999) ≤ z41 ∧ z41 ≤ (-99999999) := by omega
theorem vc_X12_tie_pk_16 {z44 : Int} (h0 : ¬ z44 = 20) (h1 : 0 ≤ z44 ∧ z44 ≤ 20) : 0 ≤ z44 ∧ z44 ≤ 19 := by omega
theorem vc_X12_tie_pk_17 {z107 : Int} (h0 : (5 - z107) < ((0 : Nat) : Int)) (h1 : 0 ≤ z107 ∧ z107 ≤ 4) : False := by omega
theorem vc_X12_tie_pk_18 {z107 : Int} (h0 : 4 ≤ z107) (h1 : 0 ≤ z107 ∧ z107 ≤ 4) : 4 ≤ z107 ∧ z107 ≤ 4 := by omega
theorem vc_X12_tie_pk_19 {z107 : Int} (h0 : z107 < 4) (h1 : 0 ≤ z107 ∧ z107 ≤ 4) : 0 ≤ z107 ∧ z107 ≤ 3 := by omega
theorem vc_X12_tie_pk_20  : ((-99999999) : Int) = -(99999999 : Int) ∨ ((0 : Int) ≤ ((-99999999) : Int) ∧ ((-99999999) : Int) ≤ (11 : Int)) := by omega
theorem vc_X12_tie_pk_21 {z131 : Int} (h0 : 0 ≤ z131 ∧ z131 ≤ 12) : ((-99999999) : Int) = -99999999 ∨ (0 ≤ ((-99999999) : Int) ∧ ((-99999999) : Int) < z131) := by omega
theorem vc_X12_tie_pk_22 {N z107 : Int} (h0 : (5 - z107) < N + 1) (h1 : z107 < 4) (h2 : 0 ≤ z107 ∧ z107 ≤ 3) : (5 - (z107 + 1)) < N := by omega
theorem vc_X12_tie_pk_23  : (5 - 0) < ((6 : Nat) : Int) := by omega
theorem vc_X12_tie_pk_24 {z44 : Int} (h0 : z44 = 20) (h1 : 0 ≤ z44 ∧ z44 ≤ 20) : 20 ≤ z44 ∧ z44 ≤ 20 := by omega
theorem vc_X12_tie_pk_25 {z41 : Int} (h0 : ¬ z41 = (-99999999)) (h1 : z41 = -99999999 ∨ (0 ≤ z41 ∧ z41 ≤ 19)) (h2 : (-99999999) ≤ z41 ∧ z41 ≤ 19) : 0 ≤ z41 ∧ z41 ≤ 19 := by omega
theorem vc_X12_tie_pk_26 {p3 z32 : Int} (h0 : z32 = 0) (h1 : (z32 = 1 → (0 : Int) ≤ p3 ∧ p3 ≤ (2 : Int))) (h2 : (z32 = 0 → p3 < (0 : Int) ∨ (2 : Int) < p3)) (h3 : (-2147483648) ≤ p3 ∧ p3 ≤ 2147483647) (h4 : 0 ≤ z32 ∧ z32 ≤ 1) : 0 ≤ z32 ∧ z32 ≤ 0 := by omega
theorem vc_X12_tie_pk_27 {p3 z32 : Int} (h0 : (z32 = 1 → (0 : Int) ≤ p3 ∧ p3 ≤ (2 : Int))) (h1 : (z32 = 0 → p3 < (0 : Int) ∨ (2 : Int) < p3)) (h2 : z32 = 0) (h3 : (-2147483648) ≤ p3 ∧ p3 ≤ 2147483647) (h4 : 0 ≤ z32 ∧ z32 ≤ 0) : z32 = 0 := by omega
set_option maxRecDepth 4000 in
set_option maxHeartbeats 4000000 in
theorem c_X12_tie_pk {l : Launch} {D : va_G} {c : Nat → ClassId} {H0 : Heap} {sa : Nat × Nat × (Nat → Int32)} {w : mW} {μ : mM} (hw : mWF w) (hT : mT w μ) {p1 : Int} (hp1 : (-2147483648) ≤ p1 ∧ p1 ≤ 2147483647) {p2 : Int} (hp2 : (-2147483648) ≤ p2 ∧ p2 ≤ 2147483647) {p3 : Int} (hp3 : (-2147483648) ≤ p3 ∧ p3 ≤ 2147483647) (hIPK : PK μ) : sC (gG l D c H0 sa) mX12_tie 3 0 0 [.ref 106, iv p1, iv p2, iv p3] (mk w μ) (qI w [106006, 110999, 111999, 112999, 113999, 114999, 115999] μ (fun z μ1 => ((-2147483648) ≤ z ∧ z ≤ 2147483647) ∧ PK μ1 ∧ True)) := by
  refine sC.of rfl (by decide) (le_t rfl) ?_
  refine mr_lvE (lv' := [(0, .ref 106), (1, iv p1), (2, iv p2), (3, iv p3)]) rfl ?_
  refine sv_aload_n (pc := 0) dX12_tie_0 rfl rfl ?_
  refine mr_iload_n (pc := 1) (z := p1) dX12_tie_1 rfl rfl ?_
  obtain ⟨z1, q2⟩ : ∃ z, μ 106 5 = z := ⟨_, rfl⟩
  have h3 : (0 ≤ z1 ∧ z1 ≤ 10) := by rw [← q2]; exact hT 106 106 (A_106 hw) 5
  refine mr_cVP (pc := 2) (c_X12_isDomain hw hT hp1 q2) (gOk _ _ _ _ _) dX12_tie_2 (tX12_isDomain _ _ _ _ _) ⟨wV_X12_isDomain, wL_X12_isDomain⟩ wM_X12_49 (gCX12 _ _ _ _ _) rfl (A_106 hw) rfl ⟨le_t rfl, le_t rfl⟩ ⟨le_t rfl, le_t rfl⟩ rfl (le_t rfl) fun z8 h7 => ?_
  refine mr_if_eq (pc := 5) (tgt := 30) dX12_tie_5 (by decide) (r32 h7.1 rfl) (fun h9 => ?_) (fun h9 => ?_)
  · have h10 : 0 ≤ z8 ∧ z8 ≤ 0 := (vc_X12_tie_pk_1 h9 h7.2.1 h7.2.2.1 hp1 h3 h7.1)
    have h11 : p1 < 0 ∨ z1 ≤ p1 := (h7.2.2.1 (vc_X12_tie_pk_2 h7.2.1 h7.2.2.1 h9 hp1 h3 h10))
    refine mr_iconst (pc := 30) (z := (-1)) dX12_tie_30 ?_
    exact mr_iret dX12_tie_31 rfl (le_t rfl) (le_t rfl) hT mF.refl ⟨(rW (c := (-2147483648)) (d := 2147483647) (rR (x := (-1))) rfl), hIPK, trivial⟩
  have h12 : 1 ≤ z8 ∧ z8 ≤ 1 := (vc_X12_tie_pk_3 h9 h7.2.1 h7.2.2.1 hp1 h3 h7.1)
  have h13 : 0 ≤ p1 ∧ p1 < z1 := (h7.2.1 (vc_X12_tie_pk_4 h7.2.1 h7.2.2.1 h9 hp1 h3 h12))
  have h14 : 0 ≤ p1 ∧ p1 ≤ 9 := (vc_X12_tie_pk_5 h13 h7.2.1 h7.2.2.1 hp1 h3 h12)
  have h15 : 1 ≤ z1 ∧ z1 ≤ 10 := (vc_X12_tie_pk_6 h13 h7.2.1 h7.2.2.1 h14 h3 h12)
  refine sv_aload_n (pc := 8) dX12_tie_8 rfl rfl ?_
  refine mr_iload_n (pc := 9) (z := p2) dX12_tie_9 rfl rfl ?_
  refine mr_cVP (pc := 10) (c_X12_isDomain hw hT hp2 q2) (gOk _ _ _ _ _) dX12_tie_10 (tX12_isDomain _ _ _ _ _) ⟨wV_X12_isDomain, wL_X12_isDomain⟩ wM_X12_49 (gCX12 _ _ _ _ _) rfl (A_106 hw) rfl ⟨le_t rfl, le_t rfl⟩ ⟨le_t rfl, le_t rfl⟩ rfl (le_t rfl) fun z20 h19 => ?_
  refine mr_if_eq (pc := 13) (tgt := 30) dX12_tie_13 (by decide) (r32 h19.1 rfl) (fun h21 => ?_) (fun h21 => ?_)
  · have h22 : 0 ≤ z20 ∧ z20 ≤ 0 := (vc_X12_tie_pk_7 h21 h19.2.1 h19.2.2.1 hp2 h15 h19.1)
    have h23 : p2 < 0 ∨ z1 ≤ p2 := (h19.2.2.1 (vc_X12_tie_pk_8 h19.2.1 h19.2.2.1 h21 h7.2.1 h7.2.2.1 h13 h14 hp2 h15 h22 h12))
    refine mr_iconst (pc := 30) (z := (-1)) dX12_tie_30 ?_
    exact mr_iret dX12_tie_31 rfl (le_t rfl) (le_t rfl) hT mF.refl ⟨(rW (c := (-2147483648)) (d := 2147483647) (rR (x := (-1))) rfl), hIPK, trivial⟩
  have h24 : 1 ≤ z20 ∧ z20 ≤ 1 := (vc_X12_tie_pk_9 h21 h19.2.1 h19.2.2.1 hp2 h15 h19.1)
  have h25 : 0 ≤ p2 ∧ p2 < z1 := (h19.2.1 (vc_X12_tie_pk_10 h19.2.1 h19.2.2.1 h21 h7.2.1 h7.2.2.1 h13 h14 hp2 h15 h24 h12))
  have h26 : 0 ≤ p2 ∧ p2 ≤ 9 := (vc_X12_tie_pk_11 h25 h7.2.1 h7.2.2.1 h13 h19.2.1 h19.2.2.1 h14 hp2 h15 h24 h12)
  refine mr_iload_n (pc := 16) (z := p1) dX12_tie_16 rfl rfl ?_
  refine mr_iload_n (pc := 17) (z := p2) dX12_tie_17 rfl rfl ?_
  refine mr_icmp_eq (pc := 18) (tgt := 30) dX12_tie_18 (by decide) (r32 h14 rfl) (r32 h26 rfl) (fun h27 => ?_) (fun h27 => ?_)
  · refine mr_iconst (pc := 30) (z := (-1)) dX12_tie_30 ?_
    exact mr_iret dX12_tie_31 rfl (le_t rfl) (le_t rfl) hT mF.refl ⟨(rW (c := (-2147483648)) (d := 2147483647) (rR (x := (-1))) rfl), hIPK, trivial⟩
  refine mr_iload_n (pc := 21) (z := p3) dX12_tie_21 rfl rfl ?_
  refine mr_iconst (pc := 22) (z := 0) dX12_tie_22 ?_
  refine mr_iconst (pc := 23) (z := 2) dX12_tie_23 ?_
  refine mr_cSP (pc := 24) (c_X12_in hw hT hp3 (rW (c := (-2147483648)) (d := 2147483647) (rR (x := 0)) rfl) (rW (c := (-2147483648)) (d := 2147483647) (rR (x := 2)) rfl)) (gOk _ _ _ _ _) dX12_tie_24 (tX12_in _ _ _ _ _) wS_X12_in wM_X12_18 ⟨le_t rfl, le_t rfl⟩ ⟨le_t rfl, le_t rfl⟩ rfl (le_t rfl) fun z32 h31 => ?_
  refine mr_if_ne (pc := 27) (tgt := 32) dX12_tie_27 (by decide) (r32 h31.1 rfl) (fun h33 => ?_) (fun h33 => ?_)
  · have h34 : 1 ≤ z32 ∧ z32 ≤ 1 := (vc_X12_tie_pk_12 h33 h31.2.1 h31.2.2.1 hp3 h31.1)
    have h35 : (0 : Int) ≤ p3 ∧ p3 ≤ (2 : Int) := (h31.2.1 (vc_X12_tie_pk_13 h31.2.1 h31.2.2.1 h33 hp3 h34))
    have h36 : 0 ≤ p3 ∧ p3 ≤ 2 := (vc_X12_tie_pk_14 h35 h31.2.1 h31.2.2.1 hp3 h34)
    refine sv_aload_n (pc := 32) dX12_tie_32 rfl rfl ?_
    refine mr_iload_n (pc := 33) (z := p1) dX12_tie_33 rfl rfl ?_
    refine mr_iload_n (pc := 34) (z := p2) dX12_tie_34 rfl rfl ?_
    refine mr_cVP (pc := 35) (c_X12_tieOf hw hT (rW (c := (-2147483648)) (d := 2147483647) h14 rfl) (rW (c := (-2147483648)) (d := 2147483647) h26 rfl)) (gOk _ _ _ _ _) dX12_tie_35 (tX12_tieOf _ _ _ _ _) ⟨wV_X12_tieOf, wL_X12_tieOf⟩ wM_X12_43 (gCX12 _ _ _ _ _) rfl (A_106 hw) rfl ⟨le_t rfl, le_t rfl⟩ ⟨le_t rfl, le_t rfl⟩ rfl (le_t rfl) fun z41 h40 => ?_
    refine mr_ldc (pc := 38) (z := (-99999999)) dX12_tie_38 wG_X12_29 (by decide) ?_
    refine mr_icmp_eq (pc := 40) (tgt := 46) dX12_tie_40 (by decide) (r32 h40.1 rfl) (r32 (rR (x := (-99999999))) rfl) (fun h42 => ?_) (fun h42 => ?_)
    · have h43 : (-99999999) ≤ z41 ∧ z41 ≤ (-99999999) := (vc_X12_tie_pk_15 h42 h40.2.1 h40.1)
      refine sv_aload_n (pc := 46) dX12_tie_46 rfl rfl ?_
      refine gf_X12_6 (pc := 47) dX12_tie_47 wF_X12_37 (A_106 hw) hT fun z44 q45 h46 => ?_
      refine mr_bipush (pc := 50) (z := 20) dX12_tie_50 (by decide) ?_
      refine mr_icmp_ne (pc := 52) (tgt := 58) dX12_tie_52 (by decide) (r32 h46 rfl) (r32 (rR (x := 20)) rfl) (fun h47 => ?_) (fun h47 => ?_)
      · have h48 : 0 ≤ z44 ∧ z44 ≤ 19 := (vc_X12_tie_pk_16 h47 h46)
        refine sv_aload_n (pc := 58) dX12_tie_58 rfl rfl ?_
        refine gf_X12_7 (pc := 59) dX12_tie_59 wF_X12_40 (A_106 hw) hT ?_
        refine mr_iconst (pc := 62) (z := 2) dX12_tie_62 ?_
        refine sv_aload_n (pc := 63) dX12_tie_63 rfl rfl ?_
        refine gk_X12_6 (pc := 64) dX12_tie_64 wF_X12_37 (A_106 hw) q45 ?_
        refine mr_imul (pc := 67) (x := 2) (y := z44) dX12_tie_67 ?_
        refine mr_iload_n (pc := 68) (z := p1) dX12_tie_68 rfl rfl ?_
        refine ss_110 (pc := 69) dX12_tie_69 (A_110 hw) hT (rIx (n := 40) (rMulL (n := 2) (e := 0) (f := 38) h48 rfl) rfl) h14 fun μ49 u50 T51 => ?_
        refine sv_aload_n (pc := 70) dX12_tie_70 rfl rfl ?_
        refine gf_X12_7 (pc := 71) dX12_tie_71 wF_X12_40 (A_106 hw) T51 ?_
        refine mr_iconst (pc := 74) (z := 2) dX12_tie_74 ?_
        refine sv_aload_n (pc := 75) dX12_tie_75 rfl rfl ?_
        refine gk_X12_6 (pc := 76) dX12_tie_76 wF_X12_37 (A_106 hw) (u50.f (Or.inl (mAt.ne (A_110 hw) (A_106 hw) rfl)) q45) ?_
        refine mr_imul (pc := 79) (x := 2) (y := z44) dX12_tie_79 ?_
        refine mr_iconst (pc := 80) (z := 1) dX12_tie_80 ?_
        refine mr_iadd (pc := 81) (x := (2 * z44)) (y := 1) dX12_tie_81 ?_
        refine mr_iload_n (pc := 82) (z := p2) dX12_tie_82 rfl rfl ?_
        refine ss_110 (pc := 83) dX12_tie_83 (A_110 hw) T51 (rIx (n := 40) (rAdd (e := 1) (f := 39) (rMulL (n := 2) (e := 0) (f := 38) h48 rfl) (rR (x := 1)) rfl) rfl) h26 fun μ52 u53 T54 => ?_
        refine sv_aload_n (pc := 84) dX12_tie_84 rfl rfl ?_
        refine gf_X12_8 (pc := 85) dX12_tie_85 wF_X12_46 (A_106 hw) T54 ?_
        refine sv_aload_n (pc := 88) dX12_tie_88 rfl rfl ?_
        refine gk_X12_6 (pc := 89) dX12_tie_89 wF_X12_37 (A_106 hw) (u53.f (Or.inl (mAt.ne (A_110 hw) (A_106 hw) rfl)) (u50.f (Or.inl (mAt.ne (A_110 hw) (A_106 hw) rfl)) q45)) ?_
        refine mr_iload_n (pc := 92) (z := p3) dX12_tie_92 rfl rfl ?_
        refine ss_111 (pc := 93) dX12_tie_93 (A_111 hw) T54 (rIx (n := 20) h48 rfl) h36 fun μ55 u56 T57 => ?_
        refine sv_aload_n (pc := 94) dX12_tie_94 rfl rfl ?_
        refine gf_X12_9 (pc := 95) dX12_tie_95 wF_X12_53 (A_106 hw) T57 ?_
        refine sv_aload_n (pc := 98) dX12_tie_98 rfl rfl ?_
        refine gk_X12_6 (pc := 99) dX12_tie_99 wF_X12_37 (A_106 hw) (u56.f (Or.inl (mAt.ne (A_111 hw) (A_106 hw) rfl)) (u53.f (Or.inl (mAt.ne (A_110 hw) (A_106 hw) rfl)) (u50.f (Or.inl (mAt.ne (A_110 hw) (A_106 hw) rfl)) q45))) ?_
        refine mr_iconst (pc := 102) (z := 1) dX12_tie_102 ?_
        refine ss_112 (pc := 103) dX12_tie_103 (A_112 hw) T57 (rIx (n := 20) h48 rfl) (rW (c := 0) (d := 1) (rR (x := 1)) rfl) fun μ58 u59 T60 => ?_
        refine sv_aload_n (pc := 104) dX12_tie_104 rfl rfl ?_
        refine gf_X12_10 (pc := 105) dX12_tie_105 wF_X12_57 (A_106 hw) T60 ?_
        refine sv_aload_n (pc := 108) dX12_tie_108 rfl rfl ?_
        refine gk_X12_6 (pc := 109) dX12_tie_109 wF_X12_37 (A_106 hw) (u59.f (Or.inl (mAt.ne (A_112 hw) (A_106 hw) rfl)) (u56.f (Or.inl (mAt.ne (A_111 hw) (A_106 hw) rfl)) (u53.f (Or.inl (mAt.ne (A_110 hw) (A_106 hw) rfl)) (u50.f (Or.inl (mAt.ne (A_110 hw) (A_106 hw) rfl)) q45)))) ?_
        refine mr_iconst (pc := 112) (z := 1) dX12_tie_112 ?_
        refine ss_113 (pc := 113) dX12_tie_113 (A_113 hw) T60 (rIx (n := 20) h48 rfl) (rW (c := 0) (d := 1000) (rR (x := 1)) rfl) fun μ61 u62 T63 => ?_
        refine sv_aload_n (pc := 114) dX12_tie_114 rfl rfl ?_
        refine gf_X12_11 (pc := 115) dX12_tie_115 wF_X12_60 (A_106 hw) T63 ?_
        refine sv_aload_n (pc := 118) dX12_tie_118 rfl rfl ?_
        refine gk_X12_6 (pc := 119) dX12_tie_119 wF_X12_37 (A_106 hw) (u62.f (Or.inl (mAt.ne (A_113 hw) (A_106 hw) rfl)) (u59.f (Or.inl (mAt.ne (A_112 hw) (A_106 hw) rfl)) (u56.f (Or.inl (mAt.ne (A_111 hw) (A_106 hw) rfl)) (u53.f (Or.inl (mAt.ne (A_110 hw) (A_106 hw) rfl)) (u50.f (Or.inl (mAt.ne (A_110 hw) (A_106 hw) rfl)) q45))))) ?_
        refine mr_iconst (pc := 122) (z := 0) dX12_tie_122 ?_
        refine ss_114 (pc := 123) dX12_tie_123 (A_114 hw) T63 (rIx (n := 20) h48 rfl) (rW (c := 0) (d := 1000) (rR (x := 0)) rfl) fun μ64 u65 T66 => ?_
        refine mr_iconst (pc := 124) (z := 0) dX12_tie_124 ?_
        refine mr_istore (pc := 125) (lv' := [(4, iv 0), (0, .ref 106), (1, iv p1), (2, iv p2), (3, iv p3)]) dX12_tie_125 (by decide) rfl ?_
        have L109 : ∀ (nL109 : Nat) (z107 : Int) (μ108 : mM), mT w μ108 → mF [115999] w μ64 μ108 → (0 ≤ z107 ∧ z107 ≤ 4) → PK μ108 → (5 - z107) < (nL109 : Int) → sV (gG l D c H0 sa) mX12_tie (sRm 3 0 0) (sZ (gG l D c H0 sa) 0 0 (qI w [106006, 110999, 111999, 112999, 113999, 114999, 115999] μ (fun z μ1 => ((-2147483648) ≤ z ∧ z ≤ 2147483647) ∧ PK μ1 ∧ True))) 127 [(0, .ref 106), (4, iv z107)] [] (mk w μ108) 0 0 := by
          intro nL109
          induction nL109 with
          | zero => intro z107 μ108 T111 F112 h110 I114 h115; exact ((vc_X12_tie_pk_17 h115 h110)).elim
          | succ nL109 ih116 =>
            intro z107 μ108 T111 F112 h110 I114 h115
            refine mr_iload (pc := 127) (z := z107) dX12_tie_127 rfl ?_
            refine mr_iconst (pc := 129) (z := 4) dX12_tie_129 ?_
            refine mr_icmp_ge (pc := 130) (tgt := 155) dX12_tie_130 (by decide) (r32 h110 rfl) (r32 (rR (x := 4)) rfl) (fun h122 => ?_) (fun h122 => ?_)
            · have h123 : 4 ≤ z107 ∧ z107 ≤ 4 := (vc_X12_tie_pk_18 h122 h110)
              refine sv_aload_n (pc := 155) dX12_tie_155 rfl rfl ?_
              refine sv_dup (pc := 156) dX12_tie_156 rfl ?_
              refine gk_X12_6 (pc := 157) dX12_tie_157 wF_X12_37 (A_106 hw) (F112.f (A_106 hw) rfl (u65.f (Or.inl (mAt.ne (A_114 hw) (A_106 hw) rfl)) (u62.f (Or.inl (mAt.ne (A_113 hw) (A_106 hw) rfl)) (u59.f (Or.inl (mAt.ne (A_112 hw) (A_106 hw) rfl)) (u56.f (Or.inl (mAt.ne (A_111 hw) (A_106 hw) rfl)) (u53.f (Or.inl (mAt.ne (A_110 hw) (A_106 hw) rfl)) (u50.f (Or.inl (mAt.ne (A_110 hw) (A_106 hw) rfl)) q45))))))) ?_
              refine mr_iconst (pc := 160) (z := 1) dX12_tie_160 ?_
              refine mr_iadd (pc := 161) (x := z44) (y := 1) dX12_tie_161 ?_
              refine pf_X12_6 (pc := 162) dX12_tie_162 wF_X12_37 (A_106 hw) T111 (rW (c := 0) (d := 20) (rAdd (e := 1) (f := 20) h48 (rR (x := 1)) rfl) rfl) fun μ124 u125 T126 => ?_
              refine sv_aload_n (pc := 165) dX12_tie_165 rfl rfl ?_
              refine gk_X12_6 (pc := 166) dX12_tie_166 wF_X12_37 (A_106 hw) u125.1 ?_
              refine mr_iconst (pc := 169) (z := 1) dX12_tie_169 ?_
              refine mr_isub (pc := 170) (x := (z44 + 1)) (y := 1) dX12_tie_170 ?_
              exact mr_iret dX12_tie_171 rfl (le_t rfl) (le_t rfl) T126 (mF.up (mF.call (mF.up (mF.up (mF.up (mF.up (mF.up (mF.up mF.refl (A_110 hw) u50 rfl) (A_110 hw) u53 rfl) (A_111 hw) u56 rfl) (A_112 hw) u59 rfl) (A_113 hw) u62 rfl) (A_114 hw) u65 rfl) F112 rfl) (A_106 hw) u125 rfl) ⟨(rW (c := (-2147483648)) (d := 2147483647) (rSub (e := 0) (f := 19) (rAdd (e := 1) (f := 20) h48 (rR (x := 1)) rfl) (rR (x := 1)) rfl) rfl), (PK.keep I114 hw ((mF.up mF.refl (A_106 hw) u125 rfl) : mF [106006] w μ108 μ124) rfl), trivial⟩
            have h127 : 0 ≤ z107 ∧ z107 ≤ 3 := (vc_X12_tie_pk_19 h122 h110)
            refine sv_aload_n (pc := 133) dX12_tie_133 rfl rfl ?_
            refine gf_X12_12 (pc := 134) dX12_tie_134 wF_X12_63 (A_106 hw) T111 ?_
            refine mr_iconst (pc := 137) (z := 4) dX12_tie_137 ?_
            refine sv_aload_n (pc := 138) dX12_tie_138 rfl rfl ?_
            refine gk_X12_6 (pc := 139) dX12_tie_139 wF_X12_37 (A_106 hw) (F112.f (A_106 hw) rfl (u65.f (Or.inl (mAt.ne (A_114 hw) (A_106 hw) rfl)) (u62.f (Or.inl (mAt.ne (A_113 hw) (A_106 hw) rfl)) (u59.f (Or.inl (mAt.ne (A_112 hw) (A_106 hw) rfl)) (u56.f (Or.inl (mAt.ne (A_111 hw) (A_106 hw) rfl)) (u53.f (Or.inl (mAt.ne (A_110 hw) (A_106 hw) rfl)) (u50.f (Or.inl (mAt.ne (A_110 hw) (A_106 hw) rfl)) q45))))))) ?_
            refine mr_imul (pc := 142) (x := 4) (y := z44) dX12_tie_142 ?_
            refine mr_iload (pc := 143) (z := z107) dX12_tie_143 rfl ?_
            refine mr_iadd (pc := 145) (x := (4 * z44)) (y := z107) dX12_tie_145 ?_
            refine mr_ldc (pc := 146) (z := (-99999999)) dX12_tie_146 wG_X12_29 (by decide) ?_
            refine ss_115 (pc := 148) dX12_tie_148 (A_115 hw) T111 (rIx (n := 80) (rAdd (e := 0) (f := 79) (rMulL (n := 4) (e := 0) (f := 76) h48 rfl) h127 rfl) rfl) vc_X12_tie_pk_20 fun μ128 u129 T130 => ?_
            obtain ⟨z131, q132⟩ : ∃ z, μ128 106 39 = z := ⟨_, rfl⟩
            have h133 : (0 ≤ z131 ∧ z131 ≤ 12) := by rw [← q132]; exact T130 106 106 (A_106 hw) 39
            have I134 : PK μ128 := PK.use I114 u129 (u129.2 106 39 (Or.inl (by decide)) ▸ q132) (vc_X12_tie_pk_21 h133)
            refine mr_iinc (pc := 149) (lv' := [(4, iv (z107 + 1)), (0, .ref 106)]) dX12_tie_149 rfl (by decide) rfl ?_
            refine sv_goto (pc := 152) (tgt := 127) dX12_tie_152 (by decide) ?_
            refine mr_lvS (lv' := [(0, .ref 106), (4, iv (z107 + 1))]) (List.forall_mem_cons.mpr ⟨rfl, List.forall_mem_cons.mpr ⟨rfl, fun _ h => absurd h List.not_mem_nil⟩⟩) ?_
            exact ih116 (z107 + 1) μ128 T130 (mF.up (mF.call mF.refl F112 rfl) (A_115 hw) u129 rfl) (rW (c := 0) (d := 4) (rAdd (e := 1) (f := 4) h127 (rR (x := 1)) rfl) rfl) I134 (vc_X12_tie_pk_22 (nS h115) h122 h127)
        refine mr_lvS (lv' := [(0, .ref 106), (4, iv 0)]) (List.forall_mem_cons.mpr ⟨rfl, List.forall_mem_cons.mpr ⟨rfl, fun _ h => absurd h List.not_mem_nil⟩⟩) ?_
        exact L109 6 0 μ64 T66 mF.refl (rW (c := 0) (d := 4) (rR (x := 0)) rfl) (PK.keep hIPK hw ((mF.up (mF.up (mF.up (mF.up (mF.up (mF.up mF.refl (A_110 hw) u50 rfl) (A_110 hw) u53 rfl) (A_111 hw) u56 rfl) (A_112 hw) u59 rfl) (A_113 hw) u62 rfl) (A_114 hw) u65 rfl) : mF [110999, 111999, 112999, 113999, 114999] w μ μ64) rfl) vc_X12_tie_pk_23
      have h135 : 20 ≤ z44 ∧ z44 ≤ 20 := (vc_X12_tie_pk_24 h47 h46)
      refine mr_bipush (pc := 55) (z := (-3)) dX12_tie_55 (by decide) ?_
      exact mr_iret dX12_tie_57 rfl (le_t rfl) (le_t rfl) hT mF.refl ⟨(rW (c := (-2147483648)) (d := 2147483647) (rR (x := (-3))) rfl), hIPK, trivial⟩
    have h136 : 0 ≤ z41 ∧ z41 ≤ 19 := (vc_X12_tie_pk_25 h42 h40.2.1 h40.1)
    refine mr_bipush (pc := 43) (z := (-2)) dX12_tie_43 (by decide) ?_
    exact mr_iret dX12_tie_45 rfl (le_t rfl) (le_t rfl) hT mF.refl ⟨(rW (c := (-2147483648)) (d := 2147483647) (rR (x := (-2))) rfl), hIPK, trivial⟩
  have h137 : 0 ≤ z32 ∧ z32 ≤ 0 := (vc_X12_tie_pk_26 h33 h31.2.1 h31.2.2.1 hp3 h31.1)
  have h138 : p3 < (0 : Int) ∨ (2 : Int) < p3 := (h31.2.2.1 (vc_X12_tie_pk_27 h31.2.1 h31.2.2.1 h33 hp3 h137))
  refine mr_iconst (pc := 30) (z := (-1)) dX12_tie_30 ?_
  exact mr_iret dX12_tie_31 rfl (le_t rfl) (le_t rfl) hT mF.refl ⟨(rW (c := (-2147483648)) (d := 2147483647) (rR (x := (-1))) rfl), hIPK, trivial⟩
