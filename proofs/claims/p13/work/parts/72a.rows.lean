theorem vc_X12_cone_1 {p1 z1 z8 : Int} (h0 : z8 = 0) (h1 : (z8 = 1 → 0 ≤ p1 ∧ p1 < z1)) (h2 : (z8 = 0 → p1 < 0 ∨ z1 ≤ p1)) (h3 : (-2147483648) ≤ p1 ∧ p1 ≤ 2147483647) (h4 : 0 ≤ z1 ∧ z1 ≤ 10) (h5 : 0 ≤ z8 ∧ z8 ≤ 1) : 0 ≤ z8 ∧ z8 ≤ 0 := by omega
theorem vc_X12_cone_2 {p1 z1 z8 : Int} (h0 : (z8 = 1 → 0 ≤ p1 ∧ p1 < z1)) (h1 : (z8 = 0 → p1 < 0 ∨ z1 ≤ p1)) (h2 : z8 = 0) (h3 : (-2147483648) ≤ p1 ∧ p1 ≤ 2147483647) (h4 : 0 ≤ z1 ∧ z1 ≤ 10) (h5 : 0 ≤ z8 ∧ z8 ≤ 0) : z8 = 0 := by omega
theorem vc_X12_cone_3 {p1 z1 z8 : Int} (h0 : ¬ z8 = 0) (h1 : (z8 = 1 → 0 ≤ p1 ∧ p1 < z1)) (h2 : (z8 = 0 → p1 < 0 ∨ z1 ≤ p1)) (h3 : (-2147483648) ≤ p1 ∧ p1 ≤ 2147483647) (h4 : 0 ≤ z1 ∧ z1 ≤ 10) (h5 : 0 ≤ z8 ∧ z8 ≤ 1) : 1 ≤ z8 ∧ z8 ≤ 1 := by omega
theorem vc_X12_cone_4 {p1 z1 z8 : Int} (h0 : (z8 = 1 → 0 ≤ p1 ∧ p1 < z1)) (h1 : (z8 = 0 → p1 < 0 ∨ z1 ≤ p1)) (h2 : ¬ z8 = 0) (h3 : (-2147483648) ≤ p1 ∧ p1 ≤ 2147483647) (h4 : 0 ≤ z1 ∧ z1 ≤ 10) (h5 : 1 ≤ z8 ∧ z8 ≤ 1) : z8 = 1 := by omega
theorem vc_X12_cone_5 {p1 z1 z8 : Int} (h0 : 0 ≤ p1 ∧ p1 < z1) (h1 : (z8 = 1 → 0 ≤ p1 ∧ p1 < z1)) (h2 : (z8 = 0 → p1 < 0 ∨ z1 ≤ p1)) (h3 : (-2147483648) ≤ p1 ∧ p1 ≤ 2147483647) (h4 : 0 ≤ z1 ∧ z1 ≤ 10) (h5 : 1 ≤ z8 ∧ z8 ≤ 1) : 0 ≤ p1 ∧ p1 ≤ 9 := by omega
theorem vc_X12_cone_6 {p1 z1 z8 : Int} (h0 : 0 ≤ p1 ∧ p1 < z1) (h1 : (z8 = 1 → 0 ≤ p1 ∧ p1 < z1)) (h2 : (z8 = 0 → p1 < 0 ∨ z1 ≤ p1)) (h3 : 0 ≤ p1 ∧ p1 ≤ 9) (h4 : 0 ≤ z1 ∧ z1 ≤ 10) (h5 : 1 ≤ z8 ∧ z8 ≤ 1) : 1 ≤ z1 ∧ z1 ≤ 10 := by omega
theorem vc_X12_cone_7 {p2 : Int} (h0 : p2 = (-1)) (h1 : (-2147483648) ≤ p2 ∧ p2 ≤ 2147483647) : (-1) ≤ p2 ∧ p2 ≤ (-1) := by omega
theorem vc_X12_cone_8 {z480 : Int} (h0 : (11 - z480) < ((0 : Nat) : Int)) (h1 : 0 ≤ z480 ∧ z480 ≤ 10) : False := by omega
theorem vc_X12_cone_9 {z480 : Int} (h0 : 10 ≤ z480) (h1 : 0 ≤ z480 ∧ z480 ≤ 10) : 10 ≤ z480 ∧ z480 ≤ 10 := by omega
theorem vc_X12_cone_10 {f_c z766 : Int} (h0 : ((2 * (10 - f_c)) + z766) < ((0 : Nat) : Int)) (h1 : 0 ≤ f_c ∧ f_c ≤ 10) (h2 : 0 ≤ z766 ∧ z766 ≤ 1) : False := by omega
theorem vc_X12_cone_11 {z766 : Int} (h0 : z766 = 0) (h1 : 0 ≤ z766 ∧ z766 ≤ 1) : 0 ≤ z766 ∧ z766 ≤ 0 := by omega
theorem vc_X12_cone_12 {z981 : Int} (h0 : (11 - z981) < ((0 : Nat) : Int)) (h1 : 0 ≤ z981 ∧ z981 ≤ 10) : False := by omega
theorem vc_X12_cone_13 {p1 z1 z8 z981 : Int} (h0 : z1 ≤ z981) (h1 : (z8 = 1 → 0 ≤ p1 ∧ p1 < z1)) (h2 : (z8 = 0 → p1 < 0 ∨ z1 ≤ p1)) (h3 : 0 ≤ p1 ∧ p1 < z1) (h4 : 0 ≤ p1 ∧ p1 ≤ 9) (h5 : 1 ≤ z1 ∧ z1 ≤ 10) (h6 : 1 ≤ z8 ∧ z8 ≤ 1) (h7 : 0 ≤ z981 ∧ z981 ≤ 10) : 1 ≤ z981 ∧ z981 ≤ 10 := by omega
theorem vc_X12_cone_14 {p2 : Int} (h0 : 0 ≤ p2) (h1 : (-1) ≤ p2 ∧ p2 ≤ (-1)) : False := by omega
theorem vc_X12_cone_15 {p1 z1 z8 z981 : Int} (h0 : z981 < z1) (h1 : (z8 = 1 → 0 ≤ p1 ∧ p1 < z1)) (h2 : (z8 = 0 → p1 < 0 ∨ z1 ≤ p1)) (h3 : 0 ≤ p1 ∧ p1 < z1) (h4 : 0 ≤ p1 ∧ p1 ≤ 9) (h5 : 1 ≤ z1 ∧ z1 ≤ 10) (h6 : 1 ≤ z8 ∧ z8 ≤ 1) (h7 : 0 ≤ z981 ∧ z981 ≤ 10) : 0 ≤ z981 ∧ z981 ≤ 9 := by omega
theorem vc_X12_cone_16 {z1003 : Int} (h0 : z1003 = 0) (h1 : 0 ≤ z1003 ∧ z1003 ≤ 1) : 0 ≤ z1003 ∧ z1003 ≤ 0 := by omega
theorem vc_X12_cone_17 {N p1 z1 z8 z981 : Int} (h0 : (11 - z981) < N + 1) (h1 : z981 < z1) (h2 : (z8 = 1 → 0 ≤ p1 ∧ p1 < z1)) (h3 : (z8 = 0 → p1 < 0 ∨ z1 ≤ p1)) (h4 : 0 ≤ p1 ∧ p1 < z1) (h5 : 0 ≤ p1 ∧ p1 ≤ 9) (h6 : 1 ≤ z1 ∧ z1 ≤ 10) (h7 : 1 ≤ z8 ∧ z8 ≤ 1) (h8 : 0 ≤ z981 ∧ z981 ≤ 9) : (11 - (z981 + 1)) < N := by omega
theorem vc_X12_cone_18 {z1003 : Int} (h0 : ¬ z1003 = 0) (h1 : 0 ≤ z1003 ∧ z1003 ≤ 1) : 1 ≤ z1003 ∧ z1003 ≤ 1 := by omega
theorem vc_X12_cone_19  : (11 - 0) < ((12 : Nat) : Int) := by omega
theorem vc_X12_cone_20 {z766 : Int} (h0 : ¬ z766 = 0) (h1 : 0 ≤ z766 ∧ z766 ≤ 1) : 1 ≤ z766 ∧ z766 ≤ 1 := by omega
theorem vc_X12_cone_21 {f_c f_d z1399 z1400 : Int} (h0 : (21 - z1399) < ((0 : Nat) : Int)) (h1 : 0 ≤ f_d ∧ f_d ≤ 10) (h2 : f_c ≤ f_d) (h3 : z1400 = 0 ∨ f_c + 1 ≤ f_d) (h4 : 0 ≤ f_c ∧ f_c ≤ 10) (h5 : 0 ≤ z1399 ∧ z1399 ≤ 20) (h6 : 0 ≤ z1400 ∧ z1400 ≤ 1) : False := by omega
theorem vc_X12_cone_22 {N f_c f_d z1400 z766 : Int} (h0 : ((2 * (10 - f_c)) + z766) < N + 1) (h1 : ¬ z766 = 0) (h2 : f_c ≤ f_d) (h3 : z1400 = 0 ∨ f_c + 1 ≤ f_d) (h4 : 0 ≤ f_c ∧ f_c ≤ 10) (h5 : 0 ≤ f_d ∧ f_d ≤ 10) (h6 : 0 ≤ z1400 ∧ z1400 ≤ 1) (h7 : 1 ≤ z766 ∧ z766 ≤ 1) : ((2 * (10 - f_d)) + z1400) < N := by omega
theorem vc_X12_cone_23 {z1399 z1414 : Int} (h0 : z1399 < z1414) (h1 : 0 ≤ z1399 ∧ z1399 ≤ 20) (h2 : 0 ≤ z1414 ∧ z1414 ≤ 20) : 0 ≤ z1399 ∧ z1399 ≤ 19 := by omega
theorem vc_X12_cone_24 {z1399 z1414 : Int} (h0 : z1399 < z1414) (h1 : 0 ≤ z1399 ∧ z1399 ≤ 19) (h2 : 0 ≤ z1414 ∧ z1414 ≤ 20) : 1 ≤ z1414 ∧ z1414 ≤ 20 := by omega
theorem vc_X12_cone_25 {z1446 : Int} (h0 : ¬ z1446 = 0) (h1 : 0 ≤ z1446 ∧ z1446 ≤ 2) : 1 ≤ z1446 ∧ z1446 ≤ 2 := by omega
theorem vc_X12_cone_26 {f_c f_d z1400 : Int} (h0 : f_c ≤ f_d) (h1 : z1400 = 0 ∨ f_c + 1 ≤ f_d) (h2 : 0 ≤ f_c ∧ f_c ≤ 10) (h3 : 0 ≤ f_d ∧ f_d ≤ 10) (h4 : 0 ≤ z1400 ∧ z1400 ≤ 1) : f_c ≤ f_d := by omega
theorem vc_X12_cone_27 {f_c f_d z1400 : Int} (h0 : f_c ≤ f_d) (h1 : z1400 = 0 ∨ f_c + 1 ≤ f_d) (h2 : 0 ≤ f_c ∧ f_c ≤ 10) (h3 : 0 ≤ f_d ∧ f_d ≤ 10) (h4 : 0 ≤ z1400 ∧ z1400 ≤ 1) : z1400 = 0 ∨ f_c + 1 ≤ f_d := by omega
theorem vc_X12_cone_28 {N z1399 z1414 : Int} (h0 : (21 - z1399) < N + 1) (h1 : z1399 < z1414) (h2 : 0 ≤ z1399 ∧ z1399 ≤ 19) (h3 : 1 ≤ z1414 ∧ z1414 ≤ 20) : (21 - (z1399 + 1)) < N := by omega
theorem vc_X12_cone_29 {z1446 : Int} (h0 : z1446 = 0) (h1 : 0 ≤ z1446 ∧ z1446 ≤ 2) : 0 ≤ z1446 ∧ z1446 ≤ 0 := by omega
theorem vc_X12_cone_30 {z1476 : Int} (h0 : z1476 = 0) (h1 : 0 ≤ z1476 ∧ z1476 ≤ 1) : 0 ≤ z1476 ∧ z1476 ≤ 0 := by omega
theorem vc_X12_cone_31 {z1476 : Int} (h0 : ¬ z1476 = 0) (h1 : 0 ≤ z1476 ∧ z1476 ≤ 1) : 1 ≤ z1476 ∧ z1476 ≤ 1 := by omega
theorem vc_X12_cone_32 {z1498 : Int} (h0 : ¬ z1498 = 0) (h1 : 0 ≤ z1498 ∧ z1498 ≤ 1) : 1 ≤ z1498 ∧ z1498 ≤ 1 := by omega
theorem vc_X12_cone_33 {z1498 : Int} (h0 : z1498 = 0) (h1 : 0 ≤ z1498 ∧ z1498 ≤ 1) : 0 ≤ z1498 ∧ z1498 ≤ 0 := by omega
theorem vc_X12_cone_34 {f_c f_d z1400 z1498 : Int} (h0 : f_c ≤ f_d) (h1 : z1400 = 0 ∨ f_c + 1 ≤ f_d) (h2 : z1498 = 0) (h3 : 0 ≤ f_c ∧ f_c ≤ 10) (h4 : 0 ≤ f_d ∧ f_d ≤ 10) (h5 : 0 ≤ z1400 ∧ z1400 ≤ 1) (h6 : 0 ≤ z1498 ∧ z1498 ≤ 0) : f_c ≤ ((f_d + 1) - z1498) := by omega
theorem vc_X12_cone_35 {f_c f_d z1400 z1498 : Int} (h0 : f_c ≤ f_d) (h1 : z1400 = 0 ∨ f_c + 1 ≤ f_d) (h2 : z1498 = 0) (h3 : 0 ≤ f_c ∧ f_c ≤ 10) (h4 : 0 ≤ f_d ∧ f_d ≤ 10) (h5 : 0 ≤ z1400 ∧ z1400 ≤ 1) (h6 : 0 ≤ z1498 ∧ z1498 ≤ 0) : (1 : Int) = 0 ∨ f_c + 1 ≤ ((f_d + 1) - z1498) := by omega
theorem vc_X12_cone_36 {f_c : Int} (h0 : 0 ≤ f_c ∧ f_c ≤ 10) : f_c ≤ f_c := by omega
theorem vc_X12_cone_37 {f_c : Int} (h0 : 0 ≤ f_c ∧ f_c ≤ 10) : (0 : Int) = 0 ∨ f_c + 1 ≤ f_c := by omega
theorem vc_X12_cone_38  : (21 - 0) < ((22 : Nat) : Int) := by omega
theorem vc_X12_cone_39 {z1512 : Int} (h0 : 0 ≤ z1512 ∧ z1512 ≤ 10) : ((2 * (10 - z1512)) + 1) < ((22 : Nat) : Int) := by omega
theorem vc_X12_cone_40 {z480 : Int} (h0 : z480 < 10) (h1 : 0 ≤ z480 ∧ z480 ≤ 10) : 0 ≤ z480 ∧ z480 ≤ 9 := by omega
theorem vc_X12_cone_41 {N p1 z1 z480 z8 : Int} (h0 : (11 - z480) < N + 1) (h1 : z480 < 10) (h2 : ¬ z480 = p1) (h3 : (z8 = 1 → 0 ≤ p1 ∧ p1 < z1)) (h4 : (z8 = 0 → p1 < 0 ∨ z1 ≤ p1)) (h5 : 0 ≤ p1 ∧ p1 < z1) (h6 : 0 ≤ p1 ∧ p1 ≤ 9) (h7 : 1 ≤ z1 ∧ z1 ≤ 10) (h8 : 0 ≤ z480 ∧ z480 ≤ 9) (h9 : 1 ≤ z8 ∧ z8 ≤ 1) : (11 - (z480 + 1)) < N := by omega
theorem vc_X12_cone_42 {N p1 z1 z480 z8 : Int} (h0 : (11 - z480) < N + 1) (h1 : z480 < 10) (h2 : z480 = p1) (h3 : (z8 = 1 → 0 ≤ p1 ∧ p1 < z1)) (h4 : (z8 = 0 → p1 < 0 ∨ z1 ≤ p1)) (h5 : 0 ≤ p1 ∧ p1 < z1) (h6 : 0 ≤ p1 ∧ p1 ≤ 9) (h7 : 1 ≤ z1 ∧ z1 ≤ 10) (h8 : 0 ≤ z480 ∧ z480 ≤ 9) (h9 : 1 ≤ z8 ∧ z8 ≤ 1) : (11 - (z480 + 1)) < N := by omega
theorem vc_X12_cone_43 {p2 z1 z1527 : Int} (h0 : ¬ z1527 = 0) (h1 : (z1527 = 1 → 0 ≤ p2 ∧ p2 < z1)) (h2 : (z1527 = 0 → p2 < 0 ∨ z1 ≤ p2)) (h3 : (-2147483648) ≤ p2 ∧ p2 ≤ 2147483647) (h4 : 1 ≤ z1 ∧ z1 ≤ 10) (h5 : 0 ≤ z1527 ∧ z1527 ≤ 1) : 1 ≤ z1527 ∧ z1527 ≤ 1 := by omega
theorem vc_X12_cone_44 {p1 p2 z1 z1527 z8 : Int} (h0 : (z1527 = 1 → 0 ≤ p2 ∧ p2 < z1)) (h1 : (z1527 = 0 → p2 < 0 ∨ z1 ≤ p2)) (h2 : ¬ z1527 = 0) (h3 : (z8 = 1 → 0 ≤ p1 ∧ p1 < z1)) (h4 : (z8 = 0 → p1 < 0 ∨ z1 ≤ p1)) (h5 : 0 ≤ p1 ∧ p1 < z1) (h6 : ¬ p2 = (-1)) (h7 : 0 ≤ p1 ∧ p1 ≤ 9) (h8 : (-2147483648) ≤ p2 ∧ p2 ≤ 2147483647) (h9 : 1 ≤ z1 ∧ z1 ≤ 10) (h10 : 1 ≤ z1527 ∧ z1527 ≤ 1) (h11 : 1 ≤ z8 ∧ z8 ≤ 1) : z1527 = 1 := by omega
theorem vc_X12_cone_45 {p1 p2 z1 z1527 z8 : Int} (h0 : 0 ≤ p2 ∧ p2 < z1) (h1 : (z8 = 1 → 0 ≤ p1 ∧ p1 < z1)) (h2 : (z8 = 0 → p1 < 0 ∨ z1 ≤ p1)) (h3 : 0 ≤ p1 ∧ p1 < z1) (h4 : ¬ p2 = (-1)) (h5 : (z1527 = 1 → 0 ≤ p2 ∧ p2 < z1)) (h6 : (z1527 = 0 → p2 < 0 ∨ z1 ≤ p2)) (h7 : 0 ≤ p1 ∧ p1 ≤ 9) (h8 : (-2147483648) ≤ p2 ∧ p2 ≤ 2147483647) (h9 : 1 ≤ z1 ∧ z1 ≤ 10) (h10 : 1 ≤ z1527 ∧ z1527 ≤ 1) (h11 : 1 ≤ z8 ∧ z8 ≤ 1) : 0 ≤ p2 ∧ p2 ≤ 9 := by omega
theorem vc_X12_cone_46 {z2034 : Int} (h0 : (11 - z2034) < ((0 : Nat) : Int)) (h1 : 0 ≤ z2034 ∧ z2034 ≤ 10) : False := by omega
theorem vc_X12_cone_47 {z2034 : Int} (h0 : 10 ≤ z2034) (h1 : 0 ≤ z2034 ∧ z2034 ≤ 10) : 10 ≤ z2034 ∧ z2034 ≤ 10 := by omega
theorem vc_X12_cone_48 {f_c z2340 : Int} (h0 : ((2 * (10 - f_c)) + z2340) < ((0 : Nat) : Int)) (h1 : 0 ≤ f_c ∧ f_c ≤ 10) (h2 : 0 ≤ z2340 ∧ z2340 ≤ 1) : False := by omega
theorem vc_X12_cone_49 {z2340 : Int} (h0 : z2340 = 0) (h1 : 0 ≤ z2340 ∧ z2340 ≤ 1) : 0 ≤ z2340 ∧ z2340 ≤ 0 := by omega
theorem vc_X12_cone_50 {z2620 : Int} (h0 : (11 - z2620) < ((0 : Nat) : Int)) (h1 : 0 ≤ z2620 ∧ z2620 ≤ 10) : False := by omega
theorem vc_X12_cone_51 {p1 p2 z1 z1527 z2620 z8 : Int} (h0 : z1 ≤ z2620) (h1 : (z8 = 1 → 0 ≤ p1 ∧ p1 < z1)) (h2 : (z8 = 0 → p1 < 0 ∨ z1 ≤ p1)) (h3 : 0 ≤ p1 ∧ p1 < z1) (h4 : (z1527 = 1 → 0 ≤ p2 ∧ p2 < z1)) (h5 : (z1527 = 0 → p2 < 0 ∨ z1 ≤ p2)) (h6 : 0 ≤ p2 ∧ p2 < z1) (h7 : 0 ≤ p1 ∧ p1 ≤ 9) (h8 : 0 ≤ p2 ∧ p2 ≤ 9) (h9 : 1 ≤ z1 ∧ z1 ≤ 10) (h10 : 1 ≤ z1527 ∧ z1527 ≤ 1) (h11 : 0 ≤ z2620 ∧ z2620 ≤ 10) (h12 : 1 ≤ z8 ∧ z8 ≤ 1) : 1 ≤ z2620 ∧ z2620 ≤ 10 := by omega
theorem vc_X12_cone_52 {p2 : Int} (h0 : p2 < 0) (h1 : 0 ≤ p2 ∧ p2 ≤ 9) : False := by omega
theorem vc_X12_cone_53 {z2641 : Int} (h0 : z2641 = 0) (h1 : 0 ≤ z2641 ∧ z2641 ≤ 1) : 0 ≤ z2641 ∧ z2641 ≤ 0 := by omega
theorem vc_X12_cone_54 {z2641 : Int} (h0 : ¬ z2641 = 0) (h1 : 0 ≤ z2641 ∧ z2641 ≤ 1) : 1 ≤ z2641 ∧ z2641 ≤ 1 := by omega
theorem vc_X12_cone_55 {p1 p2 z1 z1527 z2620 z8 : Int} (h0 : z2620 < z1) (h1 : (z8 = 1 → 0 ≤ p1 ∧ p1 < z1)) (h2 : (z8 = 0 → p1 < 0 ∨ z1 ≤ p1)) (h3 : 0 ≤ p1 ∧ p1 < z1) (h4 : (z1527 = 1 → 0 ≤ p2 ∧ p2 < z1)) (h5 : (z1527 = 0 → p2 < 0 ∨ z1 ≤ p2)) (h6 : 0 ≤ p2 ∧ p2 < z1) (h7 : 0 ≤ p1 ∧ p1 ≤ 9) (h8 : 0 ≤ p2 ∧ p2 ≤ 9) (h9 : 1 ≤ z1 ∧ z1 ≤ 10) (h10 : 1 ≤ z1527 ∧ z1527 ≤ 1) (h11 : 0 ≤ z2620 ∧ z2620 ≤ 10) (h12 : 1 ≤ z8 ∧ z8 ≤ 1) : 0 ≤ z2620 ∧ z2620 ≤ 9 := by omega
theorem vc_X12_cone_56 {z2650 : Int} (h0 : z2650 = 0) (h1 : 0 ≤ z2650 ∧ z2650 ≤ 1) : 0 ≤ z2650 ∧ z2650 ≤ 0 := by omega
theorem vc_X12_cone_57 {N p1 p2 z1 z1527 z2620 z8 : Int} (h0 : (11 - z2620) < N + 1) (h1 : z2620 < z1) (h2 : (z8 = 1 → 0 ≤ p1 ∧ p1 < z1)) (h3 : (z8 = 0 → p1 < 0 ∨ z1 ≤ p1)) (h4 : 0 ≤ p1 ∧ p1 < z1) (h5 : (z1527 = 1 → 0 ≤ p2 ∧ p2 < z1)) (h6 : (z1527 = 0 → p2 < 0 ∨ z1 ≤ p2)) (h7 : 0 ≤ p2 ∧ p2 < z1) (h8 : 0 ≤ p1 ∧ p1 ≤ 9) (h9 : 0 ≤ p2 ∧ p2 ≤ 9) (h10 : 1 ≤ z1 ∧ z1 ≤ 10) (h11 : 1 ≤ z1527 ∧ z1527 ≤ 1) (h12 : 0 ≤ z2620 ∧ z2620 ≤ 9) (h13 : 1 ≤ z8 ∧ z8 ≤ 1) : (11 - (z2620 + 1)) < N := by omega
theorem vc_X12_cone_58 {z2650 : Int} (h0 : ¬ z2650 = 0) (h1 : 0 ≤ z2650 ∧ z2650 ≤ 1) : 1 ≤ z2650 ∧ z2650 ≤ 1 := by omega
theorem vc_X12_cone_59 {z2340 : Int} (h0 : ¬ z2340 = 0) (h1 : 0 ≤ z2340 ∧ z2340 ≤ 1) : 1 ≤ z2340 ∧ z2340 ≤ 1 := by omega
theorem vc_X12_cone_60 {f_c f_d z3046 z3047 : Int} (h0 : (21 - z3046) < ((0 : Nat) : Int)) (h1 : 0 ≤ f_d ∧ f_d ≤ 10) (h2 : f_c ≤ f_d) (h3 : z3047 = 0 ∨ f_c + 1 ≤ f_d) (h4 : 0 ≤ f_c ∧ f_c ≤ 10) (h5 : 0 ≤ z3046 ∧ z3046 ≤ 20) (h6 : 0 ≤ z3047 ∧ z3047 ≤ 1) : False := by omega
theorem vc_X12_cone_61 {N f_c f_d z2340 z3047 : Int} (h0 : ((2 * (10 - f_c)) + z2340) < N + 1) (h1 : ¬ z2340 = 0) (h2 : f_c ≤ f_d) (h3 : z3047 = 0 ∨ f_c + 1 ≤ f_d) (h4 : 0 ≤ f_c ∧ f_c ≤ 10) (h5 : 0 ≤ f_d ∧ f_d ≤ 10) (h6 : 1 ≤ z2340 ∧ z2340 ≤ 1) (h7 : 0 ≤ z3047 ∧ z3047 ≤ 1) : ((2 * (10 - f_d)) + z3047) < N := by omega
theorem vc_X12_cone_62 {z3046 z3061 : Int} (h0 : z3046 < z3061) (h1 : 0 ≤ z3046 ∧ z3046 ≤ 20) (h2 : 0 ≤ z3061 ∧ z3061 ≤ 20) : 0 ≤ z3046 ∧ z3046 ≤ 19 := by omega
theorem vc_X12_cone_63 {z3046 z3061 : Int} (h0 : z3046 < z3061) (h1 : 0 ≤ z3046 ∧ z3046 ≤ 19) (h2 : 0 ≤ z3061 ∧ z3061 ≤ 20) : 1 ≤ z3061 ∧ z3061 ≤ 20 := by omega
theorem vc_X12_cone_64 {z3093 : Int} (h0 : ¬ z3093 = 0) (h1 : 0 ≤ z3093 ∧ z3093 ≤ 2) : 1 ≤ z3093 ∧ z3093 ≤ 2 := by omega
theorem vc_X12_cone_65 {f_c f_d z3047 : Int} (h0 : f_c ≤ f_d) (h1 : z3047 = 0 ∨ f_c + 1 ≤ f_d) (h2 : 0 ≤ f_c ∧ f_c ≤ 10) (h3 : 0 ≤ f_d ∧ f_d ≤ 10) (h4 : 0 ≤ z3047 ∧ z3047 ≤ 1) : f_c ≤ f_d := by omega
theorem vc_X12_cone_66 {f_c f_d z3047 : Int} (h0 : f_c ≤ f_d) (h1 : z3047 = 0 ∨ f_c + 1 ≤ f_d) (h2 : 0 ≤ f_c ∧ f_c ≤ 10) (h3 : 0 ≤ f_d ∧ f_d ≤ 10) (h4 : 0 ≤ z3047 ∧ z3047 ≤ 1) : z3047 = 0 ∨ f_c + 1 ≤ f_d := by omega
theorem vc_X12_cone_67 {N z3046 z3061 : Int} (h0 : (21 - z3046) < N + 1) (h1 : z3046 < z3061) (h2 : 0 ≤ z3046 ∧ z3046 ≤ 19) (h3 : 1 ≤ z3061 ∧ z3061 ≤ 20) : (21 - (z3046 + 1)) < N := by omega
theorem vc_X12_cone_68 {z3093 : Int} (h0 : z3093 = 0) (h1 : 0 ≤ z3093 ∧ z3093 ≤ 2) : 0 ≤ z3093 ∧ z3093 ≤ 0 := by omega
theorem vc_X12_cone_69 {z3123 : Int} (h0 : z3123 = 0) (h1 : 0 ≤ z3123 ∧ z3123 ≤ 1) : 0 ≤ z3123 ∧ z3123 ≤ 0 := by omega
theorem vc_X12_cone_70 {z3123 : Int} (h0 : ¬ z3123 = 0) (h1 : 0 ≤ z3123 ∧ z3123 ≤ 1) : 1 ≤ z3123 ∧ z3123 ≤ 1 := by omega
theorem vc_X12_cone_71 {z3145 : Int} (h0 : ¬ z3145 = 0) (h1 : 0 ≤ z3145 ∧ z3145 ≤ 1) : 1 ≤ z3145 ∧ z3145 ≤ 1 := by omega
theorem vc_X12_cone_72 {z3145 : Int} (h0 : z3145 = 0) (h1 : 0 ≤ z3145 ∧ z3145 ≤ 1) : 0 ≤ z3145 ∧ z3145 ≤ 0 := by omega
theorem vc_X12_cone_73 {f_c f_d z3047 z3145 : Int} (h0 : f_c ≤ f_d) (h1 : z3047 = 0 ∨ f_c + 1 ≤ f_d) (h2 : z3145 = 0) (h3 : 0 ≤ f_c ∧ f_c ≤ 10) (h4 : 0 ≤ f_d ∧ f_d ≤ 10) (h5 : 0 ≤ z3047 ∧ z3047 ≤ 1) (h6 : 0 ≤ z3145 ∧ z3145 ≤ 0) : f_c ≤ ((f_d + 1) - z3145) := by omega
theorem vc_X12_cone_74 {f_c f_d z3047 z3145 : Int} (h0 : f_c ≤ f_d) (h1 : z3047 = 0 ∨ f_c + 1 ≤ f_d) (h2 : z3145 = 0) (h3 : 0 ≤ f_c ∧ f_c ≤ 10) (h4 : 0 ≤ f_d ∧ f_d ≤ 10) (h5 : 0 ≤ z3047 ∧ z3047 ≤ 1) (h6 : 0 ≤ z3145 ∧ z3145 ≤ 0) : (1 : Int) = 0 ∨ f_c + 1 ≤ ((f_d + 1) - z3145) := by omega
theorem vc_X12_cone_75 {z3159 : Int} (h0 : 0 ≤ z3159 ∧ z3159 ≤ 10) : ((2 * (10 - z3159)) + 1) < ((22 : Nat) : Int) := by omega
theorem vc_X12_cone_76 {z2034 : Int} (h0 : z2034 < 10) (h1 : 0 ≤ z2034 ∧ z2034 ≤ 10) : 0 ≤ z2034 ∧ z2034 ≤ 9 := by omega
theorem vc_X12_cone_77 {N p1 z1 z2034 z8 : Int} (h0 : (11 - z2034) < N + 1) (h1 : z2034 < 10) (h2 : ¬ z2034 = p1) (h3 : (z8 = 1 → 0 ≤ p1 ∧ p1 < z1)) (h4 : (z8 = 0 → p1 < 0 ∨ z1 ≤ p1)) (h5 : 0 ≤ p1 ∧ p1 < z1) (h6 : 0 ≤ p1 ∧ p1 ≤ 9) (h7 : 1 ≤ z1 ∧ z1 ≤ 10) (h8 : 0 ≤ z2034 ∧ z2034 ≤ 9) (h9 : 1 ≤ z8 ∧ z8 ≤ 1) : (11 - (z2034 + 1)) < N := by omega
theorem vc_X12_cone_78 {N p1 z1 z2034 z8 : Int} (h0 : (11 - z2034) < N + 1) (h1 : z2034 < 10) (h2 : z2034 = p1) (h3 : (z8 = 1 → 0 ≤ p1 ∧ p1 < z1)) (h4 : (z8 = 0 → p1 < 0 ∨ z1 ≤ p1)) (h5 : 0 ≤ p1 ∧ p1 < z1) (h6 : 0 ≤ p1 ∧ p1 ≤ 9) (h7 : 1 ≤ z1 ∧ z1 ≤ 10) (h8 : 0 ≤ z2034 ∧ z2034 ≤ 9) (h9 : 1 ≤ z8 ∧ z8 ≤ 1) : (11 - (z2034 + 1)) < N := by omega
theorem vc_X12_cone_79 {p2 z1 z1527 : Int} (h0 : z1527 = 0) (h1 : (z1527 = 1 → 0 ≤ p2 ∧ p2 < z1)) (h2 : (z1527 = 0 → p2 < 0 ∨ z1 ≤ p2)) (h3 : (-2147483648) ≤ p2 ∧ p2 ≤ 2147483647) (h4 : 1 ≤ z1 ∧ z1 ≤ 10) (h5 : 0 ≤ z1527 ∧ z1527 ≤ 1) : 0 ≤ z1527 ∧ z1527 ≤ 0 := by omega
theorem vc_X12_cone_80 {p1 p2 z1 z1527 z8 : Int} (h0 : (z1527 = 1 → 0 ≤ p2 ∧ p2 < z1)) (h1 : (z1527 = 0 → p2 < 0 ∨ z1 ≤ p2)) (h2 : z1527 = 0) (h3 : (z8 = 1 → 0 ≤ p1 ∧ p1 < z1)) (h4 : (z8 = 0 → p1 < 0 ∨ z1 ≤ p1)) (h5 : 0 ≤ p1 ∧ p1 < z1) (h6 : ¬ p2 = (-1)) (h7 : 0 ≤ p1 ∧ p1 ≤ 9) (h8 : (-2147483648) ≤ p2 ∧ p2 ≤ 2147483647) (h9 : 1 ≤ z1 ∧ z1 ≤ 10) (h10 : 0 ≤ z1527 ∧ z1527 ≤ 0) (h11 : 1 ≤ z8 ∧ z8 ≤ 1) : z1527 = 0 := by omega
set_option maxRecDepth 4000 in
set_option maxHeartbeats 4000000 in
theorem c_X12_cone {l : Launch} {D : va_G} {c : Nat → ClassId} {H0 : Heap} {sa : Nat × Nat × (Nat → Int32)} {w : mW} {μ : mM} (hw : mWF w) (hT : mT w μ) {p1 : Int} (hp1 : (-2147483648) ≤ p1 ∧ p1 ≤ 2147483647) {p2 : Int} (hp2 : (-2147483648) ≤ p2 ∧ p2 ≤ 2147483647) : sC (gG l D c H0 sa) mX12_cone 3 0 0 [.ref 106, iv p1, iv p2] (mk w μ) (qI w [116999] μ (fun z μ1 => ((-2147483648) ≤ z ∧ z ≤ 2147483647) ∧ True)) := by
  refine sC.of rfl (by decide) (le_t rfl) ?_
  refine mr_lvE (lv' := [(0, .ref 106), (1, iv p1), (2, iv p2)]) rfl ?_
  refine sv_aload_n (pc := 0) dX12_cone_0 rfl rfl ?_
  refine mr_iload_n (pc := 1) (z := p1) dX12_cone_1 rfl rfl ?_
  obtain ⟨z1, q2⟩ : ∃ z, μ 106 5 = z := ⟨_, rfl⟩
  have h3 : (0 ≤ z1 ∧ z1 ≤ 10) := by rw [← q2]; exact hT 106 106 (A_106 hw) 5
  refine mr_cVP (pc := 2) (c_X12_isDomain hw hT hp1 q2) (gOk _ _ _ _ _) dX12_cone_2 (tX12_isDomain _ _ _ _ _) ⟨wV_X12_isDomain, wL_X12_isDomain⟩ wM_X12_49 (gCX12 _ _ _ _ _) rfl (A_106 hw) rfl ⟨le_t rfl, le_t rfl⟩ ⟨le_t rfl, le_t rfl⟩ rfl (le_t rfl) fun z8 h7 => ?_
  refine mr_if_eq (pc := 5) (tgt := 21) dX12_cone_5 (by decide) (r32 h7.1 rfl) (fun h9 => ?_) (fun h9 => ?_)
  · have h10 : 0 ≤ z8 ∧ z8 ≤ 0 := (vc_X12_cone_1 h9 h7.2.1 h7.2.2.1 hp1 h3 h7.1)
    have h11 : p1 < 0 ∨ z1 ≤ p1 := (h7.2.2.1 (vc_X12_cone_2 h7.2.1 h7.2.2.1 h9 hp1 h3 h10))
    refine mr_iconst (pc := 21) (z := (-1)) dX12_cone_21 ?_
    exact mr_iret dX12_cone_22 rfl (le_t rfl) (le_t rfl) hT mF.refl ⟨(rW (c := (-2147483648)) (d := 2147483647) (rR (x := (-1))) rfl), trivial⟩
  have h12 : 1 ≤ z8 ∧ z8 ≤ 1 := (vc_X12_cone_3 h9 h7.2.1 h7.2.2.1 hp1 h3 h7.1)
  have h13 : 0 ≤ p1 ∧ p1 < z1 := (h7.2.1 (vc_X12_cone_4 h7.2.1 h7.2.2.1 h9 hp1 h3 h12))
  have h14 : 0 ≤ p1 ∧ p1 ≤ 9 := (vc_X12_cone_5 h13 h7.2.1 h7.2.2.1 hp1 h3 h12)
  have h15 : 1 ≤ z1 ∧ z1 ≤ 10 := (vc_X12_cone_6 h13 h7.2.1 h7.2.2.1 h14 h3 h12)
  refine mr_iload_n (pc := 8) (z := p2) dX12_cone_8 rfl rfl ?_
  refine mr_iconst (pc := 9) (z := (-1)) dX12_cone_9 ?_
  refine mr_icmp_eq (pc := 10) (tgt := 23) dX12_cone_10 (by decide) hp2 (r32 (rR (x := (-1))) rfl) (fun h16 => ?_) (fun h16 => ?_)
  · have h17 : (-1) ≤ p2 ∧ p2 ≤ (-1) := (vc_X12_cone_7 h16 hp2)
    refine mr_iconst (pc := 23) (z := 0) dX12_cone_23 ?_
    refine mr_istore_n (pc := 24) (lv' := [(3, iv 0), (0, .ref 106), (1, iv p1), (2, iv p2)]) dX12_cone_24 rfl (by decide) rfl ?_
    have L482 : ∀ (nL482 : Nat) (z480 : Int) (μ481 : mM), mT w μ481 → mF [116999] w μ μ481 → (0 ≤ z480 ∧ z480 ≤ 10) → (11 - z480) < (nL482 : Int) → sV (gG l D c H0 sa) mX12_cone (sRm 3 0 0) (sZ (gG l D c H0 sa) 0 0 (qI w [116999] μ (fun z μ1 => ((-2147483648) ≤ z ∧ z ≤ 2147483647) ∧ True))) 25 [(0, .ref 106), (1, iv p1), (2, iv p2), (3, iv z480)] [] (mk w μ481) 0 0 := by
      intro nL482
      induction nL482 with
      | zero => intro z480 μ481 T484 F485 h483 h487; exact ((vc_X12_cone_8 h487 h483)).elim
      | succ nL482 ih488 =>
        intro z480 μ481 T484 F485 h483 h487
        refine mr_iload_n (pc := 25) (z := z480) dX12_cone_25 rfl rfl ?_
        refine mr_bipush (pc := 26) (z := 10) dX12_cone_26 (by decide) ?_
        refine mr_icmp_ge (pc := 28) (tgt := 53) dX12_cone_28 (by decide) (r32 h483 rfl) (r32 (rR (x := 10)) rfl) (fun h497 => ?_) (fun h497 => ?_)
        · have h498 : 10 ≤ z480 ∧ z480 ≤ 10 := (vc_X12_cone_9 h497 h483)
          refine mr_iconst (pc := 53) (z := 1) dX12_cone_53 ?_
          refine mr_istore_n (pc := 54) (lv' := [(3, iv 1), (0, .ref 106), (1, iv p1), (2, iv p2)]) dX12_cone_54 rfl (by decide) rfl ?_
          have L768 : ∀ (nL768 : Nat) (z766 : Int) (μ767 : mM) (f_c : Int), mT w μ767 → mF [116999] w μ481 μ767 → cnt μ767 116 10 = f_c → (0 ≤ z766 ∧ z766 ≤ 1) → ((2 * (10 - f_c)) + z766) < (nL768 : Int) → sV (gG l D c H0 sa) mX12_cone (sRm 3 0 0) (sZ (gG l D c H0 sa) 0 0 (qI w [116999] μ (fun z μ1 => ((-2147483648) ≤ z ∧ z ≤ 2147483647) ∧ True))) 55 [(0, .ref 106), (2, iv p2), (3, iv z766)] [] (mk w μ767) 0 0 := by
            intro nL768
            induction nL768 with
            | zero => intro z766 μ767 f_c T770 F771 q774 h769 h773; exact ((vc_X12_cone_10 h773 (by rw [← q774]; exact cnt_rng (fun i => T770 116 116 (A_116 hw) i) 10) h769)).elim
            | succ nL768 ih775 =>
              intro z766 μ767 f_c T770 F771 q774 h769 h773
              have h776 : 0 ≤ f_c ∧ f_c ≤ 10 := by rw [← q774]; exact cnt_rng (fun i => T770 116 116 (A_116 hw) i) 10
              refine mr_iload_n (pc := 55) (z := z766) dX12_cone_55 rfl rfl ?_
              refine mr_if_eq (pc := 56) (tgt := 147) dX12_cone_56 (by decide) (r32 h769 rfl) (fun h849 => ?_) (fun h849 => ?_)
              · have h850 : 0 ≤ z766 ∧ z766 ≤ 0 := (vc_X12_cone_11 h849 h769)
                refine mr_iconst (pc := 147) (z := 0) dX12_cone_147 ?_
                refine mr_istore (pc := 148) (lv' := [(4, iv 0), (0, .ref 106), (2, iv p2), (3, iv z766)]) dX12_cone_148 (by decide) rfl ?_
                refine mr_iconst (pc := 150) (z := 0) dX12_cone_150 ?_
                refine mr_istore (pc := 151) (lv' := [(5, iv 0), (4, iv 0), (0, .ref 106), (2, iv p2), (3, iv z766)]) dX12_cone_151 (by decide) rfl ?_
                have L983 : ∀ (nL983 : Nat) (z982 z981 : Int), True → ((-2147483648) ≤ z982 ∧ z982 ≤ 2147483647) → (0 ≤ z981 ∧ z981 ≤ 10) → (11 - z981) < (nL983 : Int) → sV (gG l D c H0 sa) mX12_cone (sRm 3 0 0) (sZ (gG l D c H0 sa) 0 0 (qI w [116999] μ (fun z μ1 => ((-2147483648) ≤ z ∧ z ≤ 2147483647) ∧ True))) 153 [(0, .ref 106), (2, iv p2), (4, iv z982), (5, iv z981)] [] (mk w μ767) 0 0 := by
                  intro nL983
                  induction nL983 with
                  | zero => intro z982 z981 _ h984 h985 h989; exact ((vc_X12_cone_12 h989 h985)).elim
                  | succ nL983 ih990 =>
                    intro z982 z981 _ h984 h985 h989
                    refine mr_iload (pc := 153) (z := z981) dX12_cone_153 rfl ?_
                    refine sv_aload_n (pc := 155) dX12_cone_155 rfl rfl ?_
                    refine gk_X12_5 (pc := 156) dX12_cone_156 wF_X12_34 (A_106 hw) (F771.f (A_106 hw) rfl (F485.f (A_106 hw) rfl q2)) ?_
                    refine mr_icmp_ge (pc := 159) (tgt := 188) dX12_cone_159 (by decide) (r32 h985 rfl) (r32 h15 rfl) (fun h1000 => ?_) (fun h1000 => ?_)
                    · have h1001 : 1 ≤ z981 ∧ z981 ≤ 10 := (vc_X12_cone_13 h1000 h7.2.1 h7.2.2.1 h13 h14 h15 h12 h985)
                      refine mr_iload_n (pc := 188) (z := p2) dX12_cone_188 rfl rfl ?_
                      refine mr_if_ge (pc := 189) (tgt := 197) dX12_cone_189 (by decide) (r32 h17 rfl) (fun h => ((vc_X12_cone_14 h h17)).elim) (fun _ => ?_)
                      refine mr_iload (pc := 192) (z := z982) dX12_cone_192 rfl ?_
                      refine sv_goto (pc := 194) (tgt := 211) dX12_cone_194 (by decide) ?_
                      exact mr_iret dX12_cone_211 rfl (le_t rfl) (le_t rfl) T770 (mF.call (mF.call mF.refl F485 rfl) F771 rfl) ⟨h984, trivial⟩
                    have h1002 : 0 ≤ z981 ∧ z981 ≤ 9 := (vc_X12_cone_15 h1000 h7.2.1 h7.2.2.1 h13 h14 h15 h12 h985)
                    refine mr_iload (pc := 162) (z := z982) dX12_cone_162 rfl ?_
                    refine sv_aload_n (pc := 164) dX12_cone_164 rfl rfl ?_
                    refine gf_X12_13 (pc := 165) dX12_cone_165 wF_X12_69 (A_106 hw) T770 ?_
                    refine mr_iload (pc := 168) (z := z981) dX12_cone_168 rfl ?_
                    refine la_116 (pc := 170) dX12_cone_170 (A_116 hw) T770 (rIx (n := 10) h1002 rfl) fun z1003 q1004 h1005 => ?_
                    refine mr_if_eq (pc := 171) (tgt := 178) dX12_cone_171 (by decide) (r32 h1005 rfl) (fun h1008 => ?_) (fun h1008 => ?_)
                    · have h1009 : 0 ≤ z1003 ∧ z1003 ≤ 0 := (vc_X12_cone_16 h1008 h1005)
                      refine mr_iconst (pc := 178) (z := 0) dX12_cone_178 ?_
                      refine mr_iadd (pc := 179) (x := z982) (y := 0) dX12_cone_179 ?_
                      refine mr_istore (pc := 180) (lv' := [(4, iv (z982 + 0)), (0, .ref 106), (2, iv p2), (5, iv z981)]) dX12_cone_180 (by decide) rfl ?_
                      refine mr_iinc (pc := 182) (lv' := [(5, iv (z981 + 1)), (4, iv (z982 + 0)), (0, .ref 106), (2, iv p2)]) dX12_cone_182 rfl (by decide) rfl ?_
                      refine sv_goto (pc := 185) (tgt := 153) dX12_cone_185 (by decide) ?_
                      refine mr_lvS (lv' := [(0, .ref 106), (2, iv p2), (4, iv (z982 + 0)), (5, iv (z981 + 1))]) (List.forall_mem_cons.mpr ⟨rfl, List.forall_mem_cons.mpr ⟨rfl, List.forall_mem_cons.mpr ⟨rfl, List.forall_mem_cons.mpr ⟨rfl, fun _ h => absurd h List.not_mem_nil⟩⟩⟩⟩) ?_
                      exact ih990 (z982 + 0) (z981 + 1) trivial (rAdd (e := (-2147483648)) (f := 2147483647) h984 (rR (x := 0)) rfl) (rW (c := 0) (d := 10) (rAdd (e := 1) (f := 10) h1002 (rR (x := 1)) rfl) rfl) (vc_X12_cone_17 (nS h989) h1000 h7.2.1 h7.2.2.1 h13 h14 h15 h12 h1002)
                    have h1010 : 1 ≤ z1003 ∧ z1003 ≤ 1 := (vc_X12_cone_18 h1008 h1005)
                    refine mr_iconst (pc := 174) (z := 1) dX12_cone_174 ?_
                    refine sv_goto (pc := 175) (tgt := 179) dX12_cone_175 (by decide) ?_
                    refine mr_iadd (pc := 179) (x := z982) (y := 1) dX12_cone_179 ?_
                    refine mr_wrap fun z1011 h1012 => ?_
                    refine mr_istore (pc := 180) (lv' := [(4, iv z1011), (0, .ref 106), (2, iv p2), (5, iv z981)]) dX12_cone_180 (by decide) rfl ?_
                    refine mr_iinc (pc := 182) (lv' := [(5, iv (z981 + 1)), (4, iv z1011), (0, .ref 106), (2, iv p2)]) dX12_cone_182 rfl (by decide) rfl ?_
                    refine sv_goto (pc := 185) (tgt := 153) dX12_cone_185 (by decide) ?_
                    refine mr_lvS (lv' := [(0, .ref 106), (2, iv p2), (4, iv z1011), (5, iv (z981 + 1))]) (List.forall_mem_cons.mpr ⟨rfl, List.forall_mem_cons.mpr ⟨rfl, List.forall_mem_cons.mpr ⟨rfl, List.forall_mem_cons.mpr ⟨rfl, fun _ h => absurd h List.not_mem_nil⟩⟩⟩⟩) ?_
                    exact ih990 z1011 (z981 + 1) trivial h1012 (rW (c := 0) (d := 10) (rAdd (e := 1) (f := 10) h1002 (rR (x := 1)) rfl) rfl) (vc_X12_cone_17 (nS h989) h1000 h7.2.1 h7.2.2.1 h13 h14 h15 h12 h1002)
                refine mr_lvS (lv' := [(0, .ref 106), (2, iv p2), (4, iv 0), (5, iv 0)]) (List.forall_mem_cons.mpr ⟨rfl, List.forall_mem_cons.mpr ⟨rfl, List.forall_mem_cons.mpr ⟨rfl, List.forall_mem_cons.mpr ⟨rfl, fun _ h => absurd h List.not_mem_nil⟩⟩⟩⟩) ?_
                exact L983 12 0 0 trivial (rW (c := (-2147483648)) (d := 2147483647) (rR (x := 0)) rfl) (rW (c := 0) (d := 10) (rR (x := 0)) rfl) vc_X12_cone_19
              have h1013 : 1 ≤ z766 ∧ z766 ≤ 1 := (vc_X12_cone_20 h849 h769)
              refine mr_iconst (pc := 59) (z := 0) dX12_cone_59 ?_
              refine mr_istore_n (pc := 60) (lv' := [(3, iv 0), (0, .ref 106), (2, iv p2)]) dX12_cone_60 rfl (by decide) rfl ?_
              refine mr_iconst (pc := 61) (z := 0) dX12_cone_61 ?_
              refine mr_istore (pc := 62) (lv' := [(4, iv 0), (3, iv 0), (0, .ref 106), (2, iv p2)]) dX12_cone_62 (by decide) rfl ?_
              have L1402 : ∀ (nL1402 : Nat) (z1400 z1399 : Int) (μ1401 : mM) (f_d : Int), mT w μ1401 → mF [116999] w μ767 μ1401 → cnt μ1401 116 10 = f_d → (0 ≤ z1400 ∧ z1400 ≤ 1) → (0 ≤ z1399 ∧ z1399 ≤ 20) → (f_c ≤ f_d) → (z1400 = 0 ∨ f_c + 1 ≤ f_d) → (21 - z1399) < (nL1402 : Int) → sV (gG l D c H0 sa) mX12_cone (sRm 3 0 0) (sZ (gG l D c H0 sa) 0 0 (qI w [116999] μ (fun z μ1 => ((-2147483648) ≤ z ∧ z ≤ 2147483647) ∧ True))) 64 [(0, .ref 106), (2, iv p2), (3, iv z1400), (4, iv z1399)] [] (mk w μ1401) 0 0 := by
                intro nL1402
                induction nL1402 with
                | zero => intro z1400 z1399 μ1401 f_d T1405 F1406 q1411 h1403 h1404 h1408 h1409 h1410; exact ((vc_X12_cone_21 h1410 (by rw [← q1411]; exact cnt_rng (fun i => T1405 116 116 (A_116 hw) i) 10) h1408 h1409 h776 h1404 h1403)).elim
                | succ nL1402 ih1412 =>
                  intro z1400 z1399 μ1401 f_d T1405 F1406 q1411 h1403 h1404 h1408 h1409 h1410
                  have h1413 : 0 ≤ f_d ∧ f_d ≤ 10 := by rw [← q1411]; exact cnt_rng (fun i => T1405 116 116 (A_116 hw) i) 10
                  refine mr_iload (pc := 64) (z := z1399) dX12_cone_64 rfl ?_
                  refine sv_aload_n (pc := 66) dX12_cone_66 rfl rfl ?_
                  refine gf_X12_6 (pc := 67) dX12_cone_67 wF_X12_37 (A_106 hw) T1405 fun z1414 q1415 h1416 => ?_
                  refine mr_icmp_ge (pc := 70) (tgt := 144) dX12_cone_70 (by decide) (r32 h1404 rfl) (r32 h1416 rfl) (fun h1443 => ?_) (fun h1443 => ?_)
                  · refine sv_goto (pc := 144) (tgt := 55) dX12_cone_144 (by decide) ?_
                    refine mr_lvS (lv' := [(0, .ref 106), (2, iv p2), (3, iv z1400)]) (List.forall_mem_cons.mpr ⟨rfl, List.forall_mem_cons.mpr ⟨rfl, List.forall_mem_cons.mpr ⟨rfl, fun _ h => absurd h List.not_mem_nil⟩⟩⟩) ?_
                    exact ih775 z1400 μ1401 f_d T1405 (mF.call (mF.call mF.refl F771 rfl) F1406 rfl) q1411 h1403 (vc_X12_cone_22 (nS h773) h849 h1408 h1409 h776 h1413 h1403 h1013)
                  have h1444 : 0 ≤ z1399 ∧ z1399 ≤ 19 := (vc_X12_cone_23 h1443 h1404 h1416)
                  have h1445 : 1 ≤ z1414 ∧ z1414 ≤ 20 := (vc_X12_cone_24 h1443 h1444 h1416)
                  refine sv_aload_n (pc := 73) dX12_cone_73 rfl rfl ?_
                  refine gf_X12_8 (pc := 74) dX12_cone_74 wF_X12_46 (A_106 hw) T1405 ?_
                  refine mr_iload (pc := 77) (z := z1399) dX12_cone_77 rfl ?_
                  refine la_111 (pc := 79) dX12_cone_79 (A_111 hw) T1405 (rIx (n := 20) h1444 rfl) fun z1446 q1447 h1448 => ?_
                  refine mr_if_ne (pc := 80) (tgt := 138) dX12_cone_80 (by decide) (r32 h1448 rfl) (fun h1470 => ?_) (fun h1470 => ?_)
                  · have h1471 : 1 ≤ z1446 ∧ z1446 ≤ 2 := (vc_X12_cone_25 h1470 h1448)
                    refine mr_iinc (pc := 138) (lv' := [(4, iv (z1399 + 1)), (0, .ref 106), (2, iv p2), (3, iv z1400)]) dX12_cone_138 rfl (by decide) rfl ?_
                    refine sv_goto (pc := 141) (tgt := 64) dX12_cone_141 (by decide) ?_
                    refine mr_lvS (lv' := [(0, .ref 106), (2, iv p2), (3, iv z1400), (4, iv (z1399 + 1))]) (List.forall_mem_cons.mpr ⟨rfl, List.forall_mem_cons.mpr ⟨rfl, List.forall_mem_cons.mpr ⟨rfl, List.forall_mem_cons.mpr ⟨rfl, fun _ h => absurd h List.not_mem_nil⟩⟩⟩⟩) ?_
                    exact ih1412 z1400 (z1399 + 1) μ1401 f_d T1405 (mF.call mF.refl F1406 rfl) q1411 h1403 (rW (c := 0) (d := 20) (rAdd (e := 1) (f := 20) h1444 (rR (x := 1)) rfl) rfl) (vc_X12_cone_26 h1408 h1409 h776 h1413 h1403) (vc_X12_cone_27 h1408 h1409 h776 h1413 h1403) (vc_X12_cone_28 (nS h1410) h1443 h1444 h1445)
                  have h1472 : 0 ≤ z1446 ∧ z1446 ≤ 0 := (vc_X12_cone_29 h1470 h1448)
                  refine sv_aload_n (pc := 83) dX12_cone_83 rfl rfl ?_
                  refine gf_X12_13 (pc := 84) dX12_cone_84 wF_X12_69 (A_106 hw) T1405 ?_
                  refine sv_aload_n (pc := 87) dX12_cone_87 rfl rfl ?_
                  refine gf_X12_7 (pc := 88) dX12_cone_88 wF_X12_40 (A_106 hw) T1405 ?_
                  refine mr_iconst (pc := 91) (z := 2) dX12_cone_91 ?_
                  refine mr_iload (pc := 92) (z := z1399) dX12_cone_92 rfl ?_
                  refine mr_imul (pc := 94) (x := 2) (y := z1399) dX12_cone_94 ?_
                  refine la_110 (pc := 95) dX12_cone_95 (A_110 hw) T1405 (rIx (n := 40) (rMulL (n := 2) (e := 0) (f := 38) h1444 rfl) rfl) fun z1473 q1474 h1475 => ?_
                  refine la_116 (pc := 96) dX12_cone_96 (A_116 hw) T1405 (rIx (n := 10) h1475 rfl) fun z1476 q1477 h1478 => ?_
                  refine mr_if_eq (pc := 97) (tgt := 138) dX12_cone_97 (by decide) (r32 h1478 rfl) (fun h1492 => ?_) (fun h1492 => ?_)
                  · have h1493 : 0 ≤ z1476 ∧ z1476 ≤ 0 := (vc_X12_cone_30 h1492 h1478)
                    refine mr_iinc (pc := 138) (lv' := [(4, iv (z1399 + 1)), (0, .ref 106), (2, iv p2), (3, iv z1400)]) dX12_cone_138 rfl (by decide) rfl ?_
                    refine sv_goto (pc := 141) (tgt := 64) dX12_cone_141 (by decide) ?_
                    refine mr_lvS (lv' := [(0, .ref 106), (2, iv p2), (3, iv z1400), (4, iv (z1399 + 1))]) (List.forall_mem_cons.mpr ⟨rfl, List.forall_mem_cons.mpr ⟨rfl, List.forall_mem_cons.mpr ⟨rfl, List.forall_mem_cons.mpr ⟨rfl, fun _ h => absurd h List.not_mem_nil⟩⟩⟩⟩) ?_
                    exact ih1412 z1400 (z1399 + 1) μ1401 f_d T1405 (mF.call mF.refl F1406 rfl) q1411 h1403 (rW (c := 0) (d := 20) (rAdd (e := 1) (f := 20) h1444 (rR (x := 1)) rfl) rfl) (vc_X12_cone_26 h1408 h1409 h776 h1413 h1403) (vc_X12_cone_27 h1408 h1409 h776 h1413 h1403) (vc_X12_cone_28 (nS h1410) h1443 h1444 h1445)
                  have h1494 : 1 ≤ z1476 ∧ z1476 ≤ 1 := (vc_X12_cone_31 h1492 h1478)
                  refine sv_aload_n (pc := 100) dX12_cone_100 rfl rfl ?_
                  refine gf_X12_13 (pc := 101) dX12_cone_101 wF_X12_69 (A_106 hw) T1405 ?_
                  refine sv_aload_n (pc := 104) dX12_cone_104 rfl rfl ?_
                  refine gf_X12_7 (pc := 105) dX12_cone_105 wF_X12_40 (A_106 hw) T1405 ?_
                  refine mr_iconst (pc := 108) (z := 2) dX12_cone_108 ?_
                  refine mr_iload (pc := 109) (z := z1399) dX12_cone_109 rfl ?_
                  refine mr_imul (pc := 111) (x := 2) (y := z1399) dX12_cone_111 ?_
                  refine mr_iconst (pc := 112) (z := 1) dX12_cone_112 ?_
                  refine mr_iadd (pc := 113) (x := (2 * z1399)) (y := 1) dX12_cone_113 ?_
                  refine la_110 (pc := 114) dX12_cone_114 (A_110 hw) T1405 (rIx (n := 40) (rAdd (e := 1) (f := 39) (rMulL (n := 2) (e := 0) (f := 38) h1444 rfl) (rR (x := 1)) rfl) rfl) fun z1495 q1496 h1497 => ?_
                  refine la_116 (pc := 115) dX12_cone_115 (A_116 hw) T1405 (rIx (n := 10) h1497 rfl) fun z1498 q1499 h1500 => ?_
                  refine mr_if_ne (pc := 116) (tgt := 138) dX12_cone_116 (by decide) (r32 h1500 rfl) (fun h1506 => ?_) (fun h1506 => ?_)
                  · have h1507 : 1 ≤ z1498 ∧ z1498 ≤ 1 := (vc_X12_cone_32 h1506 h1500)
                    refine mr_iinc (pc := 138) (lv' := [(4, iv (z1399 + 1)), (0, .ref 106), (2, iv p2), (3, iv z1400)]) dX12_cone_138 rfl (by decide) rfl ?_
                    refine sv_goto (pc := 141) (tgt := 64) dX12_cone_141 (by decide) ?_
                    refine mr_lvS (lv' := [(0, .ref 106), (2, iv p2), (3, iv z1400), (4, iv (z1399 + 1))]) (List.forall_mem_cons.mpr ⟨rfl, List.forall_mem_cons.mpr ⟨rfl, List.forall_mem_cons.mpr ⟨rfl, List.forall_mem_cons.mpr ⟨rfl, fun _ h => absurd h List.not_mem_nil⟩⟩⟩⟩) ?_
                    exact ih1412 z1400 (z1399 + 1) μ1401 f_d T1405 (mF.call mF.refl F1406 rfl) q1411 h1403 (rW (c := 0) (d := 20) (rAdd (e := 1) (f := 20) h1444 (rR (x := 1)) rfl) rfl) (vc_X12_cone_26 h1408 h1409 h776 h1413 h1403) (vc_X12_cone_27 h1408 h1409 h776 h1413 h1403) (vc_X12_cone_28 (nS h1410) h1443 h1444 h1445)
                  have h1508 : 0 ≤ z1498 ∧ z1498 ≤ 0 := (vc_X12_cone_33 h1506 h1500)
                  refine sv_aload_n (pc := 119) dX12_cone_119 rfl rfl ?_
                  refine gf_X12_13 (pc := 120) dX12_cone_120 wF_X12_69 (A_106 hw) T1405 ?_
                  refine sv_aload_n (pc := 123) dX12_cone_123 rfl rfl ?_
                  refine gf_X12_7 (pc := 124) dX12_cone_124 wF_X12_40 (A_106 hw) T1405 ?_
                  refine mr_iconst (pc := 127) (z := 2) dX12_cone_127 ?_
                  refine mr_iload (pc := 128) (z := z1399) dX12_cone_128 rfl ?_
                  refine mr_imul (pc := 130) (x := 2) (y := z1399) dX12_cone_130 ?_
                  refine mr_iconst (pc := 131) (z := 1) dX12_cone_131 ?_
                  refine mr_iadd (pc := 132) (x := (2 * z1399)) (y := 1) dX12_cone_132 ?_
                  refine lk_110 (pc := 133) dX12_cone_133 (A_110 hw) (rIx (n := 40) (rAdd (e := 1) (f := 39) (rMulL (n := 2) (e := 0) (f := 38) h1444 rfl) (rR (x := 1)) rfl) rfl) q1496 ?_
                  refine mr_iconst (pc := 134) (z := 1) dX12_cone_134 ?_
                  refine ss_116 (pc := 135) dX12_cone_135 (A_116 hw) T1405 (rIx (n := 10) h1497 rfl) (rW (c := 0) (d := 1) (rR (x := 1)) rfl) fun μ1509 u1510 T1511 => ?_
                  refine mr_iconst (pc := 136) (z := 1) dX12_cone_136 ?_
                  refine mr_istore_n (pc := 137) (lv' := [(3, iv 1), (0, .ref 106), (2, iv p2), (4, iv z1399)]) dX12_cone_137 rfl (by decide) rfl ?_
                  refine mr_iinc (pc := 138) (lv' := [(4, iv (z1399 + 1)), (3, iv 1), (0, .ref 106), (2, iv p2)]) dX12_cone_138 rfl (by decide) rfl ?_
                  refine sv_goto (pc := 141) (tgt := 64) dX12_cone_141 (by decide) ?_
                  refine mr_lvS (lv' := [(0, .ref 106), (2, iv p2), (3, iv 1), (4, iv (z1399 + 1))]) (List.forall_mem_cons.mpr ⟨rfl, List.forall_mem_cons.mpr ⟨rfl, List.forall_mem_cons.mpr ⟨rfl, List.forall_mem_cons.mpr ⟨rfl, fun _ h => absurd h List.not_mem_nil⟩⟩⟩⟩) ?_
                  exact ih1412 1 (z1399 + 1) μ1509 ((f_d + 1) - z1498) T1511 (mF.up (mF.call mF.refl F1406 rfl) (A_116 hw) u1510 rfl) (cntU u1510 (rIx (n := 10) h1497 rfl) rfl q1411 q1499) (rW (c := 0) (d := 1) (rR (x := 1)) rfl) (rW (c := 0) (d := 20) (rAdd (e := 1) (f := 20) h1444 (rR (x := 1)) rfl) rfl) (vc_X12_cone_34 h1408 h1409 h1506 h776 h1413 h1403 h1508) (vc_X12_cone_35 h1408 h1409 h1506 h776 h1413 h1403 h1508) (vc_X12_cone_28 (nS h1410) h1443 h1444 h1445)
              refine mr_lvS (lv' := [(0, .ref 106), (2, iv p2), (3, iv 0), (4, iv 0)]) (List.forall_mem_cons.mpr ⟨rfl, List.forall_mem_cons.mpr ⟨rfl, List.forall_mem_cons.mpr ⟨rfl, List.forall_mem_cons.mpr ⟨rfl, fun _ h => absurd h List.not_mem_nil⟩⟩⟩⟩) ?_
              exact L1402 22 0 0 μ767 f_c T770 mF.refl q774 (rW (c := 0) (d := 1) (rR (x := 0)) rfl) (rW (c := 0) (d := 20) (rR (x := 0)) rfl) (vc_X12_cone_36 h776) (vc_X12_cone_37 h776) vc_X12_cone_38
          obtain ⟨z1512, q1513⟩ : ∃ z, cnt μ481 116 10 = z := ⟨_, rfl⟩
          have h1514 : 0 ≤ z1512 ∧ z1512 ≤ 10 := by rw [← q1513]; exact cnt_rng (fun i => T484 116 116 (A_116 hw) i) 10
          refine mr_lvS (lv' := [(0, .ref 106), (2, iv p2), (3, iv 1)]) (List.forall_mem_cons.mpr ⟨rfl, List.forall_mem_cons.mpr ⟨rfl, List.forall_mem_cons.mpr ⟨rfl, fun _ h => absurd h List.not_mem_nil⟩⟩⟩) ?_
          exact L768 22 1 μ481 z1512 T484 mF.refl q1513 (rW (c := 0) (d := 1) (rR (x := 1)) rfl) (vc_X12_cone_39 h1514)
        have h1515 : 0 ≤ z480 ∧ z480 ≤ 9 := (vc_X12_cone_40 h497 h483)
        refine sv_aload_n (pc := 31) dX12_cone_31 rfl rfl ?_
        refine gf_X12_13 (pc := 32) dX12_cone_32 wF_X12_69 (A_106 hw) T484 ?_
        refine mr_iload_n (pc := 35) (z := z480) dX12_cone_35 rfl rfl ?_
        refine mr_iload_n (pc := 36) (z := z480) dX12_cone_36 rfl rfl ?_
        refine mr_iload_n (pc := 37) (z := p1) dX12_cone_37 rfl rfl ?_
        refine mr_icmp_ne (pc := 38) (tgt := 45) dX12_cone_38 (by decide) (r32 h1515 rfl) (r32 h14 rfl) (fun h1516 => ?_) (fun h1516 => ?_)
        · refine mr_iconst (pc := 45) (z := 0) dX12_cone_45 ?_
          refine ss_116 (pc := 46) dX12_cone_46 (A_116 hw) T484 (rIx (n := 10) h1515 rfl) (rW (c := 0) (d := 1) (rR (x := 0)) rfl) fun μ1517 u1518 T1519 => ?_
          refine mr_iinc (pc := 47) (lv' := [(3, iv (z480 + 1)), (0, .ref 106), (1, iv p1), (2, iv p2)]) dX12_cone_47 rfl (by decide) rfl ?_
          refine sv_goto (pc := 50) (tgt := 25) dX12_cone_50 (by decide) ?_
          refine mr_lvS (lv' := [(0, .ref 106), (1, iv p1), (2, iv p2), (3, iv (z480 + 1))]) (List.forall_mem_cons.mpr ⟨rfl, List.forall_mem_cons.mpr ⟨rfl, List.forall_mem_cons.mpr ⟨rfl, List.forall_mem_cons.mpr ⟨rfl, fun _ h => absurd h List.not_mem_nil⟩⟩⟩⟩) ?_
          exact ih488 (z480 + 1) μ1517 T1519 (mF.up (mF.call mF.refl F485 rfl) (A_116 hw) u1518 rfl) (rW (c := 0) (d := 10) (rAdd (e := 1) (f := 10) h1515 (rR (x := 1)) rfl) rfl) (vc_X12_cone_41 (nS h487) h497 h1516 h7.2.1 h7.2.2.1 h13 h14 h15 h1515 h12)
        refine mr_iconst (pc := 41) (z := 1) dX12_cone_41 ?_
        refine sv_goto (pc := 42) (tgt := 46) dX12_cone_42 (by decide) ?_
        refine ss_116 (pc := 46) dX12_cone_46 (A_116 hw) T484 (rIx (n := 10) h1515 rfl) (rW (c := 0) (d := 1) (rR (x := 1)) rfl) fun μ1520 u1521 T1522 => ?_
        refine mr_iinc (pc := 47) (lv' := [(3, iv (z480 + 1)), (0, .ref 106), (1, iv p1), (2, iv p2)]) dX12_cone_47 rfl (by decide) rfl ?_
        refine sv_goto (pc := 50) (tgt := 25) dX12_cone_50 (by decide) ?_
        refine mr_lvS (lv' := [(0, .ref 106), (1, iv p1), (2, iv p2), (3, iv (z480 + 1))]) (List.forall_mem_cons.mpr ⟨rfl, List.forall_mem_cons.mpr ⟨rfl, List.forall_mem_cons.mpr ⟨rfl, List.forall_mem_cons.mpr ⟨rfl, fun _ h => absurd h List.not_mem_nil⟩⟩⟩⟩) ?_
        exact ih488 (z480 + 1) μ1520 T1522 (mF.up (mF.call mF.refl F485 rfl) (A_116 hw) u1521 rfl) (rW (c := 0) (d := 10) (rAdd (e := 1) (f := 10) h1515 (rR (x := 1)) rfl) rfl) (vc_X12_cone_42 (nS h487) h497 h1516 h7.2.1 h7.2.2.1 h13 h14 h15 h1515 h12)
    refine mr_lvS (lv' := [(0, .ref 106), (1, iv p1), (2, iv p2), (3, iv 0)]) (List.forall_mem_cons.mpr ⟨rfl, List.forall_mem_cons.mpr ⟨rfl, List.forall_mem_cons.mpr ⟨rfl, List.forall_mem_cons.mpr ⟨rfl, fun _ h => absurd h List.not_mem_nil⟩⟩⟩⟩) ?_
    exact L482 12 0 μ hT mF.refl (rW (c := 0) (d := 10) (rR (x := 0)) rfl) vc_X12_cone_19
  refine sv_aload_n (pc := 13) dX12_cone_13 rfl rfl ?_
  refine mr_iload_n (pc := 14) (z := p2) dX12_cone_14 rfl rfl ?_
  refine mr_cVP (pc := 15) (c_X12_isDomain hw hT hp2 q2) (gOk _ _ _ _ _) dX12_cone_15 (tX12_isDomain _ _ _ _ _) ⟨wV_X12_isDomain, wL_X12_isDomain⟩ wM_X12_49 (gCX12 _ _ _ _ _) rfl (A_106 hw) rfl ⟨le_t rfl, le_t rfl⟩ ⟨le_t rfl, le_t rfl⟩ rfl (le_t rfl) fun z1527 h1526 => ?_
  refine mr_if_ne (pc := 18) (tgt := 23) dX12_cone_18 (by decide) (r32 h1526.1 rfl) (fun h1528 => ?_) (fun h1528 => ?_)
  · have h1529 : 1 ≤ z1527 ∧ z1527 ≤ 1 := (vc_X12_cone_43 h1528 h1526.2.1 h1526.2.2.1 hp2 h15 h1526.1)
    have h1530 : 0 ≤ p2 ∧ p2 < z1 := (h1526.2.1 (vc_X12_cone_44 h1526.2.1 h1526.2.2.1 h1528 h7.2.1 h7.2.2.1 h13 h16 h14 hp2 h15 h1529 h12))
    have h1531 : 0 ≤ p2 ∧ p2 ≤ 9 := (vc_X12_cone_45 h1530 h7.2.1 h7.2.2.1 h13 h16 h1526.2.1 h1526.2.2.1 h14 hp2 h15 h1529 h12)
    refine mr_iconst (pc := 23) (z := 0) dX12_cone_23 ?_
    refine mr_istore_n (pc := 24) (lv' := [(3, iv 0), (0, .ref 106), (1, iv p1), (2, iv p2)]) dX12_cone_24 rfl (by decide) rfl ?_
    have L2036 : ∀ (nL2036 : Nat) (z2034 : Int) (μ2035 : mM), mT w μ2035 → mF [116999] w μ μ2035 → (0 ≤ z2034 ∧ z2034 ≤ 10) → (11 - z2034) < (nL2036 : Int) → sV (gG l D c H0 sa) mX12_cone (sRm 3 0 0) (sZ (gG l D c H0 sa) 0 0 (qI w [116999] μ (fun z μ1 => ((-2147483648) ≤ z ∧ z ≤ 2147483647) ∧ True))) 25 [(0, .ref 106), (1, iv p1), (2, iv p2), (3, iv z2034)] [] (mk w μ2035) 0 0 := by
      intro nL2036
      induction nL2036 with
      | zero => intro z2034 μ2035 T2038 F2039 h2037 h2041; exact ((vc_X12_cone_46 h2041 h2037)).elim
      | succ nL2036 ih2042 =>
        intro z2034 μ2035 T2038 F2039 h2037 h2041
        refine mr_iload_n (pc := 25) (z := z2034) dX12_cone_25 rfl rfl ?_
        refine mr_bipush (pc := 26) (z := 10) dX12_cone_26 (by decide) ?_
        refine mr_icmp_ge (pc := 28) (tgt := 53) dX12_cone_28 (by decide) (r32 h2037 rfl) (r32 (rR (x := 10)) rfl) (fun h2051 => ?_) (fun h2051 => ?_)
        · have h2052 : 10 ≤ z2034 ∧ z2034 ≤ 10 := (vc_X12_cone_47 h2051 h2037)
          refine mr_iconst (pc := 53) (z := 1) dX12_cone_53 ?_
          refine mr_istore_n (pc := 54) (lv' := [(3, iv 1), (0, .ref 106), (1, iv p1), (2, iv p2)]) dX12_cone_54 rfl (by decide) rfl ?_
          have L2342 : ∀ (nL2342 : Nat) (z2340 : Int) (μ2341 : mM) (f_c : Int), mT w μ2341 → mF [116999] w μ2035 μ2341 → cnt μ2341 116 10 = f_c → (0 ≤ z2340 ∧ z2340 ≤ 1) → ((2 * (10 - f_c)) + z2340) < (nL2342 : Int) → sV (gG l D c H0 sa) mX12_cone (sRm 3 0 0) (sZ (gG l D c H0 sa) 0 0 (qI w [116999] μ (fun z μ1 => ((-2147483648) ≤ z ∧ z ≤ 2147483647) ∧ True))) 55 [(0, .ref 106), (2, iv p2), (3, iv z2340)] [] (mk w μ2341) 0 0 := by
            intro nL2342
            induction nL2342 with
            | zero => intro z2340 μ2341 f_c T2344 F2345 q2348 h2343 h2347; exact ((vc_X12_cone_48 h2347 (by rw [← q2348]; exact cnt_rng (fun i => T2344 116 116 (A_116 hw) i) 10) h2343)).elim
            | succ nL2342 ih2349 =>
              intro z2340 μ2341 f_c T2344 F2345 q2348 h2343 h2347
              have h2350 : 0 ≤ f_c ∧ f_c ≤ 10 := by rw [← q2348]; exact cnt_rng (fun i => T2344 116 116 (A_116 hw) i) 10
              refine mr_iload_n (pc := 55) (z := z2340) dX12_cone_55 rfl rfl ?_
              refine mr_if_eq (pc := 56) (tgt := 147) dX12_cone_56 (by decide) (r32 h2343 rfl) (fun h2423 => ?_) (fun h2423 => ?_)
              · have h2424 : 0 ≤ z2340 ∧ z2340 ≤ 0 := (vc_X12_cone_49 h2423 h2343)
                refine mr_iconst (pc := 147) (z := 0) dX12_cone_147 ?_
                refine mr_istore (pc := 148) (lv' := [(4, iv 0), (0, .ref 106), (2, iv p2), (3, iv z2340)]) dX12_cone_148 (by decide) rfl ?_
                refine mr_iconst (pc := 150) (z := 0) dX12_cone_150 ?_
                refine mr_istore (pc := 151) (lv' := [(5, iv 0), (4, iv 0), (0, .ref 106), (2, iv p2), (3, iv z2340)]) dX12_cone_151 (by decide) rfl ?_
                have L2622 : ∀ (nL2622 : Nat) (z2621 z2620 : Int), True → ((-2147483648) ≤ z2621 ∧ z2621 ≤ 2147483647) → (0 ≤ z2620 ∧ z2620 ≤ 10) → (11 - z2620) < (nL2622 : Int) → sV (gG l D c H0 sa) mX12_cone (sRm 3 0 0) (sZ (gG l D c H0 sa) 0 0 (qI w [116999] μ (fun z μ1 => ((-2147483648) ≤ z ∧ z ≤ 2147483647) ∧ True))) 153 [(0, .ref 106), (2, iv p2), (4, iv z2621), (5, iv z2620)] [] (mk w μ2341) 0 0 := by
                  intro nL2622
                  induction nL2622 with
                  | zero => intro z2621 z2620 _ h2623 h2624 h2628; exact ((vc_X12_cone_50 h2628 h2624)).elim
                  | succ nL2622 ih2629 =>
                    intro z2621 z2620 _ h2623 h2624 h2628
                    refine mr_iload (pc := 153) (z := z2620) dX12_cone_153 rfl ?_
                    refine sv_aload_n (pc := 155) dX12_cone_155 rfl rfl ?_
                    refine gk_X12_5 (pc := 156) dX12_cone_156 wF_X12_34 (A_106 hw) (F2345.f (A_106 hw) rfl (F2039.f (A_106 hw) rfl q2)) ?_
                    refine mr_icmp_ge (pc := 159) (tgt := 188) dX12_cone_159 (by decide) (r32 h2624 rfl) (r32 h15 rfl) (fun h2639 => ?_) (fun h2639 => ?_)
                    · have h2640 : 1 ≤ z2620 ∧ z2620 ≤ 10 := (vc_X12_cone_51 h2639 h7.2.1 h7.2.2.1 h13 h1526.2.1 h1526.2.2.1 h1530 h14 h1531 h15 h1529 h2624 h12)
                      refine mr_iload_n (pc := 188) (z := p2) dX12_cone_188 rfl rfl ?_
                      refine mr_if_ge (pc := 189) (tgt := 197) dX12_cone_189 (by decide) (r32 h1531 rfl) (fun _ => ?_) (fun h => ((vc_X12_cone_52 h h1531)).elim)
                      refine sv_aload_n (pc := 197) dX12_cone_197 rfl rfl ?_
                      refine gf_X12_13 (pc := 198) dX12_cone_198 wF_X12_69 (A_106 hw) T2344 ?_
                      refine mr_iload_n (pc := 201) (z := p2) dX12_cone_201 rfl rfl ?_
                      refine la_116 (pc := 202) dX12_cone_202 (A_116 hw) T2344 (rIx (n := 10) h1531 rfl) fun z2641 q2642 h2643 => ?_
                      refine mr_if_eq (pc := 203) (tgt := 210) dX12_cone_203 (by decide) (r32 h2643 rfl) (fun h2646 => ?_) (fun h2646 => ?_)
                      · have h2647 : 0 ≤ z2641 ∧ z2641 ≤ 0 := (vc_X12_cone_53 h2646 h2643)
                        refine mr_iconst (pc := 210) (z := 0) dX12_cone_210 ?_
                        exact mr_iret dX12_cone_211 rfl (le_t rfl) (le_t rfl) T2344 (mF.call (mF.call mF.refl F2039 rfl) F2345 rfl) ⟨(rW (c := (-2147483648)) (d := 2147483647) (rR (x := 0)) rfl), trivial⟩
                      have h2648 : 1 ≤ z2641 ∧ z2641 ≤ 1 := (vc_X12_cone_54 h2646 h2643)
                      refine mr_iconst (pc := 206) (z := 1) dX12_cone_206 ?_
                      refine sv_goto (pc := 207) (tgt := 211) dX12_cone_207 (by decide) ?_
                      exact mr_iret dX12_cone_211 rfl (le_t rfl) (le_t rfl) T2344 (mF.call (mF.call mF.refl F2039 rfl) F2345 rfl) ⟨(rW (c := (-2147483648)) (d := 2147483647) (rR (x := 1)) rfl), trivial⟩
                    have h2649 : 0 ≤ z2620 ∧ z2620 ≤ 9 := (vc_X12_cone_55 h2639 h7.2.1 h7.2.2.1 h13 h1526.2.1 h1526.2.2.1 h1530 h14 h1531 h15 h1529 h2624 h12)
                    refine mr_iload (pc := 162) (z := z2621) dX12_cone_162 rfl ?_
                    refine sv_aload_n (pc := 164) dX12_cone_164 rfl rfl ?_
                    refine gf_X12_13 (pc := 165) dX12_cone_165 wF_X12_69 (A_106 hw) T2344 ?_
                    refine mr_iload (pc := 168) (z := z2620) dX12_cone_168 rfl ?_
                    refine la_116 (pc := 170) dX12_cone_170 (A_116 hw) T2344 (rIx (n := 10) h2649 rfl) fun z2650 q2651 h2652 => ?_
                    refine mr_if_eq (pc := 171) (tgt := 178) dX12_cone_171 (by decide) (r32 h2652 rfl) (fun h2655 => ?_) (fun h2655 => ?_)
                    · have h2656 : 0 ≤ z2650 ∧ z2650 ≤ 0 := (vc_X12_cone_56 h2655 h2652)
                      refine mr_iconst (pc := 178) (z := 0) dX12_cone_178 ?_
                      refine mr_iadd (pc := 179) (x := z2621) (y := 0) dX12_cone_179 ?_
                      refine mr_istore (pc := 180) (lv' := [(4, iv (z2621 + 0)), (0, .ref 106), (2, iv p2), (5, iv z2620)]) dX12_cone_180 (by decide) rfl ?_
                      refine mr_iinc (pc := 182) (lv' := [(5, iv (z2620 + 1)), (4, iv (z2621 + 0)), (0, .ref 106), (2, iv p2)]) dX12_cone_182 rfl (by decide) rfl ?_
                      refine sv_goto (pc := 185) (tgt := 153) dX12_cone_185 (by decide) ?_
                      refine mr_lvS (lv' := [(0, .ref 106), (2, iv p2), (4, iv (z2621 + 0)), (5, iv (z2620 + 1))]) (List.forall_mem_cons.mpr ⟨rfl, List.forall_mem_cons.mpr ⟨rfl, List.forall_mem_cons.mpr ⟨rfl, List.forall_mem_cons.mpr ⟨rfl, fun _ h => absurd h List.not_mem_nil⟩⟩⟩⟩) ?_
                      exact ih2629 (z2621 + 0) (z2620 + 1) trivial (rAdd (e := (-2147483648)) (f := 2147483647) h2623 (rR (x := 0)) rfl) (rW (c := 0) (d := 10) (rAdd (e := 1) (f := 10) h2649 (rR (x := 1)) rfl) rfl) (vc_X12_cone_57 (nS h2628) h2639 h7.2.1 h7.2.2.1 h13 h1526.2.1 h1526.2.2.1 h1530 h14 h1531 h15 h1529 h2649 h12)
                    have h2657 : 1 ≤ z2650 ∧ z2650 ≤ 1 := (vc_X12_cone_58 h2655 h2652)
                    refine mr_iconst (pc := 174) (z := 1) dX12_cone_174 ?_
                    refine sv_goto (pc := 175) (tgt := 179) dX12_cone_175 (by decide) ?_
                    refine mr_iadd (pc := 179) (x := z2621) (y := 1) dX12_cone_179 ?_
                    refine mr_wrap fun z2658 h2659 => ?_
                    refine mr_istore (pc := 180) (lv' := [(4, iv z2658), (0, .ref 106), (2, iv p2), (5, iv z2620)]) dX12_cone_180 (by decide) rfl ?_
                    refine mr_iinc (pc := 182) (lv' := [(5, iv (z2620 + 1)), (4, iv z2658), (0, .ref 106), (2, iv p2)]) dX12_cone_182 rfl (by decide) rfl ?_
                    refine sv_goto (pc := 185) (tgt := 153) dX12_cone_185 (by decide) ?_
                    refine mr_lvS (lv' := [(0, .ref 106), (2, iv p2), (4, iv z2658), (5, iv (z2620 + 1))]) (List.forall_mem_cons.mpr ⟨rfl, List.forall_mem_cons.mpr ⟨rfl, List.forall_mem_cons.mpr ⟨rfl, List.forall_mem_cons.mpr ⟨rfl, fun _ h => absurd h List.not_mem_nil⟩⟩⟩⟩) ?_
                    exact ih2629 z2658 (z2620 + 1) trivial h2659 (rW (c := 0) (d := 10) (rAdd (e := 1) (f := 10) h2649 (rR (x := 1)) rfl) rfl) (vc_X12_cone_57 (nS h2628) h2639 h7.2.1 h7.2.2.1 h13 h1526.2.1 h1526.2.2.1 h1530 h14 h1531 h15 h1529 h2649 h12)
                refine mr_lvS (lv' := [(0, .ref 106), (2, iv p2), (4, iv 0), (5, iv 0)]) (List.forall_mem_cons.mpr ⟨rfl, List.forall_mem_cons.mpr ⟨rfl, List.forall_mem_cons.mpr ⟨rfl, List.forall_mem_cons.mpr ⟨rfl, fun _ h => absurd h List.not_mem_nil⟩⟩⟩⟩) ?_
                exact L2622 12 0 0 trivial (rW (c := (-2147483648)) (d := 2147483647) (rR (x := 0)) rfl) (rW (c := 0) (d := 10) (rR (x := 0)) rfl) vc_X12_cone_19
              have h2660 : 1 ≤ z2340 ∧ z2340 ≤ 1 := (vc_X12_cone_59 h2423 h2343)
              refine mr_iconst (pc := 59) (z := 0) dX12_cone_59 ?_
              refine mr_istore_n (pc := 60) (lv' := [(3, iv 0), (0, .ref 106), (2, iv p2)]) dX12_cone_60 rfl (by decide) rfl ?_
              refine mr_iconst (pc := 61) (z := 0) dX12_cone_61 ?_
              refine mr_istore (pc := 62) (lv' := [(4, iv 0), (3, iv 0), (0, .ref 106), (2, iv p2)]) dX12_cone_62 (by decide) rfl ?_
              have L3049 : ∀ (nL3049 : Nat) (z3047 z3046 : Int) (μ3048 : mM) (f_d : Int), mT w μ3048 → mF [116999] w μ2341 μ3048 → cnt μ3048 116 10 = f_d → (0 ≤ z3047 ∧ z3047 ≤ 1) → (0 ≤ z3046 ∧ z3046 ≤ 20) → (f_c ≤ f_d) → (z3047 = 0 ∨ f_c + 1 ≤ f_d) → (21 - z3046) < (nL3049 : Int) → sV (gG l D c H0 sa) mX12_cone (sRm 3 0 0) (sZ (gG l D c H0 sa) 0 0 (qI w [116999] μ (fun z μ1 => ((-2147483648) ≤ z ∧ z ≤ 2147483647) ∧ True))) 64 [(0, .ref 106), (2, iv p2), (3, iv z3047), (4, iv z3046)] [] (mk w μ3048) 0 0 := by
                intro nL3049
                induction nL3049 with
                | zero => intro z3047 z3046 μ3048 f_d T3052 F3053 q3058 h3050 h3051 h3055 h3056 h3057; exact ((vc_X12_cone_60 h3057 (by rw [← q3058]; exact cnt_rng (fun i => T3052 116 116 (A_116 hw) i) 10) h3055 h3056 h2350 h3051 h3050)).elim
                | succ nL3049 ih3059 =>
                  intro z3047 z3046 μ3048 f_d T3052 F3053 q3058 h3050 h3051 h3055 h3056 h3057
                  have h3060 : 0 ≤ f_d ∧ f_d ≤ 10 := by rw [← q3058]; exact cnt_rng (fun i => T3052 116 116 (A_116 hw) i) 10
                  refine mr_iload (pc := 64) (z := z3046) dX12_cone_64 rfl ?_
                  refine sv_aload_n (pc := 66) dX12_cone_66 rfl rfl ?_
                  refine gf_X12_6 (pc := 67) dX12_cone_67 wF_X12_37 (A_106 hw) T3052 fun z3061 q3062 h3063 => ?_
                  refine mr_icmp_ge (pc := 70) (tgt := 144) dX12_cone_70 (by decide) (r32 h3051 rfl) (r32 h3063 rfl) (fun h3090 => ?_) (fun h3090 => ?_)
                  · refine sv_goto (pc := 144) (tgt := 55) dX12_cone_144 (by decide) ?_
                    refine mr_lvS (lv' := [(0, .ref 106), (2, iv p2), (3, iv z3047)]) (List.forall_mem_cons.mpr ⟨rfl, List.forall_mem_cons.mpr ⟨rfl, List.forall_mem_cons.mpr ⟨rfl, fun _ h => absurd h List.not_mem_nil⟩⟩⟩) ?_
                    exact ih2349 z3047 μ3048 f_d T3052 (mF.call (mF.call mF.refl F2345 rfl) F3053 rfl) q3058 h3050 (vc_X12_cone_61 (nS h2347) h2423 h3055 h3056 h2350 h3060 h2660 h3050)
                  have h3091 : 0 ≤ z3046 ∧ z3046 ≤ 19 := (vc_X12_cone_62 h3090 h3051 h3063)
                  have h3092 : 1 ≤ z3061 ∧ z3061 ≤ 20 := (vc_X12_cone_63 h3090 h3091 h3063)
                  refine sv_aload_n (pc := 73) dX12_cone_73 rfl rfl ?_
                  refine gf_X12_8 (pc := 74) dX12_cone_74 wF_X12_46 (A_106 hw) T3052 ?_
                  refine mr_iload (pc := 77) (z := z3046) dX12_cone_77 rfl ?_
                  refine la_111 (pc := 79) dX12_cone_79 (A_111 hw) T3052 (rIx (n := 20) h3091 rfl) fun z3093 q3094 h3095 => ?_
                  refine mr_if_ne (pc := 80) (tgt := 138) dX12_cone_80 (by decide) (r32 h3095 rfl) (fun h3117 => ?_) (fun h3117 => ?_)
                  · have h3118 : 1 ≤ z3093 ∧ z3093 ≤ 2 := (vc_X12_cone_64 h3117 h3095)
                    refine mr_iinc (pc := 138) (lv' := [(4, iv (z3046 + 1)), (0, .ref 106), (2, iv p2), (3, iv z3047)]) dX12_cone_138 rfl (by decide) rfl ?_
                    refine sv_goto (pc := 141) (tgt := 64) dX12_cone_141 (by decide) ?_
                    refine mr_lvS (lv' := [(0, .ref 106), (2, iv p2), (3, iv z3047), (4, iv (z3046 + 1))]) (List.forall_mem_cons.mpr ⟨rfl, List.forall_mem_cons.mpr ⟨rfl, List.forall_mem_cons.mpr ⟨rfl, List.forall_mem_cons.mpr ⟨rfl, fun _ h => absurd h List.not_mem_nil⟩⟩⟩⟩) ?_
                    exact ih3059 z3047 (z3046 + 1) μ3048 f_d T3052 (mF.call mF.refl F3053 rfl) q3058 h3050 (rW (c := 0) (d := 20) (rAdd (e := 1) (f := 20) h3091 (rR (x := 1)) rfl) rfl) (vc_X12_cone_65 h3055 h3056 h2350 h3060 h3050) (vc_X12_cone_66 h3055 h3056 h2350 h3060 h3050) (vc_X12_cone_67 (nS h3057) h3090 h3091 h3092)
                  have h3119 : 0 ≤ z3093 ∧ z3093 ≤ 0 := (vc_X12_cone_68 h3117 h3095)
                  refine sv_aload_n (pc := 83) dX12_cone_83 rfl rfl ?_
                  refine gf_X12_13 (pc := 84) dX12_cone_84 wF_X12_69 (A_106 hw) T3052 ?_
                  refine sv_aload_n (pc := 87) dX12_cone_87 rfl rfl ?_
                  refine gf_X12_7 (pc := 88) dX12_cone_88 wF_X12_40 (A_106 hw) T3052 ?_
                  refine mr_iconst (pc := 91) (z := 2) dX12_cone_91 ?_
                  refine mr_iload (pc := 92) (z := z3046) dX12_cone_92 rfl ?_
                  refine mr_imul (pc := 94) (x := 2) (y := z3046) dX12_cone_94 ?_
                  refine la_110 (pc := 95) dX12_cone_95 (A_110 hw) T3052 (rIx (n := 40) (rMulL (n := 2) (e := 0) (f := 38) h3091 rfl) rfl) fun z3120 q3121 h3122 => ?_
                  refine la_116 (pc := 96) dX12_cone_96 (A_116 hw) T3052 (rIx (n := 10) h3122 rfl) fun z3123 q3124 h3125 => ?_
                  refine mr_if_eq (pc := 97) (tgt := 138) dX12_cone_97 (by decide) (r32 h3125 rfl) (fun h3139 => ?_) (fun h3139 => ?_)
                  · have h3140 : 0 ≤ z3123 ∧ z3123 ≤ 0 := (vc_X12_cone_69 h3139 h3125)
                    refine mr_iinc (pc := 138) (lv' := [(4, iv (z3046 + 1)), (0, .ref 106), (2, iv p2), (3, iv z3047)]) dX12_cone_138 rfl (by decide) rfl ?_
                    refine sv_goto (pc := 141) (tgt := 64) dX12_cone_141 (by decide) ?_
                    refine mr_lvS (lv' := [(0, .ref 106), (2, iv p2), (3, iv z3047), (4, iv (z3046 + 1))]) (List.forall_mem_cons.mpr ⟨rfl, List.forall_mem_cons.mpr ⟨rfl, List.forall_mem_cons.mpr ⟨rfl, List.forall_mem_cons.mpr ⟨rfl, fun _ h => absurd h List.not_mem_nil⟩⟩⟩⟩) ?_
                    exact ih3059 z3047 (z3046 + 1) μ3048 f_d T3052 (mF.call mF.refl F3053 rfl) q3058 h3050 (rW (c := 0) (d := 20) (rAdd (e := 1) (f := 20) h3091 (rR (x := 1)) rfl) rfl) (vc_X12_cone_65 h3055 h3056 h2350 h3060 h3050) (vc_X12_cone_66 h3055 h3056 h2350 h3060 h3050) (vc_X12_cone_67 (nS h3057) h3090 h3091 h3092)
                  have h3141 : 1 ≤ z3123 ∧ z3123 ≤ 1 := (vc_X12_cone_70 h3139 h3125)
                  refine sv_aload_n (pc := 100) dX12_cone_100 rfl rfl ?_
                  refine gf_X12_13 (pc := 101) dX12_cone_101 wF_X12_69 (A_106 hw) T3052 ?_
                  refine sv_aload_n (pc := 104) dX12_cone_104 rfl rfl ?_
                  refine gf_X12_7 (pc := 105) dX12_cone_105 wF_X12_40 (A_106 hw) T3052 ?_
                  refine mr_iconst (pc := 108) (z := 2) dX12_cone_108 ?_
                  refine mr_iload (pc := 109) (z := z3046) dX12_cone_109 rfl ?_
                  refine mr_imul (pc := 111) (x := 2) (y := z3046) dX12_cone_111 ?_
                  refine mr_iconst (pc := 112) (z := 1) dX12_cone_112 ?_
                  refine mr_iadd (pc := 113) (x := (2 * z3046)) (y := 1) dX12_cone_113 ?_
                  refine la_110 (pc := 114) dX12_cone_114 (A_110 hw) T3052 (rIx (n := 40) (rAdd (e := 1) (f := 39) (rMulL (n := 2) (e := 0) (f := 38) h3091 rfl) (rR (x := 1)) rfl) rfl) fun z3142 q3143 h3144 => ?_
                  refine la_116 (pc := 115) dX12_cone_115 (A_116 hw) T3052 (rIx (n := 10) h3144 rfl) fun z3145 q3146 h3147 => ?_
                  refine mr_if_ne (pc := 116) (tgt := 138) dX12_cone_116 (by decide) (r32 h3147 rfl) (fun h3153 => ?_) (fun h3153 => ?_)
                  · have h3154 : 1 ≤ z3145 ∧ z3145 ≤ 1 := (vc_X12_cone_71 h3153 h3147)
                    refine mr_iinc (pc := 138) (lv' := [(4, iv (z3046 + 1)), (0, .ref 106), (2, iv p2), (3, iv z3047)]) dX12_cone_138 rfl (by decide) rfl ?_
                    refine sv_goto (pc := 141) (tgt := 64) dX12_cone_141 (by decide) ?_
                    refine mr_lvS (lv' := [(0, .ref 106), (2, iv p2), (3, iv z3047), (4, iv (z3046 + 1))]) (List.forall_mem_cons.mpr ⟨rfl, List.forall_mem_cons.mpr ⟨rfl, List.forall_mem_cons.mpr ⟨rfl, List.forall_mem_cons.mpr ⟨rfl, fun _ h => absurd h List.not_mem_nil⟩⟩⟩⟩) ?_
                    exact ih3059 z3047 (z3046 + 1) μ3048 f_d T3052 (mF.call mF.refl F3053 rfl) q3058 h3050 (rW (c := 0) (d := 20) (rAdd (e := 1) (f := 20) h3091 (rR (x := 1)) rfl) rfl) (vc_X12_cone_65 h3055 h3056 h2350 h3060 h3050) (vc_X12_cone_66 h3055 h3056 h2350 h3060 h3050) (vc_X12_cone_67 (nS h3057) h3090 h3091 h3092)
                  have h3155 : 0 ≤ z3145 ∧ z3145 ≤ 0 := (vc_X12_cone_72 h3153 h3147)
                  refine sv_aload_n (pc := 119) dX12_cone_119 rfl rfl ?_
                  refine gf_X12_13 (pc := 120) dX12_cone_120 wF_X12_69 (A_106 hw) T3052 ?_
                  refine sv_aload_n (pc := 123) dX12_cone_123 rfl rfl ?_
                  refine gf_X12_7 (pc := 124) dX12_cone_124 wF_X12_40 (A_106 hw) T3052 ?_
                  refine mr_iconst (pc := 127) (z := 2) dX12_cone_127 ?_
                  refine mr_iload (pc := 128) (z := z3046) dX12_cone_128 rfl ?_
                  refine mr_imul (pc := 130) (x := 2) (y := z3046) dX12_cone_130 ?_
                  refine mr_iconst (pc := 131) (z := 1) dX12_cone_131 ?_
                  refine mr_iadd (pc := 132) (x := (2 * z3046)) (y := 1) dX12_cone_132 ?_
                  refine lk_110 (pc := 133) dX12_cone_133 (A_110 hw) (rIx (n := 40) (rAdd (e := 1) (f := 39) (rMulL (n := 2) (e := 0) (f := 38) h3091 rfl) (rR (x := 1)) rfl) rfl) q3143 ?_
                  refine mr_iconst (pc := 134) (z := 1) dX12_cone_134 ?_
                  refine ss_116 (pc := 135) dX12_cone_135 (A_116 hw) T3052 (rIx (n := 10) h3144 rfl) (rW (c := 0) (d := 1) (rR (x := 1)) rfl) fun μ3156 u3157 T3158 => ?_
                  refine mr_iconst (pc := 136) (z := 1) dX12_cone_136 ?_
                  refine mr_istore_n (pc := 137) (lv' := [(3, iv 1), (0, .ref 106), (2, iv p2), (4, iv z3046)]) dX12_cone_137 rfl (by decide) rfl ?_
                  refine mr_iinc (pc := 138) (lv' := [(4, iv (z3046 + 1)), (3, iv 1), (0, .ref 106), (2, iv p2)]) dX12_cone_138 rfl (by decide) rfl ?_
                  refine sv_goto (pc := 141) (tgt := 64) dX12_cone_141 (by decide) ?_
                  refine mr_lvS (lv' := [(0, .ref 106), (2, iv p2), (3, iv 1), (4, iv (z3046 + 1))]) (List.forall_mem_cons.mpr ⟨rfl, List.forall_mem_cons.mpr ⟨rfl, List.forall_mem_cons.mpr ⟨rfl, List.forall_mem_cons.mpr ⟨rfl, fun _ h => absurd h List.not_mem_nil⟩⟩⟩⟩) ?_
                  exact ih3059 1 (z3046 + 1) μ3156 ((f_d + 1) - z3145) T3158 (mF.up (mF.call mF.refl F3053 rfl) (A_116 hw) u3157 rfl) (cntU u3157 (rIx (n := 10) h3144 rfl) rfl q3058 q3146) (rW (c := 0) (d := 1) (rR (x := 1)) rfl) (rW (c := 0) (d := 20) (rAdd (e := 1) (f := 20) h3091 (rR (x := 1)) rfl) rfl) (vc_X12_cone_73 h3055 h3056 h3153 h2350 h3060 h3050 h3155) (vc_X12_cone_74 h3055 h3056 h3153 h2350 h3060 h3050 h3155) (vc_X12_cone_67 (nS h3057) h3090 h3091 h3092)
              refine mr_lvS (lv' := [(0, .ref 106), (2, iv p2), (3, iv 0), (4, iv 0)]) (List.forall_mem_cons.mpr ⟨rfl, List.forall_mem_cons.mpr ⟨rfl, List.forall_mem_cons.mpr ⟨rfl, List.forall_mem_cons.mpr ⟨rfl, fun _ h => absurd h List.not_mem_nil⟩⟩⟩⟩) ?_
              exact L3049 22 0 0 μ2341 f_c T2344 mF.refl q2348 (rW (c := 0) (d := 1) (rR (x := 0)) rfl) (rW (c := 0) (d := 20) (rR (x := 0)) rfl) (vc_X12_cone_36 h2350) (vc_X12_cone_37 h2350) vc_X12_cone_38
          obtain ⟨z3159, q3160⟩ : ∃ z, cnt μ2035 116 10 = z := ⟨_, rfl⟩
          have h3161 : 0 ≤ z3159 ∧ z3159 ≤ 10 := by rw [← q3160]; exact cnt_rng (fun i => T2038 116 116 (A_116 hw) i) 10
          refine mr_lvS (lv' := [(0, .ref 106), (2, iv p2), (3, iv 1)]) (List.forall_mem_cons.mpr ⟨rfl, List.forall_mem_cons.mpr ⟨rfl, List.forall_mem_cons.mpr ⟨rfl, fun _ h => absurd h List.not_mem_nil⟩⟩⟩) ?_
          exact L2342 22 1 μ2035 z3159 T2038 mF.refl q3160 (rW (c := 0) (d := 1) (rR (x := 1)) rfl) (vc_X12_cone_75 h3161)
        have h3162 : 0 ≤ z2034 ∧ z2034 ≤ 9 := (vc_X12_cone_76 h2051 h2037)
        refine sv_aload_n (pc := 31) dX12_cone_31 rfl rfl ?_
        refine gf_X12_13 (pc := 32) dX12_cone_32 wF_X12_69 (A_106 hw) T2038 ?_
        refine mr_iload_n (pc := 35) (z := z2034) dX12_cone_35 rfl rfl ?_
        refine mr_iload_n (pc := 36) (z := z2034) dX12_cone_36 rfl rfl ?_
        refine mr_iload_n (pc := 37) (z := p1) dX12_cone_37 rfl rfl ?_
        refine mr_icmp_ne (pc := 38) (tgt := 45) dX12_cone_38 (by decide) (r32 h3162 rfl) (r32 h14 rfl) (fun h3163 => ?_) (fun h3163 => ?_)
        · refine mr_iconst (pc := 45) (z := 0) dX12_cone_45 ?_
          refine ss_116 (pc := 46) dX12_cone_46 (A_116 hw) T2038 (rIx (n := 10) h3162 rfl) (rW (c := 0) (d := 1) (rR (x := 0)) rfl) fun μ3164 u3165 T3166 => ?_
          refine mr_iinc (pc := 47) (lv' := [(3, iv (z2034 + 1)), (0, .ref 106), (1, iv p1), (2, iv p2)]) dX12_cone_47 rfl (by decide) rfl ?_
          refine sv_goto (pc := 50) (tgt := 25) dX12_cone_50 (by decide) ?_
          refine mr_lvS (lv' := [(0, .ref 106), (1, iv p1), (2, iv p2), (3, iv (z2034 + 1))]) (List.forall_mem_cons.mpr ⟨rfl, List.forall_mem_cons.mpr ⟨rfl, List.forall_mem_cons.mpr ⟨rfl, List.forall_mem_cons.mpr ⟨rfl, fun _ h => absurd h List.not_mem_nil⟩⟩⟩⟩) ?_
          exact ih2042 (z2034 + 1) μ3164 T3166 (mF.up (mF.call mF.refl F2039 rfl) (A_116 hw) u3165 rfl) (rW (c := 0) (d := 10) (rAdd (e := 1) (f := 10) h3162 (rR (x := 1)) rfl) rfl) (vc_X12_cone_77 (nS h2041) h2051 h3163 h7.2.1 h7.2.2.1 h13 h14 h15 h3162 h12)
        refine mr_iconst (pc := 41) (z := 1) dX12_cone_41 ?_
        refine sv_goto (pc := 42) (tgt := 46) dX12_cone_42 (by decide) ?_
        refine ss_116 (pc := 46) dX12_cone_46 (A_116 hw) T2038 (rIx (n := 10) h3162 rfl) (rW (c := 0) (d := 1) (rR (x := 1)) rfl) fun μ3167 u3168 T3169 => ?_
        refine mr_iinc (pc := 47) (lv' := [(3, iv (z2034 + 1)), (0, .ref 106), (1, iv p1), (2, iv p2)]) dX12_cone_47 rfl (by decide) rfl ?_
        refine sv_goto (pc := 50) (tgt := 25) dX12_cone_50 (by decide) ?_
        refine mr_lvS (lv' := [(0, .ref 106), (1, iv p1), (2, iv p2), (3, iv (z2034 + 1))]) (List.forall_mem_cons.mpr ⟨rfl, List.forall_mem_cons.mpr ⟨rfl, List.forall_mem_cons.mpr ⟨rfl, List.forall_mem_cons.mpr ⟨rfl, fun _ h => absurd h List.not_mem_nil⟩⟩⟩⟩) ?_
        exact ih2042 (z2034 + 1) μ3167 T3169 (mF.up (mF.call mF.refl F2039 rfl) (A_116 hw) u3168 rfl) (rW (c := 0) (d := 10) (rAdd (e := 1) (f := 10) h3162 (rR (x := 1)) rfl) rfl) (vc_X12_cone_78 (nS h2041) h2051 h3163 h7.2.1 h7.2.2.1 h13 h14 h15 h3162 h12)
    refine mr_lvS (lv' := [(0, .ref 106), (1, iv p1), (2, iv p2), (3, iv 0)]) (List.forall_mem_cons.mpr ⟨rfl, List.forall_mem_cons.mpr ⟨rfl, List.forall_mem_cons.mpr ⟨rfl, List.forall_mem_cons.mpr ⟨rfl, fun _ h => absurd h List.not_mem_nil⟩⟩⟩⟩) ?_
    exact L2036 12 0 μ hT mF.refl (rW (c := 0) (d := 10) (rR (x := 0)) rfl) vc_X12_cone_19
  have h3170 : 0 ≤ z1527 ∧ z1527 ≤ 0 := (vc_X12_cone_79 h1528 h1526.2.1 h1526.2.2.1 hp2 h15 h1526.1)
  have h3171 : p2 < 0 ∨ z1 ≤ p2 := (h1526.2.2.1 (vc_X12_cone_80 h1526.2.1 h1526.2.2.1 h1528 h7.2.1 h7.2.2.1 h13 h16 h14 hp2 h15 h3170 h12))
  refine mr_iconst (pc := 21) (z := (-1)) dX12_cone_21 ?_
  exact mr_iret dX12_cone_22 rfl (le_t rfl) (le_t rfl) hT mF.refl ⟨(rW (c := (-2147483648)) (d := 2147483647) (rR (x := (-1))) rfl), trivial⟩
theorem vc_X12_tieOf_hit_1 {f_ties g1 : Int} (h0 : g1 < f_ties) (h1 : 0 ≤ f_ties ∧ f_ties ≤ 20) (h2 : 0 ≤ g1 ∧ g1 ≤ 19) : 1 ≤ f_ties ∧ f_ties ≤ 20 := by omega
theorem vc_X12_tieOf_hit_2 {f_ties g1 z416 : Int} (h0 : (21 - z416) < ((0 : Nat) : Int)) (h1 : z416 ≤ g1) (h2 : g1 < f_ties) (h3 : 1 ≤ f_ties ∧ f_ties ≤ 20) (h4 : 0 ≤ g1 ∧ g1 ≤ 19) (h5 : 0 ≤ z416 ∧ z416 ≤ 20) : False := by omega
theorem vc_X12_tieOf_hit_3 {f_ties g1 z416 : Int} (h0 : f_ties ≤ z416) (h1 : g1 < f_ties) (h2 : z416 ≤ g1) (h3 : 1 ≤ f_ties ∧ f_ties ≤ 20) (h4 : 0 ≤ g1 ∧ g1 ≤ 19) (h5 : 0 ≤ z416 ∧ z416 ≤ 20) : False := by omega
theorem vc_X12_tieOf_hit_4 {f_ties g1 z416 : Int} (h0 : z416 < f_ties) (h1 : g1 < f_ties) (h2 : z416 ≤ g1) (h3 : 1 ≤ f_ties ∧ f_ties ≤ 20) (h4 : 0 ≤ g1 ∧ g1 ≤ 19) (h5 : 0 ≤ z416 ∧ z416 ≤ 20) : 0 ≤ z416 ∧ z416 ≤ 19 := by omega
theorem vc_X12_tieOf_hit_5 {f_e0 f_e1 f_ties g1 p1 p2 z416 z427 : Int} (h0 : g1 < f_ties) (h1 : z416 ≤ g1) (h2 : z416 < f_ties) (h3 : ((2 * z416) = (2 * g1) → z427 = f_e0)) (h4 : ((2 * z416) = ((2 * g1) + 1) → z427 = f_e1)) (h5 : (f_e0 = p1 ∧ f_e1 = p2) ∨ (f_e0 = p2 ∧ f_e1 = p1)) (h6 : ¬ z427 = p1) (h7 : ¬ z427 = p2) (h8 : 0 ≤ f_e0 ∧ f_e0 ≤ 9) (h9 : 0 ≤ f_e1 ∧ f_e1 ≤ 9) (h10 : 1 ≤ f_ties ∧ f_ties ≤ 20) (h11 : 0 ≤ g1 ∧ g1 ≤ 19) (h12 : (-2147483648) ≤ p1 ∧ p1 ≤ 2147483647) (h13 : (-2147483648) ≤ p2 ∧ p2 ≤ 2147483647) (h14 : 0 ≤ z416 ∧ z416 ≤ 19) (h15 : 0 ≤ z427 ∧ z427 ≤ 9) : (z416 + 1) ≤ g1 := by omega
theorem vc_X12_tieOf_hit_6 {N f_e0 f_e1 f_ties g1 p1 p2 z416 z427 : Int} (h0 : (21 - z416) < N + 1) (h1 : z416 ≤ g1) (h2 : z416 < f_ties) (h3 : ((2 * z416) = (2 * g1) → z427 = f_e0)) (h4 : ((2 * z416) = ((2 * g1) + 1) → z427 = f_e1)) (h5 : g1 < f_ties) (h6 : (f_e0 = p1 ∧ f_e1 = p2) ∨ (f_e0 = p2 ∧ f_e1 = p1)) (h7 : ¬ z427 = p1) (h8 : ¬ z427 = p2) (h9 : 0 ≤ f_e0 ∧ f_e0 ≤ 9) (h10 : 0 ≤ f_e1 ∧ f_e1 ≤ 9) (h11 : 1 ≤ f_ties ∧ f_ties ≤ 20) (h12 : 0 ≤ g1 ∧ g1 ≤ 19) (h13 : (-2147483648) ≤ p1 ∧ p1 ≤ 2147483647) (h14 : (-2147483648) ≤ p2 ∧ p2 ≤ 2147483647) (h15 : 0 ≤ z416 ∧ z416 ≤ 19) (h16 : 0 ≤ z427 ∧ z427 ≤ 9) : (21 - (z416 + 1)) < N := by omega
theorem vc_X12_tieOf_hit_7 {f_e0 f_e1 g1 p1 p2 z416 z427 : Int} (h0 : z427 = p2) (h1 : (f_e0 = p1 ∧ f_e1 = p2) ∨ (f_e0 = p2 ∧ f_e1 = p1)) (h2 : ((2 * z416) = (2 * g1) → z427 = f_e0)) (h3 : ((2 * z416) = ((2 * g1) + 1) → z427 = f_e1)) (h4 : ¬ z427 = p1) (h5 : 0 ≤ f_e0 ∧ f_e0 ≤ 9) (h6 : 0 ≤ f_e1 ∧ f_e1 ≤ 9) (h7 : 0 ≤ g1 ∧ g1 ≤ 19) (h8 : (-2147483648) ≤ p1 ∧ p1 ≤ 2147483647) (h9 : (-2147483648) ≤ p2 ∧ p2 ≤ 2147483647) (h10 : 0 ≤ z416 ∧ z416 ≤ 19) (h11 : 0 ≤ z427 ∧ z427 ≤ 9) : 0 ≤ p2 ∧ p2 ≤ 9 := by omega
theorem vc_X12_tieOf_hit_8 {f_e0 f_e1 f_ties g1 p1 p2 z416 z427 z433 : Int} (h0 : g1 < f_ties) (h1 : z416 ≤ g1) (h2 : z416 < f_ties) (h3 : ((2 * z416) = (2 * g1) → z427 = f_e0)) (h4 : ((2 * z416) = ((2 * g1) + 1) → z427 = f_e1)) (h5 : (((2 * z416) + 1) = (2 * g1) → z433 = f_e0)) (h6 : (((2 * z416) + 1) = ((2 * g1) + 1) → z433 = f_e1)) (h7 : (((2 * z416) + 1) = (2 * z416) → z433 = z427)) (h8 : (f_e0 = p1 ∧ f_e1 = p2) ∨ (f_e0 = p2 ∧ f_e1 = p1)) (h9 : ¬ z427 = p1) (h10 : z427 = p2) (h11 : ¬ z433 = p1) (h12 : 0 ≤ f_e0 ∧ f_e0 ≤ 9) (h13 : 0 ≤ f_e1 ∧ f_e1 ≤ 9) (h14 : 1 ≤ f_ties ∧ f_ties ≤ 20) (h15 : 0 ≤ g1 ∧ g1 ≤ 19) (h16 : (-2147483648) ≤ p1 ∧ p1 ≤ 2147483647) (h17 : 0 ≤ p2 ∧ p2 ≤ 9) (h18 : 0 ≤ z416 ∧ z416 ≤ 19) (h19 : 0 ≤ z427 ∧ z427 ≤ 9) (h20 : 0 ≤ z433 ∧ z433 ≤ 9) : (z416 + 1) ≤ g1 := by omega
theorem vc_X12_tieOf_hit_9 {N f_e0 f_e1 f_ties g1 p1 p2 z416 z427 z433 : Int} (h0 : (21 - z416) < N + 1) (h1 : z416 ≤ g1) (h2 : z416 < f_ties) (h3 : ((2 * z416) = (2 * g1) → z427 = f_e0)) (h4 : ((2 * z416) = ((2 * g1) + 1) → z427 = f_e1)) (h5 : (((2 * z416) + 1) = (2 * g1) → z433 = f_e0)) (h6 : (((2 * z416) + 1) = ((2 * g1) + 1) → z433 = f_e1)) (h7 : (((2 * z416) + 1) = (2 * z416) → z433 = z427)) (h8 : g1 < f_ties) (h9 : (f_e0 = p1 ∧ f_e1 = p2) ∨ (f_e0 = p2 ∧ f_e1 = p1)) (h10 : ¬ z427 = p1) (h11 : z427 = p2) (h12 : ¬ z433 = p1) (h13 : 0 ≤ f_e0 ∧ f_e0 ≤ 9) (h14 : 0 ≤ f_e1 ∧ f_e1 ≤ 9) (h15 : 1 ≤ f_ties ∧ f_ties ≤ 20) (h16 : 0 ≤ g1 ∧ g1 ≤ 19) (h17 : (-2147483648) ≤ p1 ∧ p1 ≤ 2147483647) (h18 : 0 ≤ p2 ∧ p2 ≤ 9) (h19 : 0 ≤ z416 ∧ z416 ≤ 19) (h20 : 0 ≤ z427 ∧ z427 ≤ 9) (h21 : 0 ≤ z433 ∧ z433 ≤ 9) : (21 - (z416 + 1)) < N := by omega
theorem vc_X12_tieOf_hit_10 {f_e0 f_e1 g1 p1 p2 z416 z427 z433 : Int} (h0 : z433 = p1) (h1 : (f_e0 = p1 ∧ f_e1 = p2) ∨ (f_e0 = p2 ∧ f_e1 = p1)) (h2 : ¬ z427 = p1) (h3 : (((2 * z416) + 1) = (2 * g1) → z433 = f_e0)) (h4 : (((2 * z416) + 1) = ((2 * g1) + 1) → z433 = f_e1)) (h5 : (((2 * z416) + 1) = (2 * z416) → z433 = z427)) (h6 : 0 ≤ f_e0 ∧ f_e0 ≤ 9) (h7 : 0 ≤ f_e1 ∧ f_e1 ≤ 9) (h8 : 0 ≤ g1 ∧ g1 ≤ 19) (h9 : (-2147483648) ≤ p1 ∧ p1 ≤ 2147483647) (h10 : 0 ≤ p2 ∧ p2 ≤ 9) (h11 : 0 ≤ z416 ∧ z416 ≤ 19) (h12 : 0 ≤ z427 ∧ z427 ≤ 9) (h13 : 0 ≤ z433 ∧ z433 ≤ 9) : 0 ≤ p1 ∧ p1 ≤ 9 := by omega
theorem vc_X12_tieOf_hit_11 {f_e0 f_e1 g1 p1 p2 z416 z427 : Int} (h0 : z427 = p1) (h1 : (f_e0 = p1 ∧ f_e1 = p2) ∨ (f_e0 = p2 ∧ f_e1 = p1)) (h2 : ((2 * z416) = (2 * g1) → z427 = f_e0)) (h3 : ((2 * z416) = ((2 * g1) + 1) → z427 = f_e1)) (h4 : 0 ≤ f_e0 ∧ f_e0 ≤ 9) (h5 : 0 ≤ f_e1 ∧ f_e1 ≤ 9) (h6 : 0 ≤ g1 ∧ g1 ≤ 19) (h7 : (-2147483648) ≤ p1 ∧ p1 ≤ 2147483647) (h8 : (-2147483648) ≤ p2 ∧ p2 ≤ 2147483647) (h9 : 0 ≤ z416 ∧ z416 ≤ 19) (h10 : 0 ≤ z427 ∧ z427 ≤ 9) : 0 ≤ p1 ∧ p1 ≤ 9 := by omega
theorem vc_X12_tieOf_hit_12 {f_e0 f_e1 g1 p1 p2 z416 z427 z439 : Int} (h0 : z439 = p2) (h1 : (f_e0 = p1 ∧ f_e1 = p2) ∨ (f_e0 = p2 ∧ f_e1 = p1)) (h2 : (((2 * z416) + 1) = (2 * g1) → z439 = f_e0)) (h3 : (((2 * z416) + 1) = ((2 * g1) + 1) → z439 = f_e1)) (h4 : (((2 * z416) + 1) = (2 * z416) → z439 = z427)) (h5 : 0 ≤ f_e0 ∧ f_e0 ≤ 9) (h6 : 0 ≤ f_e1 ∧ f_e1 ≤ 9) (h7 : 0 ≤ g1 ∧ g1 ≤ 19) (h8 : 0 ≤ p1 ∧ p1 ≤ 9) (h9 : (-2147483648) ≤ p2 ∧ p2 ≤ 2147483647) (h10 : 0 ≤ z416 ∧ z416 ≤ 19) (h11 : 0 ≤ z427 ∧ z427 ≤ 9) (h12 : 0 ≤ z439 ∧ z439 ≤ 9) : 0 ≤ p2 ∧ p2 ≤ 9 := by omega
theorem vc_X12_tieOf_hit_13 {f_e0 f_e1 f_ties g1 p1 p2 z416 z427 z439 : Int} (h0 : g1 < f_ties) (h1 : z416 ≤ g1) (h2 : z416 < f_ties) (h3 : ((2 * z416) = (2 * g1) → z427 = f_e0)) (h4 : ((2 * z416) = ((2 * g1) + 1) → z427 = f_e1)) (h5 : (((2 * z416) + 1) = (2 * g1) → z439 = f_e0)) (h6 : (((2 * z416) + 1) = ((2 * g1) + 1) → z439 = f_e1)) (h7 : (((2 * z416) + 1) = (2 * z416) → z439 = z427)) (h8 : (f_e0 = p1 ∧ f_e1 = p2) ∨ (f_e0 = p2 ∧ f_e1 = p1)) (h9 : z427 = p1) (h10 : ¬ z439 = p2) (h11 : ¬ z427 = p2) (h12 : 0 ≤ f_e0 ∧ f_e0 ≤ 9) (h13 : 0 ≤ f_e1 ∧ f_e1 ≤ 9) (h14 : 1 ≤ f_ties ∧ f_ties ≤ 20) (h15 : 0 ≤ g1 ∧ g1 ≤ 19) (h16 : 0 ≤ p1 ∧ p1 ≤ 9) (h17 : (-2147483648) ≤ p2 ∧ p2 ≤ 2147483647) (h18 : 0 ≤ z416 ∧ z416 ≤ 19) (h19 : 0 ≤ z427 ∧ z427 ≤ 9) (h20 : 0 ≤ z439 ∧ z439 ≤ 9) : (z416 + 1) ≤ g1 := by omega
theorem vc_X12_tieOf_hit_14 {N f_e0 f_e1 f_ties g1 p1 p2 z416 z427 z439 : Int} (h0 : (21 - z416) < N + 1) (h1 : z416 ≤ g1) (h2 : z416 < f_ties) (h3 : ((2 * z416) = (2 * g1) → z427 = f_e0)) (h4 : ((2 * z416) = ((2 * g1) + 1) → z427 = f_e1)) (h5 : (((2 * z416) + 1) = (2 * g1) → z439 = f_e0)) (h6 : (((2 * z416) + 1) = ((2 * g1) + 1) → z439 = f_e1)) (h7 : (((2 * z416) + 1) = (2 * z416) → z439 = z427)) (h8 : g1 < f_ties) (h9 : (f_e0 = p1 ∧ f_e1 = p2) ∨ (f_e0 = p2 ∧ f_e1 = p1)) (h10 : z427 = p1) (h11 : ¬ z439 = p2) (h12 : ¬ z427 = p2) (h13 : 0 ≤ f_e0 ∧ f_e0 ≤ 9) (h14 : 0 ≤ f_e1 ∧ f_e1 ≤ 9) (h15 : 1 ≤ f_ties ∧ f_ties ≤ 20) (h16 : 0 ≤ g1 ∧ g1 ≤ 19) (h17 : 0 ≤ p1 ∧ p1 ≤ 9) (h18 : (-2147483648) ≤ p2 ∧ p2 ≤ 2147483647) (h19 : 0 ≤ z416 ∧ z416 ≤ 19) (h20 : 0 ≤ z427 ∧ z427 ≤ 9) (h21 : 0 ≤ z439 ∧ z439 ≤ 9) : (21 - (z416 + 1)) < N := by omega
theorem vc_X12_tieOf_hit_15 {f_e0 f_e1 g1 p1 p2 z416 z427 z439 : Int} (h0 : z427 = p2) (h1 : (f_e0 = p1 ∧ f_e1 = p2) ∨ (f_e0 = p2 ∧ f_e1 = p1)) (h2 : ((2 * z416) = (2 * g1) → z427 = f_e0)) (h3 : ((2 * z416) = ((2 * g1) + 1) → z427 = f_e1)) (h4 : z427 = p1) (h5 : (((2 * z416) + 1) = (2 * z416) → z439 = z427)) (h6 : ¬ z439 = p2) (h7 : 0 ≤ f_e0 ∧ f_e0 ≤ 9) (h8 : 0 ≤ f_e1 ∧ f_e1 ≤ 9) (h9 : 0 ≤ g1 ∧ g1 ≤ 19) (h10 : 0 ≤ p1 ∧ p1 ≤ 9) (h11 : (-2147483648) ≤ p2 ∧ p2 ≤ 2147483647) (h12 : 0 ≤ z416 ∧ z416 ≤ 19) (h13 : 0 ≤ z427 ∧ z427 ≤ 9) (h14 : 0 ≤ z439 ∧ z439 ≤ 9) : 0 ≤ p2 ∧ p2 ≤ 9 := by omega
theorem vc_X12_tieOf_hit_16 {f_e0 f_e1 f_ties g1 p1 p2 z416 z427 z439 : Int} (h0 : g1 < f_ties) (h1 : z416 ≤ g1) (h2 : z416 < f_ties) (h3 : ((2 * z416) = (2 * g1) → z427 = f_e0)) (h4 : ((2 * z416) = ((2 * g1) + 1) → z427 = f_e1)) (h5 : (((2 * z416) + 1) = (2 * g1) → z439 = f_e0)) (h6 : (((2 * z416) + 1) = ((2 * g1) + 1) → z439 = f_e1)) (h7 : (((2 * z416) + 1) = (2 * z416) → z439 = z427)) (h8 : (f_e0 = p1 ∧ f_e1 = p2) ∨ (f_e0 = p2 ∧ f_e1 = p1)) (h9 : z427 = p1) (h10 : ¬ z439 = p2) (h11 : z427 = p2) (h12 : ¬ z439 = p1) (h13 : 0 ≤ f_e0 ∧ f_e0 ≤ 9) (h14 : 0 ≤ f_e1 ∧ f_e1 ≤ 9) (h15 : 1 ≤ f_ties ∧ f_ties ≤ 20) (h16 : 0 ≤ g1 ∧ g1 ≤ 19) (h17 : 0 ≤ p1 ∧ p1 ≤ 9) (h18 : 0 ≤ p2 ∧ p2 ≤ 9) (h19 : 0 ≤ z416 ∧ z416 ≤ 19) (h20 : 0 ≤ z427 ∧ z427 ≤ 9) (h21 : 0 ≤ z439 ∧ z439 ≤ 9) : (z416 + 1) ≤ g1 := by omega
theorem vc_X12_tieOf_hit_17 {N f_e0 f_e1 f_ties g1 p1 p2 z416 z427 z439 : Int} (h0 : (21 - z416) < N + 1) (h1 : z416 ≤ g1) (h2 : z416 < f_ties) (h3 : ((2 * z416) = (2 * g1) → z427 = f_e0)) (h4 : ((2 * z416) = ((2 * g1) + 1) → z427 = f_e1)) (h5 : (((2 * z416) + 1) = (2 * g1) → z439 = f_e0)) (h6 : (((2 * z416) + 1) = ((2 * g1) + 1) → z439 = f_e1)) (h7 : (((2 * z416) + 1) = (2 * z416) → z439 = z427)) (h8 : g1 < f_ties) (h9 : (f_e0 = p1 ∧ f_e1 = p2) ∨ (f_e0 = p2 ∧ f_e1 = p1)) (h10 : z427 = p1) (h11 : ¬ z439 = p2) (h12 : z427 = p2) (h13 : ¬ z439 = p1) (h14 : 0 ≤ f_e0 ∧ f_e0 ≤ 9) (h15 : 0 ≤ f_e1 ∧ f_e1 ≤ 9) (h16 : 1 ≤ f_ties ∧ f_ties ≤ 20) (h17 : 0 ≤ g1 ∧ g1 ≤ 19) (h18 : 0 ≤ p1 ∧ p1 ≤ 9) (h19 : 0 ≤ p2 ∧ p2 ≤ 9) (h20 : 0 ≤ z416 ∧ z416 ≤ 19) (h21 : 0 ≤ z427 ∧ z427 ≤ 9) (h22 : 0 ≤ z439 ∧ z439 ≤ 9) : (21 - (z416 + 1)) < N := by omega
theorem vc_X12_tieOf_hit_18 {f_ties g1 : Int} (h0 : g1 < f_ties) (h1 : 1 ≤ f_ties ∧ f_ties ≤ 20) (h2 : 0 ≤ g1 ∧ g1 ≤ 19) : (0 : Int) ≤ g1 := by omega
theorem vc_X12_tieOf_hit_19  : (21 - 0) < ((22 : Nat) : Int) := by omega
set_option maxRecDepth 4000 in
set_option maxHeartbeats 4000000 in
theorem c_X12_tieOf_hit {l : Launch} {D : va_G} {c : Nat → ClassId} {H0 : Heap} {sa : Nat × Nat × (Nat → Int32)} {w : mW} {μ : mM} (hw : mWF w) (hT : mT w μ) {p1 : Int} (hp1 : (-2147483648) ≤ p1 ∧ p1 ≤ 2147483647) {p2 : Int} (hp2 : (-2147483648) ≤ p2 ∧ p2 ≤ 2147483647) {g1 : Int} (hg1 : 0 ≤ g1 ∧ g1 ≤ 19) {f_e0 : Int} (q_f_e0 : μ 110 ((2 * g1).toNat) = f_e0) {f_e1 : Int} (q_f_e1 : μ 110 (((2 * g1) + 1).toNat) = f_e1) {f_ties : Int} (q_f_ties : μ 106 6 = f_ties) (hq0 : g1 < f_ties) (hq1 : (f_e0 = p1 ∧ f_e1 = p2) ∨ (f_e0 = p2 ∧ f_e1 = p1)) : sC (gG l D c H0 sa) mX12_tieOf 1 0 0 [.ref 106, iv p1, iv p2] (mk w μ) (qP w μ (fun z => (0 ≤ z ∧ z ≤ 19) ∧ True)) := by
  refine sC.of rfl (by decide) (le_t rfl) ?_
  have ht_f_e0 : (0 ≤ f_e0 ∧ f_e0 ≤ 9) := by rw [← q_f_e0]; exact hT 110 110 (A_110 hw) ((2 * g1).toNat)
  have ht_f_e1 : (0 ≤ f_e1 ∧ f_e1 ≤ 9) := by rw [← q_f_e1]; exact hT 110 110 (A_110 hw) (((2 * g1) + 1).toNat)
  have ht_f_ties : (0 ≤ f_ties ∧ f_ties ≤ 20) := by rw [← q_f_ties]; exact hT 106 106 (A_106 hw) 6
  have h1 : 1 ≤ f_ties ∧ f_ties ≤ 20 := (vc_X12_tieOf_hit_1 hq0 ht_f_ties hg1)
  refine mr_lvE (lv' := [(0, .ref 106), (1, iv p1), (2, iv p2)]) rfl ?_
  refine mr_iconst (pc := 0) (z := 0) dX12_tieOf_0 ?_
  refine mr_istore_n (pc := 1) (lv' := [(3, iv 0), (0, .ref 106), (1, iv p1), (2, iv p2)]) dX12_tieOf_1 rfl (by decide) rfl ?_
  have L417 : ∀ (nL417 : Nat) (z416 : Int), True → (0 ≤ z416 ∧ z416 ≤ 20) → (z416 ≤ g1) → (21 - z416) < (nL417 : Int) → sV (gG l D c H0 sa) mX12_tieOf (sRm 1 0 0) (sZ (gG l D c H0 sa) 0 0 (qP w μ (fun z => (0 ≤ z ∧ z ≤ 19) ∧ True))) 2 [(0, .ref 106), (1, iv p1), (2, iv p2), (3, iv z416)] [] (mk w μ) 0 0 := by
    intro nL417
    induction nL417 with
    | zero => intro z416 _ h418 h422 h423; exact ((vc_X12_tieOf_hit_2 h423 h422 hq0 h1 hg1 h418)).elim
    | succ nL417 ih424 =>
      intro z416 _ h418 h422 h423
      refine mr_iload_n (pc := 2) (z := z416) dX12_tieOf_2 rfl rfl ?_
      refine sv_aload_n (pc := 3) dX12_tieOf_3 rfl rfl ?_
      refine gk_X12_6 (pc := 4) dX12_tieOf_4 wF_X12_37 (A_106 hw) q_f_ties ?_
      refine mr_icmp_ge (pc := 7) (tgt := 70) dX12_tieOf_7 (by decide) (r32 h418 rfl) (r32 h1 rfl) (fun h => ((vc_X12_tieOf_hit_3 h hq0 h422 h1 hg1 h418)).elim) (fun h425 => ?_)
      have h426 : 0 ≤ z416 ∧ z416 ≤ 19 := (vc_X12_tieOf_hit_4 h425 hq0 h422 h1 hg1 h418)
      refine sv_aload_n (pc := 10) dX12_tieOf_10 rfl rfl ?_
      refine gf_X12_7 (pc := 11) dX12_tieOf_11 wF_X12_40 (A_106 hw) hT ?_
      refine mr_iconst (pc := 14) (z := 2) dX12_tieOf_14 ?_
      refine mr_iload_n (pc := 15) (z := z416) dX12_tieOf_15 rfl rfl ?_
      refine mr_imul (pc := 16) (x := 2) (y := z416) dX12_tieOf_16 ?_
      refine la_110 (pc := 17) dX12_tieOf_17 (A_110 hw) hT (rIx (n := 40) (rMulL (n := 2) (e := 0) (f := 38) h426 rfl) rfl) fun z427 q428 h429 => ?_
      refine mr_iload_n (pc := 18) (z := p1) dX12_tieOf_18 rfl rfl ?_
      refine mr_icmp_ne (pc := 19) (tgt := 36) dX12_tieOf_19 (by decide) (r32 h429 rfl) hp1 (fun h430 => ?_) (fun h430 => ?_)
      · refine sv_aload_n (pc := 36) dX12_tieOf_36 rfl rfl ?_
        refine gf_X12_7 (pc := 37) dX12_tieOf_37 wF_X12_40 (A_106 hw) hT ?_
        refine mr_iconst (pc := 40) (z := 2) dX12_tieOf_40 ?_
        refine mr_iload_n (pc := 41) (z := z416) dX12_tieOf_41 rfl rfl ?_
        refine mr_imul (pc := 42) (x := 2) (y := z416) dX12_tieOf_42 ?_
        refine lk_110 (pc := 43) dX12_tieOf_43 (A_110 hw) (rIx (n := 40) (rMulL (n := 2) (e := 0) (f := 38) h426 rfl) rfl) q428 ?_
        refine mr_iload_n (pc := 44) (z := p2) dX12_tieOf_44 rfl rfl ?_
        refine mr_icmp_ne (pc := 45) (tgt := 64) dX12_tieOf_45 (by decide) (r32 h429 rfl) hp2 (fun h431 => ?_) (fun h431 => ?_)
        · refine mr_iinc (pc := 64) (lv' := [(3, iv (z416 + 1)), (0, .ref 106), (1, iv p1), (2, iv p2)]) dX12_tieOf_64 rfl (by decide) rfl ?_
          refine sv_goto (pc := 67) (tgt := 2) dX12_tieOf_67 (by decide) ?_
          refine mr_lvS (lv' := [(0, .ref 106), (1, iv p1), (2, iv p2), (3, iv (z416 + 1))]) (List.forall_mem_cons.mpr ⟨rfl, List.forall_mem_cons.mpr ⟨rfl, List.forall_mem_cons.mpr ⟨rfl, List.forall_mem_cons.mpr ⟨rfl, fun _ h => absurd h List.not_mem_nil⟩⟩⟩⟩) ?_
          exact ih424 (z416 + 1) trivial (rW (c := 0) (d := 20) (rAdd (e := 1) (f := 20) h426 (rR (x := 1)) rfl) rfl) (vc_X12_tieOf_hit_5 hq0 h422 h425 (cgr q428 q_f_e0) (cgr q428 q_f_e1) hq1 h430 h431 ht_f_e0 ht_f_e1 h1 hg1 hp1 hp2 h426 h429) (vc_X12_tieOf_hit_6 (nS h423) h422 h425 (cgr q428 q_f_e0) (cgr q428 q_f_e1) hq0 hq1 h430 h431 ht_f_e0 ht_f_e1 h1 hg1 hp1 hp2 h426 h429)
        have h432 : 0 ≤ p2 ∧ p2 ≤ 9 := (vc_X12_tieOf_hit_7 h431 hq1 (cgr q428 q_f_e0) (cgr q428 q_f_e1) h430 ht_f_e0 ht_f_e1 hg1 hp1 hp2 h426 h429)
        refine sv_aload_n (pc := 48) dX12_tieOf_48 rfl rfl ?_
        refine gf_X12_7 (pc := 49) dX12_tieOf_49 wF_X12_40 (A_106 hw) hT ?_
        refine mr_iconst (pc := 52) (z := 2) dX12_tieOf_52 ?_
        refine mr_iload_n (pc := 53) (z := z416) dX12_tieOf_53 rfl rfl ?_
        refine mr_imul (pc := 54) (x := 2) (y := z416) dX12_tieOf_54 ?_
        refine mr_iconst (pc := 55) (z := 1) dX12_tieOf_55 ?_
        refine mr_iadd (pc := 56) (x := (2 * z416)) (y := 1) dX12_tieOf_56 ?_
        refine la_110 (pc := 57) dX12_tieOf_57 (A_110 hw) hT (rIx (n := 40) (rAdd (e := 1) (f := 39) (rMulL (n := 2) (e := 0) (f := 38) h426 rfl) (rR (x := 1)) rfl) rfl) fun z433 q434 h435 => ?_
        refine mr_iload_n (pc := 58) (z := p1) dX12_tieOf_58 rfl rfl ?_
        refine mr_icmp_ne (pc := 59) (tgt := 64) dX12_tieOf_59 (by decide) (r32 h435 rfl) hp1 (fun h436 => ?_) (fun h436 => ?_)
        · refine mr_iinc (pc := 64) (lv' := [(3, iv (z416 + 1)), (0, .ref 106), (1, iv p1), (2, iv p2)]) dX12_tieOf_64 rfl (by decide) rfl ?_
          refine sv_goto (pc := 67) (tgt := 2) dX12_tieOf_67 (by decide) ?_
          refine mr_lvS (lv' := [(0, .ref 106), (1, iv p1), (2, iv p2), (3, iv (z416 + 1))]) (List.forall_mem_cons.mpr ⟨rfl, List.forall_mem_cons.mpr ⟨rfl, List.forall_mem_cons.mpr ⟨rfl, List.forall_mem_cons.mpr ⟨rfl, fun _ h => absurd h List.not_mem_nil⟩⟩⟩⟩) ?_
          exact ih424 (z416 + 1) trivial (rW (c := 0) (d := 20) (rAdd (e := 1) (f := 20) h426 (rR (x := 1)) rfl) rfl) (vc_X12_tieOf_hit_8 hq0 h422 h425 (cgr q428 q_f_e0) (cgr q428 q_f_e1) (cgr q434 q_f_e0) (cgr q434 q_f_e1) (cgr q434 q428) hq1 h430 h431 h436 ht_f_e0 ht_f_e1 h1 hg1 hp1 h432 h426 h429 h435) (vc_X12_tieOf_hit_9 (nS h423) h422 h425 (cgr q428 q_f_e0) (cgr q428 q_f_e1) (cgr q434 q_f_e0) (cgr q434 q_f_e1) (cgr q434 q428) hq0 hq1 h430 h431 h436 ht_f_e0 ht_f_e1 h1 hg1 hp1 h432 h426 h429 h435)
        have h437 : 0 ≤ p1 ∧ p1 ≤ 9 := (vc_X12_tieOf_hit_10 h436 hq1 h430 (cgr q434 q_f_e0) (cgr q434 q_f_e1) (cgr q434 q428) ht_f_e0 ht_f_e1 hg1 hp1 h432 h426 h429 h435)
        refine mr_iload_n (pc := 62) (z := z416) dX12_tieOf_62 rfl rfl ?_
        exact mr_iretP dX12_tieOf_63 rfl (le_t rfl) (le_t rfl) ⟨h426, trivial⟩
      have h438 : 0 ≤ p1 ∧ p1 ≤ 9 := (vc_X12_tieOf_hit_11 h430 hq1 (cgr q428 q_f_e0) (cgr q428 q_f_e1) ht_f_e0 ht_f_e1 hg1 hp1 hp2 h426 h429)
      refine sv_aload_n (pc := 22) dX12_tieOf_22 rfl rfl ?_
      refine gf_X12_7 (pc := 23) dX12_tieOf_23 wF_X12_40 (A_106 hw) hT ?_
      refine mr_iconst (pc := 26) (z := 2) dX12_tieOf_26 ?_
      refine mr_iload_n (pc := 27) (z := z416) dX12_tieOf_27 rfl rfl ?_
      refine mr_imul (pc := 28) (x := 2) (y := z416) dX12_tieOf_28 ?_
      refine mr_iconst (pc := 29) (z := 1) dX12_tieOf_29 ?_
      refine mr_iadd (pc := 30) (x := (2 * z416)) (y := 1) dX12_tieOf_30 ?_
      refine la_110 (pc := 31) dX12_tieOf_31 (A_110 hw) hT (rIx (n := 40) (rAdd (e := 1) (f := 39) (rMulL (n := 2) (e := 0) (f := 38) h426 rfl) (rR (x := 1)) rfl) rfl) fun z439 q440 h441 => ?_
      refine mr_iload_n (pc := 32) (z := p2) dX12_tieOf_32 rfl rfl ?_
      refine mr_icmp_eq (pc := 33) (tgt := 62) dX12_tieOf_33 (by decide) (r32 h441 rfl) hp2 (fun h442 => ?_) (fun h442 => ?_)
      · have h443 : 0 ≤ p2 ∧ p2 ≤ 9 := (vc_X12_tieOf_hit_12 h442 hq1 (cgr q440 q_f_e0) (cgr q440 q_f_e1) (cgr q440 q428) ht_f_e0 ht_f_e1 hg1 h438 hp2 h426 h429 h441)
        refine mr_iload_n (pc := 62) (z := z416) dX12_tieOf_62 rfl rfl ?_
        exact mr_iretP dX12_tieOf_63 rfl (le_t rfl) (le_t rfl) ⟨h426, trivial⟩
      refine sv_aload_n (pc := 36) dX12_tieOf_36 rfl rfl ?_
      refine gf_X12_7 (pc := 37) dX12_tieOf_37 wF_X12_40 (A_106 hw) hT ?_
      refine mr_iconst (pc := 40) (z := 2) dX12_tieOf_40 ?_
      refine mr_iload_n (pc := 41) (z := z416) dX12_tieOf_41 rfl rfl ?_
      refine mr_imul (pc := 42) (x := 2) (y := z416) dX12_tieOf_42 ?_
      refine lk_110 (pc := 43) dX12_tieOf_43 (A_110 hw) (rIx (n := 40) (rMulL (n := 2) (e := 0) (f := 38) h426 rfl) rfl) q428 ?_
      refine mr_iload_n (pc := 44) (z := p2) dX12_tieOf_44 rfl rfl ?_
      refine mr_icmp_ne (pc := 45) (tgt := 64) dX12_tieOf_45 (by decide) (r32 h429 rfl) hp2 (fun h444 => ?_) (fun h444 => ?_)
      · refine mr_iinc (pc := 64) (lv' := [(3, iv (z416 + 1)), (0, .ref 106), (1, iv p1), (2, iv p2)]) dX12_tieOf_64 rfl (by decide) rfl ?_
        refine sv_goto (pc := 67) (tgt := 2) dX12_tieOf_67 (by decide) ?_
        refine mr_lvS (lv' := [(0, .ref 106), (1, iv p1), (2, iv p2), (3, iv (z416 + 1))]) (List.forall_mem_cons.mpr ⟨rfl, List.forall_mem_cons.mpr ⟨rfl, List.forall_mem_cons.mpr ⟨rfl, List.forall_mem_cons.mpr ⟨rfl, fun _ h => absurd h List.not_mem_nil⟩⟩⟩⟩) ?_
        exact ih424 (z416 + 1) trivial (rW (c := 0) (d := 20) (rAdd (e := 1) (f := 20) h426 (rR (x := 1)) rfl) rfl) (vc_X12_tieOf_hit_13 hq0 h422 h425 (cgr q428 q_f_e0) (cgr q428 q_f_e1) (cgr q440 q_f_e0) (cgr q440 q_f_e1) (cgr q440 q428) hq1 h430 h442 h444 ht_f_e0 ht_f_e1 h1 hg1 h438 hp2 h426 h429 h441) (vc_X12_tieOf_hit_14 (nS h423) h422 h425 (cgr q428 q_f_e0) (cgr q428 q_f_e1) (cgr q440 q_f_e0) (cgr q440 q_f_e1) (cgr q440 q428) hq0 hq1 h430 h442 h444 ht_f_e0 ht_f_e1 h1 hg1 h438 hp2 h426 h429 h441)
      have h445 : 0 ≤ p2 ∧ p2 ≤ 9 := (vc_X12_tieOf_hit_15 h444 hq1 (cgr q428 q_f_e0) (cgr q428 q_f_e1) h430 (cgr q440 q428) h442 ht_f_e0 ht_f_e1 hg1 h438 hp2 h426 h429 h441)
      refine sv_aload_n (pc := 48) dX12_tieOf_48 rfl rfl ?_
      refine gf_X12_7 (pc := 49) dX12_tieOf_49 wF_X12_40 (A_106 hw) hT ?_
      refine mr_iconst (pc := 52) (z := 2) dX12_tieOf_52 ?_
      refine mr_iload_n (pc := 53) (z := z416) dX12_tieOf_53 rfl rfl ?_
      refine mr_imul (pc := 54) (x := 2) (y := z416) dX12_tieOf_54 ?_
      refine mr_iconst (pc := 55) (z := 1) dX12_tieOf_55 ?_
      refine mr_iadd (pc := 56) (x := (2 * z416)) (y := 1) dX12_tieOf_56 ?_
      refine lk_110 (pc := 57) dX12_tieOf_57 (A_110 hw) (rIx (n := 40) (rAdd (e := 1) (f := 39) (rMulL (n := 2) (e := 0) (f := 38) h426 rfl) (rR (x := 1)) rfl) rfl) q440 ?_
      refine mr_iload_n (pc := 58) (z := p1) dX12_tieOf_58 rfl rfl ?_
      refine mr_icmp_ne (pc := 59) (tgt := 64) dX12_tieOf_59 (by decide) (r32 h441 rfl) (r32 h438 rfl) (fun h446 => ?_) (fun h446 => ?_)
      · refine mr_iinc (pc := 64) (lv' := [(3, iv (z416 + 1)), (0, .ref 106), (1, iv p1), (2, iv p2)]) dX12_tieOf_64 rfl (by decide) rfl ?_
        refine sv_goto (pc := 67) (tgt := 2) dX12_tieOf_67 (by decide) ?_
        refine mr_lvS (lv' := [(0, .ref 106), (1, iv p1), (2, iv p2), (3, iv (z416 + 1))]) (List.forall_mem_cons.mpr ⟨rfl, List.forall_mem_cons.mpr ⟨rfl, List.forall_mem_cons.mpr ⟨rfl, List.forall_mem_cons.mpr ⟨rfl, fun _ h => absurd h List.not_mem_nil⟩⟩⟩⟩) ?_
        exact ih424 (z416 + 1) trivial (rW (c := 0) (d := 20) (rAdd (e := 1) (f := 20) h426 (rR (x := 1)) rfl) rfl) (vc_X12_tieOf_hit_16 hq0 h422 h425 (cgr q428 q_f_e0) (cgr q428 q_f_e1) (cgr q440 q_f_e0) (cgr q440 q_f_e1) (cgr q440 q428) hq1 h430 h442 h444 h446 ht_f_e0 ht_f_e1 h1 hg1 h438 h445 h426 h429 h441) (vc_X12_tieOf_hit_17 (nS h423) h422 h425 (cgr q428 q_f_e0) (cgr q428 q_f_e1) (cgr q440 q_f_e0) (cgr q440 q_f_e1) (cgr q440 q428) hq0 hq1 h430 h442 h444 h446 ht_f_e0 ht_f_e1 h1 hg1 h438 h445 h426 h429 h441)
      refine mr_iload_n (pc := 62) (z := z416) dX12_tieOf_62 rfl rfl ?_
      exact mr_iretP dX12_tieOf_63 rfl (le_t rfl) (le_t rfl) ⟨h426, trivial⟩
  refine mr_lvS (lv' := [(0, .ref 106), (1, iv p1), (2, iv p2), (3, iv 0)]) (List.forall_mem_cons.mpr ⟨rfl, List.forall_mem_cons.mpr ⟨rfl, List.forall_mem_cons.mpr ⟨rfl, List.forall_mem_cons.mpr ⟨rfl, fun _ h => absurd h List.not_mem_nil⟩⟩⟩⟩) ?_
  exact L417 22 0 trivial (rW (c := 0) (d := 20) (rR (x := 0)) rfl) (vc_X12_tieOf_hit_18 hq0 h1 hg1) vc_X12_tieOf_hit_19
theorem vc_X12_tieWord_1 {f_ties g1 : Int} (h0 : g1 < f_ties) (h1 : 0 ≤ f_ties ∧ f_ties ≤ 20) (h2 : 0 ≤ g1 ∧ g1 ≤ 19) : 1 ≤ f_ties ∧ f_ties ≤ 20 := by omega
theorem vc_X12_tieWord_2 {f_ties g1 : Int} (h0 : g1 < f_ties) (h1 : 1 ≤ f_ties ∧ f_ties ≤ 20) (h2 : 0 ≤ g1 ∧ g1 ≤ 19) : g1 < f_ties := by omega
theorem vc_X12_tieWord_3 {f_e0 f_e1 p1 p2 : Int} (h0 : (f_e0 = p1 ∧ f_e1 = p2) ∨ (f_e0 = p2 ∧ f_e1 = p1)) (h1 : 0 ≤ f_e0 ∧ f_e0 ≤ 9) (h2 : 0 ≤ f_e1 ∧ f_e1 ≤ 9) (h3 : (-2147483648) ≤ p1 ∧ p1 ≤ 2147483647) (h4 : (-2147483648) ≤ p2 ∧ p2 ≤ 2147483647) : (f_e0 = p1 ∧ f_e1 = p2) ∨ (f_e0 = p2 ∧ f_e1 = p1) := by omega
theorem vc_X12_tieWord_4 {z52 : Int} (h0 : ¬ z52 = 2) (h1 : ¬ z52 = 1) (h2 : 0 ≤ z52 ∧ z52 ≤ 2) : 0 ≤ z52 ∧ z52 ≤ 1 := by omega
theorem vc_X12_tieWord_5 {f_e0 f_e1 p1 p2 z58 : Int} (h0 : z58 = p1) (h1 : (f_e0 = p1 ∧ f_e1 = p2) ∨ (f_e0 = p2 ∧ f_e1 = p1)) (h2 : 0 ≤ f_e0 ∧ f_e0 ≤ 9) (h3 : 0 ≤ f_e1 ∧ f_e1 ≤ 9) (h4 : (-2147483648) ≤ p1 ∧ p1 ≤ 2147483647) (h5 : (-2147483648) ≤ p2 ∧ p2 ≤ 2147483647) (h6 : 0 ≤ z58 ∧ z58 ≤ 9) : 0 ≤ p1 ∧ p1 ≤ 9 := by omega
theorem vc_X12_tieWord_6 {z52 : Int} (h0 : z52 = 2) (h1 : ¬ z52 = 1) (h2 : 0 ≤ z52 ∧ z52 ≤ 2) : 2 ≤ z52 ∧ z52 ≤ 2 := by omega
theorem vc_X12_tieWord_7 {z52 : Int} (h0 : z52 = 1) (h1 : 0 ≤ z52 ∧ z52 ≤ 2) : 1 ≤ z52 ∧ z52 ≤ 1 := by omega
set_option maxRecDepth 4000 in
set_option maxHeartbeats 4000000 in
theorem c_X12_tieWord {l : Launch} {D : va_G} {c : Nat → ClassId} {H0 : Heap} {sa : Nat × Nat × (Nat → Int32)} {w : mW} {μ : mM} (hw : mWF w) (hT : mT w μ) {p1 : Int} (hp1 : (-2147483648) ≤ p1 ∧ p1 ≤ 2147483647) {p2 : Int} (hp2 : (-2147483648) ≤ p2 ∧ p2 ≤ 2147483647) {g1 : Int} (hg1 : 0 ≤ g1 ∧ g1 ≤ 19) {f_e0 : Int} (q_f_e0 : μ 110 ((2 * g1).toNat) = f_e0) {f_e1 : Int} (q_f_e1 : μ 110 (((2 * g1) + 1).toNat) = f_e1) {f_ties : Int} (q_f_ties : μ 106 6 = f_ties) (hq0 : g1 < f_ties) (hq1 : (f_e0 = p1 ∧ f_e1 = p2) ∨ (f_e0 = p2 ∧ f_e1 = p1)) : sC (gG l D c H0 sa) mX12_tieWord 2 0 0 [.ref 106, iv p1, iv p2] (mk w μ) (qP w μ (fun z => (16 ≤ z ∧ z ≤ 19) ∧ True)) := by
  refine sC.of rfl (by decide) (le_t rfl) ?_
  have ht_f_e0 : (0 ≤ f_e0 ∧ f_e0 ≤ 9) := by rw [← q_f_e0]; exact hT 110 110 (A_110 hw) ((2 * g1).toNat)
  have ht_f_e1 : (0 ≤ f_e1 ∧ f_e1 ≤ 9) := by rw [← q_f_e1]; exact hT 110 110 (A_110 hw) (((2 * g1) + 1).toNat)
  have ht_f_ties : (0 ≤ f_ties ∧ f_ties ≤ 20) := by rw [← q_f_ties]; exact hT 106 106 (A_106 hw) 6
  have h1 : 1 ≤ f_ties ∧ f_ties ≤ 20 := (vc_X12_tieWord_1 hq0 ht_f_ties hg1)
  refine mr_lvE (lv' := [(0, .ref 106), (1, iv p1), (2, iv p2)]) rfl ?_
  refine sv_aload_n (pc := 0) dX12_tieWord_0 rfl rfl ?_
  refine mr_iload_n (pc := 1) (z := p1) dX12_tieWord_1 rfl rfl ?_
  refine mr_iload_n (pc := 2) (z := p2) dX12_tieWord_2 rfl rfl ?_
  refine mr_cVP (pc := 3) (c_X12_tieOf_hit hw hT hp1 hp2 hg1 q_f_e0 q_f_e1 q_f_ties (vc_X12_tieWord_2 hq0 h1 hg1) (vc_X12_tieWord_3 hq1 ht_f_e0 ht_f_e1 hp1 hp2)) (gOk _ _ _ _ _) dX12_tieWord_3 (tX12_tieOf _ _ _ _ _) ⟨wV_X12_tieOf, wL_X12_tieOf⟩ wM_X12_43 (gCX12 _ _ _ _ _) rfl (A_106 hw) rfl ⟨le_t rfl, le_t rfl⟩ ⟨le_t rfl, le_t rfl⟩ rfl (le_t rfl) fun z51 h50 => ?_
  refine mr_istore_n (pc := 6) (lv' := [(3, iv z51), (0, .ref 106), (1, iv p1), (2, iv p2)]) dX12_tieWord_6 rfl (by decide) rfl ?_
  refine sv_aload_n (pc := 7) dX12_tieWord_7 rfl rfl ?_
  refine gf_X12_8 (pc := 8) dX12_tieWord_8 wF_X12_46 (A_106 hw) hT ?_
  refine mr_iload_n (pc := 11) (z := z51) dX12_tieWord_11 rfl rfl ?_
  refine la_111 (pc := 12) dX12_tieWord_12 (A_111 hw) hT (rIx (n := 20) h50.1 rfl) fun z52 q53 h54 => ?_
  refine mr_iconst (pc := 13) (z := 1) dX12_tieWord_13 ?_
  refine mr_icmp_ne (pc := 14) (tgt := 20) dX12_tieWord_14 (by decide) (r32 h54 rfl) (r32 (rR (x := 1)) rfl) (fun h55 => ?_) (fun h55 => ?_)
  · refine sv_aload_n (pc := 20) dX12_tieWord_20 rfl rfl ?_
    refine gf_X12_8 (pc := 21) dX12_tieWord_21 wF_X12_46 (A_106 hw) hT ?_
    refine mr_iload_n (pc := 24) (z := z51) dX12_tieWord_24 rfl rfl ?_
    refine lk_111 (pc := 25) dX12_tieWord_25 (A_111 hw) (rIx (n := 20) h50.1 rfl) q53 ?_
    refine mr_iconst (pc := 26) (z := 2) dX12_tieWord_26 ?_
    refine mr_icmp_ne (pc := 27) (tgt := 33) dX12_tieWord_27 (by decide) (r32 h54 rfl) (r32 (rR (x := 2)) rfl) (fun h56 => ?_) (fun h56 => ?_)
    · have h57 : 0 ≤ z52 ∧ z52 ≤ 1 := (vc_X12_tieWord_4 h56 h55 h54)
      refine sv_aload_n (pc := 33) dX12_tieWord_33 rfl rfl ?_
      refine gf_X12_7 (pc := 34) dX12_tieWord_34 wF_X12_40 (A_106 hw) hT ?_
      refine mr_iconst (pc := 37) (z := 2) dX12_tieWord_37 ?_
      refine mr_iload_n (pc := 38) (z := z51) dX12_tieWord_38 rfl rfl ?_
      refine mr_imul (pc := 39) (x := 2) (y := z51) dX12_tieWord_39 ?_
      refine la_110 (pc := 40) dX12_tieWord_40 (A_110 hw) hT (rIx (n := 40) (rMulL (n := 2) (e := 0) (f := 38) h50.1 rfl) rfl) fun z58 q59 h60 => ?_
      refine mr_iload_n (pc := 41) (z := p1) dX12_tieWord_41 rfl rfl ?_
      refine mr_icmp_ne (pc := 42) (tgt := 50) dX12_tieWord_42 (by decide) (r32 h60 rfl) hp1 (fun h62 => ?_) (fun h62 => ?_)
      · refine mr_bipush (pc := 50) (z := 17) dX12_tieWord_50 (by decide) ?_
        exact mr_iretP dX12_tieWord_52 rfl (le_t rfl) (le_t rfl) ⟨(rW (c := 16) (d := 19) (rR (x := 17)) rfl), trivial⟩
      have h63 : 0 ≤ p1 ∧ p1 ≤ 9 := (vc_X12_tieWord_5 h62 hq1 ht_f_e0 ht_f_e1 hp1 hp2 h60)
      refine mr_bipush (pc := 45) (z := 16) dX12_tieWord_45 (by decide) ?_
      refine sv_goto (pc := 47) (tgt := 52) dX12_tieWord_47 (by decide) ?_
      exact mr_iretP dX12_tieWord_52 rfl (le_t rfl) (le_t rfl) ⟨(rW (c := 16) (d := 19) (rR (x := 16)) rfl), trivial⟩
    have h64 : 2 ≤ z52 ∧ z52 ≤ 2 := (vc_X12_tieWord_6 h56 h55 h54)
    refine mr_bipush (pc := 30) (z := 19) dX12_tieWord_30 (by decide) ?_
    exact mr_iretP dX12_tieWord_32 rfl (le_t rfl) (le_t rfl) ⟨(rW (c := 16) (d := 19) (rR (x := 19)) rfl), trivial⟩
  have h65 : 1 ≤ z52 ∧ z52 ≤ 1 := (vc_X12_tieWord_7 h55 h54)
  refine mr_bipush (pc := 17) (z := 18) dX12_tieWord_17 (by decide) ?_
  exact mr_iretP dX12_tieWord_19 rfl (le_t rfl) (le_t rfl) ⟨(rW (c := 16) (d := 19) (rR (x := 18)) rfl), trivial⟩
theorem vc_X12_isSo_1 {p3 : Int} (h0 : 0 ≤ p3 ∧ p3 ≤ 2099) : 0 ≤ (40 * p3) := by omega
theorem vc_X12_isSo_2 {p3 : Int} (h0 : 0 ≤ p3 ∧ p3 ≤ 2099) : (40 * p3) % 40 = 0 := by omega
theorem vc_X12_isSo_3 {f_ties g1 : Int} (h0 : g1 < f_ties) (h1 : 0 ≤ f_ties ∧ f_ties ≤ 20) (h2 : 0 ≤ g1 ∧ g1 ≤ 19) : 1 ≤ f_ties ∧ f_ties ≤ 20 := by omega
theorem vc_X12_isSo_4 {f_x : Int} (h0 : 0 ≤ f_x) (h1 : (-1) ≤ f_x ∧ f_x ≤ 9) : 0 ≤ f_x ∧ f_x ≤ 9 := by omega
theorem vc_X12_isSo_5 {p3 : Int} (h0 : 0 ≤ p3 ∧ p3 ≤ 2099) : ((40 * p3) + 4) % 40 = 4 := by omega
theorem vc_X12_isSo_6 {z610 : Int} (h0 : ¬ z610 = 2) (h1 : ¬ z610 = 1) (h2 : 0 ≤ z610 ∧ z610 ≤ 2) : 0 ≤ z610 ∧ z610 ≤ 1 := by omega
theorem vc_X12_isSo_7 {z611 : Int} (h0 : z611 = 22) (h1 : (-2147483648) ≤ z611 ∧ z611 ≤ 2147483647) : 22 ≤ z611 ∧ z611 ≤ 22 := by omega
theorem vc_X12_isSo_8 {z610 : Int} (h0 : z610 = 2) (h1 : ¬ z610 = 1) (h2 : 0 ≤ z610 ∧ z610 ≤ 2) : 2 ≤ z610 ∧ z610 ≤ 2 := by omega
theorem vc_X12_isSo_9 {z611 : Int} (h0 : z611 = 21) (h1 : (-2147483648) ≤ z611 ∧ z611 ≤ 2147483647) : 21 ≤ z611 ∧ z611 ≤ 21 := by omega
theorem vc_X12_isSo_10 {z610 : Int} (h0 : z610 = 1) (h1 : 0 ≤ z610 ∧ z610 ≤ 2) : 1 ≤ z610 ∧ z610 ≤ 1 := by omega
theorem vc_X12_isSo_11 {z611 : Int} (h0 : z611 = 20) (h1 : (-2147483648) ≤ z611 ∧ z611 ≤ 2147483647) : 20 ≤ z611 ∧ z611 ≤ 20 := by omega
theorem vc_X12_isSo_12 {z439 : Int} (h0 : ¬ z439 = 0) (h1 : 0 ≤ z439 ∧ z439 ≤ 20) : 1 ≤ z439 ∧ z439 ≤ 20 := by omega
theorem vc_X12_isSo_13 {z439 : Int} (h0 : z439 = 0) (h1 : 0 ≤ z439 ∧ z439 ≤ 20) : 0 ≤ z439 ∧ z439 ≤ 0 := by omega
theorem vc_X12_isSo_14 {z443 : Int} (h0 : z443 = 14) (h1 : ¬ z443 = 6) (h2 : ¬ z443 = 8) (h3 : ¬ z443 = 9) (h4 : ¬ z443 = 10) (h5 : ¬ z443 = 11) (h6 : ¬ z443 = 12) (h7 : ¬ z443 = 13) (h8 : (-2147483648) ≤ z443 ∧ z443 ≤ 2147483647) : 14 ≤ z443 ∧ z443 ≤ 14 := by omega
theorem vc_X12_isSo_15 {z443 : Int} (h0 : z443 = 13) (h1 : ¬ z443 = 4) (h2 : ¬ z443 = 6) (h3 : ¬ z443 = 8) (h4 : ¬ z443 = 9) (h5 : ¬ z443 = 10) (h6 : ¬ z443 = 11) (h7 : ¬ z443 = 12) (h8 : (-2147483648) ≤ z443 ∧ z443 ≤ 2147483647) : 13 ≤ z443 ∧ z443 ≤ 13 := by omega
theorem vc_X12_isSo_16 {z443 : Int} (h0 : z443 = 12) (h1 : ¬ z443 = 4) (h2 : ¬ z443 = 6) (h3 : ¬ z443 = 8) (h4 : ¬ z443 = 9) (h5 : ¬ z443 = 10) (h6 : ¬ z443 = 11) (h7 : (-2147483648) ≤ z443 ∧ z443 ≤ 2147483647) : 12 ≤ z443 ∧ z443 ≤ 12 := by omega
theorem vc_X12_isSo_17 {z443 : Int} (h0 : z443 = 11) (h1 : ¬ z443 = 4) (h2 : ¬ z443 = 6) (h3 : ¬ z443 = 8) (h4 : ¬ z443 = 9) (h5 : ¬ z443 = 10) (h6 : (-2147483648) ≤ z443 ∧ z443 ≤ 2147483647) : 11 ≤ z443 ∧ z443 ≤ 11 := by omega
theorem vc_X12_isSo_18 {z443 : Int} (h0 : z443 = 10) (h1 : ¬ z443 = 4) (h2 : ¬ z443 = 6) (h3 : ¬ z443 = 8) (h4 : ¬ z443 = 9) (h5 : (-2147483648) ≤ z443 ∧ z443 ≤ 2147483647) : 10 ≤ z443 ∧ z443 ≤ 10 := by omega
theorem vc_X12_isSo_19 {f_ties g1 : Int} (h0 : g1 < f_ties) (h1 : 1 ≤ f_ties ∧ f_ties ≤ 20) (h2 : 0 ≤ g1 ∧ g1 ≤ 19) : g1 < f_ties := by omega
theorem vc_X12_isSo_20 {f_e0 f_e1 p4 p5 : Int} (h0 : (f_e0 = p4 ∧ f_e1 = p5) ∨ (f_e0 = p5 ∧ f_e1 = p4)) (h1 : 0 ≤ f_e0 ∧ f_e0 ≤ 9) (h2 : 0 ≤ f_e1 ∧ f_e1 ≤ 9) (h3 : (-2147483648) ≤ p4 ∧ p4 ≤ 2147483647) (h4 : (-2147483648) ≤ p5 ∧ p5 ≤ 2147483647) : (f_e0 = p4 ∧ f_e1 = p5) ∨ (f_e0 = p5 ∧ f_e1 = p4) := by omega
theorem vc_X12_isSo_21 {z694 z695 : Int} (h0 : z694 = z695) (h1 : 16 ≤ z694 ∧ z694 ≤ 19) (h2 : (-2147483648) ≤ z695 ∧ z695 ≤ 2147483647) : 16 ≤ z695 ∧ z695 ≤ 19 := by omega
theorem vc_X12_isSo_22 {z443 : Int} (h0 : z443 = 9) (h1 : ¬ z443 = 4) (h2 : ¬ z443 = 6) (h3 : ¬ z443 = 8) (h4 : (-2147483648) ≤ z443 ∧ z443 ≤ 2147483647) : 9 ≤ z443 ∧ z443 ≤ 9 := by omega
theorem vc_X12_isSo_23 {z443 : Int} (h0 : z443 = 8) (h1 : ¬ z443 = 4) (h2 : ¬ z443 = 6) (h3 : (-2147483648) ≤ z443 ∧ z443 ≤ 2147483647) : 8 ≤ z443 ∧ z443 ≤ 8 := by omega
theorem vc_X12_isSo_24 {z443 : Int} (h0 : z443 = 6) (h1 : ¬ z443 = 4) (h2 : (-2147483648) ≤ z443 ∧ z443 ≤ 2147483647) : 6 ≤ z443 ∧ z443 ≤ 6 := by omega
theorem vc_X12_isSo_25 {z443 : Int} (h0 : z443 = 4) (h1 : (-2147483648) ≤ z443 ∧ z443 ≤ 2147483647) : 4 ≤ z443 ∧ z443 ≤ 4 := by omega
theorem vc_X12_isSo_26 {z722 z725 : Int} (h0 : z722 < z725) (h1 : 0 ≤ z722 ∧ z722 ≤ 32) (h2 : (-2147483648) ≤ z725 ∧ z725 ≤ 2147483647) : 1 ≤ z725 ∧ z725 ≤ 2147483647 := by omega
theorem vc_X12_isSo_27 {z722 z725 : Int} (h0 : z725 ≤ z722) (h1 : 0 ≤ z722 ∧ z722 ≤ 32) (h2 : (-2147483648) ≤ z725 ∧ z725 ≤ 2147483647) : (-2147483648) ≤ z725 ∧ z725 ≤ 32 := by omega
theorem vc_X12_isSo_28 {z761 : Int} (h0 : z761 = 0) (h1 : 0 ≤ z761 ∧ z761 ≤ 1) : 0 ≤ z761 ∧ z761 ≤ 0 := by omega
theorem vc_X12_isSo_29 {z761 : Int} (h0 : ¬ z761 = 0) (h1 : 0 ≤ z761 ∧ z761 ≤ 1) : 1 ≤ z761 ∧ z761 ≤ 1 := by omega
theorem vc_X12_isSo_30 {z722 z725 z772 : Int} (h0 : z772 < z722) (h1 : z725 ≤ z722) (h2 : 0 ≤ z722 ∧ z722 ≤ 32) (h3 : (-2147483648) ≤ z725 ∧ z725 ≤ 32) (h4 : (-2147483648) ≤ z772 ∧ z772 ≤ 2147483647) : (-2147483648) ≤ z772 ∧ z772 ≤ 31 := by omega
theorem vc_X12_isSo_31 {z722 z725 z772 : Int} (h0 : z722 ≤ z772) (h1 : z725 ≤ z722) (h2 : 0 ≤ z722 ∧ z722 ≤ 32) (h3 : (-2147483648) ≤ z725 ∧ z725 ≤ 32) (h4 : (-2147483648) ≤ z772 ∧ z772 ≤ 2147483647) : 0 ≤ z772 ∧ z772 ≤ 2147483647 := by omega
theorem vc_X12_through_1 {p2 : Int} (h0 : 0 ≤ p2 ∧ p2 ≤ 2099) : 0 ≤ (40 * p2) := by omega
theorem vc_X12_through_2 {p2 : Int} (h0 : 0 ≤ p2 ∧ p2 ≤ 2099) : (40 * p2) % 40 = 0 := by omega
theorem vc_X12_through_3 {f_ties g1 : Int} (h0 : g1 < f_ties) (h1 : 0 ≤ f_ties ∧ f_ties ≤ 20) (h2 : 0 ≤ g1 ∧ g1 ≤ 19) : 1 ≤ f_ties ∧ f_ties ≤ 20 := by omega
theorem vc_X12_through_4 {f_x : Int} (h0 : 0 ≤ f_x) (h1 : (-1) ≤ f_x ∧ f_x ≤ 9) : 0 ≤ f_x ∧ f_x ≤ 9 := by omega
theorem vc_X12_through_5 {f_pol p1 : Int} (h0 : p1 = -99999999 ∨ (0 ≤ p1 ∧ p1 < f_pol)) (h1 : ¬ p1 = (-99999999)) (h2 : 0 ≤ f_pol ∧ f_pol ≤ 12) (h3 : (-2147483648) ≤ p1 ∧ p1 ≤ 2147483647) : 0 ≤ p1 ∧ p1 ≤ 11 := by omega
theorem vc_X12_through_6  : (0 : Int) ≤ ((0 : Int) : Int) := by omega
theorem vc_X12_through_7 {f_pol p1 : Int} (h0 : p1 = -99999999 ∨ (0 ≤ p1 ∧ p1 < f_pol)) (h1 : ¬ p1 = (-99999999)) (h2 : 0 ≤ f_pol ∧ f_pol ≤ 12) (h3 : (-2147483648) ≤ p1 ∧ p1 ≤ 2147483647) : 0 ≤ p1 ∧ p1 < f_pol ∧ p1 + (0 : Int) ≤ 11 := by omega
theorem vc_X12_through_8 {z17646 : Int} (h0 : 0 ≤ z17646 ∧ z17646 ≤ 30) : 0 ≤ z17646 := by omega
theorem vc_X12_through_9 {f_R z31894 z31895 : Int} (h0 : (((100 * (501 - z31894)) + (34 * z31895)) - f_R) < ((0 : Nat) : Int)) (h1 : (-1) ≤ f_R ∧ f_R ≤ 30) (h2 : 0 ≤ z31894 ∧ z31894 ≤ 500) (h3 : 0 ≤ z31895 ∧ z31895 ≤ 12) : False := by omega
theorem vc_X12_through_10 {z31895 : Int} (h0 : z31895 ≤ 0) (h1 : 0 ≤ z31895 ∧ z31895 ≤ 12) : 0 ≤ z31895 ∧ z31895 ≤ 0 := by omega
theorem vc_X12_through_11 {p2 : Int} (h0 : 0 ≤ p2 ∧ p2 ≤ 2099) : ((40 * p2) + 1) ≤ ((40 * p2) + 1) ∧ ((40 * p2) + 40) ≤ ((40 * p2) + 40) := by omega
theorem vc_X12_through_12 {f_x f_y : Int} (h0 : 0 ≤ f_x) (h1 : f_y = f_x) (h2 : 0 ≤ f_x ∧ f_x ≤ 9) (h3 : (-1) ≤ f_y ∧ f_y ≤ 9) : f_y = f_x := by omega
theorem vc_X12_through_13 {z31895 : Int} (h0 : 0 < z31895) (h1 : 0 ≤ z31895 ∧ z31895 ≤ 12) : 1 ≤ z31895 ∧ z31895 ≤ 12 := by omega
theorem vc_X12_through_14 {z31895 : Int} (h0 : 0 < z31895) (h1 : 1 ≤ z31895 ∧ z31895 ≤ 12) : 0 ≤ (z31895 - 1) ∧ (z31895 - 1) < z31895 := by omega
theorem vc_X12_through_15 {f_pol p1 z31895 z31916 : Int} (h0 : 0 < z31895) (h1 : 0 ≤ z31916 ∧ z31916 < f_pol ∧ z31916 + (z31895 - 1) ≤ 11) (h2 : p1 = -99999999 ∨ (0 ≤ p1 ∧ p1 < f_pol)) (h3 : 0 ≤ f_pol ∧ f_pol ≤ 12) (h4 : (-2147483648) ≤ p1 ∧ p1 ≤ 2147483647) (h5 : 1 ≤ z31895 ∧ z31895 ≤ 12) (h6 : 0 ≤ z31916 ∧ z31916 ≤ 11) : 0 ≤ (z31895 - 1) ∧ (z31895 - 1) < z31895 := by omega
theorem vc_X12_through_16 {f_pol p1 z31895 z31916 : Int} (h0 : 0 < z31895) (h1 : 0 ≤ z31916 ∧ z31916 < f_pol ∧ z31916 + (z31895 - 1) ≤ 11) (h2 : p1 = -99999999 ∨ (0 ≤ p1 ∧ p1 < f_pol)) (h3 : 0 ≤ f_pol ∧ f_pol ≤ 12) (h4 : (-2147483648) ≤ p1 ∧ p1 ≤ 2147483647) (h5 : 1 ≤ z31895 ∧ z31895 ≤ 12) (h6 : 0 ≤ z31916 ∧ z31916 ≤ 11) : ¬ z31895 = 0 := by omega
theorem vc_X12_through_17 {f_pol p1 z31895 z31916 : Int} (h0 : 0 < z31895) (h1 : 0 ≤ z31916 ∧ z31916 < f_pol ∧ z31916 + (z31895 - 1) ≤ 11) (h2 : p1 = -99999999 ∨ (0 ≤ p1 ∧ p1 < f_pol)) (h3 : 0 ≤ f_pol ∧ f_pol ≤ 12) (h4 : (-2147483648) ≤ p1 ∧ p1 ≤ 2147483647) (h5 : 1 ≤ z31895 ∧ z31895 ≤ 12) (h6 : 0 ≤ z31916 ∧ z31916 ≤ 11) : (z31895 - 1) = z31895 - 1 := by omega
theorem vc_X12_through_18 {f_R z31920 z31923 : Int} (h0 : z31920 < z31923) (h1 : z31920 < z31923 ∧ z31920 = f_R) (h2 : (-1) ≤ f_R ∧ f_R ≤ 30) (h3 : (-1) ≤ z31920 ∧ z31920 ≤ 30) (h4 : 0 ≤ z31923 ∧ z31923 ≤ 30) : (-1) ≤ z31920 ∧ z31920 ≤ 29 := by omega
theorem vc_X12_through_19 {f_R z31920 z31923 : Int} (h0 : z31920 < 0) (h1 : z31920 < z31923 ∧ z31920 = f_R) (h2 : z31920 < z31923) (h3 : (-1) ≤ f_R ∧ f_R ≤ 30) (h4 : (-1) ≤ z31920 ∧ z31920 ≤ 29) (h5 : 0 ≤ z31923 ∧ z31923 ≤ 30) : (-1) ≤ z31920 ∧ z31920 ≤ (-1) := by omega
theorem vc_X12_through_20 {f_R z31920 z31923 z33600 z33601 : Int} (h0 : (70 - ((2 * z33601) + z33600)) < ((0 : Nat) : Int)) (h1 : z33600 = 0 ∨ z33601 < z31923) (h2 : f_R < z33601) (h3 : z31920 < z31923 ∧ z31920 = f_R) (h4 : z31920 < z31923) (h5 : (-1) ≤ f_R ∧ f_R ≤ 30) (h6 : (-1) ≤ z31920 ∧ z31920 ≤ (-1)) (h7 : 0 ≤ z31923 ∧ z31923 ≤ 30) (h8 : 0 ≤ z33600 ∧ z33600 ≤ 1) (h9 : 0 ≤ z33601 ∧ z33601 ≤ 30) : False := by omega
theorem vc_X12_through_21 {z31923 z33600 z33601 : Int} (h0 : ¬ z33600 = 0) (h1 : z33600 = 0 ∨ z33601 < z31923) (h2 : 0 ≤ z31923 ∧ z31923 ≤ 30) (h3 : 0 ≤ z33600 ∧ z33600 ≤ 1) (h4 : 0 ≤ z33601 ∧ z33601 ≤ 30) : 1 ≤ z33600 ∧ z33600 ≤ 1 := by omega
theorem vc_X12_through_22 {f_pol p1 z31895 z31916 : Int} (h0 : p1 = -99999999 ∨ (0 ≤ p1 ∧ p1 < f_pol)) (h1 : 0 ≤ z31916 ∧ z31916 < f_pol ∧ z31916 + (z31895 - 1) ≤ 11) (h2 : ¬ p1 = (-99999999)) (h3 : 0 < z31895) (h4 : 0 ≤ f_pol ∧ f_pol ≤ 12) (h5 : (-2147483648) ≤ p1 ∧ p1 ≤ 2147483647) (h6 : 1 ≤ z31895 ∧ z31895 ≤ 12) (h7 : 0 ≤ z31916 ∧ z31916 ≤ 11) : 0 ≤ z31916 ∧ z31916 < f_pol := by omega
theorem vc_X12_through_23 {f_R z31920 z31923 z33600 z33601 : Int} (h0 : z31920 < z31923 ∧ z31920 = f_R) (h1 : z31920 < z31923) (h2 : z33600 = 0 ∨ z33601 < z31923) (h3 : f_R < z33601) (h4 : z31920 < 0) (h5 : ¬ z33600 = 0) (h6 : (-1) ≤ f_R ∧ f_R ≤ 30) (h7 : (-1) ≤ z31920 ∧ z31920 ≤ (-1)) (h8 : 0 ≤ z31923 ∧ z31923 ≤ 30) (h9 : 1 ≤ z33600 ∧ z33600 ≤ 1) (h10 : 0 ≤ z33601 ∧ z33601 ≤ 30) : 0 ≤ z33601 ∧ z33601 < z31923 := by omega
theorem vc_X12_through_24 {f_R f_pol p1 z31895 z31916 z31920 z31923 z33600 z33601 : Int} (h0 : 0 ≤ z31916 ∧ z31916 < f_pol ∧ z31916 + (z31895 - 1) ≤ 11) (h1 : z33600 = 0 ∨ z33601 < z31923) (h2 : f_R < z33601) (h3 : p1 = -99999999 ∨ (0 ≤ p1 ∧ p1 < f_pol)) (h4 : 0 < z31895) (h5 : z31920 < z31923 ∧ z31920 = f_R) (h6 : z31920 < z31923) (h7 : ¬ z33600 = 0) (h8 : (-1) ≤ f_R ∧ f_R ≤ 30) (h9 : 0 ≤ f_pol ∧ f_pol ≤ 12) (h10 : (-2147483648) ≤ p1 ∧ p1 ≤ 2147483647) (h11 : 1 ≤ z31895 ∧ z31895 ≤ 12) (h12 : 0 ≤ z31916 ∧ z31916 ≤ 11) (h13 : (-1) ≤ z31920 ∧ z31920 ≤ (-1)) (h14 : 0 ≤ z31923 ∧ z31923 ≤ 30) (h15 : 1 ≤ z33600 ∧ z33600 ≤ 1) (h16 : 0 ≤ z33601 ∧ z33601 ≤ 30) : ((31 * z31916) + z33601) = 31 * z31916 + z33601 := by omega
theorem vc_X12_through_25 {N f_R f_pol p1 z31894 z31895 z31916 z31920 z31923 z33600 z33601 : Int} (h0 : (((100 * (501 - z31894)) + (34 * z31895)) - f_R) < N + 1) (h1 : 0 < z31895) (h2 : 0 ≤ z31916 ∧ z31916 < f_pol ∧ z31916 + (z31895 - 1) ≤ 11) (h3 : z31920 < z31923 ∧ z31920 = f_R) (h4 : z33600 = 0 ∨ z33601 < z31923) (h5 : f_R < z33601) (h6 : p1 = -99999999 ∨ (0 ≤ p1 ∧ p1 < f_pol)) (h7 : z31920 < z31923) (h8 : z31920 < 0) (h9 : ¬ z33600 = 0) (h10 : (-1) ≤ f_R ∧ f_R ≤ 30) (h11 : 0 ≤ f_pol ∧ f_pol ≤ 12) (h12 : (-2147483648) ≤ p1 ∧ p1 ≤ 2147483647) (h13 : 0 ≤ z31894 ∧ z31894 ≤ 500) (h14 : 1 ≤ z31895 ∧ z31895 ≤ 12) (h15 : 0 ≤ z31916 ∧ z31916 ≤ 11) (h16 : (-1) ≤ z31920 ∧ z31920 ≤ (-1)) (h17 : 0 ≤ z31923 ∧ z31923 ≤ 30) (h18 : 1 ≤ z33600 ∧ z33600 ≤ 1) (h19 : 0 ≤ z33601 ∧ z33601 ≤ 30) : (((100 * (501 - z31894)) + (34 * z31895)) - z33601) < N := by omega
theorem vc_X12_through_26 {f_pol p1 z31895 z31916 : Int} (h0 : 0 < z31895) (h1 : 0 ≤ z31916 ∧ z31916 < f_pol ∧ z31916 + (z31895 - 1) ≤ 11) (h2 : p1 = -99999999 ∨ (0 ≤ p1 ∧ p1 < f_pol)) (h3 : 0 ≤ f_pol ∧ f_pol ≤ 12) (h4 : (-2147483648) ≤ p1 ∧ p1 ≤ 2147483647) (h5 : 1 ≤ z31895 ∧ z31895 ≤ 12) (h6 : 0 ≤ z31916 ∧ z31916 ≤ 11) : z31895 ≤ z31895 := by omega
theorem vc_X12_through_27 {z31923 z33600 z33601 : Int} (h0 : z33600 = 0) (h1 : z33600 = 0 ∨ z33601 < z31923) (h2 : 0 ≤ z31923 ∧ z31923 ≤ 30) (h3 : 0 ≤ z33600 ∧ z33600 ≤ 1) (h4 : 0 ≤ z33601 ∧ z33601 ≤ 30) : 0 ≤ z33600 ∧ z33600 ≤ 0 := by omega
theorem vc_X12_through_28 {f_pol z31895 z31916 : Int} (h0 : (z31895 + (-1)) = 0) (h1 : 0 < z31895) (h2 : 0 ≤ z31916 ∧ z31916 < f_pol ∧ z31916 + (z31895 - 1) ≤ 11) (h3 : 0 ≤ f_pol ∧ f_pol ≤ 12) (h4 : 1 ≤ z31895 ∧ z31895 ≤ 12) (h5 : 0 ≤ z31916 ∧ z31916 ≤ 11) : 1 ≤ z31895 ∧ z31895 ≤ 1 := by omega
theorem vc_X12_through_29 {N f_R f_pol p1 z31894 z31895 z31916 z31920 z31923 z33600 z33601 : Int} (h0 : (((100 * (501 - z31894)) + (34 * z31895)) - f_R) < N + 1) (h1 : 0 < z31895) (h2 : 0 ≤ z31916 ∧ z31916 < f_pol ∧ z31916 + (z31895 - 1) ≤ 11) (h3 : z31920 < z31923 ∧ z31920 = f_R) (h4 : f_R < z33601) (h5 : (z31895 + (-1)) = 0) (h6 : p1 = -99999999 ∨ (0 ≤ p1 ∧ p1 < f_pol)) (h7 : z31920 < z31923) (h8 : z31920 < 0) (h9 : z33600 = 0 ∨ z33601 < z31923) (h10 : (-1) ≤ f_R ∧ f_R ≤ 30) (h11 : 0 ≤ f_pol ∧ f_pol ≤ 12) (h12 : (-2147483648) ≤ p1 ∧ p1 ≤ 2147483647) (h13 : 0 ≤ z31894 ∧ z31894 ≤ 500) (h14 : 1 ≤ z31895 ∧ z31895 ≤ 1) (h15 : 0 ≤ z31916 ∧ z31916 ≤ 11) (h16 : (-1) ≤ z31920 ∧ z31920 ≤ (-1)) (h17 : 0 ≤ z31923 ∧ z31923 ≤ 30) (h18 : 0 ≤ z33600 ∧ z33600 ≤ 0) (h19 : 0 ≤ z33601 ∧ z33601 ≤ 30) : (((100 * (501 - z31894)) + (34 * (z31895 + (-1)))) - 0) < N := by omega
theorem vc_X12_through_30 {f_pol p1 z31895 z31916 : Int} (h0 : 0 < z31895) (h1 : 0 ≤ z31916 ∧ z31916 < f_pol ∧ z31916 + (z31895 - 1) ≤ 11) (h2 : (z31895 + (-1)) = 0) (h3 : p1 = -99999999 ∨ (0 ≤ p1 ∧ p1 < f_pol)) (h4 : 0 ≤ f_pol ∧ f_pol ≤ 12) (h5 : (-2147483648) ≤ p1 ∧ p1 ≤ 2147483647) (h6 : 1 ≤ z31895 ∧ z31895 ≤ 1) (h7 : 0 ≤ z31916 ∧ z31916 ≤ 11) : (z31895 + (-1)) ≤ z31895 := by omega
theorem vc_X12_through_31 {f_pol p1 z31895 z31916 : Int} (h0 : 0 < z31895) (h1 : 0 ≤ z31916 ∧ z31916 < f_pol ∧ z31916 + (z31895 - 1) ≤ 11) (h2 : (z31895 + (-1)) = 0) (h3 : p1 = -99999999 ∨ (0 ≤ p1 ∧ p1 < f_pol)) (h4 : 0 ≤ f_pol ∧ f_pol ≤ 12) (h5 : (-2147483648) ≤ p1 ∧ p1 ≤ 2147483647) (h6 : 1 ≤ z31895 ∧ z31895 ≤ 1) (h7 : 0 ≤ z31916 ∧ z31916 ≤ 11) : (z31895 + (-1)) = 0 := by omega
theorem vc_X12_through_32 {f_pol z31895 z31916 : Int} (h0 : ¬ (z31895 + (-1)) = 0) (h1 : 0 < z31895) (h2 : 0 ≤ z31916 ∧ z31916 < f_pol ∧ z31916 + (z31895 - 1) ≤ 11) (h3 : 0 ≤ f_pol ∧ f_pol ≤ 12) (h4 : 1 ≤ z31895 ∧ z31895 ≤ 12) (h5 : 0 ≤ z31916 ∧ z31916 ≤ 11) : 2 ≤ z31895 ∧ z31895 ≤ 12 := by omega
theorem vc_X12_through_33 {N f_R f_pol p1 z31894 z31895 z31916 z31920 z31923 z33600 z33601 z33672 : Int} (h0 : (((100 * (501 - z31894)) + (34 * z31895)) - f_R) < N + 1) (h1 : 0 < z31895) (h2 : 0 ≤ z31916 ∧ z31916 < f_pol ∧ z31916 + (z31895 - 1) ≤ 11) (h3 : z31920 < z31923 ∧ z31920 = f_R) (h4 : f_R < z33601) (h5 : ¬ (z31895 + (-1)) = 0) (h6 : p1 = -99999999 ∨ (0 ≤ p1 ∧ p1 < f_pol)) (h7 : z31920 < z31923) (h8 : z31920 < 0) (h9 : z33600 = 0 ∨ z33601 < z31923) (h10 : (-1) ≤ f_R ∧ f_R ≤ 30) (h11 : 0 ≤ f_pol ∧ f_pol ≤ 12) (h12 : (-2147483648) ≤ p1 ∧ p1 ≤ 2147483647) (h13 : 0 ≤ z31894 ∧ z31894 ≤ 500) (h14 : 2 ≤ z31895 ∧ z31895 ≤ 12) (h15 : 0 ≤ z31916 ∧ z31916 ≤ 11) (h16 : (-1) ≤ z31920 ∧ z31920 ≤ (-1)) (h17 : 0 ≤ z31923 ∧ z31923 ≤ 30) (h18 : 0 ≤ z33600 ∧ z33600 ≤ 0) (h19 : 0 ≤ z33601 ∧ z33601 ≤ 30) (h20 : (-1) ≤ z33672 ∧ z33672 ≤ 30) : (((100 * (501 - z31894)) + (34 * (z31895 + (-1)))) - z33672) < N := by omega
theorem vc_X12_through_34 {f_pol p1 z31895 z31916 : Int} (h0 : 0 < z31895) (h1 : 0 ≤ z31916 ∧ z31916 < f_pol ∧ z31916 + (z31895 - 1) ≤ 11) (h2 : ¬ (z31895 + (-1)) = 0) (h3 : p1 = -99999999 ∨ (0 ≤ p1 ∧ p1 < f_pol)) (h4 : 0 ≤ f_pol ∧ f_pol ≤ 12) (h5 : (-2147483648) ≤ p1 ∧ p1 ≤ 2147483647) (h6 : 2 ≤ z31895 ∧ z31895 ≤ 12) (h7 : 0 ≤ z31916 ∧ z31916 ≤ 11) : (z31895 + (-1)) ≤ z31895 := by omega
theorem vc_X12_through_35 {f_R z31920 z31923 z33600 z33601 : Int} (h0 : z33601 < z31923) (h1 : z31920 < z31923 ∧ z31920 = f_R) (h2 : z31920 < z31923) (h3 : z33600 = 0 ∨ z33601 < z31923) (h4 : f_R < z33601) (h5 : (-1) ≤ f_R ∧ f_R ≤ 30) (h6 : (-1) ≤ z31920 ∧ z31920 ≤ (-1)) (h7 : 0 ≤ z31923 ∧ z31923 ≤ 30) (h8 : 0 ≤ z33600 ∧ z33600 ≤ 1) (h9 : 0 ≤ z33601 ∧ z33601 ≤ 30) : 0 ≤ z33601 ∧ z33601 ≤ 29 := by omega
theorem vc_X12_through_36 {f_R z31920 z31923 z33600 z33601 : Int} (h0 : z33601 < z31923) (h1 : z31920 < z31923 ∧ z31920 = f_R) (h2 : z31920 < z31923) (h3 : z33600 = 0 ∨ z33601 < z31923) (h4 : f_R < z33601) (h5 : (-1) ≤ f_R ∧ f_R ≤ 30) (h6 : (-1) ≤ z31920 ∧ z31920 ≤ (-1)) (h7 : 0 ≤ z31923 ∧ z31923 ≤ 30) (h8 : 0 ≤ z33600 ∧ z33600 ≤ 1) (h9 : 0 ≤ z33601 ∧ z33601 ≤ 29) : 1 ≤ z31923 ∧ z31923 ≤ 30 := by omega
theorem vc_X12_through_37 {z31923 z33600 z33601 : Int} (h0 : ¬ z33600 = 0) (h1 : z33600 = 0 ∨ z33601 < z31923) (h2 : 1 ≤ z31923 ∧ z31923 ≤ 30) (h3 : 0 ≤ z33600 ∧ z33600 ≤ 1) (h4 : 0 ≤ z33601 ∧ z33601 ≤ 29) : 1 ≤ z33600 ∧ z33600 ≤ 1 := by omega
theorem vc_X12_through_38 {z31923 z33600 z33601 : Int} (h0 : z33600 = 0) (h1 : z33600 = 0 ∨ z33601 < z31923) (h2 : 1 ≤ z31923 ∧ z31923 ≤ 30) (h3 : 0 ≤ z33600 ∧ z33600 ≤ 1) (h4 : 0 ≤ z33601 ∧ z33601 ≤ 29) : 0 ≤ z33600 ∧ z33600 ≤ 0 := by omega
theorem vc_X12_through_39 {z33731 : Int} (h0 : (301 - z33731) < ((0 : Nat) : Int)) (h1 : 0 ≤ z33731 ∧ z33731 ≤ 300) : False := by omega
theorem vc_X12_through_40 {z33732 : Int} (h0 : ¬ z33732 = 0) (h1 : 0 ≤ z33732 ∧ z33732 ≤ 1) : 1 ≤ z33732 ∧ z33732 ≤ 1 := by omega
theorem vc_X12_through_41 {f_R z31920 z31923 z33600 z33601 z33732 : Int} (h0 : z31920 < z31923 ∧ z31920 = f_R) (h1 : z31920 < z31923) (h2 : z33600 = 0 ∨ z33601 < z31923) (h3 : f_R < z33601) (h4 : z33601 < z31923) (h5 : ¬ z33732 = 0) (h6 : z31920 < 0) (h7 : z33600 = 0) (h8 : (-1) ≤ f_R ∧ f_R ≤ 30) (h9 : (-1) ≤ z31920 ∧ z31920 ≤ (-1)) (h10 : 1 ≤ z31923 ∧ z31923 ≤ 30) (h11 : 0 ≤ z33600 ∧ z33600 ≤ 0) (h12 : 0 ≤ z33601 ∧ z33601 ≤ 29) (h13 : 1 ≤ z33732 ∧ z33732 ≤ 1) : z33732 = 0 ∨ z33601 < z31923 := by omega
theorem vc_X12_through_42 {f_R z31920 z31923 z33600 z33601 : Int} (h0 : z31920 < z31923 ∧ z31920 = f_R) (h1 : z33600 = 0 ∨ z33601 < z31923) (h2 : f_R < z33601) (h3 : z33601 < z31923) (h4 : z31920 < z31923) (h5 : z31920 < 0) (h6 : z33600 = 0) (h7 : (-1) ≤ f_R ∧ f_R ≤ 30) (h8 : (-1) ≤ z31920 ∧ z31920 ≤ (-1)) (h9 : 1 ≤ z31923 ∧ z31923 ≤ 30) (h10 : 0 ≤ z33600 ∧ z33600 ≤ 0) (h11 : 0 ≤ z33601 ∧ z33601 ≤ 29) : f_R < z33601 := by omega
theorem vc_X12_through_43 {N f_R z31920 z31923 z33600 z33601 z33732 : Int} (h0 : (70 - ((2 * z33601) + z33600)) < N + 1) (h1 : z33600 = 0 ∨ z33601 < z31923) (h2 : f_R < z33601) (h3 : z33601 < z31923) (h4 : z33600 = 0) (h5 : ¬ z33732 = 0) (h6 : z31920 < z31923 ∧ z31920 = f_R) (h7 : z31920 < z31923) (h8 : (-1) ≤ f_R ∧ f_R ≤ 30) (h9 : (-1) ≤ z31920 ∧ z31920 ≤ (-1)) (h10 : 1 ≤ z31923 ∧ z31923 ≤ 30) (h11 : 0 ≤ z33600 ∧ z33600 ≤ 0) (h12 : 0 ≤ z33601 ∧ z33601 ≤ 29) (h13 : 1 ≤ z33732 ∧ z33732 ≤ 1) : (70 - ((2 * z33601) + z33732)) < N := by omega
theorem vc_X12_through_44 {z33732 : Int} (h0 : z33732 = 0) (h1 : 0 ≤ z33732 ∧ z33732 ≤ 1) : 0 ≤ z33732 ∧ z33732 ≤ 0 := by omega
theorem vc_X12_through_45 {f_R z31920 z31923 z33600 z33601 z33732 : Int} (h0 : z31920 < z31923 ∧ z31920 = f_R) (h1 : z31920 < z31923) (h2 : z33600 = 0 ∨ z33601 < z31923) (h3 : f_R < z33601) (h4 : z33601 < z31923) (h5 : z33732 = 0) (h6 : z31920 < 0) (h7 : z33600 = 0) (h8 : (-1) ≤ f_R ∧ f_R ≤ 30) (h9 : (-1) ≤ z31920 ∧ z31920 ≤ (-1)) (h10 : 1 ≤ z31923 ∧ z31923 ≤ 30) (h11 : 0 ≤ z33600 ∧ z33600 ≤ 0) (h12 : 0 ≤ z33601 ∧ z33601 ≤ 29) (h13 : 0 ≤ z33732 ∧ z33732 ≤ 0) : z33732 = 0 ∨ (z33601 + 1) < z31923 := by omega
theorem vc_X12_through_46 {f_R z31920 z31923 z33600 z33601 : Int} (h0 : z31920 < z31923 ∧ z31920 = f_R) (h1 : z33600 = 0 ∨ z33601 < z31923) (h2 : f_R < z33601) (h3 : z33601 < z31923) (h4 : z31920 < z31923) (h5 : z31920 < 0) (h6 : z33600 = 0) (h7 : (-1) ≤ f_R ∧ f_R ≤ 30) (h8 : (-1) ≤ z31920 ∧ z31920 ≤ (-1)) (h9 : 1 ≤ z31923 ∧ z31923 ≤ 30) (h10 : 0 ≤ z33600 ∧ z33600 ≤ 0) (h11 : 0 ≤ z33601 ∧ z33601 ≤ 29) : f_R < (z33601 + 1) := by omega
theorem vc_X12_through_47 {N f_R z31920 z31923 z33600 z33601 z33732 : Int} (h0 : (70 - ((2 * z33601) + z33600)) < N + 1) (h1 : z33600 = 0 ∨ z33601 < z31923) (h2 : f_R < z33601) (h3 : z33601 < z31923) (h4 : z33600 = 0) (h5 : z33732 = 0) (h6 : z31920 < z31923 ∧ z31920 = f_R) (h7 : z31920 < z31923) (h8 : (-1) ≤ f_R ∧ f_R ≤ 30) (h9 : (-1) ≤ z31920 ∧ z31920 ≤ (-1)) (h10 : 1 ≤ z31923 ∧ z31923 ≤ 30) (h11 : 0 ≤ z33600 ∧ z33600 ≤ 0) (h12 : 0 ≤ z33601 ∧ z33601 ≤ 29) (h13 : 0 ≤ z33732 ∧ z33732 ≤ 0) : (70 - ((2 * (z33601 + 1)) + z33732)) < N := by omega
theorem vc_X12_through_48 {z33731 z33743 : Int} (h0 : z33731 < z33743) (h1 : 0 ≤ z33731 ∧ z33731 ≤ 300) (h2 : 0 ≤ z33743 ∧ z33743 ≤ 300) : 0 ≤ z33731 ∧ z33731 ≤ 299 := by omega
theorem vc_X12_through_49 {z33731 z33743 : Int} (h0 : z33731 < z33743) (h1 : 0 ≤ z33731 ∧ z33731 ≤ 299) (h2 : 0 ≤ z33743 ∧ z33743 ≤ 300) : 1 ≤ z33743 ∧ z33743 ≤ 300 := by omega
theorem vc_X12_through_50 {z33732 : Int} (h0 : ¬ z33732 = 0) (h1 : 0 ≤ z33732 ∧ z33732 ≤ 0) : False := by omega
theorem vc_X12_through_51 {f_ties g1 : Int} (h0 : g1 < f_ties) (h1 : 1 ≤ f_ties ∧ f_ties ≤ 20) (h2 : 0 ≤ g1 ∧ g1 ≤ 19) : g1 < f_ties := by omega
theorem vc_X12_through_52 {f_e0 f_e1 p3 p4 : Int} (h0 : (f_e0 = p3 ∧ f_e1 = p4) ∨ (f_e0 = p4 ∧ f_e1 = p3)) (h1 : 0 ≤ f_e0 ∧ f_e0 ≤ 9) (h2 : 0 ≤ f_e1 ∧ f_e1 ≤ 9) (h3 : (-2147483648) ≤ p3 ∧ p3 ≤ 2147483647) (h4 : (-2147483648) ≤ p4 ∧ p4 ≤ 2147483647) : (f_e0 = p3 ∧ f_e1 = p4) ∨ (f_e0 = p4 ∧ f_e1 = p3) := by omega
theorem vc_X12_through_53 {f_x f_y : Int} (h0 : f_y = f_x) (h1 : 0 ≤ f_x) (h2 : 0 ≤ f_x ∧ f_x ≤ 9) (h3 : (-1) ≤ f_y ∧ f_y ≤ 9) : 0 ≤ f_y := by omega
theorem vc_X12_through_54 {N z33731 z33743 : Int} (h0 : (301 - z33731) < N + 1) (h1 : z33731 < z33743) (h2 : 0 ≤ z33731 ∧ z33731 ≤ 299) (h3 : 1 ≤ z33743 ∧ z33743 ≤ 300) : (301 - (z33731 + 1)) < N := by omega
theorem vc_X12_through_55 {z33681 : Int} (h0 : 0 ≤ z33681 ∧ z33681 ≤ 300) : (301 - z33681) < ((302 : Nat) : Int) := by omega
theorem vc_X12_through_56 {f_R z31920 z31923 : Int} (h0 : z31920 < z31923 ∧ z31920 = f_R) (h1 : z31920 < z31923) (h2 : z31920 < 0) (h3 : (-1) ≤ f_R ∧ f_R ≤ 30) (h4 : (-1) ≤ z31920 ∧ z31920 ≤ (-1)) (h5 : 0 ≤ z31923 ∧ z31923 ≤ 30) : (0 : Int) = 0 ∨ (z31920 + 1) < z31923 := by omega
theorem vc_X12_through_57 {f_R z31920 z31923 : Int} (h0 : z31920 < z31923 ∧ z31920 = f_R) (h1 : z31920 < z31923) (h2 : z31920 < 0) (h3 : (-1) ≤ f_R ∧ f_R ≤ 30) (h4 : (-1) ≤ z31920 ∧ z31920 ≤ (-1)) (h5 : 0 ≤ z31923 ∧ z31923 ≤ 30) : f_R < (z31920 + 1) := by omega
theorem vc_X12_through_58 {f_R z31920 z31923 : Int} (h0 : z31920 < z31923 ∧ z31920 = f_R) (h1 : z31920 < z31923) (h2 : z31920 < 0) (h3 : (-1) ≤ f_R ∧ f_R ≤ 30) (h4 : (-1) ≤ z31920 ∧ z31920 ≤ (-1)) (h5 : 0 ≤ z31923 ∧ z31923 ≤ 30) : (70 - ((2 * (z31920 + 1)) + 0)) < ((71 : Nat) : Int) := by omega
theorem vc_X12_through_59 {f_R z31920 z31923 : Int} (h0 : 0 ≤ z31920) (h1 : z31920 < z31923 ∧ z31920 = f_R) (h2 : z31920 < z31923) (h3 : (-1) ≤ f_R ∧ f_R ≤ 30) (h4 : (-1) ≤ z31920 ∧ z31920 ≤ 29) (h5 : 0 ≤ z31923 ∧ z31923 ≤ 30) : 0 ≤ z31920 ∧ z31920 ≤ 29 := by omega
theorem vc_X12_through_60 {f_R f_pol p1 z31895 z31916 z31920 z31923 : Int} (h0 : 0 ≤ z31916 ∧ z31916 < f_pol ∧ z31916 + (z31895 - 1) ≤ 11) (h1 : z31920 < z31923 ∧ z31920 = f_R) (h2 : z31920 < z31923) (h3 : 0 ≤ z31920) (h4 : p1 = -99999999 ∨ (0 ≤ p1 ∧ p1 < f_pol)) (h5 : 0 < z31895) (h6 : (-1) ≤ f_R ∧ f_R ≤ 30) (h7 : 0 ≤ f_pol ∧ f_pol ≤ 12) (h8 : (-2147483648) ≤ p1 ∧ p1 ≤ 2147483647) (h9 : 1 ≤ z31895 ∧ z31895 ≤ 12) (h10 : 0 ≤ z31916 ∧ z31916 ≤ 11) (h11 : 0 ≤ z31920 ∧ z31920 ≤ 29) (h12 : 0 ≤ z31923 ∧ z31923 ≤ 30) : (((31 * z31916) + z31920) + 1) = 31 * z31916 + z31920 + 1 := by omega
theorem vc_X12_through_61 {f_pol p1 z31895 z31916 : Int} (h0 : 0 ≤ z31916 ∧ z31916 < f_pol ∧ z31916 + (z31895 - 1) ≤ 11) (h1 : p1 = -99999999 ∨ (0 ≤ p1 ∧ p1 < f_pol)) (h2 : 0 < z31895) (h3 : 0 ≤ f_pol ∧ f_pol ≤ 12) (h4 : (-2147483648) ≤ p1 ∧ p1 ≤ 2147483647) (h5 : 1 ≤ z31895 ∧ z31895 ≤ 12) (h6 : 0 ≤ z31916 ∧ z31916 ≤ 11) : 0 ≤ z31916 := by omega
theorem vc_X12_through_62 {f_R z31920 z31923 : Int} (h0 : z31920 < z31923 ∧ z31920 = f_R) (h1 : z31920 < z31923) (h2 : 0 ≤ z31920) (h3 : (-1) ≤ f_R ∧ f_R ≤ 30) (h4 : 0 ≤ z31920 ∧ z31920 ≤ 29) (h5 : 0 ≤ z31923 ∧ z31923 ≤ 30) : 0 ≤ z31920 := by omega
theorem vc_X12_through_63 {f_R z31920 z31923 : Int} (h0 : z31920 < z31923 ∧ z31920 = f_R) (h1 : z31920 < z31923) (h2 : 0 ≤ z31920) (h3 : (-1) ≤ f_R ∧ f_R ≤ 30) (h4 : 0 ≤ z31920 ∧ z31920 ≤ 29) (h5 : 0 ≤ z31923 ∧ z31923 ≤ 30) : 0 ≤ z31920 ∧ z31920 < z31923 := by omega
theorem vc_X12_through_64 {z31926 z33777 z33780 : Int} (h0 : z33777 ≤ z33780 ∧ z33780 ≤ z31926) (h1 : ¬ z33777 = z33780) (h2 : 0 ≤ z31926 ∧ z31926 ≤ 300) (h3 : 0 ≤ z33777 ∧ z33777 ≤ 300) (h4 : 0 ≤ z33780 ∧ z33780 ≤ 300) : 0 ≤ (z33777 + 1) ∧ (z33777 + 1) ≤ 300 := by omega
theorem vc_X12_through_65 {z31926 z33777 z33780 : Int} (h0 : z33777 ≤ z33780 ∧ z33780 ≤ z31926) (h1 : ¬ z33777 = z33780) (h2 : 0 ≤ z31926 ∧ z31926 ≤ 300) (h3 : 0 ≤ z33777 ∧ z33777 ≤ 300) (h4 : 0 ≤ z33780 ∧ z33780 ≤ 300) : (z33777 + 1) ≤ z33780 := by omega
theorem vc_X12_through_66 {z31894 : Int} (h0 : (z31894 + 1) ≤ 500) (h1 : 0 ≤ z31894 ∧ z31894 ≤ 500) : 0 ≤ z31894 ∧ z31894 ≤ 499 := by omega
theorem vc_X12_through_67 {p2 : Int} (h0 : 0 ≤ p2 ∧ p2 ≤ 2099) : (40 * p2) < ((40 * p2) + 1) ∨ ((40 * p2) + 40) ≤ (40 * p2) := by omega
theorem vc_X12_through_68 {N f_R f_pol p1 z31894 z31895 z31916 z31920 z31923 : Int} (h0 : (((100 * (501 - z31894)) + (34 * z31895)) - f_R) < N + 1) (h1 : 0 < z31895) (h2 : 0 ≤ z31916 ∧ z31916 < f_pol ∧ z31916 + (z31895 - 1) ≤ 11) (h3 : z31920 < z31923 ∧ z31920 = f_R) (h4 : z31920 < z31923) (h5 : 0 ≤ z31920) (h6 : (z31894 + 1) ≤ 500) (h7 : p1 = -99999999 ∨ (0 ≤ p1 ∧ p1 < f_pol)) (h8 : (-1) ≤ f_R ∧ f_R ≤ 30) (h9 : 0 ≤ f_pol ∧ f_pol ≤ 12) (h10 : (-2147483648) ≤ p1 ∧ p1 ≤ 2147483647) (h11 : 0 ≤ z31894 ∧ z31894 ≤ 499) (h12 : 1 ≤ z31895 ∧ z31895 ≤ 12) (h13 : 0 ≤ z31916 ∧ z31916 ≤ 11) (h14 : 0 ≤ z31920 ∧ z31920 ≤ 29) (h15 : 0 ≤ z31923 ∧ z31923 ≤ 30) : (((100 * (501 - (z31894 + 1))) + (34 * z31895)) - z31920) < N := by omega
theorem vc_X12_through_69 {z33791 : Int} (h0 : z33791 = 28) (h1 : ¬ z33791 = 23) (h2 : ¬ z33791 = 24) (h3 : ¬ z33791 = 27) (h4 : (-2147483648) ≤ z33791 ∧ z33791 ≤ 2147483647) : 28 ≤ z33791 ∧ z33791 ≤ 28 := by omega
theorem vc_X12_through_70 {f_pol p1 z31895 z31916 z31926 z33777 z33780 : Int} (h0 : 0 ≤ z31916 ∧ z31916 < f_pol ∧ z31916 + (z31895 - 1) ≤ 11) (h1 : z33777 ≤ z33780 ∧ z33780 ≤ z31926) (h2 : ¬ z33777 = z33780) (h3 : p1 = -99999999 ∨ (0 ≤ p1 ∧ p1 < f_pol)) (h4 : 0 < z31895) (h5 : 0 ≤ f_pol ∧ f_pol ≤ 12) (h6 : (-2147483648) ≤ p1 ∧ p1 ≤ 2147483647) (h7 : 1 ≤ z31895 ∧ z31895 ≤ 12) (h8 : 0 ≤ z31916 ∧ z31916 ≤ 11) (h9 : 0 ≤ z31926 ∧ z31926 ≤ 300) (h10 : 0 ≤ z33777 ∧ z33777 ≤ 300) (h11 : 0 ≤ z33780 ∧ z33780 ≤ 300) : 0 ≤ (((300 * z31916) + z33777) - (300 * z31916)) ∧ (((300 * z31916) + z33777) - (300 * z31916)) < z31926 := by omega
theorem vc_X12_through_71 {f_pol p1 z31895 z31916 z31926 z33777 z33780 : Int} (h0 : 0 ≤ z31916 ∧ z31916 < f_pol ∧ z31916 + (z31895 - 1) ≤ 11) (h1 : z33777 ≤ z33780 ∧ z33780 ≤ z31926) (h2 : ¬ z33777 = z33780) (h3 : p1 = -99999999 ∨ (0 ≤ p1 ∧ p1 < f_pol)) (h4 : 0 < z31895) (h5 : 0 ≤ f_pol ∧ f_pol ≤ 12) (h6 : (-2147483648) ≤ p1 ∧ p1 ≤ 2147483647) (h7 : 1 ≤ z31895 ∧ z31895 ≤ 12) (h8 : 0 ≤ z31916 ∧ z31916 ≤ 11) (h9 : 0 ≤ z31926 ∧ z31926 ≤ 300) (h10 : 0 ≤ z33777 ∧ z33777 ≤ 300) (h11 : 0 ≤ z33780 ∧ z33780 ≤ 300) : ((300 * z31916) + z33777) = 300 * z31916 + (((300 * z31916) + z33777) - (300 * z31916)) := by omega
theorem vc_X12_through_72 {z33791 : Int} (h0 : ¬ z33791 = 23) (h1 : ¬ z33791 = 24) (h2 : ¬ z33791 = 27) (h3 : z33791 = 28) (h4 : 28 ≤ z33791 ∧ z33791 ≤ 28) : z33791 = 28 := by omega
theorem vc_X12_through_73 {f_pol z31895 z31916 z33866 : Int} (h0 : 0 ≤ z33866 ∧ z33866 < z31916) (h1 : 0 ≤ z31916 ∧ z31916 < f_pol ∧ z31916 + (z31895 - 1) ≤ 11) (h2 : 0 ≤ f_pol ∧ f_pol ≤ 12) (h3 : 1 ≤ z31895 ∧ z31895 ≤ 12) (h4 : 0 ≤ z31916 ∧ z31916 ≤ 11) (h5 : (-2147483648) ≤ z33866 ∧ z33866 ≤ 2147483647) : 0 ≤ z33866 ∧ z33866 ≤ 10 := by omega
theorem vc_X12_through_74 {f_pol p1 z31895 z31916 z33866 : Int} (h0 : 0 < z31895) (h1 : 0 ≤ z31916 ∧ z31916 < f_pol ∧ z31916 + (z31895 - 1) ≤ 11) (h2 : p1 = -99999999 ∨ (0 ≤ p1 ∧ p1 < f_pol)) (h3 : 0 ≤ z33866 ∧ z33866 < z31916) (h4 : 0 ≤ f_pol ∧ f_pol ≤ 12) (h5 : (-2147483648) ≤ p1 ∧ p1 ≤ 2147483647) (h6 : 1 ≤ z31895 ∧ z31895 ≤ 12) (h7 : 0 ≤ z31916 ∧ z31916 ≤ 11) (h8 : 0 ≤ z33866 ∧ z33866 ≤ 10) : 0 ≤ z31895 := by omega
theorem vc_X12_through_75 {f_pol p1 z31895 z31916 z33866 : Int} (h0 : p1 = -99999999 ∨ (0 ≤ p1 ∧ p1 < f_pol)) (h1 : 0 < z31895) (h2 : 0 ≤ z31916 ∧ z31916 < f_pol ∧ z31916 + (z31895 - 1) ≤ 11) (h3 : 0 ≤ z33866 ∧ z33866 < z31916) (h4 : ¬ p1 = (-99999999)) (h5 : 0 ≤ f_pol ∧ f_pol ≤ 12) (h6 : (-2147483648) ≤ p1 ∧ p1 ≤ 2147483647) (h7 : 1 ≤ z31895 ∧ z31895 ≤ 12) (h8 : 0 ≤ z31916 ∧ z31916 ≤ 11) (h9 : 0 ≤ z33866 ∧ z33866 ≤ 10) : 0 ≤ z33866 ∧ z33866 < f_pol ∧ z33866 + z31895 ≤ 11 := by omega
theorem vc_X12_through_76 {z33880 : Int} (h0 : 0 ≤ z33880 ∧ z33880 ≤ 30) : 0 ≤ z33880 := by omega
theorem vc_X12_through_77 {z31895 : Int} (h0 : 1 ≤ z31895 ∧ z31895 ≤ 12) : ((z31895 + 1) - 1) = z31895 := by omega
theorem vc_X12_through_78 {f_pol p1 z31895 z31916 z33866 : Int} (h0 : 0 < z31895) (h1 : 0 ≤ z31916 ∧ z31916 < f_pol ∧ z31916 + (z31895 - 1) ≤ 11) (h2 : p1 = -99999999 ∨ (0 ≤ p1 ∧ p1 < f_pol)) (h3 : 0 ≤ z33866 ∧ z33866 < z31916) (h4 : 0 ≤ f_pol ∧ f_pol ≤ 12) (h5 : (-2147483648) ≤ p1 ∧ p1 ≤ 2147483647) (h6 : 1 ≤ z31895 ∧ z31895 ≤ 12) (h7 : 0 ≤ z31916 ∧ z31916 ≤ 11) (h8 : 0 ≤ z33866 ∧ z33866 ≤ 10) : 0 ≤ (z31895 + 1) ∧ (z31895 + 1) ≤ 12 := by omega
theorem vc_X12_through_79 {N f_R f_pol p1 z31894 z31895 z31916 z31920 z31923 z33866 : Int} (h0 : (((100 * (501 - z31894)) + (34 * z31895)) - f_R) < N + 1) (h1 : 0 < z31895) (h2 : 0 ≤ z31916 ∧ z31916 < f_pol ∧ z31916 + (z31895 - 1) ≤ 11) (h3 : z31920 < z31923 ∧ z31920 = f_R) (h4 : (z31894 + 1) ≤ 500) (h5 : p1 = -99999999 ∨ (0 ≤ p1 ∧ p1 < f_pol)) (h6 : z31920 < z31923) (h7 : 0 ≤ z31920) (h8 : 0 ≤ z33866 ∧ z33866 < z31916) (h9 : (-1) ≤ f_R ∧ f_R ≤ 30) (h10 : 0 ≤ f_pol ∧ f_pol ≤ 12) (h11 : (-2147483648) ≤ p1 ∧ p1 ≤ 2147483647) (h12 : 0 ≤ z31894 ∧ z31894 ≤ 499) (h13 : 1 ≤ z31895 ∧ z31895 ≤ 12) (h14 : 0 ≤ z31916 ∧ z31916 ≤ 11) (h15 : 0 ≤ z31920 ∧ z31920 ≤ 29) (h16 : 0 ≤ z31923 ∧ z31923 ≤ 30) (h17 : 0 ≤ z33866 ∧ z33866 ≤ 10) : (((100 * (501 - (z31894 + 1))) + (34 * (z31895 + 1))) - (-1)) < N := by omega
theorem vc_X12_through_80 {f_pol p1 z31895 z31916 z33866 : Int} (h0 : 0 < z31895) (h1 : 0 ≤ z31916 ∧ z31916 < f_pol ∧ z31916 + (z31895 - 1) ≤ 11) (h2 : p1 = -99999999 ∨ (0 ≤ p1 ∧ p1 < f_pol)) (h3 : 0 ≤ z33866 ∧ z33866 < z31916) (h4 : 0 ≤ f_pol ∧ f_pol ≤ 12) (h5 : (-2147483648) ≤ p1 ∧ p1 ≤ 2147483647) (h6 : 1 ≤ z31895 ∧ z31895 ≤ 12) (h7 : 0 ≤ z31916 ∧ z31916 ≤ 11) (h8 : 0 ≤ z33866 ∧ z33866 ≤ 10) : (z31895 + 1) ≤ (z31895 + 1) := by omega
theorem vc_X12_through_81 {z33791 : Int} (h0 : z33791 = 27) (h1 : ¬ z33791 = 23) (h2 : ¬ z33791 = 24) (h3 : (-2147483648) ≤ z33791 ∧ z33791 ≤ 2147483647) : 27 ≤ z33791 ∧ z33791 ≤ 27 := by omega
theorem vc_X12_through_82 {p2 : Int} (h0 : 0 ≤ p2 ∧ p2 ≤ 2099) : ((40 * p2) + 4) % 40 = 4 := by omega
theorem vc_X12_through_83 {z33885 : Int} (h0 : z33885 ≤ 0) (h1 : 0 ≤ z33885 ∧ z33885 ≤ 20) : 0 ≤ z33885 ∧ z33885 ≤ 0 := by omega
theorem vc_X12_through_84 {z33791 : Int} (h0 : z33791 = 28) (h1 : 27 ≤ z33791 ∧ z33791 ≤ 27) : False := by omega
theorem vc_X12_through_85 {z33885 : Int} (h0 : 0 < z33885) (h1 : 0 ≤ z33885 ∧ z33885 ≤ 20) : 1 ≤ z33885 ∧ z33885 ≤ 20 := by omega
theorem vc_X12_through_86 {z33898 : Int} (h0 : z33898 ≤ 20) (h1 : (-2147483648) ≤ z33898 ∧ z33898 ≤ 2147483647) : (-2147483648) ≤ z33898 ∧ z33898 ≤ 20 := by omega
theorem vc_X12_through_87 {z33895 z34262 : Int} (h0 : ((z33895 - z34262) + 4294967296) < ((0 : Nat) : Int)) (h1 : (-2147483648) ≤ z33895 ∧ z33895 ≤ 2147483647) (h2 : 0 ≤ z34262 ∧ z34262 ≤ 2147483647) : False := by omega
theorem vc_X12_through_88 {z33895 z34262 : Int} (h0 : z34262 < z33895) (h1 : (-2147483648) ≤ z33895 ∧ z33895 ≤ 2147483647) (h2 : 0 ≤ z34262 ∧ z34262 ≤ 2147483647) : 0 ≤ z34262 ∧ z34262 ≤ 2147483646 := by omega
theorem vc_X12_through_89 {z33895 z34262 : Int} (h0 : z34262 < z33895) (h1 : (-2147483648) ≤ z33895 ∧ z33895 ≤ 2147483647) (h2 : 0 ≤ z34262 ∧ z34262 ≤ 2147483646) : 1 ≤ z33895 ∧ z33895 ≤ 2147483647 := by omega
theorem vc_X12_through_90 {N z33895 z34262 : Int} (h0 : ((z33895 - z34262) + 4294967296) < N + 1) (h1 : z34262 < z33895) (h2 : 1 ≤ z33895 ∧ z33895 ≤ 2147483647) (h3 : 0 ≤ z34262 ∧ z34262 ≤ 2147483646) : ((z33895 - (z34262 + 1)) + 4294967296) < N := by omega
theorem vc_X12_through_91 {z33895 : Int} (h0 : (-2147483648) ≤ z33895 ∧ z33895 ≤ 2147483647) : ((z33895 - 0) + 4294967296) < ((6442450944 : Nat) : Int) := by omega
theorem vc_X12_through_92 {z33898 : Int} (h0 : 20 < z33898) (h1 : (-2147483648) ≤ z33898 ∧ z33898 ≤ 2147483647) : 21 ≤ z33898 ∧ z33898 ≤ 2147483647 := by omega
theorem vc_X12_through_93 {z33791 : Int} (h0 : z33791 = 13) (h1 : ¬ z33791 = 23) (h2 : ¬ z33791 = 24) (h3 : (-2147483648) ≤ z33791 ∧ z33791 ≤ 2147483647) : 13 ≤ z33791 ∧ z33791 ≤ 13 := by omega
theorem vc_X12_through_94 {p2 z34290 : Int} (h0 : 0 ≤ p2 ∧ p2 ≤ 2099) (h1 : (-2147483648) ≤ z34290 ∧ z34290 ≤ 2147483647) : (-2147483648 ≤ z34290 ∧ z34290 ≤ 2147483647) ∧ (((40 * p2) + 3) % 40 = 0 → -1 ≤ z34290 ∧ z34290 ≤ 9) ∧ (((40 * p2) + 3) % 40 = 4 → 0 ≤ z34290 ∧ z34290 ≤ 20) ∧ (((40 * p2) + 3) % 40 = 5 → 0 ≤ z34290 ∧ z34290 ≤ 8) := by omega
theorem vc_X12_through_95 {p2 : Int} (h0 : 0 ≤ p2 ∧ p2 ≤ 2099) : 0 ≤ ((40 * p2) + 3) ∧ ((40 * p2) + 1) ≤ ((40 * p2) + 3) ∧ ((40 * p2) + 3) < ((40 * p2) + 40) := by omega
theorem vc_X12_through_96 {z33791 : Int} (h0 : z33791 = 12) (h1 : ¬ z33791 = 23) (h2 : ¬ z33791 = 24) (h3 : (-2147483648) ≤ z33791 ∧ z33791 ≤ 2147483647) : 12 ≤ z33791 ∧ z33791 ≤ 12 := by omega
theorem vc_X12_through_97 {p2 z34298 : Int} (h0 : 0 ≤ p2 ∧ p2 ≤ 2099) (h1 : (-2147483648) ≤ z34298 ∧ z34298 ≤ 2147483647) : (-2147483648 ≤ z34298 ∧ z34298 ≤ 2147483647) ∧ (((40 * p2) + 1) % 40 = 0 → -1 ≤ z34298 ∧ z34298 ≤ 9) ∧ (((40 * p2) + 1) % 40 = 4 → 0 ≤ z34298 ∧ z34298 ≤ 20) ∧ (((40 * p2) + 1) % 40 = 5 → 0 ≤ z34298 ∧ z34298 ≤ 8) := by omega
theorem vc_X12_through_98 {p2 : Int} (h0 : 0 ≤ p2 ∧ p2 ≤ 2099) : 0 ≤ ((40 * p2) + 1) ∧ ((40 * p2) + 1) ≤ ((40 * p2) + 1) ∧ ((40 * p2) + 1) < ((40 * p2) + 40) := by omega
theorem vc_X12_through_99 {z33791 : Int} (h0 : z33791 = 26) (h1 : ¬ z33791 = 23) (h2 : ¬ z33791 = 24) (h3 : (-2147483648) ≤ z33791 ∧ z33791 ≤ 2147483647) : 26 ≤ z33791 ∧ z33791 ≤ 26 := by omega
theorem vc_X12_through_100 {z33791 : Int} (h0 : z33791 = 25) (h1 : ¬ z33791 = 23) (h2 : ¬ z33791 = 24) (h3 : (-2147483648) ≤ z33791 ∧ z33791 ≤ 2147483647) : 25 ≤ z33791 ∧ z33791 ≤ 25 := by omega
theorem vc_X12_through_101 {z33791 : Int} (h0 : z33791 = 24) (h1 : ¬ z33791 = 23) (h2 : (-2147483648) ≤ z33791 ∧ z33791 ≤ 2147483647) : 24 ≤ z33791 ∧ z33791 ≤ 24 := by omega
theorem vc_X12_through_102 {z33791 : Int} (h0 : z33791 = 23) (h1 : (-2147483648) ≤ z33791 ∧ z33791 ≤ 2147483647) : 23 ≤ z33791 ∧ z33791 ≤ 23 := by omega
theorem vc_X12_through_103 {z31894 : Int} (h0 : 500 < (z31894 + 1)) (h1 : 0 ≤ z31894 ∧ z31894 ≤ 500) : 500 ≤ z31894 ∧ z31894 ≤ 500 := by omega
theorem vc_X12_through_104 {f_R z31920 z31923 z34492 z34493 : Int} (h0 : (70 - ((2 * z34493) + z34492)) < ((0 : Nat) : Int)) (h1 : z34492 = 0 ∨ z34493 < z31923) (h2 : f_R < z34493) (h3 : z31920 < z31923 ∧ z31920 = f_R) (h4 : z31920 < z31923) (h5 : (-1) ≤ f_R ∧ f_R ≤ 30) (h6 : 0 ≤ z31920 ∧ z31920 ≤ 29) (h7 : 0 ≤ z31923 ∧ z31923 ≤ 30) (h8 : 0 ≤ z34492 ∧ z34492 ≤ 1) (h9 : 1 ≤ z34493 ∧ z34493 ≤ 30) : False := by omega
theorem vc_X12_through_105 {z31923 z34492 z34493 : Int} (h0 : ¬ z34492 = 0) (h1 : z34492 = 0 ∨ z34493 < z31923) (h2 : 0 ≤ z31923 ∧ z31923 ≤ 30) (h3 : 0 ≤ z34492 ∧ z34492 ≤ 1) (h4 : 1 ≤ z34493 ∧ z34493 ≤ 30) : 1 ≤ z34492 ∧ z34492 ≤ 1 := by omega
theorem vc_X12_through_106 {f_R z31920 z31923 z34492 z34493 : Int} (h0 : z31920 < z31923 ∧ z31920 = f_R) (h1 : z31920 < z31923) (h2 : z34492 = 0 ∨ z34493 < z31923) (h3 : f_R < z34493) (h4 : 0 ≤ z31920) (h5 : ¬ z34492 = 0) (h6 : (-1) ≤ f_R ∧ f_R ≤ 30) (h7 : 0 ≤ z31920 ∧ z31920 ≤ 29) (h8 : 0 ≤ z31923 ∧ z31923 ≤ 30) (h9 : 1 ≤ z34492 ∧ z34492 ≤ 1) (h10 : 1 ≤ z34493 ∧ z34493 ≤ 30) : 0 ≤ z34493 ∧ z34493 < z31923 := by omega
theorem vc_X12_through_107 {f_R f_pol p1 z31895 z31916 z31920 z31923 z34492 z34493 : Int} (h0 : 0 ≤ z31916 ∧ z31916 < f_pol ∧ z31916 + (z31895 - 1) ≤ 11) (h1 : z34492 = 0 ∨ z34493 < z31923) (h2 : f_R < z34493) (h3 : p1 = -99999999 ∨ (0 ≤ p1 ∧ p1 < f_pol)) (h4 : 0 < z31895) (h5 : z31920 < z31923 ∧ z31920 = f_R) (h6 : z31920 < z31923) (h7 : ¬ z34492 = 0) (h8 : (-1) ≤ f_R ∧ f_R ≤ 30) (h9 : 0 ≤ f_pol ∧ f_pol ≤ 12) (h10 : (-2147483648) ≤ p1 ∧ p1 ≤ 2147483647) (h11 : 1 ≤ z31895 ∧ z31895 ≤ 12) (h12 : 0 ≤ z31916 ∧ z31916 ≤ 11) (h13 : 0 ≤ z31920 ∧ z31920 ≤ 29) (h14 : 0 ≤ z31923 ∧ z31923 ≤ 30) (h15 : 1 ≤ z34492 ∧ z34492 ≤ 1) (h16 : 1 ≤ z34493 ∧ z34493 ≤ 30) : ((31 * z31916) + z34493) = 31 * z31916 + z34493 := by omega
theorem vc_X12_through_108 {N f_R f_pol p1 z31894 z31895 z31916 z31920 z31923 z34492 z34493 : Int} (h0 : (((100 * (501 - z31894)) + (34 * z31895)) - f_R) < N + 1) (h1 : 0 < z31895) (h2 : 0 ≤ z31916 ∧ z31916 < f_pol ∧ z31916 + (z31895 - 1) ≤ 11) (h3 : z31920 < z31923 ∧ z31920 = f_R) (h4 : z34492 = 0 ∨ z34493 < z31923) (h5 : f_R < z34493) (h6 : p1 = -99999999 ∨ (0 ≤ p1 ∧ p1 < f_pol)) (h7 : z31920 < z31923) (h8 : 0 ≤ z31920) (h9 : ¬ z34492 = 0) (h10 : (-1) ≤ f_R ∧ f_R ≤ 30) (h11 : 0 ≤ f_pol ∧ f_pol ≤ 12) (h12 : (-2147483648) ≤ p1 ∧ p1 ≤ 2147483647) (h13 : 0 ≤ z31894 ∧ z31894 ≤ 500) (h14 : 1 ≤ z31895 ∧ z31895 ≤ 12) (h15 : 0 ≤ z31916 ∧ z31916 ≤ 11) (h16 : 0 ≤ z31920 ∧ z31920 ≤ 29) (h17 : 0 ≤ z31923 ∧ z31923 ≤ 30) (h18 : 1 ≤ z34492 ∧ z34492 ≤ 1) (h19 : 1 ≤ z34493 ∧ z34493 ≤ 30) : (((100 * (501 - z31894)) + (34 * z31895)) - z34493) < N := by omega
theorem vc_X12_through_109 {z31923 z34492 z34493 : Int} (h0 : z34492 = 0) (h1 : z34492 = 0 ∨ z34493 < z31923) (h2 : 0 ≤ z31923 ∧ z31923 ≤ 30) (h3 : 0 ≤ z34492 ∧ z34492 ≤ 1) (h4 : 1 ≤ z34493 ∧ z34493 ≤ 30) : 0 ≤ z34492 ∧ z34492 ≤ 0 := by omega
theorem vc_X12_through_110 {N f_R f_pol p1 z31894 z31895 z31916 z31920 z31923 z34492 z34493 : Int} (h0 : (((100 * (501 - z31894)) + (34 * z31895)) - f_R) < N + 1) (h1 : 0 < z31895) (h2 : 0 ≤ z31916 ∧ z31916 < f_pol ∧ z31916 + (z31895 - 1) ≤ 11) (h3 : z31920 < z31923 ∧ z31920 = f_R) (h4 : f_R < z34493) (h5 : (z31895 + (-1)) = 0) (h6 : p1 = -99999999 ∨ (0 ≤ p1 ∧ p1 < f_pol)) (h7 : z31920 < z31923) (h8 : 0 ≤ z31920) (h9 : z34492 = 0 ∨ z34493 < z31923) (h10 : (-1) ≤ f_R ∧ f_R ≤ 30) (h11 : 0 ≤ f_pol ∧ f_pol ≤ 12) (h12 : (-2147483648) ≤ p1 ∧ p1 ≤ 2147483647) (h13 : 0 ≤ z31894 ∧ z31894 ≤ 500) (h14 : 1 ≤ z31895 ∧ z31895 ≤ 1) (h15 : 0 ≤ z31916 ∧ z31916 ≤ 11) (h16 : 0 ≤ z31920 ∧ z31920 ≤ 29) (h17 : 0 ≤ z31923 ∧ z31923 ≤ 30) (h18 : 0 ≤ z34492 ∧ z34492 ≤ 0) (h19 : 1 ≤ z34493 ∧ z34493 ≤ 30) : (((100 * (501 - z31894)) + (34 * (z31895 + (-1)))) - 0) < N := by omega
theorem vc_X12_through_111 {N f_R f_pol p1 z31894 z31895 z31916 z31920 z31923 z34492 z34493 z34564 : Int} (h0 : (((100 * (501 - z31894)) + (34 * z31895)) - f_R) < N + 1) (h1 : 0 < z31895) (h2 : 0 ≤ z31916 ∧ z31916 < f_pol ∧ z31916 + (z31895 - 1) ≤ 11) (h3 : z31920 < z31923 ∧ z31920 = f_R) (h4 : f_R < z34493) (h5 : ¬ (z31895 + (-1)) = 0) (h6 : p1 = -99999999 ∨ (0 ≤ p1 ∧ p1 < f_pol)) (h7 : z31920 < z31923) (h8 : 0 ≤ z31920) (h9 : z34492 = 0 ∨ z34493 < z31923) (h10 : (-1) ≤ f_R ∧ f_R ≤ 30) (h11 : 0 ≤ f_pol ∧ f_pol ≤ 12) (h12 : (-2147483648) ≤ p1 ∧ p1 ≤ 2147483647) (h13 : 0 ≤ z31894 ∧ z31894 ≤ 500) (h14 : 2 ≤ z31895 ∧ z31895 ≤ 12) (h15 : 0 ≤ z31916 ∧ z31916 ≤ 11) (h16 : 0 ≤ z31920 ∧ z31920 ≤ 29) (h17 : 0 ≤ z31923 ∧ z31923 ≤ 30) (h18 : 0 ≤ z34492 ∧ z34492 ≤ 0) (h19 : 1 ≤ z34493 ∧ z34493 ≤ 30) (h20 : (-1) ≤ z34564 ∧ z34564 ≤ 30) : (((100 * (501 - z31894)) + (34 * (z31895 + (-1)))) - z34564) < N := by omega
theorem vc_X12_through_112 {f_R z31920 z31923 z34492 z34493 : Int} (h0 : z34493 < z31923) (h1 : z31920 < z31923 ∧ z31920 = f_R) (h2 : z31920 < z31923) (h3 : z34492 = 0 ∨ z34493 < z31923) (h4 : f_R < z34493) (h5 : (-1) ≤ f_R ∧ f_R ≤ 30) (h6 : 0 ≤ z31920 ∧ z31920 ≤ 29) (h7 : 0 ≤ z31923 ∧ z31923 ≤ 30) (h8 : 0 ≤ z34492 ∧ z34492 ≤ 1) (h9 : 1 ≤ z34493 ∧ z34493 ≤ 30) : 1 ≤ z34493 ∧ z34493 ≤ 29 := by omega
theorem vc_X12_through_113 {f_R z31920 z31923 z34492 z34493 : Int} (h0 : z34493 < z31923) (h1 : z31920 < z31923 ∧ z31920 = f_R) (h2 : z31920 < z31923) (h3 : z34492 = 0 ∨ z34493 < z31923) (h4 : f_R < z34493) (h5 : (-1) ≤ f_R ∧ f_R ≤ 30) (h6 : 0 ≤ z31920 ∧ z31920 ≤ 29) (h7 : 0 ≤ z31923 ∧ z31923 ≤ 30) (h8 : 0 ≤ z34492 ∧ z34492 ≤ 1) (h9 : 1 ≤ z34493 ∧ z34493 ≤ 29) : 2 ≤ z31923 ∧ z31923 ≤ 30 := by omega
theorem vc_X12_through_114 {z31923 z34492 z34493 : Int} (h0 : ¬ z34492 = 0) (h1 : z34492 = 0 ∨ z34493 < z31923) (h2 : 2 ≤ z31923 ∧ z31923 ≤ 30) (h3 : 0 ≤ z34492 ∧ z34492 ≤ 1) (h4 : 1 ≤ z34493 ∧ z34493 ≤ 29) : 1 ≤ z34492 ∧ z34492 ≤ 1 := by omega
theorem vc_X12_through_115 {z31923 z34492 z34493 : Int} (h0 : z34492 = 0) (h1 : z34492 = 0 ∨ z34493 < z31923) (h2 : 2 ≤ z31923 ∧ z31923 ≤ 30) (h3 : 0 ≤ z34492 ∧ z34492 ≤ 1) (h4 : 1 ≤ z34493 ∧ z34493 ≤ 29) : 0 ≤ z34492 ∧ z34492 ≤ 0 := by omega
theorem vc_X12_through_116 {z34623 : Int} (h0 : (301 - z34623) < ((0 : Nat) : Int)) (h1 : 0 ≤ z34623 ∧ z34623 ≤ 300) : False := by omega
theorem vc_X12_through_117 {z34624 : Int} (h0 : ¬ z34624 = 0) (h1 : 0 ≤ z34624 ∧ z34624 ≤ 1) : 1 ≤ z34624 ∧ z34624 ≤ 1 := by omega
theorem vc_X12_through_118 {f_R z31920 z31923 z34492 z34493 z34624 : Int} (h0 : z31920 < z31923 ∧ z31920 = f_R) (h1 : z31920 < z31923) (h2 : z34492 = 0 ∨ z34493 < z31923) (h3 : f_R < z34493) (h4 : z34493 < z31923) (h5 : ¬ z34624 = 0) (h6 : 0 ≤ z31920) (h7 : z34492 = 0) (h8 : (-1) ≤ f_R ∧ f_R ≤ 30) (h9 : 0 ≤ z31920 ∧ z31920 ≤ 29) (h10 : 2 ≤ z31923 ∧ z31923 ≤ 30) (h11 : 0 ≤ z34492 ∧ z34492 ≤ 0) (h12 : 1 ≤ z34493 ∧ z34493 ≤ 29) (h13 : 1 ≤ z34624 ∧ z34624 ≤ 1) : z34624 = 0 ∨ z34493 < z31923 := by omega
theorem vc_X12_through_119 {f_R z31920 z31923 z34492 z34493 : Int} (h0 : z31920 < z31923 ∧ z31920 = f_R) (h1 : z34492 = 0 ∨ z34493 < z31923) (h2 : f_R < z34493) (h3 : z34493 < z31923) (h4 : z31920 < z31923) (h5 : 0 ≤ z31920) (h6 : z34492 = 0) (h7 : (-1) ≤ f_R ∧ f_R ≤ 30) (h8 : 0 ≤ z31920 ∧ z31920 ≤ 29) (h9 : 2 ≤ z31923 ∧ z31923 ≤ 30) (h10 : 0 ≤ z34492 ∧ z34492 ≤ 0) (h11 : 1 ≤ z34493 ∧ z34493 ≤ 29) : f_R < z34493 := by omega
theorem vc_X12_through_120 {N f_R z31920 z31923 z34492 z34493 z34624 : Int} (h0 : (70 - ((2 * z34493) + z34492)) < N + 1) (h1 : z34492 = 0 ∨ z34493 < z31923) (h2 : f_R < z34493) (h3 : z34493 < z31923) (h4 : z34492 = 0) (h5 : ¬ z34624 = 0) (h6 : z31920 < z31923 ∧ z31920 = f_R) (h7 : z31920 < z31923) (h8 : (-1) ≤ f_R ∧ f_R ≤ 30) (h9 : 0 ≤ z31920 ∧ z31920 ≤ 29) (h10 : 2 ≤ z31923 ∧ z31923 ≤ 30) (h11 : 0 ≤ z34492 ∧ z34492 ≤ 0) (h12 : 1 ≤ z34493 ∧ z34493 ≤ 29) (h13 : 1 ≤ z34624 ∧ z34624 ≤ 1) : (70 - ((2 * z34493) + z34624)) < N := by omega
theorem vc_X12_through_121 {z34624 : Int} (h0 : z34624 = 0) (h1 : 0 ≤ z34624 ∧ z34624 ≤ 1) : 0 ≤ z34624 ∧ z34624 ≤ 0 := by omega
theorem vc_X12_through_122 {f_R z31920 z31923 z34492 z34493 z34624 : Int} (h0 : z31920 < z31923 ∧ z31920 = f_R) (h1 : z31920 < z31923) (h2 : z34492 = 0 ∨ z34493 < z31923) (h3 : f_R < z34493) (h4 : z34493 < z31923) (h5 : z34624 = 0) (h6 : 0 ≤ z31920) (h7 : z34492 = 0) (h8 : (-1) ≤ f_R ∧ f_R ≤ 30) (h9 : 0 ≤ z31920 ∧ z31920 ≤ 29) (h10 : 2 ≤ z31923 ∧ z31923 ≤ 30) (h11 : 0 ≤ z34492 ∧ z34492 ≤ 0) (h12 : 1 ≤ z34493 ∧ z34493 ≤ 29) (h13 : 0 ≤ z34624 ∧ z34624 ≤ 0) : z34624 = 0 ∨ (z34493 + 1) < z31923 := by omega
theorem vc_X12_through_123 {f_R z31920 z31923 z34492 z34493 : Int} (h0 : z31920 < z31923 ∧ z31920 = f_R) (h1 : z34492 = 0 ∨ z34493 < z31923) (h2 : f_R < z34493) (h3 : z34493 < z31923) (h4 : z31920 < z31923) (h5 : 0 ≤ z31920) (h6 : z34492 = 0) (h7 : (-1) ≤ f_R ∧ f_R ≤ 30) (h8 : 0 ≤ z31920 ∧ z31920 ≤ 29) (h9 : 2 ≤ z31923 ∧ z31923 ≤ 30) (h10 : 0 ≤ z34492 ∧ z34492 ≤ 0) (h11 : 1 ≤ z34493 ∧ z34493 ≤ 29) : f_R < (z34493 + 1) := by omega
theorem vc_X12_through_124 {N f_R z31920 z31923 z34492 z34493 z34624 : Int} (h0 : (70 - ((2 * z34493) + z34492)) < N + 1) (h1 : z34492 = 0 ∨ z34493 < z31923) (h2 : f_R < z34493) (h3 : z34493 < z31923) (h4 : z34492 = 0) (h5 : z34624 = 0) (h6 : z31920 < z31923 ∧ z31920 = f_R) (h7 : z31920 < z31923) (h8 : (-1) ≤ f_R ∧ f_R ≤ 30) (h9 : 0 ≤ z31920 ∧ z31920 ≤ 29) (h10 : 2 ≤ z31923 ∧ z31923 ≤ 30) (h11 : 0 ≤ z34492 ∧ z34492 ≤ 0) (h12 : 1 ≤ z34493 ∧ z34493 ≤ 29) (h13 : 0 ≤ z34624 ∧ z34624 ≤ 0) : (70 - ((2 * (z34493 + 1)) + z34624)) < N := by omega
theorem vc_X12_through_125 {z34623 z34635 : Int} (h0 : z34623 < z34635) (h1 : 0 ≤ z34623 ∧ z34623 ≤ 300) (h2 : 0 ≤ z34635 ∧ z34635 ≤ 300) : 0 ≤ z34623 ∧ z34623 ≤ 299 := by omega
theorem vc_X12_through_126 {z34623 z34635 : Int} (h0 : z34623 < z34635) (h1 : 0 ≤ z34623 ∧ z34623 ≤ 299) (h2 : 0 ≤ z34635 ∧ z34635 ≤ 300) : 1 ≤ z34635 ∧ z34635 ≤ 300 := by omega
theorem vc_X12_through_127 {z34624 : Int} (h0 : ¬ z34624 = 0) (h1 : 0 ≤ z34624 ∧ z34624 ≤ 0) : False := by omega
theorem vc_X12_through_128 {N z34623 z34635 : Int} (h0 : (301 - z34623) < N + 1) (h1 : z34623 < z34635) (h2 : 0 ≤ z34623 ∧ z34623 ≤ 299) (h3 : 1 ≤ z34635 ∧ z34635 ≤ 300) : (301 - (z34623 + 1)) < N := by omega
theorem vc_X12_through_129 {z34573 : Int} (h0 : 0 ≤ z34573 ∧ z34573 ≤ 300) : (301 - z34573) < ((302 : Nat) : Int) := by omega
theorem vc_X12_through_130 {f_R z31920 z31923 : Int} (h0 : z31920 < z31923 ∧ z31920 = f_R) (h1 : z31920 < z31923) (h2 : 0 ≤ z31920) (h3 : (-1) ≤ f_R ∧ f_R ≤ 30) (h4 : 0 ≤ z31920 ∧ z31920 ≤ 29) (h5 : 0 ≤ z31923 ∧ z31923 ≤ 30) : (0 : Int) = 0 ∨ (z31920 + 1) < z31923 := by omega
theorem vc_X12_through_131 {f_R z31920 z31923 : Int} (h0 : z31920 < z31923 ∧ z31920 = f_R) (h1 : z31920 < z31923) (h2 : 0 ≤ z31920) (h3 : (-1) ≤ f_R ∧ f_R ≤ 30) (h4 : 0 ≤ z31920 ∧ z31920 ≤ 29) (h5 : 0 ≤ z31923 ∧ z31923 ≤ 30) : f_R < (z31920 + 1) := by omega
theorem vc_X12_through_132 {f_R z31920 z31923 : Int} (h0 : z31920 < z31923 ∧ z31920 = f_R) (h1 : z31920 < z31923) (h2 : 0 ≤ z31920) (h3 : (-1) ≤ f_R ∧ f_R ≤ 30) (h4 : 0 ≤ z31920 ∧ z31920 ≤ 29) (h5 : 0 ≤ z31923 ∧ z31923 ≤ 30) : (70 - ((2 * (z31920 + 1)) + 0)) < ((69 : Nat) : Int) := by omega
theorem vc_X12_through_133  : ((1 : Int) - (1 : Int)) = (0 : Int) := by omega
theorem vc_X12_through_134 {f_x : Int} (h0 : 0 ≤ f_x) (h1 : 0 ≤ f_x ∧ f_x ≤ 9) : f_x = f_x := by omega
theorem vc_X12_through_135  : (((100 * (501 - 0)) + (34 * 1)) - (-1)) < ((50136 : Nat) : Int) := by omega
theorem vc_X12_through_136  : ((1 : Int) : Int) ≤ (0 : Int) + (1 : Int) := by omega
theorem vc_X12_through_137 {f_pol p1 : Int} (h0 : p1 = (-99999999)) (h1 : p1 = -99999999 ∨ (0 ≤ p1 ∧ p1 < f_pol)) (h2 : 0 ≤ f_pol ∧ f_pol ≤ 12) (h3 : (-2147483648) ≤ p1 ∧ p1 ≤ 2147483647) : (-99999999) ≤ p1 ∧ p1 ≤ (-99999999) := by omega
