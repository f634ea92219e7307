theorem vc_X12_cone_1 {p1 z1 z8 : Int} (h0 : z8 = 0) (h1 : (z8 = 1 → 0 ≤ p1 ∧ p1 < z1)) (h2 : (z8 = 0 → p1 < 0 ∨ z1 ≤ p1)) (h3 : (-2147483648) ≤ p1 ∧ p1 ≤ 2147483647) (h4 : 0 ≤ z1 ∧ z1 ≤ 10) (h5 : 0 ≤ z8 ∧ z8 ≤ 1) : 0 ≤ z8 ∧ z8 ≤ 0 := by omega
theorem vc_X12_cone_2 {p1 z1 z8 : Int} (h0 : (z8 = 1 → 0 ≤ p1 ∧ p1 < z1)) (h1 : (z8 = 0 → p1 < 0 ∨ z1 ≤ p1)) (h2 : z8 = 0) (h3 : (-2147483648) ≤ p1 ∧ p1 ≤ 2147483647) (h4 : 0 ≤ z1 ∧ z1 ≤ 10) (h5 : 0 ≤ z8 ∧ z8 ≤ 0) : z8 = 0 := by omega
theorem vc_X12_cone_3 {p1 z1 z8 : Int} (h0 : ¬ z8 = 0) (h1 : (z8 = 1 → 0 ≤ p1 ∧ p1 < z1)) (h2 : (z8 = 0 → p1 < 0 ∨ z1 ≤ p1)) (h3 : (-2147483648) ≤ p1 ∧ p1 ≤ 2147483647) (h4 : 0 ≤ z1 ∧ z1 ≤ 10) (h5 : 0 ≤ z8 ∧ z8 ≤ 1) : 1 ≤ z8 ∧ z8 ≤ 1 := by omega
theorem vc_X12_cone_4 {p1 z1 z8 : Int} (h0 : (z8 = 1 → 0 ≤ p1 ∧ p1 < z1)) (h1 : (z8 = 0 → p1 < 0 ∨ z1 ≤ p1)) (h2 : ¬ z8 = 0) (h3 : (-2147483648) ≤ p1 ∧ p1 ≤ 2147483647) (h4 : 0 ≤ z1 ∧ z1 ≤ 10) (h5 : 1 ≤ z8 ∧ z8 ≤ 1) : z8 = 1 := by omega
theorem vc_X12_cone_5 {p1 z1 z8 : Int} (h0 : 0 ≤ p1 ∧ p1 < z1) (h1 : (z8 = 1 → 0 ≤ p1 ∧ p1 < z1)) (h2 : (z8 = 0 → p1 < 0 ∨ z1 ≤ p1)) (h3 : (-2147483648) ≤ p1 ∧ p1 ≤ 2147483647) (h4 : 0 ≤ z1 ∧ z1 ≤ 10) (h5 : 1 ≤ z8 ∧ z8 ≤ 1) : 0 ≤ p1 ∧ p1 ≤ 9 := by omega
theorem vc_X12_cone_6 {p1 z1 z8 : Int} (h0 : 0 ≤ p1 ∧ p1 < z1) (h1 : (z8 = 1 → 0 ≤ p1 ∧ p1 < z1)) (h2 : (z8 = 0 → p1 < 0 ∨ z1 ≤ p1)) (h3 : 0 ≤ p1 ∧ p1 ≤ 9) (h4 : 0 ≤ z1 ∧ z1 ≤ 10) (h5 : 1 ≤ z8 ∧ z8 ≤ 1) : 1 ≤ z1 ∧ z1 ≤ 10 := by omega
theorem vc_X12_cone_7 {p2 : Int} (h0 : p2 = (-1)) (h1 : (-2147483648) ≤ p2 ∧ p2 ≤ 2147483647) : (-1) ≤ p2 ∧ p2 ≤ (-1) := by omega
theorem vc_X12_cone_8 {z480 : Int} (h0 : (11 - z480) < ((0 : Nat) : Int)) (h1 : 0 ≤ z480 ∧ z480 ≤ 10) : False := by omega
theorem vc_X12_cone_9 {z480 : Int} (h0 : 10 ≤ z480) (h1 : 0 ≤ z480 ∧ z480 ≤ 10) : 10 ≤ z480 ∧ z480 ≤ 10 := by omega
theorem vc_X12_cone_10 {f_c z766 : Int} (h0 : ((2 * (10 - f_c)) + z766) < ((0 : Nat) : Int)) (h1 : 0 ≤ f_c ∧ f_c ≤ 10) (h2 : 0 ≤ z766 ∧ z766 ≤ 1) : False := by omega
theorem vc_X12_cone_11 {z766 : Int} (h0 : z766 = 0) (h1 : 0 ≤ z766 ∧ z766 ≤ 1) : 0 ≤ z766 ∧ z766 ≤ 0 := by omega
theorem vc_X12_cone_12 {z981 : Int} (h0 : (11 - z981) < ((0 : Nat) : Int)) (h1 : 0 ≤ z981 ∧ z981 ≤ 10) : False := by omega
theorem vc_X12_cone_13 {p1 z1 z8 z981 : Int} (h0 : z1 ≤ z981) (h1 : (z8 = 1 → 0 ≤ p1 ∧ p1 < z1)) (h2 : (z8 = 0 → p1 < 0 ∨ z1 ≤ p1)) (h3 : 0 ≤ p1 ∧ p1 < z1) (h4 : 0 ≤ p1 ∧ p1 ≤ 9) (h5 : 1 ≤ z1 ∧ z1 ≤ 10) (h6 : 1 ≤ z8 ∧ z8 ≤ 1) (h7 : 0 ≤ z981 ∧ z981 ≤ 10) : 1 ≤ z981 ∧ z981 ≤ 10 := by omega
theorem vc_X12_cone_14 {p2 : Int} (h0 : 0 ≤ p2) (h1 : (-1) ≤ p2 ∧ p2 ≤ (-1)) : False := by omega
theorem vc_X12_cone_15 {p1 z1 z8 z981 : Int} (h0 : z981 < z1) (h1 : (z8 = 1 → 0 ≤ p1 ∧ p1 < z1)) (h2 : (z8 = 0 → p1 < 0 ∨ z1 ≤ p1)) (h3 : 0 ≤ p1 ∧ p1 < z1) (h4 : 0 ≤ p1 ∧ p1 ≤ 9) (h5 : 1 ≤ z1 ∧ z1 ≤ 10) (h6 : 1 ≤ z8 ∧ z8 ≤ 1) (h7 : 0 ≤ z981 ∧ z981 ≤ 10) : 0 ≤ z981 ∧ z981 ≤ 9 := by omega
theorem vc_X12_cone_16 {z1003 : Int} (h0 : z1003 = 0) (h1 : 0 ≤ z1003 ∧ z1003 ≤ 1) : 0 ≤ z1003 ∧ z1003 ≤ 0 := by omega
theorem vc_X12_cone_17 {N p1 z1 z8 z981 : Int} (h0 : (11 - z981) < N + 1) (h1 : z981 < z1) (h2 : (z8 = 1 → 0 ≤ p1 ∧ p1 < z1)) (h3 : (z8 = 0 → p1 < 0 ∨ z1 ≤ p1)) (h4 : 0 ≤ p1 ∧ p1 < z1) (h5 : 0 ≤ p1 ∧ p1 ≤ 9) (h6 : 1 ≤ z1 ∧ z1 ≤ 10) (h7 : 1 ≤ z8 ∧ z8 ≤ 1) (h8 : 0 ≤ z981 ∧ z981 ≤ 9) : (11 - (z981 + 1)) < N := by omega
theorem vc_X12_cone_18 {z1003 : Int} (h0 : ¬ z1003 = 0) (h1 : 0 ≤ z1003 ∧ z1003 ≤ 1) : 1 ≤ z1003 ∧ z1003 ≤ 1 := by omega
theorem vc_X12_cone_19  : (11 - 0) < ((12 : Nat) : Int) := by omega
theorem vc_X12_cone_20 {z766 : Int} (h0 : ¬ z766 = 0) (h1 : 0 ≤ z766 ∧ z766 ≤ 1) : 1 ≤ z766 ∧ z766 ≤ 1 := by omega
theorem vc_X12_cone_21 {f_c f_d z1399 z1400 : Int} (h0 : (21 - z1399) < ((0 : Nat) : Int)) (h1 : 0 ≤ f_d ∧ f_d ≤ 10) (h2 : f_c ≤ f_d) (h3 : z1400 = 0 ∨ f_c + 1 ≤ f_d) (h4 : 0 ≤ f_c ∧ f_c ≤ 10) (h5 : 0 ≤ z1399 ∧ z1399 ≤ 20) (h6 : 0 ≤ z1400 ∧ z1400 ≤ 1) : False := by omega
theorem vc_X12_cone_22 {N f_c f_d z1400 z766 : Int} (h0 : ((2 * (10 - f_c)) + z766) < N + 1) (h1 : ¬ z766 = 0) (h2 : f_c ≤ f_d) (h3 : z1400 = 0 ∨ f_c + 1 ≤ f_d) (h4 : 0 ≤ f_c ∧ f_c ≤ 10) (h5 : 0 ≤ f_d ∧ f_d ≤ 10) (h6 : 0 ≤ z1400 ∧ z1400 ≤ 1) (h7 : 1 ≤ z766 ∧ z766 ≤ 1) : ((2 * (10 - f_d)) + z1400) < N := by omega
theorem vc_X12_cone_23 {z1399 z1414 : Int} (h0 : z1399 < z1414) (h1 : 0 ≤ z1399 ∧ z1399 ≤ 20) (h2 : 0 ≤ z1414 ∧ z1414 ≤ 20) : 0 ≤ z1399 ∧ z1399 ≤ 19 := by omega
theorem vc_X12_cone_24 {z1399 z1414 : Int} (h0 : z1399 < z1414) (h1 : 0 ≤ z1399 ∧ z1399 ≤ 19) (h2 : 0 ≤ z1414 ∧ z1414 ≤ 20) : 1 ≤ z1414 ∧ z1414 ≤ 20 := by omega
theorem vc_X12_cone_25 {z1446 : Int} (h0 : ¬ z1446 = 0) (h1 : 0 ≤ z1446 ∧ z1446 ≤ 2) : 1 ≤ z1446 ∧ z1446 ≤ 2 := by omega
theorem vc_X12_cone_26 {f_c f_d z1400 : Int} (h0 : f_c ≤ f_d) (h1 : z1400 = 0 ∨ f_c + 1 ≤ f_d) (h2 : 0 ≤ f_c ∧ f_c ≤ 10) (h3 : 0 ≤ f_d ∧ f_d ≤ 10) (h4 : 0 ≤ z1400 ∧ z1400 ≤ 1) : f_c ≤ f_d := by omega
theorem vc_X12_cone_27 {f_c f_d z1400 : Int} (h0 : f_c ≤ f_d) (h1 : z1400 = 0 ∨ f_c + 1 ≤ f_d) (h2 : 0 ≤ f_c ∧ f_c ≤ 10) (h3 : 0 ≤ f_d ∧ f_d ≤ 10) (h4 : 0 ≤ z1400 ∧ z1400 ≤ 1) : z1400 = 0 ∨ f_c + 1 ≤ f_d := by omega
theorem vc_X12_cone_28 {N z1399 z1414 : Int} (h0 : (21 - z1399) < N + 1) (h1 : z1399 < z1414) (h2 : 0 ≤ z1399 ∧ z1399 ≤ 19) (h3 : 1 ≤ z1414 ∧ z1414 ≤ 20) : (21 - (z1399 + 1)) < N := by omega
theorem vc_X12_cone_29 {z1446 : Int} (h0 : z1446 = 0) (h1 : 0 ≤ z1446 ∧ z1446 ≤ 2) : 0 ≤ z1446 ∧ z1446 ≤ 0 := by omega
theorem vc_X12_cone_30 {z1476 : Int} (h0 : z1476 = 0) (h1 : 0 ≤ z1476 ∧ z1476 ≤ 1) : 0 ≤ z1476 ∧ z1476 ≤ 0 := by omega
theorem vc_X12_cone_31 {z1476 : Int} (h0 : ¬ z1476 = 0) (h1 : 0 ≤ z1476 ∧ z1476 ≤ 1) : 1 ≤ z1476 ∧ z1476 ≤ 1 := by omega
theorem vc_X12_cone_32 {z1498 : Int} (h0 : ¬ z1498 = 0) (h1 : 0 ≤ z1498 ∧ z1498 ≤ 1) : 1 ≤ z1498 ∧ z1498 ≤ 1 := by omega
theorem vc_X12_cone_33 {z1498 : Int} (h0 : z1498 = 0) (h1 : 0 ≤ z1498 ∧ z1498 ≤ 1) : 0 ≤ z1498 ∧ z1498 ≤ 0 := by omega
theorem vc_X12_cone_34 {f_c f_d z1400 z1498 : Int} (h0 : f_c ≤ f_d) (h1 : z1400 = 0 ∨ f_c + 1 ≤ f_d) (h2 : z1498 = 0) (h3 : 0 ≤ f_c ∧ f_c ≤ 10) (h4 : 0 ≤ f_d ∧ f_d ≤ 10) (h5 : 0 ≤ z1400 ∧ z1400 ≤ 1) (h6 : 0 ≤ z1498 ∧ z1498 ≤ 0) : f_c ≤ ((f_d + 1) - z1498) := by omega
theorem vc_X12_cone_35 {f_c f_d z1400 z1498 : Int} (h0 : f_c ≤ f_d) (h1 : z1400 = 0 ∨ f_c + 1 ≤ f_d) (h2 : z1498 = 0) (h3 : 0 ≤ f_c ∧ f_c ≤ 10) (h4 : 0 ≤ f_d ∧ f_d ≤ 10) (h5 : 0 ≤ z1400 ∧ z1400 ≤ 1) (h6 : 0 ≤ z1498 ∧ z1498 ≤ 0) : (1 : Int) = 0 ∨ f_c + 1 ≤ ((f_d + 1) - z1498) := by omega
theorem vc_X12_cone_36 {f_c : Int} (h0 : 0 ≤ f_c ∧ f_c ≤ 10) : f_c ≤ f_c := by omega
theorem vc_X12_cone_37 {f_c : Int} (h0 : 0 ≤ f_c ∧ f_c ≤ 10) : (0 : Int) = 0 ∨ f_c + 1 ≤ f_c := by omega
theorem vc_X12_cone_38  : (21 - 0) < ((22 : Nat) : Int) := by omega
theorem vc_X12_cone_39 {z1512 : Int} (h0 : 0 ≤ z1512 ∧ z1512 ≤ 10) : ((2 * (10 - z1512)) + 1) < ((22 : Nat) : Int) := by omega
theorem vc_X12_cone_40 {z480 : Int} (h0 : z480 < 10) (h1 : 0 ≤ z480 ∧ z480 ≤ 10) : 0 ≤ z480 ∧ z480 ≤ 9 := by omega
theorem vc_X12_cone_41 {N p1 z1 z480 z8 : Int} (h0 : (11 - z480) < N + 1) (h1 : z480 < 10) (h2 : ¬ z480 = p1) (h3 : (z8 = 1 → 0 ≤ p1 ∧ p1 < z1)) (h4 : (z8 = 0 → p1 < 0 ∨ z1 ≤ p1)) (h5 : 0 ≤ p1 ∧ p1 < z1) (h6 : 0 ≤ p1 ∧ p1 ≤ 9) (h7 : 1 ≤ z1 ∧ z1 ≤ 10) (h8 : 0 ≤ z480 ∧ z480 ≤ 9) (h9 : 1 ≤ z8 ∧ z8 ≤ 1) : (11 - (z480 + 1)) < N := by omega
theorem vc_X12_cone_42 {N p1 z1 z480 z8 : Int} (h0 : (11 - z480) < N + 1) (h1 : z480 < 10) (h2 : z480 = p1) (h3 : (z8 = 1 → 0 ≤ p1 ∧ p1 < z1)) (h4 : (z8 = 0 → p1 < 0 ∨ z1 ≤ p1)) (h5 : 0 ≤ p1 ∧ p1 < z1) (h6 : 0 ≤ p1 ∧ p1 ≤ 9) (h7 : 1 ≤ z1 ∧ z1 ≤ 10) (h8 : 0 ≤ z480 ∧ z480 ≤ 9) (h9 : 1 ≤ z8 ∧ z8 ≤ 1) : (11 - (z480 + 1)) < N := by omega
theorem vc_X12_cone_43 {p2 z1 z1527 : Int} (h0 : ¬ z1527 = 0) (h1 : (z1527 = 1 → 0 ≤ p2 ∧ p2 < z1)) (h2 : (z1527 = 0 → p2 < 0 ∨ z1 ≤ p2)) (h3 : (-2147483648) ≤ p2 ∧ p2 ≤ 2147483647) (h4 : 1 ≤ z1 ∧ z1 ≤ 10) (h5 : 0 ≤ z1527 ∧ z1527 ≤ 1) : 1 ≤ z1527 ∧ z1527 ≤ 1 := by omega
theorem vc_X12_cone_44 {p1 p2 z1 z1527 z8 : Int} (h0 : (z1527 = 1 → 0 ≤ p2 ∧ p2 < z1)) (h1 : (z1527 = 0 → p2 < 0 ∨ z1 ≤ p2)) (h2 : ¬ z1527 = 0) (h3 : (z8 = 1 → 0 ≤ p1 ∧ p1 < z1)) (h4 : (z8 = 0 → p1 < 0 ∨ z1 ≤ p1)) (h5 : 0 ≤ p1 ∧ p1 < z1) (h6 : ¬ p2 = (-1)) (h7 : 0 ≤ p1 ∧ p1 ≤ 9) (h8 : (-2147483648) ≤ p2 ∧ p2 ≤ 2147483647) (h9 : 1 ≤ z1 ∧ z1 ≤ 10) (h10 : 1 ≤ z1527 ∧ z1527 ≤ 1) (h11 : 1 ≤ z8 ∧ z8 ≤ 1) : z1527 = 1 := by omega
theorem vc_X12_cone_45 {p1 p2 z1 z1527 z8 : Int} (h0 : 0 ≤ p2 ∧ p2 < z1) (h1 : (z8 = 1 → 0 ≤ p1 ∧ p1 < z1)) (h2 : (z8 = 0 → p1 < 0 ∨ z1 ≤ p1)) (h3 : 0 ≤ p1 ∧ p1 < z1) (h4 : ¬ p2 = (-1)) (h5 : (z1527 = 1 → 0 ≤ p2 ∧ p2 < z1)) (h6 : (z1527 = 0 → p2 < 0 ∨ z1 ≤ p2)) (h7 : 0 ≤ p1 ∧ p1 ≤ 9) (h8 : (-2147483648) ≤ p2 ∧ p2 ≤ 2147483647) (h9 : 1 ≤ z1 ∧ z1 ≤ 10) (h10 : 1 ≤ z1527 ∧ z1527 ≤ 1) (h11 : 1 ≤ z8 ∧ z8 ≤ 1) : 0 ≤ p2 ∧ p2 ≤ 9 := by omega
theorem vc_X12_cone_46 {z2034 : Int} (h0 : (11 - z2034) < ((0 : Nat) : Int)) (h1 : 0 ≤ z2034 ∧ z2034 ≤ 10) : False := by omega
theorem vc_X12_cone_47 {z2034 : Int} (h0 : 10 ≤ z2034) (h1 : 0 ≤ z2034 ∧ z2034 ≤ 10) : 10 ≤ z2034 ∧ z2034 ≤ 10 := by omega
theorem vc_X12_cone_48 {f_c z2340 : Int} (h0 : ((2 * (10 - f_c)) + z2340) < ((0 : Nat) : Int)) (h1 : 0 ≤ f_c ∧ f_c ≤ 10) (h2 : 0 ≤ z2340 ∧ z2340 ≤ 1) : False := by omega
theorem vc_X12_cone_49 {z2340 : Int} (h0 : z2340 = 0) (h1 : 0 ≤ z2340 ∧ z2340 ≤ 1) : 0 ≤ z2340 ∧ z2340 ≤ 0 := by omega
theorem vc_X12_cone_50 {z2620 : Int} (h0 : (11 - z2620) < ((0 : Nat) : Int)) (h1 : 0 ≤ z2620 ∧ z2620 ≤ 10) : False := by omega
theorem vc_X12_cone_51 {p1 p2 z1 z1527 z2620 z8 : Int} (h0 : z1 ≤ z2620) (h1 : (z8 = 1 → 0 ≤ p1 ∧ p1 < z1)) (h2 : (z8 = 0 → p1 < 0 ∨ z1 ≤ p1)) (h3 : 0 ≤ p1 ∧ p1 < z1) (h4 : (z1527 = 1 → 0 ≤ p2 ∧ p2 < z1)) (h5 : (z1527 = 0 → p2 < 0 ∨ z1 ≤ p2)) (h6 : 0 ≤ p2 ∧ p2 < z1) (h7 : 0 ≤ p1 ∧ p1 ≤ 9) (h8 : 0 ≤ p2 ∧ p2 ≤ 9) (h9 : 1 ≤ z1 ∧ z1 ≤ 10) (h10 : 1 ≤ z1527 ∧ z1527 ≤ 1) (h11 : 0 ≤ z2620 ∧ z2620 ≤ 10) (h12 : 1 ≤ z8 ∧ z8 ≤ 1) : 1 ≤ z2620 ∧ z2620 ≤ 10 := by omega
theorem vc_X12_cone_52 {p2 : Int} (h0 : p2 < 0) (h1 : 0 ≤ p2 ∧ p2 ≤ 9) : False := by omega
theorem vc_X12_cone_53 {z2641 : Int} (h0 : z2641 = 0) (h1 : 0 ≤ z2641 ∧ z2641 ≤ 1) : 0 ≤ z2641 ∧ z2641 ≤ 0 := by omega
theorem vc_X12_cone_54 {z2641 : Int} (h0 : ¬ z2641 = 0) (h1 : 0 ≤ z2641 ∧ z2641 ≤ 1) : 1 ≤ z2641 ∧ z2641 ≤ 1 := by omega
theorem vc_X12_cone_55 {p1 p2 z1 z1527 z2620 z8 : Int} (h0 : z2620 < z1) (h1 : (z8 = 1 → 0 ≤ p1 ∧ p1 < z1)) (h2 : (z8 = 0 → p1 < 0 ∨ z1 ≤ p1)) (h3 : 0 ≤ p1 ∧ p1 < z1) (h4 : (z1527 = 1 → 0 ≤ p2 ∧ p2 < z1)) (h5 : (z1527 = 0 → p2 < 0 ∨ z1 ≤ p2)) (h6 : 0 ≤ p2 ∧ p2 < z1) (h7 : 0 ≤ p1 ∧ p1 ≤ 9) (h8 : 0 ≤ p2 ∧ p2 ≤ 9) (h9 : 1 ≤ z1 ∧ z1 ≤ 10) (h10 : 1 ≤ z1527 ∧ z1527 ≤ 1) (h11 : 0 ≤ z2620 ∧ z2620 ≤ 10) (h12 : 1 ≤ z8 ∧ z8 ≤ 1) : 0 ≤ z2620 ∧ z2620 ≤ 9 := by omega
theorem vc_X12_cone_56 {z2650 : Int} (h0 : z2650 = 0) (h1 : 0 ≤ z2650 ∧ z2650 ≤ 1) : 0 ≤ z2650 ∧ z2650 ≤ 0 := by omega
theorem vc_X12_cone_57 {N p1 p2 z1 z1527 z2620 z8 : Int} (h0 : (11 - z2620) < N + 1) (h1 : z2620 < z1) (h2 : (z8 = 1 → 0 ≤ p1 ∧ p1 < z1)) (h3 : (z8 = 0 → p1 < 0 ∨ z1 ≤ p1)) (h4 : 0 ≤ p1 ∧ p1 < z1) (h5 : (z1527 = 1 → 0 ≤ p2 ∧ p2 < z1)) (h6 : (z1527 = 0 → p2 < 0 ∨ z1 ≤ p2)) (h7 : 0 ≤ p2 ∧ p2 < z1) (h8 : 0 ≤ p1 ∧ p1 ≤ 9) (h9 : 0 ≤ p2 ∧ p2 ≤ 9) (h10 : 1 ≤ z1 ∧ z1 ≤ 10) (h11 : 1 ≤ z1527 ∧ z1527 ≤ 1) (h12 : 0 ≤ z2620 ∧ z2620 ≤ 9) (h13 : 1 ≤ z8 ∧ z8 ≤ 1) : (11 - (z2620 + 1)) < N := by omega
theorem vc_X12_cone_58 {z2650 : Int} (h0 : ¬ z2650 = 0) (h1 : 0 ≤ z2650 ∧ z2650 ≤ 1) : 1 ≤ z2650 ∧ z2650 ≤ 1 := by omega
theorem vc_X12_cone_59 {z2340 : Int} (h0 : ¬ z2340 = 0) (h1 : 0 ≤ z2340 ∧ z2340 ≤ 1) : 1 ≤ z2340 ∧ z2340 ≤ 1 := by omega
theorem vc_X12_cone_60 {f_c f_d z3046 z3047 : Int} (h0 : (21 - z3046) < ((0 : Nat) : Int)) (h1 : 0 ≤ f_d ∧ f_d ≤ 10) (h2 : f_c ≤ f_d) (h3 : z3047 = 0 ∨ f_c + 1 ≤ f_d) (h4 : 0 ≤ f_c ∧ f_c ≤ 10) (h5 : 0 ≤ z3046 ∧ z3046 ≤ 20) (h6 : 0 ≤ z3047 ∧ z3047 ≤ 1) : False := by omega
theorem vc_X12_cone_61 {N f_c f_d z2340 z3047 : Int} (h0 : ((2 * (10 - f_c)) + z2340) < N + 1) (h1 : ¬ z2340 = 0) (h2 : f_c ≤ f_d) (h3 : z3047 = 0 ∨ f_c + 1 ≤ f_d) (h4 : 0 ≤ f_c ∧ f_c ≤ 10) (h5 : 0 ≤ f_d ∧ f_d ≤ 10) (h6 : 1 ≤ z2340 ∧ z2340 ≤ 1) (h7 : 0 ≤ z3047 ∧ z3047 ≤ 1) : ((2 * (10 - f_d)) + z3047) < N := by omega
theorem vc_X12_cone_62 {z3046 z3061 : Int} (h0 : z3046 < z3061) (h1 : 0 ≤ z3046 ∧ z3046 ≤ 20) (h2 : 0 ≤ z3061 ∧ z3061 ≤ 20) : 0 ≤ z3046 ∧ z3046 ≤ 19 := by omega
theorem vc_X12_cone_63 {z3046 z3061 : Int} (h0 : z3046 < z3061) (h1 : 0 ≤ z3046 ∧ z3046 ≤ 19) (h2 : 0 ≤ z3061 ∧ z3061 ≤ 20) : 1 ≤ z3061 ∧ z3061 ≤ 20 := by omega
theorem vc_X12_cone_64 {z3093 : Int} (h0 : ¬ z3093 = 0) (h1 : 0 ≤ z3093 ∧ z3093 ≤ 2) : 1 ≤ z3093 ∧ z3093 ≤ 2 := by omega
theorem vc_X12_cone_65 {f_c f_d z3047 : Int} (h0 : f_c ≤ f_d) (h1 : z3047 = 0 ∨ f_c + 1 ≤ f_d) (h2 : 0 ≤ f_c ∧ f_c ≤ 10) (h3 : 0 ≤ f_d ∧ f_d ≤ 10) (h4 : 0 ≤ z3047 ∧ z3047 ≤ 1) : f_c ≤ f_d := by omega
theorem vc_X12_cone_66 {f_c f_d z3047 : Int} (h0 : f_c ≤ f_d) (h1 : z3047 = 0 ∨ f_c + 1 ≤ f_d) (h2 : 0 ≤ f_c ∧ f_c ≤ 10) (h3 : 0 ≤ f_d ∧ f_d ≤ 10) (h4 : 0 ≤ z3047 ∧ z3047 ≤ 1) : z3047 = 0 ∨ f_c + 1 ≤ f_d := by omega
theorem vc_X12_cone_67 {N z3046 z3061 : Int} (h0 : (21 - z3046) < N + 1) (h1 : z3046 < z3061) (h2 : 0 ≤ z3046 ∧ z3046 ≤ 19) (h3 : 1 ≤ z3061 ∧ z3061 ≤ 20) : (21 - (z3046 + 1)) < N := by omega
theorem vc_X12_cone_68 {z3093 : Int} (h0 : z3093 = 0) (h1 : 0 ≤ z3093 ∧ z3093 ≤ 2) : 0 ≤ z3093 ∧ z3093 ≤ 0 := by omega
theorem vc_X12_cone_69 {z3123 : Int} (h0 : z3123 = 0) (h1 : 0 ≤ z3123 ∧ z3123 ≤ 1) : 0 ≤ z3123 ∧ z3123 ≤ 0 := by omega
theorem vc_X12_cone_70 {z3123 : Int} (h0 : ¬ z3123 = 0) (h1 : 0 ≤ z3123 ∧ z3123 ≤ 1) : 1 ≤ z3123 ∧ z3123 ≤ 1 := by omega
theorem vc_X12_cone_71 {z3145 : Int} (h0 : ¬ z3145 = 0) (h1 : 0 ≤ z3145 ∧ z3145 ≤ 1) : 1 ≤ z3145 ∧ z3145 ≤ 1 := by omega
theorem vc_X12_cone_72 {z3145 : Int} (h0 : z3145 = 0) (h1 : 0 ≤ z3145 ∧ z3145 ≤ 1) : 0 ≤ z3145 ∧ z3145 ≤ 0 := by omega
theorem vc_X12_cone_73 {f_c f_d z3047 z3145 : Int} (h0 : f_c ≤ f_d) (h1 : z3047 = 0 ∨ f_c + 1 ≤ f_d) (h2 : z3145 = 0) (h3 : 0 ≤ f_c ∧ f_c ≤ 10) (h4 : 0 ≤ f_d ∧ f_d ≤ 10) (h5 : 0 ≤ z3047 ∧ z3047 ≤ 1) (h6 : 0 ≤ z3145 ∧ z3145 ≤ 0) : f_c ≤ ((f_d + 1) - z3145) := by omega
theorem vc_X12_cone_74 {f_c f_d z3047 z3145 : Int} (h0 : f_c ≤ f_d) (h1 : z3047 = 0 ∨ f_c + 1 ≤ f_d) (h2 : z3145 = 0) (h3 : 0 ≤ f_c ∧ f_c ≤ 10) (h4 : 0 ≤ f_d ∧ f_d ≤ 10) (h5 : 0 ≤ z3047 ∧ z3047 ≤ 1) (h6 : 0 ≤ z3145 ∧ z3145 ≤ 0) : (1 : Int) = 0 ∨ f_c + 1 ≤ ((f_d + 1) - z3145) := by omega
theorem vc_X12_cone_75 {z3159 : Int} (h0 : 0 ≤ z3159 ∧ z3159 ≤ 10) : ((2 * (10 - z3159)) + 1) < ((22 : Nat) : Int) := by omega
theorem vc_X12_cone_76 {z2034 : Int} (h0 : z2034 < 10) (h1 : 0 ≤ z2034 ∧ z2034 ≤ 10) : 0 ≤ z2034 ∧ z2034 ≤ 9 := by omega
theorem vc_X12_cone_77 {N p1 z1 z2034 z8 : Int} (h0 : (11 - z2034) < N + 1) (h1 : z2034 < 10) (h2 : ¬ z2034 = p1) (h3 : (z8 = 1 → 0 ≤ p1 ∧ p1 < z1)) (h4 : (z8 = 0 → p1 < 0 ∨ z1 ≤ p1)) (h5 : 0 ≤ p1 ∧ p1 < z1) (h6 : 0 ≤ p1 ∧ p1 ≤ 9) (h7 : 1 ≤ z1 ∧ z1 ≤ 10) (h8 : 0 ≤ z2034 ∧ z2034 ≤ 9) (h9 : 1 ≤ z8 ∧ z8 ≤ 1) : (11 - (z2034 + 1)) < N := by omega
theorem vc_X12_cone_78 {N p1 z1 z2034 z8 : Int} (h0 : (11 - z2034) < N + 1) (h1 : z2034 < 10) (h2 : z2034 = p1) (h3 : (z8 = 1 → 0 ≤ p1 ∧ p1 < z1)) (h4 : (z8 = 0 → p1 < 0 ∨ z1 ≤ p1)) (h5 : 0 ≤ p1 ∧ p1 < z1) (h6 : 0 ≤ p1 ∧ p1 ≤ 9) (h7 : 1 ≤ z1 ∧ z1 ≤ 10) (h8 : 0 ≤ z2034 ∧ z2034 ≤ 9) (h9 : 1 ≤ z8 ∧ z8 ≤ 1) : (11 - (z2034 + 1)) < N := by omega
theorem vc_X12_cone_79 {p2 z1 z1527 : Int} (h0 : z1527 = 0) (h1 : (z1527 = 1 → 0 ≤ p2 ∧ p2 < z1)) (h2 : (z1527 = 0 → p2 < 0 ∨ z1 ≤ p2)) (h3 : (-2147483648) ≤ p2 ∧ p2 ≤ 2147483647) (h4 : 1 ≤ z1 ∧ z1 ≤ 10) (h5 : 0 ≤ z1527 ∧ z1527 ≤ 1) : 0 ≤ z1527 ∧ z1527 ≤ 0 := by omega
theorem vc_X12_cone_80 {p1 p2 z1 z1527 z8 : Int} (h0 : (z1527 = 1 → 0 ≤ p2 ∧ p2 < z1)) (h1 : (z1527 = 0 → p2 < 0 ∨ z1 ≤ p2)) (h2 : z1527 = 0) (h3 : (z8 = 1 → 0 ≤ p1 ∧ p1 < z1)) (h4 : (z8 = 0 → p1 < 0 ∨ z1 ≤ p1)) (h5 : 0 ≤ p1 ∧ p1 < z1) (h6 : ¬ p2 = (-1)) (h7 : 0 ≤ p1 ∧ p1 ≤ 9) (h8 : (-2147483648) ≤ p2 ∧ p2 ≤ 2147483647) (h9 : 1 ≤ z1 ∧ z1 ≤ 10) (h10 : 0 ≤ z1527 ∧ z1527 ≤ 0) (h11 : 1 ≤ z8 ∧ z8 ≤ 1) : z1527 = 0 := by omega
set_option maxRecDepth 4000 in
set_option maxHeartbeats 4000000 in
theorem c_X12_cone {l : Launch} {D : va_G} {c : Nat → ClassId} {H0 : Heap} {sa : Nat × Nat × (Nat → Int32)} {w : mW} {μ : mM} (hw : mWF w) (hT : mT w μ) {p1 : Int} (hp1 : (-2147483648) ≤ p1 ∧ p1 ≤ 2147483647) {p2 : Int} (hp2 : (-2147483648) ≤ p2 ∧ p2 ≤ 2147483647) : sC (gG l D c H0 sa) mX12_cone 3 0 0 [.ref 106, iv p1, iv p2] (mk w μ) (qI w [116999] μ (fun z μ1 => ((-2147483648) ≤ z ∧ z ≤ 2147483647) ∧ True)) := by
  refine sC.of rfl (by decide) (le_t rfl) ?_
  refine mr_lvE (lv' := [(0, .ref 106), (1, iv p1), (2, iv p2)]) rfl ?_
  refine sv_aload_n (pc := 0) dX12_cone_0 rfl rfl ?_
  refine mr_iload_n (pc := 1) (z := p1) dX12_cone_1 rfl rfl ?_
  obtain ⟨z1, q2⟩ : ∃ z, μ 106 5 = z := ⟨_, rfl⟩
  have h3 : (0 ≤ z1 ∧ z1 ≤ 10) := by rw [← q2]; exact hT 106 106 (A_106 hw) 5
  refine mr_cVP (pc := 2) (c_X12_isDomain hw hT hp1 q2) (gOk _ _ _ _ _) dX12_cone_2 (tX12_isDomain _ _ _ _ _) ⟨wV_X12_isDomain, wL_X12_isDomain⟩ wM_X12_49 (gCX12 _ _ _ _ _) rfl (A_106 hw) rfl ⟨le_t rfl, le_t rfl⟩ ⟨le_t rfl, le_t rfl⟩ rfl (le_t rfl) fun z8 h7 => ?_
  refine mr_if_eq (pc := 5) (tgt := 21) dX12_cone_5 (by decide) (r32 h7.1 rfl) (fun h9 => ?_) (fun h9 => ?_)
  · have h10 : 0 ≤ z8 ∧ z8 ≤ 0 := (vc_X12_cone_1 h9 h7.2.1 h7.2.2.1 hp1 h3 h7.1)
    have h11 : p1 < 0 ∨ z1 ≤ p1 := (h7.2.2.1 (vc_X12_cone_2 h7.2.1 h7.2.2.1 h9 hp1 h3 h10))
    refine mr_iconst (pc := 21) (z := (-1)) dX12_cone_21 ?_
    exact mr_iret dX12_cone_22 rfl (le_t rfl) (le_t rfl) hT mF.refl ⟨(rW (c := (-2147483648)) (d := 2147483647) (rR (x := (-1))) rfl), trivial⟩
  have h12 : 1 ≤ z8 ∧ z8 ≤ 1 := (vc_X12_cone_3 h9 h7.2.1 h7.2.2.1 hp1 h3 h7.1)
  have h13 : 0 ≤ p1 ∧ p1 < z1 := (h7.2.1 (vc_X12_cone_4 h7.2.1 h7.2.2.1 h9 hp1 h3 h12))
  have h14 : 0 ≤ p1 ∧ p1 ≤ 9 := (vc_X12_cone_5 h13 h7.2.1 h7.2.2.1 hp1 h3 h12)
  have h15 : 1 ≤ z1 ∧ z1 ≤ 10 := (vc_X12_cone_6 h13 h7.2.1 h7.2.2.1 h14 h3 h12)
  refine mr_iload_n (pc := 8) (z := p2) dX12_cone_8 rfl rfl ?_
  refine mr_iconst (pc := 9) (z := (-1)) dX12_cone_9 ?_
  refine mr_icmp_eq (pc := 10) (tgt := 23) dX12_cone_10 (by decide) hp2 (r32 (rR (x := (-1))) rfl) (fun h16 => ?_) (fun h16 => ?_)
  · have h17 : (-1) ≤ p2 ∧ p2 ≤ (-1) := (vc_X12_cone_7 h16 hp2)
    refine mr_iconst (pc := 23) (z := 0) dX12_cone_23 ?_
    refine mr_istore_n (pc := 24) (lv' := [(3, iv 0), (0, .ref 106), (1, iv p1), (2, iv p2)]) dX12_cone_24 rfl (by decide) rfl ?_
    have L482 : ∀ (nL482 : Nat) (z480 : Int) (μ481 : mM), mT w μ481 → mF [116999] w μ μ481 → (0 ≤ z480 ∧ z480 ≤ 10) → (11 - z480) < (nL482 : Int) → sV (gG l D c H0 sa) mX12_cone (sRm 3 0 0) (sZ (gG l D c H0 sa) 0 0 (qI w [116999] μ (fun z μ1 => ((-2147483648) ≤ z ∧ z ≤ 2147483647) ∧ True))) 25 [(0, .ref 106), (1, iv p1), (2, iv p2), (3, iv z480)] [] (mk w μ481) 0 0 := by
      intro nL482
      induction nL482 with
      | zero => intro z480 μ481 T484 F485 h483 h487; exact ((vc_X12_cone_8 h487 h483)).elim
      | succ nL482 ih488 =>
        intro z480 μ481 T484 F485 h483 h487
        refine mr_iload_n (pc := 25) (z := z480) dX12_cone_25 rfl rfl ?_
        refine mr_bipush (pc := 26) (z := 10) dX12_cone_26 (by decide) ?_
        refine mr_icmp_ge (pc := 28) (tgt := 53) dX12_cone_28 (by decide) (r32 h483 rfl) (r32 (rR (x := 10)) rfl) (fun h497 => ?_) (fun h497 => ?_)
        · have h498 : 10 ≤ z480 ∧ z480 ≤ 10 := (vc_X12_cone_9 h497 h483)
          refine mr_iconst (pc := 53) (z := 1) dX12_cone_53 ?_
          refine mr_istore_n (pc := 54) (lv' := [(3, iv 1), (0, .ref 106), (1, iv p1), (2, iv p2)]) dX12_cone_54 rfl (by decide) rfl ?_
          have L768 : ∀ (nL768 : Nat) (z766 : Int) (μ767 : mM) (f_c : Int), mT w μ767 → mF [116999] w μ481 μ767 → cnt μ767 116 10 = f_c → (0 ≤ z766 ∧ z766 ≤ 1) → ((2 * (10 - f_c)) + z766) < (nL768 : Int) → sV (gG l D c H0 sa) mX12_cone (sRm 3 0 0) (sZ (gG l D c H0 sa) 0 0 (qI w [116999] μ (fun z μ1 => ((-2147483648) ≤ z ∧ z ≤ 2147483647) ∧ True))) 55 [(0, .ref 106), (2, iv p2), (3, iv z766)] [] (mk w μ767) 0 0 := by
            intro nL768
            induction nL768 with
            | zero => intro z766 μ767 f_c T770 F771 q774 h769 h773; exact ((vc_X12_cone_10 h773 (by rw [← q774]; exact cnt_rng (fun i => T770 116 116 (A_116 hw) i) 10) h769)).elim
            | succ nL768 ih775 =>
              intro z766 μ767 f_c T770 F771 q774 h769 h773
              have h776 : 0 ≤ f_c ∧ f_c ≤ 10 := by rw [← q774]; exact cnt_rng (fun i => T770 116 116 (A_116 hw) i) 10
              refine mr_iload_n (pc := 55) (z := z766) dX12_cone_55 rfl rfl ?_
              refine mr_if_eq (pc := 56) (tgt := 147) dX12_cone_56 (by decide) (r32 h769 rfl) (fun h849 => ?_) (fun h849 => ?_)
              · have h850 : 0 ≤ z766 ∧ z766 ≤ 0 := (vc_X12_cone_11 h849 h769)
                refine mr_iconst (pc := 147) (z := 0) dX12_cone_147 ?_
                refine mr_istore (pc := 148) (lv' := [(4, iv 0), (0, .ref 106), (2, iv p2), (3, iv z766)]) dX12_cone_148 (by decide) rfl ?_
                refine mr_iconst (pc := 150) (z := 0) dX12_cone_150 ?_
                refine mr_istore (pc := 151) (lv' := [(5, iv 0), (4, iv 0), (0, .ref 106), (2, iv p2), (3, iv z766)]) dX12_cone_151 (by decide) rfl ?_
                have L983 : ∀ (nL983 : Nat) (z982 z981 : Int), True → ((-2147483648) ≤ z982 ∧ z982 ≤ 2147483647) → (0 ≤ z981 ∧ z981 ≤ 10) → (11 - z981) < (nL983 : Int) → sV (gG l D c H0 sa) mX12_cone (sRm 3 0 0) (sZ (gG l D c H0 sa) 0 0 (qI w [116999] μ (fun z μ1 => ((-2147483648) ≤ z ∧ z ≤ 2147483647) ∧ True))) 153 [(0, .ref 106), (2, iv p2), (4, iv z982), (5, iv z981)] [] (mk w μ767) 0 0 := by
                  intro nL983
                  induction nL983 with
                  | zero => intro z982 z981 _ h984 h985 h989; exact ((vc_X12_cone_12 h989 h985)).elim
                  | succ nL983 ih990 =>
                    intro z982 z981 _ h984 h985 h989
                    refine mr_iload (pc := 153) (z := z981) dX12_cone_153 rfl ?_
                    refine sv_aload_n (pc := 155) dX12_cone_155 rfl rfl ?_
                    refine gk_X12_5 (pc := 156) dX12_cone_156 wF_X12_34 (A_106 hw) (F771.f (A_106 hw) rfl (F485.f (A_106 hw) rfl q2)) ?_
                    refine mr_icmp_ge (pc := 159) (tgt := 188) dX12_cone_159 (by decide) (r32 h985 rfl) (r32 h15 rfl) (fun h1000 => ?_) (fun h1000 => ?_)
                    · have h1001 : 1 ≤ z981 ∧ z981 ≤ 10 := (vc_X12_cone_13 h1000 h7.2.1 h7.2.2.1 h13 h14 h15 h12 h985)
                      refine mr_iload_n (pc := 188) (z := p2) dX12_cone_188 rfl rfl ?_
                      refine mr_if_ge (pc := 189) (tgt := 197) dX12_cone_189 (by decide) (r32 h17 rfl) (fun h => ((vc_X12_cone_14 h h17)).elim) (fun _ => ?_)
                      refine mr_iload (pc := 192) (z := z982) dX12_cone_192 rfl ?_
                      refine sv_goto (pc := 194) (tgt := 211) dX12_cone_194 (by decide) ?_
                      exact mr_iret dX12_cone_211 rfl (le_t rfl) (le_t rfl) T770 (mF.call (mF.call mF.refl F485 rfl) F771 rfl) ⟨h984, trivial⟩
                    have h1002 : 0 ≤ z981 ∧ z981 ≤ 9 := (vc_X12_cone_15 h1000 h7.2.1 h7.2.2.1 h13 h14 h15 h12 h985)
                    refine mr_iload (pc := 162) (z := z982) dX12_cone_162 rfl ?_
                    refine sv_aload_n (pc := 164) dX12_cone_164 rfl rfl ?_
                    refine gf_X12_13 (pc := 165) dX12_cone_165 wF_X12_69 (A_106 hw) T770 ?_
                    refine mr_iload (pc := 168) (z := z981) dX12_cone_168 rfl ?_
                    refine la_116 (pc := 170) dX12_cone_170 (A_116 hw) T770 (rIx (n := 10) h1002 rfl) fun z1003 q1004 h1005 => ?_
                    refine mr_if_eq (pc := 171) (tgt := 178) dX12_cone_171 (by decide) (r32 h1005 rfl) (fun h1008 => ?_) (fun h1008 => ?_)
                    · have h1009 : 0 ≤ z1003 ∧ z1003 ≤ 0 := (vc_X12_cone_16 h1008 h1005)
                      refine mr_iconst (pc := 178) (z := 0) dX12_cone_178 ?_
                      refine mr_iadd (pc := 179) (x := z982) (y := 0) dX12_cone_179 ?_
                      refine mr_istore (pc := 180) (lv' := [(4, iv (z982 + 0)), (0, .ref 106), (2, iv p2), (5, iv z981)]) dX12_cone_180 (by decide) rfl ?_
                      refine mr_iinc (pc := 182) (lv' := [(5, iv (z981 + 1)), (4, iv (z982 + 0)), (0, .ref 106), (2, iv p2)]) dX12_cone_182 rfl (by decide) rfl ?_
                      refine sv_goto (pc := 185) (tgt := 153) dX12_cone_185 (by decide) ?_
                      refine mr_lvS (lv' := [(0, .ref 106), (2, iv p2), (4, iv (z982 + 0)), (5, iv (z981 + 1))]) (List.forall_mem_cons.mpr ⟨rfl, List.forall_mem_cons.mpr ⟨rfl, List.forall_mem_cons.mpr ⟨rfl, List.forall_mem_cons.mpr ⟨rfl, fun _ h => absurd h List.not_mem_nil⟩⟩⟩⟩) ?_
                      exact ih990 (z982 + 0) (z981 + 1) trivial (rAdd (e := (-2147483648)) (f := 2147483647) h984 (rR (x := 0)) rfl) (rW (c := 0) (d := 10) (rAdd (e := 1) (f := 10) h1002 (rR (x := 1)) rfl) rfl) (vc_X12_cone_17 (nS h989) h1000 h7.2.1 h7.2.2.1 h13 h14 h15 h12 h1002)
                    have h1010 : 1 ≤ z1003 ∧ z1003 ≤ 1 := (vc_X12_cone_18 h1008 h1005)
                    refine mr_iconst (pc := 174) (z := 1) dX12_cone_174 ?_
                    refine sv_goto (pc := 175) (tgt := 179) dX12_cone_175 (by decide) ?_
                    refine mr_iadd (pc := 179) (x := z982) (y := 1) dX12_cone_179 ?_
                    refine mr_wrap fun z1011 h1012 => ?_
                    refine mr_istore (pc := 180) (lv' := [(4, iv z1011), (0, .ref 106), (2, iv p2), (5, iv z981)]) dX12_cone_180 (by decide) rfl ?_
                    refine mr_iinc (pc := 182) (lv' := [(5, iv (z981 + 1)), (4, iv z1011), (0, .ref 106), (2, iv p2)]) dX12_cone_182 rfl (by decide) rfl ?_
                    refine sv_goto (pc := 185) (tgt := 153) dX12_cone_185 (by decide) ?_
                    refine mr_lvS (lv' := [(0, .ref 106), (2, iv p2), (4, iv z1011), (5, iv (z981 + 1))]) (List.forall_mem_cons.mpr ⟨rfl, List.forall_mem_cons.mpr ⟨rfl, List.forall_mem_cons.mpr ⟨rfl, List.forall_mem_cons.mpr ⟨rfl, fun _ h => absurd h List.not_mem_nil⟩⟩⟩⟩) ?_
                    exact ih990 z1011 (z981 + 1) trivial h1012 (rW (c := 0) (d := 10) (rAdd (e := 1) (f := 10) h1002 (rR (x := 1)) rfl) rfl) (vc_X12_cone_17 (nS h989) h1000 h7.2.1 h7.2.2.1 h13 h14 h15 h12 h1002)
                refine mr_lvS (lv' := [(0, .ref 106), (2, iv p2), (4, iv 0), (5, iv 0)]) (List.forall_mem_cons.mpr ⟨rfl, List.forall_mem_cons.mpr ⟨rfl, List.forall_mem_cons.mpr ⟨rfl, List.forall_mem_cons.mpr ⟨rfl, fun _ h => absurd h List.not_mem_nil⟩⟩⟩⟩) ?_
                exact L983 12 0 0 trivial (rW (c := (-2147483648)) (d := 2147483647) (rR (x := 0)) rfl) (rW (c := 0) (d := 10) (rR (x := 0)) rfl) vc_X12_cone_19
              have h1013 : 1 ≤ z766 ∧ z766 ≤ 1 := (vc_X12_cone_20 h849 h769)
              refine mr_iconst (pc := 59) (z := 0) dX12_cone_59 ?_
              refine mr_istore_n (pc := 60) (lv' := [(3, iv 0), (0, .ref 106), (2, iv p2)]) dX12_cone_60 rfl (by decide) rfl ?_
              refine mr_iconst (pc := 61) (z := 0) dX12_cone_61 ?_
              refine mr_istore (pc := 62) (lv' := [(4, iv 0), (3, iv 0), (0, .ref 106), (2, iv p2)]) dX12_cone_62 (by decide) rfl ?_
              have L1402 : ∀ (nL1402 : Nat) (z1400 z1399 : Int) (μ1401 : mM) (f_d : Int), mT w μ1401 → mF [116999] w μ767 μ1401 → cnt μ1401 116 10 = f_d → (0 ≤ z1400 ∧ z1400 ≤ 1) → (0 ≤ z1399 ∧ z1399 ≤ 20) → (f_c ≤ f_d) → (z1400 = 0 ∨ f_c + 1 ≤ f_d) → (21 - z1399) < (nL1402 : Int) → sV (gG l D c H0 sa) mX12_cone (sRm 3 0 0) (sZ (gG l D c H0 sa) 0 0 (qI w [116999] μ (fun z μ1 => ((-2147483648) ≤ z ∧ z ≤ 2147483647) ∧ True))) 64 [(0, .ref 106), (2, iv p2), (3, iv z1400), (4, iv z1399)] [] (mk w μ1401) 0 0 := by
                intro nL1402
                induction nL1402 with
                | zero => intro z1400 z1399 μ1401 f_d T1405 F1406 q1411 h1403 h1404 h1408 h1409 h1410; exact ((vc_X12_cone_21 h1410 (by rw [← q1411]; exact cnt_rng (fun i => T1405 116 116 (A_116 hw) i) 10) h1408 h1409 h776 h1404 h1403)).elim
                | succ nL1402 ih1412 =>
                  intro z1400 z1399 μ1401 f_d T1405 F1406 q1411 h1403 h1404 h1408 h1409 h1410
                  have h1413 : 0 ≤ f_d ∧ f_d ≤ 10 := by rw [← q1411]; exact cnt_rng (fun i => T1405 116 116 (A_116 hw) i) 10
                  refine mr_iload (pc := 64) (z := z1399) dX12_cone_64 rfl ?_
                  refine sv_aload_n (pc := 66) dX12_cone_66 rfl rfl ?_
                  refine gf_X12_6 (pc := 67) dX12_cone_67 wF_X12_37 (A_106 hw) T1405 fun z1414 q1415 h1416 => ?_
                  refine mr_icmp_ge (pc := 70) (tgt := 144) dX12_cone_70 (by decide) (r32 h1404 rfl) (r32 h1416 rfl) (fun h1443 => ?_) (fun h1443 => ?_)
                  · refine sv_goto (pc := 144) (tgt := 55) dX12_cone_144 (by decide) ?_
                    refine mr_lvS (lv' := [(0, .ref 106), (2, iv p2), (3, iv z1400)]) (List.forall_mem_cons.mpr ⟨rfl, List.forall_mem_cons.mpr ⟨rfl, List.forall_mem_cons.mpr ⟨rfl, fun _ h => absurd h List.not_mem_nil⟩⟩⟩) ?_
                    exact ih775 z1400 μ1401 f_d T1405 (mF.call (mF.call mF.refl F771 rfl) F1406 rfl) q1411 h1403 (vc_X12_cone_22 (nS h773) h849 h1408 h1409 h776 h1413 h1403 h1013)
                  have h1444 : 0 ≤ z1399 ∧ z1399 ≤ 19 := (vc_X12_cone_23 h1443 h1404 h1416)
                  have h1445 : 1 ≤ z1414 ∧ z1414 ≤ 20 := (vc_X12_cone_24 h1443 h1444 h1416)
                  refine sv_aload_n (pc := 73) dX12_cone_73 rfl rfl ?_
                  refine gf_X12_8 (pc := 74) dX12_cone_74 wF_X12_46 (A_106 hw) T1405 ?_
                  refine mr_iload (pc := 77) (z := z1399) dX12_cone_77 rfl ?_
                  refine la_111 (pc := 79) dX12_cone_79 (A_111 hw) T1405 (rIx (n := 20) h1444 rfl) fun z1446 q1447 h1448 => ?_
                  refine mr_if_ne (pc := 80) (tgt := 138) dX12_cone_80 (by decide) (r32 h1448 rfl) (fun h1470 => ?_) (fun h1470 => ?_)
                  · have h1471 : 1 ≤ z1446 ∧ z1446 ≤ 2 := (vc_X12_cone_25 h1470 h1448)
                    refine mr_iinc (pc := 138) (lv' := [(4, iv (z1399 + 1)), (0, .ref 106), (2, iv p2), (3, iv z1400)]) dX12_cone_138 rfl (by decide) rfl ?_
                    refine sv_goto (pc := 141) (tgt := 64) dX12_cone_141 (by decide) ?_
                    refine mr_lvS (lv' := [(0, .ref 106), (2, iv p2), (3, iv z1400), (4, iv (z1399 + 1))]) (List.forall_mem_cons.mpr ⟨rfl, List.forall_mem_cons.mpr ⟨rfl, List.forall_mem_cons.mpr ⟨rfl, List.forall_mem_cons.mpr ⟨rfl, fun _ h => absurd h List.not_mem_nil⟩⟩⟩⟩) ?_
                    exact ih1412 z1400 (z1399 + 1) μ1401 f_d T1405 (mF.call mF.refl F1406 rfl) q1411 h1403 (rW (c := 0) (d := 20) (rAdd (e := 1) (f := 20) h1444 (rR (x := 1)) rfl) rfl) (vc_X12_cone_26 h1408 h1409 h776 h1413 h1403) (vc_X12_cone_27 h1408 h1409 h776 h1413 h1403) (vc_X12_cone_28 (nS h1410) h1443 h1444 h1445)
                  have h1472 : 0 ≤ z1446 ∧ z1446 ≤ 0 := (vc_X12_cone_29 h1470 h1448)
                  refine sv_aload_n (pc := 83) dX12_cone_83 rfl rfl ?_
                  refine gf_X12_13 (pc := 84) dX12_cone_84 wF_X12_69 (A_106 hw) T1405 ?_
                  refine sv_aload_n (pc := 87) dX12_cone_87 rfl rfl ?_
                  refine gf_X12_7 (pc := 88) dX12_cone_88 wF_X12_40 (A_106 hw) T1405 ?_
                  refine mr_iconst (pc := 91) (z := 2) dX12_cone_91 ?_
                  refine mr_iload (pc := 92) (z := z1399) dX12_cone_92 rfl ?_
                  refine mr_imul (pc := 94) (x := 2) (y := z1399) dX12_cone_94 ?_
                  refine la_110 (pc := 95) dX12_cone_95 (A_110 hw) T1405 (rIx (n := 40) (rMulL (n := 2) (e := 0) (f := 38) h1444 rfl) rfl) fun z1473 q1474 h1475 => ?_
                  refine la_116 (pc := 96) dX12_cone_96 (A_116 hw) T1405 (rIx (n := 10) h1475 rfl) fun z1476 q1477 h1478 => ?_
                  refine mr_if_eq (pc := 97) (tgt := 138) dX12_cone_97 (by decide) (r32 h1478 rfl) (fun h1492 => ?_) (fun h1492 => ?_)
                  · have h1493 : 0 ≤ z1476 ∧ z1476 ≤ 0 := (vc_X12_cone_30 h1492 h1478)
                    refine mr_iinc (pc := 138) (lv' := [(4, iv (z1399 + 1)), (0, .ref 106), (2, iv p2), (3, iv z1400)]) dX12_cone_138 rfl (by decide) rfl ?_
                    refine sv_goto (pc := 141) (tgt := 64) dX12_cone_141 (by decide) ?_
                    refine mr_lvS (lv' := [(0, .ref 106), (2, iv p2), (3, iv z1400), (4, iv (z1399 + 1))]) (List.forall_mem_cons.mpr ⟨rfl, List.forall_mem_cons.mpr ⟨rfl, List.forall_mem_cons.mpr ⟨rfl, List.forall_mem_cons.mpr ⟨rfl, fun _ h => absurd h List.not_mem_nil⟩⟩⟩⟩) ?_
                    exact ih1412 z1400 (z1399 + 1) μ1401 f_d T1405 (mF.call mF.refl F1406 rfl) q1411 h1403 (rW (c := 0) (d := 20) (rAdd (e := 1) (f := 20) h1444 (rR (x := 1)) rfl) rfl) (vc_X12_cone_26 h1408 h1409 h776 h1413 h1403) (vc_X12_cone_27 h1408 h1409 h776 h1413 h1403) (vc_X12_cone_28 (nS h1410) h1443 h1444 h1445)
                  have h1494 : 1 ≤ z1476 ∧ z1476 ≤ 1 := (vc_X12_cone_31 h1492 h1478)
                  refine sv_aload_n (pc := 100) dX12_cone_100 rfl rfl ?_
                  refine gf_X12_13 (pc := 101) dX12_cone_101 wF_X12_69 (A_106 hw) T1405 ?_
                  refine sv_aload_n (pc := 104) dX12_cone_104 rfl rfl ?_
                  refine gf_X12_7 (pc := 105) dX12_cone_105 wF_X12_40 (A_106 hw) T1405 ?_
                  refine mr_iconst (pc := 108) (z := 2) dX12_cone_108 ?_
                  refine mr_iload (pc := 109) (z := z1399) dX12_cone_109 rfl ?_
                  refine mr_imul (pc := 111) (x := 2) (y := z1399) dX12_cone_111 ?_
                  refine mr_iconst (pc := 112) (z := 1) dX12_cone_112 ?_
                  refine mr_iadd (pc := 113) (x := (2 * z1399)) (y := 1) dX12_cone_113 ?_
                  refine la_110 (pc := 114) dX12_cone_114 (A_110 hw) T1405 (rIx (n := 40) (rAdd (e := 1) (f := 39) (rMulL (n := 2) (e := 0) (f := 38) h1444 rfl) (rR (x := 1)) rfl) rfl) fun z1495 q1496 h1497 => ?_
                  refine la_116 (pc := 115) dX12_cone_115 (A_116 hw) T1405 (rIx (n := 10) h1497 rfl) fun z1498 q1499 h1500 => ?_
                  refine mr_if_ne (pc := 116) (tgt := 138) dX12_cone_116 (by decide) (r32 h1500 rfl) (fun h1506 => ?_) (fun h1506 => ?_)
                  · have h1507 : 1 ≤ z1498 ∧ z1498 ≤ 1 := (vc_X12_cone_32 h1506 h1500)
                    refine mr_iinc (pc := 138) (lv' := [(4, iv (z1399 + 1)), (0, .ref 106), (2, iv p2), (3, iv z1400)]) dX12_cone_138 rfl (by decide) rfl ?_
                    refine sv_goto (pc := 141) (tgt := 64) dX12_cone_141 (by decide) ?_
                    refine mr_lvS (lv' := [(0, .ref 106), (2, iv p2), (3, iv z1400), (4, iv (z1399 + 1))]) (List.forall_mem_cons.mpr ⟨rfl, List.forall_mem_cons.mpr ⟨rfl, List.forall_mem_cons.mpr ⟨rfl, List.forall_mem_cons.mpr ⟨rfl, fun _ h => absurd h List.not_mem_nil⟩⟩⟩⟩) ?_
                    exact ih1412 z1400 (z1399 + 1) μ1401 f_d T1405 (mF.call mF.refl F1406 rfl) q1411 h1403 (rW (c := 0) (d := 20) (rAdd (e := 1) (f := 20) h1444 (rR (x := 1)) rfl) rfl) (vc_X12_cone_26 h1408 h1409 h776 h1413 h1403) (vc_X12_cone_27 h1408 h1409 h776 h1413 h1403) (vc_X12_cone_28 (nS h1410) h1443 h1444 h1445)
                  have h1508 : 0 ≤ z1498 ∧ z1498 ≤ 0 := (vc_X12_cone_33 h1506 h1500)
                  refine sv_aload_n (pc := 119) dX12_cone_119 rfl rfl ?_
                  refine gf_X12_13 (pc := 120) dX12_cone_120 wF_X12_69 (A_106 hw) T1405 ?_
                  refine sv_aload_n (pc := 123) dX12_cone_123 rfl rfl ?_
                  refine gf_X12_7 (pc := 124) dX12_cone_124 wF_X12_40 (A_106 hw) T1405 ?_
                  refine mr_iconst (pc := 127) (z := 2) dX12_cone_127 ?_
                  refine mr_iload (pc := 128) (z := z1399) dX12_cone_128 rfl ?_
                  refine mr_imul (pc := 130) (x := 2) (y := z1399) dX12_cone_130 ?_
                  refine mr_iconst (pc := 131) (z := 1) dX12_cone_131 ?_
                  refine mr_iadd (pc := 132) (x := (2 * z1399)) (y := 1) dX12_cone_132 ?_
                  refine lk_110 (pc := 133) dX12_cone_133 (A_110 hw) (rIx (n := 40) (rAdd (e := 1) (f := 39) (rMulL (n := 2) (e := 0) (f := 38) h1444 rfl) (rR (x := 1)) rfl) rfl) q1496 ?_
                  refine mr_iconst (pc := 134) (z := 1) dX12_cone_134 ?_
                  refine ss_116 (pc := 135) dX12_cone_135 (A_116 hw) T1405 (rIx (n := 10) h1497 rfl) (rW (c := 0) (d := 1) (rR (x := 1)) rfl) fun μ1509 u1510 T1511 => ?_
                  refine mr_iconst (pc := 136) (z := 1) dX12_cone_136 ?_
                  refine mr_istore_n (pc := 137) (lv' := [(3, iv 1), (0, .ref 106), (2, iv p2), (4, iv z1399)]) dX12_cone_137 rfl (by decide) rfl ?_
                  refine mr_iinc (pc := 138) (lv' := [(4, iv (z1399 + 1)), (3, iv 1), (0, .ref 106), (2, iv p2)]) dX12_cone_138 rfl (by decide) rfl ?_
                  refine sv_goto (pc := 141) (tgt := 64) dX12_cone_141 (by decide) ?_
                  refine mr_lvS (lv' := [(0, .ref 106), (2, iv p2), (3, iv 1), (4, iv (z1399 + 1))]) (List.forall_mem_cons.mpr ⟨rfl, List.forall_mem_cons.mpr ⟨rfl, List.forall_mem_cons.mpr ⟨rfl, List.forall_mem_cons.mpr ⟨rfl, fun _ h => absurd h List.not_mem_nil⟩⟩⟩⟩) ?_
                  exact ih1412 1 (z1399 + 1) μ1509 ((f_d + 1) - z1498) T1511 (mF.up (mF.call mF.refl F1406 rfl) (A_116 hw) u1510 rfl) (cntU u1510 (rIx (n := 10) h1497 rfl) rfl q1411 q1499) (rW (c := 0) (d := 1) (rR (x := 1)) rfl) (rW (c := 0) (d := 20) (rAdd (e := 1) (f := 20) h1444 (rR (x := 1)) rfl) rfl) (vc_X12_cone_34 h1408 h1409 h1506 h776 h1413 h1403 h1508) (vc_X12_cone_35 h1408 h1409 h1506 h776 h1413 h1403 h1508) (vc_X12_cone_28 (nS h1410) h1443 h1444 h1445)
              refine mr_lvS (lv' := [(0, .ref 106), (2, iv p2), (3, iv 0), (4, iv 0)]) (List.forall_mem_cons.mpr ⟨rfl, List.forall_mem_cons.mpr ⟨rfl, List.forall_mem_cons.mpr ⟨rfl, List.forall_mem_cons.mpr ⟨rfl, fun _ h => absurd h List.not_mem_nil⟩⟩⟩⟩) ?_
              exact L1402 22 0 0 μ767 f_c T770 mF.refl q774 (rW (c := 0) (d := 1) (rR (x := 0)) rfl) (rW (c := 0) (d := 20) (rR (x := 0)) rfl) (vc_X12_cone_36 h776) (vc_X12_cone_37 h776) vc_X12_cone_38
          obtain ⟨z1512, q1513⟩ : ∃ z, cnt μ481 116 10 = z := ⟨_, rfl⟩
          have h1514 : 0 ≤ z1512 ∧ z1512 ≤ 10 := by rw [← q1513]; exact cnt_rng (fun i => T484 116 116 (A_116 hw) i) 10
          refine mr_lvS (lv' := [(0, .ref 106), (2, iv p2), (3, iv 1)]) (List.forall_mem_cons.mpr ⟨rfl, List.forall_mem_cons.mpr ⟨rfl, List.forall_mem_cons.mpr ⟨rfl, fun _ h => absurd h List.not_mem_nil⟩⟩⟩) ?_
          exact L768 22 1 μ481 z1512 T484 mF.refl q1513 (rW (c := 0) (d := 1) (rR (x := 1)) rfl) (vc_X12_cone_39 h1514)
        have h1515 : 0 ≤ z480 ∧ z480 ≤ 9 := (vc_X12_cone_40 h497 h483)
        refine sv_aload_n (pc := 31) dX12_cone_31 rfl rfl ?_
        refine gf_X12_13 (pc := 32) dX12_cone_32 wF_X12_69 (A_106 hw) T484 ?_
        refine mr_iload_n (pc := 35) (z := z480) dX12_cone_35 rfl rfl ?_
        refine mr_iload_n (pc := 36) (z := z480) dX12_cone_36 rfl rfl ?_
        refine mr_iload_n (pc := 37) (z := p1) dX12_cone_37 rfl rfl ?_
        refine mr_icmp_ne (pc := 38) (tgt := 45) dX12_cone_38 (by decide) (r32 h1515 rfl) (r32 h14 rfl) (fun h1516 => ?_) (fun h1516 => ?_)
        · refine mr_iconst (pc := 45) (z := 0) dX12_cone_45 ?_
          refine ss_116 (pc := 46) dX12_cone_46 (A_116 hw) T484 (rIx (n := 10) h1515 rfl) (rW (c := 0) (d := 1) (rR (x := 0)) rfl) fun μ1517 u1518 T1519 => ?_
          refine mr_iinc (pc := 47) (lv' := [(3, iv (z480 + 1)), (0, .ref 106), (1, iv p1), (2, iv p2)]) dX12_cone_47 rfl (by decide) rfl ?_
          refine sv_goto (pc := 50) (tgt := 25) dX12_cone_50 (by decide) ?_
          refine mr_lvS (lv' := [(0, .ref 106), (1, iv p1), (2, iv p2), (3, iv (z480 + 1))]) (List.forall_mem_cons.mpr ⟨rfl, List.forall_mem_cons.mpr ⟨rfl, List.forall_mem_cons.mpr ⟨rfl, List.forall_mem_cons.mpr ⟨rfl, fun _ h => absurd h List.not_mem_nil⟩⟩⟩⟩) ?_
          exact ih488 (z480 + 1) μ1517 T1519 (mF.up (mF.call mF.refl F485 rfl) (A_116 hw) u1518 rfl) (rW (c := 0) (d := 10) (rAdd (e := 1) (f := 10) h1515 (rR (x := 1)) rfl) rfl) (vc_X12_cone_41 (nS h487) h497 h1516 h7.2.1 h7.2.2.1 h13 h14 h15 h1515 h12)
        refine mr_iconst (pc := 41) (z := 1) dX12_cone_41 ?_
        refine sv_goto (pc := 42) (tgt := 46) dX12_cone_42 (by decide) ?_
        refine ss_116 (pc := 46) dX12_cone_46 (A_116 hw) T484 (rIx (n := 10) h1515 rfl) (rW (c := 0) (d := 1) (rR (x := 1)) rfl) fun μ1520 u1521 T1522 => ?_
        refine mr_iinc (pc := 47) (lv' := [(3, iv (z480 + 1)), (0, .ref 106), (1, iv p1), (2, iv p2)]) dX12_cone_47 rfl (by decide) rfl ?_
        refine sv_goto (pc := 50) (tgt := 25) dX12_cone_50 (by decide) ?_
        refine mr_lvS (lv' := [(0, .ref 106), (1, iv p1), (2, iv p2), (3, iv (z480 + 1))]) (List.forall_mem_cons.mpr ⟨rfl, List.forall_mem_cons.mpr ⟨rfl, List.forall_mem_cons.mpr ⟨rfl, List.forall_mem_cons.mpr ⟨rfl, fun _ h => absurd h List.not_mem_nil⟩⟩⟩⟩) ?_
        exact ih488 (z480 + 1) μ1520 T1522 (mF.up (mF.call mF.refl F485 rfl) (A_116 hw) u1521 rfl) (rW (c := 0) (d := 10) (rAdd (e := 1) (f := 10) h1515 (rR (x := 1)) rfl) rfl) (vc_X12_cone_42 (nS h487) h497 h1516 h7.2.1 h7.2.2.1 h13 h14 h15 h1515 h12)
    refine mr_lvS (lv' := [(0, .ref 106), (1, iv p1), (2, iv p2), (3, iv 0)]) (List.forall_mem_cons.mpr ⟨rfl, List.forall_mem_cons.mpr ⟨rfl, List.forall_mem_cons.mpr ⟨rfl, List.forall_mem_cons.mpr ⟨rfl, fun _ h => absurd h List.not_mem_nil⟩⟩⟩⟩) ?_
    exact L482 12 0 μ hT mF.refl (rW (c := 0) (d := 10) (rR (x := 0)) rfl) vc_X12_cone_19
  refine sv_aload_n (pc := 13) dX12_cone_13 rfl rfl ?_
  refine mr_iload_n (pc := 14) (z := p2) dX12_cone_14 rfl rfl ?_
  refine mr_cVP (pc := 15) (c_X12_isDomain hw hT hp2 q2) (gOk _ _ _ _ _) dX12_cone_15 (tX12_isDomain _ _ _ _ _) ⟨wV_X12_isDomain, wL_X12_isDomain⟩ wM_X12_49 (gCX12 _ _ _ _ _) rfl (A_106 hw) rfl ⟨le_t rfl, le_t rfl⟩ ⟨le_t rfl, le_t rfl⟩ rfl (le_t rfl) fun z1527 h1526 => ?_
  refine mr_if_ne (pc := 18) (tgt := 23) dX12_cone_18 (by decide) (r32 h1526.1 rfl) (fun h1528 => ?_) (fun h1528 => ?_)
  · have h1529 : 1 ≤ z1527 ∧ z1527 ≤ 1 := (vc_X12_cone_43 h1528 h1526.2.1 h1526.2.2.1 hp2 h15 h1526.1)
    have h1530 : 0 ≤ p2 ∧ p2 < z1 := (h1526.2.1 (vc_X12_cone_44 h1526.2.1 h1526.2.2.1 h1528 h7.2.1 h7.2.2.1 h13 h16 h14 hp2 h15 h1529 h12))
    have h1531 : 0 ≤ p2 ∧ p2 ≤ 9 := (vc_X12_cone_45 h1530 h7.2.1 h7.2.2.1 h13 h16 h1526.2.1 h1526.2.2.1 h14 hp2 h15 h1529 h12)
    refine mr_iconst (pc := 23) (z := 0) dX12_cone_23 ?_
    refine mr_istore_n (pc := 24) (lv' := [(3, iv 0), (0, .ref 106), (1, iv p1), (2, iv p2)]) dX12_cone_24 rfl (by decide) rfl ?_
    have L2036 : ∀ (nL2036 : Nat) (z2034 : Int) (μ2035 : mM), mT w μ2035 → mF [116999] w μ μ2035 → (0 ≤ z2034 ∧ z2034 ≤ 10) → (11 - z2034) < (nL2036 : Int) → sV (gG l D c H0 sa) mX12_cone (sRm 3 0 0) (sZ (gG l D c H0 sa) 0 0 (qI w [116999] μ (fun z μ1 => ((-2147483648) ≤ z ∧ z ≤ 2147483647) ∧ True))) 25 [(0, .ref 106), (1, iv p1), (2, iv p2), (3, iv z2034)] [] (mk w μ2035) 0 0 := by
      intro nL2036
      induction nL2036 with
      | zero => intro z2034 μ2035 T2038 F2039 h2037 h2041; exact ((vc_X12_cone_46 h2041 h2037)).elim
      | succ nL2036 ih2042 =>
        intro z2034 μ2035 T2038 F2039 h2037 h2041
        refine mr_iload_n (pc := 25) (z := z2034) dX12_cone_25 rfl rfl ?_
        refine mr_bipush (pc := 26) (z := 10) dX12_cone_26 (by decide) ?_
        refine mr_icmp_ge (pc := 28) (tgt := 53) dX12_cone_28 (by decide) (r32 h2037 rfl) (r32 (rR (x := 10)) rfl) (fun h2051 => ?_) (fun h2051 => ?_)
        · have h2052 : 10 ≤ z2034 ∧ z2034 ≤ 10 := (vc_X12_cone_47 h2051 h2037)
          refine mr_iconst (pc := 53) (z := 1) dX12_cone_53 ?_
          refine mr_istore_n (pc := 54) (lv' := [(3, iv 1), (0, .ref 106), (1, iv p1), (2, iv p2)]) dX12_cone_54 rfl (by decide) rfl ?_
          have L2342 : ∀ (nL2342 : Nat) (z2340 : Int) (μ2341 : mM) (f_c : Int), mT w μ2341 → mF [116999] w μ2035 μ2341 → cnt μ2341 116 10 = f_c → (0 ≤ z2340 ∧ z2340 ≤ 1) → ((2 * (10 - f_c)) + z2340) < (nL2342 : Int) → sV (gG l D c H0 sa) mX12_cone (sRm 3 0 0) (sZ (gG l D c H0 sa) 0 0 (qI w [116999] μ (fun z μ1 => ((-2147483648) ≤ z ∧ z ≤ 2147483647) ∧ True))) 55 [(0, .ref 106), (2, iv p2), (3, iv z2340)] [] (mk w μ2341) 0 0 := by
            intro nL2342
            induction nL2342 with
            | zero => intro z2340 μ2341 f_c T2344 F2345 q2348 h2343 h2347; exact ((vc_X12_cone_48 h2347 (by rw [← q2348]; exact cnt_rng (fun i => T2344 116 116 (A_116 hw) i) 10) h2343)).elim
            | succ nL2342 ih2349 =>
              intro z2340 μ2341 f_c T2344 F2345 q2348 h2343 h2347
              have h2350 : 0 ≤ f_c ∧ f_c ≤ 10 := by rw [← q2348]; exact cnt_rng (fun i => T2344 116 116 (A_116 hw) i) 10
              refine mr_iload_n (pc := 55) (z := z2340) dX12_cone_55 rfl rfl ?_
              refine mr_if_eq (pc := 56) (tgt := 147) dX12_cone_56 (by decide) (r32 h2343 rfl) (fun h2423 => ?_) (fun h2423 => ?_)
              · have h2424 : 0 ≤ z2340 ∧ z2340 ≤ 0 := (vc_X12_cone_49 h2423 h2343)
                refine mr_iconst (pc := 147) (z := 0) dX12_cone_147 ?_
                refine mr_istore (pc := 148) (lv' := [(4, iv 0), (0, .ref 106), (2, iv p2), (3, iv z2340)]) dX12_cone_148 (by decide) rfl ?_
                refine mr_iconst (pc := 150) (z := 0) dX12_cone_150 ?_
                refine mr_istore (pc := 151) (lv' := [(5, iv 0), (4, iv 0), (0, .ref 106), (2, iv p2), (3, iv z2340)]) dX12_cone_151 (by decide) rfl ?_
                have L2622 : ∀ (nL2622 : Nat) (z2621 z2620 : Int), True → ((-2147483648) ≤ z2621 ∧ z2621 ≤ 2147483647) → (0 ≤ z2620 ∧ z2620 ≤ 10) → (11 - z2620) < (nL2622 : Int) → sV (gG l D c H0 sa) mX12_cone (sRm 3 0 0) (sZ (gG l D c H0 sa) 0 0 (qI w [116999] μ (fun z μ1 => ((-2147483648) ≤ z ∧ z ≤ 2147483647) ∧ True))) 153 [(0, .ref 106), (2, iv p2), (4, iv z2621), (5, iv z2620)] [] (mk w μ2341) 0 0 := by
                  intro nL2622
                  induction nL2622 with
                  | zero => intro z2621 z2620 _ h2623 h2624 h2628; exact ((vc_X12_cone_50 h2628 h2624)).elim
                  | succ nL2622 ih2629 =>
                    intro z2621 z2620 _ h2623 h2624 h2628
                    refine mr_iload (pc := 153) (z := z2620) dX12_cone_153 rfl ?_
                    refine sv_aload_n (pc := 155) dX12_cone_155 rfl rfl ?_
                    refine gk_X12_5 (pc := 156) dX12_cone_156 wF_X12_34 (A_106 hw) (F2345.f (A_106 hw) rfl (F2039.f (A_106 hw) rfl q2)) ?_
                    refine mr_icmp_ge (pc := 159) (tgt := 188) dX12_cone_159 (by decide) (r32 h2624 rfl) (r32 h15 rfl) (fun h2639 => ?_) (fun h2639 => ?_)
                    · have h2640 : 1 ≤ z2620 ∧ z2620 ≤ 10 := (vc_X12_cone_51 h2639 h7.2.1 h7.2.2.1 h13 h1526.2.1 h1526.2.2.1 h1530 h14 h1531 h15 h1529 h2624 h12)
                      refine mr_iload_n (pc := 188) (z := p2) dX12_cone_188 rfl rfl ?_
                      refine mr_if_ge (pc := 189) (tgt := 197) dX12_cone_189 (by decide) (r32 h1531 rfl) (fun _ => ?_) (fun h => ((vc_X12_cone_52 h h1531)).elim)
                      refine sv_aload_n (pc := 197) dX12_cone_197 rfl rfl ?_
                      refine gf_X12_13 (pc := 198) dX12_cone_198 wF_X12_69 (A_106 hw) T2344 ?_
                      refine mr_iload_n (pc := 201) (z := p2) dX12_cone_201 rfl rfl ?_
                      refine la_116 (pc := 202) dX12_cone_202 (A_116 hw) T2344 (rIx (n := 10) h1531 rfl) fun z2641 q2642 h2643 => ?_
                      refine mr_if_eq (pc := 203) (tgt := 210) dX12_cone_203 (by decide) (r32 h2643 rfl) (fun h2646 => ?_) (fun h2646 => ?_)
                      · have h2647 : 0 ≤ z2641 ∧ z2641 ≤ 0 := (vc_X12_cone_53 h2646 h2643)
                        refine mr_iconst (pc := 210) (z := 0) dX12_cone_210 ?_
                        exact mr_iret dX12_cone_211 rfl (le_t rfl) (le_t rfl) T2344 (mF.call (mF.call mF.refl F2039 rfl) F2345 rfl) ⟨(rW (c := (-2147483648)) (d := 2147483647) (rR (x := 0)) rfl), trivial⟩
                      have h2648 : 1 ≤ z2641 ∧ z2641 ≤ 1 := (vc_X12_cone_54 h2646 h2643)
                      refine mr_iconst (pc := 206) (z := 1) dX12_cone_206 ?_
                      refine sv_goto (pc := 207) (tgt := 211) dX12_cone_207 (by decide) ?_
                      exact mr_iret dX12_cone_211 rfl (le_t rfl) (le_t rfl) T2344 (mF.call (mF.call mF.refl F2039 rfl) F2345 rfl) ⟨(rW (c := (-2147483648)) (d := 2147483647) (rR (x := 1)) rfl), trivial⟩
                    have h2649 : 0 ≤ z2620 ∧ z2620 ≤ 9 := (vc_X12_cone_55 h2639 h7.2.1 h7.2.2.1 h13 h1526.2.1 h1526.2.2.1 h1530 h14 h1531 h15 h1529 h2624 h12)
                    refine mr_iload (pc := 162) (z := z2621) dX12_cone_162 rfl ?_
                    refine sv_aload_n (pc := 164) dX12_cone_164 rfl rfl ?_
                    refine gf_X12_13 (pc := 165) dX12_cone_165 wF_X12_69 (A_106 hw) T2344 ?_
                    refine mr_iload (pc := 168) (z := z2620) dX12_cone_168 rfl ?_
                    refine la_116 (pc := 170) dX12_cone_170 (A_116 hw) T2344 (rIx (n := 10) h2649 rfl) fun z2650 q2651 h2652 => ?_
                    refine mr_if_eq (pc := 171) (tgt := 178) dX12_cone_171 (by decide) (r32 h2652 rfl) (fun h2655 => ?_) (fun h2655 => ?_)
                    · have h2656 : 0 ≤ z2650 ∧ z2650 ≤ 0 := (vc_X12_cone_56 h2655 h2652)
                      refine mr_iconst (pc := 178) (z := 0) dX12_cone_178 ?_
                      refine mr_iadd (pc := 179) (x := z2621) (y := 0) dX12_cone_179 ?_
                      refine mr_istore (pc := 180) (lv' := [(4, iv (z2621 + 0)), (0, .ref 106), (2, iv p2), (5, iv z2620)]) dX12_cone_180 (by decide) rfl ?_
                      refine mr_iinc (pc := 182) (lv' := [(5, iv (z2620 + 1)), (4, iv (z2621 + 0)), (0, .ref 106), (2, iv p2)]) dX12_cone_182 rfl (by decide) rfl ?_
                      refine sv_goto (pc := 185) (tgt := 153) dX12_cone_185 (by decide) ?_
                      refine mr_lvS (lv' := [(0, .ref 106), (2, iv p2), (4, iv (z2621 + 0)), (5, iv (z2620 + 1))]) (List.forall_mem_cons.mpr ⟨rfl, List.forall_mem_cons.mpr ⟨rfl, List.forall_mem_cons.mpr ⟨rfl, List.forall_mem_cons.mpr ⟨rfl, fun _ h => absurd h List.not_mem_nil⟩⟩⟩⟩) ?_
                      exact ih2629 (z2621 + 0) (z2620 + 1) trivial (rAdd (e := (-2147483648)) (f := 2147483647) h2623 (rR (x := 0)) rfl) (rW (c := 0) (d := 10) (rAdd (e := 1) (f := 10) h2649 (rR (x := 1)) rfl) rfl) (vc_X12_cone_57 (nS h2628) h2639 h7.2.1 h7.2.2.1 h13 h1526.2.1 h1526.2.2.1 h1530 h14 h1531 h15 h1529 h2649 h12)
                    have h2657 : 1 ≤ z2650 ∧ z2650 ≤ 1 := (vc_X12_cone_58 h2655 h2652)
                    refine mr_iconst (pc := 174) (z := 1) dX12_cone_174 ?_
                    refine sv_goto (pc := 175) (tgt := 179) dX12_cone_175 (by decide) ?_
                    refine mr_iadd (pc := 179) (x := z2621) (y := 1) dX12_cone_179 ?_
                    refine mr_wrap fun z2658 h2659 => ?_
                    refine mr_istore (pc := 180) (lv' := [(4, iv z2658), (0, .ref 106), (2, iv p2), (5, iv z2620)]) dX12_cone_180 (by decide) rfl ?_
                    refine mr_iinc (pc := 182) (lv' := [(5, iv (z2620 + 1)), (4, iv z2658), (0, .ref 106), (2, iv p2)]) dX12_cone_182 rfl (by decide) rfl ?_
                    refine sv_goto (pc := 185) (tgt := 153) dX12_cone_185 (by decide) ?_
                    refine mr_lvS (lv' := [(0, .ref 106), (2, iv p2), (4, iv z2658), (5, iv (z2620 + 1))]) (List.forall_mem_cons.mpr ⟨rfl, List.forall_mem_cons.mpr ⟨rfl, List.forall_mem_cons.mpr ⟨rfl, List.forall_mem_cons.mpr ⟨rfl, fun _ h => absurd h List.not_mem_nil⟩⟩⟩⟩) ?_
                    exact ih2629 z2658 (z2620 + 1) trivial h2659 (rW (c := 0) (d := 10) (rAdd (e := 1) (f := 10) h2649 (rR (x := 1)) rfl) rfl) (vc_X12_cone_57 (nS h2628) h2639 h7.2.1 h7.2.2.1 h13 h1526.2.1 h1526.2.2.1 h1530 h14 h1531 h15 h1529 h2649 h12)
                refine mr_lvS (lv' := [(0, .ref 106), (2, iv p2), (4, iv 0), (5, iv 0)]) (List.forall_mem_cons.mpr ⟨rfl, List.forall_mem_cons.mpr ⟨rfl, List.forall_mem_cons.mpr ⟨rfl, List.forall_mem_cons.mpr ⟨rfl, fun _ h => absurd h List.not_mem_nil⟩⟩⟩⟩) ?_
                exact L2622 12 0 0 trivial (rW (c := (-2147483648)) (d := 2147483647) (rR (x := 0)) rfl) (rW (c := 0) (d := 10) (rR (x := 0)) rfl) vc_X12_cone_19
              have h2660 : 1 ≤ z2340 ∧ z2340 ≤ 1 := (vc_X12_cone_59 h2423 h2343)
              refine mr_iconst (pc := 59) (z := 0) dX12_cone_59 ?_
              refine mr_istore_n (pc := 60) (lv' := [(3, iv 0), (0, .ref 106), (2, iv p2)]) dX12_cone_60 rfl (by decide) rfl ?_
              refine mr_iconst (pc := 61) (z := 0) dX12_cone_61 ?_
              refine mr_istore (pc := 62) (lv' := [(4, iv 0), (3, iv 0), (0, .ref 106), (2, iv p2)]) dX12_cone_62 (by decide) rfl ?_
              have L3049 : ∀ (nL3049 : Nat) (z3047 z3046 : Int) (μ3048 : mM) (f_d : Int), mT w μ3048 → mF [116999] w μ2341 μ3048 → cnt μ3048 116 10 = f_d → (0 ≤ z3047 ∧ z3047 ≤ 1) → (0 ≤ z3046 ∧ z3046 ≤ 20) → (f_c ≤ f_d) → (z3047 = 0 ∨ f_c + 1 ≤ f_d) → (21 - z3046) < (nL3049 : Int) → sV (gG l D c H0 sa) mX12_cone (sRm 3 0 0) (sZ (gG l D c H0 sa) 0 0 (qI w [116999] μ (fun z μ1 => ((-2147483648) ≤ z ∧ z ≤ 2147483647) ∧ True))) 64 [(0, .ref 106), (2, iv p2), (3, iv z3047), (4, iv z3046)] [] (mk w μ3048) 0 0 := by
                intro nL3049
                induction nL3049 with
                | zero => intro z3047 z3046 μ3048 f_d T3052 F3053 q3058 h3050 h3051 h3055 h3056 h3057; exact ((vc_X12_cone_60 h3057 (by rw [← q3058]; exact cnt_rng (fun i => T3052 116 116 (A_116 hw) i) 10) h3055 h3056 h2350 h3051 h3050)).elim
                | succ nL3049 ih3059 =>
                  intro z3047 z3046 μ3048 f_d T3052 F3053 q3058 h3050 h3051 h3055 h3056 h3057
                  have h3060 : 0 ≤ f_d ∧ f_d ≤ 10 := by rw [← q3058]; exact cnt_rng (fun i => T3052 116 116 (A_116 hw) i) 10
                  refine mr_iload (pc := 64) (z := z3046) dX12_cone_64 rfl ?_
                  refine sv_aload_n (pc := 66) dX12_cone_66 rfl rfl ?_
                  refine gf_X12_6 (pc := 67) dX12_cone_67 wF_X12_37 (A_106 hw) T3052 fun z3061 q3062 h3063 => ?_
                  refine mr_icmp_ge (pc := 70) (tgt := 144) dX12_cone_70 (by decide) (r32 h3051 rfl) (r32 h3063 rfl) (fun h3090 => ?_) (fun h3090 => ?_)
                  · refine sv_goto (pc := 144) (tgt := 55) dX12_cone_144 (by decide) ?_
                    refine mr_lvS (lv' := [(0, .ref 106), (2, iv p2), (3, iv z3047)]) (List.forall_mem_cons.mpr ⟨rfl, List.forall_mem_cons.mpr ⟨rfl, List.forall_mem_cons.mpr ⟨rfl, fun _ h => absurd h List.not_mem_nil⟩⟩⟩) ?_
                    exact ih2349 z3047 μ3048 f_d T3052 (mF.call (mF.call mF.refl F2345 rfl) F3053 rfl) q3058 h3050 (vc_X12_cone_61 (nS h2347) h2423 h3055 h3056 h2350 h3060 h2660 h3050)
                  have h3091 : 0 ≤ z3046 ∧ z3046 ≤ 19 := (vc_X12_cone_62 h3090 h3051 h3063)
                  have h3092 : 1 ≤ z3061 ∧ z3061 ≤ 20 := (vc_X12_cone_63 h3090 h3091 h3063)
                  refine sv_aload_n (pc := 73) dX12_cone_73 rfl rfl ?_
                  refine gf_X12_8 (pc := 74) dX12_cone_74 wF_X12_46 (A_106 hw) T3052 ?_
                  refine mr_iload (pc := 77) (z := z3046) dX12_cone_77 rfl ?_
                  refine la_111 (pc := 79) dX12_cone_79 (A_111 hw) T3052 (rIx (n := 20) h3091 rfl) fun z3093 q3094 h3095 => ?_
                  refine mr_if_ne (pc := 80) (tgt := 138) dX12_cone_80 (by decide) (r32 h3095 rfl) (fun h3117 => ?_) (fun h3117 => ?_)
                  · have h3118 : 1 ≤ z3093 ∧ z3093 ≤ 2 := (vc_X12_cone_64 h3117 h3095)
                    refine mr_iinc (pc := 138) (lv' := [(4, iv (z3046 + 1)), (0, .ref 106), (2, iv p2), (3, iv z3047)]) dX12_cone_138 rfl (by decide) rfl ?_
                    refine sv_goto (pc := 141) (tgt := 64) dX12_cone_141 (by decide) ?_
                    refine mr_lvS (lv' := [(0, .ref 106), (2, iv p2), (3, iv z3047), (4, iv (z3046 + 1))]) (List.forall_mem_cons.mpr ⟨rfl, List.forall_mem_cons.mpr ⟨rfl, List.forall_mem_cons.mpr ⟨rfl, List.forall_mem_cons.mpr ⟨rfl, fun _ h => absurd h List.not_mem_nil⟩⟩⟩⟩) ?_
                    exact ih3059 z3047 (z3046 + 1) μ3048 f_d T3052 (mF.call mF.refl F3053 rfl) q3058 h3050 (rW (c := 0) (d := 20) (rAdd (e := 1) (f := 20) h3091 (rR (x := 1)) rfl) rfl) (vc_X12_cone_65 h3055 h3056 h2350 h3060 h3050) (vc_X12_cone_66 h3055 h3056 h2350 h3060 h3050) (vc_X12_cone_67 (nS h3057) h3090 h3091 h3092)
                  have h3119 : 0 ≤ z3093 ∧ z3093 ≤ 0 := (vc_X12_cone_68 h3117 h3095)
                  refine sv_aload_n (pc := 83) dX12_cone_83 rfl rfl ?_
                  refine gf_X12_13 (pc := 84) dX12_cone_84 wF_X12_69 (A_106 hw) T3052 ?_
                  refine sv_aload_n (pc := 87) dX12_cone_87 rfl rfl ?_
                  refine gf_X12_7 (pc := 88) dX12_cone_88 wF_X12_40 (A_106 hw) T3052 ?_
                  refine mr_iconst (pc := 91) (z := 2) dX12_cone_91 ?_
                  refine mr_iload (pc := 92) (z := z3046) dX12_cone_92 rfl ?_
                  refine mr_imul (pc := 94) (x := 2) (y := z3046) dX12_cone_94 ?_
                  refine la_110 (pc := 95) dX12_cone_95 (A_110 hw) T3052 (rIx (n := 40) (rMulL (n := 2) (e := 0) (f := 38) h3091 rfl) rfl) fun z3120 q3121 h3122 => ?_
                  refine la_116 (pc := 96) dX12_cone_96 (A_116 hw) T3052 (rIx (n := 10) h3122 rfl) fun z3123 q3124 h3125 => ?_
                  refine mr_if_eq (pc := 97) (tgt := 138) dX12_cone_97 (by decide) (r32 h3125 rfl) (fun h3139 => ?_) (fun h3139 => ?_)
                  · have h3140 : 0 ≤ z3123 ∧ z3123 ≤ 0 := (vc_X12_cone_69 h3139 h3125)
                    refine mr_iinc (pc := 138) (lv' := [(4, iv (z3046 + 1)), (0, .ref 106), (2, iv p2), (3, iv z3047)]) dX12_cone_138 rfl (by decide) rfl ?_
                    refine sv_goto (pc := 141) (tgt := 64) dX12_cone_141 (by decide) ?_
                    refine mr_lvS (lv' := [(0, .ref 106), (2, iv p2), (3, iv z3047), (4, iv (z3046 + 1))]) (List.forall_mem_cons.mpr ⟨rfl, List.forall_mem_cons.mpr ⟨rfl, List.forall_mem_cons.mpr ⟨rfl, List.forall_mem_cons.mpr ⟨rfl, fun _ h => absurd h List.not_mem_nil⟩⟩⟩⟩) ?_
                    exact ih3059 z3047 (z3046 + 1) μ3048 f_d T3052 (mF.call mF.refl F3053 rfl) q3058 h3050 (rW (c := 0) (d := 20) (rAdd (e := 1) (f := 20) h3091 (rR (x := 1)) rfl) rfl) (vc_X12_cone_65 h3055 h3056 h2350 h3060 h3050) (vc_X12_cone_66 h3055 h3056 h2350 h3060 h3050) (vc_X12_cone_67 (nS h3057) h3090 h3091 h3092)
                  have h3141 : 1 ≤ z3123 ∧ z3123 ≤ 1 := (vc_X12_cone_70 h3139 h3125)
                  refine sv_aload_n (pc := 100) dX12_cone_100 rfl rfl ?_
                  refine gf_X12_13 (pc := 101) dX12_cone_101 wF_X12_69 (A_106 hw) T3052 ?_
                  refine sv_aload_n (pc := 104) dX12_cone_104 rfl rfl ?_
                  refine gf_X12_7 (pc := 105) dX12_cone_105 wF_X12_40 (A_106 hw) T3052 ?_
                  refine mr_iconst (pc := 108) (z := 2) dX12_cone_108 ?_
                  refine mr_iload (pc := 109) (z := z3046) dX12_cone_109 rfl ?_
                  refine mr_imul (pc := 111) (x := 2) (y := z3046) dX12_cone_111 ?_
                  refine mr_iconst (pc := 112) (z := 1) dX12_cone_112 ?_
                  refine mr_iadd (pc := 113) (x := (2 * z3046)) (y := 1) dX12_cone_113 ?_
                  refine la_110 (pc := 114) dX12_cone_114 (A_110 hw) T3052 (rIx (n := 40) (rAdd (e := 1) (f := 39) (rMulL (n := 2) (e := 0) (f := 38) h3091 rfl) (rR (x := 1)) rfl) rfl) fun z3142 q3143 h3144 => ?_
                  refine la_116 (pc := 115) dX12_cone_115 (A_116 hw) T3052 (rIx (n := 10) h3144 rfl) fun z3145 q3146 h3147 => ?_
                  refine mr_if_ne (pc := 116) (tgt := 138) dX12_cone_116 (by decide) (r32 h3147 rfl) (fun h3153 => ?_) (fun h3153 => ?_)
                  · have h3154 : 1 ≤ z3145 ∧ z3145 ≤ 1 := (vc_X12_cone_71 h3153 h3147)
                    refine mr_iinc (pc := 138) (lv' := [(4, iv (z3046 + 1)), (0, .ref 106), (2, iv p2), (3, iv z3047)]) dX12_cone_138 rfl (by decide) rfl ?_
                    refine sv_goto (pc := 141) (tgt := 64) dX12_cone_141 (by decide) ?_
                    refine mr_lvS (lv' := [(0, .ref 106), (2, iv p2), (3, iv z3047), (4, iv (z3046 + 1))]) (List.forall_mem_cons.mpr ⟨rfl, List.forall_mem_cons.mpr ⟨rfl, List.forall_mem_cons.mpr ⟨rfl, List.forall_mem_cons.mpr ⟨rfl, fun _ h => absurd h List.not_mem_nil⟩⟩⟩⟩) ?_
                    exact ih3059 z3047 (z3046 + 1) μ3048 f_d T3052 (mF.call mF.refl F3053 rfl) q3058 h3050 (rW (c := 0) (d := 20) (rAdd (e := 1) (f := 20) h3091 (rR (x := 1)) rfl) rfl) (vc_X12_cone_65 h3055 h3056 h2350 h3060 h3050) (vc_X12_cone_66 h3055 h3056 h2350 h3060 h3050) (vc_X12_cone_67 (nS h3057) h3090 h3091 h3092)
                  have h3155 : 0 ≤ z3145 ∧ z3145 ≤ 0 := (vc_X12_cone_72 h3153 h3147)
                  refine sv_aload_n (pc := 119) dX12_cone_119 rfl rfl ?_
                  refine gf_X12_13 (pc := 120) dX12_cone_120 wF_X12_69 (A_106 hw) T3052 ?_
                  refine sv_aload_n (pc := 123) dX12_cone_123 rfl rfl ?_
                  refine gf_X12_7 (pc := 124) dX12_cone_124 wF_X12_40 (A_106 hw) T3052 ?_
                  refine mr_iconst (pc := 127) (z := 2) dX12_cone_127 ?_
                  refine mr_iload (pc := 128) (z := z3046) dX12_cone_128 rfl ?_
                  refine mr_imul (pc := 130) (x := 2) (y := z3046) dX12_cone_130 ?_
                  refine mr_iconst (pc := 131) (z := 1) dX12_cone_131 ?_
                  refine mr_iadd (pc := 132) (x := (2 * z3046)) (y := 1) dX12_cone_132 ?_
                  refine lk_110 (pc := 133) dX12_cone_133 (A_110 hw) (rIx (n := 40) (rAdd (e := 1) (f := 39) (rMulL (n := 2) (e := 0) (f := 38) h3091 rfl) (rR (x := 1)) rfl) rfl) q3143 ?_
                  refine mr_iconst (pc := 134) (z := 1) dX12_cone_134 ?_
                  refine ss_116 (pc := 135) dX12_cone_135 (A_116 hw) T3052 (rIx (n := 10) h3144 rfl) (rW (c := 0) (d := 1) (rR (x := 1)) rfl) fun μ3156 u3157 T3158 => ?_
                  refine mr_iconst (pc := 136) (z := 1) dX12_cone_136 ?_
                  refine mr_istore_n (pc := 137) (lv' := [(3, iv 1), (0, .ref 106), (2, iv p2), (4, iv z3046)]) dX12_cone_137 rfl (by decide) rfl ?_
                  refine mr_iinc (pc := 138) (lv' := [(4, iv (z3046 + 1)), (3, iv 1), (0, .ref 106), (2, iv p2)]) dX12_cone_138 rfl (by decide) rfl ?_
                  refine sv_goto (pc := 141) (tgt := 64) dX12_cone_141 (by decide) ?_
                  refine mr_lvS (lv' := [(0, .ref 106), (2, iv p2), (3, iv 1), (4, iv (z3046 + 1))]) (List.forall_mem_cons.mpr ⟨rfl, List.forall_mem_cons.mpr ⟨rfl, List.forall_mem_cons.mpr ⟨rfl, List.forall_mem_cons.mpr ⟨rfl, fun _ h => absurd h List.not_mem_nil⟩⟩⟩⟩) ?_
                  exact ih3059 1 (z3046 + 1) μ3156 ((f_d + 1) - z3145) T3158 (mF.up (mF.call mF.refl F3053 rfl) (A_116 hw) u3157 rfl) (cntU u3157 (rIx (n := 10) h3144 rfl) rfl q3058 q3146) (rW (c := 0) (d := 1) (rR (x := 1)) rfl) (rW (c := 0) (d := 20) (rAdd (e := 1) (f := 20) h3091 (rR (x := 1)) rfl) rfl) (vc_X12_cone_73 h3055 h3056 h3153 h2350 h3060 h3050 h3155) (vc_X12_cone_74 h3055 h3056 h3153 h2350 h3060 h3050 h3155) (vc_X12_cone_67 (nS h3057) h3090 h3091 h3092)
              refine mr_lvS (lv' := [(0, .ref 106), (2, iv p2), (3, iv 0), (4, iv 0)]) (List.forall_mem_cons.mpr ⟨rfl, List.forall_mem_cons.mpr ⟨rfl, List.forall_mem_cons.mpr ⟨rfl, List.forall_mem_cons.mpr ⟨rfl, fun _ h => absurd h List.not_mem_nil⟩⟩⟩⟩) ?_
              exact L3049 22 0 0 μ2341 f_c T2344 mF.refl q2348 (rW (c := 0) (d := 1) (rR (x := 0)) rfl) (rW (c := 0) (d := 20) (rR (x := 0)) rfl) (vc_X12_cone_36 h2350) (vc_X12_cone_37 h2350) vc_X12_cone_38
          obtain ⟨z3159, q3160⟩ : ∃ z, cnt μ2035 116 10 = z := ⟨_, rfl⟩
          have h3161 : 0 ≤ z3159 ∧ z3159 ≤ 10 := by rw [← q3160]; exact cnt_rng (fun i => T2038 116 116 (A_116 hw) i) 10
          refine mr_lvS (lv' := [(0, .ref 106), (2, iv p2), (3, iv 1)]) (List.forall_mem_cons.mpr ⟨rfl, List.forall_mem_cons.mpr ⟨rfl, List.forall_mem_cons.mpr ⟨rfl, fun _ h => absurd h List.not_mem_nil⟩⟩⟩) ?_
          exact L2342 22 1 μ2035 z3159 T2038 mF.refl q3160 (rW (c := 0) (d := 1) (rR (x := 1)) rfl) (vc_X12_cone_75 h3161)
        have h3162 : 0 ≤ z2034 ∧ z2034 ≤ 9 := (vc_X12_cone_76 h2051 h2037)
        refine sv_aload_n (pc := 31) dX12_cone_31 rfl rfl ?_
        refine gf_X12_13 (pc := 32) dX12_cone_32 wF_X12_69 (A_106 hw) T2038 ?_
        refine mr_iload_n (pc := 35) (z := z2034) dX12_cone_35 rfl rfl ?_
        refine mr_iload_n (pc := 36) (z := z2034) dX12_cone_36 rfl rfl ?_
        refine mr_iload_n (pc := 37) (z := p1) dX12_cone_37 rfl rfl ?_
        refine mr_icmp_ne (pc := 38) (tgt := 45) dX12_cone_38 (by decide) (r32 h3162 rfl) (r32 h14 rfl) (fun h3163 => ?_) (fun h3163 => ?_)
        · refine mr_iconst (pc := 45) (z := 0) dX12_cone_45 ?_
          refine ss_116 (pc := 46) dX12_cone_46 (A_116 hw) T2038 (rIx (n := 10) h3162 rfl) (rW (c := 0) (d := 1) (rR (x := 0)) rfl) fun μ3164 u3165 T3166 => ?_
          refine mr_iinc (pc := 47) (lv' := [(3, iv (z2034 + 1)), (0, .ref 106), (1, iv p1), (2, iv p2)]) dX12_cone_47 rfl (by decide) rfl ?_
          refine sv_goto (pc := 50) (tgt := 25) dX12_cone_50 (by decide) ?_
          refine mr_lvS (lv' := [(0, .ref 106), (1, iv p1), (2, iv p2), (3, iv (z2034 + 1))]) (List.forall_mem_cons.mpr ⟨rfl, List.forall_mem_cons.mpr ⟨rfl, List.forall_mem_cons.mpr ⟨rfl, List.forall_mem_cons.mpr ⟨rfl, fun _ h => absurd h List.not_mem_nil⟩⟩⟩⟩) ?_
          exact ih2042 (z2034 + 1) μ3164 T3166 (mF.up (mF.call mF.refl F2039 rfl) (A_116 hw) u3165 rfl) (rW (c := 0) (d := 10) (rAdd (e := 1) (f := 10) h3162 (rR (x := 1)) rfl) rfl) (vc_X12_cone_77 (nS h2041) h2051 h3163 h7.2.1 h7.2.2.1 h13 h14 h15 h3162 h12)
        refine mr_iconst (pc := 41) (z := 1) dX12_cone_41 ?_
        refine sv_goto (pc := 42) (tgt := 46) dX12_cone_42 (by decide) ?_
        refine ss_116 (pc := 46) dX12_cone_46 (A_116 hw) T2038 (rIx (n := 10) h3162 rfl) (rW (c := 0) (d := 1) (rR (x := 1)) rfl) fun μ3167 u3168 T3169 => ?_
        refine mr_iinc (pc := 47) (lv' := [(3, iv (z2034 + 1)), (0, .ref 106), (1, iv p1), (2, iv p2)]) dX12_cone_47 rfl (by decide) rfl ?_
        refine sv_goto (pc := 50) (tgt := 25) dX12_cone_50 (by decide) ?_
        refine mr_lvS (lv' := [(0, .ref 106), (1, iv p1), (2, iv p2), (3, iv (z2034 + 1))]) (List.forall_mem_cons.mpr ⟨rfl, List.forall_mem_cons.mpr ⟨rfl, List.forall_mem_cons.mpr ⟨rfl, List.forall_mem_cons.mpr ⟨rfl, fun _ h => absurd h List.not_mem_nil⟩⟩⟩⟩) ?_
        exact ih2042 (z2034 + 1) μ3167 T3169 (mF.up (mF.call mF.refl F2039 rfl) (A_116 hw) u3168 rfl) (rW (c := 0) (d := 10) (rAdd (e := 1) (f := 10) h3162 (rR (x := 1)) rfl) rfl) (vc_X12_cone_78 (nS h2041) h2051 h3163 h7.2.1 h7.2.2.1 h13 h14 h15 h3162 h12)
    refine mr_lvS (lv' := [(0, .ref 106), (1, iv p1), (2, iv p2), (3, iv 0)]) (List.forall_mem_cons.mpr ⟨rfl, List.forall_mem_cons.mpr ⟨rfl, List.forall_mem_cons.mpr ⟨rfl, List.forall_mem_cons.mpr ⟨rfl, fun _ h => absurd h List.not_mem_nil⟩⟩⟩⟩) ?_
    exact L2036 12 0 μ hT mF.refl (rW (c := 0) (d := 10) (rR (x := 0)) rfl) vc_X12_cone_19
  have h3170 : 0 ≤ z1527 ∧ z1527 ≤ 0 := (vc_X12_cone_79 h1528 h1526.2.1 h1526.2.2.1 hp2 h15 h1526.1)
  have h3171 : p2 < 0 ∨ z1 ≤ p2 := (h1526.2.2.1 (vc_X12_cone_80 h1526.2.1 h1526.2.2.1 h1528 h7.2.1 h7.2.2.1 h13 h16 h14 hp2 h15 h3170 h12))
  refine mr_iconst (pc := 21) (z := (-1)) dX12_cone_21 ?_
  exact mr_iret dX12_cone_22 rfl (le_t rfl) (le_t rfl) hT mF.refl ⟨(rW (c := (-2147483648)) (d := 2147483647) (rR (x := (-1))) rfl), trivial⟩
theorem vc_X12_tieOf_hit_1 {f_ties g1 : Int} (h0 : g1 < f_ties) (h1 : 0 ≤ f_ties ∧ f_ties ≤ 20) (h2 : 0 ≤ g1 ∧ g1 ≤ 19) : 1 ≤ f_ties ∧ f_ties ≤ 20 := by omega
theorem vc_X12_tieOf_hit_2 {f_ties g1 z416 : Int} (h0 : (21 - z416) < ((0 : Nat) : Int)) (h1 : z416 ≤ g1) (h2 : g1 < f_ties) (h3 : 1 ≤ f_ties ∧ f_ties ≤ 20) (h4 : 0 ≤ g1 ∧ g1 ≤ 19) (h5 : 0 ≤ z416 ∧ z416 ≤ 20) : False := by omega
theorem vc_X12_tieOf_hit_3 {f_ties g1 z416 : Int} (h0 : f_ties ≤ z416) (h1 : g1 < f_ties) (h2 : z416 ≤ g1) (h3 : 1 ≤ f_ties ∧ f_ties ≤ 20) (h4 : 0 ≤ g1 ∧ g1 ≤ 19) (h5 : 0 ≤ z416 ∧ z416 ≤ 20) : False := by omega
theorem vc_X12_tieOf_hit_4 {f_ties g1 z416 : Int} (h0 : z416 < f_ties) (h1 : g1 < f_ties) (h2 : z416 ≤ g1) (h3 : 1 ≤ f_ties ∧ f_ties ≤ 20) (h4 : 0 ≤ g1 ∧ g1 ≤ 19) (h5 : 0 ≤ z416 ∧ z416 ≤ 20) : 0 ≤ z416 ∧ z416 ≤ 19 := by omega
theorem vc_X12_tieOf_hit_5 {f_e0 f_e1 f_ties g1 p1 p2 z416 z427 : Int} (h0 : g1 < f_ties) (h1 : z416 ≤ g1) (h2 : z416 < f_ties) (h3 : ((2 * z416) = (2 * g1) → z427 = f_e0)) (h4 : ((2 * z416) = ((2 * g1) + 1) → z427 = f_e1)) (h5 : (f_e0 = p1 ∧ f_e1 = p2) ∨ (f_e0 = p2 ∧ f_e1 = p1)) (h6 : ¬ z427 = p1) (h7 : ¬ z427 = p2) (h8 : 0 ≤ f_e0 ∧ f_e0 ≤ 9) (h9 : 0 ≤ f_e1 ∧ f_e1 ≤ 9) (h10 : 1 ≤ f_ties ∧ f_ties ≤ 20) (h11 : 0 ≤ g1 ∧ g1 ≤ 19) (h12 : (-2147483648) ≤ p1 ∧ p1 ≤ 2147483647) (h13 : (-2147483648) ≤ p2 ∧ p2 ≤ 2147483647) (h14 : 0 ≤ z416 ∧ z416 ≤ 19) (h15 : 0 ≤ z427 ∧ z427 ≤ 9) : (z416 + 1) ≤ g1 := by omega
theorem vc_X12_tieOf_hit_6 {N f_e0 f_e1 f_ties g1 p1 p2 z416 z427 : Int} (h0 : (21 - z416) < N + 1) (h1 : z416 ≤ g1) (h2 : z416 < f_ties) (h3 : ((2 * z416) = (2 * g1) → z427 = f_e0)) (h4 : ((2 * z416) = ((2 * g1) + 1) → z427 = f_e1)) (h5 : g1 < f_ties) (h6 : (f_e0 = p1 ∧ f_e1 = p2) ∨ (f_e0 = p2 ∧ f_e1 = p1)) (h7 : ¬ z427 = p1) (h8 : ¬ z427 = p2) (h9 : 0 ≤ f_e0 ∧ f_e0 ≤ 9) (h10 : 0 ≤ f_e1 ∧ f_e1 ≤ 9) (h11 : 1 ≤ f_ties ∧ f_ties ≤ 20) (h12 : 0 ≤ g1 ∧ g1 ≤ 19) (h13 : (-2147483648) ≤ p1 ∧ p1 ≤ 2147483647) (h14 : (-2147483648) ≤ p2 ∧ p2 ≤ 2147483647) (h15 : 0 ≤ z416 ∧ z416 ≤ 19) (h16 : 0 ≤ z427 ∧ z427 ≤ 9) : (21 - (z416 + 1)) < N := by omega
theorem vc_X12_tieOf_hit_7 {f_e0 f_e1 g1 p1 p2 z416 z427 : Int} (h0 : z427 = p2) (h1 : (f_e0 = p1 ∧ f_e1 = p2) ∨ (f_e0 = p2 ∧ f_e1 = p1)) (h2 : ((2 * z416) = (2 * g1) → z427 = f_e0)) (h3 : ((2 * z416) = ((2 * g1) + 1) → z427 = f_e1)) (h4 : ¬ z427 = p1) (h5 : 0 ≤ f_e0 ∧ f_e0 ≤ 9) (h6 : 0 ≤ f_e1 ∧ f_e1 ≤ 9) (h7 : 0 ≤ g1 ∧ g1 ≤ 19) (h8 : (-2147483648) ≤ p1 ∧ p1 ≤ 2147483647) (h9 : (-2147483648) ≤ p2 ∧ p2 ≤ 2147483647) (h10 : 0 ≤ z416 ∧ z416 ≤ 19) (h11 : 0 ≤ z427 ∧ z427 ≤ 9) : 0 ≤ p2 ∧ p2 ≤ 9 := by omega
theorem vc_X12_tieOf_hit_8 {f_e0 f_e1 f_ties g1 p1 p2 z416 z427 z433 : Int} (h0 : g1 < f_ties) (h1 : z416 ≤ g1) (h2 : z416 < f_ties) (h3 : ((2 * z416) = (2 * g1) → z427 = f_e0)) (h4 : ((2 * z416) = ((2 * g1) + 1) → z427 = f_e1)) (h5 : (((2 * z416) + 1) = (2 * g1) → z433 = f_e0)) (h6 : (((2 * z416) + 1) = ((2 * g1) + 1) → z433 = f_e1)) (h7 : (((2 * z416) + 1) = (2 * z416) → z433 = z427)) (h8 : (f_e0 = p1 ∧ f_e1 = p2) ∨ (f_e0 = p2 ∧ f_e1 = p1)) (h9 : ¬ z427 = p1) (h10 : z427 = p2) (h11 : ¬ z433 = p1) (h12 : 0 ≤ f_e0 ∧ f_e0 ≤ 9) (h13 : 0 ≤ f_e1 ∧ f_e1 ≤ 9) (h14 : 1 ≤ f_ties ∧ f_ties ≤ 20) (h15 : 0 ≤ g1 ∧ g1 ≤ 19) (h16 : (-2147483648) ≤ p1 ∧ p1 ≤ 2147483647) (h17 : 0 ≤ p2 ∧ p2 ≤ 9) (h18 : 0 ≤ z416 ∧ z416 ≤ 19) (h19 : 0 ≤ z427 ∧ z427 ≤ 9) (h20 : 0 ≤ z433 ∧ z433 ≤ 9) : (z416 + 1) ≤ g1 := by omega
theorem vc_X12_tieOf_hit_9 {N f_e0 f_e1 f_ties g1 p1 p2 z416 z427 z433 : Int} (h0 : (21 - z416) < N + 1) (h1 : z416 ≤ g1) (h2 : z416 < f_ties) (h3 : ((2 * z416) = (2 * g1) → z427 = f_e0)) (h4 : ((2 * z416) = ((2 * g1) + 1) → z427 = f_e1)) (h5 : (((2 * z416) + 1) = (2 * g1) → z433 = f_e0)) (h6 : (((2 * z416) + 1) = ((2 * g1) + 1) → z433 = f_e1)) (h7 : (((2 * z416) + 1) = (2 * z416) → z433 = z427)) (h8 : g1 < f_ties) (h9 : (f_e0 = p1 ∧ f_e1 = p2) ∨ (f_e0 = p2 ∧ f_e1 = p1)) (h10 : ¬ z427 = p1) (h11 : z427 = p2) (h12 : ¬ z433 = p1) (h13 : 0 ≤ f_e0 ∧ f_e0 ≤ 9) (h14 : 0 ≤ f_e1 ∧ f_e1 ≤ 9) (h15 : 1 ≤ f_ties ∧ f_ties ≤ 20) (h16 : 0 ≤ g1 ∧ g1 ≤ 19) (h17 : (-2147483648) ≤ p1 ∧ p1 ≤ 2147483647) (h18 : 0 ≤ p2 ∧ p2 ≤ 9) (h19 : 0 ≤ z416 ∧ z416 ≤ 19) (h20 : 0 ≤ z427 ∧ z427 ≤ 9) (h21 : 0 ≤ z433 ∧ z433 ≤ 9) : (21 - (z416 + 1)) < N := by omega
theorem vc_X12_tieOf_hit_10 {f_e0 f_e1 g1 p1 p2 z416 z427 z433 : Int} (h0 : z433 = p1) (h1 : (f_e0 = p1 ∧ f_e1 = p2) ∨ (f_e0 = p2 ∧ f_e1 = p1)) (h2 : ¬ z427 = p1) (h3 : (((2 * z416) + 1) = (2 * g1) → z433 = f_e0)) (h4 : (((2 * z416) + 1) = ((2 * g1) + 1) → z433 = f_e1)) (h5 : (((2 * z416) + 1) = (2 * z416) → z433 = z427)) (h6 : 0 ≤ f_e0 ∧ f_e0 ≤ 9) (h7 : 0 ≤ f_e1 ∧ f_e1 ≤ 9) (h8 : 0 ≤ g1 ∧ g1 ≤ 19) (h9 : (-2147483648) ≤ p1 ∧ p1 ≤ 2147483647) (h10 : 0 ≤ p2 ∧ p2 ≤ 9) (h11 : 0 ≤ z416 ∧ z416 ≤ 19) (h12 : 0 ≤ z427 ∧ z427 ≤ 9) (h13 : 0 ≤ z433 ∧ z433 ≤ 9) : 0 ≤ p1 ∧ p1 ≤ 9 := by omega
theorem vc_X12_tieOf_hit_11 {f_e0 f_e1 g1 p1 p2 z416 z427 : Int} (h0 : z427 = p1) (h1 : (f_e0 = p1 ∧ f_e1 = p2) ∨ (f_e0 = p2 ∧ f_e1 = p1)) (h2 : ((2 * z416) = (2 * g1) → z427 = f_e0)) (h3 : ((2 * z416) = ((2 * g1) + 1) → z427 = f_e1)) (h4 : 0 ≤ f_e0 ∧ f_e0 ≤ 9) (h5 : 0 ≤ f_e1 ∧ f_e1 ≤ 9) (h6 : 0 ≤ g1 ∧ g1 ≤ 19) (h7 : (-2147483648) ≤ p1 ∧ p1 ≤ 2147483647) (h8 : (-2147483648) ≤ p2 ∧ p2 ≤ 2147483647) (h9 : 0 ≤ z416 ∧ z416 ≤ 19) (h10 : 0 ≤ z427 ∧ z427 ≤ 9) : 0 ≤ p1 ∧ p1 ≤ 9 := by omega
theorem vc_X12_tieOf_hit_12 {f_e0 f_e1 g1 p1 p2 z416 z427 z439 : Int} (h0 : z439 = p2) (h1 : (f_e0 = p1 ∧ f_e1 = p2) ∨ (f_e0 = p2 ∧ f_e1 = p1)) (h2 : (((2 * z416) + 1) = (2 * g1) → z439 = f_e0)) (h3 : (((2 * z416) + 1) = ((2 * g1) + 1) → z439 = f_e1)) (h4 : (((2 * z416) + 1) = (2 * z416) → z439 = z427)) (h5 : 0 ≤ f_e0 ∧ f_e0 ≤ 9) (h6 : 0 ≤ f_e1 ∧ f_e1 ≤ 9) (h7 : 0 ≤ g1 ∧ g1 ≤ 19) (h8 : 0 ≤ p1 ∧ p1 ≤ 9) (h9 : (-2147483648) ≤ p2 ∧ p2 ≤ 2147483647) (h10 : 0 ≤ z416 ∧ z416 ≤ 19) (h11 : 0 ≤ z427 ∧ z427 ≤ 9) (h12 : 0 ≤ z439 ∧ z439 ≤ 9) : 0 ≤ p2 ∧ p2 ≤ 9 := by omega
theorem vc_X12_tieOf_hit_13 {f_e0 f_e1 f_ties g1 p1 p2 z416 z427 z439 : Int} (h0 : g1 < f_ties) (h1 : z416 ≤ g1) (h2 : z416 < f_ties) (h3 : ((2 * z416) = (2 * g1) → z427 = f_e0)) (h4 : ((2 * z416) = ((2 * g1) + 1) → z427 = f_e1)) (h5 : (((2 * z416) + 1) = (2 * g1) → z439 = f_e0)) (h6 : (((2 * z416) + 1) = ((2 * g1) + 1) → z439 = f_e1)) (h7 : (((2 * z416) + 1) = (2 * z416) → z439 = z427)) (h8 : (f_e0 = p1 ∧ f_e1 = p2) ∨ (f_e0 = p2 ∧ f_e1 = p1)) (h9 : z427 = p1) (h10 : ¬ z439 = p2) (h11 : ¬ z427 = p2) (h12 : 0 ≤ f_e0 ∧ f_e0 ≤ 9) (h13 : 0 ≤ f_e1 ∧ f_e1 ≤ 9) (h14 : 1 ≤ f_ties ∧ f_ties ≤ 20) (h15 : 0 ≤ g1 ∧ g1 ≤ 19) (h16 : 0 ≤ p1 ∧ p1 ≤ 9) (h17 : (-2147483648) ≤ p2 ∧ p2 ≤ 2147483647) (h18 : 0 ≤ z416 ∧ z416 ≤ 19) (h19 : 0 ≤ z427 ∧ z427 ≤ 9) (h20 : 0 ≤ z439 ∧ z439 ≤ 9) : (z416 + 1) ≤ g1 := by omega
theorem vc_X12_tieOf_hit_14 {N f_e0 f_e1 f_ties g1 p1 p2 z416 z427 z439 : Int} (h0 : (21 - z416) < N + 1) (h1 : z416 ≤ g1) (h2 : z416 < f_ties) (h3 : ((2 * z416) = (2 * g1) → z427 = f_e0)) (h4 : ((2 * z416) = ((2 * g1) + 1) → z427 = f_e1)) (h5 : (((2 * z416) + 1) = (2 * g1) → z439 = f_e0)) (h6 : (((2 * z416) + 1) = ((2 * g1) + 1) → z439 = f_e1)) (h7 : (((2 * z416) + 1) = (2 * z416) → z439 = z427)) (h8 : g1 < f_ties) (h9 : (f_e0 = p1 ∧ f_e1 = p2) ∨ (f_e0 = p2 ∧ f_e1 = p1)) (h10 : z427 = p1) (h11 : ¬ z439 = p2) (h12 : ¬ z427 = p2) (h13 : 0 ≤ f_e0 ∧ f_e0 ≤ 9) (h14 : 0 ≤ f_e1 ∧ f_e1 ≤ 9) (h15 : 1 ≤ f_ties ∧ f_ties ≤ 20) (h16 : 0 ≤ g1 ∧ g1 ≤ 19) (h17 : 0 ≤ p1 ∧ p1 ≤ 9) (h18 : (-2147483648) ≤ p2 ∧ p2 ≤ 2147483647) (h19 : 0 ≤ z416 ∧ z416 ≤ 19) (h20 : 0 ≤ z427 ∧ z427 ≤ 9) (h21 : 0 ≤ z439 ∧ z439 ≤ 9) : (21 - (z416 + 1)) < N := by omega
theorem vc_X12_tieOf_hit_15 {f_e0 f_e1 g1 p1 p2 z416 z427 z439 : Int} (h0 : z427 = p2) (h1 : (f_e0 = p1 ∧ f_e1 = p2) ∨ (f_e0 = p2 ∧ f_e1 = p1)) (h2 : ((2 * z416) = (2 * g1) → z427 = f_e0)) (h3 : ((2 * z416) = ((2 * g1) + 1) → z427 = f_e1)) (h4 : z427 = p1) (h5 : (((2 * z416) + 1) = (2 * z416) → z439 = z427)) (h6 : ¬ z439 = p2) (h7 : 0 ≤ f_e0 ∧ f_e0 ≤ 9) (h8 : 0 ≤ f_e1 ∧ f_e1 ≤ 9) (h9 : 0 ≤ g1 ∧ g1 ≤ 19) (h10 : 0 ≤ p1 ∧ p1 ≤ 9) (h11 : (-2147483648) ≤ p2 ∧ p2 ≤ 2147483647) (h12 : 0 ≤ z416 ∧ z416 ≤ 19) (h13 : 0 ≤ z427 ∧ z427 ≤ 9) (h14 : 0 ≤ z439 ∧ z439 ≤ 9) : 0 ≤ p2 ∧ p2 ≤ 9 := by omega
theorem vc_X12_tieOf_hit_16 {f_e0 f_e1 f_ties g1 p1 p2 z416 z427 z439 : Int} (h0 : g1 < f_ties) (h1 : z416 ≤ g1) (h2 : z416 < f_ties) (h3 : ((2 * z416) = (2 * g1) → z427 = f_e0)) (h4 : ((2 * z416) = ((2 * g1) + 1) → z427 = f_e1)) (h5 : (((2 * z416) + 1) = (2 * g1) → z439 = f_e0)) (h6 : (((2 * z416) + 1) = ((2 * g1) + 1) → z439 = f_e1)) (h7 : (((2 * z416) + 1) = (2 * z416) → z439 = z427)) (h8 : (f_e0 = p1 ∧ f_e1 = p2) ∨ (f_e0 = p2 ∧ f_e1 = p1)) (h9 : z427 = p1) (h10 : ¬ z439 = p2) (h11 : z427 = p2) (h12 : ¬ z439 = p1) (h13 : 0 ≤ f_e0 ∧ f_e0 ≤ 9) (h14 : 0 ≤ f_e1 ∧ f_e1 ≤ 9) (h15 : 1 ≤ f_ties ∧ f_ties ≤ 20) (h16 : 0 ≤ g1 ∧ g1 ≤ 19) (h17 : 0 ≤ p1 ∧ p1 ≤ 9) (h18 : 0 ≤ p2 ∧ p2 ≤ 9) (h19 : 0 ≤ z416 ∧ z416 ≤ 19) (h20 : 0 ≤ z427 ∧ z427 ≤ 9) (h21 : 0 ≤ z439 ∧ z439 ≤ 9) : (z416 + 1) ≤ g1 := by omega
theorem vc_X12_tieOf_hit_17 {N f_e0 f_e1 f_ties g1 p1 p2 z416 z427 z439 : Int} (h0 : (21 - z416) < N + 1) (h1 : z416 ≤ g1) (h2 : z416 < f_ties) (h3 : ((2 * z416) = (2 * g1) → z427 = f_e0)) (h4 : ((2 * z416) = ((2 * g1) + 1) → z427 = f_e1)) (h5 : (((2 * z416) + 1) = (2 * g1) → z439 = f_e0)) (h6 : (((2 * z416) + 1) = ((2 * g1) + 1) → z439 = f_e1)) (h7 : (((2 * z416) + 1) = (2 * z416) → z439 = z427)) (h8 : g1 < f_ties) (h9 : (f_e0 = p1 ∧ f_e1 = p2) ∨ (f_e0 = p2 ∧ f_e1 = p1)) (h10 : z427 = p1) (h11 : ¬ z439 = p2) (h12 : z427 = p2) (h13 : ¬ z439 = p1) (h14 : 0 ≤ f_e0 ∧ f_e0 ≤ 9) (h15 : 0 ≤ f_e1 ∧ f_e1 ≤ 9) (h16 : 1 ≤ f_ties ∧ f_ties ≤ 20) (h17 : 0 ≤ g1 ∧ g1 ≤ 19) (h18 : 0 ≤ p1 ∧ p1 ≤ 9) (h19 : 0 ≤ p2 ∧ p2 ≤ 9) (h20 : 0 ≤ z416 ∧ z416 ≤ 19) (h21 : 0 ≤ z427 ∧ z427 ≤ 9) (h22 : 0 ≤ z439 ∧ z439 ≤ 9) : (21 - (z416 + 1)) < N := by omega
theorem vc_X12_tieOf_hit_18 {f_ties g1 : Int} (h0 : g1 < f_ties) (h1 : 1 ≤ f_ties ∧ f_ties ≤ 20) (h2 : 0 ≤ g1 ∧ g1 ≤ 19) : (0 : Int) ≤ g1 := by omega
theorem vc_X12_tieOf_hit_19  : (21 - 0) < ((22 : Nat) : Int) := by omega
set_option maxRecDepth 4000 in
set_option maxHeartbeats 4000000 in
theorem c_X12_tieOf_hit {l : Launch} {D : va_G} {c : Nat → ClassId} {H0 : Heap} {sa : Nat × Nat × (Nat → Int32)} {w : mW} {μ : mM} (hw : mWF w) (hT : mT w μ) {p1 : Int} (hp1 : (-2147483648) ≤ p1 ∧ p1 ≤ 2147483647) {p2 : Int} (hp2 : (-2147483648) ≤ p2 ∧ p2 ≤ 2147483647) {g1 : Int} (hg1 : 0 ≤ g1 ∧ g1 ≤ 19) {f_e0 : Int} (q_f_e0 : μ 110 ((2 * g1).toNat) = f_e0) {f_e1 : Int} (q_f_e1 : μ 110 (((2 * g1) + 1).toNat) = f_e1) {f_ties : Int} (q_f_ties : μ 106 6 = f_ties) (hq0 : g1 < f_ties) (hq1 : (f_e0 = p1 ∧ f_e1 = p2) ∨ (f_e0 = p2 ∧ f_e1 = p1)) : sC (gG l D c H0 sa) mX12_tieOf 1 0 0 [.ref 106, iv p1, iv p2] (mk w μ) (qP w μ (fun z => (0 ≤ z ∧ z ≤ 19) ∧ True)) := by
  refine sC.of rfl (by decide) (le_t rfl) ?_
  have ht_f_e0 : (0 ≤ f_e0 ∧ f_e0 ≤ 9) := by rw [← q_f_e0]; exact hT 110 110 (A_110 hw) ((2 * g1).toNat)
  have ht_f_e1 : (0 ≤ f_e1 ∧ f_e1 ≤ 9) := by rw [← q_f_e1]; exact hT 110 110 (A_110 hw) (((2 * g1) + 1).toNat)
  have ht_f_ties : (0 ≤ f_ties ∧ f_ties ≤ 20) := by rw [← q_f_ties]; exact hT 106 106 (A_106 hw) 6
  have h1 : 1 ≤ f_ties ∧ f_ties ≤ 20 := (vc_X12_tieOf_hit_1 hq0 ht_f_ties hg1)
  refine mr_lvE (lv' := [(0, .ref 106), (1, iv p1), (2, iv p2)]) rfl ?_
  refine mr_iconst (pc := 0) (z := 0) dX12_tieOf_0 ?_
  refine mr_istore_n (pc := 1) (lv' := [(3, iv 0), (0, .ref 106), (1, iv p1), (2, iv p2)]) dX12_tieOf_1 rfl (by decide) rfl ?_
  have L417 : ∀ (nL417 : Nat) (z416 : Int), True → (0 ≤ z416 ∧ z416 ≤ 20) → (z416 ≤ g1) → (21 - z416) < (nL417 : Int) → sV (gG l D c H0 sa) mX12_tieOf (sRm 1 0 0) (sZ (gG l D c H0 sa) 0 0 (qP w μ (fun z => (0 ≤ z ∧ z ≤ 19) ∧ True))) 2 [(0, .ref 106), (1, iv p1), (2, iv p2), (3, iv z416)] [] (mk w μ) 0 0 := by
    intro nL417
    induction nL417 with
    | zero => intro z416 _ h418 h422 h423; exact ((vc_X12_tieOf_hit_2 h423 h422 hq0 h1 hg1 h418)).elim
    | succ nL417 ih424 =>
      intro z416 _ h418 h422 h423
      refine mr_iload_n (pc := 2) (z := z416) dX12_tieOf_2 rfl rfl ?_
      refine sv_aload_n (pc := 3) dX12_tieOf_3 rfl rfl ?_
      refine gk_X12_6 (pc := 4) dX12_tieOf_4 wF_X12_37 (A_106 hw) q_f_ties ?_
      refine mr_icmp_ge (pc := 7) (tgt := 70) dX12_tieOf_7 (by decide) (r32 h418 rfl) (r32 h1 rfl) (fun h => ((vc_X12_tieOf_hit_3 h hq0 h422 h1 hg1 h418)).elim) (fun h425 => ?_)
      have h426 : 0 ≤ z416 ∧ z416 ≤ 19 := (vc_X12_tieOf_hit_4 h425 hq0 h422 h1 hg1 h418)
      refine sv_aload_n (pc := 10) dX12_tieOf_10 rfl rfl ?_
      refine gf_X12_7 (pc := 11) dX12_tieOf_11 wF_X12_40 (A_106 hw) hT ?_
      refine mr_iconst (pc := 14) (z := 2) dX12_tieOf_14 ?_
      refine mr_iload_n (pc := 15) (z := z416) dX12_tieOf_15 rfl rfl ?_
      refine mr_imul (pc := 16) (x := 2) (y := z416) dX12_tieOf_16 ?_
      refine la_110 (pc := 17) dX12_tieOf_17 (A_110 hw) hT (rIx (n := 40) (rMulL (n := 2) (e := 0) (f := 38) h426 rfl) rfl) fun z427 q428 h429 => ?_
      refine mr_iload_n (pc := 18) (z := p1) dX12_tieOf_18 rfl rfl ?_
      refine mr_icmp_ne (pc := 19) (tgt := 36) dX12_tieOf_19 (by decide) (r32 h429 rfl) hp1 (fun h430 => ?_) (fun h430 => ?_)
      · refine sv_aload_n (pc := 36) dX12_tieOf_36 rfl rfl ?_
        refine gf_X12_7 (pc := 37) dX12_tieOf_37 wF_X12_40 (A_106 hw) hT ?_
        refine mr_iconst (pc := 40) (z := 2) dX12_tieOf_40 ?_
        refine mr_iload_n (pc := 41) (z := z416) dX12_tieOf_41 rfl rfl ?_
        refine mr_imul (pc := 42) (x := 2) (y := z416) dX12_tieOf_42 ?_
        refine lk_110 (pc := 43) dX12_tieOf_43 (A_110 hw) (rIx (n := 40) (rMulL (n := 2) (e := 0) (f := 38) h426 rfl) rfl) q428 ?_
        refine mr_iload_n (pc := 44) (z := p2) dX12_tieOf_44 rfl rfl ?_
        refine mr_icmp_ne (pc := 45) (tgt := 64) dX12_tieOf_45 (by decide) (r32 h429 rfl) hp2 (fun h431 => ?_) (fun h431 => ?_)
        · refine mr_iinc (pc := 64) (lv' := [(3, iv (z416 + 1)), (0, .ref 106), (1, iv p1), (2, iv p2)]) dX12_tieOf_64 rfl (by decide) rfl ?_
          refine sv_goto (pc := 67) (tgt := 2) dX12_tieOf_67 (by decide) ?_
          refine mr_lvS (lv' := [(0, .ref 106), (1, iv p1), (2, iv p2), (3, iv (z416 + 1))]) (List.forall_mem_cons.mpr ⟨rfl, List.forall_mem_cons.mpr ⟨rfl, List.forall_mem_cons.mpr ⟨rfl, List.forall_mem_cons.mpr ⟨rfl, fun _ h => absurd h List.not_mem_nil⟩⟩⟩⟩) ?_
          exact ih424 (z416 + 1) trivial (rW (c := 0) (d := 20) (rAdd (e := 1) (f := 20) h426 (rR (x := 1)) rfl) rfl) (vc_X12_tieOf_hit_5 hq0 h422 h425 (cgr q428 q_f_e0) (cgr q428 q_f_e1) hq1 h430 h431 ht_f_e0 ht_f_e1 h1 hg1 hp1 hp2 h426 h429) (vc_X12_tieOf_hit_6 (nS h423) h422 h425 (cgr q428 q_f_e0) (cgr q428 q_f_e1) hq0 hq1 h430 h431 ht_f_e0 ht_f_e1 h1 hg1 hp1 hp2 h426 h429)
        have h432 : 0 ≤ p2 ∧ p2 ≤ 9 := (vc_X12_tieOf_hit_7 h431 hq1 (cgr q428 q_f_e0) (cgr q428 q_f_e1) h430 ht_f_e0 ht_f_e1 hg1 hp1 hp2 h426 h429)
        refine sv_aload_n (pc := 48) dX12_tieOf_48 rfl rfl ?_
        refine gf_X12_7 (pc := 49) dX12_tieOf_49 wF_X12_40 (A_106 hw) hT ?_
        refine mr_iconst (pc := 52) (z := 2) dX12_tieOf_52 ?_
        refine mr_iload_n (pc := 53) (z := z416) dX12_tieOf_53 rfl rfl ?_
        refine mr_imul (pc := 54) (x := 2) (y := z416) dX12_tieOf_54 ?_
        refine mr_iconst (pc := 55) (z := 1) dX12_tieOf_55 ?_
        refine mr_iadd (pc := 56) (x := (2 * z416)) (y := 1) dX12_tieOf_56 ?_
        refine la_110 (pc := 57) dX12_tieOf_57 (A_110 hw) hT (rIx (n := 40) (rAdd (e := 1) (f := 39) (rMulL (n := 2) (e := 0) (f := 38) h426 rfl) (rR (x := 1)) rfl) rfl) fun z433 q434 h435 => ?_
        refine mr_iload_n (pc := 58) (z := p1) dX12_tieOf_58 rfl rfl ?_
        refine mr_icmp_ne (pc := 59) (tgt := 64) dX12_tieOf_59 (by decide) (r32 h435 rfl) hp1 (fun h436 => ?_) (fun h436 => ?_)
        · refine mr_iinc (pc := 64) (lv' := [(3, iv (z416 + 1)), (0, .ref 106), (1, iv p1), (2, iv p2)]) dX12_tieOf_64 rfl (by decide) rfl ?_
          refine sv_goto (pc := 67) (tgt := 2) dX12_tieOf_67 (by decide) ?_
          refine mr_lvS (lv' := [(0, .ref 106), (1, iv p1), (2, iv p2), (3, iv (z416 + 1))]) (List.forall_mem_cons.mpr ⟨rfl, List.forall_mem_cons.mpr ⟨rfl, List.forall_mem_cons.mpr ⟨rfl, List.forall_mem_cons.mpr ⟨rfl, fun _ h => absurd h List.not_mem_nil⟩⟩⟩⟩) ?_
          exact ih424 (z416 + 1) trivial (rW (c := 0) (d := 20) (rAdd (e := 1) (f := 20) h426 (rR (x := 1)) rfl) rfl) (vc_X12_tieOf_hit_8 hq0 h422 h425 (cgr q428 q_f_e0) (cgr q428 q_f_e1) (cgr q434 q_f_e0) (cgr q434 q_f_e1) (cgr q434 q428) hq1 h430 h431 h436 ht_f_e0 ht_f_e1 h1 hg1 hp1 h432 h426 h429 h435) (vc_X12_tieOf_hit_9 (nS h423) h422 h425 (cgr q428 q_f_e0) (cgr q428 q_f_e1) (cgr q434 q_f_e0) (cgr q434 q_f_e1) (cgr q434 q428) hq0 hq1 h430 h431 h436 ht_f_e0 ht_f_e1 h1 hg1 hp1 h432 h426 h429 h435)
        have h437 : 0 ≤ p1 ∧ p1 ≤ 9 := (vc_X12_tieOf_hit_10 h436 hq1 h430 (cgr q434 q_f_e0) (cgr q434 q_f_e1) (cgr q434 q428) ht_f_e0 ht_f_e1 hg1 hp1 h432 h426 h429 h435)
        refine mr_iload_n (pc := 62) (z := z416) dX12_tieOf_62 rfl rfl ?_
        exact mr_iretP dX12_tieOf_63 rfl (le_t rfl) (le_t rfl) ⟨h426, trivial⟩
      have h438 : 0 ≤ p1 ∧ p1 ≤ 9 := (vc_X12_tieOf_hit_11 h430 hq1 (cgr q428 q_f_e0) (cgr q428 q_f_e1) ht_f_e0 ht_f_e1 hg1 hp1 hp2 h426 h429)
      refine sv_aload_n (pc := 22) dX12_tieOf_22 rfl rfl ?_
      refine gf_X12_7 (pc := 23) dX12_tieOf_23 wF_X12_40 (A_106 hw) hT ?_
      refine mr_iconst (pc := 26) (z := 2) dX12_tieOf_26 ?_
      refine mr_iload_n (pc := 27) (z := z416) dX12_tieOf_27 rfl rfl ?_
      refine mr_imul (pc := 28) (x := 2) (y := z416) dX12_tieOf_28 ?_
      refine mr_iconst (pc := 29) (z := 1) dX12_tieOf_29 ?_
      refine mr_iadd (pc := 30) (x := (2 * z416)) (y := 1) dX12_tieOf_30 ?_
      refine la_110 (pc := 31) dX12_tieOf_31 (A_110 hw) hT (rIx (n := 40) (rAdd (e := 1) (f := 39) (rMulL (n := 2) (e := 0) (f := 38) h426 rfl) (rR (x := 1)) rfl) rfl) fun z439 q440 h441 => ?_
      refine mr_iload_n (pc := 32) (z := p2) dX12_tieOf_32 rfl rfl ?_
      refine mr_icmp_eq (pc := 33) (tgt := 62) dX12_tieOf_33 (by decide) (r32 h441 rfl) hp2 (fun h442 => ?_) (fun h442 => ?_)
      · have h443 : 0 ≤ p2 ∧ p2 ≤ 9 := (vc_X12_tieOf_hit_12 h442 hq1 (cgr q440 q_f_e0) (cgr q440 q_f_e1) (cgr q440 q428) ht_f_e0 ht_f_e1 hg1 h438 hp2 h426 h429 h441)
        refine mr_iload_n (pc := 62) (z := z416) dX12_tieOf_62 rfl rfl ?_
        exact mr_iretP dX12_tieOf_63 rfl (le_t rfl) (le_t rfl) ⟨h426, trivial⟩
      refine sv_aload_n (pc := 36) dX12_tieOf_36 rfl rfl ?_
      refine gf_X12_7 (pc := 37) dX12_tieOf_37 wF_X12_40 (A_106 hw) hT ?_
      refine mr_iconst (pc := 40) (z := 2) dX12_tieOf_40 ?_
      refine mr_iload_n (pc := 41) (z := z416) dX12_tieOf_41 rfl rfl ?_
      refine mr_imul (pc := 42) (x := 2) (y := z416) dX12_tieOf_42 ?_
      refine lk_110 (pc := 43) dX12_tieOf_43 (A_110 hw) (rIx (n := 40) (rMulL (n := 2) (e := 0) (f := 38) h426 rfl) rfl) q428 ?_
      refine mr_iload_n (pc := 44) (z := p2) dX12_tieOf_44 rfl rfl ?_
      refine mr_icmp_ne (pc := 45) (tgt := 64) dX12_tieOf_45 (by decide) (r32 h429 rfl) hp2 (fun h444 => ?_) (fun h444 => ?_)
      · refine mr_iinc (pc := 64) (lv' := [(3, iv (z416 + 1)), (0, .ref 106), (1, iv p1), (2, iv p2)]) dX12_tieOf_64 rfl (by decide) rfl ?_
        refine sv_goto (pc := 67) (tgt := 2) dX12_tieOf_67 (by decide) ?_
        refine mr_lvS (lv' := [(0, .ref 106), (1, iv p1), (2, iv p2), (3, iv (z416 + 1))]) (List.forall_mem_cons.mpr ⟨rfl, List.forall_mem_cons.mpr ⟨rfl, List.forall_mem_cons.mpr ⟨rfl, List.forall_mem_cons.mpr ⟨rfl, fun _ h => absurd h List.not_mem_nil⟩⟩⟩⟩) ?_
        exact ih424 (z416 + 1) trivial (rW (c := 0) (d := 20) (rAdd (e := 1) (f := 20) h426 (rR (x := 1)) rfl) rfl) (vc_X12_tieOf_hit_13 hq0 h422 h425 (cgr q428 q_f_e0) (cgr q428 q_f_e1) (cgr q440 q_f_e0) (cgr q440 q_f_e1) (cgr q440 q428) hq1 h430 h442 h444 ht_f_e0 ht_f_e1 h1 hg1 h438 hp2 h426 h429 h441) (vc_X12_tieOf_hit_14 (nS h423) h422 h425 (cgr q428 q_f_e0) (cgr q428 q_f_e1) (cgr q440 q_f_e0) (cgr q440 q_f_e1) (cgr q440 q428) hq0 hq1 h430 h442 h444 ht_f_e0 ht_f_e1 h1 hg1 h438 hp2 h426 h429 h441)
      have h445 : 0 ≤ p2 ∧ p2 ≤ 9 := (vc_X12_tieOf_hit_15 h444 hq1 (cgr q428 q_f_e0) (cgr q428 q_f_e1) h430 (cgr q440 q428) h442 ht_f_e0 ht_f_e1 hg1 h438 hp2 h426 h429 h441)
      refine sv_aload_n (pc := 48) dX12_tieOf_48 rfl rfl ?_
      refine gf_X12_7 (pc := 49) dX12_tieOf_49 wF_X12_40 (A_106 hw) hT ?_
      refine mr_iconst (pc := 52) (z := 2) dX12_tieOf_52 ?_
      refine mr_iload_n (pc := 53) (z := z416) dX12_tieOf_53 rfl rfl ?_
      refine mr_imul (pc := 54) (x := 2) (y := z416) dX12_tieOf_54 ?_
      refine mr_iconst (pc := 55) (z := 1) dX12_tieOf_55 ?_
      refine mr_iadd (pc := 56) (x := (2 * z416)) (y := 1) dX12_tieOf_56 ?_
      refine lk_110 (pc := 57) dX12_tieOf_57 (A_110 hw) (rIx (n := 40) (rAdd (e := 1) (f := 39) (rMulL (n := 2) (e := 0) (f := 38) h426 rfl) (rR (x := 1)) rfl) rfl) q440 ?_
      refine mr_iload_n (pc := 58) (z := p1) dX12_tieOf_58 rfl rfl ?_
      refine mr_icmp_ne (pc := 59) (tgt := 64) dX12_tieOf_59 (by decide) (r32 h441 rfl) (r32 h438 rfl) (fun h446 => ?_) (fun h446 => ?_)
      · refine mr_iinc (pc := 64) (lv' := [(3, iv (z416 + 1)), (0, .ref 106), (1, iv p1), (2, iv p2)]) dX12_tieOf_64 rfl (by decide) rfl ?_
        refine sv_goto (pc := 67) (tgt := 2) dX12_tieOf_67 (by decide) ?_
        refine mr_lvS (lv' := [(0, .ref 106), (1, iv p1), (2, iv p2), (3, iv (z416 + 1))]) (List.forall_mem_cons.mpr ⟨rfl, List.forall_mem_cons.mpr ⟨rfl, List.forall_mem_cons.mpr ⟨rfl, List.forall_mem_cons.mpr ⟨rfl, fun _ h => absurd h List.not_mem_nil⟩⟩⟩⟩) ?_
        exact ih424 (z416 + 1) trivial (rW (c := 0) (d := 20) (rAdd (e := 1) (f := 20) h426 (rR (x := 1)) rfl) rfl) (vc_X12_tieOf_hit_16 hq0 h422 h425 (cgr q428 q_f_e0) (cgr q428 q_f_e1) (cgr q440 q_f_e0) (cgr q440 q_f_e1) (cgr q440 q428) hq1 h430 h442 h444 h446 ht_f_e0 ht_f_e1 h1 hg1 h438 h445 h426 h429 h441) (vc_X12_tieOf_hit_17 (nS h423) h422 h425 (cgr q428 q_f_e0) (cgr q428 q_f_e1) (cgr q440 q_f_e0) (cgr q440 q_f_e1) (cgr q440 q428) hq0 hq1 h430 h442 h444 h446 ht_f_e0 ht_f_e1 h1 hg1 h438 h445 h426 h429 h441)
      refine mr_iload_n (pc := 62) (z := z416) dX12_tieOf_62 rfl rfl ?_
      exact mr_iretP dX12_tieOf_63 rfl (le_t rfl) (le_t rfl) ⟨h426, trivial⟩
  refine mr_lvS (lv' := [(0, .ref 106), (1, iv p1), (2, iv p2), (3, iv 0)]) (List.forall_mem_cons.mpr ⟨rfl, List.forall_mem_cons.mpr ⟨rfl, List.forall_mem_cons.mpr ⟨rfl, List.forall_mem_cons.mpr ⟨rfl, fun _ h => absurd h List.not_mem_nil⟩⟩⟩⟩) ?_
  exact L417 22 0 trivial (rW (c := 0) (d := 20) (rR (x := 0)) rfl) (vc_X12_tieOf_hit_18 hq0 h1 hg1) vc_X12_tieOf_hit_19
theorem vc_X12_tieWord_1 {f_ties g1 : Int} (h0 : g1 < f_ties) (h1 : 0 ≤ f_ties ∧ f_ties ≤ 20) (h2 : 0 ≤ g1 ∧ g1 ≤ 19) : 1 ≤ f_ties ∧ f_ties ≤ 20 := by omega
theorem vc_X12_tieWord_2 {f_ties g1 : Int} (h0 : g1 < f_ties) (h1 : 1 ≤ f_ties ∧ f_ties ≤ 20) (h2 : 0 ≤ g1 ∧ g1 ≤ 19) : g1 < f_ties := by omega
theorem vc_X12_tieWord_3 {f_e0 f_e1 p1 p2 : Int} (h0 : (f_e0 = p1 ∧ f_e1 = p2) ∨ (f_e0 = p2 ∧ f_e1 = p1)) (h1 : 0 ≤ f_e0 ∧ f_e0 ≤ 9) (h2 : 0 ≤ f_e1 ∧ f_e1 ≤ 9) (h3 : (-2147483648) ≤ p1 ∧ p1 ≤ 2147483647) (h4 : (-2147483648) ≤ p2 ∧ p2 ≤ 2147483647) : (f_e0 = p1 ∧ f_e1 = p2) ∨ (f_e0 = p2 ∧ f_e1 = p1) := by omega
theorem vc_X12_tieWord_4 {z52 : Int} (h0 : ¬ z52 = 2) (h1 : ¬ z52 = 1) (h2 : 0 ≤ z52 ∧ z52 ≤ 2) : 0 ≤ z52 ∧ z52 ≤ 1 := by omega
theorem vc_X12_tieWord_5 {f_e0 f_e1 p1 p2 z58 : Int} (h0 : z58 = p1) (h1 : (f_e0 = p1 ∧ f_e1 = p2) ∨ (f_e0 = p2 ∧ f_e1 = p1)) (h2 : 0 ≤ f_e0 ∧ f_e0 ≤ 9) (h3 : 0 ≤ f_e1 ∧ f_e1 ≤ 9) (h4 : (-2147483648) ≤ p1 ∧ p1 ≤ 2147483647) (h5 : (-2147483648) ≤ p2 ∧ p2 ≤ 2147483647) (h6 : 0 ≤ z58 ∧ z58 ≤ 9) : 0 ≤ p1 ∧ p1 ≤ 9 := by omega
theorem vc_X12_tieWord_6 {z52 : Int} (h0 : z52 = 2) (h1 : ¬ z52 = 1) (h2 : 0 ≤ z52 ∧ z52 ≤ 2) : 2 ≤ z52 ∧ z52 ≤ 2 := by omega
theorem vc_X12_tieWord_7 {z52 : Int} (h0 : z52 = 1) (h1 : 0 ≤ z52 ∧ z52 ≤ 2) : 1 ≤ z52 ∧ z52 ≤ 1 := by omega
set_option maxRecDepth 4000 in
set_option maxHeartbeats 4000000 in
theorem c_X12_tieWord {l : Launch} {D : va_G} {c : Nat → ClassId} {H0 : Heap} {sa : Nat × Nat × (Nat → Int32)} {w : mW} {μ : mM} (hw : mWF w) (hT : mT w μ) {p1 : Int} (hp1 : (-2147483648) ≤ p1 ∧ p1 ≤ 2147483647) {p2 : Int} (hp2 : (-2147483648) ≤ p2 ∧ p2 ≤ 2147483647) {g1 : Int} (hg1 : 0 ≤ g1 ∧ g1 ≤ 19) {f_e0 : Int} (q_f_e0 : μ 110 ((2 * g1).toNat) = f_e0) {f_e1 : Int} (q_f_e1 : μ 110 (((2 * g1) + 1).toNat) = f_e1) {f_ties : Int} (q_f_ties : μ 106 6 = f_ties) (hq0 : g1 < f_ties) (hq1 : (f_e0 = p1 ∧ f_e1 = p2) ∨ (f_e0 = p2 ∧ f_e1 = p1)) : sC (gG l D c H0 sa) mX12_tieWord 2 0 0 [.ref 106, iv p1, iv p2] (mk w μ) (qP w μ (fun z => (16 ≤ z ∧ z ≤ 19) ∧ True)) := by
  refine sC.of rfl (by decide) (le_t rfl) ?_
  have ht_f_e0 : (0 ≤ f_e0 ∧ f_e0 ≤ 9) := by rw [← q_f_e0]; exact hT 110 110 (A_110 hw) ((2 * g1).toNat)
  have ht_f_e1 : (0 ≤ f_e1 ∧ f_e1 ≤ 9) := by rw [← q_f_e1]; exact hT 110 110 (A_110 hw) (((2 * g1) + 1).toNat)
  have ht_f_ties : (0 ≤ f_ties ∧ f_ties ≤ 20) := by rw [← q_f_ties]; exact hT 106 106 (A_106 hw) 6
  have h1 : 1 ≤ f_ties ∧ f_ties ≤ 20 := (vc_X12_tieWord_1 hq0 ht_f_ties hg1)
  refine mr_lvE (lv' := [(0, .ref 106), (1, iv p1), (2, iv p2)]) rfl ?_
  refine sv_aload_n (pc := 0) dX12_tieWord_0 rfl rfl ?_
  refine mr_iload_n (pc := 1) (z := p1) dX12_tieWord_1 rfl rfl ?_
  refine mr_iload_n (pc := 2) (z := p2) dX12_tieWord_2 rfl rfl ?_
  refine mr_cVP (pc := 3) (c_X12_tieOf_hit hw hT hp1 hp2 hg1 q_f_e0 q_f_e1 q_f_ties (vc_X12_tieWord_2 hq0 h1 hg1) (vc_X12_tieWord_3 hq1 ht_f_e0 ht_f_e1 hp1 hp2)) (gOk _ _ _ _ _) dX12_tieWord_3 (tX12_tieOf _ _ _ _ _) ⟨wV_X12_tieOf, wL_X12_tieOf⟩ wM_X12_43 (gCX12 _ _ _ _ _) rfl (A_106 hw) rfl ⟨le_t rfl, le_t rfl⟩ ⟨le_t rfl, le_t rfl⟩ rfl (le_t rfl) fun z51 h50 => ?_
  refine mr_istore_n (pc := 6) (lv' := [(3, iv z51), (0, .ref 106), (1, iv p1), (2, iv p2)]) dX12_tieWord_6 rfl (by decide) rfl ?_
  refine sv_aload_n (pc := 7) dX12_tieWord_7 rfl rfl ?_
  refine gf_X12_8 (pc := 8) dX12_tieWord_8 wF_X12_46 (A_106 hw) hT ?_
  refine mr_iload_n (pc := 11) (z := z51) dX12_tieWord_11 rfl rfl ?_
  refine la_111 (pc := 12) dX12_tieWord_12 (A_111 hw) hT (rIx (n := 20) h50.1 rfl) fun z52 q53 h54 => ?_
  refine mr_iconst (pc := 13) (z := 1) dX12_tieWord_13 ?_
  refine mr_icmp_ne (pc := 14) (tgt := 20) dX12_tieWord_14 (by decide) (r32 h54 rfl) (r32 (rR (x := 1)) rfl) (fun h55 => ?_) (fun h55 => ?_)
  · refine sv_aload_n (pc := 20) dX12_tieWord_20 rfl rfl ?_
    refine gf_X12_8 (pc := 21) dX12_tieWord_21 wF_X12_46 (A_106 hw) hT ?_
    refine mr_iload_n (pc := 24) (z := z51) dX12_tieWord_24 rfl rfl ?_
    refine lk_111 (pc := 25) dX12_tieWord_25 (A_111 hw) (rIx (n := 20) h50.1 rfl) q53 ?_
    refine mr_iconst (pc := 26) (z := 2) dX12_tieWord_26 ?_
    refine mr_icmp_ne (pc := 27) (tgt := 33) dX12_tieWord_27 (by decide) (r32 h54 rfl) (r32 (rR (x := 2)) rfl) (fun h56 => ?_) (fun h56 => ?_)
    · have h57 : 0 ≤ z52 ∧ z52 ≤ 1 := (vc_X12_tieWord_4 h56 h55 h54)
      refine sv_aload_n (pc := 33) dX12_tieWord_33 rfl rfl ?_
      refine gf_X12_7 (pc := 34) dX12_tieWord_34 wF_X12_40 (A_106 hw) hT ?_
      refine mr_iconst (pc := 37) (z := 2) dX12_tieWord_37 ?_
      refine mr_iload_n (pc := 38) (z := z51) dX12_tieWord_38 rfl rfl ?_
      refine mr_imul (pc := 39) (x := 2) (y := z51) dX12_tieWord_39 ?_
      refine la_110 (pc := 40) dX12_tieWord_40 (A_110 hw) hT (rIx (n := 40) (rMulL (n := 2) (e := 0) (f := 38) h50.1 rfl) rfl) fun z58 q59 h60 => ?_
      refine mr_iload_n (pc := 41) (z := p1) dX12_tieWord_41 rfl rfl ?_
      refine mr_icmp_ne (pc := 42) (tgt := 50) dX12_tieWord_42 (by decide) (r32 h60 rfl) hp1 (fun h62 => ?_) (fun h62 => ?_)
      · refine mr_bipush (pc := 50) (z := 17) dX12_tieWord_50 (by decide) ?_
        exact mr_iretP dX12_tieWord_52 rfl (le_t rfl) (le_t rfl) ⟨(rW (c := 16) (d := 19) (rR (x := 17)) rfl), trivial⟩
      have h63 : 0 ≤ p1 ∧ p1 ≤ 9 := (vc_X12_tieWord_5 h62 hq1 ht_f_e0 ht_f_e1 hp1 hp2 h60)
      refine mr_bipush (pc := 45) (z := 16) dX12_tieWord_45 (by decide) ?_
      refine sv_goto (pc := 47) (tgt := 52) dX12_tieWord_47 (by decide) ?_
      exact mr_iretP dX12_tieWord_52 rfl (le_t rfl) (le_t rfl) ⟨(rW (c := 16) (d := 19) (rR (x := 16)) rfl), trivial⟩
    have h64 : 2 ≤ z52 ∧ z52 ≤ 2 := (vc_X12_tieWord_6 h56 h55 h54)
    refine mr_bipush (pc := 30) (z := 19) dX12_tieWord_30 (by decide) ?_
    exact mr_iretP dX12_tieWord_32 rfl (le_t rfl) (le_t rfl) ⟨(rW (c := 16) (d := 19) (rR (x := 19)) rfl), trivial⟩
  have h65 : 1 ≤ z52 ∧ z52 ≤ 1 := (vc_X12_tieWord_7 h55 h54)
  refine mr_bipush (pc := 17) (z := 18) dX12_tieWord_17 (by decide) ?_
  exact mr_iretP dX12_tieWord_19 rfl (le_t rfl) (le_t rfl) ⟨(rW (c := 16) (d := 19) (rR (x := 18)) rfl), trivial⟩
theorem vc_X12_isSo_1 {p3 : Int} (h0 : 0 ≤ p3 ∧ p3 ≤ 2099) : 0 ≤ (40 * p3) := by omega
theorem vc_X12_isSo_2 {p3 : Int} (h0 : 0 ≤ p3 ∧ p3 ≤ 2099) : (40 * p3) % 40 = 0 := by omega
theorem vc_X12_isSo_3 {f_ties g1 : Int} (h0 : g1 < f_ties) (h1 : 0 ≤ f_ties ∧ f_ties ≤ 20) (h2 : 0 ≤ g1 ∧ g1 ≤ 19) : 1 ≤ f_ties ∧ f_ties ≤ 20 := by omega
theorem vc_X12_isSo_4 {f_x : Int} (h0 : 0 ≤ f_x) (h1 : (-1) ≤ f_x ∧ f_x ≤ 9) : 0 ≤ f_x ∧ f_x ≤ 9 := by omega
theorem vc_X12_isSo_5 {p3 : Int} (h0 : 0 ≤ p3 ∧ p3 ≤ 2099) : ((40 * p3) + 4) % 40 = 4 := by omega
theorem vc_X12_isSo_6 {z610 : Int} (h0 : ¬ z610 = 2) (h1 : ¬ z610 = 1) (h2 : 0 ≤ z610 ∧ z610 ≤ 2) : 0 ≤ z610 ∧ z610 ≤ 1 := by omega
theorem vc_X12_isSo_7 {z611 : Int} (h0 : z611 = 22) (h1 : (-2147483648) ≤ z611 ∧ z611 ≤ 2147483647) : 22 ≤ z611 ∧ z611 ≤ 22 := by omega
theorem vc_X12_isSo_8 {z610 : Int} (h0 : z610 = 2) (h1 : ¬ z610 = 1) (h2 : 0 ≤ z610 ∧ z610 ≤ 2) : 2 ≤ z610 ∧ z610 ≤ 2 := by omega
theorem vc_X12_isSo_9 {z611 : Int} (h0 : z611 = 21) (h1 : (-2147483648) ≤ z611 ∧ z611 ≤ 2147483647) : 21 ≤ z611 ∧ z611 ≤ 21 := by omega
theorem vc_X12_isSo_10 {z610 : Int} (h0 : z610 = 1) (h1 : 0 ≤ z610 ∧ z610 ≤ 2) : 1 ≤ z610 ∧ z610 ≤ 1 := by omega
theorem vc_X12_isSo_11 {z611 : Int} (h0 : z611 = 20) (h1 : (-2147483648) ≤ z611 ∧ z611 ≤ 2147483647) : 20 ≤ z611 ∧ z611 ≤ 20 := by omega
theorem vc_X12_isSo_12 {z439 : Int} (h0 : ¬ z439 = 0) (h1 : 0 ≤ z439 ∧ z439 ≤ 20) : 1 ≤ z439 ∧ z439 ≤ 20 := by omega
theorem vc_X12_isSo_13 {z439 : Int} (h0 : z439 = 0) (h1 : 0 ≤ z439 ∧ z439 ≤ 20) : 0 ≤ z439 ∧ z439 ≤ 0 := by omega
theorem vc_X12_isSo_14 {z443 : Int} (h0 : z443 = 14) (h1 : ¬ z443 = 6) (h2 : ¬ z443 = 8) (h3 : ¬ z443 = 9) (h4 : ¬ z443 = 10) (h5 : ¬ z443 = 11) (h6 : ¬ z443 = 12) (h7 : ¬ z443 = 13) (h8 : (-2147483648) ≤ z443 ∧ z443 ≤ 2147483647) : 14 ≤ z443 ∧ z443 ≤ 14 := by omega
theorem vc_X12_isSo_15 {z443 : Int} (h0 : z443 = 13) (h1 : ¬ z443 = 4) (h2 : ¬ z443 = 6) (h3 : ¬ z443 = 8) (h4 : ¬ z443 = 9) (h5 : ¬ z443 = 10) (h6 : ¬ z443 = 11) (h7 : ¬ z443 = 12) (h8 : (-2147483648) ≤ z443 ∧ z443 ≤ 2147483647) : 13 ≤ z443 ∧ z443 ≤ 13 := by omega
theorem vc_X12_isSo_16 {z443 : Int} (h0 : z443 = 12) (h1 : ¬ z443 = 4) (h2 : ¬ z443 = 6) (h3 : ¬ z443 = 8) (h4 : ¬ z443 = 9) (h5 : ¬ z443 = 10) (h6 : ¬ z443 = 11) (h7 : (-2147483648) ≤ z443 ∧ z443 ≤ 2147483647) : 12 ≤ z443 ∧ z443 ≤ 12 := by omega
theorem vc_X12_isSo_17 {z443 : Int} (h0 : z443 = 11) (h1 : ¬ z443 = 4) (h2 : ¬ z443 = 6) (h3 : ¬ z443 = 8) (h4 : ¬ z443 = 9) (h5 : ¬ z443 = 10) (h6 : (-2147483648) ≤ z443 ∧ z443 ≤ 2147483647) : 11 ≤ z443 ∧ z443 ≤ 11 := by omega
theorem vc_X12_isSo_18 {z443 : Int} (h0 : z443 = 10) (h1 : ¬ z443 = 4) (h2 : ¬ z443 = 6) (h3 : ¬ z443 = 8) (h4 : ¬ z443 = 9) (h5 : (-2147483648) ≤ z443 ∧ z443 ≤ 2147483647) : 10 ≤ z443 ∧ z443 ≤ 10 := by omega
theorem vc_X12_isSo_19 {f_ties g1 : Int} (h0 : g1 < f_ties) (h1 : 1 ≤ f_ties ∧ f_ties ≤ 20) (h2 : 0 ≤ g1 ∧ g1 ≤ 19) : g1 < f_ties := by omega
theorem vc_X12_isSo_20 {f_e0 f_e1 p4 p5 : Int} (h0 : (f_e0 = p4 ∧ f_e1 = p5) ∨ (f_e0 = p5 ∧ f_e1 = p4)) (h1 : 0 ≤ f_e0 ∧ f_e0 ≤ 9) (h2 : 0 ≤ f_e1 ∧ f_e1 ≤ 9) (h3 : (-2147483648) ≤ p4 ∧ p4 ≤ 2147483647) (h4 : (-2147483648) ≤ p5 ∧ p5 ≤ 2147483647) : (f_e0 = p4 ∧ f_e1 = p5) ∨ (f_e0 = p5 ∧ f_e1 = p4) := by omega
theorem vc_X12_isSo_21 {z694 z695 : Int} (h0 : z694 = z695) (h1 : 16 ≤ z694 ∧ z694 ≤ 19) (h2 : (-2147483648) ≤ z695 ∧ z695 ≤ 2147483647) : 16 ≤ z695 ∧ z695 ≤ 19 := by omega
theorem vc_X12_isSo_22 {z443 : Int} (h0 : z443 = 9) (h1 : ¬ z443 = 4) (h2 : ¬ z443 = 6) (h3 : ¬ z443 = 8) (h4 : (-2147483648) ≤ z443 ∧ z443 ≤ 2147483647) : 9 ≤ z443 ∧ z443 ≤ 9 := by omega
theorem vc_X12_isSo_23 {z443 : Int} (h0 : z443 = 8) (h1 : ¬ z443 = 4) (h2 : ¬ z443 = 6) (h3 : (-2147483648) ≤ z443 ∧ z443 ≤ 2147483647) : 8 ≤ z443 ∧ z443 ≤ 8 := by omega
theorem vc_X12_isSo_24 {z443 : Int} (h0 : z443 = 6) (h1 : ¬ z443 = 4) (h2 : (-2147483648) ≤ z443 ∧ z443 ≤ 2147483647) : 6 ≤ z443 ∧ z443 ≤ 6 := by omega
theorem vc_X12_isSo_25 {z443 : Int} (h0 : z443 = 4) (h1 : (-2147483648) ≤ z443 ∧ z443 ≤ 2147483647) : 4 ≤ z443 ∧ z443 ≤ 4 := by omega
theorem vc_X12_isSo_26 {z722 z725 : Int} (h0 : z722 < z725) (h1 : 0 ≤ z722 ∧ z722 ≤ 32) (h2 : (-2147483648) ≤ z725 ∧ z725 ≤ 2147483647) : 1 ≤ z725 ∧ z725 ≤ 2147483647 := by omega
theorem vc_X12_isSo_27 {z722 z725 : Int} (h0 : z725 ≤ z722) (h1 : 0 ≤ z722 ∧ z722 ≤ 32) (h2 : (-2147483648) ≤ z725 ∧ z725 ≤ 2147483647) : (-2147483648) ≤ z725 ∧ z725 ≤ 32 := by omega
theorem vc_X12_isSo_28 {z761 : Int} (h0 : z761 = 0) (h1 : 0 ≤ z761 ∧ z761 ≤ 1) : 0 ≤ z761 ∧ z761 ≤ 0 := by omega
theorem vc_X12_isSo_29 {z761 : Int} (h0 : ¬ z761 = 0) (h1 : 0 ≤ z761 ∧ z761 ≤ 1) : 1 ≤ z761 ∧ z761 ≤ 1 := by omega
theorem vc_X12_isSo_30 {z722 z725 z772 : Int} (h0 : z772 < z722) (h1 : z725 ≤ z722) (h2 : 0 ≤ z722 ∧ z722 ≤ 32) (h3 : (-2147483648) ≤ z725 ∧ z725 ≤ 32) (h4 : (-2147483648) ≤ z772 ∧ z772 ≤ 2147483647) : (-2147483648) ≤ z772 ∧ z772 ≤ 31 := by omega
theorem vc_X12_isSo_31 {z722 z725 z772 : Int} (h0 : z722 ≤ z772) (h1 : z725 ≤ z722) (h2 : 0 ≤ z722 ∧ z722 ≤ 32) (h3 : (-2147483648) ≤ z725 ∧ z725 ≤ 32) (h4 : (-2147483648) ≤ z772 ∧ z772 ≤ 2147483647) : 0 ≤ z772 ∧ z772 ≤ 2147483647 := by omega
set_option maxRecDepth 4000 in
set_option maxHeartbeats 4000000 in
theorem c_X12_isSo {l : Launch} {D : va_G} {c : Nat → ClassId} {H0 : Heap} {sa : Nat × Nat × (Nat → Int32)} {w : mW} {μ : mM} (hw : mWF w) (hT : mT w μ) {p1 : Int} (hp1 : 0 ≤ p1 ∧ p1 ≤ 11) {p2 : Int} (hp2 : 0 ≤ p2 ∧ p2 ≤ 3899) {p3 : Int} (hp3 : 0 ≤ p3 ∧ p3 ≤ 2099) {p4 : Int} (hp4 : (-2147483648) ≤ p4 ∧ p4 ≤ 2147483647) {p5 : Int} (hp5 : (-2147483648) ≤ p5 ∧ p5 ≤ 2147483647) {g1 : Int} (hg1 : 0 ≤ g1 ∧ g1 ≤ 19) {f_e0 : Int} (q_f_e0 : μ 110 ((2 * g1).toNat) = f_e0) {f_e1 : Int} (q_f_e1 : μ 110 (((2 * g1) + 1).toNat) = f_e1) {f_ties : Int} (q_f_ties : μ 106 6 = f_ties) {f_x : Int} (q_f_x : μ 126 ((40 * p3).toNat) = f_x) (hq0 : g1 < f_ties) (hq1 : (f_e0 = p4 ∧ f_e1 = p5) ∨ (f_e0 = p5 ∧ f_e1 = p4)) (hq2 : 0 ≤ f_x) : sC (gG l D c H0 sa) mX12_isSo 5 0 0 [.ref 106, iv p1, iv p2, iv p3, iv p4, iv p5] (mk w μ) (qI w [106026, 106027, 106028, 106029, 106030, 106031] μ (fun z μ1 => (0 ≤ z ∧ z ≤ 1) ∧ True)) := by
  refine sC.of rfl (by decide) (le_t rfl) ?_
  have ht_f_e0 : (0 ≤ f_e0 ∧ f_e0 ≤ 9) := by rw [← q_f_e0]; exact hT 110 110 (A_110 hw) ((2 * g1).toNat)
  have ht_f_e1 : (0 ≤ f_e1 ∧ f_e1 ≤ 9) := by rw [← q_f_e1]; exact hT 110 110 (A_110 hw) (((2 * g1) + 1).toNat)
  have ht_f_ties : (0 ≤ f_ties ∧ f_ties ≤ 20) := by rw [← q_f_ties]; exact hT 106 106 (A_106 hw) 6
  have ht_f_x := rt7 hT (A_126 hw) (vc_X12_isSo_1 hp3) q_f_x
  have h1 : (-1) ≤ f_x ∧ f_x ≤ 9 := ht_f_x.2.1 (vc_X12_isSo_2 hp3)
  have h2 : 1 ≤ f_ties ∧ f_ties ≤ 20 := (vc_X12_isSo_3 hq0 ht_f_ties hg1)
  have h3 : 0 ≤ f_x ∧ f_x ≤ 9 := (vc_X12_isSo_4 hq2 h1)
  refine mr_lvE (lv' := [(0, .ref 106), (1, iv p1), (2, iv p2), (3, iv p3), (4, iv p4), (5, iv p5)]) rfl ?_
  refine sv_aload_n (pc := 0) dX12_isSo_0 rfl rfl ?_
  refine gf_X12_32 (pc := 1) dX12_isSo_1 wF_X12_148 (A_106 hw) hT ?_
  refine mr_bipush (pc := 4) (z := 40) dX12_isSo_4 (by decide) ?_
  refine mr_iload_n (pc := 6) (z := p3) dX12_isSo_6 rfl rfl ?_
  refine mr_imul (pc := 7) (x := 40) (y := p3) dX12_isSo_7 ?_
  refine lk_126 (pc := 8) dX12_isSo_8 (A_126 hw) (rIx (n := 84000) (rMulL (n := 40) (e := 0) (f := 83960) hp3 rfl) rfl) q_f_x ?_
  refine mr_istore (pc := 9) (lv' := [(6, iv f_x), (0, .ref 106), (1, iv p1), (2, iv p2), (3, iv p3), (4, iv p4), (5, iv p5)]) dX12_isSo_9 (by decide) rfl ?_
  refine sv_aload_n (pc := 11) dX12_isSo_11 rfl rfl ?_
  refine gf_X12_32 (pc := 12) dX12_isSo_12 wF_X12_148 (A_106 hw) hT ?_
  refine mr_bipush (pc := 15) (z := 40) dX12_isSo_15 (by decide) ?_
  refine mr_iload_n (pc := 17) (z := p3) dX12_isSo_17 rfl rfl ?_
  refine mr_imul (pc := 18) (x := 40) (y := p3) dX12_isSo_18 ?_
  refine mr_iconst (pc := 19) (z := 4) dX12_isSo_19 ?_
  refine mr_iadd (pc := 20) (x := (40 * p3)) (y := 4) dX12_isSo_20 ?_
  refine la_126 (pc := 21) dX12_isSo_21 (A_126 hw) hT (rIx (n := 84000) (rAdd (e := 4) (f := 83964) (rMulL (n := 40) (e := 0) (f := 83960) hp3 rfl) (rR (x := 4)) rfl) rfl) fun z439 q440 h441 => ?_
  have h442 : 0 ≤ z439 ∧ z439 ≤ 20 := h441.2.2.1 (vc_X12_isSo_5 hp3)
  refine mr_istore (pc := 22) (lv' := [(8, iv z439), (6, iv f_x), (0, .ref 106), (1, iv p1), (2, iv p2), (3, iv p3), (4, iv p4), (5, iv p5)]) dX12_isSo_22 (by decide) rfl ?_
  refine sv_aload_n (pc := 24) dX12_isSo_24 rfl rfl ?_
  refine gf_X12_45 (pc := 25) dX12_isSo_25 wF_X12_323 (A_106 hw) hT ?_
  refine mr_iload_n (pc := 28) (z := p2) dX12_isSo_28 rfl rfl ?_
  refine la_132 (pc := 29) dX12_isSo_29 (A_132 hw) hT (rIx (n := 3900) hp2 rfl) fun z443 q444 h445 => ?_
  refine mr_iconst (pc := 30) (z := 4) dX12_isSo_30 ?_
  have J581 : ∀ (z575 : Int) (μ577 : mM), (mT w μ577) → (mF [106026, 106027, 106028, 106029, 106030, 106031] w μ μ577) → ((0 ≤ z575 ∧ z575 ≤ 1)) → sV (gG l D c H0 sa) mX12_isSo (sRm 5 0 0) (sZ (gG l D c H0 sa) 0 0 (qI w [106026, 106027, 106028, 106029, 106030, 106031] μ (fun z μ1 => (0 ≤ z ∧ z ≤ 1) ∧ True))) 462 [(0, .ref 106), (2, iv p2), (7, iv z575)] [] (mk w μ577) 0 0 := by
    intro z575 μ577 T578 F579 h576
    refine mr_iload (pc := 462) (z := z575) dX12_isSo_462 rfl ?_
    refine sv_aload_n (pc := 464) dX12_isSo_464 rfl rfl ?_
    refine gf_X12_46 (pc := 465) dX12_isSo_465 wF_X12_326 (A_106 hw) T578 ?_
    refine mr_iload_n (pc := 468) (z := p2) dX12_isSo_468 rfl rfl ?_
    refine la_133 (pc := 469) dX12_isSo_469 (A_133 hw) T578 (rIx (n := 3900) hp2 rfl) fun z582 q583 h584 => ?_
    refine mr_icmp_eq (pc := 470) (tgt := 477) dX12_isSo_470 (by decide) (r32 h576 rfl) (r32 h584 rfl) (fun h585 => ?_) (fun h585 => ?_)
    · refine mr_iconst (pc := 477) (z := 0) dX12_isSo_477 ?_
      exact mr_zret dX12_isSo_478 rfl (rW (c := 0) (d := 1) (rR (x := 0)) rfl) (le_t rfl) (le_t rfl) T578 (mF.call mF.refl F579 rfl) ⟨(rW (c := 0) (d := 1) (rR (x := 0)) rfl), trivial⟩
    refine mr_iconst (pc := 473) (z := 1) dX12_isSo_473 ?_
    refine sv_goto (pc := 474) (tgt := 478) dX12_isSo_474 (by decide) ?_
    exact mr_zret dX12_isSo_478 rfl (rW (c := 0) (d := 1) (rR (x := 1)) rfl) (le_t rfl) (le_t rfl) T578 (mF.call mF.refl F579 rfl) ⟨(rW (c := 0) (d := 1) (rR (x := 1)) rfl), trivial⟩
  refine mr_icmp_ne (pc := 31) (tgt := 101) dX12_isSo_31 (by decide) h445 (r32 (rR (x := 4)) rfl) (fun h586 => ?_) (fun h586 => ?_)
  · refine sv_aload_n (pc := 101) dX12_isSo_101 rfl rfl ?_
    refine gf_X12_45 (pc := 102) dX12_isSo_102 wF_X12_323 (A_106 hw) hT ?_
    refine mr_iload_n (pc := 105) (z := p2) dX12_isSo_105 rfl rfl ?_
    refine lk_132 (pc := 106) dX12_isSo_106 (A_132 hw) (rIx (n := 3900) hp2 rfl) q444 ?_
    refine mr_bipush (pc := 107) (z := 6) dX12_isSo_107 (by decide) ?_
    refine mr_icmp_ne (pc := 109) (tgt := 124) dX12_isSo_109 (by decide) h445 (r32 (rR (x := 6)) rfl) (fun h587 => ?_) (fun h587 => ?_)
    · refine sv_aload_n (pc := 124) dX12_isSo_124 rfl rfl ?_
      refine gf_X12_45 (pc := 125) dX12_isSo_125 wF_X12_323 (A_106 hw) hT ?_
      refine mr_iload_n (pc := 128) (z := p2) dX12_isSo_128 rfl rfl ?_
      refine lk_132 (pc := 129) dX12_isSo_129 (A_132 hw) (rIx (n := 3900) hp2 rfl) q444 ?_
      refine mr_bipush (pc := 130) (z := 8) dX12_isSo_130 (by decide) ?_
      refine mr_icmp_ne (pc := 132) (tgt := 151) dX12_isSo_132 (by decide) h445 (r32 (rR (x := 8)) rfl) (fun h588 => ?_) (fun h588 => ?_)
      · refine sv_aload_n (pc := 151) dX12_isSo_151 rfl rfl ?_
        refine gf_X12_45 (pc := 152) dX12_isSo_152 wF_X12_323 (A_106 hw) hT ?_
        refine mr_iload_n (pc := 155) (z := p2) dX12_isSo_155 rfl rfl ?_
        refine lk_132 (pc := 156) dX12_isSo_156 (A_132 hw) (rIx (n := 3900) hp2 rfl) q444 ?_
        refine mr_bipush (pc := 157) (z := 9) dX12_isSo_157 (by decide) ?_
        refine mr_icmp_ne (pc := 159) (tgt := 183) dX12_isSo_159 (by decide) h445 (r32 (rR (x := 9)) rfl) (fun h589 => ?_) (fun h589 => ?_)
        · refine sv_aload_n (pc := 183) dX12_isSo_183 rfl rfl ?_
          refine gf_X12_45 (pc := 184) dX12_isSo_184 wF_X12_323 (A_106 hw) hT ?_
          refine mr_iload_n (pc := 187) (z := p2) dX12_isSo_187 rfl rfl ?_
          refine lk_132 (pc := 188) dX12_isSo_188 (A_132 hw) (rIx (n := 3900) hp2 rfl) q444 ?_
          refine mr_bipush (pc := 189) (z := 10) dX12_isSo_189 (by decide) ?_
          refine mr_icmp_ne (pc := 191) (tgt := 221) dX12_isSo_191 (by decide) h445 (r32 (rR (x := 10)) rfl) (fun h590 => ?_) (fun h590 => ?_)
          · refine sv_aload_n (pc := 221) dX12_isSo_221 rfl rfl ?_
            refine gf_X12_45 (pc := 222) dX12_isSo_222 wF_X12_323 (A_106 hw) hT ?_
            refine mr_iload_n (pc := 225) (z := p2) dX12_isSo_225 rfl rfl ?_
            refine lk_132 (pc := 226) dX12_isSo_226 (A_132 hw) (rIx (n := 3900) hp2 rfl) q444 ?_
            refine mr_bipush (pc := 227) (z := 11) dX12_isSo_227 (by decide) ?_
            refine mr_icmp_ne (pc := 229) (tgt := 255) dX12_isSo_229 (by decide) h445 (r32 (rR (x := 11)) rfl) (fun h591 => ?_) (fun h591 => ?_)
            · refine sv_aload_n (pc := 255) dX12_isSo_255 rfl rfl ?_
              refine gf_X12_45 (pc := 256) dX12_isSo_256 wF_X12_323 (A_106 hw) hT ?_
              refine mr_iload_n (pc := 259) (z := p2) dX12_isSo_259 rfl rfl ?_
              refine lk_132 (pc := 260) dX12_isSo_260 (A_132 hw) (rIx (n := 3900) hp2 rfl) q444 ?_
              refine mr_bipush (pc := 261) (z := 12) dX12_isSo_261 (by decide) ?_
              refine mr_icmp_ne (pc := 263) (tgt := 298) dX12_isSo_263 (by decide) h445 (r32 (rR (x := 12)) rfl) (fun h592 => ?_) (fun h592 => ?_)
              · refine sv_aload_n (pc := 298) dX12_isSo_298 rfl rfl ?_
                refine gf_X12_45 (pc := 299) dX12_isSo_299 wF_X12_323 (A_106 hw) hT ?_
                refine mr_iload_n (pc := 302) (z := p2) dX12_isSo_302 rfl rfl ?_
                refine lk_132 (pc := 303) dX12_isSo_303 (A_132 hw) (rIx (n := 3900) hp2 rfl) q444 ?_
                refine mr_bipush (pc := 304) (z := 13) dX12_isSo_304 (by decide) ?_
                refine mr_icmp_ne (pc := 306) (tgt := 341) dX12_isSo_306 (by decide) h445 (r32 (rR (x := 13)) rfl) (fun h593 => ?_) (fun h593 => ?_)
                · refine sv_aload_n (pc := 341) dX12_isSo_341 rfl rfl ?_
                  refine gf_X12_45 (pc := 342) dX12_isSo_342 wF_X12_323 (A_106 hw) hT ?_
                  refine mr_iload_n (pc := 345) (z := p2) dX12_isSo_345 rfl rfl ?_
                  refine lk_132 (pc := 346) dX12_isSo_346 (A_132 hw) (rIx (n := 3900) hp2 rfl) q444 ?_
                  refine mr_bipush (pc := 347) (z := 14) dX12_isSo_347 (by decide) ?_
                  refine mr_icmp_ne (pc := 349) (tgt := 382) dX12_isSo_349 (by decide) h445 (r32 (rR (x := 14)) rfl) (fun h594 => ?_) (fun h594 => ?_)
                  · refine sv_aload_n (pc := 382) dX12_isSo_382 rfl rfl ?_
                    refine mr_iload (pc := 383) (z := f_x) dX12_isSo_383 rfl ?_
                    refine mr_iload (pc := 385) (z := z439) dX12_isSo_385 rfl ?_
                    have J602 : ∀ (z600 : Int), (((-2147483648) ≤ z600 ∧ z600 ≤ 2147483647)) → sV (gG l D c H0 sa) mX12_isSo (sRm 5 0 0) (sZ (gG l D c H0 sa) 0 0 (qI w [106026, 106027, 106028, 106029, 106030, 106031] μ (fun z μ1 => (0 ≤ z ∧ z ≤ 1) ∧ True))) 409 [(0, .ref 106), (2, iv p2)] [iv z600, iv f_x, .ref 106] (mk w μ) 0 0 := by
                      intro z600 h601
                      refine sv_aload_n (pc := 409) dX12_isSo_409 rfl rfl ?_
                      refine gf_X12_17 (pc := 410) dX12_isSo_410 wF_X12_85 (A_106 hw) hT fun z603 q604 h605 => ?_
                      refine sv_aload_n (pc := 413) dX12_isSo_413 rfl rfl ?_
                      refine gk_X12_17 (pc := 414) dX12_isSo_414 wF_X12_85 (A_106 hw) q604 ?_
                      refine mr_cVI (pc := 417) (c_X12_judged hw hT h3 h601 (rW (c := (-2147483648)) (d := 2147483647) h605 rfl) (rW (c := (-2147483648)) (d := 2147483647) h605 rfl)) (gOk _ _ _ _ _) dX12_isSo_417 (tX12_judged _ _ _ _ _) ⟨wV_X12_judged, wL_X12_judged⟩ wM_X12_145 (gCX12 _ _ _ _ _) rfl (A_106 hw) rfl ⟨le_t rfl, le_t rfl⟩ ⟨le_t rfl, le_t rfl⟩ rfl (le_t rfl) fun z610 μ606 T607 F608 h609 => ?_
                      refine mr_istore (pc := 420) (lv' := [(9, iv z610), (0, .ref 106), (2, iv p2)]) dX12_isSo_420 (by decide) rfl ?_
                      refine sv_aload_n (pc := 422) dX12_isSo_422 rfl rfl ?_
                      refine gf_X12_47 (pc := 423) dX12_isSo_423 wF_X12_329 (A_106 hw) T607 ?_
                      refine mr_iload_n (pc := 426) (z := p2) dX12_isSo_426 rfl rfl ?_
                      refine la_134 (pc := 427) dX12_isSo_427 (A_134 hw) T607 (rIx (n := 3900) hp2 rfl) fun z611 q612 h613 => ?_
                      refine mr_iload (pc := 428) (z := z610) dX12_isSo_428 rfl ?_
                      refine mr_iconst (pc := 430) (z := 1) dX12_isSo_430 ?_
                      refine mr_icmp_ne (pc := 431) (tgt := 439) dX12_isSo_431 (by decide) (r32 h609.1 rfl) (r32 (rR (x := 1)) rfl) (fun h617 => ?_) (fun h617 => ?_)
                      · refine mr_iload (pc := 439) (z := z610) dX12_isSo_439 rfl ?_
                        refine mr_iconst (pc := 441) (z := 2) dX12_isSo_441 ?_
                        refine mr_icmp_ne (pc := 442) (tgt := 450) dX12_isSo_442 (by decide) (r32 h609.1 rfl) (r32 (rR (x := 2)) rfl) (fun h620 => ?_) (fun h620 => ?_)
                        · have h621 : 0 ≤ z610 ∧ z610 ≤ 1 := (vc_X12_isSo_6 h620 h617 h609.1)
                          refine mr_bipush (pc := 450) (z := 22) dX12_isSo_450 (by decide) ?_
                          refine mr_icmp_ne (pc := 452) (tgt := 459) dX12_isSo_452 (by decide) h613 (r32 (rR (x := 22)) rfl) (fun h623 => ?_) (fun h623 => ?_)
                          · refine mr_iconst (pc := 459) (z := 0) dX12_isSo_459 ?_
                            refine mr_istore (pc := 460) (lv' := [(7, iv 0), (9, iv z610), (0, .ref 106), (2, iv p2)]) dX12_isSo_460 (by decide) rfl ?_
                            refine mr_lvS (lv' := [(0, .ref 106), (2, iv p2), (7, iv 0)]) (List.forall_mem_cons.mpr ⟨rfl, List.forall_mem_cons.mpr ⟨rfl, List.forall_mem_cons.mpr ⟨rfl, fun _ h => absurd h List.not_mem_nil⟩⟩⟩) ?_
                            exact J581 0 μ606 T607 (mF.call mF.refl F608 rfl) (rW (c := 0) (d := 1) (rR (x := 0)) rfl)
                          have h624 : 22 ≤ z611 ∧ z611 ≤ 22 := (vc_X12_isSo_7 h623 h613)
                          refine mr_iconst (pc := 455) (z := 1) dX12_isSo_455 ?_
                          refine sv_goto (pc := 456) (tgt := 460) dX12_isSo_456 (by decide) ?_
                          refine mr_istore (pc := 460) (lv' := [(7, iv 1), (9, iv z610), (0, .ref 106), (2, iv p2)]) dX12_isSo_460 (by decide) rfl ?_
                          refine mr_lvS (lv' := [(0, .ref 106), (2, iv p2), (7, iv 1)]) (List.forall_mem_cons.mpr ⟨rfl, List.forall_mem_cons.mpr ⟨rfl, List.forall_mem_cons.mpr ⟨rfl, fun _ h => absurd h List.not_mem_nil⟩⟩⟩) ?_
                          exact J581 1 μ606 T607 (mF.call mF.refl F608 rfl) (rW (c := 0) (d := 1) (rR (x := 1)) rfl)
                        have h625 : 2 ≤ z610 ∧ z610 ≤ 2 := (vc_X12_isSo_8 h620 h617 h609.1)
                        refine mr_bipush (pc := 445) (z := 21) dX12_isSo_445 (by decide) ?_
                        refine sv_goto (pc := 447) (tgt := 452) dX12_isSo_447 (by decide) ?_
                        refine mr_icmp_ne (pc := 452) (tgt := 459) dX12_isSo_452 (by decide) h613 (r32 (rR (x := 21)) rfl) (fun h627 => ?_) (fun h627 => ?_)
                        · refine mr_iconst (pc := 459) (z := 0) dX12_isSo_459 ?_
                          refine mr_istore (pc := 460) (lv' := [(7, iv 0), (9, iv z610), (0, .ref 106), (2, iv p2)]) dX12_isSo_460 (by decide) rfl ?_
                          refine mr_lvS (lv' := [(0, .ref 106), (2, iv p2), (7, iv 0)]) (List.forall_mem_cons.mpr ⟨rfl, List.forall_mem_cons.mpr ⟨rfl, List.forall_mem_cons.mpr ⟨rfl, fun _ h => absurd h List.not_mem_nil⟩⟩⟩) ?_
                          exact J581 0 μ606 T607 (mF.call mF.refl F608 rfl) (rW (c := 0) (d := 1) (rR (x := 0)) rfl)
                        have h628 : 21 ≤ z611 ∧ z611 ≤ 21 := (vc_X12_isSo_9 h627 h613)
                        refine mr_iconst (pc := 455) (z := 1) dX12_isSo_455 ?_
                        refine sv_goto (pc := 456) (tgt := 460) dX12_isSo_456 (by decide) ?_
                        refine mr_istore (pc := 460) (lv' := [(7, iv 1), (9, iv z610), (0, .ref 106), (2, iv p2)]) dX12_isSo_460 (by decide) rfl ?_
                        refine mr_lvS (lv' := [(0, .ref 106), (2, iv p2), (7, iv 1)]) (List.forall_mem_cons.mpr ⟨rfl, List.forall_mem_cons.mpr ⟨rfl, List.forall_mem_cons.mpr ⟨rfl, fun _ h => absurd h List.not_mem_nil⟩⟩⟩) ?_
                        exact J581 1 μ606 T607 (mF.call mF.refl F608 rfl) (rW (c := 0) (d := 1) (rR (x := 1)) rfl)
                      have h629 : 1 ≤ z610 ∧ z610 ≤ 1 := (vc_X12_isSo_10 h617 h609.1)
                      refine mr_bipush (pc := 434) (z := 20) dX12_isSo_434 (by decide) ?_
                      refine sv_goto (pc := 436) (tgt := 452) dX12_isSo_436 (by decide) ?_
                      refine mr_icmp_ne (pc := 452) (tgt := 459) dX12_isSo_452 (by decide) h613 (r32 (rR (x := 20)) rfl) (fun h631 => ?_) (fun h631 => ?_)
                      · refine mr_iconst (pc := 459) (z := 0) dX12_isSo_459 ?_
                        refine mr_istore (pc := 460) (lv' := [(7, iv 0), (9, iv z610), (0, .ref 106), (2, iv p2)]) dX12_isSo_460 (by decide) rfl ?_
                        refine mr_lvS (lv' := [(0, .ref 106), (2, iv p2), (7, iv 0)]) (List.forall_mem_cons.mpr ⟨rfl, List.forall_mem_cons.mpr ⟨rfl, List.forall_mem_cons.mpr ⟨rfl, fun _ h => absurd h List.not_mem_nil⟩⟩⟩) ?_
                        exact J581 0 μ606 T607 (mF.call mF.refl F608 rfl) (rW (c := 0) (d := 1) (rR (x := 0)) rfl)
                      have h632 : 20 ≤ z611 ∧ z611 ≤ 20 := (vc_X12_isSo_11 h631 h613)
                      refine mr_iconst (pc := 455) (z := 1) dX12_isSo_455 ?_
                      refine sv_goto (pc := 456) (tgt := 460) dX12_isSo_456 (by decide) ?_
                      refine mr_istore (pc := 460) (lv' := [(7, iv 1), (9, iv z610), (0, .ref 106), (2, iv p2)]) dX12_isSo_460 (by decide) rfl ?_
                      refine mr_lvS (lv' := [(0, .ref 106), (2, iv p2), (7, iv 1)]) (List.forall_mem_cons.mpr ⟨rfl, List.forall_mem_cons.mpr ⟨rfl, List.forall_mem_cons.mpr ⟨rfl, fun _ h => absurd h List.not_mem_nil⟩⟩⟩) ?_
                      exact J581 1 μ606 T607 (mF.call mF.refl F608 rfl) (rW (c := 0) (d := 1) (rR (x := 1)) rfl)
                    refine mr_if_ne (pc := 387) (tgt := 395) dX12_isSo_387 (by decide) (r32 h442 rfl) (fun h633 => ?_) (fun h633 => ?_)
                    · have h634 : 1 ≤ z439 ∧ z439 ≤ 20 := (vc_X12_isSo_12 h633 h442)
                      refine sv_aload_n (pc := 395) dX12_isSo_395 rfl rfl ?_
                      refine gf_X12_32 (pc := 396) dX12_isSo_396 wF_X12_148 (A_106 hw) hT ?_
                      refine mr_bipush (pc := 399) (z := 40) dX12_isSo_399 (by decide) ?_
                      refine mr_iload_n (pc := 401) (z := p3) dX12_isSo_401 rfl rfl ?_
                      refine mr_imul (pc := 402) (x := 40) (y := p3) dX12_isSo_402 ?_
                      refine mr_iconst (pc := 403) (z := 5) dX12_isSo_403 ?_
                      refine mr_iadd (pc := 404) (x := (40 * p3)) (y := 5) dX12_isSo_404 ?_
                      refine mr_iload (pc := 405) (z := z439) dX12_isSo_405 rfl ?_
                      refine mr_iadd (pc := 407) (x := ((40 * p3) + 5)) (y := z439) dX12_isSo_407 ?_
                      refine la_126 (pc := 408) dX12_isSo_408 (A_126 hw) hT (rIx (n := 84000) (rAdd (e := 6) (f := 83985) (rAdd (e := 5) (f := 83965) (rMulL (n := 40) (e := 0) (f := 83960) hp3 rfl) (rR (x := 5)) rfl) h634 rfl) rfl) fun z635 q636 h637 => ?_
                      refine mr_lvS (lv' := [(0, .ref 106), (2, iv p2)]) (List.forall_mem_cons.mpr ⟨rfl, List.forall_mem_cons.mpr ⟨rfl, fun _ h => absurd h List.not_mem_nil⟩⟩) ?_
                      exact J602 z635 h637.1
                    have h638 : 0 ≤ z439 ∧ z439 ≤ 0 := (vc_X12_isSo_13 h633 h442)
                    refine mr_iload (pc := 390) (z := p4) dX12_isSo_390 rfl ?_
                    refine sv_goto (pc := 392) (tgt := 409) dX12_isSo_392 (by decide) ?_
                    refine mr_lvS (lv' := [(0, .ref 106), (2, iv p2)]) (List.forall_mem_cons.mpr ⟨rfl, List.forall_mem_cons.mpr ⟨rfl, fun _ h => absurd h List.not_mem_nil⟩⟩) ?_
                    exact J602 p4 hp4
                  have h639 : 14 ≤ z443 ∧ z443 ≤ 14 := (vc_X12_isSo_14 h594 h587 h588 h589 h590 h591 h592 h593 h445)
                  refine sv_aload_n (pc := 352) dX12_isSo_352 rfl rfl ?_
                  refine gf_X12_32 (pc := 353) dX12_isSo_353 wF_X12_148 (A_106 hw) hT ?_
                  refine mr_bipush (pc := 356) (z := 40) dX12_isSo_356 (by decide) ?_
                  refine mr_iload_n (pc := 358) (z := p3) dX12_isSo_358 rfl rfl ?_
                  refine mr_imul (pc := 359) (x := 40) (y := p3) dX12_isSo_359 ?_
                  refine mr_iconst (pc := 360) (z := 2) dX12_isSo_360 ?_
                  refine mr_iadd (pc := 361) (x := (40 * p3)) (y := 2) dX12_isSo_361 ?_
                  refine la_126 (pc := 362) dX12_isSo_362 (A_126 hw) hT (rIx (n := 84000) (rAdd (e := 2) (f := 83962) (rMulL (n := 40) (e := 0) (f := 83960) hp3 rfl) (rR (x := 2)) rfl) rfl) fun z640 q641 h642 => ?_
                  refine sv_aload_n (pc := 363) dX12_isSo_363 rfl rfl ?_
                  refine gf_X12_47 (pc := 364) dX12_isSo_364 wF_X12_329 (A_106 hw) hT ?_
                  refine mr_iload_n (pc := 367) (z := p2) dX12_isSo_367 rfl rfl ?_
                  refine la_134 (pc := 368) dX12_isSo_368 (A_134 hw) hT (rIx (n := 3900) hp2 rfl) fun z643 q644 h645 => ?_
                  refine mr_icmp_ne (pc := 369) (tgt := 376) dX12_isSo_369 (by decide) h642.1 h645 (fun h646 => ?_) (fun h646 => ?_)
                  · refine mr_iconst (pc := 376) (z := 0) dX12_isSo_376 ?_
                    refine mr_istore (pc := 377) (lv' := [(7, iv 0), (8, iv z439), (6, iv f_x), (0, .ref 106), (1, iv p1), (2, iv p2), (3, iv p3), (4, iv p4), (5, iv p5)]) dX12_isSo_377 (by decide) rfl ?_
                    refine sv_goto (pc := 379) (tgt := 462) dX12_isSo_379 (by decide) ?_
                    refine mr_lvS (lv' := [(0, .ref 106), (2, iv p2), (7, iv 0)]) (List.forall_mem_cons.mpr ⟨rfl, List.forall_mem_cons.mpr ⟨rfl, List.forall_mem_cons.mpr ⟨rfl, fun _ h => absurd h List.not_mem_nil⟩⟩⟩) ?_
                    exact J581 0 μ hT mF.refl (rW (c := 0) (d := 1) (rR (x := 0)) rfl)
                  refine mr_iconst (pc := 372) (z := 1) dX12_isSo_372 ?_
                  refine sv_goto (pc := 373) (tgt := 377) dX12_isSo_373 (by decide) ?_
                  refine mr_istore (pc := 377) (lv' := [(7, iv 1), (8, iv z439), (6, iv f_x), (0, .ref 106), (1, iv p1), (2, iv p2), (3, iv p3), (4, iv p4), (5, iv p5)]) dX12_isSo_377 (by decide) rfl ?_
                  refine sv_goto (pc := 379) (tgt := 462) dX12_isSo_379 (by decide) ?_
                  refine mr_lvS (lv' := [(0, .ref 106), (2, iv p2), (7, iv 1)]) (List.forall_mem_cons.mpr ⟨rfl, List.forall_mem_cons.mpr ⟨rfl, List.forall_mem_cons.mpr ⟨rfl, fun _ h => absurd h List.not_mem_nil⟩⟩⟩) ?_
                  exact J581 1 μ hT mF.refl (rW (c := 0) (d := 1) (rR (x := 1)) rfl)
                have h647 : 13 ≤ z443 ∧ z443 ≤ 13 := (vc_X12_isSo_15 h593 h586 h587 h588 h589 h590 h591 h592 h445)
                refine sv_aload_n (pc := 309) dX12_isSo_309 rfl rfl ?_
                refine sv_aload_n (pc := 310) dX12_isSo_310 rfl rfl ?_
                refine gf_X12_32 (pc := 311) dX12_isSo_311 wF_X12_148 (A_106 hw) hT ?_
                refine mr_bipush (pc := 314) (z := 40) dX12_isSo_314 (by decide) ?_
                refine mr_iload_n (pc := 316) (z := p3) dX12_isSo_316 rfl rfl ?_
                refine mr_imul (pc := 317) (x := 40) (y := p3) dX12_isSo_317 ?_
                refine mr_iconst (pc := 318) (z := 3) dX12_isSo_318 ?_
                refine mr_iadd (pc := 319) (x := (40 * p3)) (y := 3) dX12_isSo_319 ?_
                refine la_126 (pc := 320) dX12_isSo_320 (A_126 hw) hT (rIx (n := 84000) (rAdd (e := 3) (f := 83963) (rMulL (n := 40) (e := 0) (f := 83960) hp3 rfl) (rR (x := 3)) rfl) rfl) fun z648 q649 h650 => ?_
                refine sv_aload_n (pc := 321) dX12_isSo_321 rfl rfl ?_
                refine gf_X12_48 (pc := 322) dX12_isSo_322 wF_X12_336 (A_106 hw) hT ?_
                refine mr_iload_n (pc := 325) (z := p2) dX12_isSo_325 rfl rfl ?_
                refine la_135 (pc := 326) dX12_isSo_326 (A_135 hw) hT (rIx (n := 3900) hp2 rfl) fun z651 q652 h653 => ?_
                refine sv_aload_n (pc := 327) dX12_isSo_327 rfl rfl ?_
                refine gf_X12_47 (pc := 328) dX12_isSo_328 wF_X12_329 (A_106 hw) hT ?_
                refine mr_iload_n (pc := 331) (z := p2) dX12_isSo_331 rfl rfl ?_
                refine la_134 (pc := 332) dX12_isSo_332 (A_134 hw) hT (rIx (n := 3900) hp2 rfl) fun z654 q655 h656 => ?_
                refine mr_cVP (pc := 333) (c_X12_related hw hT h650.1 h653 h656) (gOk _ _ _ _ _) dX12_isSo_333 (tX12_related _ _ _ _ _) ⟨wV_X12_related, wL_X12_related⟩ wM_X12_385 (gCX12 _ _ _ _ _) rfl (A_106 hw) rfl ⟨le_t rfl, le_t rfl⟩ ⟨le_t rfl, le_t rfl⟩ rfl (le_t rfl) fun z661 h660 => ?_
                refine mr_istore (pc := 336) (lv' := [(7, iv z661), (8, iv z439), (6, iv f_x), (0, .ref 106), (1, iv p1), (2, iv p2), (3, iv p3), (4, iv p4), (5, iv p5)]) dX12_isSo_336 (by decide) rfl ?_
                refine sv_goto (pc := 338) (tgt := 462) dX12_isSo_338 (by decide) ?_
                refine mr_lvS (lv' := [(0, .ref 106), (2, iv p2), (7, iv z661)]) (List.forall_mem_cons.mpr ⟨rfl, List.forall_mem_cons.mpr ⟨rfl, List.forall_mem_cons.mpr ⟨rfl, fun _ h => absurd h List.not_mem_nil⟩⟩⟩) ?_
                exact J581 z661 μ hT mF.refl h660.1
              have h662 : 12 ≤ z443 ∧ z443 ≤ 12 := (vc_X12_isSo_16 h592 h586 h587 h588 h589 h590 h591 h445)
              refine sv_aload_n (pc := 266) dX12_isSo_266 rfl rfl ?_
              refine sv_aload_n (pc := 267) dX12_isSo_267 rfl rfl ?_
              refine gf_X12_32 (pc := 268) dX12_isSo_268 wF_X12_148 (A_106 hw) hT ?_
              refine mr_bipush (pc := 271) (z := 40) dX12_isSo_271 (by decide) ?_
              refine mr_iload_n (pc := 273) (z := p3) dX12_isSo_273 rfl rfl ?_
              refine mr_imul (pc := 274) (x := 40) (y := p3) dX12_isSo_274 ?_
              refine mr_iconst (pc := 275) (z := 1) dX12_isSo_275 ?_
              refine mr_iadd (pc := 276) (x := (40 * p3)) (y := 1) dX12_isSo_276 ?_
              refine la_126 (pc := 277) dX12_isSo_277 (A_126 hw) hT (rIx (n := 84000) (rAdd (e := 1) (f := 83961) (rMulL (n := 40) (e := 0) (f := 83960) hp3 rfl) (rR (x := 1)) rfl) rfl) fun z663 q664 h665 => ?_
              refine sv_aload_n (pc := 278) dX12_isSo_278 rfl rfl ?_
              refine gf_X12_48 (pc := 279) dX12_isSo_279 wF_X12_336 (A_106 hw) hT ?_
              refine mr_iload_n (pc := 282) (z := p2) dX12_isSo_282 rfl rfl ?_
              refine la_135 (pc := 283) dX12_isSo_283 (A_135 hw) hT (rIx (n := 3900) hp2 rfl) fun z666 q667 h668 => ?_
              refine sv_aload_n (pc := 284) dX12_isSo_284 rfl rfl ?_
              refine gf_X12_47 (pc := 285) dX12_isSo_285 wF_X12_329 (A_106 hw) hT ?_
              refine mr_iload_n (pc := 288) (z := p2) dX12_isSo_288 rfl rfl ?_
              refine la_134 (pc := 289) dX12_isSo_289 (A_134 hw) hT (rIx (n := 3900) hp2 rfl) fun z669 q670 h671 => ?_
              refine mr_cVP (pc := 290) (c_X12_related hw hT h665.1 h668 h671) (gOk _ _ _ _ _) dX12_isSo_290 (tX12_related _ _ _ _ _) ⟨wV_X12_related, wL_X12_related⟩ wM_X12_385 (gCX12 _ _ _ _ _) rfl (A_106 hw) rfl ⟨le_t rfl, le_t rfl⟩ ⟨le_t rfl, le_t rfl⟩ rfl (le_t rfl) fun z676 h675 => ?_
              refine mr_istore (pc := 293) (lv' := [(7, iv z676), (8, iv z439), (6, iv f_x), (0, .ref 106), (1, iv p1), (2, iv p2), (3, iv p3), (4, iv p4), (5, iv p5)]) dX12_isSo_293 (by decide) rfl ?_
              refine sv_goto (pc := 295) (tgt := 462) dX12_isSo_295 (by decide) ?_
              refine mr_lvS (lv' := [(0, .ref 106), (2, iv p2), (7, iv z676)]) (List.forall_mem_cons.mpr ⟨rfl, List.forall_mem_cons.mpr ⟨rfl, List.forall_mem_cons.mpr ⟨rfl, fun _ h => absurd h List.not_mem_nil⟩⟩⟩) ?_
              exact J581 z676 μ hT mF.refl h675.1
            have h677 : 11 ≤ z443 ∧ z443 ≤ 11 := (vc_X12_isSo_17 h591 h586 h587 h588 h589 h590 h445)
            refine sv_aload_n (pc := 232) dX12_isSo_232 rfl rfl ?_
            refine mr_iload (pc := 233) (z := z439) dX12_isSo_233 rfl ?_
            refine sv_aload_n (pc := 235) dX12_isSo_235 rfl rfl ?_
            refine gf_X12_48 (pc := 236) dX12_isSo_236 wF_X12_336 (A_106 hw) hT ?_
            refine mr_iload_n (pc := 239) (z := p2) dX12_isSo_239 rfl rfl ?_
            refine la_135 (pc := 240) dX12_isSo_240 (A_135 hw) hT (rIx (n := 3900) hp2 rfl) fun z678 q679 h680 => ?_
            refine sv_aload_n (pc := 241) dX12_isSo_241 rfl rfl ?_
            refine gf_X12_47 (pc := 242) dX12_isSo_242 wF_X12_329 (A_106 hw) hT ?_
            refine mr_iload_n (pc := 245) (z := p2) dX12_isSo_245 rfl rfl ?_
            refine la_134 (pc := 246) dX12_isSo_246 (A_134 hw) hT (rIx (n := 3900) hp2 rfl) fun z681 q682 h683 => ?_
            refine mr_cVP (pc := 247) (c_X12_related hw hT (rW (c := (-2147483648)) (d := 2147483647) h442 rfl) h680 h683) (gOk _ _ _ _ _) dX12_isSo_247 (tX12_related _ _ _ _ _) ⟨wV_X12_related, wL_X12_related⟩ wM_X12_385 (gCX12 _ _ _ _ _) rfl (A_106 hw) rfl ⟨le_t rfl, le_t rfl⟩ ⟨le_t rfl, le_t rfl⟩ rfl (le_t rfl) fun z688 h687 => ?_
            refine mr_istore (pc := 250) (lv' := [(7, iv z688), (8, iv z439), (6, iv f_x), (0, .ref 106), (1, iv p1), (2, iv p2), (3, iv p3), (4, iv p4), (5, iv p5)]) dX12_isSo_250 (by decide) rfl ?_
            refine sv_goto (pc := 252) (tgt := 462) dX12_isSo_252 (by decide) ?_
            refine mr_lvS (lv' := [(0, .ref 106), (2, iv p2), (7, iv z688)]) (List.forall_mem_cons.mpr ⟨rfl, List.forall_mem_cons.mpr ⟨rfl, List.forall_mem_cons.mpr ⟨rfl, fun _ h => absurd h List.not_mem_nil⟩⟩⟩) ?_
            exact J581 z688 μ hT mF.refl h687.1
          have h689 : 10 ≤ z443 ∧ z443 ≤ 10 := (vc_X12_isSo_18 h590 h586 h587 h588 h589 h445)
          refine sv_aload_n (pc := 194) dX12_isSo_194 rfl rfl ?_
          refine mr_iload (pc := 195) (z := p4) dX12_isSo_195 rfl ?_
          refine mr_iload (pc := 197) (z := p5) dX12_isSo_197 rfl ?_
          refine mr_cVP (pc := 199) (c_X12_tieWord hw hT hp4 hp5 hg1 q_f_e0 q_f_e1 q_f_ties (vc_X12_isSo_19 hq0 h2 hg1) (vc_X12_isSo_20 hq1 ht_f_e0 ht_f_e1 hp4 hp5)) (gOk _ _ _ _ _) dX12_isSo_199 (tX12_tieWord _ _ _ _ _) ⟨wV_X12_tieWord, wL_X12_tieWord⟩ wM_X12_382 (gCX12 _ _ _ _ _) rfl (A_106 hw) rfl ⟨le_t rfl, le_t rfl⟩ ⟨le_t rfl, le_t rfl⟩ rfl (le_t rfl) fun z694 h693 => ?_
          refine sv_aload_n (pc := 202) dX12_isSo_202 rfl rfl ?_
          refine gf_X12_47 (pc := 203) dX12_isSo_203 wF_X12_329 (A_106 hw) hT ?_
          refine mr_iload_n (pc := 206) (z := p2) dX12_isSo_206 rfl rfl ?_
          refine la_134 (pc := 207) dX12_isSo_207 (A_134 hw) hT (rIx (n := 3900) hp2 rfl) fun z695 q696 h697 => ?_
          refine mr_icmp_ne (pc := 208) (tgt := 215) dX12_isSo_208 (by decide) (r32 h693.1 rfl) h697 (fun h699 => ?_) (fun h699 => ?_)
          · refine mr_iconst (pc := 215) (z := 0) dX12_isSo_215 ?_
            refine mr_istore (pc := 216) (lv' := [(7, iv 0), (8, iv z439), (6, iv f_x), (0, .ref 106), (1, iv p1), (2, iv p2), (3, iv p3), (4, iv p4), (5, iv p5)]) dX12_isSo_216 (by decide) rfl ?_
            refine sv_goto (pc := 218) (tgt := 462) dX12_isSo_218 (by decide) ?_
            refine mr_lvS (lv' := [(0, .ref 106), (2, iv p2), (7, iv 0)]) (List.forall_mem_cons.mpr ⟨rfl, List.forall_mem_cons.mpr ⟨rfl, List.forall_mem_cons.mpr ⟨rfl, fun _ h => absurd h List.not_mem_nil⟩⟩⟩) ?_
            exact J581 0 μ hT mF.refl (rW (c := 0) (d := 1) (rR (x := 0)) rfl)
          have h700 : 16 ≤ z695 ∧ z695 ≤ 19 := (vc_X12_isSo_21 h699 h693.1 h697)
          refine mr_iconst (pc := 211) (z := 1) dX12_isSo_211 ?_
          refine sv_goto (pc := 212) (tgt := 216) dX12_isSo_212 (by decide) ?_
          refine mr_istore (pc := 216) (lv' := [(7, iv 1), (8, iv z439), (6, iv f_x), (0, .ref 106), (1, iv p1), (2, iv p2), (3, iv p3), (4, iv p4), (5, iv p5)]) dX12_isSo_216 (by decide) rfl ?_
          refine sv_goto (pc := 218) (tgt := 462) dX12_isSo_218 (by decide) ?_
          refine mr_lvS (lv' := [(0, .ref 106), (2, iv p2), (7, iv 1)]) (List.forall_mem_cons.mpr ⟨rfl, List.forall_mem_cons.mpr ⟨rfl, List.forall_mem_cons.mpr ⟨rfl, fun _ h => absurd h List.not_mem_nil⟩⟩⟩) ?_
          exact J581 1 μ hT mF.refl (rW (c := 0) (d := 1) (rR (x := 1)) rfl)
        have h701 : 9 ≤ z443 ∧ z443 ≤ 9 := (vc_X12_isSo_22 h589 h586 h587 h588 h445)
        refine mr_iload (pc := 162) (z := p5) dX12_isSo_162 rfl ?_
        refine sv_aload_n (pc := 164) dX12_isSo_164 rfl rfl ?_
        refine gf_X12_47 (pc := 165) dX12_isSo_165 wF_X12_329 (A_106 hw) hT ?_
        refine mr_iload_n (pc := 168) (z := p2) dX12_isSo_168 rfl rfl ?_
        refine la_134 (pc := 169) dX12_isSo_169 (A_134 hw) hT (rIx (n := 3900) hp2 rfl) fun z702 q703 h704 => ?_
        refine mr_icmp_ne (pc := 170) (tgt := 177) dX12_isSo_170 (by decide) hp5 h704 (fun h705 => ?_) (fun h705 => ?_)
        · refine mr_iconst (pc := 177) (z := 0) dX12_isSo_177 ?_
          refine mr_istore (pc := 178) (lv' := [(7, iv 0), (8, iv z439), (6, iv f_x), (0, .ref 106), (1, iv p1), (2, iv p2), (3, iv p3), (4, iv p4), (5, iv p5)]) dX12_isSo_178 (by decide) rfl ?_
          refine sv_goto (pc := 180) (tgt := 462) dX12_isSo_180 (by decide) ?_
          refine mr_lvS (lv' := [(0, .ref 106), (2, iv p2), (7, iv 0)]) (List.forall_mem_cons.mpr ⟨rfl, List.forall_mem_cons.mpr ⟨rfl, List.forall_mem_cons.mpr ⟨rfl, fun _ h => absurd h List.not_mem_nil⟩⟩⟩) ?_
          exact J581 0 μ hT mF.refl (rW (c := 0) (d := 1) (rR (x := 0)) rfl)
        refine mr_iconst (pc := 173) (z := 1) dX12_isSo_173 ?_
        refine sv_goto (pc := 174) (tgt := 178) dX12_isSo_174 (by decide) ?_
        refine mr_istore (pc := 178) (lv' := [(7, iv 1), (8, iv z439), (6, iv f_x), (0, .ref 106), (1, iv p1), (2, iv p2), (3, iv p3), (4, iv p4), (5, iv p5)]) dX12_isSo_178 (by decide) rfl ?_
        refine sv_goto (pc := 180) (tgt := 462) dX12_isSo_180 (by decide) ?_
        refine mr_lvS (lv' := [(0, .ref 106), (2, iv p2), (7, iv 1)]) (List.forall_mem_cons.mpr ⟨rfl, List.forall_mem_cons.mpr ⟨rfl, List.forall_mem_cons.mpr ⟨rfl, fun _ h => absurd h List.not_mem_nil⟩⟩⟩) ?_
        exact J581 1 μ hT mF.refl (rW (c := 0) (d := 1) (rR (x := 1)) rfl)
      have h706 : 8 ≤ z443 ∧ z443 ≤ 8 := (vc_X12_isSo_23 h588 h586 h587 h445)
      refine sv_aload_n (pc := 135) dX12_isSo_135 rfl rfl ?_
      refine mr_iload_n (pc := 136) (z := p3) dX12_isSo_136 rfl rfl ?_
      refine sv_aload_n (pc := 137) dX12_isSo_137 rfl rfl ?_
      refine gf_X12_47 (pc := 138) dX12_isSo_138 wF_X12_329 (A_106 hw) hT ?_
      refine mr_iload_n (pc := 141) (z := p2) dX12_isSo_141 rfl rfl ?_
      refine la_134 (pc := 142) dX12_isSo_142 (A_134 hw) hT (rIx (n := 3900) hp2 rfl) fun z707 q708 h709 => ?_
      refine mr_cVP (pc := 143) (c_X12_marked hw hT hp3 h709) (gOk _ _ _ _ _) dX12_isSo_143 (tX12_marked _ _ _ _ _) ⟨wV_X12_marked, wL_X12_marked⟩ wM_X12_154 (gCX12 _ _ _ _ _) rfl (A_106 hw) rfl ⟨le_t rfl, le_t rfl⟩ ⟨le_t rfl, le_t rfl⟩ rfl (le_t rfl) fun z714 h713 => ?_
      refine mr_istore (pc := 146) (lv' := [(7, iv z714), (8, iv z439), (6, iv f_x), (0, .ref 106), (1, iv p1), (2, iv p2), (3, iv p3), (4, iv p4), (5, iv p5)]) dX12_isSo_146 (by decide) rfl ?_
      refine sv_goto (pc := 148) (tgt := 462) dX12_isSo_148 (by decide) ?_
      refine mr_lvS (lv' := [(0, .ref 106), (2, iv p2), (7, iv z714)]) (List.forall_mem_cons.mpr ⟨rfl, List.forall_mem_cons.mpr ⟨rfl, List.forall_mem_cons.mpr ⟨rfl, fun _ h => absurd h List.not_mem_nil⟩⟩⟩) ?_
      exact J581 z714 μ hT mF.refl h713.1
    have h715 : 6 ≤ z443 ∧ z443 ≤ 6 := (vc_X12_isSo_24 h587 h586 h445)
    refine sv_aload_n (pc := 112) dX12_isSo_112 rfl rfl ?_
    refine mr_iload_n (pc := 113) (z := p1) dX12_isSo_113 rfl rfl ?_
    refine mr_iload_n (pc := 114) (z := p2) dX12_isSo_114 rfl rfl ?_
    refine mr_iload_n (pc := 115) (z := p3) dX12_isSo_115 rfl rfl ?_
    refine mr_cVP (pc := 116) (c_X12_waysMatch hw hT hp1 hp2 hp3) (gOk _ _ _ _ _) dX12_isSo_116 (tX12_waysMatch _ _ _ _ _) ⟨wV_X12_waysMatch, wL_X12_waysMatch⟩ wM_X12_379 (gCX12 _ _ _ _ _) rfl (A_106 hw) rfl ⟨le_t rfl, le_t rfl⟩ ⟨le_t rfl, le_t rfl⟩ rfl (le_t rfl) fun z720 h719 => ?_
    refine mr_istore (pc := 119) (lv' := [(7, iv z720), (8, iv z439), (6, iv f_x), (0, .ref 106), (1, iv p1), (2, iv p2), (3, iv p3), (4, iv p4), (5, iv p5)]) dX12_isSo_119 (by decide) rfl ?_
    refine sv_goto (pc := 121) (tgt := 462) dX12_isSo_121 (by decide) ?_
    refine mr_lvS (lv' := [(0, .ref 106), (2, iv p2), (7, iv z720)]) (List.forall_mem_cons.mpr ⟨rfl, List.forall_mem_cons.mpr ⟨rfl, List.forall_mem_cons.mpr ⟨rfl, fun _ h => absurd h List.not_mem_nil⟩⟩⟩) ?_
    exact J581 z720 μ hT mF.refl h719.1
  have h721 : 4 ≤ z443 ∧ z443 ≤ 4 := (vc_X12_isSo_25 h586 h445)
  refine sv_aload_n (pc := 34) dX12_isSo_34 rfl rfl ?_
  refine gf_X12_4 (pc := 35) dX12_isSo_35 wF_X12_26 (A_106 hw) hT ?_
  refine mr_iload (pc := 38) (z := f_x) dX12_isSo_38 rfl ?_
  refine la_109 (pc := 40) dX12_isSo_40 (A_109 hw) hT (rIx (n := 10) h3 rfl) fun z722 q723 h724 => ?_
  refine sv_aload_n (pc := 41) dX12_isSo_41 rfl rfl ?_
  refine gf_X12_48 (pc := 42) dX12_isSo_42 wF_X12_336 (A_106 hw) hT ?_
  refine mr_iload_n (pc := 45) (z := p2) dX12_isSo_45 rfl rfl ?_
  refine la_135 (pc := 46) dX12_isSo_46 (A_135 hw) hT (rIx (n := 3900) hp2 rfl) fun z725 q726 h727 => ?_
  refine mr_icmp_lt (pc := 47) (tgt := 95) dX12_isSo_47 (by decide) (r32 h724 rfl) h727 (fun h748 => ?_) (fun h748 => ?_)
  · have h749 : 1 ≤ z725 ∧ z725 ≤ 2147483647 := (vc_X12_isSo_26 h748 h724 h727)
    refine mr_iconst (pc := 95) (z := 0) dX12_isSo_95 ?_
    refine mr_istore (pc := 96) (lv' := [(7, iv 0), (8, iv z439), (6, iv f_x), (0, .ref 106), (1, iv p1), (2, iv p2), (3, iv p3), (4, iv p4), (5, iv p5)]) dX12_isSo_96 (by decide) rfl ?_
    refine sv_goto (pc := 98) (tgt := 462) dX12_isSo_98 (by decide) ?_
    refine mr_lvS (lv' := [(0, .ref 106), (2, iv p2), (7, iv 0)]) (List.forall_mem_cons.mpr ⟨rfl, List.forall_mem_cons.mpr ⟨rfl, List.forall_mem_cons.mpr ⟨rfl, fun _ h => absurd h List.not_mem_nil⟩⟩⟩) ?_
    exact J581 0 μ hT mF.refl (rW (c := 0) (d := 1) (rR (x := 0)) rfl)
  have h750 : (-2147483648) ≤ z725 ∧ z725 ≤ 32 := (vc_X12_isSo_27 h748 h724 h727)
  refine sv_aload_n (pc := 50) dX12_isSo_50 rfl rfl ?_
  refine gf_X12_47 (pc := 51) dX12_isSo_51 wF_X12_329 (A_106 hw) hT ?_
  refine mr_iload_n (pc := 54) (z := p2) dX12_isSo_54 rfl rfl ?_
  refine la_134 (pc := 55) dX12_isSo_55 (A_134 hw) hT (rIx (n := 3900) hp2 rfl) fun z751 q752 h753 => ?_
  refine sv_aload_n (pc := 56) dX12_isSo_56 rfl rfl ?_
  refine gf_X12_48 (pc := 57) dX12_isSo_57 wF_X12_336 (A_106 hw) hT ?_
  refine mr_iload_n (pc := 60) (z := p2) dX12_isSo_60 rfl rfl ?_
  refine lk_135 (pc := 61) dX12_isSo_61 (A_135 hw) (rIx (n := 3900) hp2 rfl) q726 ?_
  refine sv_aload_n (pc := 62) dX12_isSo_62 rfl rfl ?_
  refine gf_X12_3 (pc := 63) dX12_isSo_63 wF_X12_22 (A_106 hw) hT ?_
  refine mr_iload (pc := 66) (z := f_x) dX12_isSo_66 rfl ?_
  refine la_108 (pc := 68) dX12_isSo_68 (A_108 hw) hT (rIx (n := 10) h3 rfl) fun z754 q755 h756 => ?_
  refine mr_cSP (pc := 69) (c_X12_holds hw hT h753 (rW (c := (-2147483648)) (d := 2147483647) h750 rfl) h756) (gOk _ _ _ _ _) dX12_isSo_69 (tX12_holds _ _ _ _ _) wS_X12_holds wM_X12_142 ⟨le_t rfl, le_t rfl⟩ ⟨le_t rfl, le_t rfl⟩ rfl (le_t rfl) fun z761 h760 => ?_
  refine mr_if_eq (pc := 72) (tgt := 95) dX12_isSo_72 (by decide) (r32 h760.1 rfl) (fun h769 => ?_) (fun h769 => ?_)
  · have h770 : 0 ≤ z761 ∧ z761 ≤ 0 := (vc_X12_isSo_28 h769 h760.1)
    refine mr_iconst (pc := 95) (z := 0) dX12_isSo_95 ?_
    refine mr_istore (pc := 96) (lv' := [(7, iv 0), (8, iv z439), (6, iv f_x), (0, .ref 106), (1, iv p1), (2, iv p2), (3, iv p3), (4, iv p4), (5, iv p5)]) dX12_isSo_96 (by decide) rfl ?_
    refine sv_goto (pc := 98) (tgt := 462) dX12_isSo_98 (by decide) ?_
    refine mr_lvS (lv' := [(0, .ref 106), (2, iv p2), (7, iv 0)]) (List.forall_mem_cons.mpr ⟨rfl, List.forall_mem_cons.mpr ⟨rfl, List.forall_mem_cons.mpr ⟨rfl, fun _ h => absurd h List.not_mem_nil⟩⟩⟩) ?_
    exact J581 0 μ hT mF.refl (rW (c := 0) (d := 1) (rR (x := 0)) rfl)
  have h771 : 1 ≤ z761 ∧ z761 ≤ 1 := (vc_X12_isSo_29 h769 h760.1)
  refine sv_aload_n (pc := 75) dX12_isSo_75 rfl rfl ?_
  refine gf_X12_4 (pc := 76) dX12_isSo_76 wF_X12_26 (A_106 hw) hT ?_
  refine mr_iload (pc := 79) (z := f_x) dX12_isSo_79 rfl ?_
  refine lk_109 (pc := 81) dX12_isSo_81 (A_109 hw) (rIx (n := 10) h3 rfl) q723 ?_
  refine sv_aload_n (pc := 82) dX12_isSo_82 rfl rfl ?_
  refine gf_X12_49 (pc := 83) dX12_isSo_83 wF_X12_339 (A_106 hw) hT ?_
  refine mr_iload_n (pc := 86) (z := p2) dX12_isSo_86 rfl rfl ?_
  refine la_136 (pc := 87) dX12_isSo_87 (A_136 hw) hT (rIx (n := 3900) hp2 rfl) fun z772 q773 h774 => ?_
  refine mr_icmp_gt (pc := 88) (tgt := 95) dX12_isSo_88 (by decide) (r32 h724 rfl) h774 (fun h777 => ?_) (fun h777 => ?_)
  · have h778 : (-2147483648) ≤ z772 ∧ z772 ≤ 31 := (vc_X12_isSo_30 h777 h748 h724 h750 h774)
    refine mr_iconst (pc := 95) (z := 0) dX12_isSo_95 ?_
    refine mr_istore (pc := 96) (lv' := [(7, iv 0), (8, iv z439), (6, iv f_x), (0, .ref 106), (1, iv p1), (2, iv p2), (3, iv p3), (4, iv p4), (5, iv p5)]) dX12_isSo_96 (by decide) rfl ?_
    refine sv_goto (pc := 98) (tgt := 462) dX12_isSo_98 (by decide) ?_
    refine mr_lvS (lv' := [(0, .ref 106), (2, iv p2), (7, iv 0)]) (List.forall_mem_cons.mpr ⟨rfl, List.forall_mem_cons.mpr ⟨rfl, List.forall_mem_cons.mpr ⟨rfl, fun _ h => absurd h List.not_mem_nil⟩⟩⟩) ?_
    exact J581 0 μ hT mF.refl (rW (c := 0) (d := 1) (rR (x := 0)) rfl)
  have h779 : 0 ≤ z772 ∧ z772 ≤ 2147483647 := (vc_X12_isSo_31 h777 h748 h724 h750 h774)
  refine mr_iconst (pc := 91) (z := 1) dX12_isSo_91 ?_
  refine sv_goto (pc := 92) (tgt := 96) dX12_isSo_92 (by decide) ?_
  refine mr_istore (pc := 96) (lv' := [(7, iv 1), (8, iv z439), (6, iv f_x), (0, .ref 106), (1, iv p1), (2, iv p2), (3, iv p3), (4, iv p4), (5, iv p5)]) dX12_isSo_96 (by decide) rfl ?_
  refine sv_goto (pc := 98) (tgt := 462) dX12_isSo_98 (by decide) ?_
  refine mr_lvS (lv' := [(0, .ref 106), (2, iv p2), (7, iv 1)]) (List.forall_mem_cons.mpr ⟨rfl, List.forall_mem_cons.mpr ⟨rfl, List.forall_mem_cons.mpr ⟨rfl, fun _ h => absurd h List.not_mem_nil⟩⟩⟩) ?_
  exact J581 1 μ hT mF.refl (rW (c := 0) (d := 1) (rR (x := 1)) rfl)
theorem vc_X12_through_1 {p2 : Int} (h0 : 0 ≤ p2 ∧ p2 ≤ 2099) : 0 ≤ (40 * p2) := by omega
theorem vc_X12_through_2 {p2 : Int} (h0 : 0 ≤ p2 ∧ p2 ≤ 2099) : (40 * p2) % 40 = 0 := by omega
theorem vc_X12_through_3 {f_ties g1 : Int} (h0 : g1 < f_ties) (h1 : 0 ≤ f_ties ∧ f_ties ≤ 20) (h2 : 0 ≤ g1 ∧ g1 ≤ 19) : 1 ≤ f_ties ∧ f_ties ≤ 20 := by omega
theorem vc_X12_through_4 {f_x : Int} (h0 : 0 ≤ f_x) (h1 : (-1) ≤ f_x ∧ f_x ≤ 9) : 0 ≤ f_x ∧ f_x ≤ 9 := by omega
theorem vc_X12_through_5 {f_pol p1 : Int} (h0 : p1 = -99999999 ∨ (0 ≤ p1 ∧ p1 < f_pol)) (h1 : ¬ p1 = (-99999999)) (h2 : 0 ≤ f_pol ∧ f_pol ≤ 12) (h3 : (-2147483648) ≤ p1 ∧ p1 ≤ 2147483647) : 0 ≤ p1 ∧ p1 ≤ 11 := by omega
theorem vc_X12_through_6  : (0 : Int) ≤ ((0 : Int) : Int) := by omega
theorem vc_X12_through_7 {f_pol p1 : Int} (h0 : p1 = -99999999 ∨ (0 ≤ p1 ∧ p1 < f_pol)) (h1 : ¬ p1 = (-99999999)) (h2 : 0 ≤ f_pol ∧ f_pol ≤ 12) (h3 : (-2147483648) ≤ p1 ∧ p1 ≤ 2147483647) : 0 ≤ p1 ∧ p1 < f_pol ∧ p1 + (0 : Int) ≤ 11 := by omega
theorem vc_X12_through_8 {z17646 : Int} (h0 : 0 ≤ z17646 ∧ z17646 ≤ 30) : 0 ≤ z17646 := by omega
theorem vc_X12_through_9 {f_R z31894 z31895 : Int} (h0 : (((100 * (501 - z31894)) + (34 * z31895)) - f_R) < ((0 : Nat) : Int)) (h1 : (-1) ≤ f_R ∧ f_R ≤ 30) (h2 : 0 ≤ z31894 ∧ z31894 ≤ 500) (h3 : 0 ≤ z31895 ∧ z31895 ≤ 12) : False := by omega
theorem vc_X12_through_10 {z31895 : Int} (h0 : z31895 ≤ 0) (h1 : 0 ≤ z31895 ∧ z31895 ≤ 12) : 0 ≤ z31895 ∧ z31895 ≤ 0 := by omega
theorem vc_X12_through_11 {p2 : Int} (h0 : 0 ≤ p2 ∧ p2 ≤ 2099) : ((40 * p2) + 1) ≤ ((40 * p2) + 1) ∧ ((40 * p2) + 40) ≤ ((40 * p2) + 40) := by omega
theorem vc_X12_through_12 {f_x f_y : Int} (h0 : 0 ≤ f_x) (h1 : f_y = f_x) (h2 : 0 ≤ f_x ∧ f_x ≤ 9) (h3 : (-1) ≤ f_y ∧ f_y ≤ 9) : f_y = f_x := by omega
theorem vc_X12_through_13 {z31895 : Int} (h0 : 0 < z31895) (h1 : 0 ≤ z31895 ∧ z31895 ≤ 12) : 1 ≤ z31895 ∧ z31895 ≤ 12 := by omega
theorem vc_X12_through_14 {z31895 : Int} (h0 : 0 < z31895) (h1 : 1 ≤ z31895 ∧ z31895 ≤ 12) : 0 ≤ (z31895 - 1) ∧ (z31895 - 1) < z31895 := by omega
theorem vc_X12_through_15 {f_pol p1 z31895 z31916 : Int} (h0 : 0 < z31895) (h1 : 0 ≤ z31916 ∧ z31916 < f_pol ∧ z31916 + (z31895 - 1) ≤ 11) (h2 : p1 = -99999999 ∨ (0 ≤ p1 ∧ p1 < f_pol)) (h3 : 0 ≤ f_pol ∧ f_pol ≤ 12) (h4 : (-2147483648) ≤ p1 ∧ p1 ≤ 2147483647) (h5 : 1 ≤ z31895 ∧ z31895 ≤ 12) (h6 : 0 ≤ z31916 ∧ z31916 ≤ 11) : 0 ≤ (z31895 - 1) ∧ (z31895 - 1) < z31895 := by omega
theorem vc_X12_through_16 {f_pol p1 z31895 z31916 : Int} (h0 : 0 < z31895) (h1 : 0 ≤ z31916 ∧ z31916 < f_pol ∧ z31916 + (z31895 - 1) ≤ 11) (h2 : p1 = -99999999 ∨ (0 ≤ p1 ∧ p1 < f_pol)) (h3 : 0 ≤ f_pol ∧ f_pol ≤ 12) (h4 : (-2147483648) ≤ p1 ∧ p1 ≤ 2147483647) (h5 : 1 ≤ z31895 ∧ z31895 ≤ 12) (h6 : 0 ≤ z31916 ∧ z31916 ≤ 11) : ¬ z31895 = 0 := by omega
theorem vc_X12_through_17 {f_pol p1 z31895 z31916 : Int} (h0 : 0 < z31895) (h1 : 0 ≤ z31916 ∧ z31916 < f_pol ∧ z31916 + (z31895 - 1) ≤ 11) (h2 : p1 = -99999999 ∨ (0 ≤ p1 ∧ p1 < f_pol)) (h3 : 0 ≤ f_pol ∧ f_pol ≤ 12) (h4 : (-2147483648) ≤ p1 ∧ p1 ≤ 2147483647) (h5 : 1 ≤ z31895 ∧ z31895 ≤ 12) (h6 : 0 ≤ z31916 ∧ z31916 ≤ 11) : (z31895 - 1) = z31895 - 1 := by omega
theorem vc_X12_through_18 {f_R z31920 z31923 : Int} (h0 : z31920 < z31923) (h1 : z31920 < z31923 ∧ z31920 = f_R) (h2 : (-1) ≤ f_R ∧ f_R ≤ 30) (h3 : (-1) ≤ z31920 ∧ z31920 ≤ 30) (h4 : 0 ≤ z31923 ∧ z31923 ≤ 30) : (-1) ≤ z31920 ∧ z31920 ≤ 29 := by omega
theorem vc_X12_through_19 {f_R z31920 z31923 : Int} (h0 : z31920 < 0) (h1 : z31920 < z31923 ∧ z31920 = f_R) (h2 : z31920 < z31923) (h3 : (-1) ≤ f_R ∧ f_R ≤ 30) (h4 : (-1) ≤ z31920 ∧ z31920 ≤ 29) (h5 : 0 ≤ z31923 ∧ z31923 ≤ 30) : (-1) ≤ z31920 ∧ z31920 ≤ (-1) := by omega
theorem vc_X12_through_20 {f_R z31920 z31923 z33600 z33601 : Int} (h0 : (70 - ((2 * z33601) + z33600)) < ((0 : Nat) : Int)) (h1 : z33600 = 0 ∨ z33601 < z31923) (h2 : f_R < z33601) (h3 : z31920 < z31923 ∧ z31920 = f_R) (h4 : z31920 < z31923) (h5 : (-1) ≤ f_R ∧ f_R ≤ 30) (h6 : (-1) ≤ z31920 ∧ z31920 ≤ (-1)) (h7 : 0 ≤ z31923 ∧ z31923 ≤ 30) (h8 : 0 ≤ z33600 ∧ z33600 ≤ 1) (h9 : 0 ≤ z33601 ∧ z33601 ≤ 30) : False := by omega
theorem vc_X12_through_21 {z31923 z33600 z33601 : Int} (h0 : ¬ z33600 = 0) (h1 : z33600 = 0 ∨ z33601 < z31923) (h2 : 0 ≤ z31923 ∧ z31923 ≤ 30) (h3 : 0 ≤ z33600 ∧ z33600 ≤ 1) (h4 : 0 ≤ z33601 ∧ z33601 ≤ 30) : 1 ≤ z33600 ∧ z33600 ≤ 1 := by omega
theorem vc_X12_through_22 {f_pol p1 z31895 z31916 : Int} (h0 : p1 = -99999999 ∨ (0 ≤ p1 ∧ p1 < f_pol)) (h1 : 0 ≤ z31916 ∧ z31916 < f_pol ∧ z31916 + (z31895 - 1) ≤ 11) (h2 : ¬ p1 = (-99999999)) (h3 : 0 < z31895) (h4 : 0 ≤ f_pol ∧ f_pol ≤ 12) (h5 : (-2147483648) ≤ p1 ∧ p1 ≤ 2147483647) (h6 : 1 ≤ z31895 ∧ z31895 ≤ 12) (h7 : 0 ≤ z31916 ∧ z31916 ≤ 11) : 0 ≤ z31916 ∧ z31916 < f_pol := by omega
theorem vc_X12_through_23 {f_R z31920 z31923 z33600 z33601 : Int} (h0 : z31920 < z31923 ∧ z31920 = f_R) (h1 : z31920 < z31923) (h2 : z33600 = 0 ∨ z33601 < z31923) (h3 : f_R < z33601) (h4 : z31920 < 0) (h5 : ¬ z33600 = 0) (h6 : (-1) ≤ f_R ∧ f_R ≤ 30) (h7 : (-1) ≤ z31920 ∧ z31920 ≤ (-1)) (h8 : 0 ≤ z31923 ∧ z31923 ≤ 30) (h9 : 1 ≤ z33600 ∧ z33600 ≤ 1) (h10 : 0 ≤ z33601 ∧ z33601 ≤ 30) : 0 ≤ z33601 ∧ z33601 < z31923 := by omega
theorem vc_X12_through_24 {f_R f_pol p1 z31895 z31916 z31920 z31923 z33600 z33601 : Int} (h0 : 0 ≤ z31916 ∧ z31916 < f_pol ∧ z31916 + (z31895 - 1) ≤ 11) (h1 : z33600 = 0 ∨ z33601 < z31923) (h2 : f_R < z33601) (h3 : p1 = -99999999 ∨ (0 ≤ p1 ∧ p1 < f_pol)) (h4 : 0 < z31895) (h5 : z31920 < z31923 ∧ z31920 = f_R) (h6 : z31920 < z31923) (h7 : ¬ z33600 = 0) (h8 : (-1) ≤ f_R ∧ f_R ≤ 30) (h9 : 0 ≤ f_pol ∧ f_pol ≤ 12) (h10 : (-2147483648) ≤ p1 ∧ p1 ≤ 2147483647) (h11 : 1 ≤ z31895 ∧ z31895 ≤ 12) (h12 : 0 ≤ z31916 ∧ z31916 ≤ 11) (h13 : (-1) ≤ z31920 ∧ z31920 ≤ (-1)) (h14 : 0 ≤ z31923 ∧ z31923 ≤ 30) (h15 : 1 ≤ z33600 ∧ z33600 ≤ 1) (h16 : 0 ≤ z33601 ∧ z33601 ≤ 30) : ((31 * z31916) + z33601) = 31 * z31916 + z33601 := by omega
theorem vc_X12_through_25 {N f_R f_pol p1 z31894 z31895 z31916 z31920 z31923 z33600 z33601 : Int} (h0 : (((100 * (501 - z31894)) + (34 * z31895)) - f_R) < N + 1) (h1 : 0 < z31895) (h2 : 0 ≤ z31916 ∧ z31916 < f_pol ∧ z31916 + (z31895 - 1) ≤ 11) (h3 : z31920 < z31923 ∧ z31920 = f_R) (h4 : z33600 = 0 ∨ z33601 < z31923) (h5 : f_R < z33601) (h6 : p1 = -99999999 ∨ (0 ≤ p1 ∧ p1 < f_pol)) (h7 : z31920 < z31923) (h8 : z31920 < 0) (h9 : ¬ z33600 = 0) (h10 : (-1) ≤ f_R ∧ f_R ≤ 30) (h11 : 0 ≤ f_pol ∧ f_pol ≤ 12) (h12 : (-2147483648) ≤ p1 ∧ p1 ≤ 2147483647) (h13 : 0 ≤ z31894 ∧ z31894 ≤ 500) (h14 : 1 ≤ z31895 ∧ z31895 ≤ 12) (h15 : 0 ≤ z31916 ∧ z31916 ≤ 11) (h16 : (-1) ≤ z31920 ∧ z31920 ≤ (-1)) (h17 : 0 ≤ z31923 ∧ z31923 ≤ 30) (h18 : 1 ≤ z33600 ∧ z33600 ≤ 1) (h19 : 0 ≤ z33601 ∧ z33601 ≤ 30) : (((100 * (501 - z31894)) + (34 * z31895)) - z33601) < N := by omega
theorem vc_X12_through_26 {f_pol p1 z31895 z31916 : Int} (h0 : 0 < z31895) (h1 : 0 ≤ z31916 ∧ z31916 < f_pol ∧ z31916 + (z31895 - 1) ≤ 11) (h2 : p1 = -99999999 ∨ (0 ≤ p1 ∧ p1 < f_pol)) (h3 : 0 ≤ f_pol ∧ f_pol ≤ 12) (h4 : (-2147483648) ≤ p1 ∧ p1 ≤ 2147483647) (h5 : 1 ≤ z31895 ∧ z31895 ≤ 12) (h6 : 0 ≤ z31916 ∧ z31916 ≤ 11) : z31895 ≤ z31895 := by omega
theorem vc_X12_through_27 {z31923 z33600 z33601 : Int} (h0 : z33600 = 0) (h1 : z33600 = 0 ∨ z33601 < z31923) (h2 : 0 ≤ z31923 ∧ z31923 ≤ 30) (h3 : 0 ≤ z33600 ∧ z33600 ≤ 1) (h4 : 0 ≤ z33601 ∧ z33601 ≤ 30) : 0 ≤ z33600 ∧ z33600 ≤ 0 := by omega
theorem vc_X12_through_28 {f_pol z31895 z31916 : Int} (h0 : (z31895 + (-1)) = 0) (h1 : 0 < z31895) (h2 : 0 ≤ z31916 ∧ z31916 < f_pol ∧ z31916 + (z31895 - 1) ≤ 11) (h3 : 0 ≤ f_pol ∧ f_pol ≤ 12) (h4 : 1 ≤ z31895 ∧ z31895 ≤ 12) (h5 : 0 ≤ z31916 ∧ z31916 ≤ 11) : 1 ≤ z31895 ∧ z31895 ≤ 1 := by omega
theorem vc_X12_through_29 {N f_R f_pol p1 z31894 z31895 z31916 z31920 z31923 z33600 z33601 : Int} (h0 : (((100 * (501 - z31894)) + (34 * z31895)) - f_R) < N + 1) (h1 : 0 < z31895) (h2 : 0 ≤ z31916 ∧ z31916 < f_pol ∧ z31916 + (z31895 - 1) ≤ 11) (h3 : z31920 < z31923 ∧ z31920 = f_R) (h4 : f_R < z33601) (h5 : (z31895 + (-1)) = 0) (h6 : p1 = -99999999 ∨ (0 ≤ p1 ∧ p1 < f_pol)) (h7 : z31920 < z31923) (h8 : z31920 < 0) (h9 : z33600 = 0 ∨ z33601 < z31923) (h10 : (-1) ≤ f_R ∧ f_R ≤ 30) (h11 : 0 ≤ f_pol ∧ f_pol ≤ 12) (h12 : (-2147483648) ≤ p1 ∧ p1 ≤ 2147483647) (h13 : 0 ≤ z31894 ∧ z31894 ≤ 500) (h14 : 1 ≤ z31895 ∧ z31895 ≤ 1) (h15 : 0 ≤ z31916 ∧ z31916 ≤ 11) (h16 : (-1) ≤ z31920 ∧ z31920 ≤ (-1)) (h17 : 0 ≤ z31923 ∧ z31923 ≤ 30) (h18 : 0 ≤ z33600 ∧ z33600 ≤ 0) (h19 : 0 ≤ z33601 ∧ z33601 ≤ 30) : (((100 * (501 - z31894)) + (34 * (z31895 + (-1)))) - 0) < N := by omega
theorem vc_X12_through_30 {f_pol p1 z31895 z31916 : Int} (h0 : 0 < z31895) (h1 : 0 ≤ z31916 ∧ z31916 < f_pol ∧ z31916 + (z31895 - 1) ≤ 11) (h2 : (z31895 + (-1)) = 0) (h3 : p1 = -99999999 ∨ (0 ≤ p1 ∧ p1 < f_pol)) (h4 : 0 ≤ f_pol ∧ f_pol ≤ 12) (h5 : (-2147483648) ≤ p1 ∧ p1 ≤ 2147483647) (h6 : 1 ≤ z31895 ∧ z31895 ≤ 1) (h7 : 0 ≤ z31916 ∧ z31916 ≤ 11) : (z31895 + (-1)) ≤ z31895 := by omega
theorem vc_X12_through_31 {f_pol p1 z31895 z31916 : Int} (h0 : 0 < z31895) (h1 : 0 ≤ z31916 ∧ z31916 < f_pol ∧ z31916 + (z31895 - 1) ≤ 11) (h2 : (z31895 + (-1)) = 0) (h3 : p1 = -99999999 ∨ (0 ≤ p1 ∧ p1 < f_pol)) (h4 : 0 ≤ f_pol ∧ f_pol ≤ 12) (h5 : (-2147483648) ≤ p1 ∧ p1 ≤ 2147483647) (h6 : 1 ≤ z31895 ∧ z31895 ≤ 1) (h7 : 0 ≤ z31916 ∧ z31916 ≤ 11) : (z31895 + (-1)) = 0 := by omega
theorem vc_X12_through_32 {f_pol z31895 z31916 : Int} (h0 : ¬ (z31895 + (-1)) = 0) (h1 : 0 < z31895) (h2 : 0 ≤ z31916 ∧ z31916 < f_pol ∧ z31916 + (z31895 - 1) ≤ 11) (h3 : 0 ≤ f_pol ∧ f_pol ≤ 12) (h4 : 1 ≤ z31895 ∧ z31895 ≤ 12) (h5 : 0 ≤ z31916 ∧ z31916 ≤ 11) : 2 ≤ z31895 ∧ z31895 ≤ 12 := by omega
theorem vc_X12_through_33 {N f_R f_pol p1 z31894 z31895 z31916 z31920 z31923 z33600 z33601 z33672 : Int} (h0 : (((100 * (501 - z31894)) + (34 * z31895)) - f_R) < N + 1) (h1 : 0 < z31895) (h2 : 0 ≤ z31916 ∧ z31916 < f_pol ∧ z31916 + (z31895 - 1) ≤ 11) (h3 : z31920 < z31923 ∧ z31920 = f_R) (h4 : f_R < z33601) (h5 : ¬ (z31895 + (-1)) = 0) (h6 : p1 = -99999999 ∨ (0 ≤ p1 ∧ p1 < f_pol)) (h7 : z31920 < z31923) (h8 : z31920 < 0) (h9 : z33600 = 0 ∨ z33601 < z31923) (h10 : (-1) ≤ f_R ∧ f_R ≤ 30) (h11 : 0 ≤ f_pol ∧ f_pol ≤ 12) (h12 : (-2147483648) ≤ p1 ∧ p1 ≤ 2147483647) (h13 : 0 ≤ z31894 ∧ z31894 ≤ 500) (h14 : 2 ≤ z31895 ∧ z31895 ≤ 12) (h15 : 0 ≤ z31916 ∧ z31916 ≤ 11) (h16 : (-1) ≤ z31920 ∧ z31920 ≤ (-1)) (h17 : 0 ≤ z31923 ∧ z31923 ≤ 30) (h18 : 0 ≤ z33600 ∧ z33600 ≤ 0) (h19 : 0 ≤ z33601 ∧ z33601 ≤ 30) (h20 : (-1) ≤ z33672 ∧ z33672 ≤ 30) : (((100 * (501 - z31894)) + (34 * (z31895 + (-1)))) - z33672) < N := by omega
theorem vc_X12_through_34 {f_pol p1 z31895 z31916 : Int} (h0 : 0 < z31895) (h1 : 0 ≤ z31916 ∧ z31916 < f_pol ∧ z31916 + (z31895 - 1) ≤ 11) (h2 : ¬ (z31895 + (-1)) = 0) (h3 : p1 = -99999999 ∨ (0 ≤ p1 ∧ p1 < f_pol)) (h4 : 0 ≤ f_pol ∧ f_pol ≤ 12) (h5 : (-2147483648) ≤ p1 ∧ p1 ≤ 2147483647) (h6 : 2 ≤ z31895 ∧ z31895 ≤ 12) (h7 : 0 ≤ z31916 ∧ z31916 ≤ 11) : (z31895 + (-1)) ≤ z31895 := by omega
theorem vc_X12_through_35 {f_R z31920 z31923 z33600 z33601 : Int} (h0 : z33601 < z31923) (h1 : z31920 < z31923 ∧ z31920 = f_R) (h2 : z31920 < z31923) (h3 : z33600 = 0 ∨ z33601 < z31923) (h4 : f_R < z33601) (h5 : (-1) ≤ f_R ∧ f_R ≤ 30) (h6 : (-1) ≤ z31920 ∧ z31920 ≤ (-1)) (h7 : 0 ≤ z31923 ∧ z31923 ≤ 30) (h8 : 0 ≤ z33600 ∧ z33600 ≤ 1) (h9 : 0 ≤ z33601 ∧ z33601 ≤ 30) : 0 ≤ z33601 ∧ z33601 ≤ 29 := by omega
theorem vc_X12_through_36 {f_R z31920 z31923 z33600 z33601 : Int} (h0 : z33601 < z31923) (h1 : z31920 < z31923 ∧ z31920 = f_R) (h2 : z31920 < z31923) (h3 : z33600 = 0 ∨ z33601 < z31923) (h4 : f_R < z33601) (h5 : (-1) ≤ f_R ∧ f_R ≤ 30) (h6 : (-1) ≤ z31920 ∧ z31920 ≤ (-1)) (h7 : 0 ≤ z31923 ∧ z31923 ≤ 30) (h8 : 0 ≤ z33600 ∧ z33600 ≤ 1) (h9 : 0 ≤ z33601 ∧ z33601 ≤ 29) : 1 ≤ z31923 ∧ z31923 ≤ 30 := by omega
theorem vc_X12_through_37 {z31923 z33600 z33601 : Int} (h0 : ¬ z33600 = 0) (h1 : z33600 = 0 ∨ z33601 < z31923) (h2 : 1 ≤ z31923 ∧ z31923 ≤ 30) (h3 : 0 ≤ z33600 ∧ z33600 ≤ 1) (h4 : 0 ≤ z33601 ∧ z33601 ≤ 29) : 1 ≤ z33600 ∧ z33600 ≤ 1 := by omega
theorem vc_X12_through_38 {z31923 z33600 z33601 : Int} (h0 : z33600 = 0) (h1 : z33600 = 0 ∨ z33601 < z31923) (h2 : 1 ≤ z31923 ∧ z31923 ≤ 30) (h3 : 0 ≤ z33600 ∧ z33600 ≤ 1) (h4 : 0 ≤ z33601 ∧ z33601 ≤ 29) : 0 ≤ z33600 ∧ z33600 ≤ 0 := by omega
theorem vc_X12_through_39 {z33731 : Int} (h0 : (301 - z33731) < ((0 : Nat) : Int)) (h1 : 0 ≤ z33731 ∧ z33731 ≤ 300) : False := by omega
theorem vc_X12_through_40 {z33732 : Int} (h0 : ¬ z33732 = 0) (h1 : 0 ≤ z33732 ∧ z33732 ≤ 1) : 1 ≤ z33732 ∧ z33732 ≤ 1 := by omega
theorem vc_X12_through_41 {f_R z31920 z31923 z33600 z33601 z33732 : Int} (h0 : z31920 < z31923 ∧ z31920 = f_R) (h1 : z31920 < z31923) (h2 : z33600 = 0 ∨ z33601 < z31923) (h3 : f_R < z33601) (h4 : z33601 < z31923) (h5 : ¬ z33732 = 0) (h6 : z31920 < 0) (h7 : z33600 = 0) (h8 : (-1) ≤ f_R ∧ f_R ≤ 30) (h9 : (-1) ≤ z31920 ∧ z31920 ≤ (-1)) (h10 : 1 ≤ z31923 ∧ z31923 ≤ 30) (h11 : 0 ≤ z33600 ∧ z33600 ≤ 0) (h12 : 0 ≤ z33601 ∧ z33601 ≤ 29) (h13 : 1 ≤ z33732 ∧ z33732 ≤ 1) : z33732 = 0 ∨ z33601 < z31923 := by omega
theorem vc_X12_through_42 {f_R z31920 z31923 z33600 z33601 : Int} (h0 : z31920 < z31923 ∧ z31920 = f_R) (h1 : z33600 = 0 ∨ z33601 < z31923) (h2 : f_R < z33601) (h3 : z33601 < z31923) (h4 : z31920 < z31923) (h5 : z31920 < 0) (h6 : z33600 = 0) (h7 : (-1) ≤ f_R ∧ f_R ≤ 30) (h8 : (-1) ≤ z31920 ∧ z31920 ≤ (-1)) (h9 : 1 ≤ z31923 ∧ z31923 ≤ 30) (h10 : 0 ≤ z33600 ∧ z33600 ≤ 0) (h11 : 0 ≤ z33601 ∧ z33601 ≤ 29) : f_R < z33601 := by omega
theorem vc_X12_through_43 {N f_R z31920 z31923 z33600 z33601 z33732 : Int} (h0 : (70 - ((2 * z33601) + z33600)) < N + 1) (h1 : z33600 = 0 ∨ z33601 < z31923) (h2 : f_R < z33601) (h3 : z33601 < z31923) (h4 : z33600 = 0) (h5 : ¬ z33732 = 0) (h6 : z31920 < z31923 ∧ z31920 = f_R) (h7 : z31920 < z31923) (h8 : (-1) ≤ f_R ∧ f_R ≤ 30) (h9 : (-1) ≤ z31920 ∧ z31920 ≤ (-1)) (h10 : 1 ≤ z31923 ∧ z31923 ≤ 30) (h11 : 0 ≤ z33600 ∧ z33600 ≤ 0) (h12 : 0 ≤ z33601 ∧ z33601 ≤ 29) (h13 : 1 ≤ z33732 ∧ z33732 ≤ 1) : (70 - ((2 * z33601) + z33732)) < N := by omega
theorem vc_X12_through_44 {z33732 : Int} (h0 : z33732 = 0) (h1 : 0 ≤ z33732 ∧ z33732 ≤ 1) : 0 ≤ z33732 ∧ z33732 ≤ 0 := by omega
theorem vc_X12_through_45 {f_R z31920 z31923 z33600 z33601 z33732 : Int} (h0 : z31920 < z31923 ∧ z31920 = f_R) (h1 : z31920 < z31923) (h2 : z33600 = 0 ∨ z33601 < z31923) (h3 : f_R < z33601) (h4 : z33601 < z31923) (h5 : z33732 = 0) (h6 : z31920 < 0) (h7 : z33600 = 0) (h8 : (-1) ≤ f_R ∧ f_R ≤ 30) (h9 : (-1) ≤ z31920 ∧ z31920 ≤ (-1)) (h10 : 1 ≤ z31923 ∧ z31923 ≤ 30) (h11 : 0 ≤ z33600 ∧ z33600 ≤ 0) (h12 : 0 ≤ z33601 ∧ z33601 ≤ 29) (h13 : 0 ≤ z33732 ∧ z33732 ≤ 0) : z33732 = 0 ∨ (z33601 + 1) < z31923 := by omega
theorem vc_X12_through_46 {f_R z31920 z31923 z33600 z33601 : Int} (h0 : z31920 < z31923 ∧ z31920 = f_R) (h1 : z33600 = 0 ∨ z33601 < z31923) (h2 : f_R < z33601) (h3 : z33601 < z31923) (h4 : z31920 < z31923) (h5 : z31920 < 0) (h6 : z33600 = 0) (h7 : (-1) ≤ f_R ∧ f_R ≤ 30) (h8 : (-1) ≤ z31920 ∧ z31920 ≤ (-1)) (h9 : 1 ≤ z31923 ∧ z31923 ≤ 30) (h10 : 0 ≤ z33600 ∧ z33600 ≤ 0) (h11 : 0 ≤ z33601 ∧ z33601 ≤ 29) : f_R < (z33601 + 1) := by omega
theorem vc_X12_through_47 {N f_R z31920 z31923 z33600 z33601 z33732 : Int} (h0 : (70 - ((2 * z33601) + z33600)) < N + 1) (h1 : z33600 = 0 ∨ z33601 < z31923) (h2 : f_R < z33601) (h3 : z33601 < z31923) (h4 : z33600 = 0) (h5 : z33732 = 0) (h6 : z31920 < z31923 ∧ z31920 = f_R) (h7 : z31920 < z31923) (h8 : (-1) ≤ f_R ∧ f_R ≤ 30) (h9 : (-1) ≤ z31920 ∧ z31920 ≤ (-1)) (h10 : 1 ≤ z31923 ∧ z31923 ≤ 30) (h11 : 0 ≤ z33600 ∧ z33600 ≤ 0) (h12 : 0 ≤ z33601 ∧ z33601 ≤ 29) (h13 : 0 ≤ z33732 ∧ z33732 ≤ 0) : (70 - ((2 * (z33601 + 1)) + z33732)) < N := by omega
theorem vc_X12_through_48 {z33731 z33743 : Int} (h0 : z33731 < z33743) (h1 : 0 ≤ z33731 ∧ z33731 ≤ 300) (h2 : 0 ≤ z33743 ∧ z33743 ≤ 300) : 0 ≤ z33731 ∧ z33731 ≤ 299 := by omega
theorem vc_X12_through_49 {z33731 z33743 : Int} (h0 : z33731 < z33743) (h1 : 0 ≤ z33731 ∧ z33731 ≤ 299) (h2 : 0 ≤ z33743 ∧ z33743 ≤ 300) : 1 ≤ z33743 ∧ z33743 ≤ 300 := by omega
theorem vc_X12_through_50 {z33732 : Int} (h0 : ¬ z33732 = 0) (h1 : 0 ≤ z33732 ∧ z33732 ≤ 0) : False := by omega
theorem vc_X12_through_51 {f_ties g1 : Int} (h0 : g1 < f_ties) (h1 : 1 ≤ f_ties ∧ f_ties ≤ 20) (h2 : 0 ≤ g1 ∧ g1 ≤ 19) : g1 < f_ties := by omega
theorem vc_X12_through_52 {f_e0 f_e1 p3 p4 : Int} (h0 : (f_e0 = p3 ∧ f_e1 = p4) ∨ (f_e0 = p4 ∧ f_e1 = p3)) (h1 : 0 ≤ f_e0 ∧ f_e0 ≤ 9) (h2 : 0 ≤ f_e1 ∧ f_e1 ≤ 9) (h3 : (-2147483648) ≤ p3 ∧ p3 ≤ 2147483647) (h4 : (-2147483648) ≤ p4 ∧ p4 ≤ 2147483647) : (f_e0 = p3 ∧ f_e1 = p4) ∨ (f_e0 = p4 ∧ f_e1 = p3) := by omega
theorem vc_X12_through_53 {f_x f_y : Int} (h0 : f_y = f_x) (h1 : 0 ≤ f_x) (h2 : 0 ≤ f_x ∧ f_x ≤ 9) (h3 : (-1) ≤ f_y ∧ f_y ≤ 9) : 0 ≤ f_y := by omega
theorem vc_X12_through_54 {N z33731 z33743 : Int} (h0 : (301 - z33731) < N + 1) (h1 : z33731 < z33743) (h2 : 0 ≤ z33731 ∧ z33731 ≤ 299) (h3 : 1 ≤ z33743 ∧ z33743 ≤ 300) : (301 - (z33731 + 1)) < N := by omega
theorem vc_X12_through_55 {z33681 : Int} (h0 : 0 ≤ z33681 ∧ z33681 ≤ 300) : (301 - z33681) < ((302 : Nat) : Int) := by omega
theorem vc_X12_through_56 {f_R z31920 z31923 : Int} (h0 : z31920 < z31923 ∧ z31920 = f_R) (h1 : z31920 < z31923) (h2 : z31920 < 0) (h3 : (-1) ≤ f_R ∧ f_R ≤ 30) (h4 : (-1) ≤ z31920 ∧ z31920 ≤ (-1)) (h5 : 0 ≤ z31923 ∧ z31923 ≤ 30) : (0 : Int) = 0 ∨ (z31920 + 1) < z31923 := by omega
theorem vc_X12_through_57 {f_R z31920 z31923 : Int} (h0 : z31920 < z31923 ∧ z31920 = f_R) (h1 : z31920 < z31923) (h2 : z31920 < 0) (h3 : (-1) ≤ f_R ∧ f_R ≤ 30) (h4 : (-1) ≤ z31920 ∧ z31920 ≤ (-1)) (h5 : 0 ≤ z31923 ∧ z31923 ≤ 30) : f_R < (z31920 + 1) := by omega
theorem vc_X12_through_58 {f_R z31920 z31923 : Int} (h0 : z31920 < z31923 ∧ z31920 = f_R) (h1 : z31920 < z31923) (h2 : z31920 < 0) (h3 : (-1) ≤ f_R ∧ f_R ≤ 30) (h4 : (-1) ≤ z31920 ∧ z31920 ≤ (-1)) (h5 : 0 ≤ z31923 ∧ z31923 ≤ 30) : (70 - ((2 * (z31920 + 1)) + 0)) < ((71 : Nat) : Int) := by omega
theorem vc_X12_through_59 {f_R z31920 z31923 : Int} (h0 : 0 ≤ z31920) (h1 : z31920 < z31923 ∧ z31920 = f_R) (h2 : z31920 < z31923) (h3 : (-1) ≤ f_R ∧ f_R ≤ 30) (h4 : (-1) ≤ z31920 ∧ z31920 ≤ 29) (h5 : 0 ≤ z31923 ∧ z31923 ≤ 30) : 0 ≤ z31920 ∧ z31920 ≤ 29 := by omega
theorem vc_X12_through_60 {f_R f_pol p1 z31895 z31916 z31920 z31923 : Int} (h0 : 0 ≤ z31916 ∧ z31916 < f_pol ∧ z31916 + (z31895 - 1) ≤ 11) (h1 : z31920 < z31923 ∧ z31920 = f_R) (h2 : z31920 < z31923) (h3 : 0 ≤ z31920) (h4 : p1 = -99999999 ∨ (0 ≤ p1 ∧ p1 < f_pol)) (h5 : 0 < z31895) (h6 : (-1) ≤ f_R ∧ f_R ≤ 30) (h7 : 0 ≤ f_pol ∧ f_pol ≤ 12) (h8 : (-2147483648) ≤ p1 ∧ p1 ≤ 2147483647) (h9 : 1 ≤ z31895 ∧ z31895 ≤ 12) (h10 : 0 ≤ z31916 ∧ z31916 ≤ 11) (h11 : 0 ≤ z31920 ∧ z31920 ≤ 29) (h12 : 0 ≤ z31923 ∧ z31923 ≤ 30) : (((31 * z31916) + z31920) + 1) = 31 * z31916 + z31920 + 1 := by omega
theorem vc_X12_through_61 {f_pol p1 z31895 z31916 : Int} (h0 : 0 ≤ z31916 ∧ z31916 < f_pol ∧ z31916 + (z31895 - 1) ≤ 11) (h1 : p1 = -99999999 ∨ (0 ≤ p1 ∧ p1 < f_pol)) (h2 : 0 < z31895) (h3 : 0 ≤ f_pol ∧ f_pol ≤ 12) (h4 : (-2147483648) ≤ p1 ∧ p1 ≤ 2147483647) (h5 : 1 ≤ z31895 ∧ z31895 ≤ 12) (h6 : 0 ≤ z31916 ∧ z31916 ≤ 11) : 0 ≤ z31916 := by omega
theorem vc_X12_through_62 {f_R z31920 z31923 : Int} (h0 : z31920 < z31923 ∧ z31920 = f_R) (h1 : z31920 < z31923) (h2 : 0 ≤ z31920) (h3 : (-1) ≤ f_R ∧ f_R ≤ 30) (h4 : 0 ≤ z31920 ∧ z31920 ≤ 29) (h5 : 0 ≤ z31923 ∧ z31923 ≤ 30) : 0 ≤ z31920 := by omega
theorem vc_X12_through_63 {f_R z31920 z31923 : Int} (h0 : z31920 < z31923 ∧ z31920 = f_R) (h1 : z31920 < z31923) (h2 : 0 ≤ z31920) (h3 : (-1) ≤ f_R ∧ f_R ≤ 30) (h4 : 0 ≤ z31920 ∧ z31920 ≤ 29) (h5 : 0 ≤ z31923 ∧ z31923 ≤ 30) : 0 ≤ z31920 ∧ z31920 < z31923 := by omega
theorem vc_X12_through_64 {z31926 z33777 z33780 : Int} (h0 : z33777 ≤ z33780 ∧ z33780 ≤ z31926) (h1 : ¬ z33777 = z33780) (h2 : 0 ≤ z31926 ∧ z31926 ≤ 300) (h3 : 0 ≤ z33777 ∧ z33777 ≤ 300) (h4 : 0 ≤ z33780 ∧ z33780 ≤ 300) : 0 ≤ (z33777 + 1) ∧ (z33777 + 1) ≤ 300 := by omega
theorem vc_X12_through_65 {z31926 z33777 z33780 : Int} (h0 : z33777 ≤ z33780 ∧ z33780 ≤ z31926) (h1 : ¬ z33777 = z33780) (h2 : 0 ≤ z31926 ∧ z31926 ≤ 300) (h3 : 0 ≤ z33777 ∧ z33777 ≤ 300) (h4 : 0 ≤ z33780 ∧ z33780 ≤ 300) : (z33777 + 1) ≤ z33780 := by omega
theorem vc_X12_through_66 {z31894 : Int} (h0 : (z31894 + 1) ≤ 500) (h1 : 0 ≤ z31894 ∧ z31894 ≤ 500) : 0 ≤ z31894 ∧ z31894 ≤ 499 := by omega
theorem vc_X12_through_67 {p2 : Int} (h0 : 0 ≤ p2 ∧ p2 ≤ 2099) : (40 * p2) < ((40 * p2) + 1) ∨ ((40 * p2) + 40) ≤ (40 * p2) := by omega
theorem vc_X12_through_68 {N f_R f_pol p1 z31894 z31895 z31916 z31920 z31923 : Int} (h0 : (((100 * (501 - z31894)) + (34 * z31895)) - f_R) < N + 1) (h1 : 0 < z31895) (h2 : 0 ≤ z31916 ∧ z31916 < f_pol ∧ z31916 + (z31895 - 1) ≤ 11) (h3 : z31920 < z31923 ∧ z31920 = f_R) (h4 : z31920 < z31923) (h5 : 0 ≤ z31920) (h6 : (z31894 + 1) ≤ 500) (h7 : p1 = -99999999 ∨ (0 ≤ p1 ∧ p1 < f_pol)) (h8 : (-1) ≤ f_R ∧ f_R ≤ 30) (h9 : 0 ≤ f_pol ∧ f_pol ≤ 12) (h10 : (-2147483648) ≤ p1 ∧ p1 ≤ 2147483647) (h11 : 0 ≤ z31894 ∧ z31894 ≤ 499) (h12 : 1 ≤ z31895 ∧ z31895 ≤ 12) (h13 : 0 ≤ z31916 ∧ z31916 ≤ 11) (h14 : 0 ≤ z31920 ∧ z31920 ≤ 29) (h15 : 0 ≤ z31923 ∧ z31923 ≤ 30) : (((100 * (501 - (z31894 + 1))) + (34 * z31895)) - z31920) < N := by omega
theorem vc_X12_through_69 {z33791 : Int} (h0 : z33791 = 28) (h1 : ¬ z33791 = 23) (h2 : ¬ z33791 = 24) (h3 : ¬ z33791 = 27) (h4 : (-2147483648) ≤ z33791 ∧ z33791 ≤ 2147483647) : 28 ≤ z33791 ∧ z33791 ≤ 28 := by omega
theorem vc_X12_through_70 {f_pol p1 z31895 z31916 z31926 z33777 z33780 : Int} (h0 : 0 ≤ z31916 ∧ z31916 < f_pol ∧ z31916 + (z31895 - 1) ≤ 11) (h1 : z33777 ≤ z33780 ∧ z33780 ≤ z31926) (h2 : ¬ z33777 = z33780) (h3 : p1 = -99999999 ∨ (0 ≤ p1 ∧ p1 < f_pol)) (h4 : 0 < z31895) (h5 : 0 ≤ f_pol ∧ f_pol ≤ 12) (h6 : (-2147483648) ≤ p1 ∧ p1 ≤ 2147483647) (h7 : 1 ≤ z31895 ∧ z31895 ≤ 12) (h8 : 0 ≤ z31916 ∧ z31916 ≤ 11) (h9 : 0 ≤ z31926 ∧ z31926 ≤ 300) (h10 : 0 ≤ z33777 ∧ z33777 ≤ 300) (h11 : 0 ≤ z33780 ∧ z33780 ≤ 300) : 0 ≤ (((300 * z31916) + z33777) - (300 * z31916)) ∧ (((300 * z31916) + z33777) - (300 * z31916)) < z31926 := by omega
theorem vc_X12_through_71 {f_pol p1 z31895 z31916 z31926 z33777 z33780 : Int} (h0 : 0 ≤ z31916 ∧ z31916 < f_pol ∧ z31916 + (z31895 - 1) ≤ 11) (h1 : z33777 ≤ z33780 ∧ z33780 ≤ z31926) (h2 : ¬ z33777 = z33780) (h3 : p1 = -99999999 ∨ (0 ≤ p1 ∧ p1 < f_pol)) (h4 : 0 < z31895) (h5 : 0 ≤ f_pol ∧ f_pol ≤ 12) (h6 : (-2147483648) ≤ p1 ∧ p1 ≤ 2147483647) (h7 : 1 ≤ z31895 ∧ z31895 ≤ 12) (h8 : 0 ≤ z31916 ∧ z31916 ≤ 11) (h9 : 0 ≤ z31926 ∧ z31926 ≤ 300) (h10 : 0 ≤ z33777 ∧ z33777 ≤ 300) (h11 : 0 ≤ z33780 ∧ z33780 ≤ 300) : ((300 * z31916) + z33777) = 300 * z31916 + (((300 * z31916) + z33777) - (300 * z31916)) := by omega
theorem vc_X12_through_72 {z33791 : Int} (h0 : ¬ z33791 = 23) (h1 : ¬ z33791 = 24) (h2 : ¬ z33791 = 27) (h3 : z33791 = 28) (h4 : 28 ≤ z33791 ∧ z33791 ≤ 28) : z33791 = 28 := by omega
theorem vc_X12_through_73 {f_pol z31895 z31916 z33866 : Int} (h0 : 0 ≤ z33866 ∧ z33866 < z31916) (h1 : 0 ≤ z31916 ∧ z31916 < f_pol ∧ z31916 + (z31895 - 1) ≤ 11) (h2 : 0 ≤ f_pol ∧ f_pol ≤ 12) (h3 : 1 ≤ z31895 ∧ z31895 ≤ 12) (h4 : 0 ≤ z31916 ∧ z31916 ≤ 11) (h5 : (-2147483648) ≤ z33866 ∧ z33866 ≤ 2147483647) : 0 ≤ z33866 ∧ z33866 ≤ 10 := by omega
theorem vc_X12_through_74 {f_pol p1 z31895 z31916 z33866 : Int} (h0 : 0 < z31895) (h1 : 0 ≤ z31916 ∧ z31916 < f_pol ∧ z31916 + (z31895 - 1) ≤ 11) (h2 : p1 = -99999999 ∨ (0 ≤ p1 ∧ p1 < f_pol)) (h3 : 0 ≤ z33866 ∧ z33866 < z31916) (h4 : 0 ≤ f_pol ∧ f_pol ≤ 12) (h5 : (-2147483648) ≤ p1 ∧ p1 ≤ 2147483647) (h6 : 1 ≤ z31895 ∧ z31895 ≤ 12) (h7 : 0 ≤ z31916 ∧ z31916 ≤ 11) (h8 : 0 ≤ z33866 ∧ z33866 ≤ 10) : 0 ≤ z31895 := by omega
theorem vc_X12_through_75 {f_pol p1 z31895 z31916 z33866 : Int} (h0 : p1 = -99999999 ∨ (0 ≤ p1 ∧ p1 < f_pol)) (h1 : 0 < z31895) (h2 : 0 ≤ z31916 ∧ z31916 < f_pol ∧ z31916 + (z31895 - 1) ≤ 11) (h3 : 0 ≤ z33866 ∧ z33866 < z31916) (h4 : ¬ p1 = (-99999999)) (h5 : 0 ≤ f_pol ∧ f_pol ≤ 12) (h6 : (-2147483648) ≤ p1 ∧ p1 ≤ 2147483647) (h7 : 1 ≤ z31895 ∧ z31895 ≤ 12) (h8 : 0 ≤ z31916 ∧ z31916 ≤ 11) (h9 : 0 ≤ z33866 ∧ z33866 ≤ 10) : 0 ≤ z33866 ∧ z33866 < f_pol ∧ z33866 + z31895 ≤ 11 := by omega
theorem vc_X12_through_76 {z33880 : Int} (h0 : 0 ≤ z33880 ∧ z33880 ≤ 30) : 0 ≤ z33880 := by omega
theorem vc_X12_through_77 {z31895 : Int} (h0 : 1 ≤ z31895 ∧ z31895 ≤ 12) : ((z31895 + 1) - 1) = z31895 := by omega
theorem vc_X12_through_78 {f_pol p1 z31895 z31916 z33866 : Int} (h0 : 0 < z31895) (h1 : 0 ≤ z31916 ∧ z31916 < f_pol ∧ z31916 + (z31895 - 1) ≤ 11) (h2 : p1 = -99999999 ∨ (0 ≤ p1 ∧ p1 < f_pol)) (h3 : 0 ≤ z33866 ∧ z33866 < z31916) (h4 : 0 ≤ f_pol ∧ f_pol ≤ 12) (h5 : (-2147483648) ≤ p1 ∧ p1 ≤ 2147483647) (h6 : 1 ≤ z31895 ∧ z31895 ≤ 12) (h7 : 0 ≤ z31916 ∧ z31916 ≤ 11) (h8 : 0 ≤ z33866 ∧ z33866 ≤ 10) : 0 ≤ (z31895 + 1) ∧ (z31895 + 1) ≤ 12 := by omega
theorem vc_X12_through_79 {N f_R f_pol p1 z31894 z31895 z31916 z31920 z31923 z33866 : Int} (h0 : (((100 * (501 - z31894)) + (34 * z31895)) - f_R) < N + 1) (h1 : 0 < z31895) (h2 : 0 ≤ z31916 ∧ z31916 < f_pol ∧ z31916 + (z31895 - 1) ≤ 11) (h3 : z31920 < z31923 ∧ z31920 = f_R) (h4 : (z31894 + 1) ≤ 500) (h5 : p1 = -99999999 ∨ (0 ≤ p1 ∧ p1 < f_pol)) (h6 : z31920 < z31923) (h7 : 0 ≤ z31920) (h8 : 0 ≤ z33866 ∧ z33866 < z31916) (h9 : (-1) ≤ f_R ∧ f_R ≤ 30) (h10 : 0 ≤ f_pol ∧ f_pol ≤ 12) (h11 : (-2147483648) ≤ p1 ∧ p1 ≤ 2147483647) (h12 : 0 ≤ z31894 ∧ z31894 ≤ 499) (h13 : 1 ≤ z31895 ∧ z31895 ≤ 12) (h14 : 0 ≤ z31916 ∧ z31916 ≤ 11) (h15 : 0 ≤ z31920 ∧ z31920 ≤ 29) (h16 : 0 ≤ z31923 ∧ z31923 ≤ 30) (h17 : 0 ≤ z33866 ∧ z33866 ≤ 10) : (((100 * (501 - (z31894 + 1))) + (34 * (z31895 + 1))) - (-1)) < N := by omega
theorem vc_X12_through_80 {f_pol p1 z31895 z31916 z33866 : Int} (h0 : 0 < z31895) (h1 : 0 ≤ z31916 ∧ z31916 < f_pol ∧ z31916 + (z31895 - 1) ≤ 11) (h2 : p1 = -99999999 ∨ (0 ≤ p1 ∧ p1 < f_pol)) (h3 : 0 ≤ z33866 ∧ z33866 < z31916) (h4 : 0 ≤ f_pol ∧ f_pol ≤ 12) (h5 : (-2147483648) ≤ p1 ∧ p1 ≤ 2147483647) (h6 : 1 ≤ z31895 ∧ z31895 ≤ 12) (h7 : 0 ≤ z31916 ∧ z31916 ≤ 11) (h8 : 0 ≤ z33866 ∧ z33866 ≤ 10) : (z31895 + 1) ≤ (z31895 + 1) := by omega
theorem vc_X12_through_81 {z33791 : Int} (h0 : z33791 = 27) (h1 : ¬ z33791 = 23) (h2 : ¬ z33791 = 24) (h3 : (-2147483648) ≤ z33791 ∧ z33791 ≤ 2147483647) : 27 ≤ z33791 ∧ z33791 ≤ 27 := by omega
theorem vc_X12_through_82 {p2 : Int} (h0 : 0 ≤ p2 ∧ p2 ≤ 2099) : ((40 * p2) + 4) % 40 = 4 := by omega
theorem vc_X12_through_83 {z33885 : Int} (h0 : z33885 ≤ 0) (h1 : 0 ≤ z33885 ∧ z33885 ≤ 20) : 0 ≤ z33885 ∧ z33885 ≤ 0 := by omega
theorem vc_X12_through_84 {z33791 : Int} (h0 : z33791 = 28) (h1 : 27 ≤ z33791 ∧ z33791 ≤ 27) : False := by omega
theorem vc_X12_through_85 {z33885 : Int} (h0 : 0 < z33885) (h1 : 0 ≤ z33885 ∧ z33885 ≤ 20) : 1 ≤ z33885 ∧ z33885 ≤ 20 := by omega
theorem vc_X12_through_86 {z33898 : Int} (h0 : z33898 ≤ 20) (h1 : (-2147483648) ≤ z33898 ∧ z33898 ≤ 2147483647) : (-2147483648) ≤ z33898 ∧ z33898 ≤ 20 := by omega
theorem vc_X12_through_87 {z33895 z34262 : Int} (h0 : ((z33895 - z34262) + 4294967296) < ((0 : Nat) : Int)) (h1 : (-2147483648) ≤ z33895 ∧ z33895 ≤ 2147483647) (h2 : 0 ≤ z34262 ∧ z34262 ≤ 2147483647) : False := by omega
theorem vc_X12_through_88 {z33895 z34262 : Int} (h0 : z34262 < z33895) (h1 : (-2147483648) ≤ z33895 ∧ z33895 ≤ 2147483647) (h2 : 0 ≤ z34262 ∧ z34262 ≤ 2147483647) : 0 ≤ z34262 ∧ z34262 ≤ 2147483646 := by omega
theorem vc_X12_through_89 {z33895 z34262 : Int} (h0 : z34262 < z33895) (h1 : (-2147483648) ≤ z33895 ∧ z33895 ≤ 2147483647) (h2 : 0 ≤ z34262 ∧ z34262 ≤ 2147483646) : 1 ≤ z33895 ∧ z33895 ≤ 2147483647 := by omega
theorem vc_X12_through_90 {N z33895 z34262 : Int} (h0 : ((z33895 - z34262) + 4294967296) < N + 1) (h1 : z34262 < z33895) (h2 : 1 ≤ z33895 ∧ z33895 ≤ 2147483647) (h3 : 0 ≤ z34262 ∧ z34262 ≤ 2147483646) : ((z33895 - (z34262 + 1)) + 4294967296) < N := by omega
theorem vc_X12_through_91 {z33895 : Int} (h0 : (-2147483648) ≤ z33895 ∧ z33895 ≤ 2147483647) : ((z33895 - 0) + 4294967296) < ((6442450944 : Nat) : Int) := by omega
theorem vc_X12_through_92 {z33898 : Int} (h0 : 20 < z33898) (h1 : (-2147483648) ≤ z33898 ∧ z33898 ≤ 2147483647) : 21 ≤ z33898 ∧ z33898 ≤ 2147483647 := by omega
theorem vc_X12_through_93 {z33791 : Int} (h0 : z33791 = 13) (h1 : ¬ z33791 = 23) (h2 : ¬ z33791 = 24) (h3 : (-2147483648) ≤ z33791 ∧ z33791 ≤ 2147483647) : 13 ≤ z33791 ∧ z33791 ≤ 13 := by omega
theorem vc_X12_through_94 {p2 z34290 : Int} (h0 : 0 ≤ p2 ∧ p2 ≤ 2099) (h1 : (-2147483648) ≤ z34290 ∧ z34290 ≤ 2147483647) : (-2147483648 ≤ z34290 ∧ z34290 ≤ 2147483647) ∧ (((40 * p2) + 3) % 40 = 0 → -1 ≤ z34290 ∧ z34290 ≤ 9) ∧ (((40 * p2) + 3) % 40 = 4 → 0 ≤ z34290 ∧ z34290 ≤ 20) ∧ (((40 * p2) + 3) % 40 = 5 → 0 ≤ z34290 ∧ z34290 ≤ 8) := by omega
theorem vc_X12_through_95 {p2 : Int} (h0 : 0 ≤ p2 ∧ p2 ≤ 2099) : 0 ≤ ((40 * p2) + 3) ∧ ((40 * p2) + 1) ≤ ((40 * p2) + 3) ∧ ((40 * p2) + 3) < ((40 * p2) + 40) := by omega
theorem vc_X12_through_96 {z33791 : Int} (h0 : z33791 = 12) (h1 : ¬ z33791 = 23) (h2 : ¬ z33791 = 24) (h3 : (-2147483648) ≤ z33791 ∧ z33791 ≤ 2147483647) : 12 ≤ z33791 ∧ z33791 ≤ 12 := by omega
theorem vc_X12_through_97 {p2 z34298 : Int} (h0 : 0 ≤ p2 ∧ p2 ≤ 2099) (h1 : (-2147483648) ≤ z34298 ∧ z34298 ≤ 2147483647) : (-2147483648 ≤ z34298 ∧ z34298 ≤ 2147483647) ∧ (((40 * p2) + 1) % 40 = 0 → -1 ≤ z34298 ∧ z34298 ≤ 9) ∧ (((40 * p2) + 1) % 40 = 4 → 0 ≤ z34298 ∧ z34298 ≤ 20) ∧ (((40 * p2) + 1) % 40 = 5 → 0 ≤ z34298 ∧ z34298 ≤ 8) := by omega
theorem vc_X12_through_98 {p2 : Int} (h0 : 0 ≤ p2 ∧ p2 ≤ 2099) : 0 ≤ ((40 * p2) + 1) ∧ ((40 * p2) + 1) ≤ ((40 * p2) + 1) ∧ ((40 * p2) + 1) < ((40 * p2) + 40) := by omega
theorem vc_X12_through_99 {z33791 : Int} (h0 : z33791 = 26) (h1 : ¬ z33791 = 23) (h2 : ¬ z33791 = 24) (h3 : (-2147483648) ≤ z33791 ∧ z33791 ≤ 2147483647) : 26 ≤ z33791 ∧ z33791 ≤ 26 := by omega
theorem vc_X12_through_100 {z33791 : Int} (h0 : z33791 = 25) (h1 : ¬ z33791 = 23) (h2 : ¬ z33791 = 24) (h3 : (-2147483648) ≤ z33791 ∧ z33791 ≤ 2147483647) : 25 ≤ z33791 ∧ z33791 ≤ 25 := by omega
theorem vc_X12_through_101 {z33791 : Int} (h0 : z33791 = 24) (h1 : ¬ z33791 = 23) (h2 : (-2147483648) ≤ z33791 ∧ z33791 ≤ 2147483647) : 24 ≤ z33791 ∧ z33791 ≤ 24 := by omega
theorem vc_X12_through_102 {z33791 : Int} (h0 : z33791 = 23) (h1 : (-2147483648) ≤ z33791 ∧ z33791 ≤ 2147483647) : 23 ≤ z33791 ∧ z33791 ≤ 23 := by omega
theorem vc_X12_through_103 {z31894 : Int} (h0 : 500 < (z31894 + 1)) (h1 : 0 ≤ z31894 ∧ z31894 ≤ 500) : 500 ≤ z31894 ∧ z31894 ≤ 500 := by omega
theorem vc_X12_through_104 {f_R z31920 z31923 z34492 z34493 : Int} (h0 : (70 - ((2 * z34493) + z34492)) < ((0 : Nat) : Int)) (h1 : z34492 = 0 ∨ z34493 < z31923) (h2 : f_R < z34493) (h3 : z31920 < z31923 ∧ z31920 = f_R) (h4 : z31920 < z31923) (h5 : (-1) ≤ f_R ∧ f_R ≤ 30) (h6 : 0 ≤ z31920 ∧ z31920 ≤ 29) (h7 : 0 ≤ z31923 ∧ z31923 ≤ 30) (h8 : 0 ≤ z34492 ∧ z34492 ≤ 1) (h9 : 1 ≤ z34493 ∧ z34493 ≤ 30) : False := by omega
theorem vc_X12_through_105 {z31923 z34492 z34493 : Int} (h0 : ¬ z34492 = 0) (h1 : z34492 = 0 ∨ z34493 < z31923) (h2 : 0 ≤ z31923 ∧ z31923 ≤ 30) (h3 : 0 ≤ z34492 ∧ z34492 ≤ 1) (h4 : 1 ≤ z34493 ∧ z34493 ≤ 30) : 1 ≤ z34492 ∧ z34492 ≤ 1 := by omega
theorem vc_X12_through_106 {f_R z31920 z31923 z34492 z34493 : Int} (h0 : z31920 < z31923 ∧ z31920 = f_R) (h1 : z31920 < z31923) (h2 : z34492 = 0 ∨ z34493 < z31923) (h3 : f_R < z34493) (h4 : 0 ≤ z31920) (h5 : ¬ z34492 = 0) (h6 : (-1) ≤ f_R ∧ f_R ≤ 30) (h7 : 0 ≤ z31920 ∧ z31920 ≤ 29) (h8 : 0 ≤ z31923 ∧ z31923 ≤ 30) (h9 : 1 ≤ z34492 ∧ z34492 ≤ 1) (h10 : 1 ≤ z34493 ∧ z34493 ≤ 30) : 0 ≤ z34493 ∧ z34493 < z31923 := by omega
theorem vc_X12_through_107 {f_R f_pol p1 z31895 z31916 z31920 z31923 z34492 z34493 : Int} (h0 : 0 ≤ z31916 ∧ z31916 < f_pol ∧ z31916 + (z31895 - 1) ≤ 11) (h1 : z34492 = 0 ∨ z34493 < z31923) (h2 : f_R < z34493) (h3 : p1 = -99999999 ∨ (0 ≤ p1 ∧ p1 < f_pol)) (h4 : 0 < z31895) (h5 : z31920 < z31923 ∧ z31920 = f_R) (h6 : z31920 < z31923) (h7 : ¬ z34492 = 0) (h8 : (-1) ≤ f_R ∧ f_R ≤ 30) (h9 : 0 ≤ f_pol ∧ f_pol ≤ 12) (h10 : (-2147483648) ≤ p1 ∧ p1 ≤ 2147483647) (h11 : 1 ≤ z31895 ∧ z31895 ≤ 12) (h12 : 0 ≤ z31916 ∧ z31916 ≤ 11) (h13 : 0 ≤ z31920 ∧ z31920 ≤ 29) (h14 : 0 ≤ z31923 ∧ z31923 ≤ 30) (h15 : 1 ≤ z34492 ∧ z34492 ≤ 1) (h16 : 1 ≤ z34493 ∧ z34493 ≤ 30) : ((31 * z31916) + z34493) = 31 * z31916 + z34493 := by omega
theorem vc_X12_through_108 {N f_R f_pol p1 z31894 z31895 z31916 z31920 z31923 z34492 z34493 : Int} (h0 : (((100 * (501 - z31894)) + (34 * z31895)) - f_R) < N + 1) (h1 : 0 < z31895) (h2 : 0 ≤ z31916 ∧ z31916 < f_pol ∧ z31916 + (z31895 - 1) ≤ 11) (h3 : z31920 < z31923 ∧ z31920 = f_R) (h4 : z34492 = 0 ∨ z34493 < z31923) (h5 : f_R < z34493) (h6 : p1 = -99999999 ∨ (0 ≤ p1 ∧ p1 < f_pol)) (h7 : z31920 < z31923) (h8 : 0 ≤ z31920) (h9 : ¬ z34492 = 0) (h10 : (-1) ≤ f_R ∧ f_R ≤ 30) (h11 : 0 ≤ f_pol ∧ f_pol ≤ 12) (h12 : (-2147483648) ≤ p1 ∧ p1 ≤ 2147483647) (h13 : 0 ≤ z31894 ∧ z31894 ≤ 500) (h14 : 1 ≤ z31895 ∧ z31895 ≤ 12) (h15 : 0 ≤ z31916 ∧ z31916 ≤ 11) (h16 : 0 ≤ z31920 ∧ z31920 ≤ 29) (h17 : 0 ≤ z31923 ∧ z31923 ≤ 30) (h18 : 1 ≤ z34492 ∧ z34492 ≤ 1) (h19 : 1 ≤ z34493 ∧ z34493 ≤ 30) : (((100 * (501 - z31894)) + (34 * z31895)) - z34493) < N := by omega
theorem vc_X12_through_109 {z31923 z34492 z34493 : Int} (h0 : z34492 = 0) (h1 : z34492 = 0 ∨ z34493 < z31923) (h2 : 0 ≤ z31923 ∧ z31923 ≤ 30) (h3 : 0 ≤ z34492 ∧ z34492 ≤ 1) (h4 : 1 ≤ z34493 ∧ z34493 ≤ 30) : 0 ≤ z34492 ∧ z34492 ≤ 0 := by omega
theorem vc_X12_through_110 {N f_R f_pol p1 z31894 z31895 z31916 z31920 z31923 z34492 z34493 : Int} (h0 : (((100 * (501 - z31894)) + (34 * z31895)) - f_R) < N + 1) (h1 : 0 < z31895) (h2 : 0 ≤ z31916 ∧ z31916 < f_pol ∧ z31916 + (z31895 - 1) ≤ 11) (h3 : z31920 < z31923 ∧ z31920 = f_R) (h4 : f_R < z34493) (h5 : (z31895 + (-1)) = 0) (h6 : p1 = -99999999 ∨ (0 ≤ p1 ∧ p1 < f_pol)) (h7 : z31920 < z31923) (h8 : 0 ≤ z31920) (h9 : z34492 = 0 ∨ z34493 < z31923) (h10 : (-1) ≤ f_R ∧ f_R ≤ 30) (h11 : 0 ≤ f_pol ∧ f_pol ≤ 12) (h12 : (-2147483648) ≤ p1 ∧ p1 ≤ 2147483647) (h13 : 0 ≤ z31894 ∧ z31894 ≤ 500) (h14 : 1 ≤ z31895 ∧ z31895 ≤ 1) (h15 : 0 ≤ z31916 ∧ z31916 ≤ 11) (h16 : 0 ≤ z31920 ∧ z31920 ≤ 29) (h17 : 0 ≤ z31923 ∧ z31923 ≤ 30) (h18 : 0 ≤ z34492 ∧ z34492 ≤ 0) (h19 : 1 ≤ z34493 ∧ z34493 ≤ 30) : (((100 * (501 - z31894)) + (34 * (z31895 + (-1)))) - 0) < N := by omega
theorem vc_X12_through_111 {N f_R f_pol p1 z31894 z31895 z31916 z31920 z31923 z34492 z34493 z34564 : Int} (h0 : (((100 * (501 - z31894)) + (34 * z31895)) - f_R) < N + 1) (h1 : 0 < z31895) (h2 : 0 ≤ z31916 ∧ z31916 < f_pol ∧ z31916 + (z31895 - 1) ≤ 11) (h3 : z31920 < z31923 ∧ z31920 = f_R) (h4 : f_R < z34493) (h5 : ¬ (z31895 + (-1)) = 0) (h6 : p1 = -99999999 ∨ (0 ≤ p1 ∧ p1 < f_pol)) (h7 : z31920 < z31923) (h8 : 0 ≤ z31920) (h9 : z34492 = 0 ∨ z34493 < z31923) (h10 : (-1) ≤ f_R ∧ f_R ≤ 30) (h11 : 0 ≤ f_pol ∧ f_pol ≤ 12) (h12 : (-2147483648) ≤ p1 ∧ p1 ≤ 2147483647) (h13 : 0 ≤ z31894 ∧ z31894 ≤ 500) (h14 : 2 ≤ z31895 ∧ z31895 ≤ 12) (h15 : 0 ≤ z31916 ∧ z31916 ≤ 11) (h16 : 0 ≤ z31920 ∧ z31920 ≤ 29) (h17 : 0 ≤ z31923 ∧ z31923 ≤ 30) (h18 : 0 ≤ z34492 ∧ z34492 ≤ 0) (h19 : 1 ≤ z34493 ∧ z34493 ≤ 30) (h20 : (-1) ≤ z34564 ∧ z34564 ≤ 30) : (((100 * (501 - z31894)) + (34 * (z31895 + (-1)))) - z34564) < N := by omega
theorem vc_X12_through_112 {f_R z31920 z31923 z34492 z34493 : Int} (h0 : z34493 < z31923) (h1 : z31920 < z31923 ∧ z31920 = f_R) (h2 : z31920 < z31923) (h3 : z34492 = 0 ∨ z34493 < z31923) (h4 : f_R < z34493) (h5 : (-1) ≤ f_R ∧ f_R ≤ 30) (h6 : 0 ≤ z31920 ∧ z31920 ≤ 29) (h7 : 0 ≤ z31923 ∧ z31923 ≤ 30) (h8 : 0 ≤ z34492 ∧ z34492 ≤ 1) (h9 : 1 ≤ z34493 ∧ z34493 ≤ 30) : 1 ≤ z34493 ∧ z34493 ≤ 29 := by omega
theorem vc_X12_through_113 {f_R z31920 z31923 z34492 z34493 : Int} (h0 : z34493 < z31923) (h1 : z31920 < z31923 ∧ z31920 = f_R) (h2 : z31920 < z31923) (h3 : z34492 = 0 ∨ z34493 < z31923) (h4 : f_R < z34493) (h5 : (-1) ≤ f_R ∧ f_R ≤ 30) (h6 : 0 ≤ z31920 ∧ z31920 ≤ 29) (h7 : 0 ≤ z31923 ∧ z31923 ≤ 30) (h8 : 0 ≤ z34492 ∧ z34492 ≤ 1) (h9 : 1 ≤ z34493 ∧ z34493 ≤ 29) : 2 ≤ z31923 ∧ z31923 ≤ 30 := by omega
theorem vc_X12_through_114 {z31923 z34492 z34493 : Int} (h0 : ¬ z34492 = 0) (h1 : z34492 = 0 ∨ z34493 < z31923) (h2 : 2 ≤ z31923 ∧ z31923 ≤ 30) (h3 : 0 ≤ z34492 ∧ z34492 ≤ 1) (h4 : 1 ≤ z34493 ∧ z34493 ≤ 29) : 1 ≤ z34492 ∧ z34492 ≤ 1 := by omega
theorem vc_X12_through_115 {z31923 z34492 z34493 : Int} (h0 : z34492 = 0) (h1 : z34492 = 0 ∨ z34493 < z31923) (h2 : 2 ≤ z31923 ∧ z31923 ≤ 30) (h3 : 0 ≤ z34492 ∧ z34492 ≤ 1) (h4 : 1 ≤ z34493 ∧ z34493 ≤ 29) : 0 ≤ z34492 ∧ z34492 ≤ 0 := by omega
theorem vc_X12_through_116 {z34623 : Int} (h0 : (301 - z34623) < ((0 : Nat) : Int)) (h1 : 0 ≤ z34623 ∧ z34623 ≤ 300) : False := by omega
theorem vc_X12_through_117 {z34624 : Int} (h0 : ¬ z34624 = 0) (h1 : 0 ≤ z34624 ∧ z34624 ≤ 1) : 1 ≤ z34624 ∧ z34624 ≤ 1 := by omega
theorem vc_X12_through_118 {f_R z31920 z31923 z34492 z34493 z34624 : Int} (h0 : z31920 < z31923 ∧ z31920 = f_R) (h1 : z31920 < z31923) (h2 : z34492 = 0 ∨ z34493 < z31923) (h3 : f_R < z34493) (h4 : z34493 < z31923) (h5 : ¬ z34624 = 0) (h6 : 0 ≤ z31920) (h7 : z34492 = 0) (h8 : (-1) ≤ f_R ∧ f_R ≤ 30) (h9 : 0 ≤ z31920 ∧ z31920 ≤ 29) (h10 : 2 ≤ z31923 ∧ z31923 ≤ 30) (h11 : 0 ≤ z34492 ∧ z34492 ≤ 0) (h12 : 1 ≤ z34493 ∧ z34493 ≤ 29) (h13 : 1 ≤ z34624 ∧ z34624 ≤ 1) : z34624 = 0 ∨ z34493 < z31923 := by omega
theorem vc_X12_through_119 {f_R z31920 z31923 z34492 z34493 : Int} (h0 : z31920 < z31923 ∧ z31920 = f_R) (h1 : z34492 = 0 ∨ z34493 < z31923) (h2 : f_R < z34493) (h3 : z34493 < z31923) (h4 : z31920 < z31923) (h5 : 0 ≤ z31920) (h6 : z34492 = 0) (h7 : (-1) ≤ f_R ∧ f_R ≤ 30) (h8 : 0 ≤ z31920 ∧ z31920 ≤ 29) (h9 : 2 ≤ z31923 ∧ z31923 ≤ 30) (h10 : 0 ≤ z34492 ∧ z34492 ≤ 0) (h11 : 1 ≤ z34493 ∧ z34493 ≤ 29) : f_R < z34493 := by omega
theorem vc_X12_through_120 {N f_R z31920 z31923 z34492 z34493 z34624 : Int} (h0 : (70 - ((2 * z34493) + z34492)) < N + 1) (h1 : z34492 = 0 ∨ z34493 < z31923) (h2 : f_R < z34493) (h3 : z34493 < z31923) (h4 : z34492 = 0) (h5 : ¬ z34624 = 0) (h6 : z31920 < z31923 ∧ z31920 = f_R) (h7 : z31920 < z31923) (h8 : (-1) ≤ f_R ∧ f_R ≤ 30) (h9 : 0 ≤ z31920 ∧ z31920 ≤ 29) (h10 : 2 ≤ z31923 ∧ z31923 ≤ 30) (h11 : 0 ≤ z34492 ∧ z34492 ≤ 0) (h12 : 1 ≤ z34493 ∧ z34493 ≤ 29) (h13 : 1 ≤ z34624 ∧ z34624 ≤ 1) : (70 - ((2 * z34493) + z34624)) < N := by omega
theorem vc_X12_through_121 {z34624 : Int} (h0 : z34624 = 0) (h1 : 0 ≤ z34624 ∧ z34624 ≤ 1) : 0 ≤ z34624 ∧ z34624 ≤ 0 := by omega
theorem vc_X12_through_122 {f_R z31920 z31923 z34492 z34493 z34624 : Int} (h0 : z31920 < z31923 ∧ z31920 = f_R) (h1 : z31920 < z31923) (h2 : z34492 = 0 ∨ z34493 < z31923) (h3 : f_R < z34493) (h4 : z34493 < z31923) (h5 : z34624 = 0) (h6 : 0 ≤ z31920) (h7 : z34492 = 0) (h8 : (-1) ≤ f_R ∧ f_R ≤ 30) (h9 : 0 ≤ z31920 ∧ z31920 ≤ 29) (h10 : 2 ≤ z31923 ∧ z31923 ≤ 30) (h11 : 0 ≤ z34492 ∧ z34492 ≤ 0) (h12 : 1 ≤ z34493 ∧ z34493 ≤ 29) (h13 : 0 ≤ z34624 ∧ z34624 ≤ 0) : z34624 = 0 ∨ (z34493 + 1) < z31923 := by omega
theorem vc_X12_through_123 {f_R z31920 z31923 z34492 z34493 : Int} (h0 : z31920 < z31923 ∧ z31920 = f_R) (h1 : z34492 = 0 ∨ z34493 < z31923) (h2 : f_R < z34493) (h3 : z34493 < z31923) (h4 : z31920 < z31923) (h5 : 0 ≤ z31920) (h6 : z34492 = 0) (h7 : (-1) ≤ f_R ∧ f_R ≤ 30) (h8 : 0 ≤ z31920 ∧ z31920 ≤ 29) (h9 : 2 ≤ z31923 ∧ z31923 ≤ 30) (h10 : 0 ≤ z34492 ∧ z34492 ≤ 0) (h11 : 1 ≤ z34493 ∧ z34493 ≤ 29) : f_R < (z34493 + 1) := by omega
theorem vc_X12_through_124 {N f_R z31920 z31923 z34492 z34493 z34624 : Int} (h0 : (70 - ((2 * z34493) + z34492)) < N + 1) (h1 : z34492 = 0 ∨ z34493 < z31923) (h2 : f_R < z34493) (h3 : z34493 < z31923) (h4 : z34492 = 0) (h5 : z34624 = 0) (h6 : z31920 < z31923 ∧ z31920 = f_R) (h7 : z31920 < z31923) (h8 : (-1) ≤ f_R ∧ f_R ≤ 30) (h9 : 0 ≤ z31920 ∧ z31920 ≤ 29) (h10 : 2 ≤ z31923 ∧ z31923 ≤ 30) (h11 : 0 ≤ z34492 ∧ z34492 ≤ 0) (h12 : 1 ≤ z34493 ∧ z34493 ≤ 29) (h13 : 0 ≤ z34624 ∧ z34624 ≤ 0) : (70 - ((2 * (z34493 + 1)) + z34624)) < N := by omega
theorem vc_X12_through_125 {z34623 z34635 : Int} (h0 : z34623 < z34635) (h1 : 0 ≤ z34623 ∧ z34623 ≤ 300) (h2 : 0 ≤ z34635 ∧ z34635 ≤ 300) : 0 ≤ z34623 ∧ z34623 ≤ 299 := by omega
theorem vc_X12_through_126 {z34623 z34635 : Int} (h0 : z34623 < z34635) (h1 : 0 ≤ z34623 ∧ z34623 ≤ 299) (h2 : 0 ≤ z34635 ∧ z34635 ≤ 300) : 1 ≤ z34635 ∧ z34635 ≤ 300 := by omega
theorem vc_X12_through_127 {z34624 : Int} (h0 : ¬ z34624 = 0) (h1 : 0 ≤ z34624 ∧ z34624 ≤ 0) : False := by omega
theorem vc_X12_through_128 {N z34623 z34635 : Int} (h0 : (301 - z34623) < N + 1) (h1 : z34623 < z34635) (h2 : 0 ≤ z34623 ∧ z34623 ≤ 299) (h3 : 1 ≤ z34635 ∧ z34635 ≤ 300) : (301 - (z34623 + 1)) < N := by omega
theorem vc_X12_through_129 {z34573 : Int} (h0 : 0 ≤ z34573 ∧ z34573 ≤ 300) : (301 - z34573) < ((302 : Nat) : Int) := by omega
theorem vc_X12_through_130 {f_R z31920 z31923 : Int} (h0 : z31920 < z31923 ∧ z31920 = f_R) (h1 : z31920 < z31923) (h2 : 0 ≤ z31920) (h3 : (-1) ≤ f_R ∧ f_R ≤ 30) (h4 : 0 ≤ z31920 ∧ z31920 ≤ 29) (h5 : 0 ≤ z31923 ∧ z31923 ≤ 30) : (0 : Int) = 0 ∨ (z31920 + 1) < z31923 := by omega
theorem vc_X12_through_131 {f_R z31920 z31923 : Int} (h0 : z31920 < z31923 ∧ z31920 = f_R) (h1 : z31920 < z31923) (h2 : 0 ≤ z31920) (h3 : (-1) ≤ f_R ∧ f_R ≤ 30) (h4 : 0 ≤ z31920 ∧ z31920 ≤ 29) (h5 : 0 ≤ z31923 ∧ z31923 ≤ 30) : f_R < (z31920 + 1) := by omega
theorem vc_X12_through_132 {f_R z31920 z31923 : Int} (h0 : z31920 < z31923 ∧ z31920 = f_R) (h1 : z31920 < z31923) (h2 : 0 ≤ z31920) (h3 : (-1) ≤ f_R ∧ f_R ≤ 30) (h4 : 0 ≤ z31920 ∧ z31920 ≤ 29) (h5 : 0 ≤ z31923 ∧ z31923 ≤ 30) : (70 - ((2 * (z31920 + 1)) + 0)) < ((69 : Nat) : Int) := by omega
theorem vc_X12_through_133  : ((1 : Int) - (1 : Int)) = (0 : Int) := by omega
theorem vc_X12_through_134 {f_x : Int} (h0 : 0 ≤ f_x) (h1 : 0 ≤ f_x ∧ f_x ≤ 9) : f_x = f_x := by omega
theorem vc_X12_through_135  : (((100 * (501 - 0)) + (34 * 1)) - (-1)) < ((50136 : Nat) : Int) := by omega
theorem vc_X12_through_136  : ((1 : Int) : Int) ≤ (0 : Int) + (1 : Int) := by omega
theorem vc_X12_through_137 {f_pol p1 : Int} (h0 : p1 = (-99999999)) (h1 : p1 = -99999999 ∨ (0 ≤ p1 ∧ p1 < f_pol)) (h2 : 0 ≤ f_pol ∧ f_pol ≤ 12) (h3 : (-2147483648) ≤ p1 ∧ p1 ≤ 2147483647) : (-99999999) ≤ p1 ∧ p1 ≤ (-99999999) := by omega
set_option maxRecDepth 4000 in
set_option maxHeartbeats 4000000 in
theorem c_X12_through {l : Launch} {D : va_G} {c : Nat → ClassId} {H0 : Heap} {sa : Nat × Nat × (Nat → Int32)} {w : mW} {μ : mM} (hw : mWF w) (hT : mT w μ) {p1 : Int} (hp1 : (-2147483648) ≤ p1 ∧ p1 ≤ 2147483647) {p2 : Int} (hp2 : 0 ≤ p2 ∧ p2 ≤ 2099) {p3 : Int} (hp3 : (-2147483648) ≤ p3 ∧ p3 ≤ 2147483647) {p4 : Int} (hp4 : (-2147483648) ≤ p4 ∧ p4 ≤ 2147483647) {g1 : Int} (hg1 : 0 ≤ g1 ∧ g1 ≤ 19) {f_e0 : Int} (q_f_e0 : μ 110 ((2 * g1).toNat) = f_e0) {f_e1 : Int} (q_f_e1 : μ 110 (((2 * g1) + 1).toNat) = f_e1) {f_ties : Int} (q_f_ties : μ 106 6 = f_ties) {f_x : Int} (q_f_x : μ 126 ((40 * p2).toNat) = f_x) {f_pol : Int} (q_f_pol : μ 106 39 = f_pol) (hq0 : g1 < f_ties) (hq1 : (f_e0 = p3 ∧ f_e1 = p4) ∨ (f_e0 = p4 ∧ f_e1 = p3)) (hq2 : 0 ≤ f_x) (hq3 : p1 = -99999999 ∨ (0 ≤ p1 ∧ p1 < f_pol)) (hIPK : PK μ) : sC (gG l D c H0 sa) mX12_through 6 0 0 [.ref 106, iv p1, iv p2, iv p3, iv p4] (mk w μ) (qI w [106026, 106027, 106028, 106029, 106030, 106031, 126999, 151999, 152999, 153999] μ (fun z μ1 => ∃ o_x : Int, μ1 126 ((40 * p2).toNat) = o_x ∧ (0 ≤ z ∧ z ≤ 1) ∧ mG [(((40 * p2) + 1), ((40 * p2) + 40))] μ μ1 ∧ (o_x = f_x) ∧ True)) := by
  refine sC.of rfl (by decide) (le_t rfl) ?_
  have ht_f_e0 : (0 ≤ f_e0 ∧ f_e0 ≤ 9) := by rw [← q_f_e0]; exact hT 110 110 (A_110 hw) ((2 * g1).toNat)
  have ht_f_e1 : (0 ≤ f_e1 ∧ f_e1 ≤ 9) := by rw [← q_f_e1]; exact hT 110 110 (A_110 hw) (((2 * g1) + 1).toNat)
  have ht_f_ties : (0 ≤ f_ties ∧ f_ties ≤ 20) := by rw [← q_f_ties]; exact hT 106 106 (A_106 hw) 6
  have ht_f_x := rt7 hT (A_126 hw) (vc_X12_through_1 hp2) q_f_x
  have h1 : (-1) ≤ f_x ∧ f_x ≤ 9 := ht_f_x.2.1 (vc_X12_through_2 hp2)
  have ht_f_pol : (0 ≤ f_pol ∧ f_pol ≤ 12) := by rw [← q_f_pol]; exact hT 106 106 (A_106 hw) 39
  have h2 : 1 ≤ f_ties ∧ f_ties ≤ 20 := (vc_X12_through_3 hq0 ht_f_ties hg1)
  have h3 : 0 ≤ f_x ∧ f_x ≤ 9 := (vc_X12_through_4 hq2 h1)
  refine mr_lvE (lv' := [(0, .ref 106), (1, iv p1), (2, iv p2), (3, iv p3), (4, iv p4)]) rfl ?_
  refine mr_iload_n (pc := 0) (z := p1) dX12_through_0 rfl rfl ?_
  refine mr_ldc (pc := 1) (z := (-99999999)) dX12_through_1 wG_X12_29 (by decide) ?_
  refine mr_icmp_ne (pc := 3) (tgt := 8) dX12_through_3 (by decide) hp1 (r32 (rR (x := (-99999999))) rfl) (fun h17636 => ?_) (fun h17636 => ?_)
  · refine mr_iconst (pc := 8) (z := 1) dX12_through_8 ?_
    refine mr_istore (pc := 9) (lv' := [(5, iv 1), (0, .ref 106), (1, iv p1), (2, iv p2), (3, iv p3), (4, iv p4)]) dX12_through_9 (by decide) rfl ?_
    refine mr_iconst (pc := 11) (z := 0) dX12_through_11 ?_
    refine mr_istore (pc := 12) (lv' := [(6, iv 0), (5, iv 1), (0, .ref 106), (1, iv p1), (2, iv p2), (3, iv p3), (4, iv p4)]) dX12_through_12 (by decide) rfl ?_
    refine sv_aload_n (pc := 14) dX12_through_14 rfl rfl ?_
    refine gf_X12_67 (pc := 15) dX12_through_15 wF_X12_388 (A_106 hw) hT ?_
    refine mr_iconst (pc := 18) (z := 0) dX12_through_18 ?_
    refine mr_iload_n (pc := 19) (z := p1) dX12_through_19 rfl rfl ?_
    refine ss_151 (pc := 20) dX12_through_20 (A_151 hw) hT (rIx (n := 14) (rR (x := 0)) rfl) (vc_X12_through_5 hq3 h17636 ht_f_pol hp1) fun μ17637 u17638 T17639 => ?_
    refine sv_aload_n (pc := 21) dX12_through_21 rfl rfl ?_
    refine gf_X12_68 (pc := 22) dX12_through_22 wF_X12_391 (A_106 hw) T17639 ?_
    refine mr_iconst (pc := 25) (z := 0) dX12_through_25 ?_
    refine mr_iconst (pc := 26) (z := (-1)) dX12_through_26 ?_
    refine ss_152 (pc := 27) dX12_through_27 (A_152 hw) T17639 (rIx (n := 14) (rR (x := 0)) rfl) (rW (c := (-1)) (d := 30) (rR (x := (-1))) rfl) fun μ17640 u17641 T17642 => ?_
    refine sv_aload_n (pc := 28) dX12_through_28 rfl rfl ?_
    refine gf_X12_69 (pc := 29) dX12_through_29 wF_X12_394 (A_106 hw) T17642 ?_
    refine mr_iconst (pc := 32) (z := 0) dX12_through_32 ?_
    refine mr_iconst (pc := 33) (z := 0) dX12_through_33 ?_
    refine ss_153 (pc := 34) dX12_through_34 (A_153 hw) T17642 (rIx (n := 14) (rR (x := 0)) rfl) (rW (c := 0) (d := 300) (rR (x := 0)) rfl) fun μ17643 u17644 T17645 => ?_
    obtain ⟨z17646, q17647⟩ : ∃ z, μ17643 127 (p1.toNat) = z := ⟨_, rfl⟩
    have h17648 : (0 ≤ z17646 ∧ z17646 ≤ 30) := by rw [← q17647]; exact T17645 127 127 (A_127 hw) (p1.toNat)
    have I17649 : lvOK μ17643 ((0 : Int) + 1) := lvOK.push lvOK.zero vc_X12_through_6 u17638 u17641 u17644 (u17644.f (Or.inl (mAt.ne (A_153 hw) (A_106 hw) rfl)) (u17641.f (Or.inl (mAt.ne (A_152 hw) (A_106 hw) rfl)) (u17638.f (Or.inl (mAt.ne (A_151 hw) (A_106 hw) rfl)) q_f_pol))) (vc_X12_through_7 hq3 h17636 ht_f_pol hp1) q17647 (vc_X12_through_8 h17648)
    have L31897 : ∀ (nL31897 : Nat) (z31895 z31894 f_R : Int) (μ31896 : mM) (f_y : Int), mT w μ31896 → mF [106026, 106027, 106028, 106029, 106030, 106031, 126999, 151999, 152999, 153999] w μ17643 μ31896 → mG [(((40 * p2) + 1), ((40 * p2) + 40))] μ17643 μ31896 → μ31896 126 ((40 * p2).toNat) = f_y → (0 ≤ z31895 ∧ z31895 ≤ 12) → (0 ≤ z31894 ∧ z31894 ≤ 500) → ((-1) ≤ f_R ∧ f_R ≤ 30) → (f_y = f_x) → PK μ31896 → lvOK μ31896 z31895 → (z31895 = 0 ∨ μ31896 152 (z31895 - 1).toNat = f_R) → (((100 * (501 - z31894)) + (34 * z31895)) - f_R) < (nL31897 : Int) → sV (gG l D c H0 sa) mX12_through (sRm 6 0 0) (sZ (gG l D c H0 sa) 0 0 (qI w [106026, 106027, 106028, 106029, 106030, 106031, 126999, 151999, 152999, 153999] μ (fun z μ1 => ∃ o_x : Int, μ1 126 ((40 * p2).toNat) = o_x ∧ (0 ≤ z ∧ z ≤ 1) ∧ mG [(((40 * p2) + 1), ((40 * p2) + 40))] μ μ1 ∧ (o_x = f_x) ∧ True))) 35 [(0, .ref 106), (2, iv p2), (3, iv p3), (4, iv p4), (5, iv z31895), (6, iv z31894)] [] (mk w μ31896) 0 0 := by
      intro nL31897
      induction nL31897 with
      | zero => intro z31895 z31894 f_R μ31896 f_y T31901 F31902 G31903 q31909 h31898 h31899 h31900 h31904 I31905 R31906 R31907 h31908; exact ((vc_X12_through_9 h31908 h31900 h31899 h31898)).elim
      | succ nL31897 ih31910 =>
        intro z31895 z31894 f_R μ31896 f_y T31901 F31902 G31903 q31909 h31898 h31899 h31900 h31904 I31905 R31906 R31907 h31908
        have h31911 := rt7 T31901 (A_126 hw) (vc_X12_through_1 hp2) q31909
        have h31912 : (-1) ≤ f_y ∧ f_y ≤ 9 := h31911.2.1 (vc_X12_through_2 hp2)
        refine mr_iload (pc := 35) (z := z31895) dX12_through_35 rfl ?_
        refine mr_if_le (pc := 37) (tgt := 529) dX12_through_37 (by decide) (r32 h31898 rfl) (fun h31913 => ?_) (fun h31913 => ?_)
        · have h31914 : 0 ≤ z31895 ∧ z31895 ≤ 0 := (vc_X12_through_10 h31913 h31898)
          refine mr_iconst (pc := 529) (z := 1) dX12_through_529 ?_
          exact mr_zret dX12_through_530 rfl (rW (c := 0) (d := 1) (rR (x := 1)) rfl) (le_t rfl) (le_t rfl) T31901 (mF.call (mF.up (mF.up (mF.up mF.refl (A_151 hw) u17638 rfl) (A_152 hw) u17641 rfl) (A_153 hw) u17644 rfl) F31902 rfl) ⟨f_y, q31909, (rW (c := 0) (d := 1) (rR (x := 1)) rfl), (mG.call (mG.upO (mG.upO (mG.upO mG.refl u17638 rfl) u17641 rfl) u17644 rfl) G31903 (List.forall_mem_cons.mpr ⟨⟨_, List.mem_cons_self, (vc_X12_through_11 hp2)⟩, (fun _ h => absurd h List.not_mem_nil)⟩)), (vc_X12_through_12 hq2 h31904 h3 h31912), trivial⟩
        have h31915 : 1 ≤ z31895 ∧ z31895 ≤ 12 := (vc_X12_through_13 h31913 h31898)
        refine mr_iload (pc := 40) (z := z31895) dX12_through_40 rfl ?_
        refine mr_iconst (pc := 42) (z := 1) dX12_through_42 ?_
        refine mr_isub (pc := 43) (x := z31895) (y := 1) dX12_through_43 ?_
        refine mr_istore (pc := 44) (lv' := [(7, iv (z31895 - 1)), (0, .ref 106), (2, iv p2), (3, iv p3), (4, iv p4), (5, iv z31895), (6, iv z31894)]) dX12_through_44 (by decide) rfl ?_
        refine sv_aload_n (pc := 46) dX12_through_46 rfl rfl ?_
        refine gf_X12_67 (pc := 47) dX12_through_47 wF_X12_388 (A_106 hw) T31901 ?_
        refine mr_iload (pc := 50) (z := (z31895 - 1)) dX12_through_50 rfl ?_
        refine la_151 (pc := 52) dX12_through_52 (A_151 hw) T31901 (rIx (n := 14) (rSub (e := 0) (f := 11) h31915 (rR (x := 1)) rfl) rfl) fun z31916 q31917 h31918 => ?_
        have h31919 : 0 ≤ z31916 ∧ z31916 < f_pol ∧ z31916 + (z31895 - 1) ≤ 11 := lvOK.p R31906 (vc_X12_through_14 h31913 h31915) q31917 (F31902.f (A_106 hw) rfl (u17644.f (Or.inl (mAt.ne (A_153 hw) (A_106 hw) rfl)) (u17641.f (Or.inl (mAt.ne (A_152 hw) (A_106 hw) rfl)) (u17638.f (Or.inl (mAt.ne (A_151 hw) (A_106 hw) rfl)) q_f_pol))))
        refine mr_istore (pc := 53) (lv' := [(8, iv z31916), (7, iv (z31895 - 1)), (0, .ref 106), (2, iv p2), (3, iv p3), (4, iv p4), (5, iv z31895), (6, iv z31894)]) dX12_through_53 (by decide) rfl ?_
        refine sv_aload_n (pc := 55) dX12_through_55 rfl rfl ?_
        refine gf_X12_68 (pc := 56) dX12_through_56 wF_X12_391 (A_106 hw) T31901 ?_
        refine mr_iload (pc := 59) (z := (z31895 - 1)) dX12_through_59 rfl ?_
        refine la_152 (pc := 61) dX12_through_61 (A_152 hw) T31901 (rIx (n := 14) (rSub (e := 0) (f := 11) h31915 (rR (x := 1)) rfl) rfl) fun z31920 q31921 h31922 => ?_
        obtain ⟨z31923, q31924⟩ : ∃ z, μ31896 127 (z31916.toNat) = z := ⟨_, rfl⟩
        have h31925 : (0 ≤ z31923 ∧ z31923 ≤ 30) := by rw [← q31924]; exact T31901 127 127 (A_127 hw) (z31916.toNat)
        obtain ⟨z31926, q31927⟩ : ∃ z, μ31896 131 (z31916.toNat) = z := ⟨_, rfl⟩
        have h31928 : (0 ≤ z31926 ∧ z31926 ≤ 300) := by rw [← q31927]; exact T31901 131 131 (A_131 hw) (z31916.toNat)
        have h31929 : z31920 < z31923 ∧ z31920 = f_R := ⟨lvOK.r R31906 (vc_X12_through_15 h31913 h31919 hq3 ht_f_pol hp1 h31915 h31918) q31917 q31921 q31924, topE R31907 (vc_X12_through_16 h31913 h31919 hq3 ht_f_pol hp1 h31915 h31918) (vc_X12_through_17 h31913 h31919 hq3 ht_f_pol hp1 h31915 h31918) q31921⟩
        have h31930 : (-1) ≤ z31920 ∧ z31920 ≤ 29 := (vc_X12_through_18 h31929.1 h31929 h31900 h31922 h31925)
        refine mr_istore (pc := 62) (lv' := [(9, iv z31920), (8, iv z31916), (7, iv (z31895 - 1)), (0, .ref 106), (2, iv p2), (3, iv p3), (4, iv p4), (5, iv z31895), (6, iv z31894)]) dX12_through_62 (by decide) rfl ?_
        refine mr_iload (pc := 64) (z := z31920) dX12_through_64 rfl ?_
        refine mr_if_lt (pc := 66) (tgt := 94) dX12_through_66 (by decide) (r32 h31930 rfl) (fun h31931 => ?_) (fun h31931 => ?_)
        · have h31932 : (-1) ≤ z31920 ∧ z31920 ≤ (-1) := (vc_X12_through_19 h31931 h31929 h31929.1 h31900 h31930 h31925)
          refine mr_iinc (pc := 94) (lv' := [(9, iv (z31920 + 1)), (8, iv z31916), (7, iv (z31895 - 1)), (0, .ref 106), (2, iv p2), (3, iv p3), (4, iv p4), (5, iv z31895), (6, iv z31894)]) dX12_through_94 rfl (by decide) rfl ?_
          refine mr_iconst (pc := 97) (z := 0) dX12_through_97 ?_
          refine mr_istore (pc := 98) (lv' := [(10, iv 0), (9, iv (z31920 + 1)), (8, iv z31916), (7, iv (z31895 - 1)), (0, .ref 106), (2, iv p2), (3, iv p3), (4, iv p4), (5, iv z31895), (6, iv z31894)]) dX12_through_98 (by decide) rfl ?_
          have L33603 : ∀ (nL33603 : Nat) (z33601 z33600 : Int) (μ33602 : mM), mT w μ33602 → mF [106026, 106027, 106028, 106029, 106030, 106031] w μ31896 μ33602 → (0 ≤ z33601 ∧ z33601 ≤ 30) → (0 ≤ z33600 ∧ z33600 ≤ 1) → (z33600 = 0 ∨ z33601 < z31923) → (f_R < z33601) → PK μ33602 → (70 - ((2 * z33601) + z33600)) < (nL33603 : Int) → sV (gG l D c H0 sa) mX12_through (sRm 6 0 0) (sZ (gG l D c H0 sa) 0 0 (qI w [106026, 106027, 106028, 106029, 106030, 106031, 126999, 151999, 152999, 153999] μ (fun z μ1 => ∃ o_x : Int, μ1 126 ((40 * p2).toNat) = o_x ∧ (0 ≤ z ∧ z ≤ 1) ∧ mG [(((40 * p2) + 1), ((40 * p2) + 40))] μ μ1 ∧ (o_x = f_x) ∧ True))) 100 [(0, .ref 106), (2, iv p2), (3, iv p3), (4, iv p4), (5, iv z31895), (6, iv z31894), (7, iv (z31895 - 1)), (8, iv z31916), (9, iv z33601), (10, iv z33600)] [] (mk w μ33602) 0 0 := by
            intro nL33603
            induction nL33603 with
            | zero => intro z33601 z33600 μ33602 T33606 F33607 h33604 h33605 h33609 h33610 I33611 h33612; exact ((vc_X12_through_20 h33612 h33609 h33610 h31929 h31929.1 h31900 h31932 h31925 h33605 h33604)).elim
            | succ nL33603 ih33613 =>
              intro z33601 z33600 μ33602 T33606 F33607 h33604 h33605 h33609 h33610 I33611 h33612
              refine mr_iload (pc := 100) (z := z33601) dX12_through_100 rfl ?_
              refine sv_aload_n (pc := 102) dX12_through_102 rfl rfl ?_
              refine gf_X12_40 (pc := 103) dX12_through_103 wF_X12_358 (A_106 hw) T33606 ?_
              refine mr_iload (pc := 106) (z := z31916) dX12_through_106 rfl ?_
              refine lk_127 (pc := 108) dX12_through_108 (A_127 hw) (rIx (n := 13) h31918 rfl) (F33607.f (A_127 hw) rfl q31924) ?_
              have J33655 : sV (gG l D c H0 sa) mX12_through (sRm 6 0 0) (sZ (gG l D c H0 sa) 0 0 (qI w [106026, 106027, 106028, 106029, 106030, 106031, 126999, 151999, 152999, 153999] μ (fun z μ1 => ∃ o_x : Int, μ1 126 ((40 * p2).toNat) = o_x ∧ (0 ≤ z ∧ z ≤ 1) ∧ mG [(((40 * p2) + 1), ((40 * p2) + 40))] μ μ1 ∧ (o_x = f_x) ∧ True))) 198 [(0, .ref 106), (2, iv p2), (3, iv p3), (4, iv p4), (5, iv z31895), (6, iv z31894), (7, iv (z31895 - 1)), (8, iv z31916), (9, iv z33601), (10, iv z33600)] [] (mk w μ33602) 0 0 := by
                refine mr_iload (pc := 198) (z := z33600) dX12_through_198 rfl ?_
                refine mr_if_ne (pc := 200) (tgt := 209) dX12_through_200 (by decide) (r32 h33605 rfl) (fun h33656 => ?_) (fun h33656 => ?_)
                · have h33657 : 1 ≤ z33600 ∧ z33600 ≤ 1 := (vc_X12_through_21 h33656 h33609 h31925 h33605 h33604)
                  refine sv_aload_n (pc := 209) dX12_through_209 rfl rfl ?_
                  refine gf_X12_68 (pc := 210) dX12_through_210 wF_X12_391 (A_106 hw) T33606 ?_
                  refine mr_iload (pc := 213) (z := (z31895 - 1)) dX12_through_213 rfl ?_
                  refine mr_iload (pc := 215) (z := z33601) dX12_through_215 rfl ?_
                  refine ss_152 (pc := 217) dX12_through_217 (A_152 hw) T33606 (rIx (n := 14) (rSub (e := 0) (f := 11) h31915 (rR (x := 1)) rfl) rfl) (rW (c := (-1)) (d := 30) h33604 rfl) fun μ33658 u33659 T33660 => ?_
                  refine sv_aload_n (pc := 218) dX12_through_218 rfl rfl ?_
                  refine gf_X12_69 (pc := 219) dX12_through_219 wF_X12_394 (A_106 hw) T33660 ?_
                  refine mr_iload (pc := 222) (z := (z31895 - 1)) dX12_through_222 rfl ?_
                  refine sv_aload_n (pc := 224) dX12_through_224 rfl rfl ?_
                  refine gf_X12_42 (pc := 225) dX12_through_225 wF_X12_364 (A_106 hw) T33660 ?_
                  refine mr_bipush (pc := 228) (z := 31) dX12_through_228 (by decide) ?_
                  refine mr_iload (pc := 230) (z := z31916) dX12_through_230 rfl ?_
                  refine mr_imul (pc := 232) (x := 31) (y := z31916) dX12_through_232 ?_
                  refine mr_iload (pc := 233) (z := z33601) dX12_through_233 rfl ?_
                  refine mr_iadd (pc := 235) (x := (31 * z31916)) (y := z33601) dX12_through_235 ?_
                  refine la_129 (pc := 236) dX12_through_236 (A_129 hw) T33660 (rIx (n := 403) (rAdd (e := 0) (f := 371) (rMulL (n := 31) (e := 0) (f := 341) h31918 rfl) h33604 rfl) rfl) fun z33661 q33662 h33663 => ?_
                  refine ss_153 (pc := 237) dX12_through_237 (A_153 hw) T33660 (rIx (n := 14) (rSub (e := 0) (f := 11) h31915 (rR (x := 1)) rfl) rfl) h33663 fun μ33664 u33665 T33666 => ?_
                  have I33667 : lvOK μ33664 z31895 := lvOK.row (lvOK.keep R31906 hw ((mF.call mF.refl F33607 rfl) : mF [106026, 106027, 106028, 106029, 106030, 106031] w μ31896 _) rfl) (PK.keep I33611 hw ((mF.up (mF.up mF.refl (A_152 hw) u33659 rfl) (A_153 hw) u33665 rfl) : mF [152999, 153999] w μ33602 μ33664) rfl) (vc_X12_through_15 h31913 h31919 hq3 ht_f_pol hp1 h31915 h31918) u33659 u33665 (u33665.f (Or.inl (mAt.ne (A_153 hw) (A_151 hw) rfl)) (u33659.f (Or.inl (mAt.ne (A_152 hw) (A_151 hw) rfl)) (F33607.f (A_151 hw) rfl q31917))) (vc_X12_through_22 hq3 h31919 h17636 h31913 ht_f_pol hp1 h31915 h31918) (u33665.f (Or.inl (mAt.ne (A_153 hw) (A_106 hw) rfl)) (u33659.f (Or.inl (mAt.ne (A_152 hw) (A_106 hw) rfl)) (F33607.f (A_106 hw) rfl (F31902.f (A_106 hw) rfl (u17644.f (Or.inl (mAt.ne (A_153 hw) (A_106 hw) rfl)) (u17641.f (Or.inl (mAt.ne (A_152 hw) (A_106 hw) rfl)) (u17638.f (Or.inl (mAt.ne (A_151 hw) (A_106 hw) rfl)) q_f_pol))))))) (vc_X12_through_23 h31929 h31929.1 h33609 h33610 h31931 h33656 h31900 h31932 h31925 h33657 h33604) (u33665.f (Or.inl (mAt.ne (A_153 hw) (A_127 hw) rfl)) (u33659.f (Or.inl (mAt.ne (A_152 hw) (A_127 hw) rfl)) (F33607.f (A_127 hw) rfl q31924))) (vc_X12_through_24 h31919 h33609 h33610 hq3 h31913 h31929 h31929.1 h33656 h31900 ht_f_pol hp1 h31915 h31918 h31932 h31925 h33657 h33604) (u33665.f (Or.inl (mAt.ne (A_153 hw) (A_129 hw) rfl)) q33662)
                  refine sv_goto (pc := 238) (tgt := 35) dX12_through_238 (by decide) ?_
                  refine mr_lvS (lv' := [(0, .ref 106), (2, iv p2), (3, iv p3), (4, iv p4), (5, iv z31895), (6, iv z31894)]) (List.forall_mem_cons.mpr ⟨rfl, List.forall_mem_cons.mpr ⟨rfl, List.forall_mem_cons.mpr ⟨rfl, List.forall_mem_cons.mpr ⟨rfl, List.forall_mem_cons.mpr ⟨rfl, List.forall_mem_cons.mpr ⟨rfl, fun _ h => absurd h List.not_mem_nil⟩⟩⟩⟩⟩⟩) ?_
                  exact ih31910 z31895 z31894 z33601 μ33664 f_y T33666 (mF.up (mF.up (mF.call (mF.call mF.refl F31902 rfl) F33607 rfl) (A_152 hw) u33659 rfl) (A_153 hw) u33665 rfl) (mG.upO (mG.upO (mG.fr (mG.call mG.refl G31903 (List.forall_mem_cons.mpr ⟨⟨_, List.mem_cons_self, (vc_X12_through_11 hp2)⟩, (fun _ h => absurd h List.not_mem_nil)⟩)) F33607 (A_126 hw) rfl) u33659 rfl) u33665 rfl) (u33665.f (Or.inl (mAt.ne (A_153 hw) (A_126 hw) rfl)) (u33659.f (Or.inl (mAt.ne (A_152 hw) (A_126 hw) rfl)) (F33607.f (A_126 hw) rfl q31909))) (rW (c := 0) (d := 12) h31915 rfl) h31899 (rW (c := (-1)) (d := 30) h33604 rfl) (vc_X12_through_12 hq2 h31904 h3 h31912) (PK.keep I33611 hw ((mF.up (mF.up mF.refl (A_152 hw) u33659 rfl) (A_153 hw) u33665 rfl) : mF [152999, 153999] w μ33602 μ33664) rfl) (lvOK.pred I33667 (vc_X12_through_26 h31913 h31919 hq3 ht_f_pol hp1 h31915 h31918)) (Or.inr (u33665.f (Or.inl (mAt.ne (A_153 hw) (A_152 hw) rfl)) u33659.1)) (vc_X12_through_25 (nS h31908) h31913 h31919 h31929 h33609 h33610 hq3 h31929.1 h31931 h33656 h31900 ht_f_pol hp1 h31899 h31915 h31918 h31932 h31925 h33657 h33604)
                have h33668 : 0 ≤ z33600 ∧ z33600 ≤ 0 := (vc_X12_through_27 h33656 h33609 h31925 h33605 h33604)
                refine mr_iinc (pc := 203) (lv' := [(5, iv (z31895 + (-1))), (0, .ref 106), (2, iv p2), (3, iv p3), (4, iv p4), (6, iv z31894), (7, iv (z31895 - 1)), (8, iv z31916), (9, iv z33601), (10, iv z33600)]) dX12_through_203 rfl (by decide) rfl ?_
                by_cases h33669 : (z31895 + (-1)) = 0
                · have h33670 : 1 ≤ z31895 ∧ z31895 ≤ 1 := (vc_X12_through_28 h33669 h31913 h31919 ht_f_pol h31915 h31918)
                  refine sv_goto (pc := 206) (tgt := 35) dX12_through_206 (by decide) ?_
                  refine mr_lvS (lv' := [(0, .ref 106), (2, iv p2), (3, iv p3), (4, iv p4), (5, iv (z31895 + (-1))), (6, iv z31894)]) (List.forall_mem_cons.mpr ⟨rfl, List.forall_mem_cons.mpr ⟨rfl, List.forall_mem_cons.mpr ⟨rfl, List.forall_mem_cons.mpr ⟨rfl, List.forall_mem_cons.mpr ⟨rfl, List.forall_mem_cons.mpr ⟨rfl, fun _ h => absurd h List.not_mem_nil⟩⟩⟩⟩⟩⟩) ?_
                  exact ih31910 (z31895 + (-1)) z31894 0 μ33602 f_y T33606 (mF.call (mF.call mF.refl F31902 rfl) F33607 rfl) (mG.fr (mG.call mG.refl G31903 (List.forall_mem_cons.mpr ⟨⟨_, List.mem_cons_self, (vc_X12_through_11 hp2)⟩, (fun _ h => absurd h List.not_mem_nil)⟩)) F33607 (A_126 hw) rfl) (F33607.f (A_126 hw) rfl q31909) (rW (c := 0) (d := 12) (rAdd (e := 0) (f := 0) h33670 (rR (x := (-1))) rfl) rfl) h31899 (rW (c := (-1)) (d := 30) (rR (x := 0)) rfl) (vc_X12_through_12 hq2 h31904 h3 h31912) I33611 (lvOK.pred (lvOK.keep R31906 hw ((mF.call mF.refl F33607 rfl) : mF [106026, 106027, 106028, 106029, 106030, 106031] w μ31896 μ33602) rfl) (vc_X12_through_30 h31913 h31919 h33669 hq3 ht_f_pol hp1 h33670 h31918)) (Or.inl (vc_X12_through_31 h31913 h31919 h33669 hq3 ht_f_pol hp1 h33670 h31918)) (vc_X12_through_29 (nS h31908) h31913 h31919 h31929 h33610 h33669 hq3 h31929.1 h31931 h33609 h31900 ht_f_pol hp1 h31899 h33670 h31918 h31932 h31925 h33668 h33604)
                have h33671 : 2 ≤ z31895 ∧ z31895 ≤ 12 := (vc_X12_through_32 h33669 h31913 h31919 ht_f_pol h31915 h31918)
                refine sv_goto (pc := 206) (tgt := 35) dX12_through_206 (by decide) ?_
                obtain ⟨z33672, q33673⟩ : ∃ z, μ33602 152 (((z31895 + (-1)) - 1).toNat) = z := ⟨_, rfl⟩
                have h33674 : ((-1) ≤ z33672 ∧ z33672 ≤ 30) := by rw [← q33673]; exact T33606 152 152 (A_152 hw) (((z31895 + (-1)) - 1).toNat)
                refine mr_lvS (lv' := [(0, .ref 106), (2, iv p2), (3, iv p3), (4, iv p4), (5, iv (z31895 + (-1))), (6, iv z31894)]) (List.forall_mem_cons.mpr ⟨rfl, List.forall_mem_cons.mpr ⟨rfl, List.forall_mem_cons.mpr ⟨rfl, List.forall_mem_cons.mpr ⟨rfl, List.forall_mem_cons.mpr ⟨rfl, List.forall_mem_cons.mpr ⟨rfl, fun _ h => absurd h List.not_mem_nil⟩⟩⟩⟩⟩⟩) ?_
                exact ih31910 (z31895 + (-1)) z31894 z33672 μ33602 f_y T33606 (mF.call (mF.call mF.refl F31902 rfl) F33607 rfl) (mG.fr (mG.call mG.refl G31903 (List.forall_mem_cons.mpr ⟨⟨_, List.mem_cons_self, (vc_X12_through_11 hp2)⟩, (fun _ h => absurd h List.not_mem_nil)⟩)) F33607 (A_126 hw) rfl) (F33607.f (A_126 hw) rfl q31909) (rW (c := 0) (d := 12) (rAdd (e := 1) (f := 11) h33671 (rR (x := (-1))) rfl) rfl) h31899 h33674 (vc_X12_through_12 hq2 h31904 h3 h31912) I33611 (lvOK.pred (lvOK.keep R31906 hw ((mF.call mF.refl F33607 rfl) : mF [106026, 106027, 106028, 106029, 106030, 106031] w μ31896 μ33602) rfl) (vc_X12_through_34 h31913 h31919 h33669 hq3 ht_f_pol hp1 h33671 h31918)) (Or.inr q33673) (vc_X12_through_33 (nS h31908) h31913 h31919 h31929 h33610 h33669 hq3 h31929.1 h31931 h33609 h31900 ht_f_pol hp1 h31899 h33671 h31918 h31932 h31925 h33668 h33604 h33674)
              refine mr_icmp_ge (pc := 109) (tgt := 198) dX12_through_109 (by decide) (r32 h33604 rfl) (r32 h31925 rfl) (fun h33675 => ?_) (fun h33675 => ?_)
              · exact J33655 
              have h33676 : 0 ≤ z33601 ∧ z33601 ≤ 29 := (vc_X12_through_35 h33675 h31929 h31929.1 h33609 h33610 h31900 h31932 h31925 h33605 h33604)
              have h33677 : 1 ≤ z31923 ∧ z31923 ≤ 30 := (vc_X12_through_36 h33675 h31929 h31929.1 h33609 h33610 h31900 h31932 h31925 h33605 h33676)
              refine mr_iload (pc := 112) (z := z33600) dX12_through_112 rfl ?_
              refine mr_if_ne (pc := 114) (tgt := 198) dX12_through_114 (by decide) (r32 h33605 rfl) (fun h33678 => ?_) (fun h33678 => ?_)
              · have h33679 : 1 ≤ z33600 ∧ z33600 ≤ 1 := (vc_X12_through_37 h33678 h33609 h33677 h33605 h33676)
                exact J33655 
              have h33680 : 0 ≤ z33600 ∧ z33600 ≤ 0 := (vc_X12_through_38 h33678 h33609 h33677 h33605 h33676)
              refine mr_iconst (pc := 117) (z := 1) dX12_through_117 ?_
              refine mr_istore (pc := 118) (lv' := [(10, iv 1), (0, .ref 106), (2, iv p2), (3, iv p3), (4, iv p4), (5, iv z31895), (6, iv z31894), (7, iv (z31895 - 1)), (8, iv z31916), (9, iv z33601)]) dX12_through_118 (by decide) rfl ?_
              refine sv_aload_n (pc := 120) dX12_through_120 rfl rfl ?_
              refine gf_X12_41 (pc := 121) dX12_through_121 wF_X12_361 (A_106 hw) T33606 ?_
              refine mr_bipush (pc := 124) (z := 31) dX12_through_124 (by decide) ?_
              refine mr_iload (pc := 126) (z := z31916) dX12_through_126 rfl ?_
              refine mr_imul (pc := 128) (x := 31) (y := z31916) dX12_through_128 ?_
              refine mr_iload (pc := 129) (z := z33601) dX12_through_129 rfl ?_
              refine mr_iadd (pc := 131) (x := (31 * z31916)) (y := z33601) dX12_through_131 ?_
              refine la_128 (pc := 132) dX12_through_132 (A_128 hw) T33606 (rIx (n := 403) (rAdd (e := 0) (f := 370) (rMulL (n := 31) (e := 0) (f := 341) h31918 rfl) h33676 rfl) rfl) fun z33681 q33682 h33683 => ?_
              refine mr_istore (pc := 133) (lv' := [(11, iv z33681), (10, iv 1), (0, .ref 106), (2, iv p2), (3, iv p3), (4, iv p4), (5, iv z31895), (6, iv z31894), (7, iv (z31895 - 1)), (8, iv z31916), (9, iv z33601)]) dX12_through_133 (by decide) rfl ?_
              have L33734 : ∀ (nL33734 : Nat) (z33732 z33731 : Int) (μ33733 : mM), mT w μ33733 → mF [106026, 106027, 106028, 106029, 106030, 106031] w μ33602 μ33733 → (0 ≤ z33732 ∧ z33732 ≤ 1) → (0 ≤ z33731 ∧ z33731 ≤ 300) → PK μ33733 → (301 - z33731) < (nL33734 : Int) → sV (gG l D c H0 sa) mX12_through (sRm 6 0 0) (sZ (gG l D c H0 sa) 0 0 (qI w [106026, 106027, 106028, 106029, 106030, 106031, 126999, 151999, 152999, 153999] μ (fun z μ1 => ∃ o_x : Int, μ1 126 ((40 * p2).toNat) = o_x ∧ (0 ≤ z ∧ z ≤ 1) ∧ mG [(((40 * p2) + 1), ((40 * p2) + 40))] μ μ1 ∧ (o_x = f_x) ∧ True))) 135 [(0, .ref 106), (2, iv p2), (3, iv p3), (4, iv p4), (5, iv z31895), (6, iv z31894), (7, iv (z31895 - 1)), (8, iv z31916), (9, iv z33601), (10, iv z33732), (11, iv z33731)] [] (mk w μ33733) 0 0 := by
                intro nL33734
                induction nL33734 with
                | zero => intro z33732 z33731 μ33733 T33737 F33738 h33735 h33736 I33740 h33741; exact ((vc_X12_through_39 h33741 h33736)).elim
                | succ nL33734 ih33742 =>
                  intro z33732 z33731 μ33733 T33737 F33738 h33735 h33736 I33740 h33741
                  refine mr_iload (pc := 135) (z := z33731) dX12_through_135 rfl ?_
                  refine sv_aload_n (pc := 137) dX12_through_137 rfl rfl ?_
                  refine gf_X12_41 (pc := 138) dX12_through_138 wF_X12_361 (A_106 hw) T33737 ?_
                  refine mr_bipush (pc := 141) (z := 31) dX12_through_141 (by decide) ?_
                  refine mr_iload (pc := 143) (z := z31916) dX12_through_143 rfl ?_
                  refine mr_imul (pc := 145) (x := 31) (y := z31916) dX12_through_145 ?_
                  refine mr_iload (pc := 146) (z := z33601) dX12_through_146 rfl ?_
                  refine mr_iadd (pc := 148) (x := (31 * z31916)) (y := z33601) dX12_through_148 ?_
                  refine mr_iconst (pc := 149) (z := 1) dX12_through_149 ?_
                  refine mr_iadd (pc := 150) (x := ((31 * z31916) + z33601)) (y := 1) dX12_through_150 ?_
                  refine la_128 (pc := 151) dX12_through_151 (A_128 hw) T33737 (rIx (n := 403) (rAdd (e := 1) (f := 371) (rAdd (e := 0) (f := 370) (rMulL (n := 31) (e := 0) (f := 341) h31918 rfl) h33676 rfl) (rR (x := 1)) rfl) rfl) fun z33743 q33744 h33745 => ?_
                  refine mr_icmp_ge (pc := 152) (tgt := 187) dX12_through_152 (by decide) (r32 h33736 rfl) (r32 h33745 rfl) (fun h33755 => ?_) (fun h33755 => ?_)
                  · refine mr_iload (pc := 187) (z := z33732) dX12_through_187 rfl ?_
                    refine mr_if_ne (pc := 189) (tgt := 100) dX12_through_189 (by decide) (r32 h33735 rfl) (fun h33756 => ?_) (fun h33756 => ?_)
                    · have h33757 : 1 ≤ z33732 ∧ z33732 ≤ 1 := (vc_X12_through_40 h33756 h33735)
                      refine mr_lvS (lv' := [(0, .ref 106), (2, iv p2), (3, iv p3), (4, iv p4), (5, iv z31895), (6, iv z31894), (7, iv (z31895 - 1)), (8, iv z31916), (9, iv z33601), (10, iv z33732)]) (List.forall_mem_cons.mpr ⟨rfl, List.forall_mem_cons.mpr ⟨rfl, List.forall_mem_cons.mpr ⟨rfl, List.forall_mem_cons.mpr ⟨rfl, List.forall_mem_cons.mpr ⟨rfl, List.forall_mem_cons.mpr ⟨rfl, List.forall_mem_cons.mpr ⟨rfl, List.forall_mem_cons.mpr ⟨rfl, List.forall_mem_cons.mpr ⟨rfl, List.forall_mem_cons.mpr ⟨rfl, fun _ h => absurd h List.not_mem_nil⟩⟩⟩⟩⟩⟩⟩⟩⟩⟩) ?_
                      exact ih33613 z33601 z33732 μ33733 T33737 (mF.call (mF.call mF.refl F33607 rfl) F33738 rfl) (rW (c := 0) (d := 30) h33676 rfl) (rW (c := 0) (d := 1) h33757 rfl) (vc_X12_through_41 h31929 h31929.1 h33609 h33610 h33675 h33756 h31931 h33678 h31900 h31932 h33677 h33680 h33676 h33757) (vc_X12_through_42 h31929 h33609 h33610 h33675 h31929.1 h31931 h33678 h31900 h31932 h33677 h33680 h33676) I33740 (vc_X12_through_43 (nS h33612) h33609 h33610 h33675 h33678 h33756 h31929 h31929.1 h31900 h31932 h33677 h33680 h33676 h33757)
                    have h33758 : 0 ≤ z33732 ∧ z33732 ≤ 0 := (vc_X12_through_44 h33756 h33735)
                    refine mr_iinc (pc := 192) (lv' := [(9, iv (z33601 + 1)), (0, .ref 106), (2, iv p2), (3, iv p3), (4, iv p4), (5, iv z31895), (6, iv z31894), (7, iv (z31895 - 1)), (8, iv z31916), (10, iv z33732), (11, iv z33731)]) dX12_through_192 rfl (by decide) rfl ?_
                    refine sv_goto (pc := 195) (tgt := 100) dX12_through_195 (by decide) ?_
                    refine mr_lvS (lv' := [(0, .ref 106), (2, iv p2), (3, iv p3), (4, iv p4), (5, iv z31895), (6, iv z31894), (7, iv (z31895 - 1)), (8, iv z31916), (9, iv (z33601 + 1)), (10, iv z33732)]) (List.forall_mem_cons.mpr ⟨rfl, List.forall_mem_cons.mpr ⟨rfl, List.forall_mem_cons.mpr ⟨rfl, List.forall_mem_cons.mpr ⟨rfl, List.forall_mem_cons.mpr ⟨rfl, List.forall_mem_cons.mpr ⟨rfl, List.forall_mem_cons.mpr ⟨rfl, List.forall_mem_cons.mpr ⟨rfl, List.forall_mem_cons.mpr ⟨rfl, List.forall_mem_cons.mpr ⟨rfl, fun _ h => absurd h List.not_mem_nil⟩⟩⟩⟩⟩⟩⟩⟩⟩⟩) ?_
                    exact ih33613 (z33601 + 1) z33732 μ33733 T33737 (mF.call (mF.call mF.refl F33607 rfl) F33738 rfl) (rW (c := 0) (d := 30) (rAdd (e := 1) (f := 30) h33676 (rR (x := 1)) rfl) rfl) (rW (c := 0) (d := 1) h33758 rfl) (vc_X12_through_45 h31929 h31929.1 h33609 h33610 h33675 h33756 h31931 h33678 h31900 h31932 h33677 h33680 h33676 h33758) (vc_X12_through_46 h31929 h33609 h33610 h33675 h31929.1 h31931 h33678 h31900 h31932 h33677 h33680 h33676) I33740 (vc_X12_through_47 (nS h33612) h33609 h33610 h33675 h33678 h33756 h31929 h31929.1 h31900 h31932 h33677 h33680 h33676 h33758)
                  have h33759 : 0 ≤ z33731 ∧ z33731 ≤ 299 := (vc_X12_through_48 h33755 h33736 h33745)
                  have h33760 : 1 ≤ z33743 ∧ z33743 ≤ 300 := (vc_X12_through_49 h33755 h33759 h33745)
                  refine mr_iload (pc := 155) (z := z33732) dX12_through_155 rfl ?_
                  refine mr_if_eq (pc := 157) (tgt := 187) dX12_through_157 (by decide) (r32 h33735 rfl) (fun h33768 => ?_) (fun h33768 => ?_)
                  · have h33769 : 0 ≤ z33732 ∧ z33732 ≤ 0 := (vc_X12_through_44 h33768 h33735)
                    refine mr_iload (pc := 187) (z := z33732) dX12_through_187 rfl ?_
                    refine mr_if_ne (pc := 189) (tgt := 100) dX12_through_189 (by decide) (r32 h33769 rfl) (fun h => ((vc_X12_through_50 h h33769)).elim) (fun _ => ?_)
                    refine mr_iinc (pc := 192) (lv' := [(9, iv (z33601 + 1)), (0, .ref 106), (2, iv p2), (3, iv p3), (4, iv p4), (5, iv z31895), (6, iv z31894), (7, iv (z31895 - 1)), (8, iv z31916), (10, iv z33732), (11, iv z33731)]) dX12_through_192 rfl (by decide) rfl ?_
                    refine sv_goto (pc := 195) (tgt := 100) dX12_through_195 (by decide) ?_
                    refine mr_lvS (lv' := [(0, .ref 106), (2, iv p2), (3, iv p3), (4, iv p4), (5, iv z31895), (6, iv z31894), (7, iv (z31895 - 1)), (8, iv z31916), (9, iv (z33601 + 1)), (10, iv z33732)]) (List.forall_mem_cons.mpr ⟨rfl, List.forall_mem_cons.mpr ⟨rfl, List.forall_mem_cons.mpr ⟨rfl, List.forall_mem_cons.mpr ⟨rfl, List.forall_mem_cons.mpr ⟨rfl, List.forall_mem_cons.mpr ⟨rfl, List.forall_mem_cons.mpr ⟨rfl, List.forall_mem_cons.mpr ⟨rfl, List.forall_mem_cons.mpr ⟨rfl, List.forall_mem_cons.mpr ⟨rfl, fun _ h => absurd h List.not_mem_nil⟩⟩⟩⟩⟩⟩⟩⟩⟩⟩) ?_
                    exact ih33613 (z33601 + 1) z33732 μ33733 T33737 (mF.call (mF.call mF.refl F33607 rfl) F33738 rfl) (rW (c := 0) (d := 30) (rAdd (e := 1) (f := 30) h33676 (rR (x := 1)) rfl) rfl) (rW (c := 0) (d := 1) h33769 rfl) (vc_X12_through_45 h31929 h31929.1 h33609 h33610 h33675 h33768 h31931 h33678 h31900 h31932 h33677 h33680 h33676 h33769) (vc_X12_through_46 h31929 h33609 h33610 h33675 h31929.1 h31931 h33678 h31900 h31932 h33677 h33680 h33676) I33740 (vc_X12_through_47 (nS h33612) h33609 h33610 h33675 h33678 h33768 h31929 h31929.1 h31900 h31932 h33677 h33680 h33676 h33769)
                  have h33770 : 1 ≤ z33732 ∧ z33732 ≤ 1 := (vc_X12_through_40 h33768 h33735)
                  refine sv_aload_n (pc := 160) dX12_through_160 rfl rfl ?_
                  refine mr_iload (pc := 161) (z := z31916) dX12_through_161 rfl ?_
                  refine mr_sipush (pc := 163) (z := 300) dX12_through_163 (by decide) ?_
                  refine mr_iload (pc := 166) (z := z31916) dX12_through_166 rfl ?_
                  refine mr_imul (pc := 168) (x := 300) (y := z31916) dX12_through_168 ?_
                  refine mr_iload (pc := 169) (z := z33731) dX12_through_169 rfl ?_
                  refine mr_iadd (pc := 171) (x := (300 * z31916)) (y := z33731) dX12_through_171 ?_
                  refine mr_iload_n (pc := 172) (z := p2) dX12_through_172 rfl rfl ?_
                  refine mr_iload_n (pc := 173) (z := p3) dX12_through_173 rfl rfl ?_
                  refine mr_iload (pc := 174) (z := p4) dX12_through_174 rfl ?_
                  refine mr_cVI (pc := 176) (c_X12_isSo hw T33737 h31918 (rW (c := 0) (d := 3899) (rAdd (e := 0) (f := 3599) (rMulL (n := 300) (e := 0) (f := 3300) h31918 rfl) h33759 rfl) rfl) hp2 hp3 hp4 hg1 (F33738.f (A_110 hw) rfl (F33607.f (A_110 hw) rfl (F31902.f (A_110 hw) rfl (u17644.f (Or.inl (mAt.ne (A_153 hw) (A_110 hw) rfl)) (u17641.f (Or.inl (mAt.ne (A_152 hw) (A_110 hw) rfl)) (u17638.f (Or.inl (mAt.ne (A_151 hw) (A_110 hw) rfl)) q_f_e0)))))) (F33738.f (A_110 hw) rfl (F33607.f (A_110 hw) rfl (F31902.f (A_110 hw) rfl (u17644.f (Or.inl (mAt.ne (A_153 hw) (A_110 hw) rfl)) (u17641.f (Or.inl (mAt.ne (A_152 hw) (A_110 hw) rfl)) (u17638.f (Or.inl (mAt.ne (A_151 hw) (A_110 hw) rfl)) q_f_e1)))))) (F33738.f (A_106 hw) rfl (F33607.f (A_106 hw) rfl (F31902.f (A_106 hw) rfl (u17644.f (Or.inl (mAt.ne (A_153 hw) (A_106 hw) rfl)) (u17641.f (Or.inl (mAt.ne (A_152 hw) (A_106 hw) rfl)) (u17638.f (Or.inl (mAt.ne (A_151 hw) (A_106 hw) rfl)) q_f_ties)))))) (F33738.f (A_126 hw) rfl (F33607.f (A_126 hw) rfl q31909)) (vc_X12_through_51 hq0 h2 hg1) (vc_X12_through_52 hq1 ht_f_e0 ht_f_e1 hp3 hp4) (vc_X12_through_53 h31904 hq2 h3 h31912)) (gOk _ _ _ _ _) dX12_through_176 (tX12_isSo _ _ _ _ _) ⟨wV_X12_isSo, wL_X12_isSo⟩ wM_X12_397 (gCX12 _ _ _ _ _) rfl (A_106 hw) rfl ⟨le_t rfl, le_t rfl⟩ ⟨le_t rfl, le_t rfl⟩ rfl (le_t rfl) fun z33775 μ33771 T33772 F33773 h33774 => ?_
                  refine mr_istore (pc := 179) (lv' := [(10, iv z33775), (0, .ref 106), (2, iv p2), (3, iv p3), (4, iv p4), (5, iv z31895), (6, iv z31894), (7, iv (z31895 - 1)), (8, iv z31916), (9, iv z33601), (11, iv z33731)]) dX12_through_179 (by decide) rfl ?_
                  refine mr_iinc (pc := 181) (lv' := [(11, iv (z33731 + 1)), (10, iv z33775), (0, .ref 106), (2, iv p2), (3, iv p3), (4, iv p4), (5, iv z31895), (6, iv z31894), (7, iv (z31895 - 1)), (8, iv z31916), (9, iv z33601)]) dX12_through_181 rfl (by decide) rfl ?_
                  refine sv_goto (pc := 184) (tgt := 135) dX12_through_184 (by decide) ?_
                  refine mr_lvS (lv' := [(0, .ref 106), (2, iv p2), (3, iv p3), (4, iv p4), (5, iv z31895), (6, iv z31894), (7, iv (z31895 - 1)), (8, iv z31916), (9, iv z33601), (10, iv z33775), (11, iv (z33731 + 1))]) (List.forall_mem_cons.mpr ⟨rfl, List.forall_mem_cons.mpr ⟨rfl, List.forall_mem_cons.mpr ⟨rfl, List.forall_mem_cons.mpr ⟨rfl, List.forall_mem_cons.mpr ⟨rfl, List.forall_mem_cons.mpr ⟨rfl, List.forall_mem_cons.mpr ⟨rfl, List.forall_mem_cons.mpr ⟨rfl, List.forall_mem_cons.mpr ⟨rfl, List.forall_mem_cons.mpr ⟨rfl, List.forall_mem_cons.mpr ⟨rfl, fun _ h => absurd h List.not_mem_nil⟩⟩⟩⟩⟩⟩⟩⟩⟩⟩⟩) ?_
                  exact ih33742 z33775 (z33731 + 1) μ33771 T33772 (mF.call (mF.call mF.refl F33738 rfl) F33773 rfl) h33774.1 (rW (c := 0) (d := 300) (rAdd (e := 1) (f := 300) h33759 (rR (x := 1)) rfl) rfl) (PK.keep I33740 hw ((mF.call mF.refl F33773 rfl) : mF [106026, 106027, 106028, 106029, 106030, 106031] w μ33733 μ33771) rfl) (vc_X12_through_54 (nS h33741) h33755 h33759 h33760)
              refine mr_lvS (lv' := [(0, .ref 106), (2, iv p2), (3, iv p3), (4, iv p4), (5, iv z31895), (6, iv z31894), (7, iv (z31895 - 1)), (8, iv z31916), (9, iv z33601), (10, iv 1), (11, iv z33681)]) (List.forall_mem_cons.mpr ⟨rfl, List.forall_mem_cons.mpr ⟨rfl, List.forall_mem_cons.mpr ⟨rfl, List.forall_mem_cons.mpr ⟨rfl, List.forall_mem_cons.mpr ⟨rfl, List.forall_mem_cons.mpr ⟨rfl, List.forall_mem_cons.mpr ⟨rfl, List.forall_mem_cons.mpr ⟨rfl, List.forall_mem_cons.mpr ⟨rfl, List.forall_mem_cons.mpr ⟨rfl, List.forall_mem_cons.mpr ⟨rfl, fun _ h => absurd h List.not_mem_nil⟩⟩⟩⟩⟩⟩⟩⟩⟩⟩⟩) ?_
              exact L33734 302 1 z33681 μ33602 T33606 mF.refl (rW (c := 0) (d := 1) (rR (x := 1)) rfl) h33683 I33611 (vc_X12_through_55 h33683)
          refine mr_lvS (lv' := [(0, .ref 106), (2, iv p2), (3, iv p3), (4, iv p4), (5, iv z31895), (6, iv z31894), (7, iv (z31895 - 1)), (8, iv z31916), (9, iv (z31920 + 1)), (10, iv 0)]) (List.forall_mem_cons.mpr ⟨rfl, List.forall_mem_cons.mpr ⟨rfl, List.forall_mem_cons.mpr ⟨rfl, List.forall_mem_cons.mpr ⟨rfl, List.forall_mem_cons.mpr ⟨rfl, List.forall_mem_cons.mpr ⟨rfl, List.forall_mem_cons.mpr ⟨rfl, List.forall_mem_cons.mpr ⟨rfl, List.forall_mem_cons.mpr ⟨rfl, List.forall_mem_cons.mpr ⟨rfl, fun _ h => absurd h List.not_mem_nil⟩⟩⟩⟩⟩⟩⟩⟩⟩⟩) ?_
          exact L33603 71 (z31920 + 1) 0 μ31896 T31901 mF.refl (rW (c := 0) (d := 30) (rAdd (e := 0) (f := 0) h31932 (rR (x := 1)) rfl) rfl) (rW (c := 0) (d := 1) (rR (x := 0)) rfl) (vc_X12_through_56 h31929 h31929.1 h31931 h31900 h31932 h31925) (vc_X12_through_57 h31929 h31929.1 h31931 h31900 h31932 h31925) I31905 (vc_X12_through_58 h31929 h31929.1 h31931 h31900 h31932 h31925)
        have h33776 : 0 ≤ z31920 ∧ z31920 ≤ 29 := (vc_X12_through_59 h31931 h31929 h31929.1 h31900 h31930 h31925)
        refine sv_aload_n (pc := 69) dX12_through_69 rfl rfl ?_
        refine gf_X12_69 (pc := 70) dX12_through_70 wF_X12_394 (A_106 hw) T31901 ?_
        refine mr_iload (pc := 73) (z := (z31895 - 1)) dX12_through_73 rfl ?_
        refine la_153 (pc := 75) dX12_through_75 (A_153 hw) T31901 (rIx (n := 14) (rSub (e := 0) (f := 11) h31915 (rR (x := 1)) rfl) rfl) fun z33777 q33778 h33779 => ?_
        refine sv_aload_n (pc := 76) dX12_through_76 rfl rfl ?_
        refine gf_X12_42 (pc := 77) dX12_through_77 wF_X12_364 (A_106 hw) T31901 ?_
        refine mr_bipush (pc := 80) (z := 31) dX12_through_80 (by decide) ?_
        refine mr_iload (pc := 82) (z := z31916) dX12_through_82 rfl ?_
        refine mr_imul (pc := 84) (x := 31) (y := z31916) dX12_through_84 ?_
        refine mr_iload (pc := 85) (z := z31920) dX12_through_85 rfl ?_
        refine mr_iadd (pc := 87) (x := (31 * z31916)) (y := z31920) dX12_through_87 ?_
        refine mr_iconst (pc := 88) (z := 1) dX12_through_88 ?_
        refine mr_iadd (pc := 89) (x := ((31 * z31916) + z31920)) (y := 1) dX12_through_89 ?_
        refine la_129 (pc := 90) dX12_through_90 (A_129 hw) T31901 (rIx (n := 403) (rAdd (e := 1) (f := 371) (rAdd (e := 0) (f := 370) (rMulL (n := 31) (e := 0) (f := 341) h31918 rfl) h33776 rfl) (rR (x := 1)) rfl) rfl) fun z33780 q33781 h33782 => ?_
        have h33783 : z33777 ≤ z33780 ∧ z33780 ≤ z31926 := ⟨lvOK.a R31906 (vc_X12_through_15 h31913 h31919 hq3 ht_f_pol hp1 h31915 h31918) q31917 q31921 q33778 (vc_X12_through_61 h31919 hq3 h31913 ht_f_pol hp1 h31915 h31918) (vc_X12_through_62 h31929 h31929.1 h31931 h31900 h33776 h31925) (vc_X12_through_60 h31919 h31929 h31929.1 h31931 hq3 h31913 h31900 ht_f_pol hp1 h31915 h31918 h33776 h31925) q33781, PK.act I31905 (vc_X12_through_22 hq3 h31919 h17636 h31913 ht_f_pol hp1 h31915 h31918) (F31902.f (A_106 hw) rfl (u17644.f (Or.inl (mAt.ne (A_153 hw) (A_106 hw) rfl)) (u17641.f (Or.inl (mAt.ne (A_152 hw) (A_106 hw) rfl)) (u17638.f (Or.inl (mAt.ne (A_151 hw) (A_106 hw) rfl)) q_f_pol)))) (vc_X12_through_63 h31929 h31929.1 h31931 h31900 h33776 h31925) q31924 (vc_X12_through_60 h31919 h31929 h31929.1 h31931 hq3 h31913 h31900 ht_f_pol hp1 h31915 h31918 h33776 h31925) q33781 q31927⟩
        refine mr_icmp_ne (pc := 91) (tgt := 241) dX12_through_91 (by decide) (r32 h33779 rfl) (r32 h33782 rfl) (fun h33784 => ?_) (fun h33784 => ?_)
        · refine mr_sipush (pc := 241) (z := 300) dX12_through_241 (by decide) ?_
          refine mr_iload (pc := 244) (z := z31916) dX12_through_244 rfl ?_
          refine mr_imul (pc := 246) (x := 300) (y := z31916) dX12_through_246 ?_
          refine sv_aload_n (pc := 247) dX12_through_247 rfl rfl ?_
          refine gf_X12_69 (pc := 248) dX12_through_248 wF_X12_394 (A_106 hw) T31901 ?_
          refine mr_iload (pc := 251) (z := (z31895 - 1)) dX12_through_251 rfl ?_
          refine lk_153 (pc := 253) dX12_through_253 (A_153 hw) (rIx (n := 14) (rSub (e := 0) (f := 11) h31915 (rR (x := 1)) rfl) rfl) q33778 ?_
          refine mr_iadd (pc := 254) (x := (300 * z31916)) (y := z33777) dX12_through_254 ?_
          refine mr_istore (pc := 255) (lv' := [(10, iv ((300 * z31916) + z33777)), (9, iv z31920), (8, iv z31916), (7, iv (z31895 - 1)), (0, .ref 106), (2, iv p2), (3, iv p3), (4, iv p4), (5, iv z31895), (6, iv z31894)]) dX12_through_255 (by decide) rfl ?_
          refine sv_aload_n (pc := 257) dX12_through_257 rfl rfl ?_
          refine gf_X12_69 (pc := 258) dX12_through_258 wF_X12_394 (A_106 hw) T31901 ?_
          refine mr_iload (pc := 261) (z := (z31895 - 1)) dX12_through_261 rfl ?_
          refine sv_dup2 (pc := 263) dX12_through_263 rfl rfl ?_
          refine lk_153 (pc := 264) dX12_through_264 (A_153 hw) (rIx (n := 14) (rSub (e := 0) (f := 11) h31915 (rR (x := 1)) rfl) rfl) q33778 ?_
          refine mr_iconst (pc := 265) (z := 1) dX12_through_265 ?_
          refine mr_iadd (pc := 266) (x := z33777) (y := 1) dX12_through_266 ?_
          refine ss_153 (pc := 267) dX12_through_267 (A_153 hw) T31901 (rIx (n := 14) (rSub (e := 0) (f := 11) h31915 (rR (x := 1)) rfl) rfl) (vc_X12_through_64 h33783 h33784 h31928 h33779 h33782) fun μ33785 u33786 T33787 => ?_
          have I33788 : lvOK μ33785 z31895 := lvOK.act R31906 (vc_X12_through_15 h31913 h31919 hq3 ht_f_pol hp1 h31915 h31918) u33786 (u33786.f (Or.inl (mAt.ne (A_153 hw) (A_151 hw) rfl)) q31917) (u33786.f (Or.inl (mAt.ne (A_153 hw) (A_152 hw) rfl)) q31921) (vc_X12_through_61 h31919 hq3 h31913 ht_f_pol hp1 h31915 h31918) (vc_X12_through_62 h31929 h31929.1 h31931 h31900 h33776 h31925) (vc_X12_through_60 h31919 h31929 h31929.1 h31931 hq3 h31913 h31900 ht_f_pol hp1 h31915 h31918 h33776 h31925) (u33786.f (Or.inl (mAt.ne (A_153 hw) (A_129 hw) rfl)) q33781) (vc_X12_through_65 h33783 h33784 h31928 h33779 h33782)
          refine mr_iinc (pc := 268) (lv' := [(6, iv (z31894 + 1)), (10, iv ((300 * z31916) + z33777)), (9, iv z31920), (8, iv z31916), (7, iv (z31895 - 1)), (0, .ref 106), (2, iv p2), (3, iv p3), (4, iv p4), (5, iv z31895)]) dX12_through_268 rfl (by decide) rfl ?_
          refine mr_iload (pc := 271) (z := (z31894 + 1)) dX12_through_271 rfl ?_
          refine mr_sipush (pc := 273) (z := 500) dX12_through_273 (by decide) ?_
          refine mr_icmp_le (pc := 276) (tgt := 281) dX12_through_276 (by decide) (r32 (rAdd (e := 1) (f := 501) h31899 (rR (x := 1)) rfl) rfl) (r32 (rR (x := 500)) rfl) (fun h33789 => ?_) (fun h33789 => ?_)
          · have h33790 : 0 ≤ z31894 ∧ z31894 ≤ 499 := (vc_X12_through_66 h33789 h31899)
            refine sv_aload_n (pc := 281) dX12_through_281 rfl rfl ?_
            refine gf_X12_53 (pc := 282) dX12_through_282 wF_X12_349 (A_106 hw) T33787 ?_
            refine mr_iload (pc := 285) (z := ((300 * z31916) + z33777)) dX12_through_285 rfl ?_
            refine la_140 (pc := 287) dX12_through_287 (A_140 hw) T33787 (rIx (n := 3900) (rAdd (e := 0) (f := 3600) (rMulL (n := 300) (e := 0) (f := 3300) h31918 rfl) h33779 rfl) rfl) fun z33791 q33792 h33793 => ?_
            refine mr_istore (pc := 288) (lv' := [(11, iv z33791), (6, iv (z31894 + 1)), (10, iv ((300 * z31916) + z33777)), (9, iv z31920), (8, iv z31916), (7, iv (z31895 - 1)), (0, .ref 106), (2, iv p2), (3, iv p3), (4, iv p4), (5, iv z31895)]) dX12_through_288 (by decide) rfl ?_
            refine mr_iload (pc := 290) (z := z33791) dX12_through_290 rfl ?_
            refine mr_bipush (pc := 292) (z := 23) dX12_through_292 (by decide) ?_
            refine mr_icmp_ne (pc := 294) (tgt := 299) dX12_through_294 (by decide) h33793 (r32 (rR (x := 23)) rfl) (fun h33794 => ?_) (fun h33794 => ?_)
            · refine mr_iload (pc := 299) (z := z33791) dX12_through_299 rfl ?_
              refine mr_bipush (pc := 301) (z := 24) dX12_through_301 (by decide) ?_
              refine mr_icmp_ne (pc := 303) (tgt := 308) dX12_through_303 (by decide) h33793 (r32 (rR (x := 24)) rfl) (fun h33795 => ?_) (fun h33795 => ?_)
              · refine mr_iload (pc := 308) (z := z33791) dX12_through_308 rfl ?_
                refine mr_bipush (pc := 310) (z := 25) dX12_through_310 (by decide) ?_
                have J33809 : ∀ (μ33804 : mM), (mT w μ33804) → (mF [126999] w μ33785 μ33804) → (mG [(((40 * p2) + 1), ((40 * p2) + 40))] μ33785 μ33804) → (PK μ33804) → sV (gG l D c H0 sa) mX12_through (sRm 6 0 0) (sZ (gG l D c H0 sa) 0 0 (qI w [106026, 106027, 106028, 106029, 106030, 106031, 126999, 151999, 152999, 153999] μ (fun z μ1 => ∃ o_x : Int, μ1 126 ((40 * p2).toNat) = o_x ∧ (0 ≤ z ∧ z ≤ 1) ∧ mG [(((40 * p2) + 1), ((40 * p2) + 40))] μ μ1 ∧ (o_x = f_x) ∧ True))) 327 [(0, .ref 106), (2, iv p2), (3, iv p3), (4, iv p4), (5, iv z31895), (6, iv (z31894 + 1)), (10, iv ((300 * z31916) + z33777)), (11, iv z33791)] [] (mk w μ33804) 0 0 := by
                  intro μ33804 T33805 F33806 G33807 I33808
                  refine mr_iload (pc := 327) (z := z33791) dX12_through_327 rfl ?_
                  refine mr_bipush (pc := 329) (z := 26) dX12_through_329 (by decide) ?_
                  have J33823 : ∀ (μ33818 : mM), (mT w μ33818) → (mF [126999] w μ33804 μ33818) → (mG [(((40 * p2) + 1), ((40 * p2) + 40))] μ33804 μ33818) → (PK μ33818) → sV (gG l D c H0 sa) mX12_through (sRm 6 0 0) (sZ (gG l D c H0 sa) 0 0 (qI w [106026, 106027, 106028, 106029, 106030, 106031, 126999, 151999, 152999, 153999] μ (fun z μ1 => ∃ o_x : Int, μ1 126 ((40 * p2).toNat) = o_x ∧ (0 ≤ z ∧ z ≤ 1) ∧ mG [(((40 * p2) + 1), ((40 * p2) + 40))] μ μ1 ∧ (o_x = f_x) ∧ True))) 346 [(0, .ref 106), (2, iv p2), (3, iv p3), (4, iv p4), (5, iv z31895), (6, iv (z31894 + 1)), (10, iv ((300 * z31916) + z33777)), (11, iv z33791)] [] (mk w μ33818) 0 0 := by
                    intro μ33818 T33819 F33820 G33821 I33822
                    refine mr_iload (pc := 346) (z := z33791) dX12_through_346 rfl ?_
                    refine mr_bipush (pc := 348) (z := 12) dX12_through_348 (by decide) ?_
                    have J33836 : ∀ (μ33831 : mM), (mT w μ33831) → (mF [126999] w μ33818 μ33831) → (mG [(((40 * p2) + 1), ((40 * p2) + 40))] μ33818 μ33831) → (PK μ33831) → sV (gG l D c H0 sa) mX12_through (sRm 6 0 0) (sZ (gG l D c H0 sa) 0 0 (qI w [106026, 106027, 106028, 106029, 106030, 106031, 126999, 151999, 152999, 153999] μ (fun z μ1 => ∃ o_x : Int, μ1 126 ((40 * p2).toNat) = o_x ∧ (0 ≤ z ∧ z ≤ 1) ∧ mG [(((40 * p2) + 1), ((40 * p2) + 40))] μ μ1 ∧ (o_x = f_x) ∧ True))) 371 [(0, .ref 106), (2, iv p2), (3, iv p3), (4, iv p4), (5, iv z31895), (6, iv (z31894 + 1)), (10, iv ((300 * z31916) + z33777)), (11, iv z33791)] [] (mk w μ33831) 0 0 := by
                      intro μ33831 T33832 F33833 G33834 I33835
                      refine mr_iload (pc := 371) (z := z33791) dX12_through_371 rfl ?_
                      refine mr_bipush (pc := 373) (z := 13) dX12_through_373 (by decide) ?_
                      have J33849 : ∀ (μ33844 : mM), (mT w μ33844) → (mF [126999] w μ33831 μ33844) → (mG [(((40 * p2) + 1), ((40 * p2) + 40))] μ33831 μ33844) → (PK μ33844) → sV (gG l D c H0 sa) mX12_through (sRm 6 0 0) (sZ (gG l D c H0 sa) 0 0 (qI w [106026, 106027, 106028, 106029, 106030, 106031, 126999, 151999, 152999, 153999] μ (fun z μ1 => ∃ o_x : Int, μ1 126 ((40 * p2).toNat) = o_x ∧ (0 ≤ z ∧ z ≤ 1) ∧ mG [(((40 * p2) + 1), ((40 * p2) + 40))] μ μ1 ∧ (o_x = f_x) ∧ True))) 396 [(0, .ref 106), (2, iv p2), (3, iv p3), (4, iv p4), (5, iv z31895), (6, iv (z31894 + 1)), (10, iv ((300 * z31916) + z33777)), (11, iv z33791)] [] (mk w μ33844) 0 0 := by
                        intro μ33844 T33845 F33846 G33847 I33848
                        refine mr_iload (pc := 396) (z := z33791) dX12_through_396 rfl ?_
                        refine mr_bipush (pc := 398) (z := 27) dX12_through_398 (by decide) ?_
                        refine mr_icmp_ne (pc := 400) (tgt := 486) dX12_through_400 (by decide) h33793 (r32 (rR (x := 27)) rfl) (fun h33850 => ?_) (fun h33850 => ?_)
                        · refine mr_iload (pc := 486) (z := z33791) dX12_through_486 rfl ?_
                          refine mr_bipush (pc := 488) (z := 28) dX12_through_488 (by decide) ?_
                          refine mr_icmp_ne (pc := 490) (tgt := 526) dX12_through_490 (by decide) h33793 (r32 (rR (x := 28)) rfl) (fun h33864 => ?_) (fun h33864 => ?_)
                          · refine sv_goto (pc := 526) (tgt := 35) dX12_through_526 (by decide) ?_
                            refine mr_lvS (lv' := [(0, .ref 106), (2, iv p2), (3, iv p3), (4, iv p4), (5, iv z31895), (6, iv (z31894 + 1))]) (List.forall_mem_cons.mpr ⟨rfl, List.forall_mem_cons.mpr ⟨rfl, List.forall_mem_cons.mpr ⟨rfl, List.forall_mem_cons.mpr ⟨rfl, List.forall_mem_cons.mpr ⟨rfl, List.forall_mem_cons.mpr ⟨rfl, fun _ h => absurd h List.not_mem_nil⟩⟩⟩⟩⟩⟩) ?_
                            exact ih31910 z31895 (z31894 + 1) z31920 μ33844 f_y T33845 (mF.call (mF.call (mF.call (mF.call (mF.up (mF.call mF.refl F31902 rfl) (A_153 hw) u33786 rfl) F33806 rfl) F33820 rfl) F33833 rfl) F33846 rfl) (mG.call (mG.call (mG.call (mG.call (mG.upO (mG.call mG.refl G31903 (List.forall_mem_cons.mpr ⟨⟨_, List.mem_cons_self, (vc_X12_through_11 hp2)⟩, (fun _ h => absurd h List.not_mem_nil)⟩)) u33786 rfl) G33807 (List.forall_mem_cons.mpr ⟨⟨_, List.mem_cons_self, (vc_X12_through_11 hp2)⟩, (fun _ h => absurd h List.not_mem_nil)⟩)) G33821 (List.forall_mem_cons.mpr ⟨⟨_, List.mem_cons_self, (vc_X12_through_11 hp2)⟩, (fun _ h => absurd h List.not_mem_nil)⟩)) G33834 (List.forall_mem_cons.mpr ⟨⟨_, List.mem_cons_self, (vc_X12_through_11 hp2)⟩, (fun _ h => absurd h List.not_mem_nil)⟩)) G33847 (List.forall_mem_cons.mpr ⟨⟨_, List.mem_cons_self, (vc_X12_through_11 hp2)⟩, (fun _ h => absurd h List.not_mem_nil)⟩)) (G33847.f (vc_X12_through_1 hp2) (List.forall_mem_cons.mpr ⟨(vc_X12_through_67 hp2), (fun _ h => absurd h List.not_mem_nil)⟩) (G33834.f (vc_X12_through_1 hp2) (List.forall_mem_cons.mpr ⟨(vc_X12_through_67 hp2), (fun _ h => absurd h List.not_mem_nil)⟩) (G33821.f (vc_X12_through_1 hp2) (List.forall_mem_cons.mpr ⟨(vc_X12_through_67 hp2), (fun _ h => absurd h List.not_mem_nil)⟩) (G33807.f (vc_X12_through_1 hp2) (List.forall_mem_cons.mpr ⟨(vc_X12_through_67 hp2), (fun _ h => absurd h List.not_mem_nil)⟩) (u33786.f (Or.inl (mAt.ne (A_153 hw) (A_126 hw) rfl)) q31909))))) (rW (c := 0) (d := 12) h31915 rfl) (rW (c := 0) (d := 500) (rAdd (e := 1) (f := 500) h33790 (rR (x := 1)) rfl) rfl) (rW (c := (-1)) (d := 30) h33776 rfl) (vc_X12_through_12 hq2 h31904 h3 h31912) I33848 (lvOK.pred (lvOK.keep I33788 hw ((mF.call (mF.call (mF.call (mF.call mF.refl F33806 rfl) F33820 rfl) F33833 rfl) F33846 rfl) : mF [126999] w μ33785 μ33844) rfl) (vc_X12_through_26 h31913 h31919 hq3 ht_f_pol hp1 h31915 h31918)) (Or.inr (F33846.f (A_152 hw) rfl (F33833.f (A_152 hw) rfl (F33820.f (A_152 hw) rfl (F33806.f (A_152 hw) rfl (u33786.f (Or.inl (mAt.ne (A_153 hw) (A_152 hw) rfl)) q31921)))))) (vc_X12_through_68 (nS h31908) h31913 h31919 h31929 h31929.1 h31931 h33789 hq3 h31900 ht_f_pol hp1 h33790 h31915 h31918 h33776 h31925)
                          have h33865 : 28 ≤ z33791 ∧ z33791 ≤ 28 := (vc_X12_through_69 h33864 h33794 h33795 h33850 h33793)
                          refine sv_aload_n (pc := 493) dX12_through_493 rfl rfl ?_
                          refine gf_X12_67 (pc := 494) dX12_through_494 wF_X12_388 (A_106 hw) T33845 ?_
                          refine mr_iload (pc := 497) (z := z31895) dX12_through_497 rfl ?_
                          refine sv_aload_n (pc := 499) dX12_through_499 rfl rfl ?_
                          refine gf_X12_54 (pc := 500) dX12_through_500 wF_X12_352 (A_106 hw) T33845 ?_
                          refine mr_iload (pc := 503) (z := ((300 * z31916) + z33777)) dX12_through_503 rfl ?_
                          refine la_141 (pc := 505) dX12_through_505 (A_141 hw) T33845 (rIx (n := 3900) (rAdd (e := 0) (f := 3600) (rMulL (n := 300) (e := 0) (f := 3300) h31918 rfl) h33779 rfl) rfl) fun z33866 q33867 h33868 => ?_
                          have h33869 : 0 ≤ z33866 ∧ z33866 < z31916 := PK.call I33848 (vc_X12_through_22 hq3 h31919 h17636 h31913 ht_f_pol hp1 h31915 h31918) (F33846.f (A_106 hw) rfl (F33833.f (A_106 hw) rfl (F33820.f (A_106 hw) rfl (F33806.f (A_106 hw) rfl (u33786.f (Or.inl (mAt.ne (A_153 hw) (A_106 hw) rfl)) (F31902.f (A_106 hw) rfl (u17644.f (Or.inl (mAt.ne (A_153 hw) (A_106 hw) rfl)) (u17641.f (Or.inl (mAt.ne (A_152 hw) (A_106 hw) rfl)) (u17638.f (Or.inl (mAt.ne (A_151 hw) (A_106 hw) rfl)) q_f_pol))))))))) (a := (((300 * z31916) + z33777) - (300 * z31916))) (vc_X12_through_70 h31919 h33783 h33784 hq3 h31913 ht_f_pol hp1 h31915 h31918 h31928 h33779 h33782) (F33846.f (A_131 hw) rfl (F33833.f (A_131 hw) rfl (F33820.f (A_131 hw) rfl (F33806.f (A_131 hw) rfl (u33786.f (Or.inl (mAt.ne (A_153 hw) (A_131 hw) rfl)) q31927))))) (vc_X12_through_71 h31919 h33783 h33784 hq3 h31913 ht_f_pol hp1 h31915 h31918 h31928 h33779 h33782) (F33846.f (A_140 hw) rfl (F33833.f (A_140 hw) rfl (F33820.f (A_140 hw) rfl (F33806.f (A_140 hw) rfl q33792)))) (vc_X12_through_72 h33794 h33795 h33850 h33864 h33865) q33867
                          have h33870 : 0 ≤ z33866 ∧ z33866 ≤ 10 := (vc_X12_through_73 h33869 h31919 ht_f_pol h31915 h31918 h33868)
                          refine ss_151 (pc := 506) dX12_through_506 (A_151 hw) T33845 (rIx (n := 14) h31915 rfl) (rW (c := 0) (d := 11) h33870 rfl) fun μ33871 u33872 T33873 => ?_
                          refine sv_aload_n (pc := 507) dX12_through_507 rfl rfl ?_
                          refine gf_X12_68 (pc := 508) dX12_through_508 wF_X12_391 (A_106 hw) T33873 ?_
                          refine mr_iload (pc := 511) (z := z31895) dX12_through_511 rfl ?_
                          refine mr_iconst (pc := 513) (z := (-1)) dX12_through_513 ?_
                          refine ss_152 (pc := 514) dX12_through_514 (A_152 hw) T33873 (rIx (n := 14) h31915 rfl) (rW (c := (-1)) (d := 30) (rR (x := (-1))) rfl) fun μ33874 u33875 T33876 => ?_
                          refine sv_aload_n (pc := 515) dX12_through_515 rfl rfl ?_
                          refine gf_X12_69 (pc := 516) dX12_through_516 wF_X12_394 (A_106 hw) T33876 ?_
                          refine mr_iload (pc := 519) (z := z31895) dX12_through_519 rfl ?_
                          refine mr_iconst (pc := 521) (z := 0) dX12_through_521 ?_
                          refine ss_153 (pc := 522) dX12_through_522 (A_153 hw) T33876 (rIx (n := 14) h31915 rfl) (rW (c := 0) (d := 300) (rR (x := 0)) rfl) fun μ33877 u33878 T33879 => ?_
                          obtain ⟨z33880, q33881⟩ : ∃ z, μ33877 127 (z33866.toNat) = z := ⟨_, rfl⟩
                          have h33882 : (0 ≤ z33880 ∧ z33880 ≤ 30) := by rw [← q33881]; exact T33879 127 127 (A_127 hw) (z33866.toNat)
                          have I33883 : lvOK μ33877 (z31895 + 1) := lvOK.push (lvOK.keep I33788 hw ((mF.call (mF.call (mF.call (mF.call mF.refl F33806 rfl) F33820 rfl) F33833 rfl) F33846 rfl) : mF [126999] w μ33785 _) rfl) (vc_X12_through_74 h31913 h31919 hq3 h33869 ht_f_pol hp1 h31915 h31918 h33870) u33872 u33875 u33878 (u33878.f (Or.inl (mAt.ne (A_153 hw) (A_106 hw) rfl)) (u33875.f (Or.inl (mAt.ne (A_152 hw) (A_106 hw) rfl)) (u33872.f (Or.inl (mAt.ne (A_151 hw) (A_106 hw) rfl)) (F33846.f (A_106 hw) rfl (F33833.f (A_106 hw) rfl (F33820.f (A_106 hw) rfl (F33806.f (A_106 hw) rfl (u33786.f (Or.inl (mAt.ne (A_153 hw) (A_106 hw) rfl)) (F31902.f (A_106 hw) rfl (u17644.f (Or.inl (mAt.ne (A_153 hw) (A_106 hw) rfl)) (u17641.f (Or.inl (mAt.ne (A_152 hw) (A_106 hw) rfl)) (u17638.f (Or.inl (mAt.ne (A_151 hw) (A_106 hw) rfl)) q_f_pol)))))))))))) (vc_X12_through_75 hq3 h31913 h31919 h33869 h17636 ht_f_pol hp1 h31915 h31918 h33870) q33881 (vc_X12_through_76 h33882)
                          refine mr_iinc (pc := 523) (lv' := [(5, iv (z31895 + 1)), (0, .ref 106), (2, iv p2), (3, iv p3), (4, iv p4), (6, iv (z31894 + 1)), (10, iv ((300 * z31916) + z33777)), (11, iv z33791)]) dX12_through_523 rfl (by decide) rfl ?_
                          refine sv_goto (pc := 526) (tgt := 35) dX12_through_526 (by decide) ?_
                          refine mr_lvS (lv' := [(0, .ref 106), (2, iv p2), (3, iv p3), (4, iv p4), (5, iv (z31895 + 1)), (6, iv (z31894 + 1))]) (List.forall_mem_cons.mpr ⟨rfl, List.forall_mem_cons.mpr ⟨rfl, List.forall_mem_cons.mpr ⟨rfl, List.forall_mem_cons.mpr ⟨rfl, List.forall_mem_cons.mpr ⟨rfl, List.forall_mem_cons.mpr ⟨rfl, fun _ h => absurd h List.not_mem_nil⟩⟩⟩⟩⟩⟩) ?_
                          exact ih31910 (z31895 + 1) (z31894 + 1) (-1) μ33877 f_y T33879 (mF.up (mF.up (mF.up (mF.call (mF.call (mF.call (mF.call (mF.up (mF.call mF.refl F31902 rfl) (A_153 hw) u33786 rfl) F33806 rfl) F33820 rfl) F33833 rfl) F33846 rfl) (A_151 hw) u33872 rfl) (A_152 hw) u33875 rfl) (A_153 hw) u33878 rfl) (mG.upO (mG.upO (mG.upO (mG.call (mG.call (mG.call (mG.call (mG.upO (mG.call mG.refl G31903 (List.forall_mem_cons.mpr ⟨⟨_, List.mem_cons_self, (vc_X12_through_11 hp2)⟩, (fun _ h => absurd h List.not_mem_nil)⟩)) u33786 rfl) G33807 (List.forall_mem_cons.mpr ⟨⟨_, List.mem_cons_self, (vc_X12_through_11 hp2)⟩, (fun _ h => absurd h List.not_mem_nil)⟩)) G33821 (List.forall_mem_cons.mpr ⟨⟨_, List.mem_cons_self, (vc_X12_through_11 hp2)⟩, (fun _ h => absurd h List.not_mem_nil)⟩)) G33834 (List.forall_mem_cons.mpr ⟨⟨_, List.mem_cons_self, (vc_X12_through_11 hp2)⟩, (fun _ h => absurd h List.not_mem_nil)⟩)) G33847 (List.forall_mem_cons.mpr ⟨⟨_, List.mem_cons_self, (vc_X12_through_11 hp2)⟩, (fun _ h => absurd h List.not_mem_nil)⟩)) u33872 rfl) u33875 rfl) u33878 rfl) (u33878.f (Or.inl (mAt.ne (A_153 hw) (A_126 hw) rfl)) (u33875.f (Or.inl (mAt.ne (A_152 hw) (A_126 hw) rfl)) (u33872.f (Or.inl (mAt.ne (A_151 hw) (A_126 hw) rfl)) (G33847.f (vc_X12_through_1 hp2) (List.forall_mem_cons.mpr ⟨(vc_X12_through_67 hp2), (fun _ h => absurd h List.not_mem_nil)⟩) (G33834.f (vc_X12_through_1 hp2) (List.forall_mem_cons.mpr ⟨(vc_X12_through_67 hp2), (fun _ h => absurd h List.not_mem_nil)⟩) (G33821.f (vc_X12_through_1 hp2) (List.forall_mem_cons.mpr ⟨(vc_X12_through_67 hp2), (fun _ h => absurd h List.not_mem_nil)⟩) (G33807.f (vc_X12_through_1 hp2) (List.forall_mem_cons.mpr ⟨(vc_X12_through_67 hp2), (fun _ h => absurd h List.not_mem_nil)⟩) (u33786.f (Or.inl (mAt.ne (A_153 hw) (A_126 hw) rfl)) q31909)))))))) (vc_X12_through_78 h31913 h31919 hq3 h33869 ht_f_pol hp1 h31915 h31918 h33870) (rW (c := 0) (d := 500) (rAdd (e := 1) (f := 500) h33790 (rR (x := 1)) rfl) rfl) (rW (c := (-1)) (d := 30) (rR (x := (-1))) rfl) (vc_X12_through_12 hq2 h31904 h3 h31912) (PK.keep I33848 hw ((mF.up (mF.up (mF.up mF.refl (A_151 hw) u33872 rfl) (A_152 hw) u33875 rfl) (A_153 hw) u33878 rfl) : mF [151999, 152999, 153999] w μ33844 μ33877) rfl) (lvOK.pred I33883 (vc_X12_through_80 h31913 h31919 hq3 h33869 ht_f_pol hp1 h31915 h31918 h33870)) (Or.inr (eqIx (vc_X12_through_77 h31915) (u33878.f (Or.inl (mAt.ne (A_153 hw) (A_152 hw) rfl)) u33875.1))) (vc_X12_through_79 (nS h31908) h31913 h31919 h31929 h33789 hq3 h31929.1 h31931 h33869 h31900 ht_f_pol hp1 h33790 h31915 h31918 h33776 h31925 h33870)
                        have h33884 : 27 ≤ z33791 ∧ z33791 ≤ 27 := (vc_X12_through_81 h33850 h33794 h33795 h33793)
                        refine sv_aload_n (pc := 403) dX12_through_403 rfl rfl ?_
                        refine gf_X12_32 (pc := 404) dX12_through_404 wF_X12_148 (A_106 hw) T33845 ?_
                        refine mr_bipush (pc := 407) (z := 40) dX12_through_407 (by decide) ?_
                        refine mr_iload_n (pc := 409) (z := p2) dX12_through_409 rfl rfl ?_
                        refine mr_imul (pc := 410) (x := 40) (y := p2) dX12_through_410 ?_
                        refine mr_iconst (pc := 411) (z := 4) dX12_through_411 ?_
                        refine mr_iadd (pc := 412) (x := (40 * p2)) (y := 4) dX12_through_412 ?_
                        refine la_126 (pc := 413) dX12_through_413 (A_126 hw) T33845 (rIx (n := 84000) (rAdd (e := 4) (f := 83964) (rMulL (n := 40) (e := 0) (f := 83960) hp2 rfl) (rR (x := 4)) rfl) rfl) fun z33885 q33886 h33887 => ?_
                        have h33888 : 0 ≤ z33885 ∧ z33885 ≤ 20 := h33887.2.2.1 (vc_X12_through_82 hp2)
                        refine mr_if_le (pc := 414) (tgt := 486) dX12_through_414 (by decide) (r32 h33888 rfl) (fun h33889 => ?_) (fun h33889 => ?_)
                        · have h33890 : 0 ≤ z33885 ∧ z33885 ≤ 0 := (vc_X12_through_83 h33889 h33888)
                          refine mr_iload (pc := 486) (z := z33791) dX12_through_486 rfl ?_
                          refine mr_bipush (pc := 488) (z := 28) dX12_through_488 (by decide) ?_
                          refine mr_icmp_ne (pc := 490) (tgt := 526) dX12_through_490 (by decide) (r32 h33884 rfl) (r32 (rR (x := 28)) rfl) (fun _ => ?_) (fun h => ((vc_X12_through_84 h h33884)).elim)
                          refine sv_goto (pc := 526) (tgt := 35) dX12_through_526 (by decide) ?_
                          refine mr_lvS (lv' := [(0, .ref 106), (2, iv p2), (3, iv p3), (4, iv p4), (5, iv z31895), (6, iv (z31894 + 1))]) (List.forall_mem_cons.mpr ⟨rfl, List.forall_mem_cons.mpr ⟨rfl, List.forall_mem_cons.mpr ⟨rfl, List.forall_mem_cons.mpr ⟨rfl, List.forall_mem_cons.mpr ⟨rfl, List.forall_mem_cons.mpr ⟨rfl, fun _ h => absurd h List.not_mem_nil⟩⟩⟩⟩⟩⟩) ?_
                          exact ih31910 z31895 (z31894 + 1) z31920 μ33844 f_y T33845 (mF.call (mF.call (mF.call (mF.call (mF.up (mF.call mF.refl F31902 rfl) (A_153 hw) u33786 rfl) F33806 rfl) F33820 rfl) F33833 rfl) F33846 rfl) (mG.call (mG.call (mG.call (mG.call (mG.upO (mG.call mG.refl G31903 (List.forall_mem_cons.mpr ⟨⟨_, List.mem_cons_self, (vc_X12_through_11 hp2)⟩, (fun _ h => absurd h List.not_mem_nil)⟩)) u33786 rfl) G33807 (List.forall_mem_cons.mpr ⟨⟨_, List.mem_cons_self, (vc_X12_through_11 hp2)⟩, (fun _ h => absurd h List.not_mem_nil)⟩)) G33821 (List.forall_mem_cons.mpr ⟨⟨_, List.mem_cons_self, (vc_X12_through_11 hp2)⟩, (fun _ h => absurd h List.not_mem_nil)⟩)) G33834 (List.forall_mem_cons.mpr ⟨⟨_, List.mem_cons_self, (vc_X12_through_11 hp2)⟩, (fun _ h => absurd h List.not_mem_nil)⟩)) G33847 (List.forall_mem_cons.mpr ⟨⟨_, List.mem_cons_self, (vc_X12_through_11 hp2)⟩, (fun _ h => absurd h List.not_mem_nil)⟩)) (G33847.f (vc_X12_through_1 hp2) (List.forall_mem_cons.mpr ⟨(vc_X12_through_67 hp2), (fun _ h => absurd h List.not_mem_nil)⟩) (G33834.f (vc_X12_through_1 hp2) (List.forall_mem_cons.mpr ⟨(vc_X12_through_67 hp2), (fun _ h => absurd h List.not_mem_nil)⟩) (G33821.f (vc_X12_through_1 hp2) (List.forall_mem_cons.mpr ⟨(vc_X12_through_67 hp2), (fun _ h => absurd h List.not_mem_nil)⟩) (G33807.f (vc_X12_through_1 hp2) (List.forall_mem_cons.mpr ⟨(vc_X12_through_67 hp2), (fun _ h => absurd h List.not_mem_nil)⟩) (u33786.f (Or.inl (mAt.ne (A_153 hw) (A_126 hw) rfl)) q31909))))) (rW (c := 0) (d := 12) h31915 rfl) (rW (c := 0) (d := 500) (rAdd (e := 1) (f := 500) h33790 (rR (x := 1)) rfl) rfl) (rW (c := (-1)) (d := 30) h33776 rfl) (vc_X12_through_12 hq2 h31904 h3 h31912) I33848 (lvOK.pred (lvOK.keep I33788 hw ((mF.call (mF.call (mF.call (mF.call mF.refl F33806 rfl) F33820 rfl) F33833 rfl) F33846 rfl) : mF [126999] w μ33785 μ33844) rfl) (vc_X12_through_26 h31913 h31919 hq3 ht_f_pol hp1 h31915 h31918)) (Or.inr (F33846.f (A_152 hw) rfl (F33833.f (A_152 hw) rfl (F33820.f (A_152 hw) rfl (F33806.f (A_152 hw) rfl (u33786.f (Or.inl (mAt.ne (A_153 hw) (A_152 hw) rfl)) q31921)))))) (vc_X12_through_68 (nS h31908) h31913 h31919 h31929 h31929.1 h31931 h33789 hq3 h31900 ht_f_pol hp1 h33790 h31915 h31918 h33776 h31925)
                        have h33891 : 1 ≤ z33885 ∧ z33885 ≤ 20 := (vc_X12_through_85 h33889 h33888)
                        refine sv_aload_n (pc := 417) dX12_through_417 rfl rfl ?_
                        refine gf_X12_32 (pc := 418) dX12_through_418 wF_X12_148 (A_106 hw) T33845 ?_
                        refine mr_bipush (pc := 421) (z := 40) dX12_through_421 (by decide) ?_
                        refine mr_iload_n (pc := 423) (z := p2) dX12_through_423 rfl rfl ?_
                        refine mr_imul (pc := 424) (x := 40) (y := p2) dX12_through_424 ?_
                        refine mr_bipush (pc := 425) (z := 6) dX12_through_425 (by decide) ?_
                        refine mr_iadd (pc := 427) (x := (40 * p2)) (y := 6) dX12_through_427 ?_
                        refine la_126 (pc := 428) dX12_through_428 (A_126 hw) T33845 (rIx (n := 84000) (rAdd (e := 6) (f := 83966) (rMulL (n := 40) (e := 0) (f := 83960) hp2 rfl) (rR (x := 6)) rfl) rfl) fun z33892 q33893 h33894 => ?_
                        refine mr_istore (pc := 429) (lv' := [(12, iv z33892), (0, .ref 106), (2, iv p2), (3, iv p3), (4, iv p4), (5, iv z31895), (6, iv (z31894 + 1)), (10, iv ((300 * z31916) + z33777)), (11, iv z33791)]) dX12_through_429 (by decide) rfl ?_
                        refine sv_aload_n (pc := 431) dX12_through_431 rfl rfl ?_
                        refine gf_X12_32 (pc := 432) dX12_through_432 wF_X12_148 (A_106 hw) T33845 ?_
                        refine mr_bipush (pc := 435) (z := 40) dX12_through_435 (by decide) ?_
                        refine mr_iload_n (pc := 437) (z := p2) dX12_through_437 rfl rfl ?_
                        refine mr_imul (pc := 438) (x := 40) (y := p2) dX12_through_438 ?_
                        refine mr_iconst (pc := 439) (z := 4) dX12_through_439 ?_
                        refine mr_iadd (pc := 440) (x := (40 * p2)) (y := 4) dX12_through_440 ?_
                        refine lk_126 (pc := 441) dX12_through_441 (A_126 hw) (rIx (n := 84000) (rAdd (e := 4) (f := 83964) (rMulL (n := 40) (e := 0) (f := 83960) hp2 rfl) (rR (x := 4)) rfl) rfl) q33886 ?_
                        refine sv_aload_n (pc := 442) dX12_through_442 rfl rfl ?_
                        refine gf_X12_54 (pc := 443) dX12_through_443 wF_X12_352 (A_106 hw) T33845 ?_
                        refine mr_iload (pc := 446) (z := ((300 * z31916) + z33777)) dX12_through_446 rfl ?_
                        refine la_141 (pc := 448) dX12_through_448 (A_141 hw) T33845 (rIx (n := 3900) (rAdd (e := 0) (f := 3600) (rMulL (n := 300) (e := 0) (f := 3300) h31918 rfl) h33779 rfl) rfl) fun z33895 q33896 h33897 => ?_
                        refine mr_iadd (pc := 449) (x := z33885) (y := z33895) dX12_through_449 ?_
                        refine mr_wrap fun z33898 h33899 => ?_
                        refine mr_bipush (pc := 450) (z := 20) dX12_through_450 (by decide) ?_
                        refine mr_icmp_le (pc := 452) (tgt := 457) dX12_through_452 (by decide) h33899 (r32 (rR (x := 20)) rfl) (fun h33900 => ?_) (fun h33900 => ?_)
                        · have h33901 : (-2147483648) ≤ z33898 ∧ z33898 ≤ 20 := (vc_X12_through_86 h33900 h33899)
                          refine mr_iconst (pc := 457) (z := 0) dX12_through_457 ?_
                          refine mr_istore (pc := 458) (lv' := [(13, iv 0), (12, iv z33892), (0, .ref 106), (2, iv p2), (3, iv p3), (4, iv p4), (5, iv z31895), (6, iv (z31894 + 1)), (10, iv ((300 * z31916) + z33777)), (11, iv z33791)]) dX12_through_458 (by decide) rfl ?_
                          have L34264 : ∀ (nL34264 : Nat) (z34262 : Int) (μ34263 : mM), mT w μ34263 → mF [126999] w μ33844 μ34263 → mG [(((40 * p2) + 1), ((40 * p2) + 40))] μ33844 μ34263 → (0 ≤ z34262 ∧ z34262 ≤ 2147483647) → PK μ34263 → ((z33895 - z34262) + 4294967296) < (nL34264 : Int) → sV (gG l D c H0 sa) mX12_through (sRm 6 0 0) (sZ (gG l D c H0 sa) 0 0 (qI w [106026, 106027, 106028, 106029, 106030, 106031, 126999, 151999, 152999, 153999] μ (fun z μ1 => ∃ o_x : Int, μ1 126 ((40 * p2).toNat) = o_x ∧ (0 ≤ z ∧ z ≤ 1) ∧ mG [(((40 * p2) + 1), ((40 * p2) + 40))] μ μ1 ∧ (o_x = f_x) ∧ True))) 460 [(0, .ref 106), (2, iv p2), (3, iv p3), (4, iv p4), (5, iv z31895), (6, iv (z31894 + 1)), (10, iv ((300 * z31916) + z33777)), (11, iv z33791), (12, iv z33892), (13, iv z34262)] [] (mk w μ34263) 0 0 := by
                            intro nL34264
                            induction nL34264 with
                            | zero => intro z34262 μ34263 T34266 F34267 G34268 h34265 I34269 h34270; exact ((vc_X12_through_87 h34270 h33897 h34265)).elim
                            | succ nL34264 ih34271 =>
                              intro z34262 μ34263 T34266 F34267 G34268 h34265 I34269 h34270
                              refine mr_iload (pc := 460) (z := z34262) dX12_through_460 rfl ?_
                              refine sv_aload_n (pc := 462) dX12_through_462 rfl rfl ?_
                              refine gf_X12_54 (pc := 463) dX12_through_463 wF_X12_352 (A_106 hw) T34266 ?_
                              refine mr_iload (pc := 466) (z := ((300 * z31916) + z33777)) dX12_through_466 rfl ?_
                              refine lk_141 (pc := 468) dX12_through_468 (A_141 hw) (rIx (n := 3900) (rAdd (e := 0) (f := 3600) (rMulL (n := 300) (e := 0) (f := 3300) h31918 rfl) h33779 rfl) rfl) (F34267.f (A_141 hw) rfl q33896) ?_
                              refine mr_icmp_ge (pc := 469) (tgt := 486) dX12_through_469 (by decide) (r32 h34265 rfl) h33897 (fun h34279 => ?_) (fun h34279 => ?_)
                              · refine mr_iload (pc := 486) (z := z33791) dX12_through_486 rfl ?_
                                refine mr_bipush (pc := 488) (z := 28) dX12_through_488 (by decide) ?_
                                refine mr_icmp_ne (pc := 490) (tgt := 526) dX12_through_490 (by decide) (r32 h33884 rfl) (r32 (rR (x := 28)) rfl) (fun _ => ?_) (fun h => ((vc_X12_through_84 h h33884)).elim)
                                refine sv_goto (pc := 526) (tgt := 35) dX12_through_526 (by decide) ?_
                                refine mr_lvS (lv' := [(0, .ref 106), (2, iv p2), (3, iv p3), (4, iv p4), (5, iv z31895), (6, iv (z31894 + 1))]) (List.forall_mem_cons.mpr ⟨rfl, List.forall_mem_cons.mpr ⟨rfl, List.forall_mem_cons.mpr ⟨rfl, List.forall_mem_cons.mpr ⟨rfl, List.forall_mem_cons.mpr ⟨rfl, List.forall_mem_cons.mpr ⟨rfl, fun _ h => absurd h List.not_mem_nil⟩⟩⟩⟩⟩⟩) ?_
                                exact ih31910 z31895 (z31894 + 1) z31920 μ34263 f_y T34266 (mF.call (mF.call (mF.call (mF.call (mF.call (mF.up (mF.call mF.refl F31902 rfl) (A_153 hw) u33786 rfl) F33806 rfl) F33820 rfl) F33833 rfl) F33846 rfl) F34267 rfl) (mG.call (mG.call (mG.call (mG.call (mG.call (mG.upO (mG.call mG.refl G31903 (List.forall_mem_cons.mpr ⟨⟨_, List.mem_cons_self, (vc_X12_through_11 hp2)⟩, (fun _ h => absurd h List.not_mem_nil)⟩)) u33786 rfl) G33807 (List.forall_mem_cons.mpr ⟨⟨_, List.mem_cons_self, (vc_X12_through_11 hp2)⟩, (fun _ h => absurd h List.not_mem_nil)⟩)) G33821 (List.forall_mem_cons.mpr ⟨⟨_, List.mem_cons_self, (vc_X12_through_11 hp2)⟩, (fun _ h => absurd h List.not_mem_nil)⟩)) G33834 (List.forall_mem_cons.mpr ⟨⟨_, List.mem_cons_self, (vc_X12_through_11 hp2)⟩, (fun _ h => absurd h List.not_mem_nil)⟩)) G33847 (List.forall_mem_cons.mpr ⟨⟨_, List.mem_cons_self, (vc_X12_through_11 hp2)⟩, (fun _ h => absurd h List.not_mem_nil)⟩)) G34268 (List.forall_mem_cons.mpr ⟨⟨_, List.mem_cons_self, (vc_X12_through_11 hp2)⟩, (fun _ h => absurd h List.not_mem_nil)⟩)) (G34268.f (vc_X12_through_1 hp2) (List.forall_mem_cons.mpr ⟨(vc_X12_through_67 hp2), (fun _ h => absurd h List.not_mem_nil)⟩) (G33847.f (vc_X12_through_1 hp2) (List.forall_mem_cons.mpr ⟨(vc_X12_through_67 hp2), (fun _ h => absurd h List.not_mem_nil)⟩) (G33834.f (vc_X12_through_1 hp2) (List.forall_mem_cons.mpr ⟨(vc_X12_through_67 hp2), (fun _ h => absurd h List.not_mem_nil)⟩) (G33821.f (vc_X12_through_1 hp2) (List.forall_mem_cons.mpr ⟨(vc_X12_through_67 hp2), (fun _ h => absurd h List.not_mem_nil)⟩) (G33807.f (vc_X12_through_1 hp2) (List.forall_mem_cons.mpr ⟨(vc_X12_through_67 hp2), (fun _ h => absurd h List.not_mem_nil)⟩) (u33786.f (Or.inl (mAt.ne (A_153 hw) (A_126 hw) rfl)) q31909)))))) (rW (c := 0) (d := 12) h31915 rfl) (rW (c := 0) (d := 500) (rAdd (e := 1) (f := 500) h33790 (rR (x := 1)) rfl) rfl) (rW (c := (-1)) (d := 30) h33776 rfl) (vc_X12_through_12 hq2 h31904 h3 h31912) I34269 (lvOK.pred (lvOK.keep I33788 hw ((mF.call (mF.call (mF.call (mF.call (mF.call mF.refl F33806 rfl) F33820 rfl) F33833 rfl) F33846 rfl) F34267 rfl) : mF [126999] w μ33785 μ34263) rfl) (vc_X12_through_26 h31913 h31919 hq3 ht_f_pol hp1 h31915 h31918)) (Or.inr (F34267.f (A_152 hw) rfl (F33846.f (A_152 hw) rfl (F33833.f (A_152 hw) rfl (F33820.f (A_152 hw) rfl (F33806.f (A_152 hw) rfl (u33786.f (Or.inl (mAt.ne (A_153 hw) (A_152 hw) rfl)) q31921))))))) (vc_X12_through_68 (nS h31908) h31913 h31919 h31929 h31929.1 h31931 h33789 hq3 h31900 ht_f_pol hp1 h33790 h31915 h31918 h33776 h31925)
                              have h34280 : 0 ≤ z34262 ∧ z34262 ≤ 2147483646 := (vc_X12_through_88 h34279 h33897 h34265)
                              have h34281 : 1 ≤ z33895 ∧ z33895 ≤ 2147483647 := (vc_X12_through_89 h34279 h33897 h34280)
                              refine sv_aload_n (pc := 472) dX12_through_472 rfl rfl ?_
                              refine mr_iload_n (pc := 473) (z := p2) dX12_through_473 rfl rfl ?_
                              refine mr_iload (pc := 474) (z := z33892) dX12_through_474 rfl ?_
                              refine mr_cVI (pc := 476) (c_X12_front hw T34266 hp2 h33894.1) (gOk _ _ _ _ _) dX12_through_476 (tX12_front _ _ _ _ _) ⟨wV_X12_front, wL_X12_front⟩ wM_X12_408 (gCX12 _ _ _ _ _) rfl (A_106 hw) rfl ⟨le_t rfl, le_t rfl⟩ ⟨le_t rfl, le_t rfl⟩ rfl (le_t rfl) fun z34286 μ34282 T34283 F34284 h34285 => ?_
                              refine sv_pop (pc := 479) dX12_through_479 rfl ?_
                              refine mr_iinc (pc := 480) (lv' := [(13, iv (z34262 + 1)), (0, .ref 106), (2, iv p2), (3, iv p3), (4, iv p4), (5, iv z31895), (6, iv (z31894 + 1)), (10, iv ((300 * z31916) + z33777)), (11, iv z33791), (12, iv z33892)]) dX12_through_480 rfl (by decide) rfl ?_
                              refine sv_goto (pc := 483) (tgt := 460) dX12_through_483 (by decide) ?_
                              refine mr_lvS (lv' := [(0, .ref 106), (2, iv p2), (3, iv p3), (4, iv p4), (5, iv z31895), (6, iv (z31894 + 1)), (10, iv ((300 * z31916) + z33777)), (11, iv z33791), (12, iv z33892), (13, iv (z34262 + 1))]) (List.forall_mem_cons.mpr ⟨rfl, List.forall_mem_cons.mpr ⟨rfl, List.forall_mem_cons.mpr ⟨rfl, List.forall_mem_cons.mpr ⟨rfl, List.forall_mem_cons.mpr ⟨rfl, List.forall_mem_cons.mpr ⟨rfl, List.forall_mem_cons.mpr ⟨rfl, List.forall_mem_cons.mpr ⟨rfl, List.forall_mem_cons.mpr ⟨rfl, List.forall_mem_cons.mpr ⟨rfl, fun _ h => absurd h List.not_mem_nil⟩⟩⟩⟩⟩⟩⟩⟩⟩⟩) ?_
                              exact ih34271 (z34262 + 1) μ34282 T34283 (mF.call (mF.call mF.refl F34267 rfl) F34284 rfl) (mG.call (mG.call mG.refl G34268 (List.forall_mem_cons.mpr ⟨⟨_, List.mem_cons_self, (vc_X12_through_11 hp2)⟩, (fun _ h => absurd h List.not_mem_nil)⟩)) h34285.2.1 (List.forall_mem_cons.mpr ⟨⟨_, List.mem_cons_self, (vc_X12_through_11 hp2)⟩, (fun _ h => absurd h List.not_mem_nil)⟩)) (rW (c := 0) (d := 2147483647) (rAdd (e := 1) (f := 2147483647) h34280 (rR (x := 1)) rfl) rfl) (PK.keep I34269 hw ((mF.call mF.refl F34284 rfl) : mF [126999] w μ34263 μ34282) rfl) (vc_X12_through_90 (nS h34270) h34279 h34281 h34280)
                          refine mr_lvS (lv' := [(0, .ref 106), (2, iv p2), (3, iv p3), (4, iv p4), (5, iv z31895), (6, iv (z31894 + 1)), (10, iv ((300 * z31916) + z33777)), (11, iv z33791), (12, iv z33892), (13, iv 0)]) (List.forall_mem_cons.mpr ⟨rfl, List.forall_mem_cons.mpr ⟨rfl, List.forall_mem_cons.mpr ⟨rfl, List.forall_mem_cons.mpr ⟨rfl, List.forall_mem_cons.mpr ⟨rfl, List.forall_mem_cons.mpr ⟨rfl, List.forall_mem_cons.mpr ⟨rfl, List.forall_mem_cons.mpr ⟨rfl, List.forall_mem_cons.mpr ⟨rfl, List.forall_mem_cons.mpr ⟨rfl, fun _ h => absurd h List.not_mem_nil⟩⟩⟩⟩⟩⟩⟩⟩⟩⟩) ?_
                          exact L34264 6442450944 0 μ33844 T33845 mF.refl mG.refl (rW (c := 0) (d := 2147483647) (rR (x := 0)) rfl) I33848 (vc_X12_through_91 h33897)
                        have h34287 : 21 ≤ z33898 ∧ z33898 ≤ 2147483647 := (vc_X12_through_92 h33900 h33899)
                        refine mr_iconst (pc := 455) (z := 0) dX12_through_455 ?_
                        exact mr_zret dX12_through_456 rfl (rW (c := 0) (d := 1) (rR (x := 0)) rfl) (le_t rfl) (le_t rfl) T33845 (mF.call (mF.call (mF.call (mF.call (mF.up (mF.call (mF.up (mF.up (mF.up mF.refl (A_151 hw) u17638 rfl) (A_152 hw) u17641 rfl) (A_153 hw) u17644 rfl) F31902 rfl) (A_153 hw) u33786 rfl) F33806 rfl) F33820 rfl) F33833 rfl) F33846 rfl) ⟨f_y, (G33847.f (vc_X12_through_1 hp2) (List.forall_mem_cons.mpr ⟨(vc_X12_through_67 hp2), (fun _ h => absurd h List.not_mem_nil)⟩) (G33834.f (vc_X12_through_1 hp2) (List.forall_mem_cons.mpr ⟨(vc_X12_through_67 hp2), (fun _ h => absurd h List.not_mem_nil)⟩) (G33821.f (vc_X12_through_1 hp2) (List.forall_mem_cons.mpr ⟨(vc_X12_through_67 hp2), (fun _ h => absurd h List.not_mem_nil)⟩) (G33807.f (vc_X12_through_1 hp2) (List.forall_mem_cons.mpr ⟨(vc_X12_through_67 hp2), (fun _ h => absurd h List.not_mem_nil)⟩) (u33786.f (Or.inl (mAt.ne (A_153 hw) (A_126 hw) rfl)) q31909))))), (rW (c := 0) (d := 1) (rR (x := 0)) rfl), (mG.call (mG.call (mG.call (mG.call (mG.upO (mG.call (mG.upO (mG.upO (mG.upO mG.refl u17638 rfl) u17641 rfl) u17644 rfl) G31903 (List.forall_mem_cons.mpr ⟨⟨_, List.mem_cons_self, (vc_X12_through_11 hp2)⟩, (fun _ h => absurd h List.not_mem_nil)⟩)) u33786 rfl) G33807 (List.forall_mem_cons.mpr ⟨⟨_, List.mem_cons_self, (vc_X12_through_11 hp2)⟩, (fun _ h => absurd h List.not_mem_nil)⟩)) G33821 (List.forall_mem_cons.mpr ⟨⟨_, List.mem_cons_self, (vc_X12_through_11 hp2)⟩, (fun _ h => absurd h List.not_mem_nil)⟩)) G33834 (List.forall_mem_cons.mpr ⟨⟨_, List.mem_cons_self, (vc_X12_through_11 hp2)⟩, (fun _ h => absurd h List.not_mem_nil)⟩)) G33847 (List.forall_mem_cons.mpr ⟨⟨_, List.mem_cons_self, (vc_X12_through_11 hp2)⟩, (fun _ h => absurd h List.not_mem_nil)⟩)), (vc_X12_through_12 hq2 h31904 h3 h31912), trivial⟩
                      refine mr_icmp_ne (pc := 375) (tgt := 396) dX12_through_375 (by decide) h33793 (r32 (rR (x := 13)) rfl) (fun h34288 => ?_) (fun h34288 => ?_)
                      · exact J33849 μ33831 T33832 mF.refl mG.refl I33835
                      have h34289 : 13 ≤ z33791 ∧ z33791 ≤ 13 := (vc_X12_through_93 h34288 h33794 h33795 h33793)
                      refine sv_aload_n (pc := 378) dX12_through_378 rfl rfl ?_
                      refine gf_X12_32 (pc := 379) dX12_through_379 wF_X12_148 (A_106 hw) T33832 ?_
                      refine mr_bipush (pc := 382) (z := 40) dX12_through_382 (by decide) ?_
                      refine mr_iload_n (pc := 384) (z := p2) dX12_through_384 rfl rfl ?_
                      refine mr_imul (pc := 385) (x := 40) (y := p2) dX12_through_385 ?_
                      refine mr_iconst (pc := 386) (z := 3) dX12_through_386 ?_
                      refine mr_iadd (pc := 387) (x := (40 * p2)) (y := 3) dX12_through_387 ?_
                      refine sv_aload_n (pc := 388) dX12_through_388 rfl rfl ?_
                      refine gf_X12_54 (pc := 389) dX12_through_389 wF_X12_352 (A_106 hw) T33832 ?_
                      refine mr_iload (pc := 392) (z := ((300 * z31916) + z33777)) dX12_through_392 rfl ?_
                      refine la_141 (pc := 394) dX12_through_394 (A_141 hw) T33832 (rIx (n := 3900) (rAdd (e := 0) (f := 3600) (rMulL (n := 300) (e := 0) (f := 3300) h31918 rfl) h33779 rfl) rfl) fun z34290 q34291 h34292 => ?_
                      refine ss_126 (pc := 395) dX12_through_395 (A_126 hw) T33832 (rIx (n := 84000) (rAdd (e := 3) (f := 83963) (rMulL (n := 40) (e := 0) (f := 83960) hp2 rfl) (rR (x := 3)) rfl) rfl) (vc_X12_through_94 hp2 h34292) fun μ34293 u34294 T34295 => ?_
                      exact J33849 μ34293 T34295 (mF.up mF.refl (A_126 hw) u34294 rfl) (mG.up mG.refl u34294 List.mem_cons_self (vc_X12_through_95 hp2)) (PK.keep I33835 hw ((mF.up mF.refl (A_126 hw) u34294 rfl) : mF [126999] w μ33831 μ34293) rfl)
                    refine mr_icmp_ne (pc := 350) (tgt := 371) dX12_through_350 (by decide) h33793 (r32 (rR (x := 12)) rfl) (fun h34296 => ?_) (fun h34296 => ?_)
                    · exact J33836 μ33818 T33819 mF.refl mG.refl I33822
                    have h34297 : 12 ≤ z33791 ∧ z33791 ≤ 12 := (vc_X12_through_96 h34296 h33794 h33795 h33793)
                    refine sv_aload_n (pc := 353) dX12_through_353 rfl rfl ?_
                    refine gf_X12_32 (pc := 354) dX12_through_354 wF_X12_148 (A_106 hw) T33819 ?_
                    refine mr_bipush (pc := 357) (z := 40) dX12_through_357 (by decide) ?_
                    refine mr_iload_n (pc := 359) (z := p2) dX12_through_359 rfl rfl ?_
                    refine mr_imul (pc := 360) (x := 40) (y := p2) dX12_through_360 ?_
                    refine mr_iconst (pc := 361) (z := 1) dX12_through_361 ?_
                    refine mr_iadd (pc := 362) (x := (40 * p2)) (y := 1) dX12_through_362 ?_
                    refine sv_aload_n (pc := 363) dX12_through_363 rfl rfl ?_
                    refine gf_X12_54 (pc := 364) dX12_through_364 wF_X12_352 (A_106 hw) T33819 ?_
                    refine mr_iload (pc := 367) (z := ((300 * z31916) + z33777)) dX12_through_367 rfl ?_
                    refine la_141 (pc := 369) dX12_through_369 (A_141 hw) T33819 (rIx (n := 3900) (rAdd (e := 0) (f := 3600) (rMulL (n := 300) (e := 0) (f := 3300) h31918 rfl) h33779 rfl) rfl) fun z34298 q34299 h34300 => ?_
                    refine ss_126 (pc := 370) dX12_through_370 (A_126 hw) T33819 (rIx (n := 84000) (rAdd (e := 1) (f := 83961) (rMulL (n := 40) (e := 0) (f := 83960) hp2 rfl) (rR (x := 1)) rfl) rfl) (vc_X12_through_97 hp2 h34300) fun μ34301 u34302 T34303 => ?_
                    exact J33836 μ34301 T34303 (mF.up mF.refl (A_126 hw) u34302 rfl) (mG.up mG.refl u34302 List.mem_cons_self (vc_X12_through_98 hp2)) (PK.keep I33822 hw ((mF.up mF.refl (A_126 hw) u34302 rfl) : mF [126999] w μ33818 μ34301) rfl)
                  refine mr_icmp_ne (pc := 331) (tgt := 346) dX12_through_331 (by decide) h33793 (r32 (rR (x := 26)) rfl) (fun h34304 => ?_) (fun h34304 => ?_)
                  · exact J33823 μ33804 T33805 mF.refl mG.refl I33808
                  have h34305 : 26 ≤ z33791 ∧ z33791 ≤ 26 := (vc_X12_through_99 h34304 h33794 h33795 h33793)
                  refine sv_aload_n (pc := 334) dX12_through_334 rfl rfl ?_
                  refine mr_iload_n (pc := 335) (z := p2) dX12_through_335 rfl rfl ?_
                  refine sv_aload_n (pc := 336) dX12_through_336 rfl rfl ?_
                  refine gf_X12_54 (pc := 337) dX12_through_337 wF_X12_352 (A_106 hw) T33805 ?_
                  refine mr_iload (pc := 340) (z := ((300 * z31916) + z33777)) dX12_through_340 rfl ?_
                  refine la_141 (pc := 342) dX12_through_342 (A_141 hw) T33805 (rIx (n := 3900) (rAdd (e := 0) (f := 3600) (rMulL (n := 300) (e := 0) (f := 3300) h31918 rfl) h33779 rfl) rfl) fun z34306 q34307 h34308 => ?_
                  refine mr_cVV (pc := 343) (c_X12_dropMark hw T33805 hp2 h34308) (gOk _ _ _ _ _) dX12_through_343 (tX12_dropMark _ _ _ _ _) ⟨wV_X12_dropMark, wL_X12_dropMark⟩ wM_X12_405 (gCX12 _ _ _ _ _) rfl (A_106 hw) rfl ⟨le_t rfl, le_t rfl⟩ ⟨le_t rfl, le_t rfl⟩ rfl (le_t rfl) fun μ34309 T34310 F34311 h34312 => ?_
                  exact J33823 μ34309 T34310 (mF.call mF.refl F34311 rfl) (mG.call mG.refl h34312.1 (List.forall_mem_cons.mpr ⟨⟨_, List.mem_cons_self, (vc_X12_through_11 hp2)⟩, (fun _ h => absurd h List.not_mem_nil)⟩)) (PK.keep I33808 hw ((mF.call mF.refl F34311 rfl) : mF [126999] w μ33804 μ34309) rfl)
                refine mr_icmp_ne (pc := 312) (tgt := 327) dX12_through_312 (by decide) h33793 (r32 (rR (x := 25)) rfl) (fun h34313 => ?_) (fun h34313 => ?_)
                · refine mr_lvS (lv' := [(0, .ref 106), (2, iv p2), (3, iv p3), (4, iv p4), (5, iv z31895), (6, iv (z31894 + 1)), (10, iv ((300 * z31916) + z33777)), (11, iv z33791)]) (List.forall_mem_cons.mpr ⟨rfl, List.forall_mem_cons.mpr ⟨rfl, List.forall_mem_cons.mpr ⟨rfl, List.forall_mem_cons.mpr ⟨rfl, List.forall_mem_cons.mpr ⟨rfl, List.forall_mem_cons.mpr ⟨rfl, List.forall_mem_cons.mpr ⟨rfl, List.forall_mem_cons.mpr ⟨rfl, fun _ h => absurd h List.not_mem_nil⟩⟩⟩⟩⟩⟩⟩⟩) ?_
                  exact J33809 μ33785 T33787 mF.refl mG.refl (PK.keep I31905 hw ((mF.up mF.refl (A_153 hw) u33786 rfl) : mF [153999] w μ31896 μ33785) rfl)
                have h34314 : 25 ≤ z33791 ∧ z33791 ≤ 25 := (vc_X12_through_100 h34313 h33794 h33795 h33793)
                refine sv_aload_n (pc := 315) dX12_through_315 rfl rfl ?_
                refine mr_iload_n (pc := 316) (z := p2) dX12_through_316 rfl rfl ?_
                refine sv_aload_n (pc := 317) dX12_through_317 rfl rfl ?_
                refine gf_X12_54 (pc := 318) dX12_through_318 wF_X12_352 (A_106 hw) T33787 ?_
                refine mr_iload (pc := 321) (z := ((300 * z31916) + z33777)) dX12_through_321 rfl ?_
                refine la_141 (pc := 323) dX12_through_323 (A_141 hw) T33787 (rIx (n := 3900) (rAdd (e := 0) (f := 3600) (rMulL (n := 300) (e := 0) (f := 3300) h31918 rfl) h33779 rfl) rfl) fun z34315 q34316 h34317 => ?_
                refine mr_cVV (pc := 324) (c_X12_addMark hw T33787 hp2 h34317) (gOk _ _ _ _ _) dX12_through_324 (tX12_addMark _ _ _ _ _) ⟨wV_X12_addMark, wL_X12_addMark⟩ wM_X12_401 (gCX12 _ _ _ _ _) rfl (A_106 hw) rfl ⟨le_t rfl, le_t rfl⟩ ⟨le_t rfl, le_t rfl⟩ rfl (le_t rfl) fun μ34318 T34319 F34320 h34321 => ?_
                refine mr_lvS (lv' := [(0, .ref 106), (2, iv p2), (3, iv p3), (4, iv p4), (5, iv z31895), (6, iv (z31894 + 1)), (10, iv ((300 * z31916) + z33777)), (11, iv z33791)]) (List.forall_mem_cons.mpr ⟨rfl, List.forall_mem_cons.mpr ⟨rfl, List.forall_mem_cons.mpr ⟨rfl, List.forall_mem_cons.mpr ⟨rfl, List.forall_mem_cons.mpr ⟨rfl, List.forall_mem_cons.mpr ⟨rfl, List.forall_mem_cons.mpr ⟨rfl, List.forall_mem_cons.mpr ⟨rfl, fun _ h => absurd h List.not_mem_nil⟩⟩⟩⟩⟩⟩⟩⟩) ?_
                exact J33809 μ34318 T34319 (mF.call mF.refl F34320 rfl) (mG.call mG.refl h34321.1 (List.forall_mem_cons.mpr ⟨⟨_, List.mem_cons_self, (vc_X12_through_11 hp2)⟩, (fun _ h => absurd h List.not_mem_nil)⟩)) (PK.keep I31905 hw ((mF.call (mF.up mF.refl (A_153 hw) u33786 rfl) F34320 rfl) : mF [126999, 153999] w μ31896 μ34318) rfl)
              have h34322 : 24 ≤ z33791 ∧ z33791 ≤ 24 := (vc_X12_through_101 h33795 h33794 h33793)
              refine mr_iconst (pc := 306) (z := 0) dX12_through_306 ?_
              exact mr_zret dX12_through_307 rfl (rW (c := 0) (d := 1) (rR (x := 0)) rfl) (le_t rfl) (le_t rfl) T33787 (mF.up (mF.call (mF.up (mF.up (mF.up mF.refl (A_151 hw) u17638 rfl) (A_152 hw) u17641 rfl) (A_153 hw) u17644 rfl) F31902 rfl) (A_153 hw) u33786 rfl) ⟨f_y, (u33786.f (Or.inl (mAt.ne (A_153 hw) (A_126 hw) rfl)) q31909), (rW (c := 0) (d := 1) (rR (x := 0)) rfl), (mG.upO (mG.call (mG.upO (mG.upO (mG.upO mG.refl u17638 rfl) u17641 rfl) u17644 rfl) G31903 (List.forall_mem_cons.mpr ⟨⟨_, List.mem_cons_self, (vc_X12_through_11 hp2)⟩, (fun _ h => absurd h List.not_mem_nil)⟩)) u33786 rfl), (vc_X12_through_12 hq2 h31904 h3 h31912), trivial⟩
            have h34323 : 23 ≤ z33791 ∧ z33791 ≤ 23 := (vc_X12_through_102 h33794 h33793)
            refine mr_iconst (pc := 297) (z := 1) dX12_through_297 ?_
            exact mr_zret dX12_through_298 rfl (rW (c := 0) (d := 1) (rR (x := 1)) rfl) (le_t rfl) (le_t rfl) T33787 (mF.up (mF.call (mF.up (mF.up (mF.up mF.refl (A_151 hw) u17638 rfl) (A_152 hw) u17641 rfl) (A_153 hw) u17644 rfl) F31902 rfl) (A_153 hw) u33786 rfl) ⟨f_y, (u33786.f (Or.inl (mAt.ne (A_153 hw) (A_126 hw) rfl)) q31909), (rW (c := 0) (d := 1) (rR (x := 1)) rfl), (mG.upO (mG.call (mG.upO (mG.upO (mG.upO mG.refl u17638 rfl) u17641 rfl) u17644 rfl) G31903 (List.forall_mem_cons.mpr ⟨⟨_, List.mem_cons_self, (vc_X12_through_11 hp2)⟩, (fun _ h => absurd h List.not_mem_nil)⟩)) u33786 rfl), (vc_X12_through_12 hq2 h31904 h3 h31912), trivial⟩
          have h34324 : 500 ≤ z31894 ∧ z31894 ≤ 500 := (vc_X12_through_103 h33789 h31899)
          refine mr_iconst (pc := 279) (z := 0) dX12_through_279 ?_
          exact mr_zret dX12_through_280 rfl (rW (c := 0) (d := 1) (rR (x := 0)) rfl) (le_t rfl) (le_t rfl) T33787 (mF.up (mF.call (mF.up (mF.up (mF.up mF.refl (A_151 hw) u17638 rfl) (A_152 hw) u17641 rfl) (A_153 hw) u17644 rfl) F31902 rfl) (A_153 hw) u33786 rfl) ⟨f_y, (u33786.f (Or.inl (mAt.ne (A_153 hw) (A_126 hw) rfl)) q31909), (rW (c := 0) (d := 1) (rR (x := 0)) rfl), (mG.upO (mG.call (mG.upO (mG.upO (mG.upO mG.refl u17638 rfl) u17641 rfl) u17644 rfl) G31903 (List.forall_mem_cons.mpr ⟨⟨_, List.mem_cons_self, (vc_X12_through_11 hp2)⟩, (fun _ h => absurd h List.not_mem_nil)⟩)) u33786 rfl), (vc_X12_through_12 hq2 h31904 h3 h31912), trivial⟩
        refine mr_iinc (pc := 94) (lv' := [(9, iv (z31920 + 1)), (8, iv z31916), (7, iv (z31895 - 1)), (0, .ref 106), (2, iv p2), (3, iv p3), (4, iv p4), (5, iv z31895), (6, iv z31894)]) dX12_through_94 rfl (by decide) rfl ?_
        refine mr_iconst (pc := 97) (z := 0) dX12_through_97 ?_
        refine mr_istore (pc := 98) (lv' := [(10, iv 0), (9, iv (z31920 + 1)), (8, iv z31916), (7, iv (z31895 - 1)), (0, .ref 106), (2, iv p2), (3, iv p3), (4, iv p4), (5, iv z31895), (6, iv z31894)]) dX12_through_98 (by decide) rfl ?_
        have L34495 : ∀ (nL34495 : Nat) (z34493 z34492 : Int) (μ34494 : mM), mT w μ34494 → mF [106026, 106027, 106028, 106029, 106030, 106031] w μ31896 μ34494 → (1 ≤ z34493 ∧ z34493 ≤ 30) → (0 ≤ z34492 ∧ z34492 ≤ 1) → (z34492 = 0 ∨ z34493 < z31923) → (f_R < z34493) → PK μ34494 → (70 - ((2 * z34493) + z34492)) < (nL34495 : Int) → sV (gG l D c H0 sa) mX12_through (sRm 6 0 0) (sZ (gG l D c H0 sa) 0 0 (qI w [106026, 106027, 106028, 106029, 106030, 106031, 126999, 151999, 152999, 153999] μ (fun z μ1 => ∃ o_x : Int, μ1 126 ((40 * p2).toNat) = o_x ∧ (0 ≤ z ∧ z ≤ 1) ∧ mG [(((40 * p2) + 1), ((40 * p2) + 40))] μ μ1 ∧ (o_x = f_x) ∧ True))) 100 [(0, .ref 106), (2, iv p2), (3, iv p3), (4, iv p4), (5, iv z31895), (6, iv z31894), (7, iv (z31895 - 1)), (8, iv z31916), (9, iv z34493), (10, iv z34492)] [] (mk w μ34494) 0 0 := by
          intro nL34495
          induction nL34495 with
          | zero => intro z34493 z34492 μ34494 T34498 F34499 h34496 h34497 h34501 h34502 I34503 h34504; exact ((vc_X12_through_104 h34504 h34501 h34502 h31929 h31929.1 h31900 h33776 h31925 h34497 h34496)).elim
          | succ nL34495 ih34505 =>
            intro z34493 z34492 μ34494 T34498 F34499 h34496 h34497 h34501 h34502 I34503 h34504
            refine mr_iload (pc := 100) (z := z34493) dX12_through_100 rfl ?_
            refine sv_aload_n (pc := 102) dX12_through_102 rfl rfl ?_
            refine gf_X12_40 (pc := 103) dX12_through_103 wF_X12_358 (A_106 hw) T34498 ?_
            refine mr_iload (pc := 106) (z := z31916) dX12_through_106 rfl ?_
            refine lk_127 (pc := 108) dX12_through_108 (A_127 hw) (rIx (n := 13) h31918 rfl) (F34499.f (A_127 hw) rfl q31924) ?_
            have J34547 : sV (gG l D c H0 sa) mX12_through (sRm 6 0 0) (sZ (gG l D c H0 sa) 0 0 (qI w [106026, 106027, 106028, 106029, 106030, 106031, 126999, 151999, 152999, 153999] μ (fun z μ1 => ∃ o_x : Int, μ1 126 ((40 * p2).toNat) = o_x ∧ (0 ≤ z ∧ z ≤ 1) ∧ mG [(((40 * p2) + 1), ((40 * p2) + 40))] μ μ1 ∧ (o_x = f_x) ∧ True))) 198 [(0, .ref 106), (2, iv p2), (3, iv p3), (4, iv p4), (5, iv z31895), (6, iv z31894), (7, iv (z31895 - 1)), (8, iv z31916), (9, iv z34493), (10, iv z34492)] [] (mk w μ34494) 0 0 := by
              refine mr_iload (pc := 198) (z := z34492) dX12_through_198 rfl ?_
              refine mr_if_ne (pc := 200) (tgt := 209) dX12_through_200 (by decide) (r32 h34497 rfl) (fun h34548 => ?_) (fun h34548 => ?_)
              · have h34549 : 1 ≤ z34492 ∧ z34492 ≤ 1 := (vc_X12_through_105 h34548 h34501 h31925 h34497 h34496)
                refine sv_aload_n (pc := 209) dX12_through_209 rfl rfl ?_
                refine gf_X12_68 (pc := 210) dX12_through_210 wF_X12_391 (A_106 hw) T34498 ?_
                refine mr_iload (pc := 213) (z := (z31895 - 1)) dX12_through_213 rfl ?_
                refine mr_iload (pc := 215) (z := z34493) dX12_through_215 rfl ?_
                refine ss_152 (pc := 217) dX12_through_217 (A_152 hw) T34498 (rIx (n := 14) (rSub (e := 0) (f := 11) h31915 (rR (x := 1)) rfl) rfl) (rW (c := (-1)) (d := 30) h34496 rfl) fun μ34550 u34551 T34552 => ?_
                refine sv_aload_n (pc := 218) dX12_through_218 rfl rfl ?_
                refine gf_X12_69 (pc := 219) dX12_through_219 wF_X12_394 (A_106 hw) T34552 ?_
                refine mr_iload (pc := 222) (z := (z31895 - 1)) dX12_through_222 rfl ?_
                refine sv_aload_n (pc := 224) dX12_through_224 rfl rfl ?_
                refine gf_X12_42 (pc := 225) dX12_through_225 wF_X12_364 (A_106 hw) T34552 ?_
                refine mr_bipush (pc := 228) (z := 31) dX12_through_228 (by decide) ?_
                refine mr_iload (pc := 230) (z := z31916) dX12_through_230 rfl ?_
                refine mr_imul (pc := 232) (x := 31) (y := z31916) dX12_through_232 ?_
                refine mr_iload (pc := 233) (z := z34493) dX12_through_233 rfl ?_
                refine mr_iadd (pc := 235) (x := (31 * z31916)) (y := z34493) dX12_through_235 ?_
                refine la_129 (pc := 236) dX12_through_236 (A_129 hw) T34552 (rIx (n := 403) (rAdd (e := 1) (f := 371) (rMulL (n := 31) (e := 0) (f := 341) h31918 rfl) h34496 rfl) rfl) fun z34553 q34554 h34555 => ?_
                refine ss_153 (pc := 237) dX12_through_237 (A_153 hw) T34552 (rIx (n := 14) (rSub (e := 0) (f := 11) h31915 (rR (x := 1)) rfl) rfl) h34555 fun μ34556 u34557 T34558 => ?_
                have I34559 : lvOK μ34556 z31895 := lvOK.row (lvOK.keep R31906 hw ((mF.call mF.refl F34499 rfl) : mF [106026, 106027, 106028, 106029, 106030, 106031] w μ31896 _) rfl) (PK.keep I34503 hw ((mF.up (mF.up mF.refl (A_152 hw) u34551 rfl) (A_153 hw) u34557 rfl) : mF [152999, 153999] w μ34494 μ34556) rfl) (vc_X12_through_15 h31913 h31919 hq3 ht_f_pol hp1 h31915 h31918) u34551 u34557 (u34557.f (Or.inl (mAt.ne (A_153 hw) (A_151 hw) rfl)) (u34551.f (Or.inl (mAt.ne (A_152 hw) (A_151 hw) rfl)) (F34499.f (A_151 hw) rfl q31917))) (vc_X12_through_22 hq3 h31919 h17636 h31913 ht_f_pol hp1 h31915 h31918) (u34557.f (Or.inl (mAt.ne (A_153 hw) (A_106 hw) rfl)) (u34551.f (Or.inl (mAt.ne (A_152 hw) (A_106 hw) rfl)) (F34499.f (A_106 hw) rfl (F31902.f (A_106 hw) rfl (u17644.f (Or.inl (mAt.ne (A_153 hw) (A_106 hw) rfl)) (u17641.f (Or.inl (mAt.ne (A_152 hw) (A_106 hw) rfl)) (u17638.f (Or.inl (mAt.ne (A_151 hw) (A_106 hw) rfl)) q_f_pol))))))) (vc_X12_through_106 h31929 h31929.1 h34501 h34502 h31931 h34548 h31900 h33776 h31925 h34549 h34496) (u34557.f (Or.inl (mAt.ne (A_153 hw) (A_127 hw) rfl)) (u34551.f (Or.inl (mAt.ne (A_152 hw) (A_127 hw) rfl)) (F34499.f (A_127 hw) rfl q31924))) (vc_X12_through_107 h31919 h34501 h34502 hq3 h31913 h31929 h31929.1 h34548 h31900 ht_f_pol hp1 h31915 h31918 h33776 h31925 h34549 h34496) (u34557.f (Or.inl (mAt.ne (A_153 hw) (A_129 hw) rfl)) q34554)
                refine sv_goto (pc := 238) (tgt := 35) dX12_through_238 (by decide) ?_
                refine mr_lvS (lv' := [(0, .ref 106), (2, iv p2), (3, iv p3), (4, iv p4), (5, iv z31895), (6, iv z31894)]) (List.forall_mem_cons.mpr ⟨rfl, List.forall_mem_cons.mpr ⟨rfl, List.forall_mem_cons.mpr ⟨rfl, List.forall_mem_cons.mpr ⟨rfl, List.forall_mem_cons.mpr ⟨rfl, List.forall_mem_cons.mpr ⟨rfl, fun _ h => absurd h List.not_mem_nil⟩⟩⟩⟩⟩⟩) ?_
                exact ih31910 z31895 z31894 z34493 μ34556 f_y T34558 (mF.up (mF.up (mF.call (mF.call mF.refl F31902 rfl) F34499 rfl) (A_152 hw) u34551 rfl) (A_153 hw) u34557 rfl) (mG.upO (mG.upO (mG.fr (mG.call mG.refl G31903 (List.forall_mem_cons.mpr ⟨⟨_, List.mem_cons_self, (vc_X12_through_11 hp2)⟩, (fun _ h => absurd h List.not_mem_nil)⟩)) F34499 (A_126 hw) rfl) u34551 rfl) u34557 rfl) (u34557.f (Or.inl (mAt.ne (A_153 hw) (A_126 hw) rfl)) (u34551.f (Or.inl (mAt.ne (A_152 hw) (A_126 hw) rfl)) (F34499.f (A_126 hw) rfl q31909))) (rW (c := 0) (d := 12) h31915 rfl) h31899 (rW (c := (-1)) (d := 30) h34496 rfl) (vc_X12_through_12 hq2 h31904 h3 h31912) (PK.keep I34503 hw ((mF.up (mF.up mF.refl (A_152 hw) u34551 rfl) (A_153 hw) u34557 rfl) : mF [152999, 153999] w μ34494 μ34556) rfl) (lvOK.pred I34559 (vc_X12_through_26 h31913 h31919 hq3 ht_f_pol hp1 h31915 h31918)) (Or.inr (u34557.f (Or.inl (mAt.ne (A_153 hw) (A_152 hw) rfl)) u34551.1)) (vc_X12_through_108 (nS h31908) h31913 h31919 h31929 h34501 h34502 hq3 h31929.1 h31931 h34548 h31900 ht_f_pol hp1 h31899 h31915 h31918 h33776 h31925 h34549 h34496)
              have h34560 : 0 ≤ z34492 ∧ z34492 ≤ 0 := (vc_X12_through_109 h34548 h34501 h31925 h34497 h34496)
              refine mr_iinc (pc := 203) (lv' := [(5, iv (z31895 + (-1))), (0, .ref 106), (2, iv p2), (3, iv p3), (4, iv p4), (6, iv z31894), (7, iv (z31895 - 1)), (8, iv z31916), (9, iv z34493), (10, iv z34492)]) dX12_through_203 rfl (by decide) rfl ?_
              by_cases h34561 : (z31895 + (-1)) = 0
              · have h34562 : 1 ≤ z31895 ∧ z31895 ≤ 1 := (vc_X12_through_28 h34561 h31913 h31919 ht_f_pol h31915 h31918)
                refine sv_goto (pc := 206) (tgt := 35) dX12_through_206 (by decide) ?_
                refine mr_lvS (lv' := [(0, .ref 106), (2, iv p2), (3, iv p3), (4, iv p4), (5, iv (z31895 + (-1))), (6, iv z31894)]) (List.forall_mem_cons.mpr ⟨rfl, List.forall_mem_cons.mpr ⟨rfl, List.forall_mem_cons.mpr ⟨rfl, List.forall_mem_cons.mpr ⟨rfl, List.forall_mem_cons.mpr ⟨rfl, List.forall_mem_cons.mpr ⟨rfl, fun _ h => absurd h List.not_mem_nil⟩⟩⟩⟩⟩⟩) ?_
                exact ih31910 (z31895 + (-1)) z31894 0 μ34494 f_y T34498 (mF.call (mF.call mF.refl F31902 rfl) F34499 rfl) (mG.fr (mG.call mG.refl G31903 (List.forall_mem_cons.mpr ⟨⟨_, List.mem_cons_self, (vc_X12_through_11 hp2)⟩, (fun _ h => absurd h List.not_mem_nil)⟩)) F34499 (A_126 hw) rfl) (F34499.f (A_126 hw) rfl q31909) (rW (c := 0) (d := 12) (rAdd (e := 0) (f := 0) h34562 (rR (x := (-1))) rfl) rfl) h31899 (rW (c := (-1)) (d := 30) (rR (x := 0)) rfl) (vc_X12_through_12 hq2 h31904 h3 h31912) I34503 (lvOK.pred (lvOK.keep R31906 hw ((mF.call mF.refl F34499 rfl) : mF [106026, 106027, 106028, 106029, 106030, 106031] w μ31896 μ34494) rfl) (vc_X12_through_30 h31913 h31919 h34561 hq3 ht_f_pol hp1 h34562 h31918)) (Or.inl (vc_X12_through_31 h31913 h31919 h34561 hq3 ht_f_pol hp1 h34562 h31918)) (vc_X12_through_110 (nS h31908) h31913 h31919 h31929 h34502 h34561 hq3 h31929.1 h31931 h34501 h31900 ht_f_pol hp1 h31899 h34562 h31918 h33776 h31925 h34560 h34496)
              have h34563 : 2 ≤ z31895 ∧ z31895 ≤ 12 := (vc_X12_through_32 h34561 h31913 h31919 ht_f_pol h31915 h31918)
              refine sv_goto (pc := 206) (tgt := 35) dX12_through_206 (by decide) ?_
              obtain ⟨z34564, q34565⟩ : ∃ z, μ34494 152 (((z31895 + (-1)) - 1).toNat) = z := ⟨_, rfl⟩
              have h34566 : ((-1) ≤ z34564 ∧ z34564 ≤ 30) := by rw [← q34565]; exact T34498 152 152 (A_152 hw) (((z31895 + (-1)) - 1).toNat)
              refine mr_lvS (lv' := [(0, .ref 106), (2, iv p2), (3, iv p3), (4, iv p4), (5, iv (z31895 + (-1))), (6, iv z31894)]) (List.forall_mem_cons.mpr ⟨rfl, List.forall_mem_cons.mpr ⟨rfl, List.forall_mem_cons.mpr ⟨rfl, List.forall_mem_cons.mpr ⟨rfl, List.forall_mem_cons.mpr ⟨rfl, List.forall_mem_cons.mpr ⟨rfl, fun _ h => absurd h List.not_mem_nil⟩⟩⟩⟩⟩⟩) ?_
              exact ih31910 (z31895 + (-1)) z31894 z34564 μ34494 f_y T34498 (mF.call (mF.call mF.refl F31902 rfl) F34499 rfl) (mG.fr (mG.call mG.refl G31903 (List.forall_mem_cons.mpr ⟨⟨_, List.mem_cons_self, (vc_X12_through_11 hp2)⟩, (fun _ h => absurd h List.not_mem_nil)⟩)) F34499 (A_126 hw) rfl) (F34499.f (A_126 hw) rfl q31909) (rW (c := 0) (d := 12) (rAdd (e := 1) (f := 11) h34563 (rR (x := (-1))) rfl) rfl) h31899 h34566 (vc_X12_through_12 hq2 h31904 h3 h31912) I34503 (lvOK.pred (lvOK.keep R31906 hw ((mF.call mF.refl F34499 rfl) : mF [106026, 106027, 106028, 106029, 106030, 106031] w μ31896 μ34494) rfl) (vc_X12_through_34 h31913 h31919 h34561 hq3 ht_f_pol hp1 h34563 h31918)) (Or.inr q34565) (vc_X12_through_111 (nS h31908) h31913 h31919 h31929 h34502 h34561 hq3 h31929.1 h31931 h34501 h31900 ht_f_pol hp1 h31899 h34563 h31918 h33776 h31925 h34560 h34496 h34566)
            refine mr_icmp_ge (pc := 109) (tgt := 198) dX12_through_109 (by decide) (r32 h34496 rfl) (r32 h31925 rfl) (fun h34567 => ?_) (fun h34567 => ?_)
            · exact J34547 
            have h34568 : 1 ≤ z34493 ∧ z34493 ≤ 29 := (vc_X12_through_112 h34567 h31929 h31929.1 h34501 h34502 h31900 h33776 h31925 h34497 h34496)
            have h34569 : 2 ≤ z31923 ∧ z31923 ≤ 30 := (vc_X12_through_113 h34567 h31929 h31929.1 h34501 h34502 h31900 h33776 h31925 h34497 h34568)
            refine mr_iload (pc := 112) (z := z34492) dX12_through_112 rfl ?_
            refine mr_if_ne (pc := 114) (tgt := 198) dX12_through_114 (by decide) (r32 h34497 rfl) (fun h34570 => ?_) (fun h34570 => ?_)
            · have h34571 : 1 ≤ z34492 ∧ z34492 ≤ 1 := (vc_X12_through_114 h34570 h34501 h34569 h34497 h34568)
              exact J34547 
            have h34572 : 0 ≤ z34492 ∧ z34492 ≤ 0 := (vc_X12_through_115 h34570 h34501 h34569 h34497 h34568)
            refine mr_iconst (pc := 117) (z := 1) dX12_through_117 ?_
            refine mr_istore (pc := 118) (lv' := [(10, iv 1), (0, .ref 106), (2, iv p2), (3, iv p3), (4, iv p4), (5, iv z31895), (6, iv z31894), (7, iv (z31895 - 1)), (8, iv z31916), (9, iv z34493)]) dX12_through_118 (by decide) rfl ?_
            refine sv_aload_n (pc := 120) dX12_through_120 rfl rfl ?_
            refine gf_X12_41 (pc := 121) dX12_through_121 wF_X12_361 (A_106 hw) T34498 ?_
            refine mr_bipush (pc := 124) (z := 31) dX12_through_124 (by decide) ?_
            refine mr_iload (pc := 126) (z := z31916) dX12_through_126 rfl ?_
            refine mr_imul (pc := 128) (x := 31) (y := z31916) dX12_through_128 ?_
            refine mr_iload (pc := 129) (z := z34493) dX12_through_129 rfl ?_
            refine mr_iadd (pc := 131) (x := (31 * z31916)) (y := z34493) dX12_through_131 ?_
            refine la_128 (pc := 132) dX12_through_132 (A_128 hw) T34498 (rIx (n := 403) (rAdd (e := 1) (f := 370) (rMulL (n := 31) (e := 0) (f := 341) h31918 rfl) h34568 rfl) rfl) fun z34573 q34574 h34575 => ?_
            refine mr_istore (pc := 133) (lv' := [(11, iv z34573), (10, iv 1), (0, .ref 106), (2, iv p2), (3, iv p3), (4, iv p4), (5, iv z31895), (6, iv z31894), (7, iv (z31895 - 1)), (8, iv z31916), (9, iv z34493)]) dX12_through_133 (by decide) rfl ?_
            have L34626 : ∀ (nL34626 : Nat) (z34624 z34623 : Int) (μ34625 : mM), mT w μ34625 → mF [106026, 106027, 106028, 106029, 106030, 106031] w μ34494 μ34625 → (0 ≤ z34624 ∧ z34624 ≤ 1) → (0 ≤ z34623 ∧ z34623 ≤ 300) → PK μ34625 → (301 - z34623) < (nL34626 : Int) → sV (gG l D c H0 sa) mX12_through (sRm 6 0 0) (sZ (gG l D c H0 sa) 0 0 (qI w [106026, 106027, 106028, 106029, 106030, 106031, 126999, 151999, 152999, 153999] μ (fun z μ1 => ∃ o_x : Int, μ1 126 ((40 * p2).toNat) = o_x ∧ (0 ≤ z ∧ z ≤ 1) ∧ mG [(((40 * p2) + 1), ((40 * p2) + 40))] μ μ1 ∧ (o_x = f_x) ∧ True))) 135 [(0, .ref 106), (2, iv p2), (3, iv p3), (4, iv p4), (5, iv z31895), (6, iv z31894), (7, iv (z31895 - 1)), (8, iv z31916), (9, iv z34493), (10, iv z34624), (11, iv z34623)] [] (mk w μ34625) 0 0 := by
              intro nL34626
              induction nL34626 with
              | zero => intro z34624 z34623 μ34625 T34629 F34630 h34627 h34628 I34632 h34633; exact ((vc_X12_through_116 h34633 h34628)).elim
              | succ nL34626 ih34634 =>
                intro z34624 z34623 μ34625 T34629 F34630 h34627 h34628 I34632 h34633
                refine mr_iload (pc := 135) (z := z34623) dX12_through_135 rfl ?_
                refine sv_aload_n (pc := 137) dX12_through_137 rfl rfl ?_
                refine gf_X12_41 (pc := 138) dX12_through_138 wF_X12_361 (A_106 hw) T34629 ?_
                refine mr_bipush (pc := 141) (z := 31) dX12_through_141 (by decide) ?_
                refine mr_iload (pc := 143) (z := z31916) dX12_through_143 rfl ?_
                refine mr_imul (pc := 145) (x := 31) (y := z31916) dX12_through_145 ?_
                refine mr_iload (pc := 146) (z := z34493) dX12_through_146 rfl ?_
                refine mr_iadd (pc := 148) (x := (31 * z31916)) (y := z34493) dX12_through_148 ?_
                refine mr_iconst (pc := 149) (z := 1) dX12_through_149 ?_
                refine mr_iadd (pc := 150) (x := ((31 * z31916) + z34493)) (y := 1) dX12_through_150 ?_
                refine la_128 (pc := 151) dX12_through_151 (A_128 hw) T34629 (rIx (n := 403) (rAdd (e := 2) (f := 371) (rAdd (e := 1) (f := 370) (rMulL (n := 31) (e := 0) (f := 341) h31918 rfl) h34568 rfl) (rR (x := 1)) rfl) rfl) fun z34635 q34636 h34637 => ?_
                refine mr_icmp_ge (pc := 152) (tgt := 187) dX12_through_152 (by decide) (r32 h34628 rfl) (r32 h34637 rfl) (fun h34647 => ?_) (fun h34647 => ?_)
                · refine mr_iload (pc := 187) (z := z34624) dX12_through_187 rfl ?_
                  refine mr_if_ne (pc := 189) (tgt := 100) dX12_through_189 (by decide) (r32 h34627 rfl) (fun h34648 => ?_) (fun h34648 => ?_)
                  · have h34649 : 1 ≤ z34624 ∧ z34624 ≤ 1 := (vc_X12_through_117 h34648 h34627)
                    refine mr_lvS (lv' := [(0, .ref 106), (2, iv p2), (3, iv p3), (4, iv p4), (5, iv z31895), (6, iv z31894), (7, iv (z31895 - 1)), (8, iv z31916), (9, iv z34493), (10, iv z34624)]) (List.forall_mem_cons.mpr ⟨rfl, List.forall_mem_cons.mpr ⟨rfl, List.forall_mem_cons.mpr ⟨rfl, List.forall_mem_cons.mpr ⟨rfl, List.forall_mem_cons.mpr ⟨rfl, List.forall_mem_cons.mpr ⟨rfl, List.forall_mem_cons.mpr ⟨rfl, List.forall_mem_cons.mpr ⟨rfl, List.forall_mem_cons.mpr ⟨rfl, List.forall_mem_cons.mpr ⟨rfl, fun _ h => absurd h List.not_mem_nil⟩⟩⟩⟩⟩⟩⟩⟩⟩⟩) ?_
                    exact ih34505 z34493 z34624 μ34625 T34629 (mF.call (mF.call mF.refl F34499 rfl) F34630 rfl) (rW (c := 1) (d := 30) h34568 rfl) (rW (c := 0) (d := 1) h34649 rfl) (vc_X12_through_118 h31929 h31929.1 h34501 h34502 h34567 h34648 h31931 h34570 h31900 h33776 h34569 h34572 h34568 h34649) (vc_X12_through_119 h31929 h34501 h34502 h34567 h31929.1 h31931 h34570 h31900 h33776 h34569 h34572 h34568) I34632 (vc_X12_through_120 (nS h34504) h34501 h34502 h34567 h34570 h34648 h31929 h31929.1 h31900 h33776 h34569 h34572 h34568 h34649)
                  have h34650 : 0 ≤ z34624 ∧ z34624 ≤ 0 := (vc_X12_through_121 h34648 h34627)
                  refine mr_iinc (pc := 192) (lv' := [(9, iv (z34493 + 1)), (0, .ref 106), (2, iv p2), (3, iv p3), (4, iv p4), (5, iv z31895), (6, iv z31894), (7, iv (z31895 - 1)), (8, iv z31916), (10, iv z34624), (11, iv z34623)]) dX12_through_192 rfl (by decide) rfl ?_
                  refine sv_goto (pc := 195) (tgt := 100) dX12_through_195 (by decide) ?_
                  refine mr_lvS (lv' := [(0, .ref 106), (2, iv p2), (3, iv p3), (4, iv p4), (5, iv z31895), (6, iv z31894), (7, iv (z31895 - 1)), (8, iv z31916), (9, iv (z34493 + 1)), (10, iv z34624)]) (List.forall_mem_cons.mpr ⟨rfl, List.forall_mem_cons.mpr ⟨rfl, List.forall_mem_cons.mpr ⟨rfl, List.forall_mem_cons.mpr ⟨rfl, List.forall_mem_cons.mpr ⟨rfl, List.forall_mem_cons.mpr ⟨rfl, List.forall_mem_cons.mpr ⟨rfl, List.forall_mem_cons.mpr ⟨rfl, List.forall_mem_cons.mpr ⟨rfl, List.forall_mem_cons.mpr ⟨rfl, fun _ h => absurd h List.not_mem_nil⟩⟩⟩⟩⟩⟩⟩⟩⟩⟩) ?_
                  exact ih34505 (z34493 + 1) z34624 μ34625 T34629 (mF.call (mF.call mF.refl F34499 rfl) F34630 rfl) (rW (c := 1) (d := 30) (rAdd (e := 2) (f := 30) h34568 (rR (x := 1)) rfl) rfl) (rW (c := 0) (d := 1) h34650 rfl) (vc_X12_through_122 h31929 h31929.1 h34501 h34502 h34567 h34648 h31931 h34570 h31900 h33776 h34569 h34572 h34568 h34650) (vc_X12_through_123 h31929 h34501 h34502 h34567 h31929.1 h31931 h34570 h31900 h33776 h34569 h34572 h34568) I34632 (vc_X12_through_124 (nS h34504) h34501 h34502 h34567 h34570 h34648 h31929 h31929.1 h31900 h33776 h34569 h34572 h34568 h34650)
                have h34651 : 0 ≤ z34623 ∧ z34623 ≤ 299 := (vc_X12_through_125 h34647 h34628 h34637)
                have h34652 : 1 ≤ z34635 ∧ z34635 ≤ 300 := (vc_X12_through_126 h34647 h34651 h34637)
                refine mr_iload (pc := 155) (z := z34624) dX12_through_155 rfl ?_
                refine mr_if_eq (pc := 157) (tgt := 187) dX12_through_157 (by decide) (r32 h34627 rfl) (fun h34660 => ?_) (fun h34660 => ?_)
                · have h34661 : 0 ≤ z34624 ∧ z34624 ≤ 0 := (vc_X12_through_121 h34660 h34627)
                  refine mr_iload (pc := 187) (z := z34624) dX12_through_187 rfl ?_
                  refine mr_if_ne (pc := 189) (tgt := 100) dX12_through_189 (by decide) (r32 h34661 rfl) (fun h => ((vc_X12_through_127 h h34661)).elim) (fun _ => ?_)
                  refine mr_iinc (pc := 192) (lv' := [(9, iv (z34493 + 1)), (0, .ref 106), (2, iv p2), (3, iv p3), (4, iv p4), (5, iv z31895), (6, iv z31894), (7, iv (z31895 - 1)), (8, iv z31916), (10, iv z34624), (11, iv z34623)]) dX12_through_192 rfl (by decide) rfl ?_
                  refine sv_goto (pc := 195) (tgt := 100) dX12_through_195 (by decide) ?_
                  refine mr_lvS (lv' := [(0, .ref 106), (2, iv p2), (3, iv p3), (4, iv p4), (5, iv z31895), (6, iv z31894), (7, iv (z31895 - 1)), (8, iv z31916), (9, iv (z34493 + 1)), (10, iv z34624)]) (List.forall_mem_cons.mpr ⟨rfl, List.forall_mem_cons.mpr ⟨rfl, List.forall_mem_cons.mpr ⟨rfl, List.forall_mem_cons.mpr ⟨rfl, List.forall_mem_cons.mpr ⟨rfl, List.forall_mem_cons.mpr ⟨rfl, List.forall_mem_cons.mpr ⟨rfl, List.forall_mem_cons.mpr ⟨rfl, List.forall_mem_cons.mpr ⟨rfl, List.forall_mem_cons.mpr ⟨rfl, fun _ h => absurd h List.not_mem_nil⟩⟩⟩⟩⟩⟩⟩⟩⟩⟩) ?_
                  exact ih34505 (z34493 + 1) z34624 μ34625 T34629 (mF.call (mF.call mF.refl F34499 rfl) F34630 rfl) (rW (c := 1) (d := 30) (rAdd (e := 2) (f := 30) h34568 (rR (x := 1)) rfl) rfl) (rW (c := 0) (d := 1) h34661 rfl) (vc_X12_through_122 h31929 h31929.1 h34501 h34502 h34567 h34660 h31931 h34570 h31900 h33776 h34569 h34572 h34568 h34661) (vc_X12_through_123 h31929 h34501 h34502 h34567 h31929.1 h31931 h34570 h31900 h33776 h34569 h34572 h34568) I34632 (vc_X12_through_124 (nS h34504) h34501 h34502 h34567 h34570 h34660 h31929 h31929.1 h31900 h33776 h34569 h34572 h34568 h34661)
                have h34662 : 1 ≤ z34624 ∧ z34624 ≤ 1 := (vc_X12_through_117 h34660 h34627)
                refine sv_aload_n (pc := 160) dX12_through_160 rfl rfl ?_
                refine mr_iload (pc := 161) (z := z31916) dX12_through_161 rfl ?_
                refine mr_sipush (pc := 163) (z := 300) dX12_through_163 (by decide) ?_
                refine mr_iload (pc := 166) (z := z31916) dX12_through_166 rfl ?_
                refine mr_imul (pc := 168) (x := 300) (y := z31916) dX12_through_168 ?_
                refine mr_iload (pc := 169) (z := z34623) dX12_through_169 rfl ?_
                refine mr_iadd (pc := 171) (x := (300 * z31916)) (y := z34623) dX12_through_171 ?_
                refine mr_iload_n (pc := 172) (z := p2) dX12_through_172 rfl rfl ?_
                refine mr_iload_n (pc := 173) (z := p3) dX12_through_173 rfl rfl ?_
                refine mr_iload (pc := 174) (z := p4) dX12_through_174 rfl ?_
                refine mr_cVI (pc := 176) (c_X12_isSo hw T34629 h31918 (rW (c := 0) (d := 3899) (rAdd (e := 0) (f := 3599) (rMulL (n := 300) (e := 0) (f := 3300) h31918 rfl) h34651 rfl) rfl) hp2 hp3 hp4 hg1 (F34630.f (A_110 hw) rfl (F34499.f (A_110 hw) rfl (F31902.f (A_110 hw) rfl (u17644.f (Or.inl (mAt.ne (A_153 hw) (A_110 hw) rfl)) (u17641.f (Or.inl (mAt.ne (A_152 hw) (A_110 hw) rfl)) (u17638.f (Or.inl (mAt.ne (A_151 hw) (A_110 hw) rfl)) q_f_e0)))))) (F34630.f (A_110 hw) rfl (F34499.f (A_110 hw) rfl (F31902.f (A_110 hw) rfl (u17644.f (Or.inl (mAt.ne (A_153 hw) (A_110 hw) rfl)) (u17641.f (Or.inl (mAt.ne (A_152 hw) (A_110 hw) rfl)) (u17638.f (Or.inl (mAt.ne (A_151 hw) (A_110 hw) rfl)) q_f_e1)))))) (F34630.f (A_106 hw) rfl (F34499.f (A_106 hw) rfl (F31902.f (A_106 hw) rfl (u17644.f (Or.inl (mAt.ne (A_153 hw) (A_106 hw) rfl)) (u17641.f (Or.inl (mAt.ne (A_152 hw) (A_106 hw) rfl)) (u17638.f (Or.inl (mAt.ne (A_151 hw) (A_106 hw) rfl)) q_f_ties)))))) (F34630.f (A_126 hw) rfl (F34499.f (A_126 hw) rfl q31909)) (vc_X12_through_51 hq0 h2 hg1) (vc_X12_through_52 hq1 ht_f_e0 ht_f_e1 hp3 hp4) (vc_X12_through_53 h31904 hq2 h3 h31912)) (gOk _ _ _ _ _) dX12_through_176 (tX12_isSo _ _ _ _ _) ⟨wV_X12_isSo, wL_X12_isSo⟩ wM_X12_397 (gCX12 _ _ _ _ _) rfl (A_106 hw) rfl ⟨le_t rfl, le_t rfl⟩ ⟨le_t rfl, le_t rfl⟩ rfl (le_t rfl) fun z34667 μ34663 T34664 F34665 h34666 => ?_
                refine mr_istore (pc := 179) (lv' := [(10, iv z34667), (0, .ref 106), (2, iv p2), (3, iv p3), (4, iv p4), (5, iv z31895), (6, iv z31894), (7, iv (z31895 - 1)), (8, iv z31916), (9, iv z34493), (11, iv z34623)]) dX12_through_179 (by decide) rfl ?_
                refine mr_iinc (pc := 181) (lv' := [(11, iv (z34623 + 1)), (10, iv z34667), (0, .ref 106), (2, iv p2), (3, iv p3), (4, iv p4), (5, iv z31895), (6, iv z31894), (7, iv (z31895 - 1)), (8, iv z31916), (9, iv z34493)]) dX12_through_181 rfl (by decide) rfl ?_
                refine sv_goto (pc := 184) (tgt := 135) dX12_through_184 (by decide) ?_
                refine mr_lvS (lv' := [(0, .ref 106), (2, iv p2), (3, iv p3), (4, iv p4), (5, iv z31895), (6, iv z31894), (7, iv (z31895 - 1)), (8, iv z31916), (9, iv z34493), (10, iv z34667), (11, iv (z34623 + 1))]) (List.forall_mem_cons.mpr ⟨rfl, List.forall_mem_cons.mpr ⟨rfl, List.forall_mem_cons.mpr ⟨rfl, List.forall_mem_cons.mpr ⟨rfl, List.forall_mem_cons.mpr ⟨rfl, List.forall_mem_cons.mpr ⟨rfl, List.forall_mem_cons.mpr ⟨rfl, List.forall_mem_cons.mpr ⟨rfl, List.forall_mem_cons.mpr ⟨rfl, List.forall_mem_cons.mpr ⟨rfl, List.forall_mem_cons.mpr ⟨rfl, fun _ h => absurd h List.not_mem_nil⟩⟩⟩⟩⟩⟩⟩⟩⟩⟩⟩) ?_
                exact ih34634 z34667 (z34623 + 1) μ34663 T34664 (mF.call (mF.call mF.refl F34630 rfl) F34665 rfl) h34666.1 (rW (c := 0) (d := 300) (rAdd (e := 1) (f := 300) h34651 (rR (x := 1)) rfl) rfl) (PK.keep I34632 hw ((mF.call mF.refl F34665 rfl) : mF [106026, 106027, 106028, 106029, 106030, 106031] w μ34625 μ34663) rfl) (vc_X12_through_128 (nS h34633) h34647 h34651 h34652)
            refine mr_lvS (lv' := [(0, .ref 106), (2, iv p2), (3, iv p3), (4, iv p4), (5, iv z31895), (6, iv z31894), (7, iv (z31895 - 1)), (8, iv z31916), (9, iv z34493), (10, iv 1), (11, iv z34573)]) (List.forall_mem_cons.mpr ⟨rfl, List.forall_mem_cons.mpr ⟨rfl, List.forall_mem_cons.mpr ⟨rfl, List.forall_mem_cons.mpr ⟨rfl, List.forall_mem_cons.mpr ⟨rfl, List.forall_mem_cons.mpr ⟨rfl, List.forall_mem_cons.mpr ⟨rfl, List.forall_mem_cons.mpr ⟨rfl, List.forall_mem_cons.mpr ⟨rfl, List.forall_mem_cons.mpr ⟨rfl, List.forall_mem_cons.mpr ⟨rfl, fun _ h => absurd h List.not_mem_nil⟩⟩⟩⟩⟩⟩⟩⟩⟩⟩⟩) ?_
            exact L34626 302 1 z34573 μ34494 T34498 mF.refl (rW (c := 0) (d := 1) (rR (x := 1)) rfl) h34575 I34503 (vc_X12_through_129 h34575)
        refine mr_lvS (lv' := [(0, .ref 106), (2, iv p2), (3, iv p3), (4, iv p4), (5, iv z31895), (6, iv z31894), (7, iv (z31895 - 1)), (8, iv z31916), (9, iv (z31920 + 1)), (10, iv 0)]) (List.forall_mem_cons.mpr ⟨rfl, List.forall_mem_cons.mpr ⟨rfl, List.forall_mem_cons.mpr ⟨rfl, List.forall_mem_cons.mpr ⟨rfl, List.forall_mem_cons.mpr ⟨rfl, List.forall_mem_cons.mpr ⟨rfl, List.forall_mem_cons.mpr ⟨rfl, List.forall_mem_cons.mpr ⟨rfl, List.forall_mem_cons.mpr ⟨rfl, List.forall_mem_cons.mpr ⟨rfl, fun _ h => absurd h List.not_mem_nil⟩⟩⟩⟩⟩⟩⟩⟩⟩⟩) ?_
        exact L34495 69 (z31920 + 1) 0 μ31896 T31901 mF.refl (rAdd (e := 1) (f := 30) h33776 (rR (x := 1)) rfl) (rW (c := 0) (d := 1) (rR (x := 0)) rfl) (vc_X12_through_130 h31929 h31929.1 h31931 h31900 h33776 h31925) (vc_X12_through_131 h31929 h31929.1 h31931 h31900 h33776 h31925) I31905 (vc_X12_through_132 h31929 h31929.1 h31931 h31900 h33776 h31925)
    refine mr_lvS (lv' := [(0, .ref 106), (2, iv p2), (3, iv p3), (4, iv p4), (5, iv 1), (6, iv 0)]) (List.forall_mem_cons.mpr ⟨rfl, List.forall_mem_cons.mpr ⟨rfl, List.forall_mem_cons.mpr ⟨rfl, List.forall_mem_cons.mpr ⟨rfl, List.forall_mem_cons.mpr ⟨rfl, List.forall_mem_cons.mpr ⟨rfl, fun _ h => absurd h List.not_mem_nil⟩⟩⟩⟩⟩⟩) ?_
    exact L31897 50136 1 0 (-1) μ17643 f_x T17645 mF.refl mG.refl (u17644.f (Or.inl (mAt.ne (A_153 hw) (A_126 hw) rfl)) (u17641.f (Or.inl (mAt.ne (A_152 hw) (A_126 hw) rfl)) (u17638.f (Or.inl (mAt.ne (A_151 hw) (A_126 hw) rfl)) q_f_x))) (rW (c := 0) (d := 12) (rR (x := 1)) rfl) (rW (c := 0) (d := 500) (rR (x := 0)) rfl) (rW (c := (-1)) (d := 30) (rR (x := (-1))) rfl) (vc_X12_through_134 hq2 h3) (PK.keep hIPK hw ((mF.up (mF.up (mF.up mF.refl (A_151 hw) u17638 rfl) (A_152 hw) u17641 rfl) (A_153 hw) u17644 rfl) : mF [151999, 152999, 153999] w μ μ17643) rfl) (lvOK.pred I17649 vc_X12_through_136) (Or.inr (eqIx vc_X12_through_133 (u17644.f (Or.inl (mAt.ne (A_153 hw) (A_152 hw) rfl)) u17641.1))) vc_X12_through_135
  have h34668 : (-99999999) ≤ p1 ∧ p1 ≤ (-99999999) := (vc_X12_through_137 h17636 hq3 ht_f_pol hp1)
  refine mr_iconst (pc := 6) (z := 1) dX12_through_6 ?_
  exact mr_zret dX12_through_7 rfl (rW (c := 0) (d := 1) (rR (x := 1)) rfl) (le_t rfl) (le_t rfl) hT mF.refl ⟨f_x, q_f_x, (rW (c := 0) (d := 1) (rR (x := 1)) rfl), mG.refl, (vc_X12_through_134 hq2 h3), trivial⟩
