theorem vc_X12_cone_1 {p1 z1 z8 : Int} (h0 : z8 = 0) (h1 : (z8 = 1 → 0 ≤ p1 ∧ p1 < z1)) (h2 : (z8 = 0 → p1 < 0 ∨ z1 ≤ p1)) (h3 : (-2147483648) ≤ p1 ∧ p1 ≤ 2147483647) (h4 : 0 ≤ z1 ∧ z1 ≤ 10) (h5 : 0 ≤ z8 ∧ z8 ≤ 1) : 0 ≤ z8 ∧ z8 ≤ 0 := by omega
theorem vc_X12_cone_2 {p1 z1 z8 : Int} (h0 : (z8 = 1 → 0 ≤ p1 ∧ p1 < z1)) (h1 : (z8 = 0 → p1 < 0 ∨ z1 ≤ p1)) (h2 : z8 = 0) (h3 : (-2147483648) ≤ p1 ∧ p1 ≤ 2147483647) (h4 : 0 ≤ z1 ∧ z1 ≤ 10) (h5 : 0 ≤ z8 ∧ z8 ≤ 0) : z8 = 0 := by omega
theorem vc_X12_cone_3 {p1 z1 z8 : Int} (h0 : ¬ z8 = 0) (h1 : (z8 = 1 → 0 ≤ p1 ∧ p1 < z1)) (h2 : (z8 = 0 → p1 < 0 ∨ z1 ≤ p1)) (h3 : (-2147483648) ≤ p1 ∧ p1 ≤ 2147483647) (h4 : 0 ≤ z1 ∧ z1 ≤ 10) (h5 : 0 ≤ z8 ∧ z8 ≤ 1) : 1 ≤ z8 ∧ z8 ≤ 1 := by omega
theorem vc_X12_cone_4 {p1 z1 z8 : Int} (h0 : (z8 = 1 → 0 ≤ p1 ∧ p1 < z1)) (h1 : (z8 = 0 → p1 < 0 ∨ z1 ≤ p1)) (h2 : ¬ z8 = 0) (h3 : (-2147483648) ≤ p1 ∧ p1 ≤ 2147483647) (h4 : 0 ≤ z1 ∧ z1 ≤ 10) (h5 : 1 ≤ z8 ∧ z8 ≤ 1) : z8 = 1 := by omega
theorem vc_X12_cone_5 {p1 z1 z8 : Int} (h0 : 0 ≤ p1 ∧ p1 < z1) (h1 : (z8 = 1 → 0 ≤ p1 ∧ p1 < z1)) (h2 : (z8 = 0 → p1 < 0 ∨ z1 ≤ p1)) (h3 : (-2147483648) ≤ p1 ∧ p1 ≤ 2147483647) (h4 : 0 ≤ z1 ∧ z1 ≤ 10) (h5 : 1 ≤ z8 ∧ z8 ≤ 1) : 0 ≤ p1 ∧ p1 ≤ 9 := by omega
theorem vc_X12_cone_6 {p1 z1 z8 : Int} (h0 : 0 ≤ p1 ∧ p1 < z1) (h1 : (z8 = 1 → 0 ≤ p1 ∧ p1 < z1)) (h2 : (z8 = 0 → p1 < 0 ∨ z1 ≤ p1)) (h3 : 0 ≤ p1 ∧ p1 ≤ 9) (h4 : 0 ≤ z1 ∧ z1 ≤ 10) (h5 : 1 ≤ z8 ∧ z8 ≤ 1) : 1 ≤ z1 ∧ z1 ≤ 10 := by omega
theorem vc_X12_cone_7 {p2 : Int} (h0 : p2 = (-1)) (h1 : (-2147483648) ≤ p2 ∧ p2 ≤ 2147483647) : (-1) ≤ p2 ∧ p2 ≤ (-1) := by omega
theorem vc_X12_cone_8 {z480 : Int} (h0 : (11 - z480) < ((0 : Nat) : Int)) (h1 : 0 ≤ z480 ∧ z480 ≤ 10) : False := by omega
theorem vc_X12_cone_9 {z480 : Int} (h0 : 10 ≤ z480) (h1 : 0 ≤ z480 ∧ z480 ≤ 10) : 10 ≤ z480 ∧ z480 ≤ 10 := by omega
theorem vc_X12_cone_10 {f_c z766 : Int} (h0 : ((2 * (10 - f_c)) + z766) < ((0 : Nat) : Int)) (h1 : 0 ≤ f_c ∧ f_c ≤ 10) (h2 : 0 ≤ z766 ∧ z766 ≤ 1) : False := by omega
theorem vc_X12_cone_11 {z766 : Int} (h0 : z766 = 0) (h1 : 0 ≤ z766 ∧ z766 ≤ 1) : 0 ≤ z766 ∧ z766 ≤ 0 := by omega
theorem vc_X12_cone_12 {z981 : Int} (h0 : (11 - z981) < ((0 : Nat) : Int)) (h1 : 0 ≤ z981 ∧ z981 ≤ 10) : False := by omega
theorem vc_X12_cone_13 {p1 z1 z8 z981 : Int} (h0 : z1 ≤ z981) (h1 : (z8 = 1 → 0 ≤ p1 ∧ p1 < z1)) (h2 : (z8 = 0 → p1 < 0 ∨ z1 ≤ p1)) (h3 : 0 ≤ p1 ∧ p1 < z1) (h4 : 0 ≤ p1 ∧ p1 ≤ 9) (h5 : 1 ≤ z1 ∧ z1 ≤ 10) (h6 : 1 ≤ z8 ∧ z8 ≤ 1) (h7 : 0 ≤ z981 ∧ z981 ≤ 10) : 1 ≤ z981 ∧ z981 ≤ 10 := by omega
theorem vc_X12_cone_14 {p2 : Int} (h0 : 0 ≤ p2) (h1 : (-1) ≤ p2 ∧ p2 ≤ (-1)) : False := by omega
theorem vc_X12_cone_15 {p1 z1 z8 z981 : Int} (h0 : z981 < z1) (h1 : (z8 = 1 → 0 ≤ p1 ∧ p1 < z1)) (h2 : (z8 = 0 → p1 < 0 ∨ z1 ≤ p1)) (h3 : 0 ≤ p1 ∧ p1 < z1) (h4 : 0 ≤ p1 ∧ p1 ≤ 9) (h5 : 1 ≤ z1 ∧ z1 ≤ 10) (h6 : 1 ≤ z8 ∧ z8 ≤ 1) (h7 : 0 ≤ z981 ∧ z981 ≤ 10) : 0 ≤ z981 ∧ z981 ≤ 9 := by omega
theorem vc_X12_cone_16 {z1003 : Int} (h0 : z1003 = 0) (h1 : 0 ≤ z1003 ∧ z1003 ≤ 1) : 0 ≤ z1003 ∧ z1003 ≤ 0 := by omega
theorem vc_X12_cone_17 {N p1 z1 z8 z981 : Int} (h0 : (11 - z981) < N + 1) (h1 : z981 < z1) (h2 : (z8 = 1 → 0 ≤ p1 ∧ p1 < z1)) (h3 : (z8 = 0 → p1 < 0 ∨ z1 ≤ p1)) (h4 : 0 ≤ p1 ∧ p1 < z1) (h5 : 0 ≤ p1 ∧ p1 ≤ 9) (h6 : 1 ≤ z1 ∧ z1 ≤ 10) (h7 : 1 ≤ z8 ∧ z8 ≤ 1) (h8 : 0 ≤ z981 ∧ z981 ≤ 9) : (11 - (z981 + 1)) < N := by omega
theorem vc_X12_cone_18 {z1003 : Int} (h0 : ¬ z1003 = 0) (h1 : 0 ≤ z1003 ∧ z1003 ≤ 1) : 1 ≤ z1003 ∧ z1003 ≤ 1 := by omega
theorem vc_X12_cone_19  : (11 - 0) < ((12 : Nat) : Int) := by omega
theorem vc_X12_cone_20 {z766 : Int} (h0 : ¬ z766 = 0) (h1 : 0 ≤ z766 ∧ z766 ≤ 1) : 1 ≤ z766 ∧ z766 ≤ 1 := by omega
theorem vc_X12_cone_21 {f_c f_d z1399 z1400 : Int} (h0 : (21 - z1399) < ((0 : Nat) : Int)) (h1 : 0 ≤ f_d ∧ f_d ≤ 10) (h2 : f_c ≤ f_d) (h3 : z1400 = 0 ∨ f_c + 1 ≤ f_d) (h4 : 0 ≤ f_c ∧ f_c ≤ 10) (h5 : 0 ≤ z1399 ∧ z1399 ≤ 20) (h6 : 0 ≤ z1400 ∧ z1400 ≤ 1) : False := by omega
theorem vc_X12_cone_22 {N f_c f_d z1400 z766 : Int} (h0 : ((2 * (10 - f_c)) + z766) < N + 1) (h1 : ¬ z766 = 0) (h2 : f_c ≤ f_d) (h3 : z1400 = 0 ∨ f_c + 1 ≤ f_d) (h4 : 0 ≤ f_c ∧ f_c ≤ 10) (h5 : 0 ≤ f_d ∧ f_d ≤ 10) (h6 : 0 ≤ z1400 ∧ z1400 ≤ 1) (h7 : 1 ≤ z766 ∧ z766 ≤ 1) : ((2 * (10 - f_d)) + z1400) < N := by omega
theorem vc_X12_cone_23 {z1399 z1414 : Int} (h0 : z1399 < z1414) (h1 : 0 ≤ z1399 ∧ z1399 ≤ 20) (h2 : 0 ≤ z1414 ∧ z1414 ≤ 20) : 0 ≤ z1399 ∧ z1399 ≤ 19 := by omega
theorem vc_X12_cone_24 {z1399 z1414 : Int} (h0 : z1399 < z1414) (h1 : 0 ≤ z1399 ∧ z1399 ≤ 19) (h2 : 0 ≤ z1414 ∧ z1414 ≤ 20) : 1 ≤ z1414 ∧ z1414 ≤ 20 := by omega
theorem vc_X12_cone_25 {z1446 : Int} (h0 : ¬ z1446 = 0) (h1 : 0 ≤ z1446 ∧ z1446 ≤ 2) : 1 ≤ z1446 ∧ z1446 ≤ 2 := by omega
theorem vc_X12_cone_26 {f_c f_d z1400 : Int} (h0 : f_c ≤ f_d) (h1 : z1400 = 0 ∨ f_c + 1 ≤ f_d) (h2 : 0 ≤ f_c ∧ f_c ≤ 10) (h3 : 0 ≤ f_d ∧ f_d ≤ 10) (h4 : 0 ≤ z1400 ∧ z1400 ≤ 1) : f_c ≤ f_d := by omega
theorem vc_X12_cone_27 {f_c f_d z1400 : Int} (h0 : f_c ≤ f_d) (h1 : z1400 = 0 ∨ f_c + 1 ≤ f_d) (h2 : 0 ≤ f_c ∧ f_c ≤ 10) (h3 : 0 ≤ f_d ∧ f_d ≤ 10) (h4 : 0 ≤ z1400 ∧ z1400 ≤ 1) : z1400 = 0 ∨ f_c + 1 ≤ f_d := by omega
theorem vc_X12_cone_28 {N z1399 z1414 : Int} (h0 : (21 - z1399) < N + 1) (h1 : z1399 < z1414) (h2 : 0 ≤ z1399 ∧ z1399 ≤ 19) (h3 : 1 ≤ z1414 ∧ z1414 ≤ 20) : (21 - (z1399 + 1)) < N := by omega
theorem vc_X12_cone_29 {z1446 : Int} (h0 : z1446 = 0) (h1 : 0 ≤ z1446 ∧ z1446 ≤ 2) : 0 ≤ z1446 ∧ z1446 ≤ 0 := by omega
theorem vc_X12_cone_30 {z1476 : Int} (h0 : z1476 = 0) (h1 : 0 ≤ z1476 ∧ z1476 ≤ 1) : 0 ≤ z1476 ∧ z1476 ≤ 0 := by omega
theorem vc_X12_cone_31 {z1476 : Int} (h0 : ¬ z1476 = 0) (h1 : 0 ≤ z1476 ∧ z1476 ≤ 1) : 1 ≤ z1476 ∧ z1476 ≤ 1 := by omega
theorem vc_X12_cone_32 {z1498 : Int} (h0 : ¬ z1498 = 0) (h1 : 0 ≤ z1498 ∧ z1498 ≤ 1) : 1 ≤ z1498 ∧ z1498 ≤ 1 := by omega
theorem vc_X12_cone_33 {z1498 : Int} (h0 : z1498 = 0) (h1 : 0 ≤ z1498 ∧ z1498 ≤ 1) : 0 ≤ z1498 ∧ z1498 ≤ 0 := by omega
theorem vc_X12_cone_34 {f_c f_d z1400 z1498 : Int} (h0 : f_c ≤ f_d) (h1 : z1400 = 0 ∨ f_c + 1 ≤ f_d) (h2 : z1498 = 0) (h3 : 0 ≤ f_c ∧ f_c ≤ 10) (h4 : 0 ≤ f_d ∧ f_d ≤ 10) (h5 : 0 ≤ z1400 ∧ z1400 ≤ 1) (h6 : 0 ≤ z1498 ∧ z1498 ≤ 0) : f_c ≤ ((f_d + 1) - z1498) := by omega
theorem vc_X12_cone_35 {f_c f_d z1400 z1498 : Int} (h0 : f_c ≤ f_d) (h1 : z1400 = 0 ∨ f_c + 1 ≤ f_d) (h2 : z1498 = 0) (h3 : 0 ≤ f_c ∧ f_c ≤ 10) (h4 : 0 ≤ f_d ∧ f_d ≤ 10) (h5 : 0 ≤ z1400 ∧ z1400 ≤ 1) (h6 : 0 ≤ z1498 ∧ z1498 ≤ 0) : (1 : Int) = 0 ∨ f_c + 1 ≤ ((f_d + 1) - z1498) := by omega
theorem vc_X12_cone_36 {f_c : Int} (h0 : 0 ≤ f_c ∧ f_c ≤ 10) : f_c ≤ f_c := by omega
theorem vc_X12_cone_37 {f_c : Int} (h0 : 0 ≤ f_c ∧ f_c ≤ 10) : (0 : Int) = 0 ∨ f_c + 1 ≤ f_c := by omega
theorem vc_X12_cone_38  : (21 - 0) < ((22 : Nat) : Int) := by omega
theorem vc_X12_cone_39 {z1512 : Int} (h0 : 0 ≤ z1512 ∧ z1512 ≤ 10) : ((2 * (10 - z1512)) + 1) < ((22 : Nat) : Int) := by omega
theorem vc_X12_cone_40 {z480 : Int} (h0 : z480 < 10) (h1 : 0 ≤ z480 ∧ z480 ≤ 10) : 0 ≤ z480 ∧ z480 ≤ 9 := by omega
theorem vc_X12_cone_41 {N p1 z1 z480 z8 : Int} (h0 : (11 - z480) < N + 1) (h1 : z480 < 10) (h2 : ¬ z480 = p1) (h3 : (z8 = 1 → 0 ≤ p1 ∧ p1 < z1)) (h4 : (z8 = 0 → p1 < 0 ∨ z1 ≤ p1)) (h5 : 0 ≤ p1 ∧ p1 < z1) (h6 : 0 ≤ p1 ∧ p1 ≤ 9) (h7 : 1 ≤ z1 ∧ z1 ≤ 10) (h8 : 0 ≤ z480 ∧ z480 ≤ 9) (h9 : 1 ≤ z8 ∧ z8 ≤ 1) : (11 - (z480 + 1)) < N := by omega
theorem vc_X12_cone_42 {N p1 z1 z480 z8 : Int} (h0 : (11 - z480) < N + 1) (h1 : z480 < 10) (h2 : z480 = p1) (h3 : (z8 = 1 → 0 ≤ p1 ∧ p1 < z1)) (h4 : (z8 = 0 → p1 < 0 ∨ z1 ≤ p1)) (h5 : 0 ≤ p1 ∧ p1 < z1) (h6 : 0 ≤ p1 ∧ p1 ≤ 9) (h7 : 1 ≤ z1 ∧ z1 ≤ 10) (h8 : 0 ≤ z480 ∧ z480 ≤ 9) (h9 : 1 ≤ z8 ∧ z8 ≤ 1) : (11 - (z480 + 1)) < N := by omega
theorem vc_X12_cone_43 {p2 z1 z1527 : Int} (h0 : ¬ z1527 = 0) (h1 : (z1527 = 1 → 0 ≤ p2 ∧ p2 < z1)) (h2 : (z1527 = 0 → p2 < 0 ∨ z1 ≤ p2)) (h3 : (-2147483648) ≤ p2 ∧ p2 ≤ 2147483647) (h4 : 1 ≤ z1 ∧ z1 ≤ 10) (h5 : 0 ≤ z1527 ∧ z1527 ≤ 1) : 1 ≤ z1527 ∧ z1527 ≤ 1 := by omega
theorem vc_X12_cone_44 {p1 p2 z1 z1527 z8 : Int} (h0 : (z1527 = 1 → 0 ≤ p2 ∧ p2 < z1)) (h1 : (z1527 = 0 → p2 < 0 ∨ z1 ≤ p2)) (h2 : ¬ z1527 = 0) (h3 : (z8 = 1 → 0 ≤ p1 ∧ p1 < z1)) (h4 : (z8 = 0 → p1 < 0 ∨ z1 ≤ p1)) (h5 : 0 ≤ p1 ∧ p1 < z1) (h6 : ¬ p2 = (-1)) (h7 : 0 ≤ p1 ∧ p1 ≤ 9) (h8 : (-2147483648) ≤ p2 ∧ p2 ≤ 2147483647) (h9 : 1 ≤ z1 ∧ z1 ≤ 10) (h10 : 1 ≤ z1527 ∧ z1527 ≤ 1) (h11 : 1 ≤ z8 ∧ z8 ≤ 1) : z1527 = 1 := by omega
theorem vc_X12_cone_45 {p1 p2 z1 z1527 z8 : Int} (h0 : 0 ≤ p2 ∧ p2 < z1) (h1 : (z8 = 1 → 0 ≤ p1 ∧ p1 < z1)) (h2 : (z8 = 0 → p1 < 0 ∨ z1 ≤ p1)) (h3 : 0 ≤ p1 ∧ p1 < z1) (h4 : ¬ p2 = (-1)) (h5 : (z1527 = 1 → 0 ≤ p2 ∧ p2 < z1)) (h6 : (z1527 = 0 → p2 < 0 ∨ z1 ≤ p2)) (h7 : 0 ≤ p1 ∧ p1 ≤ 9) (h8 : (-2147483648) ≤ p2 ∧ p2 ≤ 2147483647) (h9 : 1 ≤ z1 ∧ z1 ≤ 10) (h10 : 1 ≤ z1527 ∧ z1527 ≤ 1) (h11 : 1 ≤ z8 ∧ z8 ≤ 1) : 0 ≤ p2 ∧ p2 ≤ 9 := by omega
theorem vc_X12_cone_46 {z2034 : Int} (h0 : (11 - z2034) < ((0 : Nat) : Int)) (h1 : 0 ≤ z2034 ∧ z2034 ≤ 10) : False := by omega
theorem vc_X12_cone_47 {z2034 : Int} (h0 : 10 ≤ z2034) (h1 : 0 ≤ z2034 ∧ z2034 ≤ 10) : 10 ≤ z2034 ∧ z2034 ≤ 10 := by omega
theorem vc_X12_cone_48 {f_c z2340 : Int} (h0 : ((2 * (10 - f_c)) + z2340) < ((0 : Nat) : Int)) (h1 : 0 ≤ f_c ∧ f_c ≤ 10) (h2 : 0 ≤ z2340 ∧ z2340 ≤ 1) : False := by omega
theorem vc_X12_cone_49 {z2340 : Int} (h0 : z2340 = 0) (h1 : 0 ≤ z2340 ∧ z2340 ≤ 1) : 0 ≤ z2340 ∧ z2340 ≤ 0 := by omega
theorem vc_X12_cone_50 {z2620 : Int} (h0 : (11 - z2620) < ((0 : Nat) : Int)) (h1 : 0 ≤ z2620 ∧ z2620 ≤ 10) : False := by omega
theorem vc_X12_cone_51 {p1 p2 z1 z1527 z2620 z8 : Int} (h0 : z1 ≤ z2620) (h1 : (z8 = 1 → 0 ≤ p1 ∧ p1 < z1)) (h2 : (z8 = 0 → p1 < 0 ∨ z1 ≤ p1)) (h3 : 0 ≤ p1 ∧ p1 < z1) (h4 : (z1527 = 1 → 0 ≤ p2 ∧ p2 < z1)) (h5 : (z1527 = 0 → p2 < 0 ∨ z1 ≤ p2)) (h6 : 0 ≤ p2 ∧ p2 < z1) (h7 : 0 ≤ p1 ∧ p1 ≤ 9) (h8 : 0 ≤ p2 ∧ p2 ≤ 9) (h9 : 1 ≤ z1 ∧ z1 ≤ 10) (h10 : 1 ≤ z1527 ∧ z1527 ≤ 1) (h11 : 0 ≤ z2620 ∧ z2620 ≤ 10) (h12 : 1 ≤ z8 ∧ z8 ≤ 1) : 1 ≤ z2620 ∧ z2620 ≤ 10 := by omega
theorem vc_X12_cone_52 {p2 : Int} (h0 : p2 < 0) (h1 : 0 ≤ p2 ∧ p2 ≤ 9) : False := by omega
theorem vc_X12_cone_53 {z2641 : Int} (h0 : z2641 = 0) (h1 : 0 ≤ z2641 ∧ z2641 ≤ 1) : 0 ≤ z2641 ∧ z2641 ≤ 0 := by omega
theorem vc_X12_cone_54 {z2641 : Int} (h0 : ¬ z2641 = 0) (h1 : 0 ≤ z2641 ∧ z2641 ≤ 1) : 1 ≤ z2641 ∧ z2641 ≤ 1 := by omega
theorem vc_X12_cone_55 {p1 p2 z1 z1527 z2620 z8 : Int} (h0 : z2620 < z1) (h1 : (z8 = 1 → 0 ≤ p1 ∧ p1 < z1)) (h2 : (z8 = 0 → p1 < 0 ∨ z1 ≤ p1)) (h3 : 0 ≤ p1 ∧ p1 < z1) (h4 : (z1527 = 1 → 0 ≤ p2 ∧ p2 < z1)) (h5 : (z1527 = 0 → p2 < 0 ∨ z1 ≤ p2)) (h6 : 0 ≤ p2 ∧ p2 < z1) (h7 : 0 ≤ p1 ∧ p1 ≤ 9) (h8 : 0 ≤ p2 ∧ p2 ≤ 9) (h9 : 1 ≤ z1 ∧ z1 ≤ 10) (h10 : 1 ≤ z1527 ∧ z1527 ≤ 1) (h11 : 0 ≤ z2620 ∧ z2620 ≤ 10) (h12 : 1 ≤ z8 ∧ z8 ≤ 1) : 0 ≤ z2620 ∧ z2620 ≤ 9 := by omega
theorem vc_X12_cone_56 {z2650 : Int} (h0 : z2650 = 0) (h1 : 0 ≤ z2650 ∧ z2650 ≤ 1) : 0 ≤ z2650 ∧ z2650 ≤ 0 := by omega
theorem vc_X12_cone_57 {N p1 p2 z1 z1527 z2620 z8 : Int} (h0 : (11 - z2620) < N + 1) (h1 : z2620 < z1) (h2 : (z8 = 1 → 0 ≤ p1 ∧ p1 < z1)) (h3 : (z8 = 0 → p1 < 0 ∨ z1 ≤ p1)) (h4 : 0 ≤ p1 ∧ p1 < z1) (h5 : (z1527 = 1 → 0 ≤ p2 ∧ p2 < z1)) (h6 : (z1527 = 0 → p2 < 0 ∨ z1 ≤ p2)) (h7 : 0 ≤ p2 ∧ p2 < z1) (h8 : 0 ≤ p1 ∧ p1 ≤ 9) (h9 : 0 ≤ p2 ∧ p2 ≤ 9) (h10 : 1 ≤ z1 ∧ z1 ≤ 10) (h11 : 1 ≤ z1527 ∧ z1527 ≤ 1) (h12 : 0 ≤ z2620 ∧ z2620 ≤ 9) (h13 : 1 ≤ z8 ∧ z8 ≤ 1) : (11 - (z2620 + 1)) < N := by omega
theorem vc_X12_cone_58 {z2650 : Int} (h0 : ¬ z2650 = 0) (h1 : 0 ≤ z2650 ∧ z2650 ≤ 1) : 1 ≤ z2650 ∧ z2650 ≤ 1 := by omega
theorem vc_X12_cone_59 {z2340 : Int} (h0 : ¬ z2340 = 0) (h1 : 0 ≤ z2340 ∧ z2340 ≤ 1) : 1 ≤ z2340 ∧ z2340 ≤ 1 := by omega
theorem vc_X12_cone_60 {f_c f_d z3046 z3047 : Int} (h0 : (21 - z3046) < ((0 : Nat) : Int)) (h1 : 0 ≤ f_d ∧ f_d ≤ 10) (h2 : f_c ≤ f_d) (h3 : z3047 = 0 ∨ f_c + 1 ≤ f_d) (h4 : 0 ≤ f_c ∧ f_c ≤ 10) (h5 : 0 ≤ z3046 ∧ z3046 ≤ 20) (h6 : 0 ≤ z3047 ∧ z3047 ≤ 1) : False := by omega
theorem vc_X12_cone_61 {N f_c f_d z2340 z3047 : Int} (h0 : ((2 * (10 - f_c)) + z2340) < N + 1) (h1 : ¬ z2340 = 0) (h2 : f_c ≤ f_d) (h3 : z3047 = 0 ∨ f_c + 1 ≤ f_d) (h4 : 0 ≤ f_c ∧ f_c ≤ 10) (h5 : 0 ≤ f_d ∧ f_d ≤ 10) (h6 : 1 ≤ z2340 ∧ z2340 ≤ 1) (h7 : 0 ≤ z3047 ∧ z3047 ≤ 1) : ((2 * (10 - f_d)) + z3047) < N := by omega
theorem vc_X12_cone_62 {z3046 z3061 : Int} (h0 : z3046 < z3061) (h1 : 0 ≤ z3046 ∧ z3046 ≤ 20) (h2 : 0 ≤ z3061 ∧ z3061 ≤ 20) : 0 ≤ z3046 ∧ z3046 ≤ 19 := by omega
theorem vc_X12_cone_63 {z3046 z3061 : Int} (h0 : z3046 < z3061) (h1 : 0 ≤ z3046 ∧ z3046 ≤ 19) (h2 : 0 ≤ z3061 ∧ z3061 ≤ 20) : 1 ≤ z3061 ∧ z3061 ≤ 20 := by omega
theorem vc_X12_cone_64 {z3093 : Int} (h0 : ¬ z3093 = 0) (h1 : 0 ≤ z3093 ∧ z3093 ≤ 2) : 1 ≤ z3093 ∧ z3093 ≤ 2 := by omega
theorem vc_X12_cone_65 {f_c f_d z3047 : Int} (h0 : f_c ≤ f_d) (h1 : z3047 = 0 ∨ f_c + 1 ≤ f_d) (h2 : 0 ≤ f_c ∧ f_c ≤ 10) (h3 : 0 ≤ f_d ∧ f_d ≤ 10) (h4 : 0 ≤ z3047 ∧ z3047 ≤ 1) : f_c ≤ f_d := by omega
theorem vc_X12_cone_66 {f_c f_d z3047 : Int} (h0 : f_c ≤ f_d) (h1 : z3047 = 0 ∨ f_c + 1 ≤ f_d) (h2 : 0 ≤ f_c ∧ f_c ≤ 10) (h3 : 0 ≤ f_d ∧ f_d ≤ 10) (h4 : 0 ≤ z3047 ∧ z3047 ≤ 1) : z3047 = 0 ∨ f_c + 1 ≤ f_d := by omega
theorem vc_X12_cone_67 {N z3046 z3061 : Int} (h0 : (21 - z3046) < N + 1) (h1 : z3046 < z3061) (h2 : 0 ≤ z3046 ∧ z3046 ≤ 19) (h3 : 1 ≤ z3061 ∧ z3061 ≤ 20) : (21 - (z3046 + 1)) < N := by omega
theorem vc_X12_cone_68 {z3093 : Int} (h0 : z3093 = 0) (h1 : 0 ≤ z3093 ∧ z3093 ≤ 2) : 0 ≤ z3093 ∧ z3093 ≤ 0 := by omega
theorem vc_X12_cone_69 {z3123 : Int} (h0 : z3123 = 0) (h1 : 0 ≤ z3123 ∧ z3123 ≤ 1) : 0 ≤ z3123 ∧ z3123 ≤ 0 := by omega
theorem vc_X12_cone_70 {z3123 : Int} (h0 : ¬ z3123 = 0) (h1 : 0 ≤ z3123 ∧ z3123 ≤ 1) : 1 ≤ z3123 ∧ z3123 ≤ 1 := by omega
theorem vc_X12_cone_71 {z3145 : Int} (h0 : ¬ z3145 = 0) (h1 : 0 ≤ z3145 ∧ z3145 ≤ 1) : 1 ≤ z3145 ∧ z3145 ≤ 1 := by omega
theorem vc_X12_cone_72 {z3145 : Int} (h0 : z3145 = 0) (h1 : 0 ≤ z3145 ∧ z3145 ≤ 1) : 0 ≤ z3145 ∧ z3145 ≤ 0 := by omega
theorem vc_X12_cone_73 {f_c f_d z3047 z3145 : Int} (h0 : f_c ≤ f_d) (h1 : z3047 = 0 ∨ f_c + 1 ≤ f_d) (h2 : z3145 = 0) (h3 : 0 ≤ f_c ∧ f_c ≤ 10) (h4 : 0 ≤ f_d ∧ f_d ≤ 10) (h5 : 0 ≤ z3047 ∧ z3047 ≤ 1) (h6 : 0 ≤ z3145 ∧ z3145 ≤ 0) : f_c ≤ ((f_d + 1) - z3145) := by omega
theorem vc_X12_cone_74 {f_c f_d z3047 z3145 : Int} (h0 : f_c ≤ f_d) (h1 : z3047 = 0 ∨ f_c + 1 ≤ f_d) (h2 : z3145 = 0) (h3 : 0 ≤ f_c ∧ f_c ≤ 10) (h4 : 0 ≤ f_d ∧ f_d ≤ 10) (h5 : 0 ≤ z3047 ∧ z3047 ≤ 1) (h6 : 0 ≤ z3145 ∧ z3145 ≤ 0) : (1 : Int) = 0 ∨ f_c + 1 ≤ ((f_d + 1) - z3145) := by omega
theorem vc_X12_cone_75 {z3159 : Int} (h0 : 0 ≤ z3159 ∧ z3159 ≤ 10) : ((2 * (10 - z3159)) + 1) < ((22 : Nat) : Int) := by omega
theorem vc_X12_cone_76 {z2034 : Int} (h0 : z2034 < 10) (h1 : 0 ≤ z2034 ∧ z2034 ≤ 10) : 0 ≤ z2034 ∧ z2034 ≤ 9 := by omega
theorem vc_X12_cone_77 {N p1 z1 z2034 z8 : Int} (h0 : (11 - z2034) < N + 1) (h1 : z2034 < 10) (h2 : ¬ z2034 = p1) (h3 : (z8 = 1 → 0 ≤ p1 ∧ p1 < z1)) (h4 : (z8 = 0 → p1 < 0 ∨ z1 ≤ p1)) (h5 : 0 ≤ p1 ∧ p1 < z1) (h6 : 0 ≤ p1 ∧ p1 ≤ 9) (h7 : 1 ≤ z1 ∧ z1 ≤ 10) (h8 : 0 ≤ z2034 ∧ z2034 ≤ 9) (h9 : 1 ≤ z8 ∧ z8 ≤ 1) : (11 - (z2034 + 1)) < N := by omega
theorem vc_X12_cone_78 {N p1 z1 z2034 z8 : Int} (h0 : (11 - z2034) < N + 1) (h1 : z2034 < 10) (h2 : z2034 = p1) (h3 : (z8 = 1 → 0 ≤ p1 ∧ p1 < z1)) (h4 : (z8 = 0 → p1 < 0 ∨ z1 ≤ p1)) (h5 : 0 ≤ p1 ∧ p1 < z1) (h6 : 0 ≤ p1 ∧ p1 ≤ 9) (h7 : 1 ≤ z1 ∧ z1 ≤ 10) (h8 : 0 ≤ z2034 ∧ z2034 ≤ 9) (h9 : 1 ≤ z8 ∧ z8 ≤ 1) : (11 - (z2034 + 1)) < N := by omega
theorem vc_X12_cone_79 {p2 z1 z1527 : Int} (h0 : z1527 = 0) (h1 : (z1527 = 1 → 0 ≤ p2 ∧ p2 < z1)) (h2 : (z1527 = 0 → p2 < 0 ∨ z1 ≤ p2)) (h3 : (-2147483648) ≤ p2 ∧ p2 ≤ 2147483647) (h4 : 1 ≤ z1 ∧ z1 ≤ 10) (h5 : 0 ≤ z1527 ∧ z1527 ≤ 1) : 0 ≤ z1527 ∧ z1527 ≤ 0 := by omega
theorem vc_X12_cone_80 {p1 p2 z1 z1527 z8 : Int} (h0 : (z1527 = 1 → 0 ≤ p2 ∧ p2 < z1)) (h1 : (z1527 = 0 → p2 < 0 ∨ z1 ≤ p2)) (h2 : z1527 = 0) (h3 : (z8 = 1 → 0 ≤ p1 ∧ p1 < z1)) (h4 : (z8 = 0 → p1 < 0 ∨ z1 ≤ p1)) (h5 : 0 ≤ p1 ∧ p1 < z1) (h6 : ¬ p2 = (-1)) (h7 : 0 ≤ p1 ∧ p1 ≤ 9) (h8 : (-2147483648) ≤ p2 ∧ p2 ≤ 2147483647) (h9 : 1 ≤ z1 ∧ z1 ≤ 10) (h10 : 0 ≤ z1527 ∧ z1527 ≤ 0) (h11 : 1 ≤ z8 ∧ z8 ≤ 1) : z1527 = 0 := by omega
set_option maxRecDepth 4000 in
set_option maxHeartbeats 4000000 in
theorem c_X12_cone {l : Launch} {D : va_G} {c : Nat → ClassId} {H0 : Heap} {sa : Nat × Nat × (Nat → Int32)} {w : mW} {μ : mM} (hw : mWF w) (hT : mT w μ) {p1 : Int} (hp1 : (-2147483648) ≤ p1 ∧ p1 ≤ 2147483647) {p2 : Int} (hp2 : (-2147483648) ≤ p2 ∧ p2 ≤ 2147483647) : sC (gG l D c H0 sa) mX12_cone 3 0 0 [.ref 106, iv p1, iv p2] (mk w μ) (qI w [116999] μ (fun z μ1 => ((-2147483648) ≤ z ∧ z ≤ 2147483647) ∧ True)) := by
  refine sC.of rfl (by decide) (le_t rfl) ?_
  refine mr_lvE (lv' := [(0, .ref 106), (1, iv p1), (2, iv p2)]) rfl ?_
  refine sv_aload_n (pc := 0) dX12_cone_0 rfl rfl ?_
  refine mr_iload_n (pc := 1) (z := p1) dX12_cone_1 rfl rfl ?_
  obtain ⟨z1, q2⟩ : ∃ z, μ 106 5 = z := ⟨_, rfl⟩
  have h3 : (0 ≤ z1 ∧ z1 ≤ 10) := by rw [← q2]; exact hT 106 106 (A_106 hw) 5
  refine mr_cVP (pc := 2) (c_X12_isDomain hw hT hp1 q2) (gOk _ _ _ _ _) dX12_cone_2 (tX12_isDomain _ _ _ _ _) ⟨wV_X12_isDomain, wL_X12_isDomain⟩ wM_X12_49 (gCX12 _ _ _ _ _) rfl (A_106 hw) rfl ⟨le_t rfl, le_t rfl⟩ ⟨le_t rfl, le_t rfl⟩ rfl (le_t rfl) fun z8 h7 => ?_
  refine mr_if_eq (pc := 5) (tgt := 21) dX12_cone_5 (by decide) (r32 h7.1 rfl) (fun h9 => ?_) (fun h9 => ?_)
  · have h10 : 0 ≤ z8 ∧ z8 ≤ 0 := (vc_X12_cone_1 h9 h7.2.1 h7.2.2.1 hp1 h3 h7.1)
    have h11 : p1 < 0 ∨ z1 ≤ p1 := (h7.2.2.1 (vc_X12_cone_2 h7.2.1 h7.2.2.1 h9 hp1 h3 h10))
    refine mr_iconst (pc := 21) (z := (-1)) dX12_cone_21 ?_
    exact mr_iret dX12_cone_22 rfl (le_t rfl) (le_t rfl) hT mF.refl ⟨(rW (c := (-2147483648)) (d := 2147483647) (rR (x := (-1))) rfl), trivial⟩
  have h12 : 1 ≤ z8 ∧ z8 ≤ 1 := (vc_X12_cone_3 h9 h7.2.1 h7.2.2.1 hp1 h3 h7.1)
  have h13 : 0 ≤ p1 ∧ p1 < z1 := (h7.2.1 (vc_X12_cone_4 h7.2.1 h7.2.2.1 h9 hp1 h3 h12))
  have h14 : 0 ≤ p1 ∧ p1 ≤ 9 := (vc_X12_cone_5 h13 h7.2.1 h7.2.2.1 hp1 h3 h12)
  have h15 : 1 ≤ z1 ∧ z1 ≤ 10 := (vc_X12_cone_6 h13 h7.2.1 h7.2.2.1 h14 h3 h12)
  refine mr_iload_n (pc := 8) (z := p2) dX12_cone_8 rfl rfl ?_
  refine mr_iconst (pc := 9) (z := (-1)) dX12_cone_9 ?_
  refine mr_icmp_eq (pc := 10) (tgt := 23) dX12_cone_10 (by decide) hp2 (r32 (rR (x := (-1))) rfl) (fun h16 => ?_) (fun h16 => ?_)
  · have h17 : (-1) ≤ p2 ∧ p2 ≤ (-1) := (vc_X12_cone_7 h16 hp2)
    refine mr_iconst (pc := 23) (z := 0) dX12_cone_23 ?_
    refine mr_istore_n (pc := 24) (lv' := [(3, iv 0), (0, .ref 106), (1, iv p1), (2, iv p2)]) dX12_cone_24 rfl (by decide) rfl ?_
    have L482 : ∀ (nL482 : Nat) (z480 : Int) (μ481 : mM), mT w μ481 → mF [116999] w μ μ481 → (0 ≤ z480 ∧ z480 ≤ 10) → (11 - z480) < (nL482 : Int) → sV (gG l D c H0 sa) mX12_cone (sRm 3 0 0) (sZ (gG l D c H0 sa) 0 0 (qI w [116999] μ (fun z μ1 => ((-2147483648) ≤ z ∧ z ≤ 2147483647) ∧ True))) 25 [(0, .ref 106), (1, iv p1), (2, iv p2), (3, iv z480)] [] (mk w μ481) 0 0 := by
      intro nL482
      induction nL482 with
      | zero => intro z480 μ481 T484 F485 h483 h487; exact ((vc_X12_cone_8 h487 h483)).elim
      | succ nL482 ih488 =>
        intro z480 μ481 T484 F485 h483 h487
        refine mr_iload_n (pc := 25) (z := z480) dX12_cone_25 rfl rfl ?_
        refine mr_bipush (pc := 26) (z := 10) dX12_cone_26 (by decide) ?_
        refine mr_icmp_ge (pc := 28) (tgt := 53) dX12_cone_28 (by decide) (r32 h483 rfl) (r32 (rR (x := 10)) rfl) (fun h497 => ?_) (fun h497 => ?_)
        · have h498 : 10 ≤ z480 ∧ z480 ≤ 10 := (vc_X12_cone_9 h497 h483)
          refine mr_iconst (pc := 53) (z := 1) dX12_cone_53 ?_
          refine mr_istore_n (pc := 54) (lv' := [(3, iv 1), (0, .ref 106), (1, iv p1), (2, iv p2)]) dX12_cone_54 rfl (by decide) rfl ?_
          have L768 : ∀ (nL768 : Nat) (z766 : Int) (μ767 : mM) (f_c : Int), mT w μ767 → mF [116999] w μ481 μ767 → cnt μ767 116 10 = f_c → (0 ≤ z766 ∧ z766 ≤ 1) → ((2 * (10 - f_c)) + z766) < (nL768 : Int) → sV (gG l D c H0 sa) mX12_cone (sRm 3 0 0) (sZ (gG l D c H0 sa) 0 0 (qI w [116999] μ (fun z μ1 => ((-2147483648) ≤ z ∧ z ≤ 2147483647) ∧ True))) 55 [(0, .ref 106), (2, iv p2), (3, iv z766)] [] (mk w μ767) 0 0 := by
            intro nL768
            induction nL768 with
            | zero => intro z766 μ767 f_c T770 F771 q774 h769 h773; exact ((vc_X12_cone_10 h773 (by rw [← q774]; exact cnt_rng (fun i => T770 116 116 (A_116 hw) i) 10) h769)).elim
            | succ nL768 ih775 =>
              intro z766 μ767 f_c T770 F771 q774 h769 h773
              have h776 : 0 ≤ f_c ∧ f_c ≤ 10 := by rw [← q774]; exact cnt_rng (fun i => T770 116 116 (A_116 hw) i) 10
              refine mr_iload_n (pc := 55) (z := z766) dX12_cone_55 rfl rfl ?_
              refine mr_if_eq (pc := 56) (tgt := 147) dX12_cone_56 (by decide) (r32 h769 rfl) (fun h849 => ?_) (fun h849 => ?_)
              · have h850 : 0 ≤ z766 ∧ z766 ≤ 0 := (vc_X12_cone_11 h849 h769)
                refine mr_iconst (pc := 147) (z := 0) dX12_cone_147 ?_
                refine mr_istore (pc := 148) (lv' := [(4, iv 0), (0, .ref 106), (2, iv p2), (3, iv z766)]) dX12_cone_148 (by decide) rfl ?_
                refine mr_iconst (pc := 150) (z := 0) dX12_cone_150 ?_
                refine mr_istore (pc := 151) (lv' := [(5, iv 0), (4, iv 0), (0, .ref 106), (2, iv p2), (3, iv z766)]) dX12_cone_151 (by decide) rfl ?_
                have L983 : ∀ (nL983 : Nat) (z982 z981 : Int), True → ((-2147483648) ≤ z982 ∧ z982 ≤ 2147483647) → (0 ≤ z981 ∧ z981 ≤ 10) → (11 - z981) < (nL983 : Int) → sV (gG l D c H0 sa) mX12_cone (sRm 3 0 0) (sZ (gG l D c H0 sa) 0 0 (qI w [116999] μ (fun z μ1 => ((-2147483648) ≤ z ∧ z ≤ 2147483647) ∧ True))) 153 [(0, .ref 106), (2, iv p2), (4, iv z982), (5, iv z981)] [] (mk w μ767) 0 0 := by
                  intro nL983
                  induction nL983 with
                  | zero => intro z982 z981 _ h984 h985 h989; exact ((vc_X12_cone_12 h989 h985)).elim
                  | succ nL983 ih990 =>
                    intro z982 z981 _ h984 h985 h989
                    refine mr_iload (pc := 153) (z := z981) dX12_cone_153 rfl ?_
                    refine sv_aload_n (pc := 155) dX12_cone_155 rfl rfl ?_
                    refine gk_X12_5 (pc := 156) dX12_cone_156 wF_X12_34 (A_106 hw) (F771.f (A_106 hw) rfl (F485.f (A_106 hw) rfl q2)) ?_
                    refine mr_icmp_ge (pc := 159) (tgt := 188) dX12_cone_159 (by decide) (r32 h985 rfl) (r32 h15 rfl) (fun h1000 => ?_) (fun h1000 => ?_)
                    · have h1001 : 1 ≤ z981 ∧ z981 ≤ 10 := (vc_X12_cone_13 h1000 h7.2.1 h7.2.2.1 h13 h14 h15 h12 h985)
                      refine mr_iload_n (pc := 188) (z := p2) dX12_cone_188 rfl rfl ?_
                      refine mr_if_ge (pc := 189) (tgt := 197) dX12_cone_189 (by decide) (r32 h17 rfl) (fun h => ((vc_X12_cone_14 h h17)).elim) (fun _ => ?_)
                      refine mr_iload (pc := 192) (z := z982) dX12_cone_192 rfl ?_
                      refine sv_goto (pc := 194) (tgt := 211) dX12_cone_194 (by decide) ?_
                      exact mr_iret dX12_cone_211 rfl (le_t rfl) (le_t rfl) T770 (mF.call (mF.call mF.refl F485 rfl) F771 rfl) ⟨h984, trivial⟩
                    have h1002 : 0 ≤ z981 ∧ z981 ≤ 9 := (vc_X12_cone_15 h1000 h7.2.1 h7.2.2.1 h13 h14 h15 h12 h985)
                    refine mr_iload (pc := 162) (z := z982) dX12_cone_162 rfl ?_
                    refine sv_aload_n (pc := 164) dX12_cone_164 rfl rfl ?_
                    refine gf_X12_13 (pc := 165) dX12_cone_165 wF_X12_69 (A_106 hw) T770 ?_
                    refine mr_iload (pc := 168) (z := z981) dX12_cone_168 rfl ?_
                    refine la_116 (pc := 170) dX12_cone_170 (A_116 hw) T770 (rIx (n := 10) h1002 rfl) fun z1003 q1004 h1005 => ?_
                    refine mr_if_eq (pc := 171) (tgt := 178) dX12_cone_171 (by decide) (r32 h1005 rfl) (fun h1008 => ?_) (fun h1008 => ?_)
                    · have h1009 : 0 ≤ z1003 ∧ z1003 ≤ 0 := (vc_X12_cone_16 h1008 h1005)
                      refine mr_iconst (pc := 178) (z := 0) dX12_cone_178 ?_
                      refine mr_iadd (pc := 179) (x := z982) (y := 0) dX12_cone_179 ?_
                      refine mr_istore (pc := 180) (lv' := [(4, iv (z982 + 0)), (0, .ref 106), (2, iv p2), (5, iv z981)]) dX12_cone_180 (by decide) rfl ?_
                      refine mr_iinc (pc := 182) (lv' := [(5, iv (z981 + 1)), (4, iv (z982 + 0)), (0, .ref 106), (2, iv p2)]) dX12_cone_182 rfl (by decide) rfl ?_
                      refine sv_goto (pc := 185) (tgt := 153) dX12_cone_185 (by decide) ?_
                      refine mr_lvS (lv' := [(0, .ref 106), (2, iv p2), (4, iv (z982 + 0)), (5, iv (z981 + 1))]) (List.forall_mem_cons.mpr ⟨rfl, List.forall_mem_cons.mpr ⟨rfl, List.forall_mem_cons.mpr ⟨rfl, List.forall_mem_cons.mpr ⟨rfl, fun _ h => absurd h List.not_mem_nil⟩⟩⟩⟩) ?_
                      exact ih990 (z982 + 0) (z981 + 1) trivial (rAdd (e := (-2147483648)) (f := 2147483647) h984 (rR (x := 0)) rfl) (rW (c := 0) (d := 10) (rAdd (e := 1) (f := 10) h1002 (rR (x := 1)) rfl) rfl) (vc_X12_cone_17 (nS h989) h1000 h7.2.1 h7.2.2.1 h13 h14 h15 h12 h1002)
                    have h1010 : 1 ≤ z1003 ∧ z1003 ≤ 1 := (vc_X12_cone_18 h1008 h1005)
                    refine mr_iconst (pc := 174) (z := 1) dX12_cone_174 ?_
                    refine sv_goto (pc := 175) (tgt := 179) dX12_cone_175 (by decide) ?_
                    refine mr_iadd (pc := 179) (x := z982) (y := 1) dX12_cone_179 ?_
                    refine mr_wrap fun z1011 h1012 => ?_
                    refine mr_istore (pc := 180) (lv' := [(4, iv z1011), (0, .ref 106), (2, iv p2), (5, iv z981)]) dX12_cone_180 (by decide) rfl ?_
                    refine mr_iinc (pc := 182) (lv' := [(5, iv (z981 + 1)), (4, iv z1011), (0, .ref 106), (2, iv p2)]) dX12_cone_182 rfl (by decide) rfl ?_
                    refine sv_goto (pc := 185) (tgt := 153) dX12_cone_185 (by decide) ?_
                    refine mr_lvS (lv' := [(0, .ref 106), (2, iv p2), (4, iv z1011), (5, iv (z981 + 1))]) (List.forall_mem_cons.mpr ⟨rfl, List.forall_mem_cons.mpr ⟨rfl, List.forall_mem_cons.mpr ⟨rfl, List.forall_mem_cons.mpr ⟨rfl, fun _ h => absurd h List.not_mem_nil⟩⟩⟩⟩) ?_
                    exact ih990 z1011 (z981 + 1) trivial h1012 (rW (c := 0) (d := 10) (rAdd (e := 1) (f := 10) h1002 (rR (x := 1)) rfl) rfl) (vc_X12_cone_17 (nS h989) h1000 h7.2.1 h7.2.2.1 h13 h14 h15 h12 h1002)
                refine mr_lvS (lv' := [(0, .ref 106), (2, iv p2), (4, iv 0), (5, iv 0)]) (List.forall_mem_cons.mpr ⟨rfl, List.forall_mem_cons.mpr ⟨rfl, List.forall_mem_cons.mpr ⟨rfl, List.forall_mem_cons.mpr ⟨rfl, fun _ h => absurd h List.not_mem_nil⟩⟩⟩⟩) ?_
                exact L983 12 0 0 trivial (rW (c := (-2147483648)) (d := 2147483647) (rR (x := 0)) rfl) (rW (c := 0) (d := 10) (rR (x := 0)) rfl) vc_X12_cone_19
              have h1013 : 1 ≤ z766 ∧ z766 ≤ 1 := (vc_X12_cone_20 h849 h769)
              refine mr_iconst (pc := 59) (z := 0) dX12_cone_59 ?_
              refine mr_istore_n (pc := 60) (lv' := [(3, iv 0), (0, .ref 106), (2, iv p2)]) dX12_cone_60 rfl (by decide) rfl ?_
              refine mr_iconst (pc := 61) (z := 0) dX12_cone_61 ?_
              refine mr_istore (pc := 62) (lv' := [(4, iv 0), (3, iv 0), (0, .ref 106), (2, iv p2)]) dX12_cone_62 (by decide) rfl ?_
              have L1402 : ∀ (nL1402 : Nat) (z1400 z1399 : Int) (μ1401 : mM) (f_d : Int), mT w μ1401 → mF [116999] w μ767 μ1401 → cnt μ1401 116 10 = f_d → (0 ≤ z1400 ∧ z1400 ≤ 1) → (0 ≤ z1399 ∧ z1399 ≤ 20) → (f_c ≤ f_d) → (z1400 = 0 ∨ f_c + 1 ≤ f_d) → (21 - z1399) < (nL1402 : Int) → sV (gG l D c H0 sa) mX12_cone (sRm 3 0 0) (sZ (gG l D c H0 sa) 0 0 (qI w [116999] μ (fun z μ1 => ((-2147483648) ≤ z ∧ z ≤ 2147483647) ∧ True))) 64 [(0, .ref 106), (2, iv p2), (3, iv z1400), (4, iv z1399)] [] (mk w μ1401) 0 0 := by
                intro nL1402
                induction nL1402 with
                | zero => intro z1400 z1399 μ1401 f_d T1405 F1406 q1411 h1403 h1404 h1408 h1409 h1410; exact ((vc_X12_cone_21 h1410 (by rw [← q1411]; exact cnt_rng (fun i => T1405 116 116 (A_116 hw) i) 10) h1408 h1409 h776 h1404 h1403)).elim
                | succ nL1402 ih1412 =>
                  intro z1400 z1399 μ1401 f_d T1405 F1406 q1411 h1403 h1404 h1408 h1409 h1410
                  have h1413 : 0 ≤ f_d ∧ f_d ≤ 10 := by rw [← q1411]; exact cnt_rng (fun i => T1405 116 116 (A_116 hw) i) 10
                  refine mr_iload (pc := 64) (z := z1399) dX12_cone_64 rfl ?_
                  refine sv_aload_n (pc := 66) dX12_cone_66 rfl rfl ?_
                  refine gf_X12_6 (pc := 67) dX12_cone_67 wF_X12_37 (A_106 hw) T1405 fun z1414 q1415 h1416 => ?_
                  refine mr_icmp_ge (pc := 70) (tgt := 144) dX12_cone_70 (by decide) (r32 h1404 rfl) (r32 h1416 rfl) (fun h1443 => ?_) (fun h1443 => ?_)
                  · refine sv_goto (pc := 144) (tgt := 55) dX12_cone_144 (by decide) ?_
                    refine mr_lvS (lv' := [(0, .ref 106), (2, iv p2), (3, iv z1400)]) (List.forall_mem_cons.mpr ⟨rfl, List.forall_mem_cons.mpr ⟨rfl, List.forall_mem_cons.mpr ⟨rfl, fun _ h => absurd h List.not_mem_nil⟩⟩⟩) ?_
                    exact ih775 z1400 μ1401 f_d T1405 (mF.call (mF.call mF.refl F771 rfl) F1406 rfl) q1411 h1403 (vc_X12_cone_22 (nS h773) h849 h1408 h1409 h776 h1413 h1403 h1013)
                  have h1444 : 0 ≤ z1399 ∧ z1399 ≤ 19 := (vc_X12_cone_23 h1443 h1404 h1416)
                  have h1445 : 1 ≤ z1414 ∧ z1414 ≤ 20 := (vc_X12_cone_24 h1443 h1444 h1416)
                  refine sv_aload_n (pc := 73) dX12_cone_73 rfl rfl ?_
                  refine gf_X12_8 (pc := 74) dX12_cone_74 wF_X12_46 (A_106 hw) T1405 ?_
                  refine mr_iload (pc := 77) (z := z1399) dX12_cone_77 rfl ?_
                  refine la_111 (pc := 79) dX12_cone_79 (A_111 hw) T1405 (rIx (n := 20) h1444 rfl) fun z1446 q1447 h1448 => ?_
                  refine mr_if_ne (pc := 80) (tgt := 138) dX12_cone_80 (by decide) (r32 h1448 rfl) (fun h1470 => ?_) (fun h1470 => ?_)
                  · have h1471 : 1 ≤ z1446 ∧ z1446 ≤ 2 := (vc_X12_cone_25 h1470 h1448)
                    refine mr_iinc (pc := 138) (lv' := [(4, iv (z1399 + 1)), (0, .ref 106), (2, iv p2), (3, iv z1400)]) dX12_cone_138 rfl (by decide) rfl ?_
                    refine sv_goto (pc := 141) (tgt := 64) dX12_cone_141 (by decide) ?_
                    refine mr_lvS (lv' := [(0, .ref 106), (2, iv p2), (3, iv z1400), (4, iv (z1399 + 1))]) (List.forall_mem_cons.mpr ⟨rfl, List.forall_mem_cons.mpr ⟨rfl, List.forall_mem_cons.mpr ⟨rfl, List.forall_mem_cons.mpr ⟨rfl, fun _ h => absurd h List.not_mem_nil⟩⟩⟩⟩) ?_
                    exact ih1412 z1400 (z1399 + 1) μ1401 f_d T1405 (mF.call mF.refl F1406 rfl) q1411 h1403 (rW (c := 0) (d := 20) (rAdd (e := 1) (f := 20) h1444 (rR (x := 1)) rfl) rfl) (vc_X12_cone_26 h1408 h1409 h776 h1413 h1403) (vc_X12_cone_27 h1408 h1409 h776 h1413 h1403) (vc_X12_cone_28 (nS h1410) h1443 h1444 h1445)
                  have h1472 : 0 ≤ z1446 ∧ z1446 ≤ 0 := (vc_X12_cone_29 h1470 h1448)
                  refine sv_aload_n (pc := 83) dX12_cone_83 rfl rfl ?_
                  refine gf_X12_13 (pc := 84) dX12_cone_84 wF_X12_69 (A_106 hw) T1405 ?_
                  refine sv_aload_n (pc := 87) dX12_cone_87 rfl rfl ?_
                  refine gf_X12_7 (pc := 88) dX12_cone_88 wF_X12_40 (A_106 hw) T1405 ?_
                  refine mr_iconst (pc := 91) (z := 2) dX12_cone_91 ?_
                  refine mr_iload (pc := 92) (z := z1399) dX12_cone_92 rfl ?_
                  refine mr_imul (pc := 94) (x := 2) (y := z1399) dX12_cone_94 ?_
                  refine la_110 (pc := 95) dX12_cone_95 (A_110 hw) T1405 (rIx (n := 40) (rMulL (n := 2) (e := 0) (f := 38) h1444 rfl) rfl) fun z1473 q1474 h1475 => ?_
                  refine la_116 (pc := 96) dX12_cone_96 (A_116 hw) T1405 (rIx (n := 10) h1475 rfl) fun z1476 q1477 h1478 => ?_
                  refine mr_if_eq (pc := 97) (tgt := 138) dX12_cone_97 (by decide) (r32 h1478 rfl) (fun h1492 => ?_) (fun h1492 => ?_)
                  · have h1493 : 0 ≤ z1476 ∧ z1476 ≤ 0 := (vc_X12_cone_30 h1492 h1478)
                    refine mr_iinc (pc := 138) (lv' := [(4, iv (z1399 + 1)), (0, .ref 106), (2, iv p2), (3, iv z1400)]) dX12_cone_138 rfl (by decide) rfl ?_
                    refine sv_goto (pc := 141) (tgt := 64) dX12_cone_141 (by decide) ?_
                    refine mr_lvS (lv' := [(0, .ref 106), (2, iv p2), (3, iv z1400), (4, iv (z1399 + 1))]) (List.forall_mem_cons.mpr ⟨rfl, List.forall_mem_cons.mpr ⟨rfl, List.forall_mem_cons.mpr ⟨rfl, List.forall_mem_cons.mpr ⟨rfl, fun _ h => absurd h List.not_mem_nil⟩⟩⟩⟩) ?_
                    exact ih1412 z1400 (z1399 + 1) μ1401 f_d T1405 (mF.call mF.refl F1406 rfl) q1411 h1403 (rW (c := 0) (d := 20) (rAdd (e := 1) (f := 20) h1444 (rR (x := 1)) rfl) rfl) (vc_X12_cone_26 h1408 h1409 h776 h1413 h1403) (vc_X12_cone_27 h1408 h1409 h776 h1413 h1403) (vc_X12_cone_28 (nS h1410) h1443 h1444 h1445)
                  have h1494 : 1 ≤ z1476 ∧ z1476 ≤ 1 := (vc_X12_cone_31 h1492 h1478)
                  refine sv_aload_n (pc := 100) dX12_cone_100 rfl rfl ?_
                  refine gf_X12_13 (pc := 101) dX12_cone_101 wF_X12_69 (A_106 hw) T1405 ?_
                  refine sv_aload_n (pc := 104) dX12_cone_104 rfl rfl ?_
                  refine gf_X12_7 (pc := 105) dX12_cone_105 wF_X12_40 (A_106 hw) T1405 ?_
                  refine mr_iconst (pc := 108) (z := 2) dX12_cone_108 ?_
                  refine mr_iload (pc := 109) (z := z1399) dX12_cone_109 rfl ?_
                  refine mr_imul (pc := 111) (x := 2) (y := z1399) dX12_cone_111 ?_
                  refine mr_iconst (pc := 112) (z := 1) dX12_cone_112 ?_
                  refine mr_iadd (pc := 113) (x := (2 * z1399)) (y := 1) dX12_cone_113 ?_
                  refine la_110 (pc := 114) dX12_cone_114 (A_110 hw) T1405 (rIx (n := 40) (rAdd (e := 1) (f := 39) (rMulL (n := 2) (e := 0) (f := 38) h1444 rfl) (rR (x := 1)) rfl) rfl) fun z1495 q1496 h1497 => ?_
                  refine la_116 (pc := 115) dX12_cone_115 (A_116 hw) T1405 (rIx (n := 10) h1497 rfl) fun z1498 q1499 h1500 => ?_
                  refine mr_if_ne (pc := 116) (tgt := 138) dX12_cone_116 (by decide) (r32 h1500 rfl) (fun h1506 => ?_) (fun h1506 => ?_)
                  · have h1507 : 1 ≤ z1498 ∧ z1498 ≤ 1 := (vc_X12_cone_32 h1506 h1500)
                    refine mr_iinc (pc := 138) (lv' := [(4, iv (z1399 + 1)), (0, .ref 106), (2, iv p2), (3, iv z1400)]) dX12_cone_138 rfl (by decide) rfl ?_
                    refine sv_goto (pc := 141) (tgt := 64) dX12_cone_141 (by decide) ?_
                    refine mr_lvS (lv' := [(0, .ref 106), (2, iv p2), (3, iv z1400), (4, iv (z1399 + 1))]) (List.forall_mem_cons.mpr ⟨rfl, List.forall_mem_cons.mpr ⟨rfl, List.forall_mem_cons.mpr ⟨rfl, List.forall_mem_cons.mpr ⟨rfl, fun _ h => absurd h List.not_mem_nil⟩⟩⟩⟩) ?_
                    exact ih1412 z1400 (z1399 + 1) μ1401 f_d T1405 (mF.call mF.refl F1406 rfl) q1411 h1403 (rW (c := 0) (d := 20) (rAdd (e := 1) (f := 20) h1444 (rR (x := 1)) rfl) rfl) (vc_X12_cone_26 h1408 h1409 h776 h1413 h1403) (vc_X12_cone_27 h1408 h1409 h776 h1413 h1403) (vc_X12_cone_28 (nS h1410) h1443 h1444 h1445)
                  have h1508 : 0 ≤ z1498 ∧ z1498 ≤ 0 := (vc_X12_cone_33 h1506 h1500)
                  refine sv_aload_n (pc := 119) dX12_cone_119 rfl rfl ?_
                  refine gf_X12_13 (pc := 120) dX12_cone_120 wF_X12_69 (A_106 hw) T1405 ?_
                  refine sv_aload_n (pc := 123) dX12_cone_123 rfl rfl ?_
                  refine gf_X12_7 (pc := 124) dX12_cone_124 wF_X12_40 (A_106 hw) T1405 ?_
                  refine mr_iconst (pc := 127) (z := 2) dX12_cone_127 ?_
                  refine mr_iload (pc := 128) (z := z1399) dX12_cone_128 rfl ?_
                  refine mr_imul (pc := 130) (x := 2) (y := z1399) dX12_cone_130 ?_
                  refine mr_iconst (pc := 131) (z := 1) dX12_cone_131 ?_
                  refine mr_iadd (pc := 132) (x := (2 * z1399)) (y := 1) dX12_cone_132 ?_
                  refine lk_110 (pc := 133) dX12_cone_133 (A_110 hw) (rIx (n := 40) (rAdd (e := 1) (f := 39) (rMulL (n := 2) (e := 0) (f := 38) h1444 rfl) (rR (x := 1)) rfl) rfl) q1496 ?_
                  refine mr_iconst (pc := 134) (z := 1) dX12_cone_134 ?_
                  refine ss_116 (pc := 135) dX12_cone_135 (A_116 hw) T1405 (rIx (n := 10) h1497 rfl) (rW (c := 0) (d := 1) (rR (x := 1)) rfl) fun μ1509 u1510 T1511 => ?_
                  refine mr_iconst (pc := 136) (z := 1) dX12_cone_136 ?_
                  refine mr_istore_n (pc := 137) (lv' := [(3, iv 1), (0, .ref 106), (2, iv p2), (4, iv z1399)]) dX12_cone_137 rfl (by decide) rfl ?_
                  refine mr_iinc (pc := 138) (lv' := [(4, iv (z1399 + 1)), (3, iv 1), (0, .ref 106), (2, iv p2)]) dX12_cone_138 rfl (by decide) rfl ?_
                  refine sv_goto (pc := 141) (tgt := 64) dX12_cone_141 (by decide) ?_
                  refine mr_lvS (lv' := [(0, .ref 106), (2, iv p2), (3, iv 1), (4, iv (z1399 + 1))]) (List.forall_mem_cons.mpr ⟨rfl, List.forall_mem_cons.mpr ⟨rfl, List.forall_mem_cons.mpr ⟨rfl, List.forall_mem_cons.mpr ⟨rfl, fun _ h => absurd h List.not_mem_nil⟩⟩⟩⟩) ?_
                  exact ih1412 1 (z1399 + 1) μ1509 ((f_d + 1) - z1498) T1511 (mF.up (mF.call mF.refl F1406 rfl) (A_116 hw) u1510 rfl) (cntU u1510 (rIx (n := 10) h1497 rfl) rfl q1411 q1499) (rW (c := 0) (d := 1) (rR (x := 1)) rfl) (rW (c := 0) (d := 20) (rAdd (e := 1) (f := 20) h1444 (rR (x := 1)) rfl) rfl) (vc_X12_cone_34 h1408 h1409 h1506 h776 h1413 h1403 h1508) (vc_X12_cone_35 h1408 h1409 h1506 h776 h1413 h1403 h1508) (vc_X12_cone_28 (nS h1410) h1443 h1444 h1445)
              refine mr_lvS (lv' := [(0, .ref 106), (2, iv p2), (3, iv 0), (4, iv 0)]) (List.forall_mem_cons.mpr ⟨rfl, List.forall_mem_cons.mpr ⟨rfl, List.forall_mem_cons.mpr ⟨rfl, List.forall_mem_cons.mpr ⟨rfl, fun _ h => absurd h List.not_mem_nil⟩⟩⟩⟩) ?_
              exact L1402 22 0 0 μ767 f_c T770 mF.refl q774 (rW (c := 0) (d := 1) (rR (x := 0)) rfl) (rW (c := 0) (d := 20) (rR (x := 0)) rfl) (vc_X12_cone_36 h776) (vc_X12_cone_37 h776) vc_X12_cone_38
          obtain ⟨z1512, q1513⟩ : ∃ z, cnt μ481 116 10 = z := ⟨_, rfl⟩
          have h1514 : 0 ≤ z1512 ∧ z1512 ≤ 10 := by rw [← q1513]; exact cnt_rng (fun i => T484 116 116 (A_116 hw) i) 10
          refine mr_lvS (lv' := [(0, .ref 106), (2, iv p2), (3, iv 1)]) (List.forall_mem_cons.mpr ⟨rfl, List.forall_mem_cons.mpr ⟨rfl, List.forall_mem_cons.mpr ⟨rfl, fun _ h => absurd h List.not_mem_nil⟩⟩⟩) ?_
          exact L768 22 1 μ481 z1512 T484 mF.refl q1513 (rW (c := 0) (d := 1) (rR (x := 1)) rfl) (vc_X12_cone_39 h1514)
        have h1515 : 0 ≤ z480 ∧ z480 ≤ 9 := (vc_X12_cone_40 h497 h483)
        refine sv_aload_n (pc := 31) dX12_cone_31 rfl rfl ?_
        refine gf_X12_13 (pc := 32) dX12_cone_32 wF_X12_69 (A_106 hw) T484 ?_
        refine mr_iload_n (pc := 35) (z := z480) dX12_cone_35 rfl rfl ?_
        refine mr_iload_n (pc := 36) (z := z480) dX12_cone_36 rfl rfl ?_
        refine mr_iload_n (pc := 37) (z := p1) dX12_cone_37 rfl rfl ?_
        refine mr_icmp_ne (pc := 38) (tgt := 45) dX12_cone_38 (by decide) (r32 h1515 rfl) (r32 h14 rfl) (fun h1516 => ?_) (fun h1516 => ?_)
        · refine mr_iconst (pc := 45) (z := 0) dX12_cone_45 ?_
          refine ss_116 (pc := 46) dX12_cone_46 (A_116 hw) T484 (rIx (n := 10) h1515 rfl) (rW (c := 0) (d := 1) (rR (x := 0)) rfl) fun μ1517 u1518 T1519 => ?_
          refine mr_iinc (pc := 47) (lv' := [(3, iv (z480 + 1)), (0, .ref 106), (1, iv p1), (2, iv p2)]) dX12_cone_47 rfl (by decide) rfl ?_
          refine sv_goto (pc := 50) (tgt := 25) dX12_cone_50 (by decide) ?_
          refine mr_lvS (lv' := [(0, .ref 106), (1, iv p1), (2, iv p2), (3, iv (z480 + 1))]) (List.forall_mem_cons.mpr ⟨rfl, List.forall_mem_cons.mpr ⟨rfl, List.forall_mem_cons.mpr ⟨rfl, List.forall_mem_cons.mpr ⟨rfl, fun _ h => absurd h List.not_mem_nil⟩⟩⟩⟩) ?_
          exact ih488 (z480 + 1) μ1517 T1519 (mF.up (mF.call mF.refl F485 rfl) (A_116 hw) u1518 rfl) (rW (c := 0) (d := 10) (rAdd (e := 1) (f := 10) h1515 (rR (x := 1)) rfl) rfl) (vc_X12_cone_41 (nS h487) h497 h1516 h7.2.1 h7.2.2.1 h13 h14 h15 h1515 h12)
        refine mr_iconst (pc := 41) (z := 1) dX12_cone_41 ?_
        refine sv_goto (pc := 42) (tgt := 46) dX12_cone_42 (by decide) ?_
        refine ss_116 (pc := 46) dX12_cone_46 (A_116 hw) T484 (rIx (n := 10) h1515 rfl) (rW (c := 0) (d := 1) (rR (x := 1)) rfl) fun μ1520 u1521 T1522 => ?_
        refine mr_iinc (pc := 47) (lv' := [(3, iv (z480 + 1)), (0, .ref 106), (1, iv p1), (2, iv p2)]) dX12_cone_47 rfl (by decide) rfl ?_
        refine sv_goto (pc := 50) (tgt := 25) dX12_cone_50 (by decide) ?_
        refine mr_lvS (lv' := [(0, .ref 106), (1, iv p1), (2, iv p2), (3, iv (z480 + 1))]) (List.forall_mem_cons.mpr ⟨rfl, List.forall_mem_cons.mpr ⟨rfl, List.forall_mem_cons.mpr ⟨rfl, List.forall_mem_cons.mpr ⟨rfl, fun _ h => absurd h List.not_mem_nil⟩⟩⟩⟩) ?_
        exact ih488 (z480 + 1) μ1520 T1522 (mF.up (mF.call mF.refl F485 rfl) (A_116 hw) u1521 rfl) (rW (c := 0) (d := 10) (rAdd (e := 1) (f := 10) h1515 (rR (x := 1)) rfl) rfl) (vc_X12_cone_42 (nS h487) h497 h1516 h7.2.1 h7.2.2.1 h13 h14 h15 h1515 h12)
    refine mr_lvS (lv' := [(0, .ref 106), (1, iv p1), (2, iv p2), (3, iv 0)]) (List.forall_mem_cons.mpr ⟨rfl, List.forall_mem_cons.mpr ⟨rfl, List.forall_mem_cons.mpr ⟨rfl, List.forall_mem_cons.mpr ⟨rfl, fun _ h => absurd h List.not_mem_nil⟩⟩⟩⟩) ?_
    exact L482 12 0 μ hT mF.refl (rW (c := 0) (d := 10) (rR (x := 0)) rfl) vc_X12_cone_19
  refine sv_aload_n (pc := 13) dX12_cone_13 rfl rfl ?_
  refine mr_iload_n (pc := 14) (z := p2) dX12_cone_14 rfl rfl ?_
  refine mr_cVP (pc := 15) (c_X12_isDomain hw hT hp2 q2) (gOk _ _ _ _ _) dX12_cone_15 (tX12_isDomain _ _ _ _ _) ⟨wV_X12_isDomain, wL_X12_isDomain⟩ wM_X12_49 (gCX12 _ _ _ _ _) rfl (A_106 hw) rfl ⟨le_t rfl, le_t rfl⟩ ⟨le_t rfl, le_t rfl⟩ rfl (le_t rfl) fun z1527 h1526 => ?_
  refine mr_if_ne (pc := 18) (tgt := 23) dX12_cone_18 (by decide) (r32 h1526.1 rfl) (fun h1528 => ?_) (fun h1528 => ?_)
  · have h1529 : 1 ≤ z1527 ∧ z1527 ≤ 1 := (vc_X12_cone_43 h1528 h1526.2.1 h1526.2.2.1 hp2 h15 h1526.1)
    have h1530 : 0 ≤ p2 ∧ p2 < z1 := (h1526.2.1 (vc_X12_cone_44 h1526.2.1 h1526.2.2.1 h1528 h7.2.1 h7.2.2.1 h13 h16 h14 hp2 h15 h1529 h12))
    have h1531 : 0 ≤ p2 ∧ p2 ≤ 9 := (vc_X12_cone_45 h1530 h7.2.1 h7.2.2.1 h13 h16 h1526.2.1 h1526.2.2.1 h14 hp2 h15 h1529 h12)
    refine mr_iconst (pc := 23) (z := 0) dX12_cone_23 ?_
    refine mr_istore_n (pc := 24) (lv' := [(3, iv 0), (0, .ref 106), (1, iv p1), (2, iv p2)]) dX12_cone_24 rfl (by decide) rfl ?_
    have L2036 : ∀ (nL2036 : Nat) (z2034 : Int) (μ2035 : mM), mT w μ2035 → mF [116999] w μ μ2035 → (0 ≤ z2034 ∧ z2034 ≤ 10) → (11 - z2034) < (nL2036 : Int) → sV (gG l D c H0 sa) mX12_cone (sRm 3 0 0) (sZ (gG l D c H0 sa) 0 0 (qI w [116999] μ (fun z μ1 => ((-2147483648) ≤ z ∧ z ≤ 2147483647) ∧ True))) 25 [(0, .ref 106), (1, iv p1), (2, iv p2), (3, iv z2034)] [] (mk w μ2035) 0 0 := by
      intro nL2036
      induction nL2036 with
      | zero => intro z2034 μ2035 T2038 F2039 h2037 h2041; exact ((vc_X12_cone_46 h2041 h2037)).elim
      | succ nL2036 ih2042 =>
        intro z2034 μ2035 T2038 F2039 h2037 h2041
        refine mr_iload_n (pc := 25) (z := z2034) dX12_cone_25 rfl rfl ?_
        refine mr_bipush (pc := 26) (z := 10) dX12_cone_26 (by decide) ?_
        refine mr_icmp_ge (pc := 28) (tgt := 53) dX12_cone_28 (by decide) (r32 h2037 rfl) (r32 (rR (x := 10)) rfl) (fun h2051 => ?_) (fun h2051 => ?_)
        · have h2052 : 10 ≤ z2034 ∧ z2034 ≤ 10 := (vc_X12_cone_47 h2051 h2037)
          refine mr_iconst (pc := 53) (z := 1) dX12_cone_53 ?_
          refine mr_istore_n (pc := 54) (lv' := [(3, iv 1), (0, .ref 106), (1, iv p1), (2, iv p2)]) dX12_cone_54 rfl (by decide) rfl ?_
          have L2342 : ∀ (nL2342 : Nat) (z2340 : Int) (μ2341 : mM) (f_c : Int), mT w μ2341 → mF [116999] w μ2035 μ2341 → cnt μ2341 116 10 = f_c → (0 ≤ z2340 ∧ z2340 ≤ 1) → ((2 * (10 - f_c)) + z2340) < (nL2342 : Int) → sV (gG l D c H0 sa) mX12_cone (sRm 3 0 0) (sZ (gG l D c H0 sa) 0 0 (qI w [116999] μ (fun z μ1 => ((-2147483648) ≤ z ∧ z ≤ 2147483647) ∧ True))) 55 [(0, .ref 106), (2, iv p2), (3, iv z2340)] [] (mk w μ2341) 0 0 := by
            intro nL2342
            induction nL2342 with
            | zero => intro z2340 μ2341 f_c T2344 F2345 q2348 h2343 h2347; exact ((vc_X12_cone_48 h2347 (by rw [← q2348]; exact cnt_rng (fun i => T2344 116 116 (A_116 hw) i) 10) h2343)).elim
            | succ nL2342 ih2349 =>
              intro z2340 μ2341 f_c T2344 F2345 q2348 h2343 h2347
              have h2350 : 0 ≤ f_c ∧ f_c ≤ 10 := by rw [← q2348]; exact cnt_rng (fun i => T2344 116 116 (A_116 hw) i) 10
              refine mr_iload_n (pc := 55) (z := z2340) dX12_cone_55 rfl rfl ?_
              refine mr_if_eq (pc := 56) (tgt := 147) dX12_cone_56 (by decide) (r32 h2343 rfl) (fun h2423 => ?_) (fun h2423 => ?_)
              · have h2424 : 0 ≤ z2340 ∧ z2340 ≤ 0 := (vc_X12_cone_49 h2423 h2343)
                refine mr_iconst (pc := 147) (z := 0) dX12_cone_147 ?_
                refine mr_istore (pc := 148) (lv' := [(4, iv 0), (0, .ref 106), (2, iv p2), (3, iv z2340)]) dX12_cone_148 (by decide) rfl ?_
                refine mr_iconst (pc := 150) (z := 0) dX12_cone_150 ?_
                refine mr_istore (pc := 151) (lv' := [(5, iv 0), (4, iv 0), (0, .ref 106), (2, iv p2), (3, iv z2340)]) dX12_cone_151 (by decide) rfl ?_
                have L2622 : ∀ (nL2622 : Nat) (z2621 z2620 : Int), True → ((-2147483648) ≤ z2621 ∧ z2621 ≤ 2147483647) → (0 ≤ z2620 ∧ z2620 ≤ 10) → (11 - z2620) < (nL2622 : Int) → sV (gG l D c H0 sa) mX12_cone (sRm 3 0 0) (sZ (gG l D c H0 sa) 0 0 (qI w [116999] μ (fun z μ1 => ((-2147483648) ≤ z ∧ z ≤ 2147483647) ∧ True))) 153 [(0, .ref 106), (2, iv p2), (4, iv z2621), (5, iv z2620)] [] (mk w μ2341) 0 0 := by
                  intro nL2622
                  induction nL2622 with
                  | zero => intro z2621 z2620 _ h2623 h2624 h2628; exact ((vc_X12_cone_50 h2628 h2624)).elim
                  | succ nL2622 ih2629 =>
                    intro z2621 z2620 _ h2623 h2624 h2628
                    refine mr_iload (pc := 153) (z := z2620) dX12_cone_153 rfl ?_
                    refine sv_aload_n (pc := 155) dX12_cone_155 rfl rfl ?_
                    refine gk_X12_5 (pc := 156) dX12_cone_156 wF_X12_34 (A_106 hw) (F2345.f (A_106 hw) rfl (F2039.f (A_106 hw) rfl q2)) ?_
                    refine mr_icmp_ge (pc := 159) (tgt := 188) dX12_cone_159 (by decide) (r32 h2624 rfl) (r32 h15 rfl) (fun h2639 => ?_) (fun h2639 => ?_)
                    · have h2640 : 1 ≤ z2620 ∧ z2620 ≤ 10 := (vc_X12_cone_51 h2639 h7.2.1 h7.2.2.1 h13 h1526.2.1 h1526.2.2.1 h1530 h14 h1531 h15 h1529 h2624 h12)
                      refine mr_iload_n (pc := 188) (z := p2) dX12_cone_188 rfl rfl ?_
                      refine mr_if_ge (pc := 189) (tgt := 197) dX12_cone_189 (by decide) (r32 h1531 rfl) (fun _ => ?_) (fun h => ((vc_X12_cone_52 h h1531)).elim)
                      refine sv_aload_n (pc := 197) dX12_cone_197 rfl rfl ?_
                      refine gf_X12_13 (pc := 198) dX12_cone_198 wF_X12_69 (A_106 hw) T2344 ?_
                      refine mr_iload_n (pc := 201) (z := p2) dX12_cone_201 rfl rfl ?_
                      refine la_116 (pc := 202) dX12_cone_202 (A_116 hw) T2344 (rIx (n := 10) h1531 rfl) fun z2641 q2642 h2643 => ?_
                      refine mr_if_eq (pc := 203) (tgt := 210) dX12_cone_203 (by decide) (r32 h2643 rfl) (fun h2646 => ?_) (fun h2646 => ?_)
                      · have h2647 : 0 ≤ z2641 ∧ z2641 ≤ 0 := (vc_X12_cone_53 h2646 h2643)
                        refine mr_iconst (pc := 210) (z := 0) dX12_cone_210 ?_
                        exact mr_iret dX12_cone_211 rfl (le_t rfl) (le_t rfl) T2344 (mF.call (mF.call mF.refl F2039 rfl) F2345 rfl) ⟨(rW (c := (-2147483648)) (d := 2147483647) (rR (x := 0)) rfl), trivial⟩
                      have h2648 : 1 ≤ z2641 ∧ z2641 ≤ 1 := (vc_X12_cone_54 h2646 h2643)
                      refine mr_iconst (pc := 206) (z := 1) dX12_cone_206 ?_
                      refine sv_goto (pc := 207) (tgt := 211) dX12_cone_207 (by decide) ?_
                      exact mr_iret dX12_cone_211 rfl (le_t rfl) (le_t rfl) T2344 (mF.call (mF.call mF.refl F2039 rfl) F2345 rfl) ⟨(rW (c := (-2147483648)) (d := 2147483647) (rR (x := 1)) rfl), trivial⟩
                    have h2649 : 0 ≤ z2620 ∧ z2620 ≤ 9 := (vc_X12_cone_55 h2639 h7.2.1 h7.2.2.1 h13 h1526.2.1 h1526.2.2.1 h1530 h14 h1531 h15 h1529 h2624 h12)
                    refine mr_iload (pc := 162) (z := z2621) dX12_cone_162 rfl ?_
                    refine sv_aload_n (pc := 164) dX12_cone_164 rfl rfl ?_
                    refine gf_X12_13 (pc := 165) dX12_cone_165 wF_X12_69 (A_106 hw) T2344 ?_
                    refine mr_iload (pc := 168) (z := z2620) dX12_cone_168 rfl ?_
                    refine la_116 (pc := 170) dX12_cone_170 (A_116 hw) T2344 (rIx (n := 10) h2649 rfl) fun z2650 q2651 h2652 => ?_
                    refine mr_if_eq (pc := 171) (tgt := 178) dX12_cone_171 (by decide) (r32 h2652 rfl) (fun h2655 => ?_) (fun h2655 => ?_)
                    · have h2656 : 0 ≤ z2650 ∧ z2650 ≤ 0 := (vc_X12_cone_56 h2655 h2652)
                      refine mr_iconst (pc := 178) (z := 0) dX12_cone_178 ?_
                      refine mr_iadd (pc := 179) (x := z2621) (y := 0) dX12_cone_179 ?_
                      refine mr_istore (pc := 180) (lv' := [(4, iv (z2621 + 0)), (0, .ref 106), (2, iv p2), (5, iv z2620)]) dX12_cone_180 (by decide) rfl ?_
                      refine mr_iinc (pc := 182) (lv' := [(5, iv (z2620 + 1)), (4, iv (z2621 + 0)), (0, .ref 106), (2, iv p2)]) dX12_cone_182 rfl (by decide) rfl ?_
                      refine sv_goto (pc := 185) (tgt := 153) dX12_cone_185 (by decide) ?_
                      refine mr_lvS (lv' := [(0, .ref 106), (2, iv p2), (4, iv (z2621 + 0)), (5, iv (z2620 + 1))]) (List.forall_mem_cons.mpr ⟨rfl, List.forall_mem_cons.mpr ⟨rfl, List.forall_mem_cons.mpr ⟨rfl, List.forall_mem_cons.mpr ⟨rfl, fun _ h => absurd h List.not_mem_nil⟩⟩⟩⟩) ?_
                      exact ih2629 (z2621 + 0) (z2620 + 1) trivial (rAdd (e := (-2147483648)) (f := 2147483647) h2623 (rR (x := 0)) rfl) (rW (c := 0) (d := 10) (rAdd (e := 1) (f := 10) h2649 (rR (x := 1)) rfl) rfl) (vc_X12_cone_57 (nS h2628) h2639 h7.2.1 h7.2.2.1 h13 h1526.2.1 h1526.2.2.1 h1530 h14 h1531 h15 h1529 h2649 h12)
                    have h2657 : 1 ≤ z2650 ∧ z2650 ≤ 1 := (vc_X12_cone_58 h2655 h2652)
                    refine mr_iconst (pc := 174) (z := 1) dX12_cone_174 ?_
                    refine sv_goto (pc := 175) (tgt := 179) dX12_cone_175 (by decide) ?_
                    refine mr_iadd (pc := 179) (x := z2621) (y := 1) dX12_cone_179 ?_
                    refine mr_wrap fun z2658 h2659 => ?_
                    refine mr_istore (pc := 180) (lv' := [(4, iv z2658), (0, .ref 106), (2, iv p2), (5, iv z2620)]) dX12_cone_180 (by decide) rfl ?_
                    refine mr_iinc (pc := 182) (lv' := [(5, iv (z2620 + 1)), (4, iv z2658), (0, .ref 106), (2, iv p2)]) dX12_cone_182 rfl (by decide) rfl ?_
                    refine sv_goto (pc := 185) (tgt := 153) dX12_cone_185 (by decide) ?_
                    refine mr_lvS (lv' := [(0, .ref 106), (2, iv p2), (4, iv z2658), (5, iv (z2620 + 1))]) (List.forall_mem_cons.mpr ⟨rfl, List.forall_mem_cons.mpr ⟨rfl, List.forall_mem_cons.mpr ⟨rfl, List.forall_mem_cons.mpr ⟨rfl, fun _ h => absurd h List.not_mem_nil⟩⟩⟩⟩) ?_
                    exact ih2629 z2658 (z2620 + 1) trivial h2659 (rW (c := 0) (d := 10) (rAdd (e := 1) (f := 10) h2649 (rR (x := 1)) rfl) rfl) (vc_X12_cone_57 (nS h2628) h2639 h7.2.1 h7.2.2.1 h13 h1526.2.1 h1526.2.2.1 h1530 h14 h1531 h15 h1529 h2649 h12)
                refine mr_lvS (lv' := [(0, .ref 106), (2, iv p2), (4, iv 0), (5, iv 0)]) (List.forall_mem_cons.mpr ⟨rfl, List.forall_mem_cons.mpr ⟨rfl, List.forall_mem_cons.mpr ⟨rfl, List.forall_mem_cons.mpr ⟨rfl, fun _ h => absurd h List.not_mem_nil⟩⟩⟩⟩) ?_
                exact L2622 12 0 0 trivial (rW (c := (-2147483648)) (d := 2147483647) (rR (x := 0)) rfl) (rW (c := 0) (d := 10) (rR (x := 0)) rfl) vc_X12_cone_19
              have h2660 : 1 ≤ z2340 ∧ z2340 ≤ 1 := (vc_X12_cone_59 h2423 h2343)
              refine mr_iconst (pc := 59) (z := 0) dX12_cone_59 ?_
              refine mr_istore_n (pc := 60) (lv' := [(3, iv 0), (0, .ref 106), (2, iv p2)]) dX12_cone_60 rfl (by decide) rfl ?_
              refine mr_iconst (pc := 61) (z := 0) dX12_cone_61 ?_
              refine mr_istore (pc := 62) (lv' := [(4, iv 0), (3, iv 0), (0, .ref 106), (2, iv p2)]) dX12_cone_62 (by decide) rfl ?_
              have L3049 : ∀ (nL3049 : Nat) (z3047 z3046 : Int) (μ3048 : mM) (f_d : Int), mT w μ3048 → mF [116999] w μ2341 μ3048 → cnt μ3048 116 10 = f_d → (0 ≤ z3047 ∧ z3047 ≤ 1) → (0 ≤ z3046 ∧ z3046 ≤ 20) → (f_c ≤ f_d) → (z3047 = 0 ∨ f_c + 1 ≤ f_d) → (21 - z3046) < (nL3049 : Int) → sV (gG l D c H0 sa) mX12_cone (sRm 3 0 0) (sZ (gG l D c H0 sa) 0 0 (qI w [116999] μ (fun z μ1 => ((-2147483648) ≤ z ∧ z ≤ 2147483647) ∧ True))) 64 [(0, .ref 106), (2, iv p2), (3, iv z3047), (4, iv z3046)] [] (mk w μ3048) 0 0 := by
                intro nL3049
                induction nL3049 with
                | zero => intro z3047 z3046 μ3048 f_d T3052 F3053 q3058 h3050 h3051 h3055 h3056 h3057; exact ((vc_X12_cone_60 h3057 (by rw [← q3058]; exact cnt_rng (fun i => T3052 116 116 (A_116 hw) i) 10) h3055 h3056 h2350 h3051 h3050)).elim
                | succ nL3049 ih3059 =>
                  intro z3047 z3046 μ3048 f_d T3052 F3053 q3058 h3050 h3051 h3055 h3056 h3057
                  have h3060 : 0 ≤ f_d ∧ f_d ≤ 10 := by rw [← q3058]; exact cnt_rng (fun i => T3052 116 116 (A_116 hw) i) 10
                  refine mr_iload (pc := 64) (z := z3046) dX12_cone_64 rfl ?_
                  refine sv_aload_n (pc := 66) dX12_cone_66 rfl rfl ?_
                  refine gf_X12_6 (pc := 67) dX12_cone_67 wF_X12_37 (A_106 hw) T3052 fun z3061 q3062 h3063 => ?_
                  refine mr_icmp_ge (pc := 70) (tgt := 144) dX12_cone_70 (by decide) (r32 h3051 rfl) (r32 h3063 rfl) (fun h3090 => ?_) (fun h3090 => ?_)
                  · refine sv_goto (pc := 144) (tgt := 55) dX12_cone_144 (by decide) ?_
                    refine mr_lvS (lv' := [(0, .ref 106), (2, iv p2), (3, iv z3047)]) (List.forall_mem_cons.mpr ⟨rfl, List.forall_mem_cons.mpr ⟨rfl, List.forall_mem_cons.mpr ⟨rfl, fun _ h => absurd h List.not_mem_nil⟩⟩⟩) ?_
                    exact ih2349 z3047 μ3048 f_d T3052 (mF.call (mF.call mF.refl F2345 rfl) F3053 rfl) q3058 h3050 (vc_X12_cone_61 (nS h2347) h2423 h3055 h3056 h2350 h3060 h2660 h3050)
                  have h3091 : 0 ≤ z3046 ∧ z3046 ≤ 19 := (vc_X12_cone_62 h3090 h3051 h3063)
                  have h3092 : 1 ≤ z3061 ∧ z3061 ≤ 20 := (vc_X12_cone_63 h3090 h3091 h3063)
                  refine sv_aload_n (pc := 73) dX12_cone_73 rfl rfl ?_
                  refine gf_X12_8 (pc := 74) dX12_cone_74 wF_X12_46 (A_106 hw) T3052 ?_
                  refine mr_iload (pc := 77) (z := z3046) dX12_cone_77 rfl ?_
                  refine la_111 (pc := 79) dX12_cone_79 (A_111 hw) T3052 (rIx (n := 20) h3091 rfl) fun z3093 q3094 h3095 => ?_
                  refine mr_if_ne (pc := 80) (tgt := 138) dX12_cone_80 (by decide) (r32 h3095 rfl) (fun h3117 => ?_) (fun h3117 => ?_)
                  · have h3118 : 1 ≤ z3093 ∧ z3093 ≤ 2 := (vc_X12_cone_64 h3117 h3095)
                    refine mr_iinc (pc := 138) (lv' := [(4, iv (z3046 + 1)), (0, .ref 106), (2, iv p2), (3, iv z3047)]) dX12_cone_138 rfl (by decide) rfl ?_
                    refine sv_goto (pc := 141) (tgt := 64) dX12_cone_141 (by decide) ?_
                    refine mr_lvS (lv' := [(0, .ref 106), (2, iv p2), (3, iv z3047), (4, iv (z3046 + 1))]) (List.forall_mem_cons.mpr ⟨rfl, List.forall_mem_cons.mpr ⟨rfl, List.forall_mem_cons.mpr ⟨rfl, List.forall_mem_cons.mpr ⟨rfl, fun _ h => absurd h List.not_mem_nil⟩⟩⟩⟩) ?_
                    exact ih3059 z3047 (z3046 + 1) μ3048 f_d T3052 (mF.call mF.refl F3053 rfl) q3058 h3050 (rW (c := 0) (d := 20) (rAdd (e := 1) (f := 20) h3091 (rR (x := 1)) rfl) rfl) (vc_X12_cone_65 h3055 h3056 h2350 h3060 h3050) (vc_X12_cone_66 h3055 h3056 h2350 h3060 h3050) (vc_X12_cone_67 (nS h3057) h3090 h3091 h3092)
                  have h3119 : 0 ≤ z3093 ∧ z3093 ≤ 0 := (vc_X12_cone_68 h3117 h3095)
                  refine sv_aload_n (pc := 83) dX12_cone_83 rfl rfl ?_
                  refine gf_X12_13 (pc := 84) dX12_cone_84 wF_X12_69 (A_106 hw) T3052 ?_
                  refine sv_aload_n (pc := 87) dX12_cone_87 rfl rfl ?_
                  refine gf_X12_7 (pc := 88) dX12_cone_88 wF_X12_40 (A_106 hw) T3052 ?_
                  refine mr_iconst (pc := 91) (z := 2) dX12_cone_91 ?_
                  refine mr_iload (pc := 92) (z := z3046) dX12_cone_92 rfl ?_
                  refine mr_imul (pc := 94) (x := 2) (y := z3046) dX12_cone_94 ?_
                  refine la_110 (pc := 95) dX12_cone_95 (A_110 hw) T3052 (rIx (n := 40) (rMulL (n := 2) (e := 0) (f := 38) h3091 rfl) rfl) fun z3120 q3121 h3122 => ?_
                  refine la_116 (pc := 96) dX12_cone_96 (A_116 hw) T3052 (rIx (n := 10) h3122 rfl) fun z3123 q3124 h3125 => ?_
                  refine mr_if_eq (pc := 97) (tgt := 138) dX12_cone_97 (by decide) (r32 h3125 rfl) (fun h3139 => ?_) (fun h3139 => ?_)
                  · have h3140 : 0 ≤ z3123 ∧ z3123 ≤ 0 := (vc_X12_cone_69 h3139 h3125)
                    refine mr_iinc (pc := 138) (lv' := [(4, iv (z3046 + 1)), (0, .ref 106), (2, iv p2), (3, iv z3047)]) dX12_cone_138 rfl (by decide) rfl ?_
                    refine sv_goto (pc := 141) (tgt := 64) dX12_cone_141 (by decide) ?_
                    refine mr_lvS (lv' := [(0, .ref 106), (2, iv p2), (3, iv z3047), (4, iv (z3046 + 1))]) (List.forall_mem_cons.mpr ⟨rfl, List.forall_mem_cons.mpr ⟨rfl, List.forall_mem_cons.mpr ⟨rfl, List.forall_mem_cons.mpr ⟨rfl, fun _ h => absurd h List.not_mem_nil⟩⟩⟩⟩) ?_
                    exact ih3059 z3047 (z3046 + 1) μ3048 f_d T3052 (mF.call mF.refl F3053 rfl) q3058 h3050 (rW (c := 0) (d := 20) (rAdd (e := 1) (f := 20) h3091 (rR (x := 1)) rfl) rfl) (vc_X12_cone_65 h3055 h3056 h2350 h3060 h3050) (vc_X12_cone_66 h3055 h3056 h2350 h3060 h3050) (vc_X12_cone_67 (nS h3057) h3090 h3091 h3092)
                  have h3141 : 1 ≤ z3123 ∧ z3123 ≤ 1 := (vc_X12_cone_70 h3139 h3125)
                  refine sv_aload_n (pc := 100) dX12_cone_100 rfl rfl ?_
                  refine gf_X12_13 (pc := 101) dX12_cone_101 wF_X12_69 (A_106 hw) T3052 ?_
                  refine sv_aload_n (pc := 104) dX12_cone_104 rfl rfl ?_
                  refine gf_X12_7 (pc := 105) dX12_cone_105 wF_X12_40 (A_106 hw) T3052 ?_
                  refine mr_iconst (pc := 108) (z := 2) dX12_cone_108 ?_
                  refine mr_iload (pc := 109) (z := z3046) dX12_cone_109 rfl ?_
                  refine mr_imul (pc := 111) (x := 2) (y := z3046) dX12_cone_111 ?_
                  refine mr_iconst (pc := 112) (z := 1) dX12_cone_112 ?_
                  refine mr_iadd (pc := 113) (x := (2 * z3046)) (y := 1) dX12_cone_113 ?_
                  refine la_110 (pc := 114) dX12_cone_114 (A_110 hw) T3052 (rIx (n := 40) (rAdd (e := 1) (f := 39) (rMulL (n := 2) (e := 0) (f := 38) h3091 rfl) (rR (x := 1)) rfl) rfl) fun z3142 q3143 h3144 => ?_
                  refine la_116 (pc := 115) dX12_cone_115 (A_116 hw) T3052 (rIx (n := 10) h3144 rfl) fun z3145 q3146 h3147 => ?_
                  refine mr_if_ne (pc := 116) (tgt := 138) dX12_cone_116 (by decide) (r32 h3147 rfl) (fun h3153 => ?_) (fun h3153 => ?_)
                  · have h3154 : 1 ≤ z3145 ∧ z3145 ≤ 1 := (vc_X12_cone_71 h3153 h3147)
                    refine mr_iinc (pc := 138) (lv' := [(4, iv (z3046 + 1)), (0, .ref 106), (2, iv p2), (3, iv z3047)]) dX12_cone_138 rfl (by decide) rfl ?_
                    refine sv_goto (pc := 141) (tgt := 64) dX12_cone_141 (by decide) ?_
                    refine mr_lvS (lv' := [(0, .ref 106), (2, iv p2), (3, iv z3047), (4, iv (z3046 + 1))]) (List.forall_mem_cons.mpr ⟨rfl, List.forall_mem_cons.mpr ⟨rfl, List.forall_mem_cons.mpr ⟨rfl, List.forall_mem_cons.mpr ⟨rfl, fun _ h => absurd h List.not_mem_nil⟩⟩⟩⟩) ?_
                    exact ih3059 z3047 (z3046 + 1) μ3048 f_d T3052 (mF.call mF.refl F3053 rfl) q3058 h3050 (rW (c := 0) (d := 20) (rAdd (e := 1) (f := 20) h3091 (rR (x := 1)) rfl) rfl) (vc_X12_cone_65 h3055 h3056 h2350 h3060 h3050) (vc_X12_cone_66 h3055 h3056 h2350 h3060 h3050) (vc_X12_cone_67 (nS h3057) h3090 h3091 h3092)
                  have h3155 : 0 ≤ z3145 ∧ z3145 ≤ 0 := (vc_X12_cone_72 h3153 h3147)
                  refine sv_aload_n (pc := 119) dX12_cone_119 rfl rfl ?_
                  refine gf_X12_13 (pc := 120) dX12_cone_120 wF_X12_69 (A_106 hw) T3052 ?_
                  refine sv_aload_n (pc := 123) dX12_cone_123 rfl rfl ?_
                  refine gf_X12_7 (pc := 124) dX12_cone_124 wF_X12_40 (A_106 hw) T3052 ?_
                  refine mr_iconst (pc := 127) (z := 2) dX12_cone_127 ?_
                  refine mr_iload (pc := 128) (z := z3046) dX12_cone_128 rfl ?_
                  refine mr_imul (pc := 130) (x := 2) (y := z3046) dX12_cone_130 ?_
                  refine mr_iconst (pc := 131) (z := 1) dX12_cone_131 ?_
                  refine mr_iadd (pc := 132) (x := (2 * z3046)) (y := 1) dX12_cone_132 ?_
                  refine lk_110 (pc := 133) dX12_cone_133 (A_110 hw) (rIx (n := 40) (rAdd (e := 1) (f := 39) (rMulL (n := 2) (e := 0) (f := 38) h3091 rfl) (rR (x := 1)) rfl) rfl) q3143 ?_
                  refine mr_iconst (pc := 134) (z := 1) dX12_cone_134 ?_
                  refine ss_116 (pc := 135) dX12_cone_135 (A_116 hw) T3052 (rIx (n := 10) h3144 rfl) (rW (c := 0) (d := 1) (rR (x := 1)) rfl) fun μ3156 u3157 T3158 => ?_
                  refine mr_iconst (pc := 136) (z := 1) dX12_cone_136 ?_
                  refine mr_istore_n (pc := 137) (lv' := [(3, iv 1), (0, .ref 106), (2, iv p2), (4, iv z3046)]) dX12_cone_137 rfl (by decide) rfl ?_
                  refine mr_iinc (pc := 138) (lv' := [(4, iv (z3046 + 1)), (3, iv 1), (0, .ref 106), (2, iv p2)]) dX12_cone_138 rfl (by decide) rfl ?_
                  refine sv_goto (pc := 141) (tgt := 64) dX12_cone_141 (by decide) ?_
                  refine mr_lvS (lv' := [(0, .ref 106), (2, iv p2), (3, iv 1), (4, iv (z3046 + 1))]) (List.forall_mem_cons.mpr ⟨rfl, List.forall_mem_cons.mpr ⟨rfl, List.forall_mem_cons.mpr ⟨rfl, List.forall_mem_cons.mpr ⟨rfl, fun _ h => absurd h List.not_mem_nil⟩⟩⟩⟩) ?_
                  exact ih3059 1 (z3046 + 1) μ3156 ((f_d + 1) - z3145) T3158 (mF.up (mF.call mF.refl F3053 rfl) (A_116 hw) u3157 rfl) (cntU u3157 (rIx (n := 10) h3144 rfl) rfl q3058 q3146) (rW (c := 0) (d := 1) (rR (x := 1)) rfl) (rW (c := 0) (d := 20) (rAdd (e := 1) (f := 20) h3091 (rR (x := 1)) rfl) rfl) (vc_X12_cone_73 h3055 h3056 h3153 h2350 h3060 h3050 h3155) (vc_X12_cone_74 h3055 h3056 h3153 h2350 h3060 h3050 h3155) (vc_X12_cone_67 (nS h3057) h3090 h3091 h3092)
              refine mr_lvS (lv' := [(0, .ref 106), (2, iv p2), (3, iv 0), (4, iv 0)]) (List.forall_mem_cons.mpr ⟨rfl, List.forall_mem_cons.mpr ⟨rfl, List.forall_mem_cons.mpr ⟨rfl, List.forall_mem_cons.mpr ⟨rfl, fun _ h => absurd h List.not_mem_nil⟩⟩⟩⟩) ?_
              exact L3049 22 0 0 μ2341 f_c T2344 mF.refl q2348 (rW (c := 0) (d := 1) (rR (x := 0)) rfl) (rW (c := 0) (d := 20) (rR (x := 0)) rfl) (vc_X12_cone_36 h2350) (vc_X12_cone_37 h2350) vc_X12_cone_38
          obtain ⟨z3159, q3160⟩ : ∃ z, cnt μ2035 116 10 = z := ⟨_, rfl⟩
          have h3161 : 0 ≤ z3159 ∧ z3159 ≤ 10 := by rw [← q3160]; exact cnt_rng (fun i => T2038 116 116 (A_116 hw) i) 10
          refine mr_lvS (lv' := [(0, .ref 106), (2, iv p2), (3, iv 1)]) (List.forall_mem_cons.mpr ⟨rfl, List.forall_mem_cons.mpr ⟨rfl, List.forall_mem_cons.mpr ⟨rfl, fun _ h => absurd h List.not_mem_nil⟩⟩⟩) ?_
          exact L2342 22 1 μ2035 z3159 T2038 mF.refl q3160 (rW (c := 0) (d := 1) (rR (x := 1)) rfl) (vc_X12_cone_75 h3161)
        have h3162 : 0 ≤ z2034 ∧ z2034 ≤ 9 := (vc_X12_cone_76 h2051 h2037)
        refine sv_aload_n (pc := 31) dX12_cone_31 rfl rfl ?_
        refine gf_X12_13 (pc := 32) dX12_cone_32 wF_X12_69 (A_106 hw) T2038 ?_
        refine mr_iload_n (pc := 35) (z := z2034) dX12_cone_35 rfl rfl ?_
        refine mr_iload_n (pc := 36) (z := z2034) dX12_cone_36 rfl rfl ?_
        refine mr_iload_n (pc := 37) (z := p1) dX12_cone_37 rfl rfl ?_
        refine mr_icmp_ne (pc := 38) (tgt := 45) dX12_cone_38 (by decide) (r32 h3162 rfl) (r32 h14 rfl) (fun h3163 => ?_) (fun h3163 => ?_)
        · refine mr_iconst (pc := 45) (z := 0) dX12_cone_45 ?_
          refine ss_116 (pc := 46) dX12_cone_46 (A_116 hw) T2038 (rIx (n := 10) h3162 rfl) (rW (c := 0) (d := 1) (rR (x := 0)) rfl) fun μ3164 u3165 T3166 => ?_
          refine mr_iinc (pc := 47) (lv' := [(3, iv (z2034 + 1)), (0, .ref 106), (1, iv p1), (2, iv p2)]) dX12_cone_47 rfl (by decide) rfl ?_
          refine sv_goto (pc := 50) (tgt := 25) dX12_cone_50 (by decide) ?_
          refine mr_lvS (lv' := [(0, .ref 106), (1, iv p1), (2, iv p2), (3, iv (z2034 + 1))]) (List.forall_mem_cons.mpr ⟨rfl, List.forall_mem_cons.mpr ⟨rfl, List.forall_mem_cons.mpr ⟨rfl, List.forall_mem_cons.mpr ⟨rfl, fun _ h => absurd h List.not_mem_nil⟩⟩⟩⟩) ?_
          exact ih2042 (z2034 + 1) μ3164 T3166 (mF.up (mF.call mF.refl F2039 rfl) (A_116 hw) u3165 rfl) (rW (c := 0) (d := 10) (rAdd (e := 1) (f := 10) h3162 (rR (x := 1)) rfl) rfl) (vc_X12_cone_77 (nS h2041) h2051 h3163 h7.2.1 h7.2.2.1 h13 h14 h15 h3162 h12)
        refine mr_iconst (pc := 41) (z := 1) dX12_cone_41 ?_
        refine sv_goto (pc := 42) (tgt := 46) dX12_cone_42 (by decide) ?_
        refine ss_116 (pc := 46) dX12_cone_46 (A_116 hw) T2038 (rIx (n := 10) h3162 rfl) (rW (c := 0) (d := 1) (rR (x := 1)) rfl) fun μ3167 u3168 T3169 => ?_
        refine mr_iinc (pc := 47) (lv' := [(3, iv (z2034 + 1)), (0, .ref 106), (1, iv p1), (2, iv p2)]) dX12_cone_47 rfl (by decide) rfl ?_
        refine sv_goto (pc := 50) (tgt := 25) dX12_cone_50 (by decide) ?_
        refine mr_lvS (lv' := [(0, .ref 106), (1, iv p1), (2, iv p2), (3, iv (z2034 + 1))]) (List.forall_mem_cons.mpr ⟨rfl, List.forall_mem_cons.mpr ⟨rfl, List.forall_mem_cons.mpr ⟨rfl, List.forall_mem_cons.mpr ⟨rfl, fun _ h => absurd h List.not_mem_nil⟩⟩⟩⟩) ?_
        exact ih2042 (z2034 + 1) μ3167 T3169 (mF.up (mF.call mF.refl F2039 rfl) (A_116 hw) u3168 rfl) (rW (c := 0) (d := 10) (rAdd (e := 1) (f := 10) h3162 (rR (x := 1)) rfl) rfl) (vc_X12_cone_78 (nS h2041) h2051 h3163 h7.2.1 h7.2.2.1 h13 h14 h15 h3162 h12)
    refine mr_lvS (lv' := [(0, .ref 106), (1, iv p1), (2, iv p2), (3, iv 0)]) (List.forall_mem_cons.mpr ⟨rfl, List.forall_mem_cons.mpr ⟨rfl, List.forall_mem_cons.mpr ⟨rfl, List.forall_mem_cons.mpr ⟨rfl, fun _ h => absurd h List.not_mem_nil⟩⟩⟩⟩) ?_
    exact L2036 12 0 μ hT mF.refl (rW (c := 0) (d := 10) (rR (x := 0)) rfl) vc_X12_cone_19
  have h3170 : 0 ≤ z1527 ∧ z1527 ≤ 0 := (vc_X12_cone_79 h1528 h1526.2.1 h1526.2.2.1 hp2 h15 h1526.1)
  have h3171 : p2 < 0 ∨ z1 ≤ p2 := (h1526.2.2.1 (vc_X12_cone_80 h1526.2.1 h1526.2.2.1 h1528 h7.2.1 h7.2.2.1 h13 h16 h14 hp2 h15 h3170 h12))
  refine mr_iconst (pc := 21) (z := (-1)) dX12_cone_21 ?_
  exact mr_iret dX12_cone_22 rfl (le_t rfl) (le_t rfl) hT mF.refl ⟨(rW (c := (-2147483648)) (d := 2147483647) (rR (x := (-1))) rfl), trivial⟩
theorem vc_X12_tieOf_hit_1 {f_ties g1 : Int} (h0 : g1 < f_ties) (h1 : 0 ≤ f_ties ∧ f_ties ≤ 20) (h2 : 0 ≤ g1 ∧ g1 ≤ 19) : 1 ≤ f_ties ∧ f_ties ≤ 20 := by omega
theorem vc_X12_tieOf_hit_2 {f_ties g1 z416 : Int} (h0 : (21 - z416) < ((0 : Nat) : Int)) (h1 : z416 ≤ g1) (h2 : g1 < f_ties) (h3 : 1 ≤ f_ties ∧ f_ties ≤ 20) (h4 : 0 ≤ g1 ∧ g1 ≤ 19) (h5 : 0 ≤ z416 ∧ z416 ≤ 20) : False := by omega
theorem vc_X12_tieOf_hit_3 {f_ties g1 z416 : Int} (h0 : f_ties ≤ z416) (h1 : g1 < f_ties) (h2 : z416 ≤ g1) (h3 : 1 ≤ f_ties ∧ f_ties ≤ 20) (h4 : 0 ≤ g1 ∧ g1 ≤ 19) (h5 : 0 ≤ z416 ∧ z416 ≤ 20) : False := by omega
theorem vc_X12_tieOf_hit_4 {f_ties g1 z416 : Int} (h0 : z416 < f_ties) (h1 : g1 < f_ties) (h2 : z416 ≤ g1) (h3 : 1 ≤ f_ties ∧ f_ties ≤ 20) (h4 : 0 ≤ g1 ∧ g1 ≤ 19) (h5 : 0 ≤ z416 ∧ z416 ≤ 20) : 0 ≤ z416 ∧ z416 ≤ 19 := by omega
theorem vc_X12_tieOf_hit_5 {f_e0 f_e1 f_ties g1 p1 p2 z416 z427 : Int} (h0 : g1 < f_ties) (h1 : z416 ≤ g1) (h2 : z416 < f_ties) (h3 : ((2 * z416) = (2 * g1) → z427 = f_e0)) (h4 : ((2 * z416) = ((2 * g1) + 1) → z427 = f_e1)) (h5 : (f_e0 = p1 ∧ f_e1 = p2) ∨ (f_e0 = p2 ∧ f_e1 = p1)) (h6 : ¬ z427 = p1) (h7 : ¬ z427 = p2) (h8 : 0 ≤ f_e0 ∧ f_e0 ≤ 9) (h9 : 0 ≤ f_e1 ∧ f_e1 ≤ 9) (h10 : 1 ≤ f_ties ∧ f_ties ≤ 20) (h11 : 0 ≤ g1 ∧ g1 ≤ 19) (h12 : (-2147483648) ≤ p1 ∧ p1 ≤ 2147483647) (h13 : (-2147483648) ≤ p2 ∧ p2 ≤ 2147483647) (h14 : 0 ≤ z416 ∧ z416 ≤ 19) (h15 : 0 ≤ z427 ∧ z427 ≤ 9) : (z416 + 1) ≤ g1 := by omega
theorem vc_X12_tieOf_hit_6 {N f_e0 f_e1 f_ties g1 p1 p2 z416 z427 : Int} (h0 : (21 - z416) < N + 1) (h1 : z416 ≤ g1) (h2 : z416 < f_ties) (h3 : ((2 * z416) = (2 * g1) → z427 = f_e0)) (h4 : ((2 * z416) = ((2 * g1) + 1) → z427 = f_e1)) (h5 : g1 < f_ties) (h6 : (f_e0 = p1 ∧ f_e1 = p2) ∨ (f_e0 = p2 ∧ f_e1 = p1)) (h7 : ¬ z427 = p1) (h8 : ¬ z427 = p2) (h9 : 0 ≤ f_e0 ∧ f_e0 ≤ 9) (h10 : 0 ≤ f_e1 ∧ f_e1 ≤ 9) (h11 : 1 ≤ f_ties ∧ f_ties ≤ 20) (h12 : 0 ≤ g1 ∧ g1 ≤ 19) (h13 : (-2147483648) ≤ p1 ∧ p1 ≤ 2147483647) (h14 : (-2147483648) ≤ p2 ∧ p2 ≤ 2147483647) (h15 : 0 ≤ z416 ∧ z416 ≤ 19) (h16 : 0 ≤ z427 ∧ z427 ≤ 9) : (21 - (z416 + 1)) < N := by omega
theorem vc_X12_tieOf_hit_7 {f_e0 f_e1 g1 p1 p2 z416 z427 : Int} (h0 : z427 = p2) (h1 : (f_e0 = p1 ∧ f_e1 = p2) ∨ (f_e0 = p2 ∧ f_e1 = p1)) (h2 : ((2 * z416) = (2 * g1) → z427 = f_e0)) (h3 : ((2 * z416) = ((2 * g1) + 1) → z427 = f_e1)) (h4 : ¬ z427 = p1) (h5 : 0 ≤ f_e0 ∧ f_e0 ≤ 9) (h6 : 0 ≤ f_e1 ∧ f_e1 ≤ 9) (h7 : 0 ≤ g1 ∧ g1 ≤ 19) (h8 : (-2147483648) ≤ p1 ∧ p1 ≤ 2147483647) (h9 : (-2147483648) ≤ p2 ∧ p2 ≤ 2147483647) (h10 : 0 ≤ z416 ∧ z416 ≤ 19) (h11 : 0 ≤ z427 ∧ z427 ≤ 9) : 0 ≤ p2 ∧ p2 ≤ 9 := by omega
theorem vc_X12_tieOf_hit_8 {f_e0 f_e1 f_ties g1 p1 p2 z416 z427 z433 : Int} (h0 : g1 < f_ties) (h1 : z416 ≤ g1) (h2 : z416 < f_ties) (h3 : ((2 * z416) = (2 * g1) → z427 = f_e0)) (h4 : ((2 * z416) = ((2 * g1) + 1) → z427 = f_e1)) (h5 : (((2 * z416) + 1) = (2 * g1) → z433 = f_e0)) (h6 : (((2 * z416) + 1) = ((2 * g1) + 1) → z433 = f_e1)) (h7 : (((2 * z416) + 1) = (2 * z416) → z433 = z427)) (h8 : (f_e0 = p1 ∧ f_e1 = p2) ∨ (f_e0 = p2 ∧ f_e1 = p1)) (h9 : ¬ z427 = p1) (h10 : z427 = p2) (h11 : ¬ z433 = p1) (h12 : 0 ≤ f_e0 ∧ f_e0 ≤ 9) (h13 : 0 ≤ f_e1 ∧ f_e1 ≤ 9) (h14 : 1 ≤ f_ties ∧ f_ties ≤ 20) (h15 : 0 ≤ g1 ∧ g1 ≤ 19) (h16 : (-2147483648) ≤ p1 ∧ p1 ≤ 2147483647) (h17 : 0 ≤ p2 ∧ p2 ≤ 9) (h18 : 0 ≤ z416 ∧ z416 ≤ 19) (h19 : 0 ≤ z427 ∧ z427 ≤ 9) (h20 : 0 ≤ z433 ∧ z433 ≤ 9) : (z416 + 1) ≤ g1 := by omega
theorem vc_X12_tieOf_hit_9 {N f_e0 f_e1 f_ties g1 p1 p2 z416 z427 z433 : Int} (h0 : (21 - z416) < N + 1) (h1 : z416 ≤ g1) (h2 : z416 < f_ties) (h3 : ((2 * z416) = (2 * g1) → z427 = f_e0)) (h4 : ((2 * z416) = ((2 * g1) + 1) → z427 = f_e1)) (h5 : (((2 * z416) + 1) = (2 * g1) → z433 = f_e0)) (h6 : (((2 * z416) + 1) = ((2 * g1) + 1) → z433 = f_e1)) (h7 : (((2 * z416) + 1) = (2 * z416) → z433 = z427)) (h8 : g1 < f_ties) (h9 : (f_e0 = p1 ∧ f_e1 = p2) ∨ (f_e0 = p2 ∧ f_e1 = p1)) (h10 : ¬ z427 = p1) (h11 : z427 = p2) (h12 : ¬ z433 = p1) (h13 : 0 ≤ f_e0 ∧ f_e0 ≤ 9) (h14 : 0 ≤ f_e1 ∧ f_e1 ≤ 9) (h15 : 1 ≤ f_ties ∧ f_ties ≤ 20) (h16 : 0 ≤ g1 ∧ g1 ≤ 19) (h17 : (-2147483648) ≤ p1 ∧ p1 ≤ 2147483647) (h18 : 0 ≤ p2 ∧ p2 ≤ 9) (h19 : 0 ≤ z416 ∧ z416 ≤ 19) (h20 : 0 ≤ z427 ∧ z427 ≤ 9) (h21 : 0 ≤ z433 ∧ z433 ≤ 9) : (21 - (z416 + 1)) < N := by omega
theorem vc_X12_tieOf_hit_10 {f_e0 f_e1 g1 p1 p2 z416 z427 z433 : Int} (h0 : z433 = p1) (h1 : (f_e0 = p1 ∧ f_e1 = p2) ∨ (f_e0 = p2 ∧ f_e1 = p1)) (h2 : ¬ z427 = p1) (h3 : (((2 * z416) + 1) = (2 * g1) → z433 = f_e0)) (h4 : (((2 * z416) + 1) = ((2 * g1) + 1) → z433 = f_e1)) (h5 : (((2 * z416) + 1) = (2 * z416) → z433 = z427)) (h6 : 0 ≤ f_e0 ∧ f_e0 ≤ 9) (h7 : 0 ≤ f_e1 ∧ f_e1 ≤ 9) (h8 : 0 ≤ g1 ∧ g1 ≤ 19) (h9 : (-2147483648) ≤ p1 ∧ p1 ≤ 2147483647) (h10 : 0 ≤ p2 ∧ p2 ≤ 9) (h11 : 0 ≤ z416 ∧ z416 ≤ 19) (h12 : 0 ≤ z427 ∧ z427 ≤ 9) (h13 : 0 ≤ z433 ∧ z433 ≤ 9) : 0 ≤ p1 ∧ p1 ≤ 9 := by omega
theorem vc_X12_tieOf_hit_11 {f_e0 f_e1 g1 p1 p2 z416 z427 : Int} (h0 : z427 = p1) (h1 : (f_e0 = p1 ∧ f_e1 = p2) ∨ (f_e0 = p2 ∧ f_e1 = p1)) (h2 : ((2 * z416) = (2 * g1) → z427 = f_e0)) (h3 : ((2 * z416) = ((2 * g1) + 1) → z427 = f_e1)) (h4 : 0 ≤ f_e0 ∧ f_e0 ≤ 9) (h5 : 0 ≤ f_e1 ∧ f_e1 ≤ 9) (h6 : 0 ≤ g1 ∧ g1 ≤ 19) (h7 : (-2147483648) ≤ p1 ∧ p1 ≤ 2147483647) (h8 : (-2147483648) ≤ p2 ∧ p2 ≤ 2147483647) (h9 : 0 ≤ z416 ∧ z416 ≤ 19) (h10 : 0 ≤ z427 ∧ z427 ≤ 9) : 0 ≤ p1 ∧ p1 ≤ 9 := by omega
theorem vc_X12_tieOf_hit_12 {f_e0 f_e1 g1 p1 p2 z416 z427 z439 : Int} (h0 : z439 = p2) (h1 : (f_e0 = p1 ∧ f_e1 = p2) ∨ (f_e0 = p2 ∧ f_e1 = p1)) (h2 : (((2 * z416) + 1) = (2 * g1) → z439 = f_e0)) (h3 : (((2 * z416) + 1) = ((2 * g1) + 1) → z439 = f_e1)) (h4 : (((2 * z416) + 1) = (2 * z416) → z439 = z427)) (h5 : 0 ≤ f_e0 ∧ f_e0 ≤ 9) (h6 : 0 ≤ f_e1 ∧ f_e1 ≤ 9) (h7 : 0 ≤ g1 ∧ g1 ≤ 19) (h8 : 0 ≤ p1 ∧ p1 ≤ 9) (h9 : (-2147483648) ≤ p2 ∧ p2 ≤ 2147483647) (h10 : 0 ≤ z416 ∧ z416 ≤ 19) (h11 : 0 ≤ z427 ∧ z427 ≤ 9) (h12 : 0 ≤ z439 ∧ z439 ≤ 9) : 0 ≤ p2 ∧ p2 ≤ 9 := by omega
theorem vc_X12_tieOf_hit_13 {f_e0 f_e1 f_ties g1 p1 p2 z416 z427 z439 : Int} (h0 : g1 < f_ties) (h1 : z416 ≤ g1) (h2 : z416 < f_ties) (h3 : ((2 * z416) = (2 * g1) → z427 = f_e0)) (h4 : ((2 * z416) = ((2 * g1) + 1) → z427 = f_e1)) (h5 : (((2 * z416) + 1) = (2 * g1) → z439 = f_e0)) (h6 : (((2 * z416) + 1) = ((2 * g1) + 1) → z439 = f_e1)) (h7 : (((2 * z416) + 1) = (2 * z416) → z439 = z427)) (h8 : (f_e0 = p1 ∧ f_e1 = p2) ∨ (f_e0 = p2 ∧ f_e1 = p1)) (h9 : z427 = p1) (h10 : ¬ z439 = p2) (h11 : ¬ z427 = p2) (h12 : 0 ≤ f_e0 ∧ f_e0 ≤ 9) (h13 : 0 ≤ f_e1 ∧ f_e1 ≤ 9) (h14 : 1 ≤ f_ties ∧ f_ties ≤ 20) (h15 : 0 ≤ g1 ∧ g1 ≤ 19) (h16 : 0 ≤ p1 ∧ p1 ≤ 9) (h17 : (-2147483648) ≤ p2 ∧ p2 ≤ 2147483647) (h18 : 0 ≤ z416 ∧ z416 ≤ 19) (h19 : 0 ≤ z427 ∧ z427 ≤ 9) (h20 : 0 ≤ z439 ∧ z439 ≤ 9) : (z416 + 1) ≤ g1 := by omega
theorem vc_X12_tieOf_hit_14 {N f_e0 f_e1 f_ties g1 p1 p2 z416 z427 z439 : Int} (h0 : (21 - z416) < N + 1) (h1 : z416 ≤ g1) (h2 : z416 < f_ties) (h3 : ((2 * z416) = (2 * g1) → z427 = f_e0)) (h4 : ((2 * z416) = ((2 * g1) + 1) → z427 = f_e1)) (h5 : (((2 * z416) + 1) = (2 * g1) → z439 = f_e0)) (h6 : (((2 * z416) + 1) = ((2 * g1) + 1) → z439 = f_e1)) (h7 : (((2 * z416) + 1) = (2 * z416) → z439 = z427)) (h8 : g1 < f_ties) (h9 : (f_e0 = p1 ∧ f_e1 = p2) ∨ (f_e0 = p2 ∧ f_e1 = p1)) (h10 : z427 = p1) (h11 : ¬ z439 = p2) (h12 : ¬ z427 = p2) (h13 : 0 ≤ f_e0 ∧ f_e0 ≤ 9) (h14 : 0 ≤ f_e1 ∧ f_e1 ≤ 9) (h15 : 1 ≤ f_ties ∧ f_ties ≤ 20) (h16 : 0 ≤ g1 ∧ g1 ≤ 19) (h17 : 0 ≤ p1 ∧ p1 ≤ 9) (h18 : (-2147483648) ≤ p2 ∧ p2 ≤ 2147483647) (h19 : 0 ≤ z416 ∧ z416 ≤ 19) (h20 : 0 ≤ z427 ∧ z427 ≤ 9) (h21 : 0 ≤ z439 ∧ z439 ≤ 9) : (21 - (z416 + 1)) < N := by omega
theorem vc_X12_tieOf_hit_15 {f_e0 f_e1 g1 p1 p2 z416 z427 z439 : Int} (h0 : z427 = p2) (h1 : (f_e0 = p1 ∧ f_e1 = p2) ∨ (f_e0 = p2 ∧ f_e1 = p1)) (h2 : ((2 * z416) = (2 * g1) → z427 = f_e0)) (h3 : ((2 * z416) = ((2 * g1) + 1) → z427 = f_e1)) (h4 : z427 = p1) (h5 : (((2 * z416) + 1) = (2 * z416) → z439 = z427)) (h6 : ¬ z439 = p2) (h7 : 0 ≤ f_e0 ∧ f_e0 ≤ 9) (h8 : 0 ≤ f_e1 ∧ f_e1 ≤ 9) (h9 : 0 ≤ g1 ∧ g1 ≤ 19) (h10 : 0 ≤ p1 ∧ p1 ≤ 9) (h11 : (-2147483648) ≤ p2 ∧ p2 ≤ 2147483647) (h12 : 0 ≤ z416 ∧ z416 ≤ 19) (h13 : 0 ≤ z427 ∧ z427 ≤ 9) (h14 : 0 ≤ z439 ∧ z439 ≤ 9) : 0 ≤ p2 ∧ p2 ≤ 9 := by omega
theorem vc_X12_tieOf_hit_16 {f_e0 f_e1 f_ties g1 p1 p2 z416 z427 z439 : Int} (h0 : g1 < f_ties) (h1 : z416 ≤ g1) (h2 : z416 < f_ties) (h3 : ((2 * z416) = (2 * g1) → z427 = f_e0)) (h4 : ((2 * z416) = ((2 * g1) + 1) → z427 = f_e1)) (h5 : (((2 * z416) + 1) = (2 * g1) → z439 = f_e0)) (h6 : (((2 * z416) + 1) = ((2 * g1) + 1) → z439 = f_e1)) (h7 : (((2 * z416) + 1) = (2 * z416) → z439 = z427)) (h8 : (f_e0 = p1 ∧ f_e1 = p2) ∨ (f_e0 = p2 ∧ f_e1 = p1)) (h9 : z427 = p1) (h10 : ¬ z439 = p2) (h11 : z427 = p2) (h12 : ¬ z439 = p1) (h13 : 0 ≤ f_e0 ∧ f_e0 ≤ 9) (h14 : 0 ≤ f_e1 ∧ f_e1 ≤ 9) (h15 : 1 ≤ f_ties ∧ f_ties ≤ 20) (h16 : 0 ≤ g1 ∧ g1 ≤ 19) (h17 : 0 ≤ p1 ∧ p1 ≤ 9) (h18 : 0 ≤ p2 ∧ p2 ≤ 9) (h19 : 0 ≤ z416 ∧ z416 ≤ 19) (h20 : 0 ≤ z427 ∧ z427 ≤ 9) (h21 : 0 ≤ z439 ∧ z439 ≤ 9) : (z416 + 1) ≤ g1 := by omega
theorem vc_X12_tieOf_hit_17 {N f_e0 f_e1 f_ties g1 p1 p2 z416 z427 z439 : Int} (h0 : (21 - z416) < N + 1) (h1 : z416 ≤ g1) (h2 : z416 < f_ties) (h3 : ((2 * z416) = (2 * g1) → z427 = f_e0)) (h4 : ((2 * z416) = ((2 * g1) + 1) → z427 = f_e1)) (h5 : (((2 * z416) + 1) = (2 * g1) → z439 = f_e0)) (h6 : (((2 * z416) + 1) = ((2 * g1) + 1) → z439 = f_e1)) (h7 : (((2 * z416) + 1) = (2 * z416) → z439 = z427)) (h8 : g1 < f_ties) (h9 : (f_e0 = p1 ∧ f_e1 = p2) ∨ (f_e0 = p2 ∧ f_e1 = p1)) (h10 : z427 = p1) (h11 : ¬ z439 = p2) (h12 : z427 = p2) (h13 : ¬ z439 = p1) (h14 : 0 ≤ f_e0 ∧ f_e0 ≤ 9) (h15 : 0 ≤ f_e1 ∧ f_e1 ≤ 9) (h16 : 1 ≤ f_ties ∧ f_ties ≤ 20) (h17 : 0 ≤ g1 ∧ g1 ≤ 19) (h18 : 0 ≤ p1 ∧ p1 ≤ 9) (h19 : 0 ≤ p2 ∧ p2 ≤ 9) (h20 : 0 ≤ z416 ∧ z416 ≤ 19) (h21 : 0 ≤ z427 ∧ z427 ≤ 9) (h22 : 0 ≤ z439 ∧ z439 ≤ 9) : (21 - (z416 + 1)) < N := by omega
theorem vc_X12_tieOf_hit_18 {f_ties g1 : Int} (h0 : g1 < f_ties) (h1 : 1 ≤ f_ties ∧ f_ties ≤ 20) (h2 : 0 ≤ g1 ∧ g1 ≤ 19) : (0 : Int) ≤ g1 := by omega
theorem vc_X12_tieOf_hit_19  : (21 - 0) < ((22 : Nat) : Int) := by omega
set_option maxRecDepth 4000 in
set_option maxHeartbeats 4000000 in
theorem c_X12_tieOf_hit {l : Launch} {D : va_G} {c : Nat → ClassId} {H0 : Heap} {sa : Nat × Nat × (Nat → Int32)} {w : mW} {μ : mM} (hw : mWF w) (hT : mT w μ) {p1 : Int} (hp1 : (-2147483648) ≤ p1 ∧ p1 ≤ 2147483647) {p2 : Int} (hp2 : (-2147483648) ≤ p2 ∧ p2 ≤ 2147483647) {g1 : Int} (hg1 : 0 ≤ g1 ∧ g1 ≤ 19) {f_e0 : Int} (q_f_e0 : μ 110 ((2 * g1).toNat) = f_e0) {f_e1 : Int} (q_f_e1 : μ 110 (((2 * g1) + 1).toNat) = f_e1) {f_ties : Int} (q_f_ties : μ 106 6 = f_ties) (hq0 : g1 < f_ties) (hq1 : (f_e0 = p1 ∧ f_e1 = p2) ∨ (f_e0 = p2 ∧ f_e1 = p1)) : sC (gG l D c H0 sa) mX12_tieOf 1 0 0 [.ref 106, iv p1, iv p2] (mk w μ) (qP w μ (fun z => (0 ≤ z ∧ z ≤ 19) ∧ True)) := by
  refine sC.of rfl (by decide) (le_t rfl) ?_
  have ht_f_e0 : (0 ≤ f_e0 ∧ f_e0 ≤ 9) := by rw [← q_f_e0]; exact hT 110 110 (A_110 hw) ((2 * g1).toNat)
  have ht_f_e1 : (0 ≤ f_e1 ∧ f_e1 ≤ 9) := by rw [← q_f_e1]; exact hT 110 110 (A_110 hw) (((2 * g1) + 1).toNat)
  have ht_f_ties : (0 ≤ f_ties ∧ f_ties ≤ 20) := by rw [← q_f_ties]; exact hT 106 106 (A_106 hw) 6
  have h1 : 1 ≤ f_ties ∧ f_ties ≤ 20 := (vc_X12_tieOf_hit_1 hq0 ht_f_ties hg1)
  refine mr_lvE (lv' := [(0, .ref 106), (1, iv p1), (2, iv p2)]) rfl ?_
  refine mr_iconst (pc := 0) (z := 0) dX12_tieOf_0 ?_
  refine mr_istore_n (pc := 1) (lv' := [(3, iv 0), (0, .ref 106), (1, iv p1), (2, iv p2)]) dX12_tieOf_1 rfl (by decide) rfl ?_
  have L417 : ∀ (nL417 : Nat) (z416 : Int), True → (0 ≤ z416 ∧ z416 ≤ 20) → (z416 ≤ g1) → (21 - z416) < (nL417 : Int) → sV (gG l D c H0 sa) mX12_tieOf (sRm 1 0 0) (sZ (gG l D c H0 sa) 0 0 (qP w μ (fun z => (0 ≤ z ∧ z ≤ 19) ∧ True))) 2 [(0, .ref 106), (1, iv p1), (2, iv p2), (3, iv z416)] [] (mk w μ) 0 0 := by
    intro nL417
    induction nL417 with
    | zero => intro z416 _ h418 h422 h423; exact ((vc_X12_tieOf_hit_2 h423 h422 hq0 h1 hg1 h418)).elim
    | succ nL417 ih424 =>
      intro z416 _ h418 h422 h423
      refine mr_iload_n (pc := 2) (z := z416) dX12_tieOf_2 rfl rfl ?_
      refine sv_aload_n (pc := 3) dX12_tieOf_3 rfl rfl ?_
      refine gk_X12_6 (pc := 4) dX12_tieOf_4 wF_X12_37 (A_106 hw) q_f_ties ?_
      refine mr_icmp_ge (pc := 7) (tgt := 70) dX12_tieOf_7 (by decide) (r32 h418 rfl) (r32 h1 rfl) (fun h => ((vc_X12_tieOf_hit_3 h hq0 h422 h1 hg1 h418)).elim) (fun h425 => ?_)
      have h426 : 0 ≤ z416 ∧ z416 ≤ 19 := (vc_X12_tieOf_hit_4 h425 hq0 h422 h1 hg1 h418)
      refine sv_aload_n (pc := 10) dX12_tieOf_10 rfl rfl ?_
      refine gf_X12_7 (pc := 11) dX12_tieOf_11 wF_X12_40 (A_106 hw) hT ?_
      refine mr_iconst (pc := 14) (z := 2) dX12_tieOf_14 ?_
      refine mr_iload_n (pc := 15) (z := z416) dX12_tieOf_15 rfl rfl ?_
      refine mr_imul (pc := 16) (x := 2) (y := z416) dX12_tieOf_16 ?_
      refine la_110 (pc := 17) dX12_tieOf_17 (A_110 hw) hT (rIx (n := 40) (rMulL (n := 2) (e := 0) (f := 38) h426 rfl) rfl) fun z427 q428 h429 => ?_
      refine mr_iload_n (pc := 18) (z := p1) dX12_tieOf_18 rfl rfl ?_
      refine mr_icmp_ne (pc := 19) (tgt := 36) dX12_tieOf_19 (by decide) (r32 h429 rfl) hp1 (fun h430 => ?_) (fun h430 => ?_)
      · refine sv_aload_n (pc := 36) dX12_tieOf_36 rfl rfl ?_
        refine gf_X12_7 (pc := 37) dX12_tieOf_37 wF_X12_40 (A_106 hw) hT ?_
        refine mr_iconst (pc := 40) (z := 2) dX12_tieOf_40 ?_
        refine mr_iload_n (pc := 41) (z := z416) dX12_tieOf_41 rfl rfl ?_
        refine mr_imul (pc := 42) (x := 2) (y := z416) dX12_tieOf_42 ?_
        refine lk_110 (pc := 43) dX12_tieOf_43 (A_110 hw) (rIx (n := 40) (rMulL (n := 2) (e := 0) (f := 38) h426 rfl) rfl) q428 ?_
        refine mr_iload_n (pc := 44) (z := p2) dX12_tieOf_44 rfl rfl ?_
        refine mr_icmp_ne (pc := 45) (tgt := 64) dX12_tieOf_45 (by decide) (r32 h429 rfl) hp2 (fun h431 => ?_) (fun h431 => ?_)
        · refine mr_iinc (pc := 64) (lv' := [(3, iv (z416 + 1)), (0, .ref 106), (1, iv p1), (2, iv p2)]) dX12_tieOf_64 rfl (by decide) rfl ?_
          refine sv_goto (pc := 67) (tgt := 2) dX12_tieOf_67 (by decide) ?_
          refine mr_lvS (lv' := [(0, .ref 106), (1, iv p1), (2, iv p2), (3, iv (z416 + 1))]) (List.forall_mem_cons.mpr ⟨rfl, List.forall_mem_cons.mpr ⟨rfl, List.forall_mem_cons.mpr ⟨rfl, List.forall_mem_cons.mpr ⟨rfl, fun _ h => absurd h List.not_mem_nil⟩⟩⟩⟩) ?_
          exact ih424 (z416 + 1) trivial (rW (c := 0) (d := 20) (rAdd (e := 1) (f := 20) h426 (rR (x := 1)) rfl) rfl) (vc_X12_tieOf_hit_5 hq0 h422 h425 (cgr q428 q_f_e0) (cgr q428 q_f_e1) hq1 h430 h431 ht_f_e0 ht_f_e1 h1 hg1 hp1 hp2 h426 h429) (vc_X12_tieOf_hit_6 (nS h423) h422 h425 (cgr q428 q_f_e0) (cgr q428 q_f_e1) hq0 hq1 h430 h431 ht_f_e0 ht_f_e1 h1 hg1 hp1 hp2 h426 h429)
        have h432 : 0 ≤ p2 ∧ p2 ≤ 9 := (vc_X12_tieOf_hit_7 h431 hq1 (cgr q428 q_f_e0) (cgr q428 q_f_e1) h430 ht_f_e0 ht_f_e1 hg1 hp1 hp2 h426 h429)
        refine sv_aload_n (pc := 48) dX12_tieOf_48 rfl rfl ?_
        refine gf_X12_7 (pc := 49) dX12_tieOf_49 wF_X12_40 (A_106 hw) hT ?_
        refine mr_iconst (pc := 52) (z := 2) dX12_tieOf_52 ?_
        refine mr_iload_n (pc := 53) (z := z416) dX12_tieOf_53 rfl rfl ?_
        refine mr_imul (pc := 54) (x := 2) (y := z416) dX12_tieOf_54 ?_
        refine mr_iconst (pc := 55) (z := 1) dX12_tieOf_55 ?_
        refine mr_iadd (pc := 56) (x := (2 * z416)) (y := 1) dX12_tieOf_56 ?_
        refine la_110 (pc := 57) dX12_tieOf_57 (A_110 hw) hT (rIx (n := 40) (rAdd (e := 1) (f := 39) (rMulL (n := 2) (e := 0) (f := 38) h426 rfl) (rR (x := 1)) rfl) rfl) fun z433 q434 h435 => ?_
        refine mr_iload_n (pc := 58) (z := p1) dX12_tieOf_58 rfl rfl ?_
        refine mr_icmp_ne (pc := 59) (tgt := 64) dX12_tieOf_59 (by decide) (r32 h435 rfl) hp1 (fun h436 => ?_) (fun h436 => ?_)
        · refine mr_iinc (pc := 64) (lv' := [(3, iv (z416 + 1)), (0, .ref 106), (1, iv p1), (2, iv p2)]) dX12_tieOf_64 rfl (by decide) rfl ?_
          refine sv_goto (pc := 67) (tgt := 2) dX12_tieOf_67 (by decide) ?_
          refine mr_lvS (lv' := [(0, .ref 106), (1, iv p1), (2, iv p2), (3, iv (z416 + 1))]) (List.forall_mem_cons.mpr ⟨rfl, List.forall_mem_cons.mpr ⟨rfl, List.forall_mem_cons.mpr ⟨rfl, List.forall_mem_cons.mpr ⟨rfl, fun _ h => absurd h List.not_mem_nil⟩⟩⟩⟩) ?_
          exact ih424 (z416 + 1) trivial (rW (c := 0) (d := 20) (rAdd (e := 1) (f := 20) h426 (rR (x := 1)) rfl) rfl) (vc_X12_tieOf_hit_8 hq0 h422 h425 (cgr q428 q_f_e0) (cgr q428 q_f_e1) (cgr q434 q_f_e0) (cgr q434 q_f_e1) (cgr q434 q428) hq1 h430 h431 h436 ht_f_e0 ht_f_e1 h1 hg1 hp1 h432 h426 h429 h435) (vc_X12_tieOf_hit_9 (nS h423) h422 h425 (cgr q428 q_f_e0) (cgr q428 q_f_e1) (cgr q434 q_f_e0) (cgr q434 q_f_e1) (cgr q434 q428) hq0 hq1 h430 h431 h436 ht_f_e0 ht_f_e1 h1 hg1 hp1 h432 h426 h429 h435)
        have h437 : 0 ≤ p1 ∧ p1 ≤ 9 := (vc_X12_tieOf_hit_10 h436 hq1 h430 (cgr q434 q_f_e0) (cgr q434 q_f_e1) (cgr q434 q428) ht_f_e0 ht_f_e1 hg1 hp1 h432 h426 h429 h435)
        refine mr_iload_n (pc := 62) (z := z416) dX12_tieOf_62 rfl rfl ?_
        exact mr_iretP dX12_tieOf_63 rfl (le_t rfl) (le_t rfl) ⟨h426, trivial⟩
      have h438 : 0 ≤ p1 ∧ p1 ≤ 9 := (vc_X12_tieOf_hit_11 h430 hq1 (cgr q428 q_f_e0) (cgr q428 q_f_e1) ht_f_e0 ht_f_e1 hg1 hp1 hp2 h426 h429)
      refine sv_aload_n (pc := 22) dX12_tieOf_22 rfl rfl ?_
      refine gf_X12_7 (pc := 23) dX12_tieOf_23 wF_X12_40 (A_106 hw) hT ?_
      refine mr_iconst (pc := 26) (z := 2) dX12_tieOf_26 ?_
      refine mr_iload_n (pc := 27) (z := z416) dX12_tieOf_27 rfl rfl ?_
      refine mr_imul (pc := 28) (x := 2) (y := z416) dX12_tieOf_28 ?_
      refine mr_iconst (pc := 29) (z := 1) dX12_tieOf_29 ?_
      refine mr_iadd (pc := 30) (x := (2 * z416)) (y := 1) dX12_tieOf_30 ?_
      refine la_110 (pc := 31) dX12_tieOf_31 (A_110 hw) hT (rIx (n := 40) (rAdd (e := 1) (f := 39) (rMulL (n := 2) (e := 0) (f := 38) h426 rfl) (rR (x := 1)) rfl) rfl) fun z439 q440 h441 => ?_
      refine mr_iload_n (pc := 32) (z := p2) dX12_tieOf_32 rfl rfl ?_
      refine mr_icmp_eq (pc := 33) (tgt := 62) dX12_tieOf_33 (by decide) (r32 h441 rfl) hp2 (fun h442 => ?_) (fun h442 => ?_)
      · have h443 : 0 ≤ p2 ∧ p2 ≤ 9 := (vc_X12_tieOf_hit_12 h442 hq1 (cgr q440 q_f_e0) (cgr q440 q_f_e1) (cgr q440 q428) ht_f_e0 ht_f_e1 hg1 h438 hp2 h426 h429 h441)
        refine mr_iload_n (pc := 62) (z := z416) dX12_tieOf_62 rfl rfl ?_
        exact mr_iretP dX12_tieOf_63 rfl (le_t rfl) (le_t rfl) ⟨h426, trivial⟩
      refine sv_aload_n (pc := 36) dX12_tieOf_36 rfl rfl ?_
      refine gf_X12_7 (pc := 37) dX12_tieOf_37 wF_X12_40 (A_106 hw) hT ?_
      refine mr_iconst (pc := 40) (z := 2) dX12_tieOf_40 ?_
      refine mr_iload_n (pc := 41) (z := z416) dX12_tieOf_41 rfl rfl ?_
      refine mr_imul (pc := 42) (x := 2) (y := z416) dX12_tieOf_42 ?_
      refine lk_110 (pc := 43) dX12_tieOf_43 (A_110 hw) (rIx (n := 40) (rMulL (n := 2) (e := 0) (f := 38) h426 rfl) rfl) q428 ?_
      refine mr_iload_n (pc := 44) (z := p2) dX12_tieOf_44 rfl rfl ?_
      refine mr_icmp_ne (pc := 45) (tgt := 64) dX12_tieOf_45 (by decide) (r32 h429 rfl) hp2 (fun h444 => ?_) (fun h444 => ?_)
      · refine mr_iinc (pc := 64) (lv' := [(3, iv (z416 + 1)), (0, .ref 106), (1, iv p1), (2, iv p2)]) dX12_tieOf_64 rfl (by decide) rfl ?_
        refine sv_goto (pc := 67) (tgt := 2) dX12_tieOf_67 (by decide) ?_
        refine mr_lvS (lv' := [(0, .ref 106), (1, iv p1), (2, iv p2), (3, iv (z416 + 1))]) (List.forall_mem_cons.mpr ⟨rfl, List.forall_mem_cons.mpr ⟨rfl, List.forall_mem_cons.mpr ⟨rfl, List.forall_mem_cons.mpr ⟨rfl, fun _ h => absurd h List.not_mem_nil⟩⟩⟩⟩) ?_
        exact ih424 (z416 + 1) trivial (rW (c := 0) (d := 20) (rAdd (e := 1) (f := 20) h426 (rR (x := 1)) rfl) rfl) (vc_X12_tieOf_hit_13 hq0 h422 h425 (cgr q428 q_f_e0) (cgr q428 q_f_e1) (cgr q440 q_f_e0) (cgr q440 q_f_e1) (cgr q440 q428) hq1 h430 h442 h444 ht_f_e0 ht_f_e1 h1 hg1 h438 hp2 h426 h429 h441) (vc_X12_tieOf_hit_14 (nS h423) h422 h425 (cgr q428 q_f_e0) (cgr q428 q_f_e1) (cgr q440 q_f_e0) (cgr q440 q_f_e1) (cgr q440 q428) hq0 hq1 h430 h442 h444 ht_f_e0 ht_f_e1 h1 hg1 h438 hp2 h426 h429 h441)
      have h445 : 0 ≤ p2 ∧ p2 ≤ 9 := (vc_X12_tieOf_hit_15 h444 hq1 (cgr q428 q_f_e0) (cgr q428 q_f_e1) h430 (cgr q440 q428) h442 ht_f_e0 ht_f_e1 hg1 h438 hp2 h426 h429 h441)
      refine sv_aload_n (pc := 48) dX12_tieOf_48 rfl rfl ?_
      refine gf_X12_7 (pc := 49) dX12_tieOf_49 wF_X12_40 (A_106 hw) hT ?_
      refine mr_iconst (pc := 52) (z := 2) dX12_tieOf_52 ?_
      refine mr_iload_n (pc := 53) (z := z416) dX12_tieOf_53 rfl rfl ?_
      refine mr_imul (pc := 54) (x := 2) (y := z416) dX12_tieOf_54 ?_
      refine mr_iconst (pc := 55) (z := 1) dX12_tieOf_55 ?_
      refine mr_iadd (pc := 56) (x := (2 * z416)) (y := 1) dX12_tieOf_56 ?_
      refine lk_110 (pc := 57) dX12_tieOf_57 (A_110 hw) (rIx (n := 40) (rAdd (e := 1) (f := 39) (rMulL (n := 2) (e := 0) (f := 38) h426 rfl) (rR (x := 1)) rfl) rfl) q440 ?_
      refine mr_iload_n (pc := 58) (z := p1) dX12_tieOf_58 rfl rfl ?_
      refine mr_icmp_ne (pc := 59) (tgt := 64) dX12_tieOf_59 (by decide) (r32 h441 rfl) (r32 h438 rfl) (fun h446 => ?_) (fun h446 => ?_)
      · refine mr_iinc (pc := 64) (lv' := [(3, iv (z416 + 1)), (0, .ref 106), (1, iv p1), (2, iv p2)]) dX12_tieOf_64 rfl (by decide) rfl ?_
        refine sv_goto (pc := 67) (tgt := 2) dX12_tieOf_67 (by decide) ?_
        refine mr_lvS (lv' := [(0, .ref 106), (1, iv p1), (2, iv p2), (3, iv (z416 + 1))]) (List.forall_mem_cons.mpr ⟨rfl, List.forall_mem_cons.mpr ⟨rfl, List.forall_mem_cons.mpr ⟨rfl, List.forall_mem_cons.mpr ⟨rfl, fun _ h => absurd h List.not_mem_nil⟩⟩⟩⟩) ?_
        exact ih424 (z416 + 1) trivial (rW (c := 0) (d := 20) (rAdd (e := 1) (f := 20) h426 (rR (x := 1)) rfl) rfl) (vc_X12_tieOf_hit_16 hq0 h422 h425 (cgr q428 q_f_e0) (cgr q428 q_f_e1) (cgr q440 q_f_e0) (cgr q440 q_f_e1) (cgr q440 q428) hq1 h430 h442 h444 h446 ht_f_e0 ht_f_e1 h1 hg1 h438 h445 h426 h429 h441) (vc_X12_tieOf_hit_17 (nS h423) h422 h425 (cgr q428 q_f_e0) (cgr q428 q_f_e1) (cgr q440 q_f_e0) (cgr q440 q_f_e1) (cgr q440 q428) hq0 hq1 h430 h442 h444 h446 ht_f_e0 ht_f_e1 h1 hg1 h438 h445 h426 h429 h441)
      refine mr_iload_n (pc := 62) (z := z416) dX12_tieOf_62 rfl rfl ?_
      exact mr_iretP dX12_tieOf_63 rfl (le_t rfl) (le_t rfl) ⟨h426, trivial⟩
  refine mr_lvS (lv' := [(0, .ref 106), (1, iv p1), (2, iv p2), (3, iv 0)]) (List.forall_mem_cons.mpr ⟨rfl, List.forall_mem_cons.mpr ⟨rfl, List.forall_mem_cons.mpr ⟨rfl, List.forall_mem_cons.mpr ⟨rfl, fun _ h => absurd h List.not_mem_nil⟩⟩⟩⟩) ?_
  exact L417 22 0 trivial (rW (c := 0) (d := 20) (rR (x := 0)) rfl) (vc_X12_tieOf_hit_18 hq0 h1 hg1) vc_X12_tieOf_hit_19
theorem vc_X12_tieWord_1 {f_ties g1 : Int} (h0 : g1 < f_ties) (h1 : 0 ≤ f_ties ∧ f_ties ≤ 20) (h2 : 0 ≤ g1 ∧ g1 ≤ 19) : 1 ≤ f_ties ∧ f_ties ≤ 20 := by omega
theorem vc_X12_tieWord_2 {f_ties g1 : Int} (h0 : g1 < f_ties) (h1 : 1 ≤ f_ties ∧ f_ties ≤ 20) (h2 : 0 ≤ g1 ∧ g1 ≤ 19) : g1 < f_ties := by omega
theorem vc_X12_tieWord_3 {f_e0 f_e1 p1 p2 : Int} (h0 : (f_e0 = p1 ∧ f_e1 = p2) ∨ (f_e0 = p2 ∧ f_e1 = p1)) (h1 : 0 ≤ f_e0 ∧ f_e0 ≤ 9) (h2 : 0 ≤ f_e1 ∧ f_e1 ≤ 9) (h3 : (-2147483648) ≤ p1 ∧ p1 ≤ 2147483647) (h4 : (-2147483648) ≤ p2 ∧ p2 ≤ 2147483647) : (f_e0 = p1 ∧ f_e1 = p2) ∨ (f_e0 = p2 ∧ f_e1 = p1) := by omega
theorem vc_X12_tieWord_4 {z52 : Int} (h0 : ¬ z52 = 2) (h1 : ¬ z52 = 1) (h2 : 0 ≤ z52 ∧ z52 ≤ 2) : 0 ≤ z52 ∧ z52 ≤ 1 := by omega
theorem vc_X12_tieWord_5 {f_e0 f_e1 p1 p2 z58 : Int} (h0 : z58 = p1) (h1 : (f_e0 = p1 ∧ f_e1 = p2) ∨ (f_e0 = p2 ∧ f_e1 = p1)) (h2 : 0 ≤ f_e0 ∧ f_e0 ≤ 9) (h3 : 0 ≤ f_e1 ∧ f_e1 ≤ 9) (h4 : (-2147483648) ≤ p1 ∧ p1 ≤ 2147483647) (h5 : (-2147483648) ≤ p2 ∧ p2 ≤ 2147483647) (h6 : 0 ≤ z58 ∧ z58 ≤ 9) : 0 ≤ p1 ∧ p1 ≤ 9 := by omega
theorem vc_X12_tieWord_6 {z52 : Int} (h0 : z52 = 2) (h1 : ¬ z52 = 1) (h2 : 0 ≤ z52 ∧ z52 ≤ 2) : 2 ≤ z52 ∧ z52 ≤ 2 := by omega
theorem vc_X12_tieWord_7 {z52 : Int} (h0 : z52 = 1) (h1 : 0 ≤ z52 ∧ z52 ≤ 2) : 1 ≤ z52 ∧ z52 ≤ 1 := by omega
set_option maxRecDepth 4000 in
set_option maxHeartbeats 4000000 in
theorem c_X12_tieWord {l : Launch} {D : va_G} {c : Nat → ClassId} {H0 : Heap} {sa : Nat × Nat × (Nat → Int32)} {w : mW} {μ : mM} (hw : mWF w) (hT : mT w μ) {p1 : Int} (hp1 : (-2147483648) ≤ p1 ∧ p1 ≤ 2147483647) {p2 : Int} (hp2 : (-2147483648) ≤ p2 ∧ p2 ≤ 2147483647) {g1 : Int} (hg1 : 0 ≤ g1 ∧ g1 ≤ 19) {f_e0 : Int} (q_f_e0 : μ 110 ((2 * g1).toNat) = f_e0) {f_e1 : Int} (q_f_e1 : μ 110 (((2 * g1) + 1).toNat) = f_e1) {f_ties : Int} (q_f_ties : μ 106 6 = f_ties) (hq0 : g1 < f_ties) (hq1 : (f_e0 = p1 ∧ f_e1 = p2) ∨ (f_e0 = p2 ∧ f_e1 = p1)) : sC (gG l D c H0 sa) mX12_tieWord 2 0 0 [.ref 106, iv p1, iv p2] (mk w μ) (qP w μ (fun z => (16 ≤ z ∧ z ≤ 19) ∧ True)) := by
  refine sC.of rfl (by decide) (le_t rfl) ?_
  have ht_f_e0 : (0 ≤ f_e0 ∧ f_e0 ≤ 9) := by rw [← q_f_e0]; exact hT 110 110 (A_110 hw) ((2 * g1).toNat)
  have ht_f_e1 : (0 ≤ f_e1 ∧ f_e1 ≤ 9) := by rw [← q_f_e1]; exact hT 110 110 (A_110 hw) (((2 * g1) + 1).toNat)
  have ht_f_ties : (0 ≤ f_ties ∧ f_ties ≤ 20) := by rw [← q_f_ties]; exact hT 106 106 (A_106 hw) 6
  have h1 : 1 ≤ f_ties ∧ f_ties ≤ 20 := (vc_X12_tieWord_1 hq0 ht_f_ties hg1)
  refine mr_lvE (lv' := [(0, .ref 106), (1, iv p1), (2, iv p2)]) rfl ?_
  refine sv_aload_n (pc := 0) dX12_tieWord_0 rfl rfl ?_
  refine mr_iload_n (pc := 1) (z := p1) dX12_tieWord_1 rfl rfl ?_
  refine mr_iload_n (pc := 2) (z := p2) dX12_tieWord_2 rfl rfl ?_
  refine mr_cVP (pc := 3) (c_X12_tieOf_hit hw hT hp1 hp2 hg1 q_f_e0 q_f_e1 q_f_ties (vc_X12_tieWord_2 hq0 h1 hg1) (vc_X12_tieWord_3 hq1 ht_f_e0 ht_f_e1 hp1 hp2)) (gOk _ _ _ _ _) dX12_tieWord_3 (tX12_tieOf _ _ _ _ _) ⟨wV_X12_tieOf, wL_X12_tieOf⟩ wM_X12_43 (gCX12 _ _ _ _ _) rfl (A_106 hw) rfl ⟨le_t rfl, le_t rfl⟩ ⟨le_t rfl, le_t rfl⟩ rfl (le_t rfl) fun z51 h50 => ?_
  refine mr_istore_n (pc := 6) (lv' := [(3, iv z51), (0, .ref 106), (1, iv p1), (2, iv p2)]) dX12_tieWord_6 rfl (by decide) rfl ?_
  refine sv_aload_n (pc := 7) dX12_tieWord_7 rfl rfl ?_
  refine gf_X12_8 (pc := 8) dX12_tieWord_8 wF_X12_46 (A_106 hw) hT ?_
  refine mr_iload_n (pc := 11) (z := z51) dX12_tieWord_11 rfl rfl ?_
  refine la_111 (pc := 12) dX12_tieWord_12 (A_111 hw) hT (rIx (n := 20) h50.1 rfl) fun z52 q53 h54 => ?_
  refine mr_iconst (pc := 13) (z := 1) dX12_tieWord_13 ?_
  refine mr_icmp_ne (pc := 14) (tgt := 20) dX12_tieWord_14 (by decide) (r32 h54 rfl) (r32 (rR (x := 1)) rfl) (fun h55 => ?_) (fun h55 => ?_)
  · refine sv_aload_n (pc := 20) dX12_tieWord_20 rfl rfl ?_
    refine gf_X12_8 (pc := 21) dX12_tieWord_21 wF_X12_46 (A_106 hw) hT ?_
    refine mr_iload_n (pc := 24) (z := z51) dX12_tieWord_24 rfl rfl ?_
    refine lk_111 (pc := 25) dX12_tieWord_25 (A_111 hw) (rIx (n := 20) h50.1 rfl) q53 ?_
    refine mr_iconst (pc := 26) (z := 2) dX12_tieWord_26 ?_
    refine mr_icmp_ne (pc := 27) (tgt := 33) dX12_tieWord_27 (by decide) (r32 h54 rfl) (r32 (rR (x := 2)) rfl) (fun h56 => ?_) (fun h56 => ?_)
    · have h57 : 0 ≤ z52 ∧ z52 ≤ 1 := (vc_X12_tieWord_4 h56 h55 h54)
      refine sv_aload_n (pc := 33) dX12_tieWord_33 rfl rfl ?_
      refine gf_X12_7 (pc := 34) dX12_tieWord_34 wF_X12_40 (A_106 hw) hT ?_
      refine mr_iconst (pc := 37) (z := 2) dX12_tieWord_37 ?_
      refine mr_iload_n (pc := 38) (z := z51) dX12_tieWord_38 rfl rfl ?_
      refine mr_imul (pc := 39) (x := 2) (y := z51) dX12_tieWord_39 ?_
      refine la_110 (pc := 40) dX12_tieWord_40 (A_110 hw) hT (rIx (n := 40) (rMulL (n := 2) (e := 0) (f := 38) h50.1 rfl) rfl) fun z58 q59 h60 => ?_
      refine mr_iload_n (pc := 41) (z := p1) dX12_tieWord_41 rfl rfl ?_
      refine mr_icmp_ne (pc := 42) (tgt := 50) dX12_tieWord_42 (by decide) (r32 h60 rfl) hp1 (fun h62 => ?_) (fun h62 => ?_)
      · refine mr_bipush (pc := 50) (z := 17) dX12_tieWord_50 (by decide) ?_
        exact mr_iretP dX12_tieWord_52 rfl (le_t rfl) (le_t rfl) ⟨(rW (c := 16) (d := 19) (rR (x := 17)) rfl), trivial⟩
      have h63 : 0 ≤ p1 ∧ p1 ≤ 9 := (vc_X12_tieWord_5 h62 hq1 ht_f_e0 ht_f_e1 hp1 hp2 h60)
      refine mr_bipush (pc := 45) (z := 16) dX12_tieWord_45 (by decide) ?_
      refine sv_goto (pc := 47) (tgt := 52) dX12_tieWord_47 (by decide) ?_
      exact mr_iretP dX12_tieWord_52 rfl (le_t rfl) (le_t rfl) ⟨(rW (c := 16) (d := 19) (rR (x := 16)) rfl), trivial⟩
    have h64 : 2 ≤ z52 ∧ z52 ≤ 2 := (vc_X12_tieWord_6 h56 h55 h54)
    refine mr_bipush (pc := 30) (z := 19) dX12_tieWord_30 (by decide) ?_
    exact mr_iretP dX12_tieWord_32 rfl (le_t rfl) (le_t rfl) ⟨(rW (c := 16) (d := 19) (rR (x := 19)) rfl), trivial⟩
  have h65 : 1 ≤ z52 ∧ z52 ≤ 1 := (vc_X12_tieWord_7 h55 h54)
  refine mr_bipush (pc := 17) (z := 18) dX12_tieWord_17 (by decide) ?_
  exact mr_iretP dX12_tieWord_19 rfl (le_t rfl) (le_t rfl) ⟨(rW (c := 16) (d := 19) (rR (x := 18)) rfl), trivial⟩
theorem vc_X12_isSo_1 {p3 : Int} (h0 : 0 ≤ p3 ∧ p3 ≤ 2099) : 0 ≤ (40 * p3) := by omega
theorem vc_X12_isSo_2 {p3 : Int} (h0 : 0 ≤ p3 ∧ p3 ≤ 2099) : (40 * p3) % 40 = 0 := by omega
theorem vc_X12_isSo_3 {f_ties g1 : Int} (h0 : g1 < f_ties) (h1 : 0 ≤ f_ties ∧ f_ties ≤ 20) (h2 : 0 ≤ g1 ∧ g1 ≤ 19) : 1 ≤ f_ties ∧ f_ties ≤ 20 := by omega
theorem vc_X12_isSo_4 {f_x : Int} (h0 : 0 ≤ f_x) (h1 : (-1) ≤ f_x ∧ f_x ≤ 9) : 0 ≤ f_x ∧ f_x ≤ 9 := by omega
theorem vc_X12_isSo_5 {p3 : Int} (h0 : 0 ≤ p3 ∧ p3 ≤ 2099) : ((40 * p3) + 4) % 40 = 4 := by omega
theorem vc_X12_isSo_6 {z610 : Int} (h0 : ¬ z610 = 2) (h1 : ¬ z610 = 1) (h2 : 0 ≤ z610 ∧ z610 ≤ 2) : 0 ≤ z610 ∧ z610 ≤ 1 := by omega
theorem vc_X12_isSo_7 {z611 : Int} (h0 : z611 = 22) (h1 : (-2147483648) ≤ z611 ∧ z611 ≤ 2147483647) : 22 ≤ z611 ∧ z611 ≤ 22 := by omega
theorem vc_X12_isSo_8 {z610 : Int} (h0 : z610 = 2) (h1 : ¬ z610 = 1) (h2 : 0 ≤ z610 ∧ z610 ≤ 2) : 2 ≤ z610 ∧ z610 ≤ 2 := by omega
theorem vc_X12_isSo_9 {z611 : Int} (h0 : z611 = 21) (h1 : (-2147483648) ≤ z611 ∧ z611 ≤ 2147483647) : 21 ≤ z611 ∧ z611 ≤ 21 := by omega
theorem vc_X12_isSo_10 {z610 : Int} (h0 : z610 = 1) (h1 : 0 ≤ z610 ∧ z610 ≤ 2) : 1 ≤ z610 ∧ z610 ≤ 1 := by omega
theorem vc_X12_isSo_11 {z611 : Int} (h0 : z611 = 20) (h1 : (-2147483648) ≤ z611 ∧ z611 ≤ 2147483647) : 20 ≤ z611 ∧ z611 ≤ 20 := by omega
theorem vc_X12_isSo_12 {z439 : Int} (h0 : ¬ z439 = 0) (h1 : 0 ≤ z439 ∧ z439 ≤ 20) : 1 ≤ z439 ∧ z439 ≤ 20 := by omega
theorem vc_X12_isSo_13 {z439 : Int} (h0 : z439 = 0) (h1 : 0 ≤ z439 ∧ z439 ≤ 20) : 0 ≤ z439 ∧ z439 ≤ 0 := by omega
theorem vc_X12_isSo_14 {z443 : Int} (h0 : z443 = 14) (h1 : ¬ z443 = 6) (h2 : ¬ z443 = 8) (h3 : ¬ z443 = 9) (h4 : ¬ z443 = 10) (h5 : ¬ z443 = 11) (h6 : ¬ z443 = 12) (h7 : ¬ z443 = 13) (h8 : (-2147483648) ≤ z443 ∧ z443 ≤ 2147483647) : 14 ≤ z443 ∧ z443 ≤ 14 := by omega
theorem vc_X12_isSo_15 {z443 : Int} (h0 : z443 = 13) (h1 : ¬ z443 = 4) (h2 : ¬ z443 = 6) (h3 : ¬ z443 = 8) (h4 : ¬ z443 = 9) (h5 : ¬ z443 = 10) (h6 : ¬ z443 = 11) (h7 : ¬ z443 = 12) (h8 : (-2147483648) ≤ z443 ∧ z443 ≤ 2147483647) : 13 ≤ z443 ∧ z443 ≤ 13 := by omega
theorem vc_X12_isSo_16 {z443 : Int} (h0 : z443 = 12) (h1 : ¬ z443 = 4) (h2 : ¬ z443 = 6) (h3 : ¬ z443 = 8) (h4 : ¬ z443 = 9) (h5 : ¬ z443 = 10) (h6 : ¬ z443 = 11) (h7 : (-2147483648) ≤ z443 ∧ z443 ≤ 2147483647) : 12 ≤ z443 ∧ z443 ≤ 12 := by omega
theorem vc_X12_isSo_17 {z443 : Int} (h0 : z443 = 11) (h1 : ¬ z443 = 4) (h2 : ¬ z443 = 6) (h3 : ¬ z443 = 8) (h4 : ¬ z443 = 9) (h5 : ¬ z443 = 10) (h6 : (-2147483648) ≤ z443 ∧ z443 ≤ 2147483647) : 11 ≤ z443 ∧ z443 ≤ 11 := by omega
theorem vc_X12_isSo_18 {z443 : Int} (h0 : z443 = 10) (h1 : ¬ z443 = 4) (h2 : ¬ z443 = 6) (h3 : ¬ z443 = 8) (h4 : ¬ z443 = 9) (h5 : (-2147483648) ≤ z443 ∧ z443 ≤ 2147483647) : 10 ≤ z443 ∧ z443 ≤ 10 := by omega
theorem vc_X12_isSo_19 {f_ties g1 : Int} (h0 : g1 < f_ties) (h1 : 1 ≤ f_ties ∧ f_ties ≤ 20) (h2 : 0 ≤ g1 ∧ g1 ≤ 19) : g1 < f_ties := by omega
theorem vc_X12_isSo_20 {f_e0 f_e1 p4 p5 : Int} (h0 : (f_e0 = p4 ∧ f_e1 = p5) ∨ (f_e0 = p5 ∧ f_e1 = p4)) (h1 : 0 ≤ f_e0 ∧ f_e0 ≤ 9) (h2 : 0 ≤ f_e1 ∧ f_e1 ≤ 9) (h3 : (-2147483648) ≤ p4 ∧ p4 ≤ 2147483647) (h4 : (-2147483648) ≤ p5 ∧ p5 ≤ 2147483647) : (f_e0 = p4 ∧ f_e1 = p5) ∨ (f_e0 = p5 ∧ f_e1 = p4) := by omega
theorem vc_X12_isSo_21 {z694 z695 : Int} (h0 : z694 = z695) (h1 : 16 ≤ z694 ∧ z694 ≤ 19) (h2 : (-2147483648) ≤ z695 ∧ z695 ≤ 2147483647) : 16 ≤ z695 ∧ z695 ≤ 19 := by omega
theorem vc_X12_isSo_22 {z443 : Int} (h0 : z443 = 9) (h1 : ¬ z443 = 4) (h2 : ¬ z443 = 6) (h3 : ¬ z443 = 8) (h4 : (-2147483648) ≤ z443 ∧ z443 ≤ 2147483647) : 9 ≤ z443 ∧ z443 ≤ 9 := by omega
theorem vc_X12_isSo_23 {z443 : Int} (h0 : z443 = 8) (h1 : ¬ z443 = 4) (h2 : ¬ z443 = 6) (h3 : (-2147483648) ≤ z443 ∧ z443 ≤ 2147483647) : 8 ≤ z443 ∧ z443 ≤ 8 := by omega
theorem vc_X12_isSo_24 {z443 : Int} (h0 : z443 = 6) (h1 : ¬ z443 = 4) (h2 : (-2147483648) ≤ z443 ∧ z443 ≤ 2147483647) : 6 ≤ z443 ∧ z443 ≤ 6 := by omega
theorem vc_X12_isSo_25 {z443 : Int} (h0 : z443 = 4) (h1 : (-2147483648) ≤ z443 ∧ z443 ≤ 2147483647) : 4 ≤ z443 ∧ z443 ≤ 4 := by omega
theorem vc_X12_isSo_26 {z722 z725 : Int} (h0 : z722 < z725) (h1 : 0 ≤ z722 ∧ z722 ≤ 32) (h2 : (-2147483648) ≤ z725 ∧ z725 ≤ 2147483647) : 1 ≤ z725 ∧ z725 ≤ 2147483647 := by omega
theorem vc_X12_isSo_27 {z722 z725 : Int} (h0 : z725 ≤ z722) (h1 : 0 ≤ z722 ∧ z722 ≤ 32) (h2 : (-2147483648) ≤ z725 ∧ z725 ≤ 2147483647) : (-2147483648) ≤ z725 ∧ z725 ≤ 32 := by omega
theorem vc_X12_isSo_28 {z761 : Int} (h0 : z761 = 0) (h1 : 0 ≤ z761 ∧ z761 ≤ 1) : 0 ≤ z761 ∧ z761 ≤ 0 := by omega
theorem vc_X12_isSo_29 {z761 : Int} (h0 : ¬ z761 = 0) (h1 : 0 ≤ z761 ∧ z761 ≤ 1) : 1 ≤ z761 ∧ z761 ≤ 1 := by omega
theorem vc_X12_isSo_30 {z722 z725 z772 : Int} (h0 : z772 < z722) (h1 : z725 ≤ z722) (h2 : 0 ≤ z722 ∧ z722 ≤ 32) (h3 : (-2147483648) ≤ z725 ∧ z725 ≤ 32) (h4 : (-2147483648) ≤ z772 ∧ z772 ≤ 2147483647) : (-2147483648) ≤ z772 ∧ z772 ≤ 31 := by omega
theorem vc_X12_isSo_31 {z722 z725 z772 : Int} (h0 : z722 ≤ z772) (h1 : z725 ≤ z722) (h2 : 0 ≤ z722 ∧ z722 ≤ 32) (h3 : (-2147483648) ≤ z725 ∧ z725 ≤ 32) (h4 : (-2147483648) ≤ z772 ∧ z772 ≤ 2147483647) : 0 ≤ z772 ∧ z772 ≤ 2147483647 := by omega
set_option maxRecDepth 4000 in
set_option maxHeartbeats 4000000 in
theorem c_X12_isSo {l : Launch} {D : va_G} {c : Nat → ClassId} {H0 : Heap} {sa : Nat × Nat × (Nat → Int32)} {w : mW} {μ : mM} (hw : mWF w) (hT : mT w μ) {p1 : Int} (hp1 : 0 ≤ p1 ∧ p1 ≤ 11) {p2 : Int} (hp2 : 0 ≤ p2 ∧ p2 ≤ 3899) {p3 : Int} (hp3 : 0 ≤ p3 ∧ p3 ≤ 2099) {p4 : Int} (hp4 : (-2147483648) ≤ p4 ∧ p4 ≤ 2147483647) {p5 : Int} (hp5 : (-2147483648) ≤ p5 ∧ p5 ≤ 2147483647) {g1 : Int} (hg1 : 0 ≤ g1 ∧ g1 ≤ 19) {f_e0 : Int} (q_f_e0 : μ 110 ((2 * g1).toNat) = f_e0) {f_e1 : Int} (q_f_e1 : μ 110 (((2 * g1) + 1).toNat) = f_e1) {f_ties : Int} (q_f_ties : μ 106 6 = f_ties) {f_x : Int} (q_f_x : μ 126 ((40 * p3).toNat) = f_x) (hq0 : g1 < f_ties) (hq1 : (f_e0 = p4 ∧ f_e1 = p5) ∨ (f_e0 = p5 ∧ f_e1 = p4)) (hq2 : 0 ≤ f_x) : sC (gG l D c H0 sa) mX12_isSo 5 0 0 [.ref 106, iv p1, iv p2, iv p3, iv p4, iv p5] (mk w μ) (qI w [106026, 106027, 106028, 106029, 106030, 106031] μ (fun z μ1 => (0 ≤ z ∧ z ≤ 1) ∧ True)) := by
  refine sC.of rfl (by decide) (le_t rfl) ?_
  have ht_f_e0 : (0 ≤ f_e0 ∧ f_e0 ≤ 9) := by rw [← q_f_e0]; exact hT 110 110 (A_110 hw) ((2 * g1).toNat)
  have ht_f_e1 : (0 ≤ f_e1 ∧ f_e1 ≤ 9) := by rw [← q_f_e1]; exact hT 110 110 (A_110 hw) (((2 * g1) + 1).toNat)
  have ht_f_ties : (0 ≤ f_ties ∧ f_ties ≤ 20) := by rw [← q_f_ties]; exact hT 106 106 (A_106 hw) 6
  have ht_f_x := rt7 hT (A_126 hw) (vc_X12_isSo_1 hp3) q_f_x
  have h1 : (-1) ≤ f_x ∧ f_x ≤ 9 := ht_f_x.2.1 (vc_X12_isSo_2 hp3)
  have h2 : 1 ≤ f_ties ∧ f_ties ≤ 20 := (vc_X12_isSo_3 hq0 ht_f_ties hg1)
  have h3 : 0 ≤ f_x ∧ f_x ≤ 9 := (vc_X12_isSo_4 hq2 h1)
  refine mr_lvE (lv' := [(0, .ref 106), (1, iv p1), (2, iv p2), (3, iv p3), (4, iv p4), (5, iv p5)]) rfl ?_
  refine sv_aload_n (pc := 0) dX12_isSo_0 rfl rfl ?_
  refine gf_X12_32 (pc := 1) dX12_isSo_1 wF_X12_148 (A_106 hw) hT ?_
  refine mr_bipush (pc := 4) (z := 40) dX12_isSo_4 (by decide) ?_
  refine mr_iload_n (pc := 6) (z := p3) dX12_isSo_6 rfl rfl ?_
  refine mr_imul (pc := 7) (x := 40) (y := p3) dX12_isSo_7 ?_
  refine lk_126 (pc := 8) dX12_isSo_8 (A_126 hw) (rIx (n := 84000) (rMulL (n := 40) (e := 0) (f := 83960) hp3 rfl) rfl) q_f_x ?_
  refine mr_istore (pc := 9) (lv' := [(6, iv f_x), (0, .ref 106), (1, iv p1), (2, iv p2), (3, iv p3), (4, iv p4), (5, iv p5)]) dX12_isSo_9 (by decide) rfl ?_
  refine sv_aload_n (pc := 11) dX12_isSo_11 rfl rfl ?_
  refine gf_X12_32 (pc := 12) dX12_isSo_12 wF_X12_148 (A_106 hw) hT ?_
  refine mr_bipush (pc := 15) (z := 40) dX12_isSo_15 (by decide) ?_
  refine mr_iload_n (pc := 17) (z := p3) dX12_isSo_17 rfl rfl ?_
  refine mr_imul (pc := 18) (x := 40) (y := p3) dX12_isSo_18 ?_
  refine mr_iconst (pc := 19) (z := 4) dX12_isSo_19 ?_
  refine mr_iadd (pc := 20) (x := (40 * p3)) (y := 4) dX12_isSo_20 ?_
  refine la_126 (pc := 21) dX12_isSo_21 (A_126 hw) hT (rIx (n := 84000) (rAdd (e := 4) (f := 83964) (rMulL (n := 40) (e := 0) (f := 83960) hp3 rfl) (rR (x := 4)) rfl) rfl) fun z439 q440 h441 => ?_
  have h442 : 0 ≤ z439 ∧ z439 ≤ 20 := h441.2.2.1 (vc_X12_isSo_5 hp3)
  refine mr_istore (pc := 22) (lv' := [(8, iv z439), (6, iv f_x), (0, .ref 106), (1, iv p1), (2, iv p2), (3, iv p3), (4, iv p4), (5, iv p5)]) dX12_isSo_22 (by decide) rfl ?_
  refine sv_aload_n (pc := 24) dX12_isSo_24 rfl rfl ?_
  refine gf_X12_45 (pc := 25) dX12_isSo_25 wF_X12_323 (A_106 hw) hT ?_
  refine mr_iload_n (pc := 28) (z := p2) dX12_isSo_28 rfl rfl ?_
  refine la_132 (pc := 29) dX12_isSo_29 (A_132 hw) hT (rIx (n := 3900) hp2 rfl) fun z443 q444 h445 => ?_
  refine mr_iconst (pc := 30) (z := 4) dX12_isSo_30 ?_
  have J581 : ∀ (z575 : Int) (μ577 : mM), (mT w μ577) → (mF [106026, 106027, 106028, 106029, 106030, 106031] w μ μ577) → ((0 ≤ z575 ∧ z575 ≤ 1)) → sV (gG l D c H0 sa) mX12_isSo (sRm 5 0 0) (sZ (gG l D c H0 sa) 0 0 (qI w [106026, 106027, 106028, 106029, 106030, 106031] μ (fun z μ1 => (0 ≤ z ∧ z ≤ 1) ∧ True))) 462 [(0, .ref 106), (2, iv p2), (7, iv z575)] [] (mk w μ577) 0 0 := by
    intro z575 μ577 T578 F579 h576
    refine mr_iload (pc := 462) (z := z575) dX12_isSo_462 rfl ?_
    refine sv_aload_n (pc := 464) dX12_isSo_464 rfl rfl ?_
    refine gf_X12_46 (pc := 465) dX12_isSo_465 wF_X12_326 (A_106 hw) T578 ?_
    refine mr_iload_n (pc := 468) (z := p2) dX12_isSo_468 rfl rfl ?_
    refine la_133 (pc := 469) dX12_isSo_469 (A_133 hw) T578 (rIx (n := 3900) hp2 rfl) fun z582 q583 h584 => ?_
    refine mr_icmp_eq (pc := 470) (tgt := 477) dX12_isSo_470 (by decide) (r32 h576 rfl) (r32 h584 rfl) (fun h585 => ?_) (fun h585 => ?_)
    · refine mr_iconst (pc := 477) (z := 0) dX12_isSo_477 ?_
      exact mr_zret dX12_isSo_478 rfl (rW (c := 0) (d := 1) (rR (x := 0)) rfl) (le_t rfl) (le_t rfl) T578 (mF.call mF.refl F579 rfl) ⟨(rW (c := 0) (d := 1) (rR (x := 0)) rfl), trivial⟩
    refine mr_iconst (pc := 473) (z := 1) dX12_isSo_473 ?_
    refine sv_goto (pc := 474) (tgt := 478) dX12_isSo_474 (by decide) ?_
    exact mr_zret dX12_isSo_478 rfl (rW (c := 0) (d := 1) (rR (x := 1)) rfl) (le_t rfl) (le_t rfl) T578 (mF.call mF.refl F579 rfl) ⟨(rW (c := 0) (d := 1) (rR (x := 1)) rfl), trivial⟩
  refine mr_icmp_ne (pc := 31) (tgt := 101) dX12_isSo_31 (by decide) h445 (r32 (rR (x := 4)) rfl) (fun h586 => ?_) (fun h586 => ?_)
  · refine sv_aload_n (pc := 101) dX12_isSo_101 rfl rfl ?_
    refine gf_X12_45 (pc := 102) dX12_isSo_102 wF_X12_323 (A_106 hw) hT ?_
    refine mr_iload_n (pc := 105) (z := p2) dX12_isSo_105 rfl rfl ?_
    refine lk_132 (pc := 106) dX12_isSo_106 (A_132 hw) (rIx (n := 3900) hp2 rfl) q444 ?_
    refine mr_bipush (pc := 107) (z := 6) dX12_isSo_107 (by decide) ?_
    refine mr_icmp_ne (pc := 109) (tgt := 124) dX12_isSo_109 (by decide) h445 (r32 (rR (x := 6)) rfl) (fun h587 => ?_) (fun h587 => ?_)
    · refine sv_aload_n (pc := 124) dX12_isSo_124 rfl rfl ?_
      refine gf_X12_45 (pc := 125) dX12_isSo_125 wF_X12_323 (A_106 hw) hT ?_
      refine mr_iload_n (pc := 128) (z := p2) dX12_isSo_128 rfl rfl ?_
      refine lk_132 (pc := 129) dX12_isSo_129 (A_132 hw) (rIx (n := 3900) hp2 rfl) q444 ?_
      refine mr_bipush (pc := 130) (z := 8) dX12_isSo_130 (by decide) ?_
      refine mr_icmp_ne (pc := 132) (tgt := 151) dX12_isSo_132 (by decide) h445 (r32 (rR (x := 8)) rfl) (fun h588 => ?_) (fun h588 => ?_)
      · refine sv_aload_n (pc := 151) dX12_isSo_151 rfl rfl ?_
        refine gf_X12_45 (pc := 152) dX12_isSo_152 wF_X12_323 (A_106 hw) hT ?_
        refine mr_iload_n (pc := 155) (z := p2) dX12_isSo_155 rfl rfl ?_
        refine lk_132 (pc := 156) dX12_isSo_156 (A_132 hw) (rIx (n := 3900) hp2 rfl) q444 ?_
        refine mr_bipush (pc := 157) (z := 9) dX12_isSo_157 (by decide) ?_
        refine mr_icmp_ne (pc := 159) (tgt := 183) dX12_isSo_159 (by decide) h445 (r32 (rR (x := 9)) rfl) (fun h589 => ?_) (fun h589 => ?_)
        · refine sv_aload_n (pc := 183) dX12_isSo_183 rfl rfl ?_
          refine gf_X12_45 (pc := 184) dX12_isSo_184 wF_X12_323 (A_106 hw) hT ?_
          refine mr_iload_n (pc := 187) (z := p2) dX12_isSo_187 rfl rfl ?_
          refine lk_132 (pc := 188) dX12_isSo_188 (A_132 hw) (rIx (n := 3900) hp2 rfl) q444 ?_
          refine mr_bipush (pc := 189) (z := 10) dX12_isSo_189 (by decide) ?_
          refine mr_icmp_ne (pc := 191) (tgt := 221) dX12_isSo_191 (by decide) h445 (r32 (rR (x := 10)) rfl) (fun h590 => ?_) (fun h590 => ?_)
          · refine sv_aload_n (pc := 221) dX12_isSo_221 rfl rfl ?_
            refine gf_X12_45 (pc := 222) dX12_isSo_222 wF_X12_323 (A_106 hw) hT ?_
            refine mr_iload_n (pc := 225) (z := p2) dX12_isSo_225 rfl rfl ?_
            refine lk_132 (pc := 226) dX12_isSo_226 (A_132 hw) (rIx (n := 3900) hp2 rfl) q444 ?_
            refine mr_bipush (pc := 227) (z := 11) dX12_isSo_227 (by decide) ?_
            refine mr_icmp_ne (pc := 229) (tgt := 255) dX12_isSo_229 (by decide) h445 (r32 (rR (x := 11)) rfl) (fun h591 => ?_) (fun h591 => ?_)
            · refine sv_aload_n (pc := 255) dX12_isSo_255 rfl rfl ?_
              refine gf_X12_45 (pc := 256) dX12_isSo_256 wF_X12_323 (A_106 hw) hT ?_
              refine mr_iload_n (pc := 259) (z := p2) dX12_isSo_259 rfl rfl ?_
              refine lk_132 (pc := 260) dX12_isSo_260 (A_132 hw) (rIx (n := 3900) hp2 rfl) q444 ?_
              refine mr_bipush (pc := 261) (z := 12) dX12_isSo_261 (by decide) ?_
              refine mr_icmp_ne (pc := 263) (tgt := 298) dX12_isSo_263 (by decide) h445 (r32 (rR (x := 12)) rfl) (fun h592 => ?_) (fun h592 => ?_)
              · refine sv_aload_n (pc := 298) dX12_isSo_298 rfl rfl ?_
                refine gf_X12_45 (pc := 299) dX12_isSo_299 wF_X12_323 (A_106 hw) hT ?_
                refine mr_iload_n (pc := 302) (z := p2) dX12_isSo_302 rfl rfl ?_
                refine lk_132 (pc := 303) dX12_isSo_303 (A_132 hw) (rIx (n := 3900) hp2 rfl) q444 ?_
                refine mr_bipush (pc := 304) (z := 13) dX12_isSo_304 (by decide) ?_
                refine mr_icmp_ne (pc := 306) (tgt := 341) dX12_isSo_306 (by decide) h445 (r32 (rR (x := 13)) rfl) (fun h593 => ?_) (fun h593 => ?_)
                · refine sv_aload_n (pc := 341) dX12_isSo_341 rfl rfl ?_
                  refine gf_X12_45 (pc := 342) dX12_isSo_342 wF_X12_323 (A_106 hw) hT ?_
                  refine mr_iload_n (pc := 345) (z := p2) dX12_isSo_345 rfl rfl ?_
                  refine lk_132 (pc := 346) dX12_isSo_346 (A_132 hw) (rIx (n := 3900) hp2 rfl) q444 ?_
                  refine mr_bipush (pc := 347) (z := 14) dX12_isSo_347 (by decide) ?_
                  refine mr_icmp_ne (pc := 349) (tgt := 382) dX12_isSo_349 (by decide) h445 (r32 (rR (x := 14)) rfl) (fun h594 => ?_) (fun h594 => ?_)
                  · refine sv_aload_n (pc := 382) dX12_isSo_382 rfl rfl ?_
                    refine mr_iload (pc := 383) (z := f_x) dX12_isSo_383 rfl ?_
                    refine mr_iload (pc := 385) (z := z439) dX12_isSo_385 rfl ?_
                    have J602 : ∀ (z600 : Int), (((-2147483648) ≤ z600 ∧ z600 ≤ 2147483647)) → sV (gG l D c H0 sa) mX12_isSo (sRm 5 0 0) (sZ (gG l D c H0 sa) 0 0 (qI w [106026, 106027, 106028, 106029, 106030, 106031] μ (fun z μ1 => (0 ≤ z ∧ z ≤ 1) ∧ True))) 409 [(0, .ref 106), (2, iv p2)] [iv z600, iv f_x, .ref 106] (mk w μ) 0 0 := by
                      intro z600 h601
                      refine sv_aload_n (pc := 409) dX12_isSo_409 rfl rfl ?_
                      refine gf_X12_17 (pc := 410) dX12_isSo_410 wF_X12_85 (A_106 hw) hT fun z603 q604 h605 => ?_
                      refine sv_aload_n (pc := 413) dX12_isSo_413 rfl rfl ?_
                      refine gk_X12_17 (pc := 414) dX12_isSo_414 wF_X12_85 (A_106 hw) q604 ?_
                      refine mr_cVI (pc := 417) (c_X12_judged hw hT h3 h601 (rW (c := (-2147483648)) (d := 2147483647) h605 rfl) (rW (c := (-2147483648)) (d := 2147483647) h605 rfl)) (gOk _ _ _ _ _) dX12_isSo_417 (tX12_judged _ _ _ _ _) ⟨wV_X12_judged, wL_X12_judged⟩ wM_X12_145 (gCX12 _ _ _ _ _) rfl (A_106 hw) rfl ⟨le_t rfl, le_t rfl⟩ ⟨le_t rfl, le_t rfl⟩ rfl (le_t rfl) fun z610 μ606 T607 F608 h609 => ?_
                      refine mr_istore (pc := 420) (lv' := [(9, iv z610), (0, .ref 106), (2, iv p2)]) dX12_isSo_420 (by decide) rfl ?_
                      refine sv_aload_n (pc := 422) dX12_isSo_422 rfl rfl ?_
                      refine gf_X12_47 (pc := 423) dX12_isSo_423 wF_X12_329 (A_106 hw) T607 ?_
                      refine mr_iload_n (pc := 426) (z := p2) dX12_isSo_426 rfl rfl ?_
                      refine la_134 (pc := 427) dX12_isSo_427 (A_134 hw) T607 (rIx (n := 3900) hp2 rfl) fun z611 q612 h613 => ?_
                      refine mr_iload (pc := 428) (z := z610) dX12_isSo_428 rfl ?_
                      refine mr_iconst (pc := 430) (z := 1) dX12_isSo_430 ?_
                      refine mr_icmp_ne (pc := 431) (tgt := 439) dX12_isSo_431 (by decide) (r32 h609.1 rfl) (r32 (rR (x := 1)) rfl) (fun h617 => ?_) (fun h617 => ?_)
                      · refine mr_iload (pc := 439) (z := z610) dX12_isSo_439 rfl ?_
                        refine mr_iconst (pc := 441) (z := 2) dX12_isSo_441 ?_
                        refine mr_icmp_ne (pc := 442) (tgt := 450) dX12_isSo_442 (by decide) (r32 h609.1 rfl) (r32 (rR (x := 2)) rfl) (fun h620 => ?_) (fun h620 => ?_)
                        · have h621 : 0 ≤ z610 ∧ z610 ≤ 1 := (vc_X12_isSo_6 h620 h617 h609.1)
                          refine mr_bipush (pc := 450) (z := 22) dX12_isSo_450 (by decide) ?_
                          refine mr_icmp_ne (pc := 452) (tgt := 459) dX12_isSo_452 (by decide) h613 (r32 (rR (x := 22)) rfl) (fun h623 => ?_) (fun h623 => ?_)
                          · refine mr_iconst (pc := 459) (z := 0) dX12_isSo_459 ?_
                            refine mr_istore (pc := 460) (lv' := [(7, iv 0), (9, iv z610), (0, .ref 106), (2, iv p2)]) dX12_isSo_460 (by decide) rfl ?_
                            refine mr_lvS (lv' := [(0, .ref 106), (2, iv p2), (7, iv 0)]) (List.forall_mem_cons.mpr ⟨rfl, List.forall_mem_cons.mpr ⟨rfl, List.forall_mem_cons.mpr ⟨rfl, fun _ h => absurd h List.not_mem_nil⟩⟩⟩) ?_
                            exact J581 0 μ606 T607 (mF.call mF.refl F608 rfl) (rW (c := 0) (d := 1) (rR (x := 0)) rfl)
                          have h624 : 22 ≤ z611 ∧ z611 ≤ 22 := (vc_X12_isSo_7 h623 h613)
                          refine mr_iconst (pc := 455) (z := 1) dX12_isSo_455 ?_
                          refine sv_goto (pc := 456) (tgt := 460) dX12_isSo_456 (by decide) ?_
                          refine mr_istore (pc := 460) (lv' := [(7, iv 1), (9, iv z610), (0, .ref 106), (2, iv p2)]) dX12_isSo_460 (by decide) rfl ?_
                          refine mr_lvS (lv' := [(0, .ref 106), (2, iv p2), (7, iv 1)]) (List.forall_mem_cons.mpr ⟨rfl, List.forall_mem_cons.mpr ⟨rfl, List.forall_mem_cons.mpr ⟨rfl, fun _ h => absurd h List.not_mem_nil⟩⟩⟩) ?_
                          exact J581 1 μ606 T607 (mF.call mF.refl F608 rfl) (rW (c := 0) (d := 1) (rR (x := 1)) rfl)
                        have h625 : 2 ≤ z610 ∧ z610 ≤ 2 := (vc_X12_isSo_8 h620 h617 h609.1)
                        refine mr_bipush (pc := 445) (z := 21) dX12_isSo_445 (by decide) ?_
                        refine sv_goto (pc := 447) (tgt := 452) dX12_isSo_447 (by decide) ?_
                        refine mr_icmp_ne (pc := 452) (tgt := 459) dX12_isSo_452 (by decide) h613 (r32 (rR (x := 21)) rfl) (fun h627 => ?_) (fun h627 => ?_)
                        · refine mr_iconst (pc := 459) (z := 0) dX12_isSo_459 ?_
                          refine mr_istore (pc := 460) (lv' := [(7, iv 0), (9, iv z610), (0, .ref 106), (2, iv p2)]) dX12_isSo_460 (by decide) rfl ?_
                          refine mr_lvS (lv' := [(0, .ref 106), (2, iv p2), (7, iv 0)]) (List.forall_mem_cons.mpr ⟨rfl, List.forall_mem_cons.mpr ⟨rfl, List.forall_mem_cons.mpr ⟨rfl, fun _ h => absurd h List.not_mem_nil⟩⟩⟩) ?_
                          exact J581 0 μ606 T607 (mF.call mF.refl F608 rfl) (rW (c := 0) (d := 1) (rR (x := 0)) rfl)
                        have h628 : 21 ≤ z611 ∧ z611 ≤ 21 := (vc_X12_isSo_9 h627 h613)
                        refine mr_iconst (pc := 455) (z := 1) dX12_isSo_455 ?_
                        refine sv_goto (pc := 456) (tgt := 460) dX12_isSo_456 (by decide) ?_
                        refine mr_istore (pc := 460) (lv' := [(7, iv 1), (9, iv z610), (0, .ref 106), (2, iv p2)]) dX12_isSo_460 (by decide) rfl ?_
                        refine mr_lvS (lv' := [(0, .ref 106), (2, iv p2), (7, iv 1)]) (List.forall_mem_cons.mpr ⟨rfl, List.forall_mem_cons.mpr ⟨rfl, List.forall_mem_cons.mpr ⟨rfl, fun _ h => absurd h List.not_mem_nil⟩⟩⟩) ?_
                        exact J581 1 μ606 T607 (mF.call mF.refl F608 rfl) (rW (c := 0) (d := 1) (rR (x := 1)) rfl)
                      have h629 : 1 ≤ z610 ∧ z610 ≤ 1 := (vc_X12_isSo_10 h617 h609.1)
                      refine mr_bipush (pc := 434) (z := 20) dX12_isSo_434 (by decide) ?_
                      refine sv_goto (pc := 436) (tgt := 452) dX12_isSo_436 (by decide) ?_
                      refine mr_icmp_ne (pc := 452) (tgt := 459) dX12_isSo_452 (by decide) h613 (r32 (rR (x := 20)) rfl) (fun h631 => ?_) (fun h631 => ?_)
                      · refine mr_iconst (pc := 459) (z := 0) dX12_isSo_459 ?_
                        refine mr_istore (pc := 460) (lv' := [(7, iv 0), (9, iv z610), (0, .ref 106), (2, iv p2)]) dX12_isSo_460 (by decide) rfl ?_
                        refine mr_lvS (lv' := [(0, .ref 106), (2, iv p2), (7, iv 0)]) (List.forall_mem_cons.mpr ⟨rfl, List.forall_mem_cons.mpr ⟨rfl, List.forall_mem_cons.mpr ⟨rfl, fun _ h => absurd h List.not_mem_nil⟩⟩⟩) ?_
                        exact J581 0 μ606 T607 (mF.call mF.refl F608 rfl) (rW (c := 0) (d := 1) (rR (x := 0)) rfl)
                      have h632 : 20 ≤ z611 ∧ z611 ≤ 20 := (vc_X12_isSo_11 h631 h613)
                      refine mr_iconst (pc := 455) (z := 1) dX12_isSo_455 ?_
                      refine sv_goto (pc := 456) (tgt := 460) dX12_isSo_456 (by decide) ?_
                      refine mr_istore (pc := 460) (lv' := [(7, iv 1), (9, iv z610), (0, .ref 106), (2, iv p2)]) dX12_isSo_460 (by decide) rfl ?_
                      refine mr_lvS (lv' := [(0, .ref 106), (2, iv p2), (7, iv 1)]) (List.forall_mem_cons.mpr ⟨rfl, List.forall_mem_cons.mpr ⟨rfl, List.forall_mem_cons.mpr ⟨rfl, fun _ h => absurd h List.not_mem_nil⟩⟩⟩) ?_
                      exact J581 1 μ606 T607 (mF.call mF.refl F608 rfl) (rW (c := 0) (d := 1) (rR (x := 1)) rfl)
                    refine mr_if_ne (pc := 387) (tgt := 395) dX12_isSo_387 (by decide) (r32 h442 rfl) (fun h633 => ?_) (fun h633 => ?_)
                    · have h634 : 1 ≤ z439 ∧ z439 ≤ 20 := (vc_X12_isSo_12 h633 h442)
                      refine sv_aload_n (pc := 395) dX12_isSo_395 rfl rfl ?_
                      refine gf_X12_32 (pc := 396) dX12_isSo_396 wF_X12_148 (A_106 hw) hT ?_
                      refine mr_bipush (pc := 399) (z := 40) dX12_isSo_399 (by decide) ?_
                      refine mr_iload_n (pc := 401) (z := p3) dX12_isSo_401 rfl rfl ?_
                      refine mr_imul (pc := 402) (x := 40) (y := p3) dX12_isSo_402 ?_
                      refine mr_iconst (pc := 403) (z := 5) dX12_isSo_403 ?_
                      refine mr_iadd (pc := 404) (x := (40 * p3)) (y := 5) dX12_isSo_404 ?_
                      refine mr_iload (pc := 405) (z := z439) dX12_isSo_405 rfl ?_
                      refine mr_iadd (pc := 407) (x := ((40 * p3) + 5)) (y := z439) dX12_isSo_407 ?_
                      refine la_126 (pc := 408) dX12_isSo_408 (A_126 hw) hT (rIx (n := 84000) (rAdd (e := 6) (f := 83985) (rAdd (e := 5) (f := 83965) (rMulL (n := 40) (e := 0) (f := 83960) hp3 rfl) (rR (x := 5)) rfl) h634 rfl) rfl) fun z635 q636 h637 => ?_
                      refine mr_lvS (lv' := [(0, .ref 106), (2, iv p2)]) (List.forall_mem_cons.mpr ⟨rfl, List.forall_mem_cons.mpr ⟨rfl, fun _ h => absurd h List.not_mem_nil⟩⟩) ?_
                      exact J602 z635 h637.1
                    have h638 : 0 ≤ z439 ∧ z439 ≤ 0 := (vc_X12_isSo_13 h633 h442)
                    refine mr_iload (pc := 390) (z := p4) dX12_isSo_390 rfl ?_
                    refine sv_goto (pc := 392) (tgt := 409) dX12_isSo_392 (by decide) ?_
                    refine mr_lvS (lv' := [(0, .ref 106), (2, iv p2)]) (List.forall_mem_cons.mpr ⟨rfl, List.forall_mem_cons.mpr ⟨rfl, fun _ h => absurd h List.not_mem_nil⟩⟩) ?_
                    exact J602 p4 hp4
                  have h639 : 14 ≤ z443 ∧ z443 ≤ 14 := (vc_X12_isSo_14 h594 h587 h588 h589 h590 h591 h592 h593 h445)
                  refine sv_aload_n (pc := 352) dX12_isSo_352 rfl rfl ?_
                  refine gf_X12_32 (pc := 353) dX12_isSo_353 wF_X12_148 (A_106 hw) hT ?_
                  refine mr_bipush (pc := 356) (z := 40) dX12_isSo_356 (by decide) ?_
                  refine mr_iload_n (pc := 358) (z := p3) dX12_isSo_358 rfl rfl ?_
                  refine mr_imul (pc := 359) (x := 40) (y := p3) dX12_isSo_359 ?_
                  refine mr_iconst (pc := 360) (z := 2) dX12_isSo_360 ?_
                  refine mr_iadd (pc := 361) (x := (40 * p3)) (y := 2) dX12_isSo_361 ?_
                  refine la_126 (pc := 362) dX12_isSo_362 (A_126 hw) hT (rIx (n := 84000) (rAdd (e := 2) (f := 83962) (rMulL (n := 40) (e := 0) (f := 83960) hp3 rfl) (rR (x := 2)) rfl) rfl) fun z640 q641 h642 => ?_
                  refine sv_aload_n (pc := 363) dX12_isSo_363 rfl rfl ?_
                  refine gf_X12_47 (pc := 364) dX12_isSo_364 wF_X12_329 (A_106 hw) hT ?_
                  refine mr_iload_n (pc := 367) (z := p2) dX12_isSo_367 rfl rfl ?_
                  refine la_134 (pc := 368) dX12_isSo_368 (A_134 hw) hT (rIx (n := 3900) hp2 rfl) fun z643 q644 h645 => ?_
                  refine mr_icmp_ne (pc := 369) (tgt := 376) dX12_isSo_369 (by decide) h642.1 h645 (fun h646 => ?_) (fun h646 => ?_)
                  · refine mr_iconst (pc := 376) (z := 0) dX12_isSo_376 ?_
                    refine mr_istore (pc := 377) (lv' := [(7, iv 0), (8, iv z439), (6, iv f_x), (0, .ref 106), (1, iv p1), (2, iv p2), (3, iv p3), (4, iv p4), (5, iv p5)]) dX12_isSo_377 (by decide) rfl ?_
                    refine sv_goto (pc := 379) (tgt := 462) dX12_isSo_379 (by decide) ?_
                    refine mr_lvS (lv' := [(0, .ref 106), (2, iv p2), (7, iv 0)]) (List.forall_mem_cons.mpr ⟨rfl, List.forall_mem_cons.mpr ⟨rfl, List.forall_mem_cons.mpr ⟨rfl, fun _ h => absurd h List.not_mem_nil⟩⟩⟩) ?_
                    exact J581 0 μ hT mF.refl (rW (c := 0) (d := 1) (rR (x := 0)) rfl)
                  refine mr_iconst (pc := 372) (z := 1) dX12_isSo_372 ?_
                  refine sv_goto (pc := 373) (tgt := 377) dX12_isSo_373 (by decide) ?_
                  refine mr_istore (pc := 377) (lv' := [(7, iv 1), (8, iv z439), (6, iv f_x), (0, .ref 106), (1, iv p1), (2, iv p2), (3, iv p3), (4, iv p4), (5, iv p5)]) dX12_isSo_377 (by decide) rfl ?_
                  refine sv_goto (pc := 379) (tgt := 462) dX12_isSo_379 (by decide) ?_
                  refine mr_lvS (lv' := [(0, .ref 106), (2, iv p2), (7, iv 1)]) (List.forall_mem_cons.mpr ⟨rfl, List.forall_mem_cons.mpr ⟨rfl, List.forall_mem_cons.mpr ⟨rfl, fun _ h => absurd h List.not_mem_nil⟩⟩⟩) ?_
                  exact J581 1 μ hT mF.refl (rW (c := 0) (d := 1) (rR (x := 1)) rfl)
                have h647 : 13 ≤ z443 ∧ z443 ≤ 13 := (vc_X12_isSo_15 h593 h586 h587 h588 h589 h590 h591 h592 h445)
                refine sv_aload_n (pc := 309) dX12_isSo_309 rfl rfl ?_
                refine sv_aload_n (pc := 310) dX12_isSo_310 rfl rfl ?_
                refine gf_X12_32 (pc := 311) dX12_isSo_311 wF_X12_148 (A_106 hw) hT ?_
                refine mr_bipush (pc := 314) (z := 40) dX12_isSo_314 (by decide) ?_
                refine mr_iload_n (pc := 316) (z := p3) dX12_isSo_316 rfl rfl ?_
                refine mr_imul (pc := 317) (x := 40) (y := p3) dX12_isSo_317 ?_
                refine mr_iconst (pc := 318) (z := 3) dX12_isSo_318 ?_
                refine mr_iadd (pc := 319) (x := (40 * p3)) (y := 3) dX12_isSo_319 ?_
                refine la_126 (pc := 320) dX12_isSo_320 (A_126 hw) hT (rIx (n := 84000) (rAdd (e := 3) (f := 83963) (rMulL (n := 40) (e := 0) (f := 83960) hp3 rfl) (rR (x := 3)) rfl) rfl) fun z648 q649 h650 => ?_
                refine sv_aload_n (pc := 321) dX12_isSo_321 rfl rfl ?_
                refine gf_X12_48 (pc := 322) dX12_isSo_322 wF_X12_336 (A_106 hw) hT ?_
                refine mr_iload_n (pc := 325) (z := p2) dX12_isSo_325 rfl rfl ?_
                refine la_135 (pc := 326) dX12_isSo_326 (A_135 hw) hT (rIx (n := 3900) hp2 rfl) fun z651 q652 h653 => ?_
                refine sv_aload_n (pc := 327) dX12_isSo_327 rfl rfl ?_
                refine gf_X12_47 (pc := 328) dX12_isSo_328 wF_X12_329 (A_106 hw) hT ?_
                refine mr_iload_n (pc := 331) (z := p2) dX12_isSo_331 rfl rfl ?_
                refine la_134 (pc := 332) dX12_isSo_332 (A_134 hw) hT (rIx (n := 3900) hp2 rfl) fun z654 q655 h656 => ?_
                refine mr_cVP (pc := 333) (c_X12_related hw hT h650.1 h653 h656) (gOk _ _ _ _ _) dX12_isSo_333 (tX12_related _ _ _ _ _) ⟨wV_X12_related, wL_X12_related⟩ wM_X12_385 (gCX12 _ _ _ _ _) rfl (A_106 hw) rfl ⟨le_t rfl, le_t rfl⟩ ⟨le_t rfl, le_t rfl⟩ rfl (le_t rfl) fun z661 h660 => ?_
                refine mr_istore (pc := 336) (lv' := [(7, iv z661), (8, iv z439), (6, iv f_x), (0, .ref 106), (1, iv p1), (2, iv p2), (3, iv p3), (4, iv p4), (5, iv p5)]) dX12_isSo_336 (by decide) rfl ?_
                refine sv_goto (pc := 338) (tgt := 462) dX12_isSo_338 (by decide) ?_
                refine mr_lvS (lv' := [(0, .ref 106), (2, iv p2), (7, iv z661)]) (List.forall_mem_cons.mpr ⟨rfl, List.forall_mem_cons.mpr ⟨rfl, List.forall_mem_cons.mpr ⟨rfl, fun _ h => absurd h List.not_mem_nil⟩⟩⟩) ?_
                exact J581 z661 μ hT mF.refl h660.1
              have h662 : 12 ≤ z443 ∧ z443 ≤ 12 := (vc_X12_isSo_16 h592 h586 h587 h588 h589 h590 h591 h445)
              refine sv_aload_n (pc := 266) dX12_isSo_266 rfl rfl ?_
              refine sv_aload_n (pc := 267) dX12_isSo_267 rfl rfl ?_
              refine gf_X12_32 (pc := 268) dX12_isSo_268 wF_X12_148 (A_106 hw) hT ?_
              refine mr_bipush (pc := 271) (z := 40) dX12_isSo_271 (by decide) ?_
              refine mr_iload_n (pc := 273) (z := p3) dX12_isSo_273 rfl rfl ?_
              refine mr_imul (pc := 274) (x := 40) (y := p3) dX12_isSo_274 ?_
              refine mr_iconst (pc := 275) (z := 1) dX12_isSo_275 ?_
              refine mr_iadd (pc := 276) (x := (40 * p3)) (y := 1) dX12_isSo_276 ?_
              refine la_126 (pc := 277) dX12_isSo_277 (A_126 hw) hT (rIx (n := 84000) (rAdd (e := 1) (f := 83961) (rMulL (n := 40) (e := 0) (f := 83960) hp3 rfl) (rR (x := 1)) rfl) rfl) fun z663 q664 h665 => ?_
              refine sv_aload_n (pc := 278) dX12_isSo_278 rfl rfl ?_
              refine gf_X12_48 (pc := 279) dX12_isSo_279 wF_X12_336 (A_106 hw) hT ?_
              refine mr_iload_n (pc := 282) (z := p2) dX12_isSo_282 rfl rfl ?_
              refine la_135 (pc := 283) dX12_isSo_283 (A_135 hw) hT (rIx (n := 3900) hp2 rfl) fun z666 q667 h668 => ?_
              refine sv_aload_n (pc := 284) dX12_isSo_284 rfl rfl ?_
              refine gf_X12_47 (pc := 285) dX12_isSo_285 wF_X12_329 (A_106 hw) hT ?_
              refine mr_iload_n (pc := 288) (z := p2) dX12_isSo_288 rfl rfl ?_
              refine la_134 (pc := 289) dX12_isSo_289 (A_134 hw) hT (rIx (n := 3900) hp2 rfl) fun z669 q670 h671 => ?_
              refine mr_cVP (pc := 290) (c_X12_related hw hT h665.1 h668 h671) (gOk _ _ _ _ _) dX12_isSo_290 (tX12_related _ _ _ _ _) ⟨wV_X12_related, wL_X12_related⟩ wM_X12_385 (gCX12 _ _ _ _ _) rfl (A_106 hw) rfl ⟨le_t rfl, le_t rfl⟩ ⟨le_t rfl, le_t rfl⟩ rfl (le_t rfl) fun z676 h675 => ?_
              refine mr_istore (pc := 293) (lv' := [(7, iv z676), (8, iv z439), (6, iv f_x), (0, .ref 106), (1, iv p1), (2, iv p2), (3, iv p3), (4, iv p4), (5, iv p5)]) dX12_isSo_293 (by decide) rfl ?_
              refine sv_goto (pc := 295) (tgt := 462) dX12_isSo_295 (by decide) ?_
              refine mr_lvS (lv' := [(0, .ref 106), (2, iv p2), (7, iv z676)]) (List.forall_mem_cons.mpr ⟨rfl, List.forall_mem_cons.mpr ⟨rfl, List.forall_mem_cons.mpr ⟨rfl, fun _ h => absurd h List.not_mem_nil⟩⟩⟩) ?_
              exact J581 z676 μ hT mF.refl h675.1
            have h677 : 11 ≤ z443 ∧ z443 ≤ 11 := (vc_X12_isSo_17 h591 h586 h587 h588 h589 h590 h445)
            refine sv_aload_n (pc := 232) dX12_isSo_232 rfl rfl ?_
            refine mr_iload (pc := 233) (z := z439) dX12_isSo_233 rfl ?_
            refine sv_aload_n (pc := 235) dX12_isSo_235 rfl rfl ?_
            refine gf_X12_48 (pc := 236) dX12_isSo_236 wF_X12_336 (A_106 hw) hT ?_
            refine mr_iload_n (pc := 239) (z := p2) dX12_isSo_239 rfl rfl ?_
            refine la_135 (pc := 240) dX12_isSo_240 (A_135 hw) hT (rIx (n := 3900) hp2 rfl) fun z678 q679 h680 => ?_
            refine sv_aload_n (pc := 241) dX12_isSo_241 rfl rfl ?_
            refine gf_X12_47 (pc := 242) dX12_isSo_242 wF_X12_329 (A_106 hw) hT ?_
            refine mr_iload_n (pc := 245) (z := p2) dX12_isSo_245 rfl rfl ?_
            refine la_134 (pc := 246) dX12_isSo_246 (A_134 hw) hT (rIx (n := 3900) hp2 rfl) fun z681 q682 h683 => ?_
            refine mr_cVP (pc := 247) (c_X12_related hw hT (rW (c := (-2147483648)) (d := 2147483647) h442 rfl) h680 h683) (gOk _ _ _ _ _) dX12_isSo_247 (tX12_related _ _ _ _ _) ⟨wV_X12_related, wL_X12_related⟩ wM_X12_385 (gCX12 _ _ _ _ _) rfl (A_106 hw) rfl ⟨le_t rfl, le_t rfl⟩ ⟨le_t rfl, le_t rfl⟩ rfl (le_t rfl) fun z688 h687 => ?_
            refine mr_istore (pc := 250) (lv' := [(7, iv z688), (8, iv z439), (6, iv f_x), (0, .ref 106), (1, iv p1), (2, iv p2), (3, iv p3), (4, iv p4), (5, iv p5)]) dX12_isSo_250 (by decide) rfl ?_
            refine sv_goto (pc := 252) (tgt := 462) dX12_isSo_252 (by decide) ?_
            refine mr_lvS (lv' := [(0, .ref 106), (2, iv p2), (7, iv z688)]) (List.forall_mem_cons.mpr ⟨rfl, List.forall_mem_cons.mpr ⟨rfl, List.forall_mem_cons.mpr ⟨rfl, fun _ h => absurd h List.not_mem_nil⟩⟩⟩) ?_
            exact J581 z688 μ hT mF.refl h687.1
          have h689 : 10 ≤ z443 ∧ z443 ≤ 10 := (vc_X12_isSo_18 h590 h586 h587 h588 h589 h445)
          refine sv_aload_n (pc := 194) dX12_isSo_194 rfl rfl ?_
          refine mr_iload (pc := 195) (z := p4) dX12_isSo_195 rfl ?_
          refine mr_iload (pc := 197) (z := p5) dX12_isSo_197 rfl ?_
          refine mr_cVP (pc := 199) (c_X12_tieWord hw hT hp4 hp5 hg1 q_f_e0 q_f_e1 q_f_ties (vc_X12_isSo_19 hq0 h2 hg1) (vc_X12_isSo_20 hq1 ht_f_e0 ht_f_e1 hp4 hp5)) (gOk _ _ _ _ _) dX12_isSo_199 (tX12_tieWord _ _ _ _ _) ⟨wV_X12_tieWord, wL_X12_tieWord⟩ wM_X12_382 (gCX12 _ _ _ _ _) rfl (A_106 hw) rfl ⟨le_t rfl, le_t rfl⟩ ⟨le_t rfl, le_t rfl⟩ rfl (le_t rfl) fun z694 h693 => ?_
          refine sv_aload_n (pc := 202) dX12_isSo_202 rfl rfl ?_
          refine gf_X12_47 (pc := 203) dX12_isSo_203 wF_X12_329 (A_106 hw) hT ?_
          refine mr_iload_n (pc := 206) (z := p2) dX12_isSo_206 rfl rfl ?_
          refine la_134 (pc := 207) dX12_isSo_207 (A_134 hw) hT (rIx (n := 3900) hp2 rfl) fun z695 q696 h697 => ?_
          refine mr_icmp_ne (pc := 208) (tgt := 215) dX12_isSo_208 (by decide) (r32 h693.1 rfl) h697 (fun h699 => ?_) (fun h699 => ?_)
          · refine mr_iconst (pc := 215) (z := 0) dX12_isSo_215 ?_
            refine mr_istore (pc := 216) (lv' := [(7, iv 0), (8, iv z439), (6, iv f_x), (0, .ref 106), (1, iv p1), (2, iv p2), (3, iv p3), (4, iv p4), (5, iv p5)]) dX12_isSo_216 (by decide) rfl ?_
            refine sv_goto (pc := 218) (tgt := 462) dX12_isSo_218 (by decide) ?_
            refine mr_lvS (lv' := [(0, .ref 106), (2, iv p2), (7, iv 0)]) (List.forall_mem_cons.mpr ⟨rfl, List.forall_mem_cons.mpr ⟨rfl, List.forall_mem_cons.mpr ⟨rfl, fun _ h => absurd h List.not_mem_nil⟩⟩⟩) ?_
            exact J581 0 μ hT mF.refl (rW (c := 0) (d := 1) (rR (x := 0)) rfl)
          have h700 : 16 ≤ z695 ∧ z695 ≤ 19 := (vc_X12_isSo_21 h699 h693.1 h697)
          refine mr_iconst (pc := 211) (z := 1) dX12_isSo_211 ?_
          refine sv_goto (pc := 212) (tgt := 216) dX12_isSo_212 (by decide) ?_
          refine mr_istore (pc := 216) (lv' := [(7, iv 1), (8, iv z439), (6, iv f_x), (0, .ref 106), (1, iv p1), (2, iv p2), (3, iv p3), (4, iv p4), (5, iv p5)]) dX12_isSo_216 (by decide) rfl ?_
          refine sv_goto (pc := 218) (tgt := 462) dX12_isSo_218 (by decide) ?_
          refine mr_lvS (lv' := [(0, .ref 106), (2, iv p2), (7, iv 1)]) (List.forall_mem_cons.mpr ⟨rfl, List.forall_mem_cons.mpr ⟨rfl, List.forall_mem_cons.mpr ⟨rfl, fun _ h => absurd h List.not_mem_nil⟩⟩⟩) ?_
          exact J581 1 μ hT mF.refl (rW (c := 0) (d := 1) (rR (x := 1)) rfl)
        have h701 : 9 ≤ z443 ∧ z443 ≤ 9 := (vc_X12_isSo_22 h589 h586 h587 h588 h445)
        refine mr_iload (pc := 162) (z := p5) dX12_isSo_162 rfl ?_
        refine sv_aload_n (pc := 164) dX12_isSo_164 rfl rfl ?_
        refine gf_X12_47 (pc := 165) dX12_isSo_165 wF_X12_329 (A_106 hw) hT ?_
        refine mr_iload_n (pc := 168) (z := p2) dX12_isSo_168 rfl rfl ?_
        refine la_134 (pc := 169) dX12_isSo_169 (A_134 hw) hT (rIx (n := 3900) hp2 rfl) fun z702 q703 h704 => ?_
        refine mr_icmp_ne (pc := 170) (tgt := 177) dX12_isSo_170 (by decide) hp5 h704 (fun h705 => ?_) (fun h705 => ?_)
        · refine mr_iconst (pc := 177) (z := 0) dX12_isSo_177 ?_
          refine mr_istore (pc := 178) (lv' := [(7, iv 0), (8, iv z439), (6, iv f_x), (0, .ref 106), (1, iv p1), (2, iv p2), (3, iv p3), (4, iv p4), (5, iv p5)]) dX12_isSo_178 (by decide) rfl ?_
          refine sv_goto (pc := 180) (tgt := 462) dX12_isSo_180 (by decide) ?_
          refine mr_lvS (lv' := [(0, .ref 106), (2, iv p2), (7, iv 0)]) (List.forall_mem_cons.mpr ⟨rfl, List.forall_mem_cons.mpr ⟨rfl, List.forall_mem_cons.mpr ⟨rfl, fun _ h => absurd h List.not_mem_nil⟩⟩⟩) ?_
          exact J581 0 μ hT mF.refl (rW (c := 0) (d := 1) (rR (x := 0)) rfl)
        refine mr_iconst (pc := 173) (z := 1) dX12_isSo_173 ?_
        refine sv_goto (pc := 174) (tgt := 178) dX12_isSo_174 (by decide) ?_
        refine mr_istore (pc := 178) (lv' := [(7, iv 1), (8, iv z439), (6, iv f_x), (0, .ref 106), (1, iv p1), (2, iv p2), (3, iv p3), (4, iv p4), (5, iv p5)]) dX12_isSo_178 (by decide) rfl ?_
        refine sv_goto (pc := 180) (tgt := 462) dX12_isSo_180 (by decide) ?_
        refine mr_lvS (lv' := [(0, .ref 106), (2, iv p2), (7, iv 1)]) (List.forall_mem_cons.mpr ⟨rfl, List.forall_mem_cons.mpr ⟨rfl, List.forall_mem_cons.mpr ⟨rfl, fun _ h => absurd h List.not_mem_nil⟩⟩⟩) ?_
        exact J581 1 μ hT mF.refl (rW (c := 0) (d := 1) (rR (x := 1)) rfl)
      have h706 : 8 ≤ z443 ∧ z443 ≤ 8 := (vc_X12_isSo_23 h588 h586 h587 h445)
      refine sv_aload_n (pc := 135) dX12_isSo_135 rfl rfl ?_
      refine mr_iload_n (pc := 136) (z := p3) dX12_isSo_136 rfl rfl ?_
      refine sv_aload_n (pc := 137) dX12_isSo_137 rfl rfl ?_
      refine gf_X12_47 (pc := 138) dX12_isSo_138 wF_X12_329 (A_106 hw) hT ?_
      refine mr_iload_n (pc := 141) (z := p2) dX12_isSo_141 rfl rfl ?_
      refine la_134 (pc := 142) dX12_isSo_142 (A_134 hw) hT (rIx (n := 3900) hp2 rfl) fun z707 q708 h709 => ?_
      refine mr_cVP (pc := 143) (c_X12_marked hw hT hp3 h709) (gOk _ _ _ _ _) dX12_isSo_143 (tX12_marked _ _ _ _ _) ⟨wV_X12_marked, wL_X12_marked⟩ wM_X12_154 (gCX12 _ _ _ _ _) rfl (A_106 hw) rfl ⟨le_t rfl, le_t rfl⟩ ⟨le_t rfl, le_t rfl⟩ rfl (le_t rfl) fun z714 h713 => ?_
      refine mr_istore (pc := 146) (lv' := [(7, iv z714), (8, iv z439), (6, iv f_x), (0, .ref 106), (1, iv p1), (2, iv p2), (3, iv p3), (4, iv p4), (5, iv p5)]) dX12_isSo_146 (by decide) rfl ?_
      refine sv_goto (pc := 148) (tgt := 462) dX12_isSo_148 (by decide) ?_
      refine mr_lvS (lv' := [(0, .ref 106), (2, iv p2), (7, iv z714)]) (List.forall_mem_cons.mpr ⟨rfl, List.forall_mem_cons.mpr ⟨rfl, List.forall_mem_cons.mpr ⟨rfl, fun _ h => absurd h List.not_mem_nil⟩⟩⟩) ?_
      exact J581 z714 μ hT mF.refl h713.1
    have h715 : 6 ≤ z443 ∧ z443 ≤ 6 := (vc_X12_isSo_24 h587 h586 h445)
    refine sv_aload_n (pc := 112) dX12_isSo_112 rfl rfl ?_
    refine mr_iload_n (pc := 113) (z := p1) dX12_isSo_113 rfl rfl ?_
    refine mr_iload_n (pc := 114) (z := p2) dX12_isSo_114 rfl rfl ?_
    refine mr_iload_n (pc := 115) (z := p3) dX12_isSo_115 rfl rfl ?_
    refine mr_cVP (pc := 116) (c_X12_waysMatch hw hT hp1 hp2 hp3) (gOk _ _ _ _ _) dX12_isSo_116 (tX12_waysMatch _ _ _ _ _) ⟨wV_X12_waysMatch, wL_X12_waysMatch⟩ wM_X12_379 (gCX12 _ _ _ _ _) rfl (A_106 hw) rfl ⟨le_t rfl, le_t rfl⟩ ⟨le_t rfl, le_t rfl⟩ rfl (le_t rfl) fun z720 h719 => ?_
    refine mr_istore (pc := 119) (lv' := [(7, iv z720), (8, iv z439), (6, iv f_x), (0, .ref 106), (1, iv p1), (2, iv p2), (3, iv p3), (4, iv p4), (5, iv p5)]) dX12_isSo_119 (by decide) rfl ?_
    refine sv_goto (pc := 121) (tgt := 462) dX12_isSo_121 (by decide) ?_
    refine mr_lvS (lv' := [(0, .ref 106), (2, iv p2), (7, iv z720)]) (List.forall_mem_cons.mpr ⟨rfl, List.forall_mem_cons.mpr ⟨rfl, List.forall_mem_cons.mpr ⟨rfl, fun _ h => absurd h List.not_mem_nil⟩⟩⟩) ?_
    exact J581 z720 μ hT mF.refl h719.1
  have h721 : 4 ≤ z443 ∧ z443 ≤ 4 := (vc_X12_isSo_25 h586 h445)
  refine sv_aload_n (pc := 34) dX12_isSo_34 rfl rfl ?_
  refine gf_X12_4 (pc := 35) dX12_isSo_35 wF_X12_26 (A_106 hw) hT ?_
  refine mr_iload (pc := 38) (z := f_x) dX12_isSo_38 rfl ?_
  refine la_109 (pc := 40) dX12_isSo_40 (A_109 hw) hT (rIx (n := 10) h3 rfl) fun z722 q723 h724 => ?_
  refine sv_aload_n (pc := 41) dX12_isSo_41 rfl rfl ?_
  refine gf_X12_48 (pc := 42) dX12_isSo_42 wF_X12_336 (A_106 hw) hT ?_
  refine mr_iload_n (pc := 45) (z := p2) dX12_isSo_45 rfl rfl ?_
  refine la_135 (pc := 46) dX12_isSo_46 (A_135 hw) hT (rIx (n := 3900) hp2 rfl) fun z725 q726 h727 => ?_
  refine mr_icmp_lt (pc := 47) (tgt := 95) dX12_isSo_47 (by decide) (r32 h724 rfl) h727 (fun h748 => ?_) (fun h748 => ?_)
  · have h749 : 1 ≤ z725 ∧ z725 ≤ 2147483647 := (vc_X12_isSo_26 h748 h724 h727)
    refine mr_iconst (pc := 95) (z := 0) dX12_isSo_95 ?_
    refine mr_istore (pc := 96) (lv' := [(7, iv 0), (8, iv z439), (6, iv f_x), (0, .ref 106), (1, iv p1), (2, iv p2), (3, iv p3), (4, iv p4), (5, iv p5)]) dX12_isSo_96 (by decide) rfl ?_
    refine sv_goto (pc := 98) (tgt := 462) dX12_isSo_98 (by decide) ?_
    refine mr_lvS (lv' := [(0, .ref 106), (2, iv p2), (7, iv 0)]) (List.forall_mem_cons.mpr ⟨rfl, List.forall_mem_cons.mpr ⟨rfl, List.forall_mem_cons.mpr ⟨rfl, fun _ h => absurd h List.not_mem_nil⟩⟩⟩) ?_
    exact J581 0 μ hT mF.refl (rW (c := 0) (d := 1) (rR (x := 0)) rfl)
  have h750 : (-2147483648) ≤ z725 ∧ z725 ≤ 32 := (vc_X12_isSo_27 h748 h724 h727)
  refine sv_aload_n (pc := 50) dX12_isSo_50 rfl rfl ?_
  refine gf_X12_47 (pc := 51) dX12_isSo_51 wF_X12_329 (A_106 hw) hT ?_
  refine mr_iload_n (pc := 54) (z := p2) dX12_isSo_54 rfl rfl ?_
  refine la_134 (pc := 55) dX12_isSo_55 (A_134 hw) hT (rIx (n := 3900) hp2 rfl) fun z751 q752 h753 => ?_
  refine sv_aload_n (pc := 56) dX12_isSo_56 rfl rfl ?_
  refine gf_X12_48 (pc := 57) dX12_isSo_57 wF_X12_336 (A_106 hw) hT ?_
  refine mr_iload_n (pc := 60) (z := p2) dX12_isSo_60 rfl rfl ?_
  refine lk_135 (pc := 61) dX12_isSo_61 (A_135 hw) (rIx (n := 3900) hp2 rfl) q726 ?_
  refine sv_aload_n (pc := 62) dX12_isSo_62 rfl rfl ?_
  refine gf_X12_3 (pc := 63) dX12_isSo_63 wF_X12_22 (A_106 hw) hT ?_
  refine mr_iload (pc := 66) (z := f_x) dX12_isSo_66 rfl ?_
  refine la_108 (pc := 68) dX12_isSo_68 (A_108 hw) hT (rIx (n := 10) h3 rfl) fun z754 q755 h756 => ?_
  refine mr_cSP (pc := 69) (c_X12_holds hw hT h753 (rW (c := (-2147483648)) (d := 2147483647) h750 rfl) h756) (gOk _ _ _ _ _) dX12_isSo_69 (tX12_holds _ _ _ _ _) wS_X12_holds wM_X12_142 ⟨le_t rfl, le_t rfl⟩ ⟨le_t rfl, le_t rfl⟩ rfl (le_t rfl) fun z761 h760 => ?_
  refine mr_if_eq (pc := 72) (tgt := 95) dX12_isSo_72 (by decide) (r32 h760.1 rfl) (fun h769 => ?_) (fun h769 => ?_)
  · have h770 : 0 ≤ z761 ∧ z761 ≤ 0 := (vc_X12_isSo_28 h769 h760.1)
    refine mr_iconst (pc := 95) (z := 0) dX12_isSo_95 ?_
    refine mr_istore (pc := 96) (lv' := [(7, iv 0), (8, iv z439), (6, iv f_x), (0, .ref 106), (1, iv p1), (2, iv p2), (3, iv p3), (4, iv p4), (5, iv p5)]) dX12_isSo_96 (by decide) rfl ?_
    refine sv_goto (pc := 98) (tgt := 462) dX12_isSo_98 (by decide) ?_
    refine mr_lvS (lv' := [(0, .ref 106), (2, iv p2), (7, iv 0)]) (List.forall_mem_cons.mpr ⟨rfl, List.forall_mem_cons.mpr ⟨rfl, List.forall_mem_cons.mpr ⟨rfl, fun _ h => absurd h List.not_mem_nil⟩⟩⟩) ?_
    exact J581 0 μ hT mF.refl (rW (c := 0) (d := 1) (rR (x := 0)) rfl)
  have h771 : 1 ≤ z761 ∧ z761 ≤ 1 := (vc_X12_isSo_29 h769 h760.1)
  refine sv_aload_n (pc := 75) dX12_isSo_75 rfl rfl ?_
  refine gf_X12_4 (pc := 76) dX12_isSo_76 wF_X12_26 (A_106 hw) hT ?_
  refine mr_iload (pc := 79) (z := f_x) dX12_isSo_79 rfl ?_
  refine lk_109 (pc := 81) dX12_isSo_81 (A_109 hw) (rIx (n := 10) h3 rfl) q723 ?_
  refine sv_aload_n (pc := 82) dX12_isSo_82 rfl rfl ?_
  refine gf_X12_49 (pc := 83) dX12_isSo_83 wF_X12_339 (A_106 hw) hT ?_
  refine mr_iload_n (pc := 86) (z := p2) dX12_isSo_86 rfl rfl ?_
  refine la_136 (pc := 87) dX12_isSo_87 (A_136 hw) hT (rIx (n := 3900) hp2 rfl) fun z772 q773 h774 => ?_
  refine mr_icmp_gt (pc := 88) (tgt := 95) dX12_isSo_88 (by decide) (r32 h724 rfl) h774 (fun h777 => ?_) (fun h777 => ?_)
  · have h778 : (-2147483648) ≤ z772 ∧ z772 ≤ 31 := (vc_X12_isSo_30 h777 h748 h724 h750 h774)
    refine mr_iconst (pc := 95) (z := 0) dX12_isSo_95 ?_
    refine mr_istore (pc := 96) (lv' := [(7, iv 0), (8, iv z439), (6, iv f_x), (0, .ref 106), (1, iv p1), (2, iv p2), (3, iv p3), (4, iv p4), (5, iv p5)]) dX12_isSo_96 (by decide) rfl ?_
    refine sv_goto (pc := 98) (tgt := 462) dX12_isSo_98 (by decide) ?_
    refine mr_lvS (lv' := [(0, .ref 106), (2, iv p2), (7, iv 0)]) (List.forall_mem_cons.mpr ⟨rfl, List.forall_mem_cons.mpr ⟨rfl, List.forall_mem_cons.mpr ⟨rfl, fun _ h => absurd h List.not_mem_nil⟩⟩⟩) ?_
    exact J581 0 μ hT mF.refl (rW (c := 0) (d := 1) (rR (x := 0)) rfl)
  have h779 : 0 ≤ z772 ∧ z772 ≤ 2147483647 := (vc_X12_isSo_31 h777 h748 h724 h750 h774)
  refine mr_iconst (pc := 91) (z := 1) dX12_isSo_91 ?_
  refine sv_goto (pc := 92) (tgt := 96) dX12_isSo_92 (by decide) ?_
  refine mr_istore (pc := 96) (lv' := [(7, iv 1), (8, iv z439), (6, iv f_x), (0, .ref 106), (1, iv p1), (2, iv p2), (3, iv p3), (4, iv p4), (5, iv p5)]) dX12_isSo_96 (by decide) rfl ?_
  refine sv_goto (pc := 98) (tgt := 462) dX12_isSo_98 (by decide) ?_
  refine mr_lvS (lv' := [(0, .ref 106), (2, iv p2), (7, iv 1)]) (List.forall_mem_cons.mpr ⟨rfl, List.forall_mem_cons.mpr ⟨rfl, List.forall_mem_cons.mpr ⟨rfl, fun _ h => absurd h List.not_mem_nil⟩⟩⟩) ?_
  exact J581 1 μ hT mF.refl (rW (c := 0) (d := 1) (rR (x := 1)) rfl)
theorem c_X12_through {l : Launch} {D : va_G} {c : Nat → ClassId} {H0 : Heap} {sa : Nat × Nat × (Nat → Int32)} {w : mW} {μ : mM} (hw : mWF w) (hT : mT w μ) {p1 : Int} (hp1 : (-2147483648) ≤ p1 ∧ p1 ≤ 2147483647) {p2 : Int} (hp2 : 0 ≤ p2 ∧ p2 ≤ 2099) {p3 : Int} (hp3 : (-2147483648) ≤ p3 ∧ p3 ≤ 2147483647) {p4 : Int} (hp4 : (-2147483648) ≤ p4 ∧ p4 ≤ 2147483647) {g1 : Int} (hg1 : 0 ≤ g1 ∧ g1 ≤ 19) {f_e0 : Int} (q_f_e0 : μ 110 ((2 * g1).toNat) = f_e0) {f_e1 : Int} (q_f_e1 : μ 110 (((2 * g1) + 1).toNat) = f_e1) {f_ties : Int} (q_f_ties : μ 106 6 = f_ties) {f_x : Int} (q_f_x : μ 126 ((40 * p2).toNat) = f_x) {f_pol : Int} (q_f_pol : μ 106 39 = f_pol) (hq0 : g1 < f_ties) (hq1 : (f_e0 = p3 ∧ f_e1 = p4) ∨ (f_e0 = p4 ∧ f_e1 = p3)) (hq2 : 0 ≤ f_x) (hq3 : p1 = -99999999 ∨ (0 ≤ p1 ∧ p1 < f_pol)) (hIPK : PK μ) : sC (gG l D c H0 sa) mX12_through 8 0 0 [.ref 106, iv p1, iv p2, iv p3, iv p4] (mk w μ) (qI w [106026, 106027, 106028, 106029, 106030, 106031, 126999, 151999, 152999, 153999] μ (fun z μ1 => ∃ o_x : Int, μ1 126 ((40 * p2).toNat) = o_x ∧ (0 ≤ z ∧ z ≤ 1) ∧ mG [(((40 * p2) + 1), ((40 * p2) + 40))] μ μ1 ∧ (o_x = f_x) ∧ True)) := by
  sorry
theorem vc_X12_partnerOf_pt_1 {f_e0 f_e1 p1 p2 z29 z30 : Int} (h0 : (z29 = 0 → f_e0 = p2)) (h1 : (z29 = 1 → ¬ f_e0 = p2)) (h2 : ((((2 * p1) + 1) - z29) = (2 * p1) → z30 = f_e0)) (h3 : ((((2 * p1) + 1) - z29) = ((2 * p1) + 1) → z30 = f_e1)) (h4 : 0 ≤ f_e0 ∧ f_e0 ≤ 9) (h5 : 0 ≤ f_e1 ∧ f_e1 ≤ 9) (h6 : 0 ≤ p1 ∧ p1 ≤ 19) (h7 : (-2147483648) ≤ p2 ∧ p2 ≤ 2147483647) (h8 : 0 ≤ z29 ∧ z29 ≤ 1) (h9 : 0 ≤ z30 ∧ z30 ≤ 9) : (f_e0 = p2 → z30 = f_e1) ∧ (¬ f_e0 = p2 → z30 = f_e0) := by omega
set_option maxRecDepth 4000 in
set_option maxHeartbeats 4000000 in
theorem c_X12_partnerOf_pt {l : Launch} {D : va_G} {c : Nat → ClassId} {H0 : Heap} {sa : Nat × Nat × (Nat → Int32)} {w : mW} {μ : mM} (hw : mWF w) (hT : mT w μ) {p1 : Int} (hp1 : 0 ≤ p1 ∧ p1 ≤ 19) {p2 : Int} (hp2 : (-2147483648) ≤ p2 ∧ p2 ≤ 2147483647) {f_e0 : Int} (q_f_e0 : μ 110 ((2 * p1).toNat) = f_e0) {f_e1 : Int} (q_f_e1 : μ 110 (((2 * p1) + 1).toNat) = f_e1) : sC (gG l D c H0 sa) mX12_partnerOf 2 0 0 [.ref 106, iv p1, iv p2] (mk w μ) (qP w μ (fun z => (0 ≤ z ∧ z ≤ 9) ∧ ((f_e0 = p2 → z = f_e1) ∧ (¬ f_e0 = p2 → z = f_e0)) ∧ True)) := by
  refine sC.of rfl (by decide) (le_t rfl) ?_
  have ht_f_e0 : (0 ≤ f_e0 ∧ f_e0 ≤ 9) := by rw [← q_f_e0]; exact hT 110 110 (A_110 hw) ((2 * p1).toNat)
  have ht_f_e1 : (0 ≤ f_e1 ∧ f_e1 ≤ 9) := by rw [← q_f_e1]; exact hT 110 110 (A_110 hw) (((2 * p1) + 1).toNat)
  refine mr_lvE (lv' := [(0, .ref 106), (1, iv p1), (2, iv p2)]) rfl ?_
  refine sv_aload_n (pc := 0) dX12_partnerOf_0 rfl rfl ?_
  refine gf_X12_7 (pc := 1) dX12_partnerOf_1 wF_X12_40 (A_106 hw) hT ?_
  refine mr_iconst (pc := 4) (z := 2) dX12_partnerOf_4 ?_
  refine mr_iload_n (pc := 5) (z := p1) dX12_partnerOf_5 rfl rfl ?_
  refine mr_imul (pc := 6) (x := 2) (y := p1) dX12_partnerOf_6 ?_
  refine mr_iconst (pc := 7) (z := 1) dX12_partnerOf_7 ?_
  refine mr_iadd (pc := 8) (x := (2 * p1)) (y := 1) dX12_partnerOf_8 ?_
  refine sv_aload_n (pc := 9) dX12_partnerOf_9 rfl rfl ?_
  refine mr_iload_n (pc := 10) (z := p1) dX12_partnerOf_10 rfl rfl ?_
  refine mr_iload_n (pc := 11) (z := p2) dX12_partnerOf_11 rfl rfl ?_
  refine mr_cVP (pc := 12) (c_X12_sideOf hw hT hp1 hp2 q_f_e0) (gOk _ _ _ _ _) dX12_partnerOf_12 (tX12_sideOf _ _ _ _ _) ⟨wV_X12_sideOf, wL_X12_sideOf⟩ wM_X12_542 (gCX12 _ _ _ _ _) rfl (A_106 hw) rfl ⟨le_t rfl, le_t rfl⟩ ⟨le_t rfl, le_t rfl⟩ rfl (le_t rfl) fun z29 h28 => ?_
  refine mr_isub (pc := 15) (x := ((2 * p1) + 1)) (y := z29) dX12_partnerOf_15 ?_
  refine la_110 (pc := 16) dX12_partnerOf_16 (A_110 hw) hT (rIx (n := 40) (rSub (e := 0) (f := 39) (rAdd (e := 1) (f := 39) (rMulL (n := 2) (e := 0) (f := 38) hp1 rfl) (rR (x := 1)) rfl) h28.1 rfl) rfl) fun z30 q31 h32 => ?_
  exact mr_iretP dX12_partnerOf_17 rfl (le_t rfl) (le_t rfl) ⟨h32, (vc_X12_partnerOf_pt_1 h28.2.1 h28.2.2.1 (cgr q31 q_f_e0) (cgr q31 q_f_e1) ht_f_e0 ht_f_e1 hp1 hp2 h28.1 h32), trivial⟩
theorem vc_X12_candidate_1 {f_ties p2 : Int} (h0 : p2 < f_ties) (h1 : 0 ≤ f_ties ∧ f_ties ≤ 20) (h2 : 0 ≤ p2 ∧ p2 ≤ 19) : 1 ≤ f_ties ∧ f_ties ≤ 20 := by omega
theorem vc_X12_candidate_2 {f_ties p2 : Int} (h0 : p2 < f_ties) (h1 : 1 ≤ f_ties ∧ f_ties ≤ 20) (h2 : 0 ≤ p2 ∧ p2 ≤ 19) : 0 ≤ (40 * (4 + p2)) := by omega
theorem vc_X12_candidate_3 {f_ties p2 : Int} (h0 : p2 < f_ties) (h1 : 1 ≤ f_ties ∧ f_ties ≤ 20) (h2 : 0 ≤ p2 ∧ p2 ≤ 19) : (40 * (4 + p2)) % 40 = 0 := by omega
theorem vc_X12_candidate_4 {z302 : Int} (h0 : z302 = -1) (h1 : (-1) ≤ z302 ∧ z302 ≤ 9) : (-1) ≤ z302 ∧ z302 ≤ (-1) := by omega
theorem vc_X12_candidate_5 {f_e0 f_ties p1 p2 p3 z297 z313 : Int} (h0 : z313 = (((20 * p2) + (10 * z297)) + p3)) (h1 : p2 < f_ties) (h2 : (z297 = 0 → f_e0 = p1)) (h3 : (z297 = 1 → ¬ f_e0 = p1)) (h4 : 0 ≤ f_e0 ∧ f_e0 ≤ 9) (h5 : 1 ≤ f_ties ∧ f_ties ≤ 20) (h6 : 0 ≤ p1 ∧ p1 ≤ 9) (h7 : 0 ≤ p2 ∧ p2 ≤ 19) (h8 : 0 ≤ p3 ∧ p3 ≤ 9) (h9 : 0 ≤ z297 ∧ z297 ≤ 1) (h10 : 0 ≤ z313 ∧ z313 ≤ 449) : 0 ≤ z313 ∧ z313 ≤ 399 := by omega
theorem vc_X12_candidate_6 {z315 : Int} (h0 : z315 = 0) (h1 : 0 ≤ z315 ∧ z315 ≤ 1) : 0 ≤ z315 ∧ z315 ≤ 0 := by omega
theorem vc_X12_candidate_7 {f_e0 f_ties p1 p2 p3 z297 z313 : Int} (h0 : p2 < f_ties) (h1 : z313 = (((20 * p2) + (10 * z297)) + p3)) (h2 : (z297 = 0 → f_e0 = p1)) (h3 : (z297 = 1 → ¬ f_e0 = p1)) (h4 : 0 ≤ f_e0 ∧ f_e0 ≤ 9) (h5 : 1 ≤ f_ties ∧ f_ties ≤ 20) (h6 : 0 ≤ p1 ∧ p1 ≤ 9) (h7 : 0 ≤ p2 ∧ p2 ≤ 19) (h8 : 0 ≤ p3 ∧ p3 ≤ 9) (h9 : 0 ≤ z297 ∧ z297 ≤ 1) (h10 : 0 ≤ z313 ∧ z313 ≤ 399) : ((40 * p2) + 160) ≤ (40 * (4 + p2)) ∧ ((40 * (4 + p2)) + 1) ≤ ((40 * p2) + 200) := by omega
theorem vc_X12_candidate_8 {z315 : Int} (h0 : ¬ z315 = 0) (h1 : 0 ≤ z315 ∧ z315 ≤ 1) : 1 ≤ z315 ∧ z315 ≤ 1 := by omega
theorem vc_X12_candidate_9 {f_e0 f_ties p1 p2 p3 z297 z313 : Int} (h0 : z313 = (((20 * p2) + (10 * z297)) + p3)) (h1 : p2 < f_ties) (h2 : (z297 = 0 → f_e0 = p1)) (h3 : (z297 = 1 → ¬ f_e0 = p1)) (h4 : 0 ≤ f_e0 ∧ f_e0 ≤ 9) (h5 : 1 ≤ f_ties ∧ f_ties ≤ 20) (h6 : 0 ≤ p1 ∧ p1 ≤ 9) (h7 : 0 ≤ p2 ∧ p2 ≤ 19) (h8 : 0 ≤ p3 ∧ p3 ≤ 9) (h9 : 0 ≤ z297 ∧ z297 ≤ 1) (h10 : 0 ≤ z313 ∧ z313 ≤ 399) : 0 ≤ (40 * (130 + z313)) := by omega
theorem vc_X12_candidate_10 {f_e0 f_ties p1 p2 p3 z297 z313 : Int} (h0 : z313 = (((20 * p2) + (10 * z297)) + p3)) (h1 : p2 < f_ties) (h2 : (z297 = 0 → f_e0 = p1)) (h3 : (z297 = 1 → ¬ f_e0 = p1)) (h4 : 0 ≤ f_e0 ∧ f_e0 ≤ 9) (h5 : 1 ≤ f_ties ∧ f_ties ≤ 20) (h6 : 0 ≤ p1 ∧ p1 ≤ 9) (h7 : 0 ≤ p2 ∧ p2 ≤ 19) (h8 : 0 ≤ p3 ∧ p3 ≤ 9) (h9 : 0 ≤ z297 ∧ z297 ≤ 1) (h10 : 0 ≤ z313 ∧ z313 ≤ 399) : (40 * (130 + z313)) % 40 = 0 := by omega
theorem vc_X12_candidate_11 {z321 z329 : Int} (h0 : ¬ z329 = 0) (h1 : (z329 = 1 → 0 ≤ z321)) (h2 : (z329 = 0 → z321 < 0)) (h3 : (-1) ≤ z321 ∧ z321 ≤ 9) (h4 : 0 ≤ z329 ∧ z329 ≤ 1) : 1 ≤ z329 ∧ z329 ≤ 1 := by omega
theorem vc_X12_candidate_12 {z321 z329 : Int} (h0 : (z329 = 1 → 0 ≤ z321)) (h1 : (z329 = 0 → z321 < 0)) (h2 : ¬ z329 = 0) (h3 : (-1) ≤ z321 ∧ z321 ≤ 9) (h4 : 1 ≤ z329 ∧ z329 ≤ 1) : z329 = 1 := by omega
theorem vc_X12_candidate_13 {z321 z329 : Int} (h0 : 0 ≤ z321) (h1 : (z329 = 1 → 0 ≤ z321)) (h2 : (z329 = 0 → z321 < 0)) (h3 : (-1) ≤ z321 ∧ z321 ≤ 9) (h4 : 1 ≤ z329 ∧ z329 ≤ 1) : 0 ≤ z321 ∧ z321 ≤ 9 := by omega
theorem vc_X12_candidate_14 {z338 : Int} (h0 : z338 = 0) (h1 : 0 ≤ z338 ∧ z338 ≤ 1) : 0 ≤ z338 ∧ z338 ≤ 0 := by omega
theorem vc_X12_candidate_15 {f_e0 f_ties p1 p2 p3 z297 z313 : Int} (h0 : p2 < f_ties) (h1 : z313 = (((20 * p2) + (10 * z297)) + p3)) (h2 : (z297 = 0 → f_e0 = p1)) (h3 : (z297 = 1 → ¬ f_e0 = p1)) (h4 : 0 ≤ f_e0 ∧ f_e0 ≤ 9) (h5 : 1 ≤ f_ties ∧ f_ties ≤ 20) (h6 : 0 ≤ p1 ∧ p1 ≤ 9) (h7 : 0 ≤ p2 ∧ p2 ≤ 19) (h8 : 0 ≤ p3 ∧ p3 ≤ 9) (h9 : 0 ≤ z297 ∧ z297 ≤ 1) (h10 : 0 ≤ z313 ∧ z313 ≤ 399) : (130 + z313) < (4 + p2) ∨ (4 + p2) < (130 + z313) := by omega
theorem vc_X12_candidate_16 {f_e0 f_ties p1 p2 p3 z297 z313 : Int} (h0 : p2 < f_ties) (h1 : z313 = (((20 * p2) + (10 * z297)) + p3)) (h2 : (z297 = 0 → f_e0 = p1)) (h3 : (z297 = 1 → ¬ f_e0 = p1)) (h4 : 0 ≤ f_e0 ∧ f_e0 ≤ 9) (h5 : 1 ≤ f_ties ∧ f_ties ≤ 20) (h6 : 0 ≤ p1 ∧ p1 ≤ 9) (h7 : 0 ≤ p2 ∧ p2 ≤ 19) (h8 : 0 ≤ p3 ∧ p3 ≤ 9) (h9 : 0 ≤ z297 ∧ z297 ≤ 1) (h10 : 0 ≤ z313 ∧ z313 ≤ 399) : 0 ≤ (40 * (4 + p2)) := by omega
theorem vc_X12_candidate_17 {f_e0 f_ties p1 p2 p3 z297 z313 : Int} (h0 : p2 < f_ties) (h1 : z313 = (((20 * p2) + (10 * z297)) + p3)) (h2 : (z297 = 0 → f_e0 = p1)) (h3 : (z297 = 1 → ¬ f_e0 = p1)) (h4 : 0 ≤ f_e0 ∧ f_e0 ≤ 9) (h5 : 1 ≤ f_ties ∧ f_ties ≤ 20) (h6 : 0 ≤ p1 ∧ p1 ≤ 9) (h7 : 0 ≤ p2 ∧ p2 ≤ 19) (h8 : 0 ≤ p3 ∧ p3 ≤ 9) (h9 : 0 ≤ z297 ∧ z297 ≤ 1) (h10 : 0 ≤ z313 ∧ z313 ≤ 399) : (40 * (4 + p2)) % 40 = 0 := by omega
theorem vc_X12_candidate_18 {z321 z329 z345 : Int} (h0 : z345 = z321) (h1 : (z329 = 1 → 0 ≤ z321)) (h2 : (z329 = 0 → z321 < 0)) (h3 : 0 ≤ z321) (h4 : 0 ≤ z321 ∧ z321 ≤ 9) (h5 : 1 ≤ z329 ∧ z329 ≤ 1) (h6 : (-1) ≤ z345 ∧ z345 ≤ 9) : 0 ≤ z345 ∧ z345 ≤ 9 := by omega
theorem vc_X12_candidate_19 {z352 : Int} (h0 : z352 = -99999999 ∨ (0 ≤ z352 ∧ z352 ≤ 11)) : -99999999 ≤ z352 ∧ z352 ≤ 11 := by omega
theorem vc_X12_candidate_20 {f_e0 f_ties p1 p2 p3 z297 z313 : Int} (h0 : p2 < f_ties) (h1 : z313 = (((20 * p2) + (10 * z297)) + p3)) (h2 : (z297 = 0 → f_e0 = p1)) (h3 : (z297 = 1 → ¬ f_e0 = p1)) (h4 : 0 ≤ f_e0 ∧ f_e0 ≤ 9) (h5 : 1 ≤ f_ties ∧ f_ties ≤ 20) (h6 : 0 ≤ p1 ∧ p1 ≤ 9) (h7 : 0 ≤ p2 ∧ p2 ≤ 19) (h8 : 0 ≤ p3 ∧ p3 ≤ 9) (h9 : 0 ≤ z297 ∧ z297 ≤ 1) (h10 : 0 ≤ z313 ∧ z313 ≤ 399) : p2 < f_ties := by omega
theorem vc_X12_candidate_21 {f_e0 f_e1 p1 p2 p3 z297 z313 z364 : Int} (h0 : f_e0 = p1 ∨ f_e1 = p1) (h1 : (z297 = 0 → f_e0 = p1)) (h2 : (z297 = 1 → ¬ f_e0 = p1)) (h3 : (f_e0 = p1 → z364 = f_e1) ∧ (¬ f_e0 = p1 → z364 = f_e0)) (h4 : z313 = (((20 * p2) + (10 * z297)) + p3)) (h5 : 0 ≤ f_e0 ∧ f_e0 ≤ 9) (h6 : 0 ≤ f_e1 ∧ f_e1 ≤ 9) (h7 : 0 ≤ p1 ∧ p1 ≤ 9) (h8 : 0 ≤ p2 ∧ p2 ≤ 19) (h9 : 0 ≤ p3 ∧ p3 ≤ 9) (h10 : 0 ≤ z297 ∧ z297 ≤ 1) (h11 : 0 ≤ z313 ∧ z313 ≤ 399) (h12 : 0 ≤ z364 ∧ z364 ≤ 9) : (f_e0 = p1 ∧ f_e1 = z364) ∨ (f_e0 = z364 ∧ f_e1 = p1) := by omega
theorem vc_X12_candidate_22 {z321 z329 z345 : Int} (h0 : (z329 = 1 → 0 ≤ z321)) (h1 : (z329 = 0 → z321 < 0)) (h2 : 0 ≤ z321) (h3 : z345 = z321) (h4 : ¬ z329 = 0) (h5 : 0 ≤ z321 ∧ z321 ≤ 9) (h6 : 1 ≤ z329 ∧ z329 ≤ 1) (h7 : 0 ≤ z345 ∧ z345 ≤ 9) : 0 ≤ z321 := by omega
theorem vc_X12_candidate_23 {z352 z356 : Int} (h0 : z352 = -99999999 ∨ (0 ≤ z352 ∧ z352 < z356)) (h1 : (-99999999) ≤ z352 ∧ z352 ≤ 11) (h2 : z352 = -99999999 ∨ (0 ≤ z352 ∧ z352 ≤ 11)) (h3 : 0 ≤ z356 ∧ z356 ≤ 12) : z352 = -99999999 ∨ (0 ≤ z352 ∧ z352 < z356) := by omega
theorem vc_X12_candidate_24 {z321 z329 z345 z370 : Int} (h0 : z370 = z321) (h1 : (z329 = 1 → 0 ≤ z321)) (h2 : (z329 = 0 → z321 < 0)) (h3 : 0 ≤ z321) (h4 : z345 = z321) (h5 : 0 ≤ z321 ∧ z321 ≤ 9) (h6 : 1 ≤ z329 ∧ z329 ≤ 1) (h7 : 0 ≤ z345 ∧ z345 ≤ 9) (h8 : (-1) ≤ z370 ∧ z370 ≤ 9) : 0 ≤ z370 ∧ z370 ≤ 9 := by omega
theorem vc_X12_candidate_25 {z369 : Int} (h0 : z369 = 0) (h1 : 0 ≤ z369 ∧ z369 ≤ 1) : 0 ≤ z369 ∧ z369 ≤ 0 := by omega
theorem vc_X12_candidate_26 {z383 : Int} (h0 : z383 = -1) (h1 : (-1) ≤ z383 ∧ z383 ≤ 9) : (-1) ≤ z383 ∧ z383 ≤ (-1) := by omega
theorem vc_X12_candidate_27 {f_e0 f_ties p1 p2 p3 z297 z313 : Int} (h0 : p2 < f_ties) (h1 : z313 = (((20 * p2) + (10 * z297)) + p3)) (h2 : (z297 = 0 → f_e0 = p1)) (h3 : (z297 = 1 → ¬ f_e0 = p1)) (h4 : 0 ≤ f_e0 ∧ f_e0 ≤ 9) (h5 : 1 ≤ f_ties ∧ f_ties ≤ 20) (h6 : 0 ≤ p1 ∧ p1 ≤ 9) (h7 : 0 ≤ p2 ∧ p2 ≤ 19) (h8 : 0 ≤ p3 ∧ p3 ≤ 9) (h9 : 0 ≤ z297 ∧ z297 ≤ 1) (h10 : 0 ≤ z313 ∧ z313 ≤ 399) : ((40 * p2) + 160) ≤ (40 * (4 + p2)) ∧ ((40 * (4 + p2)) + 40) ≤ ((40 * p2) + 200) := by omega
theorem vc_X12_candidate_28 {f_e0 f_ties p1 p2 p3 z297 z313 : Int} (h0 : p2 < f_ties) (h1 : z313 = (((20 * p2) + (10 * z297)) + p3)) (h2 : (z297 = 0 → f_e0 = p1)) (h3 : (z297 = 1 → ¬ f_e0 = p1)) (h4 : 0 ≤ f_e0 ∧ f_e0 ≤ 9) (h5 : 1 ≤ f_ties ∧ f_ties ≤ 20) (h6 : 0 ≤ p1 ∧ p1 ≤ 9) (h7 : 0 ≤ p2 ∧ p2 ≤ 19) (h8 : 0 ≤ p3 ∧ p3 ≤ 9) (h9 : 0 ≤ z297 ∧ z297 ≤ 1) (h10 : 0 ≤ z313 ∧ z313 ≤ 399) : ((40 * p2) + 160) ≤ ((40 * (4 + p2)) + 1) ∧ ((40 * (4 + p2)) + 40) ≤ ((40 * p2) + 200) := by omega
theorem vc_X12_candidate_29 {z369 : Int} (h0 : ¬ z369 = 0) (h1 : 0 ≤ z369 ∧ z369 ≤ 1) : 1 ≤ z369 ∧ z369 ≤ 1 := by omega
theorem vc_X12_candidate_30 {z338 : Int} (h0 : ¬ z338 = 0) (h1 : 0 ≤ z338 ∧ z338 ≤ 1) : 1 ≤ z338 ∧ z338 ≤ 1 := by omega
theorem vc_X12_candidate_31 {z321 z329 : Int} (h0 : z329 = 0) (h1 : (z329 = 1 → 0 ≤ z321)) (h2 : (z329 = 0 → z321 < 0)) (h3 : (-1) ≤ z321 ∧ z321 ≤ 9) (h4 : 0 ≤ z329 ∧ z329 ≤ 1) : 0 ≤ z329 ∧ z329 ≤ 0 := by omega
theorem vc_X12_candidate_32 {z321 z329 : Int} (h0 : (z329 = 1 → 0 ≤ z321)) (h1 : (z329 = 0 → z321 < 0)) (h2 : z329 = 0) (h3 : (-1) ≤ z321 ∧ z321 ≤ 9) (h4 : 0 ≤ z329 ∧ z329 ≤ 0) : z329 = 0 := by omega
theorem vc_X12_candidate_33 {z321 z329 : Int} (h0 : z321 < 0) (h1 : (z329 = 1 → 0 ≤ z321)) (h2 : (z329 = 0 → z321 < 0)) (h3 : (-1) ≤ z321 ∧ z321 ≤ 9) (h4 : 0 ≤ z329 ∧ z329 ≤ 0) : (-1) ≤ z321 ∧ z321 ≤ (-1) := by omega
set_option maxRecDepth 4000 in
set_option maxHeartbeats 4000000 in
theorem c_X12_candidate {l : Launch} {D : va_G} {c : Nat → ClassId} {H0 : Heap} {sa : Nat × Nat × (Nat → Int32)} {w : mW} {μ : mM} (hw : mWF w) (hT : mT w μ) {p1 : Int} (hp1 : 0 ≤ p1 ∧ p1 ≤ 9) {p2 : Int} (hp2 : 0 ≤ p2 ∧ p2 ≤ 19) {p3 : Int} (hp3 : 0 ≤ p3 ∧ p3 ≤ 9) {f_e0 : Int} (q_f_e0 : μ 110 ((2 * p2).toNat) = f_e0) {f_e1 : Int} (q_f_e1 : μ 110 (((2 * p2) + 1).toNat) = f_e1) {f_ties : Int} (q_f_ties : μ 106 6 = f_ties) (hq0 : p2 < f_ties) (hq1 : f_e0 = p1 ∨ f_e1 = p1) (hIPK : PK μ) : sC (gG l D c H0 sa) mX12_candidate 9 0 0 [.ref 106, iv p1, iv p2, iv p3] (mk w μ) (qI w [106026, 106027, 106028, 106029, 106030, 106031, 126999, 151999, 152999, 153999] μ (fun z μ1 => ((-99999999) ≤ z ∧ z ≤ 10) ∧ mG [(((40 * p2) + 160), ((40 * p2) + 200))] μ μ1 ∧ True)) := by
  refine sC.of rfl (by decide) (le_t rfl) ?_
  have ht_f_e0 : (0 ≤ f_e0 ∧ f_e0 ≤ 9) := by rw [← q_f_e0]; exact hT 110 110 (A_110 hw) ((2 * p2).toNat)
  have ht_f_e1 : (0 ≤ f_e1 ∧ f_e1 ≤ 9) := by rw [← q_f_e1]; exact hT 110 110 (A_110 hw) (((2 * p2) + 1).toNat)
  have ht_f_ties : (0 ≤ f_ties ∧ f_ties ≤ 20) := by rw [← q_f_ties]; exact hT 106 106 (A_106 hw) 6
  have h1 : 1 ≤ f_ties ∧ f_ties ≤ 20 := (vc_X12_candidate_1 hq0 ht_f_ties hp2)
  refine mr_lvE (lv' := [(0, .ref 106), (1, iv p1), (2, iv p2), (3, iv p3)]) rfl ?_
  refine sv_aload_n (pc := 0) dX12_candidate_0 rfl rfl ?_
  refine mr_iload_n (pc := 1) (z := p2) dX12_candidate_1 rfl rfl ?_
  refine mr_iload_n (pc := 2) (z := p1) dX12_candidate_2 rfl rfl ?_
  refine mr_cVP (pc := 3) (c_X12_sideOf hw hT hp2 (rW (c := (-2147483648)) (d := 2147483647) hp1 rfl) q_f_e0) (gOk _ _ _ _ _) dX12_candidate_3 (tX12_sideOf _ _ _ _ _) ⟨wV_X12_sideOf, wL_X12_sideOf⟩ wM_X12_542 (gCX12 _ _ _ _ _) rfl (A_106 hw) rfl ⟨le_t rfl, le_t rfl⟩ ⟨le_t rfl, le_t rfl⟩ rfl (le_t rfl) fun z297 h296 => ?_
  refine mr_istore (pc := 6) (lv' := [(4, iv z297), (0, .ref 106), (1, iv p1), (2, iv p2), (3, iv p3)]) dX12_candidate_6 (by decide) rfl ?_
  refine sv_aload_n (pc := 8) dX12_candidate_8 rfl rfl ?_
  refine mr_iconst (pc := 9) (z := 4) dX12_candidate_9 ?_
  refine mr_iload_n (pc := 10) (z := p2) dX12_candidate_10 rfl rfl ?_
  refine mr_iadd (pc := 11) (x := 4) (y := p2) dX12_candidate_11 ?_
  refine mr_cVV (pc := 12) (c_X12_nothing hw hT (rW (c := 0) (d := 2099) (rAdd (e := 4) (f := 23) (rR (x := 4)) hp2 rfl) rfl)) (gOk _ _ _ _ _) dX12_candidate_12 (tX12_nothing _ _ _ _ _) ⟨wV_X12_nothing, wL_X12_nothing⟩ wM_X12_539 (gCX12 _ _ _ _ _) rfl (A_106 hw) rfl ⟨le_t rfl, le_t rfl⟩ ⟨le_t rfl, le_t rfl⟩ rfl (le_t rfl) fun μ298 T299 F300 h301 => ?_
  obtain ⟨z302, q303, h304⟩ := h301
  have h305 := rt7 T299 (A_126 hw) (vc_X12_candidate_2 hq0 h1 hp2) q303
  have h306 : (-1) ≤ z302 ∧ z302 ≤ 9 := h305.2.1 (vc_X12_candidate_3 hq0 h1 hp2)
  have q307 : μ298 126 ((40 * (4 + p2)).toNat) = (-1) := q303.trans h304.2.1
  have h308 : (-1) ≤ z302 ∧ z302 ≤ (-1) := (vc_X12_candidate_4 h304.2.1 h306)
  refine mr_sipush (pc := 15) (z := 130) dX12_candidate_15 (by decide) ?_
  refine mr_iload_n (pc := 18) (z := p2) dX12_candidate_18 rfl rfl ?_
  refine mr_iload (pc := 19) (z := z297) dX12_candidate_19 rfl ?_
  refine mr_iload_n (pc := 21) (z := p3) dX12_candidate_21 rfl rfl ?_
  refine mr_cSP (pc := 22) (c_X12_slot hw T299 (rW (c := 0) (d := 20) hp2 rfl) (rW (c := 0) (d := 2) h296.1 rfl) hp3) (gOk _ _ _ _ _) dX12_candidate_22 (tX12_slot _ _ _ _ _) wS_X12_slot wM_X12_545 ⟨le_t rfl, le_t rfl⟩ ⟨le_t rfl, le_t rfl⟩ rfl (le_t rfl) fun z313 h312 => ?_
  have h314 : 0 ≤ z313 ∧ z313 ≤ 399 := (vc_X12_candidate_5 h312.2.1 hq0 h296.2.1 h296.2.2.1 ht_f_e0 h1 hp1 hp2 hp3 h296.1 h312.1)
  refine mr_iadd (pc := 25) (x := 130) (y := z313) dX12_candidate_25 ?_
  refine mr_istore (pc := 26) (lv' := [(5, iv (130 + z313)), (4, iv z297), (0, .ref 106), (1, iv p1), (2, iv p2), (3, iv p3)]) dX12_candidate_26 (by decide) rfl ?_
  refine sv_aload_n (pc := 28) dX12_candidate_28 rfl rfl ?_
  refine gf_X12_9 (pc := 29) dX12_candidate_29 wF_X12_53 (A_106 hw) T299 ?_
  refine mr_iload_n (pc := 32) (z := p2) dX12_candidate_32 rfl rfl ?_
  refine la_112 (pc := 33) dX12_candidate_33 (A_112 hw) T299 (rIx (n := 20) hp2 rfl) fun z315 q316 h317 => ?_
  refine mr_if_eq (pc := 34) (tgt := 46) dX12_candidate_34 (by decide) (r32 h317 rfl) (fun h318 => ?_) (fun h318 => ?_)
  · have h319 : 0 ≤ z315 ∧ z315 ≤ 0 := (vc_X12_candidate_6 h318 h317)
    refine mr_ldc (pc := 46) (z := (-99999999)) dX12_candidate_46 wG_X12_29 (by decide) ?_
    exact mr_iret dX12_candidate_48 rfl (le_t rfl) (le_t rfl) T299 (mF.call mF.refl F300 rfl) ⟨(rW (c := (-99999999)) (d := 10) (rR (x := (-99999999))) rfl), (mG.call mG.refl h304.1 (List.forall_mem_cons.mpr ⟨⟨_, List.mem_cons_self, (vc_X12_candidate_7 hq0 h312.2.1 h296.2.1 h296.2.2.1 ht_f_e0 h1 hp1 hp2 hp3 h296.1 h314)⟩, (fun _ h => absurd h List.not_mem_nil)⟩)), trivial⟩
  have h320 : 1 ≤ z315 ∧ z315 ≤ 1 := (vc_X12_candidate_8 h318 h317)
  refine sv_aload_n (pc := 37) dX12_candidate_37 rfl rfl ?_
  refine mr_iload (pc := 38) (z := (130 + z313)) dX12_candidate_38 rfl ?_
  obtain ⟨z321, q322⟩ : ∃ z, μ298 126 ((40 * (130 + z313)).toNat) = z := ⟨_, rfl⟩
  have h323 := rt7 T299 (A_126 hw) (vc_X12_candidate_9 h312.2.1 hq0 h296.2.1 h296.2.2.1 ht_f_e0 h1 hp1 hp2 hp3 h296.1 h314) q322
  have h324 : (-1) ≤ z321 ∧ z321 ≤ 9 := h323.2.1 (vc_X12_candidate_10 h312.2.1 hq0 h296.2.1 h296.2.2.1 ht_f_e0 h1 hp1 hp2 hp3 h296.1 h314)
  refine mr_cVP (pc := 40) (c_X12_isThere hw T299 (rW (c := 0) (d := 2099) (rAdd (e := 130) (f := 529) (rR (x := 130)) h314 rfl) rfl) q322) (gOk _ _ _ _ _) dX12_candidate_40 (tX12_isThere _ _ _ _ _) ⟨wV_X12_isThere, wL_X12_isThere⟩ wM_X12_151 (gCX12 _ _ _ _ _) rfl (A_106 hw) rfl ⟨le_t rfl, le_t rfl⟩ ⟨le_t rfl, le_t rfl⟩ rfl (le_t rfl) fun z329 h328 => ?_
  refine mr_if_ne (pc := 43) (tgt := 49) dX12_candidate_43 (by decide) (r32 h328.1 rfl) (fun h330 => ?_) (fun h330 => ?_)
  · have h331 : 1 ≤ z329 ∧ z329 ≤ 1 := (vc_X12_candidate_11 h330 h328.2.1 h328.2.2.1 h324 h328.1)
    have h332 : 0 ≤ z321 := (h328.2.1 (vc_X12_candidate_12 h328.2.1 h328.2.2.1 h330 h324 h331))
    have h333 : 0 ≤ z321 ∧ z321 ≤ 9 := (vc_X12_candidate_13 h332 h328.2.1 h328.2.2.1 h324 h331)
    refine sv_aload_n (pc := 49) dX12_candidate_49 rfl rfl ?_
    refine mr_iload (pc := 50) (z := (130 + z313)) dX12_candidate_50 rfl ?_
    refine mr_iload_n (pc := 52) (z := p1) dX12_candidate_52 rfl rfl ?_
    refine mr_cVP (pc := 53) (c_X12_isIn hw T299 (rW (c := 0) (d := 2099) (rAdd (e := 130) (f := 529) (rR (x := 130)) h314 rfl) rfl) (rW (c := (-2147483648)) (d := 2147483647) hp1 rfl)) (gOk _ _ _ _ _) dX12_candidate_53 (tX12_isIn _ _ _ _ _) ⟨wV_X12_isIn, wL_X12_isIn⟩ wM_X12_556 (gCX12 _ _ _ _ _) rfl (A_106 hw) rfl ⟨le_t rfl, le_t rfl⟩ ⟨le_t rfl, le_t rfl⟩ rfl (le_t rfl) fun z338 h337 => ?_
    refine mr_if_eq (pc := 56) (tgt := 62) dX12_candidate_56 (by decide) (r32 h337.1 rfl) (fun h339 => ?_) (fun h339 => ?_)
    · have h340 : 0 ≤ z338 ∧ z338 ≤ 0 := (vc_X12_candidate_14 h339 h337.1)
      refine sv_aload_n (pc := 62) dX12_candidate_62 rfl rfl ?_
      refine mr_iload (pc := 63) (z := (130 + z313)) dX12_candidate_63 rfl ?_
      refine mr_iconst (pc := 65) (z := 4) dX12_candidate_65 ?_
      refine mr_iload_n (pc := 66) (z := p2) dX12_candidate_66 rfl rfl ?_
      refine mr_iadd (pc := 67) (x := 4) (y := p2) dX12_candidate_67 ?_
      refine mr_cVV (pc := 68) (c_X12_copy hw T299 (rW (c := 0) (d := 2099) (rAdd (e := 130) (f := 529) (rR (x := 130)) h314 rfl) rfl) (rW (c := 0) (d := 2099) (rAdd (e := 4) (f := 23) (rR (x := 4)) hp2 rfl) rfl) q322 (vc_X12_candidate_15 hq0 h312.2.1 h296.2.1 h296.2.2.1 ht_f_e0 h1 hp1 hp2 hp3 h296.1 h314)) (gOk _ _ _ _ _) dX12_candidate_68 (tX12_copy _ _ _ _ _) ⟨wV_X12_copy, wL_X12_copy⟩ wM_X12_559 (gCX12 _ _ _ _ _) rfl (A_106 hw) rfl ⟨le_t rfl, le_t rfl⟩ ⟨le_t rfl, le_t rfl⟩ rfl (le_t rfl) fun μ341 T342 F343 h344 => ?_
      obtain ⟨z345, q346, h347⟩ := h344
      have h348 := rt7 T342 (A_126 hw) (vc_X12_candidate_16 hq0 h312.2.1 h296.2.1 h296.2.2.1 ht_f_e0 h1 hp1 hp2 hp3 h296.1 h314) q346
      have h349 : (-1) ≤ z345 ∧ z345 ≤ 9 := h348.2.1 (vc_X12_candidate_17 hq0 h312.2.1 h296.2.1 h296.2.2.1 ht_f_e0 h1 hp1 hp2 hp3 h296.1 h314)
      have q350 : μ341 126 ((40 * (4 + p2)).toNat) = z321 := q346.trans h347.2.1
      have h351 : 0 ≤ z345 ∧ z345 ≤ 9 := (vc_X12_candidate_18 h347.2.1 h328.2.1 h328.2.2.1 h332 h333 h331 h349)
      refine sv_aload_n (pc := 71) dX12_candidate_71 rfl rfl ?_
      refine sv_aload_n (pc := 72) dX12_candidate_72 rfl rfl ?_
      refine gf_X12_12 (pc := 73) dX12_candidate_73 wF_X12_63 (A_106 hw) T342 ?_
      refine mr_iconst (pc := 76) (z := 4) dX12_candidate_76 ?_
      refine mr_iload_n (pc := 77) (z := p2) dX12_candidate_77 rfl rfl ?_
      refine mr_imul (pc := 78) (x := 4) (y := p2) dX12_candidate_78 ?_
      refine mr_iconst (pc := 79) (z := 2) dX12_candidate_79 ?_
      refine mr_iload (pc := 80) (z := z297) dX12_candidate_80 rfl ?_
      refine mr_imul (pc := 82) (x := 2) (y := z297) dX12_candidate_82 ?_
      refine mr_iadd (pc := 83) (x := (4 * p2)) (y := (2 * z297)) dX12_candidate_83 ?_
      refine la_115 (pc := 84) dX12_candidate_84 (A_115 hw) T342 (rIx (n := 80) (rAdd (e := 0) (f := 78) (rMulL (n := 4) (e := 0) (f := 76) hp2 rfl) (rMulL (n := 2) (e := 0) (f := 2) h296.1 rfl) rfl) rfl) fun z352 q353 h354 => ?_
      have h355 : (-99999999) ≤ z352 ∧ z352 ≤ 11 := (vc_X12_candidate_19 h354)
      obtain ⟨z356, q357⟩ : ∃ z, μ341 106 39 = z := ⟨_, rfl⟩
      have h358 : (0 ≤ z356 ∧ z356 ≤ 12) := by rw [← q357]; exact T342 106 106 (A_106 hw) 39
      have h359 : z352 = -99999999 ∨ (0 ≤ z352 ∧ z352 < z356) := PK.pol (PK.keep hIPK hw ((mF.call (mF.call mF.refl F300 rfl) F343 rfl) : mF [126999] w μ μ341) rfl) (rIx (n := 80) (rAdd (e := 0) (f := 78) (rMulL (n := 4) (e := 0) (f := 76) hp2 rfl) (rMulL (n := 2) (e := 0) (f := 2) h296.1 rfl) rfl) rfl) q353 q357
      refine mr_iconst (pc := 85) (z := 4) dX12_candidate_85 ?_
      refine mr_iload_n (pc := 86) (z := p2) dX12_candidate_86 rfl rfl ?_
      refine mr_iadd (pc := 87) (x := 4) (y := p2) dX12_candidate_87 ?_
      refine mr_iload_n (pc := 88) (z := p1) dX12_candidate_88 rfl rfl ?_
      refine sv_aload_n (pc := 89) dX12_candidate_89 rfl rfl ?_
      refine mr_iload_n (pc := 90) (z := p2) dX12_candidate_90 rfl rfl ?_
      refine mr_iload_n (pc := 91) (z := p1) dX12_candidate_91 rfl rfl ?_
      refine mr_cVP (pc := 92) (c_X12_partnerOf_pt hw T342 hp2 (rW (c := (-2147483648)) (d := 2147483647) hp1 rfl) (F343.f (A_110 hw) rfl (F300.f (A_110 hw) rfl q_f_e0)) (F343.f (A_110 hw) rfl (F300.f (A_110 hw) rfl q_f_e1))) (gOk _ _ _ _ _) dX12_candidate_92 (tX12_partnerOf _ _ _ _ _) ⟨wV_X12_partnerOf, wL_X12_partnerOf⟩ wM_X12_553 (gCX12 _ _ _ _ _) rfl (A_106 hw) rfl ⟨le_t rfl, le_t rfl⟩ ⟨le_t rfl, le_t rfl⟩ rfl (le_t rfl) fun z364 h363 => ?_
      refine mr_cVI (pc := 95) (c_X12_through hw T342 (rW (c := (-2147483648)) (d := 2147483647) h355 rfl) (rW (c := 0) (d := 2099) (rAdd (e := 4) (f := 23) (rR (x := 4)) hp2 rfl) rfl) (rW (c := (-2147483648)) (d := 2147483647) hp1 rfl) (rW (c := (-2147483648)) (d := 2147483647) h363.1 rfl) hp2 (F343.f (A_110 hw) rfl (F300.f (A_110 hw) rfl q_f_e0)) (F343.f (A_110 hw) rfl (F300.f (A_110 hw) rfl q_f_e1)) (F343.f (A_106 hw) rfl (F300.f (A_106 hw) rfl q_f_ties)) q350 q357 (vc_X12_candidate_20 hq0 h312.2.1 h296.2.1 h296.2.2.1 ht_f_e0 h1 hp1 hp2 hp3 h296.1 h314) (vc_X12_candidate_21 hq1 h296.2.1 h296.2.2.1 h363.2.1 h312.2.1 ht_f_e0 ht_f_e1 hp1 hp2 hp3 h296.1 h314 h363.1) (vc_X12_candidate_22 h328.2.1 h328.2.2.1 h332 h347.2.1 h330 h333 h331 h351) (vc_X12_candidate_23 h359 h355 h354 h358) (PK.keep hIPK hw ((mF.call (mF.call mF.refl F300 rfl) F343 rfl) : mF [126999] w μ μ341) rfl)) (gOk _ _ _ _ _) dX12_candidate_95 (tX12_through _ _ _ _ _) ⟨wV_X12_through, wL_X12_through⟩ wM_X12_414 (gCX12 _ _ _ _ _) rfl (A_106 hw) rfl ⟨le_t rfl, le_t rfl⟩ ⟨le_t rfl, le_t rfl⟩ rfl (le_t rfl) fun z369 μ365 T366 F367 h368 => ?_
      obtain ⟨z370, q371, h372⟩ := h368
      have h373 := rt7 T366 (A_126 hw) (vc_X12_candidate_16 hq0 h312.2.1 h296.2.1 h296.2.2.1 ht_f_e0 h1 hp1 hp2 hp3 h296.1 h314) q371
      have h374 : (-1) ≤ z370 ∧ z370 ≤ 9 := h373.2.1 (vc_X12_candidate_17 hq0 h312.2.1 h296.2.1 h296.2.2.1 ht_f_e0 h1 hp1 hp2 hp3 h296.1 h314)
      have q375 : μ365 126 ((40 * (4 + p2)).toNat) = z321 := q371.trans h372.2.2.1
      have h376 : 0 ≤ z370 ∧ z370 ≤ 9 := (vc_X12_candidate_24 h372.2.2.1 h328.2.1 h328.2.2.1 h332 h347.2.1 h333 h331 h351 h374)
      refine mr_if_eq (pc := 98) (tgt := 103) dX12_candidate_98 (by decide) (r32 h372.1 rfl) (fun h377 => ?_) (fun h377 => ?_)
      · have h378 : 0 ≤ z369 ∧ z369 ≤ 0 := (vc_X12_candidate_25 h377 h372.1)
        refine sv_aload_n (pc := 103) dX12_candidate_103 rfl rfl ?_
        refine mr_iconst (pc := 104) (z := 4) dX12_candidate_104 ?_
        refine mr_iload_n (pc := 105) (z := p2) dX12_candidate_105 rfl rfl ?_
        refine mr_iadd (pc := 106) (x := 4) (y := p2) dX12_candidate_106 ?_
        refine mr_cVV (pc := 107) (c_X12_nothing hw T366 (rW (c := 0) (d := 2099) (rAdd (e := 4) (f := 23) (rR (x := 4)) hp2 rfl) rfl)) (gOk _ _ _ _ _) dX12_candidate_107 (tX12_nothing _ _ _ _ _) ⟨wV_X12_nothing, wL_X12_nothing⟩ wM_X12_539 (gCX12 _ _ _ _ _) rfl (A_106 hw) rfl ⟨le_t rfl, le_t rfl⟩ ⟨le_t rfl, le_t rfl⟩ rfl (le_t rfl) fun μ379 T380 F381 h382 => ?_
        obtain ⟨z383, q384, h385⟩ := h382
        have h386 := rt7 T380 (A_126 hw) (vc_X12_candidate_16 hq0 h312.2.1 h296.2.1 h296.2.2.1 ht_f_e0 h1 hp1 hp2 hp3 h296.1 h314) q384
        have h387 : (-1) ≤ z383 ∧ z383 ≤ 9 := h386.2.1 (vc_X12_candidate_17 hq0 h312.2.1 h296.2.1 h296.2.2.1 ht_f_e0 h1 hp1 hp2 hp3 h296.1 h314)
        have q388 : μ379 126 ((40 * (4 + p2)).toNat) = (-1) := q384.trans h385.2.1
        have h389 : (-1) ≤ z383 ∧ z383 ≤ (-1) := (vc_X12_candidate_26 h385.2.1 h387)
        refine mr_bipush (pc := 110) (z := 10) dX12_candidate_110 (by decide) ?_
        exact mr_iret dX12_candidate_112 rfl (le_t rfl) (le_t rfl) T380 (mF.call (mF.call (mF.call (mF.call mF.refl F300 rfl) F343 rfl) F367 rfl) F381 rfl) ⟨(rW (c := (-99999999)) (d := 10) (rR (x := 10)) rfl), (mG.call (mG.call (mG.call (mG.call mG.refl h304.1 (List.forall_mem_cons.mpr ⟨⟨_, List.mem_cons_self, (vc_X12_candidate_7 hq0 h312.2.1 h296.2.1 h296.2.2.1 ht_f_e0 h1 hp1 hp2 hp3 h296.1 h314)⟩, (fun _ h => absurd h List.not_mem_nil)⟩)) h347.1 (List.forall_mem_cons.mpr ⟨⟨_, List.mem_cons_self, (vc_X12_candidate_27 hq0 h312.2.1 h296.2.1 h296.2.2.1 ht_f_e0 h1 hp1 hp2 hp3 h296.1 h314)⟩, (fun _ h => absurd h List.not_mem_nil)⟩)) h372.2.1 (List.forall_mem_cons.mpr ⟨⟨_, List.mem_cons_self, (vc_X12_candidate_28 hq0 h312.2.1 h296.2.1 h296.2.2.1 ht_f_e0 h1 hp1 hp2 hp3 h296.1 h314)⟩, (fun _ h => absurd h List.not_mem_nil)⟩)) h385.1 (List.forall_mem_cons.mpr ⟨⟨_, List.mem_cons_self, (vc_X12_candidate_7 hq0 h312.2.1 h296.2.1 h296.2.2.1 ht_f_e0 h1 hp1 hp2 hp3 h296.1 h314)⟩, (fun _ h => absurd h List.not_mem_nil)⟩)), trivial⟩
      have h390 : 1 ≤ z369 ∧ z369 ≤ 1 := (vc_X12_candidate_29 h377 h372.1)
      refine mr_iconst (pc := 101) (z := 0) dX12_candidate_101 ?_
      exact mr_iret dX12_candidate_102 rfl (le_t rfl) (le_t rfl) T366 (mF.call (mF.call (mF.call mF.refl F300 rfl) F343 rfl) F367 rfl) ⟨(rW (c := (-99999999)) (d := 10) (rR (x := 0)) rfl), (mG.call (mG.call (mG.call mG.refl h304.1 (List.forall_mem_cons.mpr ⟨⟨_, List.mem_cons_self, (vc_X12_candidate_7 hq0 h312.2.1 h296.2.1 h296.2.2.1 ht_f_e0 h1 hp1 hp2 hp3 h296.1 h314)⟩, (fun _ h => absurd h List.not_mem_nil)⟩)) h347.1 (List.forall_mem_cons.mpr ⟨⟨_, List.mem_cons_self, (vc_X12_candidate_27 hq0 h312.2.1 h296.2.1 h296.2.2.1 ht_f_e0 h1 hp1 hp2 hp3 h296.1 h314)⟩, (fun _ h => absurd h List.not_mem_nil)⟩)) h372.2.1 (List.forall_mem_cons.mpr ⟨⟨_, List.mem_cons_self, (vc_X12_candidate_28 hq0 h312.2.1 h296.2.1 h296.2.2.1 ht_f_e0 h1 hp1 hp2 hp3 h296.1 h314)⟩, (fun _ h => absurd h List.not_mem_nil)⟩)), trivial⟩
    have h391 : 1 ≤ z338 ∧ z338 ≤ 1 := (vc_X12_candidate_30 h339 h337.1)
    refine mr_bipush (pc := 59) (z := 9) dX12_candidate_59 (by decide) ?_
    exact mr_iret dX12_candidate_61 rfl (le_t rfl) (le_t rfl) T299 (mF.call mF.refl F300 rfl) ⟨(rW (c := (-99999999)) (d := 10) (rR (x := 9)) rfl), (mG.call mG.refl h304.1 (List.forall_mem_cons.mpr ⟨⟨_, List.mem_cons_self, (vc_X12_candidate_7 hq0 h312.2.1 h296.2.1 h296.2.2.1 ht_f_e0 h1 hp1 hp2 hp3 h296.1 h314)⟩, (fun _ h => absurd h List.not_mem_nil)⟩)), trivial⟩
  have h392 : 0 ≤ z329 ∧ z329 ≤ 0 := (vc_X12_candidate_31 h330 h328.2.1 h328.2.2.1 h324 h328.1)
  have h393 : z321 < 0 := (h328.2.2.1 (vc_X12_candidate_32 h328.2.1 h328.2.2.1 h330 h324 h392))
  have h394 : (-1) ≤ z321 ∧ z321 ≤ (-1) := (vc_X12_candidate_33 h393 h328.2.1 h328.2.2.1 h324 h392)
  refine mr_ldc (pc := 46) (z := (-99999999)) dX12_candidate_46 wG_X12_29 (by decide) ?_
  exact mr_iret dX12_candidate_48 rfl (le_t rfl) (le_t rfl) T299 (mF.call mF.refl F300 rfl) ⟨(rW (c := (-99999999)) (d := 10) (rR (x := (-99999999))) rfl), (mG.call mG.refl h304.1 (List.forall_mem_cons.mpr ⟨⟨_, List.mem_cons_self, (vc_X12_candidate_7 hq0 h312.2.1 h296.2.1 h296.2.2.1 ht_f_e0 h1 hp1 hp2 hp3 h296.1 h314)⟩, (fun _ h => absurd h List.not_mem_nil)⟩)), trivial⟩
theorem vc_X12_candidates_1 {z419 : Int} (h0 : (21 - z419) < ((0 : Nat) : Int)) (h1 : 0 ≤ z419 ∧ z419 ≤ 20) : False := by omega
theorem vc_X12_candidates_2  : (160 : Int) ≤ (160 : Int) ∧ (960 : Int) ≤ (960 : Int) := by omega
theorem vc_X12_candidates_3 {z419 z429 : Int} (h0 : z419 < z429) (h1 : 0 ≤ z419 ∧ z419 ≤ 20) (h2 : 0 ≤ z429 ∧ z429 ≤ 20) : 0 ≤ z419 ∧ z419 ≤ 19 := by omega
theorem vc_X12_candidates_4 {z419 z429 : Int} (h0 : z419 < z429) (h1 : 0 ≤ z419 ∧ z419 ≤ 19) (h2 : 0 ≤ z429 ∧ z429 ≤ 20) : 1 ≤ z429 ∧ z429 ≤ 20 := by omega
theorem vc_X12_candidates_5 {p1 z468 z471 z478 : Int} (h0 : z478 = 0) (h1 : (z478 = 1 → z468 = p1 ∨ z471 = p1)) (h2 : (z478 = 0 → ¬ z468 = p1 ∧ ¬ z471 = p1)) (h3 : 0 ≤ p1 ∧ p1 ≤ 9) (h4 : 0 ≤ z468 ∧ z468 ≤ 9) (h5 : 0 ≤ z471 ∧ z471 ≤ 9) (h6 : 0 ≤ z478 ∧ z478 ≤ 1) : 0 ≤ z478 ∧ z478 ≤ 0 := by omega
theorem vc_X12_candidates_6 {p1 z468 z471 z478 : Int} (h0 : (z478 = 1 → z468 = p1 ∨ z471 = p1)) (h1 : (z478 = 0 → ¬ z468 = p1 ∧ ¬ z471 = p1)) (h2 : z478 = 0) (h3 : 0 ≤ p1 ∧ p1 ≤ 9) (h4 : 0 ≤ z468 ∧ z468 ≤ 9) (h5 : 0 ≤ z471 ∧ z471 ≤ 9) (h6 : 0 ≤ z478 ∧ z478 ≤ 0) : z478 = 0 := by omega
theorem vc_X12_candidates_7 {z419 z429 : Int} (h0 : z419 < z429) (h1 : 0 ≤ z419 ∧ z419 ≤ 19) (h2 : 1 ≤ z429 ∧ z429 ≤ 20) : 0 ≤ (40 * (4 + z419)) := by omega
theorem vc_X12_candidates_8 {z419 z429 : Int} (h0 : z419 < z429) (h1 : 0 ≤ z419 ∧ z419 ≤ 19) (h2 : 1 ≤ z429 ∧ z429 ≤ 20) : (40 * (4 + z419)) % 40 = 0 := by omega
theorem vc_X12_candidates_9 {z506 : Int} (h0 : z506 = -1) (h1 : (-1) ≤ z506 ∧ z506 ≤ 9) : (-1) ≤ z506 ∧ z506 ≤ (-1) := by omega
theorem vc_X12_candidates_10 {N z419 z429 : Int} (h0 : (21 - z419) < N + 1) (h1 : z419 < z429) (h2 : 0 ≤ z419 ∧ z419 ≤ 19) (h3 : 1 ≤ z429 ∧ z429 ≤ 20) : (21 - (z419 + 1)) < N := by omega
theorem vc_X12_candidates_11 {z419 z429 : Int} (h0 : z419 < z429) (h1 : 0 ≤ z419 ∧ z419 ≤ 19) (h2 : 1 ≤ z429 ∧ z429 ≤ 20) : 160 ≤ (40 * (4 + z419)) ∧ ((40 * (4 + z419)) + 1) ≤ 960 := by omega
theorem vc_X12_candidates_12 {p1 z468 z471 z478 : Int} (h0 : ¬ z478 = 0) (h1 : (z478 = 1 → z468 = p1 ∨ z471 = p1)) (h2 : (z478 = 0 → ¬ z468 = p1 ∧ ¬ z471 = p1)) (h3 : 0 ≤ p1 ∧ p1 ≤ 9) (h4 : 0 ≤ z468 ∧ z468 ≤ 9) (h5 : 0 ≤ z471 ∧ z471 ≤ 9) (h6 : 0 ≤ z478 ∧ z478 ≤ 1) : 1 ≤ z478 ∧ z478 ≤ 1 := by omega
theorem vc_X12_candidates_13 {p1 z468 z471 z478 : Int} (h0 : (z478 = 1 → z468 = p1 ∨ z471 = p1)) (h1 : (z478 = 0 → ¬ z468 = p1 ∧ ¬ z471 = p1)) (h2 : ¬ z478 = 0) (h3 : 0 ≤ p1 ∧ p1 ≤ 9) (h4 : 0 ≤ z468 ∧ z468 ≤ 9) (h5 : 0 ≤ z471 ∧ z471 ≤ 9) (h6 : 1 ≤ z478 ∧ z478 ≤ 1) : z478 = 1 := by omega
theorem vc_X12_candidates_14 {z419 z429 : Int} (h0 : z419 < z429) (h1 : 0 ≤ z419 ∧ z419 ≤ 19) (h2 : 1 ≤ z429 ∧ z429 ≤ 20) : z419 < z429 := by omega
theorem vc_X12_candidates_15 {p1 z468 z471 z478 : Int} (h0 : (z478 = 1 → z468 = p1 ∨ z471 = p1)) (h1 : (z478 = 0 → ¬ z468 = p1 ∧ ¬ z471 = p1)) (h2 : z468 = p1 ∨ z471 = p1) (h3 : ¬ z478 = 0) (h4 : 0 ≤ p1 ∧ p1 ≤ 9) (h5 : 0 ≤ z468 ∧ z468 ≤ 9) (h6 : 0 ≤ z471 ∧ z471 ≤ 9) (h7 : 1 ≤ z478 ∧ z478 ≤ 1) : z468 = p1 ∨ z471 = p1 := by omega
theorem vc_X12_candidates_16 {z419 z429 : Int} (h0 : z419 < z429) (h1 : 0 ≤ z419 ∧ z419 ≤ 19) (h2 : 1 ≤ z429 ∧ z429 ≤ 20) : 160 ≤ ((40 * z419) + 160) ∧ ((40 * z419) + 200) ≤ 960 := by omega
theorem vc_X12_candidates_17  : (21 - 0) < ((22 : Nat) : Int) := by omega
set_option maxRecDepth 4000 in
set_option maxHeartbeats 4000000 in
theorem c_X12_candidates {l : Launch} {D : va_G} {c : Nat → ClassId} {H0 : Heap} {sa : Nat × Nat × (Nat → Int32)} {w : mW} {μ : mM} (hw : mWF w) (hT : mT w μ) {p1 : Int} (hp1 : 0 ≤ p1 ∧ p1 ≤ 9) {p2 : Int} (hp2 : 0 ≤ p2 ∧ p2 ≤ 9) (hIPK : PK μ) : sC (gG l D c H0 sa) mX12_candidates 10 0 0 [.ref 106, iv p1, iv p2] (mk w μ) (qV w [106026, 106027, 106028, 106029, 106030, 106031, 126999, 151999, 152999, 153999] μ (fun μ1 => mG [(160, 960)] μ μ1 ∧ True)) := by
  refine sC.of rfl (by decide) (le_t rfl) ?_
  refine mr_lvE (lv' := [(0, .ref 106), (1, iv p1), (2, iv p2)]) rfl ?_
  refine mr_iconst (pc := 0) (z := 0) dX12_candidates_0 ?_
  refine mr_istore_n (pc := 1) (lv' := [(3, iv 0), (0, .ref 106), (1, iv p1), (2, iv p2)]) dX12_candidates_1 rfl (by decide) rfl ?_
  have L421 : ∀ (nL421 : Nat) (z419 : Int) (μ420 : mM), mT w μ420 → mF [106026, 106027, 106028, 106029, 106030, 106031, 126999, 151999, 152999, 153999] w μ μ420 → mG [(160, 960)] μ μ420 → (0 ≤ z419 ∧ z419 ≤ 20) → PK μ420 → (21 - z419) < (nL421 : Int) → sV (gG l D c H0 sa) mX12_candidates (sRm 10 0 0) (sZ (gG l D c H0 sa) 0 0 (qV w [106026, 106027, 106028, 106029, 106030, 106031, 126999, 151999, 152999, 153999] μ (fun μ1 => mG [(160, 960)] μ μ1 ∧ True))) 2 [(0, .ref 106), (1, iv p1), (2, iv p2), (3, iv z419)] [] (mk w μ420) 0 0 := by
    intro nL421
    induction nL421 with
    | zero => intro z419 μ420 T423 F424 G425 h422 I426 h427; exact ((vc_X12_candidates_1 h427 h422)).elim
    | succ nL421 ih428 =>
      intro z419 μ420 T423 F424 G425 h422 I426 h427
      refine mr_iload_n (pc := 2) (z := z419) dX12_candidates_2 rfl rfl ?_
      refine sv_aload_n (pc := 3) dX12_candidates_3 rfl rfl ?_
      refine gf_X12_6 (pc := 4) dX12_candidates_4 wF_X12_37 (A_106 hw) T423 fun z429 q430 h431 => ?_
      refine mr_icmp_ge (pc := 7) (tgt := 43) dX12_candidates_7 (by decide) (r32 h422 rfl) (r32 h431 rfl) (fun h465 => ?_) (fun h465 => ?_)
      · exact mr_vret dX12_candidates_43 rfl (le_t rfl) (le_t rfl) T423 (mF.call mF.refl F424 rfl) ⟨(mG.call mG.refl G425 (List.forall_mem_cons.mpr ⟨⟨_, List.mem_cons_self, vc_X12_candidates_2⟩, (fun _ h => absurd h List.not_mem_nil)⟩)), trivial⟩
      have h466 : 0 ≤ z419 ∧ z419 ≤ 19 := (vc_X12_candidates_3 h465 h422 h431)
      have h467 : 1 ≤ z429 ∧ z429 ≤ 20 := (vc_X12_candidates_4 h465 h466 h431)
      refine sv_aload_n (pc := 10) dX12_candidates_10 rfl rfl ?_
      refine mr_iload_n (pc := 11) (z := z419) dX12_candidates_11 rfl rfl ?_
      refine mr_iload_n (pc := 12) (z := p1) dX12_candidates_12 rfl rfl ?_
      obtain ⟨z468, q469⟩ : ∃ z, μ420 110 ((2 * z419).toNat) = z := ⟨_, rfl⟩
      have h470 : (0 ≤ z468 ∧ z468 ≤ 9) := by rw [← q469]; exact T423 110 110 (A_110 hw) ((2 * z419).toNat)
      obtain ⟨z471, q472⟩ : ∃ z, μ420 110 (((2 * z419) + 1).toNat) = z := ⟨_, rfl⟩
      have h473 : (0 ≤ z471 ∧ z471 ≤ 9) := by rw [← q472]; exact T423 110 110 (A_110 hw) (((2 * z419) + 1).toNat)
      refine mr_cVP (pc := 13) (c_X12_isAt hw T423 h466 (rW (c := (-2147483648)) (d := 2147483647) hp1 rfl) q469 q472) (gOk _ _ _ _ _) dX12_candidates_13 (tX12_isAt _ _ _ _ _) ⟨wV_X12_isAt, wL_X12_isAt⟩ wM_X12_562 (gCX12 _ _ _ _ _) rfl (A_106 hw) rfl ⟨le_t rfl, le_t rfl⟩ ⟨le_t rfl, le_t rfl⟩ rfl (le_t rfl) fun z478 h477 => ?_
      refine mr_if_eq (pc := 16) (tgt := 30) dX12_candidates_16 (by decide) (r32 h477.1 rfl) (fun h499 => ?_) (fun h499 => ?_)
      · have h500 : 0 ≤ z478 ∧ z478 ≤ 0 := (vc_X12_candidates_5 h499 h477.2.1 h477.2.2.1 hp1 h470 h473 h477.1)
        have h501 : ¬ z468 = p1 ∧ ¬ z471 = p1 := (h477.2.2.1 (vc_X12_candidates_6 h477.2.1 h477.2.2.1 h499 hp1 h470 h473 h500))
        refine sv_aload_n (pc := 30) dX12_candidates_30 rfl rfl ?_
        refine mr_iconst (pc := 31) (z := 4) dX12_candidates_31 ?_
        refine mr_iload_n (pc := 32) (z := z419) dX12_candidates_32 rfl rfl ?_
        refine mr_iadd (pc := 33) (x := 4) (y := z419) dX12_candidates_33 ?_
        refine mr_cVV (pc := 34) (c_X12_nothing hw T423 (rW (c := 0) (d := 2099) (rAdd (e := 4) (f := 23) (rR (x := 4)) h466 rfl) rfl)) (gOk _ _ _ _ _) dX12_candidates_34 (tX12_nothing _ _ _ _ _) ⟨wV_X12_nothing, wL_X12_nothing⟩ wM_X12_539 (gCX12 _ _ _ _ _) rfl (A_106 hw) rfl ⟨le_t rfl, le_t rfl⟩ ⟨le_t rfl, le_t rfl⟩ rfl (le_t rfl) fun μ502 T503 F504 h505 => ?_
        obtain ⟨z506, q507, h508⟩ := h505
        have h509 := rt7 T503 (A_126 hw) (vc_X12_candidates_7 h465 h466 h467) q507
        have h510 : (-1) ≤ z506 ∧ z506 ≤ 9 := h509.2.1 (vc_X12_candidates_8 h465 h466 h467)
        have q511 : μ502 126 ((40 * (4 + z419)).toNat) = (-1) := q507.trans h508.2.1
        have h512 : (-1) ≤ z506 ∧ z506 ≤ (-1) := (vc_X12_candidates_9 h508.2.1 h510)
        refine mr_iinc (pc := 37) (lv' := [(3, iv (z419 + 1)), (0, .ref 106), (1, iv p1), (2, iv p2)]) dX12_candidates_37 rfl (by decide) rfl ?_
        refine sv_goto (pc := 40) (tgt := 2) dX12_candidates_40 (by decide) ?_
        refine mr_lvS (lv' := [(0, .ref 106), (1, iv p1), (2, iv p2), (3, iv (z419 + 1))]) (List.forall_mem_cons.mpr ⟨rfl, List.forall_mem_cons.mpr ⟨rfl, List.forall_mem_cons.mpr ⟨rfl, List.forall_mem_cons.mpr ⟨rfl, fun _ h => absurd h List.not_mem_nil⟩⟩⟩⟩) ?_
        exact ih428 (z419 + 1) μ502 T503 (mF.call (mF.call mF.refl F424 rfl) F504 rfl) (mG.call (mG.call mG.refl G425 (List.forall_mem_cons.mpr ⟨⟨_, List.mem_cons_self, vc_X12_candidates_2⟩, (fun _ h => absurd h List.not_mem_nil)⟩)) h508.1 (List.forall_mem_cons.mpr ⟨⟨_, List.mem_cons_self, (vc_X12_candidates_11 h465 h466 h467)⟩, (fun _ h => absurd h List.not_mem_nil)⟩)) (rW (c := 0) (d := 20) (rAdd (e := 1) (f := 20) h466 (rR (x := 1)) rfl) rfl) (PK.keep I426 hw ((mF.call mF.refl F504 rfl) : mF [126999] w μ420 μ502) rfl) (vc_X12_candidates_10 (nS h427) h465 h466 h467)
      have h513 : 1 ≤ z478 ∧ z478 ≤ 1 := (vc_X12_candidates_12 h499 h477.2.1 h477.2.2.1 hp1 h470 h473 h477.1)
      have h514 : z468 = p1 ∨ z471 = p1 := (h477.2.1 (vc_X12_candidates_13 h477.2.1 h477.2.2.1 h499 hp1 h470 h473 h513))
      refine sv_aload_n (pc := 19) dX12_candidates_19 rfl rfl ?_
      refine mr_iload_n (pc := 20) (z := p1) dX12_candidates_20 rfl rfl ?_
      refine mr_iload_n (pc := 21) (z := z419) dX12_candidates_21 rfl rfl ?_
      refine mr_iload_n (pc := 22) (z := p2) dX12_candidates_22 rfl rfl ?_
      refine mr_cVI (pc := 23) (c_X12_candidate hw T423 hp1 h466 hp2 q469 q472 q430 (vc_X12_candidates_14 h465 h466 h467) (vc_X12_candidates_15 h477.2.1 h477.2.2.1 h514 h499 hp1 h470 h473 h513) I426) (gOk _ _ _ _ _) dX12_candidates_23 (tX12_candidate _ _ _ _ _) ⟨wV_X12_candidate, wL_X12_candidate⟩ wM_X12_565 (gCX12 _ _ _ _ _) rfl (A_106 hw) rfl ⟨le_t rfl, le_t rfl⟩ ⟨le_t rfl, le_t rfl⟩ rfl (le_t rfl) fun z519 μ515 T516 F517 h518 => ?_
      refine sv_pop (pc := 26) dX12_candidates_26 rfl ?_
      refine sv_goto (pc := 27) (tgt := 37) dX12_candidates_27 (by decide) ?_
      refine mr_iinc (pc := 37) (lv' := [(3, iv (z419 + 1)), (0, .ref 106), (1, iv p1), (2, iv p2)]) dX12_candidates_37 rfl (by decide) rfl ?_
      refine sv_goto (pc := 40) (tgt := 2) dX12_candidates_40 (by decide) ?_
      refine mr_lvS (lv' := [(0, .ref 106), (1, iv p1), (2, iv p2), (3, iv (z419 + 1))]) (List.forall_mem_cons.mpr ⟨rfl, List.forall_mem_cons.mpr ⟨rfl, List.forall_mem_cons.mpr ⟨rfl, List.forall_mem_cons.mpr ⟨rfl, fun _ h => absurd h List.not_mem_nil⟩⟩⟩⟩) ?_
      exact ih428 (z419 + 1) μ515 T516 (mF.call (mF.call mF.refl F424 rfl) F517 rfl) (mG.call (mG.call mG.refl G425 (List.forall_mem_cons.mpr ⟨⟨_, List.mem_cons_self, vc_X12_candidates_2⟩, (fun _ h => absurd h List.not_mem_nil)⟩)) h518.2.1 (List.forall_mem_cons.mpr ⟨⟨_, List.mem_cons_self, (vc_X12_candidates_16 h465 h466 h467)⟩, (fun _ h => absurd h List.not_mem_nil)⟩)) (rW (c := 0) (d := 20) (rAdd (e := 1) (f := 20) h466 (rR (x := 1)) rfl) rfl) (PK.keep I426 hw ((mF.call mF.refl F517 rfl) : mF [106026, 106027, 106028, 106029, 106030, 106031, 126999, 151999, 152999, 153999] w μ420 μ515) rfl) (vc_X12_candidates_10 (nS h427) h465 h466 h467)
  refine mr_lvS (lv' := [(0, .ref 106), (1, iv p1), (2, iv p2), (3, iv 0)]) (List.forall_mem_cons.mpr ⟨rfl, List.forall_mem_cons.mpr ⟨rfl, List.forall_mem_cons.mpr ⟨rfl, List.forall_mem_cons.mpr ⟨rfl, fun _ h => absurd h List.not_mem_nil⟩⟩⟩⟩) ?_
  exact L421 22 0 μ hT mF.refl mG.refl (rW (c := 0) (d := 20) (rR (x := 0)) rfl) hIPK vc_X12_candidates_17
theorem vc_X12_say_1 {f_ties p2 : Int} (h0 : p2 < f_ties) (h1 : 0 ≤ f_ties ∧ f_ties ≤ 20) (h2 : 0 ≤ p2 ∧ p2 ≤ 19) : 1 ≤ f_ties ∧ f_ties ≤ 20 := by omega
theorem vc_X12_say_2 {f_e0 f_ties p1 p2 p3 z741 z746 : Int} (h0 : z746 = (((20 * p2) + (10 * z741)) + p3)) (h1 : p2 < f_ties) (h2 : (z741 = 0 → f_e0 = p1)) (h3 : (z741 = 1 → ¬ f_e0 = p1)) (h4 : 0 ≤ f_e0 ∧ f_e0 ≤ 9) (h5 : 1 ≤ f_ties ∧ f_ties ≤ 20) (h6 : 0 ≤ p1 ∧ p1 ≤ 9) (h7 : 0 ≤ p2 ∧ p2 ≤ 19) (h8 : 0 ≤ p3 ∧ p3 ≤ 9) (h9 : 0 ≤ z741 ∧ z741 ≤ 1) (h10 : 0 ≤ z746 ∧ z746 ≤ 449) : 0 ≤ z746 ∧ z746 ≤ 399 := by omega
theorem vc_X12_say_3  : (0 : Int) ≤ ((40 : Int) * (2 : Int)) := by omega
theorem vc_X12_say_4  : (((40 : Int) * (2 : Int)) : Int) % (40 : Int) = (0 : Int) := by omega
theorem vc_X12_say_5 {z752 : Int} (h0 : z752 = -1) (h1 : (-1) ≤ z752 ∧ z752 ≤ 9) : (-1) ≤ z752 ∧ z752 ≤ (-1) := by omega
theorem vc_X12_say_6 {z759 : Int} (h0 : z759 = -99999999 ∨ z759 = -4 ∨ (0 ≤ z759 ∧ z759 ≤ 19)) : -99999999 ≤ z759 ∧ z759 ≤ 19 := by omega
theorem vc_X12_say_7 {f_e0 f_e1 f_ties p1 p2 p3 z741 z746 : Int} (h0 : f_e0 = p1 ∨ f_e1 = p1) (h1 : (z741 = 0 → f_e0 = p1)) (h2 : (z741 = 1 → ¬ f_e0 = p1)) (h3 : z746 = (((20 * p2) + (10 * z741)) + p3)) (h4 : p2 < f_ties) (h5 : 0 ≤ f_e0 ∧ f_e0 ≤ 9) (h6 : 0 ≤ f_e1 ∧ f_e1 ≤ 9) (h7 : 1 ≤ f_ties ∧ f_ties ≤ 20) (h8 : 0 ≤ p1 ∧ p1 ≤ 9) (h9 : 0 ≤ p2 ∧ p2 ≤ 19) (h10 : 0 ≤ p3 ∧ p3 ≤ 9) (h11 : 0 ≤ z741 ∧ z741 ≤ 1) (h12 : 0 ≤ z746 ∧ z746 ≤ 399) : 0 ≤ (40 * (30 + ((10 * p1) + p3))) := by omega
theorem vc_X12_say_8 {f_e0 f_e1 f_ties p1 p2 p3 z741 z746 : Int} (h0 : f_e0 = p1 ∨ f_e1 = p1) (h1 : (z741 = 0 → f_e0 = p1)) (h2 : (z741 = 1 → ¬ f_e0 = p1)) (h3 : z746 = (((20 * p2) + (10 * z741)) + p3)) (h4 : p2 < f_ties) (h5 : 0 ≤ f_e0 ∧ f_e0 ≤ 9) (h6 : 0 ≤ f_e1 ∧ f_e1 ≤ 9) (h7 : 1 ≤ f_ties ∧ f_ties ≤ 20) (h8 : 0 ≤ p1 ∧ p1 ≤ 9) (h9 : 0 ≤ p2 ∧ p2 ≤ 19) (h10 : 0 ≤ p3 ∧ p3 ≤ 9) (h11 : 0 ≤ z741 ∧ z741 ≤ 1) (h12 : 0 ≤ z746 ∧ z746 ≤ 399) : (40 * (30 + ((10 * p1) + p3))) % 40 = 0 := by omega
theorem vc_X12_say_9  : ((40 : Int) * (2 : Int)) ≤ ((40 : Int) * (2 : Int)) ∧ (((40 : Int) * (2 : Int)) + (1 : Int)) ≤ (((40 : Int) * (2 : Int)) + (1 : Int)) := by omega
theorem vc_X12_say_10  : ((1 : Int) ≤ (((40 : Int) * (2 : Int)) : Int) ∧ ((((40 : Int) * (2 : Int)) + (1 : Int)) : Int) ≤ (1200 : Int)) ∨ (5200 : Int) ≤ (((40 : Int) * (2 : Int)) : Int) := by omega
theorem vc_X12_say_11 {f_e0 f_e1 f_ties p1 p2 p3 z741 z746 : Int} (h0 : f_e0 = p1 ∨ f_e1 = p1) (h1 : (z741 = 0 → f_e0 = p1)) (h2 : (z741 = 1 → ¬ f_e0 = p1)) (h3 : z746 = (((20 * p2) + (10 * z741)) + p3)) (h4 : p2 < f_ties) (h5 : 0 ≤ f_e0 ∧ f_e0 ≤ 9) (h6 : 0 ≤ f_e1 ∧ f_e1 ≤ 9) (h7 : 1 ≤ f_ties ∧ f_ties ≤ 20) (h8 : 0 ≤ p1 ∧ p1 ≤ 9) (h9 : 0 ≤ p2 ∧ p2 ≤ 19) (h10 : 0 ≤ p3 ∧ p3 ≤ 9) (h11 : 0 ≤ z741 ∧ z741 ≤ 1) (h12 : 0 ≤ z746 ∧ z746 ≤ 399) : (40 * (30 + ((10 * p1) + p3))) = 1200 + 40 * ((10 * p1) + p3) := by omega
theorem vc_X12_say_12 {z851 : Int} (h0 : z851 = 0) (h1 : 0 ≤ z851 ∧ z851 ≤ 1) : 0 ≤ z851 ∧ z851 ≤ 0 := by omega
theorem vc_X12_say_13 {z854 : Int} (h0 : z854 = 0) (h1 : 0 ≤ z854 ∧ z854 ≤ 1) : 0 ≤ z854 ∧ z854 ≤ 0 := by omega
theorem vc_X12_say_14 {f_e0 f_ties p1 p2 p3 z741 z746 : Int} (h0 : z746 = (((20 * p2) + (10 * z741)) + p3)) (h1 : p2 < f_ties) (h2 : (z741 = 0 → f_e0 = p1)) (h3 : (z741 = 1 → ¬ f_e0 = p1)) (h4 : 0 ≤ f_e0 ∧ f_e0 ≤ 9) (h5 : 1 ≤ f_ties ∧ f_ties ≤ 20) (h6 : 0 ≤ p1 ∧ p1 ≤ 9) (h7 : 0 ≤ p2 ∧ p2 ≤ 19) (h8 : 0 ≤ p3 ∧ p3 ≤ 9) (h9 : 0 ≤ z741 ∧ z741 ≤ 1) (h10 : 0 ≤ z746 ∧ z746 ≤ 399) : (2 : Int) < (530 + z746) ∨ (530 + z746) < (2 : Int) := by omega
theorem vc_X12_say_15 {f_e0 f_ties p1 p2 p3 z741 z746 : Int} (h0 : z746 = (((20 * p2) + (10 * z741)) + p3)) (h1 : p2 < f_ties) (h2 : (z741 = 0 → f_e0 = p1)) (h3 : (z741 = 1 → ¬ f_e0 = p1)) (h4 : 0 ≤ f_e0 ∧ f_e0 ≤ 9) (h5 : 1 ≤ f_ties ∧ f_ties ≤ 20) (h6 : 0 ≤ p1 ∧ p1 ≤ 9) (h7 : 0 ≤ p2 ∧ p2 ≤ 19) (h8 : 0 ≤ p3 ∧ p3 ≤ 9) (h9 : 0 ≤ z741 ∧ z741 ≤ 1) (h10 : 0 ≤ z746 ∧ z746 ≤ 399) : 0 ≤ (40 * (530 + z746)) := by omega
theorem vc_X12_say_16 {f_e0 f_ties p1 p2 p3 z741 z746 : Int} (h0 : z746 = (((20 * p2) + (10 * z741)) + p3)) (h1 : p2 < f_ties) (h2 : (z741 = 0 → f_e0 = p1)) (h3 : (z741 = 1 → ¬ f_e0 = p1)) (h4 : 0 ≤ f_e0 ∧ f_e0 ≤ 9) (h5 : 1 ≤ f_ties ∧ f_ties ≤ 20) (h6 : 0 ≤ p1 ∧ p1 ≤ 9) (h7 : 0 ≤ p2 ∧ p2 ≤ 19) (h8 : 0 ≤ p3 ∧ p3 ≤ 9) (h9 : 0 ≤ z741 ∧ z741 ≤ 1) (h10 : 0 ≤ z746 ∧ z746 ≤ 399) : (40 * (530 + z746)) % 40 = 0 := by omega
theorem vc_X12_say_17 {f_e0 f_ties p1 p2 p3 z741 z746 : Int} (h0 : z746 = (((20 * p2) + (10 * z741)) + p3)) (h1 : p2 < f_ties) (h2 : (z741 = 0 → f_e0 = p1)) (h3 : (z741 = 1 → ¬ f_e0 = p1)) (h4 : 0 ≤ f_e0 ∧ f_e0 ≤ 9) (h5 : 1 ≤ f_ties ∧ f_ties ≤ 20) (h6 : 0 ≤ p1 ∧ p1 ≤ 9) (h7 : 0 ≤ p2 ∧ p2 ≤ 19) (h8 : 0 ≤ p3 ∧ p3 ≤ 9) (h9 : 0 ≤ z741 ∧ z741 ≤ 1) (h10 : 0 ≤ z746 ∧ z746 ≤ 399) : (40 * 2) < (40 * (530 + z746)) ∨ ((40 * (530 + z746)) + 40) ≤ (40 * 2) := by omega
theorem vc_X12_say_18 {f_e0 f_ties p1 p2 p3 z741 z746 : Int} (h0 : z746 = (((20 * p2) + (10 * z741)) + p3)) (h1 : p2 < f_ties) (h2 : (z741 = 0 → f_e0 = p1)) (h3 : (z741 = 1 → ¬ f_e0 = p1)) (h4 : 0 ≤ f_e0 ∧ f_e0 ≤ 9) (h5 : 1 ≤ f_ties ∧ f_ties ≤ 20) (h6 : 0 ≤ p1 ∧ p1 ≤ 9) (h7 : 0 ≤ p2 ∧ p2 ≤ 19) (h8 : 0 ≤ p3 ∧ p3 ≤ 9) (h9 : 0 ≤ z741 ∧ z741 ≤ 1) (h10 : 0 ≤ z746 ∧ z746 ≤ 399) : (2 : Int) < (930 + z746) ∨ (930 + z746) < (2 : Int) := by omega
theorem vc_X12_say_19 {f_e0 f_ties p1 p2 p3 z741 z746 : Int} (h0 : z746 = (((20 * p2) + (10 * z741)) + p3)) (h1 : p2 < f_ties) (h2 : (z741 = 0 → f_e0 = p1)) (h3 : (z741 = 1 → ¬ f_e0 = p1)) (h4 : 0 ≤ f_e0 ∧ f_e0 ≤ 9) (h5 : 1 ≤ f_ties ∧ f_ties ≤ 20) (h6 : 0 ≤ p1 ∧ p1 ≤ 9) (h7 : 0 ≤ p2 ∧ p2 ≤ 19) (h8 : 0 ≤ p3 ∧ p3 ≤ 9) (h9 : 0 ≤ z741 ∧ z741 ≤ 1) (h10 : 0 ≤ z746 ∧ z746 ≤ 399) : 0 ≤ (40 * (930 + z746)) := by omega
theorem vc_X12_say_20 {f_e0 f_ties p1 p2 p3 z741 z746 : Int} (h0 : z746 = (((20 * p2) + (10 * z741)) + p3)) (h1 : p2 < f_ties) (h2 : (z741 = 0 → f_e0 = p1)) (h3 : (z741 = 1 → ¬ f_e0 = p1)) (h4 : 0 ≤ f_e0 ∧ f_e0 ≤ 9) (h5 : 1 ≤ f_ties ∧ f_ties ≤ 20) (h6 : 0 ≤ p1 ∧ p1 ≤ 9) (h7 : 0 ≤ p2 ∧ p2 ≤ 19) (h8 : 0 ≤ p3 ∧ p3 ≤ 9) (h9 : 0 ≤ z741 ∧ z741 ≤ 1) (h10 : 0 ≤ z746 ∧ z746 ≤ 399) : (40 * (930 + z746)) % 40 = 0 := by omega
theorem vc_X12_say_21  : (80 : Int) ≤ ((40 : Int) * (2 : Int)) ∧ (((40 : Int) * (2 : Int)) + (1 : Int)) ≤ (120 : Int) := by omega
theorem vc_X12_say_22  : (80 : Int) ≤ (80 : Int) ∧ (120 : Int) ≤ (120 : Int) := by omega
theorem vc_X12_say_23  : (21200 : Int) ≤ (21200 : Int) ∧ (53200 : Int) ≤ (53200 : Int) := by omega
theorem vc_X12_say_24 {f_e0 f_ties p1 p2 p3 z741 z746 : Int} (h0 : z746 = (((20 * p2) + (10 * z741)) + p3)) (h1 : p2 < f_ties) (h2 : (z741 = 0 → f_e0 = p1)) (h3 : (z741 = 1 → ¬ f_e0 = p1)) (h4 : 0 ≤ f_e0 ∧ f_e0 ≤ 9) (h5 : 1 ≤ f_ties ∧ f_ties ≤ 20) (h6 : 0 ≤ p1 ∧ p1 ≤ 9) (h7 : 0 ≤ p2 ∧ p2 ≤ 19) (h8 : 0 ≤ p3 ∧ p3 ≤ 9) (h9 : 0 ≤ z741 ∧ z741 ≤ 1) (h10 : 0 ≤ z746 ∧ z746 ≤ 399) : 21200 ≤ (40 * (530 + z746)) ∧ ((40 * (530 + z746)) + 40) ≤ 53200 := by omega
theorem vc_X12_say_25 {f_e0 f_ties p1 p2 p3 z741 z746 : Int} (h0 : z746 = (((20 * p2) + (10 * z741)) + p3)) (h1 : p2 < f_ties) (h2 : (z741 = 0 → f_e0 = p1)) (h3 : (z741 = 1 → ¬ f_e0 = p1)) (h4 : 0 ≤ f_e0 ∧ f_e0 ≤ 9) (h5 : 1 ≤ f_ties ∧ f_ties ≤ 20) (h6 : 0 ≤ p1 ∧ p1 ≤ 9) (h7 : 0 ≤ p2 ∧ p2 ≤ 19) (h8 : 0 ≤ p3 ∧ p3 ≤ 9) (h9 : 0 ≤ z741 ∧ z741 ≤ 1) (h10 : 0 ≤ z746 ∧ z746 ≤ 399) : 21200 ≤ (40 * (930 + z746)) ∧ ((40 * (930 + z746)) + 40) ≤ 53200 := by omega
theorem vc_X12_say_26 {f_e0 f_ties p1 p2 p3 z741 z746 : Int} (h0 : z746 = (((20 * p2) + (10 * z741)) + p3)) (h1 : p2 < f_ties) (h2 : (z741 = 0 → f_e0 = p1)) (h3 : (z741 = 1 → ¬ f_e0 = p1)) (h4 : 0 ≤ f_e0 ∧ f_e0 ≤ 9) (h5 : 1 ≤ f_ties ∧ f_ties ≤ 20) (h6 : 0 ≤ p1 ∧ p1 ≤ 9) (h7 : 0 ≤ p2 ∧ p2 ≤ 19) (h8 : 0 ≤ p3 ∧ p3 ≤ 9) (h9 : 0 ≤ z741 ∧ z741 ≤ 1) (h10 : 0 ≤ z746 ∧ z746 ≤ 399) : (40 * (530 + z746)) ≤ (40 * (530 + z746)) ∧ ((40 * (530 + z746)) + 40) ≤ ((40 * (530 + z746)) + 40) := by omega
theorem vc_X12_say_27 {f_e0 f_ties p1 p2 p3 z741 z746 : Int} (h0 : z746 = (((20 * p2) + (10 * z741)) + p3)) (h1 : p2 < f_ties) (h2 : (z741 = 0 → f_e0 = p1)) (h3 : (z741 = 1 → ¬ f_e0 = p1)) (h4 : 0 ≤ f_e0 ∧ f_e0 ≤ 9) (h5 : 1 ≤ f_ties ∧ f_ties ≤ 20) (h6 : 0 ≤ p1 ∧ p1 ≤ 9) (h7 : 0 ≤ p2 ∧ p2 ≤ 19) (h8 : 0 ≤ p3 ∧ p3 ≤ 9) (h9 : 0 ≤ z741 ∧ z741 ≤ 1) (h10 : 0 ≤ z746 ∧ z746 ≤ 399) : (40 * (930 + z746)) ≤ (40 * (930 + z746)) ∧ ((40 * (930 + z746)) + 40) ≤ ((40 * (930 + z746)) + 40) := by omega
theorem vc_X12_say_28 {f_e0 f_ties p1 p2 p3 z741 z746 : Int} (h0 : z746 = (((20 * p2) + (10 * z741)) + p3)) (h1 : p2 < f_ties) (h2 : (z741 = 0 → f_e0 = p1)) (h3 : (z741 = 1 → ¬ f_e0 = p1)) (h4 : 0 ≤ f_e0 ∧ f_e0 ≤ 9) (h5 : 1 ≤ f_ties ∧ f_ties ≤ 20) (h6 : 0 ≤ p1 ∧ p1 ≤ 9) (h7 : 0 ≤ p2 ∧ p2 ≤ 19) (h8 : 0 ≤ p3 ∧ p3 ≤ 9) (h9 : 0 ≤ z741 ∧ z741 ≤ 1) (h10 : 0 ≤ z746 ∧ z746 ≤ 399) : (1 ≤ (40 * (930 + z746)) ∧ ((40 * (930 + z746)) + 40) ≤ 1200) ∨ 5200 ≤ (40 * (930 + z746)) := by omega
theorem vc_X12_say_29 {f_e0 f_ties p1 p2 p3 z741 z746 : Int} (h0 : z746 = (((20 * p2) + (10 * z741)) + p3)) (h1 : p2 < f_ties) (h2 : (z741 = 0 → f_e0 = p1)) (h3 : (z741 = 1 → ¬ f_e0 = p1)) (h4 : 0 ≤ f_e0 ∧ f_e0 ≤ 9) (h5 : 1 ≤ f_ties ∧ f_ties ≤ 20) (h6 : 0 ≤ p1 ∧ p1 ≤ 9) (h7 : 0 ≤ p2 ∧ p2 ≤ 19) (h8 : 0 ≤ p3 ∧ p3 ≤ 9) (h9 : 0 ≤ z741 ∧ z741 ≤ 1) (h10 : 0 ≤ z746 ∧ z746 ≤ 399) : (1 ≤ (40 * (530 + z746)) ∧ ((40 * (530 + z746)) + 40) ≤ 1200) ∨ 5200 ≤ (40 * (530 + z746)) := by omega
theorem vc_X12_say_30 {z854 : Int} (h0 : ¬ z854 = 0) (h1 : 0 ≤ z854 ∧ z854 ≤ 1) : 1 ≤ z854 ∧ z854 ≤ 1 := by omega
theorem vc_X12_say_31 {z967 : Int} (h0 : 0 ≤ z967) (h1 : (-1) ≤ z967 ∧ z967 ≤ 2000001000) : 0 ≤ z967 ∧ z967 ≤ 2000001000 := by omega
theorem vc_X12_say_32 {z967 : Int} (h0 : z967 < 0) (h1 : (-1) ≤ z967 ∧ z967 ≤ 2000001000) : (-1) ≤ z967 ∧ z967 ≤ (-1) := by omega
theorem vc_X12_say_33 {z851 : Int} (h0 : ¬ z851 = 0) (h1 : 0 ≤ z851 ∧ z851 ≤ 1) : 1 ≤ z851 ∧ z851 ≤ 1 := by omega
theorem vc_X12_say_34 {z759 z763 : Int} (h0 : z759 = (-99999999)) (h1 : z759 = -99999999 ∨ 0 ≤ z763) (h2 : (-99999999) ≤ z759 ∧ z759 ≤ 19) (h3 : z759 = -99999999 ∨ z759 = -4 ∨ (0 ≤ z759 ∧ z759 ≤ 19)) (h4 : (-1) ≤ z763 ∧ z763 ≤ 9) : (-99999999) ≤ z759 ∧ z759 ≤ (-99999999) := by omega
theorem vc_X12_say_35 {z759 z763 : Int} (h0 : ¬ z759 = (-99999999)) (h1 : z759 = -99999999 ∨ 0 ≤ z763) (h2 : (-99999999) ≤ z759 ∧ z759 ≤ 19) (h3 : z759 = -99999999 ∨ z759 = -4 ∨ (0 ≤ z759 ∧ z759 ≤ 19)) (h4 : (-1) ≤ z763 ∧ z763 ≤ 9) : (-4) ≤ z759 ∧ z759 ≤ 19 := by omega
theorem vc_X12_say_36 {f_ties p2 p3 z741 z746 z759 z763 : Int} (h0 : z759 = p2) (h1 : p2 < f_ties) (h2 : z746 = (((20 * p2) + (10 * z741)) + p3)) (h3 : z759 = -99999999 ∨ 0 ≤ z763) (h4 : ¬ z759 = (-99999999)) (h5 : 1 ≤ f_ties ∧ f_ties ≤ 20) (h6 : 0 ≤ p2 ∧ p2 ≤ 19) (h7 : 0 ≤ p3 ∧ p3 ≤ 9) (h8 : 0 ≤ z741 ∧ z741 ≤ 1) (h9 : 0 ≤ z746 ∧ z746 ≤ 399) (h10 : (-4) ≤ z759 ∧ z759 ≤ 19) (h11 : z759 = -99999999 ∨ z759 = -4 ∨ (0 ≤ z759 ∧ z759 ≤ 19)) (h12 : (-1) ≤ z763 ∧ z763 ≤ 9) : 0 ≤ z759 ∧ z759 ≤ 19 := by omega
theorem vc_X12_say_37 {f_e0 f_e1 f_ties p1 p2 p3 z741 z746 z759 : Int} (h0 : f_e0 = p1 ∨ f_e1 = p1) (h1 : (z741 = 0 → f_e0 = p1)) (h2 : (z741 = 1 → ¬ f_e0 = p1)) (h3 : z746 = (((20 * p2) + (10 * z741)) + p3)) (h4 : p2 < f_ties) (h5 : ¬ z759 = p2) (h6 : 0 ≤ f_e0 ∧ f_e0 ≤ 9) (h7 : 0 ≤ f_e1 ∧ f_e1 ≤ 9) (h8 : 1 ≤ f_ties ∧ f_ties ≤ 20) (h9 : 0 ≤ p1 ∧ p1 ≤ 9) (h10 : 0 ≤ p2 ∧ p2 ≤ 19) (h11 : 0 ≤ p3 ∧ p3 ≤ 9) (h12 : 0 ≤ z741 ∧ z741 ≤ 1) (h13 : 0 ≤ z746 ∧ z746 ≤ 399) (h14 : (-4) ≤ z759 ∧ z759 ≤ 19) (h15 : z759 = -99999999 ∨ z759 = -4 ∨ (0 ≤ z759 ∧ z759 ≤ 19)) : (30 + ((10 * p1) + p3)) < (2 : Int) ∨ (2 : Int) < (30 + ((10 * p1) + p3)) := by omega
theorem vc_X12_say_38  : (-(2147483648 : Int) ≤ ((100 : Int) : Int) ∧ ((100 : Int) : Int) ≤ (2147483647 : Int)) ∧ (((81 : Int) : Int) % (40 : Int) = (0 : Int) → -(1 : Int) ≤ ((100 : Int) : Int) ∧ ((100 : Int) : Int) ≤ (9 : Int)) ∧ (((81 : Int) : Int) % (40 : Int) = (4 : Int) → (0 : Int) ≤ ((100 : Int) : Int) ∧ ((100 : Int) : Int) ≤ (20 : Int)) ∧ (((81 : Int) : Int) % (40 : Int) = (5 : Int) → (0 : Int) ≤ ((100 : Int) : Int) ∧ ((100 : Int) : Int) ≤ (8 : Int)) := by omega
theorem vc_X12_say_39 {z1054 : Int} (h0 : ¬ z1054 = 0) (h1 : 0 ≤ z1054 ∧ z1054 ≤ 1) : 1 ≤ z1054 ∧ z1054 ≤ 1 := by omega
theorem vc_X12_say_40  : (80 : Int) ≤ ((40 : Int) * (2 : Int)) ∧ (((40 : Int) * (2 : Int)) + (40 : Int)) ≤ (120 : Int) := by omega
theorem vc_X12_say_41  : (0 : Int) ≤ (81 : Int) ∧ (80 : Int) ≤ (81 : Int) ∧ (81 : Int) < (120 : Int) := by omega
theorem vc_X12_say_42  : (80 : Int) ≤ (((40 : Int) * (2 : Int)) + (1 : Int)) ∧ (((40 : Int) * (2 : Int)) + (40 : Int)) ≤ (120 : Int) := by omega
theorem vc_X12_say_43  : (0 : Int) ≤ (81 : Int) ∧ (81 : Int) ≤ (81 : Int) ∧ (81 : Int) < ((81 : Int) + (1 : Int)) := by omega
theorem vc_X12_say_44  : ((1 : Int) ≤ ((81 : Int) : Int) ∧ (((81 : Int) + (1 : Int)) : Int) ≤ (1200 : Int)) ∨ (5200 : Int) ≤ ((81 : Int) : Int) := by omega
theorem vc_X12_say_45 {z1054 : Int} (h0 : z1054 = 0) (h1 : 0 ≤ z1054 ∧ z1054 ≤ 1) : 0 ≤ z1054 ∧ z1054 ≤ 0 := by omega
theorem vc_X12_say_46 {z1073 : Int} (h0 : z1073 = -1) (h1 : (-1) ≤ z1073 ∧ z1073 ≤ 9) : (-1) ≤ z1073 ∧ z1073 ≤ (-1) := by omega
theorem vc_X12_say_47 {z1026 : Int} (h0 : z1026 = 0) (h1 : 0 ≤ z1026 ∧ z1026 ≤ 1) : 0 ≤ z1026 ∧ z1026 ≤ 0 := by omega
theorem vc_X12_say_48  : ((40 : Int) * (2 : Int)) ≤ ((40 : Int) * (2 : Int)) ∧ (((40 : Int) * (2 : Int)) + (40 : Int)) ≤ (((40 : Int) * (2 : Int)) + (40 : Int)) := by omega
theorem vc_X12_say_49  : (0 : Int) ≤ (81 : Int) ∧ ((40 : Int) * (2 : Int)) ≤ (81 : Int) ∧ (81 : Int) < (((40 : Int) * (2 : Int)) + (40 : Int)) := by omega
theorem vc_X12_say_50  : ((40 : Int) * (2 : Int)) ≤ (((40 : Int) * (2 : Int)) + (1 : Int)) ∧ (((40 : Int) * (2 : Int)) + (40 : Int)) ≤ (((40 : Int) * (2 : Int)) + (40 : Int)) := by omega
theorem vc_X12_say_51  : ((1 : Int) ≤ ((((40 : Int) * (2 : Int)) + (1 : Int)) : Int) ∧ ((((40 : Int) * (2 : Int)) + (40 : Int)) : Int) ≤ (1200 : Int)) ∨ (5200 : Int) ≤ ((((40 : Int) * (2 : Int)) + (1 : Int)) : Int) := by omega
theorem vc_X12_say_52  : ((1 : Int) ≤ (((40 : Int) * (2 : Int)) : Int) ∧ ((((40 : Int) * (2 : Int)) + (40 : Int)) : Int) ≤ (1200 : Int)) ∨ (5200 : Int) ≤ (((40 : Int) * (2 : Int)) : Int) := by omega
theorem vc_X12_say_53 {z1026 : Int} (h0 : ¬ z1026 = 0) (h1 : 0 ≤ z1026 ∧ z1026 ≤ 1) : 1 ≤ z1026 ∧ z1026 ≤ 1 := by omega
theorem vc_X12_say_54 {z1083 : Int} (h0 : z1083 = -99999999 ∨ (0 ≤ z1083 ∧ z1083 ≤ 11)) : -99999999 ≤ z1083 ∧ z1083 ≤ 11 := by omega
theorem vc_X12_say_55  : ((40 * 2) : Int).toNat ≠ (81 : Int).toNat := by omega
theorem vc_X12_say_56  : ((40 : Int) * (2 : Int)) < (((40 : Int) * (2 : Int)) + (1 : Int)) ∨ (((40 : Int) * (2 : Int)) + (40 : Int)) ≤ ((40 : Int) * (2 : Int)) := by omega
theorem vc_X12_say_57 {f_e0 f_ties p1 p2 p3 z741 z746 z759 z763 : Int} (h0 : p2 < f_ties) (h1 : z746 = (((20 * p2) + (10 * z741)) + p3)) (h2 : ¬ z759 = p2) (h3 : (z741 = 0 → f_e0 = p1)) (h4 : (z741 = 1 → ¬ f_e0 = p1)) (h5 : z759 = -99999999 ∨ 0 ≤ z763) (h6 : ¬ z759 = (-99999999)) (h7 : 0 ≤ f_e0 ∧ f_e0 ≤ 9) (h8 : 1 ≤ f_ties ∧ f_ties ≤ 20) (h9 : 0 ≤ p1 ∧ p1 ≤ 9) (h10 : 0 ≤ p2 ∧ p2 ≤ 19) (h11 : 0 ≤ p3 ∧ p3 ≤ 9) (h12 : 0 ≤ z741 ∧ z741 ≤ 1) (h13 : 0 ≤ z746 ∧ z746 ≤ 399) (h14 : (-4) ≤ z759 ∧ z759 ≤ 19) (h15 : z759 = -99999999 ∨ z759 = -4 ∨ (0 ≤ z759 ∧ z759 ≤ 19)) (h16 : (-1) ≤ z763 ∧ z763 ≤ 9) : p2 < f_ties := by omega
theorem vc_X12_say_58 {f_e0 f_e1 p1 p2 p3 z1095 z741 z746 : Int} (h0 : f_e0 = p1 ∨ f_e1 = p1) (h1 : (z741 = 0 → f_e0 = p1)) (h2 : (z741 = 1 → ¬ f_e0 = p1)) (h3 : (f_e0 = p1 → z1095 = f_e1) ∧ (¬ f_e0 = p1 → z1095 = f_e0)) (h4 : z746 = (((20 * p2) + (10 * z741)) + p3)) (h5 : 0 ≤ f_e0 ∧ f_e0 ≤ 9) (h6 : 0 ≤ f_e1 ∧ f_e1 ≤ 9) (h7 : 0 ≤ p1 ∧ p1 ≤ 9) (h8 : 0 ≤ p2 ∧ p2 ≤ 19) (h9 : 0 ≤ p3 ∧ p3 ≤ 9) (h10 : 0 ≤ z1095 ∧ z1095 ≤ 9) (h11 : 0 ≤ z741 ∧ z741 ≤ 1) (h12 : 0 ≤ z746 ∧ z746 ≤ 399) : (f_e0 = p1 ∧ f_e1 = z1095) ∨ (f_e0 = z1095 ∧ f_e1 = p1) := by omega
theorem vc_X12_say_59 {p2 z1013 z759 z763 : Int} (h0 : z759 = -99999999 ∨ 0 ≤ z763) (h1 : z1013 = z763) (h2 : ¬ z759 = (-99999999)) (h3 : ¬ z759 = p2) (h4 : 0 ≤ p2 ∧ p2 ≤ 19) (h5 : (-1) ≤ z1013 ∧ z1013 ≤ 9) (h6 : (-4) ≤ z759 ∧ z759 ≤ 19) (h7 : z759 = -99999999 ∨ z759 = -4 ∨ (0 ≤ z759 ∧ z759 ≤ 19)) (h8 : (-1) ≤ z763 ∧ z763 ≤ 9) : 0 ≤ z763 := by omega
theorem vc_X12_say_60 {z1083 z1087 : Int} (h0 : z1083 = -99999999 ∨ (0 ≤ z1083 ∧ z1083 < z1087)) (h1 : (-99999999) ≤ z1083 ∧ z1083 ≤ 11) (h2 : z1083 = -99999999 ∨ (0 ≤ z1083 ∧ z1083 ≤ 11)) (h3 : 0 ≤ z1087 ∧ z1087 ≤ 12) : z1083 = -99999999 ∨ (0 ≤ z1083 ∧ z1083 < z1087) := by omega
theorem vc_X12_say_61 {z1100 : Int} (h0 : z1100 = 0) (h1 : 0 ≤ z1100 ∧ z1100 ≤ 1) : 0 ≤ z1100 ∧ z1100 ≤ 0 := by omega
theorem vc_X12_say_62 {z1100 : Int} (h0 : ¬ z1100 = 0) (h1 : 0 ≤ z1100 ∧ z1100 ≤ 1) : 1 ≤ z1100 ∧ z1100 ≤ 1 := by omega
set_option maxRecDepth 4000 in
set_option maxHeartbeats 4000000 in
theorem c_X12_say {l : Launch} {D : va_G} {c : Nat → ClassId} {H0 : Heap} {sa : Nat × Nat × (Nat → Int32)} {w : mW} {μ : mM} (hw : mWF w) (hT : mT w μ) {p1 : Int} (hp1 : 0 ≤ p1 ∧ p1 ≤ 9) {p2 : Int} (hp2 : 0 ≤ p2 ∧ p2 ≤ 19) {p3 : Int} (hp3 : 0 ≤ p3 ∧ p3 ≤ 9) {f_e0 : Int} (q_f_e0 : μ 110 ((2 * p2).toNat) = f_e0) {f_e1 : Int} (q_f_e1 : μ 110 (((2 * p2) + 1).toNat) = f_e1) {f_ties : Int} (q_f_ties : μ 106 6 = f_ties) (hq0 : p2 < f_ties) (hq1 : f_e0 = p1 ∨ f_e1 = p1) (hIG1 : G1 μ) (hIPK : PK μ) : sC (gG l D c H0 sa) mX12_say 9 0 0 [.ref 106, iv p1, iv p2, iv p3] (mk w μ) (qV w [106026, 106027, 106028, 106029, 106030, 106031, 106072, 126999, 151999, 152999, 153999, 155999, 156999, 157999, 158999, 159999, 160999] μ (fun μ1 => mG [(80, 120), (21200, 53200)] μ μ1 ∧ G1 μ1 ∧ True)) := by
  refine sC.of rfl (by decide) (le_t rfl) ?_
  have ht_f_e0 : (0 ≤ f_e0 ∧ f_e0 ≤ 9) := by rw [← q_f_e0]; exact hT 110 110 (A_110 hw) ((2 * p2).toNat)
  have ht_f_e1 : (0 ≤ f_e1 ∧ f_e1 ≤ 9) := by rw [← q_f_e1]; exact hT 110 110 (A_110 hw) (((2 * p2) + 1).toNat)
  have ht_f_ties : (0 ≤ f_ties ∧ f_ties ≤ 20) := by rw [← q_f_ties]; exact hT 106 106 (A_106 hw) 6
  have h1 : 1 ≤ f_ties ∧ f_ties ≤ 20 := (vc_X12_say_1 hq0 ht_f_ties hp2)
  refine mr_lvE (lv' := [(0, .ref 106), (1, iv p1), (2, iv p2), (3, iv p3)]) rfl ?_
  refine sv_aload_n (pc := 0) dX12_say_0 rfl rfl ?_
  refine mr_iload_n (pc := 1) (z := p2) dX12_say_1 rfl rfl ?_
  refine mr_iload_n (pc := 2) (z := p1) dX12_say_2 rfl rfl ?_
  refine mr_cVP (pc := 3) (c_X12_sideOf hw hT hp2 (rW (c := (-2147483648)) (d := 2147483647) hp1 rfl) q_f_e0) (gOk _ _ _ _ _) dX12_say_3 (tX12_sideOf _ _ _ _ _) ⟨wV_X12_sideOf, wL_X12_sideOf⟩ wM_X12_542 (gCX12 _ _ _ _ _) rfl (A_106 hw) rfl ⟨le_t rfl, le_t rfl⟩ ⟨le_t rfl, le_t rfl⟩ rfl (le_t rfl) fun z741 h740 => ?_
  refine mr_istore (pc := 6) (lv' := [(4, iv z741), (0, .ref 106), (1, iv p1), (2, iv p2), (3, iv p3)]) dX12_say_6 (by decide) rfl ?_
  refine mr_iload_n (pc := 8) (z := p2) dX12_say_8 rfl rfl ?_
  refine mr_iload (pc := 9) (z := z741) dX12_say_9 rfl ?_
  refine mr_iload_n (pc := 11) (z := p3) dX12_say_11 rfl rfl ?_
  refine mr_cSP (pc := 12) (c_X12_slot hw hT (rW (c := 0) (d := 20) hp2 rfl) (rW (c := 0) (d := 2) h740.1 rfl) hp3) (gOk _ _ _ _ _) dX12_say_12 (tX12_slot _ _ _ _ _) wS_X12_slot wM_X12_545 ⟨le_t rfl, le_t rfl⟩ ⟨le_t rfl, le_t rfl⟩ rfl (le_t rfl) fun z746 h745 => ?_
  have h747 : 0 ≤ z746 ∧ z746 ≤ 399 := (vc_X12_say_2 h745.2.1 hq0 h740.2.1 h740.2.2.1 ht_f_e0 h1 hp1 hp2 hp3 h740.1 h745.1)
  refine mr_istore (pc := 15) (lv' := [(5, iv z746), (4, iv z741), (0, .ref 106), (1, iv p1), (2, iv p2), (3, iv p3)]) dX12_say_15 (by decide) rfl ?_
  refine mr_bipush (pc := 17) (z := 10) dX12_say_17 (by decide) ?_
  refine mr_iload_n (pc := 19) (z := p1) dX12_say_19 rfl rfl ?_
  refine mr_imul (pc := 20) (x := 10) (y := p1) dX12_say_20 ?_
  refine mr_iload_n (pc := 21) (z := p3) dX12_say_21 rfl rfl ?_
  refine mr_iadd (pc := 22) (x := (10 * p1)) (y := p3) dX12_say_22 ?_
  refine mr_istore (pc := 23) (lv' := [(6, iv ((10 * p1) + p3)), (5, iv z746), (4, iv z741), (0, .ref 106), (1, iv p1), (2, iv p2), (3, iv p3)]) dX12_say_23 (by decide) rfl ?_
  refine sv_aload_n (pc := 25) dX12_say_25 rfl rfl ?_
  refine mr_iconst (pc := 26) (z := 2) dX12_say_26 ?_
  refine mr_cVV (pc := 27) (c_X12_nothing hw hT (rW (c := 0) (d := 2099) (rR (x := 2)) rfl)) (gOk _ _ _ _ _) dX12_say_27 (tX12_nothing _ _ _ _ _) ⟨wV_X12_nothing, wL_X12_nothing⟩ wM_X12_539 (gCX12 _ _ _ _ _) rfl (A_106 hw) rfl ⟨le_t rfl, le_t rfl⟩ ⟨le_t rfl, le_t rfl⟩ rfl (le_t rfl) fun μ748 T749 F750 h751 => ?_
  obtain ⟨z752, q753, h754⟩ := h751
  have h755 := rt7 T749 (A_126 hw) vc_X12_say_3 q753
  have h756 : (-1) ≤ z752 ∧ z752 ≤ 9 := h755.2.1 vc_X12_say_4
  have q757 : μ748 126 (((40 * 2) : Int).toNat) = (-1) := q753.trans h754.2.1
  have h758 : (-1) ≤ z752 ∧ z752 ≤ (-1) := (vc_X12_say_5 h754.2.1 h756)
  refine sv_aload_n (pc := 30) dX12_say_30 rfl rfl ?_
  refine gf_X12_81 (pc := 31) dX12_say_31 wF_X12_445 (A_106 hw) T749 ?_
  refine mr_iload (pc := 34) (z := ((10 * p1) + p3)) dX12_say_34 rfl ?_
  refine la_161 (pc := 36) dX12_say_36 (A_161 hw) T749 (rIx (n := 100) (rAdd (e := 0) (f := 99) (rMulL (n := 10) (e := 0) (f := 90) hp1 rfl) hp3 rfl) rfl) fun z759 q760 h761 => ?_
  have h762 : (-99999999) ≤ z759 ∧ z759 ≤ 19 := (vc_X12_say_6 h761)
  obtain ⟨z763, q764⟩ : ∃ z, μ748 126 ((40 * (30 + ((10 * p1) + p3))).toNat) = z := ⟨_, rfl⟩
  have h765 := rt7 T749 (A_126 hw) (vc_X12_say_7 hq1 h740.2.1 h740.2.2.1 h745.2.1 hq0 ht_f_e0 ht_f_e1 h1 hp1 hp2 hp3 h740.1 h747) q764
  have h766 : (-1) ≤ z763 ∧ z763 ≤ 9 := h765.2.1 (vc_X12_say_8 hq1 h740.2.1 h740.2.2.1 h745.2.1 hq0 ht_f_e0 ht_f_e1 h1 hp1 hp2 hp3 h740.1 h747)
  have h767 : z759 = -99999999 ∨ 0 ≤ z763 := G1.at (G1.keep hIG1 hw ((mF.call mF.refl F750 rfl) : mF [126999] w μ μ748) rfl rfl ((mG.call mG.refl h754.1 (List.forall_mem_cons.mpr ⟨⟨_, List.mem_cons_self, vc_X12_say_9⟩, (fun _ h => absurd h List.not_mem_nil)⟩)) : mG [((40 * 2), ((40 * 2) + 1))] μ μ748) (List.forall_mem_cons.mpr ⟨vc_X12_say_10, (fun _ h => absurd h List.not_mem_nil)⟩)) (rAdd (e := 0) (f := 99) (rMulL (n := 10) (e := 0) (f := 90) hp1 rfl) hp3 rfl) q760 (vc_X12_say_11 hq1 h740.2.1 h740.2.2.1 h745.2.1 hq0 ht_f_e0 ht_f_e1 h1 hp1 hp2 hp3 h740.1 h747) q764
  refine mr_ldc (pc := 37) (z := (-99999999)) dX12_say_37 wG_X12_29 (by decide) ?_
  have J846 : ∀ (μ840 : mM), (mT w μ840) → (mF [106026, 106027, 106028, 106029, 106030, 106031, 126999, 151999, 152999, 153999] w μ748 μ840) → (mG [(80, 120), (21200, 53200)] μ748 μ840) → (G1 μ840) → (PK μ840) → sV (gG l D c H0 sa) mX12_say (sRm 9 0 0) (sZ (gG l D c H0 sa) 0 0 (qV w [106026, 106027, 106028, 106029, 106030, 106031, 106072, 126999, 151999, 152999, 153999, 155999, 156999, 157999, 158999, 159999, 160999] μ (fun μ1 => mG [(80, 120), (21200, 53200)] μ μ1 ∧ G1 μ1 ∧ True))) 137 [(0, .ref 106), (2, iv p2), (5, iv z746)] [] (mk w μ840) 0 0 := by
    intro μ840 T841 F842 G843 I844 I845
    refine sv_aload_n (pc := 137) dX12_say_137 rfl rfl ?_
    refine mr_iconst (pc := 138) (z := 2) dX12_say_138 ?_
    refine mr_sipush (pc := 139) (z := 530) dX12_say_139 (by decide) ?_
    refine mr_iload (pc := 142) (z := z746) dX12_say_142 rfl ?_
    refine mr_iadd (pc := 144) (x := 530) (y := z746) dX12_say_144 ?_
    refine mr_cVP (pc := 145) (c_X12_same hw T841 (rW (c := 0) (d := 2099) (rR (x := 2)) rfl) (rW (c := 0) (d := 2099) (rAdd (e := 530) (f := 929) (rR (x := 530)) h747 rfl) rfl)) (gOk _ _ _ _ _) dX12_say_145 (tX12_same _ _ _ _ _) ⟨wV_X12_same, wL_X12_same⟩ wM_X12_584 (gCX12 _ _ _ _ _) rfl (A_106 hw) rfl ⟨le_t rfl, le_t rfl⟩ ⟨le_t rfl, le_t rfl⟩ rfl (le_t rfl) fun z851 h850 => ?_
    refine mr_if_eq (pc := 148) (tgt := 152) dX12_say_148 (by decide) (r32 h850.1 rfl) (fun h852 => ?_) (fun h852 => ?_)
    · have h853 : 0 ≤ z851 ∧ z851 ≤ 0 := (vc_X12_say_12 h852 h850.1)
      refine sv_aload_n (pc := 152) dX12_say_152 rfl rfl ?_
      refine gf_X12_75 (pc := 153) dX12_say_153 wF_X12_427 (A_106 hw) T841 ?_
      refine mr_iload (pc := 156) (z := z746) dX12_say_156 rfl ?_
      refine la_155 (pc := 158) dX12_say_158 (A_155 hw) T841 (rIx (n := 400) h747 rfl) fun z854 q855 h856 => ?_
      refine mr_if_eq (pc := 159) (tgt := 236) dX12_say_159 (by decide) (r32 h856 rfl) (fun h857 => ?_) (fun h857 => ?_)
      · have h858 : 0 ≤ z854 ∧ z854 ≤ 0 := (vc_X12_say_13 h857 h856)
        refine sv_aload_n (pc := 236) dX12_say_236 rfl rfl ?_
        refine mr_iconst (pc := 237) (z := 2) dX12_say_237 ?_
        refine mr_sipush (pc := 238) (z := 530) dX12_say_238 (by decide) ?_
        refine mr_iload (pc := 241) (z := z746) dX12_say_241 rfl ?_
        refine mr_iadd (pc := 243) (x := 530) (y := z746) dX12_say_243 ?_
        obtain ⟨z859, q860⟩ : ∃ z, μ840 126 (((40 * 2) : Int).toNat) = z := ⟨_, rfl⟩
        have h861 := rt7 T841 (A_126 hw) vc_X12_say_3 q860
        have h862 : (-1) ≤ z859 ∧ z859 ≤ 9 := h861.2.1 vc_X12_say_4
        refine mr_cVV (pc := 244) (c_X12_copy hw T841 (rW (c := 0) (d := 2099) (rR (x := 2)) rfl) (rW (c := 0) (d := 2099) (rAdd (e := 530) (f := 929) (rR (x := 530)) h747 rfl) rfl) q860 (vc_X12_say_14 h745.2.1 hq0 h740.2.1 h740.2.2.1 ht_f_e0 h1 hp1 hp2 hp3 h740.1 h747)) (gOk _ _ _ _ _) dX12_say_244 (tX12_copy _ _ _ _ _) ⟨wV_X12_copy, wL_X12_copy⟩ wM_X12_559 (gCX12 _ _ _ _ _) rfl (A_106 hw) rfl ⟨le_t rfl, le_t rfl⟩ ⟨le_t rfl, le_t rfl⟩ rfl (le_t rfl) fun μ863 T864 F865 h866 => ?_
        obtain ⟨z867, q868, h869⟩ := h866
        have h870 := rt7 T864 (A_126 hw) (vc_X12_say_15 h745.2.1 hq0 h740.2.1 h740.2.2.1 ht_f_e0 h1 hp1 hp2 hp3 h740.1 h747) q868
        have h871 : (-1) ≤ z867 ∧ z867 ≤ 9 := h870.2.1 (vc_X12_say_16 h745.2.1 hq0 h740.2.1 h740.2.2.1 ht_f_e0 h1 hp1 hp2 hp3 h740.1 h747)
        have q872 : μ863 126 ((40 * (530 + z746)).toNat) = z859 := q868.trans h869.2.1
        refine sv_aload_n (pc := 247) dX12_say_247 rfl rfl ?_
        refine gf_X12_75 (pc := 248) dX12_say_248 wF_X12_427 (A_106 hw) T864 ?_
        refine mr_iload (pc := 251) (z := z746) dX12_say_251 rfl ?_
        refine mr_iconst (pc := 253) (z := 1) dX12_say_253 ?_
        refine ss_155 (pc := 254) dX12_say_254 (A_155 hw) T864 (rIx (n := 400) h747 rfl) (rW (c := 0) (d := 1) (rR (x := 1)) rfl) fun μ873 u874 T875 => ?_
        refine sv_aload_n (pc := 255) dX12_say_255 rfl rfl ?_
        refine gf_X12_76 (pc := 256) dX12_say_256 wF_X12_430 (A_106 hw) T875 ?_
        refine mr_iload (pc := 259) (z := z746) dX12_say_259 rfl ?_
        refine sv_aload_n (pc := 261) dX12_say_261 rfl rfl ?_
        refine gf_X12_71 (pc := 262) dX12_say_262 wF_X12_591 (A_106 hw) T875 fun z876 q877 h878 => ?_
        refine ss_156 (pc := 265) dX12_say_265 (A_156 hw) T875 (rIx (n := 400) h747 rfl) h878 fun μ879 u880 T881 => ?_
        refine sv_aload_n (pc := 266) dX12_say_266 rfl rfl ?_
        refine mr_iconst (pc := 267) (z := 2) dX12_say_267 ?_
        refine mr_sipush (pc := 268) (z := 930) dX12_say_268 (by decide) ?_
        refine mr_iload (pc := 271) (z := z746) dX12_say_271 rfl ?_
        refine mr_iadd (pc := 273) (x := 930) (y := z746) dX12_say_273 ?_
        refine mr_cVV (pc := 274) (c_X12_copy hw T881 (rW (c := 0) (d := 2099) (rR (x := 2)) rfl) (rW (c := 0) (d := 2099) (rAdd (e := 930) (f := 1329) (rR (x := 930)) h747 rfl) rfl) (u880.f (Or.inl (mAt.ne (A_156 hw) (A_126 hw) rfl)) (u874.f (Or.inl (mAt.ne (A_155 hw) (A_126 hw) rfl)) (h869.1.f vc_X12_say_3 (List.forall_mem_cons.mpr ⟨(vc_X12_say_17 h745.2.1 hq0 h740.2.1 h740.2.2.1 ht_f_e0 h1 hp1 hp2 hp3 h740.1 h747), (fun _ h => absurd h List.not_mem_nil)⟩) q860))) (vc_X12_say_18 h745.2.1 hq0 h740.2.1 h740.2.2.1 ht_f_e0 h1 hp1 hp2 hp3 h740.1 h747)) (gOk _ _ _ _ _) dX12_say_274 (tX12_copy _ _ _ _ _) ⟨wV_X12_copy, wL_X12_copy⟩ wM_X12_559 (gCX12 _ _ _ _ _) rfl (A_106 hw) rfl ⟨le_t rfl, le_t rfl⟩ ⟨le_t rfl, le_t rfl⟩ rfl (le_t rfl) fun μ882 T883 F884 h885 => ?_
        obtain ⟨z886, q887, h888⟩ := h885
        have h889 := rt7 T883 (A_126 hw) (vc_X12_say_19 h745.2.1 hq0 h740.2.1 h740.2.2.1 ht_f_e0 h1 hp1 hp2 hp3 h740.1 h747) q887
        have h890 : (-1) ≤ z886 ∧ z886 ≤ 9 := h889.2.1 (vc_X12_say_20 h745.2.1 hq0 h740.2.1 h740.2.2.1 ht_f_e0 h1 hp1 hp2 hp3 h740.1 h747)
        have q891 : μ882 126 ((40 * (930 + z746)).toNat) = z859 := q887.trans h888.2.1
        refine sv_aload_n (pc := 277) dX12_say_277 rfl rfl ?_
        refine gf_X12_77 (pc := 278) dX12_say_278 wF_X12_433 (A_106 hw) T883 ?_
        refine mr_iload (pc := 281) (z := z746) dX12_say_281 rfl ?_
        refine sv_aload_n (pc := 283) dX12_say_283 rfl rfl ?_
        refine gk_X12_71 (pc := 284) dX12_say_284 wF_X12_591 (A_106 hw) (F884.f (A_106 hw) rfl (u880.f (Or.inl (mAt.ne (A_156 hw) (A_106 hw) rfl)) q877)) ?_
        refine sv_aload_n (pc := 287) dX12_say_287 rfl rfl ?_
        refine gf_X12_10 (pc := 288) dX12_say_288 wF_X12_57 (A_106 hw) T883 ?_
        refine mr_iload_n (pc := 291) (z := p2) dX12_say_291 rfl rfl ?_
        refine la_113 (pc := 292) dX12_say_292 (A_113 hw) T883 (rIx (n := 20) hp2 rfl) fun z892 q893 h894 => ?_
        refine mr_iadd (pc := 293) (x := z876) (y := z892) dX12_say_293 ?_
        refine ss_157 (pc := 294) dX12_say_294 (A_157 hw) T883 (rIx (n := 400) h747 rfl) (rW (c := (-1)) (d := 2000001000) (rAdd (e := 0) (f := 2000001000) h878 h894 rfl) rfl) fun μ895 u896 T897 => ?_
        refine sv_aload_n (pc := 295) dX12_say_295 rfl rfl ?_
        refine gf_X12_78 (pc := 296) dX12_say_296 wF_X12_436 (A_106 hw) T897 ?_
        refine mr_iload (pc := 299) (z := z746) dX12_say_299 rfl ?_
        refine sv_aload_n (pc := 301) dX12_say_301 rfl rfl ?_
        refine gf_X12_72 (pc := 302) dX12_say_302 wF_X12_594 (A_106 hw) T897 fun z898 q899 h900 => ?_
        refine ss_158 (pc := 305) dX12_say_305 (A_158 hw) T897 (rIx (n := 400) h747 rfl) h900 fun μ901 u902 T903 => ?_
        refine sv_aload_n (pc := 306) dX12_say_306 rfl rfl ?_
        refine sv_dup (pc := 307) dX12_say_307 rfl ?_
        refine gk_X12_72 (pc := 308) dX12_say_308 wF_X12_594 (A_106 hw) (u902.f (Or.inl (mAt.ne (A_158 hw) (A_106 hw) rfl)) q899) ?_
        refine mr_iconst (pc := 311) (z := 1) dX12_say_311 ?_
        refine mr_iadd (pc := 312) (x := z898) (y := 1) dX12_say_312 ?_
        refine mr_wrap fun z904 h905 => ?_
        refine pf_X12_72 (pc := 313) dX12_say_313 wF_X12_594 (A_106 hw) T903 h905 fun μ906 u907 T908 => ?_
        exact mr_vret dX12_say_316 rfl (le_t rfl) (le_t rfl) T908 (mF.up (mF.up (mF.up (mF.call (mF.up (mF.up (mF.call (mF.call (mF.call mF.refl F750 rfl) F842 rfl) F865 rfl) (A_155 hw) u874 rfl) (A_156 hw) u880 rfl) F884 rfl) (A_157 hw) u896 rfl) (A_158 hw) u902 rfl) (A_106 hw) u907 rfl) ⟨(mG.upO (mG.upO (mG.upO (mG.call (mG.upO (mG.upO (mG.call (mG.call (mG.call mG.refl h754.1 (List.forall_mem_cons.mpr ⟨⟨_, List.mem_cons_self, vc_X12_say_21⟩, (fun _ h => absurd h List.not_mem_nil)⟩)) G843 (List.forall_mem_cons.mpr ⟨⟨_, List.mem_cons_self, vc_X12_say_22⟩, (List.forall_mem_cons.mpr ⟨⟨_, (List.mem_cons_of_mem _ List.mem_cons_self), vc_X12_say_23⟩, (fun _ h => absurd h List.not_mem_nil)⟩)⟩)) h869.1 (List.forall_mem_cons.mpr ⟨⟨_, (List.mem_cons_of_mem _ List.mem_cons_self), (vc_X12_say_24 h745.2.1 hq0 h740.2.1 h740.2.2.1 ht_f_e0 h1 hp1 hp2 hp3 h740.1 h747)⟩, (fun _ h => absurd h List.not_mem_nil)⟩)) u874 rfl) u880 rfl) h888.1 (List.forall_mem_cons.mpr ⟨⟨_, (List.mem_cons_of_mem _ List.mem_cons_self), (vc_X12_say_25 h745.2.1 hq0 h740.2.1 h740.2.2.1 ht_f_e0 h1 hp1 hp2 hp3 h740.1 h747)⟩, (fun _ h => absurd h List.not_mem_nil)⟩)) u896 rfl) u902 rfl) u907 rfl), (G1.keep I844 hw ((mF.up (mF.up (mF.up (mF.call (mF.up (mF.up (mF.call mF.refl F865 rfl) (A_155 hw) u874 rfl) (A_156 hw) u880 rfl) F884 rfl) (A_157 hw) u896 rfl) (A_158 hw) u902 rfl) (A_106 hw) u907 rfl) : mF [106072, 126999, 155999, 156999, 157999, 158999] w μ840 μ906) rfl rfl ((mG.upO (mG.upO (mG.upO (mG.call (mG.upO (mG.upO (mG.call mG.refl h869.1 (List.forall_mem_cons.mpr ⟨⟨_, List.mem_cons_self, (vc_X12_say_26 h745.2.1 hq0 h740.2.1 h740.2.2.1 ht_f_e0 h1 hp1 hp2 hp3 h740.1 h747)⟩, (fun _ h => absurd h List.not_mem_nil)⟩)) u874 rfl) u880 rfl) h888.1 (List.forall_mem_cons.mpr ⟨⟨_, (List.mem_cons_of_mem _ List.mem_cons_self), (vc_X12_say_27 h745.2.1 hq0 h740.2.1 h740.2.2.1 ht_f_e0 h1 hp1 hp2 hp3 h740.1 h747)⟩, (fun _ h => absurd h List.not_mem_nil)⟩)) u896 rfl) u902 rfl) u907 rfl) : mG [((40 * (530 + z746)), ((40 * (530 + z746)) + 40)), ((40 * (930 + z746)), ((40 * (930 + z746)) + 40))] μ840 μ906) (List.forall_mem_cons.mpr ⟨(vc_X12_say_29 h745.2.1 hq0 h740.2.1 h740.2.2.1 ht_f_e0 h1 hp1 hp2 hp3 h740.1 h747), (List.forall_mem_cons.mpr ⟨(vc_X12_say_28 h745.2.1 hq0 h740.2.1 h740.2.2.1 ht_f_e0 h1 hp1 hp2 hp3 h740.1 h747), (fun _ h => absurd h List.not_mem_nil)⟩)⟩)), trivial⟩
      have h909 : 1 ≤ z854 ∧ z854 ≤ 1 := (vc_X12_say_30 h857 h856)
      refine sv_aload_n (pc := 162) dX12_say_162 rfl rfl ?_
      refine gf_X12_71 (pc := 163) dX12_say_163 wF_X12_591 (A_106 hw) T841 fun z910 q911 h912 => ?_
      refine sv_aload_n (pc := 166) dX12_say_166 rfl rfl ?_
      refine gf_X12_76 (pc := 167) dX12_say_167 wF_X12_430 (A_106 hw) T841 ?_
      refine mr_iload (pc := 170) (z := z746) dX12_say_170 rfl ?_
      refine la_156 (pc := 172) dX12_say_172 (A_156 hw) T841 (rIx (n := 400) h747 rfl) fun z913 q914 h915 => ?_
      refine sv_aload_n (pc := 173) dX12_say_173 rfl rfl ?_
      refine gf_X12_11 (pc := 174) dX12_say_174 wF_X12_60 (A_106 hw) T841 ?_
      refine mr_iload_n (pc := 177) (z := p2) dX12_say_177 rfl rfl ?_
      refine la_114 (pc := 178) dX12_say_178 (A_114 hw) T841 (rIx (n := 20) hp2 rfl) fun z916 q917 h918 => ?_
      refine mr_iadd (pc := 179) (x := z913) (y := z916) dX12_say_179 ?_
      refine mr_icmp_ge (pc := 180) (tgt := 236) dX12_say_180 (by decide) (r32 h912 rfl) (r32 (rAdd (e := 0) (f := 2000001000) h915 h918 rfl) rfl) (fun h919 => ?_) (fun h919 => ?_)
      · refine sv_aload_n (pc := 236) dX12_say_236 rfl rfl ?_
        refine mr_iconst (pc := 237) (z := 2) dX12_say_237 ?_
        refine mr_sipush (pc := 238) (z := 530) dX12_say_238 (by decide) ?_
        refine mr_iload (pc := 241) (z := z746) dX12_say_241 rfl ?_
        refine mr_iadd (pc := 243) (x := 530) (y := z746) dX12_say_243 ?_
        obtain ⟨z920, q921⟩ : ∃ z, μ840 126 (((40 * 2) : Int).toNat) = z := ⟨_, rfl⟩
        have h922 := rt7 T841 (A_126 hw) vc_X12_say_3 q921
        have h923 : (-1) ≤ z920 ∧ z920 ≤ 9 := h922.2.1 vc_X12_say_4
        refine mr_cVV (pc := 244) (c_X12_copy hw T841 (rW (c := 0) (d := 2099) (rR (x := 2)) rfl) (rW (c := 0) (d := 2099) (rAdd (e := 530) (f := 929) (rR (x := 530)) h747 rfl) rfl) q921 (vc_X12_say_14 h745.2.1 hq0 h740.2.1 h740.2.2.1 ht_f_e0 h1 hp1 hp2 hp3 h740.1 h747)) (gOk _ _ _ _ _) dX12_say_244 (tX12_copy _ _ _ _ _) ⟨wV_X12_copy, wL_X12_copy⟩ wM_X12_559 (gCX12 _ _ _ _ _) rfl (A_106 hw) rfl ⟨le_t rfl, le_t rfl⟩ ⟨le_t rfl, le_t rfl⟩ rfl (le_t rfl) fun μ924 T925 F926 h927 => ?_
        obtain ⟨z928, q929, h930⟩ := h927
        have h931 := rt7 T925 (A_126 hw) (vc_X12_say_15 h745.2.1 hq0 h740.2.1 h740.2.2.1 ht_f_e0 h1 hp1 hp2 hp3 h740.1 h747) q929
        have h932 : (-1) ≤ z928 ∧ z928 ≤ 9 := h931.2.1 (vc_X12_say_16 h745.2.1 hq0 h740.2.1 h740.2.2.1 ht_f_e0 h1 hp1 hp2 hp3 h740.1 h747)
        have q933 : μ924 126 ((40 * (530 + z746)).toNat) = z920 := q929.trans h930.2.1
        refine sv_aload_n (pc := 247) dX12_say_247 rfl rfl ?_
        refine gf_X12_75 (pc := 248) dX12_say_248 wF_X12_427 (A_106 hw) T925 ?_
        refine mr_iload (pc := 251) (z := z746) dX12_say_251 rfl ?_
        refine mr_iconst (pc := 253) (z := 1) dX12_say_253 ?_
        refine ss_155 (pc := 254) dX12_say_254 (A_155 hw) T925 (rIx (n := 400) h747 rfl) (rW (c := 0) (d := 1) (rR (x := 1)) rfl) fun μ934 u935 T936 => ?_
        refine sv_aload_n (pc := 255) dX12_say_255 rfl rfl ?_
        refine gf_X12_76 (pc := 256) dX12_say_256 wF_X12_430 (A_106 hw) T936 ?_
        refine mr_iload (pc := 259) (z := z746) dX12_say_259 rfl ?_
        refine sv_aload_n (pc := 261) dX12_say_261 rfl rfl ?_
        refine gk_X12_71 (pc := 262) dX12_say_262 wF_X12_591 (A_106 hw) (u935.f (Or.inl (mAt.ne (A_155 hw) (A_106 hw) rfl)) (F926.f (A_106 hw) rfl q911)) ?_
        refine ss_156 (pc := 265) dX12_say_265 (A_156 hw) T936 (rIx (n := 400) h747 rfl) h912 fun μ937 u938 T939 => ?_
        refine sv_aload_n (pc := 266) dX12_say_266 rfl rfl ?_
        refine mr_iconst (pc := 267) (z := 2) dX12_say_267 ?_
        refine mr_sipush (pc := 268) (z := 930) dX12_say_268 (by decide) ?_
        refine mr_iload (pc := 271) (z := z746) dX12_say_271 rfl ?_
        refine mr_iadd (pc := 273) (x := 930) (y := z746) dX12_say_273 ?_
        refine mr_cVV (pc := 274) (c_X12_copy hw T939 (rW (c := 0) (d := 2099) (rR (x := 2)) rfl) (rW (c := 0) (d := 2099) (rAdd (e := 930) (f := 1329) (rR (x := 930)) h747 rfl) rfl) (u938.f (Or.inl (mAt.ne (A_156 hw) (A_126 hw) rfl)) (u935.f (Or.inl (mAt.ne (A_155 hw) (A_126 hw) rfl)) (h930.1.f vc_X12_say_3 (List.forall_mem_cons.mpr ⟨(vc_X12_say_17 h745.2.1 hq0 h740.2.1 h740.2.2.1 ht_f_e0 h1 hp1 hp2 hp3 h740.1 h747), (fun _ h => absurd h List.not_mem_nil)⟩) q921))) (vc_X12_say_18 h745.2.1 hq0 h740.2.1 h740.2.2.1 ht_f_e0 h1 hp1 hp2 hp3 h740.1 h747)) (gOk _ _ _ _ _) dX12_say_274 (tX12_copy _ _ _ _ _) ⟨wV_X12_copy, wL_X12_copy⟩ wM_X12_559 (gCX12 _ _ _ _ _) rfl (A_106 hw) rfl ⟨le_t rfl, le_t rfl⟩ ⟨le_t rfl, le_t rfl⟩ rfl (le_t rfl) fun μ940 T941 F942 h943 => ?_
        obtain ⟨z944, q945, h946⟩ := h943
        have h947 := rt7 T941 (A_126 hw) (vc_X12_say_19 h745.2.1 hq0 h740.2.1 h740.2.2.1 ht_f_e0 h1 hp1 hp2 hp3 h740.1 h747) q945
        have h948 : (-1) ≤ z944 ∧ z944 ≤ 9 := h947.2.1 (vc_X12_say_20 h745.2.1 hq0 h740.2.1 h740.2.2.1 ht_f_e0 h1 hp1 hp2 hp3 h740.1 h747)
        have q949 : μ940 126 ((40 * (930 + z746)).toNat) = z920 := q945.trans h946.2.1
        refine sv_aload_n (pc := 277) dX12_say_277 rfl rfl ?_
        refine gf_X12_77 (pc := 278) dX12_say_278 wF_X12_433 (A_106 hw) T941 ?_
        refine mr_iload (pc := 281) (z := z746) dX12_say_281 rfl ?_
        refine sv_aload_n (pc := 283) dX12_say_283 rfl rfl ?_
        refine gk_X12_71 (pc := 284) dX12_say_284 wF_X12_591 (A_106 hw) (F942.f (A_106 hw) rfl (u938.f (Or.inl (mAt.ne (A_156 hw) (A_106 hw) rfl)) (u935.f (Or.inl (mAt.ne (A_155 hw) (A_106 hw) rfl)) (F926.f (A_106 hw) rfl q911)))) ?_
        refine sv_aload_n (pc := 287) dX12_say_287 rfl rfl ?_
        refine gf_X12_10 (pc := 288) dX12_say_288 wF_X12_57 (A_106 hw) T941 ?_
        refine mr_iload_n (pc := 291) (z := p2) dX12_say_291 rfl rfl ?_
        refine la_113 (pc := 292) dX12_say_292 (A_113 hw) T941 (rIx (n := 20) hp2 rfl) fun z950 q951 h952 => ?_
        refine mr_iadd (pc := 293) (x := z910) (y := z950) dX12_say_293 ?_
        refine ss_157 (pc := 294) dX12_say_294 (A_157 hw) T941 (rIx (n := 400) h747 rfl) (rW (c := (-1)) (d := 2000001000) (rAdd (e := 0) (f := 2000001000) h912 h952 rfl) rfl) fun μ953 u954 T955 => ?_
        refine sv_aload_n (pc := 295) dX12_say_295 rfl rfl ?_
        refine gf_X12_78 (pc := 296) dX12_say_296 wF_X12_436 (A_106 hw) T955 ?_
        refine mr_iload (pc := 299) (z := z746) dX12_say_299 rfl ?_
        refine sv_aload_n (pc := 301) dX12_say_301 rfl rfl ?_
        refine gf_X12_72 (pc := 302) dX12_say_302 wF_X12_594 (A_106 hw) T955 fun z956 q957 h958 => ?_
        refine ss_158 (pc := 305) dX12_say_305 (A_158 hw) T955 (rIx (n := 400) h747 rfl) h958 fun μ959 u960 T961 => ?_
        refine sv_aload_n (pc := 306) dX12_say_306 rfl rfl ?_
        refine sv_dup (pc := 307) dX12_say_307 rfl ?_
        refine gk_X12_72 (pc := 308) dX12_say_308 wF_X12_594 (A_106 hw) (u960.f (Or.inl (mAt.ne (A_158 hw) (A_106 hw) rfl)) q957) ?_
        refine mr_iconst (pc := 311) (z := 1) dX12_say_311 ?_
        refine mr_iadd (pc := 312) (x := z956) (y := 1) dX12_say_312 ?_
        refine mr_wrap fun z962 h963 => ?_
        refine pf_X12_72 (pc := 313) dX12_say_313 wF_X12_594 (A_106 hw) T961 h963 fun μ964 u965 T966 => ?_
        exact mr_vret dX12_say_316 rfl (le_t rfl) (le_t rfl) T966 (mF.up (mF.up (mF.up (mF.call (mF.up (mF.up (mF.call (mF.call (mF.call mF.refl F750 rfl) F842 rfl) F926 rfl) (A_155 hw) u935 rfl) (A_156 hw) u938 rfl) F942 rfl) (A_157 hw) u954 rfl) (A_158 hw) u960 rfl) (A_106 hw) u965 rfl) ⟨(mG.upO (mG.upO (mG.upO (mG.call (mG.upO (mG.upO (mG.call (mG.call (mG.call mG.refl h754.1 (List.forall_mem_cons.mpr ⟨⟨_, List.mem_cons_self, vc_X12_say_21⟩, (fun _ h => absurd h List.not_mem_nil)⟩)) G843 (List.forall_mem_cons.mpr ⟨⟨_, List.mem_cons_self, vc_X12_say_22⟩, (List.forall_mem_cons.mpr ⟨⟨_, (List.mem_cons_of_mem _ List.mem_cons_self), vc_X12_say_23⟩, (fun _ h => absurd h List.not_mem_nil)⟩)⟩)) h930.1 (List.forall_mem_cons.mpr ⟨⟨_, (List.mem_cons_of_mem _ List.mem_cons_self), (vc_X12_say_24 h745.2.1 hq0 h740.2.1 h740.2.2.1 ht_f_e0 h1 hp1 hp2 hp3 h740.1 h747)⟩, (fun _ h => absurd h List.not_mem_nil)⟩)) u935 rfl) u938 rfl) h946.1 (List.forall_mem_cons.mpr ⟨⟨_, (List.mem_cons_of_mem _ List.mem_cons_self), (vc_X12_say_25 h745.2.1 hq0 h740.2.1 h740.2.2.1 ht_f_e0 h1 hp1 hp2 hp3 h740.1 h747)⟩, (fun _ h => absurd h List.not_mem_nil)⟩)) u954 rfl) u960 rfl) u965 rfl), (G1.keep I844 hw ((mF.up (mF.up (mF.up (mF.call (mF.up (mF.up (mF.call mF.refl F926 rfl) (A_155 hw) u935 rfl) (A_156 hw) u938 rfl) F942 rfl) (A_157 hw) u954 rfl) (A_158 hw) u960 rfl) (A_106 hw) u965 rfl) : mF [106072, 126999, 155999, 156999, 157999, 158999] w μ840 μ964) rfl rfl ((mG.upO (mG.upO (mG.upO (mG.call (mG.upO (mG.upO (mG.call mG.refl h930.1 (List.forall_mem_cons.mpr ⟨⟨_, List.mem_cons_self, (vc_X12_say_26 h745.2.1 hq0 h740.2.1 h740.2.2.1 ht_f_e0 h1 hp1 hp2 hp3 h740.1 h747)⟩, (fun _ h => absurd h List.not_mem_nil)⟩)) u935 rfl) u938 rfl) h946.1 (List.forall_mem_cons.mpr ⟨⟨_, (List.mem_cons_of_mem _ List.mem_cons_self), (vc_X12_say_27 h745.2.1 hq0 h740.2.1 h740.2.2.1 ht_f_e0 h1 hp1 hp2 hp3 h740.1 h747)⟩, (fun _ h => absurd h List.not_mem_nil)⟩)) u954 rfl) u960 rfl) u965 rfl) : mG [((40 * (530 + z746)), ((40 * (530 + z746)) + 40)), ((40 * (930 + z746)), ((40 * (930 + z746)) + 40))] μ840 μ964) (List.forall_mem_cons.mpr ⟨(vc_X12_say_29 h745.2.1 hq0 h740.2.1 h740.2.2.1 ht_f_e0 h1 hp1 hp2 hp3 h740.1 h747), (List.forall_mem_cons.mpr ⟨(vc_X12_say_28 h745.2.1 hq0 h740.2.1 h740.2.2.1 ht_f_e0 h1 hp1 hp2 hp3 h740.1 h747), (fun _ h => absurd h List.not_mem_nil)⟩)⟩)), trivial⟩
      refine sv_aload_n (pc := 183) dX12_say_183 rfl rfl ?_
      refine gf_X12_79 (pc := 184) dX12_say_184 wF_X12_439 (A_106 hw) T841 ?_
      refine mr_iload (pc := 187) (z := z746) dX12_say_187 rfl ?_
      refine la_159 (pc := 189) dX12_say_189 (A_159 hw) T841 (rIx (n := 400) h747 rfl) fun z967 q968 h969 => ?_
      refine mr_if_ge (pc := 190) (tgt := 235) dX12_say_190 (by decide) (r32 h969 rfl) (fun h986 => ?_) (fun h986 => ?_)
      · have h987 : 0 ≤ z967 ∧ z967 ≤ 2000001000 := (vc_X12_say_31 h986 h969)
        exact mr_vret dX12_say_235 rfl (le_t rfl) (le_t rfl) T841 (mF.call (mF.call mF.refl F750 rfl) F842 rfl) ⟨(mG.call (mG.call mG.refl h754.1 (List.forall_mem_cons.mpr ⟨⟨_, List.mem_cons_self, vc_X12_say_21⟩, (fun _ h => absurd h List.not_mem_nil)⟩)) G843 (List.forall_mem_cons.mpr ⟨⟨_, List.mem_cons_self, vc_X12_say_22⟩, (List.forall_mem_cons.mpr ⟨⟨_, (List.mem_cons_of_mem _ List.mem_cons_self), vc_X12_say_23⟩, (fun _ h => absurd h List.not_mem_nil)⟩)⟩)), I844, trivial⟩
      have h988 : (-1) ≤ z967 ∧ z967 ≤ (-1) := (vc_X12_say_32 h986 h969)
      refine sv_aload_n (pc := 193) dX12_say_193 rfl rfl ?_
      refine gf_X12_79 (pc := 194) dX12_say_194 wF_X12_439 (A_106 hw) T841 ?_
      refine mr_iload (pc := 197) (z := z746) dX12_say_197 rfl ?_
      refine sv_aload_n (pc := 199) dX12_say_199 rfl rfl ?_
      refine gf_X12_76 (pc := 200) dX12_say_200 wF_X12_430 (A_106 hw) T841 ?_
      refine mr_iload (pc := 203) (z := z746) dX12_say_203 rfl ?_
      refine lk_156 (pc := 205) dX12_say_205 (A_156 hw) (rIx (n := 400) h747 rfl) q914 ?_
      refine sv_aload_n (pc := 206) dX12_say_206 rfl rfl ?_
      refine gf_X12_11 (pc := 207) dX12_say_207 wF_X12_60 (A_106 hw) T841 ?_
      refine mr_iload_n (pc := 210) (z := p2) dX12_say_210 rfl rfl ?_
      refine lk_114 (pc := 211) dX12_say_211 (A_114 hw) (rIx (n := 20) hp2 rfl) q917 ?_
      refine mr_iadd (pc := 212) (x := z913) (y := z916) dX12_say_212 ?_
      refine ss_159 (pc := 213) dX12_say_213 (A_159 hw) T841 (rIx (n := 400) h747 rfl) (rW (c := (-1)) (d := 2000001000) (rAdd (e := 0) (f := 2000001000) h915 h918 rfl) rfl) fun μ989 u990 T991 => ?_
      refine sv_aload_n (pc := 214) dX12_say_214 rfl rfl ?_
      refine gf_X12_80 (pc := 215) dX12_say_215 wF_X12_442 (A_106 hw) T991 ?_
      refine mr_iload (pc := 218) (z := z746) dX12_say_218 rfl ?_
      refine sv_aload_n (pc := 220) dX12_say_220 rfl rfl ?_
      refine gf_X12_72 (pc := 221) dX12_say_221 wF_X12_594 (A_106 hw) T991 fun z992 q993 h994 => ?_
      refine ss_160 (pc := 224) dX12_say_224 (A_160 hw) T991 (rIx (n := 400) h747 rfl) h994 fun μ995 u996 T997 => ?_
      refine sv_aload_n (pc := 225) dX12_say_225 rfl rfl ?_
      refine sv_dup (pc := 226) dX12_say_226 rfl ?_
      refine gk_X12_72 (pc := 227) dX12_say_227 wF_X12_594 (A_106 hw) (u996.f (Or.inl (mAt.ne (A_160 hw) (A_106 hw) rfl)) q993) ?_
      refine mr_iconst (pc := 230) (z := 1) dX12_say_230 ?_
      refine mr_iadd (pc := 231) (x := z992) (y := 1) dX12_say_231 ?_
      refine mr_wrap fun z998 h999 => ?_
      refine pf_X12_72 (pc := 232) dX12_say_232 wF_X12_594 (A_106 hw) T997 h999 fun μ1000 u1001 T1002 => ?_
      exact mr_vret dX12_say_235 rfl (le_t rfl) (le_t rfl) T1002 (mF.up (mF.up (mF.up (mF.call (mF.call mF.refl F750 rfl) F842 rfl) (A_159 hw) u990 rfl) (A_160 hw) u996 rfl) (A_106 hw) u1001 rfl) ⟨(mG.upO (mG.upO (mG.upO (mG.call (mG.call mG.refl h754.1 (List.forall_mem_cons.mpr ⟨⟨_, List.mem_cons_self, vc_X12_say_21⟩, (fun _ h => absurd h List.not_mem_nil)⟩)) G843 (List.forall_mem_cons.mpr ⟨⟨_, List.mem_cons_self, vc_X12_say_22⟩, (List.forall_mem_cons.mpr ⟨⟨_, (List.mem_cons_of_mem _ List.mem_cons_self), vc_X12_say_23⟩, (fun _ h => absurd h List.not_mem_nil)⟩)⟩)) u990 rfl) u996 rfl) u1001 rfl), (G1.keep I844 hw ((mF.up (mF.up (mF.up mF.refl (A_159 hw) u990 rfl) (A_160 hw) u996 rfl) (A_106 hw) u1001 rfl) : mF [106072, 159999, 160999] w μ840 μ1000) rfl rfl ((mG.upO (mG.upO (mG.upO mG.refl u990 rfl) u996 rfl) u1001 rfl) : mG [] μ840 μ1000) (fun _ h => absurd h List.not_mem_nil)), trivial⟩
    have h1003 : 1 ≤ z851 ∧ z851 ≤ 1 := (vc_X12_say_33 h852 h850.1)
    exact mr_vret dX12_say_151 rfl (le_t rfl) (le_t rfl) T841 (mF.call (mF.call mF.refl F750 rfl) F842 rfl) ⟨(mG.call (mG.call mG.refl h754.1 (List.forall_mem_cons.mpr ⟨⟨_, List.mem_cons_self, vc_X12_say_21⟩, (fun _ h => absurd h List.not_mem_nil)⟩)) G843 (List.forall_mem_cons.mpr ⟨⟨_, List.mem_cons_self, vc_X12_say_22⟩, (List.forall_mem_cons.mpr ⟨⟨_, (List.mem_cons_of_mem _ List.mem_cons_self), vc_X12_say_23⟩, (fun _ h => absurd h List.not_mem_nil)⟩)⟩)), I844, trivial⟩
  refine mr_icmp_eq (pc := 39) (tgt := 137) dX12_say_39 (by decide) (r32 h762 rfl) (r32 (rR (x := (-99999999))) rfl) (fun h1004 => ?_) (fun h1004 => ?_)
  · have h1005 : (-99999999) ≤ z759 ∧ z759 ≤ (-99999999) := (vc_X12_say_34 h1004 h767 h762 h761 h766)
    refine mr_lvS (lv' := [(0, .ref 106), (2, iv p2), (5, iv z746)]) (List.forall_mem_cons.mpr ⟨rfl, List.forall_mem_cons.mpr ⟨rfl, List.forall_mem_cons.mpr ⟨rfl, fun _ h => absurd h List.not_mem_nil⟩⟩⟩) ?_
    exact J846 μ748 T749 mF.refl mG.refl (G1.keep hIG1 hw ((mF.call mF.refl F750 rfl) : mF [126999] w μ μ748) rfl rfl ((mG.call mG.refl h754.1 (List.forall_mem_cons.mpr ⟨⟨_, List.mem_cons_self, vc_X12_say_9⟩, (fun _ h => absurd h List.not_mem_nil)⟩)) : mG [((40 * 2), ((40 * 2) + 1))] μ μ748) (List.forall_mem_cons.mpr ⟨vc_X12_say_10, (fun _ h => absurd h List.not_mem_nil)⟩)) (PK.keep hIPK hw ((mF.call mF.refl F750 rfl) : mF [126999] w μ μ748) rfl)
  have h1006 : (-4) ≤ z759 ∧ z759 ≤ 19 := (vc_X12_say_35 h1004 h767 h762 h761 h766)
  refine sv_aload_n (pc := 42) dX12_say_42 rfl rfl ?_
  refine gf_X12_81 (pc := 43) dX12_say_43 wF_X12_445 (A_106 hw) T749 ?_
  refine mr_iload (pc := 46) (z := ((10 * p1) + p3)) dX12_say_46 rfl ?_
  refine lk_161 (pc := 48) dX12_say_48 (A_161 hw) (rIx (n := 100) (rAdd (e := 0) (f := 99) (rMulL (n := 10) (e := 0) (f := 90) hp1 rfl) hp3 rfl) rfl) q760 ?_
  refine mr_iload_n (pc := 49) (z := p2) dX12_say_49 rfl rfl ?_
  refine mr_icmp_eq (pc := 50) (tgt := 137) dX12_say_50 (by decide) (r32 h1006 rfl) (r32 hp2 rfl) (fun h1007 => ?_) (fun h1007 => ?_)
  · have h1008 : 0 ≤ z759 ∧ z759 ≤ 19 := (vc_X12_say_36 h1007 hq0 h745.2.1 h767 h1004 h1 hp2 hp3 h740.1 h747 h1006 h761 h766)
    refine mr_lvS (lv' := [(0, .ref 106), (2, iv p2), (5, iv z746)]) (List.forall_mem_cons.mpr ⟨rfl, List.forall_mem_cons.mpr ⟨rfl, List.forall_mem_cons.mpr ⟨rfl, fun _ h => absurd h List.not_mem_nil⟩⟩⟩) ?_
    exact J846 μ748 T749 mF.refl mG.refl (G1.keep hIG1 hw ((mF.call mF.refl F750 rfl) : mF [126999] w μ μ748) rfl rfl ((mG.call mG.refl h754.1 (List.forall_mem_cons.mpr ⟨⟨_, List.mem_cons_self, vc_X12_say_9⟩, (fun _ h => absurd h List.not_mem_nil)⟩)) : mG [((40 * 2), ((40 * 2) + 1))] μ μ748) (List.forall_mem_cons.mpr ⟨vc_X12_say_10, (fun _ h => absurd h List.not_mem_nil)⟩)) (PK.keep hIPK hw ((mF.call mF.refl F750 rfl) : mF [126999] w μ μ748) rfl)
  refine sv_aload_n (pc := 53) dX12_say_53 rfl rfl ?_
  refine mr_bipush (pc := 54) (z := 30) dX12_say_54 (by decide) ?_
  refine mr_iload (pc := 56) (z := ((10 * p1) + p3)) dX12_say_56 rfl ?_
  refine mr_iadd (pc := 58) (x := 30) (y := ((10 * p1) + p3)) dX12_say_58 ?_
  refine mr_iconst (pc := 59) (z := 2) dX12_say_59 ?_
  refine mr_cVV (pc := 60) (c_X12_copy hw T749 (rW (c := 0) (d := 2099) (rAdd (e := 30) (f := 129) (rR (x := 30)) (rAdd (e := 0) (f := 99) (rMulL (n := 10) (e := 0) (f := 90) hp1 rfl) hp3 rfl) rfl) rfl) (rW (c := 0) (d := 2099) (rR (x := 2)) rfl) q764 (vc_X12_say_37 hq1 h740.2.1 h740.2.2.1 h745.2.1 hq0 h1007 ht_f_e0 ht_f_e1 h1 hp1 hp2 hp3 h740.1 h747 h1006 h761)) (gOk _ _ _ _ _) dX12_say_60 (tX12_copy _ _ _ _ _) ⟨wV_X12_copy, wL_X12_copy⟩ wM_X12_559 (gCX12 _ _ _ _ _) rfl (A_106 hw) rfl ⟨le_t rfl, le_t rfl⟩ ⟨le_t rfl, le_t rfl⟩ rfl (le_t rfl) fun μ1009 T1010 F1011 h1012 => ?_
  obtain ⟨z1013, q1014, h1015⟩ := h1012
  have h1016 := rt7 T1010 (A_126 hw) vc_X12_say_3 q1014
  have h1017 : (-1) ≤ z1013 ∧ z1013 ≤ 9 := h1016.2.1 vc_X12_say_4
  have q1018 : μ1009 126 (((40 * 2) : Int).toNat) = z763 := q1014.trans h1015.2.1
  refine sv_aload_n (pc := 63) dX12_say_63 rfl rfl ?_
  refine gf_X12_32 (pc := 64) dX12_say_64 wF_X12_148 (A_106 hw) T1010 ?_
  refine mr_bipush (pc := 67) (z := 81) dX12_say_67 (by decide) ?_
  refine mr_bipush (pc := 69) (z := 100) dX12_say_69 (by decide) ?_
  refine ss_126 (pc := 71) dX12_say_71 (A_126 hw) T1010 (rIx (n := 84000) (rR (x := 81)) rfl) vc_X12_say_38 fun μ1019 u1020 T1021 => ?_
  refine sv_aload_n (pc := 72) dX12_say_72 rfl rfl ?_
  refine mr_iconst (pc := 73) (z := 2) dX12_say_73 ?_
  refine mr_iload_n (pc := 74) (z := p1) dX12_say_74 rfl rfl ?_
  refine mr_cVI (pc := 75) (c_X12_front hw T1021 (rW (c := 0) (d := 2099) (rR (x := 2)) rfl) (rW (c := (-2147483648)) (d := 2147483647) hp1 rfl)) (gOk _ _ _ _ _) dX12_say_75 (tX12_front _ _ _ _ _) ⟨wV_X12_front, wL_X12_front⟩ wM_X12_408 (gCX12 _ _ _ _ _) rfl (A_106 hw) rfl ⟨le_t rfl, le_t rfl⟩ ⟨le_t rfl, le_t rfl⟩ rfl (le_t rfl) fun z1026 μ1022 T1023 F1024 h1025 => ?_
  have J1062 : ∀ (z1054 : Int) (μ1056 : mM), (mT w μ1056) → (mF [106026, 106027, 106028, 106029, 106030, 106031, 126999, 151999, 152999, 153999] w μ1022 μ1056) → (mG [(80, 120), (21200, 53200)] μ1022 μ1056) → ((0 ≤ z1054 ∧ z1054 ≤ 1)) → (G1 μ1056) → (PK μ1056) → sV (gG l D c H0 sa) mX12_say (sRm 9 0 0) (sZ (gG l D c H0 sa) 0 0 (qV w [106026, 106027, 106028, 106029, 106030, 106031, 106072, 126999, 151999, 152999, 153999, 155999, 156999, 157999, 158999, 159999, 160999] μ (fun μ1 => mG [(80, 120), (21200, 53200)] μ μ1 ∧ G1 μ1 ∧ True))) 116 [(0, .ref 106), (2, iv p2), (5, iv z746)] [iv z1054] (mk w μ1056) 0 0 := by
    intro z1054 μ1056 T1057 F1058 G1059 h1055 I1060 I1061
    refine mr_istore (pc := 116) (lv' := [(7, iv z1054), (0, .ref 106), (2, iv p2), (5, iv z746)]) dX12_say_116 (by decide) rfl ?_
    refine sv_aload_n (pc := 118) dX12_say_118 rfl rfl ?_
    refine gf_X12_32 (pc := 119) dX12_say_119 wF_X12_148 (A_106 hw) T1057 ?_
    refine mr_bipush (pc := 122) (z := 81) dX12_say_122 (by decide) ?_
    refine mr_bipush (pc := 124) (z := 100) dX12_say_124 (by decide) ?_
    refine ss_126 (pc := 126) dX12_say_126 (A_126 hw) T1057 (rIx (n := 84000) (rR (x := 81)) rfl) vc_X12_say_38 fun μ1063 u1064 T1065 => ?_
    refine mr_iload (pc := 127) (z := z1054) dX12_say_127 rfl ?_
    refine mr_if_ne (pc := 129) (tgt := 137) dX12_say_129 (by decide) (r32 h1055 rfl) (fun h1066 => ?_) (fun h1066 => ?_)
    · have h1067 : 1 ≤ z1054 ∧ z1054 ≤ 1 := (vc_X12_say_39 h1066 h1055)
      refine mr_lvS (lv' := [(0, .ref 106), (2, iv p2), (5, iv z746)]) (List.forall_mem_cons.mpr ⟨rfl, List.forall_mem_cons.mpr ⟨rfl, List.forall_mem_cons.mpr ⟨rfl, fun _ h => absurd h List.not_mem_nil⟩⟩⟩) ?_
      exact J846 μ1063 T1065 (mF.up (mF.call (mF.call (mF.up (mF.call mF.refl F1011 rfl) (A_126 hw) u1020 rfl) F1024 rfl) F1058 rfl) (A_126 hw) u1064 rfl) (mG.up (mG.call (mG.call (mG.up (mG.call mG.refl h1015.1 (List.forall_mem_cons.mpr ⟨⟨_, List.mem_cons_self, vc_X12_say_40⟩, (fun _ h => absurd h List.not_mem_nil)⟩)) u1020 List.mem_cons_self vc_X12_say_41) h1025.2.1 (List.forall_mem_cons.mpr ⟨⟨_, List.mem_cons_self, vc_X12_say_42⟩, (fun _ h => absurd h List.not_mem_nil)⟩)) G1059 (List.forall_mem_cons.mpr ⟨⟨_, List.mem_cons_self, vc_X12_say_22⟩, (List.forall_mem_cons.mpr ⟨⟨_, (List.mem_cons_of_mem _ List.mem_cons_self), vc_X12_say_23⟩, (fun _ h => absurd h List.not_mem_nil)⟩)⟩)) u1064 List.mem_cons_self vc_X12_say_41) (G1.keep I1060 hw ((mF.up mF.refl (A_126 hw) u1064 rfl) : mF [126999] w μ1056 μ1063) rfl rfl ((mG.up mG.refl u1064 List.mem_cons_self vc_X12_say_43) : mG [(81, (81 + 1))] μ1056 μ1063) (List.forall_mem_cons.mpr ⟨vc_X12_say_44, (fun _ h => absurd h List.not_mem_nil)⟩)) (PK.keep I1061 hw ((mF.up mF.refl (A_126 hw) u1064 rfl) : mF [126999] w μ1056 μ1063) rfl)
    have h1068 : 0 ≤ z1054 ∧ z1054 ≤ 0 := (vc_X12_say_45 h1066 h1055)
    refine sv_aload_n (pc := 132) dX12_say_132 rfl rfl ?_
    refine mr_iconst (pc := 133) (z := 2) dX12_say_133 ?_
    refine mr_cVV (pc := 134) (c_X12_nothing hw T1065 (rW (c := 0) (d := 2099) (rR (x := 2)) rfl)) (gOk _ _ _ _ _) dX12_say_134 (tX12_nothing _ _ _ _ _) ⟨wV_X12_nothing, wL_X12_nothing⟩ wM_X12_539 (gCX12 _ _ _ _ _) rfl (A_106 hw) rfl ⟨le_t rfl, le_t rfl⟩ ⟨le_t rfl, le_t rfl⟩ rfl (le_t rfl) fun μ1069 T1070 F1071 h1072 => ?_
    obtain ⟨z1073, q1074, h1075⟩ := h1072
    have h1076 := rt7 T1070 (A_126 hw) vc_X12_say_3 q1074
    have h1077 : (-1) ≤ z1073 ∧ z1073 ≤ 9 := h1076.2.1 vc_X12_say_4
    have q1078 : μ1069 126 (((40 * 2) : Int).toNat) = (-1) := q1074.trans h1075.2.1
    have h1079 : (-1) ≤ z1073 ∧ z1073 ≤ (-1) := (vc_X12_say_46 h1075.2.1 h1077)
    refine mr_lvS (lv' := [(0, .ref 106), (2, iv p2), (5, iv z746)]) (List.forall_mem_cons.mpr ⟨rfl, List.forall_mem_cons.mpr ⟨rfl, List.forall_mem_cons.mpr ⟨rfl, fun _ h => absurd h List.not_mem_nil⟩⟩⟩) ?_
    exact J846 μ1069 T1070 (mF.call (mF.up (mF.call (mF.call (mF.up (mF.call mF.refl F1011 rfl) (A_126 hw) u1020 rfl) F1024 rfl) F1058 rfl) (A_126 hw) u1064 rfl) F1071 rfl) (mG.call (mG.up (mG.call (mG.call (mG.up (mG.call mG.refl h1015.1 (List.forall_mem_cons.mpr ⟨⟨_, List.mem_cons_self, vc_X12_say_40⟩, (fun _ h => absurd h List.not_mem_nil)⟩)) u1020 List.mem_cons_self vc_X12_say_41) h1025.2.1 (List.forall_mem_cons.mpr ⟨⟨_, List.mem_cons_self, vc_X12_say_42⟩, (fun _ h => absurd h List.not_mem_nil)⟩)) G1059 (List.forall_mem_cons.mpr ⟨⟨_, List.mem_cons_self, vc_X12_say_22⟩, (List.forall_mem_cons.mpr ⟨⟨_, (List.mem_cons_of_mem _ List.mem_cons_self), vc_X12_say_23⟩, (fun _ h => absurd h List.not_mem_nil)⟩)⟩)) u1064 List.mem_cons_self vc_X12_say_41) h1075.1 (List.forall_mem_cons.mpr ⟨⟨_, List.mem_cons_self, vc_X12_say_21⟩, (fun _ h => absurd h List.not_mem_nil)⟩)) (G1.keep I1060 hw ((mF.call (mF.up mF.refl (A_126 hw) u1064 rfl) F1071 rfl) : mF [126999] w μ1056 μ1069) rfl rfl ((mG.call (mG.up mG.refl u1064 List.mem_cons_self vc_X12_say_43) h1075.1 (List.forall_mem_cons.mpr ⟨⟨_, (List.mem_cons_of_mem _ List.mem_cons_self), vc_X12_say_9⟩, (fun _ h => absurd h List.not_mem_nil)⟩)) : mG [(81, (81 + 1)), ((40 * 2), ((40 * 2) + 1))] μ1056 μ1069) (List.forall_mem_cons.mpr ⟨vc_X12_say_44, (List.forall_mem_cons.mpr ⟨vc_X12_say_10, (fun _ h => absurd h List.not_mem_nil)⟩)⟩)) (PK.keep I1061 hw ((mF.call (mF.up mF.refl (A_126 hw) u1064 rfl) F1071 rfl) : mF [126999] w μ1056 μ1069) rfl)
  refine mr_if_eq (pc := 78) (tgt := 115) dX12_say_78 (by decide) (r32 h1025.1 rfl) (fun h1080 => ?_) (fun h1080 => ?_)
  · have h1081 : 0 ≤ z1026 ∧ z1026 ≤ 0 := (vc_X12_say_47 h1080 h1025.1)
    refine mr_iconst (pc := 115) (z := 0) dX12_say_115 ?_
    refine mr_lvS (lv' := [(0, .ref 106), (2, iv p2), (5, iv z746)]) (List.forall_mem_cons.mpr ⟨rfl, List.forall_mem_cons.mpr ⟨rfl, List.forall_mem_cons.mpr ⟨rfl, fun _ h => absurd h List.not_mem_nil⟩⟩⟩) ?_
    exact J1062 0 μ1022 T1023 mF.refl mG.refl (rW (c := 0) (d := 1) (rR (x := 0)) rfl) (G1.keep hIG1 hw ((mF.call (mF.up (mF.call (mF.call mF.refl F750 rfl) F1011 rfl) (A_126 hw) u1020 rfl) F1024 rfl) : mF [126999] w μ μ1022) rfl rfl ((mG.call (mG.up (mG.call (mG.call mG.refl h754.1 (List.forall_mem_cons.mpr ⟨⟨_, List.mem_cons_self, vc_X12_say_9⟩, (fun _ h => absurd h List.not_mem_nil)⟩)) h1015.1 (List.forall_mem_cons.mpr ⟨⟨_, (List.mem_cons_of_mem _ List.mem_cons_self), vc_X12_say_48⟩, (fun _ h => absurd h List.not_mem_nil)⟩)) u1020 (List.mem_cons_of_mem _ List.mem_cons_self) vc_X12_say_49) h1025.2.1 (List.forall_mem_cons.mpr ⟨⟨_, (List.mem_cons_of_mem _ List.mem_cons_self), vc_X12_say_50⟩, (fun _ h => absurd h List.not_mem_nil)⟩)) : mG [((40 * 2), ((40 * 2) + 1)), ((40 * 2), ((40 * 2) + 40)), (81, (81 + 1)), (((40 * 2) + 1), ((40 * 2) + 40))] μ μ1022) (List.forall_mem_cons.mpr ⟨vc_X12_say_10, (List.forall_mem_cons.mpr ⟨vc_X12_say_52, (List.forall_mem_cons.mpr ⟨vc_X12_say_44, (List.forall_mem_cons.mpr ⟨vc_X12_say_51, (fun _ h => absurd h List.not_mem_nil)⟩)⟩)⟩)⟩)) (PK.keep hIPK hw ((mF.call (mF.up (mF.call (mF.call mF.refl F750 rfl) F1011 rfl) (A_126 hw) u1020 rfl) F1024 rfl) : mF [126999] w μ μ1022) rfl)
  have h1082 : 1 ≤ z1026 ∧ z1026 ≤ 1 := (vc_X12_say_53 h1080 h1025.1)
  refine sv_aload_n (pc := 81) dX12_say_81 rfl rfl ?_
  refine sv_aload_n (pc := 82) dX12_say_82 rfl rfl ?_
  refine gf_X12_12 (pc := 83) dX12_say_83 wF_X12_63 (A_106 hw) T1023 ?_
  refine mr_iconst (pc := 86) (z := 4) dX12_say_86 ?_
  refine mr_iload_n (pc := 87) (z := p2) dX12_say_87 rfl rfl ?_
  refine mr_imul (pc := 88) (x := 4) (y := p2) dX12_say_88 ?_
  refine mr_iconst (pc := 89) (z := 2) dX12_say_89 ?_
  refine mr_iload (pc := 90) (z := z741) dX12_say_90 rfl ?_
  refine mr_imul (pc := 92) (x := 2) (y := z741) dX12_say_92 ?_
  refine mr_iadd (pc := 93) (x := (4 * p2)) (y := (2 * z741)) dX12_say_93 ?_
  refine mr_iconst (pc := 94) (z := 1) dX12_say_94 ?_
  refine mr_iadd (pc := 95) (x := ((4 * p2) + (2 * z741))) (y := 1) dX12_say_95 ?_
  refine la_115 (pc := 96) dX12_say_96 (A_115 hw) T1023 (rIx (n := 80) (rAdd (e := 1) (f := 79) (rAdd (e := 0) (f := 78) (rMulL (n := 4) (e := 0) (f := 76) hp2 rfl) (rMulL (n := 2) (e := 0) (f := 2) h740.1 rfl) rfl) (rR (x := 1)) rfl) rfl) fun z1083 q1084 h1085 => ?_
  have h1086 : (-99999999) ≤ z1083 ∧ z1083 ≤ 11 := (vc_X12_say_54 h1085)
  obtain ⟨z1087, q1088⟩ : ∃ z, μ1022 106 39 = z := ⟨_, rfl⟩
  have h1089 : (0 ≤ z1087 ∧ z1087 ≤ 12) := by rw [← q1088]; exact T1023 106 106 (A_106 hw) 39
  have h1090 : z1083 = -99999999 ∨ (0 ≤ z1083 ∧ z1083 < z1087) := PK.pol (PK.keep hIPK hw ((mF.call (mF.up (mF.call (mF.call mF.refl F750 rfl) F1011 rfl) (A_126 hw) u1020 rfl) F1024 rfl) : mF [126999] w μ μ1022) rfl) (rIx (n := 80) (rAdd (e := 1) (f := 79) (rAdd (e := 0) (f := 78) (rMulL (n := 4) (e := 0) (f := 76) hp2 rfl) (rMulL (n := 2) (e := 0) (f := 2) h740.1 rfl) rfl) (rR (x := 1)) rfl) rfl) q1084 q1088
  refine mr_iconst (pc := 97) (z := 2) dX12_say_97 ?_
  refine mr_iload_n (pc := 98) (z := p1) dX12_say_98 rfl rfl ?_
  refine sv_aload_n (pc := 99) dX12_say_99 rfl rfl ?_
  refine mr_iload_n (pc := 100) (z := p2) dX12_say_100 rfl rfl ?_
  refine mr_iload_n (pc := 101) (z := p1) dX12_say_101 rfl rfl ?_
  refine mr_cVP (pc := 102) (c_X12_partnerOf_pt hw T1023 hp2 (rW (c := (-2147483648)) (d := 2147483647) hp1 rfl) (F1024.f (A_110 hw) rfl (u1020.f (Or.inl (mAt.ne (A_126 hw) (A_110 hw) rfl)) (F1011.f (A_110 hw) rfl (F750.f (A_110 hw) rfl q_f_e0)))) (F1024.f (A_110 hw) rfl (u1020.f (Or.inl (mAt.ne (A_126 hw) (A_110 hw) rfl)) (F1011.f (A_110 hw) rfl (F750.f (A_110 hw) rfl q_f_e1))))) (gOk _ _ _ _ _) dX12_say_102 (tX12_partnerOf _ _ _ _ _) ⟨wV_X12_partnerOf, wL_X12_partnerOf⟩ wM_X12_553 (gCX12 _ _ _ _ _) rfl (A_106 hw) rfl ⟨le_t rfl, le_t rfl⟩ ⟨le_t rfl, le_t rfl⟩ rfl (le_t rfl) fun z1095 h1094 => ?_
  refine mr_cVI (pc := 105) (c_X12_through hw T1023 (rW (c := (-2147483648)) (d := 2147483647) h1086 rfl) (rW (c := 0) (d := 2099) (rR (x := 2)) rfl) (rW (c := (-2147483648)) (d := 2147483647) hp1 rfl) (rW (c := (-2147483648)) (d := 2147483647) h1094.1 rfl) hp2 (F1024.f (A_110 hw) rfl (u1020.f (Or.inl (mAt.ne (A_126 hw) (A_110 hw) rfl)) (F1011.f (A_110 hw) rfl (F750.f (A_110 hw) rfl q_f_e0)))) (F1024.f (A_110 hw) rfl (u1020.f (Or.inl (mAt.ne (A_126 hw) (A_110 hw) rfl)) (F1011.f (A_110 hw) rfl (F750.f (A_110 hw) rfl q_f_e1)))) (F1024.f (A_106 hw) rfl (u1020.f (Or.inl (mAt.ne (A_126 hw) (A_106 hw) rfl)) (F1011.f (A_106 hw) rfl (F750.f (A_106 hw) rfl q_f_ties)))) (h1025.2.1.f vc_X12_say_3 (List.forall_mem_cons.mpr ⟨vc_X12_say_56, (fun _ h => absurd h List.not_mem_nil)⟩) (u1020.f (Or.inr vc_X12_say_55) q1018)) q1088 (vc_X12_say_57 hq0 h745.2.1 h1007 h740.2.1 h740.2.2.1 h767 h1004 ht_f_e0 h1 hp1 hp2 hp3 h740.1 h747 h1006 h761 h766) (vc_X12_say_58 hq1 h740.2.1 h740.2.2.1 h1094.2.1 h745.2.1 ht_f_e0 ht_f_e1 hp1 hp2 hp3 h1094.1 h740.1 h747) (vc_X12_say_59 h767 h1015.2.1 h1004 h1007 hp2 h1017 h1006 h761 h766) (vc_X12_say_60 h1090 h1086 h1085 h1089) (PK.keep hIPK hw ((mF.call (mF.up (mF.call (mF.call mF.refl F750 rfl) F1011 rfl) (A_126 hw) u1020 rfl) F1024 rfl) : mF [126999] w μ μ1022) rfl)) (gOk _ _ _ _ _) dX12_say_105 (tX12_through _ _ _ _ _) ⟨wV_X12_through, wL_X12_through⟩ wM_X12_414 (gCX12 _ _ _ _ _) rfl (A_106 hw) rfl ⟨le_t rfl, le_t rfl⟩ ⟨le_t rfl, le_t rfl⟩ rfl (le_t rfl) fun z1100 μ1096 T1097 F1098 h1099 => ?_
  obtain ⟨z1101, q1102, h1103⟩ := h1099
  have h1104 := rt7 T1097 (A_126 hw) vc_X12_say_3 q1102
  have h1105 : (-1) ≤ z1101 ∧ z1101 ≤ 9 := h1104.2.1 vc_X12_say_4
  have q1106 : μ1096 126 (((40 * 2) : Int).toNat) = z763 := q1102.trans h1103.2.2.1
  refine mr_if_eq (pc := 108) (tgt := 115) dX12_say_108 (by decide) (r32 h1103.1 rfl) (fun h1107 => ?_) (fun h1107 => ?_)
  · have h1108 : 0 ≤ z1100 ∧ z1100 ≤ 0 := (vc_X12_say_61 h1107 h1103.1)
    refine mr_iconst (pc := 115) (z := 0) dX12_say_115 ?_
    refine mr_lvS (lv' := [(0, .ref 106), (2, iv p2), (5, iv z746)]) (List.forall_mem_cons.mpr ⟨rfl, List.forall_mem_cons.mpr ⟨rfl, List.forall_mem_cons.mpr ⟨rfl, fun _ h => absurd h List.not_mem_nil⟩⟩⟩) ?_
    exact J1062 0 μ1096 T1097 (mF.call mF.refl F1098 rfl) (mG.call mG.refl h1103.2.1 (List.forall_mem_cons.mpr ⟨⟨_, List.mem_cons_self, vc_X12_say_42⟩, (fun _ h => absurd h List.not_mem_nil)⟩)) (rW (c := 0) (d := 1) (rR (x := 0)) rfl) (G1.keep hIG1 hw ((mF.call (mF.call (mF.up (mF.call (mF.call mF.refl F750 rfl) F1011 rfl) (A_126 hw) u1020 rfl) F1024 rfl) F1098 rfl) : mF [106026, 106027, 106028, 106029, 106030, 106031, 126999, 151999, 152999, 153999] w μ μ1096) rfl rfl ((mG.call (mG.call (mG.up (mG.call (mG.call mG.refl h754.1 (List.forall_mem_cons.mpr ⟨⟨_, List.mem_cons_self, vc_X12_say_9⟩, (fun _ h => absurd h List.not_mem_nil)⟩)) h1015.1 (List.forall_mem_cons.mpr ⟨⟨_, (List.mem_cons_of_mem _ List.mem_cons_self), vc_X12_say_48⟩, (fun _ h => absurd h List.not_mem_nil)⟩)) u1020 (List.mem_cons_of_mem _ List.mem_cons_self) vc_X12_say_49) h1025.2.1 (List.forall_mem_cons.mpr ⟨⟨_, (List.mem_cons_of_mem _ List.mem_cons_self), vc_X12_say_50⟩, (fun _ h => absurd h List.not_mem_nil)⟩)) h1103.2.1 (List.forall_mem_cons.mpr ⟨⟨_, (List.mem_cons_of_mem _ List.mem_cons_self), vc_X12_say_50⟩, (fun _ h => absurd h List.not_mem_nil)⟩)) : mG [((40 * 2), ((40 * 2) + 1)), ((40 * 2), ((40 * 2) + 40)), (81, (81 + 1)), (((40 * 2) + 1), ((40 * 2) + 40))] μ μ1096) (List.forall_mem_cons.mpr ⟨vc_X12_say_10, (List.forall_mem_cons.mpr ⟨vc_X12_say_52, (List.forall_mem_cons.mpr ⟨vc_X12_say_44, (List.forall_mem_cons.mpr ⟨vc_X12_say_51, (fun _ h => absurd h List.not_mem_nil)⟩)⟩)⟩)⟩)) (PK.keep hIPK hw ((mF.call (mF.call (mF.up (mF.call (mF.call mF.refl F750 rfl) F1011 rfl) (A_126 hw) u1020 rfl) F1024 rfl) F1098 rfl) : mF [106026, 106027, 106028, 106029, 106030, 106031, 126999, 151999, 152999, 153999] w μ μ1096) rfl)
  have h1109 : 1 ≤ z1100 ∧ z1100 ≤ 1 := (vc_X12_say_62 h1107 h1103.1)
  refine mr_iconst (pc := 111) (z := 1) dX12_say_111 ?_
  refine sv_goto (pc := 112) (tgt := 116) dX12_say_112 (by decide) ?_
  refine mr_lvS (lv' := [(0, .ref 106), (2, iv p2), (5, iv z746)]) (List.forall_mem_cons.mpr ⟨rfl, List.forall_mem_cons.mpr ⟨rfl, List.forall_mem_cons.mpr ⟨rfl, fun _ h => absurd h List.not_mem_nil⟩⟩⟩) ?_
  exact J1062 1 μ1096 T1097 (mF.call mF.refl F1098 rfl) (mG.call mG.refl h1103.2.1 (List.forall_mem_cons.mpr ⟨⟨_, List.mem_cons_self, vc_X12_say_42⟩, (fun _ h => absurd h List.not_mem_nil)⟩)) (rW (c := 0) (d := 1) (rR (x := 1)) rfl) (G1.keep hIG1 hw ((mF.call (mF.call (mF.up (mF.call (mF.call mF.refl F750 rfl) F1011 rfl) (A_126 hw) u1020 rfl) F1024 rfl) F1098 rfl) : mF [106026, 106027, 106028, 106029, 106030, 106031, 126999, 151999, 152999, 153999] w μ μ1096) rfl rfl ((mG.call (mG.call (mG.up (mG.call (mG.call mG.refl h754.1 (List.forall_mem_cons.mpr ⟨⟨_, List.mem_cons_self, vc_X12_say_9⟩, (fun _ h => absurd h List.not_mem_nil)⟩)) h1015.1 (List.forall_mem_cons.mpr ⟨⟨_, (List.mem_cons_of_mem _ List.mem_cons_self), vc_X12_say_48⟩, (fun _ h => absurd h List.not_mem_nil)⟩)) u1020 (List.mem_cons_of_mem _ List.mem_cons_self) vc_X12_say_49) h1025.2.1 (List.forall_mem_cons.mpr ⟨⟨_, (List.mem_cons_of_mem _ List.mem_cons_self), vc_X12_say_50⟩, (fun _ h => absurd h List.not_mem_nil)⟩)) h1103.2.1 (List.forall_mem_cons.mpr ⟨⟨_, (List.mem_cons_of_mem _ List.mem_cons_self), vc_X12_say_50⟩, (fun _ h => absurd h List.not_mem_nil)⟩)) : mG [((40 * 2), ((40 * 2) + 1)), ((40 * 2), ((40 * 2) + 40)), (81, (81 + 1)), (((40 * 2) + 1), ((40 * 2) + 40))] μ μ1096) (List.forall_mem_cons.mpr ⟨vc_X12_say_10, (List.forall_mem_cons.mpr ⟨vc_X12_say_52, (List.forall_mem_cons.mpr ⟨vc_X12_say_44, (List.forall_mem_cons.mpr ⟨vc_X12_say_51, (fun _ h => absurd h List.not_mem_nil)⟩)⟩)⟩)⟩)) (PK.keep hIPK hw ((mF.call (mF.call (mF.up (mF.call (mF.call mF.refl F750 rfl) F1011 rfl) (A_126 hw) u1020 rfl) F1024 rfl) F1098 rfl) : mF [106026, 106027, 106028, 106029, 106030, 106031, 126999, 151999, 152999, 153999] w μ μ1096) rfl)
