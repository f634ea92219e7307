def WJ_X1_goThrough_W12_3 (w : mW) (p2 : Int) (c13 : Nat) (rec1 : (Int × Int × mM) → Prop) (z1190 : Int) (z1189 : Int) (μ1191 : mM) (z1340 : Int) (z1343 : Int) (z1468 : Int) : Prop := ((z1468 = 0) → rec1 ((((z1190 + 2) + (z1340 * 5)) + (z1343 * 2)), (z1189 + 1), μ1191)) ∧ ((¬ z1468 = 0) → WP_X1_doActs_W12 w μ1191 c13 ((z1190 + 2) + (z1340 * 5)) z1343 p2 (fun μ1505 => mT w μ1505 → mF [21006, 21007, 200004, 200006, 200007, 200008, 201999, 202999] w μ1191 μ1505 → rec1 ((((z1190 + 2) + (z1340 * 5)) + (z1343 * 2)), (z1189 + 1), μ1505)))
def WL_X1_goThrough_W12_2 (w : mW) (p2 : Int) (b10 : Nat) (c13 : Nat) (rec1 : (Int × Int × mM) → Prop) (z1190 : Int) (z1189 : Int) (μ1191 : mM) (z1340 : Int) (z1343 : Int) (rec2 : (Int × Int) → Prop) (s : (Int × Int)) : Prop := ∀ z1468 : Int, ∀ z1467 : Int, s = (z1468, z1467) → (0 ≤ z1468 ∧ z1468 ≤ 1) → (2 ≤ z1467 ∧ z1467 ≤ 2010) → ((((z1190 + 2) + (z1340 * 5)) ≤ z1467) → (WJ_X1_goThrough_W12_3 w p2 c13 rec1 z1190 z1189 μ1191 z1340 z1343 z1468) ) ∧ ((z1467 < ((z1190 + 2) + (z1340 * 5))) → ((z1468 = 0) → (WJ_X1_goThrough_W12_3 w p2 c13 rec1 z1190 z1189 μ1191 z1340 z1343 z1468) ) ∧ ((¬ z1468 = 0) → WP_X1_isSo_W w μ1191 b10 z1467 (fun z1517 _ => (0 ≤ z1517 ∧ z1517 ≤ 1) → ∀ z1518 : Int, μ1191 c13 ((z1467 + 1).toNat) = z1518 → ((-2147483648) ≤ z1518 ∧ z1518 ≤ 2147483647) → ((¬ z1518 = 1) → ((z1517 = 0) → rec2 ((0 : Int), (z1467 + 5))) ∧ ((¬ z1517 = 0) → rec2 ((1 : Int), (z1467 + 5)))) ∧ ((z1518 = 1) → ((z1517 = 1) → rec2 ((0 : Int), (z1467 + 5))) ∧ ((¬ z1517 = 1) → rec2 ((1 : Int), (z1467 + 5)))))))
def WL_X1_goThrough_W12_1 (w : mW) (μ : mM) (p2 : Int) (Q : mM → Prop) (b10 : Nat) (c13 : Nat) (z14 : Int) (rec1 : (Int × Int × mM) → Prop) (s : (Int × Int × mM)) : Prop := ∀ z1190 : Int, ∀ z1189 : Int, ∀ μ1191 : mM, s = (z1190, z1189, μ1191) → (0 ≤ z1190 ∧ z1190 ≤ 2000) → (0 ≤ z1189 ∧ z1189 ≤ 30) → mT w μ1191 → mF [21006, 21007, 200004, 200006, 200007, 200008, 201999, 202999] w μ μ1191 → ((z14 ≤ z1189) → Q μ1191) ∧ ((z1189 < z14) → ∀ z1271 : Int, μ1191 21 7 = z1271 → (0 ≤ z1271 ∧ z1271 ≤ 2) → ((¬ z1271 = 0) → Q μ1191) ∧ ((z1271 = 0) → ∀ n_1336 : Int, (w.2.2.1 c13 : Int) = n_1336 → (0 ≤ n_1336 ∧ n_1336 ≤ 2000) → ∀ z1340 : Int, μ1191 c13 (z1190.toNat) = z1340 → ((-2147483648) ≤ z1340 ∧ z1340 ≤ 2147483647) → ∀ z1343 : Int, μ1191 c13 ((z1190 + 1).toNat) = z1343 → ((-2147483648) ≤ z1343 ∧ z1343 ≤ 2147483647) → loopF (WL_X1_goThrough_W12_2 w p2 b10 c13 rec1 z1190 z1189 μ1191 z1340 z1343) False 2010 ((1 : Int), (z1190 + 2))))
def WP_X1_goThrough_W12 (w : mW) (μ : mM) (p1 : Int) (p2 : Int) (Q : mM → Prop) : Prop := ((p1 < 0) → Q μ) ∧ ((0 ≤ p1) → ∀ z4 : Int, μ 21 8 = z4 → (z4 = w.2.2.2 2 ∧ 0 ≤ z4 ∧ z4 ≤ 12) → ((z4 ≤ p1) → Q μ) ∧ ((p1 < z4) → ∀ b10 : Nat, μ 22 (p1.toNat) = (b10 : Int) → mAt w b10 230 → ∀ c13 : Nat, μ b10 1 = (c13 : Int) → ∀ z14 : Int, μ b10 0 = z14 → loopF (WL_X1_goThrough_W12_1 w μ p2 Q b10 c13 z14) False 2002 ((0 : Int), (0 : Int), μ)))
theorem vc_X1_goThrough_W12_5 {p2 : Int} (h0 : 12 < p2) (h1 : 12 ≤ p2 ∧ p2 ≤ 12) : False := by omega
theorem vc_X1_goThrough_W12_6 {n2 p1 z4 : Int} (h0 : 0 ≤ p1) (h1 : z4 = n2) (h2 : p1 < z4) (h3 : 0 ≤ p1 ∧ p1 ≤ 11) (h4 : 1 ≤ z4 ∧ z4 ≤ 12) : p1 < n2 := by omega
theorem vc_X1_goThrough_W12_7 {n2 p1 z4 : Int} (h0 : 0 ≤ p1) (h1 : p1 < z4) (h2 : z4 = n2) (h3 : 0 ≤ p1 ∧ p1 ≤ 11) (h4 : 1 ≤ z4 ∧ z4 ≤ 12) : 0 ≤ p1 := by omega
theorem vc_X1_goThrough_W12_8 {z1190 : Int} (h0 : (2001 - z1190) < ((0 : Nat) : Int)) (h1 : 0 ≤ z1190 ∧ z1190 ≤ 2000) : False := by omega
theorem vc_X1_goThrough_W12_13 {z1190 : Int} (h0 : 0 ≤ z1190 ∧ z1190 ≤ 2000) : 0 ≤ z1190 := by omega
theorem vc_X1_goThrough_W12_14 {z1189 z14 : Int} (h0 : z1189 < z14) (h1 : 0 ≤ z1189 ∧ z1189 ≤ 29) (h2 : 1 ≤ z14 ∧ z14 ≤ 30) : z1189 < z14 := by omega
theorem vc_X1_goThrough_W12_15 {n_1336 z1190 : Int} (h0 : z1190 + 1 < n_1336) (h1 : 0 ≤ n_1336 ∧ n_1336 ≤ 2000) (h2 : 0 ≤ z1190 ∧ z1190 ≤ 2000) : 0 ≤ z1190 ∧ z1190 < n_1336 := by omega
theorem vc_X1_goThrough_W12_16 {n_1336 z1190 : Int} (h0 : z1190 + 1 < n_1336) (h1 : 0 ≤ n_1336 ∧ n_1336 ≤ 2000) (h2 : 0 ≤ z1190 ∧ z1190 ≤ 2000) : 0 ≤ (z1190 + 1) ∧ (z1190 + 1) < n_1336 := by omega
theorem vc_X1_goThrough_W12_17 {n_1336 z1190 z1340 z1343 : Int} (h0 : 0 ≤ z1340 ∧ 0 ≤ z1343 ∧ z1190 + 2 + 5 * z1340 + 2 * z1343 ≤ n_1336) (h1 : z1190 + 1 < n_1336) (h2 : 0 ≤ n_1336 ∧ n_1336 ≤ 2000) (h3 : 0 ≤ z1190 ∧ z1190 ≤ 2000) (h4 : (-2147483648) ≤ z1340 ∧ z1340 ≤ 2147483647) (h5 : (-2147483648) ≤ z1343 ∧ z1343 ≤ 2147483647) : 0 ≤ z1340 ∧ z1340 ≤ 400 := by omega
theorem vc_X1_goThrough_W12_18 {n_1336 z1190 z1340 z1343 : Int} (h0 : 0 ≤ z1340 ∧ 0 ≤ z1343 ∧ z1190 + 2 + 5 * z1340 + 2 * z1343 ≤ n_1336) (h1 : z1190 + 1 < n_1336) (h2 : 0 ≤ n_1336 ∧ n_1336 ≤ 2000) (h3 : 0 ≤ z1190 ∧ z1190 ≤ 2000) (h4 : 0 ≤ z1340 ∧ z1340 ≤ 400) (h5 : (-2147483648) ≤ z1343 ∧ z1343 ≤ 2147483647) : 0 ≤ z1343 ∧ z1343 ≤ 1000 := by omega
theorem vc_X1_goThrough_W12_19 {n_1336 z1190 z1340 z1343 z1467 : Int} (h0 : (2011 - z1467) < ((0 : Nat) : Int)) (h1 : (((z1190 + 2) + (z1340 * 5)) - z1467) % 5 = 0) (h2 : z1190 + 1 < n_1336) (h3 : 0 ≤ z1340 ∧ 0 ≤ z1343 ∧ z1190 + 2 + 5 * z1340 + 2 * z1343 ≤ n_1336) (h4 : 0 ≤ n_1336 ∧ n_1336 ≤ 2000) (h5 : 0 ≤ z1190 ∧ z1190 ≤ 2000) (h6 : 0 ≤ z1340 ∧ z1340 ≤ 400) (h7 : 0 ≤ z1343 ∧ z1343 ≤ 1000) (h8 : 2 ≤ z1467 ∧ z1467 ≤ 2010) : False := by omega
theorem vc_X1_goThrough_W12_21 {n_1336 z1190 z1340 z1343 z1467 : Int} (h0 : z1190 + 1 < n_1336) (h1 : 0 ≤ z1340 ∧ 0 ≤ z1343 ∧ z1190 + 2 + 5 * z1340 + 2 * z1343 ≤ n_1336) (h2 : (((z1190 + 2) + (z1340 * 5)) - z1467) % 5 = 0) (h3 : 0 ≤ n_1336 ∧ n_1336 ≤ 2000) (h4 : 0 ≤ z1190 ∧ z1190 ≤ 2000) (h5 : 0 ≤ z1340 ∧ z1340 ≤ 400) (h6 : 0 ≤ z1343 ∧ z1343 ≤ 1000) (h7 : 2 ≤ z1467 ∧ z1467 ≤ 2010) : 0 ≤ (((z1190 + 2) + (z1340 * 5)) + (z1343 * 2)) ∧ (((z1190 + 2) + (z1340 * 5)) + (z1343 * 2)) ≤ 2000 := by omega
theorem vc_X1_goThrough_W12_22 {N n_1336 z1190 z1340 z1343 z1467 : Int} (h0 : (2001 - z1190) < N + 1) (h1 : z1190 + 1 < n_1336) (h2 : 0 ≤ z1340 ∧ 0 ≤ z1343 ∧ z1190 + 2 + 5 * z1340 + 2 * z1343 ≤ n_1336) (h3 : (((z1190 + 2) + (z1340 * 5)) - z1467) % 5 = 0) (h4 : 0 ≤ n_1336 ∧ n_1336 ≤ 2000) (h5 : 0 ≤ z1190 ∧ z1190 ≤ 2000) (h6 : 0 ≤ z1340 ∧ z1340 ≤ 400) (h7 : 0 ≤ z1343 ∧ z1343 ≤ 1000) (h8 : 2 ≤ z1467 ∧ z1467 ≤ 2010) : (2001 - (((z1190 + 2) + (z1340 * 5)) + (z1343 * 2))) < N := by omega
theorem vc_X1_goThrough_W12_23 {n_1336 z1190 z1340 z1343 z1467 : Int} (h0 : z1190 + 1 < n_1336) (h1 : 0 ≤ z1340 ∧ 0 ≤ z1343 ∧ z1190 + 2 + 5 * z1340 + 2 * z1343 ≤ n_1336) (h2 : (((z1190 + 2) + (z1340 * 5)) - z1467) % 5 = 0) (h3 : 0 ≤ n_1336 ∧ n_1336 ≤ 2000) (h4 : 0 ≤ z1190 ∧ z1190 ≤ 2000) (h5 : 0 ≤ z1340 ∧ z1340 ≤ 400) (h6 : 0 ≤ z1343 ∧ z1343 ≤ 1000) (h7 : 2 ≤ z1467 ∧ z1467 ≤ 2010) : (((z1190 + 2) + (z1340 * 5)) + (z1343 * 2)) = z1190 + 2 + 5 * z1340 + 2 * z1343 := by omega
theorem vc_X1_goThrough_W12_25 {n_1336 z1190 z1340 z1343 z1467 : Int} (h0 : z1190 + 1 < n_1336) (h1 : 0 ≤ z1340 ∧ 0 ≤ z1343 ∧ z1190 + 2 + 5 * z1340 + 2 * z1343 ≤ n_1336) (h2 : (((z1190 + 2) + (z1340 * 5)) - z1467) % 5 = 0) (h3 : 0 ≤ n_1336 ∧ n_1336 ≤ 2000) (h4 : 0 ≤ z1190 ∧ z1190 ≤ 2000) (h5 : 0 ≤ z1340 ∧ z1340 ≤ 400) (h6 : 0 ≤ z1343 ∧ z1343 ≤ 1000) (h7 : 2 ≤ z1467 ∧ z1467 ≤ 2010) : 0 ≤ ((z1190 + 2) + (z1340 * 5)) ∧ ((z1190 + 2) + (z1340 * 5)) ≤ 2000 := by omega
theorem vc_X1_goThrough_W12_26 {n_1336 z1190 z1340 z1343 z1467 : Int} (h0 : z1190 + 1 < n_1336) (h1 : 0 ≤ z1340 ∧ 0 ≤ z1343 ∧ z1190 + 2 + 5 * z1340 + 2 * z1343 ≤ n_1336) (h2 : (((z1190 + 2) + (z1340 * 5)) - z1467) % 5 = 0) (h3 : 0 ≤ n_1336 ∧ n_1336 ≤ 2000) (h4 : 0 ≤ z1190 ∧ z1190 ≤ 2000) (h5 : 0 ≤ z1340 ∧ z1340 ≤ 400) (h6 : 0 ≤ z1343 ∧ z1343 ≤ 1000) (h7 : 2 ≤ z1467 ∧ z1467 ≤ 2010) : ((z1190 + 2) + (z1340 * 5)) + 2 * z1343 ≤ n_1336 := by omega
theorem vc_X1_goThrough_W12_27 {n_1336 z1190 z1340 z1343 z1467 : Int} (h0 : z1190 + 1 < n_1336) (h1 : 0 ≤ z1340 ∧ 0 ≤ z1343 ∧ z1190 + 2 + 5 * z1340 + 2 * z1343 ≤ n_1336) (h2 : (((z1190 + 2) + (z1340 * 5)) - z1467) % 5 = 0) (h3 : 0 ≤ n_1336 ∧ n_1336 ≤ 2000) (h4 : 0 ≤ z1190 ∧ z1190 ≤ 2000) (h5 : 0 ≤ z1340 ∧ z1340 ≤ 400) (h6 : 0 ≤ z1343 ∧ z1343 ≤ 1000) (h7 : 2 ≤ z1467 ∧ z1467 ≤ 2010) : ((z1190 + 2) + (z1340 * 5)) = z1190 + 2 + 5 * z1340 := by omega
theorem vc_X1_goThrough_W12_28 {n_1336 z1190 z1340 z1343 z1467 : Int} (h0 : (((z1190 + 2) + (z1340 * 5)) - z1467) % 5 = 0) (h1 : z1467 < ((z1190 + 2) + (z1340 * 5))) (h2 : z1190 + 1 < n_1336) (h3 : 0 ≤ z1340 ∧ 0 ≤ z1343 ∧ z1190 + 2 + 5 * z1340 + 2 * z1343 ≤ n_1336) (h4 : 0 ≤ n_1336 ∧ n_1336 ≤ 2000) (h5 : 0 ≤ z1190 ∧ z1190 ≤ 2000) (h6 : 0 ≤ z1340 ∧ z1340 ≤ 400) (h7 : 0 ≤ z1343 ∧ z1343 ≤ 1000) (h8 : 2 ≤ z1467 ∧ z1467 ≤ 2010) : 0 ≤ z1467 ∧ z1467 ≤ 2000 := by omega
theorem vc_X1_goThrough_W12_29 {n_1336 z1190 z1340 z1343 z1467 : Int} (h0 : z1190 + 1 < n_1336) (h1 : 0 ≤ z1340 ∧ 0 ≤ z1343 ∧ z1190 + 2 + 5 * z1340 + 2 * z1343 ≤ n_1336) (h2 : (((z1190 + 2) + (z1340 * 5)) - z1467) % 5 = 0) (h3 : z1467 < ((z1190 + 2) + (z1340 * 5))) (h4 : 0 ≤ n_1336 ∧ n_1336 ≤ 2000) (h5 : 0 ≤ z1190 ∧ z1190 ≤ 2000) (h6 : 0 ≤ z1340 ∧ z1340 ≤ 400) (h7 : 0 ≤ z1343 ∧ z1343 ≤ 1000) (h8 : 2 ≤ z1467 ∧ z1467 ≤ 2010) : z1467 + 4 < n_1336 := by omega
theorem vc_X1_goThrough_W12_30 {n_1336 z1190 z1340 z1343 z1467 : Int} (h0 : z1190 + 1 < n_1336) (h1 : 0 ≤ z1340 ∧ 0 ≤ z1343 ∧ z1190 + 2 + 5 * z1340 + 2 * z1343 ≤ n_1336) (h2 : (((z1190 + 2) + (z1340 * 5)) - z1467) % 5 = 0) (h3 : z1467 < ((z1190 + 2) + (z1340 * 5))) (h4 : 0 ≤ n_1336 ∧ n_1336 ≤ 2000) (h5 : 0 ≤ z1190 ∧ z1190 ≤ 2000) (h6 : 0 ≤ z1340 ∧ z1340 ≤ 400) (h7 : 0 ≤ z1343 ∧ z1343 ≤ 1000) (h8 : 2 ≤ z1467 ∧ z1467 ≤ 2010) : 0 ≤ (z1467 + 1) ∧ (z1467 + 1) < n_1336 := by omega
theorem vc_X1_goThrough_W12_32 {n_1336 z1190 z1340 z1343 z1467 : Int} (h0 : (((z1190 + 2) + (z1340 * 5)) - z1467) % 5 = 0) (h1 : z1467 < ((z1190 + 2) + (z1340 * 5))) (h2 : z1190 + 1 < n_1336) (h3 : 0 ≤ z1340 ∧ 0 ≤ z1343 ∧ z1190 + 2 + 5 * z1340 + 2 * z1343 ≤ n_1336) (h4 : 0 ≤ n_1336 ∧ n_1336 ≤ 2000) (h5 : 0 ≤ z1190 ∧ z1190 ≤ 2000) (h6 : 0 ≤ z1340 ∧ z1340 ≤ 400) (h7 : 0 ≤ z1343 ∧ z1343 ≤ 1000) (h8 : 2 ≤ z1467 ∧ z1467 ≤ 2010) : 2 ≤ (z1467 + 5) ∧ (z1467 + 5) ≤ 2010 := by omega
theorem vc_X1_goThrough_W12_33 {n_1336 z1190 z1340 z1343 z1467 : Int} (h0 : z1190 + 1 < n_1336) (h1 : 0 ≤ z1340 ∧ 0 ≤ z1343 ∧ z1190 + 2 + 5 * z1340 + 2 * z1343 ≤ n_1336) (h2 : (((z1190 + 2) + (z1340 * 5)) - z1467) % 5 = 0) (h3 : z1467 < ((z1190 + 2) + (z1340 * 5))) (h4 : 0 ≤ n_1336 ∧ n_1336 ≤ 2000) (h5 : 0 ≤ z1190 ∧ z1190 ≤ 2000) (h6 : 0 ≤ z1340 ∧ z1340 ≤ 400) (h7 : 0 ≤ z1343 ∧ z1343 ≤ 1000) (h8 : 2 ≤ z1467 ∧ z1467 ≤ 2010) : (((z1190 + 2) + (z1340 * 5)) - (z1467 + 5)) % 5 = 0 := by omega
theorem vc_X1_goThrough_W12_34 {N n_1336 z1190 z1340 z1343 z1467 : Int} (h0 : (2011 - z1467) < N + 1) (h1 : (((z1190 + 2) + (z1340 * 5)) - z1467) % 5 = 0) (h2 : z1467 < ((z1190 + 2) + (z1340 * 5))) (h3 : z1190 + 1 < n_1336) (h4 : 0 ≤ z1340 ∧ 0 ≤ z1343 ∧ z1190 + 2 + 5 * z1340 + 2 * z1343 ≤ n_1336) (h5 : 0 ≤ n_1336 ∧ n_1336 ≤ 2000) (h6 : 0 ≤ z1190 ∧ z1190 ≤ 2000) (h7 : 0 ≤ z1340 ∧ z1340 ≤ 400) (h8 : 0 ≤ z1343 ∧ z1343 ≤ 1000) (h9 : 2 ≤ z1467 ∧ z1467 ≤ 2010) : (2011 - (z1467 + 5)) < N := by omega
theorem vc_X1_goThrough_W12_37 {z1517 : Int} (h0 : z1517 = 1) (h1 : 0 ≤ z1517 ∧ z1517 ≤ 1) : 1 ≤ z1517 ∧ z1517 ≤ 1 := by omega
theorem vc_X1_goThrough_W12_38 {z1517 : Int} (h0 : ¬ z1517 = 1) (h1 : 0 ≤ z1517 ∧ z1517 ≤ 1) : 0 ≤ z1517 ∧ z1517 ≤ 0 := by omega
theorem vc_X1_goThrough_W12_39 {n_1336 z1190 z1340 z1343 : Int} (h0 : z1190 + 1 < n_1336) (h1 : 0 ≤ z1340 ∧ 0 ≤ z1343 ∧ z1190 + 2 + 5 * z1340 + 2 * z1343 ≤ n_1336) (h2 : 0 ≤ n_1336 ∧ n_1336 ≤ 2000) (h3 : 0 ≤ z1190 ∧ z1190 ≤ 2000) (h4 : 0 ≤ z1340 ∧ z1340 ≤ 400) (h5 : 0 ≤ z1343 ∧ z1343 ≤ 1000) : (((z1190 + 2) + (z1340 * 5)) - (z1190 + 2)) % 5 = 0 := by omega
theorem vc_X1_goThrough_W12_40 {n_1336 z1190 z1340 z1343 : Int} (h0 : z1190 + 1 < n_1336) (h1 : 0 ≤ z1340 ∧ 0 ≤ z1343 ∧ z1190 + 2 + 5 * z1340 + 2 * z1343 ≤ n_1336) (h2 : 0 ≤ n_1336 ∧ n_1336 ≤ 2000) (h3 : 0 ≤ z1190 ∧ z1190 ≤ 2000) (h4 : 0 ≤ z1340 ∧ z1340 ≤ 400) (h5 : 0 ≤ z1343 ∧ z1343 ≤ 1000) : (2011 - (z1190 + 2)) < ((2010 : Nat) : Int) := by omega
theorem vc_X1_goThrough_W12_41  : (2001 - 0) < ((2002 : Nat) : Int) := by omega
set_option maxRecDepth 4000 in
set_option maxHeartbeats 4000000 in
theorem c_X1_goThrough_W12 {l : Launch} {D : va_G} {c : Nat → ClassId} {H0 : Heap} {sa : Nat × Nat × (Nat → Int32)} {w : mW} {μ : mM} (hw : mWF w) (hT : mT w μ) {p1 : Int} (hp1 : (-2147483648) ≤ p1 ∧ p1 ≤ 2147483647) {p2 : Int} (hp2 : 12 ≤ p2 ∧ p2 ≤ 12) (hIPC : PC w μ) (hIRT : RT μ) {Q : mM → Prop} (hQ : WP_X1_goThrough_W12 w μ p1 p2 Q) : sC (gG l D c H0 sa) mX1_goThrough 5 0 0 [.ref 21, iv p1, iv p2] (mk w μ) (qV w [21006, 21007, 200004, 200006, 200007, 200008, 201999, 202999] μ (fun μ1 => Q μ1 ∧ True)) := by
  refine sC.of rfl (by decide) (le_t rfl) ?_
  refine mr_lvE (lv' := [(0, .ref 21), (1, iv p1), (2, iv p2)]) rfl ?_
  refine mr_iload_n (pc := 0) (z := p1) dX1_goThrough_0 rfl rfl ?_
  refine mr_if_lt (pc := 1) (tgt := 18) dX1_goThrough_1 (by decide) hp1 (fun h1 => ?_) (fun h1 => ?_)
  · have h2 : (-2147483648) ≤ p1 ∧ p1 ≤ (-1) := (vc_X12_ring_60 h1 hp1)
    exact mr_vret dX1_goThrough_18 rfl (le_t rfl) (le_t rfl) hT mF.refl ⟨(hQ.1 h1), trivial⟩
  have h3 : 0 ≤ p1 ∧ p1 ≤ 2147483647 := (vc_X12_ring_1 h1 hp1)
  refine mr_iload_n (pc := 4) (z := p1) dX1_goThrough_4 rfl rfl ?_
  refine sv_aload_n (pc := 5) dX1_goThrough_5 rfl rfl ?_
  refine gf_X1_8 (pc := 6) dX1_goThrough_6 wF_X1_21 (A_21 hw) hT fun z4 q5 h6 => ?_
  refine mr_icmp_ge (pc := 9) (tgt := 18) dX1_goThrough_9 (by decide) (r32 h3 rfl) (r32 h6.2 rfl) (fun h7 => ?_) (fun h7 => ?_)
  · exact mr_vret dX1_goThrough_18 rfl (le_t rfl) (le_t rfl) hT mF.refl ⟨(((hQ.2 h1) z4 q5 h6).1 h7), trivial⟩
  have h8 : 0 ≤ p1 ∧ p1 ≤ 11 := (vc_X1_goThrough_W13_3 h7 h1 h6.1 h3 h6.2)
  have h9 : 1 ≤ z4 ∧ z4 ≤ 12 := (vc_X1_goThrough_W13_4 h7 h1 h6.1 h8 h6.2)
  refine mr_iload_n (pc := 12) (z := p2) dX1_goThrough_12 rfl rfl ?_
  refine mr_bipush (pc := 13) (z := 12) dX1_goThrough_13 (by decide) ?_
  refine mr_icmp_le (pc := 15) (tgt := 19) dX1_goThrough_15 (by decide) (r32 hp2 rfl) (r32 (rR (x := 12)) rfl) (fun _ => ?_) (fun h => ((vc_X1_goThrough_W12_5 h hp2)).elim)
  refine sv_aload_n (pc := 19) dX1_goThrough_19 rfl rfl ?_
  refine gf_X1_1 (pc := 20) dX1_goThrough_20 wF_X1_17 (A_21 hw) hT ?_
  refine mr_iload_n (pc := 23) (z := p1) dX1_goThrough_23 rfl rfl ?_
  refine la_22 (pc := 24) dX1_goThrough_24 (A_22 hw) hT (rIx (n := 12) h8 rfl) (vc_X1_goThrough_W12_6 h1 h6.1 h7 h8 h9) fun b10 q11 A12 => ?_
  refine mr_astore_n (pc := 25) (lv' := [(3, .ref b10), (0, .ref 21), (1, iv p1), (2, iv p2)]) dX1_goThrough_25 rfl (by decide) rfl ?_
  obtain ⟨c13, z14, q15, A16, q17, R18, e19, e20⟩ := PC.read hIPC hT A12 (vc_X1_goThrough_W12_7 h1 h7 h6.1 h8 h9) (vc_X1_goThrough_W12_6 h1 h6.1 h7 h8 h9) q11
  have h21 : 0 ≤ z14 ∧ z14 ≤ 30 := by rw [← q17]; exact hT _ _ A12 0
  refine mr_iconst (pc := 26) (z := 0) dX1_goThrough_26 ?_
  refine mr_istore (pc := 27) (lv' := [(4, iv 0), (3, .ref b10), (0, .ref 21), (1, iv p1), (2, iv p2)]) dX1_goThrough_27 (by decide) rfl ?_
  refine mr_iconst (pc := 29) (z := 0) dX1_goThrough_29 ?_
  refine mr_istore (pc := 30) (lv' := [(5, iv 0), (4, iv 0), (3, .ref b10), (0, .ref 21), (1, iv p1), (2, iv p2)]) dX1_goThrough_30 (by decide) rfl ?_
  have L1192 : ∀ (nL1192 : Nat) (z1190 z1189 : Int) (μ1191 : mM), mT w μ1191 → mF [21006, 21007, 200004, 200006, 200007, 200008, 201999, 202999] w μ μ1191 → (0 ≤ z1190 ∧ z1190 ≤ 2000) → (0 ≤ z1189 ∧ z1189 ≤ 30) → PC w μ1191 → RT μ1191 → wfR (μ c13) (w.2.2.1 c13) (z1190).toNat (z14 - z1189).toNat → (2001 - z1190) < (nL1192 : Int) → loopF (WL_X1_goThrough_W12_1 w μ p2 Q b10 c13 z14) False nL1192 (z1190, z1189, μ1191) → sV (gG l D c H0 sa) mX1_goThrough (sRm 5 0 0) (sZ (gG l D c H0 sa) 0 0 (qV w [21006, 21007, 200004, 200006, 200007, 200008, 201999, 202999] μ (fun μ1 => Q μ1 ∧ True))) 32 [(0, .ref 21), (2, iv p2), (3, .ref b10), (4, iv z1190), (5, iv z1189)] [] (mk w μ1191) 0 0 := by
    intro nL1192
    induction nL1192 with
    | zero => intro z1190 z1189 μ1191 T1195 F1196 h1193 h1194 I1198 I1199 R1200 h1201 W1202; exact ((vc_X1_goThrough_W12_8 h1201 h1193)).elim
    | succ nL1192 ih1203 =>
      intro z1190 z1189 μ1191 T1195 F1196 h1193 h1194 I1198 I1199 R1200 h1201 W1202
      refine mr_iload (pc := 32) (z := z1189) dX1_goThrough_32 rfl ?_
      refine sv_aload_n (pc := 34) dX1_goThrough_34 rfl rfl ?_
      refine gk_X5_0 (pc := 35) dX1_goThrough_35 wF_X1_57 A12 (F1196.f A12 rfl q17) ?_
      refine mr_icmp_ge (pc := 38) (tgt := 174) dX1_goThrough_38 (by decide) (r32 h1194 rfl) (r32 h21 rfl) (fun h1268 => ?_) (fun h1268 => ?_)
      · exact mr_vret dX1_goThrough_174 rfl (le_t rfl) (le_t rfl) T1195 (mF.call mF.refl F1196 rfl) ⟨((W1202 z1190 z1189 μ1191 rfl h1193 h1194 T1195 F1196).1 h1268), trivial⟩
      have h1269 : 0 ≤ z1189 ∧ z1189 ≤ 29 := (vc_X12_judgedAnew_2 h1268 h1194 h21)
      have h1270 : 1 ≤ z14 ∧ z14 ≤ 30 := (vc_X12_judgedAnew_3 h1268 h1269 h21)
      refine sv_aload_n (pc := 41) dX1_goThrough_41 rfl rfl ?_
      refine gf_X1_7 (pc := 42) dX1_goThrough_42 wF_X1_50 (A_21 hw) T1195 fun z1271 q1272 h1273 => ?_
      refine mr_if_ne (pc := 45) (tgt := 174) dX1_goThrough_45 (by decide) (r32 h1273 rfl) (fun h1333 => ?_) (fun h1333 => ?_)
      · have h1334 : 1 ≤ z1271 ∧ z1271 ≤ 2 := (vc_X12_provides_3 h1333 h1273)
        exact mr_vret dX1_goThrough_174 rfl (le_t rfl) (le_t rfl) T1195 (mF.call mF.refl F1196 rfl) ⟨((((W1202 z1190 z1189 μ1191 rfl h1193 h1194 T1195 F1196).2 h1268) z1271 q1272 h1273).1 h1333), trivial⟩
      have h1335 : 0 ≤ z1271 ∧ z1271 ≤ 0 := (vc_X12_provides_4 h1333 h1273)
      obtain ⟨n_1336, q1337⟩ : ∃ n : Int, (w.2.2.1 c13 : Int) = n := ⟨_, rfl⟩
      have h1338 : 0 ≤ n_1336 ∧ n_1336 ≤ 2000 := lnR (m := 2000) q1337 A16 rfl
      have h1339 : z1190 + 1 < n_1336 := lnLt q1337 (wfR.hd R1200 (vc_X1_goThrough_W12_13 h1193) (vc_X1_goThrough_W12_14 h1268 h1269 h1270))
      refine sv_aload_n (pc := 48) dX1_goThrough_48 rfl rfl ?_
      refine gk_X5_1 (pc := 49) dX1_goThrough_49 wF_X1_60 A12 (F1196.f A12 rfl q15) ?_
      refine mr_iload (pc := 52) (z := z1190) dX1_goThrough_52 rfl ?_
      refine la_231 (pc := 54) dX1_goThrough_54 A16 T1195 (lnC q1337 (vc_X1_goThrough_W12_15 h1339 h1338 h1193)) fun z1340 q1341 h1342 => ?_
      refine mr_istore (pc := 55) (lv' := [(6, iv z1340), (0, .ref 21), (2, iv p2), (3, .ref b10), (4, iv z1190), (5, iv z1189)]) dX1_goThrough_55 (by decide) rfl ?_
      refine sv_aload_n (pc := 57) dX1_goThrough_57 rfl rfl ?_
      refine gk_X5_1 (pc := 58) dX1_goThrough_58 wF_X1_60 A12 (F1196.f A12 rfl q15) ?_
      refine mr_iload (pc := 61) (z := z1190) dX1_goThrough_61 rfl ?_
      refine mr_iconst (pc := 63) (z := 1) dX1_goThrough_63 ?_
      refine mr_iadd (pc := 64) (x := z1190) (y := 1) dX1_goThrough_64 ?_
      refine la_231 (pc := 65) dX1_goThrough_65 A16 T1195 (lnC q1337 (vc_X1_goThrough_W12_16 h1339 h1338 h1193)) fun z1343 q1344 h1345 => ?_
      have B1346 := wfR.bd R1200 (vc_X1_goThrough_W12_13 h1193) (vc_X1_goThrough_W12_14 h1268 h1269 h1270) ((((mF.call mF.refl F1196 rfl) : mF [21006, 21007, 200004, 200006, 200007, 200008, 201999, 202999] w μ μ1191).f A16 rfl rfl).symm.trans q1341) ((((mF.call mF.refl F1196 rfl) : mF [21006, 21007, 200004, 200006, 200007, 200008, 201999, 202999] w μ μ1191).f A16 rfl rfl).symm.trans q1344)
      have h1347 : 0 ≤ z1340 ∧ 0 ≤ z1343 ∧ z1190 + 2 + 5 * z1340 + 2 * z1343 ≤ n_1336 := ⟨B1346.1.1, B1346.1.2.1, lnLe q1337 B1346.1.2.2⟩
      have h1348 : 0 ≤ z1340 ∧ z1340 ≤ 400 := (vc_X1_goThrough_W12_17 h1347 h1339 h1338 h1193 h1342 h1345)
      have h1349 : 0 ≤ z1343 ∧ z1343 ≤ 1000 := (vc_X1_goThrough_W12_18 h1347 h1339 h1338 h1193 h1348 h1345)
      refine mr_istore (pc := 66) (lv' := [(7, iv z1343), (6, iv z1340), (0, .ref 21), (2, iv p2), (3, .ref b10), (4, iv z1190), (5, iv z1189)]) dX1_goThrough_66 (by decide) rfl ?_
      refine mr_iload (pc := 68) (z := z1190) dX1_goThrough_68 rfl ?_
      refine mr_iconst (pc := 70) (z := 2) dX1_goThrough_70 ?_
      refine mr_iadd (pc := 71) (x := z1190) (y := 2) dX1_goThrough_71 ?_
      refine mr_iload (pc := 72) (z := z1340) dX1_goThrough_72 rfl ?_
      refine mr_iconst (pc := 74) (z := 5) dX1_goThrough_74 ?_
      refine mr_imul (pc := 75) (x := z1340) (y := 5) dX1_goThrough_75 ?_
      refine mr_iadd (pc := 76) (x := (z1190 + 2)) (y := (z1340 * 5)) dX1_goThrough_76 ?_
      refine mr_istore (pc := 77) (lv' := [(8, iv ((z1190 + 2) + (z1340 * 5))), (7, iv z1343), (6, iv z1340), (0, .ref 21), (2, iv p2), (3, .ref b10), (4, iv z1190), (5, iv z1189)]) dX1_goThrough_77 (by decide) rfl ?_
      refine mr_iconst (pc := 79) (z := 1) dX1_goThrough_79 ?_
      refine mr_istore (pc := 80) (lv' := [(9, iv 1), (8, iv ((z1190 + 2) + (z1340 * 5))), (7, iv z1343), (6, iv z1340), (0, .ref 21), (2, iv p2), (3, .ref b10), (4, iv z1190), (5, iv z1189)]) dX1_goThrough_80 (by decide) rfl ?_
      refine mr_iload (pc := 82) (z := z1190) dX1_goThrough_82 rfl ?_
      refine mr_iconst (pc := 84) (z := 2) dX1_goThrough_84 ?_
      refine mr_iadd (pc := 85) (x := z1190) (y := 2) dX1_goThrough_85 ?_
      refine mr_istore (pc := 86) (lv' := [(10, iv (z1190 + 2)), (9, iv 1), (8, iv ((z1190 + 2) + (z1340 * 5))), (7, iv z1343), (6, iv z1340), (0, .ref 21), (2, iv p2), (3, .ref b10), (4, iv z1190), (5, iv z1189)]) dX1_goThrough_86 (by decide) rfl ?_
      have L1469 : ∀ (nL1469 : Nat) (z1468 z1467 : Int), True → (0 ≤ z1468 ∧ z1468 ≤ 1) → (2 ≤ z1467 ∧ z1467 ≤ 2010) → ((((z1190 + 2) + (z1340 * 5)) - z1467) % 5 = 0) → (2011 - z1467) < (nL1469 : Int) → loopF (WL_X1_goThrough_W12_2 w p2 b10 c13 (loopF (WL_X1_goThrough_W12_1 w μ p2 Q b10 c13 z14) False nL1192) z1190 z1189 μ1191 z1340 z1343) False nL1469 (z1468, z1467) → sV (gG l D c H0 sa) mX1_goThrough (sRm 5 0 0) (sZ (gG l D c H0 sa) 0 0 (qV w [21006, 21007, 200004, 200006, 200007, 200008, 201999, 202999] μ (fun μ1 => Q μ1 ∧ True))) 88 [(0, .ref 21), (2, iv p2), (3, .ref b10), (5, iv z1189), (7, iv z1343), (8, iv ((z1190 + 2) + (z1340 * 5))), (9, iv z1468), (10, iv z1467)] [] (mk w μ1191) 0 0 := by
        intro nL1469
        induction nL1469 with
        | zero => intro z1468 z1467 _ h1470 h1471 h1475 h1476 W1477; exact ((vc_X1_goThrough_W12_19 h1476 h1475 h1339 h1347 h1338 h1193 h1348 h1349 h1471)).elim
        | succ nL1469 ih1478 =>
          intro z1468 z1467 _ h1470 h1471 h1475 h1476 W1477
          refine mr_iload (pc := 88) (z := z1467) dX1_goThrough_88 rfl ?_
          refine mr_iload (pc := 90) (z := ((z1190 + 2) + (z1340 * 5))) dX1_goThrough_90 rfl ?_
          have J1494 : ((WJ_X1_goThrough_W12_3 w p2 c13 (loopF (WL_X1_goThrough_W12_1 w μ p2 Q b10 c13 z14) False nL1192) z1190 z1189 μ1191 z1340 z1343 z1468) ) → sV (gG l D c H0 sa) mX1_goThrough (sRm 5 0 0) (sZ (gG l D c H0 sa) 0 0 (qV w [21006, 21007, 200004, 200006, 200007, 200008, 201999, 202999] μ (fun μ1 => Q μ1 ∧ True))) 141 [(0, .ref 21), (2, iv p2), (3, .ref b10), (5, iv z1189), (7, iv z1343), (8, iv ((z1190 + 2) + (z1340 * 5))), (9, iv z1468)] [] (mk w μ1191) 0 0 := by
            intro W1495
            refine mr_iload (pc := 141) (z := z1468) dX1_goThrough_141 rfl ?_
            refine mr_if_eq (pc := 143) (tgt := 159) dX1_goThrough_143 (by decide) (r32 h1470 rfl) (fun h1502 => ?_) (fun h1502 => ?_)
            · have h1503 : 0 ≤ z1468 ∧ z1468 ≤ 0 := (vc_X12_ring_22 h1502 h1470)
              refine mr_iload (pc := 159) (z := ((z1190 + 2) + (z1340 * 5))) dX1_goThrough_159 rfl ?_
              refine mr_iload (pc := 161) (z := z1343) dX1_goThrough_161 rfl ?_
              refine mr_iconst (pc := 163) (z := 2) dX1_goThrough_163 ?_
              refine mr_imul (pc := 164) (x := z1343) (y := 2) dX1_goThrough_164 ?_
              refine mr_iadd (pc := 165) (x := ((z1190 + 2) + (z1340 * 5))) (y := (z1343 * 2)) dX1_goThrough_165 ?_
              refine mr_istore (pc := 166) (lv' := [(4, iv (((z1190 + 2) + (z1340 * 5)) + (z1343 * 2))), (0, .ref 21), (2, iv p2), (3, .ref b10), (5, iv z1189), (7, iv z1343), (8, iv ((z1190 + 2) + (z1340 * 5))), (9, iv z1468)]) dX1_goThrough_166 (by decide) rfl ?_
              refine mr_iinc (pc := 168) (lv' := [(5, iv (z1189 + 1)), (4, iv (((z1190 + 2) + (z1340 * 5)) + (z1343 * 2))), (0, .ref 21), (2, iv p2), (3, .ref b10), (7, iv z1343), (8, iv ((z1190 + 2) + (z1340 * 5))), (9, iv z1468)]) dX1_goThrough_168 rfl (by decide) rfl ?_
              refine sv_goto (pc := 171) (tgt := 32) dX1_goThrough_171 (by decide) ?_
              refine mr_lvS (lv' := [(0, .ref 21), (2, iv p2), (3, .ref b10), (4, iv (((z1190 + 2) + (z1340 * 5)) + (z1343 * 2))), (5, iv (z1189 + 1))]) (List.forall_mem_cons.mpr ⟨rfl, List.forall_mem_cons.mpr ⟨rfl, List.forall_mem_cons.mpr ⟨rfl, List.forall_mem_cons.mpr ⟨rfl, List.forall_mem_cons.mpr ⟨rfl, fun _ h => absurd h List.not_mem_nil⟩⟩⟩⟩⟩) ?_
              exact ih1203 (((z1190 + 2) + (z1340 * 5)) + (z1343 * 2)) (z1189 + 1) μ1191 T1195 (mF.call mF.refl F1196 rfl) (vc_X1_goThrough_W12_21 h1339 h1347 h1475 h1338 h1193 h1348 h1349 h1471) (rW (c := 0) (d := 30) (rAdd (e := 1) (f := 30) h1269 (rR (x := 1)) rfl) rfl) I1198 I1199 (wfR.cg B1346.2.2 (vc_X1_goThrough_W12_23 h1339 h1347 h1475 h1338 h1193 h1348 h1349 h1471)) (vc_X1_goThrough_W12_22 (nS h1201) h1339 h1347 h1475 h1338 h1193 h1348 h1349 h1471) ((W1495).1 h1502)
            have h1504 : 1 ≤ z1468 ∧ z1468 ≤ 1 := (vc_X12_ring_24 h1502 h1470)
            refine sv_aload_n (pc := 146) dX1_goThrough_146 rfl rfl ?_
            refine sv_aload_n (pc := 147) dX1_goThrough_147 rfl rfl ?_
            refine gk_X5_1 (pc := 148) dX1_goThrough_148 wF_X1_60 A12 (F1196.f A12 rfl q15) ?_
            refine mr_iload (pc := 151) (z := ((z1190 + 2) + (z1340 * 5))) dX1_goThrough_151 rfl ?_
            refine mr_iload (pc := 153) (z := z1343) dX1_goThrough_153 rfl ?_
            refine mr_iload_n (pc := 155) (z := p2) dX1_goThrough_155 rfl rfl ?_
            refine mr_cVV (pc := 156) (c_X1_doActs_W12 hw T1195 A16 (vc_X1_goThrough_W12_25 h1339 h1347 h1475 h1338 h1193 h1348 h1349 h1471) h1349 hp2 I1198 I1199 (lnL q1337 (vc_X1_goThrough_W12_26 h1339 h1347 h1475 h1338 h1193 h1348 h1349 h1471)) (argC B1346.2.1 (vc_X1_goThrough_W12_27 h1339 h1347 h1475 h1338 h1193 h1348 h1349 h1471) (funext fun i => ((mF.call mF.refl F1196 rfl) : mF [21006, 21007, 200004, 200006, 200007, 200008, 201999, 202999] w μ μ1191).f A16 rfl rfl)) ((W1495).2 h1502)) (gOk _ _ _ _ _) dX1_goThrough_156 (tX1_doActs _ _ _ _ _) ⟨wV_X1_doActs, wL_X1_doActs⟩ wM_X1_68 (gCX1 _ _ _ _ _) rfl (A_21 hw) rfl ⟨le_t rfl, le_t rfl⟩ ⟨le_t rfl, le_t rfl⟩ rfl (le_t rfl) fun μ1505 T1506 F1507 h1508 => ?_
            refine mr_iload (pc := 159) (z := ((z1190 + 2) + (z1340 * 5))) dX1_goThrough_159 rfl ?_
            refine mr_iload (pc := 161) (z := z1343) dX1_goThrough_161 rfl ?_
            refine mr_iconst (pc := 163) (z := 2) dX1_goThrough_163 ?_
            refine mr_imul (pc := 164) (x := z1343) (y := 2) dX1_goThrough_164 ?_
            refine mr_iadd (pc := 165) (x := ((z1190 + 2) + (z1340 * 5))) (y := (z1343 * 2)) dX1_goThrough_165 ?_
            refine mr_istore (pc := 166) (lv' := [(4, iv (((z1190 + 2) + (z1340 * 5)) + (z1343 * 2))), (0, .ref 21), (2, iv p2), (3, .ref b10), (5, iv z1189), (7, iv z1343), (8, iv ((z1190 + 2) + (z1340 * 5))), (9, iv z1468)]) dX1_goThrough_166 (by decide) rfl ?_
            refine mr_iinc (pc := 168) (lv' := [(5, iv (z1189 + 1)), (4, iv (((z1190 + 2) + (z1340 * 5)) + (z1343 * 2))), (0, .ref 21), (2, iv p2), (3, .ref b10), (7, iv z1343), (8, iv ((z1190 + 2) + (z1340 * 5))), (9, iv z1468)]) dX1_goThrough_168 rfl (by decide) rfl ?_
            refine sv_goto (pc := 171) (tgt := 32) dX1_goThrough_171 (by decide) ?_
            refine mr_lvS (lv' := [(0, .ref 21), (2, iv p2), (3, .ref b10), (4, iv (((z1190 + 2) + (z1340 * 5)) + (z1343 * 2))), (5, iv (z1189 + 1))]) (List.forall_mem_cons.mpr ⟨rfl, List.forall_mem_cons.mpr ⟨rfl, List.forall_mem_cons.mpr ⟨rfl, List.forall_mem_cons.mpr ⟨rfl, List.forall_mem_cons.mpr ⟨rfl, fun _ h => absurd h List.not_mem_nil⟩⟩⟩⟩⟩) ?_
            exact ih1203 (((z1190 + 2) + (z1340 * 5)) + (z1343 * 2)) (z1189 + 1) μ1505 T1506 (mF.call (mF.call mF.refl F1196 rfl) F1507 rfl) (vc_X1_goThrough_W12_21 h1339 h1347 h1475 h1338 h1193 h1348 h1349 h1471) (rW (c := 0) (d := 30) (rAdd (e := 1) (f := 30) h1269 (rR (x := 1)) rfl) rfl) (PC.keep I1198 hw ((mF.call mF.refl F1507 rfl) : mF [21006, 21007, 200004, 200006, 200007, 200008, 201999, 202999] w μ1191 μ1505) rfl) (RT.keep I1199 hw ((mF.call mF.refl F1507 rfl) : mF [21006, 21007, 200004, 200006, 200007, 200008, 201999, 202999] w μ1191 μ1505) rfl) (wfR.cg B1346.2.2 (vc_X1_goThrough_W12_23 h1339 h1347 h1475 h1338 h1193 h1348 h1349 h1471)) (vc_X1_goThrough_W12_22 (nS h1201) h1339 h1347 h1475 h1338 h1193 h1348 h1349 h1471) (h1508.1 T1506 F1507)
          refine mr_icmp_ge (pc := 92) (tgt := 141) dX1_goThrough_92 (by decide) (r32 h1471 rfl) (r32 (rAdd (e := 2) (f := 4002) (rAdd (e := 2) (f := 2002) h1193 (rR (x := 2)) rfl) (rMulR (n := 5) (e := 0) (f := 2000) h1348 rfl) rfl) rfl) (fun h1509 => ?_) (fun h1509 => ?_)
          · refine mr_lvS (lv' := [(0, .ref 21), (2, iv p2), (3, .ref b10), (5, iv z1189), (7, iv z1343), (8, iv ((z1190 + 2) + (z1340 * 5))), (9, iv z1468)]) (List.forall_mem_cons.mpr ⟨rfl, List.forall_mem_cons.mpr ⟨rfl, List.forall_mem_cons.mpr ⟨rfl, List.forall_mem_cons.mpr ⟨rfl, List.forall_mem_cons.mpr ⟨rfl, List.forall_mem_cons.mpr ⟨rfl, List.forall_mem_cons.mpr ⟨rfl, fun _ h => absurd h List.not_mem_nil⟩⟩⟩⟩⟩⟩⟩) ?_
            exact J1494 ((W1477 z1468 z1467 rfl h1470 h1471).1 h1509)
          refine mr_iload (pc := 95) (z := z1468) dX1_goThrough_95 rfl ?_
          refine mr_if_eq (pc := 97) (tgt := 141) dX1_goThrough_97 (by decide) (r32 h1470 rfl) (fun h1510 => ?_) (fun h1510 => ?_)
          · have h1511 : 0 ≤ z1468 ∧ z1468 ≤ 0 := (vc_X12_ring_22 h1510 h1470)
            refine mr_lvS (lv' := [(0, .ref 21), (2, iv p2), (3, .ref b10), (5, iv z1189), (7, iv z1343), (8, iv ((z1190 + 2) + (z1340 * 5))), (9, iv z1468)]) (List.forall_mem_cons.mpr ⟨rfl, List.forall_mem_cons.mpr ⟨rfl, List.forall_mem_cons.mpr ⟨rfl, List.forall_mem_cons.mpr ⟨rfl, List.forall_mem_cons.mpr ⟨rfl, List.forall_mem_cons.mpr ⟨rfl, List.forall_mem_cons.mpr ⟨rfl, fun _ h => absurd h List.not_mem_nil⟩⟩⟩⟩⟩⟩⟩) ?_
            exact J1494 (((W1477 z1468 z1467 rfl h1470 h1471).2 h1509).1 h1510)
          have h1512 : 1 ≤ z1468 ∧ z1468 ≤ 1 := (vc_X12_ring_24 h1510 h1470)
          refine sv_aload_n (pc := 100) dX1_goThrough_100 rfl rfl ?_
          refine sv_aload_n (pc := 101) dX1_goThrough_101 rfl rfl ?_
          refine mr_iload (pc := 102) (z := z1467) dX1_goThrough_102 rfl ?_
          refine mr_cVP (pc := 104) (c_X1_isSo_W hw T1195 A12 (vc_X1_goThrough_W12_28 h1475 h1509 h1339 h1347 h1338 h1193 h1348 h1349 h1471) I1199 (lnF (F1196.f A12 rfl q15) q1337 (vc_X1_goThrough_W12_29 h1339 h1347 h1475 h1509 h1338 h1193 h1348 h1349 h1471)) (by rw [((mF.call mF.refl F1196 rfl) : mF [21006, 21007, 200004, 200006, 200007, 200008, 201999, 202999] w μ μ1191).f (k := 2) A12 rfl rfl, ((mF.call mF.refl F1196 rfl) : mF [21006, 21007, 200004, 200006, 200007, 200008, 201999, 202999] w μ μ1191).f (k := 3) A12 rfl rfl]; exact e19) (by rw [((mF.call mF.refl F1196 rfl) : mF [21006, 21007, 200004, 200006, 200007, 200008, 201999, 202999] w μ μ1191).f (k := 4) A12 rfl rfl, ((mF.call mF.refl F1196 rfl) : mF [21006, 21007, 200004, 200006, 200007, 200008, 201999, 202999] w μ μ1191).f (k := 5) A12 rfl rfl]; exact e20) (((W1477 z1468 z1467 rfl h1470 h1471).2 h1509).2 h1510)) (gOk _ _ _ _ _) dX1_goThrough_104 (tX1_isSo _ _ _ _ _) ⟨wV_X1_isSo, wL_X1_isSo⟩ wM_X1_64 (gCX1 _ _ _ _ _) rfl (A_21 hw) rfl ⟨le_t rfl, le_t rfl⟩ ⟨le_t rfl, le_t rfl⟩ rfl (le_t rfl) fun z1517 h1516 => ?_
          refine sv_aload_n (pc := 107) dX1_goThrough_107 rfl rfl ?_
          refine gk_X5_1 (pc := 108) dX1_goThrough_108 wF_X1_60 A12 (F1196.f A12 rfl q15) ?_
          refine mr_iload (pc := 111) (z := z1467) dX1_goThrough_111 rfl ?_
          refine mr_iconst (pc := 113) (z := 1) dX1_goThrough_113 ?_
          refine mr_iadd (pc := 114) (x := z1467) (y := 1) dX1_goThrough_114 ?_
          refine la_231 (pc := 115) dX1_goThrough_115 A16 T1195 (lnC q1337 (vc_X1_goThrough_W12_30 h1339 h1347 h1475 h1509 h1338 h1193 h1348 h1349 h1471)) fun z1518 q1519 h1520 => ?_
          refine mr_iconst (pc := 116) (z := 1) dX1_goThrough_116 ?_
          refine mr_icmp_ne (pc := 117) (tgt := 124) dX1_goThrough_117 (by decide) h1520 (r32 (rR (x := 1)) rfl) (fun h1522 => ?_) (fun h1522 => ?_)
          · refine mr_iconst (pc := 124) (z := 0) dX1_goThrough_124 ?_
            refine mr_icmp_eq (pc := 125) (tgt := 132) dX1_goThrough_125 (by decide) (r32 h1516.1 rfl) (r32 (rR (x := 0)) rfl) (fun h1525 => ?_) (fun h1525 => ?_)
            · have h1526 : 0 ≤ z1517 ∧ z1517 ≤ 0 := (vc_X12_ring_22 h1525 h1516.1)
              refine mr_iconst (pc := 132) (z := 0) dX1_goThrough_132 ?_
              refine mr_istore (pc := 133) (lv' := [(9, iv 0), (0, .ref 21), (2, iv p2), (3, .ref b10), (5, iv z1189), (7, iv z1343), (8, iv ((z1190 + 2) + (z1340 * 5))), (10, iv z1467)]) dX1_goThrough_133 (by decide) rfl ?_
              refine mr_iinc (pc := 135) (lv' := [(10, iv (z1467 + 5)), (9, iv 0), (0, .ref 21), (2, iv p2), (3, .ref b10), (5, iv z1189), (7, iv z1343), (8, iv ((z1190 + 2) + (z1340 * 5)))]) dX1_goThrough_135 rfl (by decide) rfl ?_
              refine sv_goto (pc := 138) (tgt := 88) dX1_goThrough_138 (by decide) ?_
              refine mr_lvS (lv' := [(0, .ref 21), (2, iv p2), (3, .ref b10), (5, iv z1189), (7, iv z1343), (8, iv ((z1190 + 2) + (z1340 * 5))), (9, iv 0), (10, iv (z1467 + 5))]) (List.forall_mem_cons.mpr ⟨rfl, List.forall_mem_cons.mpr ⟨rfl, List.forall_mem_cons.mpr ⟨rfl, List.forall_mem_cons.mpr ⟨rfl, List.forall_mem_cons.mpr ⟨rfl, List.forall_mem_cons.mpr ⟨rfl, List.forall_mem_cons.mpr ⟨rfl, List.forall_mem_cons.mpr ⟨rfl, fun _ h => absurd h List.not_mem_nil⟩⟩⟩⟩⟩⟩⟩⟩) ?_
              exact ih1478 0 (z1467 + 5) trivial (rW (c := 0) (d := 1) (rR (x := 0)) rfl) (vc_X1_goThrough_W12_32 h1475 h1509 h1339 h1347 h1338 h1193 h1348 h1349 h1471) (vc_X1_goThrough_W12_33 h1339 h1347 h1475 h1509 h1338 h1193 h1348 h1349 h1471) (vc_X1_goThrough_W12_34 (nS h1476) h1475 h1509 h1339 h1347 h1338 h1193 h1348 h1349 h1471) ((((h1516.2.1 h1516.1) z1518 q1519 h1520).1 h1522).1 h1525)
            have h1527 : 1 ≤ z1517 ∧ z1517 ≤ 1 := (vc_X12_ring_24 h1525 h1516.1)
            refine mr_iconst (pc := 128) (z := 1) dX1_goThrough_128 ?_
            refine sv_goto (pc := 129) (tgt := 133) dX1_goThrough_129 (by decide) ?_
            refine mr_istore (pc := 133) (lv' := [(9, iv 1), (0, .ref 21), (2, iv p2), (3, .ref b10), (5, iv z1189), (7, iv z1343), (8, iv ((z1190 + 2) + (z1340 * 5))), (10, iv z1467)]) dX1_goThrough_133 (by decide) rfl ?_
            refine mr_iinc (pc := 135) (lv' := [(10, iv (z1467 + 5)), (9, iv 1), (0, .ref 21), (2, iv p2), (3, .ref b10), (5, iv z1189), (7, iv z1343), (8, iv ((z1190 + 2) + (z1340 * 5)))]) dX1_goThrough_135 rfl (by decide) rfl ?_
            refine sv_goto (pc := 138) (tgt := 88) dX1_goThrough_138 (by decide) ?_
            refine mr_lvS (lv' := [(0, .ref 21), (2, iv p2), (3, .ref b10), (5, iv z1189), (7, iv z1343), (8, iv ((z1190 + 2) + (z1340 * 5))), (9, iv 1), (10, iv (z1467 + 5))]) (List.forall_mem_cons.mpr ⟨rfl, List.forall_mem_cons.mpr ⟨rfl, List.forall_mem_cons.mpr ⟨rfl, List.forall_mem_cons.mpr ⟨rfl, List.forall_mem_cons.mpr ⟨rfl, List.forall_mem_cons.mpr ⟨rfl, List.forall_mem_cons.mpr ⟨rfl, List.forall_mem_cons.mpr ⟨rfl, fun _ h => absurd h List.not_mem_nil⟩⟩⟩⟩⟩⟩⟩⟩) ?_
            exact ih1478 1 (z1467 + 5) trivial (rW (c := 0) (d := 1) (rR (x := 1)) rfl) (vc_X1_goThrough_W12_32 h1475 h1509 h1339 h1347 h1338 h1193 h1348 h1349 h1471) (vc_X1_goThrough_W12_33 h1339 h1347 h1475 h1509 h1338 h1193 h1348 h1349 h1471) (vc_X1_goThrough_W12_34 (nS h1476) h1475 h1509 h1339 h1347 h1338 h1193 h1348 h1349 h1471) ((((h1516.2.1 h1516.1) z1518 q1519 h1520).1 h1522).2 h1525)
          have h1528 : 1 ≤ z1518 ∧ z1518 ≤ 1 := (vc_X3_toldInAll_1 h1522 h1520)
          refine mr_iconst (pc := 120) (z := 1) dX1_goThrough_120 ?_
          refine sv_goto (pc := 121) (tgt := 125) dX1_goThrough_121 (by decide) ?_
          refine mr_icmp_eq (pc := 125) (tgt := 132) dX1_goThrough_125 (by decide) (r32 h1516.1 rfl) (r32 (rR (x := 1)) rfl) (fun h1531 => ?_) (fun h1531 => ?_)
          · have h1532 : 1 ≤ z1517 ∧ z1517 ≤ 1 := (vc_X1_goThrough_W12_37 h1531 h1516.1)
            refine mr_iconst (pc := 132) (z := 0) dX1_goThrough_132 ?_
            refine mr_istore (pc := 133) (lv' := [(9, iv 0), (0, .ref 21), (2, iv p2), (3, .ref b10), (5, iv z1189), (7, iv z1343), (8, iv ((z1190 + 2) + (z1340 * 5))), (10, iv z1467)]) dX1_goThrough_133 (by decide) rfl ?_
            refine mr_iinc (pc := 135) (lv' := [(10, iv (z1467 + 5)), (9, iv 0), (0, .ref 21), (2, iv p2), (3, .ref b10), (5, iv z1189), (7, iv z1343), (8, iv ((z1190 + 2) + (z1340 * 5)))]) dX1_goThrough_135 rfl (by decide) rfl ?_
            refine sv_goto (pc := 138) (tgt := 88) dX1_goThrough_138 (by decide) ?_
            refine mr_lvS (lv' := [(0, .ref 21), (2, iv p2), (3, .ref b10), (5, iv z1189), (7, iv z1343), (8, iv ((z1190 + 2) + (z1340 * 5))), (9, iv 0), (10, iv (z1467 + 5))]) (List.forall_mem_cons.mpr ⟨rfl, List.forall_mem_cons.mpr ⟨rfl, List.forall_mem_cons.mpr ⟨rfl, List.forall_mem_cons.mpr ⟨rfl, List.forall_mem_cons.mpr ⟨rfl, List.forall_mem_cons.mpr ⟨rfl, List.forall_mem_cons.mpr ⟨rfl, List.forall_mem_cons.mpr ⟨rfl, fun _ h => absurd h List.not_mem_nil⟩⟩⟩⟩⟩⟩⟩⟩) ?_
            exact ih1478 0 (z1467 + 5) trivial (rW (c := 0) (d := 1) (rR (x := 0)) rfl) (vc_X1_goThrough_W12_32 h1475 h1509 h1339 h1347 h1338 h1193 h1348 h1349 h1471) (vc_X1_goThrough_W12_33 h1339 h1347 h1475 h1509 h1338 h1193 h1348 h1349 h1471) (vc_X1_goThrough_W12_34 (nS h1476) h1475 h1509 h1339 h1347 h1338 h1193 h1348 h1349 h1471) ((((h1516.2.1 h1516.1) z1518 q1519 h1520).2 h1522).1 h1531)
          have h1533 : 0 ≤ z1517 ∧ z1517 ≤ 0 := (vc_X1_goThrough_W12_38 h1531 h1516.1)
          refine mr_iconst (pc := 128) (z := 1) dX1_goThrough_128 ?_
          refine sv_goto (pc := 129) (tgt := 133) dX1_goThrough_129 (by decide) ?_
          refine mr_istore (pc := 133) (lv' := [(9, iv 1), (0, .ref 21), (2, iv p2), (3, .ref b10), (5, iv z1189), (7, iv z1343), (8, iv ((z1190 + 2) + (z1340 * 5))), (10, iv z1467)]) dX1_goThrough_133 (by decide) rfl ?_
          refine mr_iinc (pc := 135) (lv' := [(10, iv (z1467 + 5)), (9, iv 1), (0, .ref 21), (2, iv p2), (3, .ref b10), (5, iv z1189), (7, iv z1343), (8, iv ((z1190 + 2) + (z1340 * 5)))]) dX1_goThrough_135 rfl (by decide) rfl ?_
          refine sv_goto (pc := 138) (tgt := 88) dX1_goThrough_138 (by decide) ?_
          refine mr_lvS (lv' := [(0, .ref 21), (2, iv p2), (3, .ref b10), (5, iv z1189), (7, iv z1343), (8, iv ((z1190 + 2) + (z1340 * 5))), (9, iv 1), (10, iv (z1467 + 5))]) (List.forall_mem_cons.mpr ⟨rfl, List.forall_mem_cons.mpr ⟨rfl, List.forall_mem_cons.mpr ⟨rfl, List.forall_mem_cons.mpr ⟨rfl, List.forall_mem_cons.mpr ⟨rfl, List.forall_mem_cons.mpr ⟨rfl, List.forall_mem_cons.mpr ⟨rfl, List.forall_mem_cons.mpr ⟨rfl, fun _ h => absurd h List.not_mem_nil⟩⟩⟩⟩⟩⟩⟩⟩) ?_
          exact ih1478 1 (z1467 + 5) trivial (rW (c := 0) (d := 1) (rR (x := 1)) rfl) (vc_X1_goThrough_W12_32 h1475 h1509 h1339 h1347 h1338 h1193 h1348 h1349 h1471) (vc_X1_goThrough_W12_33 h1339 h1347 h1475 h1509 h1338 h1193 h1348 h1349 h1471) (vc_X1_goThrough_W12_34 (nS h1476) h1475 h1509 h1339 h1347 h1338 h1193 h1348 h1349 h1471) ((((h1516.2.1 h1516.1) z1518 q1519 h1520).2 h1522).2 h1531)
      refine mr_lvS (lv' := [(0, .ref 21), (2, iv p2), (3, .ref b10), (5, iv z1189), (7, iv z1343), (8, iv ((z1190 + 2) + (z1340 * 5))), (9, iv 1), (10, iv (z1190 + 2))]) (List.forall_mem_cons.mpr ⟨rfl, List.forall_mem_cons.mpr ⟨rfl, List.forall_mem_cons.mpr ⟨rfl, List.forall_mem_cons.mpr ⟨rfl, List.forall_mem_cons.mpr ⟨rfl, List.forall_mem_cons.mpr ⟨rfl, List.forall_mem_cons.mpr ⟨rfl, List.forall_mem_cons.mpr ⟨rfl, fun _ h => absurd h List.not_mem_nil⟩⟩⟩⟩⟩⟩⟩⟩) ?_
      exact L1469 2010 1 (z1190 + 2) trivial (rW (c := 0) (d := 1) (rR (x := 1)) rfl) (rW (c := 2) (d := 2010) (rAdd (e := 2) (f := 2002) h1193 (rR (x := 2)) rfl) rfl) (vc_X1_goThrough_W12_39 h1339 h1347 h1338 h1193 h1348 h1349) (vc_X1_goThrough_W12_40 h1339 h1347 h1338 h1193 h1348 h1349) (((((((W1202 z1190 z1189 μ1191 rfl h1193 h1194 T1195 F1196).2 h1268) z1271 q1272 h1273).2 h1333) n_1336 q1337 h1338) z1340 q1341 h1342) z1343 q1344 h1345)
  refine mr_lvS (lv' := [(0, .ref 21), (2, iv p2), (3, .ref b10), (4, iv 0), (5, iv 0)]) (List.forall_mem_cons.mpr ⟨rfl, List.forall_mem_cons.mpr ⟨rfl, List.forall_mem_cons.mpr ⟨rfl, List.forall_mem_cons.mpr ⟨rfl, List.forall_mem_cons.mpr ⟨rfl, fun _ h => absurd h List.not_mem_nil⟩⟩⟩⟩⟩) ?_
  exact L1192 2002 0 0 μ hT mF.refl (rW (c := 0) (d := 2000) (rR (x := 0)) rfl) (rW (c := 0) (d := 30) (rR (x := 0)) rfl) hIPC hIRT R18 vc_X1_goThrough_W12_41 ((((((hQ.2 h1) z4 q5 h6).2 h7) b10 q11 A12) c13 q15) z14 q17)
def WJ_X1_doActs_W11_2 (w : mW) (rec1 : (Int × mM) → Prop) (z1989 : Int) (μ2019 : mM) (μ2114 : mM) : Prop := mT w μ2114 → mF [21007, 200007, 201999] w μ2019 μ2114 → rec1 ((z1989 + 1), μ2114)
def WL_X1_doActs_W11_1 (w : mW) (μ : mM) (a1 : Nat) (p2 : Int) (p3 : Int) (p4 : Int) (Q : mM → Prop) (rec1 : (Int × mM) → Prop) (s : (Int × mM)) : Prop := ∀ z1989 : Int, ∀ μ1990 : mM, s = (z1989, μ1990) → (0 ≤ z1989 ∧ z1989 ≤ 1000) → mT w μ1990 → mF [21006, 21007, 200004, 200006, 200007, 200008, 201999, 202999] w μ μ1990 → ((p3 ≤ z1989) → Q μ1990) ∧ ((z1989 < p3) → ∀ z2004 : Int, μ1990 21 7 = z2004 → (0 ≤ z2004 ∧ z2004 ≤ 2) → ((¬ z2004 = 0) → Q μ1990) ∧ ((z2004 = 0) → ∀ z2010 : Int, μ1990 a1 (((p2 + (z1989 * 2)) + 1).toNat) = z2010 → ((-2147483648) ≤ z2010 ∧ z2010 ≤ 2147483647) → ∀ z2014 : Int, μ1990 21 6 = z2014 → (0 ≤ z2014 ∧ z2014 ≤ 500) → ((z2014 < 500) → ∀ μ2019 : mM, mU μ1990 21 (6) (z2014 + 1) μ2019 → mT w μ2019 → ∀ z2022 : Int, μ2019 a1 ((p2 + (z1989 * 2)).toNat) = z2022 → ((-2147483648) ≤ z2022 ∧ z2022 ≤ 2147483647) → (z2022 = 12 → ∀ b2028 : Nat, μ2019 21 2 = (b2028 : Int) → mAt w b2028 200 → ∀ μ2031 : mM, mU μ2019 b2028 (4) z2010 μ2031 → mT w μ2031 → rec1 ((z1989 + 1), μ2031)) ∧ (¬ z2022 = 12 → (z2022 = 13 → ∀ b2036 : Nat, μ2019 21 2 = (b2036 : Int) → mAt w b2036 200 → ∀ μ2039 : mM, mU μ2019 b2036 (6) z2010 μ2039 → mT w μ2039 → rec1 ((z1989 + 1), μ2039)) ∧ (¬ z2022 = 13 → (z2022 = 14 → rec1 ((z1989 + 1), μ2019)) ∧ (¬ z2022 = 14 → (z2022 = 15 → rec1 ((z1989 + 1), μ2019)) ∧ (¬ z2022 = 15 → (z2022 = 16 → rec1 ((z1989 + 1), μ2019)) ∧ (¬ z2022 = 16 → (z2022 = 17 → rec1 ((z1989 + 1), μ2019)) ∧ (¬ z2022 = 17 → (z2022 = 18 → rec1 ((z1989 + 1), μ2019)) ∧ (¬ z2022 = 18 → (z2022 = 19 → rec1 ((z1989 + 1), μ2019)) ∧ (¬ z2022 = 19 → (z2022 = 20 → rec1 ((z1989 + 1), μ2019)) ∧ (¬ z2022 = 20 → (z2022 = 21 → rec1 ((z1989 + 1), μ2019)) ∧ (¬ z2022 = 21 → (z2022 = 22 → rec1 ((z1989 + 1), μ2019)) ∧ (¬ z2022 = 22 → (z2022 = 23 → ∀ μ2063 : mM, mU μ2019 21 (7) (1 : Int) μ2063 → mT w μ2063 → rec1 ((z1989 + 1), μ2063)) ∧ (¬ z2022 = 23 → (z2022 = 24 → ∀ μ2069 : mM, mU μ2019 21 (7) (2 : Int) μ2069 → mT w μ2069 → rec1 ((z1989 + 1), μ2069)) ∧ (¬ z2022 = 24 → (z2022 = 25 → ∀ b2074 : Nat, μ2019 21 2 = (b2074 : Int) → mAt w b2074 200 → WP_X7_addMark_W w μ2019 b2074 z2010 (fun μ2077 => mT w μ2077 → mF [200008, 202999] w μ2019 μ2077 → rec1 ((z1989 + 1), μ2077))) ∧ (¬ z2022 = 25 → (z2022 = 26 → ∀ b2083 : Nat, μ2019 21 2 = (b2083 : Int) → mAt w b2083 200 → WP_X7_dropMark_W w μ2019 b2083 z2010 (fun μ2086 => mT w μ2086 → mF [200008, 202999] w μ2019 μ2086 → rec1 ((z1989 + 1), μ2086))) ∧ (¬ z2022 = 26 → (z2022 = 27 → ∀ b2092 : Nat, μ2019 21 2 = (b2092 : Int) → mAt w b2092 200 → ∀ z2095 : Int, μ2019 b2092 7 = z2095 → (0 ≤ z2095 ∧ z2095 ≤ 20) → ((z2095 ≤ 0) → (WJ_X1_doActs_W11_2 w rec1 z1989 μ2019) μ2019) ∧ ((0 < z2095) → ∀ z2126 : Int, μ2019 (b2092 + 1) ((0 : Int).toNat) = z2126 → ((-2147483648) ≤ z2126 ∧ z2126 ≤ 2147483647) → WP_X7_putInFront_W w μ2019 b2092 z2126 z2010 (fun z2133 μ2129 => mT w μ2129 → mF [200007, 201999] w μ2019 μ2129 → (0 ≤ z2133 ∧ z2133 ≤ 1) → ((¬ z2133 = 0) → (WJ_X1_doActs_W11_2 w rec1 z1989 μ2019) μ2129) ∧ ((z2133 = 0) → ∀ μ2138 : mM, mU μ2129 21 (7) (2 : Int) μ2138 → mT w μ2138 → (WJ_X1_doActs_W11_2 w rec1 z1989 μ2019) μ2138)))) ∧ (¬ z2022 = 27 → (z2022 = 28 → WP_X1_goThrough_W12 w μ2019 z2010 (p4 + 1) (fun μ2143 => mT w μ2143 → mF [21006, 21007, 200004, 200006, 200007, 200008, 201999, 202999] w μ2019 μ2143 → rec1 ((z1989 + 1), μ2143))) ∧ (¬ z2022 = 28 → rec1 ((z1989 + 1), μ2019))))))))))))))))))) ∧ ((500 ≤ z2014) → ∀ μ2148 : mM, mU μ1990 21 (7) (2 : Int) μ2148 → mT w μ2148 → Q μ2148)))
def WP_X1_doActs_W11 (w : mW) (μ : mM) (a1 : Nat) (p2 : Int) (p3 : Int) (p4 : Int) (Q : mM → Prop) : Prop := ∀ n_1 : Int, (w.2.2.1 a1 : Int) = n_1 → (0 ≤ n_1 ∧ n_1 ≤ 2000) → loopF (WL_X1_doActs_W11_1 w μ a1 p2 p3 p4 Q) False 1002 ((0 : Int), μ)
set_option maxRecDepth 4000 in
set_option maxHeartbeats 4000000 in
theorem c_X1_doActs_W11 {l : Launch} {D : va_G} {c : Nat → ClassId} {H0 : Heap} {sa : Nat × Nat × (Nat → Int32)} {w : mW} {μ : mM} (hw : mWF w) (hT : mT w μ) {a1 : Nat} (hA1 : mAt w a1 231) {p2 : Int} (hp2 : 0 ≤ p2 ∧ p2 ≤ 2000) {p3 : Int} (hp3 : 0 ≤ p3 ∧ p3 ≤ 1000) {p4 : Int} (hp4 : 11 ≤ p4 ∧ p4 ≤ 11) (hIPC : PC w μ) (hIRT : RT μ) (hlen : p2 + 2 * p3 ≤ (w.2.2.1 a1 : Int)) (harg : ∀ i : Int, 0 ≤ i → i < p3 → 0 ≤ μ a1 (p2 + 2 * i + 1).toNat ∧ μ a1 (p2 + 2 * i + 1).toNat ≤ 1000000) {Q : mM → Prop} (hQ : WP_X1_doActs_W11 w μ a1 p2 p3 p4 Q) : sC (gG l D c H0 sa) mX1_doActs 6 0 0 [.ref 21, .ref a1, iv p2, iv p3, iv p4] (mk w μ) (qV w [21006, 21007, 200004, 200006, 200007, 200008, 201999, 202999] μ (fun μ1 => Q μ1 ∧ True)) := by
  refine sC.of rfl (by decide) (le_t rfl) ?_
  refine mr_lvE (lv' := [(0, .ref 21), (1, .ref a1), (2, iv p2), (3, iv p3), (4, iv p4)]) rfl ?_
  obtain ⟨n_1, q2⟩ : ∃ n : Int, (w.2.2.1 a1 : Int) = n := ⟨_, rfl⟩
  have h3 : 0 ≤ n_1 ∧ n_1 ≤ 2000 := lnR (m := 2000) q2 hA1 rfl
  have h4 : p2 + 2 * p3 ≤ n_1 := lnLe q2 hlen
  refine mr_iconst (pc := 0) (z := 0) dX1_doActs_0 ?_
  refine mr_istore (pc := 1) (lv' := [(5, iv 0), (0, .ref 21), (1, .ref a1), (2, iv p2), (3, iv p3), (4, iv p4)]) dX1_doActs_1 (by decide) rfl ?_
  have L1991 : ∀ (nL1991 : Nat) (z1989 : Int) (μ1990 : mM), mT w μ1990 → mF [21006, 21007, 200004, 200006, 200007, 200008, 201999, 202999] w μ μ1990 → (0 ≤ z1989 ∧ z1989 ≤ 1000) → PC w μ1990 → RT μ1990 → (1001 - z1989) < (nL1991 : Int) → loopF (WL_X1_doActs_W11_1 w μ a1 p2 p3 p4 Q) False nL1991 (z1989, μ1990) → sV (gG l D c H0 sa) mX1_doActs (sRm 6 0 0) (sZ (gG l D c H0 sa) 0 0 (qV w [21006, 21007, 200004, 200006, 200007, 200008, 201999, 202999] μ (fun μ1 => Q μ1 ∧ True))) 3 [(0, .ref 21), (1, .ref a1), (2, iv p2), (3, iv p3), (4, iv p4), (5, iv z1989)] [] (mk w μ1990) 0 0 := by
    intro nL1991
    induction nL1991 with
    | zero => intro z1989 μ1990 T1993 F1994 h1992 I1996 I1997 h1998 W1999; exact ((vc_X1_doActs_W12_1 h1998 h1992)).elim
    | succ nL1991 ih2000 =>
      intro z1989 μ1990 T1993 F1994 h1992 I1996 I1997 h1998 W1999
      refine mr_iload (pc := 3) (z := z1989) dX1_doActs_3 rfl ?_
      refine mr_iload_n (pc := 5) (z := p3) dX1_doActs_5 rfl rfl ?_
      refine mr_icmp_ge (pc := 6) (tgt := 266) dX1_doActs_6 (by decide) (r32 h1992 rfl) (r32 hp3 rfl) (fun h2001 => ?_) (fun h2001 => ?_)
      · exact mr_vret dX1_doActs_266 rfl (le_t rfl) (le_t rfl) T1993 (mF.call mF.refl F1994 rfl) ⟨((W1999 z1989 μ1990 rfl h1992 T1993 F1994).1 h2001), trivial⟩
      have h2002 : 0 ≤ z1989 ∧ z1989 ≤ 999 := (vc_X1_doActs_W12_2 h2001 h4 h3 hp2 hp3 h1992)
      have h2003 : 1 ≤ p3 ∧ p3 ≤ 1000 := (vc_X1_doActs_W12_3 h2001 h4 h3 hp2 hp3 h2002)
      refine sv_aload_n (pc := 9) dX1_doActs_9 rfl rfl ?_
      refine gf_X1_7 (pc := 10) dX1_doActs_10 wF_X1_50 (A_21 hw) T1993 fun z2004 q2005 h2006 => ?_
      refine mr_if_ne (pc := 13) (tgt := 266) dX1_doActs_13 (by decide) (r32 h2006 rfl) (fun h2007 => ?_) (fun h2007 => ?_)
      · have h2008 : 1 ≤ z2004 ∧ z2004 ≤ 2 := (vc_X12_provides_3 h2007 h2006)
        exact mr_vret dX1_doActs_266 rfl (le_t rfl) (le_t rfl) T1993 (mF.call mF.refl F1994 rfl) ⟨((((W1999 z1989 μ1990 rfl h1992 T1993 F1994).2 h2001) z2004 q2005 h2006).1 h2007), trivial⟩
      have h2009 : 0 ≤ z2004 ∧ z2004 ≤ 0 := (vc_X12_provides_4 h2007 h2006)
      refine sv_aload_n (pc := 16) dX1_doActs_16 rfl rfl ?_
      refine mr_iload_n (pc := 17) (z := p2) dX1_doActs_17 rfl rfl ?_
      refine mr_iload (pc := 18) (z := z1989) dX1_doActs_18 rfl ?_
      refine mr_iconst (pc := 20) (z := 2) dX1_doActs_20 ?_
      refine mr_imul (pc := 21) (x := z1989) (y := 2) dX1_doActs_21 ?_
      refine mr_iadd (pc := 22) (x := p2) (y := (z1989 * 2)) dX1_doActs_22 ?_
      refine mr_iconst (pc := 23) (z := 1) dX1_doActs_23 ?_
      refine mr_iadd (pc := 24) (x := (p2 + (z1989 * 2))) (y := 1) dX1_doActs_24 ?_
      refine la_231 (pc := 25) dX1_doActs_25 hA1 T1993 (lnC q2 (vc_X1_doActs_W12_6 h4 h2001 h3 hp2 h2003 h2002)) fun z2010 q2011 h2012 => ?_
      have h2013 : 0 ≤ z2010 ∧ z2010 ≤ 1000000 := argB harg (vc_X1_doActs_W12_7 h2001 h4 h3 hp2 h2003 h2002) (vc_X1_doActs_W12_8 h4 h2001 h3 hp2 h2003 h2002) (vc_X1_doActs_W12_9 h4 h2001 h3 hp2 h2003 h2002) (((mF.call mF.refl F1994 rfl) : mF [21006, 21007, 200004, 200006, 200007, 200008, 201999, 202999] w μ μ1990).f hA1 rfl rfl) q2011
      refine mr_istore (pc := 26) (lv' := [(6, iv z2010), (0, .ref 21), (1, .ref a1), (2, iv p2), (3, iv p3), (4, iv p4), (5, iv z1989)]) dX1_doActs_26 (by decide) rfl ?_
      refine sv_aload_n (pc := 28) dX1_doActs_28 rfl rfl ?_
      refine gf_X1_6 (pc := 29) dX1_doActs_29 wF_X1_47 (A_21 hw) T1993 fun z2014 q2015 h2016 => ?_
      refine mr_sipush (pc := 32) (z := 500) dX1_doActs_32 (by decide) ?_
      refine mr_icmp_lt (pc := 35) (tgt := 44) dX1_doActs_35 (by decide) (r32 h2016 rfl) (r32 (rR (x := 500)) rfl) (fun h2017 => ?_) (fun h2017 => ?_)
      · have h2018 : 0 ≤ z2014 ∧ z2014 ≤ 499 := (vc_X1_doActs_W12_10 h2017 h2016)
        refine sv_aload_n (pc := 44) dX1_doActs_44 rfl rfl ?_
        refine sv_dup (pc := 45) dX1_doActs_45 rfl ?_
        refine gk_X1_6 (pc := 46) dX1_doActs_46 wF_X1_47 (A_21 hw) q2015 ?_
        refine mr_iconst (pc := 49) (z := 1) dX1_doActs_49 ?_
        refine mr_iadd (pc := 50) (x := z2014) (y := 1) dX1_doActs_50 ?_
        refine pf_X1_6 (pc := 51) dX1_doActs_51 wF_X1_47 (A_21 hw) T1993 (rW (c := 0) (d := 500) (rAdd (e := 1) (f := 500) h2018 (rR (x := 1)) rfl) rfl) fun μ2019 u2020 T2021 => ?_
        refine sv_aload_n (pc := 54) dX1_doActs_54 rfl rfl ?_
        refine mr_iload_n (pc := 55) (z := p2) dX1_doActs_55 rfl rfl ?_
        refine mr_iload (pc := 56) (z := z1989) dX1_doActs_56 rfl ?_
        refine mr_iconst (pc := 58) (z := 2) dX1_doActs_58 ?_
        refine mr_imul (pc := 59) (x := z1989) (y := 2) dX1_doActs_59 ?_
        refine mr_iadd (pc := 60) (x := p2) (y := (z1989 * 2)) dX1_doActs_60 ?_
        refine la_231 (pc := 61) dX1_doActs_61 hA1 T2021 (lnC q2 (vc_X1_doActs_W12_11 h4 h2001 h3 hp2 h2003 h2002)) fun z2022 q2023 h2024 => ?_
        have W2026 := (((((((((W1999 z1989 μ1990 rfl h1992 T1993 F1994).2 h2001) z2004 q2005 h2006).2 h2007) z2010 q2011 h2012) z2014 q2015 h2016).1 h2017) μ2019 u2020 T2021) z2022 q2023 h2024)
        by_cases h2025 : z2022 = 12
        · refine mr_tableIn (pc := 62) (v := 12) (tgt := 184) dX1_doActs_62 h2025 rfl rfl (by decide) ?_
          have h2027 : 12 ≤ z2022 ∧ z2022 ≤ 12 := (vc_X1_doActs_W12_12 h2025 h2024)
          refine sv_aload_n (pc := 184) dX1_doActs_184 rfl rfl ?_
          refine gf_X1_2 (pc := 185) dX1_doActs_185 wF_X1_25 (A_21 hw) T2021 (RT.keep I1997 hw ((mF.up mF.refl (A_21 hw) u2020 rfl) : mF [21006] w μ1990 μ2019) rfl) fun b2028 q2029 A2030 => ?_
          refine mr_iload (pc := 188) (z := z2010) dX1_doActs_188 rfl ?_
          refine pf_X7_4 (pc := 190) dX1_doActs_190 wF_X1_105 A2030 T2021 (rW (c := (-2147483648)) (d := 2147483647) h2013 rfl) fun μ2031 u2032 T2033 => ?_
          refine sv_goto (pc := 193) (tgt := 260) dX1_doActs_193 (by decide) ?_
          refine mr_iinc (pc := 260) (lv' := [(5, iv (z1989 + 1)), (6, iv z2010), (0, .ref 21), (1, .ref a1), (2, iv p2), (3, iv p3), (4, iv p4)]) dX1_doActs_260 rfl (by decide) rfl ?_
          refine sv_goto (pc := 263) (tgt := 3) dX1_doActs_263 (by decide) ?_
          refine mr_lvS (lv' := [(0, .ref 21), (1, .ref a1), (2, iv p2), (3, iv p3), (4, iv p4), (5, iv (z1989 + 1))]) (List.forall_mem_cons.mpr ⟨rfl, List.forall_mem_cons.mpr ⟨rfl, List.forall_mem_cons.mpr ⟨rfl, List.forall_mem_cons.mpr ⟨rfl, List.forall_mem_cons.mpr ⟨rfl, List.forall_mem_cons.mpr ⟨rfl, fun _ h => absurd h List.not_mem_nil⟩⟩⟩⟩⟩⟩) ?_
          exact ih2000 (z1989 + 1) μ2031 T2033 (mF.up (mF.up (mF.call mF.refl F1994 rfl) (A_21 hw) u2020 rfl) A2030 u2032 rfl) (rW (c := 0) (d := 1000) (rAdd (e := 1) (f := 1000) h2002 (rR (x := 1)) rfl) rfl) (PC.keep I1996 hw ((mF.up (mF.up mF.refl (A_21 hw) u2020 rfl) A2030 u2032 rfl) : mF [21006, 200004] w μ1990 μ2031) rfl) (RT.keep I1997 hw ((mF.up (mF.up mF.refl (A_21 hw) u2020 rfl) A2030 u2032 rfl) : mF [21006, 200004] w μ1990 μ2031) rfl) (vc_X1_doActs_W12_13 (nS h1998) h2001 h4 h3 hp2 h2003 h2002) (((W2026.1 h2025) b2028 q2029 A2030) μ2031 u2032 T2033)
        by_cases h2034 : z2022 = 13
        · refine mr_tableIn (pc := 62) (v := 13) (tgt := 196) dX1_doActs_62 h2034 rfl rfl (by decide) ?_
          have h2035 : 13 ≤ z2022 ∧ z2022 ≤ 13 := (vc_X1_doActs_W12_14 h2034 h2025 h2024)
          refine sv_aload_n (pc := 196) dX1_doActs_196 rfl rfl ?_
          refine gf_X1_2 (pc := 197) dX1_doActs_197 wF_X1_25 (A_21 hw) T2021 (RT.keep I1997 hw ((mF.up mF.refl (A_21 hw) u2020 rfl) : mF [21006] w μ1990 μ2019) rfl) fun b2036 q2037 A2038 => ?_
          refine mr_iload (pc := 200) (z := z2010) dX1_doActs_200 rfl ?_
          refine pf_X7_6 (pc := 202) dX1_doActs_202 wF_X1_108 A2038 T2021 (rW (c := (-2147483648)) (d := 2147483647) h2013 rfl) fun μ2039 u2040 T2041 => ?_
          refine sv_goto (pc := 205) (tgt := 260) dX1_doActs_205 (by decide) ?_
          refine mr_iinc (pc := 260) (lv' := [(5, iv (z1989 + 1)), (6, iv z2010), (0, .ref 21), (1, .ref a1), (2, iv p2), (3, iv p3), (4, iv p4)]) dX1_doActs_260 rfl (by decide) rfl ?_
          refine sv_goto (pc := 263) (tgt := 3) dX1_doActs_263 (by decide) ?_
          refine mr_lvS (lv' := [(0, .ref 21), (1, .ref a1), (2, iv p2), (3, iv p3), (4, iv p4), (5, iv (z1989 + 1))]) (List.forall_mem_cons.mpr ⟨rfl, List.forall_mem_cons.mpr ⟨rfl, List.forall_mem_cons.mpr ⟨rfl, List.forall_mem_cons.mpr ⟨rfl, List.forall_mem_cons.mpr ⟨rfl, List.forall_mem_cons.mpr ⟨rfl, fun _ h => absurd h List.not_mem_nil⟩⟩⟩⟩⟩⟩) ?_
          exact ih2000 (z1989 + 1) μ2039 T2041 (mF.up (mF.up (mF.call mF.refl F1994 rfl) (A_21 hw) u2020 rfl) A2038 u2040 rfl) (rW (c := 0) (d := 1000) (rAdd (e := 1) (f := 1000) h2002 (rR (x := 1)) rfl) rfl) (PC.keep I1996 hw ((mF.up (mF.up mF.refl (A_21 hw) u2020 rfl) A2038 u2040 rfl) : mF [21006, 200006] w μ1990 μ2039) rfl) (RT.keep I1997 hw ((mF.up (mF.up mF.refl (A_21 hw) u2020 rfl) A2038 u2040 rfl) : mF [21006, 200006] w μ1990 μ2039) rfl) (vc_X1_doActs_W12_13 (nS h1998) h2001 h4 h3 hp2 h2003 h2002) ((((W2026.2 h2025).1 h2034) b2036 q2037 A2038) μ2039 u2040 T2041)
        by_cases h2042 : z2022 = 14
        · refine mr_tableIn (pc := 62) (v := 14) (tgt := 260) dX1_doActs_62 h2042 rfl rfl (by decide) ?_
          have h2043 : 14 ≤ z2022 ∧ z2022 ≤ 14 := (vc_X1_doActs_W12_15 h2042 h2025 h2034 h2024)
          refine mr_iinc (pc := 260) (lv' := [(5, iv (z1989 + 1)), (6, iv z2010), (0, .ref 21), (1, .ref a1), (2, iv p2), (3, iv p3), (4, iv p4)]) dX1_doActs_260 rfl (by decide) rfl ?_
          refine sv_goto (pc := 263) (tgt := 3) dX1_doActs_263 (by decide) ?_
          refine mr_lvS (lv' := [(0, .ref 21), (1, .ref a1), (2, iv p2), (3, iv p3), (4, iv p4), (5, iv (z1989 + 1))]) (List.forall_mem_cons.mpr ⟨rfl, List.forall_mem_cons.mpr ⟨rfl, List.forall_mem_cons.mpr ⟨rfl, List.forall_mem_cons.mpr ⟨rfl, List.forall_mem_cons.mpr ⟨rfl, List.forall_mem_cons.mpr ⟨rfl, fun _ h => absurd h List.not_mem_nil⟩⟩⟩⟩⟩⟩) ?_
          exact ih2000 (z1989 + 1) μ2019 T2021 (mF.up (mF.call mF.refl F1994 rfl) (A_21 hw) u2020 rfl) (rW (c := 0) (d := 1000) (rAdd (e := 1) (f := 1000) h2002 (rR (x := 1)) rfl) rfl) (PC.keep I1996 hw ((mF.up mF.refl (A_21 hw) u2020 rfl) : mF [21006] w μ1990 μ2019) rfl) (RT.keep I1997 hw ((mF.up mF.refl (A_21 hw) u2020 rfl) : mF [21006] w μ1990 μ2019) rfl) (vc_X1_doActs_W12_13 (nS h1998) h2001 h4 h3 hp2 h2003 h2002) (((W2026.2 h2025).2 h2034).1 h2042)
        by_cases h2044 : z2022 = 15
        · refine mr_tableIn (pc := 62) (v := 15) (tgt := 260) dX1_doActs_62 h2044 rfl rfl (by decide) ?_
          have h2045 : 15 ≤ z2022 ∧ z2022 ≤ 15 := (vc_X1_doActs_W12_16 h2044 h2025 h2034 h2042 h2024)
          refine mr_iinc (pc := 260) (lv' := [(5, iv (z1989 + 1)), (6, iv z2010), (0, .ref 21), (1, .ref a1), (2, iv p2), (3, iv p3), (4, iv p4)]) dX1_doActs_260 rfl (by decide) rfl ?_
          refine sv_goto (pc := 263) (tgt := 3) dX1_doActs_263 (by decide) ?_
          refine mr_lvS (lv' := [(0, .ref 21), (1, .ref a1), (2, iv p2), (3, iv p3), (4, iv p4), (5, iv (z1989 + 1))]) (List.forall_mem_cons.mpr ⟨rfl, List.forall_mem_cons.mpr ⟨rfl, List.forall_mem_cons.mpr ⟨rfl, List.forall_mem_cons.mpr ⟨rfl, List.forall_mem_cons.mpr ⟨rfl, List.forall_mem_cons.mpr ⟨rfl, fun _ h => absurd h List.not_mem_nil⟩⟩⟩⟩⟩⟩) ?_
          exact ih2000 (z1989 + 1) μ2019 T2021 (mF.up (mF.call mF.refl F1994 rfl) (A_21 hw) u2020 rfl) (rW (c := 0) (d := 1000) (rAdd (e := 1) (f := 1000) h2002 (rR (x := 1)) rfl) rfl) (PC.keep I1996 hw ((mF.up mF.refl (A_21 hw) u2020 rfl) : mF [21006] w μ1990 μ2019) rfl) (RT.keep I1997 hw ((mF.up mF.refl (A_21 hw) u2020 rfl) : mF [21006] w μ1990 μ2019) rfl) (vc_X1_doActs_W12_13 (nS h1998) h2001 h4 h3 hp2 h2003 h2002) ((((W2026.2 h2025).2 h2034).2 h2042).1 h2044)
        by_cases h2046 : z2022 = 16
        · refine mr_tableIn (pc := 62) (v := 16) (tgt := 260) dX1_doActs_62 h2046 rfl rfl (by decide) ?_
          have h2047 : 16 ≤ z2022 ∧ z2022 ≤ 16 := (vc_X1_doActs_W12_17 h2046 h2025 h2034 h2042 h2044 h2024)
          refine mr_iinc (pc := 260) (lv' := [(5, iv (z1989 + 1)), (6, iv z2010), (0, .ref 21), (1, .ref a1), (2, iv p2), (3, iv p3), (4, iv p4)]) dX1_doActs_260 rfl (by decide) rfl ?_
          refine sv_goto (pc := 263) (tgt := 3) dX1_doActs_263 (by decide) ?_
          refine mr_lvS (lv' := [(0, .ref 21), (1, .ref a1), (2, iv p2), (3, iv p3), (4, iv p4), (5, iv (z1989 + 1))]) (List.forall_mem_cons.mpr ⟨rfl, List.forall_mem_cons.mpr ⟨rfl, List.forall_mem_cons.mpr ⟨rfl, List.forall_mem_cons.mpr ⟨rfl, List.forall_mem_cons.mpr ⟨rfl, List.forall_mem_cons.mpr ⟨rfl, fun _ h => absurd h List.not_mem_nil⟩⟩⟩⟩⟩⟩) ?_
          exact ih2000 (z1989 + 1) μ2019 T2021 (mF.up (mF.call mF.refl F1994 rfl) (A_21 hw) u2020 rfl) (rW (c := 0) (d := 1000) (rAdd (e := 1) (f := 1000) h2002 (rR (x := 1)) rfl) rfl) (PC.keep I1996 hw ((mF.up mF.refl (A_21 hw) u2020 rfl) : mF [21006] w μ1990 μ2019) rfl) (RT.keep I1997 hw ((mF.up mF.refl (A_21 hw) u2020 rfl) : mF [21006] w μ1990 μ2019) rfl) (vc_X1_doActs_W12_13 (nS h1998) h2001 h4 h3 hp2 h2003 h2002) (((((W2026.2 h2025).2 h2034).2 h2042).2 h2044).1 h2046)
        by_cases h2048 : z2022 = 17
        · refine mr_tableIn (pc := 62) (v := 17) (tgt := 260) dX1_doActs_62 h2048 rfl rfl (by decide) ?_
          have h2049 : 17 ≤ z2022 ∧ z2022 ≤ 17 := (vc_X1_doActs_W12_18 h2048 h2025 h2034 h2042 h2044 h2046 h2024)
          refine mr_iinc (pc := 260) (lv' := [(5, iv (z1989 + 1)), (6, iv z2010), (0, .ref 21), (1, .ref a1), (2, iv p2), (3, iv p3), (4, iv p4)]) dX1_doActs_260 rfl (by decide) rfl ?_
          refine sv_goto (pc := 263) (tgt := 3) dX1_doActs_263 (by decide) ?_
          refine mr_lvS (lv' := [(0, .ref 21), (1, .ref a1), (2, iv p2), (3, iv p3), (4, iv p4), (5, iv (z1989 + 1))]) (List.forall_mem_cons.mpr ⟨rfl, List.forall_mem_cons.mpr ⟨rfl, List.forall_mem_cons.mpr ⟨rfl, List.forall_mem_cons.mpr ⟨rfl, List.forall_mem_cons.mpr ⟨rfl, List.forall_mem_cons.mpr ⟨rfl, fun _ h => absurd h List.not_mem_nil⟩⟩⟩⟩⟩⟩) ?_
          exact ih2000 (z1989 + 1) μ2019 T2021 (mF.up (mF.call mF.refl F1994 rfl) (A_21 hw) u2020 rfl) (rW (c := 0) (d := 1000) (rAdd (e := 1) (f := 1000) h2002 (rR (x := 1)) rfl) rfl) (PC.keep I1996 hw ((mF.up mF.refl (A_21 hw) u2020 rfl) : mF [21006] w μ1990 μ2019) rfl) (RT.keep I1997 hw ((mF.up mF.refl (A_21 hw) u2020 rfl) : mF [21006] w μ1990 μ2019) rfl) (vc_X1_doActs_W12_13 (nS h1998) h2001 h4 h3 hp2 h2003 h2002) ((((((W2026.2 h2025).2 h2034).2 h2042).2 h2044).2 h2046).1 h2048)
        have W2051 := ((((((W2026.2 h2025).2 h2034).2 h2042).2 h2044).2 h2046).2 h2048)
        by_cases h2050 : z2022 = 18
        · refine mr_tableIn (pc := 62) (v := 18) (tgt := 260) dX1_doActs_62 h2050 rfl rfl (by decide) ?_
          have h2052 : 18 ≤ z2022 ∧ z2022 ≤ 18 := (vc_X1_doActs_W12_19 h2050 h2025 h2034 h2042 h2044 h2046 h2048 h2024)
          refine mr_iinc (pc := 260) (lv' := [(5, iv (z1989 + 1)), (6, iv z2010), (0, .ref 21), (1, .ref a1), (2, iv p2), (3, iv p3), (4, iv p4)]) dX1_doActs_260 rfl (by decide) rfl ?_
          refine sv_goto (pc := 263) (tgt := 3) dX1_doActs_263 (by decide) ?_
          refine mr_lvS (lv' := [(0, .ref 21), (1, .ref a1), (2, iv p2), (3, iv p3), (4, iv p4), (5, iv (z1989 + 1))]) (List.forall_mem_cons.mpr ⟨rfl, List.forall_mem_cons.mpr ⟨rfl, List.forall_mem_cons.mpr ⟨rfl, List.forall_mem_cons.mpr ⟨rfl, List.forall_mem_cons.mpr ⟨rfl, List.forall_mem_cons.mpr ⟨rfl, fun _ h => absurd h List.not_mem_nil⟩⟩⟩⟩⟩⟩) ?_
          exact ih2000 (z1989 + 1) μ2019 T2021 (mF.up (mF.call mF.refl F1994 rfl) (A_21 hw) u2020 rfl) (rW (c := 0) (d := 1000) (rAdd (e := 1) (f := 1000) h2002 (rR (x := 1)) rfl) rfl) (PC.keep I1996 hw ((mF.up mF.refl (A_21 hw) u2020 rfl) : mF [21006] w μ1990 μ2019) rfl) (RT.keep I1997 hw ((mF.up mF.refl (A_21 hw) u2020 rfl) : mF [21006] w μ1990 μ2019) rfl) (vc_X1_doActs_W12_13 (nS h1998) h2001 h4 h3 hp2 h2003 h2002) (W2051.1 h2050)
        by_cases h2053 : z2022 = 19
        · refine mr_tableIn (pc := 62) (v := 19) (tgt := 260) dX1_doActs_62 h2053 rfl rfl (by decide) ?_
          have h2054 : 19 ≤ z2022 ∧ z2022 ≤ 19 := (vc_X1_doActs_W12_20 h2053 h2025 h2034 h2042 h2044 h2046 h2048 h2050 h2024)
          refine mr_iinc (pc := 260) (lv' := [(5, iv (z1989 + 1)), (6, iv z2010), (0, .ref 21), (1, .ref a1), (2, iv p2), (3, iv p3), (4, iv p4)]) dX1_doActs_260 rfl (by decide) rfl ?_
          refine sv_goto (pc := 263) (tgt := 3) dX1_doActs_263 (by decide) ?_
          refine mr_lvS (lv' := [(0, .ref 21), (1, .ref a1), (2, iv p2), (3, iv p3), (4, iv p4), (5, iv (z1989 + 1))]) (List.forall_mem_cons.mpr ⟨rfl, List.forall_mem_cons.mpr ⟨rfl, List.forall_mem_cons.mpr ⟨rfl, List.forall_mem_cons.mpr ⟨rfl, List.forall_mem_cons.mpr ⟨rfl, List.forall_mem_cons.mpr ⟨rfl, fun _ h => absurd h List.not_mem_nil⟩⟩⟩⟩⟩⟩) ?_
          exact ih2000 (z1989 + 1) μ2019 T2021 (mF.up (mF.call mF.refl F1994 rfl) (A_21 hw) u2020 rfl) (rW (c := 0) (d := 1000) (rAdd (e := 1) (f := 1000) h2002 (rR (x := 1)) rfl) rfl) (PC.keep I1996 hw ((mF.up mF.refl (A_21 hw) u2020 rfl) : mF [21006] w μ1990 μ2019) rfl) (RT.keep I1997 hw ((mF.up mF.refl (A_21 hw) u2020 rfl) : mF [21006] w μ1990 μ2019) rfl) (vc_X1_doActs_W12_13 (nS h1998) h2001 h4 h3 hp2 h2003 h2002) ((W2051.2 h2050).1 h2053)
        by_cases h2055 : z2022 = 20
        · refine mr_tableIn (pc := 62) (v := 20) (tgt := 260) dX1_doActs_62 h2055 rfl rfl (by decide) ?_
          have h2056 : 20 ≤ z2022 ∧ z2022 ≤ 20 := (vc_X1_doActs_W12_21 h2055 h2034 h2042 h2044 h2046 h2048 h2050 h2053 h2024)
          refine mr_iinc (pc := 260) (lv' := [(5, iv (z1989 + 1)), (6, iv z2010), (0, .ref 21), (1, .ref a1), (2, iv p2), (3, iv p3), (4, iv p4)]) dX1_doActs_260 rfl (by decide) rfl ?_
          refine sv_goto (pc := 263) (tgt := 3) dX1_doActs_263 (by decide) ?_
          refine mr_lvS (lv' := [(0, .ref 21), (1, .ref a1), (2, iv p2), (3, iv p3), (4, iv p4), (5, iv (z1989 + 1))]) (List.forall_mem_cons.mpr ⟨rfl, List.forall_mem_cons.mpr ⟨rfl, List.forall_mem_cons.mpr ⟨rfl, List.forall_mem_cons.mpr ⟨rfl, List.forall_mem_cons.mpr ⟨rfl, List.forall_mem_cons.mpr ⟨rfl, fun _ h => absurd h List.not_mem_nil⟩⟩⟩⟩⟩⟩) ?_
          exact ih2000 (z1989 + 1) μ2019 T2021 (mF.up (mF.call mF.refl F1994 rfl) (A_21 hw) u2020 rfl) (rW (c := 0) (d := 1000) (rAdd (e := 1) (f := 1000) h2002 (rR (x := 1)) rfl) rfl) (PC.keep I1996 hw ((mF.up mF.refl (A_21 hw) u2020 rfl) : mF [21006] w μ1990 μ2019) rfl) (RT.keep I1997 hw ((mF.up mF.refl (A_21 hw) u2020 rfl) : mF [21006] w μ1990 μ2019) rfl) (vc_X1_doActs_W12_13 (nS h1998) h2001 h4 h3 hp2 h2003 h2002) (((W2051.2 h2050).2 h2053).1 h2055)
        by_cases h2057 : z2022 = 21
        · refine mr_tableIn (pc := 62) (v := 21) (tgt := 260) dX1_doActs_62 h2057 rfl rfl (by decide) ?_
          have h2058 : 21 ≤ z2022 ∧ z2022 ≤ 21 := (vc_X1_doActs_W12_22 h2057 h2042 h2044 h2046 h2048 h2050 h2053 h2055 h2024)
          refine mr_iinc (pc := 260) (lv' := [(5, iv (z1989 + 1)), (6, iv z2010), (0, .ref 21), (1, .ref a1), (2, iv p2), (3, iv p3), (4, iv p4)]) dX1_doActs_260 rfl (by decide) rfl ?_
          refine sv_goto (pc := 263) (tgt := 3) dX1_doActs_263 (by decide) ?_
          refine mr_lvS (lv' := [(0, .ref 21), (1, .ref a1), (2, iv p2), (3, iv p3), (4, iv p4), (5, iv (z1989 + 1))]) (List.forall_mem_cons.mpr ⟨rfl, List.forall_mem_cons.mpr ⟨rfl, List.forall_mem_cons.mpr ⟨rfl, List.forall_mem_cons.mpr ⟨rfl, List.forall_mem_cons.mpr ⟨rfl, List.forall_mem_cons.mpr ⟨rfl, fun _ h => absurd h List.not_mem_nil⟩⟩⟩⟩⟩⟩) ?_
          exact ih2000 (z1989 + 1) μ2019 T2021 (mF.up (mF.call mF.refl F1994 rfl) (A_21 hw) u2020 rfl) (rW (c := 0) (d := 1000) (rAdd (e := 1) (f := 1000) h2002 (rR (x := 1)) rfl) rfl) (PC.keep I1996 hw ((mF.up mF.refl (A_21 hw) u2020 rfl) : mF [21006] w μ1990 μ2019) rfl) (RT.keep I1997 hw ((mF.up mF.refl (A_21 hw) u2020 rfl) : mF [21006] w μ1990 μ2019) rfl) (vc_X1_doActs_W12_13 (nS h1998) h2001 h4 h3 hp2 h2003 h2002) ((((W2051.2 h2050).2 h2053).2 h2055).1 h2057)
        by_cases h2059 : z2022 = 22
        · refine mr_tableIn (pc := 62) (v := 22) (tgt := 260) dX1_doActs_62 h2059 rfl rfl (by decide) ?_
          have h2060 : 22 ≤ z2022 ∧ z2022 ≤ 22 := (vc_X1_doActs_W12_23 h2059 h2044 h2046 h2048 h2050 h2053 h2055 h2057 h2024)
          refine mr_iinc (pc := 260) (lv' := [(5, iv (z1989 + 1)), (6, iv z2010), (0, .ref 21), (1, .ref a1), (2, iv p2), (3, iv p3), (4, iv p4)]) dX1_doActs_260 rfl (by decide) rfl ?_
          refine sv_goto (pc := 263) (tgt := 3) dX1_doActs_263 (by decide) ?_
          refine mr_lvS (lv' := [(0, .ref 21), (1, .ref a1), (2, iv p2), (3, iv p3), (4, iv p4), (5, iv (z1989 + 1))]) (List.forall_mem_cons.mpr ⟨rfl, List.forall_mem_cons.mpr ⟨rfl, List.forall_mem_cons.mpr ⟨rfl, List.forall_mem_cons.mpr ⟨rfl, List.forall_mem_cons.mpr ⟨rfl, List.forall_mem_cons.mpr ⟨rfl, fun _ h => absurd h List.not_mem_nil⟩⟩⟩⟩⟩⟩) ?_
          exact ih2000 (z1989 + 1) μ2019 T2021 (mF.up (mF.call mF.refl F1994 rfl) (A_21 hw) u2020 rfl) (rW (c := 0) (d := 1000) (rAdd (e := 1) (f := 1000) h2002 (rR (x := 1)) rfl) rfl) (PC.keep I1996 hw ((mF.up mF.refl (A_21 hw) u2020 rfl) : mF [21006] w μ1990 μ2019) rfl) (RT.keep I1997 hw ((mF.up mF.refl (A_21 hw) u2020 rfl) : mF [21006] w μ1990 μ2019) rfl) (vc_X1_doActs_W12_13 (nS h1998) h2001 h4 h3 hp2 h2003 h2002) (((((W2051.2 h2050).2 h2053).2 h2055).2 h2057).1 h2059)
        by_cases h2061 : z2022 = 23
        · refine mr_tableIn (pc := 62) (v := 23) (tgt := 144) dX1_doActs_62 h2061 rfl rfl (by decide) ?_
          have h2062 : 23 ≤ z2022 ∧ z2022 ≤ 23 := (vc_X1_doActs_W12_24 h2061 h2046 h2048 h2050 h2053 h2055 h2057 h2059 h2024)
          refine sv_aload_n (pc := 144) dX1_doActs_144 rfl rfl ?_
          refine mr_iconst (pc := 145) (z := 1) dX1_doActs_145 ?_
          refine pf_X1_7 (pc := 146) dX1_doActs_146 wF_X1_50 (A_21 hw) T2021 (rW (c := 0) (d := 2) (rR (x := 1)) rfl) fun μ2063 u2064 T2065 => ?_
          refine sv_goto (pc := 149) (tgt := 260) dX1_doActs_149 (by decide) ?_
          refine mr_iinc (pc := 260) (lv' := [(5, iv (z1989 + 1)), (6, iv z2010), (0, .ref 21), (1, .ref a1), (2, iv p2), (3, iv p3), (4, iv p4)]) dX1_doActs_260 rfl (by decide) rfl ?_
          refine sv_goto (pc := 263) (tgt := 3) dX1_doActs_263 (by decide) ?_
          refine mr_lvS (lv' := [(0, .ref 21), (1, .ref a1), (2, iv p2), (3, iv p3), (4, iv p4), (5, iv (z1989 + 1))]) (List.forall_mem_cons.mpr ⟨rfl, List.forall_mem_cons.mpr ⟨rfl, List.forall_mem_cons.mpr ⟨rfl, List.forall_mem_cons.mpr ⟨rfl, List.forall_mem_cons.mpr ⟨rfl, List.forall_mem_cons.mpr ⟨rfl, fun _ h => absurd h List.not_mem_nil⟩⟩⟩⟩⟩⟩) ?_
          exact ih2000 (z1989 + 1) μ2063 T2065 (mF.up (mF.up (mF.call mF.refl F1994 rfl) (A_21 hw) u2020 rfl) (A_21 hw) u2064 rfl) (rW (c := 0) (d := 1000) (rAdd (e := 1) (f := 1000) h2002 (rR (x := 1)) rfl) rfl) (PC.keep I1996 hw ((mF.up (mF.up mF.refl (A_21 hw) u2020 rfl) (A_21 hw) u2064 rfl) : mF [21006, 21007] w μ1990 μ2063) rfl) (RT.keep I1997 hw ((mF.up (mF.up mF.refl (A_21 hw) u2020 rfl) (A_21 hw) u2064 rfl) : mF [21006, 21007] w μ1990 μ2063) rfl) (vc_X1_doActs_W12_13 (nS h1998) h2001 h4 h3 hp2 h2003 h2002) (((((((W2051.2 h2050).2 h2053).2 h2055).2 h2057).2 h2059).1 h2061) μ2063 u2064 T2065)
        have W2067 := ((((((W2051.2 h2050).2 h2053).2 h2055).2 h2057).2 h2059).2 h2061)
        by_cases h2066 : z2022 = 24
        · refine mr_tableIn (pc := 62) (v := 24) (tgt := 152) dX1_doActs_62 h2066 rfl rfl (by decide) ?_
          have h2068 : 24 ≤ z2022 ∧ z2022 ≤ 24 := (vc_X1_doActs_W12_25 h2066 h2048 h2050 h2053 h2055 h2057 h2059 h2061 h2024)
          refine sv_aload_n (pc := 152) dX1_doActs_152 rfl rfl ?_
          refine mr_iconst (pc := 153) (z := 2) dX1_doActs_153 ?_
          refine pf_X1_7 (pc := 154) dX1_doActs_154 wF_X1_50 (A_21 hw) T2021 (rW (c := 0) (d := 2) (rR (x := 2)) rfl) fun μ2069 u2070 T2071 => ?_
          refine sv_goto (pc := 157) (tgt := 260) dX1_doActs_157 (by decide) ?_
          refine mr_iinc (pc := 260) (lv' := [(5, iv (z1989 + 1)), (6, iv z2010), (0, .ref 21), (1, .ref a1), (2, iv p2), (3, iv p3), (4, iv p4)]) dX1_doActs_260 rfl (by decide) rfl ?_
          refine sv_goto (pc := 263) (tgt := 3) dX1_doActs_263 (by decide) ?_
          refine mr_lvS (lv' := [(0, .ref 21), (1, .ref a1), (2, iv p2), (3, iv p3), (4, iv p4), (5, iv (z1989 + 1))]) (List.forall_mem_cons.mpr ⟨rfl, List.forall_mem_cons.mpr ⟨rfl, List.forall_mem_cons.mpr ⟨rfl, List.forall_mem_cons.mpr ⟨rfl, List.forall_mem_cons.mpr ⟨rfl, List.forall_mem_cons.mpr ⟨rfl, fun _ h => absurd h List.not_mem_nil⟩⟩⟩⟩⟩⟩) ?_
          exact ih2000 (z1989 + 1) μ2069 T2071 (mF.up (mF.up (mF.call mF.refl F1994 rfl) (A_21 hw) u2020 rfl) (A_21 hw) u2070 rfl) (rW (c := 0) (d := 1000) (rAdd (e := 1) (f := 1000) h2002 (rR (x := 1)) rfl) rfl) (PC.keep I1996 hw ((mF.up (mF.up mF.refl (A_21 hw) u2020 rfl) (A_21 hw) u2070 rfl) : mF [21006, 21007] w μ1990 μ2069) rfl) (RT.keep I1997 hw ((mF.up (mF.up mF.refl (A_21 hw) u2020 rfl) (A_21 hw) u2070 rfl) : mF [21006, 21007] w μ1990 μ2069) rfl) (vc_X1_doActs_W12_13 (nS h1998) h2001 h4 h3 hp2 h2003 h2002) ((W2067.1 h2066) μ2069 u2070 T2071)
        by_cases h2072 : z2022 = 25
        · refine mr_tableIn (pc := 62) (v := 25) (tgt := 160) dX1_doActs_62 h2072 rfl rfl (by decide) ?_
          have h2073 : 25 ≤ z2022 ∧ z2022 ≤ 25 := (vc_X1_doActs_W12_26 h2072 h2050 h2053 h2055 h2057 h2059 h2061 h2066 h2024)
          refine sv_aload_n (pc := 160) dX1_doActs_160 rfl rfl ?_
          refine gf_X1_2 (pc := 161) dX1_doActs_161 wF_X1_25 (A_21 hw) T2021 (RT.keep I1997 hw ((mF.up mF.refl (A_21 hw) u2020 rfl) : mF [21006] w μ1990 μ2019) rfl) fun b2074 q2075 A2076 => ?_
          refine mr_iload (pc := 164) (z := z2010) dX1_doActs_164 rfl ?_
          refine mr_cVV (pc := 166) (c_X7_addMark_W hw T2021 A2076 (rW (c := (-2147483648)) (d := 2147483647) h2013 rfl) (((W2067.2 h2066).1 h2072) b2074 q2075 A2076)) (gOk _ _ _ _ _) dX1_doActs_166 (tX7_addMark _ _ _ _ _) ⟨wV_X7_addMark, wL_X7_addMark⟩ wM_X1_124 (gCX7 _ _ _ _ _) rfl A2076 rfl ⟨le_t rfl, le_t rfl⟩ ⟨le_t rfl, le_t rfl⟩ rfl (le_t rfl) fun μ2077 T2078 F2079 h2080 => ?_
          refine sv_goto (pc := 169) (tgt := 260) dX1_doActs_169 (by decide) ?_
          refine mr_iinc (pc := 260) (lv' := [(5, iv (z1989 + 1)), (6, iv z2010), (0, .ref 21), (1, .ref a1), (2, iv p2), (3, iv p3), (4, iv p4)]) dX1_doActs_260 rfl (by decide) rfl ?_
          refine sv_goto (pc := 263) (tgt := 3) dX1_doActs_263 (by decide) ?_
          refine mr_lvS (lv' := [(0, .ref 21), (1, .ref a1), (2, iv p2), (3, iv p3), (4, iv p4), (5, iv (z1989 + 1))]) (List.forall_mem_cons.mpr ⟨rfl, List.forall_mem_cons.mpr ⟨rfl, List.forall_mem_cons.mpr ⟨rfl, List.forall_mem_cons.mpr ⟨rfl, List.forall_mem_cons.mpr ⟨rfl, List.forall_mem_cons.mpr ⟨rfl, fun _ h => absurd h List.not_mem_nil⟩⟩⟩⟩⟩⟩) ?_
          exact ih2000 (z1989 + 1) μ2077 T2078 (mF.call (mF.up (mF.call mF.refl F1994 rfl) (A_21 hw) u2020 rfl) F2079 rfl) (rW (c := 0) (d := 1000) (rAdd (e := 1) (f := 1000) h2002 (rR (x := 1)) rfl) rfl) (PC.keep I1996 hw ((mF.call (mF.up mF.refl (A_21 hw) u2020 rfl) F2079 rfl) : mF [21006, 200008, 202999] w μ1990 μ2077) rfl) (RT.keep I1997 hw ((mF.call (mF.up mF.refl (A_21 hw) u2020 rfl) F2079 rfl) : mF [21006, 200008, 202999] w μ1990 μ2077) rfl) (vc_X1_doActs_W12_13 (nS h1998) h2001 h4 h3 hp2 h2003 h2002) (h2080.1 T2078 F2079)
        by_cases h2081 : z2022 = 26
        · refine mr_tableIn (pc := 62) (v := 26) (tgt := 172) dX1_doActs_62 h2081 rfl rfl (by decide) ?_
          have h2082 : 26 ≤ z2022 ∧ z2022 ≤ 26 := (vc_X1_doActs_W12_27 h2081 h2053 h2055 h2057 h2059 h2061 h2066 h2072 h2024)
          refine sv_aload_n (pc := 172) dX1_doActs_172 rfl rfl ?_
          refine gf_X1_2 (pc := 173) dX1_doActs_173 wF_X1_25 (A_21 hw) T2021 (RT.keep I1997 hw ((mF.up mF.refl (A_21 hw) u2020 rfl) : mF [21006] w μ1990 μ2019) rfl) fun b2083 q2084 A2085 => ?_
          refine mr_iload (pc := 176) (z := z2010) dX1_doActs_176 rfl ?_
          refine mr_cVV (pc := 178) (c_X7_dropMark_W hw T2021 A2085 (rW (c := (-2147483648)) (d := 2147483647) h2013 rfl) ((((W2067.2 h2066).2 h2072).1 h2081) b2083 q2084 A2085)) (gOk _ _ _ _ _) dX1_doActs_178 (tX7_dropMark _ _ _ _ _) ⟨wV_X7_dropMark, wL_X7_dropMark⟩ wM_X1_128 (gCX7 _ _ _ _ _) rfl A2085 rfl ⟨le_t rfl, le_t rfl⟩ ⟨le_t rfl, le_t rfl⟩ rfl (le_t rfl) fun μ2086 T2087 F2088 h2089 => ?_
          refine sv_goto (pc := 181) (tgt := 260) dX1_doActs_181 (by decide) ?_
          refine mr_iinc (pc := 260) (lv' := [(5, iv (z1989 + 1)), (6, iv z2010), (0, .ref 21), (1, .ref a1), (2, iv p2), (3, iv p3), (4, iv p4)]) dX1_doActs_260 rfl (by decide) rfl ?_
          refine sv_goto (pc := 263) (tgt := 3) dX1_doActs_263 (by decide) ?_
          refine mr_lvS (lv' := [(0, .ref 21), (1, .ref a1), (2, iv p2), (3, iv p3), (4, iv p4), (5, iv (z1989 + 1))]) (List.forall_mem_cons.mpr ⟨rfl, List.forall_mem_cons.mpr ⟨rfl, List.forall_mem_cons.mpr ⟨rfl, List.forall_mem_cons.mpr ⟨rfl, List.forall_mem_cons.mpr ⟨rfl, List.forall_mem_cons.mpr ⟨rfl, fun _ h => absurd h List.not_mem_nil⟩⟩⟩⟩⟩⟩) ?_
          exact ih2000 (z1989 + 1) μ2086 T2087 (mF.call (mF.up (mF.call mF.refl F1994 rfl) (A_21 hw) u2020 rfl) F2088 rfl) (rW (c := 0) (d := 1000) (rAdd (e := 1) (f := 1000) h2002 (rR (x := 1)) rfl) rfl) (PC.keep I1996 hw ((mF.call (mF.up mF.refl (A_21 hw) u2020 rfl) F2088 rfl) : mF [21006, 200008, 202999] w μ1990 μ2086) rfl) (RT.keep I1997 hw ((mF.call (mF.up mF.refl (A_21 hw) u2020 rfl) F2088 rfl) : mF [21006, 200008, 202999] w μ1990 μ2086) rfl) (vc_X1_doActs_W12_13 (nS h1998) h2001 h4 h3 hp2 h2003 h2002) (h2089.1 T2087 F2088)
        by_cases h2090 : z2022 = 27
        · refine mr_tableIn (pc := 62) (v := 27) (tgt := 208) dX1_doActs_62 h2090 rfl rfl (by decide) ?_
          have h2091 : 27 ≤ z2022 ∧ z2022 ≤ 27 := (vc_X1_doActs_W12_28 h2090 h2055 h2057 h2059 h2061 h2066 h2072 h2081 h2024)
          refine sv_aload_n (pc := 208) dX1_doActs_208 rfl rfl ?_
          refine gf_X1_2 (pc := 209) dX1_doActs_209 wF_X1_25 (A_21 hw) T2021 (RT.keep I1997 hw ((mF.up mF.refl (A_21 hw) u2020 rfl) : mF [21006] w μ1990 μ2019) rfl) fun b2092 q2093 A2094 => ?_
          refine gf_X7_7 (pc := 212) dX1_doActs_212 wF_X1_96 A2094 T2021 fun z2095 q2096 h2097 => ?_
          have J2120 : ∀ (μ2114 : mM), (mT w μ2114) → (mF [21007, 200007, 201999] w μ2019 μ2114) → (PC w μ2114) → (RT μ2114) → ((WJ_X1_doActs_W11_2 w (loopF (WL_X1_doActs_W11_1 w μ a1 p2 p3 p4 Q) False nL1991) z1989 μ2019) μ2114) → sV (gG l D c H0 sa) mX1_doActs (sRm 6 0 0) (sZ (gG l D c H0 sa) 0 0 (qV w [21006, 21007, 200004, 200006, 200007, 200008, 201999, 202999] μ (fun μ1 => Q μ1 ∧ True))) 260 [(0, .ref 21), (1, .ref a1), (2, iv p2), (3, iv p3), (4, iv p4), (5, iv z1989)] [] (mk w μ2114) 0 0 := by
            intro μ2114 T2115 F2116 I2118 I2119 W2121
            refine mr_iinc (pc := 260) (lv' := [(5, iv (z1989 + 1)), (0, .ref 21), (1, .ref a1), (2, iv p2), (3, iv p3), (4, iv p4)]) dX1_doActs_260 rfl (by decide) rfl ?_
            refine sv_goto (pc := 263) (tgt := 3) dX1_doActs_263 (by decide) ?_
            refine mr_lvS (lv' := [(0, .ref 21), (1, .ref a1), (2, iv p2), (3, iv p3), (4, iv p4), (5, iv (z1989 + 1))]) (List.forall_mem_cons.mpr ⟨rfl, List.forall_mem_cons.mpr ⟨rfl, List.forall_mem_cons.mpr ⟨rfl, List.forall_mem_cons.mpr ⟨rfl, List.forall_mem_cons.mpr ⟨rfl, List.forall_mem_cons.mpr ⟨rfl, fun _ h => absurd h List.not_mem_nil⟩⟩⟩⟩⟩⟩) ?_
            exact ih2000 (z1989 + 1) μ2114 T2115 (mF.call (mF.up (mF.call mF.refl F1994 rfl) (A_21 hw) u2020 rfl) F2116 rfl) (rW (c := 0) (d := 1000) (rAdd (e := 1) (f := 1000) h2002 (rR (x := 1)) rfl) rfl) I2118 I2119 (vc_X1_doActs_W12_13 (nS h1998) h2001 h4 h3 hp2 h2003 h2002) (W2121 T2115 F2116)
          refine mr_if_le (pc := 215) (tgt := 260) dX1_doActs_215 (by decide) (r32 h2097 rfl) (fun h2122 => ?_) (fun h2122 => ?_)
          · have h2123 : 0 ≤ z2095 ∧ z2095 ≤ 0 := (vc_X12_write_57 h2122 h2097)
            refine mr_lvS (lv' := [(0, .ref 21), (1, .ref a1), (2, iv p2), (3, iv p3), (4, iv p4), (5, iv z1989)]) (List.forall_mem_cons.mpr ⟨rfl, List.forall_mem_cons.mpr ⟨rfl, List.forall_mem_cons.mpr ⟨rfl, List.forall_mem_cons.mpr ⟨rfl, List.forall_mem_cons.mpr ⟨rfl, List.forall_mem_cons.mpr ⟨rfl, fun _ h => absurd h List.not_mem_nil⟩⟩⟩⟩⟩⟩) ?_
            exact J2120 μ2019 T2021 mF.refl (PC.keep I1996 hw ((mF.up mF.refl (A_21 hw) u2020 rfl) : mF [21006] w μ1990 μ2019) rfl) (RT.keep I1997 hw ((mF.up mF.refl (A_21 hw) u2020 rfl) : mF [21006] w μ1990 μ2019) rfl) (((((((W2067.2 h2066).2 h2072).2 h2081).1 h2090) b2092 q2093 A2094) z2095 q2096 h2097).1 h2122)
          have h2124 : 1 ≤ z2095 ∧ z2095 ≤ 20 := (vc_X12_write_59 h2122 h2097)
          refine sv_aload_n (pc := 218) dX1_doActs_218 rfl rfl ?_
          refine gk_X1_2 (pc := 219) dX1_doActs_219 wF_X1_25 (A_21 hw) q2093 ?_
          refine sv_aload_n (pc := 222) dX1_doActs_222 rfl rfl ?_
          refine gk_X1_2 (pc := 223) dX1_doActs_223 wF_X1_25 (A_21 hw) q2093 ?_
          refine gf_X7_0 (pc := 226) dX1_doActs_226 wF_X1_114 A2094 T2021 fun A2125 => ?_
          refine mr_iconst (pc := 229) (z := 0) dX1_doActs_229 ?_
          refine la_201 (pc := 230) dX1_doActs_230 A2125 T2021 (rIx (n := 20) (rR (x := 0)) rfl) fun z2126 q2127 h2128 => ?_
          refine mr_iload (pc := 231) (z := z2010) dX1_doActs_231 rfl ?_
          have W2134 := ((((((((W2067.2 h2066).2 h2072).2 h2081).1 h2090) b2092 q2093 A2094) z2095 q2096 h2097).2 h2122) z2126 q2127 h2128)
          refine mr_cVI (pc := 233) (c_X7_putInFront_W hw T2021 A2094 h2128 (rW (c := (-2147483648)) (d := 1000000) h2013 rfl) W2134) (gOk _ _ _ _ _) dX1_doActs_233 (tX7_putInFront _ _ _ _ _) ⟨wV_X7_putInFront, wL_X7_putInFront⟩ wM_X1_131 (gCX7 _ _ _ _ _) rfl A2094 rfl ⟨le_t rfl, le_t rfl⟩ ⟨le_t rfl, le_t rfl⟩ rfl (le_t rfl) fun z2133 μ2129 T2130 F2131 h2132 => ?_
          refine mr_if_ne (pc := 236) (tgt := 260) dX1_doActs_236 (by decide) (r32 h2132.1 rfl) (fun h2135 => ?_) (fun h2135 => ?_)
          · have h2136 : 1 ≤ z2133 ∧ z2133 ≤ 1 := (vc_X12_ring_24 h2135 h2132.1)
            refine mr_lvS (lv' := [(0, .ref 21), (1, .ref a1), (2, iv p2), (3, iv p3), (4, iv p4), (5, iv z1989)]) (List.forall_mem_cons.mpr ⟨rfl, List.forall_mem_cons.mpr ⟨rfl, List.forall_mem_cons.mpr ⟨rfl, List.forall_mem_cons.mpr ⟨rfl, List.forall_mem_cons.mpr ⟨rfl, List.forall_mem_cons.mpr ⟨rfl, fun _ h => absurd h List.not_mem_nil⟩⟩⟩⟩⟩⟩) ?_
            exact J2120 μ2129 T2130 (mF.call mF.refl F2131 rfl) (PC.keep I1996 hw ((mF.call (mF.up mF.refl (A_21 hw) u2020 rfl) F2131 rfl) : mF [21006, 200007, 201999] w μ1990 μ2129) rfl) (RT.keep I1997 hw ((mF.call (mF.up mF.refl (A_21 hw) u2020 rfl) F2131 rfl) : mF [21006, 200007, 201999] w μ1990 μ2129) rfl) (((h2132.2.1 T2130 F2131) h2132.1).1 h2135)
          have h2137 : 0 ≤ z2133 ∧ z2133 ≤ 0 := (vc_X12_ring_22 h2135 h2132.1)
          refine sv_aload_n (pc := 239) dX1_doActs_239 rfl rfl ?_
          refine mr_iconst (pc := 240) (z := 2) dX1_doActs_240 ?_
          refine pf_X1_7 (pc := 241) dX1_doActs_241 wF_X1_50 (A_21 hw) T2130 (rW (c := 0) (d := 2) (rR (x := 2)) rfl) fun μ2138 u2139 T2140 => ?_
          refine sv_goto (pc := 244) (tgt := 260) dX1_doActs_244 (by decide) ?_
          refine mr_lvS (lv' := [(0, .ref 21), (1, .ref a1), (2, iv p2), (3, iv p3), (4, iv p4), (5, iv z1989)]) (List.forall_mem_cons.mpr ⟨rfl, List.forall_mem_cons.mpr ⟨rfl, List.forall_mem_cons.mpr ⟨rfl, List.forall_mem_cons.mpr ⟨rfl, List.forall_mem_cons.mpr ⟨rfl, List.forall_mem_cons.mpr ⟨rfl, fun _ h => absurd h List.not_mem_nil⟩⟩⟩⟩⟩⟩) ?_
          exact J2120 μ2138 T2140 (mF.up (mF.call mF.refl F2131 rfl) (A_21 hw) u2139 rfl) (PC.keep I1996 hw ((mF.up (mF.call (mF.up mF.refl (A_21 hw) u2020 rfl) F2131 rfl) (A_21 hw) u2139 rfl) : mF [21006, 21007, 200007, 201999] w μ1990 μ2138) rfl) (RT.keep I1997 hw ((mF.up (mF.call (mF.up mF.refl (A_21 hw) u2020 rfl) F2131 rfl) (A_21 hw) u2139 rfl) : mF [21006, 21007, 200007, 201999] w μ1990 μ2138) rfl) ((((h2132.2.1 T2130 F2131) h2132.1).2 h2135) μ2138 u2139 T2140)
        by_cases h2141 : z2022 = 28
        · refine mr_tableIn (pc := 62) (v := 28) (tgt := 247) dX1_doActs_62 h2141 rfl rfl (by decide) ?_
          have h2142 : 28 ≤ z2022 ∧ z2022 ≤ 28 := (vc_X1_doActs_W12_33 h2141 h2057 h2059 h2061 h2066 h2072 h2081 h2090 h2024)
          refine sv_aload_n (pc := 247) dX1_doActs_247 rfl rfl ?_
          refine mr_iload (pc := 248) (z := z2010) dX1_doActs_248 rfl ?_
          refine mr_iload (pc := 250) (z := p4) dX1_doActs_250 rfl ?_
          refine mr_iconst (pc := 252) (z := 1) dX1_doActs_252 ?_
          refine mr_iadd (pc := 253) (x := p4) (y := 1) dX1_doActs_253 ?_
          refine mr_cVV (pc := 254) (c_X1_goThrough_W12 hw T2021 (rW (c := (-2147483648)) (d := 2147483647) h2013 rfl) (rAdd (e := 12) (f := 12) hp4 (rR (x := 1)) rfl) (PC.keep I1996 hw ((mF.up mF.refl (A_21 hw) u2020 rfl) : mF [21006] w μ1990 μ2019) rfl) (RT.keep I1997 hw ((mF.up mF.refl (A_21 hw) u2020 rfl) : mF [21006] w μ1990 μ2019) rfl) (((((W2067.2 h2066).2 h2072).2 h2081).2 h2090).1 h2141)) (gOk _ _ _ _ _) dX1_doActs_254 (tX1_goThrough _ _ _ _ _) ⟨wV_X1_goThrough, wL_X1_goThrough⟩ wM_X1_53 (gCX1 _ _ _ _ _) rfl (A_21 hw) rfl ⟨le_t rfl, le_t rfl⟩ ⟨le_t rfl, le_t rfl⟩ rfl (le_t rfl) fun μ2143 T2144 F2145 h2146 => ?_
          refine sv_goto (pc := 257) (tgt := 260) dX1_doActs_257 (by decide) ?_
          refine mr_iinc (pc := 260) (lv' := [(5, iv (z1989 + 1)), (6, iv z2010), (0, .ref 21), (1, .ref a1), (2, iv p2), (3, iv p3), (4, iv p4)]) dX1_doActs_260 rfl (by decide) rfl ?_
          refine sv_goto (pc := 263) (tgt := 3) dX1_doActs_263 (by decide) ?_
          refine mr_lvS (lv' := [(0, .ref 21), (1, .ref a1), (2, iv p2), (3, iv p3), (4, iv p4), (5, iv (z1989 + 1))]) (List.forall_mem_cons.mpr ⟨rfl, List.forall_mem_cons.mpr ⟨rfl, List.forall_mem_cons.mpr ⟨rfl, List.forall_mem_cons.mpr ⟨rfl, List.forall_mem_cons.mpr ⟨rfl, List.forall_mem_cons.mpr ⟨rfl, fun _ h => absurd h List.not_mem_nil⟩⟩⟩⟩⟩⟩) ?_
          exact ih2000 (z1989 + 1) μ2143 T2144 (mF.call (mF.up (mF.call mF.refl F1994 rfl) (A_21 hw) u2020 rfl) F2145 rfl) (rW (c := 0) (d := 1000) (rAdd (e := 1) (f := 1000) h2002 (rR (x := 1)) rfl) rfl) (PC.keep I1996 hw ((mF.call (mF.up mF.refl (A_21 hw) u2020 rfl) F2145 rfl) : mF [21006, 21007, 200004, 200006, 200007, 200008, 201999, 202999] w μ1990 μ2143) rfl) (RT.keep I1997 hw ((mF.call (mF.up mF.refl (A_21 hw) u2020 rfl) F2145 rfl) : mF [21006, 21007, 200004, 200006, 200007, 200008, 201999, 202999] w μ1990 μ2143) rfl) (vc_X1_doActs_W12_13 (nS h1998) h2001 h4 h3 hp2 h2003 h2002) (h2146.1 T2144 F2145)
        refine mr_tableOut (pc := 62) (tgt := 260) dX1_doActs_62 h2024 (vc_X1_doActs_W12_34 h2025 h2034 h2042 h2044 h2046 h2048 h2050 h2053 h2055 h2057 h2059 h2061 h2066 h2072 h2081 h2090 h2141 h2024) (by decide) ?_
        refine mr_iinc (pc := 260) (lv' := [(5, iv (z1989 + 1)), (6, iv z2010), (0, .ref 21), (1, .ref a1), (2, iv p2), (3, iv p3), (4, iv p4)]) dX1_doActs_260 rfl (by decide) rfl ?_
        refine sv_goto (pc := 263) (tgt := 3) dX1_doActs_263 (by decide) ?_
        refine mr_lvS (lv' := [(0, .ref 21), (1, .ref a1), (2, iv p2), (3, iv p3), (4, iv p4), (5, iv (z1989 + 1))]) (List.forall_mem_cons.mpr ⟨rfl, List.forall_mem_cons.mpr ⟨rfl, List.forall_mem_cons.mpr ⟨rfl, List.forall_mem_cons.mpr ⟨rfl, List.forall_mem_cons.mpr ⟨rfl, List.forall_mem_cons.mpr ⟨rfl, fun _ h => absurd h List.not_mem_nil⟩⟩⟩⟩⟩⟩) ?_
        exact ih2000 (z1989 + 1) μ2019 T2021 (mF.up (mF.call mF.refl F1994 rfl) (A_21 hw) u2020 rfl) (rW (c := 0) (d := 1000) (rAdd (e := 1) (f := 1000) h2002 (rR (x := 1)) rfl) rfl) (PC.keep I1996 hw ((mF.up mF.refl (A_21 hw) u2020 rfl) : mF [21006] w μ1990 μ2019) rfl) (RT.keep I1997 hw ((mF.up mF.refl (A_21 hw) u2020 rfl) : mF [21006] w μ1990 μ2019) rfl) (vc_X1_doActs_W12_13 (nS h1998) h2001 h4 h3 hp2 h2003 h2002) (((((W2067.2 h2066).2 h2072).2 h2081).2 h2090).2 h2141)
      have h2147 : 500 ≤ z2014 ∧ z2014 ≤ 500 := (vc_X1_doActs_W12_35 h2017 h2016)
      refine sv_aload_n (pc := 38) dX1_doActs_38 rfl rfl ?_
      refine mr_iconst (pc := 39) (z := 2) dX1_doActs_39 ?_
      refine pf_X1_7 (pc := 40) dX1_doActs_40 wF_X1_50 (A_21 hw) T1993 (rW (c := 0) (d := 2) (rR (x := 2)) rfl) fun μ2148 u2149 T2150 => ?_
      exact mr_vret dX1_doActs_43 rfl (le_t rfl) (le_t rfl) T2150 (mF.up (mF.call mF.refl F1994 rfl) (A_21 hw) u2149 rfl) ⟨((((((((W1999 z1989 μ1990 rfl h1992 T1993 F1994).2 h2001) z2004 q2005 h2006).2 h2007) z2010 q2011 h2012) z2014 q2015 h2016).2 h2017) μ2148 u2149 T2150), trivial⟩
  refine mr_lvS (lv' := [(0, .ref 21), (1, .ref a1), (2, iv p2), (3, iv p3), (4, iv p4), (5, iv 0)]) (List.forall_mem_cons.mpr ⟨rfl, List.forall_mem_cons.mpr ⟨rfl, List.forall_mem_cons.mpr ⟨rfl, List.forall_mem_cons.mpr ⟨rfl, List.forall_mem_cons.mpr ⟨rfl, List.forall_mem_cons.mpr ⟨rfl, fun _ h => absurd h List.not_mem_nil⟩⟩⟩⟩⟩⟩) ?_
  exact L1991 1002 0 μ hT mF.refl (rW (c := 0) (d := 1000) (rR (x := 0)) rfl) hIPC hIRT vc_X6_split_v_102 (hQ n_1 q2 h3)
def WJ_X1_goThrough_W11_3 (w : mW) (p2 : Int) (c13 : Nat) (rec1 : (Int × Int × mM) → Prop) (z1190 : Int) (z1189 : Int) (μ1191 : mM) (z1340 : Int) (z1343 : Int) (z1468 : Int) : Prop := ((z1468 = 0) → rec1 ((((z1190 + 2) + (z1340 * 5)) + (z1343 * 2)), (z1189 + 1), μ1191)) ∧ ((¬ z1468 = 0) → WP_X1_doActs_W11 w μ1191 c13 ((z1190 + 2) + (z1340 * 5)) z1343 p2 (fun μ1505 => mT w μ1505 → mF [21006, 21007, 200004, 200006, 200007, 200008, 201999, 202999] w μ1191 μ1505 → rec1 ((((z1190 + 2) + (z1340 * 5)) + (z1343 * 2)), (z1189 + 1), μ1505)))
def WL_X1_goThrough_W11_2 (w : mW) (p2 : Int) (b10 : Nat) (c13 : Nat) (rec1 : (Int × Int × mM) → Prop) (z1190 : Int) (z1189 : Int) (μ1191 : mM) (z1340 : Int) (z1343 : Int) (rec2 : (Int × Int) → Prop) (s : (Int × Int)) : Prop := ∀ z1468 : Int, ∀ z1467 : Int, s = (z1468, z1467) → (0 ≤ z1468 ∧ z1468 ≤ 1) → (2 ≤ z1467 ∧ z1467 ≤ 2010) → ((((z1190 + 2) + (z1340 * 5)) ≤ z1467) → (WJ_X1_goThrough_W11_3 w p2 c13 rec1 z1190 z1189 μ1191 z1340 z1343 z1468) ) ∧ ((z1467 < ((z1190 + 2) + (z1340 * 5))) → ((z1468 = 0) → (WJ_X1_goThrough_W11_3 w p2 c13 rec1 z1190 z1189 μ1191 z1340 z1343 z1468) ) ∧ ((¬ z1468 = 0) → WP_X1_isSo_W w μ1191 b10 z1467 (fun z1517 _ => (0 ≤ z1517 ∧ z1517 ≤ 1) → ∀ z1518 : Int, μ1191 c13 ((z1467 + 1).toNat) = z1518 → ((-2147483648) ≤ z1518 ∧ z1518 ≤ 2147483647) → ((¬ z1518 = 1) → ((z1517 = 0) → rec2 ((0 : Int), (z1467 + 5))) ∧ ((¬ z1517 = 0) → rec2 ((1 : Int), (z1467 + 5)))) ∧ ((z1518 = 1) → ((z1517 = 1) → rec2 ((0 : Int), (z1467 + 5))) ∧ ((¬ z1517 = 1) → rec2 ((1 : Int), (z1467 + 5)))))))
def WL_X1_goThrough_W11_1 (w : mW) (μ : mM) (p2 : Int) (Q : mM → Prop) (b10 : Nat) (c13 : Nat) (z14 : Int) (rec1 : (Int × Int × mM) → Prop) (s : (Int × Int × mM)) : Prop := ∀ z1190 : Int, ∀ z1189 : Int, ∀ μ1191 : mM, s = (z1190, z1189, μ1191) → (0 ≤ z1190 ∧ z1190 ≤ 2000) → (0 ≤ z1189 ∧ z1189 ≤ 30) → mT w μ1191 → mF [21006, 21007, 200004, 200006, 200007, 200008, 201999, 202999] w μ μ1191 → ((z14 ≤ z1189) → Q μ1191) ∧ ((z1189 < z14) → ∀ z1271 : Int, μ1191 21 7 = z1271 → (0 ≤ z1271 ∧ z1271 ≤ 2) → ((¬ z1271 = 0) → Q μ1191) ∧ ((z1271 = 0) → ∀ n_1336 : Int, (w.2.2.1 c13 : Int) = n_1336 → (0 ≤ n_1336 ∧ n_1336 ≤ 2000) → ∀ z1340 : Int, μ1191 c13 (z1190.toNat) = z1340 → ((-2147483648) ≤ z1340 ∧ z1340 ≤ 2147483647) → ∀ z1343 : Int, μ1191 c13 ((z1190 + 1).toNat) = z1343 → ((-2147483648) ≤ z1343 ∧ z1343 ≤ 2147483647) → loopF (WL_X1_goThrough_W11_2 w p2 b10 c13 rec1 z1190 z1189 μ1191 z1340 z1343) False 2010 ((1 : Int), (z1190 + 2))))
def WP_X1_goThrough_W11 (w : mW) (μ : mM) (p1 : Int) (p2 : Int) (Q : mM → Prop) : Prop := ((p1 < 0) → Q μ) ∧ ((0 ≤ p1) → ∀ z4 : Int, μ 21 8 = z4 → (z4 = w.2.2.2 2 ∧ 0 ≤ z4 ∧ z4 ≤ 12) → ((z4 ≤ p1) → Q μ) ∧ ((p1 < z4) → ∀ b10 : Nat, μ 22 (p1.toNat) = (b10 : Int) → mAt w b10 230 → ∀ c13 : Nat, μ b10 1 = (c13 : Int) → ∀ z14 : Int, μ b10 0 = z14 → loopF (WL_X1_goThrough_W11_1 w μ p2 Q b10 c13 z14) False 2002 ((0 : Int), (0 : Int), μ)))
theorem vc_X1_goThrough_W11_5 {p2 : Int} (h0 : 12 < p2) (h1 : 11 ≤ p2 ∧ p2 ≤ 11) : False := by omega
set_option maxRecDepth 4000 in
set_option maxHeartbeats 4000000 in
theorem c_X1_goThrough_W11 {l : Launch} {D : va_G} {c : Nat → ClassId} {H0 : Heap} {sa : Nat × Nat × (Nat → Int32)} {w : mW} {μ : mM} (hw : mWF w) (hT : mT w μ) {p1 : Int} (hp1 : (-2147483648) ≤ p1 ∧ p1 ≤ 2147483647) {p2 : Int} (hp2 : 11 ≤ p2 ∧ p2 ≤ 11) (hIPC : PC w μ) (hIRT : RT μ) {Q : mM → Prop} (hQ : WP_X1_goThrough_W11 w μ p1 p2 Q) : sC (gG l D c H0 sa) mX1_goThrough 7 0 0 [.ref 21, iv p1, iv p2] (mk w μ) (qV w [21006, 21007, 200004, 200006, 200007, 200008, 201999, 202999] μ (fun μ1 => Q μ1 ∧ True)) := by
  refine sC.of rfl (by decide) (le_t rfl) ?_
  refine mr_lvE (lv' := [(0, .ref 21), (1, iv p1), (2, iv p2)]) rfl ?_
  refine mr_iload_n (pc := 0) (z := p1) dX1_goThrough_0 rfl rfl ?_
  refine mr_if_lt (pc := 1) (tgt := 18) dX1_goThrough_1 (by decide) hp1 (fun h1 => ?_) (fun h1 => ?_)
  · have h2 : (-2147483648) ≤ p1 ∧ p1 ≤ (-1) := (vc_X12_ring_60 h1 hp1)
    exact mr_vret dX1_goThrough_18 rfl (le_t rfl) (le_t rfl) hT mF.refl ⟨(hQ.1 h1), trivial⟩
  have h3 : 0 ≤ p1 ∧ p1 ≤ 2147483647 := (vc_X12_ring_1 h1 hp1)
  refine mr_iload_n (pc := 4) (z := p1) dX1_goThrough_4 rfl rfl ?_
  refine sv_aload_n (pc := 5) dX1_goThrough_5 rfl rfl ?_
  refine gf_X1_8 (pc := 6) dX1_goThrough_6 wF_X1_21 (A_21 hw) hT fun z4 q5 h6 => ?_
  refine mr_icmp_ge (pc := 9) (tgt := 18) dX1_goThrough_9 (by decide) (r32 h3 rfl) (r32 h6.2 rfl) (fun h7 => ?_) (fun h7 => ?_)
  · exact mr_vret dX1_goThrough_18 rfl (le_t rfl) (le_t rfl) hT mF.refl ⟨(((hQ.2 h1) z4 q5 h6).1 h7), trivial⟩
  have h8 : 0 ≤ p1 ∧ p1 ≤ 11 := (vc_X1_goThrough_W13_3 h7 h1 h6.1 h3 h6.2)
  have h9 : 1 ≤ z4 ∧ z4 ≤ 12 := (vc_X1_goThrough_W13_4 h7 h1 h6.1 h8 h6.2)
  refine mr_iload_n (pc := 12) (z := p2) dX1_goThrough_12 rfl rfl ?_
  refine mr_bipush (pc := 13) (z := 12) dX1_goThrough_13 (by decide) ?_
  refine mr_icmp_le (pc := 15) (tgt := 19) dX1_goThrough_15 (by decide) (r32 hp2 rfl) (r32 (rR (x := 12)) rfl) (fun _ => ?_) (fun h => ((vc_X1_goThrough_W11_5 h hp2)).elim)
  refine sv_aload_n (pc := 19) dX1_goThrough_19 rfl rfl ?_
  refine gf_X1_1 (pc := 20) dX1_goThrough_20 wF_X1_17 (A_21 hw) hT ?_
  refine mr_iload_n (pc := 23) (z := p1) dX1_goThrough_23 rfl rfl ?_
  refine la_22 (pc := 24) dX1_goThrough_24 (A_22 hw) hT (rIx (n := 12) h8 rfl) (vc_X1_goThrough_W12_6 h1 h6.1 h7 h8 h9) fun b10 q11 A12 => ?_
  refine mr_astore_n (pc := 25) (lv' := [(3, .ref b10), (0, .ref 21), (1, iv p1), (2, iv p2)]) dX1_goThrough_25 rfl (by decide) rfl ?_
  obtain ⟨c13, z14, q15, A16, q17, R18, e19, e20⟩ := PC.read hIPC hT A12 (vc_X1_goThrough_W12_7 h1 h7 h6.1 h8 h9) (vc_X1_goThrough_W12_6 h1 h6.1 h7 h8 h9) q11
  have h21 : 0 ≤ z14 ∧ z14 ≤ 30 := by rw [← q17]; exact hT _ _ A12 0
  refine mr_iconst (pc := 26) (z := 0) dX1_goThrough_26 ?_
  refine mr_istore (pc := 27) (lv' := [(4, iv 0), (3, .ref b10), (0, .ref 21), (1, iv p1), (2, iv p2)]) dX1_goThrough_27 (by decide) rfl ?_
  refine mr_iconst (pc := 29) (z := 0) dX1_goThrough_29 ?_
  refine mr_istore (pc := 30) (lv' := [(5, iv 0), (4, iv 0), (3, .ref b10), (0, .ref 21), (1, iv p1), (2, iv p2)]) dX1_goThrough_30 (by decide) rfl ?_
  have L1192 : ∀ (nL1192 : Nat) (z1190 z1189 : Int) (μ1191 : mM), mT w μ1191 → mF [21006, 21007, 200004, 200006, 200007, 200008, 201999, 202999] w μ μ1191 → (0 ≤ z1190 ∧ z1190 ≤ 2000) → (0 ≤ z1189 ∧ z1189 ≤ 30) → PC w μ1191 → RT μ1191 → wfR (μ c13) (w.2.2.1 c13) (z1190).toNat (z14 - z1189).toNat → (2001 - z1190) < (nL1192 : Int) → loopF (WL_X1_goThrough_W11_1 w μ p2 Q b10 c13 z14) False nL1192 (z1190, z1189, μ1191) → sV (gG l D c H0 sa) mX1_goThrough (sRm 7 0 0) (sZ (gG l D c H0 sa) 0 0 (qV w [21006, 21007, 200004, 200006, 200007, 200008, 201999, 202999] μ (fun μ1 => Q μ1 ∧ True))) 32 [(0, .ref 21), (2, iv p2), (3, .ref b10), (4, iv z1190), (5, iv z1189)] [] (mk w μ1191) 0 0 := by
    intro nL1192
    induction nL1192 with
    | zero => intro z1190 z1189 μ1191 T1195 F1196 h1193 h1194 I1198 I1199 R1200 h1201 W1202; exact ((vc_X1_goThrough_W12_8 h1201 h1193)).elim
    | succ nL1192 ih1203 =>
      intro z1190 z1189 μ1191 T1195 F1196 h1193 h1194 I1198 I1199 R1200 h1201 W1202
      refine mr_iload (pc := 32) (z := z1189) dX1_goThrough_32 rfl ?_
      refine sv_aload_n (pc := 34) dX1_goThrough_34 rfl rfl ?_
      refine gk_X5_0 (pc := 35) dX1_goThrough_35 wF_X1_57 A12 (F1196.f A12 rfl q17) ?_
      refine mr_icmp_ge (pc := 38) (tgt := 174) dX1_goThrough_38 (by decide) (r32 h1194 rfl) (r32 h21 rfl) (fun h1268 => ?_) (fun h1268 => ?_)
      · exact mr_vret dX1_goThrough_174 rfl (le_t rfl) (le_t rfl) T1195 (mF.call mF.refl F1196 rfl) ⟨((W1202 z1190 z1189 μ1191 rfl h1193 h1194 T1195 F1196).1 h1268), trivial⟩
      have h1269 : 0 ≤ z1189 ∧ z1189 ≤ 29 := (vc_X12_judgedAnew_2 h1268 h1194 h21)
      have h1270 : 1 ≤ z14 ∧ z14 ≤ 30 := (vc_X12_judgedAnew_3 h1268 h1269 h21)
      refine sv_aload_n (pc := 41) dX1_goThrough_41 rfl rfl ?_
      refine gf_X1_7 (pc := 42) dX1_goThrough_42 wF_X1_50 (A_21 hw) T1195 fun z1271 q1272 h1273 => ?_
      refine mr_if_ne (pc := 45) (tgt := 174) dX1_goThrough_45 (by decide) (r32 h1273 rfl) (fun h1333 => ?_) (fun h1333 => ?_)
      · have h1334 : 1 ≤ z1271 ∧ z1271 ≤ 2 := (vc_X12_provides_3 h1333 h1273)
        exact mr_vret dX1_goThrough_174 rfl (le_t rfl) (le_t rfl) T1195 (mF.call mF.refl F1196 rfl) ⟨((((W1202 z1190 z1189 μ1191 rfl h1193 h1194 T1195 F1196).2 h1268) z1271 q1272 h1273).1 h1333), trivial⟩
      have h1335 : 0 ≤ z1271 ∧ z1271 ≤ 0 := (vc_X12_provides_4 h1333 h1273)
      obtain ⟨n_1336, q1337⟩ : ∃ n : Int, (w.2.2.1 c13 : Int) = n := ⟨_, rfl⟩
      have h1338 : 0 ≤ n_1336 ∧ n_1336 ≤ 2000 := lnR (m := 2000) q1337 A16 rfl
      have h1339 : z1190 + 1 < n_1336 := lnLt q1337 (wfR.hd R1200 (vc_X1_goThrough_W12_13 h1193) (vc_X1_goThrough_W12_14 h1268 h1269 h1270))
      refine sv_aload_n (pc := 48) dX1_goThrough_48 rfl rfl ?_
      refine gk_X5_1 (pc := 49) dX1_goThrough_49 wF_X1_60 A12 (F1196.f A12 rfl q15) ?_
      refine mr_iload (pc := 52) (z := z1190) dX1_goThrough_52 rfl ?_
      refine la_231 (pc := 54) dX1_goThrough_54 A16 T1195 (lnC q1337 (vc_X1_goThrough_W12_15 h1339 h1338 h1193)) fun z1340 q1341 h1342 => ?_
      refine mr_istore (pc := 55) (lv' := [(6, iv z1340), (0, .ref 21), (2, iv p2), (3, .ref b10), (4, iv z1190), (5, iv z1189)]) dX1_goThrough_55 (by decide) rfl ?_
      refine sv_aload_n (pc := 57) dX1_goThrough_57 rfl rfl ?_
      refine gk_X5_1 (pc := 58) dX1_goThrough_58 wF_X1_60 A12 (F1196.f A12 rfl q15) ?_
      refine mr_iload (pc := 61) (z := z1190) dX1_goThrough_61 rfl ?_
      refine mr_iconst (pc := 63) (z := 1) dX1_goThrough_63 ?_
      refine mr_iadd (pc := 64) (x := z1190) (y := 1) dX1_goThrough_64 ?_
      refine la_231 (pc := 65) dX1_goThrough_65 A16 T1195 (lnC q1337 (vc_X1_goThrough_W12_16 h1339 h1338 h1193)) fun z1343 q1344 h1345 => ?_
      have B1346 := wfR.bd R1200 (vc_X1_goThrough_W12_13 h1193) (vc_X1_goThrough_W12_14 h1268 h1269 h1270) ((((mF.call mF.refl F1196 rfl) : mF [21006, 21007, 200004, 200006, 200007, 200008, 201999, 202999] w μ μ1191).f A16 rfl rfl).symm.trans q1341) ((((mF.call mF.refl F1196 rfl) : mF [21006, 21007, 200004, 200006, 200007, 200008, 201999, 202999] w μ μ1191).f A16 rfl rfl).symm.trans q1344)
      have h1347 : 0 ≤ z1340 ∧ 0 ≤ z1343 ∧ z1190 + 2 + 5 * z1340 + 2 * z1343 ≤ n_1336 := ⟨B1346.1.1, B1346.1.2.1, lnLe q1337 B1346.1.2.2⟩
      have h1348 : 0 ≤ z1340 ∧ z1340 ≤ 400 := (vc_X1_goThrough_W12_17 h1347 h1339 h1338 h1193 h1342 h1345)
      have h1349 : 0 ≤ z1343 ∧ z1343 ≤ 1000 := (vc_X1_goThrough_W12_18 h1347 h1339 h1338 h1193 h1348 h1345)
      refine mr_istore (pc := 66) (lv' := [(7, iv z1343), (6, iv z1340), (0, .ref 21), (2, iv p2), (3, .ref b10), (4, iv z1190), (5, iv z1189)]) dX1_goThrough_66 (by decide) rfl ?_
      refine mr_iload (pc := 68) (z := z1190) dX1_goThrough_68 rfl ?_
      refine mr_iconst (pc := 70) (z := 2) dX1_goThrough_70 ?_
      refine mr_iadd (pc := 71) (x := z1190) (y := 2) dX1_goThrough_71 ?_
      refine mr_iload (pc := 72) (z := z1340) dX1_goThrough_72 rfl ?_
      refine mr_iconst (pc := 74) (z := 5) dX1_goThrough_74 ?_
      refine mr_imul (pc := 75) (x := z1340) (y := 5) dX1_goThrough_75 ?_
      refine mr_iadd (pc := 76) (x := (z1190 + 2)) (y := (z1340 * 5)) dX1_goThrough_76 ?_
      refine mr_istore (pc := 77) (lv' := [(8, iv ((z1190 + 2) + (z1340 * 5))), (7, iv z1343), (6, iv z1340), (0, .ref 21), (2, iv p2), (3, .ref b10), (4, iv z1190), (5, iv z1189)]) dX1_goThrough_77 (by decide) rfl ?_
      refine mr_iconst (pc := 79) (z := 1) dX1_goThrough_79 ?_
      refine mr_istore (pc := 80) (lv' := [(9, iv 1), (8, iv ((z1190 + 2) + (z1340 * 5))), (7, iv z1343), (6, iv z1340), (0, .ref 21), (2, iv p2), (3, .ref b10), (4, iv z1190), (5, iv z1189)]) dX1_goThrough_80 (by decide) rfl ?_
      refine mr_iload (pc := 82) (z := z1190) dX1_goThrough_82 rfl ?_
      refine mr_iconst (pc := 84) (z := 2) dX1_goThrough_84 ?_
      refine mr_iadd (pc := 85) (x := z1190) (y := 2) dX1_goThrough_85 ?_
      refine mr_istore (pc := 86) (lv' := [(10, iv (z1190 + 2)), (9, iv 1), (8, iv ((z1190 + 2) + (z1340 * 5))), (7, iv z1343), (6, iv z1340), (0, .ref 21), (2, iv p2), (3, .ref b10), (4, iv z1190), (5, iv z1189)]) dX1_goThrough_86 (by decide) rfl ?_
      have L1469 : ∀ (nL1469 : Nat) (z1468 z1467 : Int), True → (0 ≤ z1468 ∧ z1468 ≤ 1) → (2 ≤ z1467 ∧ z1467 ≤ 2010) → ((((z1190 + 2) + (z1340 * 5)) - z1467) % 5 = 0) → (2011 - z1467) < (nL1469 : Int) → loopF (WL_X1_goThrough_W11_2 w p2 b10 c13 (loopF (WL_X1_goThrough_W11_1 w μ p2 Q b10 c13 z14) False nL1192) z1190 z1189 μ1191 z1340 z1343) False nL1469 (z1468, z1467) → sV (gG l D c H0 sa) mX1_goThrough (sRm 7 0 0) (sZ (gG l D c H0 sa) 0 0 (qV w [21006, 21007, 200004, 200006, 200007, 200008, 201999, 202999] μ (fun μ1 => Q μ1 ∧ True))) 88 [(0, .ref 21), (2, iv p2), (3, .ref b10), (5, iv z1189), (7, iv z1343), (8, iv ((z1190 + 2) + (z1340 * 5))), (9, iv z1468), (10, iv z1467)] [] (mk w μ1191) 0 0 := by
        intro nL1469
        induction nL1469 with
        | zero => intro z1468 z1467 _ h1470 h1471 h1475 h1476 W1477; exact ((vc_X1_goThrough_W12_19 h1476 h1475 h1339 h1347 h1338 h1193 h1348 h1349 h1471)).elim
        | succ nL1469 ih1478 =>
          intro z1468 z1467 _ h1470 h1471 h1475 h1476 W1477
          refine mr_iload (pc := 88) (z := z1467) dX1_goThrough_88 rfl ?_
          refine mr_iload (pc := 90) (z := ((z1190 + 2) + (z1340 * 5))) dX1_goThrough_90 rfl ?_
          have J1494 : ((WJ_X1_goThrough_W11_3 w p2 c13 (loopF (WL_X1_goThrough_W11_1 w μ p2 Q b10 c13 z14) False nL1192) z1190 z1189 μ1191 z1340 z1343 z1468) ) → sV (gG l D c H0 sa) mX1_goThrough (sRm 7 0 0) (sZ (gG l D c H0 sa) 0 0 (qV w [21006, 21007, 200004, 200006, 200007, 200008, 201999, 202999] μ (fun μ1 => Q μ1 ∧ True))) 141 [(0, .ref 21), (2, iv p2), (3, .ref b10), (5, iv z1189), (7, iv z1343), (8, iv ((z1190 + 2) + (z1340 * 5))), (9, iv z1468)] [] (mk w μ1191) 0 0 := by
            intro W1495
            refine mr_iload (pc := 141) (z := z1468) dX1_goThrough_141 rfl ?_
            refine mr_if_eq (pc := 143) (tgt := 159) dX1_goThrough_143 (by decide) (r32 h1470 rfl) (fun h1502 => ?_) (fun h1502 => ?_)
            · have h1503 : 0 ≤ z1468 ∧ z1468 ≤ 0 := (vc_X12_ring_22 h1502 h1470)
              refine mr_iload (pc := 159) (z := ((z1190 + 2) + (z1340 * 5))) dX1_goThrough_159 rfl ?_
              refine mr_iload (pc := 161) (z := z1343) dX1_goThrough_161 rfl ?_
              refine mr_iconst (pc := 163) (z := 2) dX1_goThrough_163 ?_
              refine mr_imul (pc := 164) (x := z1343) (y := 2) dX1_goThrough_164 ?_
              refine mr_iadd (pc := 165) (x := ((z1190 + 2) + (z1340 * 5))) (y := (z1343 * 2)) dX1_goThrough_165 ?_
              refine mr_istore (pc := 166) (lv' := [(4, iv (((z1190 + 2) + (z1340 * 5)) + (z1343 * 2))), (0, .ref 21), (2, iv p2), (3, .ref b10), (5, iv z1189), (7, iv z1343), (8, iv ((z1190 + 2) + (z1340 * 5))), (9, iv z1468)]) dX1_goThrough_166 (by decide) rfl ?_
              refine mr_iinc (pc := 168) (lv' := [(5, iv (z1189 + 1)), (4, iv (((z1190 + 2) + (z1340 * 5)) + (z1343 * 2))), (0, .ref 21), (2, iv p2), (3, .ref b10), (7, iv z1343), (8, iv ((z1190 + 2) + (z1340 * 5))), (9, iv z1468)]) dX1_goThrough_168 rfl (by decide) rfl ?_
              refine sv_goto (pc := 171) (tgt := 32) dX1_goThrough_171 (by decide) ?_
              refine mr_lvS (lv' := [(0, .ref 21), (2, iv p2), (3, .ref b10), (4, iv (((z1190 + 2) + (z1340 * 5)) + (z1343 * 2))), (5, iv (z1189 + 1))]) (List.forall_mem_cons.mpr ⟨rfl, List.forall_mem_cons.mpr ⟨rfl, List.forall_mem_cons.mpr ⟨rfl, List.forall_mem_cons.mpr ⟨rfl, List.forall_mem_cons.mpr ⟨rfl, fun _ h => absurd h List.not_mem_nil⟩⟩⟩⟩⟩) ?_
              exact ih1203 (((z1190 + 2) + (z1340 * 5)) + (z1343 * 2)) (z1189 + 1) μ1191 T1195 (mF.call mF.refl F1196 rfl) (vc_X1_goThrough_W12_21 h1339 h1347 h1475 h1338 h1193 h1348 h1349 h1471) (rW (c := 0) (d := 30) (rAdd (e := 1) (f := 30) h1269 (rR (x := 1)) rfl) rfl) I1198 I1199 (wfR.cg B1346.2.2 (vc_X1_goThrough_W12_23 h1339 h1347 h1475 h1338 h1193 h1348 h1349 h1471)) (vc_X1_goThrough_W12_22 (nS h1201) h1339 h1347 h1475 h1338 h1193 h1348 h1349 h1471) ((W1495).1 h1502)
            have h1504 : 1 ≤ z1468 ∧ z1468 ≤ 1 := (vc_X12_ring_24 h1502 h1470)
            refine sv_aload_n (pc := 146) dX1_goThrough_146 rfl rfl ?_
            refine sv_aload_n (pc := 147) dX1_goThrough_147 rfl rfl ?_
            refine gk_X5_1 (pc := 148) dX1_goThrough_148 wF_X1_60 A12 (F1196.f A12 rfl q15) ?_
            refine mr_iload (pc := 151) (z := ((z1190 + 2) + (z1340 * 5))) dX1_goThrough_151 rfl ?_
            refine mr_iload (pc := 153) (z := z1343) dX1_goThrough_153 rfl ?_
            refine mr_iload_n (pc := 155) (z := p2) dX1_goThrough_155 rfl rfl ?_
            refine mr_cVV (pc := 156) (c_X1_doActs_W11 hw T1195 A16 (vc_X1_goThrough_W12_25 h1339 h1347 h1475 h1338 h1193 h1348 h1349 h1471) h1349 hp2 I1198 I1199 (lnL q1337 (vc_X1_goThrough_W12_26 h1339 h1347 h1475 h1338 h1193 h1348 h1349 h1471)) (argC B1346.2.1 (vc_X1_goThrough_W12_27 h1339 h1347 h1475 h1338 h1193 h1348 h1349 h1471) (funext fun i => ((mF.call mF.refl F1196 rfl) : mF [21006, 21007, 200004, 200006, 200007, 200008, 201999, 202999] w μ μ1191).f A16 rfl rfl)) ((W1495).2 h1502)) (gOk _ _ _ _ _) dX1_goThrough_156 (tX1_doActs _ _ _ _ _) ⟨wV_X1_doActs, wL_X1_doActs⟩ wM_X1_68 (gCX1 _ _ _ _ _) rfl (A_21 hw) rfl ⟨le_t rfl, le_t rfl⟩ ⟨le_t rfl, le_t rfl⟩ rfl (le_t rfl) fun μ1505 T1506 F1507 h1508 => ?_
            refine mr_iload (pc := 159) (z := ((z1190 + 2) + (z1340 * 5))) dX1_goThrough_159 rfl ?_
            refine mr_iload (pc := 161) (z := z1343) dX1_goThrough_161 rfl ?_
            refine mr_iconst (pc := 163) (z := 2) dX1_goThrough_163 ?_
            refine mr_imul (pc := 164) (x := z1343) (y := 2) dX1_goThrough_164 ?_
            refine mr_iadd (pc := 165) (x := ((z1190 + 2) + (z1340 * 5))) (y := (z1343 * 2)) dX1_goThrough_165 ?_
            refine mr_istore (pc := 166) (lv' := [(4, iv (((z1190 + 2) + (z1340 * 5)) + (z1343 * 2))), (0, .ref 21), (2, iv p2), (3, .ref b10), (5, iv z1189), (7, iv z1343), (8, iv ((z1190 + 2) + (z1340 * 5))), (9, iv z1468)]) dX1_goThrough_166 (by decide) rfl ?_
            refine mr_iinc (pc := 168) (lv' := [(5, iv (z1189 + 1)), (4, iv (((z1190 + 2) + (z1340 * 5)) + (z1343 * 2))), (0, .ref 21), (2, iv p2), (3, .ref b10), (7, iv z1343), (8, iv ((z1190 + 2) + (z1340 * 5))), (9, iv z1468)]) dX1_goThrough_168 rfl (by decide) rfl ?_
            refine sv_goto (pc := 171) (tgt := 32) dX1_goThrough_171 (by decide) ?_
            refine mr_lvS (lv' := [(0, .ref 21), (2, iv p2), (3, .ref b10), (4, iv (((z1190 + 2) + (z1340 * 5)) + (z1343 * 2))), (5, iv (z1189 + 1))]) (List.forall_mem_cons.mpr ⟨rfl, List.forall_mem_cons.mpr ⟨rfl, List.forall_mem_cons.mpr ⟨rfl, List.forall_mem_cons.mpr ⟨rfl, List.forall_mem_cons.mpr ⟨rfl, fun _ h => absurd h List.not_mem_nil⟩⟩⟩⟩⟩) ?_
            exact ih1203 (((z1190 + 2) + (z1340 * 5)) + (z1343 * 2)) (z1189 + 1) μ1505 T1506 (mF.call (mF.call mF.refl F1196 rfl) F1507 rfl) (vc_X1_goThrough_W12_21 h1339 h1347 h1475 h1338 h1193 h1348 h1349 h1471) (rW (c := 0) (d := 30) (rAdd (e := 1) (f := 30) h1269 (rR (x := 1)) rfl) rfl) (PC.keep I1198 hw ((mF.call mF.refl F1507 rfl) : mF [21006, 21007, 200004, 200006, 200007, 200008, 201999, 202999] w μ1191 μ1505) rfl) (RT.keep I1199 hw ((mF.call mF.refl F1507 rfl) : mF [21006, 21007, 200004, 200006, 200007, 200008, 201999, 202999] w μ1191 μ1505) rfl) (wfR.cg B1346.2.2 (vc_X1_goThrough_W12_23 h1339 h1347 h1475 h1338 h1193 h1348 h1349 h1471)) (vc_X1_goThrough_W12_22 (nS h1201) h1339 h1347 h1475 h1338 h1193 h1348 h1349 h1471) (h1508.1 T1506 F1507)
          refine mr_icmp_ge (pc := 92) (tgt := 141) dX1_goThrough_92 (by decide) (r32 h1471 rfl) (r32 (rAdd (e := 2) (f := 4002) (rAdd (e := 2) (f := 2002) h1193 (rR (x := 2)) rfl) (rMulR (n := 5) (e := 0) (f := 2000) h1348 rfl) rfl) rfl) (fun h1509 => ?_) (fun h1509 => ?_)
          · refine mr_lvS (lv' := [(0, .ref 21), (2, iv p2), (3, .ref b10), (5, iv z1189), (7, iv z1343), (8, iv ((z1190 + 2) + (z1340 * 5))), (9, iv z1468)]) (List.forall_mem_cons.mpr ⟨rfl, List.forall_mem_cons.mpr ⟨rfl, List.forall_mem_cons.mpr ⟨rfl, List.forall_mem_cons.mpr ⟨rfl, List.forall_mem_cons.mpr ⟨rfl, List.forall_mem_cons.mpr ⟨rfl, List.forall_mem_cons.mpr ⟨rfl, fun _ h => absurd h List.not_mem_nil⟩⟩⟩⟩⟩⟩⟩) ?_
            exact J1494 ((W1477 z1468 z1467 rfl h1470 h1471).1 h1509)
          refine mr_iload (pc := 95) (z := z1468) dX1_goThrough_95 rfl ?_
          refine mr_if_eq (pc := 97) (tgt := 141) dX1_goThrough_97 (by decide) (r32 h1470 rfl) (fun h1510 => ?_) (fun h1510 => ?_)
          · have h1511 : 0 ≤ z1468 ∧ z1468 ≤ 0 := (vc_X12_ring_22 h1510 h1470)
            refine mr_lvS (lv' := [(0, .ref 21), (2, iv p2), (3, .ref b10), (5, iv z1189), (7, iv z1343), (8, iv ((z1190 + 2) + (z1340 * 5))), (9, iv z1468)]) (List.forall_mem_cons.mpr ⟨rfl, List.forall_mem_cons.mpr ⟨rfl, List.forall_mem_cons.mpr ⟨rfl, List.forall_mem_cons.mpr ⟨rfl, List.forall_mem_cons.mpr ⟨rfl, List.forall_mem_cons.mpr ⟨rfl, List.forall_mem_cons.mpr ⟨rfl, fun _ h => absurd h List.not_mem_nil⟩⟩⟩⟩⟩⟩⟩) ?_
            exact J1494 (((W1477 z1468 z1467 rfl h1470 h1471).2 h1509).1 h1510)
          have h1512 : 1 ≤ z1468 ∧ z1468 ≤ 1 := (vc_X12_ring_24 h1510 h1470)
          refine sv_aload_n (pc := 100) dX1_goThrough_100 rfl rfl ?_
          refine sv_aload_n (pc := 101) dX1_goThrough_101 rfl rfl ?_
          refine mr_iload (pc := 102) (z := z1467) dX1_goThrough_102 rfl ?_
          refine mr_cVP (pc := 104) (c_X1_isSo_W hw T1195 A12 (vc_X1_goThrough_W12_28 h1475 h1509 h1339 h1347 h1338 h1193 h1348 h1349 h1471) I1199 (lnF (F1196.f A12 rfl q15) q1337 (vc_X1_goThrough_W12_29 h1339 h1347 h1475 h1509 h1338 h1193 h1348 h1349 h1471)) (by rw [((mF.call mF.refl F1196 rfl) : mF [21006, 21007, 200004, 200006, 200007, 200008, 201999, 202999] w μ μ1191).f (k := 2) A12 rfl rfl, ((mF.call mF.refl F1196 rfl) : mF [21006, 21007, 200004, 200006, 200007, 200008, 201999, 202999] w μ μ1191).f (k := 3) A12 rfl rfl]; exact e19) (by rw [((mF.call mF.refl F1196 rfl) : mF [21006, 21007, 200004, 200006, 200007, 200008, 201999, 202999] w μ μ1191).f (k := 4) A12 rfl rfl, ((mF.call mF.refl F1196 rfl) : mF [21006, 21007, 200004, 200006, 200007, 200008, 201999, 202999] w μ μ1191).f (k := 5) A12 rfl rfl]; exact e20) (((W1477 z1468 z1467 rfl h1470 h1471).2 h1509).2 h1510)) (gOk _ _ _ _ _) dX1_goThrough_104 (tX1_isSo _ _ _ _ _) ⟨wV_X1_isSo, wL_X1_isSo⟩ wM_X1_64 (gCX1 _ _ _ _ _) rfl (A_21 hw) rfl ⟨le_t rfl, le_t rfl⟩ ⟨le_t rfl, le_t rfl⟩ rfl (le_t rfl) fun z1517 h1516 => ?_
          refine sv_aload_n (pc := 107) dX1_goThrough_107 rfl rfl ?_
          refine gk_X5_1 (pc := 108) dX1_goThrough_108 wF_X1_60 A12 (F1196.f A12 rfl q15) ?_
          refine mr_iload (pc := 111) (z := z1467) dX1_goThrough_111 rfl ?_
          refine mr_iconst (pc := 113) (z := 1) dX1_goThrough_113 ?_
          refine mr_iadd (pc := 114) (x := z1467) (y := 1) dX1_goThrough_114 ?_
          refine la_231 (pc := 115) dX1_goThrough_115 A16 T1195 (lnC q1337 (vc_X1_goThrough_W12_30 h1339 h1347 h1475 h1509 h1338 h1193 h1348 h1349 h1471)) fun z1518 q1519 h1520 => ?_
          refine mr_iconst (pc := 116) (z := 1) dX1_goThrough_116 ?_
          refine mr_icmp_ne (pc := 117) (tgt := 124) dX1_goThrough_117 (by decide) h1520 (r32 (rR (x := 1)) rfl) (fun h1522 => ?_) (fun h1522 => ?_)
          · refine mr_iconst (pc := 124) (z := 0) dX1_goThrough_124 ?_
            refine mr_icmp_eq (pc := 125) (tgt := 132) dX1_goThrough_125 (by decide) (r32 h1516.1 rfl) (r32 (rR (x := 0)) rfl) (fun h1525 => ?_) (fun h1525 => ?_)
            · have h1526 : 0 ≤ z1517 ∧ z1517 ≤ 0 := (vc_X12_ring_22 h1525 h1516.1)
              refine mr_iconst (pc := 132) (z := 0) dX1_goThrough_132 ?_
              refine mr_istore (pc := 133) (lv' := [(9, iv 0), (0, .ref 21), (2, iv p2), (3, .ref b10), (5, iv z1189), (7, iv z1343), (8, iv ((z1190 + 2) + (z1340 * 5))), (10, iv z1467)]) dX1_goThrough_133 (by decide) rfl ?_
              refine mr_iinc (pc := 135) (lv' := [(10, iv (z1467 + 5)), (9, iv 0), (0, .ref 21), (2, iv p2), (3, .ref b10), (5, iv z1189), (7, iv z1343), (8, iv ((z1190 + 2) + (z1340 * 5)))]) dX1_goThrough_135 rfl (by decide) rfl ?_
              refine sv_goto (pc := 138) (tgt := 88) dX1_goThrough_138 (by decide) ?_
              refine mr_lvS (lv' := [(0, .ref 21), (2, iv p2), (3, .ref b10), (5, iv z1189), (7, iv z1343), (8, iv ((z1190 + 2) + (z1340 * 5))), (9, iv 0), (10, iv (z1467 + 5))]) (List.forall_mem_cons.mpr ⟨rfl, List.forall_mem_cons.mpr ⟨rfl, List.forall_mem_cons.mpr ⟨rfl, List.forall_mem_cons.mpr ⟨rfl, List.forall_mem_cons.mpr ⟨rfl, List.forall_mem_cons.mpr ⟨rfl, List.forall_mem_cons.mpr ⟨rfl, List.forall_mem_cons.mpr ⟨rfl, fun _ h => absurd h List.not_mem_nil⟩⟩⟩⟩⟩⟩⟩⟩) ?_
              exact ih1478 0 (z1467 + 5) trivial (rW (c := 0) (d := 1) (rR (x := 0)) rfl) (vc_X1_goThrough_W12_32 h1475 h1509 h1339 h1347 h1338 h1193 h1348 h1349 h1471) (vc_X1_goThrough_W12_33 h1339 h1347 h1475 h1509 h1338 h1193 h1348 h1349 h1471) (vc_X1_goThrough_W12_34 (nS h1476) h1475 h1509 h1339 h1347 h1338 h1193 h1348 h1349 h1471) ((((h1516.2.1 h1516.1) z1518 q1519 h1520).1 h1522).1 h1525)
            have h1527 : 1 ≤ z1517 ∧ z1517 ≤ 1 := (vc_X12_ring_24 h1525 h1516.1)
            refine mr_iconst (pc := 128) (z := 1) dX1_goThrough_128 ?_
            refine sv_goto (pc := 129) (tgt := 133) dX1_goThrough_129 (by decide) ?_
            refine mr_istore (pc := 133) (lv' := [(9, iv 1), (0, .ref 21), (2, iv p2), (3, .ref b10), (5, iv z1189), (7, iv z1343), (8, iv ((z1190 + 2) + (z1340 * 5))), (10, iv z1467)]) dX1_goThrough_133 (by decide) rfl ?_
            refine mr_iinc (pc := 135) (lv' := [(10, iv (z1467 + 5)), (9, iv 1), (0, .ref 21), (2, iv p2), (3, .ref b10), (5, iv z1189), (7, iv z1343), (8, iv ((z1190 + 2) + (z1340 * 5)))]) dX1_goThrough_135 rfl (by decide) rfl ?_
            refine sv_goto (pc := 138) (tgt := 88) dX1_goThrough_138 (by decide) ?_
            refine mr_lvS (lv' := [(0, .ref 21), (2, iv p2), (3, .ref b10), (5, iv z1189), (7, iv z1343), (8, iv ((z1190 + 2) + (z1340 * 5))), (9, iv 1), (10, iv (z1467 + 5))]) (List.forall_mem_cons.mpr ⟨rfl, List.forall_mem_cons.mpr ⟨rfl, List.forall_mem_cons.mpr ⟨rfl, List.forall_mem_cons.mpr ⟨rfl, List.forall_mem_cons.mpr ⟨rfl, List.forall_mem_cons.mpr ⟨rfl, List.forall_mem_cons.mpr ⟨rfl, List.forall_mem_cons.mpr ⟨rfl, fun _ h => absurd h List.not_mem_nil⟩⟩⟩⟩⟩⟩⟩⟩) ?_
            exact ih1478 1 (z1467 + 5) trivial (rW (c := 0) (d := 1) (rR (x := 1)) rfl) (vc_X1_goThrough_W12_32 h1475 h1509 h1339 h1347 h1338 h1193 h1348 h1349 h1471) (vc_X1_goThrough_W12_33 h1339 h1347 h1475 h1509 h1338 h1193 h1348 h1349 h1471) (vc_X1_goThrough_W12_34 (nS h1476) h1475 h1509 h1339 h1347 h1338 h1193 h1348 h1349 h1471) ((((h1516.2.1 h1516.1) z1518 q1519 h1520).1 h1522).2 h1525)
          have h1528 : 1 ≤ z1518 ∧ z1518 ≤ 1 := (vc_X3_toldInAll_1 h1522 h1520)
          refine mr_iconst (pc := 120) (z := 1) dX1_goThrough_120 ?_
          refine sv_goto (pc := 121) (tgt := 125) dX1_goThrough_121 (by decide) ?_
          refine mr_icmp_eq (pc := 125) (tgt := 132) dX1_goThrough_125 (by decide) (r32 h1516.1 rfl) (r32 (rR (x := 1)) rfl) (fun h1531 => ?_) (fun h1531 => ?_)
          · have h1532 : 1 ≤ z1517 ∧ z1517 ≤ 1 := (vc_X1_goThrough_W12_37 h1531 h1516.1)
            refine mr_iconst (pc := 132) (z := 0) dX1_goThrough_132 ?_
            refine mr_istore (pc := 133) (lv' := [(9, iv 0), (0, .ref 21), (2, iv p2), (3, .ref b10), (5, iv z1189), (7, iv z1343), (8, iv ((z1190 + 2) + (z1340 * 5))), (10, iv z1467)]) dX1_goThrough_133 (by decide) rfl ?_
            refine mr_iinc (pc := 135) (lv' := [(10, iv (z1467 + 5)), (9, iv 0), (0, .ref 21), (2, iv p2), (3, .ref b10), (5, iv z1189), (7, iv z1343), (8, iv ((z1190 + 2) + (z1340 * 5)))]) dX1_goThrough_135 rfl (by decide) rfl ?_
            refine sv_goto (pc := 138) (tgt := 88) dX1_goThrough_138 (by decide) ?_
            refine mr_lvS (lv' := [(0, .ref 21), (2, iv p2), (3, .ref b10), (5, iv z1189), (7, iv z1343), (8, iv ((z1190 + 2) + (z1340 * 5))), (9, iv 0), (10, iv (z1467 + 5))]) (List.forall_mem_cons.mpr ⟨rfl, List.forall_mem_cons.mpr ⟨rfl, List.forall_mem_cons.mpr ⟨rfl, List.forall_mem_cons.mpr ⟨rfl, List.forall_mem_cons.mpr ⟨rfl, List.forall_mem_cons.mpr ⟨rfl, List.forall_mem_cons.mpr ⟨rfl, List.forall_mem_cons.mpr ⟨rfl, fun _ h => absurd h List.not_mem_nil⟩⟩⟩⟩⟩⟩⟩⟩) ?_
            exact ih1478 0 (z1467 + 5) trivial (rW (c := 0) (d := 1) (rR (x := 0)) rfl) (vc_X1_goThrough_W12_32 h1475 h1509 h1339 h1347 h1338 h1193 h1348 h1349 h1471) (vc_X1_goThrough_W12_33 h1339 h1347 h1475 h1509 h1338 h1193 h1348 h1349 h1471) (vc_X1_goThrough_W12_34 (nS h1476) h1475 h1509 h1339 h1347 h1338 h1193 h1348 h1349 h1471) ((((h1516.2.1 h1516.1) z1518 q1519 h1520).2 h1522).1 h1531)
          have h1533 : 0 ≤ z1517 ∧ z1517 ≤ 0 := (vc_X1_goThrough_W12_38 h1531 h1516.1)
          refine mr_iconst (pc := 128) (z := 1) dX1_goThrough_128 ?_
          refine sv_goto (pc := 129) (tgt := 133) dX1_goThrough_129 (by decide) ?_
          refine mr_istore (pc := 133) (lv' := [(9, iv 1), (0, .ref 21), (2, iv p2), (3, .ref b10), (5, iv z1189), (7, iv z1343), (8, iv ((z1190 + 2) + (z1340 * 5))), (10, iv z1467)]) dX1_goThrough_133 (by decide) rfl ?_
          refine mr_iinc (pc := 135) (lv' := [(10, iv (z1467 + 5)), (9, iv 1), (0, .ref 21), (2, iv p2), (3, .ref b10), (5, iv z1189), (7, iv z1343), (8, iv ((z1190 + 2) + (z1340 * 5)))]) dX1_goThrough_135 rfl (by decide) rfl ?_
          refine sv_goto (pc := 138) (tgt := 88) dX1_goThrough_138 (by decide) ?_
          refine mr_lvS (lv' := [(0, .ref 21), (2, iv p2), (3, .ref b10), (5, iv z1189), (7, iv z1343), (8, iv ((z1190 + 2) + (z1340 * 5))), (9, iv 1), (10, iv (z1467 + 5))]) (List.forall_mem_cons.mpr ⟨rfl, List.forall_mem_cons.mpr ⟨rfl, List.forall_mem_cons.mpr ⟨rfl, List.forall_mem_cons.mpr ⟨rfl, List.forall_mem_cons.mpr ⟨rfl, List.forall_mem_cons.mpr ⟨rfl, List.forall_mem_cons.mpr ⟨rfl, List.forall_mem_cons.mpr ⟨rfl, fun _ h => absurd h List.not_mem_nil⟩⟩⟩⟩⟩⟩⟩⟩) ?_
          exact ih1478 1 (z1467 + 5) trivial (rW (c := 0) (d := 1) (rR (x := 1)) rfl) (vc_X1_goThrough_W12_32 h1475 h1509 h1339 h1347 h1338 h1193 h1348 h1349 h1471) (vc_X1_goThrough_W12_33 h1339 h1347 h1475 h1509 h1338 h1193 h1348 h1349 h1471) (vc_X1_goThrough_W12_34 (nS h1476) h1475 h1509 h1339 h1347 h1338 h1193 h1348 h1349 h1471) ((((h1516.2.1 h1516.1) z1518 q1519 h1520).2 h1522).2 h1531)
      refine mr_lvS (lv' := [(0, .ref 21), (2, iv p2), (3, .ref b10), (5, iv z1189), (7, iv z1343), (8, iv ((z1190 + 2) + (z1340 * 5))), (9, iv 1), (10, iv (z1190 + 2))]) (List.forall_mem_cons.mpr ⟨rfl, List.forall_mem_cons.mpr ⟨rfl, List.forall_mem_cons.mpr ⟨rfl, List.forall_mem_cons.mpr ⟨rfl, List.forall_mem_cons.mpr ⟨rfl, List.forall_mem_cons.mpr ⟨rfl, List.forall_mem_cons.mpr ⟨rfl, List.forall_mem_cons.mpr ⟨rfl, fun _ h => absurd h List.not_mem_nil⟩⟩⟩⟩⟩⟩⟩⟩) ?_
      exact L1469 2010 1 (z1190 + 2) trivial (rW (c := 0) (d := 1) (rR (x := 1)) rfl) (rW (c := 2) (d := 2010) (rAdd (e := 2) (f := 2002) h1193 (rR (x := 2)) rfl) rfl) (vc_X1_goThrough_W12_39 h1339 h1347 h1338 h1193 h1348 h1349) (vc_X1_goThrough_W12_40 h1339 h1347 h1338 h1193 h1348 h1349) (((((((W1202 z1190 z1189 μ1191 rfl h1193 h1194 T1195 F1196).2 h1268) z1271 q1272 h1273).2 h1333) n_1336 q1337 h1338) z1340 q1341 h1342) z1343 q1344 h1345)
  refine mr_lvS (lv' := [(0, .ref 21), (2, iv p2), (3, .ref b10), (4, iv 0), (5, iv 0)]) (List.forall_mem_cons.mpr ⟨rfl, List.forall_mem_cons.mpr ⟨rfl, List.forall_mem_cons.mpr ⟨rfl, List.forall_mem_cons.mpr ⟨rfl, List.forall_mem_cons.mpr ⟨rfl, fun _ h => absurd h List.not_mem_nil⟩⟩⟩⟩⟩) ?_
  exact L1192 2002 0 0 μ hT mF.refl (rW (c := 0) (d := 2000) (rR (x := 0)) rfl) (rW (c := 0) (d := 30) (rR (x := 0)) rfl) hIPC hIRT R18 vc_X1_goThrough_W12_41 ((((((hQ.2 h1) z4 q5 h6).2 h7) b10 q11 A12) c13 q15) z14 q17)
def WJ_X1_doActs_W10_2 (w : mW) (rec1 : (Int × mM) → Prop) (z1989 : Int) (μ2019 : mM) (μ2114 : mM) : Prop := mT w μ2114 → mF [21007, 200007, 201999] w μ2019 μ2114 → rec1 ((z1989 + 1), μ2114)
def WL_X1_doActs_W10_1 (w : mW) (μ : mM) (a1 : Nat) (p2 : Int) (p3 : Int) (p4 : Int) (Q : mM → Prop) (rec1 : (Int × mM) → Prop) (s : (Int × mM)) : Prop := ∀ z1989 : Int, ∀ μ1990 : mM, s = (z1989, μ1990) → (0 ≤ z1989 ∧ z1989 ≤ 1000) → mT w μ1990 → mF [21006, 21007, 200004, 200006, 200007, 200008, 201999, 202999] w μ μ1990 → ((p3 ≤ z1989) → Q μ1990) ∧ ((z1989 < p3) → ∀ z2004 : Int, μ1990 21 7 = z2004 → (0 ≤ z2004 ∧ z2004 ≤ 2) → ((¬ z2004 = 0) → Q μ1990) ∧ ((z2004 = 0) → ∀ z2010 : Int, μ1990 a1 (((p2 + (z1989 * 2)) + 1).toNat) = z2010 → ((-2147483648) ≤ z2010 ∧ z2010 ≤ 2147483647) → ∀ z2014 : Int, μ1990 21 6 = z2014 → (0 ≤ z2014 ∧ z2014 ≤ 500) → ((z2014 < 500) → ∀ μ2019 : mM, mU μ1990 21 (6) (z2014 + 1) μ2019 → mT w μ2019 → ∀ z2022 : Int, μ2019 a1 ((p2 + (z1989 * 2)).toNat) = z2022 → ((-2147483648) ≤ z2022 ∧ z2022 ≤ 2147483647) → (z2022 = 12 → ∀ b2028 : Nat, μ2019 21 2 = (b2028 : Int) → mAt w b2028 200 → ∀ μ2031 : mM, mU μ2019 b2028 (4) z2010 μ2031 → mT w μ2031 → rec1 ((z1989 + 1), μ2031)) ∧ (¬ z2022 = 12 → (z2022 = 13 → ∀ b2036 : Nat, μ2019 21 2 = (b2036 : Int) → mAt w b2036 200 → ∀ μ2039 : mM, mU μ2019 b2036 (6) z2010 μ2039 → mT w μ2039 → rec1 ((z1989 + 1), μ2039)) ∧ (¬ z2022 = 13 → (z2022 = 14 → rec1 ((z1989 + 1), μ2019)) ∧ (¬ z2022 = 14 → (z2022 = 15 → rec1 ((z1989 + 1), μ2019)) ∧ (¬ z2022 = 15 → (z2022 = 16 → rec1 ((z1989 + 1), μ2019)) ∧ (¬ z2022 = 16 → (z2022 = 17 → rec1 ((z1989 + 1), μ2019)) ∧ (¬ z2022 = 17 → (z2022 = 18 → rec1 ((z1989 + 1), μ2019)) ∧ (¬ z2022 = 18 → (z2022 = 19 → rec1 ((z1989 + 1), μ2019)) ∧ (¬ z2022 = 19 → (z2022 = 20 → rec1 ((z1989 + 1), μ2019)) ∧ (¬ z2022 = 20 → (z2022 = 21 → rec1 ((z1989 + 1), μ2019)) ∧ (¬ z2022 = 21 → (z2022 = 22 → rec1 ((z1989 + 1), μ2019)) ∧ (¬ z2022 = 22 → (z2022 = 23 → ∀ μ2063 : mM, mU μ2019 21 (7) (1 : Int) μ2063 → mT w μ2063 → rec1 ((z1989 + 1), μ2063)) ∧ (¬ z2022 = 23 → (z2022 = 24 → ∀ μ2069 : mM, mU μ2019 21 (7) (2 : Int) μ2069 → mT w μ2069 → rec1 ((z1989 + 1), μ2069)) ∧ (¬ z2022 = 24 → (z2022 = 25 → ∀ b2074 : Nat, μ2019 21 2 = (b2074 : Int) → mAt w b2074 200 → WP_X7_addMark_W w μ2019 b2074 z2010 (fun μ2077 => mT w μ2077 → mF [200008, 202999] w μ2019 μ2077 → rec1 ((z1989 + 1), μ2077))) ∧ (¬ z2022 = 25 → (z2022 = 26 → ∀ b2083 : Nat, μ2019 21 2 = (b2083 : Int) → mAt w b2083 200 → WP_X7_dropMark_W w μ2019 b2083 z2010 (fun μ2086 => mT w μ2086 → mF [200008, 202999] w μ2019 μ2086 → rec1 ((z1989 + 1), μ2086))) ∧ (¬ z2022 = 26 → (z2022 = 27 → ∀ b2092 : Nat, μ2019 21 2 = (b2092 : Int) → mAt w b2092 200 → ∀ z2095 : Int, μ2019 b2092 7 = z2095 → (0 ≤ z2095 ∧ z2095 ≤ 20) → ((z2095 ≤ 0) → (WJ_X1_doActs_W10_2 w rec1 z1989 μ2019) μ2019) ∧ ((0 < z2095) → ∀ z2126 : Int, μ2019 (b2092 + 1) ((0 : Int).toNat) = z2126 → ((-2147483648) ≤ z2126 ∧ z2126 ≤ 2147483647) → WP_X7_putInFront_W w μ2019 b2092 z2126 z2010 (fun z2133 μ2129 => mT w μ2129 → mF [200007, 201999] w μ2019 μ2129 → (0 ≤ z2133 ∧ z2133 ≤ 1) → ((¬ z2133 = 0) → (WJ_X1_doActs_W10_2 w rec1 z1989 μ2019) μ2129) ∧ ((z2133 = 0) → ∀ μ2138 : mM, mU μ2129 21 (7) (2 : Int) μ2138 → mT w μ2138 → (WJ_X1_doActs_W10_2 w rec1 z1989 μ2019) μ2138)))) ∧ (¬ z2022 = 27 → (z2022 = 28 → WP_X1_goThrough_W11 w μ2019 z2010 (p4 + 1) (fun μ2143 => mT w μ2143 → mF [21006, 21007, 200004, 200006, 200007, 200008, 201999, 202999] w μ2019 μ2143 → rec1 ((z1989 + 1), μ2143))) ∧ (¬ z2022 = 28 → rec1 ((z1989 + 1), μ2019))))))))))))))))))) ∧ ((500 ≤ z2014) → ∀ μ2148 : mM, mU μ1990 21 (7) (2 : Int) μ2148 → mT w μ2148 → Q μ2148)))
def WP_X1_doActs_W10 (w : mW) (μ : mM) (a1 : Nat) (p2 : Int) (p3 : Int) (p4 : Int) (Q : mM → Prop) : Prop := ∀ n_1 : Int, (w.2.2.1 a1 : Int) = n_1 → (0 ≤ n_1 ∧ n_1 ≤ 2000) → loopF (WL_X1_doActs_W10_1 w μ a1 p2 p3 p4 Q) False 1002 ((0 : Int), μ)
set_option maxRecDepth 4000 in
set_option maxHeartbeats 4000000 in
theorem c_X1_doActs_W10 {l : Launch} {D : va_G} {c : Nat → ClassId} {H0 : Heap} {sa : Nat × Nat × (Nat → Int32)} {w : mW} {μ : mM} (hw : mWF w) (hT : mT w μ) {a1 : Nat} (hA1 : mAt w a1 231) {p2 : Int} (hp2 : 0 ≤ p2 ∧ p2 ≤ 2000) {p3 : Int} (hp3 : 0 ≤ p3 ∧ p3 ≤ 1000) {p4 : Int} (hp4 : 10 ≤ p4 ∧ p4 ≤ 10) (hIPC : PC w μ) (hIRT : RT μ) (hlen : p2 + 2 * p3 ≤ (w.2.2.1 a1 : Int)) (harg : ∀ i : Int, 0 ≤ i → i < p3 → 0 ≤ μ a1 (p2 + 2 * i + 1).toNat ∧ μ a1 (p2 + 2 * i + 1).toNat ≤ 1000000) {Q : mM → Prop} (hQ : WP_X1_doActs_W10 w μ a1 p2 p3 p4 Q) : sC (gG l D c H0 sa) mX1_doActs 8 0 0 [.ref 21, .ref a1, iv p2, iv p3, iv p4] (mk w μ) (qV w [21006, 21007, 200004, 200006, 200007, 200008, 201999, 202999] μ (fun μ1 => Q μ1 ∧ True)) := by
  refine sC.of rfl (by decide) (le_t rfl) ?_
  refine mr_lvE (lv' := [(0, .ref 21), (1, .ref a1), (2, iv p2), (3, iv p3), (4, iv p4)]) rfl ?_
  obtain ⟨n_1, q2⟩ : ∃ n : Int, (w.2.2.1 a1 : Int) = n := ⟨_, rfl⟩
  have h3 : 0 ≤ n_1 ∧ n_1 ≤ 2000 := lnR (m := 2000) q2 hA1 rfl
  have h4 : p2 + 2 * p3 ≤ n_1 := lnLe q2 hlen
  refine mr_iconst (pc := 0) (z := 0) dX1_doActs_0 ?_
  refine mr_istore (pc := 1) (lv' := [(5, iv 0), (0, .ref 21), (1, .ref a1), (2, iv p2), (3, iv p3), (4, iv p4)]) dX1_doActs_1 (by decide) rfl ?_
  have L1991 : ∀ (nL1991 : Nat) (z1989 : Int) (μ1990 : mM), mT w μ1990 → mF [21006, 21007, 200004, 200006, 200007, 200008, 201999, 202999] w μ μ1990 → (0 ≤ z1989 ∧ z1989 ≤ 1000) → PC w μ1990 → RT μ1990 → (1001 - z1989) < (nL1991 : Int) → loopF (WL_X1_doActs_W10_1 w μ a1 p2 p3 p4 Q) False nL1991 (z1989, μ1990) → sV (gG l D c H0 sa) mX1_doActs (sRm 8 0 0) (sZ (gG l D c H0 sa) 0 0 (qV w [21006, 21007, 200004, 200006, 200007, 200008, 201999, 202999] μ (fun μ1 => Q μ1 ∧ True))) 3 [(0, .ref 21), (1, .ref a1), (2, iv p2), (3, iv p3), (4, iv p4), (5, iv z1989)] [] (mk w μ1990) 0 0 := by
    intro nL1991
    induction nL1991 with
    | zero => intro z1989 μ1990 T1993 F1994 h1992 I1996 I1997 h1998 W1999; exact ((vc_X1_doActs_W12_1 h1998 h1992)).elim
    | succ nL1991 ih2000 =>
      intro z1989 μ1990 T1993 F1994 h1992 I1996 I1997 h1998 W1999
      refine mr_iload (pc := 3) (z := z1989) dX1_doActs_3 rfl ?_
      refine mr_iload_n (pc := 5) (z := p3) dX1_doActs_5 rfl rfl ?_
      refine mr_icmp_ge (pc := 6) (tgt := 266) dX1_doActs_6 (by decide) (r32 h1992 rfl) (r32 hp3 rfl) (fun h2001 => ?_) (fun h2001 => ?_)
      · exact mr_vret dX1_doActs_266 rfl (le_t rfl) (le_t rfl) T1993 (mF.call mF.refl F1994 rfl) ⟨((W1999 z1989 μ1990 rfl h1992 T1993 F1994).1 h2001), trivial⟩
      have h2002 : 0 ≤ z1989 ∧ z1989 ≤ 999 := (vc_X1_doActs_W12_2 h2001 h4 h3 hp2 hp3 h1992)
      have h2003 : 1 ≤ p3 ∧ p3 ≤ 1000 := (vc_X1_doActs_W12_3 h2001 h4 h3 hp2 hp3 h2002)
      refine sv_aload_n (pc := 9) dX1_doActs_9 rfl rfl ?_
      refine gf_X1_7 (pc := 10) dX1_doActs_10 wF_X1_50 (A_21 hw) T1993 fun z2004 q2005 h2006 => ?_
      refine mr_if_ne (pc := 13) (tgt := 266) dX1_doActs_13 (by decide) (r32 h2006 rfl) (fun h2007 => ?_) (fun h2007 => ?_)
      · have h2008 : 1 ≤ z2004 ∧ z2004 ≤ 2 := (vc_X12_provides_3 h2007 h2006)
        exact mr_vret dX1_doActs_266 rfl (le_t rfl) (le_t rfl) T1993 (mF.call mF.refl F1994 rfl) ⟨((((W1999 z1989 μ1990 rfl h1992 T1993 F1994).2 h2001) z2004 q2005 h2006).1 h2007), trivial⟩
      have h2009 : 0 ≤ z2004 ∧ z2004 ≤ 0 := (vc_X12_provides_4 h2007 h2006)
      refine sv_aload_n (pc := 16) dX1_doActs_16 rfl rfl ?_
      refine mr_iload_n (pc := 17) (z := p2) dX1_doActs_17 rfl rfl ?_
      refine mr_iload (pc := 18) (z := z1989) dX1_doActs_18 rfl ?_
      refine mr_iconst (pc := 20) (z := 2) dX1_doActs_20 ?_
      refine mr_imul (pc := 21) (x := z1989) (y := 2) dX1_doActs_21 ?_
      refine mr_iadd (pc := 22) (x := p2) (y := (z1989 * 2)) dX1_doActs_22 ?_
      refine mr_iconst (pc := 23) (z := 1) dX1_doActs_23 ?_
      refine mr_iadd (pc := 24) (x := (p2 + (z1989 * 2))) (y := 1) dX1_doActs_24 ?_
      refine la_231 (pc := 25) dX1_doActs_25 hA1 T1993 (lnC q2 (vc_X1_doActs_W12_6 h4 h2001 h3 hp2 h2003 h2002)) fun z2010 q2011 h2012 => ?_
      have h2013 : 0 ≤ z2010 ∧ z2010 ≤ 1000000 := argB harg (vc_X1_doActs_W12_7 h2001 h4 h3 hp2 h2003 h2002) (vc_X1_doActs_W12_8 h4 h2001 h3 hp2 h2003 h2002) (vc_X1_doActs_W12_9 h4 h2001 h3 hp2 h2003 h2002) (((mF.call mF.refl F1994 rfl) : mF [21006, 21007, 200004, 200006, 200007, 200008, 201999, 202999] w μ μ1990).f hA1 rfl rfl) q2011
      refine mr_istore (pc := 26) (lv' := [(6, iv z2010), (0, .ref 21), (1, .ref a1), (2, iv p2), (3, iv p3), (4, iv p4), (5, iv z1989)]) dX1_doActs_26 (by decide) rfl ?_
      refine sv_aload_n (pc := 28) dX1_doActs_28 rfl rfl ?_
      refine gf_X1_6 (pc := 29) dX1_doActs_29 wF_X1_47 (A_21 hw) T1993 fun z2014 q2015 h2016 => ?_
      refine mr_sipush (pc := 32) (z := 500) dX1_doActs_32 (by decide) ?_
      refine mr_icmp_lt (pc := 35) (tgt := 44) dX1_doActs_35 (by decide) (r32 h2016 rfl) (r32 (rR (x := 500)) rfl) (fun h2017 => ?_) (fun h2017 => ?_)
      · have h2018 : 0 ≤ z2014 ∧ z2014 ≤ 499 := (vc_X1_doActs_W12_10 h2017 h2016)
        refine sv_aload_n (pc := 44) dX1_doActs_44 rfl rfl ?_
        refine sv_dup (pc := 45) dX1_doActs_45 rfl ?_
        refine gk_X1_6 (pc := 46) dX1_doActs_46 wF_X1_47 (A_21 hw) q2015 ?_
        refine mr_iconst (pc := 49) (z := 1) dX1_doActs_49 ?_
        refine mr_iadd (pc := 50) (x := z2014) (y := 1) dX1_doActs_50 ?_
        refine pf_X1_6 (pc := 51) dX1_doActs_51 wF_X1_47 (A_21 hw) T1993 (rW (c := 0) (d := 500) (rAdd (e := 1) (f := 500) h2018 (rR (x := 1)) rfl) rfl) fun μ2019 u2020 T2021 => ?_
        refine sv_aload_n (pc := 54) dX1_doActs_54 rfl rfl ?_
        refine mr_iload_n (pc := 55) (z := p2) dX1_doActs_55 rfl rfl ?_
        refine mr_iload (pc := 56) (z := z1989) dX1_doActs_56 rfl ?_
        refine mr_iconst (pc := 58) (z := 2) dX1_doActs_58 ?_
        refine mr_imul (pc := 59) (x := z1989) (y := 2) dX1_doActs_59 ?_
        refine mr_iadd (pc := 60) (x := p2) (y := (z1989 * 2)) dX1_doActs_60 ?_
        refine la_231 (pc := 61) dX1_doActs_61 hA1 T2021 (lnC q2 (vc_X1_doActs_W12_11 h4 h2001 h3 hp2 h2003 h2002)) fun z2022 q2023 h2024 => ?_
        have W2026 := (((((((((W1999 z1989 μ1990 rfl h1992 T1993 F1994).2 h2001) z2004 q2005 h2006).2 h2007) z2010 q2011 h2012) z2014 q2015 h2016).1 h2017) μ2019 u2020 T2021) z2022 q2023 h2024)
        by_cases h2025 : z2022 = 12
        · refine mr_tableIn (pc := 62) (v := 12) (tgt := 184) dX1_doActs_62 h2025 rfl rfl (by decide) ?_
          have h2027 : 12 ≤ z2022 ∧ z2022 ≤ 12 := (vc_X1_doActs_W12_12 h2025 h2024)
          refine sv_aload_n (pc := 184) dX1_doActs_184 rfl rfl ?_
          refine gf_X1_2 (pc := 185) dX1_doActs_185 wF_X1_25 (A_21 hw) T2021 (RT.keep I1997 hw ((mF.up mF.refl (A_21 hw) u2020 rfl) : mF [21006] w μ1990 μ2019) rfl) fun b2028 q2029 A2030 => ?_
          refine mr_iload (pc := 188) (z := z2010) dX1_doActs_188 rfl ?_
          refine pf_X7_4 (pc := 190) dX1_doActs_190 wF_X1_105 A2030 T2021 (rW (c := (-2147483648)) (d := 2147483647) h2013 rfl) fun μ2031 u2032 T2033 => ?_
          refine sv_goto (pc := 193) (tgt := 260) dX1_doActs_193 (by decide) ?_
          refine mr_iinc (pc := 260) (lv' := [(5, iv (z1989 + 1)), (6, iv z2010), (0, .ref 21), (1, .ref a1), (2, iv p2), (3, iv p3), (4, iv p4)]) dX1_doActs_260 rfl (by decide) rfl ?_
          refine sv_goto (pc := 263) (tgt := 3) dX1_doActs_263 (by decide) ?_
          refine mr_lvS (lv' := [(0, .ref 21), (1, .ref a1), (2, iv p2), (3, iv p3), (4, iv p4), (5, iv (z1989 + 1))]) (List.forall_mem_cons.mpr ⟨rfl, List.forall_mem_cons.mpr ⟨rfl, List.forall_mem_cons.mpr ⟨rfl, List.forall_mem_cons.mpr ⟨rfl, List.forall_mem_cons.mpr ⟨rfl, List.forall_mem_cons.mpr ⟨rfl, fun _ h => absurd h List.not_mem_nil⟩⟩⟩⟩⟩⟩) ?_
          exact ih2000 (z1989 + 1) μ2031 T2033 (mF.up (mF.up (mF.call mF.refl F1994 rfl) (A_21 hw) u2020 rfl) A2030 u2032 rfl) (rW (c := 0) (d := 1000) (rAdd (e := 1) (f := 1000) h2002 (rR (x := 1)) rfl) rfl) (PC.keep I1996 hw ((mF.up (mF.up mF.refl (A_21 hw) u2020 rfl) A2030 u2032 rfl) : mF [21006, 200004] w μ1990 μ2031) rfl) (RT.keep I1997 hw ((mF.up (mF.up mF.refl (A_21 hw) u2020 rfl) A2030 u2032 rfl) : mF [21006, 200004] w μ1990 μ2031) rfl) (vc_X1_doActs_W12_13 (nS h1998) h2001 h4 h3 hp2 h2003 h2002) (((W2026.1 h2025) b2028 q2029 A2030) μ2031 u2032 T2033)
        by_cases h2034 : z2022 = 13
        · refine mr_tableIn (pc := 62) (v := 13) (tgt := 196) dX1_doActs_62 h2034 rfl rfl (by decide) ?_
          have h2035 : 13 ≤ z2022 ∧ z2022 ≤ 13 := (vc_X1_doActs_W12_14 h2034 h2025 h2024)
          refine sv_aload_n (pc := 196) dX1_doActs_196 rfl rfl ?_
          refine gf_X1_2 (pc := 197) dX1_doActs_197 wF_X1_25 (A_21 hw) T2021 (RT.keep I1997 hw ((mF.up mF.refl (A_21 hw) u2020 rfl) : mF [21006] w μ1990 μ2019) rfl) fun b2036 q2037 A2038 => ?_
          refine mr_iload (pc := 200) (z := z2010) dX1_doActs_200 rfl ?_
          refine pf_X7_6 (pc := 202) dX1_doActs_202 wF_X1_108 A2038 T2021 (rW (c := (-2147483648)) (d := 2147483647) h2013 rfl) fun μ2039 u2040 T2041 => ?_
          refine sv_goto (pc := 205) (tgt := 260) dX1_doActs_205 (by decide) ?_
          refine mr_iinc (pc := 260) (lv' := [(5, iv (z1989 + 1)), (6, iv z2010), (0, .ref 21), (1, .ref a1), (2, iv p2), (3, iv p3), (4, iv p4)]) dX1_doActs_260 rfl (by decide) rfl ?_
          refine sv_goto (pc := 263) (tgt := 3) dX1_doActs_263 (by decide) ?_
          refine mr_lvS (lv' := [(0, .ref 21), (1, .ref a1), (2, iv p2), (3, iv p3), (4, iv p4), (5, iv (z1989 + 1))]) (List.forall_mem_cons.mpr ⟨rfl, List.forall_mem_cons.mpr ⟨rfl, List.forall_mem_cons.mpr ⟨rfl, List.forall_mem_cons.mpr ⟨rfl, List.forall_mem_cons.mpr ⟨rfl, List.forall_mem_cons.mpr ⟨rfl, fun _ h => absurd h List.not_mem_nil⟩⟩⟩⟩⟩⟩) ?_
          exact ih2000 (z1989 + 1) μ2039 T2041 (mF.up (mF.up (mF.call mF.refl F1994 rfl) (A_21 hw) u2020 rfl) A2038 u2040 rfl) (rW (c := 0) (d := 1000) (rAdd (e := 1) (f := 1000) h2002 (rR (x := 1)) rfl) rfl) (PC.keep I1996 hw ((mF.up (mF.up mF.refl (A_21 hw) u2020 rfl) A2038 u2040 rfl) : mF [21006, 200006] w μ1990 μ2039) rfl) (RT.keep I1997 hw ((mF.up (mF.up mF.refl (A_21 hw) u2020 rfl) A2038 u2040 rfl) : mF [21006, 200006] w μ1990 μ2039) rfl) (vc_X1_doActs_W12_13 (nS h1998) h2001 h4 h3 hp2 h2003 h2002) ((((W2026.2 h2025).1 h2034) b2036 q2037 A2038) μ2039 u2040 T2041)
        by_cases h2042 : z2022 = 14
        · refine mr_tableIn (pc := 62) (v := 14) (tgt := 260) dX1_doActs_62 h2042 rfl rfl (by decide) ?_
          have h2043 : 14 ≤ z2022 ∧ z2022 ≤ 14 := (vc_X1_doActs_W12_15 h2042 h2025 h2034 h2024)
          refine mr_iinc (pc := 260) (lv' := [(5, iv (z1989 + 1)), (6, iv z2010), (0, .ref 21), (1, .ref a1), (2, iv p2), (3, iv p3), (4, iv p4)]) dX1_doActs_260 rfl (by decide) rfl ?_
          refine sv_goto (pc := 263) (tgt := 3) dX1_doActs_263 (by decide) ?_
          refine mr_lvS (lv' := [(0, .ref 21), (1, .ref a1), (2, iv p2), (3, iv p3), (4, iv p4), (5, iv (z1989 + 1))]) (List.forall_mem_cons.mpr ⟨rfl, List.forall_mem_cons.mpr ⟨rfl, List.forall_mem_cons.mpr ⟨rfl, List.forall_mem_cons.mpr ⟨rfl, List.forall_mem_cons.mpr ⟨rfl, List.forall_mem_cons.mpr ⟨rfl, fun _ h => absurd h List.not_mem_nil⟩⟩⟩⟩⟩⟩) ?_
          exact ih2000 (z1989 + 1) μ2019 T2021 (mF.up (mF.call mF.refl F1994 rfl) (A_21 hw) u2020 rfl) (rW (c := 0) (d := 1000) (rAdd (e := 1) (f := 1000) h2002 (rR (x := 1)) rfl) rfl) (PC.keep I1996 hw ((mF.up mF.refl (A_21 hw) u2020 rfl) : mF [21006] w μ1990 μ2019) rfl) (RT.keep I1997 hw ((mF.up mF.refl (A_21 hw) u2020 rfl) : mF [21006] w μ1990 μ2019) rfl) (vc_X1_doActs_W12_13 (nS h1998) h2001 h4 h3 hp2 h2003 h2002) (((W2026.2 h2025).2 h2034).1 h2042)
        by_cases h2044 : z2022 = 15
        · refine mr_tableIn (pc := 62) (v := 15) (tgt := 260) dX1_doActs_62 h2044 rfl rfl (by decide) ?_
          have h2045 : 15 ≤ z2022 ∧ z2022 ≤ 15 := (vc_X1_doActs_W12_16 h2044 h2025 h2034 h2042 h2024)
          refine mr_iinc (pc := 260) (lv' := [(5, iv (z1989 + 1)), (6, iv z2010), (0, .ref 21), (1, .ref a1), (2, iv p2), (3, iv p3), (4, iv p4)]) dX1_doActs_260 rfl (by decide) rfl ?_
          refine sv_goto (pc := 263) (tgt := 3) dX1_doActs_263 (by decide) ?_
          refine mr_lvS (lv' := [(0, .ref 21), (1, .ref a1), (2, iv p2), (3, iv p3), (4, iv p4), (5, iv (z1989 + 1))]) (List.forall_mem_cons.mpr ⟨rfl, List.forall_mem_cons.mpr ⟨rfl, List.forall_mem_cons.mpr ⟨rfl, List.forall_mem_cons.mpr ⟨rfl, List.forall_mem_cons.mpr ⟨rfl, List.forall_mem_cons.mpr ⟨rfl, fun _ h => absurd h List.not_mem_nil⟩⟩⟩⟩⟩⟩) ?_
          exact ih2000 (z1989 + 1) μ2019 T2021 (mF.up (mF.call mF.refl F1994 rfl) (A_21 hw) u2020 rfl) (rW (c := 0) (d := 1000) (rAdd (e := 1) (f := 1000) h2002 (rR (x := 1)) rfl) rfl) (PC.keep I1996 hw ((mF.up mF.refl (A_21 hw) u2020 rfl) : mF [21006] w μ1990 μ2019) rfl) (RT.keep I1997 hw ((mF.up mF.refl (A_21 hw) u2020 rfl) : mF [21006] w μ1990 μ2019) rfl) (vc_X1_doActs_W12_13 (nS h1998) h2001 h4 h3 hp2 h2003 h2002) ((((W2026.2 h2025).2 h2034).2 h2042).1 h2044)
        by_cases h2046 : z2022 = 16
        · refine mr_tableIn (pc := 62) (v := 16) (tgt := 260) dX1_doActs_62 h2046 rfl rfl (by decide) ?_
          have h2047 : 16 ≤ z2022 ∧ z2022 ≤ 16 := (vc_X1_doActs_W12_17 h2046 h2025 h2034 h2042 h2044 h2024)
          refine mr_iinc (pc := 260) (lv' := [(5, iv (z1989 + 1)), (6, iv z2010), (0, .ref 21), (1, .ref a1), (2, iv p2), (3, iv p3), (4, iv p4)]) dX1_doActs_260 rfl (by decide) rfl ?_
          refine sv_goto (pc := 263) (tgt := 3) dX1_doActs_263 (by decide) ?_
          refine mr_lvS (lv' := [(0, .ref 21), (1, .ref a1), (2, iv p2), (3, iv p3), (4, iv p4), (5, iv (z1989 + 1))]) (List.forall_mem_cons.mpr ⟨rfl, List.forall_mem_cons.mpr ⟨rfl, List.forall_mem_cons.mpr ⟨rfl, List.forall_mem_cons.mpr ⟨rfl, List.forall_mem_cons.mpr ⟨rfl, List.forall_mem_cons.mpr ⟨rfl, fun _ h => absurd h List.not_mem_nil⟩⟩⟩⟩⟩⟩) ?_
          exact ih2000 (z1989 + 1) μ2019 T2021 (mF.up (mF.call mF.refl F1994 rfl) (A_21 hw) u2020 rfl) (rW (c := 0) (d := 1000) (rAdd (e := 1) (f := 1000) h2002 (rR (x := 1)) rfl) rfl) (PC.keep I1996 hw ((mF.up mF.refl (A_21 hw) u2020 rfl) : mF [21006] w μ1990 μ2019) rfl) (RT.keep I1997 hw ((mF.up mF.refl (A_21 hw) u2020 rfl) : mF [21006] w μ1990 μ2019) rfl) (vc_X1_doActs_W12_13 (nS h1998) h2001 h4 h3 hp2 h2003 h2002) (((((W2026.2 h2025).2 h2034).2 h2042).2 h2044).1 h2046)
        by_cases h2048 : z2022 = 17
        · refine mr_tableIn (pc := 62) (v := 17) (tgt := 260) dX1_doActs_62 h2048 rfl rfl (by decide) ?_
          have h2049 : 17 ≤ z2022 ∧ z2022 ≤ 17 := (vc_X1_doActs_W12_18 h2048 h2025 h2034 h2042 h2044 h2046 h2024)
          refine mr_iinc (pc := 260) (lv' := [(5, iv (z1989 + 1)), (6, iv z2010), (0, .ref 21), (1, .ref a1), (2, iv p2), (3, iv p3), (4, iv p4)]) dX1_doActs_260 rfl (by decide) rfl ?_
          refine sv_goto (pc := 263) (tgt := 3) dX1_doActs_263 (by decide) ?_
          refine mr_lvS (lv' := [(0, .ref 21), (1, .ref a1), (2, iv p2), (3, iv p3), (4, iv p4), (5, iv (z1989 + 1))]) (List.forall_mem_cons.mpr ⟨rfl, List.forall_mem_cons.mpr ⟨rfl, List.forall_mem_cons.mpr ⟨rfl, List.forall_mem_cons.mpr ⟨rfl, List.forall_mem_cons.mpr ⟨rfl, List.forall_mem_cons.mpr ⟨rfl, fun _ h => absurd h List.not_mem_nil⟩⟩⟩⟩⟩⟩) ?_
          exact ih2000 (z1989 + 1) μ2019 T2021 (mF.up (mF.call mF.refl F1994 rfl) (A_21 hw) u2020 rfl) (rW (c := 0) (d := 1000) (rAdd (e := 1) (f := 1000) h2002 (rR (x := 1)) rfl) rfl) (PC.keep I1996 hw ((mF.up mF.refl (A_21 hw) u2020 rfl) : mF [21006] w μ1990 μ2019) rfl) (RT.keep I1997 hw ((mF.up mF.refl (A_21 hw) u2020 rfl) : mF [21006] w μ1990 μ2019) rfl) (vc_X1_doActs_W12_13 (nS h1998) h2001 h4 h3 hp2 h2003 h2002) ((((((W2026.2 h2025).2 h2034).2 h2042).2 h2044).2 h2046).1 h2048)
        have W2051 := ((((((W2026.2 h2025).2 h2034).2 h2042).2 h2044).2 h2046).2 h2048)
        by_cases h2050 : z2022 = 18
        · refine mr_tableIn (pc := 62) (v := 18) (tgt := 260) dX1_doActs_62 h2050 rfl rfl (by decide) ?_
          have h2052 : 18 ≤ z2022 ∧ z2022 ≤ 18 := (vc_X1_doActs_W12_19 h2050 h2025 h2034 h2042 h2044 h2046 h2048 h2024)
          refine mr_iinc (pc := 260) (lv' := [(5, iv (z1989 + 1)), (6, iv z2010), (0, .ref 21), (1, .ref a1), (2, iv p2), (3, iv p3), (4, iv p4)]) dX1_doActs_260 rfl (by decide) rfl ?_
          refine sv_goto (pc := 263) (tgt := 3) dX1_doActs_263 (by decide) ?_
          refine mr_lvS (lv' := [(0, .ref 21), (1, .ref a1), (2, iv p2), (3, iv p3), (4, iv p4), (5, iv (z1989 + 1))]) (List.forall_mem_cons.mpr ⟨rfl, List.forall_mem_cons.mpr ⟨rfl, List.forall_mem_cons.mpr ⟨rfl, List.forall_mem_cons.mpr ⟨rfl, List.forall_mem_cons.mpr ⟨rfl, List.forall_mem_cons.mpr ⟨rfl, fun _ h => absurd h List.not_mem_nil⟩⟩⟩⟩⟩⟩) ?_
          exact ih2000 (z1989 + 1) μ2019 T2021 (mF.up (mF.call mF.refl F1994 rfl) (A_21 hw) u2020 rfl) (rW (c := 0) (d := 1000) (rAdd (e := 1) (f := 1000) h2002 (rR (x := 1)) rfl) rfl) (PC.keep I1996 hw ((mF.up mF.refl (A_21 hw) u2020 rfl) : mF [21006] w μ1990 μ2019) rfl) (RT.keep I1997 hw ((mF.up mF.refl (A_21 hw) u2020 rfl) : mF [21006] w μ1990 μ2019) rfl) (vc_X1_doActs_W12_13 (nS h1998) h2001 h4 h3 hp2 h2003 h2002) (W2051.1 h2050)
        by_cases h2053 : z2022 = 19
        · refine mr_tableIn (pc := 62) (v := 19) (tgt := 260) dX1_doActs_62 h2053 rfl rfl (by decide) ?_
          have h2054 : 19 ≤ z2022 ∧ z2022 ≤ 19 := (vc_X1_doActs_W12_20 h2053 h2025 h2034 h2042 h2044 h2046 h2048 h2050 h2024)
          refine mr_iinc (pc := 260) (lv' := [(5, iv (z1989 + 1)), (6, iv z2010), (0, .ref 21), (1, .ref a1), (2, iv p2), (3, iv p3), (4, iv p4)]) dX1_doActs_260 rfl (by decide) rfl ?_
          refine sv_goto (pc := 263) (tgt := 3) dX1_doActs_263 (by decide) ?_
          refine mr_lvS (lv' := [(0, .ref 21), (1, .ref a1), (2, iv p2), (3, iv p3), (4, iv p4), (5, iv (z1989 + 1))]) (List.forall_mem_cons.mpr ⟨rfl, List.forall_mem_cons.mpr ⟨rfl, List.forall_mem_cons.mpr ⟨rfl, List.forall_mem_cons.mpr ⟨rfl, List.forall_mem_cons.mpr ⟨rfl, List.forall_mem_cons.mpr ⟨rfl, fun _ h => absurd h List.not_mem_nil⟩⟩⟩⟩⟩⟩) ?_
          exact ih2000 (z1989 + 1) μ2019 T2021 (mF.up (mF.call mF.refl F1994 rfl) (A_21 hw) u2020 rfl) (rW (c := 0) (d := 1000) (rAdd (e := 1) (f := 1000) h2002 (rR (x := 1)) rfl) rfl) (PC.keep I1996 hw ((mF.up mF.refl (A_21 hw) u2020 rfl) : mF [21006] w μ1990 μ2019) rfl) (RT.keep I1997 hw ((mF.up mF.refl (A_21 hw) u2020 rfl) : mF [21006] w μ1990 μ2019) rfl) (vc_X1_doActs_W12_13 (nS h1998) h2001 h4 h3 hp2 h2003 h2002) ((W2051.2 h2050).1 h2053)
        by_cases h2055 : z2022 = 20
        · refine mr_tableIn (pc := 62) (v := 20) (tgt := 260) dX1_doActs_62 h2055 rfl rfl (by decide) ?_
          have h2056 : 20 ≤ z2022 ∧ z2022 ≤ 20 := (vc_X1_doActs_W12_21 h2055 h2034 h2042 h2044 h2046 h2048 h2050 h2053 h2024)
          refine mr_iinc (pc := 260) (lv' := [(5, iv (z1989 + 1)), (6, iv z2010), (0, .ref 21), (1, .ref a1), (2, iv p2), (3, iv p3), (4, iv p4)]) dX1_doActs_260 rfl (by decide) rfl ?_
          refine sv_goto (pc := 263) (tgt := 3) dX1_doActs_263 (by decide) ?_
          refine mr_lvS (lv' := [(0, .ref 21), (1, .ref a1), (2, iv p2), (3, iv p3), (4, iv p4), (5, iv (z1989 + 1))]) (List.forall_mem_cons.mpr ⟨rfl, List.forall_mem_cons.mpr ⟨rfl, List.forall_mem_cons.mpr ⟨rfl, List.forall_mem_cons.mpr ⟨rfl, List.forall_mem_cons.mpr ⟨rfl, List.forall_mem_cons.mpr ⟨rfl, fun _ h => absurd h List.not_mem_nil⟩⟩⟩⟩⟩⟩) ?_
          exact ih2000 (z1989 + 1) μ2019 T2021 (mF.up (mF.call mF.refl F1994 rfl) (A_21 hw) u2020 rfl) (rW (c := 0) (d := 1000) (rAdd (e := 1) (f := 1000) h2002 (rR (x := 1)) rfl) rfl) (PC.keep I1996 hw ((mF.up mF.refl (A_21 hw) u2020 rfl) : mF [21006] w μ1990 μ2019) rfl) (RT.keep I1997 hw ((mF.up mF.refl (A_21 hw) u2020 rfl) : mF [21006] w μ1990 μ2019) rfl) (vc_X1_doActs_W12_13 (nS h1998) h2001 h4 h3 hp2 h2003 h2002) (((W2051.2 h2050).2 h2053).1 h2055)
        by_cases h2057 : z2022 = 21
        · refine mr_tableIn (pc := 62) (v := 21) (tgt := 260) dX1_doActs_62 h2057 rfl rfl (by decide) ?_
          have h2058 : 21 ≤ z2022 ∧ z2022 ≤ 21 := (vc_X1_doActs_W12_22 h2057 h2042 h2044 h2046 h2048 h2050 h2053 h2055 h2024)
          refine mr_iinc (pc := 260) (lv' := [(5, iv (z1989 + 1)), (6, iv z2010), (0, .ref 21), (1, .ref a1), (2, iv p2), (3, iv p3), (4, iv p4)]) dX1_doActs_260 rfl (by decide) rfl ?_
          refine sv_goto (pc := 263) (tgt := 3) dX1_doActs_263 (by decide) ?_
          refine mr_lvS (lv' := [(0, .ref 21), (1, .ref a1), (2, iv p2), (3, iv p3), (4, iv p4), (5, iv (z1989 + 1))]) (List.forall_mem_cons.mpr ⟨rfl, List.forall_mem_cons.mpr ⟨rfl, List.forall_mem_cons.mpr ⟨rfl, List.forall_mem_cons.mpr ⟨rfl, List.forall_mem_cons.mpr ⟨rfl, List.forall_mem_cons.mpr ⟨rfl, fun _ h => absurd h List.not_mem_nil⟩⟩⟩⟩⟩⟩) ?_
          exact ih2000 (z1989 + 1) μ2019 T2021 (mF.up (mF.call mF.refl F1994 rfl) (A_21 hw) u2020 rfl) (rW (c := 0) (d := 1000) (rAdd (e := 1) (f := 1000) h2002 (rR (x := 1)) rfl) rfl) (PC.keep I1996 hw ((mF.up mF.refl (A_21 hw) u2020 rfl) : mF [21006] w μ1990 μ2019) rfl) (RT.keep I1997 hw ((mF.up mF.refl (A_21 hw) u2020 rfl) : mF [21006] w μ1990 μ2019) rfl) (vc_X1_doActs_W12_13 (nS h1998) h2001 h4 h3 hp2 h2003 h2002) ((((W2051.2 h2050).2 h2053).2 h2055).1 h2057)
        by_cases h2059 : z2022 = 22
        · refine mr_tableIn (pc := 62) (v := 22) (tgt := 260) dX1_doActs_62 h2059 rfl rfl (by decide) ?_
          have h2060 : 22 ≤ z2022 ∧ z2022 ≤ 22 := (vc_X1_doActs_W12_23 h2059 h2044 h2046 h2048 h2050 h2053 h2055 h2057 h2024)
          refine mr_iinc (pc := 260) (lv' := [(5, iv (z1989 + 1)), (6, iv z2010), (0, .ref 21), (1, .ref a1), (2, iv p2), (3, iv p3), (4, iv p4)]) dX1_doActs_260 rfl (by decide) rfl ?_
          refine sv_goto (pc := 263) (tgt := 3) dX1_doActs_263 (by decide) ?_
          refine mr_lvS (lv' := [(0, .ref 21), (1, .ref a1), (2, iv p2), (3, iv p3), (4, iv p4), (5, iv (z1989 + 1))]) (List.forall_mem_cons.mpr ⟨rfl, List.forall_mem_cons.mpr ⟨rfl, List.forall_mem_cons.mpr ⟨rfl, List.forall_mem_cons.mpr ⟨rfl, List.forall_mem_cons.mpr ⟨rfl, List.forall_mem_cons.mpr ⟨rfl, fun _ h => absurd h List.not_mem_nil⟩⟩⟩⟩⟩⟩) ?_
          exact ih2000 (z1989 + 1) μ2019 T2021 (mF.up (mF.call mF.refl F1994 rfl) (A_21 hw) u2020 rfl) (rW (c := 0) (d := 1000) (rAdd (e := 1) (f := 1000) h2002 (rR (x := 1)) rfl) rfl) (PC.keep I1996 hw ((mF.up mF.refl (A_21 hw) u2020 rfl) : mF [21006] w μ1990 μ2019) rfl) (RT.keep I1997 hw ((mF.up mF.refl (A_21 hw) u2020 rfl) : mF [21006] w μ1990 μ2019) rfl) (vc_X1_doActs_W12_13 (nS h1998) h2001 h4 h3 hp2 h2003 h2002) (((((W2051.2 h2050).2 h2053).2 h2055).2 h2057).1 h2059)
        by_cases h2061 : z2022 = 23
        · refine mr_tableIn (pc := 62) (v := 23) (tgt := 144) dX1_doActs_62 h2061 rfl rfl (by decide) ?_
          have h2062 : 23 ≤ z2022 ∧ z2022 ≤ 23 := (vc_X1_doActs_W12_24 h2061 h2046 h2048 h2050 h2053 h2055 h2057 h2059 h2024)
          refine sv_aload_n (pc := 144) dX1_doActs_144 rfl rfl ?_
          refine mr_iconst (pc := 145) (z := 1) dX1_doActs_145 ?_
          refine pf_X1_7 (pc := 146) dX1_doActs_146 wF_X1_50 (A_21 hw) T2021 (rW (c := 0) (d := 2) (rR (x := 1)) rfl) fun μ2063 u2064 T2065 => ?_
          refine sv_goto (pc := 149) (tgt := 260) dX1_doActs_149 (by decide) ?_
          refine mr_iinc (pc := 260) (lv' := [(5, iv (z1989 + 1)), (6, iv z2010), (0, .ref 21), (1, .ref a1), (2, iv p2), (3, iv p3), (4, iv p4)]) dX1_doActs_260 rfl (by decide) rfl ?_
          refine sv_goto (pc := 263) (tgt := 3) dX1_doActs_263 (by decide) ?_
          refine mr_lvS (lv' := [(0, .ref 21), (1, .ref a1), (2, iv p2), (3, iv p3), (4, iv p4), (5, iv (z1989 + 1))]) (List.forall_mem_cons.mpr ⟨rfl, List.forall_mem_cons.mpr ⟨rfl, List.forall_mem_cons.mpr ⟨rfl, List.forall_mem_cons.mpr ⟨rfl, List.forall_mem_cons.mpr ⟨rfl, List.forall_mem_cons.mpr ⟨rfl, fun _ h => absurd h List.not_mem_nil⟩⟩⟩⟩⟩⟩) ?_
          exact ih2000 (z1989 + 1) μ2063 T2065 (mF.up (mF.up (mF.call mF.refl F1994 rfl) (A_21 hw) u2020 rfl) (A_21 hw) u2064 rfl) (rW (c := 0) (d := 1000) (rAdd (e := 1) (f := 1000) h2002 (rR (x := 1)) rfl) rfl) (PC.keep I1996 hw ((mF.up (mF.up mF.refl (A_21 hw) u2020 rfl) (A_21 hw) u2064 rfl) : mF [21006, 21007] w μ1990 μ2063) rfl) (RT.keep I1997 hw ((mF.up (mF.up mF.refl (A_21 hw) u2020 rfl) (A_21 hw) u2064 rfl) : mF [21006, 21007] w μ1990 μ2063) rfl) (vc_X1_doActs_W12_13 (nS h1998) h2001 h4 h3 hp2 h2003 h2002) (((((((W2051.2 h2050).2 h2053).2 h2055).2 h2057).2 h2059).1 h2061) μ2063 u2064 T2065)
        have W2067 := ((((((W2051.2 h2050).2 h2053).2 h2055).2 h2057).2 h2059).2 h2061)
        by_cases h2066 : z2022 = 24
        · refine mr_tableIn (pc := 62) (v := 24) (tgt := 152) dX1_doActs_62 h2066 rfl rfl (by decide) ?_
          have h2068 : 24 ≤ z2022 ∧ z2022 ≤ 24 := (vc_X1_doActs_W12_25 h2066 h2048 h2050 h2053 h2055 h2057 h2059 h2061 h2024)
          refine sv_aload_n (pc := 152) dX1_doActs_152 rfl rfl ?_
          refine mr_iconst (pc := 153) (z := 2) dX1_doActs_153 ?_
          refine pf_X1_7 (pc := 154) dX1_doActs_154 wF_X1_50 (A_21 hw) T2021 (rW (c := 0) (d := 2) (rR (x := 2)) rfl) fun μ2069 u2070 T2071 => ?_
          refine sv_goto (pc := 157) (tgt := 260) dX1_doActs_157 (by decide) ?_
          refine mr_iinc (pc := 260) (lv' := [(5, iv (z1989 + 1)), (6, iv z2010), (0, .ref 21), (1, .ref a1), (2, iv p2), (3, iv p3), (4, iv p4)]) dX1_doActs_260 rfl (by decide) rfl ?_
          refine sv_goto (pc := 263) (tgt := 3) dX1_doActs_263 (by decide) ?_
          refine mr_lvS (lv' := [(0, .ref 21), (1, .ref a1), (2, iv p2), (3, iv p3), (4, iv p4), (5, iv (z1989 + 1))]) (List.forall_mem_cons.mpr ⟨rfl, List.forall_mem_cons.mpr ⟨rfl, List.forall_mem_cons.mpr ⟨rfl, List.forall_mem_cons.mpr ⟨rfl, List.forall_mem_cons.mpr ⟨rfl, List.forall_mem_cons.mpr ⟨rfl, fun _ h => absurd h List.not_mem_nil⟩⟩⟩⟩⟩⟩) ?_
          exact ih2000 (z1989 + 1) μ2069 T2071 (mF.up (mF.up (mF.call mF.refl F1994 rfl) (A_21 hw) u2020 rfl) (A_21 hw) u2070 rfl) (rW (c := 0) (d := 1000) (rAdd (e := 1) (f := 1000) h2002 (rR (x := 1)) rfl) rfl) (PC.keep I1996 hw ((mF.up (mF.up mF.refl (A_21 hw) u2020 rfl) (A_21 hw) u2070 rfl) : mF [21006, 21007] w μ1990 μ2069) rfl) (RT.keep I1997 hw ((mF.up (mF.up mF.refl (A_21 hw) u2020 rfl) (A_21 hw) u2070 rfl) : mF [21006, 21007] w μ1990 μ2069) rfl) (vc_X1_doActs_W12_13 (nS h1998) h2001 h4 h3 hp2 h2003 h2002) ((W2067.1 h2066) μ2069 u2070 T2071)
        by_cases h2072 : z2022 = 25
        · refine mr_tableIn (pc := 62) (v := 25) (tgt := 160) dX1_doActs_62 h2072 rfl rfl (by decide) ?_
          have h2073 : 25 ≤ z2022 ∧ z2022 ≤ 25 := (vc_X1_doActs_W12_26 h2072 h2050 h2053 h2055 h2057 h2059 h2061 h2066 h2024)
          refine sv_aload_n (pc := 160) dX1_doActs_160 rfl rfl ?_
          refine gf_X1_2 (pc := 161) dX1_doActs_161 wF_X1_25 (A_21 hw) T2021 (RT.keep I1997 hw ((mF.up mF.refl (A_21 hw) u2020 rfl) : mF [21006] w μ1990 μ2019) rfl) fun b2074 q2075 A2076 => ?_
          refine mr_iload (pc := 164) (z := z2010) dX1_doActs_164 rfl ?_
          refine mr_cVV (pc := 166) (c_X7_addMark_W hw T2021 A2076 (rW (c := (-2147483648)) (d := 2147483647) h2013 rfl) (((W2067.2 h2066).1 h2072) b2074 q2075 A2076)) (gOk _ _ _ _ _) dX1_doActs_166 (tX7_addMark _ _ _ _ _) ⟨wV_X7_addMark, wL_X7_addMark⟩ wM_X1_124 (gCX7 _ _ _ _ _) rfl A2076 rfl ⟨le_t rfl, le_t rfl⟩ ⟨le_t rfl, le_t rfl⟩ rfl (le_t rfl) fun μ2077 T2078 F2079 h2080 => ?_
          refine sv_goto (pc := 169) (tgt := 260) dX1_doActs_169 (by decide) ?_
          refine mr_iinc (pc := 260) (lv' := [(5, iv (z1989 + 1)), (6, iv z2010), (0, .ref 21), (1, .ref a1), (2, iv p2), (3, iv p3), (4, iv p4)]) dX1_doActs_260 rfl (by decide) rfl ?_
          refine sv_goto (pc := 263) (tgt := 3) dX1_doActs_263 (by decide) ?_
          refine mr_lvS (lv' := [(0, .ref 21), (1, .ref a1), (2, iv p2), (3, iv p3), (4, iv p4), (5, iv (z1989 + 1))]) (List.forall_mem_cons.mpr ⟨rfl, List.forall_mem_cons.mpr ⟨rfl, List.forall_mem_cons.mpr ⟨rfl, List.forall_mem_cons.mpr ⟨rfl, List.forall_mem_cons.mpr ⟨rfl, List.forall_mem_cons.mpr ⟨rfl, fun _ h => absurd h List.not_mem_nil⟩⟩⟩⟩⟩⟩) ?_
          exact ih2000 (z1989 + 1) μ2077 T2078 (mF.call (mF.up (mF.call mF.refl F1994 rfl) (A_21 hw) u2020 rfl) F2079 rfl) (rW (c := 0) (d := 1000) (rAdd (e := 1) (f := 1000) h2002 (rR (x := 1)) rfl) rfl) (PC.keep I1996 hw ((mF.call (mF.up mF.refl (A_21 hw) u2020 rfl) F2079 rfl) : mF [21006, 200008, 202999] w μ1990 μ2077) rfl) (RT.keep I1997 hw ((mF.call (mF.up mF.refl (A_21 hw) u2020 rfl) F2079 rfl) : mF [21006, 200008, 202999] w μ1990 μ2077) rfl) (vc_X1_doActs_W12_13 (nS h1998) h2001 h4 h3 hp2 h2003 h2002) (h2080.1 T2078 F2079)
        by_cases h2081 : z2022 = 26
        · refine mr_tableIn (pc := 62) (v := 26) (tgt := 172) dX1_doActs_62 h2081 rfl rfl (by decide) ?_
          have h2082 : 26 ≤ z2022 ∧ z2022 ≤ 26 := (vc_X1_doActs_W12_27 h2081 h2053 h2055 h2057 h2059 h2061 h2066 h2072 h2024)
          refine sv_aload_n (pc := 172) dX1_doActs_172 rfl rfl ?_
          refine gf_X1_2 (pc := 173) dX1_doActs_173 wF_X1_25 (A_21 hw) T2021 (RT.keep I1997 hw ((mF.up mF.refl (A_21 hw) u2020 rfl) : mF [21006] w μ1990 μ2019) rfl) fun b2083 q2084 A2085 => ?_
          refine mr_iload (pc := 176) (z := z2010) dX1_doActs_176 rfl ?_
          refine mr_cVV (pc := 178) (c_X7_dropMark_W hw T2021 A2085 (rW (c := (-2147483648)) (d := 2147483647) h2013 rfl) ((((W2067.2 h2066).2 h2072).1 h2081) b2083 q2084 A2085)) (gOk _ _ _ _ _) dX1_doActs_178 (tX7_dropMark _ _ _ _ _) ⟨wV_X7_dropMark, wL_X7_dropMark⟩ wM_X1_128 (gCX7 _ _ _ _ _) rfl A2085 rfl ⟨le_t rfl, le_t rfl⟩ ⟨le_t rfl, le_t rfl⟩ rfl (le_t rfl) fun μ2086 T2087 F2088 h2089 => ?_
          refine sv_goto (pc := 181) (tgt := 260) dX1_doActs_181 (by decide) ?_
          refine mr_iinc (pc := 260) (lv' := [(5, iv (z1989 + 1)), (6, iv z2010), (0, .ref 21), (1, .ref a1), (2, iv p2), (3, iv p3), (4, iv p4)]) dX1_doActs_260 rfl (by decide) rfl ?_
          refine sv_goto (pc := 263) (tgt := 3) dX1_doActs_263 (by decide) ?_
          refine mr_lvS (lv' := [(0, .ref 21), (1, .ref a1), (2, iv p2), (3, iv p3), (4, iv p4), (5, iv (z1989 + 1))]) (List.forall_mem_cons.mpr ⟨rfl, List.forall_mem_cons.mpr ⟨rfl, List.forall_mem_cons.mpr ⟨rfl, List.forall_mem_cons.mpr ⟨rfl, List.forall_mem_cons.mpr ⟨rfl, List.forall_mem_cons.mpr ⟨rfl, fun _ h => absurd h List.not_mem_nil⟩⟩⟩⟩⟩⟩) ?_
          exact ih2000 (z1989 + 1) μ2086 T2087 (mF.call (mF.up (mF.call mF.refl F1994 rfl) (A_21 hw) u2020 rfl) F2088 rfl) (rW (c := 0) (d := 1000) (rAdd (e := 1) (f := 1000) h2002 (rR (x := 1)) rfl) rfl) (PC.keep I1996 hw ((mF.call (mF.up mF.refl (A_21 hw) u2020 rfl) F2088 rfl) : mF [21006, 200008, 202999] w μ1990 μ2086) rfl) (RT.keep I1997 hw ((mF.call (mF.up mF.refl (A_21 hw) u2020 rfl) F2088 rfl) : mF [21006, 200008, 202999] w μ1990 μ2086) rfl) (vc_X1_doActs_W12_13 (nS h1998) h2001 h4 h3 hp2 h2003 h2002) (h2089.1 T2087 F2088)
        by_cases h2090 : z2022 = 27
        · refine mr_tableIn (pc := 62) (v := 27) (tgt := 208) dX1_doActs_62 h2090 rfl rfl (by decide) ?_
          have h2091 : 27 ≤ z2022 ∧ z2022 ≤ 27 := (vc_X1_doActs_W12_28 h2090 h2055 h2057 h2059 h2061 h2066 h2072 h2081 h2024)
          refine sv_aload_n (pc := 208) dX1_doActs_208 rfl rfl ?_
          refine gf_X1_2 (pc := 209) dX1_doActs_209 wF_X1_25 (A_21 hw) T2021 (RT.keep I1997 hw ((mF.up mF.refl (A_21 hw) u2020 rfl) : mF [21006] w μ1990 μ2019) rfl) fun b2092 q2093 A2094 => ?_
          refine gf_X7_7 (pc := 212) dX1_doActs_212 wF_X1_96 A2094 T2021 fun z2095 q2096 h2097 => ?_
          have J2120 : ∀ (μ2114 : mM), (mT w μ2114) → (mF [21007, 200007, 201999] w μ2019 μ2114) → (PC w μ2114) → (RT μ2114) → ((WJ_X1_doActs_W10_2 w (loopF (WL_X1_doActs_W10_1 w μ a1 p2 p3 p4 Q) False nL1991) z1989 μ2019) μ2114) → sV (gG l D c H0 sa) mX1_doActs (sRm 8 0 0) (sZ (gG l D c H0 sa) 0 0 (qV w [21006, 21007, 200004, 200006, 200007, 200008, 201999, 202999] μ (fun μ1 => Q μ1 ∧ True))) 260 [(0, .ref 21), (1, .ref a1), (2, iv p2), (3, iv p3), (4, iv p4), (5, iv z1989)] [] (mk w μ2114) 0 0 := by
            intro μ2114 T2115 F2116 I2118 I2119 W2121
            refine mr_iinc (pc := 260) (lv' := [(5, iv (z1989 + 1)), (0, .ref 21), (1, .ref a1), (2, iv p2), (3, iv p3), (4, iv p4)]) dX1_doActs_260 rfl (by decide) rfl ?_
            refine sv_goto (pc := 263) (tgt := 3) dX1_doActs_263 (by decide) ?_
            refine mr_lvS (lv' := [(0, .ref 21), (1, .ref a1), (2, iv p2), (3, iv p3), (4, iv p4), (5, iv (z1989 + 1))]) (List.forall_mem_cons.mpr ⟨rfl, List.forall_mem_cons.mpr ⟨rfl, List.forall_mem_cons.mpr ⟨rfl, List.forall_mem_cons.mpr ⟨rfl, List.forall_mem_cons.mpr ⟨rfl, List.forall_mem_cons.mpr ⟨rfl, fun _ h => absurd h List.not_mem_nil⟩⟩⟩⟩⟩⟩) ?_
            exact ih2000 (z1989 + 1) μ2114 T2115 (mF.call (mF.up (mF.call mF.refl F1994 rfl) (A_21 hw) u2020 rfl) F2116 rfl) (rW (c := 0) (d := 1000) (rAdd (e := 1) (f := 1000) h2002 (rR (x := 1)) rfl) rfl) I2118 I2119 (vc_X1_doActs_W12_13 (nS h1998) h2001 h4 h3 hp2 h2003 h2002) (W2121 T2115 F2116)
          refine mr_if_le (pc := 215) (tgt := 260) dX1_doActs_215 (by decide) (r32 h2097 rfl) (fun h2122 => ?_) (fun h2122 => ?_)
          · have h2123 : 0 ≤ z2095 ∧ z2095 ≤ 0 := (vc_X12_write_57 h2122 h2097)
            refine mr_lvS (lv' := [(0, .ref 21), (1, .ref a1), (2, iv p2), (3, iv p3), (4, iv p4), (5, iv z1989)]) (List.forall_mem_cons.mpr ⟨rfl, List.forall_mem_cons.mpr ⟨rfl, List.forall_mem_cons.mpr ⟨rfl, List.forall_mem_cons.mpr ⟨rfl, List.forall_mem_cons.mpr ⟨rfl, List.forall_mem_cons.mpr ⟨rfl, fun _ h => absurd h List.not_mem_nil⟩⟩⟩⟩⟩⟩) ?_
            exact J2120 μ2019 T2021 mF.refl (PC.keep I1996 hw ((mF.up mF.refl (A_21 hw) u2020 rfl) : mF [21006] w μ1990 μ2019) rfl) (RT.keep I1997 hw ((mF.up mF.refl (A_21 hw) u2020 rfl) : mF [21006] w μ1990 μ2019) rfl) (((((((W2067.2 h2066).2 h2072).2 h2081).1 h2090) b2092 q2093 A2094) z2095 q2096 h2097).1 h2122)
          have h2124 : 1 ≤ z2095 ∧ z2095 ≤ 20 := (vc_X12_write_59 h2122 h2097)
          refine sv_aload_n (pc := 218) dX1_doActs_218 rfl rfl ?_
          refine gk_X1_2 (pc := 219) dX1_doActs_219 wF_X1_25 (A_21 hw) q2093 ?_
          refine sv_aload_n (pc := 222) dX1_doActs_222 rfl rfl ?_
          refine gk_X1_2 (pc := 223) dX1_doActs_223 wF_X1_25 (A_21 hw) q2093 ?_
          refine gf_X7_0 (pc := 226) dX1_doActs_226 wF_X1_114 A2094 T2021 fun A2125 => ?_
          refine mr_iconst (pc := 229) (z := 0) dX1_doActs_229 ?_
          refine la_201 (pc := 230) dX1_doActs_230 A2125 T2021 (rIx (n := 20) (rR (x := 0)) rfl) fun z2126 q2127 h2128 => ?_
          refine mr_iload (pc := 231) (z := z2010) dX1_doActs_231 rfl ?_
          have W2134 := ((((((((W2067.2 h2066).2 h2072).2 h2081).1 h2090) b2092 q2093 A2094) z2095 q2096 h2097).2 h2122) z2126 q2127 h2128)
          refine mr_cVI (pc := 233) (c_X7_putInFront_W hw T2021 A2094 h2128 (rW (c := (-2147483648)) (d := 1000000) h2013 rfl) W2134) (gOk _ _ _ _ _) dX1_doActs_233 (tX7_putInFront _ _ _ _ _) ⟨wV_X7_putInFront, wL_X7_putInFront⟩ wM_X1_131 (gCX7 _ _ _ _ _) rfl A2094 rfl ⟨le_t rfl, le_t rfl⟩ ⟨le_t rfl, le_t rfl⟩ rfl (le_t rfl) fun z2133 μ2129 T2130 F2131 h2132 => ?_
          refine mr_if_ne (pc := 236) (tgt := 260) dX1_doActs_236 (by decide) (r32 h2132.1 rfl) (fun h2135 => ?_) (fun h2135 => ?_)
          · have h2136 : 1 ≤ z2133 ∧ z2133 ≤ 1 := (vc_X12_ring_24 h2135 h2132.1)
            refine mr_lvS (lv' := [(0, .ref 21), (1, .ref a1), (2, iv p2), (3, iv p3), (4, iv p4), (5, iv z1989)]) (List.forall_mem_cons.mpr ⟨rfl, List.forall_mem_cons.mpr ⟨rfl, List.forall_mem_cons.mpr ⟨rfl, List.forall_mem_cons.mpr ⟨rfl, List.forall_mem_cons.mpr ⟨rfl, List.forall_mem_cons.mpr ⟨rfl, fun _ h => absurd h List.not_mem_nil⟩⟩⟩⟩⟩⟩) ?_
            exact J2120 μ2129 T2130 (mF.call mF.refl F2131 rfl) (PC.keep I1996 hw ((mF.call (mF.up mF.refl (A_21 hw) u2020 rfl) F2131 rfl) : mF [21006, 200007, 201999] w μ1990 μ2129) rfl) (RT.keep I1997 hw ((mF.call (mF.up mF.refl (A_21 hw) u2020 rfl) F2131 rfl) : mF [21006, 200007, 201999] w μ1990 μ2129) rfl) (((h2132.2.1 T2130 F2131) h2132.1).1 h2135)
          have h2137 : 0 ≤ z2133 ∧ z2133 ≤ 0 := (vc_X12_ring_22 h2135 h2132.1)
          refine sv_aload_n (pc := 239) dX1_doActs_239 rfl rfl ?_
          refine mr_iconst (pc := 240) (z := 2) dX1_doActs_240 ?_
          refine pf_X1_7 (pc := 241) dX1_doActs_241 wF_X1_50 (A_21 hw) T2130 (rW (c := 0) (d := 2) (rR (x := 2)) rfl) fun μ2138 u2139 T2140 => ?_
          refine sv_goto (pc := 244) (tgt := 260) dX1_doActs_244 (by decide) ?_
          refine mr_lvS (lv' := [(0, .ref 21), (1, .ref a1), (2, iv p2), (3, iv p3), (4, iv p4), (5, iv z1989)]) (List.forall_mem_cons.mpr ⟨rfl, List.forall_mem_cons.mpr ⟨rfl, List.forall_mem_cons.mpr ⟨rfl, List.forall_mem_cons.mpr ⟨rfl, List.forall_mem_cons.mpr ⟨rfl, List.forall_mem_cons.mpr ⟨rfl, fun _ h => absurd h List.not_mem_nil⟩⟩⟩⟩⟩⟩) ?_
          exact J2120 μ2138 T2140 (mF.up (mF.call mF.refl F2131 rfl) (A_21 hw) u2139 rfl) (PC.keep I1996 hw ((mF.up (mF.call (mF.up mF.refl (A_21 hw) u2020 rfl) F2131 rfl) (A_21 hw) u2139 rfl) : mF [21006, 21007, 200007, 201999] w μ1990 μ2138) rfl) (RT.keep I1997 hw ((mF.up (mF.call (mF.up mF.refl (A_21 hw) u2020 rfl) F2131 rfl) (A_21 hw) u2139 rfl) : mF [21006, 21007, 200007, 201999] w μ1990 μ2138) rfl) ((((h2132.2.1 T2130 F2131) h2132.1).2 h2135) μ2138 u2139 T2140)
        by_cases h2141 : z2022 = 28
        · refine mr_tableIn (pc := 62) (v := 28) (tgt := 247) dX1_doActs_62 h2141 rfl rfl (by decide) ?_
          have h2142 : 28 ≤ z2022 ∧ z2022 ≤ 28 := (vc_X1_doActs_W12_33 h2141 h2057 h2059 h2061 h2066 h2072 h2081 h2090 h2024)
          refine sv_aload_n (pc := 247) dX1_doActs_247 rfl rfl ?_
          refine mr_iload (pc := 248) (z := z2010) dX1_doActs_248 rfl ?_
          refine mr_iload (pc := 250) (z := p4) dX1_doActs_250 rfl ?_
          refine mr_iconst (pc := 252) (z := 1) dX1_doActs_252 ?_
          refine mr_iadd (pc := 253) (x := p4) (y := 1) dX1_doActs_253 ?_
          refine mr_cVV (pc := 254) (c_X1_goThrough_W11 hw T2021 (rW (c := (-2147483648)) (d := 2147483647) h2013 rfl) (rAdd (e := 11) (f := 11) hp4 (rR (x := 1)) rfl) (PC.keep I1996 hw ((mF.up mF.refl (A_21 hw) u2020 rfl) : mF [21006] w μ1990 μ2019) rfl) (RT.keep I1997 hw ((mF.up mF.refl (A_21 hw) u2020 rfl) : mF [21006] w μ1990 μ2019) rfl) (((((W2067.2 h2066).2 h2072).2 h2081).2 h2090).1 h2141)) (gOk _ _ _ _ _) dX1_doActs_254 (tX1_goThrough _ _ _ _ _) ⟨wV_X1_goThrough, wL_X1_goThrough⟩ wM_X1_53 (gCX1 _ _ _ _ _) rfl (A_21 hw) rfl ⟨le_t rfl, le_t rfl⟩ ⟨le_t rfl, le_t rfl⟩ rfl (le_t rfl) fun μ2143 T2144 F2145 h2146 => ?_
          refine sv_goto (pc := 257) (tgt := 260) dX1_doActs_257 (by decide) ?_
          refine mr_iinc (pc := 260) (lv' := [(5, iv (z1989 + 1)), (6, iv z2010), (0, .ref 21), (1, .ref a1), (2, iv p2), (3, iv p3), (4, iv p4)]) dX1_doActs_260 rfl (by decide) rfl ?_
          refine sv_goto (pc := 263) (tgt := 3) dX1_doActs_263 (by decide) ?_
          refine mr_lvS (lv' := [(0, .ref 21), (1, .ref a1), (2, iv p2), (3, iv p3), (4, iv p4), (5, iv (z1989 + 1))]) (List.forall_mem_cons.mpr ⟨rfl, List.forall_mem_cons.mpr ⟨rfl, List.forall_mem_cons.mpr ⟨rfl, List.forall_mem_cons.mpr ⟨rfl, List.forall_mem_cons.mpr ⟨rfl, List.forall_mem_cons.mpr ⟨rfl, fun _ h => absurd h List.not_mem_nil⟩⟩⟩⟩⟩⟩) ?_
          exact ih2000 (z1989 + 1) μ2143 T2144 (mF.call (mF.up (mF.call mF.refl F1994 rfl) (A_21 hw) u2020 rfl) F2145 rfl) (rW (c := 0) (d := 1000) (rAdd (e := 1) (f := 1000) h2002 (rR (x := 1)) rfl) rfl) (PC.keep I1996 hw ((mF.call (mF.up mF.refl (A_21 hw) u2020 rfl) F2145 rfl) : mF [21006, 21007, 200004, 200006, 200007, 200008, 201999, 202999] w μ1990 μ2143) rfl) (RT.keep I1997 hw ((mF.call (mF.up mF.refl (A_21 hw) u2020 rfl) F2145 rfl) : mF [21006, 21007, 200004, 200006, 200007, 200008, 201999, 202999] w μ1990 μ2143) rfl) (vc_X1_doActs_W12_13 (nS h1998) h2001 h4 h3 hp2 h2003 h2002) (h2146.1 T2144 F2145)
        refine mr_tableOut (pc := 62) (tgt := 260) dX1_doActs_62 h2024 (vc_X1_doActs_W12_34 h2025 h2034 h2042 h2044 h2046 h2048 h2050 h2053 h2055 h2057 h2059 h2061 h2066 h2072 h2081 h2090 h2141 h2024) (by decide) ?_
        refine mr_iinc (pc := 260) (lv' := [(5, iv (z1989 + 1)), (6, iv z2010), (0, .ref 21), (1, .ref a1), (2, iv p2), (3, iv p3), (4, iv p4)]) dX1_doActs_260 rfl (by decide) rfl ?_
        refine sv_goto (pc := 263) (tgt := 3) dX1_doActs_263 (by decide) ?_
        refine mr_lvS (lv' := [(0, .ref 21), (1, .ref a1), (2, iv p2), (3, iv p3), (4, iv p4), (5, iv (z1989 + 1))]) (List.forall_mem_cons.mpr ⟨rfl, List.forall_mem_cons.mpr ⟨rfl, List.forall_mem_cons.mpr ⟨rfl, List.forall_mem_cons.mpr ⟨rfl, List.forall_mem_cons.mpr ⟨rfl, List.forall_mem_cons.mpr ⟨rfl, fun _ h => absurd h List.not_mem_nil⟩⟩⟩⟩⟩⟩) ?_
        exact ih2000 (z1989 + 1) μ2019 T2021 (mF.up (mF.call mF.refl F1994 rfl) (A_21 hw) u2020 rfl) (rW (c := 0) (d := 1000) (rAdd (e := 1) (f := 1000) h2002 (rR (x := 1)) rfl) rfl) (PC.keep I1996 hw ((mF.up mF.refl (A_21 hw) u2020 rfl) : mF [21006] w μ1990 μ2019) rfl) (RT.keep I1997 hw ((mF.up mF.refl (A_21 hw) u2020 rfl) : mF [21006] w μ1990 μ2019) rfl) (vc_X1_doActs_W12_13 (nS h1998) h2001 h4 h3 hp2 h2003 h2002) (((((W2067.2 h2066).2 h2072).2 h2081).2 h2090).2 h2141)
      have h2147 : 500 ≤ z2014 ∧ z2014 ≤ 500 := (vc_X1_doActs_W12_35 h2017 h2016)
      refine sv_aload_n (pc := 38) dX1_doActs_38 rfl rfl ?_
      refine mr_iconst (pc := 39) (z := 2) dX1_doActs_39 ?_
      refine pf_X1_7 (pc := 40) dX1_doActs_40 wF_X1_50 (A_21 hw) T1993 (rW (c := 0) (d := 2) (rR (x := 2)) rfl) fun μ2148 u2149 T2150 => ?_
      exact mr_vret dX1_doActs_43 rfl (le_t rfl) (le_t rfl) T2150 (mF.up (mF.call mF.refl F1994 rfl) (A_21 hw) u2149 rfl) ⟨((((((((W1999 z1989 μ1990 rfl h1992 T1993 F1994).2 h2001) z2004 q2005 h2006).2 h2007) z2010 q2011 h2012) z2014 q2015 h2016).2 h2017) μ2148 u2149 T2150), trivial⟩
  refine mr_lvS (lv' := [(0, .ref 21), (1, .ref a1), (2, iv p2), (3, iv p3), (4, iv p4), (5, iv 0)]) (List.forall_mem_cons.mpr ⟨rfl, List.forall_mem_cons.mpr ⟨rfl, List.forall_mem_cons.mpr ⟨rfl, List.forall_mem_cons.mpr ⟨rfl, List.forall_mem_cons.mpr ⟨rfl, List.forall_mem_cons.mpr ⟨rfl, fun _ h => absurd h List.not_mem_nil⟩⟩⟩⟩⟩⟩) ?_
  exact L1991 1002 0 μ hT mF.refl (rW (c := 0) (d := 1000) (rR (x := 0)) rfl) hIPC hIRT vc_X6_split_v_102 (hQ n_1 q2 h3)
def WJ_X1_goThrough_W10_3 (w : mW) (p2 : Int) (c13 : Nat) (rec1 : (Int × Int × mM) → Prop) (z1190 : Int) (z1189 : Int) (μ1191 : mM) (z1340 : Int) (z1343 : Int) (z1468 : Int) : Prop := ((z1468 = 0) → rec1 ((((z1190 + 2) + (z1340 * 5)) + (z1343 * 2)), (z1189 + 1), μ1191)) ∧ ((¬ z1468 = 0) → WP_X1_doActs_W10 w μ1191 c13 ((z1190 + 2) + (z1340 * 5)) z1343 p2 (fun μ1505 => mT w μ1505 → mF [21006, 21007, 200004, 200006, 200007, 200008, 201999, 202999] w μ1191 μ1505 → rec1 ((((z1190 + 2) + (z1340 * 5)) + (z1343 * 2)), (z1189 + 1), μ1505)))
def WL_X1_goThrough_W10_2 (w : mW) (p2 : Int) (b10 : Nat) (c13 : Nat) (rec1 : (Int × Int × mM) → Prop) (z1190 : Int) (z1189 : Int) (μ1191 : mM) (z1340 : Int) (z1343 : Int) (rec2 : (Int × Int) → Prop) (s : (Int × Int)) : Prop := ∀ z1468 : Int, ∀ z1467 : Int, s = (z1468, z1467) → (0 ≤ z1468 ∧ z1468 ≤ 1) → (2 ≤ z1467 ∧ z1467 ≤ 2010) → ((((z1190 + 2) + (z1340 * 5)) ≤ z1467) → (WJ_X1_goThrough_W10_3 w p2 c13 rec1 z1190 z1189 μ1191 z1340 z1343 z1468) ) ∧ ((z1467 < ((z1190 + 2) + (z1340 * 5))) → ((z1468 = 0) → (WJ_X1_goThrough_W10_3 w p2 c13 rec1 z1190 z1189 μ1191 z1340 z1343 z1468) ) ∧ ((¬ z1468 = 0) → WP_X1_isSo_W w μ1191 b10 z1467 (fun z1517 _ => (0 ≤ z1517 ∧ z1517 ≤ 1) → ∀ z1518 : Int, μ1191 c13 ((z1467 + 1).toNat) = z1518 → ((-2147483648) ≤ z1518 ∧ z1518 ≤ 2147483647) → ((¬ z1518 = 1) → ((z1517 = 0) → rec2 ((0 : Int), (z1467 + 5))) ∧ ((¬ z1517 = 0) → rec2 ((1 : Int), (z1467 + 5)))) ∧ ((z1518 = 1) → ((z1517 = 1) → rec2 ((0 : Int), (z1467 + 5))) ∧ ((¬ z1517 = 1) → rec2 ((1 : Int), (z1467 + 5)))))))
def WL_X1_goThrough_W10_1 (w : mW) (μ : mM) (p2 : Int) (Q : mM → Prop) (b10 : Nat) (c13 : Nat) (z14 : Int) (rec1 : (Int × Int × mM) → Prop) (s : (Int × Int × mM)) : Prop := ∀ z1190 : Int, ∀ z1189 : Int, ∀ μ1191 : mM, s = (z1190, z1189, μ1191) → (0 ≤ z1190 ∧ z1190 ≤ 2000) → (0 ≤ z1189 ∧ z1189 ≤ 30) → mT w μ1191 → mF [21006, 21007, 200004, 200006, 200007, 200008, 201999, 202999] w μ μ1191 → ((z14 ≤ z1189) → Q μ1191) ∧ ((z1189 < z14) → ∀ z1271 : Int, μ1191 21 7 = z1271 → (0 ≤ z1271 ∧ z1271 ≤ 2) → ((¬ z1271 = 0) → Q μ1191) ∧ ((z1271 = 0) → ∀ n_1336 : Int, (w.2.2.1 c13 : Int) = n_1336 → (0 ≤ n_1336 ∧ n_1336 ≤ 2000) → ∀ z1340 : Int, μ1191 c13 (z1190.toNat) = z1340 → ((-2147483648) ≤ z1340 ∧ z1340 ≤ 2147483647) → ∀ z1343 : Int, μ1191 c13 ((z1190 + 1).toNat) = z1343 → ((-2147483648) ≤ z1343 ∧ z1343 ≤ 2147483647) → loopF (WL_X1_goThrough_W10_2 w p2 b10 c13 rec1 z1190 z1189 μ1191 z1340 z1343) False 2010 ((1 : Int), (z1190 + 2))))
def WP_X1_goThrough_W10 (w : mW) (μ : mM) (p1 : Int) (p2 : Int) (Q : mM → Prop) : Prop := ((p1 < 0) → Q μ) ∧ ((0 ≤ p1) → ∀ z4 : Int, μ 21 8 = z4 → (z4 = w.2.2.2 2 ∧ 0 ≤ z4 ∧ z4 ≤ 12) → ((z4 ≤ p1) → Q μ) ∧ ((p1 < z4) → ∀ b10 : Nat, μ 22 (p1.toNat) = (b10 : Int) → mAt w b10 230 → ∀ c13 : Nat, μ b10 1 = (c13 : Int) → ∀ z14 : Int, μ b10 0 = z14 → loopF (WL_X1_goThrough_W10_1 w μ p2 Q b10 c13 z14) False 2002 ((0 : Int), (0 : Int), μ)))
theorem vc_X1_goThrough_W10_5 {p2 : Int} (h0 : 12 < p2) (h1 : 10 ≤ p2 ∧ p2 ≤ 10) : False := by omega
set_option maxRecDepth 4000 in
set_option maxHeartbeats 4000000 in
theorem c_X1_goThrough_W10 {l : Launch} {D : va_G} {c : Nat → ClassId} {H0 : Heap} {sa : Nat × Nat × (Nat → Int32)} {w : mW} {μ : mM} (hw : mWF w) (hT : mT w μ) {p1 : Int} (hp1 : (-2147483648) ≤ p1 ∧ p1 ≤ 2147483647) {p2 : Int} (hp2 : 10 ≤ p2 ∧ p2 ≤ 10) (hIPC : PC w μ) (hIRT : RT μ) {Q : mM → Prop} (hQ : WP_X1_goThrough_W10 w μ p1 p2 Q) : sC (gG l D c H0 sa) mX1_goThrough 9 0 0 [.ref 21, iv p1, iv p2] (mk w μ) (qV w [21006, 21007, 200004, 200006, 200007, 200008, 201999, 202999] μ (fun μ1 => Q μ1 ∧ True)) := by
  refine sC.of rfl (by decide) (le_t rfl) ?_
  refine mr_lvE (lv' := [(0, .ref 21), (1, iv p1), (2, iv p2)]) rfl ?_
  refine mr_iload_n (pc := 0) (z := p1) dX1_goThrough_0 rfl rfl ?_
  refine mr_if_lt (pc := 1) (tgt := 18) dX1_goThrough_1 (by decide) hp1 (fun h1 => ?_) (fun h1 => ?_)
  · have h2 : (-2147483648) ≤ p1 ∧ p1 ≤ (-1) := (vc_X12_ring_60 h1 hp1)
    exact mr_vret dX1_goThrough_18 rfl (le_t rfl) (le_t rfl) hT mF.refl ⟨(hQ.1 h1), trivial⟩
  have h3 : 0 ≤ p1 ∧ p1 ≤ 2147483647 := (vc_X12_ring_1 h1 hp1)
  refine mr_iload_n (pc := 4) (z := p1) dX1_goThrough_4 rfl rfl ?_
  refine sv_aload_n (pc := 5) dX1_goThrough_5 rfl rfl ?_
  refine gf_X1_8 (pc := 6) dX1_goThrough_6 wF_X1_21 (A_21 hw) hT fun z4 q5 h6 => ?_
  refine mr_icmp_ge (pc := 9) (tgt := 18) dX1_goThrough_9 (by decide) (r32 h3 rfl) (r32 h6.2 rfl) (fun h7 => ?_) (fun h7 => ?_)
  · exact mr_vret dX1_goThrough_18 rfl (le_t rfl) (le_t rfl) hT mF.refl ⟨(((hQ.2 h1) z4 q5 h6).1 h7), trivial⟩
  have h8 : 0 ≤ p1 ∧ p1 ≤ 11 := (vc_X1_goThrough_W13_3 h7 h1 h6.1 h3 h6.2)
  have h9 : 1 ≤ z4 ∧ z4 ≤ 12 := (vc_X1_goThrough_W13_4 h7 h1 h6.1 h8 h6.2)
  refine mr_iload_n (pc := 12) (z := p2) dX1_goThrough_12 rfl rfl ?_
  refine mr_bipush (pc := 13) (z := 12) dX1_goThrough_13 (by decide) ?_
  refine mr_icmp_le (pc := 15) (tgt := 19) dX1_goThrough_15 (by decide) (r32 hp2 rfl) (r32 (rR (x := 12)) rfl) (fun _ => ?_) (fun h => ((vc_X1_goThrough_W10_5 h hp2)).elim)
  refine sv_aload_n (pc := 19) dX1_goThrough_19 rfl rfl ?_
  refine gf_X1_1 (pc := 20) dX1_goThrough_20 wF_X1_17 (A_21 hw) hT ?_
  refine mr_iload_n (pc := 23) (z := p1) dX1_goThrough_23 rfl rfl ?_
  refine la_22 (pc := 24) dX1_goThrough_24 (A_22 hw) hT (rIx (n := 12) h8 rfl) (vc_X1_goThrough_W12_6 h1 h6.1 h7 h8 h9) fun b10 q11 A12 => ?_
  refine mr_astore_n (pc := 25) (lv' := [(3, .ref b10), (0, .ref 21), (1, iv p1), (2, iv p2)]) dX1_goThrough_25 rfl (by decide) rfl ?_
  obtain ⟨c13, z14, q15, A16, q17, R18, e19, e20⟩ := PC.read hIPC hT A12 (vc_X1_goThrough_W12_7 h1 h7 h6.1 h8 h9) (vc_X1_goThrough_W12_6 h1 h6.1 h7 h8 h9) q11
  have h21 : 0 ≤ z14 ∧ z14 ≤ 30 := by rw [← q17]; exact hT _ _ A12 0
  refine mr_iconst (pc := 26) (z := 0) dX1_goThrough_26 ?_
  refine mr_istore (pc := 27) (lv' := [(4, iv 0), (3, .ref b10), (0, .ref 21), (1, iv p1), (2, iv p2)]) dX1_goThrough_27 (by decide) rfl ?_
  refine mr_iconst (pc := 29) (z := 0) dX1_goThrough_29 ?_
  refine mr_istore (pc := 30) (lv' := [(5, iv 0), (4, iv 0), (3, .ref b10), (0, .ref 21), (1, iv p1), (2, iv p2)]) dX1_goThrough_30 (by decide) rfl ?_
  have L1192 : ∀ (nL1192 : Nat) (z1190 z1189 : Int) (μ1191 : mM), mT w μ1191 → mF [21006, 21007, 200004, 200006, 200007, 200008, 201999, 202999] w μ μ1191 → (0 ≤ z1190 ∧ z1190 ≤ 2000) → (0 ≤ z1189 ∧ z1189 ≤ 30) → PC w μ1191 → RT μ1191 → wfR (μ c13) (w.2.2.1 c13) (z1190).toNat (z14 - z1189).toNat → (2001 - z1190) < (nL1192 : Int) → loopF (WL_X1_goThrough_W10_1 w μ p2 Q b10 c13 z14) False nL1192 (z1190, z1189, μ1191) → sV (gG l D c H0 sa) mX1_goThrough (sRm 9 0 0) (sZ (gG l D c H0 sa) 0 0 (qV w [21006, 21007, 200004, 200006, 200007, 200008, 201999, 202999] μ (fun μ1 => Q μ1 ∧ True))) 32 [(0, .ref 21), (2, iv p2), (3, .ref b10), (4, iv z1190), (5, iv z1189)] [] (mk w μ1191) 0 0 := by
    intro nL1192
    induction nL1192 with
    | zero => intro z1190 z1189 μ1191 T1195 F1196 h1193 h1194 I1198 I1199 R1200 h1201 W1202; exact ((vc_X1_goThrough_W12_8 h1201 h1193)).elim
    | succ nL1192 ih1203 =>
      intro z1190 z1189 μ1191 T1195 F1196 h1193 h1194 I1198 I1199 R1200 h1201 W1202
      refine mr_iload (pc := 32) (z := z1189) dX1_goThrough_32 rfl ?_
      refine sv_aload_n (pc := 34) dX1_goThrough_34 rfl rfl ?_
      refine gk_X5_0 (pc := 35) dX1_goThrough_35 wF_X1_57 A12 (F1196.f A12 rfl q17) ?_
      refine mr_icmp_ge (pc := 38) (tgt := 174) dX1_goThrough_38 (by decide) (r32 h1194 rfl) (r32 h21 rfl) (fun h1268 => ?_) (fun h1268 => ?_)
      · exact mr_vret dX1_goThrough_174 rfl (le_t rfl) (le_t rfl) T1195 (mF.call mF.refl F1196 rfl) ⟨((W1202 z1190 z1189 μ1191 rfl h1193 h1194 T1195 F1196).1 h1268), trivial⟩
      have h1269 : 0 ≤ z1189 ∧ z1189 ≤ 29 := (vc_X12_judgedAnew_2 h1268 h1194 h21)
      have h1270 : 1 ≤ z14 ∧ z14 ≤ 30 := (vc_X12_judgedAnew_3 h1268 h1269 h21)
      refine sv_aload_n (pc := 41) dX1_goThrough_41 rfl rfl ?_
      refine gf_X1_7 (pc := 42) dX1_goThrough_42 wF_X1_50 (A_21 hw) T1195 fun z1271 q1272 h1273 => ?_
      refine mr_if_ne (pc := 45) (tgt := 174) dX1_goThrough_45 (by decide) (r32 h1273 rfl) (fun h1333 => ?_) (fun h1333 => ?_)
      · have h1334 : 1 ≤ z1271 ∧ z1271 ≤ 2 := (vc_X12_provides_3 h1333 h1273)
        exact mr_vret dX1_goThrough_174 rfl (le_t rfl) (le_t rfl) T1195 (mF.call mF.refl F1196 rfl) ⟨((((W1202 z1190 z1189 μ1191 rfl h1193 h1194 T1195 F1196).2 h1268) z1271 q1272 h1273).1 h1333), trivial⟩
      have h1335 : 0 ≤ z1271 ∧ z1271 ≤ 0 := (vc_X12_provides_4 h1333 h1273)
      obtain ⟨n_1336, q1337⟩ : ∃ n : Int, (w.2.2.1 c13 : Int) = n := ⟨_, rfl⟩
      have h1338 : 0 ≤ n_1336 ∧ n_1336 ≤ 2000 := lnR (m := 2000) q1337 A16 rfl
      have h1339 : z1190 + 1 < n_1336 := lnLt q1337 (wfR.hd R1200 (vc_X1_goThrough_W12_13 h1193) (vc_X1_goThrough_W12_14 h1268 h1269 h1270))
      refine sv_aload_n (pc := 48) dX1_goThrough_48 rfl rfl ?_
      refine gk_X5_1 (pc := 49) dX1_goThrough_49 wF_X1_60 A12 (F1196.f A12 rfl q15) ?_
      refine mr_iload (pc := 52) (z := z1190) dX1_goThrough_52 rfl ?_
      refine la_231 (pc := 54) dX1_goThrough_54 A16 T1195 (lnC q1337 (vc_X1_goThrough_W12_15 h1339 h1338 h1193)) fun z1340 q1341 h1342 => ?_
      refine mr_istore (pc := 55) (lv' := [(6, iv z1340), (0, .ref 21), (2, iv p2), (3, .ref b10), (4, iv z1190), (5, iv z1189)]) dX1_goThrough_55 (by decide) rfl ?_
      refine sv_aload_n (pc := 57) dX1_goThrough_57 rfl rfl ?_
      refine gk_X5_1 (pc := 58) dX1_goThrough_58 wF_X1_60 A12 (F1196.f A12 rfl q15) ?_
      refine mr_iload (pc := 61) (z := z1190) dX1_goThrough_61 rfl ?_
      refine mr_iconst (pc := 63) (z := 1) dX1_goThrough_63 ?_
      refine mr_iadd (pc := 64) (x := z1190) (y := 1) dX1_goThrough_64 ?_
      refine la_231 (pc := 65) dX1_goThrough_65 A16 T1195 (lnC q1337 (vc_X1_goThrough_W12_16 h1339 h1338 h1193)) fun z1343 q1344 h1345 => ?_
      have B1346 := wfR.bd R1200 (vc_X1_goThrough_W12_13 h1193) (vc_X1_goThrough_W12_14 h1268 h1269 h1270) ((((mF.call mF.refl F1196 rfl) : mF [21006, 21007, 200004, 200006, 200007, 200008, 201999, 202999] w μ μ1191).f A16 rfl rfl).symm.trans q1341) ((((mF.call mF.refl F1196 rfl) : mF [21006, 21007, 200004, 200006, 200007, 200008, 201999, 202999] w μ μ1191).f A16 rfl rfl).symm.trans q1344)
      have h1347 : 0 ≤ z1340 ∧ 0 ≤ z1343 ∧ z1190 + 2 + 5 * z1340 + 2 * z1343 ≤ n_1336 := ⟨B1346.1.1, B1346.1.2.1, lnLe q1337 B1346.1.2.2⟩
      have h1348 : 0 ≤ z1340 ∧ z1340 ≤ 400 := (vc_X1_goThrough_W12_17 h1347 h1339 h1338 h1193 h1342 h1345)
      have h1349 : 0 ≤ z1343 ∧ z1343 ≤ 1000 := (vc_X1_goThrough_W12_18 h1347 h1339 h1338 h1193 h1348 h1345)
      refine mr_istore (pc := 66) (lv' := [(7, iv z1343), (6, iv z1340), (0, .ref 21), (2, iv p2), (3, .ref b10), (4, iv z1190), (5, iv z1189)]) dX1_goThrough_66 (by decide) rfl ?_
      refine mr_iload (pc := 68) (z := z1190) dX1_goThrough_68 rfl ?_
      refine mr_iconst (pc := 70) (z := 2) dX1_goThrough_70 ?_
      refine mr_iadd (pc := 71) (x := z1190) (y := 2) dX1_goThrough_71 ?_
      refine mr_iload (pc := 72) (z := z1340) dX1_goThrough_72 rfl ?_
      refine mr_iconst (pc := 74) (z := 5) dX1_goThrough_74 ?_
      refine mr_imul (pc := 75) (x := z1340) (y := 5) dX1_goThrough_75 ?_
      refine mr_iadd (pc := 76) (x := (z1190 + 2)) (y := (z1340 * 5)) dX1_goThrough_76 ?_
      refine mr_istore (pc := 77) (lv' := [(8, iv ((z1190 + 2) + (z1340 * 5))), (7, iv z1343), (6, iv z1340), (0, .ref 21), (2, iv p2), (3, .ref b10), (4, iv z1190), (5, iv z1189)]) dX1_goThrough_77 (by decide) rfl ?_
      refine mr_iconst (pc := 79) (z := 1) dX1_goThrough_79 ?_
      refine mr_istore (pc := 80) (lv' := [(9, iv 1), (8, iv ((z1190 + 2) + (z1340 * 5))), (7, iv z1343), (6, iv z1340), (0, .ref 21), (2, iv p2), (3, .ref b10), (4, iv z1190), (5, iv z1189)]) dX1_goThrough_80 (by decide) rfl ?_
      refine mr_iload (pc := 82) (z := z1190) dX1_goThrough_82 rfl ?_
      refine mr_iconst (pc := 84) (z := 2) dX1_goThrough_84 ?_
      refine mr_iadd (pc := 85) (x := z1190) (y := 2) dX1_goThrough_85 ?_
      refine mr_istore (pc := 86) (lv' := [(10, iv (z1190 + 2)), (9, iv 1), (8, iv ((z1190 + 2) + (z1340 * 5))), (7, iv z1343), (6, iv z1340), (0, .ref 21), (2, iv p2), (3, .ref b10), (4, iv z1190), (5, iv z1189)]) dX1_goThrough_86 (by decide) rfl ?_
      have L1469 : ∀ (nL1469 : Nat) (z1468 z1467 : Int), True → (0 ≤ z1468 ∧ z1468 ≤ 1) → (2 ≤ z1467 ∧ z1467 ≤ 2010) → ((((z1190 + 2) + (z1340 * 5)) - z1467) % 5 = 0) → (2011 - z1467) < (nL1469 : Int) → loopF (WL_X1_goThrough_W10_2 w p2 b10 c13 (loopF (WL_X1_goThrough_W10_1 w μ p2 Q b10 c13 z14) False nL1192) z1190 z1189 μ1191 z1340 z1343) False nL1469 (z1468, z1467) → sV (gG l D c H0 sa) mX1_goThrough (sRm 9 0 0) (sZ (gG l D c H0 sa) 0 0 (qV w [21006, 21007, 200004, 200006, 200007, 200008, 201999, 202999] μ (fun μ1 => Q μ1 ∧ True))) 88 [(0, .ref 21), (2, iv p2), (3, .ref b10), (5, iv z1189), (7, iv z1343), (8, iv ((z1190 + 2) + (z1340 * 5))), (9, iv z1468), (10, iv z1467)] [] (mk w μ1191) 0 0 := by
        intro nL1469
        induction nL1469 with
        | zero => intro z1468 z1467 _ h1470 h1471 h1475 h1476 W1477; exact ((vc_X1_goThrough_W12_19 h1476 h1475 h1339 h1347 h1338 h1193 h1348 h1349 h1471)).elim
        | succ nL1469 ih1478 =>
          intro z1468 z1467 _ h1470 h1471 h1475 h1476 W1477
          refine mr_iload (pc := 88) (z := z1467) dX1_goThrough_88 rfl ?_
          refine mr_iload (pc := 90) (z := ((z1190 + 2) + (z1340 * 5))) dX1_goThrough_90 rfl ?_
          have J1494 : ((WJ_X1_goThrough_W10_3 w p2 c13 (loopF (WL_X1_goThrough_W10_1 w μ p2 Q b10 c13 z14) False nL1192) z1190 z1189 μ1191 z1340 z1343 z1468) ) → sV (gG l D c H0 sa) mX1_goThrough (sRm 9 0 0) (sZ (gG l D c H0 sa) 0 0 (qV w [21006, 21007, 200004, 200006, 200007, 200008, 201999, 202999] μ (fun μ1 => Q μ1 ∧ True))) 141 [(0, .ref 21), (2, iv p2), (3, .ref b10), (5, iv z1189), (7, iv z1343), (8, iv ((z1190 + 2) + (z1340 * 5))), (9, iv z1468)] [] (mk w μ1191) 0 0 := by
            intro W1495
            refine mr_iload (pc := 141) (z := z1468) dX1_goThrough_141 rfl ?_
            refine mr_if_eq (pc := 143) (tgt := 159) dX1_goThrough_143 (by decide) (r32 h1470 rfl) (fun h1502 => ?_) (fun h1502 => ?_)
            · have h1503 : 0 ≤ z1468 ∧ z1468 ≤ 0 := (vc_X12_ring_22 h1502 h1470)
              refine mr_iload (pc := 159) (z := ((z1190 + 2) + (z1340 * 5))) dX1_goThrough_159 rfl ?_
              refine mr_iload (pc := 161) (z := z1343) dX1_goThrough_161 rfl ?_
              refine mr_iconst (pc := 163) (z := 2) dX1_goThrough_163 ?_
              refine mr_imul (pc := 164) (x := z1343) (y := 2) dX1_goThrough_164 ?_
              refine mr_iadd (pc := 165) (x := ((z1190 + 2) + (z1340 * 5))) (y := (z1343 * 2)) dX1_goThrough_165 ?_
              refine mr_istore (pc := 166) (lv' := [(4, iv (((z1190 + 2) + (z1340 * 5)) + (z1343 * 2))), (0, .ref 21), (2, iv p2), (3, .ref b10), (5, iv z1189), (7, iv z1343), (8, iv ((z1190 + 2) + (z1340 * 5))), (9, iv z1468)]) dX1_goThrough_166 (by decide) rfl ?_
              refine mr_iinc (pc := 168) (lv' := [(5, iv (z1189 + 1)), (4, iv (((z1190 + 2) + (z1340 * 5)) + (z1343 * 2))), (0, .ref 21), (2, iv p2), (3, .ref b10), (7, iv z1343), (8, iv ((z1190 + 2) + (z1340 * 5))), (9, iv z1468)]) dX1_goThrough_168 rfl (by decide) rfl ?_
              refine sv_goto (pc := 171) (tgt := 32) dX1_goThrough_171 (by decide) ?_
              refine mr_lvS (lv' := [(0, .ref 21), (2, iv p2), (3, .ref b10), (4, iv (((z1190 + 2) + (z1340 * 5)) + (z1343 * 2))), (5, iv (z1189 + 1))]) (List.forall_mem_cons.mpr ⟨rfl, List.forall_mem_cons.mpr ⟨rfl, List.forall_mem_cons.mpr ⟨rfl, List.forall_mem_cons.mpr ⟨rfl, List.forall_mem_cons.mpr ⟨rfl, fun _ h => absurd h List.not_mem_nil⟩⟩⟩⟩⟩) ?_
              exact ih1203 (((z1190 + 2) + (z1340 * 5)) + (z1343 * 2)) (z1189 + 1) μ1191 T1195 (mF.call mF.refl F1196 rfl) (vc_X1_goThrough_W12_21 h1339 h1347 h1475 h1338 h1193 h1348 h1349 h1471) (rW (c := 0) (d := 30) (rAdd (e := 1) (f := 30) h1269 (rR (x := 1)) rfl) rfl) I1198 I1199 (wfR.cg B1346.2.2 (vc_X1_goThrough_W12_23 h1339 h1347 h1475 h1338 h1193 h1348 h1349 h1471)) (vc_X1_goThrough_W12_22 (nS h1201) h1339 h1347 h1475 h1338 h1193 h1348 h1349 h1471) ((W1495).1 h1502)
            have h1504 : 1 ≤ z1468 ∧ z1468 ≤ 1 := (vc_X12_ring_24 h1502 h1470)
            refine sv_aload_n (pc := 146) dX1_goThrough_146 rfl rfl ?_
            refine sv_aload_n (pc := 147) dX1_goThrough_147 rfl rfl ?_
            refine gk_X5_1 (pc := 148) dX1_goThrough_148 wF_X1_60 A12 (F1196.f A12 rfl q15) ?_
            refine mr_iload (pc := 151) (z := ((z1190 + 2) + (z1340 * 5))) dX1_goThrough_151 rfl ?_
            refine mr_iload (pc := 153) (z := z1343) dX1_goThrough_153 rfl ?_
            refine mr_iload_n (pc := 155) (z := p2) dX1_goThrough_155 rfl rfl ?_
            refine mr_cVV (pc := 156) (c_X1_doActs_W10 hw T1195 A16 (vc_X1_goThrough_W12_25 h1339 h1347 h1475 h1338 h1193 h1348 h1349 h1471) h1349 hp2 I1198 I1199 (lnL q1337 (vc_X1_goThrough_W12_26 h1339 h1347 h1475 h1338 h1193 h1348 h1349 h1471)) (argC B1346.2.1 (vc_X1_goThrough_W12_27 h1339 h1347 h1475 h1338 h1193 h1348 h1349 h1471) (funext fun i => ((mF.call mF.refl F1196 rfl) : mF [21006, 21007, 200004, 200006, 200007, 200008, 201999, 202999] w μ μ1191).f A16 rfl rfl)) ((W1495).2 h1502)) (gOk _ _ _ _ _) dX1_goThrough_156 (tX1_doActs _ _ _ _ _) ⟨wV_X1_doActs, wL_X1_doActs⟩ wM_X1_68 (gCX1 _ _ _ _ _) rfl (A_21 hw) rfl ⟨le_t rfl, le_t rfl⟩ ⟨le_t rfl, le_t rfl⟩ rfl (le_t rfl) fun μ1505 T1506 F1507 h1508 => ?_
            refine mr_iload (pc := 159) (z := ((z1190 + 2) + (z1340 * 5))) dX1_goThrough_159 rfl ?_
            refine mr_iload (pc := 161) (z := z1343) dX1_goThrough_161 rfl ?_
            refine mr_iconst (pc := 163) (z := 2) dX1_goThrough_163 ?_
            refine mr_imul (pc := 164) (x := z1343) (y := 2) dX1_goThrough_164 ?_
            refine mr_iadd (pc := 165) (x := ((z1190 + 2) + (z1340 * 5))) (y := (z1343 * 2)) dX1_goThrough_165 ?_
            refine mr_istore (pc := 166) (lv' := [(4, iv (((z1190 + 2) + (z1340 * 5)) + (z1343 * 2))), (0, .ref 21), (2, iv p2), (3, .ref b10), (5, iv z1189), (7, iv z1343), (8, iv ((z1190 + 2) + (z1340 * 5))), (9, iv z1468)]) dX1_goThrough_166 (by decide) rfl ?_
            refine mr_iinc (pc := 168) (lv' := [(5, iv (z1189 + 1)), (4, iv (((z1190 + 2) + (z1340 * 5)) + (z1343 * 2))), (0, .ref 21), (2, iv p2), (3, .ref b10), (7, iv z1343), (8, iv ((z1190 + 2) + (z1340 * 5))), (9, iv z1468)]) dX1_goThrough_168 rfl (by decide) rfl ?_
            refine sv_goto (pc := 171) (tgt := 32) dX1_goThrough_171 (by decide) ?_
            refine mr_lvS (lv' := [(0, .ref 21), (2, iv p2), (3, .ref b10), (4, iv (((z1190 + 2) + (z1340 * 5)) + (z1343 * 2))), (5, iv (z1189 + 1))]) (List.forall_mem_cons.mpr ⟨rfl, List.forall_mem_cons.mpr ⟨rfl, List.forall_mem_cons.mpr ⟨rfl, List.forall_mem_cons.mpr ⟨rfl, List.forall_mem_cons.mpr ⟨rfl, fun _ h => absurd h List.not_mem_nil⟩⟩⟩⟩⟩) ?_
            exact ih1203 (((z1190 + 2) + (z1340 * 5)) + (z1343 * 2)) (z1189 + 1) μ1505 T1506 (mF.call (mF.call mF.refl F1196 rfl) F1507 rfl) (vc_X1_goThrough_W12_21 h1339 h1347 h1475 h1338 h1193 h1348 h1349 h1471) (rW (c := 0) (d := 30) (rAdd (e := 1) (f := 30) h1269 (rR (x := 1)) rfl) rfl) (PC.keep I1198 hw ((mF.call mF.refl F1507 rfl) : mF [21006, 21007, 200004, 200006, 200007, 200008, 201999, 202999] w μ1191 μ1505) rfl) (RT.keep I1199 hw ((mF.call mF.refl F1507 rfl) : mF [21006, 21007, 200004, 200006, 200007, 200008, 201999, 202999] w μ1191 μ1505) rfl) (wfR.cg B1346.2.2 (vc_X1_goThrough_W12_23 h1339 h1347 h1475 h1338 h1193 h1348 h1349 h1471)) (vc_X1_goThrough_W12_22 (nS h1201) h1339 h1347 h1475 h1338 h1193 h1348 h1349 h1471) (h1508.1 T1506 F1507)
          refine mr_icmp_ge (pc := 92) (tgt := 141) dX1_goThrough_92 (by decide) (r32 h1471 rfl) (r32 (rAdd (e := 2) (f := 4002) (rAdd (e := 2) (f := 2002) h1193 (rR (x := 2)) rfl) (rMulR (n := 5) (e := 0) (f := 2000) h1348 rfl) rfl) rfl) (fun h1509 => ?_) (fun h1509 => ?_)
          · refine mr_lvS (lv' := [(0, .ref 21), (2, iv p2), (3, .ref b10), (5, iv z1189), (7, iv z1343), (8, iv ((z1190 + 2) + (z1340 * 5))), (9, iv z1468)]) (List.forall_mem_cons.mpr ⟨rfl, List.forall_mem_cons.mpr ⟨rfl, List.forall_mem_cons.mpr ⟨rfl, List.forall_mem_cons.mpr ⟨rfl, List.forall_mem_cons.mpr ⟨rfl, List.forall_mem_cons.mpr ⟨rfl, List.forall_mem_cons.mpr ⟨rfl, fun _ h => absurd h List.not_mem_nil⟩⟩⟩⟩⟩⟩⟩) ?_
            exact J1494 ((W1477 z1468 z1467 rfl h1470 h1471).1 h1509)
          refine mr_iload (pc := 95) (z := z1468) dX1_goThrough_95 rfl ?_
          refine mr_if_eq (pc := 97) (tgt := 141) dX1_goThrough_97 (by decide) (r32 h1470 rfl) (fun h1510 => ?_) (fun h1510 => ?_)
          · have h1511 : 0 ≤ z1468 ∧ z1468 ≤ 0 := (vc_X12_ring_22 h1510 h1470)
            refine mr_lvS (lv' := [(0, .ref 21), (2, iv p2), (3, .ref b10), (5, iv z1189), (7, iv z1343), (8, iv ((z1190 + 2) + (z1340 * 5))), (9, iv z1468)]) (List.forall_mem_cons.mpr ⟨rfl, List.forall_mem_cons.mpr ⟨rfl, List.forall_mem_cons.mpr ⟨rfl, List.forall_mem_cons.mpr ⟨rfl, List.forall_mem_cons.mpr ⟨rfl, List.forall_mem_cons.mpr ⟨rfl, List.forall_mem_cons.mpr ⟨rfl, fun _ h => absurd h List.not_mem_nil⟩⟩⟩⟩⟩⟩⟩) ?_
            exact J1494 (((W1477 z1468 z1467 rfl h1470 h1471).2 h1509).1 h1510)
          have h1512 : 1 ≤ z1468 ∧ z1468 ≤ 1 := (vc_X12_ring_24 h1510 h1470)
          refine sv_aload_n (pc := 100) dX1_goThrough_100 rfl rfl ?_
          refine sv_aload_n (pc := 101) dX1_goThrough_101 rfl rfl ?_
          refine mr_iload (pc := 102) (z := z1467) dX1_goThrough_102 rfl ?_
          refine mr_cVP (pc := 104) (c_X1_isSo_W hw T1195 A12 (vc_X1_goThrough_W12_28 h1475 h1509 h1339 h1347 h1338 h1193 h1348 h1349 h1471) I1199 (lnF (F1196.f A12 rfl q15) q1337 (vc_X1_goThrough_W12_29 h1339 h1347 h1475 h1509 h1338 h1193 h1348 h1349 h1471)) (by rw [((mF.call mF.refl F1196 rfl) : mF [21006, 21007, 200004, 200006, 200007, 200008, 201999, 202999] w μ μ1191).f (k := 2) A12 rfl rfl, ((mF.call mF.refl F1196 rfl) : mF [21006, 21007, 200004, 200006, 200007, 200008, 201999, 202999] w μ μ1191).f (k := 3) A12 rfl rfl]; exact e19) (by rw [((mF.call mF.refl F1196 rfl) : mF [21006, 21007, 200004, 200006, 200007, 200008, 201999, 202999] w μ μ1191).f (k := 4) A12 rfl rfl, ((mF.call mF.refl F1196 rfl) : mF [21006, 21007, 200004, 200006, 200007, 200008, 201999, 202999] w μ μ1191).f (k := 5) A12 rfl rfl]; exact e20) (((W1477 z1468 z1467 rfl h1470 h1471).2 h1509).2 h1510)) (gOk _ _ _ _ _) dX1_goThrough_104 (tX1_isSo _ _ _ _ _) ⟨wV_X1_isSo, wL_X1_isSo⟩ wM_X1_64 (gCX1 _ _ _ _ _) rfl (A_21 hw) rfl ⟨le_t rfl, le_t rfl⟩ ⟨le_t rfl, le_t rfl⟩ rfl (le_t rfl) fun z1517 h1516 => ?_
          refine sv_aload_n (pc := 107) dX1_goThrough_107 rfl rfl ?_
          refine gk_X5_1 (pc := 108) dX1_goThrough_108 wF_X1_60 A12 (F1196.f A12 rfl q15) ?_
          refine mr_iload (pc := 111) (z := z1467) dX1_goThrough_111 rfl ?_
          refine mr_iconst (pc := 113) (z := 1) dX1_goThrough_113 ?_
          refine mr_iadd (pc := 114) (x := z1467) (y := 1) dX1_goThrough_114 ?_
          refine la_231 (pc := 115) dX1_goThrough_115 A16 T1195 (lnC q1337 (vc_X1_goThrough_W12_30 h1339 h1347 h1475 h1509 h1338 h1193 h1348 h1349 h1471)) fun z1518 q1519 h1520 => ?_
          refine mr_iconst (pc := 116) (z := 1) dX1_goThrough_116 ?_
          refine mr_icmp_ne (pc := 117) (tgt := 124) dX1_goThrough_117 (by decide) h1520 (r32 (rR (x := 1)) rfl) (fun h1522 => ?_) (fun h1522 => ?_)
          · refine mr_iconst (pc := 124) (z := 0) dX1_goThrough_124 ?_
            refine mr_icmp_eq (pc := 125) (tgt := 132) dX1_goThrough_125 (by decide) (r32 h1516.1 rfl) (r32 (rR (x := 0)) rfl) (fun h1525 => ?_) (fun h1525 => ?_)
            · have h1526 : 0 ≤ z1517 ∧ z1517 ≤ 0 := (vc_X12_ring_22 h1525 h1516.1)
              refine mr_iconst (pc := 132) (z := 0) dX1_goThrough_132 ?_
              refine mr_istore (pc := 133) (lv' := [(9, iv 0), (0, .ref 21), (2, iv p2), (3, .ref b10), (5, iv z1189), (7, iv z1343), (8, iv ((z1190 + 2) + (z1340 * 5))), (10, iv z1467)]) dX1_goThrough_133 (by decide) rfl ?_
              refine mr_iinc (pc := 135) (lv' := [(10, iv (z1467 + 5)), (9, iv 0), (0, .ref 21), (2, iv p2), (3, .ref b10), (5, iv z1189), (7, iv z1343), (8, iv ((z1190 + 2) + (z1340 * 5)))]) dX1_goThrough_135 rfl (by decide) rfl ?_
              refine sv_goto (pc := 138) (tgt := 88) dX1_goThrough_138 (by decide) ?_
              refine mr_lvS (lv' := [(0, .ref 21), (2, iv p2), (3, .ref b10), (5, iv z1189), (7, iv z1343), (8, iv ((z1190 + 2) + (z1340 * 5))), (9, iv 0), (10, iv (z1467 + 5))]) (List.forall_mem_cons.mpr ⟨rfl, List.forall_mem_cons.mpr ⟨rfl, List.forall_mem_cons.mpr ⟨rfl, List.forall_mem_cons.mpr ⟨rfl, List.forall_mem_cons.mpr ⟨rfl, List.forall_mem_cons.mpr ⟨rfl, List.forall_mem_cons.mpr ⟨rfl, List.forall_mem_cons.mpr ⟨rfl, fun _ h => absurd h List.not_mem_nil⟩⟩⟩⟩⟩⟩⟩⟩) ?_
              exact ih1478 0 (z1467 + 5) trivial (rW (c := 0) (d := 1) (rR (x := 0)) rfl) (vc_X1_goThrough_W12_32 h1475 h1509 h1339 h1347 h1338 h1193 h1348 h1349 h1471) (vc_X1_goThrough_W12_33 h1339 h1347 h1475 h1509 h1338 h1193 h1348 h1349 h1471) (vc_X1_goThrough_W12_34 (nS h1476) h1475 h1509 h1339 h1347 h1338 h1193 h1348 h1349 h1471) ((((h1516.2.1 h1516.1) z1518 q1519 h1520).1 h1522).1 h1525)
            have h1527 : 1 ≤ z1517 ∧ z1517 ≤ 1 := (vc_X12_ring_24 h1525 h1516.1)
            refine mr_iconst (pc := 128) (z := 1) dX1_goThrough_128 ?_
            refine sv_goto (pc := 129) (tgt := 133) dX1_goThrough_129 (by decide) ?_
            refine mr_istore (pc := 133) (lv' := [(9, iv 1), (0, .ref 21), (2, iv p2), (3, .ref b10), (5, iv z1189), (7, iv z1343), (8, iv ((z1190 + 2) + (z1340 * 5))), (10, iv z1467)]) dX1_goThrough_133 (by decide) rfl ?_
            refine mr_iinc (pc := 135) (lv' := [(10, iv (z1467 + 5)), (9, iv 1), (0, .ref 21), (2, iv p2), (3, .ref b10), (5, iv z1189), (7, iv z1343), (8, iv ((z1190 + 2) + (z1340 * 5)))]) dX1_goThrough_135 rfl (by decide) rfl ?_
            refine sv_goto (pc := 138) (tgt := 88) dX1_goThrough_138 (by decide) ?_
            refine mr_lvS (lv' := [(0, .ref 21), (2, iv p2), (3, .ref b10), (5, iv z1189), (7, iv z1343), (8, iv ((z1190 + 2) + (z1340 * 5))), (9, iv 1), (10, iv (z1467 + 5))]) (List.forall_mem_cons.mpr ⟨rfl, List.forall_mem_cons.mpr ⟨rfl, List.forall_mem_cons.mpr ⟨rfl, List.forall_mem_cons.mpr ⟨rfl, List.forall_mem_cons.mpr ⟨rfl, List.forall_mem_cons.mpr ⟨rfl, List.forall_mem_cons.mpr ⟨rfl, List.forall_mem_cons.mpr ⟨rfl, fun _ h => absurd h List.not_mem_nil⟩⟩⟩⟩⟩⟩⟩⟩) ?_
            exact ih1478 1 (z1467 + 5) trivial (rW (c := 0) (d := 1) (rR (x := 1)) rfl) (vc_X1_goThrough_W12_32 h1475 h1509 h1339 h1347 h1338 h1193 h1348 h1349 h1471) (vc_X1_goThrough_W12_33 h1339 h1347 h1475 h1509 h1338 h1193 h1348 h1349 h1471) (vc_X1_goThrough_W12_34 (nS h1476) h1475 h1509 h1339 h1347 h1338 h1193 h1348 h1349 h1471) ((((h1516.2.1 h1516.1) z1518 q1519 h1520).1 h1522).2 h1525)
          have h1528 : 1 ≤ z1518 ∧ z1518 ≤ 1 := (vc_X3_toldInAll_1 h1522 h1520)
          refine mr_iconst (pc := 120) (z := 1) dX1_goThrough_120 ?_
          refine sv_goto (pc := 121) (tgt := 125) dX1_goThrough_121 (by decide) ?_
          refine mr_icmp_eq (pc := 125) (tgt := 132) dX1_goThrough_125 (by decide) (r32 h1516.1 rfl) (r32 (rR (x := 1)) rfl) (fun h1531 => ?_) (fun h1531 => ?_)
          · have h1532 : 1 ≤ z1517 ∧ z1517 ≤ 1 := (vc_X1_goThrough_W12_37 h1531 h1516.1)
            refine mr_iconst (pc := 132) (z := 0) dX1_goThrough_132 ?_
            refine mr_istore (pc := 133) (lv' := [(9, iv 0), (0, .ref 21), (2, iv p2), (3, .ref b10), (5, iv z1189), (7, iv z1343), (8, iv ((z1190 + 2) + (z1340 * 5))), (10, iv z1467)]) dX1_goThrough_133 (by decide) rfl ?_
            refine mr_iinc (pc := 135) (lv' := [(10, iv (z1467 + 5)), (9, iv 0), (0, .ref 21), (2, iv p2), (3, .ref b10), (5, iv z1189), (7, iv z1343), (8, iv ((z1190 + 2) + (z1340 * 5)))]) dX1_goThrough_135 rfl (by decide) rfl ?_
            refine sv_goto (pc := 138) (tgt := 88) dX1_goThrough_138 (by decide) ?_
            refine mr_lvS (lv' := [(0, .ref 21), (2, iv p2), (3, .ref b10), (5, iv z1189), (7, iv z1343), (8, iv ((z1190 + 2) + (z1340 * 5))), (9, iv 0), (10, iv (z1467 + 5))]) (List.forall_mem_cons.mpr ⟨rfl, List.forall_mem_cons.mpr ⟨rfl, List.forall_mem_cons.mpr ⟨rfl, List.forall_mem_cons.mpr ⟨rfl, List.forall_mem_cons.mpr ⟨rfl, List.forall_mem_cons.mpr ⟨rfl, List.forall_mem_cons.mpr ⟨rfl, List.forall_mem_cons.mpr ⟨rfl, fun _ h => absurd h List.not_mem_nil⟩⟩⟩⟩⟩⟩⟩⟩) ?_
            exact ih1478 0 (z1467 + 5) trivial (rW (c := 0) (d := 1) (rR (x := 0)) rfl) (vc_X1_goThrough_W12_32 h1475 h1509 h1339 h1347 h1338 h1193 h1348 h1349 h1471) (vc_X1_goThrough_W12_33 h1339 h1347 h1475 h1509 h1338 h1193 h1348 h1349 h1471) (vc_X1_goThrough_W12_34 (nS h1476) h1475 h1509 h1339 h1347 h1338 h1193 h1348 h1349 h1471) ((((h1516.2.1 h1516.1) z1518 q1519 h1520).2 h1522).1 h1531)
          have h1533 : 0 ≤ z1517 ∧ z1517 ≤ 0 := (vc_X1_goThrough_W12_38 h1531 h1516.1)
          refine mr_iconst (pc := 128) (z := 1) dX1_goThrough_128 ?_
          refine sv_goto (pc := 129) (tgt := 133) dX1_goThrough_129 (by decide) ?_
          refine mr_istore (pc := 133) (lv' := [(9, iv 1), (0, .ref 21), (2, iv p2), (3, .ref b10), (5, iv z1189), (7, iv z1343), (8, iv ((z1190 + 2) + (z1340 * 5))), (10, iv z1467)]) dX1_goThrough_133 (by decide) rfl ?_
          refine mr_iinc (pc := 135) (lv' := [(10, iv (z1467 + 5)), (9, iv 1), (0, .ref 21), (2, iv p2), (3, .ref b10), (5, iv z1189), (7, iv z1343), (8, iv ((z1190 + 2) + (z1340 * 5)))]) dX1_goThrough_135 rfl (by decide) rfl ?_
          refine sv_goto (pc := 138) (tgt := 88) dX1_goThrough_138 (by decide) ?_
          refine mr_lvS (lv' := [(0, .ref 21), (2, iv p2), (3, .ref b10), (5, iv z1189), (7, iv z1343), (8, iv ((z1190 + 2) + (z1340 * 5))), (9, iv 1), (10, iv (z1467 + 5))]) (List.forall_mem_cons.mpr ⟨rfl, List.forall_mem_cons.mpr ⟨rfl, List.forall_mem_cons.mpr ⟨rfl, List.forall_mem_cons.mpr ⟨rfl, List.forall_mem_cons.mpr ⟨rfl, List.forall_mem_cons.mpr ⟨rfl, List.forall_mem_cons.mpr ⟨rfl, List.forall_mem_cons.mpr ⟨rfl, fun _ h => absurd h List.not_mem_nil⟩⟩⟩⟩⟩⟩⟩⟩) ?_
          exact ih1478 1 (z1467 + 5) trivial (rW (c := 0) (d := 1) (rR (x := 1)) rfl) (vc_X1_goThrough_W12_32 h1475 h1509 h1339 h1347 h1338 h1193 h1348 h1349 h1471) (vc_X1_goThrough_W12_33 h1339 h1347 h1475 h1509 h1338 h1193 h1348 h1349 h1471) (vc_X1_goThrough_W12_34 (nS h1476) h1475 h1509 h1339 h1347 h1338 h1193 h1348 h1349 h1471) ((((h1516.2.1 h1516.1) z1518 q1519 h1520).2 h1522).2 h1531)
      refine mr_lvS (lv' := [(0, .ref 21), (2, iv p2), (3, .ref b10), (5, iv z1189), (7, iv z1343), (8, iv ((z1190 + 2) + (z1340 * 5))), (9, iv 1), (10, iv (z1190 + 2))]) (List.forall_mem_cons.mpr ⟨rfl, List.forall_mem_cons.mpr ⟨rfl, List.forall_mem_cons.mpr ⟨rfl, List.forall_mem_cons.mpr ⟨rfl, List.forall_mem_cons.mpr ⟨rfl, List.forall_mem_cons.mpr ⟨rfl, List.forall_mem_cons.mpr ⟨rfl, List.forall_mem_cons.mpr ⟨rfl, fun _ h => absurd h List.not_mem_nil⟩⟩⟩⟩⟩⟩⟩⟩) ?_
      exact L1469 2010 1 (z1190 + 2) trivial (rW (c := 0) (d := 1) (rR (x := 1)) rfl) (rW (c := 2) (d := 2010) (rAdd (e := 2) (f := 2002) h1193 (rR (x := 2)) rfl) rfl) (vc_X1_goThrough_W12_39 h1339 h1347 h1338 h1193 h1348 h1349) (vc_X1_goThrough_W12_40 h1339 h1347 h1338 h1193 h1348 h1349) (((((((W1202 z1190 z1189 μ1191 rfl h1193 h1194 T1195 F1196).2 h1268) z1271 q1272 h1273).2 h1333) n_1336 q1337 h1338) z1340 q1341 h1342) z1343 q1344 h1345)
  refine mr_lvS (lv' := [(0, .ref 21), (2, iv p2), (3, .ref b10), (4, iv 0), (5, iv 0)]) (List.forall_mem_cons.mpr ⟨rfl, List.forall_mem_cons.mpr ⟨rfl, List.forall_mem_cons.mpr ⟨rfl, List.forall_mem_cons.mpr ⟨rfl, List.forall_mem_cons.mpr ⟨rfl, fun _ h => absurd h List.not_mem_nil⟩⟩⟩⟩⟩) ?_
  exact L1192 2002 0 0 μ hT mF.refl (rW (c := 0) (d := 2000) (rR (x := 0)) rfl) (rW (c := 0) (d := 30) (rR (x := 0)) rfl) hIPC hIRT R18 vc_X1_goThrough_W12_41 ((((((hQ.2 h1) z4 q5 h6).2 h7) b10 q11 A12) c13 q15) z14 q17)
def WJ_X1_doActs_W9_2 (w : mW) (rec1 : (Int × mM) → Prop) (z1989 : Int) (μ2019 : mM) (μ2114 : mM) : Prop := mT w μ2114 → mF [21007, 200007, 201999] w μ2019 μ2114 → rec1 ((z1989 + 1), μ2114)
def WL_X1_doActs_W9_1 (w : mW) (μ : mM) (a1 : Nat) (p2 : Int) (p3 : Int) (p4 : Int) (Q : mM → Prop) (rec1 : (Int × mM) → Prop) (s : (Int × mM)) : Prop := ∀ z1989 : Int, ∀ μ1990 : mM, s = (z1989, μ1990) → (0 ≤ z1989 ∧ z1989 ≤ 1000) → mT w μ1990 → mF [21006, 21007, 200004, 200006, 200007, 200008, 201999, 202999] w μ μ1990 → ((p3 ≤ z1989) → Q μ1990) ∧ ((z1989 < p3) → ∀ z2004 : Int, μ1990 21 7 = z2004 → (0 ≤ z2004 ∧ z2004 ≤ 2) → ((¬ z2004 = 0) → Q μ1990) ∧ ((z2004 = 0) → ∀ z2010 : Int, μ1990 a1 (((p2 + (z1989 * 2)) + 1).toNat) = z2010 → ((-2147483648) ≤ z2010 ∧ z2010 ≤ 2147483647) → ∀ z2014 : Int, μ1990 21 6 = z2014 → (0 ≤ z2014 ∧ z2014 ≤ 500) → ((z2014 < 500) → ∀ μ2019 : mM, mU μ1990 21 (6) (z2014 + 1) μ2019 → mT w μ2019 → ∀ z2022 : Int, μ2019 a1 ((p2 + (z1989 * 2)).toNat) = z2022 → ((-2147483648) ≤ z2022 ∧ z2022 ≤ 2147483647) → (z2022 = 12 → ∀ b2028 : Nat, μ2019 21 2 = (b2028 : Int) → mAt w b2028 200 → ∀ μ2031 : mM, mU μ2019 b2028 (4) z2010 μ2031 → mT w μ2031 → rec1 ((z1989 + 1), μ2031)) ∧ (¬ z2022 = 12 → (z2022 = 13 → ∀ b2036 : Nat, μ2019 21 2 = (b2036 : Int) → mAt w b2036 200 → ∀ μ2039 : mM, mU μ2019 b2036 (6) z2010 μ2039 → mT w μ2039 → rec1 ((z1989 + 1), μ2039)) ∧ (¬ z2022 = 13 → (z2022 = 14 → rec1 ((z1989 + 1), μ2019)) ∧ (¬ z2022 = 14 → (z2022 = 15 → rec1 ((z1989 + 1), μ2019)) ∧ (¬ z2022 = 15 → (z2022 = 16 → rec1 ((z1989 + 1), μ2019)) ∧ (¬ z2022 = 16 → (z2022 = 17 → rec1 ((z1989 + 1), μ2019)) ∧ (¬ z2022 = 17 → (z2022 = 18 → rec1 ((z1989 + 1), μ2019)) ∧ (¬ z2022 = 18 → (z2022 = 19 → rec1 ((z1989 + 1), μ2019)) ∧ (¬ z2022 = 19 → (z2022 = 20 → rec1 ((z1989 + 1), μ2019)) ∧ (¬ z2022 = 20 → (z2022 = 21 → rec1 ((z1989 + 1), μ2019)) ∧ (¬ z2022 = 21 → (z2022 = 22 → rec1 ((z1989 + 1), μ2019)) ∧ (¬ z2022 = 22 → (z2022 = 23 → ∀ μ2063 : mM, mU μ2019 21 (7) (1 : Int) μ2063 → mT w μ2063 → rec1 ((z1989 + 1), μ2063)) ∧ (¬ z2022 = 23 → (z2022 = 24 → ∀ μ2069 : mM, mU μ2019 21 (7) (2 : Int) μ2069 → mT w μ2069 → rec1 ((z1989 + 1), μ2069)) ∧ (¬ z2022 = 24 → (z2022 = 25 → ∀ b2074 : Nat, μ2019 21 2 = (b2074 : Int) → mAt w b2074 200 → WP_X7_addMark_W w μ2019 b2074 z2010 (fun μ2077 => mT w μ2077 → mF [200008, 202999] w μ2019 μ2077 → rec1 ((z1989 + 1), μ2077))) ∧ (¬ z2022 = 25 → (z2022 = 26 → ∀ b2083 : Nat, μ2019 21 2 = (b2083 : Int) → mAt w b2083 200 → WP_X7_dropMark_W w μ2019 b2083 z2010 (fun μ2086 => mT w μ2086 → mF [200008, 202999] w μ2019 μ2086 → rec1 ((z1989 + 1), μ2086))) ∧ (¬ z2022 = 26 → (z2022 = 27 → ∀ b2092 : Nat, μ2019 21 2 = (b2092 : Int) → mAt w b2092 200 → ∀ z2095 : Int, μ2019 b2092 7 = z2095 → (0 ≤ z2095 ∧ z2095 ≤ 20) → ((z2095 ≤ 0) → (WJ_X1_doActs_W9_2 w rec1 z1989 μ2019) μ2019) ∧ ((0 < z2095) → ∀ z2126 : Int, μ2019 (b2092 + 1) ((0 : Int).toNat) = z2126 → ((-2147483648) ≤ z2126 ∧ z2126 ≤ 2147483647) → WP_X7_putInFront_W w μ2019 b2092 z2126 z2010 (fun z2133 μ2129 => mT w μ2129 → mF [200007, 201999] w μ2019 μ2129 → (0 ≤ z2133 ∧ z2133 ≤ 1) → ((¬ z2133 = 0) → (WJ_X1_doActs_W9_2 w rec1 z1989 μ2019) μ2129) ∧ ((z2133 = 0) → ∀ μ2138 : mM, mU μ2129 21 (7) (2 : Int) μ2138 → mT w μ2138 → (WJ_X1_doActs_W9_2 w rec1 z1989 μ2019) μ2138)))) ∧ (¬ z2022 = 27 → (z2022 = 28 → WP_X1_goThrough_W10 w μ2019 z2010 (p4 + 1) (fun μ2143 => mT w μ2143 → mF [21006, 21007, 200004, 200006, 200007, 200008, 201999, 202999] w μ2019 μ2143 → rec1 ((z1989 + 1), μ2143))) ∧ (¬ z2022 = 28 → rec1 ((z1989 + 1), μ2019))))))))))))))))))) ∧ ((500 ≤ z2014) → ∀ μ2148 : mM, mU μ1990 21 (7) (2 : Int) μ2148 → mT w μ2148 → Q μ2148)))
def WP_X1_doActs_W9 (w : mW) (μ : mM) (a1 : Nat) (p2 : Int) (p3 : Int) (p4 : Int) (Q : mM → Prop) : Prop := ∀ n_1 : Int, (w.2.2.1 a1 : Int) = n_1 → (0 ≤ n_1 ∧ n_1 ≤ 2000) → loopF (WL_X1_doActs_W9_1 w μ a1 p2 p3 p4 Q) False 1002 ((0 : Int), μ)
set_option maxRecDepth 4000 in
set_option maxHeartbeats 4000000 in
theorem c_X1_doActs_W9 {l : Launch} {D : va_G} {c : Nat → ClassId} {H0 : Heap} {sa : Nat × Nat × (Nat → Int32)} {w : mW} {μ : mM} (hw : mWF w) (hT : mT w μ) {a1 : Nat} (hA1 : mAt w a1 231) {p2 : Int} (hp2 : 0 ≤ p2 ∧ p2 ≤ 2000) {p3 : Int} (hp3 : 0 ≤ p3 ∧ p3 ≤ 1000) {p4 : Int} (hp4 : 9 ≤ p4 ∧ p4 ≤ 9) (hIPC : PC w μ) (hIRT : RT μ) (hlen : p2 + 2 * p3 ≤ (w.2.2.1 a1 : Int)) (harg : ∀ i : Int, 0 ≤ i → i < p3 → 0 ≤ μ a1 (p2 + 2 * i + 1).toNat ∧ μ a1 (p2 + 2 * i + 1).toNat ≤ 1000000) {Q : mM → Prop} (hQ : WP_X1_doActs_W9 w μ a1 p2 p3 p4 Q) : sC (gG l D c H0 sa) mX1_doActs 10 0 0 [.ref 21, .ref a1, iv p2, iv p3, iv p4] (mk w μ) (qV w [21006, 21007, 200004, 200006, 200007, 200008, 201999, 202999] μ (fun μ1 => Q μ1 ∧ True)) := by
  refine sC.of rfl (by decide) (le_t rfl) ?_
  refine mr_lvE (lv' := [(0, .ref 21), (1, .ref a1), (2, iv p2), (3, iv p3), (4, iv p4)]) rfl ?_
  obtain ⟨n_1, q2⟩ : ∃ n : Int, (w.2.2.1 a1 : Int) = n := ⟨_, rfl⟩
  have h3 : 0 ≤ n_1 ∧ n_1 ≤ 2000 := lnR (m := 2000) q2 hA1 rfl
  have h4 : p2 + 2 * p3 ≤ n_1 := lnLe q2 hlen
  refine mr_iconst (pc := 0) (z := 0) dX1_doActs_0 ?_
  refine mr_istore (pc := 1) (lv' := [(5, iv 0), (0, .ref 21), (1, .ref a1), (2, iv p2), (3, iv p3), (4, iv p4)]) dX1_doActs_1 (by decide) rfl ?_
  have L1991 : ∀ (nL1991 : Nat) (z1989 : Int) (μ1990 : mM), mT w μ1990 → mF [21006, 21007, 200004, 200006, 200007, 200008, 201999, 202999] w μ μ1990 → (0 ≤ z1989 ∧ z1989 ≤ 1000) → PC w μ1990 → RT μ1990 → (1001 - z1989) < (nL1991 : Int) → loopF (WL_X1_doActs_W9_1 w μ a1 p2 p3 p4 Q) False nL1991 (z1989, μ1990) → sV (gG l D c H0 sa) mX1_doActs (sRm 10 0 0) (sZ (gG l D c H0 sa) 0 0 (qV w [21006, 21007, 200004, 200006, 200007, 200008, 201999, 202999] μ (fun μ1 => Q μ1 ∧ True))) 3 [(0, .ref 21), (1, .ref a1), (2, iv p2), (3, iv p3), (4, iv p4), (5, iv z1989)] [] (mk w μ1990) 0 0 := by
    intro nL1991
    induction nL1991 with
    | zero => intro z1989 μ1990 T1993 F1994 h1992 I1996 I1997 h1998 W1999; exact ((vc_X1_doActs_W12_1 h1998 h1992)).elim
    | succ nL1991 ih2000 =>
      intro z1989 μ1990 T1993 F1994 h1992 I1996 I1997 h1998 W1999
      refine mr_iload (pc := 3) (z := z1989) dX1_doActs_3 rfl ?_
      refine mr_iload_n (pc := 5) (z := p3) dX1_doActs_5 rfl rfl ?_
      refine mr_icmp_ge (pc := 6) (tgt := 266) dX1_doActs_6 (by decide) (r32 h1992 rfl) (r32 hp3 rfl) (fun h2001 => ?_) (fun h2001 => ?_)
      · exact mr_vret dX1_doActs_266 rfl (le_t rfl) (le_t rfl) T1993 (mF.call mF.refl F1994 rfl) ⟨((W1999 z1989 μ1990 rfl h1992 T1993 F1994).1 h2001), trivial⟩
      have h2002 : 0 ≤ z1989 ∧ z1989 ≤ 999 := (vc_X1_doActs_W12_2 h2001 h4 h3 hp2 hp3 h1992)
      have h2003 : 1 ≤ p3 ∧ p3 ≤ 1000 := (vc_X1_doActs_W12_3 h2001 h4 h3 hp2 hp3 h2002)
      refine sv_aload_n (pc := 9) dX1_doActs_9 rfl rfl ?_
      refine gf_X1_7 (pc := 10) dX1_doActs_10 wF_X1_50 (A_21 hw) T1993 fun z2004 q2005 h2006 => ?_
      refine mr_if_ne (pc := 13) (tgt := 266) dX1_doActs_13 (by decide) (r32 h2006 rfl) (fun h2007 => ?_) (fun h2007 => ?_)
      · have h2008 : 1 ≤ z2004 ∧ z2004 ≤ 2 := (vc_X12_provides_3 h2007 h2006)
        exact mr_vret dX1_doActs_266 rfl (le_t rfl) (le_t rfl) T1993 (mF.call mF.refl F1994 rfl) ⟨((((W1999 z1989 μ1990 rfl h1992 T1993 F1994).2 h2001) z2004 q2005 h2006).1 h2007), trivial⟩
      have h2009 : 0 ≤ z2004 ∧ z2004 ≤ 0 := (vc_X12_provides_4 h2007 h2006)
      refine sv_aload_n (pc := 16) dX1_doActs_16 rfl rfl ?_
      refine mr_iload_n (pc := 17) (z := p2) dX1_doActs_17 rfl rfl ?_
      refine mr_iload (pc := 18) (z := z1989) dX1_doActs_18 rfl ?_
      refine mr_iconst (pc := 20) (z := 2) dX1_doActs_20 ?_
      refine mr_imul (pc := 21) (x := z1989) (y := 2) dX1_doActs_21 ?_
      refine mr_iadd (pc := 22) (x := p2) (y := (z1989 * 2)) dX1_doActs_22 ?_
      refine mr_iconst (pc := 23) (z := 1) dX1_doActs_23 ?_
      refine mr_iadd (pc := 24) (x := (p2 + (z1989 * 2))) (y := 1) dX1_doActs_24 ?_
      refine la_231 (pc := 25) dX1_doActs_25 hA1 T1993 (lnC q2 (vc_X1_doActs_W12_6 h4 h2001 h3 hp2 h2003 h2002)) fun z2010 q2011 h2012 => ?_
      have h2013 : 0 ≤ z2010 ∧ z2010 ≤ 1000000 := argB harg (vc_X1_doActs_W12_7 h2001 h4 h3 hp2 h2003 h2002) (vc_X1_doActs_W12_8 h4 h2001 h3 hp2 h2003 h2002) (vc_X1_doActs_W12_9 h4 h2001 h3 hp2 h2003 h2002) (((mF.call mF.refl F1994 rfl) : mF [21006, 21007, 200004, 200006, 200007, 200008, 201999, 202999] w μ μ1990).f hA1 rfl rfl) q2011
      refine mr_istore (pc := 26) (lv' := [(6, iv z2010), (0, .ref 21), (1, .ref a1), (2, iv p2), (3, iv p3), (4, iv p4), (5, iv z1989)]) dX1_doActs_26 (by decide) rfl ?_
      refine sv_aload_n (pc := 28) dX1_doActs_28 rfl rfl ?_
      refine gf_X1_6 (pc := 29) dX1_doActs_29 wF_X1_47 (A_21 hw) T1993 fun z2014 q2015 h2016 => ?_
      refine mr_sipush (pc := 32) (z := 500) dX1_doActs_32 (by decide) ?_
      refine mr_icmp_lt (pc := 35) (tgt := 44) dX1_doActs_35 (by decide) (r32 h2016 rfl) (r32 (rR (x := 500)) rfl) (fun h2017 => ?_) (fun h2017 => ?_)
      · have h2018 : 0 ≤ z2014 ∧ z2014 ≤ 499 := (vc_X1_doActs_W12_10 h2017 h2016)
        refine sv_aload_n (pc := 44) dX1_doActs_44 rfl rfl ?_
        refine sv_dup (pc := 45) dX1_doActs_45 rfl ?_
        refine gk_X1_6 (pc := 46) dX1_doActs_46 wF_X1_47 (A_21 hw) q2015 ?_
        refine mr_iconst (pc := 49) (z := 1) dX1_doActs_49 ?_
        refine mr_iadd (pc := 50) (x := z2014) (y := 1) dX1_doActs_50 ?_
        refine pf_X1_6 (pc := 51) dX1_doActs_51 wF_X1_47 (A_21 hw) T1993 (rW (c := 0) (d := 500) (rAdd (e := 1) (f := 500) h2018 (rR (x := 1)) rfl) rfl) fun μ2019 u2020 T2021 => ?_
        refine sv_aload_n (pc := 54) dX1_doActs_54 rfl rfl ?_
        refine mr_iload_n (pc := 55) (z := p2) dX1_doActs_55 rfl rfl ?_
        refine mr_iload (pc := 56) (z := z1989) dX1_doActs_56 rfl ?_
        refine mr_iconst (pc := 58) (z := 2) dX1_doActs_58 ?_
        refine mr_imul (pc := 59) (x := z1989) (y := 2) dX1_doActs_59 ?_
        refine mr_iadd (pc := 60) (x := p2) (y := (z1989 * 2)) dX1_doActs_60 ?_
        refine la_231 (pc := 61) dX1_doActs_61 hA1 T2021 (lnC q2 (vc_X1_doActs_W12_11 h4 h2001 h3 hp2 h2003 h2002)) fun z2022 q2023 h2024 => ?_
        have W2026 := (((((((((W1999 z1989 μ1990 rfl h1992 T1993 F1994).2 h2001) z2004 q2005 h2006).2 h2007) z2010 q2011 h2012) z2014 q2015 h2016).1 h2017) μ2019 u2020 T2021) z2022 q2023 h2024)
        by_cases h2025 : z2022 = 12
        · refine mr_tableIn (pc := 62) (v := 12) (tgt := 184) dX1_doActs_62 h2025 rfl rfl (by decide) ?_
          have h2027 : 12 ≤ z2022 ∧ z2022 ≤ 12 := (vc_X1_doActs_W12_12 h2025 h2024)
          refine sv_aload_n (pc := 184) dX1_doActs_184 rfl rfl ?_
          refine gf_X1_2 (pc := 185) dX1_doActs_185 wF_X1_25 (A_21 hw) T2021 (RT.keep I1997 hw ((mF.up mF.refl (A_21 hw) u2020 rfl) : mF [21006] w μ1990 μ2019) rfl) fun b2028 q2029 A2030 => ?_
          refine mr_iload (pc := 188) (z := z2010) dX1_doActs_188 rfl ?_
          refine pf_X7_4 (pc := 190) dX1_doActs_190 wF_X1_105 A2030 T2021 (rW (c := (-2147483648)) (d := 2147483647) h2013 rfl) fun μ2031 u2032 T2033 => ?_
          refine sv_goto (pc := 193) (tgt := 260) dX1_doActs_193 (by decide) ?_
          refine mr_iinc (pc := 260) (lv' := [(5, iv (z1989 + 1)), (6, iv z2010), (0, .ref 21), (1, .ref a1), (2, iv p2), (3, iv p3), (4, iv p4)]) dX1_doActs_260 rfl (by decide) rfl ?_
          refine sv_goto (pc := 263) (tgt := 3) dX1_doActs_263 (by decide) ?_
          refine mr_lvS (lv' := [(0, .ref 21), (1, .ref a1), (2, iv p2), (3, iv p3), (4, iv p4), (5, iv (z1989 + 1))]) (List.forall_mem_cons.mpr ⟨rfl, List.forall_mem_cons.mpr ⟨rfl, List.forall_mem_cons.mpr ⟨rfl, List.forall_mem_cons.mpr ⟨rfl, List.forall_mem_cons.mpr ⟨rfl, List.forall_mem_cons.mpr ⟨rfl, fun _ h => absurd h List.not_mem_nil⟩⟩⟩⟩⟩⟩) ?_
          exact ih2000 (z1989 + 1) μ2031 T2033 (mF.up (mF.up (mF.call mF.refl F1994 rfl) (A_21 hw) u2020 rfl) A2030 u2032 rfl) (rW (c := 0) (d := 1000) (rAdd (e := 1) (f := 1000) h2002 (rR (x := 1)) rfl) rfl) (PC.keep I1996 hw ((mF.up (mF.up mF.refl (A_21 hw) u2020 rfl) A2030 u2032 rfl) : mF [21006, 200004] w μ1990 μ2031) rfl) (RT.keep I1997 hw ((mF.up (mF.up mF.refl (A_21 hw) u2020 rfl) A2030 u2032 rfl) : mF [21006, 200004] w μ1990 μ2031) rfl) (vc_X1_doActs_W12_13 (nS h1998) h2001 h4 h3 hp2 h2003 h2002) (((W2026.1 h2025) b2028 q2029 A2030) μ2031 u2032 T2033)
        by_cases h2034 : z2022 = 13
        · refine mr_tableIn (pc := 62) (v := 13) (tgt := 196) dX1_doActs_62 h2034 rfl rfl (by decide) ?_
          have h2035 : 13 ≤ z2022 ∧ z2022 ≤ 13 := (vc_X1_doActs_W12_14 h2034 h2025 h2024)
          refine sv_aload_n (pc := 196) dX1_doActs_196 rfl rfl ?_
          refine gf_X1_2 (pc := 197) dX1_doActs_197 wF_X1_25 (A_21 hw) T2021 (RT.keep I1997 hw ((mF.up mF.refl (A_21 hw) u2020 rfl) : mF [21006] w μ1990 μ2019) rfl) fun b2036 q2037 A2038 => ?_
          refine mr_iload (pc := 200) (z := z2010) dX1_doActs_200 rfl ?_
          refine pf_X7_6 (pc := 202) dX1_doActs_202 wF_X1_108 A2038 T2021 (rW (c := (-2147483648)) (d := 2147483647) h2013 rfl) fun μ2039 u2040 T2041 => ?_
          refine sv_goto (pc := 205) (tgt := 260) dX1_doActs_205 (by decide) ?_
          refine mr_iinc (pc := 260) (lv' := [(5, iv (z1989 + 1)), (6, iv z2010), (0, .ref 21), (1, .ref a1), (2, iv p2), (3, iv p3), (4, iv p4)]) dX1_doActs_260 rfl (by decide) rfl ?_
          refine sv_goto (pc := 263) (tgt := 3) dX1_doActs_263 (by decide) ?_
          refine mr_lvS (lv' := [(0, .ref 21), (1, .ref a1), (2, iv p2), (3, iv p3), (4, iv p4), (5, iv (z1989 + 1))]) (List.forall_mem_cons.mpr ⟨rfl, List.forall_mem_cons.mpr ⟨rfl, List.forall_mem_cons.mpr ⟨rfl, List.forall_mem_cons.mpr ⟨rfl, List.forall_mem_cons.mpr ⟨rfl, List.forall_mem_cons.mpr ⟨rfl, fun _ h => absurd h List.not_mem_nil⟩⟩⟩⟩⟩⟩) ?_
          exact ih2000 (z1989 + 1) μ2039 T2041 (mF.up (mF.up (mF.call mF.refl F1994 rfl) (A_21 hw) u2020 rfl) A2038 u2040 rfl) (rW (c := 0) (d := 1000) (rAdd (e := 1) (f := 1000) h2002 (rR (x := 1)) rfl) rfl) (PC.keep I1996 hw ((mF.up (mF.up mF.refl (A_21 hw) u2020 rfl) A2038 u2040 rfl) : mF [21006, 200006] w μ1990 μ2039) rfl) (RT.keep I1997 hw ((mF.up (mF.up mF.refl (A_21 hw) u2020 rfl) A2038 u2040 rfl) : mF [21006, 200006] w μ1990 μ2039) rfl) (vc_X1_doActs_W12_13 (nS h1998) h2001 h4 h3 hp2 h2003 h2002) ((((W2026.2 h2025).1 h2034) b2036 q2037 A2038) μ2039 u2040 T2041)
        by_cases h2042 : z2022 = 14
        · refine mr_tableIn (pc := 62) (v := 14) (tgt := 260) dX1_doActs_62 h2042 rfl rfl (by decide) ?_
          have h2043 : 14 ≤ z2022 ∧ z2022 ≤ 14 := (vc_X1_doActs_W12_15 h2042 h2025 h2034 h2024)
          refine mr_iinc (pc := 260) (lv' := [(5, iv (z1989 + 1)), (6, iv z2010), (0, .ref 21), (1, .ref a1), (2, iv p2), (3, iv p3), (4, iv p4)]) dX1_doActs_260 rfl (by decide) rfl ?_
          refine sv_goto (pc := 263) (tgt := 3) dX1_doActs_263 (by decide) ?_
          refine mr_lvS (lv' := [(0, .ref 21), (1, .ref a1), (2, iv p2), (3, iv p3), (4, iv p4), (5, iv (z1989 + 1))]) (List.forall_mem_cons.mpr ⟨rfl, List.forall_mem_cons.mpr ⟨rfl, List.forall_mem_cons.mpr ⟨rfl, List.forall_mem_cons.mpr ⟨rfl, List.forall_mem_cons.mpr ⟨rfl, List.forall_mem_cons.mpr ⟨rfl, fun _ h => absurd h List.not_mem_nil⟩⟩⟩⟩⟩⟩) ?_
          exact ih2000 (z1989 + 1) μ2019 T2021 (mF.up (mF.call mF.refl F1994 rfl) (A_21 hw) u2020 rfl) (rW (c := 0) (d := 1000) (rAdd (e := 1) (f := 1000) h2002 (rR (x := 1)) rfl) rfl) (PC.keep I1996 hw ((mF.up mF.refl (A_21 hw) u2020 rfl) : mF [21006] w μ1990 μ2019) rfl) (RT.keep I1997 hw ((mF.up mF.refl (A_21 hw) u2020 rfl) : mF [21006] w μ1990 μ2019) rfl) (vc_X1_doActs_W12_13 (nS h1998) h2001 h4 h3 hp2 h2003 h2002) (((W2026.2 h2025).2 h2034).1 h2042)
        by_cases h2044 : z2022 = 15
        · refine mr_tableIn (pc := 62) (v := 15) (tgt := 260) dX1_doActs_62 h2044 rfl rfl (by decide) ?_
          have h2045 : 15 ≤ z2022 ∧ z2022 ≤ 15 := (vc_X1_doActs_W12_16 h2044 h2025 h2034 h2042 h2024)
          refine mr_iinc (pc := 260) (lv' := [(5, iv (z1989 + 1)), (6, iv z2010), (0, .ref 21), (1, .ref a1), (2, iv p2), (3, iv p3), (4, iv p4)]) dX1_doActs_260 rfl (by decide) rfl ?_
          refine sv_goto (pc := 263) (tgt := 3) dX1_doActs_263 (by decide) ?_
          refine mr_lvS (lv' := [(0, .ref 21), (1, .ref a1), (2, iv p2), (3, iv p3), (4, iv p4), (5, iv (z1989 + 1))]) (List.forall_mem_cons.mpr ⟨rfl, List.forall_mem_cons.mpr ⟨rfl, List.forall_mem_cons.mpr ⟨rfl, List.forall_mem_cons.mpr ⟨rfl, List.forall_mem_cons.mpr ⟨rfl, List.forall_mem_cons.mpr ⟨rfl, fun _ h => absurd h List.not_mem_nil⟩⟩⟩⟩⟩⟩) ?_
          exact ih2000 (z1989 + 1) μ2019 T2021 (mF.up (mF.call mF.refl F1994 rfl) (A_21 hw) u2020 rfl) (rW (c := 0) (d := 1000) (rAdd (e := 1) (f := 1000) h2002 (rR (x := 1)) rfl) rfl) (PC.keep I1996 hw ((mF.up mF.refl (A_21 hw) u2020 rfl) : mF [21006] w μ1990 μ2019) rfl) (RT.keep I1997 hw ((mF.up mF.refl (A_21 hw) u2020 rfl) : mF [21006] w μ1990 μ2019) rfl) (vc_X1_doActs_W12_13 (nS h1998) h2001 h4 h3 hp2 h2003 h2002) ((((W2026.2 h2025).2 h2034).2 h2042).1 h2044)
        by_cases h2046 : z2022 = 16
        · refine mr_tableIn (pc := 62) (v := 16) (tgt := 260) dX1_doActs_62 h2046 rfl rfl (by decide) ?_
          have h2047 : 16 ≤ z2022 ∧ z2022 ≤ 16 := (vc_X1_doActs_W12_17 h2046 h2025 h2034 h2042 h2044 h2024)
          refine mr_iinc (pc := 260) (lv' := [(5, iv (z1989 + 1)), (6, iv z2010), (0, .ref 21), (1, .ref a1), (2, iv p2), (3, iv p3), (4, iv p4)]) dX1_doActs_260 rfl (by decide) rfl ?_
          refine sv_goto (pc := 263) (tgt := 3) dX1_doActs_263 (by decide) ?_
          refine mr_lvS (lv' := [(0, .ref 21), (1, .ref a1), (2, iv p2), (3, iv p3), (4, iv p4), (5, iv (z1989 + 1))]) (List.forall_mem_cons.mpr ⟨rfl, List.forall_mem_cons.mpr ⟨rfl, List.forall_mem_cons.mpr ⟨rfl, List.forall_mem_cons.mpr ⟨rfl, List.forall_mem_cons.mpr ⟨rfl, List.forall_mem_cons.mpr ⟨rfl, fun _ h => absurd h List.not_mem_nil⟩⟩⟩⟩⟩⟩) ?_
          exact ih2000 (z1989 + 1) μ2019 T2021 (mF.up (mF.call mF.refl F1994 rfl) (A_21 hw) u2020 rfl) (rW (c := 0) (d := 1000) (rAdd (e := 1) (f := 1000) h2002 (rR (x := 1)) rfl) rfl) (PC.keep I1996 hw ((mF.up mF.refl (A_21 hw) u2020 rfl) : mF [21006] w μ1990 μ2019) rfl) (RT.keep I1997 hw ((mF.up mF.refl (A_21 hw) u2020 rfl) : mF [21006] w μ1990 μ2019) rfl) (vc_X1_doActs_W12_13 (nS h1998) h2001 h4 h3 hp2 h2003 h2002) (((((W2026.2 h2025).2 h2034).2 h2042).2 h2044).1 h2046)
        by_cases h2048 : z2022 = 17
        · refine mr_tableIn (pc := 62) (v := 17) (tgt := 260) dX1_doActs_62 h2048 rfl rfl (by decide) ?_
          have h2049 : 17 ≤ z2022 ∧ z2022 ≤ 17 := (vc_X1_doActs_W12_18 h2048 h2025 h2034 h2042 h2044 h2046 h2024)
          refine mr_iinc (pc := 260) (lv' := [(5, iv (z1989 + 1)), (6, iv z2010), (0, .ref 21), (1, .ref a1), (2, iv p2), (3, iv p3), (4, iv p4)]) dX1_doActs_260 rfl (by decide) rfl ?_
          refine sv_goto (pc := 263) (tgt := 3) dX1_doActs_263 (by decide) ?_
          refine mr_lvS (lv' := [(0, .ref 21), (1, .ref a1), (2, iv p2), (3, iv p3), (4, iv p4), (5, iv (z1989 + 1))]) (List.forall_mem_cons.mpr ⟨rfl, List.forall_mem_cons.mpr ⟨rfl, List.forall_mem_cons.mpr ⟨rfl, List.forall_mem_cons.mpr ⟨rfl, List.forall_mem_cons.mpr ⟨rfl, List.forall_mem_cons.mpr ⟨rfl, fun _ h => absurd h List.not_mem_nil⟩⟩⟩⟩⟩⟩) ?_
          exact ih2000 (z1989 + 1) μ2019 T2021 (mF.up (mF.call mF.refl F1994 rfl) (A_21 hw) u2020 rfl) (rW (c := 0) (d := 1000) (rAdd (e := 1) (f := 1000) h2002 (rR (x := 1)) rfl) rfl) (PC.keep I1996 hw ((mF.up mF.refl (A_21 hw) u2020 rfl) : mF [21006] w μ1990 μ2019) rfl) (RT.keep I1997 hw ((mF.up mF.refl (A_21 hw) u2020 rfl) : mF [21006] w μ1990 μ2019) rfl) (vc_X1_doActs_W12_13 (nS h1998) h2001 h4 h3 hp2 h2003 h2002) ((((((W2026.2 h2025).2 h2034).2 h2042).2 h2044).2 h2046).1 h2048)
        have W2051 := ((((((W2026.2 h2025).2 h2034).2 h2042).2 h2044).2 h2046).2 h2048)
        by_cases h2050 : z2022 = 18
        · refine mr_tableIn (pc := 62) (v := 18) (tgt := 260) dX1_doActs_62 h2050 rfl rfl (by decide) ?_
          have h2052 : 18 ≤ z2022 ∧ z2022 ≤ 18 := (vc_X1_doActs_W12_19 h2050 h2025 h2034 h2042 h2044 h2046 h2048 h2024)
          refine mr_iinc (pc := 260) (lv' := [(5, iv (z1989 + 1)), (6, iv z2010), (0, .ref 21), (1, .ref a1), (2, iv p2), (3, iv p3), (4, iv p4)]) dX1_doActs_260 rfl (by decide) rfl ?_
          refine sv_goto (pc := 263) (tgt := 3) dX1_doActs_263 (by decide) ?_
          refine mr_lvS (lv' := [(0, .ref 21), (1, .ref a1), (2, iv p2), (3, iv p3), (4, iv p4), (5, iv (z1989 + 1))]) (List.forall_mem_cons.mpr ⟨rfl, List.forall_mem_cons.mpr ⟨rfl, List.forall_mem_cons.mpr ⟨rfl, List.forall_mem_cons.mpr ⟨rfl, List.forall_mem_cons.mpr ⟨rfl, List.forall_mem_cons.mpr ⟨rfl, fun _ h => absurd h List.not_mem_nil⟩⟩⟩⟩⟩⟩) ?_
          exact ih2000 (z1989 + 1) μ2019 T2021 (mF.up (mF.call mF.refl F1994 rfl) (A_21 hw) u2020 rfl) (rW (c := 0) (d := 1000) (rAdd (e := 1) (f := 1000) h2002 (rR (x := 1)) rfl) rfl) (PC.keep I1996 hw ((mF.up mF.refl (A_21 hw) u2020 rfl) : mF [21006] w μ1990 μ2019) rfl) (RT.keep I1997 hw ((mF.up mF.refl (A_21 hw) u2020 rfl) : mF [21006] w μ1990 μ2019) rfl) (vc_X1_doActs_W12_13 (nS h1998) h2001 h4 h3 hp2 h2003 h2002) (W2051.1 h2050)
        by_cases h2053 : z2022 = 19
        · refine mr_tableIn (pc := 62) (v := 19) (tgt := 260) dX1_doActs_62 h2053 rfl rfl (by decide) ?_
          have h2054 : 19 ≤ z2022 ∧ z2022 ≤ 19 := (vc_X1_doActs_W12_20 h2053 h2025 h2034 h2042 h2044 h2046 h2048 h2050 h2024)
          refine mr_iinc (pc := 260) (lv' := [(5, iv (z1989 + 1)), (6, iv z2010), (0, .ref 21), (1, .ref a1), (2, iv p2), (3, iv p3), (4, iv p4)]) dX1_doActs_260 rfl (by decide) rfl ?_
          refine sv_goto (pc := 263) (tgt := 3) dX1_doActs_263 (by decide) ?_
          refine mr_lvS (lv' := [(0, .ref 21), (1, .ref a1), (2, iv p2), (3, iv p3), (4, iv p4), (5, iv (z1989 + 1))]) (List.forall_mem_cons.mpr ⟨rfl, List.forall_mem_cons.mpr ⟨rfl, List.forall_mem_cons.mpr ⟨rfl, List.forall_mem_cons.mpr ⟨rfl, List.forall_mem_cons.mpr ⟨rfl, List.forall_mem_cons.mpr ⟨rfl, fun _ h => absurd h List.not_mem_nil⟩⟩⟩⟩⟩⟩) ?_
          exact ih2000 (z1989 + 1) μ2019 T2021 (mF.up (mF.call mF.refl F1994 rfl) (A_21 hw) u2020 rfl) (rW (c := 0) (d := 1000) (rAdd (e := 1) (f := 1000) h2002 (rR (x := 1)) rfl) rfl) (PC.keep I1996 hw ((mF.up mF.refl (A_21 hw) u2020 rfl) : mF [21006] w μ1990 μ2019) rfl) (RT.keep I1997 hw ((mF.up mF.refl (A_21 hw) u2020 rfl) : mF [21006] w μ1990 μ2019) rfl) (vc_X1_doActs_W12_13 (nS h1998) h2001 h4 h3 hp2 h2003 h2002) ((W2051.2 h2050).1 h2053)
        by_cases h2055 : z2022 = 20
        · refine mr_tableIn (pc := 62) (v := 20) (tgt := 260) dX1_doActs_62 h2055 rfl rfl (by decide) ?_
          have h2056 : 20 ≤ z2022 ∧ z2022 ≤ 20 := (vc_X1_doActs_W12_21 h2055 h2034 h2042 h2044 h2046 h2048 h2050 h2053 h2024)
          refine mr_iinc (pc := 260) (lv' := [(5, iv (z1989 + 1)), (6, iv z2010), (0, .ref 21), (1, .ref a1), (2, iv p2), (3, iv p3), (4, iv p4)]) dX1_doActs_260 rfl (by decide) rfl ?_
          refine sv_goto (pc := 263) (tgt := 3) dX1_doActs_263 (by decide) ?_
          refine mr_lvS (lv' := [(0, .ref 21), (1, .ref a1), (2, iv p2), (3, iv p3), (4, iv p4), (5, iv (z1989 + 1))]) (List.forall_mem_cons.mpr ⟨rfl, List.forall_mem_cons.mpr ⟨rfl, List.forall_mem_cons.mpr ⟨rfl, List.forall_mem_cons.mpr ⟨rfl, List.forall_mem_cons.mpr ⟨rfl, List.forall_mem_cons.mpr ⟨rfl, fun _ h => absurd h List.not_mem_nil⟩⟩⟩⟩⟩⟩) ?_
          exact ih2000 (z1989 + 1) μ2019 T2021 (mF.up (mF.call mF.refl F1994 rfl) (A_21 hw) u2020 rfl) (rW (c := 0) (d := 1000) (rAdd (e := 1) (f := 1000) h2002 (rR (x := 1)) rfl) rfl) (PC.keep I1996 hw ((mF.up mF.refl (A_21 hw) u2020 rfl) : mF [21006] w μ1990 μ2019) rfl) (RT.keep I1997 hw ((mF.up mF.refl (A_21 hw) u2020 rfl) : mF [21006] w μ1990 μ2019) rfl) (vc_X1_doActs_W12_13 (nS h1998) h2001 h4 h3 hp2 h2003 h2002) (((W2051.2 h2050).2 h2053).1 h2055)
        by_cases h2057 : z2022 = 21
        · refine mr_tableIn (pc := 62) (v := 21) (tgt := 260) dX1_doActs_62 h2057 rfl rfl (by decide) ?_
          have h2058 : 21 ≤ z2022 ∧ z2022 ≤ 21 := (vc_X1_doActs_W12_22 h2057 h2042 h2044 h2046 h2048 h2050 h2053 h2055 h2024)
          refine mr_iinc (pc := 260) (lv' := [(5, iv (z1989 + 1)), (6, iv z2010), (0, .ref 21), (1, .ref a1), (2, iv p2), (3, iv p3), (4, iv p4)]) dX1_doActs_260 rfl (by decide) rfl ?_
          refine sv_goto (pc := 263) (tgt := 3) dX1_doActs_263 (by decide) ?_
          refine mr_lvS (lv' := [(0, .ref 21), (1, .ref a1), (2, iv p2), (3, iv p3), (4, iv p4), (5, iv (z1989 + 1))]) (List.forall_mem_cons.mpr ⟨rfl, List.forall_mem_cons.mpr ⟨rfl, List.forall_mem_cons.mpr ⟨rfl, List.forall_mem_cons.mpr ⟨rfl, List.forall_mem_cons.mpr ⟨rfl, List.forall_mem_cons.mpr ⟨rfl, fun _ h => absurd h List.not_mem_nil⟩⟩⟩⟩⟩⟩) ?_
          exact ih2000 (z1989 + 1) μ2019 T2021 (mF.up (mF.call mF.refl F1994 rfl) (A_21 hw) u2020 rfl) (rW (c := 0) (d := 1000) (rAdd (e := 1) (f := 1000) h2002 (rR (x := 1)) rfl) rfl) (PC.keep I1996 hw ((mF.up mF.refl (A_21 hw) u2020 rfl) : mF [21006] w μ1990 μ2019) rfl) (RT.keep I1997 hw ((mF.up mF.refl (A_21 hw) u2020 rfl) : mF [21006] w μ1990 μ2019) rfl) (vc_X1_doActs_W12_13 (nS h1998) h2001 h4 h3 hp2 h2003 h2002) ((((W2051.2 h2050).2 h2053).2 h2055).1 h2057)
        by_cases h2059 : z2022 = 22
        · refine mr_tableIn (pc := 62) (v := 22) (tgt := 260) dX1_doActs_62 h2059 rfl rfl (by decide) ?_
          have h2060 : 22 ≤ z2022 ∧ z2022 ≤ 22 := (vc_X1_doActs_W12_23 h2059 h2044 h2046 h2048 h2050 h2053 h2055 h2057 h2024)
          refine mr_iinc (pc := 260) (lv' := [(5, iv (z1989 + 1)), (6, iv z2010), (0, .ref 21), (1, .ref a1), (2, iv p2), (3, iv p3), (4, iv p4)]) dX1_doActs_260 rfl (by decide) rfl ?_
          refine sv_goto (pc := 263) (tgt := 3) dX1_doActs_263 (by decide) ?_
          refine mr_lvS (lv' := [(0, .ref 21), (1, .ref a1), (2, iv p2), (3, iv p3), (4, iv p4), (5, iv (z1989 + 1))]) (List.forall_mem_cons.mpr ⟨rfl, List.forall_mem_cons.mpr ⟨rfl, List.forall_mem_cons.mpr ⟨rfl, List.forall_mem_cons.mpr ⟨rfl, List.forall_mem_cons.mpr ⟨rfl, List.forall_mem_cons.mpr ⟨rfl, fun _ h => absurd h List.not_mem_nil⟩⟩⟩⟩⟩⟩) ?_
          exact ih2000 (z1989 + 1) μ2019 T2021 (mF.up (mF.call mF.refl F1994 rfl) (A_21 hw) u2020 rfl) (rW (c := 0) (d := 1000) (rAdd (e := 1) (f := 1000) h2002 (rR (x := 1)) rfl) rfl) (PC.keep I1996 hw ((mF.up mF.refl (A_21 hw) u2020 rfl) : mF [21006] w μ1990 μ2019) rfl) (RT.keep I1997 hw ((mF.up mF.refl (A_21 hw) u2020 rfl) : mF [21006] w μ1990 μ2019) rfl) (vc_X1_doActs_W12_13 (nS h1998) h2001 h4 h3 hp2 h2003 h2002) (((((W2051.2 h2050).2 h2053).2 h2055).2 h2057).1 h2059)
        by_cases h2061 : z2022 = 23
        · refine mr_tableIn (pc := 62) (v := 23) (tgt := 144) dX1_doActs_62 h2061 rfl rfl (by decide) ?_
          have h2062 : 23 ≤ z2022 ∧ z2022 ≤ 23 := (vc_X1_doActs_W12_24 h2061 h2046 h2048 h2050 h2053 h2055 h2057 h2059 h2024)
          refine sv_aload_n (pc := 144) dX1_doActs_144 rfl rfl ?_
          refine mr_iconst (pc := 145) (z := 1) dX1_doActs_145 ?_
          refine pf_X1_7 (pc := 146) dX1_doActs_146 wF_X1_50 (A_21 hw) T2021 (rW (c := 0) (d := 2) (rR (x := 1)) rfl) fun μ2063 u2064 T2065 => ?_
          refine sv_goto (pc := 149) (tgt := 260) dX1_doActs_149 (by decide) ?_
          refine mr_iinc (pc := 260) (lv' := [(5, iv (z1989 + 1)), (6, iv z2010), (0, .ref 21), (1, .ref a1), (2, iv p2), (3, iv p3), (4, iv p4)]) dX1_doActs_260 rfl (by decide) rfl ?_
          refine sv_goto (pc := 263) (tgt := 3) dX1_doActs_263 (by decide) ?_
          refine mr_lvS (lv' := [(0, .ref 21), (1, .ref a1), (2, iv p2), (3, iv p3), (4, iv p4), (5, iv (z1989 + 1))]) (List.forall_mem_cons.mpr ⟨rfl, List.forall_mem_cons.mpr ⟨rfl, List.forall_mem_cons.mpr ⟨rfl, List.forall_mem_cons.mpr ⟨rfl, List.forall_mem_cons.mpr ⟨rfl, List.forall_mem_cons.mpr ⟨rfl, fun _ h => absurd h List.not_mem_nil⟩⟩⟩⟩⟩⟩) ?_
          exact ih2000 (z1989 + 1) μ2063 T2065 (mF.up (mF.up (mF.call mF.refl F1994 rfl) (A_21 hw) u2020 rfl) (A_21 hw) u2064 rfl) (rW (c := 0) (d := 1000) (rAdd (e := 1) (f := 1000) h2002 (rR (x := 1)) rfl) rfl) (PC.keep I1996 hw ((mF.up (mF.up mF.refl (A_21 hw) u2020 rfl) (A_21 hw) u2064 rfl) : mF [21006, 21007] w μ1990 μ2063) rfl) (RT.keep I1997 hw ((mF.up (mF.up mF.refl (A_21 hw) u2020 rfl) (A_21 hw) u2064 rfl) : mF [21006, 21007] w μ1990 μ2063) rfl) (vc_X1_doActs_W12_13 (nS h1998) h2001 h4 h3 hp2 h2003 h2002) (((((((W2051.2 h2050).2 h2053).2 h2055).2 h2057).2 h2059).1 h2061) μ2063 u2064 T2065)
        have W2067 := ((((((W2051.2 h2050).2 h2053).2 h2055).2 h2057).2 h2059).2 h2061)
        by_cases h2066 : z2022 = 24
        · refine mr_tableIn (pc := 62) (v := 24) (tgt := 152) dX1_doActs_62 h2066 rfl rfl (by decide) ?_
          have h2068 : 24 ≤ z2022 ∧ z2022 ≤ 24 := (vc_X1_doActs_W12_25 h2066 h2048 h2050 h2053 h2055 h2057 h2059 h2061 h2024)
          refine sv_aload_n (pc := 152) dX1_doActs_152 rfl rfl ?_
          refine mr_iconst (pc := 153) (z := 2) dX1_doActs_153 ?_
          refine pf_X1_7 (pc := 154) dX1_doActs_154 wF_X1_50 (A_21 hw) T2021 (rW (c := 0) (d := 2) (rR (x := 2)) rfl) fun μ2069 u2070 T2071 => ?_
          refine sv_goto (pc := 157) (tgt := 260) dX1_doActs_157 (by decide) ?_
          refine mr_iinc (pc := 260) (lv' := [(5, iv (z1989 + 1)), (6, iv z2010), (0, .ref 21), (1, .ref a1), (2, iv p2), (3, iv p3), (4, iv p4)]) dX1_doActs_260 rfl (by decide) rfl ?_
          refine sv_goto (pc := 263) (tgt := 3) dX1_doActs_263 (by decide) ?_
          refine mr_lvS (lv' := [(0, .ref 21), (1, .ref a1), (2, iv p2), (3, iv p3), (4, iv p4), (5, iv (z1989 + 1))]) (List.forall_mem_cons.mpr ⟨rfl, List.forall_mem_cons.mpr ⟨rfl, List.forall_mem_cons.mpr ⟨rfl, List.forall_mem_cons.mpr ⟨rfl, List.forall_mem_cons.mpr ⟨rfl, List.forall_mem_cons.mpr ⟨rfl, fun _ h => absurd h List.not_mem_nil⟩⟩⟩⟩⟩⟩) ?_
          exact ih2000 (z1989 + 1) μ2069 T2071 (mF.up (mF.up (mF.call mF.refl F1994 rfl) (A_21 hw) u2020 rfl) (A_21 hw) u2070 rfl) (rW (c := 0) (d := 1000) (rAdd (e := 1) (f := 1000) h2002 (rR (x := 1)) rfl) rfl) (PC.keep I1996 hw ((mF.up (mF.up mF.refl (A_21 hw) u2020 rfl) (A_21 hw) u2070 rfl) : mF [21006, 21007] w μ1990 μ2069) rfl) (RT.keep I1997 hw ((mF.up (mF.up mF.refl (A_21 hw) u2020 rfl) (A_21 hw) u2070 rfl) : mF [21006, 21007] w μ1990 μ2069) rfl) (vc_X1_doActs_W12_13 (nS h1998) h2001 h4 h3 hp2 h2003 h2002) ((W2067.1 h2066) μ2069 u2070 T2071)
        by_cases h2072 : z2022 = 25
        · refine mr_tableIn (pc := 62) (v := 25) (tgt := 160) dX1_doActs_62 h2072 rfl rfl (by decide) ?_
          have h2073 : 25 ≤ z2022 ∧ z2022 ≤ 25 := (vc_X1_doActs_W12_26 h2072 h2050 h2053 h2055 h2057 h2059 h2061 h2066 h2024)
          refine sv_aload_n (pc := 160) dX1_doActs_160 rfl rfl ?_
          refine gf_X1_2 (pc := 161) dX1_doActs_161 wF_X1_25 (A_21 hw) T2021 (RT.keep I1997 hw ((mF.up mF.refl (A_21 hw) u2020 rfl) : mF [21006] w μ1990 μ2019) rfl) fun b2074 q2075 A2076 => ?_
          refine mr_iload (pc := 164) (z := z2010) dX1_doActs_164 rfl ?_
          refine mr_cVV (pc := 166) (c_X7_addMark_W hw T2021 A2076 (rW (c := (-2147483648)) (d := 2147483647) h2013 rfl) (((W2067.2 h2066).1 h2072) b2074 q2075 A2076)) (gOk _ _ _ _ _) dX1_doActs_166 (tX7_addMark _ _ _ _ _) ⟨wV_X7_addMark, wL_X7_addMark⟩ wM_X1_124 (gCX7 _ _ _ _ _) rfl A2076 rfl ⟨le_t rfl, le_t rfl⟩ ⟨le_t rfl, le_t rfl⟩ rfl (le_t rfl) fun μ2077 T2078 F2079 h2080 => ?_
          refine sv_goto (pc := 169) (tgt := 260) dX1_doActs_169 (by decide) ?_
          refine mr_iinc (pc := 260) (lv' := [(5, iv (z1989 + 1)), (6, iv z2010), (0, .ref 21), (1, .ref a1), (2, iv p2), (3, iv p3), (4, iv p4)]) dX1_doActs_260 rfl (by decide) rfl ?_
          refine sv_goto (pc := 263) (tgt := 3) dX1_doActs_263 (by decide) ?_
          refine mr_lvS (lv' := [(0, .ref 21), (1, .ref a1), (2, iv p2), (3, iv p3), (4, iv p4), (5, iv (z1989 + 1))]) (List.forall_mem_cons.mpr ⟨rfl, List.forall_mem_cons.mpr ⟨rfl, List.forall_mem_cons.mpr ⟨rfl, List.forall_mem_cons.mpr ⟨rfl, List.forall_mem_cons.mpr ⟨rfl, List.forall_mem_cons.mpr ⟨rfl, fun _ h => absurd h List.not_mem_nil⟩⟩⟩⟩⟩⟩) ?_
          exact ih2000 (z1989 + 1) μ2077 T2078 (mF.call (mF.up (mF.call mF.refl F1994 rfl) (A_21 hw) u2020 rfl) F2079 rfl) (rW (c := 0) (d := 1000) (rAdd (e := 1) (f := 1000) h2002 (rR (x := 1)) rfl) rfl) (PC.keep I1996 hw ((mF.call (mF.up mF.refl (A_21 hw) u2020 rfl) F2079 rfl) : mF [21006, 200008, 202999] w μ1990 μ2077) rfl) (RT.keep I1997 hw ((mF.call (mF.up mF.refl (A_21 hw) u2020 rfl) F2079 rfl) : mF [21006, 200008, 202999] w μ1990 μ2077) rfl) (vc_X1_doActs_W12_13 (nS h1998) h2001 h4 h3 hp2 h2003 h2002) (h2080.1 T2078 F2079)
        by_cases h2081 : z2022 = 26
        · refine mr_tableIn (pc := 62) (v := 26) (tgt := 172) dX1_doActs_62 h2081 rfl rfl (by decide) ?_
          have h2082 : 26 ≤ z2022 ∧ z2022 ≤ 26 := (vc_X1_doActs_W12_27 h2081 h2053 h2055 h2057 h2059 h2061 h2066 h2072 h2024)
          refine sv_aload_n (pc := 172) dX1_doActs_172 rfl rfl ?_
          refine gf_X1_2 (pc := 173) dX1_doActs_173 wF_X1_25 (A_21 hw) T2021 (RT.keep I1997 hw ((mF.up mF.refl (A_21 hw) u2020 rfl) : mF [21006] w μ1990 μ2019) rfl) fun b2083 q2084 A2085 => ?_
          refine mr_iload (pc := 176) (z := z2010) dX1_doActs_176 rfl ?_
          refine mr_cVV (pc := 178) (c_X7_dropMark_W hw T2021 A2085 (rW (c := (-2147483648)) (d := 2147483647) h2013 rfl) ((((W2067.2 h2066).2 h2072).1 h2081) b2083 q2084 A2085)) (gOk _ _ _ _ _) dX1_doActs_178 (tX7_dropMark _ _ _ _ _) ⟨wV_X7_dropMark, wL_X7_dropMark⟩ wM_X1_128 (gCX7 _ _ _ _ _) rfl A2085 rfl ⟨le_t rfl, le_t rfl⟩ ⟨le_t rfl, le_t rfl⟩ rfl (le_t rfl) fun μ2086 T2087 F2088 h2089 => ?_
          refine sv_goto (pc := 181) (tgt := 260) dX1_doActs_181 (by decide) ?_
          refine mr_iinc (pc := 260) (lv' := [(5, iv (z1989 + 1)), (6, iv z2010), (0, .ref 21), (1, .ref a1), (2, iv p2), (3, iv p3), (4, iv p4)]) dX1_doActs_260 rfl (by decide) rfl ?_
          refine sv_goto (pc := 263) (tgt := 3) dX1_doActs_263 (by decide) ?_
          refine mr_lvS (lv' := [(0, .ref 21), (1, .ref a1), (2, iv p2), (3, iv p3), (4, iv p4), (5, iv (z1989 + 1))]) (List.forall_mem_cons.mpr ⟨rfl, List.forall_mem_cons.mpr ⟨rfl, List.forall_mem_cons.mpr ⟨rfl, List.forall_mem_cons.mpr ⟨rfl, List.forall_mem_cons.mpr ⟨rfl, List.forall_mem_cons.mpr ⟨rfl, fun _ h => absurd h List.not_mem_nil⟩⟩⟩⟩⟩⟩) ?_
          exact ih2000 (z1989 + 1) μ2086 T2087 (mF.call (mF.up (mF.call mF.refl F1994 rfl) (A_21 hw) u2020 rfl) F2088 rfl) (rW (c := 0) (d := 1000) (rAdd (e := 1) (f := 1000) h2002 (rR (x := 1)) rfl) rfl) (PC.keep I1996 hw ((mF.call (mF.up mF.refl (A_21 hw) u2020 rfl) F2088 rfl) : mF [21006, 200008, 202999] w μ1990 μ2086) rfl) (RT.keep I1997 hw ((mF.call (mF.up mF.refl (A_21 hw) u2020 rfl) F2088 rfl) : mF [21006, 200008, 202999] w μ1990 μ2086) rfl) (vc_X1_doActs_W12_13 (nS h1998) h2001 h4 h3 hp2 h2003 h2002) (h2089.1 T2087 F2088)
        by_cases h2090 : z2022 = 27
        · refine mr_tableIn (pc := 62) (v := 27) (tgt := 208) dX1_doActs_62 h2090 rfl rfl (by decide) ?_
          have h2091 : 27 ≤ z2022 ∧ z2022 ≤ 27 := (vc_X1_doActs_W12_28 h2090 h2055 h2057 h2059 h2061 h2066 h2072 h2081 h2024)
          refine sv_aload_n (pc := 208) dX1_doActs_208 rfl rfl ?_
          refine gf_X1_2 (pc := 209) dX1_doActs_209 wF_X1_25 (A_21 hw) T2021 (RT.keep I1997 hw ((mF.up mF.refl (A_21 hw) u2020 rfl) : mF [21006] w μ1990 μ2019) rfl) fun b2092 q2093 A2094 => ?_
          refine gf_X7_7 (pc := 212) dX1_doActs_212 wF_X1_96 A2094 T2021 fun z2095 q2096 h2097 => ?_
          have J2120 : ∀ (μ2114 : mM), (mT w μ2114) → (mF [21007, 200007, 201999] w μ2019 μ2114) → (PC w μ2114) → (RT μ2114) → ((WJ_X1_doActs_W9_2 w (loopF (WL_X1_doActs_W9_1 w μ a1 p2 p3 p4 Q) False nL1991) z1989 μ2019) μ2114) → sV (gG l D c H0 sa) mX1_doActs (sRm 10 0 0) (sZ (gG l D c H0 sa) 0 0 (qV w [21006, 21007, 200004, 200006, 200007, 200008, 201999, 202999] μ (fun μ1 => Q μ1 ∧ True))) 260 [(0, .ref 21), (1, .ref a1), (2, iv p2), (3, iv p3), (4, iv p4), (5, iv z1989)] [] (mk w μ2114) 0 0 := by
            intro μ2114 T2115 F2116 I2118 I2119 W2121
            refine mr_iinc (pc := 260) (lv' := [(5, iv (z1989 + 1)), (0, .ref 21), (1, .ref a1), (2, iv p2), (3, iv p3), (4, iv p4)]) dX1_doActs_260 rfl (by decide) rfl ?_
            refine sv_goto (pc := 263) (tgt := 3) dX1_doActs_263 (by decide) ?_
            refine mr_lvS (lv' := [(0, .ref 21), (1, .ref a1), (2, iv p2), (3, iv p3), (4, iv p4), (5, iv (z1989 + 1))]) (List.forall_mem_cons.mpr ⟨rfl, List.forall_mem_cons.mpr ⟨rfl, List.forall_mem_cons.mpr ⟨rfl, List.forall_mem_cons.mpr ⟨rfl, List.forall_mem_cons.mpr ⟨rfl, List.forall_mem_cons.mpr ⟨rfl, fun _ h => absurd h List.not_mem_nil⟩⟩⟩⟩⟩⟩) ?_
            exact ih2000 (z1989 + 1) μ2114 T2115 (mF.call (mF.up (mF.call mF.refl F1994 rfl) (A_21 hw) u2020 rfl) F2116 rfl) (rW (c := 0) (d := 1000) (rAdd (e := 1) (f := 1000) h2002 (rR (x := 1)) rfl) rfl) I2118 I2119 (vc_X1_doActs_W12_13 (nS h1998) h2001 h4 h3 hp2 h2003 h2002) (W2121 T2115 F2116)
          refine mr_if_le (pc := 215) (tgt := 260) dX1_doActs_215 (by decide) (r32 h2097 rfl) (fun h2122 => ?_) (fun h2122 => ?_)
          · have h2123 : 0 ≤ z2095 ∧ z2095 ≤ 0 := (vc_X12_write_57 h2122 h2097)
            refine mr_lvS (lv' := [(0, .ref 21), (1, .ref a1), (2, iv p2), (3, iv p3), (4, iv p4), (5, iv z1989)]) (List.forall_mem_cons.mpr ⟨rfl, List.forall_mem_cons.mpr ⟨rfl, List.forall_mem_cons.mpr ⟨rfl, List.forall_mem_cons.mpr ⟨rfl, List.forall_mem_cons.mpr ⟨rfl, List.forall_mem_cons.mpr ⟨rfl, fun _ h => absurd h List.not_mem_nil⟩⟩⟩⟩⟩⟩) ?_
            exact J2120 μ2019 T2021 mF.refl (PC.keep I1996 hw ((mF.up mF.refl (A_21 hw) u2020 rfl) : mF [21006] w μ1990 μ2019) rfl) (RT.keep I1997 hw ((mF.up mF.refl (A_21 hw) u2020 rfl) : mF [21006] w μ1990 μ2019) rfl) (((((((W2067.2 h2066).2 h2072).2 h2081).1 h2090) b2092 q2093 A2094) z2095 q2096 h2097).1 h2122)
          have h2124 : 1 ≤ z2095 ∧ z2095 ≤ 20 := (vc_X12_write_59 h2122 h2097)
          refine sv_aload_n (pc := 218) dX1_doActs_218 rfl rfl ?_
          refine gk_X1_2 (pc := 219) dX1_doActs_219 wF_X1_25 (A_21 hw) q2093 ?_
          refine sv_aload_n (pc := 222) dX1_doActs_222 rfl rfl ?_
          refine gk_X1_2 (pc := 223) dX1_doActs_223 wF_X1_25 (A_21 hw) q2093 ?_
          refine gf_X7_0 (pc := 226) dX1_doActs_226 wF_X1_114 A2094 T2021 fun A2125 => ?_
          refine mr_iconst (pc := 229) (z := 0) dX1_doActs_229 ?_
          refine la_201 (pc := 230) dX1_doActs_230 A2125 T2021 (rIx (n := 20) (rR (x := 0)) rfl) fun z2126 q2127 h2128 => ?_
          refine mr_iload (pc := 231) (z := z2010) dX1_doActs_231 rfl ?_
          have W2134 := ((((((((W2067.2 h2066).2 h2072).2 h2081).1 h2090) b2092 q2093 A2094) z2095 q2096 h2097).2 h2122) z2126 q2127 h2128)
          refine mr_cVI (pc := 233) (c_X7_putInFront_W hw T2021 A2094 h2128 (rW (c := (-2147483648)) (d := 1000000) h2013 rfl) W2134) (gOk _ _ _ _ _) dX1_doActs_233 (tX7_putInFront _ _ _ _ _) ⟨wV_X7_putInFront, wL_X7_putInFront⟩ wM_X1_131 (gCX7 _ _ _ _ _) rfl A2094 rfl ⟨le_t rfl, le_t rfl⟩ ⟨le_t rfl, le_t rfl⟩ rfl (le_t rfl) fun z2133 μ2129 T2130 F2131 h2132 => ?_
          refine mr_if_ne (pc := 236) (tgt := 260) dX1_doActs_236 (by decide) (r32 h2132.1 rfl) (fun h2135 => ?_) (fun h2135 => ?_)
          · have h2136 : 1 ≤ z2133 ∧ z2133 ≤ 1 := (vc_X12_ring_24 h2135 h2132.1)
            refine mr_lvS (lv' := [(0, .ref 21), (1, .ref a1), (2, iv p2), (3, iv p3), (4, iv p4), (5, iv z1989)]) (List.forall_mem_cons.mpr ⟨rfl, List.forall_mem_cons.mpr ⟨rfl, List.forall_mem_cons.mpr ⟨rfl, List.forall_mem_cons.mpr ⟨rfl, List.forall_mem_cons.mpr ⟨rfl, List.forall_mem_cons.mpr ⟨rfl, fun _ h => absurd h List.not_mem_nil⟩⟩⟩⟩⟩⟩) ?_
            exact J2120 μ2129 T2130 (mF.call mF.refl F2131 rfl) (PC.keep I1996 hw ((mF.call (mF.up mF.refl (A_21 hw) u2020 rfl) F2131 rfl) : mF [21006, 200007, 201999] w μ1990 μ2129) rfl) (RT.keep I1997 hw ((mF.call (mF.up mF.refl (A_21 hw) u2020 rfl) F2131 rfl) : mF [21006, 200007, 201999] w μ1990 μ2129) rfl) (((h2132.2.1 T2130 F2131) h2132.1).1 h2135)
          have h2137 : 0 ≤ z2133 ∧ z2133 ≤ 0 := (vc_X12_ring_22 h2135 h2132.1)
          refine sv_aload_n (pc := 239) dX1_doActs_239 rfl rfl ?_
          refine mr_iconst (pc := 240) (z := 2) dX1_doActs_240 ?_
          refine pf_X1_7 (pc := 241) dX1_doActs_241 wF_X1_50 (A_21 hw) T2130 (rW (c := 0) (d := 2) (rR (x := 2)) rfl) fun μ2138 u2139 T2140 => ?_
          refine sv_goto (pc := 244) (tgt := 260) dX1_doActs_244 (by decide) ?_
          refine mr_lvS (lv' := [(0, .ref 21), (1, .ref a1), (2, iv p2), (3, iv p3), (4, iv p4), (5, iv z1989)]) (List.forall_mem_cons.mpr ⟨rfl, List.forall_mem_cons.mpr ⟨rfl, List.forall_mem_cons.mpr ⟨rfl, List.forall_mem_cons.mpr ⟨rfl, List.forall_mem_cons.mpr ⟨rfl, List.forall_mem_cons.mpr ⟨rfl, fun _ h => absurd h List.not_mem_nil⟩⟩⟩⟩⟩⟩) ?_
          exact J2120 μ2138 T2140 (mF.up (mF.call mF.refl F2131 rfl) (A_21 hw) u2139 rfl) (PC.keep I1996 hw ((mF.up (mF.call (mF.up mF.refl (A_21 hw) u2020 rfl) F2131 rfl) (A_21 hw) u2139 rfl) : mF [21006, 21007, 200007, 201999] w μ1990 μ2138) rfl) (RT.keep I1997 hw ((mF.up (mF.call (mF.up mF.refl (A_21 hw) u2020 rfl) F2131 rfl) (A_21 hw) u2139 rfl) : mF [21006, 21007, 200007, 201999] w μ1990 μ2138) rfl) ((((h2132.2.1 T2130 F2131) h2132.1).2 h2135) μ2138 u2139 T2140)
        by_cases h2141 : z2022 = 28
        · refine mr_tableIn (pc := 62) (v := 28) (tgt := 247) dX1_doActs_62 h2141 rfl rfl (by decide) ?_
          have h2142 : 28 ≤ z2022 ∧ z2022 ≤ 28 := (vc_X1_doActs_W12_33 h2141 h2057 h2059 h2061 h2066 h2072 h2081 h2090 h2024)
          refine sv_aload_n (pc := 247) dX1_doActs_247 rfl rfl ?_
          refine mr_iload (pc := 248) (z := z2010) dX1_doActs_248 rfl ?_
          refine mr_iload (pc := 250) (z := p4) dX1_doActs_250 rfl ?_
          refine mr_iconst (pc := 252) (z := 1) dX1_doActs_252 ?_
          refine mr_iadd (pc := 253) (x := p4) (y := 1) dX1_doActs_253 ?_
          refine mr_cVV (pc := 254) (c_X1_goThrough_W10 hw T2021 (rW (c := (-2147483648)) (d := 2147483647) h2013 rfl) (rAdd (e := 10) (f := 10) hp4 (rR (x := 1)) rfl) (PC.keep I1996 hw ((mF.up mF.refl (A_21 hw) u2020 rfl) : mF [21006] w μ1990 μ2019) rfl) (RT.keep I1997 hw ((mF.up mF.refl (A_21 hw) u2020 rfl) : mF [21006] w μ1990 μ2019) rfl) (((((W2067.2 h2066).2 h2072).2 h2081).2 h2090).1 h2141)) (gOk _ _ _ _ _) dX1_doActs_254 (tX1_goThrough _ _ _ _ _) ⟨wV_X1_goThrough, wL_X1_goThrough⟩ wM_X1_53 (gCX1 _ _ _ _ _) rfl (A_21 hw) rfl ⟨le_t rfl, le_t rfl⟩ ⟨le_t rfl, le_t rfl⟩ rfl (le_t rfl) fun μ2143 T2144 F2145 h2146 => ?_
          refine sv_goto (pc := 257) (tgt := 260) dX1_doActs_257 (by decide) ?_
          refine mr_iinc (pc := 260) (lv' := [(5, iv (z1989 + 1)), (6, iv z2010), (0, .ref 21), (1, .ref a1), (2, iv p2), (3, iv p3), (4, iv p4)]) dX1_doActs_260 rfl (by decide) rfl ?_
          refine sv_goto (pc := 263) (tgt := 3) dX1_doActs_263 (by decide) ?_
          refine mr_lvS (lv' := [(0, .ref 21), (1, .ref a1), (2, iv p2), (3, iv p3), (4, iv p4), (5, iv (z1989 + 1))]) (List.forall_mem_cons.mpr ⟨rfl, List.forall_mem_cons.mpr ⟨rfl, List.forall_mem_cons.mpr ⟨rfl, List.forall_mem_cons.mpr ⟨rfl, List.forall_mem_cons.mpr ⟨rfl, List.forall_mem_cons.mpr ⟨rfl, fun _ h => absurd h List.not_mem_nil⟩⟩⟩⟩⟩⟩) ?_
          exact ih2000 (z1989 + 1) μ2143 T2144 (mF.call (mF.up (mF.call mF.refl F1994 rfl) (A_21 hw) u2020 rfl) F2145 rfl) (rW (c := 0) (d := 1000) (rAdd (e := 1) (f := 1000) h2002 (rR (x := 1)) rfl) rfl) (PC.keep I1996 hw ((mF.call (mF.up mF.refl (A_21 hw) u2020 rfl) F2145 rfl) : mF [21006, 21007, 200004, 200006, 200007, 200008, 201999, 202999] w μ1990 μ2143) rfl) (RT.keep I1997 hw ((mF.call (mF.up mF.refl (A_21 hw) u2020 rfl) F2145 rfl) : mF [21006, 21007, 200004, 200006, 200007, 200008, 201999, 202999] w μ1990 μ2143) rfl) (vc_X1_doActs_W12_13 (nS h1998) h2001 h4 h3 hp2 h2003 h2002) (h2146.1 T2144 F2145)
        refine mr_tableOut (pc := 62) (tgt := 260) dX1_doActs_62 h2024 (vc_X1_doActs_W12_34 h2025 h2034 h2042 h2044 h2046 h2048 h2050 h2053 h2055 h2057 h2059 h2061 h2066 h2072 h2081 h2090 h2141 h2024) (by decide) ?_
        refine mr_iinc (pc := 260) (lv' := [(5, iv (z1989 + 1)), (6, iv z2010), (0, .ref 21), (1, .ref a1), (2, iv p2), (3, iv p3), (4, iv p4)]) dX1_doActs_260 rfl (by decide) rfl ?_
        refine sv_goto (pc := 263) (tgt := 3) dX1_doActs_263 (by decide) ?_
        refine mr_lvS (lv' := [(0, .ref 21), (1, .ref a1), (2, iv p2), (3, iv p3), (4, iv p4), (5, iv (z1989 + 1))]) (List.forall_mem_cons.mpr ⟨rfl, List.forall_mem_cons.mpr ⟨rfl, List.forall_mem_cons.mpr ⟨rfl, List.forall_mem_cons.mpr ⟨rfl, List.forall_mem_cons.mpr ⟨rfl, List.forall_mem_cons.mpr ⟨rfl, fun _ h => absurd h List.not_mem_nil⟩⟩⟩⟩⟩⟩) ?_
        exact ih2000 (z1989 + 1) μ2019 T2021 (mF.up (mF.call mF.refl F1994 rfl) (A_21 hw) u2020 rfl) (rW (c := 0) (d := 1000) (rAdd (e := 1) (f := 1000) h2002 (rR (x := 1)) rfl) rfl) (PC.keep I1996 hw ((mF.up mF.refl (A_21 hw) u2020 rfl) : mF [21006] w μ1990 μ2019) rfl) (RT.keep I1997 hw ((mF.up mF.refl (A_21 hw) u2020 rfl) : mF [21006] w μ1990 μ2019) rfl) (vc_X1_doActs_W12_13 (nS h1998) h2001 h4 h3 hp2 h2003 h2002) (((((W2067.2 h2066).2 h2072).2 h2081).2 h2090).2 h2141)
      have h2147 : 500 ≤ z2014 ∧ z2014 ≤ 500 := (vc_X1_doActs_W12_35 h2017 h2016)
      refine sv_aload_n (pc := 38) dX1_doActs_38 rfl rfl ?_
      refine mr_iconst (pc := 39) (z := 2) dX1_doActs_39 ?_
      refine pf_X1_7 (pc := 40) dX1_doActs_40 wF_X1_50 (A_21 hw) T1993 (rW (c := 0) (d := 2) (rR (x := 2)) rfl) fun μ2148 u2149 T2150 => ?_
      exact mr_vret dX1_doActs_43 rfl (le_t rfl) (le_t rfl) T2150 (mF.up (mF.call mF.refl F1994 rfl) (A_21 hw) u2149 rfl) ⟨((((((((W1999 z1989 μ1990 rfl h1992 T1993 F1994).2 h2001) z2004 q2005 h2006).2 h2007) z2010 q2011 h2012) z2014 q2015 h2016).2 h2017) μ2148 u2149 T2150), trivial⟩
  refine mr_lvS (lv' := [(0, .ref 21), (1, .ref a1), (2, iv p2), (3, iv p3), (4, iv p4), (5, iv 0)]) (List.forall_mem_cons.mpr ⟨rfl, List.forall_mem_cons.mpr ⟨rfl, List.forall_mem_cons.mpr ⟨rfl, List.forall_mem_cons.mpr ⟨rfl, List.forall_mem_cons.mpr ⟨rfl, List.forall_mem_cons.mpr ⟨rfl, fun _ h => absurd h List.not_mem_nil⟩⟩⟩⟩⟩⟩) ?_
  exact L1991 1002 0 μ hT mF.refl (rW (c := 0) (d := 1000) (rR (x := 0)) rfl) hIPC hIRT vc_X6_split_v_102 (hQ n_1 q2 h3)
def WJ_X1_goThrough_W9_3 (w : mW) (p2 : Int) (c13 : Nat) (rec1 : (Int × Int × mM) → Prop) (z1190 : Int) (z1189 : Int) (μ1191 : mM) (z1340 : Int) (z1343 : Int) (z1468 : Int) : Prop := ((z1468 = 0) → rec1 ((((z1190 + 2) + (z1340 * 5)) + (z1343 * 2)), (z1189 + 1), μ1191)) ∧ ((¬ z1468 = 0) → WP_X1_doActs_W9 w μ1191 c13 ((z1190 + 2) + (z1340 * 5)) z1343 p2 (fun μ1505 => mT w μ1505 → mF [21006, 21007, 200004, 200006, 200007, 200008, 201999, 202999] w μ1191 μ1505 → rec1 ((((z1190 + 2) + (z1340 * 5)) + (z1343 * 2)), (z1189 + 1), μ1505)))
def WL_X1_goThrough_W9_2 (w : mW) (p2 : Int) (b10 : Nat) (c13 : Nat) (rec1 : (Int × Int × mM) → Prop) (z1190 : Int) (z1189 : Int) (μ1191 : mM) (z1340 : Int) (z1343 : Int) (rec2 : (Int × Int) → Prop) (s : (Int × Int)) : Prop := ∀ z1468 : Int, ∀ z1467 : Int, s = (z1468, z1467) → (0 ≤ z1468 ∧ z1468 ≤ 1) → (2 ≤ z1467 ∧ z1467 ≤ 2010) → ((((z1190 + 2) + (z1340 * 5)) ≤ z1467) → (WJ_X1_goThrough_W9_3 w p2 c13 rec1 z1190 z1189 μ1191 z1340 z1343 z1468) ) ∧ ((z1467 < ((z1190 + 2) + (z1340 * 5))) → ((z1468 = 0) → (WJ_X1_goThrough_W9_3 w p2 c13 rec1 z1190 z1189 μ1191 z1340 z1343 z1468) ) ∧ ((¬ z1468 = 0) → WP_X1_isSo_W w μ1191 b10 z1467 (fun z1517 _ => (0 ≤ z1517 ∧ z1517 ≤ 1) → ∀ z1518 : Int, μ1191 c13 ((z1467 + 1).toNat) = z1518 → ((-2147483648) ≤ z1518 ∧ z1518 ≤ 2147483647) → ((¬ z1518 = 1) → ((z1517 = 0) → rec2 ((0 : Int), (z1467 + 5))) ∧ ((¬ z1517 = 0) → rec2 ((1 : Int), (z1467 + 5)))) ∧ ((z1518 = 1) → ((z1517 = 1) → rec2 ((0 : Int), (z1467 + 5))) ∧ ((¬ z1517 = 1) → rec2 ((1 : Int), (z1467 + 5)))))))
def WL_X1_goThrough_W9_1 (w : mW) (μ : mM) (p2 : Int) (Q : mM → Prop) (b10 : Nat) (c13 : Nat) (z14 : Int) (rec1 : (Int × Int × mM) → Prop) (s : (Int × Int × mM)) : Prop := ∀ z1190 : Int, ∀ z1189 : Int, ∀ μ1191 : mM, s = (z1190, z1189, μ1191) → (0 ≤ z1190 ∧ z1190 ≤ 2000) → (0 ≤ z1189 ∧ z1189 ≤ 30) → mT w μ1191 → mF [21006, 21007, 200004, 200006, 200007, 200008, 201999, 202999] w μ μ1191 → ((z14 ≤ z1189) → Q μ1191) ∧ ((z1189 < z14) → ∀ z1271 : Int, μ1191 21 7 = z1271 → (0 ≤ z1271 ∧ z1271 ≤ 2) → ((¬ z1271 = 0) → Q μ1191) ∧ ((z1271 = 0) → ∀ n_1336 : Int, (w.2.2.1 c13 : Int) = n_1336 → (0 ≤ n_1336 ∧ n_1336 ≤ 2000) → ∀ z1340 : Int, μ1191 c13 (z1190.toNat) = z1340 → ((-2147483648) ≤ z1340 ∧ z1340 ≤ 2147483647) → ∀ z1343 : Int, μ1191 c13 ((z1190 + 1).toNat) = z1343 → ((-2147483648) ≤ z1343 ∧ z1343 ≤ 2147483647) → loopF (WL_X1_goThrough_W9_2 w p2 b10 c13 rec1 z1190 z1189 μ1191 z1340 z1343) False 2010 ((1 : Int), (z1190 + 2))))
def WP_X1_goThrough_W9 (w : mW) (μ : mM) (p1 : Int) (p2 : Int) (Q : mM → Prop) : Prop := ((p1 < 0) → Q μ) ∧ ((0 ≤ p1) → ∀ z4 : Int, μ 21 8 = z4 → (z4 = w.2.2.2 2 ∧ 0 ≤ z4 ∧ z4 ≤ 12) → ((z4 ≤ p1) → Q μ) ∧ ((p1 < z4) → ∀ b10 : Nat, μ 22 (p1.toNat) = (b10 : Int) → mAt w b10 230 → ∀ c13 : Nat, μ b10 1 = (c13 : Int) → ∀ z14 : Int, μ b10 0 = z14 → loopF (WL_X1_goThrough_W9_1 w μ p2 Q b10 c13 z14) False 2002 ((0 : Int), (0 : Int), μ)))
theorem vc_X1_goThrough_W9_5 {p2 : Int} (h0 : 12 < p2) (h1 : 9 ≤ p2 ∧ p2 ≤ 9) : False := by omega
set_option maxRecDepth 4000 in
set_option maxHeartbeats 4000000 in
theorem c_X1_goThrough_W9 {l : Launch} {D : va_G} {c : Nat → ClassId} {H0 : Heap} {sa : Nat × Nat × (Nat → Int32)} {w : mW} {μ : mM} (hw : mWF w) (hT : mT w μ) {p1 : Int} (hp1 : (-2147483648) ≤ p1 ∧ p1 ≤ 2147483647) {p2 : Int} (hp2 : 9 ≤ p2 ∧ p2 ≤ 9) (hIPC : PC w μ) (hIRT : RT μ) {Q : mM → Prop} (hQ : WP_X1_goThrough_W9 w μ p1 p2 Q) : sC (gG l D c H0 sa) mX1_goThrough 11 0 0 [.ref 21, iv p1, iv p2] (mk w μ) (qV w [21006, 21007, 200004, 200006, 200007, 200008, 201999, 202999] μ (fun μ1 => Q μ1 ∧ True)) := by
  refine sC.of rfl (by decide) (le_t rfl) ?_
  refine mr_lvE (lv' := [(0, .ref 21), (1, iv p1), (2, iv p2)]) rfl ?_
  refine mr_iload_n (pc := 0) (z := p1) dX1_goThrough_0 rfl rfl ?_
  refine mr_if_lt (pc := 1) (tgt := 18) dX1_goThrough_1 (by decide) hp1 (fun h1 => ?_) (fun h1 => ?_)
  · have h2 : (-2147483648) ≤ p1 ∧ p1 ≤ (-1) := (vc_X12_ring_60 h1 hp1)
    exact mr_vret dX1_goThrough_18 rfl (le_t rfl) (le_t rfl) hT mF.refl ⟨(hQ.1 h1), trivial⟩
  have h3 : 0 ≤ p1 ∧ p1 ≤ 2147483647 := (vc_X12_ring_1 h1 hp1)
  refine mr_iload_n (pc := 4) (z := p1) dX1_goThrough_4 rfl rfl ?_
  refine sv_aload_n (pc := 5) dX1_goThrough_5 rfl rfl ?_
  refine gf_X1_8 (pc := 6) dX1_goThrough_6 wF_X1_21 (A_21 hw) hT fun z4 q5 h6 => ?_
  refine mr_icmp_ge (pc := 9) (tgt := 18) dX1_goThrough_9 (by decide) (r32 h3 rfl) (r32 h6.2 rfl) (fun h7 => ?_) (fun h7 => ?_)
  · exact mr_vret dX1_goThrough_18 rfl (le_t rfl) (le_t rfl) hT mF.refl ⟨(((hQ.2 h1) z4 q5 h6).1 h7), trivial⟩
  have h8 : 0 ≤ p1 ∧ p1 ≤ 11 := (vc_X1_goThrough_W13_3 h7 h1 h6.1 h3 h6.2)
  have h9 : 1 ≤ z4 ∧ z4 ≤ 12 := (vc_X1_goThrough_W13_4 h7 h1 h6.1 h8 h6.2)
  refine mr_iload_n (pc := 12) (z := p2) dX1_goThrough_12 rfl rfl ?_
  refine mr_bipush (pc := 13) (z := 12) dX1_goThrough_13 (by decide) ?_
  refine mr_icmp_le (pc := 15) (tgt := 19) dX1_goThrough_15 (by decide) (r32 hp2 rfl) (r32 (rR (x := 12)) rfl) (fun _ => ?_) (fun h => ((vc_X1_goThrough_W9_5 h hp2)).elim)
  refine sv_aload_n (pc := 19) dX1_goThrough_19 rfl rfl ?_
  refine gf_X1_1 (pc := 20) dX1_goThrough_20 wF_X1_17 (A_21 hw) hT ?_
  refine mr_iload_n (pc := 23) (z := p1) dX1_goThrough_23 rfl rfl ?_
  refine la_22 (pc := 24) dX1_goThrough_24 (A_22 hw) hT (rIx (n := 12) h8 rfl) (vc_X1_goThrough_W12_6 h1 h6.1 h7 h8 h9) fun b10 q11 A12 => ?_
  refine mr_astore_n (pc := 25) (lv' := [(3, .ref b10), (0, .ref 21), (1, iv p1), (2, iv p2)]) dX1_goThrough_25 rfl (by decide) rfl ?_
  obtain ⟨c13, z14, q15, A16, q17, R18, e19, e20⟩ := PC.read hIPC hT A12 (vc_X1_goThrough_W12_7 h1 h7 h6.1 h8 h9) (vc_X1_goThrough_W12_6 h1 h6.1 h7 h8 h9) q11
  have h21 : 0 ≤ z14 ∧ z14 ≤ 30 := by rw [← q17]; exact hT _ _ A12 0
  refine mr_iconst (pc := 26) (z := 0) dX1_goThrough_26 ?_
  refine mr_istore (pc := 27) (lv' := [(4, iv 0), (3, .ref b10), (0, .ref 21), (1, iv p1), (2, iv p2)]) dX1_goThrough_27 (by decide) rfl ?_
  refine mr_iconst (pc := 29) (z := 0) dX1_goThrough_29 ?_
  refine mr_istore (pc := 30) (lv' := [(5, iv 0), (4, iv 0), (3, .ref b10), (0, .ref 21), (1, iv p1), (2, iv p2)]) dX1_goThrough_30 (by decide) rfl ?_
  have L1192 : ∀ (nL1192 : Nat) (z1190 z1189 : Int) (μ1191 : mM), mT w μ1191 → mF [21006, 21007, 200004, 200006, 200007, 200008, 201999, 202999] w μ μ1191 → (0 ≤ z1190 ∧ z1190 ≤ 2000) → (0 ≤ z1189 ∧ z1189 ≤ 30) → PC w μ1191 → RT μ1191 → wfR (μ c13) (w.2.2.1 c13) (z1190).toNat (z14 - z1189).toNat → (2001 - z1190) < (nL1192 : Int) → loopF (WL_X1_goThrough_W9_1 w μ p2 Q b10 c13 z14) False nL1192 (z1190, z1189, μ1191) → sV (gG l D c H0 sa) mX1_goThrough (sRm 11 0 0) (sZ (gG l D c H0 sa) 0 0 (qV w [21006, 21007, 200004, 200006, 200007, 200008, 201999, 202999] μ (fun μ1 => Q μ1 ∧ True))) 32 [(0, .ref 21), (2, iv p2), (3, .ref b10), (4, iv z1190), (5, iv z1189)] [] (mk w μ1191) 0 0 := by
    intro nL1192
    induction nL1192 with
    | zero => intro z1190 z1189 μ1191 T1195 F1196 h1193 h1194 I1198 I1199 R1200 h1201 W1202; exact ((vc_X1_goThrough_W12_8 h1201 h1193)).elim
    | succ nL1192 ih1203 =>
      intro z1190 z1189 μ1191 T1195 F1196 h1193 h1194 I1198 I1199 R1200 h1201 W1202
      refine mr_iload (pc := 32) (z := z1189) dX1_goThrough_32 rfl ?_
      refine sv_aload_n (pc := 34) dX1_goThrough_34 rfl rfl ?_
      refine gk_X5_0 (pc := 35) dX1_goThrough_35 wF_X1_57 A12 (F1196.f A12 rfl q17) ?_
      refine mr_icmp_ge (pc := 38) (tgt := 174) dX1_goThrough_38 (by decide) (r32 h1194 rfl) (r32 h21 rfl) (fun h1268 => ?_) (fun h1268 => ?_)
      · exact mr_vret dX1_goThrough_174 rfl (le_t rfl) (le_t rfl) T1195 (mF.call mF.refl F1196 rfl) ⟨((W1202 z1190 z1189 μ1191 rfl h1193 h1194 T1195 F1196).1 h1268), trivial⟩
      have h1269 : 0 ≤ z1189 ∧ z1189 ≤ 29 := (vc_X12_judgedAnew_2 h1268 h1194 h21)
      have h1270 : 1 ≤ z14 ∧ z14 ≤ 30 := (vc_X12_judgedAnew_3 h1268 h1269 h21)
      refine sv_aload_n (pc := 41) dX1_goThrough_41 rfl rfl ?_
      refine gf_X1_7 (pc := 42) dX1_goThrough_42 wF_X1_50 (A_21 hw) T1195 fun z1271 q1272 h1273 => ?_
      refine mr_if_ne (pc := 45) (tgt := 174) dX1_goThrough_45 (by decide) (r32 h1273 rfl) (fun h1333 => ?_) (fun h1333 => ?_)
      · have h1334 : 1 ≤ z1271 ∧ z1271 ≤ 2 := (vc_X12_provides_3 h1333 h1273)
        exact mr_vret dX1_goThrough_174 rfl (le_t rfl) (le_t rfl) T1195 (mF.call mF.refl F1196 rfl) ⟨((((W1202 z1190 z1189 μ1191 rfl h1193 h1194 T1195 F1196).2 h1268) z1271 q1272 h1273).1 h1333), trivial⟩
      have h1335 : 0 ≤ z1271 ∧ z1271 ≤ 0 := (vc_X12_provides_4 h1333 h1273)
      obtain ⟨n_1336, q1337⟩ : ∃ n : Int, (w.2.2.1 c13 : Int) = n := ⟨_, rfl⟩
      have h1338 : 0 ≤ n_1336 ∧ n_1336 ≤ 2000 := lnR (m := 2000) q1337 A16 rfl
      have h1339 : z1190 + 1 < n_1336 := lnLt q1337 (wfR.hd R1200 (vc_X1_goThrough_W12_13 h1193) (vc_X1_goThrough_W12_14 h1268 h1269 h1270))
      refine sv_aload_n (pc := 48) dX1_goThrough_48 rfl rfl ?_
      refine gk_X5_1 (pc := 49) dX1_goThrough_49 wF_X1_60 A12 (F1196.f A12 rfl q15) ?_
      refine mr_iload (pc := 52) (z := z1190) dX1_goThrough_52 rfl ?_
      refine la_231 (pc := 54) dX1_goThrough_54 A16 T1195 (lnC q1337 (vc_X1_goThrough_W12_15 h1339 h1338 h1193)) fun z1340 q1341 h1342 => ?_
      refine mr_istore (pc := 55) (lv' := [(6, iv z1340), (0, .ref 21), (2, iv p2), (3, .ref b10), (4, iv z1190), (5, iv z1189)]) dX1_goThrough_55 (by decide) rfl ?_
      refine sv_aload_n (pc := 57) dX1_goThrough_57 rfl rfl ?_
      refine gk_X5_1 (pc := 58) dX1_goThrough_58 wF_X1_60 A12 (F1196.f A12 rfl q15) ?_
      refine mr_iload (pc := 61) (z := z1190) dX1_goThrough_61 rfl ?_
      refine mr_iconst (pc := 63) (z := 1) dX1_goThrough_63 ?_
      refine mr_iadd (pc := 64) (x := z1190) (y := 1) dX1_goThrough_64 ?_
      refine la_231 (pc := 65) dX1_goThrough_65 A16 T1195 (lnC q1337 (vc_X1_goThrough_W12_16 h1339 h1338 h1193)) fun z1343 q1344 h1345 => ?_
      have B1346 := wfR.bd R1200 (vc_X1_goThrough_W12_13 h1193) (vc_X1_goThrough_W12_14 h1268 h1269 h1270) ((((mF.call mF.refl F1196 rfl) : mF [21006, 21007, 200004, 200006, 200007, 200008, 201999, 202999] w μ μ1191).f A16 rfl rfl).symm.trans q1341) ((((mF.call mF.refl F1196 rfl) : mF [21006, 21007, 200004, 200006, 200007, 200008, 201999, 202999] w μ μ1191).f A16 rfl rfl).symm.trans q1344)
      have h1347 : 0 ≤ z1340 ∧ 0 ≤ z1343 ∧ z1190 + 2 + 5 * z1340 + 2 * z1343 ≤ n_1336 := ⟨B1346.1.1, B1346.1.2.1, lnLe q1337 B1346.1.2.2⟩
      have h1348 : 0 ≤ z1340 ∧ z1340 ≤ 400 := (vc_X1_goThrough_W12_17 h1347 h1339 h1338 h1193 h1342 h1345)
      have h1349 : 0 ≤ z1343 ∧ z1343 ≤ 1000 := (vc_X1_goThrough_W12_18 h1347 h1339 h1338 h1193 h1348 h1345)
      refine mr_istore (pc := 66) (lv' := [(7, iv z1343), (6, iv z1340), (0, .ref 21), (2, iv p2), (3, .ref b10), (4, iv z1190), (5, iv z1189)]) dX1_goThrough_66 (by decide) rfl ?_
      refine mr_iload (pc := 68) (z := z1190) dX1_goThrough_68 rfl ?_
      refine mr_iconst (pc := 70) (z := 2) dX1_goThrough_70 ?_
      refine mr_iadd (pc := 71) (x := z1190) (y := 2) dX1_goThrough_71 ?_
      refine mr_iload (pc := 72) (z := z1340) dX1_goThrough_72 rfl ?_
      refine mr_iconst (pc := 74) (z := 5) dX1_goThrough_74 ?_
      refine mr_imul (pc := 75) (x := z1340) (y := 5) dX1_goThrough_75 ?_
      refine mr_iadd (pc := 76) (x := (z1190 + 2)) (y := (z1340 * 5)) dX1_goThrough_76 ?_
      refine mr_istore (pc := 77) (lv' := [(8, iv ((z1190 + 2) + (z1340 * 5))), (7, iv z1343), (6, iv z1340), (0, .ref 21), (2, iv p2), (3, .ref b10), (4, iv z1190), (5, iv z1189)]) dX1_goThrough_77 (by decide) rfl ?_
      refine mr_iconst (pc := 79) (z := 1) dX1_goThrough_79 ?_
      refine mr_istore (pc := 80) (lv' := [(9, iv 1), (8, iv ((z1190 + 2) + (z1340 * 5))), (7, iv z1343), (6, iv z1340), (0, .ref 21), (2, iv p2), (3, .ref b10), (4, iv z1190), (5, iv z1189)]) dX1_goThrough_80 (by decide) rfl ?_
      refine mr_iload (pc := 82) (z := z1190) dX1_goThrough_82 rfl ?_
      refine mr_iconst (pc := 84) (z := 2) dX1_goThrough_84 ?_
      refine mr_iadd (pc := 85) (x := z1190) (y := 2) dX1_goThrough_85 ?_
      refine mr_istore (pc := 86) (lv' := [(10, iv (z1190 + 2)), (9, iv 1), (8, iv ((z1190 + 2) + (z1340 * 5))), (7, iv z1343), (6, iv z1340), (0, .ref 21), (2, iv p2), (3, .ref b10), (4, iv z1190), (5, iv z1189)]) dX1_goThrough_86 (by decide) rfl ?_
      have L1469 : ∀ (nL1469 : Nat) (z1468 z1467 : Int), True → (0 ≤ z1468 ∧ z1468 ≤ 1) → (2 ≤ z1467 ∧ z1467 ≤ 2010) → ((((z1190 + 2) + (z1340 * 5)) - z1467) % 5 = 0) → (2011 - z1467) < (nL1469 : Int) → loopF (WL_X1_goThrough_W9_2 w p2 b10 c13 (loopF (WL_X1_goThrough_W9_1 w μ p2 Q b10 c13 z14) False nL1192) z1190 z1189 μ1191 z1340 z1343) False nL1469 (z1468, z1467) → sV (gG l D c H0 sa) mX1_goThrough (sRm 11 0 0) (sZ (gG l D c H0 sa) 0 0 (qV w [21006, 21007, 200004, 200006, 200007, 200008, 201999, 202999] μ (fun μ1 => Q μ1 ∧ True))) 88 [(0, .ref 21), (2, iv p2), (3, .ref b10), (5, iv z1189), (7, iv z1343), (8, iv ((z1190 + 2) + (z1340 * 5))), (9, iv z1468), (10, iv z1467)] [] (mk w μ1191) 0 0 := by
        intro nL1469
        induction nL1469 with
        | zero => intro z1468 z1467 _ h1470 h1471 h1475 h1476 W1477; exact ((vc_X1_goThrough_W12_19 h1476 h1475 h1339 h1347 h1338 h1193 h1348 h1349 h1471)).elim
        | succ nL1469 ih1478 =>
          intro z1468 z1467 _ h1470 h1471 h1475 h1476 W1477
          refine mr_iload (pc := 88) (z := z1467) dX1_goThrough_88 rfl ?_
          refine mr_iload (pc := 90) (z := ((z1190 + 2) + (z1340 * 5))) dX1_goThrough_90 rfl ?_
          have J1494 : ((WJ_X1_goThrough_W9_3 w p2 c13 (loopF (WL_X1_goThrough_W9_1 w μ p2 Q b10 c13 z14) False nL1192) z1190 z1189 μ1191 z1340 z1343 z1468) ) → sV (gG l D c H0 sa) mX1_goThrough (sRm 11 0 0) (sZ (gG l D c H0 sa) 0 0 (qV w [21006, 21007, 200004, 200006, 200007, 200008, 201999, 202999] μ (fun μ1 => Q μ1 ∧ True))) 141 [(0, .ref 21), (2, iv p2), (3, .ref b10), (5, iv z1189), (7, iv z1343), (8, iv ((z1190 + 2) + (z1340 * 5))), (9, iv z1468)] [] (mk w μ1191) 0 0 := by
            intro W1495
            refine mr_iload (pc := 141) (z := z1468) dX1_goThrough_141 rfl ?_
            refine mr_if_eq (pc := 143) (tgt := 159) dX1_goThrough_143 (by decide) (r32 h1470 rfl) (fun h1502 => ?_) (fun h1502 => ?_)
            · have h1503 : 0 ≤ z1468 ∧ z1468 ≤ 0 := (vc_X12_ring_22 h1502 h1470)
              refine mr_iload (pc := 159) (z := ((z1190 + 2) + (z1340 * 5))) dX1_goThrough_159 rfl ?_
              refine mr_iload (pc := 161) (z := z1343) dX1_goThrough_161 rfl ?_
              refine mr_iconst (pc := 163) (z := 2) dX1_goThrough_163 ?_
              refine mr_imul (pc := 164) (x := z1343) (y := 2) dX1_goThrough_164 ?_
              refine mr_iadd (pc := 165) (x := ((z1190 + 2) + (z1340 * 5))) (y := (z1343 * 2)) dX1_goThrough_165 ?_
              refine mr_istore (pc := 166) (lv' := [(4, iv (((z1190 + 2) + (z1340 * 5)) + (z1343 * 2))), (0, .ref 21), (2, iv p2), (3, .ref b10), (5, iv z1189), (7, iv z1343), (8, iv ((z1190 + 2) + (z1340 * 5))), (9, iv z1468)]) dX1_goThrough_166 (by decide) rfl ?_
              refine mr_iinc (pc := 168) (lv' := [(5, iv (z1189 + 1)), (4, iv (((z1190 + 2) + (z1340 * 5)) + (z1343 * 2))), (0, .ref 21), (2, iv p2), (3, .ref b10), (7, iv z1343), (8, iv ((z1190 + 2) + (z1340 * 5))), (9, iv z1468)]) dX1_goThrough_168 rfl (by decide) rfl ?_
              refine sv_goto (pc := 171) (tgt := 32) dX1_goThrough_171 (by decide) ?_
              refine mr_lvS (lv' := [(0, .ref 21), (2, iv p2), (3, .ref b10), (4, iv (((z1190 + 2) + (z1340 * 5)) + (z1343 * 2))), (5, iv (z1189 + 1))]) (List.forall_mem_cons.mpr ⟨rfl, List.forall_mem_cons.mpr ⟨rfl, List.forall_mem_cons.mpr ⟨rfl, List.forall_mem_cons.mpr ⟨rfl, List.forall_mem_cons.mpr ⟨rfl, fun _ h => absurd h List.not_mem_nil⟩⟩⟩⟩⟩) ?_
              exact ih1203 (((z1190 + 2) + (z1340 * 5)) + (z1343 * 2)) (z1189 + 1) μ1191 T1195 (mF.call mF.refl F1196 rfl) (vc_X1_goThrough_W12_21 h1339 h1347 h1475 h1338 h1193 h1348 h1349 h1471) (rW (c := 0) (d := 30) (rAdd (e := 1) (f := 30) h1269 (rR (x := 1)) rfl) rfl) I1198 I1199 (wfR.cg B1346.2.2 (vc_X1_goThrough_W12_23 h1339 h1347 h1475 h1338 h1193 h1348 h1349 h1471)) (vc_X1_goThrough_W12_22 (nS h1201) h1339 h1347 h1475 h1338 h1193 h1348 h1349 h1471) ((W1495).1 h1502)
            have h1504 : 1 ≤ z1468 ∧ z1468 ≤ 1 := (vc_X12_ring_24 h1502 h1470)
            refine sv_aload_n (pc := 146) dX1_goThrough_146 rfl rfl ?_
            refine sv_aload_n (pc := 147) dX1_goThrough_147 rfl rfl ?_
            refine gk_X5_1 (pc := 148) dX1_goThrough_148 wF_X1_60 A12 (F1196.f A12 rfl q15) ?_
            refine mr_iload (pc := 151) (z := ((z1190 + 2) + (z1340 * 5))) dX1_goThrough_151 rfl ?_
            refine mr_iload (pc := 153) (z := z1343) dX1_goThrough_153 rfl ?_
            refine mr_iload_n (pc := 155) (z := p2) dX1_goThrough_155 rfl rfl ?_
            refine mr_cVV (pc := 156) (c_X1_doActs_W9 hw T1195 A16 (vc_X1_goThrough_W12_25 h1339 h1347 h1475 h1338 h1193 h1348 h1349 h1471) h1349 hp2 I1198 I1199 (lnL q1337 (vc_X1_goThrough_W12_26 h1339 h1347 h1475 h1338 h1193 h1348 h1349 h1471)) (argC B1346.2.1 (vc_X1_goThrough_W12_27 h1339 h1347 h1475 h1338 h1193 h1348 h1349 h1471) (funext fun i => ((mF.call mF.refl F1196 rfl) : mF [21006, 21007, 200004, 200006, 200007, 200008, 201999, 202999] w μ μ1191).f A16 rfl rfl)) ((W1495).2 h1502)) (gOk _ _ _ _ _) dX1_goThrough_156 (tX1_doActs _ _ _ _ _) ⟨wV_X1_doActs, wL_X1_doActs⟩ wM_X1_68 (gCX1 _ _ _ _ _) rfl (A_21 hw) rfl ⟨le_t rfl, le_t rfl⟩ ⟨le_t rfl, le_t rfl⟩ rfl (le_t rfl) fun μ1505 T1506 F1507 h1508 => ?_
            refine mr_iload (pc := 159) (z := ((z1190 + 2) + (z1340 * 5))) dX1_goThrough_159 rfl ?_
            refine mr_iload (pc := 161) (z := z1343) dX1_goThrough_161 rfl ?_
            refine mr_iconst (pc := 163) (z := 2) dX1_goThrough_163 ?_
            refine mr_imul (pc := 164) (x := z1343) (y := 2) dX1_goThrough_164 ?_
            refine mr_iadd (pc := 165) (x := ((z1190 + 2) + (z1340 * 5))) (y := (z1343 * 2)) dX1_goThrough_165 ?_
            refine mr_istore (pc := 166) (lv' := [(4, iv (((z1190 + 2) + (z1340 * 5)) + (z1343 * 2))), (0, .ref 21), (2, iv p2), (3, .ref b10), (5, iv z1189), (7, iv z1343), (8, iv ((z1190 + 2) + (z1340 * 5))), (9, iv z1468)]) dX1_goThrough_166 (by decide) rfl ?_
            refine mr_iinc (pc := 168) (lv' := [(5, iv (z1189 + 1)), (4, iv (((z1190 + 2) + (z1340 * 5)) + (z1343 * 2))), (0, .ref 21), (2, iv p2), (3, .ref b10), (7, iv z1343), (8, iv ((z1190 + 2) + (z1340 * 5))), (9, iv z1468)]) dX1_goThrough_168 rfl (by decide) rfl ?_
            refine sv_goto (pc := 171) (tgt := 32) dX1_goThrough_171 (by decide) ?_
            refine mr_lvS (lv' := [(0, .ref 21), (2, iv p2), (3, .ref b10), (4, iv (((z1190 + 2) + (z1340 * 5)) + (z1343 * 2))), (5, iv (z1189 + 1))]) (List.forall_mem_cons.mpr ⟨rfl, List.forall_mem_cons.mpr ⟨rfl, List.forall_mem_cons.mpr ⟨rfl, List.forall_mem_cons.mpr ⟨rfl, List.forall_mem_cons.mpr ⟨rfl, fun _ h => absurd h List.not_mem_nil⟩⟩⟩⟩⟩) ?_
            exact ih1203 (((z1190 + 2) + (z1340 * 5)) + (z1343 * 2)) (z1189 + 1) μ1505 T1506 (mF.call (mF.call mF.refl F1196 rfl) F1507 rfl) (vc_X1_goThrough_W12_21 h1339 h1347 h1475 h1338 h1193 h1348 h1349 h1471) (rW (c := 0) (d := 30) (rAdd (e := 1) (f := 30) h1269 (rR (x := 1)) rfl) rfl) (PC.keep I1198 hw ((mF.call mF.refl F1507 rfl) : mF [21006, 21007, 200004, 200006, 200007, 200008, 201999, 202999] w μ1191 μ1505) rfl) (RT.keep I1199 hw ((mF.call mF.refl F1507 rfl) : mF [21006, 21007, 200004, 200006, 200007, 200008, 201999, 202999] w μ1191 μ1505) rfl) (wfR.cg B1346.2.2 (vc_X1_goThrough_W12_23 h1339 h1347 h1475 h1338 h1193 h1348 h1349 h1471)) (vc_X1_goThrough_W12_22 (nS h1201) h1339 h1347 h1475 h1338 h1193 h1348 h1349 h1471) (h1508.1 T1506 F1507)
          refine mr_icmp_ge (pc := 92) (tgt := 141) dX1_goThrough_92 (by decide) (r32 h1471 rfl) (r32 (rAdd (e := 2) (f := 4002) (rAdd (e := 2) (f := 2002) h1193 (rR (x := 2)) rfl) (rMulR (n := 5) (e := 0) (f := 2000) h1348 rfl) rfl) rfl) (fun h1509 => ?_) (fun h1509 => ?_)
          · refine mr_lvS (lv' := [(0, .ref 21), (2, iv p2), (3, .ref b10), (5, iv z1189), (7, iv z1343), (8, iv ((z1190 + 2) + (z1340 * 5))), (9, iv z1468)]) (List.forall_mem_cons.mpr ⟨rfl, List.forall_mem_cons.mpr ⟨rfl, List.forall_mem_cons.mpr ⟨rfl, List.forall_mem_cons.mpr ⟨rfl, List.forall_mem_cons.mpr ⟨rfl, List.forall_mem_cons.mpr ⟨rfl, List.forall_mem_cons.mpr ⟨rfl, fun _ h => absurd h List.not_mem_nil⟩⟩⟩⟩⟩⟩⟩) ?_
            exact J1494 ((W1477 z1468 z1467 rfl h1470 h1471).1 h1509)
          refine mr_iload (pc := 95) (z := z1468) dX1_goThrough_95 rfl ?_
          refine mr_if_eq (pc := 97) (tgt := 141) dX1_goThrough_97 (by decide) (r32 h1470 rfl) (fun h1510 => ?_) (fun h1510 => ?_)
          · have h1511 : 0 ≤ z1468 ∧ z1468 ≤ 0 := (vc_X12_ring_22 h1510 h1470)
            refine mr_lvS (lv' := [(0, .ref 21), (2, iv p2), (3, .ref b10), (5, iv z1189), (7, iv z1343), (8, iv ((z1190 + 2) + (z1340 * 5))), (9, iv z1468)]) (List.forall_mem_cons.mpr ⟨rfl, List.forall_mem_cons.mpr ⟨rfl, List.forall_mem_cons.mpr ⟨rfl, List.forall_mem_cons.mpr ⟨rfl, List.forall_mem_cons.mpr ⟨rfl, List.forall_mem_cons.mpr ⟨rfl, List.forall_mem_cons.mpr ⟨rfl, fun _ h => absurd h List.not_mem_nil⟩⟩⟩⟩⟩⟩⟩) ?_
            exact J1494 (((W1477 z1468 z1467 rfl h1470 h1471).2 h1509).1 h1510)
          have h1512 : 1 ≤ z1468 ∧ z1468 ≤ 1 := (vc_X12_ring_24 h1510 h1470)
          refine sv_aload_n (pc := 100) dX1_goThrough_100 rfl rfl ?_
          refine sv_aload_n (pc := 101) dX1_goThrough_101 rfl rfl ?_
          refine mr_iload (pc := 102) (z := z1467) dX1_goThrough_102 rfl ?_
          refine mr_cVP (pc := 104) (c_X1_isSo_W hw T1195 A12 (vc_X1_goThrough_W12_28 h1475 h1509 h1339 h1347 h1338 h1193 h1348 h1349 h1471) I1199 (lnF (F1196.f A12 rfl q15) q1337 (vc_X1_goThrough_W12_29 h1339 h1347 h1475 h1509 h1338 h1193 h1348 h1349 h1471)) (by rw [((mF.call mF.refl F1196 rfl) : mF [21006, 21007, 200004, 200006, 200007, 200008, 201999, 202999] w μ μ1191).f (k := 2) A12 rfl rfl, ((mF.call mF.refl F1196 rfl) : mF [21006, 21007, 200004, 200006, 200007, 200008, 201999, 202999] w μ μ1191).f (k := 3) A12 rfl rfl]; exact e19) (by rw [((mF.call mF.refl F1196 rfl) : mF [21006, 21007, 200004, 200006, 200007, 200008, 201999, 202999] w μ μ1191).f (k := 4) A12 rfl rfl, ((mF.call mF.refl F1196 rfl) : mF [21006, 21007, 200004, 200006, 200007, 200008, 201999, 202999] w μ μ1191).f (k := 5) A12 rfl rfl]; exact e20) (((W1477 z1468 z1467 rfl h1470 h1471).2 h1509).2 h1510)) (gOk _ _ _ _ _) dX1_goThrough_104 (tX1_isSo _ _ _ _ _) ⟨wV_X1_isSo, wL_X1_isSo⟩ wM_X1_64 (gCX1 _ _ _ _ _) rfl (A_21 hw) rfl ⟨le_t rfl, le_t rfl⟩ ⟨le_t rfl, le_t rfl⟩ rfl (le_t rfl) fun z1517 h1516 => ?_
          refine sv_aload_n (pc := 107) dX1_goThrough_107 rfl rfl ?_
          refine gk_X5_1 (pc := 108) dX1_goThrough_108 wF_X1_60 A12 (F1196.f A12 rfl q15) ?_
          refine mr_iload (pc := 111) (z := z1467) dX1_goThrough_111 rfl ?_
          refine mr_iconst (pc := 113) (z := 1) dX1_goThrough_113 ?_
          refine mr_iadd (pc := 114) (x := z1467) (y := 1) dX1_goThrough_114 ?_
          refine la_231 (pc := 115) dX1_goThrough_115 A16 T1195 (lnC q1337 (vc_X1_goThrough_W12_30 h1339 h1347 h1475 h1509 h1338 h1193 h1348 h1349 h1471)) fun z1518 q1519 h1520 => ?_
          refine mr_iconst (pc := 116) (z := 1) dX1_goThrough_116 ?_
          refine mr_icmp_ne (pc := 117) (tgt := 124) dX1_goThrough_117 (by decide) h1520 (r32 (rR (x := 1)) rfl) (fun h1522 => ?_) (fun h1522 => ?_)
          · refine mr_iconst (pc := 124) (z := 0) dX1_goThrough_124 ?_
            refine mr_icmp_eq (pc := 125) (tgt := 132) dX1_goThrough_125 (by decide) (r32 h1516.1 rfl) (r32 (rR (x := 0)) rfl) (fun h1525 => ?_) (fun h1525 => ?_)
            · have h1526 : 0 ≤ z1517 ∧ z1517 ≤ 0 := (vc_X12_ring_22 h1525 h1516.1)
              refine mr_iconst (pc := 132) (z := 0) dX1_goThrough_132 ?_
              refine mr_istore (pc := 133) (lv' := [(9, iv 0), (0, .ref 21), (2, iv p2), (3, .ref b10), (5, iv z1189), (7, iv z1343), (8, iv ((z1190 + 2) + (z1340 * 5))), (10, iv z1467)]) dX1_goThrough_133 (by decide) rfl ?_
              refine mr_iinc (pc := 135) (lv' := [(10, iv (z1467 + 5)), (9, iv 0), (0, .ref 21), (2, iv p2), (3, .ref b10), (5, iv z1189), (7, iv z1343), (8, iv ((z1190 + 2) + (z1340 * 5)))]) dX1_goThrough_135 rfl (by decide) rfl ?_
              refine sv_goto (pc := 138) (tgt := 88) dX1_goThrough_138 (by decide) ?_
              refine mr_lvS (lv' := [(0, .ref 21), (2, iv p2), (3, .ref b10), (5, iv z1189), (7, iv z1343), (8, iv ((z1190 + 2) + (z1340 * 5))), (9, iv 0), (10, iv (z1467 + 5))]) (List.forall_mem_cons.mpr ⟨rfl, List.forall_mem_cons.mpr ⟨rfl, List.forall_mem_cons.mpr ⟨rfl, List.forall_mem_cons.mpr ⟨rfl, List.forall_mem_cons.mpr ⟨rfl, List.forall_mem_cons.mpr ⟨rfl, List.forall_mem_cons.mpr ⟨rfl, List.forall_mem_cons.mpr ⟨rfl, fun _ h => absurd h List.not_mem_nil⟩⟩⟩⟩⟩⟩⟩⟩) ?_
              exact ih1478 0 (z1467 + 5) trivial (rW (c := 0) (d := 1) (rR (x := 0)) rfl) (vc_X1_goThrough_W12_32 h1475 h1509 h1339 h1347 h1338 h1193 h1348 h1349 h1471) (vc_X1_goThrough_W12_33 h1339 h1347 h1475 h1509 h1338 h1193 h1348 h1349 h1471) (vc_X1_goThrough_W12_34 (nS h1476) h1475 h1509 h1339 h1347 h1338 h1193 h1348 h1349 h1471) ((((h1516.2.1 h1516.1) z1518 q1519 h1520).1 h1522).1 h1525)
            have h1527 : 1 ≤ z1517 ∧ z1517 ≤ 1 := (vc_X12_ring_24 h1525 h1516.1)
            refine mr_iconst (pc := 128) (z := 1) dX1_goThrough_128 ?_
            refine sv_goto (pc := 129) (tgt := 133) dX1_goThrough_129 (by decide) ?_
            refine mr_istore (pc := 133) (lv' := [(9, iv 1), (0, .ref 21), (2, iv p2), (3, .ref b10), (5, iv z1189), (7, iv z1343), (8, iv ((z1190 + 2) + (z1340 * 5))), (10, iv z1467)]) dX1_goThrough_133 (by decide) rfl ?_
            refine mr_iinc (pc := 135) (lv' := [(10, iv (z1467 + 5)), (9, iv 1), (0, .ref 21), (2, iv p2), (3, .ref b10), (5, iv z1189), (7, iv z1343), (8, iv ((z1190 + 2) + (z1340 * 5)))]) dX1_goThrough_135 rfl (by decide) rfl ?_
            refine sv_goto (pc := 138) (tgt := 88) dX1_goThrough_138 (by decide) ?_
            refine mr_lvS (lv' := [(0, .ref 21), (2, iv p2), (3, .ref b10), (5, iv z1189), (7, iv z1343), (8, iv ((z1190 + 2) + (z1340 * 5))), (9, iv 1), (10, iv (z1467 + 5))]) (List.forall_mem_cons.mpr ⟨rfl, List.forall_mem_cons.mpr ⟨rfl, List.forall_mem_cons.mpr ⟨rfl, List.forall_mem_cons.mpr ⟨rfl, List.forall_mem_cons.mpr ⟨rfl, List.forall_mem_cons.mpr ⟨rfl, List.forall_mem_cons.mpr ⟨rfl, List.forall_mem_cons.mpr ⟨rfl, fun _ h => absurd h List.not_mem_nil⟩⟩⟩⟩⟩⟩⟩⟩) ?_
            exact ih1478 1 (z1467 + 5) trivial (rW (c := 0) (d := 1) (rR (x := 1)) rfl) (vc_X1_goThrough_W12_32 h1475 h1509 h1339 h1347 h1338 h1193 h1348 h1349 h1471) (vc_X1_goThrough_W12_33 h1339 h1347 h1475 h1509 h1338 h1193 h1348 h1349 h1471) (vc_X1_goThrough_W12_34 (nS h1476) h1475 h1509 h1339 h1347 h1338 h1193 h1348 h1349 h1471) ((((h1516.2.1 h1516.1) z1518 q1519 h1520).1 h1522).2 h1525)
          have h1528 : 1 ≤ z1518 ∧ z1518 ≤ 1 := (vc_X3_toldInAll_1 h1522 h1520)
          refine mr_iconst (pc := 120) (z := 1) dX1_goThrough_120 ?_
          refine sv_goto (pc := 121) (tgt := 125) dX1_goThrough_121 (by decide) ?_
          refine mr_icmp_eq (pc := 125) (tgt := 132) dX1_goThrough_125 (by decide) (r32 h1516.1 rfl) (r32 (rR (x := 1)) rfl) (fun h1531 => ?_) (fun h1531 => ?_)
          · have h1532 : 1 ≤ z1517 ∧ z1517 ≤ 1 := (vc_X1_goThrough_W12_37 h1531 h1516.1)
            refine mr_iconst (pc := 132) (z := 0) dX1_goThrough_132 ?_
            refine mr_istore (pc := 133) (lv' := [(9, iv 0), (0, .ref 21), (2, iv p2), (3, .ref b10), (5, iv z1189), (7, iv z1343), (8, iv ((z1190 + 2) + (z1340 * 5))), (10, iv z1467)]) dX1_goThrough_133 (by decide) rfl ?_
            refine mr_iinc (pc := 135) (lv' := [(10, iv (z1467 + 5)), (9, iv 0), (0, .ref 21), (2, iv p2), (3, .ref b10), (5, iv z1189), (7, iv z1343), (8, iv ((z1190 + 2) + (z1340 * 5)))]) dX1_goThrough_135 rfl (by decide) rfl ?_
            refine sv_goto (pc := 138) (tgt := 88) dX1_goThrough_138 (by decide) ?_
            refine mr_lvS (lv' := [(0, .ref 21), (2, iv p2), (3, .ref b10), (5, iv z1189), (7, iv z1343), (8, iv ((z1190 + 2) + (z1340 * 5))), (9, iv 0), (10, iv (z1467 + 5))]) (List.forall_mem_cons.mpr ⟨rfl, List.forall_mem_cons.mpr ⟨rfl, List.forall_mem_cons.mpr ⟨rfl, List.forall_mem_cons.mpr ⟨rfl, List.forall_mem_cons.mpr ⟨rfl, List.forall_mem_cons.mpr ⟨rfl, List.forall_mem_cons.mpr ⟨rfl, List.forall_mem_cons.mpr ⟨rfl, fun _ h => absurd h List.not_mem_nil⟩⟩⟩⟩⟩⟩⟩⟩) ?_
            exact ih1478 0 (z1467 + 5) trivial (rW (c := 0) (d := 1) (rR (x := 0)) rfl) (vc_X1_goThrough_W12_32 h1475 h1509 h1339 h1347 h1338 h1193 h1348 h1349 h1471) (vc_X1_goThrough_W12_33 h1339 h1347 h1475 h1509 h1338 h1193 h1348 h1349 h1471) (vc_X1_goThrough_W12_34 (nS h1476) h1475 h1509 h1339 h1347 h1338 h1193 h1348 h1349 h1471) ((((h1516.2.1 h1516.1) z1518 q1519 h1520).2 h1522).1 h1531)
          have h1533 : 0 ≤ z1517 ∧ z1517 ≤ 0 := (vc_X1_goThrough_W12_38 h1531 h1516.1)
          refine mr_iconst (pc := 128) (z := 1) dX1_goThrough_128 ?_
          refine sv_goto (pc := 129) (tgt := 133) dX1_goThrough_129 (by decide) ?_
          refine mr_istore (pc := 133) (lv' := [(9, iv 1), (0, .ref 21), (2, iv p2), (3, .ref b10), (5, iv z1189), (7, iv z1343), (8, iv ((z1190 + 2) + (z1340 * 5))), (10, iv z1467)]) dX1_goThrough_133 (by decide) rfl ?_
          refine mr_iinc (pc := 135) (lv' := [(10, iv (z1467 + 5)), (9, iv 1), (0, .ref 21), (2, iv p2), (3, .ref b10), (5, iv z1189), (7, iv z1343), (8, iv ((z1190 + 2) + (z1340 * 5)))]) dX1_goThrough_135 rfl (by decide) rfl ?_
          refine sv_goto (pc := 138) (tgt := 88) dX1_goThrough_138 (by decide) ?_
          refine mr_lvS (lv' := [(0, .ref 21), (2, iv p2), (3, .ref b10), (5, iv z1189), (7, iv z1343), (8, iv ((z1190 + 2) + (z1340 * 5))), (9, iv 1), (10, iv (z1467 + 5))]) (List.forall_mem_cons.mpr ⟨rfl, List.forall_mem_cons.mpr ⟨rfl, List.forall_mem_cons.mpr ⟨rfl, List.forall_mem_cons.mpr ⟨rfl, List.forall_mem_cons.mpr ⟨rfl, List.forall_mem_cons.mpr ⟨rfl, List.forall_mem_cons.mpr ⟨rfl, List.forall_mem_cons.mpr ⟨rfl, fun _ h => absurd h List.not_mem_nil⟩⟩⟩⟩⟩⟩⟩⟩) ?_
          exact ih1478 1 (z1467 + 5) trivial (rW (c := 0) (d := 1) (rR (x := 1)) rfl) (vc_X1_goThrough_W12_32 h1475 h1509 h1339 h1347 h1338 h1193 h1348 h1349 h1471) (vc_X1_goThrough_W12_33 h1339 h1347 h1475 h1509 h1338 h1193 h1348 h1349 h1471) (vc_X1_goThrough_W12_34 (nS h1476) h1475 h1509 h1339 h1347 h1338 h1193 h1348 h1349 h1471) ((((h1516.2.1 h1516.1) z1518 q1519 h1520).2 h1522).2 h1531)
      refine mr_lvS (lv' := [(0, .ref 21), (2, iv p2), (3, .ref b10), (5, iv z1189), (7, iv z1343), (8, iv ((z1190 + 2) + (z1340 * 5))), (9, iv 1), (10, iv (z1190 + 2))]) (List.forall_mem_cons.mpr ⟨rfl, List.forall_mem_cons.mpr ⟨rfl, List.forall_mem_cons.mpr ⟨rfl, List.forall_mem_cons.mpr ⟨rfl, List.forall_mem_cons.mpr ⟨rfl, List.forall_mem_cons.mpr ⟨rfl, List.forall_mem_cons.mpr ⟨rfl, List.forall_mem_cons.mpr ⟨rfl, fun _ h => absurd h List.not_mem_nil⟩⟩⟩⟩⟩⟩⟩⟩) ?_
      exact L1469 2010 1 (z1190 + 2) trivial (rW (c := 0) (d := 1) (rR (x := 1)) rfl) (rW (c := 2) (d := 2010) (rAdd (e := 2) (f := 2002) h1193 (rR (x := 2)) rfl) rfl) (vc_X1_goThrough_W12_39 h1339 h1347 h1338 h1193 h1348 h1349) (vc_X1_goThrough_W12_40 h1339 h1347 h1338 h1193 h1348 h1349) (((((((W1202 z1190 z1189 μ1191 rfl h1193 h1194 T1195 F1196).2 h1268) z1271 q1272 h1273).2 h1333) n_1336 q1337 h1338) z1340 q1341 h1342) z1343 q1344 h1345)
  refine mr_lvS (lv' := [(0, .ref 21), (2, iv p2), (3, .ref b10), (4, iv 0), (5, iv 0)]) (List.forall_mem_cons.mpr ⟨rfl, List.forall_mem_cons.mpr ⟨rfl, List.forall_mem_cons.mpr ⟨rfl, List.forall_mem_cons.mpr ⟨rfl, List.forall_mem_cons.mpr ⟨rfl, fun _ h => absurd h List.not_mem_nil⟩⟩⟩⟩⟩) ?_
  exact L1192 2002 0 0 μ hT mF.refl (rW (c := 0) (d := 2000) (rR (x := 0)) rfl) (rW (c := 0) (d := 30) (rR (x := 0)) rfl) hIPC hIRT R18 vc_X1_goThrough_W12_41 ((((((hQ.2 h1) z4 q5 h6).2 h7) b10 q11 A12) c13 q15) z14 q17)
def WJ_X1_doActs_W8_2 (w : mW) (rec1 : (Int × mM) → Prop) (z1989 : Int) (μ2019 : mM) (μ2114 : mM) : Prop := mT w μ2114 → mF [21007, 200007, 201999] w μ2019 μ2114 → rec1 ((z1989 + 1), μ2114)
def WL_X1_doActs_W8_1 (w : mW) (μ : mM) (a1 : Nat) (p2 : Int) (p3 : Int) (p4 : Int) (Q : mM → Prop) (rec1 : (Int × mM) → Prop) (s : (Int × mM)) : Prop := ∀ z1989 : Int, ∀ μ1990 : mM, s = (z1989, μ1990) → (0 ≤ z1989 ∧ z1989 ≤ 1000) → mT w μ1990 → mF [21006, 21007, 200004, 200006, 200007, 200008, 201999, 202999] w μ μ1990 → ((p3 ≤ z1989) → Q μ1990) ∧ ((z1989 < p3) → ∀ z2004 : Int, μ1990 21 7 = z2004 → (0 ≤ z2004 ∧ z2004 ≤ 2) → ((¬ z2004 = 0) → Q μ1990) ∧ ((z2004 = 0) → ∀ z2010 : Int, μ1990 a1 (((p2 + (z1989 * 2)) + 1).toNat) = z2010 → ((-2147483648) ≤ z2010 ∧ z2010 ≤ 2147483647) → ∀ z2014 : Int, μ1990 21 6 = z2014 → (0 ≤ z2014 ∧ z2014 ≤ 500) → ((z2014 < 500) → ∀ μ2019 : mM, mU μ1990 21 (6) (z2014 + 1) μ2019 → mT w μ2019 → ∀ z2022 : Int, μ2019 a1 ((p2 + (z1989 * 2)).toNat) = z2022 → ((-2147483648) ≤ z2022 ∧ z2022 ≤ 2147483647) → (z2022 = 12 → ∀ b2028 : Nat, μ2019 21 2 = (b2028 : Int) → mAt w b2028 200 → ∀ μ2031 : mM, mU μ2019 b2028 (4) z2010 μ2031 → mT w μ2031 → rec1 ((z1989 + 1), μ2031)) ∧ (¬ z2022 = 12 → (z2022 = 13 → ∀ b2036 : Nat, μ2019 21 2 = (b2036 : Int) → mAt w b2036 200 → ∀ μ2039 : mM, mU μ2019 b2036 (6) z2010 μ2039 → mT w μ2039 → rec1 ((z1989 + 1), μ2039)) ∧ (¬ z2022 = 13 → (z2022 = 14 → rec1 ((z1989 + 1), μ2019)) ∧ (¬ z2022 = 14 → (z2022 = 15 → rec1 ((z1989 + 1), μ2019)) ∧ (¬ z2022 = 15 → (z2022 = 16 → rec1 ((z1989 + 1), μ2019)) ∧ (¬ z2022 = 16 → (z2022 = 17 → rec1 ((z1989 + 1), μ2019)) ∧ (¬ z2022 = 17 → (z2022 = 18 → rec1 ((z1989 + 1), μ2019)) ∧ (¬ z2022 = 18 → (z2022 = 19 → rec1 ((z1989 + 1), μ2019)) ∧ (¬ z2022 = 19 → (z2022 = 20 → rec1 ((z1989 + 1), μ2019)) ∧ (¬ z2022 = 20 → (z2022 = 21 → rec1 ((z1989 + 1), μ2019)) ∧ (¬ z2022 = 21 → (z2022 = 22 → rec1 ((z1989 + 1), μ2019)) ∧ (¬ z2022 = 22 → (z2022 = 23 → ∀ μ2063 : mM, mU μ2019 21 (7) (1 : Int) μ2063 → mT w μ2063 → rec1 ((z1989 + 1), μ2063)) ∧ (¬ z2022 = 23 → (z2022 = 24 → ∀ μ2069 : mM, mU μ2019 21 (7) (2 : Int) μ2069 → mT w μ2069 → rec1 ((z1989 + 1), μ2069)) ∧ (¬ z2022 = 24 → (z2022 = 25 → ∀ b2074 : Nat, μ2019 21 2 = (b2074 : Int) → mAt w b2074 200 → WP_X7_addMark_W w μ2019 b2074 z2010 (fun μ2077 => mT w μ2077 → mF [200008, 202999] w μ2019 μ2077 → rec1 ((z1989 + 1), μ2077))) ∧ (¬ z2022 = 25 → (z2022 = 26 → ∀ b2083 : Nat, μ2019 21 2 = (b2083 : Int) → mAt w b2083 200 → WP_X7_dropMark_W w μ2019 b2083 z2010 (fun μ2086 => mT w μ2086 → mF [200008, 202999] w μ2019 μ2086 → rec1 ((z1989 + 1), μ2086))) ∧ (¬ z2022 = 26 → (z2022 = 27 → ∀ b2092 : Nat, μ2019 21 2 = (b2092 : Int) → mAt w b2092 200 → ∀ z2095 : Int, μ2019 b2092 7 = z2095 → (0 ≤ z2095 ∧ z2095 ≤ 20) → ((z2095 ≤ 0) → (WJ_X1_doActs_W8_2 w rec1 z1989 μ2019) μ2019) ∧ ((0 < z2095) → ∀ z2126 : Int, μ2019 (b2092 + 1) ((0 : Int).toNat) = z2126 → ((-2147483648) ≤ z2126 ∧ z2126 ≤ 2147483647) → WP_X7_putInFront_W w μ2019 b2092 z2126 z2010 (fun z2133 μ2129 => mT w μ2129 → mF [200007, 201999] w μ2019 μ2129 → (0 ≤ z2133 ∧ z2133 ≤ 1) → ((¬ z2133 = 0) → (WJ_X1_doActs_W8_2 w rec1 z1989 μ2019) μ2129) ∧ ((z2133 = 0) → ∀ μ2138 : mM, mU μ2129 21 (7) (2 : Int) μ2138 → mT w μ2138 → (WJ_X1_doActs_W8_2 w rec1 z1989 μ2019) μ2138)))) ∧ (¬ z2022 = 27 → (z2022 = 28 → WP_X1_goThrough_W9 w μ2019 z2010 (p4 + 1) (fun μ2143 => mT w μ2143 → mF [21006, 21007, 200004, 200006, 200007, 200008, 201999, 202999] w μ2019 μ2143 → rec1 ((z1989 + 1), μ2143))) ∧ (¬ z2022 = 28 → rec1 ((z1989 + 1), μ2019))))))))))))))))))) ∧ ((500 ≤ z2014) → ∀ μ2148 : mM, mU μ1990 21 (7) (2 : Int) μ2148 → mT w μ2148 → Q μ2148)))
def WP_X1_doActs_W8 (w : mW) (μ : mM) (a1 : Nat) (p2 : Int) (p3 : Int) (p4 : Int) (Q : mM → Prop) : Prop := ∀ n_1 : Int, (w.2.2.1 a1 : Int) = n_1 → (0 ≤ n_1 ∧ n_1 ≤ 2000) → loopF (WL_X1_doActs_W8_1 w μ a1 p2 p3 p4 Q) False 1002 ((0 : Int), μ)
set_option maxRecDepth 4000 in
set_option maxHeartbeats 4000000 in
theorem c_X1_doActs_W8 {l : Launch} {D : va_G} {c : Nat → ClassId} {H0 : Heap} {sa : Nat × Nat × (Nat → Int32)} {w : mW} {μ : mM} (hw : mWF w) (hT : mT w μ) {a1 : Nat} (hA1 : mAt w a1 231) {p2 : Int} (hp2 : 0 ≤ p2 ∧ p2 ≤ 2000) {p3 : Int} (hp3 : 0 ≤ p3 ∧ p3 ≤ 1000) {p4 : Int} (hp4 : 8 ≤ p4 ∧ p4 ≤ 8) (hIPC : PC w μ) (hIRT : RT μ) (hlen : p2 + 2 * p3 ≤ (w.2.2.1 a1 : Int)) (harg : ∀ i : Int, 0 ≤ i → i < p3 → 0 ≤ μ a1 (p2 + 2 * i + 1).toNat ∧ μ a1 (p2 + 2 * i + 1).toNat ≤ 1000000) {Q : mM → Prop} (hQ : WP_X1_doActs_W8 w μ a1 p2 p3 p4 Q) : sC (gG l D c H0 sa) mX1_doActs 12 0 0 [.ref 21, .ref a1, iv p2, iv p3, iv p4] (mk w μ) (qV w [21006, 21007, 200004, 200006, 200007, 200008, 201999, 202999] μ (fun μ1 => Q μ1 ∧ True)) := by
  refine sC.of rfl (by decide) (le_t rfl) ?_
  refine mr_lvE (lv' := [(0, .ref 21), (1, .ref a1), (2, iv p2), (3, iv p3), (4, iv p4)]) rfl ?_
  obtain ⟨n_1, q2⟩ : ∃ n : Int, (w.2.2.1 a1 : Int) = n := ⟨_, rfl⟩
  have h3 : 0 ≤ n_1 ∧ n_1 ≤ 2000 := lnR (m := 2000) q2 hA1 rfl
  have h4 : p2 + 2 * p3 ≤ n_1 := lnLe q2 hlen
  refine mr_iconst (pc := 0) (z := 0) dX1_doActs_0 ?_
  refine mr_istore (pc := 1) (lv' := [(5, iv 0), (0, .ref 21), (1, .ref a1), (2, iv p2), (3, iv p3), (4, iv p4)]) dX1_doActs_1 (by decide) rfl ?_
  have L1991 : ∀ (nL1991 : Nat) (z1989 : Int) (μ1990 : mM), mT w μ1990 → mF [21006, 21007, 200004, 200006, 200007, 200008, 201999, 202999] w μ μ1990 → (0 ≤ z1989 ∧ z1989 ≤ 1000) → PC w μ1990 → RT μ1990 → (1001 - z1989) < (nL1991 : Int) → loopF (WL_X1_doActs_W8_1 w μ a1 p2 p3 p4 Q) False nL1991 (z1989, μ1990) → sV (gG l D c H0 sa) mX1_doActs (sRm 12 0 0) (sZ (gG l D c H0 sa) 0 0 (qV w [21006, 21007, 200004, 200006, 200007, 200008, 201999, 202999] μ (fun μ1 => Q μ1 ∧ True))) 3 [(0, .ref 21), (1, .ref a1), (2, iv p2), (3, iv p3), (4, iv p4), (5, iv z1989)] [] (mk w μ1990) 0 0 := by
    intro nL1991
    induction nL1991 with
    | zero => intro z1989 μ1990 T1993 F1994 h1992 I1996 I1997 h1998 W1999; exact ((vc_X1_doActs_W12_1 h1998 h1992)).elim
    | succ nL1991 ih2000 =>
      intro z1989 μ1990 T1993 F1994 h1992 I1996 I1997 h1998 W1999
      refine mr_iload (pc := 3) (z := z1989) dX1_doActs_3 rfl ?_
      refine mr_iload_n (pc := 5) (z := p3) dX1_doActs_5 rfl rfl ?_
      refine mr_icmp_ge (pc := 6) (tgt := 266) dX1_doActs_6 (by decide) (r32 h1992 rfl) (r32 hp3 rfl) (fun h2001 => ?_) (fun h2001 => ?_)
      · exact mr_vret dX1_doActs_266 rfl (le_t rfl) (le_t rfl) T1993 (mF.call mF.refl F1994 rfl) ⟨((W1999 z1989 μ1990 rfl h1992 T1993 F1994).1 h2001), trivial⟩
      have h2002 : 0 ≤ z1989 ∧ z1989 ≤ 999 := (vc_X1_doActs_W12_2 h2001 h4 h3 hp2 hp3 h1992)
      have h2003 : 1 ≤ p3 ∧ p3 ≤ 1000 := (vc_X1_doActs_W12_3 h2001 h4 h3 hp2 hp3 h2002)
      refine sv_aload_n (pc := 9) dX1_doActs_9 rfl rfl ?_
      refine gf_X1_7 (pc := 10) dX1_doActs_10 wF_X1_50 (A_21 hw) T1993 fun z2004 q2005 h2006 => ?_
      refine mr_if_ne (pc := 13) (tgt := 266) dX1_doActs_13 (by decide) (r32 h2006 rfl) (fun h2007 => ?_) (fun h2007 => ?_)
      · have h2008 : 1 ≤ z2004 ∧ z2004 ≤ 2 := (vc_X12_provides_3 h2007 h2006)
        exact mr_vret dX1_doActs_266 rfl (le_t rfl) (le_t rfl) T1993 (mF.call mF.refl F1994 rfl) ⟨((((W1999 z1989 μ1990 rfl h1992 T1993 F1994).2 h2001) z2004 q2005 h2006).1 h2007), trivial⟩
      have h2009 : 0 ≤ z2004 ∧ z2004 ≤ 0 := (vc_X12_provides_4 h2007 h2006)
      refine sv_aload_n (pc := 16) dX1_doActs_16 rfl rfl ?_
      refine mr_iload_n (pc := 17) (z := p2) dX1_doActs_17 rfl rfl ?_
      refine mr_iload (pc := 18) (z := z1989) dX1_doActs_18 rfl ?_
      refine mr_iconst (pc := 20) (z := 2) dX1_doActs_20 ?_
      refine mr_imul (pc := 21) (x := z1989) (y := 2) dX1_doActs_21 ?_
      refine mr_iadd (pc := 22) (x := p2) (y := (z1989 * 2)) dX1_doActs_22 ?_
      refine mr_iconst (pc := 23) (z := 1) dX1_doActs_23 ?_
      refine mr_iadd (pc := 24) (x := (p2 + (z1989 * 2))) (y := 1) dX1_doActs_24 ?_
      refine la_231 (pc := 25) dX1_doActs_25 hA1 T1993 (lnC q2 (vc_X1_doActs_W12_6 h4 h2001 h3 hp2 h2003 h2002)) fun z2010 q2011 h2012 => ?_
      have h2013 : 0 ≤ z2010 ∧ z2010 ≤ 1000000 := argB harg (vc_X1_doActs_W12_7 h2001 h4 h3 hp2 h2003 h2002) (vc_X1_doActs_W12_8 h4 h2001 h3 hp2 h2003 h2002) (vc_X1_doActs_W12_9 h4 h2001 h3 hp2 h2003 h2002) (((mF.call mF.refl F1994 rfl) : mF [21006, 21007, 200004, 200006, 200007, 200008, 201999, 202999] w μ μ1990).f hA1 rfl rfl) q2011
      refine mr_istore (pc := 26) (lv' := [(6, iv z2010), (0, .ref 21), (1, .ref a1), (2, iv p2), (3, iv p3), (4, iv p4), (5, iv z1989)]) dX1_doActs_26 (by decide) rfl ?_
      refine sv_aload_n (pc := 28) dX1_doActs_28 rfl rfl ?_
      refine gf_X1_6 (pc := 29) dX1_doActs_29 wF_X1_47 (A_21 hw) T1993 fun z2014 q2015 h2016 => ?_
      refine mr_sipush (pc := 32) (z := 500) dX1_doActs_32 (by decide) ?_
      refine mr_icmp_lt (pc := 35) (tgt := 44) dX1_doActs_35 (by decide) (r32 h2016 rfl) (r32 (rR (x := 500)) rfl) (fun h2017 => ?_) (fun h2017 => ?_)
      · have h2018 : 0 ≤ z2014 ∧ z2014 ≤ 499 := (vc_X1_doActs_W12_10 h2017 h2016)
        refine sv_aload_n (pc := 44) dX1_doActs_44 rfl rfl ?_
        refine sv_dup (pc := 45) dX1_doActs_45 rfl ?_
        refine gk_X1_6 (pc := 46) dX1_doActs_46 wF_X1_47 (A_21 hw) q2015 ?_
        refine mr_iconst (pc := 49) (z := 1) dX1_doActs_49 ?_
        refine mr_iadd (pc := 50) (x := z2014) (y := 1) dX1_doActs_50 ?_
        refine pf_X1_6 (pc := 51) dX1_doActs_51 wF_X1_47 (A_21 hw) T1993 (rW (c := 0) (d := 500) (rAdd (e := 1) (f := 500) h2018 (rR (x := 1)) rfl) rfl) fun μ2019 u2020 T2021 => ?_
        refine sv_aload_n (pc := 54) dX1_doActs_54 rfl rfl ?_
        refine mr_iload_n (pc := 55) (z := p2) dX1_doActs_55 rfl rfl ?_
        refine mr_iload (pc := 56) (z := z1989) dX1_doActs_56 rfl ?_
        refine mr_iconst (pc := 58) (z := 2) dX1_doActs_58 ?_
        refine mr_imul (pc := 59) (x := z1989) (y := 2) dX1_doActs_59 ?_
        refine mr_iadd (pc := 60) (x := p2) (y := (z1989 * 2)) dX1_doActs_60 ?_
        refine la_231 (pc := 61) dX1_doActs_61 hA1 T2021 (lnC q2 (vc_X1_doActs_W12_11 h4 h2001 h3 hp2 h2003 h2002)) fun z2022 q2023 h2024 => ?_
        have W2026 := (((((((((W1999 z1989 μ1990 rfl h1992 T1993 F1994).2 h2001) z2004 q2005 h2006).2 h2007) z2010 q2011 h2012) z2014 q2015 h2016).1 h2017) μ2019 u2020 T2021) z2022 q2023 h2024)
        by_cases h2025 : z2022 = 12
        · refine mr_tableIn (pc := 62) (v := 12) (tgt := 184) dX1_doActs_62 h2025 rfl rfl (by decide) ?_
          have h2027 : 12 ≤ z2022 ∧ z2022 ≤ 12 := (vc_X1_doActs_W12_12 h2025 h2024)
          refine sv_aload_n (pc := 184) dX1_doActs_184 rfl rfl ?_
          refine gf_X1_2 (pc := 185) dX1_doActs_185 wF_X1_25 (A_21 hw) T2021 (RT.keep I1997 hw ((mF.up mF.refl (A_21 hw) u2020 rfl) : mF [21006] w μ1990 μ2019) rfl) fun b2028 q2029 A2030 => ?_
          refine mr_iload (pc := 188) (z := z2010) dX1_doActs_188 rfl ?_
          refine pf_X7_4 (pc := 190) dX1_doActs_190 wF_X1_105 A2030 T2021 (rW (c := (-2147483648)) (d := 2147483647) h2013 rfl) fun μ2031 u2032 T2033 => ?_
          refine sv_goto (pc := 193) (tgt := 260) dX1_doActs_193 (by decide) ?_
          refine mr_iinc (pc := 260) (lv' := [(5, iv (z1989 + 1)), (6, iv z2010), (0, .ref 21), (1, .ref a1), (2, iv p2), (3, iv p3), (4, iv p4)]) dX1_doActs_260 rfl (by decide) rfl ?_
          refine sv_goto (pc := 263) (tgt := 3) dX1_doActs_263 (by decide) ?_
          refine mr_lvS (lv' := [(0, .ref 21), (1, .ref a1), (2, iv p2), (3, iv p3), (4, iv p4), (5, iv (z1989 + 1))]) (List.forall_mem_cons.mpr ⟨rfl, List.forall_mem_cons.mpr ⟨rfl, List.forall_mem_cons.mpr ⟨rfl, List.forall_mem_cons.mpr ⟨rfl, List.forall_mem_cons.mpr ⟨rfl, List.forall_mem_cons.mpr ⟨rfl, fun _ h => absurd h List.not_mem_nil⟩⟩⟩⟩⟩⟩) ?_
          exact ih2000 (z1989 + 1) μ2031 T2033 (mF.up (mF.up (mF.call mF.refl F1994 rfl) (A_21 hw) u2020 rfl) A2030 u2032 rfl) (rW (c := 0) (d := 1000) (rAdd (e := 1) (f := 1000) h2002 (rR (x := 1)) rfl) rfl) (PC.keep I1996 hw ((mF.up (mF.up mF.refl (A_21 hw) u2020 rfl) A2030 u2032 rfl) : mF [21006, 200004] w μ1990 μ2031) rfl) (RT.keep I1997 hw ((mF.up (mF.up mF.refl (A_21 hw) u2020 rfl) A2030 u2032 rfl) : mF [21006, 200004] w μ1990 μ2031) rfl) (vc_X1_doActs_W12_13 (nS h1998) h2001 h4 h3 hp2 h2003 h2002) (((W2026.1 h2025) b2028 q2029 A2030) μ2031 u2032 T2033)
        by_cases h2034 : z2022 = 13
        · refine mr_tableIn (pc := 62) (v := 13) (tgt := 196) dX1_doActs_62 h2034 rfl rfl (by decide) ?_
          have h2035 : 13 ≤ z2022 ∧ z2022 ≤ 13 := (vc_X1_doActs_W12_14 h2034 h2025 h2024)
          refine sv_aload_n (pc := 196) dX1_doActs_196 rfl rfl ?_
          refine gf_X1_2 (pc := 197) dX1_doActs_197 wF_X1_25 (A_21 hw) T2021 (RT.keep I1997 hw ((mF.up mF.refl (A_21 hw) u2020 rfl) : mF [21006] w μ1990 μ2019) rfl) fun b2036 q2037 A2038 => ?_
          refine mr_iload (pc := 200) (z := z2010) dX1_doActs_200 rfl ?_
          refine pf_X7_6 (pc := 202) dX1_doActs_202 wF_X1_108 A2038 T2021 (rW (c := (-2147483648)) (d := 2147483647) h2013 rfl) fun μ2039 u2040 T2041 => ?_
          refine sv_goto (pc := 205) (tgt := 260) dX1_doActs_205 (by decide) ?_
          refine mr_iinc (pc := 260) (lv' := [(5, iv (z1989 + 1)), (6, iv z2010), (0, .ref 21), (1, .ref a1), (2, iv p2), (3, iv p3), (4, iv p4)]) dX1_doActs_260 rfl (by decide) rfl ?_
          refine sv_goto (pc := 263) (tgt := 3) dX1_doActs_263 (by decide) ?_
          refine mr_lvS (lv' := [(0, .ref 21), (1, .ref a1), (2, iv p2), (3, iv p3), (4, iv p4), (5, iv (z1989 + 1))]) (List.forall_mem_cons.mpr ⟨rfl, List.forall_mem_cons.mpr ⟨rfl, List.forall_mem_cons.mpr ⟨rfl, List.forall_mem_cons.mpr ⟨rfl, List.forall_mem_cons.mpr ⟨rfl, List.forall_mem_cons.mpr ⟨rfl, fun _ h => absurd h List.not_mem_nil⟩⟩⟩⟩⟩⟩) ?_
          exact ih2000 (z1989 + 1) μ2039 T2041 (mF.up (mF.up (mF.call mF.refl F1994 rfl) (A_21 hw) u2020 rfl) A2038 u2040 rfl) (rW (c := 0) (d := 1000) (rAdd (e := 1) (f := 1000) h2002 (rR (x := 1)) rfl) rfl) (PC.keep I1996 hw ((mF.up (mF.up mF.refl (A_21 hw) u2020 rfl) A2038 u2040 rfl) : mF [21006, 200006] w μ1990 μ2039) rfl) (RT.keep I1997 hw ((mF.up (mF.up mF.refl (A_21 hw) u2020 rfl) A2038 u2040 rfl) : mF [21006, 200006] w μ1990 μ2039) rfl) (vc_X1_doActs_W12_13 (nS h1998) h2001 h4 h3 hp2 h2003 h2002) ((((W2026.2 h2025).1 h2034) b2036 q2037 A2038) μ2039 u2040 T2041)
        by_cases h2042 : z2022 = 14
        · refine mr_tableIn (pc := 62) (v := 14) (tgt := 260) dX1_doActs_62 h2042 rfl rfl (by decide) ?_
          have h2043 : 14 ≤ z2022 ∧ z2022 ≤ 14 := (vc_X1_doActs_W12_15 h2042 h2025 h2034 h2024)
          refine mr_iinc (pc := 260) (lv' := [(5, iv (z1989 + 1)), (6, iv z2010), (0, .ref 21), (1, .ref a1), (2, iv p2), (3, iv p3), (4, iv p4)]) dX1_doActs_260 rfl (by decide) rfl ?_
          refine sv_goto (pc := 263) (tgt := 3) dX1_doActs_263 (by decide) ?_
          refine mr_lvS (lv' := [(0, .ref 21), (1, .ref a1), (2, iv p2), (3, iv p3), (4, iv p4), (5, iv (z1989 + 1))]) (List.forall_mem_cons.mpr ⟨rfl, List.forall_mem_cons.mpr ⟨rfl, List.forall_mem_cons.mpr ⟨rfl, List.forall_mem_cons.mpr ⟨rfl, List.forall_mem_cons.mpr ⟨rfl, List.forall_mem_cons.mpr ⟨rfl, fun _ h => absurd h List.not_mem_nil⟩⟩⟩⟩⟩⟩) ?_
          exact ih2000 (z1989 + 1) μ2019 T2021 (mF.up (mF.call mF.refl F1994 rfl) (A_21 hw) u2020 rfl) (rW (c := 0) (d := 1000) (rAdd (e := 1) (f := 1000) h2002 (rR (x := 1)) rfl) rfl) (PC.keep I1996 hw ((mF.up mF.refl (A_21 hw) u2020 rfl) : mF [21006] w μ1990 μ2019) rfl) (RT.keep I1997 hw ((mF.up mF.refl (A_21 hw) u2020 rfl) : mF [21006] w μ1990 μ2019) rfl) (vc_X1_doActs_W12_13 (nS h1998) h2001 h4 h3 hp2 h2003 h2002) (((W2026.2 h2025).2 h2034).1 h2042)
        by_cases h2044 : z2022 = 15
        · refine mr_tableIn (pc := 62) (v := 15) (tgt := 260) dX1_doActs_62 h2044 rfl rfl (by decide) ?_
          have h2045 : 15 ≤ z2022 ∧ z2022 ≤ 15 := (vc_X1_doActs_W12_16 h2044 h2025 h2034 h2042 h2024)
          refine mr_iinc (pc := 260) (lv' := [(5, iv (z1989 + 1)), (6, iv z2010), (0, .ref 21), (1, .ref a1), (2, iv p2), (3, iv p3), (4, iv p4)]) dX1_doActs_260 rfl (by decide) rfl ?_
          refine sv_goto (pc := 263) (tgt := 3) dX1_doActs_263 (by decide) ?_
          refine mr_lvS (lv' := [(0, .ref 21), (1, .ref a1), (2, iv p2), (3, iv p3), (4, iv p4), (5, iv (z1989 + 1))]) (List.forall_mem_cons.mpr ⟨rfl, List.forall_mem_cons.mpr ⟨rfl, List.forall_mem_cons.mpr ⟨rfl, List.forall_mem_cons.mpr ⟨rfl, List.forall_mem_cons.mpr ⟨rfl, List.forall_mem_cons.mpr ⟨rfl, fun _ h => absurd h List.not_mem_nil⟩⟩⟩⟩⟩⟩) ?_
          exact ih2000 (z1989 + 1) μ2019 T2021 (mF.up (mF.call mF.refl F1994 rfl) (A_21 hw) u2020 rfl) (rW (c := 0) (d := 1000) (rAdd (e := 1) (f := 1000) h2002 (rR (x := 1)) rfl) rfl) (PC.keep I1996 hw ((mF.up mF.refl (A_21 hw) u2020 rfl) : mF [21006] w μ1990 μ2019) rfl) (RT.keep I1997 hw ((mF.up mF.refl (A_21 hw) u2020 rfl) : mF [21006] w μ1990 μ2019) rfl) (vc_X1_doActs_W12_13 (nS h1998) h2001 h4 h3 hp2 h2003 h2002) ((((W2026.2 h2025).2 h2034).2 h2042).1 h2044)
        by_cases h2046 : z2022 = 16
        · refine mr_tableIn (pc := 62) (v := 16) (tgt := 260) dX1_doActs_62 h2046 rfl rfl (by decide) ?_
          have h2047 : 16 ≤ z2022 ∧ z2022 ≤ 16 := (vc_X1_doActs_W12_17 h2046 h2025 h2034 h2042 h2044 h2024)
          refine mr_iinc (pc := 260) (lv' := [(5, iv (z1989 + 1)), (6, iv z2010), (0, .ref 21), (1, .ref a1), (2, iv p2), (3, iv p3), (4, iv p4)]) dX1_doActs_260 rfl (by decide) rfl ?_
          refine sv_goto (pc := 263) (tgt := 3) dX1_doActs_263 (by decide) ?_
          refine mr_lvS (lv' := [(0, .ref 21), (1, .ref a1), (2, iv p2), (3, iv p3), (4, iv p4), (5, iv (z1989 + 1))]) (List.forall_mem_cons.mpr ⟨rfl, List.forall_mem_cons.mpr ⟨rfl, List.forall_mem_cons.mpr ⟨rfl, List.forall_mem_cons.mpr ⟨rfl, List.forall_mem_cons.mpr ⟨rfl, List.forall_mem_cons.mpr ⟨rfl, fun _ h => absurd h List.not_mem_nil⟩⟩⟩⟩⟩⟩) ?_
          exact ih2000 (z1989 + 1) μ2019 T2021 (mF.up (mF.call mF.refl F1994 rfl) (A_21 hw) u2020 rfl) (rW (c := 0) (d := 1000) (rAdd (e := 1) (f := 1000) h2002 (rR (x := 1)) rfl) rfl) (PC.keep I1996 hw ((mF.up mF.refl (A_21 hw) u2020 rfl) : mF [21006] w μ1990 μ2019) rfl) (RT.keep I1997 hw ((mF.up mF.refl (A_21 hw) u2020 rfl) : mF [21006] w μ1990 μ2019) rfl) (vc_X1_doActs_W12_13 (nS h1998) h2001 h4 h3 hp2 h2003 h2002) (((((W2026.2 h2025).2 h2034).2 h2042).2 h2044).1 h2046)
        by_cases h2048 : z2022 = 17
        · refine mr_tableIn (pc := 62) (v := 17) (tgt := 260) dX1_doActs_62 h2048 rfl rfl (by decide) ?_
          have h2049 : 17 ≤ z2022 ∧ z2022 ≤ 17 := (vc_X1_doActs_W12_18 h2048 h2025 h2034 h2042 h2044 h2046 h2024)
          refine mr_iinc (pc := 260) (lv' := [(5, iv (z1989 + 1)), (6, iv z2010), (0, .ref 21), (1, .ref a1), (2, iv p2), (3, iv p3), (4, iv p4)]) dX1_doActs_260 rfl (by decide) rfl ?_
          refine sv_goto (pc := 263) (tgt := 3) dX1_doActs_263 (by decide) ?_
          refine mr_lvS (lv' := [(0, .ref 21), (1, .ref a1), (2, iv p2), (3, iv p3), (4, iv p4), (5, iv (z1989 + 1))]) (List.forall_mem_cons.mpr ⟨rfl, List.forall_mem_cons.mpr ⟨rfl, List.forall_mem_cons.mpr ⟨rfl, List.forall_mem_cons.mpr ⟨rfl, List.forall_mem_cons.mpr ⟨rfl, List.forall_mem_cons.mpr ⟨rfl, fun _ h => absurd h List.not_mem_nil⟩⟩⟩⟩⟩⟩) ?_
          exact ih2000 (z1989 + 1) μ2019 T2021 (mF.up (mF.call mF.refl F1994 rfl) (A_21 hw) u2020 rfl) (rW (c := 0) (d := 1000) (rAdd (e := 1) (f := 1000) h2002 (rR (x := 1)) rfl) rfl) (PC.keep I1996 hw ((mF.up mF.refl (A_21 hw) u2020 rfl) : mF [21006] w μ1990 μ2019) rfl) (RT.keep I1997 hw ((mF.up mF.refl (A_21 hw) u2020 rfl) : mF [21006] w μ1990 μ2019) rfl) (vc_X1_doActs_W12_13 (nS h1998) h2001 h4 h3 hp2 h2003 h2002) ((((((W2026.2 h2025).2 h2034).2 h2042).2 h2044).2 h2046).1 h2048)
        have W2051 := ((((((W2026.2 h2025).2 h2034).2 h2042).2 h2044).2 h2046).2 h2048)
        by_cases h2050 : z2022 = 18
        · refine mr_tableIn (pc := 62) (v := 18) (tgt := 260) dX1_doActs_62 h2050 rfl rfl (by decide) ?_
          have h2052 : 18 ≤ z2022 ∧ z2022 ≤ 18 := (vc_X1_doActs_W12_19 h2050 h2025 h2034 h2042 h2044 h2046 h2048 h2024)
          refine mr_iinc (pc := 260) (lv' := [(5, iv (z1989 + 1)), (6, iv z2010), (0, .ref 21), (1, .ref a1), (2, iv p2), (3, iv p3), (4, iv p4)]) dX1_doActs_260 rfl (by decide) rfl ?_
          refine sv_goto (pc := 263) (tgt := 3) dX1_doActs_263 (by decide) ?_
          refine mr_lvS (lv' := [(0, .ref 21), (1, .ref a1), (2, iv p2), (3, iv p3), (4, iv p4), (5, iv (z1989 + 1))]) (List.forall_mem_cons.mpr ⟨rfl, List.forall_mem_cons.mpr ⟨rfl, List.forall_mem_cons.mpr ⟨rfl, List.forall_mem_cons.mpr ⟨rfl, List.forall_mem_cons.mpr ⟨rfl, List.forall_mem_cons.mpr ⟨rfl, fun _ h => absurd h List.not_mem_nil⟩⟩⟩⟩⟩⟩) ?_
          exact ih2000 (z1989 + 1) μ2019 T2021 (mF.up (mF.call mF.refl F1994 rfl) (A_21 hw) u2020 rfl) (rW (c := 0) (d := 1000) (rAdd (e := 1) (f := 1000) h2002 (rR (x := 1)) rfl) rfl) (PC.keep I1996 hw ((mF.up mF.refl (A_21 hw) u2020 rfl) : mF [21006] w μ1990 μ2019) rfl) (RT.keep I1997 hw ((mF.up mF.refl (A_21 hw) u2020 rfl) : mF [21006] w μ1990 μ2019) rfl) (vc_X1_doActs_W12_13 (nS h1998) h2001 h4 h3 hp2 h2003 h2002) (W2051.1 h2050)
        by_cases h2053 : z2022 = 19
        · refine mr_tableIn (pc := 62) (v := 19) (tgt := 260) dX1_doActs_62 h2053 rfl rfl (by decide) ?_
          have h2054 : 19 ≤ z2022 ∧ z2022 ≤ 19 := (vc_X1_doActs_W12_20 h2053 h2025 h2034 h2042 h2044 h2046 h2048 h2050 h2024)
          refine mr_iinc (pc := 260) (lv' := [(5, iv (z1989 + 1)), (6, iv z2010), (0, .ref 21), (1, .ref a1), (2, iv p2), (3, iv p3), (4, iv p4)]) dX1_doActs_260 rfl (by decide) rfl ?_
          refine sv_goto (pc := 263) (tgt := 3) dX1_doActs_263 (by decide) ?_
          refine mr_lvS (lv' := [(0, .ref 21), (1, .ref a1), (2, iv p2), (3, iv p3), (4, iv p4), (5, iv (z1989 + 1))]) (List.forall_mem_cons.mpr ⟨rfl, List.forall_mem_cons.mpr ⟨rfl, List.forall_mem_cons.mpr ⟨rfl, List.forall_mem_cons.mpr ⟨rfl, List.forall_mem_cons.mpr ⟨rfl, List.forall_mem_cons.mpr ⟨rfl, fun _ h => absurd h List.not_mem_nil⟩⟩⟩⟩⟩⟩) ?_
          exact ih2000 (z1989 + 1) μ2019 T2021 (mF.up (mF.call mF.refl F1994 rfl) (A_21 hw) u2020 rfl) (rW (c := 0) (d := 1000) (rAdd (e := 1) (f := 1000) h2002 (rR (x := 1)) rfl) rfl) (PC.keep I1996 hw ((mF.up mF.refl (A_21 hw) u2020 rfl) : mF [21006] w μ1990 μ2019) rfl) (RT.keep I1997 hw ((mF.up mF.refl (A_21 hw) u2020 rfl) : mF [21006] w μ1990 μ2019) rfl) (vc_X1_doActs_W12_13 (nS h1998) h2001 h4 h3 hp2 h2003 h2002) ((W2051.2 h2050).1 h2053)
        by_cases h2055 : z2022 = 20
        · refine mr_tableIn (pc := 62) (v := 20) (tgt := 260) dX1_doActs_62 h2055 rfl rfl (by decide) ?_
          have h2056 : 20 ≤ z2022 ∧ z2022 ≤ 20 := (vc_X1_doActs_W12_21 h2055 h2034 h2042 h2044 h2046 h2048 h2050 h2053 h2024)
          refine mr_iinc (pc := 260) (lv' := [(5, iv (z1989 + 1)), (6, iv z2010), (0, .ref 21), (1, .ref a1), (2, iv p2), (3, iv p3), (4, iv p4)]) dX1_doActs_260 rfl (by decide) rfl ?_
          refine sv_goto (pc := 263) (tgt := 3) dX1_doActs_263 (by decide) ?_
          refine mr_lvS (lv' := [(0, .ref 21), (1, .ref a1), (2, iv p2), (3, iv p3), (4, iv p4), (5, iv (z1989 + 1))]) (List.forall_mem_cons.mpr ⟨rfl, List.forall_mem_cons.mpr ⟨rfl, List.forall_mem_cons.mpr ⟨rfl, List.forall_mem_cons.mpr ⟨rfl, List.forall_mem_cons.mpr ⟨rfl, List.forall_mem_cons.mpr ⟨rfl, fun _ h => absurd h List.not_mem_nil⟩⟩⟩⟩⟩⟩) ?_
          exact ih2000 (z1989 + 1) μ2019 T2021 (mF.up (mF.call mF.refl F1994 rfl) (A_21 hw) u2020 rfl) (rW (c := 0) (d := 1000) (rAdd (e := 1) (f := 1000) h2002 (rR (x := 1)) rfl) rfl) (PC.keep I1996 hw ((mF.up mF.refl (A_21 hw) u2020 rfl) : mF [21006] w μ1990 μ2019) rfl) (RT.keep I1997 hw ((mF.up mF.refl (A_21 hw) u2020 rfl) : mF [21006] w μ1990 μ2019) rfl) (vc_X1_doActs_W12_13 (nS h1998) h2001 h4 h3 hp2 h2003 h2002) (((W2051.2 h2050).2 h2053).1 h2055)
        by_cases h2057 : z2022 = 21
        · refine mr_tableIn (pc := 62) (v := 21) (tgt := 260) dX1_doActs_62 h2057 rfl rfl (by decide) ?_
          have h2058 : 21 ≤ z2022 ∧ z2022 ≤ 21 := (vc_X1_doActs_W12_22 h2057 h2042 h2044 h2046 h2048 h2050 h2053 h2055 h2024)
          refine mr_iinc (pc := 260) (lv' := [(5, iv (z1989 + 1)), (6, iv z2010), (0, .ref 21), (1, .ref a1), (2, iv p2), (3, iv p3), (4, iv p4)]) dX1_doActs_260 rfl (by decide) rfl ?_
          refine sv_goto (pc := 263) (tgt := 3) dX1_doActs_263 (by decide) ?_
          refine mr_lvS (lv' := [(0, .ref 21), (1, .ref a1), (2, iv p2), (3, iv p3), (4, iv p4), (5, iv (z1989 + 1))]) (List.forall_mem_cons.mpr ⟨rfl, List.forall_mem_cons.mpr ⟨rfl, List.forall_mem_cons.mpr ⟨rfl, List.forall_mem_cons.mpr ⟨rfl, List.forall_mem_cons.mpr ⟨rfl, List.forall_mem_cons.mpr ⟨rfl, fun _ h => absurd h List.not_mem_nil⟩⟩⟩⟩⟩⟩) ?_
          exact ih2000 (z1989 + 1) μ2019 T2021 (mF.up (mF.call mF.refl F1994 rfl) (A_21 hw) u2020 rfl) (rW (c := 0) (d := 1000) (rAdd (e := 1) (f := 1000) h2002 (rR (x := 1)) rfl) rfl) (PC.keep I1996 hw ((mF.up mF.refl (A_21 hw) u2020 rfl) : mF [21006] w μ1990 μ2019) rfl) (RT.keep I1997 hw ((mF.up mF.refl (A_21 hw) u2020 rfl) : mF [21006] w μ1990 μ2019) rfl) (vc_X1_doActs_W12_13 (nS h1998) h2001 h4 h3 hp2 h2003 h2002) ((((W2051.2 h2050).2 h2053).2 h2055).1 h2057)
        by_cases h2059 : z2022 = 22
        · refine mr_tableIn (pc := 62) (v := 22) (tgt := 260) dX1_doActs_62 h2059 rfl rfl (by decide) ?_
          have h2060 : 22 ≤ z2022 ∧ z2022 ≤ 22 := (vc_X1_doActs_W12_23 h2059 h2044 h2046 h2048 h2050 h2053 h2055 h2057 h2024)
          refine mr_iinc (pc := 260) (lv' := [(5, iv (z1989 + 1)), (6, iv z2010), (0, .ref 21), (1, .ref a1), (2, iv p2), (3, iv p3), (4, iv p4)]) dX1_doActs_260 rfl (by decide) rfl ?_
          refine sv_goto (pc := 263) (tgt := 3) dX1_doActs_263 (by decide) ?_
          refine mr_lvS (lv' := [(0, .ref 21), (1, .ref a1), (2, iv p2), (3, iv p3), (4, iv p4), (5, iv (z1989 + 1))]) (List.forall_mem_cons.mpr ⟨rfl, List.forall_mem_cons.mpr ⟨rfl, List.forall_mem_cons.mpr ⟨rfl, List.forall_mem_cons.mpr ⟨rfl, List.forall_mem_cons.mpr ⟨rfl, List.forall_mem_cons.mpr ⟨rfl, fun _ h => absurd h List.not_mem_nil⟩⟩⟩⟩⟩⟩) ?_
          exact ih2000 (z1989 + 1) μ2019 T2021 (mF.up (mF.call mF.refl F1994 rfl) (A_21 hw) u2020 rfl) (rW (c := 0) (d := 1000) (rAdd (e := 1) (f := 1000) h2002 (rR (x := 1)) rfl) rfl) (PC.keep I1996 hw ((mF.up mF.refl (A_21 hw) u2020 rfl) : mF [21006] w μ1990 μ2019) rfl) (RT.keep I1997 hw ((mF.up mF.refl (A_21 hw) u2020 rfl) : mF [21006] w μ1990 μ2019) rfl) (vc_X1_doActs_W12_13 (nS h1998) h2001 h4 h3 hp2 h2003 h2002) (((((W2051.2 h2050).2 h2053).2 h2055).2 h2057).1 h2059)
        by_cases h2061 : z2022 = 23
        · refine mr_tableIn (pc := 62) (v := 23) (tgt := 144) dX1_doActs_62 h2061 rfl rfl (by decide) ?_
          have h2062 : 23 ≤ z2022 ∧ z2022 ≤ 23 := (vc_X1_doActs_W12_24 h2061 h2046 h2048 h2050 h2053 h2055 h2057 h2059 h2024)
          refine sv_aload_n (pc := 144) dX1_doActs_144 rfl rfl ?_
          refine mr_iconst (pc := 145) (z := 1) dX1_doActs_145 ?_
          refine pf_X1_7 (pc := 146) dX1_doActs_146 wF_X1_50 (A_21 hw) T2021 (rW (c := 0) (d := 2) (rR (x := 1)) rfl) fun μ2063 u2064 T2065 => ?_
          refine sv_goto (pc := 149) (tgt := 260) dX1_doActs_149 (by decide) ?_
          refine mr_iinc (pc := 260) (lv' := [(5, iv (z1989 + 1)), (6, iv z2010), (0, .ref 21), (1, .ref a1), (2, iv p2), (3, iv p3), (4, iv p4)]) dX1_doActs_260 rfl (by decide) rfl ?_
          refine sv_goto (pc := 263) (tgt := 3) dX1_doActs_263 (by decide) ?_
          refine mr_lvS (lv' := [(0, .ref 21), (1, .ref a1), (2, iv p2), (3, iv p3), (4, iv p4), (5, iv (z1989 + 1))]) (List.forall_mem_cons.mpr ⟨rfl, List.forall_mem_cons.mpr ⟨rfl, List.forall_mem_cons.mpr ⟨rfl, List.forall_mem_cons.mpr ⟨rfl, List.forall_mem_cons.mpr ⟨rfl, List.forall_mem_cons.mpr ⟨rfl, fun _ h => absurd h List.not_mem_nil⟩⟩⟩⟩⟩⟩) ?_
          exact ih2000 (z1989 + 1) μ2063 T2065 (mF.up (mF.up (mF.call mF.refl F1994 rfl) (A_21 hw) u2020 rfl) (A_21 hw) u2064 rfl) (rW (c := 0) (d := 1000) (rAdd (e := 1) (f := 1000) h2002 (rR (x := 1)) rfl) rfl) (PC.keep I1996 hw ((mF.up (mF.up mF.refl (A_21 hw) u2020 rfl) (A_21 hw) u2064 rfl) : mF [21006, 21007] w μ1990 μ2063) rfl) (RT.keep I1997 hw ((mF.up (mF.up mF.refl (A_21 hw) u2020 rfl) (A_21 hw) u2064 rfl) : mF [21006, 21007] w μ1990 μ2063) rfl) (vc_X1_doActs_W12_13 (nS h1998) h2001 h4 h3 hp2 h2003 h2002) (((((((W2051.2 h2050).2 h2053).2 h2055).2 h2057).2 h2059).1 h2061) μ2063 u2064 T2065)
        have W2067 := ((((((W2051.2 h2050).2 h2053).2 h2055).2 h2057).2 h2059).2 h2061)
        by_cases h2066 : z2022 = 24
        · refine mr_tableIn (pc := 62) (v := 24) (tgt := 152) dX1_doActs_62 h2066 rfl rfl (by decide) ?_
          have h2068 : 24 ≤ z2022 ∧ z2022 ≤ 24 := (vc_X1_doActs_W12_25 h2066 h2048 h2050 h2053 h2055 h2057 h2059 h2061 h2024)
          refine sv_aload_n (pc := 152) dX1_doActs_152 rfl rfl ?_
          refine mr_iconst (pc := 153) (z := 2) dX1_doActs_153 ?_
          refine pf_X1_7 (pc := 154) dX1_doActs_154 wF_X1_50 (A_21 hw) T2021 (rW (c := 0) (d := 2) (rR (x := 2)) rfl) fun μ2069 u2070 T2071 => ?_
          refine sv_goto (pc := 157) (tgt := 260) dX1_doActs_157 (by decide) ?_
          refine mr_iinc (pc := 260) (lv' := [(5, iv (z1989 + 1)), (6, iv z2010), (0, .ref 21), (1, .ref a1), (2, iv p2), (3, iv p3), (4, iv p4)]) dX1_doActs_260 rfl (by decide) rfl ?_
          refine sv_goto (pc := 263) (tgt := 3) dX1_doActs_263 (by decide) ?_
          refine mr_lvS (lv' := [(0, .ref 21), (1, .ref a1), (2, iv p2), (3, iv p3), (4, iv p4), (5, iv (z1989 + 1))]) (List.forall_mem_cons.mpr ⟨rfl, List.forall_mem_cons.mpr ⟨rfl, List.forall_mem_cons.mpr ⟨rfl, List.forall_mem_cons.mpr ⟨rfl, List.forall_mem_cons.mpr ⟨rfl, List.forall_mem_cons.mpr ⟨rfl, fun _ h => absurd h List.not_mem_nil⟩⟩⟩⟩⟩⟩) ?_
          exact ih2000 (z1989 + 1) μ2069 T2071 (mF.up (mF.up (mF.call mF.refl F1994 rfl) (A_21 hw) u2020 rfl) (A_21 hw) u2070 rfl) (rW (c := 0) (d := 1000) (rAdd (e := 1) (f := 1000) h2002 (rR (x := 1)) rfl) rfl) (PC.keep I1996 hw ((mF.up (mF.up mF.refl (A_21 hw) u2020 rfl) (A_21 hw) u2070 rfl) : mF [21006, 21007] w μ1990 μ2069) rfl) (RT.keep I1997 hw ((mF.up (mF.up mF.refl (A_21 hw) u2020 rfl) (A_21 hw) u2070 rfl) : mF [21006, 21007] w μ1990 μ2069) rfl) (vc_X1_doActs_W12_13 (nS h1998) h2001 h4 h3 hp2 h2003 h2002) ((W2067.1 h2066) μ2069 u2070 T2071)
        by_cases h2072 : z2022 = 25
        · refine mr_tableIn (pc := 62) (v := 25) (tgt := 160) dX1_doActs_62 h2072 rfl rfl (by decide) ?_
          have h2073 : 25 ≤ z2022 ∧ z2022 ≤ 25 := (vc_X1_doActs_W12_26 h2072 h2050 h2053 h2055 h2057 h2059 h2061 h2066 h2024)
          refine sv_aload_n (pc := 160) dX1_doActs_160 rfl rfl ?_
          refine gf_X1_2 (pc := 161) dX1_doActs_161 wF_X1_25 (A_21 hw) T2021 (RT.keep I1997 hw ((mF.up mF.refl (A_21 hw) u2020 rfl) : mF [21006] w μ1990 μ2019) rfl) fun b2074 q2075 A2076 => ?_
          refine mr_iload (pc := 164) (z := z2010) dX1_doActs_164 rfl ?_
          refine mr_cVV (pc := 166) (c_X7_addMark_W hw T2021 A2076 (rW (c := (-2147483648)) (d := 2147483647) h2013 rfl) (((W2067.2 h2066).1 h2072) b2074 q2075 A2076)) (gOk _ _ _ _ _) dX1_doActs_166 (tX7_addMark _ _ _ _ _) ⟨wV_X7_addMark, wL_X7_addMark⟩ wM_X1_124 (gCX7 _ _ _ _ _) rfl A2076 rfl ⟨le_t rfl, le_t rfl⟩ ⟨le_t rfl, le_t rfl⟩ rfl (le_t rfl) fun μ2077 T2078 F2079 h2080 => ?_
          refine sv_goto (pc := 169) (tgt := 260) dX1_doActs_169 (by decide) ?_
          refine mr_iinc (pc := 260) (lv' := [(5, iv (z1989 + 1)), (6, iv z2010), (0, .ref 21), (1, .ref a1), (2, iv p2), (3, iv p3), (4, iv p4)]) dX1_doActs_260 rfl (by decide) rfl ?_
          refine sv_goto (pc := 263) (tgt := 3) dX1_doActs_263 (by decide) ?_
          refine mr_lvS (lv' := [(0, .ref 21), (1, .ref a1), (2, iv p2), (3, iv p3), (4, iv p4), (5, iv (z1989 + 1))]) (List.forall_mem_cons.mpr ⟨rfl, List.forall_mem_cons.mpr ⟨rfl, List.forall_mem_cons.mpr ⟨rfl, List.forall_mem_cons.mpr ⟨rfl, List.forall_mem_cons.mpr ⟨rfl, List.forall_mem_cons.mpr ⟨rfl, fun _ h => absurd h List.not_mem_nil⟩⟩⟩⟩⟩⟩) ?_
          exact ih2000 (z1989 + 1) μ2077 T2078 (mF.call (mF.up (mF.call mF.refl F1994 rfl) (A_21 hw) u2020 rfl) F2079 rfl) (rW (c := 0) (d := 1000) (rAdd (e := 1) (f := 1000) h2002 (rR (x := 1)) rfl) rfl) (PC.keep I1996 hw ((mF.call (mF.up mF.refl (A_21 hw) u2020 rfl) F2079 rfl) : mF [21006, 200008, 202999] w μ1990 μ2077) rfl) (RT.keep I1997 hw ((mF.call (mF.up mF.refl (A_21 hw) u2020 rfl) F2079 rfl) : mF [21006, 200008, 202999] w μ1990 μ2077) rfl) (vc_X1_doActs_W12_13 (nS h1998) h2001 h4 h3 hp2 h2003 h2002) (h2080.1 T2078 F2079)
        by_cases h2081 : z2022 = 26
        · refine mr_tableIn (pc := 62) (v := 26) (tgt := 172) dX1_doActs_62 h2081 rfl rfl (by decide) ?_
          have h2082 : 26 ≤ z2022 ∧ z2022 ≤ 26 := (vc_X1_doActs_W12_27 h2081 h2053 h2055 h2057 h2059 h2061 h2066 h2072 h2024)
          refine sv_aload_n (pc := 172) dX1_doActs_172 rfl rfl ?_
          refine gf_X1_2 (pc := 173) dX1_doActs_173 wF_X1_25 (A_21 hw) T2021 (RT.keep I1997 hw ((mF.up mF.refl (A_21 hw) u2020 rfl) : mF [21006] w μ1990 μ2019) rfl) fun b2083 q2084 A2085 => ?_
          refine mr_iload (pc := 176) (z := z2010) dX1_doActs_176 rfl ?_
          refine mr_cVV (pc := 178) (c_X7_dropMark_W hw T2021 A2085 (rW (c := (-2147483648)) (d := 2147483647) h2013 rfl) ((((W2067.2 h2066).2 h2072).1 h2081) b2083 q2084 A2085)) (gOk _ _ _ _ _) dX1_doActs_178 (tX7_dropMark _ _ _ _ _) ⟨wV_X7_dropMark, wL_X7_dropMark⟩ wM_X1_128 (gCX7 _ _ _ _ _) rfl A2085 rfl ⟨le_t rfl, le_t rfl⟩ ⟨le_t rfl, le_t rfl⟩ rfl (le_t rfl) fun μ2086 T2087 F2088 h2089 => ?_
          refine sv_goto (pc := 181) (tgt := 260) dX1_doActs_181 (by decide) ?_
          refine mr_iinc (pc := 260) (lv' := [(5, iv (z1989 + 1)), (6, iv z2010), (0, .ref 21), (1, .ref a1), (2, iv p2), (3, iv p3), (4, iv p4)]) dX1_doActs_260 rfl (by decide) rfl ?_
          refine sv_goto (pc := 263) (tgt := 3) dX1_doActs_263 (by decide) ?_
          refine mr_lvS (lv' := [(0, .ref 21), (1, .ref a1), (2, iv p2), (3, iv p3), (4, iv p4), (5, iv (z1989 + 1))]) (List.forall_mem_cons.mpr ⟨rfl, List.forall_mem_cons.mpr ⟨rfl, List.forall_mem_cons.mpr ⟨rfl, List.forall_mem_cons.mpr ⟨rfl, List.forall_mem_cons.mpr ⟨rfl, List.forall_mem_cons.mpr ⟨rfl, fun _ h => absurd h List.not_mem_nil⟩⟩⟩⟩⟩⟩) ?_
          exact ih2000 (z1989 + 1) μ2086 T2087 (mF.call (mF.up (mF.call mF.refl F1994 rfl) (A_21 hw) u2020 rfl) F2088 rfl) (rW (c := 0) (d := 1000) (rAdd (e := 1) (f := 1000) h2002 (rR (x := 1)) rfl) rfl) (PC.keep I1996 hw ((mF.call (mF.up mF.refl (A_21 hw) u2020 rfl) F2088 rfl) : mF [21006, 200008, 202999] w μ1990 μ2086) rfl) (RT.keep I1997 hw ((mF.call (mF.up mF.refl (A_21 hw) u2020 rfl) F2088 rfl) : mF [21006, 200008, 202999] w μ1990 μ2086) rfl) (vc_X1_doActs_W12_13 (nS h1998) h2001 h4 h3 hp2 h2003 h2002) (h2089.1 T2087 F2088)
        by_cases h2090 : z2022 = 27
        · refine mr_tableIn (pc := 62) (v := 27) (tgt := 208) dX1_doActs_62 h2090 rfl rfl (by decide) ?_
          have h2091 : 27 ≤ z2022 ∧ z2022 ≤ 27 := (vc_X1_doActs_W12_28 h2090 h2055 h2057 h2059 h2061 h2066 h2072 h2081 h2024)
          refine sv_aload_n (pc := 208) dX1_doActs_208 rfl rfl ?_
          refine gf_X1_2 (pc := 209) dX1_doActs_209 wF_X1_25 (A_21 hw) T2021 (RT.keep I1997 hw ((mF.up mF.refl (A_21 hw) u2020 rfl) : mF [21006] w μ1990 μ2019) rfl) fun b2092 q2093 A2094 => ?_
          refine gf_X7_7 (pc := 212) dX1_doActs_212 wF_X1_96 A2094 T2021 fun z2095 q2096 h2097 => ?_
          have J2120 : ∀ (μ2114 : mM), (mT w μ2114) → (mF [21007, 200007, 201999] w μ2019 μ2114) → (PC w μ2114) → (RT μ2114) → ((WJ_X1_doActs_W8_2 w (loopF (WL_X1_doActs_W8_1 w μ a1 p2 p3 p4 Q) False nL1991) z1989 μ2019) μ2114) → sV (gG l D c H0 sa) mX1_doActs (sRm 12 0 0) (sZ (gG l D c H0 sa) 0 0 (qV w [21006, 21007, 200004, 200006, 200007, 200008, 201999, 202999] μ (fun μ1 => Q μ1 ∧ True))) 260 [(0, .ref 21), (1, .ref a1), (2, iv p2), (3, iv p3), (4, iv p4), (5, iv z1989)] [] (mk w μ2114) 0 0 := by
            intro μ2114 T2115 F2116 I2118 I2119 W2121
            refine mr_iinc (pc := 260) (lv' := [(5, iv (z1989 + 1)), (0, .ref 21), (1, .ref a1), (2, iv p2), (3, iv p3), (4, iv p4)]) dX1_doActs_260 rfl (by decide) rfl ?_
            refine sv_goto (pc := 263) (tgt := 3) dX1_doActs_263 (by decide) ?_
            refine mr_lvS (lv' := [(0, .ref 21), (1, .ref a1), (2, iv p2), (3, iv p3), (4, iv p4), (5, iv (z1989 + 1))]) (List.forall_mem_cons.mpr ⟨rfl, List.forall_mem_cons.mpr ⟨rfl, List.forall_mem_cons.mpr ⟨rfl, List.forall_mem_cons.mpr ⟨rfl, List.forall_mem_cons.mpr ⟨rfl, List.forall_mem_cons.mpr ⟨rfl, fun _ h => absurd h List.not_mem_nil⟩⟩⟩⟩⟩⟩) ?_
            exact ih2000 (z1989 + 1) μ2114 T2115 (mF.call (mF.up (mF.call mF.refl F1994 rfl) (A_21 hw) u2020 rfl) F2116 rfl) (rW (c := 0) (d := 1000) (rAdd (e := 1) (f := 1000) h2002 (rR (x := 1)) rfl) rfl) I2118 I2119 (vc_X1_doActs_W12_13 (nS h1998) h2001 h4 h3 hp2 h2003 h2002) (W2121 T2115 F2116)
          refine mr_if_le (pc := 215) (tgt := 260) dX1_doActs_215 (by decide) (r32 h2097 rfl) (fun h2122 => ?_) (fun h2122 => ?_)
          · have h2123 : 0 ≤ z2095 ∧ z2095 ≤ 0 := (vc_X12_write_57 h2122 h2097)
            refine mr_lvS (lv' := [(0, .ref 21), (1, .ref a1), (2, iv p2), (3, iv p3), (4, iv p4), (5, iv z1989)]) (List.forall_mem_cons.mpr ⟨rfl, List.forall_mem_cons.mpr ⟨rfl, List.forall_mem_cons.mpr ⟨rfl, List.forall_mem_cons.mpr ⟨rfl, List.forall_mem_cons.mpr ⟨rfl, List.forall_mem_cons.mpr ⟨rfl, fun _ h => absurd h List.not_mem_nil⟩⟩⟩⟩⟩⟩) ?_
            exact J2120 μ2019 T2021 mF.refl (PC.keep I1996 hw ((mF.up mF.refl (A_21 hw) u2020 rfl) : mF [21006] w μ1990 μ2019) rfl) (RT.keep I1997 hw ((mF.up mF.refl (A_21 hw) u2020 rfl) : mF [21006] w μ1990 μ2019) rfl) (((((((W2067.2 h2066).2 h2072).2 h2081).1 h2090) b2092 q2093 A2094) z2095 q2096 h2097).1 h2122)
          have h2124 : 1 ≤ z2095 ∧ z2095 ≤ 20 := (vc_X12_write_59 h2122 h2097)
          refine sv_aload_n (pc := 218) dX1_doActs_218 rfl rfl ?_
          refine gk_X1_2 (pc := 219) dX1_doActs_219 wF_X1_25 (A_21 hw) q2093 ?_
          refine sv_aload_n (pc := 222) dX1_doActs_222 rfl rfl ?_
          refine gk_X1_2 (pc := 223) dX1_doActs_223 wF_X1_25 (A_21 hw) q2093 ?_
          refine gf_X7_0 (pc := 226) dX1_doActs_226 wF_X1_114 A2094 T2021 fun A2125 => ?_
          refine mr_iconst (pc := 229) (z := 0) dX1_doActs_229 ?_
          refine la_201 (pc := 230) dX1_doActs_230 A2125 T2021 (rIx (n := 20) (rR (x := 0)) rfl) fun z2126 q2127 h2128 => ?_
          refine mr_iload (pc := 231) (z := z2010) dX1_doActs_231 rfl ?_
          have W2134 := ((((((((W2067.2 h2066).2 h2072).2 h2081).1 h2090) b2092 q2093 A2094) z2095 q2096 h2097).2 h2122) z2126 q2127 h2128)
          refine mr_cVI (pc := 233) (c_X7_putInFront_W hw T2021 A2094 h2128 (rW (c := (-2147483648)) (d := 1000000) h2013 rfl) W2134) (gOk _ _ _ _ _) dX1_doActs_233 (tX7_putInFront _ _ _ _ _) ⟨wV_X7_putInFront, wL_X7_putInFront⟩ wM_X1_131 (gCX7 _ _ _ _ _) rfl A2094 rfl ⟨le_t rfl, le_t rfl⟩ ⟨le_t rfl, le_t rfl⟩ rfl (le_t rfl) fun z2133 μ2129 T2130 F2131 h2132 => ?_
          refine mr_if_ne (pc := 236) (tgt := 260) dX1_doActs_236 (by decide) (r32 h2132.1 rfl) (fun h2135 => ?_) (fun h2135 => ?_)
          · have h2136 : 1 ≤ z2133 ∧ z2133 ≤ 1 := (vc_X12_ring_24 h2135 h2132.1)
            refine mr_lvS (lv' := [(0, .ref 21), (1, .ref a1), (2, iv p2), (3, iv p3), (4, iv p4), (5, iv z1989)]) (List.forall_mem_cons.mpr ⟨rfl, List.forall_mem_cons.mpr ⟨rfl, List.forall_mem_cons.mpr ⟨rfl, List.forall_mem_cons.mpr ⟨rfl, List.forall_mem_cons.mpr ⟨rfl, List.forall_mem_cons.mpr ⟨rfl, fun _ h => absurd h List.not_mem_nil⟩⟩⟩⟩⟩⟩) ?_
            exact J2120 μ2129 T2130 (mF.call mF.refl F2131 rfl) (PC.keep I1996 hw ((mF.call (mF.up mF.refl (A_21 hw) u2020 rfl) F2131 rfl) : mF [21006, 200007, 201999] w μ1990 μ2129) rfl) (RT.keep I1997 hw ((mF.call (mF.up mF.refl (A_21 hw) u2020 rfl) F2131 rfl) : mF [21006, 200007, 201999] w μ1990 μ2129) rfl) (((h2132.2.1 T2130 F2131) h2132.1).1 h2135)
          have h2137 : 0 ≤ z2133 ∧ z2133 ≤ 0 := (vc_X12_ring_22 h2135 h2132.1)
          refine sv_aload_n (pc := 239) dX1_doActs_239 rfl rfl ?_
          refine mr_iconst (pc := 240) (z := 2) dX1_doActs_240 ?_
          refine pf_X1_7 (pc := 241) dX1_doActs_241 wF_X1_50 (A_21 hw) T2130 (rW (c := 0) (d := 2) (rR (x := 2)) rfl) fun μ2138 u2139 T2140 => ?_
          refine sv_goto (pc := 244) (tgt := 260) dX1_doActs_244 (by decide) ?_
          refine mr_lvS (lv' := [(0, .ref 21), (1, .ref a1), (2, iv p2), (3, iv p3), (4, iv p4), (5, iv z1989)]) (List.forall_mem_cons.mpr ⟨rfl, List.forall_mem_cons.mpr ⟨rfl, List.forall_mem_cons.mpr ⟨rfl, List.forall_mem_cons.mpr ⟨rfl, List.forall_mem_cons.mpr ⟨rfl, List.forall_mem_cons.mpr ⟨rfl, fun _ h => absurd h List.not_mem_nil⟩⟩⟩⟩⟩⟩) ?_
          exact J2120 μ2138 T2140 (mF.up (mF.call mF.refl F2131 rfl) (A_21 hw) u2139 rfl) (PC.keep I1996 hw ((mF.up (mF.call (mF.up mF.refl (A_21 hw) u2020 rfl) F2131 rfl) (A_21 hw) u2139 rfl) : mF [21006, 21007, 200007, 201999] w μ1990 μ2138) rfl) (RT.keep I1997 hw ((mF.up (mF.call (mF.up mF.refl (A_21 hw) u2020 rfl) F2131 rfl) (A_21 hw) u2139 rfl) : mF [21006, 21007, 200007, 201999] w μ1990 μ2138) rfl) ((((h2132.2.1 T2130 F2131) h2132.1).2 h2135) μ2138 u2139 T2140)
        by_cases h2141 : z2022 = 28
        · refine mr_tableIn (pc := 62) (v := 28) (tgt := 247) dX1_doActs_62 h2141 rfl rfl (by decide) ?_
          have h2142 : 28 ≤ z2022 ∧ z2022 ≤ 28 := (vc_X1_doActs_W12_33 h2141 h2057 h2059 h2061 h2066 h2072 h2081 h2090 h2024)
          refine sv_aload_n (pc := 247) dX1_doActs_247 rfl rfl ?_
          refine mr_iload (pc := 248) (z := z2010) dX1_doActs_248 rfl ?_
          refine mr_iload (pc := 250) (z := p4) dX1_doActs_250 rfl ?_
          refine mr_iconst (pc := 252) (z := 1) dX1_doActs_252 ?_
          refine mr_iadd (pc := 253) (x := p4) (y := 1) dX1_doActs_253 ?_
          refine mr_cVV (pc := 254) (c_X1_goThrough_W9 hw T2021 (rW (c := (-2147483648)) (d := 2147483647) h2013 rfl) (rAdd (e := 9) (f := 9) hp4 (rR (x := 1)) rfl) (PC.keep I1996 hw ((mF.up mF.refl (A_21 hw) u2020 rfl) : mF [21006] w μ1990 μ2019) rfl) (RT.keep I1997 hw ((mF.up mF.refl (A_21 hw) u2020 rfl) : mF [21006] w μ1990 μ2019) rfl) (((((W2067.2 h2066).2 h2072).2 h2081).2 h2090).1 h2141)) (gOk _ _ _ _ _) dX1_doActs_254 (tX1_goThrough _ _ _ _ _) ⟨wV_X1_goThrough, wL_X1_goThrough⟩ wM_X1_53 (gCX1 _ _ _ _ _) rfl (A_21 hw) rfl ⟨le_t rfl, le_t rfl⟩ ⟨le_t rfl, le_t rfl⟩ rfl (le_t rfl) fun μ2143 T2144 F2145 h2146 => ?_
          refine sv_goto (pc := 257) (tgt := 260) dX1_doActs_257 (by decide) ?_
          refine mr_iinc (pc := 260) (lv' := [(5, iv (z1989 + 1)), (6, iv z2010), (0, .ref 21), (1, .ref a1), (2, iv p2), (3, iv p3), (4, iv p4)]) dX1_doActs_260 rfl (by decide) rfl ?_
          refine sv_goto (pc := 263) (tgt := 3) dX1_doActs_263 (by decide) ?_
          refine mr_lvS (lv' := [(0, .ref 21), (1, .ref a1), (2, iv p2), (3, iv p3), (4, iv p4), (5, iv (z1989 + 1))]) (List.forall_mem_cons.mpr ⟨rfl, List.forall_mem_cons.mpr ⟨rfl, List.forall_mem_cons.mpr ⟨rfl, List.forall_mem_cons.mpr ⟨rfl, List.forall_mem_cons.mpr ⟨rfl, List.forall_mem_cons.mpr ⟨rfl, fun _ h => absurd h List.not_mem_nil⟩⟩⟩⟩⟩⟩) ?_
          exact ih2000 (z1989 + 1) μ2143 T2144 (mF.call (mF.up (mF.call mF.refl F1994 rfl) (A_21 hw) u2020 rfl) F2145 rfl) (rW (c := 0) (d := 1000) (rAdd (e := 1) (f := 1000) h2002 (rR (x := 1)) rfl) rfl) (PC.keep I1996 hw ((mF.call (mF.up mF.refl (A_21 hw) u2020 rfl) F2145 rfl) : mF [21006, 21007, 200004, 200006, 200007, 200008, 201999, 202999] w μ1990 μ2143) rfl) (RT.keep I1997 hw ((mF.call (mF.up mF.refl (A_21 hw) u2020 rfl) F2145 rfl) : mF [21006, 21007, 200004, 200006, 200007, 200008, 201999, 202999] w μ1990 μ2143) rfl) (vc_X1_doActs_W12_13 (nS h1998) h2001 h4 h3 hp2 h2003 h2002) (h2146.1 T2144 F2145)
        refine mr_tableOut (pc := 62) (tgt := 260) dX1_doActs_62 h2024 (vc_X1_doActs_W12_34 h2025 h2034 h2042 h2044 h2046 h2048 h2050 h2053 h2055 h2057 h2059 h2061 h2066 h2072 h2081 h2090 h2141 h2024) (by decide) ?_
        refine mr_iinc (pc := 260) (lv' := [(5, iv (z1989 + 1)), (6, iv z2010), (0, .ref 21), (1, .ref a1), (2, iv p2), (3, iv p3), (4, iv p4)]) dX1_doActs_260 rfl (by decide) rfl ?_
        refine sv_goto (pc := 263) (tgt := 3) dX1_doActs_263 (by decide) ?_
        refine mr_lvS (lv' := [(0, .ref 21), (1, .ref a1), (2, iv p2), (3, iv p3), (4, iv p4), (5, iv (z1989 + 1))]) (List.forall_mem_cons.mpr ⟨rfl, List.forall_mem_cons.mpr ⟨rfl, List.forall_mem_cons.mpr ⟨rfl, List.forall_mem_cons.mpr ⟨rfl, List.forall_mem_cons.mpr ⟨rfl, List.forall_mem_cons.mpr ⟨rfl, fun _ h => absurd h List.not_mem_nil⟩⟩⟩⟩⟩⟩) ?_
        exact ih2000 (z1989 + 1) μ2019 T2021 (mF.up (mF.call mF.refl F1994 rfl) (A_21 hw) u2020 rfl) (rW (c := 0) (d := 1000) (rAdd (e := 1) (f := 1000) h2002 (rR (x := 1)) rfl) rfl) (PC.keep I1996 hw ((mF.up mF.refl (A_21 hw) u2020 rfl) : mF [21006] w μ1990 μ2019) rfl) (RT.keep I1997 hw ((mF.up mF.refl (A_21 hw) u2020 rfl) : mF [21006] w μ1990 μ2019) rfl) (vc_X1_doActs_W12_13 (nS h1998) h2001 h4 h3 hp2 h2003 h2002) (((((W2067.2 h2066).2 h2072).2 h2081).2 h2090).2 h2141)
      have h2147 : 500 ≤ z2014 ∧ z2014 ≤ 500 := (vc_X1_doActs_W12_35 h2017 h2016)
      refine sv_aload_n (pc := 38) dX1_doActs_38 rfl rfl ?_
      refine mr_iconst (pc := 39) (z := 2) dX1_doActs_39 ?_
      refine pf_X1_7 (pc := 40) dX1_doActs_40 wF_X1_50 (A_21 hw) T1993 (rW (c := 0) (d := 2) (rR (x := 2)) rfl) fun μ2148 u2149 T2150 => ?_
      exact mr_vret dX1_doActs_43 rfl (le_t rfl) (le_t rfl) T2150 (mF.up (mF.call mF.refl F1994 rfl) (A_21 hw) u2149 rfl) ⟨((((((((W1999 z1989 μ1990 rfl h1992 T1993 F1994).2 h2001) z2004 q2005 h2006).2 h2007) z2010 q2011 h2012) z2014 q2015 h2016).2 h2017) μ2148 u2149 T2150), trivial⟩
  refine mr_lvS (lv' := [(0, .ref 21), (1, .ref a1), (2, iv p2), (3, iv p3), (4, iv p4), (5, iv 0)]) (List.forall_mem_cons.mpr ⟨rfl, List.forall_mem_cons.mpr ⟨rfl, List.forall_mem_cons.mpr ⟨rfl, List.forall_mem_cons.mpr ⟨rfl, List.forall_mem_cons.mpr ⟨rfl, List.forall_mem_cons.mpr ⟨rfl, fun _ h => absurd h List.not_mem_nil⟩⟩⟩⟩⟩⟩) ?_
  exact L1991 1002 0 μ hT mF.refl (rW (c := 0) (d := 1000) (rR (x := 0)) rfl) hIPC hIRT vc_X6_split_v_102 (hQ n_1 q2 h3)
def WJ_X1_goThrough_W8_3 (w : mW) (p2 : Int) (c13 : Nat) (rec1 : (Int × Int × mM) → Prop) (z1190 : Int) (z1189 : Int) (μ1191 : mM) (z1340 : Int) (z1343 : Int) (z1468 : Int) : Prop := ((z1468 = 0) → rec1 ((((z1190 + 2) + (z1340 * 5)) + (z1343 * 2)), (z1189 + 1), μ1191)) ∧ ((¬ z1468 = 0) → WP_X1_doActs_W8 w μ1191 c13 ((z1190 + 2) + (z1340 * 5)) z1343 p2 (fun μ1505 => mT w μ1505 → mF [21006, 21007, 200004, 200006, 200007, 200008, 201999, 202999] w μ1191 μ1505 → rec1 ((((z1190 + 2) + (z1340 * 5)) + (z1343 * 2)), (z1189 + 1), μ1505)))
def WL_X1_goThrough_W8_2 (w : mW) (p2 : Int) (b10 : Nat) (c13 : Nat) (rec1 : (Int × Int × mM) → Prop) (z1190 : Int) (z1189 : Int) (μ1191 : mM) (z1340 : Int) (z1343 : Int) (rec2 : (Int × Int) → Prop) (s : (Int × Int)) : Prop := ∀ z1468 : Int, ∀ z1467 : Int, s = (z1468, z1467) → (0 ≤ z1468 ∧ z1468 ≤ 1) → (2 ≤ z1467 ∧ z1467 ≤ 2010) → ((((z1190 + 2) + (z1340 * 5)) ≤ z1467) → (WJ_X1_goThrough_W8_3 w p2 c13 rec1 z1190 z1189 μ1191 z1340 z1343 z1468) ) ∧ ((z1467 < ((z1190 + 2) + (z1340 * 5))) → ((z1468 = 0) → (WJ_X1_goThrough_W8_3 w p2 c13 rec1 z1190 z1189 μ1191 z1340 z1343 z1468) ) ∧ ((¬ z1468 = 0) → WP_X1_isSo_W w μ1191 b10 z1467 (fun z1517 _ => (0 ≤ z1517 ∧ z1517 ≤ 1) → ∀ z1518 : Int, μ1191 c13 ((z1467 + 1).toNat) = z1518 → ((-2147483648) ≤ z1518 ∧ z1518 ≤ 2147483647) → ((¬ z1518 = 1) → ((z1517 = 0) → rec2 ((0 : Int), (z1467 + 5))) ∧ ((¬ z1517 = 0) → rec2 ((1 : Int), (z1467 + 5)))) ∧ ((z1518 = 1) → ((z1517 = 1) → rec2 ((0 : Int), (z1467 + 5))) ∧ ((¬ z1517 = 1) → rec2 ((1 : Int), (z1467 + 5)))))))
def WL_X1_goThrough_W8_1 (w : mW) (μ : mM) (p2 : Int) (Q : mM → Prop) (b10 : Nat) (c13 : Nat) (z14 : Int) (rec1 : (Int × Int × mM) → Prop) (s : (Int × Int × mM)) : Prop := ∀ z1190 : Int, ∀ z1189 : Int, ∀ μ1191 : mM, s = (z1190, z1189, μ1191) → (0 ≤ z1190 ∧ z1190 ≤ 2000) → (0 ≤ z1189 ∧ z1189 ≤ 30) → mT w μ1191 → mF [21006, 21007, 200004, 200006, 200007, 200008, 201999, 202999] w μ μ1191 → ((z14 ≤ z1189) → Q μ1191) ∧ ((z1189 < z14) → ∀ z1271 : Int, μ1191 21 7 = z1271 → (0 ≤ z1271 ∧ z1271 ≤ 2) → ((¬ z1271 = 0) → Q μ1191) ∧ ((z1271 = 0) → ∀ n_1336 : Int, (w.2.2.1 c13 : Int) = n_1336 → (0 ≤ n_1336 ∧ n_1336 ≤ 2000) → ∀ z1340 : Int, μ1191 c13 (z1190.toNat) = z1340 → ((-2147483648) ≤ z1340 ∧ z1340 ≤ 2147483647) → ∀ z1343 : Int, μ1191 c13 ((z1190 + 1).toNat) = z1343 → ((-2147483648) ≤ z1343 ∧ z1343 ≤ 2147483647) → loopF (WL_X1_goThrough_W8_2 w p2 b10 c13 rec1 z1190 z1189 μ1191 z1340 z1343) False 2010 ((1 : Int), (z1190 + 2))))
def WP_X1_goThrough_W8 (w : mW) (μ : mM) (p1 : Int) (p2 : Int) (Q : mM → Prop) : Prop := ((p1 < 0) → Q μ) ∧ ((0 ≤ p1) → ∀ z4 : Int, μ 21 8 = z4 → (z4 = w.2.2.2 2 ∧ 0 ≤ z4 ∧ z4 ≤ 12) → ((z4 ≤ p1) → Q μ) ∧ ((p1 < z4) → ∀ b10 : Nat, μ 22 (p1.toNat) = (b10 : Int) → mAt w b10 230 → ∀ c13 : Nat, μ b10 1 = (c13 : Int) → ∀ z14 : Int, μ b10 0 = z14 → loopF (WL_X1_goThrough_W8_1 w μ p2 Q b10 c13 z14) False 2002 ((0 : Int), (0 : Int), μ)))
theorem vc_X1_goThrough_W8_5 {p2 : Int} (h0 : 12 < p2) (h1 : 8 ≤ p2 ∧ p2 ≤ 8) : False := by omega
set_option maxRecDepth 4000 in
set_option maxHeartbeats 4000000 in
theorem c_X1_goThrough_W8 {l : Launch} {D : va_G} {c : Nat → ClassId} {H0 : Heap} {sa : Nat × Nat × (Nat → Int32)} {w : mW} {μ : mM} (hw : mWF w) (hT : mT w μ) {p1 : Int} (hp1 : (-2147483648) ≤ p1 ∧ p1 ≤ 2147483647) {p2 : Int} (hp2 : 8 ≤ p2 ∧ p2 ≤ 8) (hIPC : PC w μ) (hIRT : RT μ) {Q : mM → Prop} (hQ : WP_X1_goThrough_W8 w μ p1 p2 Q) : sC (gG l D c H0 sa) mX1_goThrough 13 0 0 [.ref 21, iv p1, iv p2] (mk w μ) (qV w [21006, 21007, 200004, 200006, 200007, 200008, 201999, 202999] μ (fun μ1 => Q μ1 ∧ True)) := by
  refine sC.of rfl (by decide) (le_t rfl) ?_
  refine mr_lvE (lv' := [(0, .ref 21), (1, iv p1), (2, iv p2)]) rfl ?_
  refine mr_iload_n (pc := 0) (z := p1) dX1_goThrough_0 rfl rfl ?_
  refine mr_if_lt (pc := 1) (tgt := 18) dX1_goThrough_1 (by decide) hp1 (fun h1 => ?_) (fun h1 => ?_)
  · have h2 : (-2147483648) ≤ p1 ∧ p1 ≤ (-1) := (vc_X12_ring_60 h1 hp1)
    exact mr_vret dX1_goThrough_18 rfl (le_t rfl) (le_t rfl) hT mF.refl ⟨(hQ.1 h1), trivial⟩
  have h3 : 0 ≤ p1 ∧ p1 ≤ 2147483647 := (vc_X12_ring_1 h1 hp1)
  refine mr_iload_n (pc := 4) (z := p1) dX1_goThrough_4 rfl rfl ?_
  refine sv_aload_n (pc := 5) dX1_goThrough_5 rfl rfl ?_
  refine gf_X1_8 (pc := 6) dX1_goThrough_6 wF_X1_21 (A_21 hw) hT fun z4 q5 h6 => ?_
  refine mr_icmp_ge (pc := 9) (tgt := 18) dX1_goThrough_9 (by decide) (r32 h3 rfl) (r32 h6.2 rfl) (fun h7 => ?_) (fun h7 => ?_)
  · exact mr_vret dX1_goThrough_18 rfl (le_t rfl) (le_t rfl) hT mF.refl ⟨(((hQ.2 h1) z4 q5 h6).1 h7), trivial⟩
  have h8 : 0 ≤ p1 ∧ p1 ≤ 11 := (vc_X1_goThrough_W13_3 h7 h1 h6.1 h3 h6.2)
  have h9 : 1 ≤ z4 ∧ z4 ≤ 12 := (vc_X1_goThrough_W13_4 h7 h1 h6.1 h8 h6.2)
  refine mr_iload_n (pc := 12) (z := p2) dX1_goThrough_12 rfl rfl ?_
  refine mr_bipush (pc := 13) (z := 12) dX1_goThrough_13 (by decide) ?_
  refine mr_icmp_le (pc := 15) (tgt := 19) dX1_goThrough_15 (by decide) (r32 hp2 rfl) (r32 (rR (x := 12)) rfl) (fun _ => ?_) (fun h => ((vc_X1_goThrough_W8_5 h hp2)).elim)
  refine sv_aload_n (pc := 19) dX1_goThrough_19 rfl rfl ?_
  refine gf_X1_1 (pc := 20) dX1_goThrough_20 wF_X1_17 (A_21 hw) hT ?_
  refine mr_iload_n (pc := 23) (z := p1) dX1_goThrough_23 rfl rfl ?_
  refine la_22 (pc := 24) dX1_goThrough_24 (A_22 hw) hT (rIx (n := 12) h8 rfl) (vc_X1_goThrough_W12_6 h1 h6.1 h7 h8 h9) fun b10 q11 A12 => ?_
  refine mr_astore_n (pc := 25) (lv' := [(3, .ref b10), (0, .ref 21), (1, iv p1), (2, iv p2)]) dX1_goThrough_25 rfl (by decide) rfl ?_
  obtain ⟨c13, z14, q15, A16, q17, R18, e19, e20⟩ := PC.read hIPC hT A12 (vc_X1_goThrough_W12_7 h1 h7 h6.1 h8 h9) (vc_X1_goThrough_W12_6 h1 h6.1 h7 h8 h9) q11
  have h21 : 0 ≤ z14 ∧ z14 ≤ 30 := by rw [← q17]; exact hT _ _ A12 0
  refine mr_iconst (pc := 26) (z := 0) dX1_goThrough_26 ?_
  refine mr_istore (pc := 27) (lv' := [(4, iv 0), (3, .ref b10), (0, .ref 21), (1, iv p1), (2, iv p2)]) dX1_goThrough_27 (by decide) rfl ?_
  refine mr_iconst (pc := 29) (z := 0) dX1_goThrough_29 ?_
  refine mr_istore (pc := 30) (lv' := [(5, iv 0), (4, iv 0), (3, .ref b10), (0, .ref 21), (1, iv p1), (2, iv p2)]) dX1_goThrough_30 (by decide) rfl ?_
  have L1192 : ∀ (nL1192 : Nat) (z1190 z1189 : Int) (μ1191 : mM), mT w μ1191 → mF [21006, 21007, 200004, 200006, 200007, 200008, 201999, 202999] w μ μ1191 → (0 ≤ z1190 ∧ z1190 ≤ 2000) → (0 ≤ z1189 ∧ z1189 ≤ 30) → PC w μ1191 → RT μ1191 → wfR (μ c13) (w.2.2.1 c13) (z1190).toNat (z14 - z1189).toNat → (2001 - z1190) < (nL1192 : Int) → loopF (WL_X1_goThrough_W8_1 w μ p2 Q b10 c13 z14) False nL1192 (z1190, z1189, μ1191) → sV (gG l D c H0 sa) mX1_goThrough (sRm 13 0 0) (sZ (gG l D c H0 sa) 0 0 (qV w [21006, 21007, 200004, 200006, 200007, 200008, 201999, 202999] μ (fun μ1 => Q μ1 ∧ True))) 32 [(0, .ref 21), (2, iv p2), (3, .ref b10), (4, iv z1190), (5, iv z1189)] [] (mk w μ1191) 0 0 := by
    intro nL1192
    induction nL1192 with
    | zero => intro z1190 z1189 μ1191 T1195 F1196 h1193 h1194 I1198 I1199 R1200 h1201 W1202; exact ((vc_X1_goThrough_W12_8 h1201 h1193)).elim
    | succ nL1192 ih1203 =>
      intro z1190 z1189 μ1191 T1195 F1196 h1193 h1194 I1198 I1199 R1200 h1201 W1202
      refine mr_iload (pc := 32) (z := z1189) dX1_goThrough_32 rfl ?_
      refine sv_aload_n (pc := 34) dX1_goThrough_34 rfl rfl ?_
      refine gk_X5_0 (pc := 35) dX1_goThrough_35 wF_X1_57 A12 (F1196.f A12 rfl q17) ?_
      refine mr_icmp_ge (pc := 38) (tgt := 174) dX1_goThrough_38 (by decide) (r32 h1194 rfl) (r32 h21 rfl) (fun h1268 => ?_) (fun h1268 => ?_)
      · exact mr_vret dX1_goThrough_174 rfl (le_t rfl) (le_t rfl) T1195 (mF.call mF.refl F1196 rfl) ⟨((W1202 z1190 z1189 μ1191 rfl h1193 h1194 T1195 F1196).1 h1268), trivial⟩
      have h1269 : 0 ≤ z1189 ∧ z1189 ≤ 29 := (vc_X12_judgedAnew_2 h1268 h1194 h21)
      have h1270 : 1 ≤ z14 ∧ z14 ≤ 30 := (vc_X12_judgedAnew_3 h1268 h1269 h21)
      refine sv_aload_n (pc := 41) dX1_goThrough_41 rfl rfl ?_
      refine gf_X1_7 (pc := 42) dX1_goThrough_42 wF_X1_50 (A_21 hw) T1195 fun z1271 q1272 h1273 => ?_
      refine mr_if_ne (pc := 45) (tgt := 174) dX1_goThrough_45 (by decide) (r32 h1273 rfl) (fun h1333 => ?_) (fun h1333 => ?_)
      · have h1334 : 1 ≤ z1271 ∧ z1271 ≤ 2 := (vc_X12_provides_3 h1333 h1273)
        exact mr_vret dX1_goThrough_174 rfl (le_t rfl) (le_t rfl) T1195 (mF.call mF.refl F1196 rfl) ⟨((((W1202 z1190 z1189 μ1191 rfl h1193 h1194 T1195 F1196).2 h1268) z1271 q1272 h1273).1 h1333), trivial⟩
      have h1335 : 0 ≤ z1271 ∧ z1271 ≤ 0 := (vc_X12_provides_4 h1333 h1273)
      obtain ⟨n_1336, q1337⟩ : ∃ n : Int, (w.2.2.1 c13 : Int) = n := ⟨_, rfl⟩
      have h1338 : 0 ≤ n_1336 ∧ n_1336 ≤ 2000 := lnR (m := 2000) q1337 A16 rfl
      have h1339 : z1190 + 1 < n_1336 := lnLt q1337 (wfR.hd R1200 (vc_X1_goThrough_W12_13 h1193) (vc_X1_goThrough_W12_14 h1268 h1269 h1270))
      refine sv_aload_n (pc := 48) dX1_goThrough_48 rfl rfl ?_
      refine gk_X5_1 (pc := 49) dX1_goThrough_49 wF_X1_60 A12 (F1196.f A12 rfl q15) ?_
      refine mr_iload (pc := 52) (z := z1190) dX1_goThrough_52 rfl ?_
      refine la_231 (pc := 54) dX1_goThrough_54 A16 T1195 (lnC q1337 (vc_X1_goThrough_W12_15 h1339 h1338 h1193)) fun z1340 q1341 h1342 => ?_
      refine mr_istore (pc := 55) (lv' := [(6, iv z1340), (0, .ref 21), (2, iv p2), (3, .ref b10), (4, iv z1190), (5, iv z1189)]) dX1_goThrough_55 (by decide) rfl ?_
      refine sv_aload_n (pc := 57) dX1_goThrough_57 rfl rfl ?_
      refine gk_X5_1 (pc := 58) dX1_goThrough_58 wF_X1_60 A12 (F1196.f A12 rfl q15) ?_
      refine mr_iload (pc := 61) (z := z1190) dX1_goThrough_61 rfl ?_
      refine mr_iconst (pc := 63) (z := 1) dX1_goThrough_63 ?_
      refine mr_iadd (pc := 64) (x := z1190) (y := 1) dX1_goThrough_64 ?_
      refine la_231 (pc := 65) dX1_goThrough_65 A16 T1195 (lnC q1337 (vc_X1_goThrough_W12_16 h1339 h1338 h1193)) fun z1343 q1344 h1345 => ?_
      have B1346 := wfR.bd R1200 (vc_X1_goThrough_W12_13 h1193) (vc_X1_goThrough_W12_14 h1268 h1269 h1270) ((((mF.call mF.refl F1196 rfl) : mF [21006, 21007, 200004, 200006, 200007, 200008, 201999, 202999] w μ μ1191).f A16 rfl rfl).symm.trans q1341) ((((mF.call mF.refl F1196 rfl) : mF [21006, 21007, 200004, 200006, 200007, 200008, 201999, 202999] w μ μ1191).f A16 rfl rfl).symm.trans q1344)
      have h1347 : 0 ≤ z1340 ∧ 0 ≤ z1343 ∧ z1190 + 2 + 5 * z1340 + 2 * z1343 ≤ n_1336 := ⟨B1346.1.1, B1346.1.2.1, lnLe q1337 B1346.1.2.2⟩
      have h1348 : 0 ≤ z1340 ∧ z1340 ≤ 400 := (vc_X1_goThrough_W12_17 h1347 h1339 h1338 h1193 h1342 h1345)
      have h1349 : 0 ≤ z1343 ∧ z1343 ≤ 1000 := (vc_X1_goThrough_W12_18 h1347 h1339 h1338 h1193 h1348 h1345)
      refine mr_istore (pc := 66) (lv' := [(7, iv z1343), (6, iv z1340), (0, .ref 21), (2, iv p2), (3, .ref b10), (4, iv z1190), (5, iv z1189)]) dX1_goThrough_66 (by decide) rfl ?_
      refine mr_iload (pc := 68) (z := z1190) dX1_goThrough_68 rfl ?_
      refine mr_iconst (pc := 70) (z := 2) dX1_goThrough_70 ?_
      refine mr_iadd (pc := 71) (x := z1190) (y := 2) dX1_goThrough_71 ?_
      refine mr_iload (pc := 72) (z := z1340) dX1_goThrough_72 rfl ?_
      refine mr_iconst (pc := 74) (z := 5) dX1_goThrough_74 ?_
      refine mr_imul (pc := 75) (x := z1340) (y := 5) dX1_goThrough_75 ?_
      refine mr_iadd (pc := 76) (x := (z1190 + 2)) (y := (z1340 * 5)) dX1_goThrough_76 ?_
      refine mr_istore (pc := 77) (lv' := [(8, iv ((z1190 + 2) + (z1340 * 5))), (7, iv z1343), (6, iv z1340), (0, .ref 21), (2, iv p2), (3, .ref b10), (4, iv z1190), (5, iv z1189)]) dX1_goThrough_77 (by decide) rfl ?_
      refine mr_iconst (pc := 79) (z := 1) dX1_goThrough_79 ?_
      refine mr_istore (pc := 80) (lv' := [(9, iv 1), (8, iv ((z1190 + 2) + (z1340 * 5))), (7, iv z1343), (6, iv z1340), (0, .ref 21), (2, iv p2), (3, .ref b10), (4, iv z1190), (5, iv z1189)]) dX1_goThrough_80 (by decide) rfl ?_
      refine mr_iload (pc := 82) (z := z1190) dX1_goThrough_82 rfl ?_
      refine mr_iconst (pc := 84) (z := 2) dX1_goThrough_84 ?_
      refine mr_iadd (pc := 85) (x := z1190) (y := 2) dX1_goThrough_85 ?_
      refine mr_istore (pc := 86) (lv' := [(10, iv (z1190 + 2)), (9, iv 1), (8, iv ((z1190 + 2) + (z1340 * 5))), (7, iv z1343), (6, iv z1340), (0, .ref 21), (2, iv p2), (3, .ref b10), (4, iv z1190), (5, iv z1189)]) dX1_goThrough_86 (by decide) rfl ?_
      have L1469 : ∀ (nL1469 : Nat) (z1468 z1467 : Int), True → (0 ≤ z1468 ∧ z1468 ≤ 1) → (2 ≤ z1467 ∧ z1467 ≤ 2010) → ((((z1190 + 2) + (z1340 * 5)) - z1467) % 5 = 0) → (2011 - z1467) < (nL1469 : Int) → loopF (WL_X1_goThrough_W8_2 w p2 b10 c13 (loopF (WL_X1_goThrough_W8_1 w μ p2 Q b10 c13 z14) False nL1192) z1190 z1189 μ1191 z1340 z1343) False nL1469 (z1468, z1467) → sV (gG l D c H0 sa) mX1_goThrough (sRm 13 0 0) (sZ (gG l D c H0 sa) 0 0 (qV w [21006, 21007, 200004, 200006, 200007, 200008, 201999, 202999] μ (fun μ1 => Q μ1 ∧ True))) 88 [(0, .ref 21), (2, iv p2), (3, .ref b10), (5, iv z1189), (7, iv z1343), (8, iv ((z1190 + 2) + (z1340 * 5))), (9, iv z1468), (10, iv z1467)] [] (mk w μ1191) 0 0 := by
        intro nL1469
        induction nL1469 with
        | zero => intro z1468 z1467 _ h1470 h1471 h1475 h1476 W1477; exact ((vc_X1_goThrough_W12_19 h1476 h1475 h1339 h1347 h1338 h1193 h1348 h1349 h1471)).elim
        | succ nL1469 ih1478 =>
          intro z1468 z1467 _ h1470 h1471 h1475 h1476 W1477
          refine mr_iload (pc := 88) (z := z1467) dX1_goThrough_88 rfl ?_
          refine mr_iload (pc := 90) (z := ((z1190 + 2) + (z1340 * 5))) dX1_goThrough_90 rfl ?_
          have J1494 : ((WJ_X1_goThrough_W8_3 w p2 c13 (loopF (WL_X1_goThrough_W8_1 w μ p2 Q b10 c13 z14) False nL1192) z1190 z1189 μ1191 z1340 z1343 z1468) ) → sV (gG l D c H0 sa) mX1_goThrough (sRm 13 0 0) (sZ (gG l D c H0 sa) 0 0 (qV w [21006, 21007, 200004, 200006, 200007, 200008, 201999, 202999] μ (fun μ1 => Q μ1 ∧ True))) 141 [(0, .ref 21), (2, iv p2), (3, .ref b10), (5, iv z1189), (7, iv z1343), (8, iv ((z1190 + 2) + (z1340 * 5))), (9, iv z1468)] [] (mk w μ1191) 0 0 := by
            intro W1495
            refine mr_iload (pc := 141) (z := z1468) dX1_goThrough_141 rfl ?_
            refine mr_if_eq (pc := 143) (tgt := 159) dX1_goThrough_143 (by decide) (r32 h1470 rfl) (fun h1502 => ?_) (fun h1502 => ?_)
            · have h1503 : 0 ≤ z1468 ∧ z1468 ≤ 0 := (vc_X12_ring_22 h1502 h1470)
              refine mr_iload (pc := 159) (z := ((z1190 + 2) + (z1340 * 5))) dX1_goThrough_159 rfl ?_
              refine mr_iload (pc := 161) (z := z1343) dX1_goThrough_161 rfl ?_
              refine mr_iconst (pc := 163) (z := 2) dX1_goThrough_163 ?_
              refine mr_imul (pc := 164) (x := z1343) (y := 2) dX1_goThrough_164 ?_
              refine mr_iadd (pc := 165) (x := ((z1190 + 2) + (z1340 * 5))) (y := (z1343 * 2)) dX1_goThrough_165 ?_
              refine mr_istore (pc := 166) (lv' := [(4, iv (((z1190 + 2) + (z1340 * 5)) + (z1343 * 2))), (0, .ref 21), (2, iv p2), (3, .ref b10), (5, iv z1189), (7, iv z1343), (8, iv ((z1190 + 2) + (z1340 * 5))), (9, iv z1468)]) dX1_goThrough_166 (by decide) rfl ?_
              refine mr_iinc (pc := 168) (lv' := [(5, iv (z1189 + 1)), (4, iv (((z1190 + 2) + (z1340 * 5)) + (z1343 * 2))), (0, .ref 21), (2, iv p2), (3, .ref b10), (7, iv z1343), (8, iv ((z1190 + 2) + (z1340 * 5))), (9, iv z1468)]) dX1_goThrough_168 rfl (by decide) rfl ?_
              refine sv_goto (pc := 171) (tgt := 32) dX1_goThrough_171 (by decide) ?_
              refine mr_lvS (lv' := [(0, .ref 21), (2, iv p2), (3, .ref b10), (4, iv (((z1190 + 2) + (z1340 * 5)) + (z1343 * 2))), (5, iv (z1189 + 1))]) (List.forall_mem_cons.mpr ⟨rfl, List.forall_mem_cons.mpr ⟨rfl, List.forall_mem_cons.mpr ⟨rfl, List.forall_mem_cons.mpr ⟨rfl, List.forall_mem_cons.mpr ⟨rfl, fun _ h => absurd h List.not_mem_nil⟩⟩⟩⟩⟩) ?_
              exact ih1203 (((z1190 + 2) + (z1340 * 5)) + (z1343 * 2)) (z1189 + 1) μ1191 T1195 (mF.call mF.refl F1196 rfl) (vc_X1_goThrough_W12_21 h1339 h1347 h1475 h1338 h1193 h1348 h1349 h1471) (rW (c := 0) (d := 30) (rAdd (e := 1) (f := 30) h1269 (rR (x := 1)) rfl) rfl) I1198 I1199 (wfR.cg B1346.2.2 (vc_X1_goThrough_W12_23 h1339 h1347 h1475 h1338 h1193 h1348 h1349 h1471)) (vc_X1_goThrough_W12_22 (nS h1201) h1339 h1347 h1475 h1338 h1193 h1348 h1349 h1471) ((W1495).1 h1502)
            have h1504 : 1 ≤ z1468 ∧ z1468 ≤ 1 := (vc_X12_ring_24 h1502 h1470)
            refine sv_aload_n (pc := 146) dX1_goThrough_146 rfl rfl ?_
            refine sv_aload_n (pc := 147) dX1_goThrough_147 rfl rfl ?_
            refine gk_X5_1 (pc := 148) dX1_goThrough_148 wF_X1_60 A12 (F1196.f A12 rfl q15) ?_
            refine mr_iload (pc := 151) (z := ((z1190 + 2) + (z1340 * 5))) dX1_goThrough_151 rfl ?_
            refine mr_iload (pc := 153) (z := z1343) dX1_goThrough_153 rfl ?_
            refine mr_iload_n (pc := 155) (z := p2) dX1_goThrough_155 rfl rfl ?_
            refine mr_cVV (pc := 156) (c_X1_doActs_W8 hw T1195 A16 (vc_X1_goThrough_W12_25 h1339 h1347 h1475 h1338 h1193 h1348 h1349 h1471) h1349 hp2 I1198 I1199 (lnL q1337 (vc_X1_goThrough_W12_26 h1339 h1347 h1475 h1338 h1193 h1348 h1349 h1471)) (argC B1346.2.1 (vc_X1_goThrough_W12_27 h1339 h1347 h1475 h1338 h1193 h1348 h1349 h1471) (funext fun i => ((mF.call mF.refl F1196 rfl) : mF [21006, 21007, 200004, 200006, 200007, 200008, 201999, 202999] w μ μ1191).f A16 rfl rfl)) ((W1495).2 h1502)) (gOk _ _ _ _ _) dX1_goThrough_156 (tX1_doActs _ _ _ _ _) ⟨wV_X1_doActs, wL_X1_doActs⟩ wM_X1_68 (gCX1 _ _ _ _ _) rfl (A_21 hw) rfl ⟨le_t rfl, le_t rfl⟩ ⟨le_t rfl, le_t rfl⟩ rfl (le_t rfl) fun μ1505 T1506 F1507 h1508 => ?_
            refine mr_iload (pc := 159) (z := ((z1190 + 2) + (z1340 * 5))) dX1_goThrough_159 rfl ?_
            refine mr_iload (pc := 161) (z := z1343) dX1_goThrough_161 rfl ?_
            refine mr_iconst (pc := 163) (z := 2) dX1_goThrough_163 ?_
            refine mr_imul (pc := 164) (x := z1343) (y := 2) dX1_goThrough_164 ?_
            refine mr_iadd (pc := 165) (x := ((z1190 + 2) + (z1340 * 5))) (y := (z1343 * 2)) dX1_goThrough_165 ?_
            refine mr_istore (pc := 166) (lv' := [(4, iv (((z1190 + 2) + (z1340 * 5)) + (z1343 * 2))), (0, .ref 21), (2, iv p2), (3, .ref b10), (5, iv z1189), (7, iv z1343), (8, iv ((z1190 + 2) + (z1340 * 5))), (9, iv z1468)]) dX1_goThrough_166 (by decide) rfl ?_
            refine mr_iinc (pc := 168) (lv' := [(5, iv (z1189 + 1)), (4, iv (((z1190 + 2) + (z1340 * 5)) + (z1343 * 2))), (0, .ref 21), (2, iv p2), (3, .ref b10), (7, iv z1343), (8, iv ((z1190 + 2) + (z1340 * 5))), (9, iv z1468)]) dX1_goThrough_168 rfl (by decide) rfl ?_
            refine sv_goto (pc := 171) (tgt := 32) dX1_goThrough_171 (by decide) ?_
            refine mr_lvS (lv' := [(0, .ref 21), (2, iv p2), (3, .ref b10), (4, iv (((z1190 + 2) + (z1340 * 5)) + (z1343 * 2))), (5, iv (z1189 + 1))]) (List.forall_mem_cons.mpr ⟨rfl, List.forall_mem_cons.mpr ⟨rfl, List.forall_mem_cons.mpr ⟨rfl, List.forall_mem_cons.mpr ⟨rfl, List.forall_mem_cons.mpr ⟨rfl, fun _ h => absurd h List.not_mem_nil⟩⟩⟩⟩⟩) ?_
            exact ih1203 (((z1190 + 2) + (z1340 * 5)) + (z1343 * 2)) (z1189 + 1) μ1505 T1506 (mF.call (mF.call mF.refl F1196 rfl) F1507 rfl) (vc_X1_goThrough_W12_21 h1339 h1347 h1475 h1338 h1193 h1348 h1349 h1471) (rW (c := 0) (d := 30) (rAdd (e := 1) (f := 30) h1269 (rR (x := 1)) rfl) rfl) (PC.keep I1198 hw ((mF.call mF.refl F1507 rfl) : mF [21006, 21007, 200004, 200006, 200007, 200008, 201999, 202999] w μ1191 μ1505) rfl) (RT.keep I1199 hw ((mF.call mF.refl F1507 rfl) : mF [21006, 21007, 200004, 200006, 200007, 200008, 201999, 202999] w μ1191 μ1505) rfl) (wfR.cg B1346.2.2 (vc_X1_goThrough_W12_23 h1339 h1347 h1475 h1338 h1193 h1348 h1349 h1471)) (vc_X1_goThrough_W12_22 (nS h1201) h1339 h1347 h1475 h1338 h1193 h1348 h1349 h1471) (h1508.1 T1506 F1507)
          refine mr_icmp_ge (pc := 92) (tgt := 141) dX1_goThrough_92 (by decide) (r32 h1471 rfl) (r32 (rAdd (e := 2) (f := 4002) (rAdd (e := 2) (f := 2002) h1193 (rR (x := 2)) rfl) (rMulR (n := 5) (e := 0) (f := 2000) h1348 rfl) rfl) rfl) (fun h1509 => ?_) (fun h1509 => ?_)
          · refine mr_lvS (lv' := [(0, .ref 21), (2, iv p2), (3, .ref b10), (5, iv z1189), (7, iv z1343), (8, iv ((z1190 + 2) + (z1340 * 5))), (9, iv z1468)]) (List.forall_mem_cons.mpr ⟨rfl, List.forall_mem_cons.mpr ⟨rfl, List.forall_mem_cons.mpr ⟨rfl, List.forall_mem_cons.mpr ⟨rfl, List.forall_mem_cons.mpr ⟨rfl, List.forall_mem_cons.mpr ⟨rfl, List.forall_mem_cons.mpr ⟨rfl, fun _ h => absurd h List.not_mem_nil⟩⟩⟩⟩⟩⟩⟩) ?_
            exact J1494 ((W1477 z1468 z1467 rfl h1470 h1471).1 h1509)
          refine mr_iload (pc := 95) (z := z1468) dX1_goThrough_95 rfl ?_
          refine mr_if_eq (pc := 97) (tgt := 141) dX1_goThrough_97 (by decide) (r32 h1470 rfl) (fun h1510 => ?_) (fun h1510 => ?_)
          · have h1511 : 0 ≤ z1468 ∧ z1468 ≤ 0 := (vc_X12_ring_22 h1510 h1470)
            refine mr_lvS (lv' := [(0, .ref 21), (2, iv p2), (3, .ref b10), (5, iv z1189), (7, iv z1343), (8, iv ((z1190 + 2) + (z1340 * 5))), (9, iv z1468)]) (List.forall_mem_cons.mpr ⟨rfl, List.forall_mem_cons.mpr ⟨rfl, List.forall_mem_cons.mpr ⟨rfl, List.forall_mem_cons.mpr ⟨rfl, List.forall_mem_cons.mpr ⟨rfl, List.forall_mem_cons.mpr ⟨rfl, List.forall_mem_cons.mpr ⟨rfl, fun _ h => absurd h List.not_mem_nil⟩⟩⟩⟩⟩⟩⟩) ?_
            exact J1494 (((W1477 z1468 z1467 rfl h1470 h1471).2 h1509).1 h1510)
          have h1512 : 1 ≤ z1468 ∧ z1468 ≤ 1 := (vc_X12_ring_24 h1510 h1470)
          refine sv_aload_n (pc := 100) dX1_goThrough_100 rfl rfl ?_
          refine sv_aload_n (pc := 101) dX1_goThrough_101 rfl rfl ?_
          refine mr_iload (pc := 102) (z := z1467) dX1_goThrough_102 rfl ?_
          refine mr_cVP (pc := 104) (c_X1_isSo_W hw T1195 A12 (vc_X1_goThrough_W12_28 h1475 h1509 h1339 h1347 h1338 h1193 h1348 h1349 h1471) I1199 (lnF (F1196.f A12 rfl q15) q1337 (vc_X1_goThrough_W12_29 h1339 h1347 h1475 h1509 h1338 h1193 h1348 h1349 h1471)) (by rw [((mF.call mF.refl F1196 rfl) : mF [21006, 21007, 200004, 200006, 200007, 200008, 201999, 202999] w μ μ1191).f (k := 2) A12 rfl rfl, ((mF.call mF.refl F1196 rfl) : mF [21006, 21007, 200004, 200006, 200007, 200008, 201999, 202999] w μ μ1191).f (k := 3) A12 rfl rfl]; exact e19) (by rw [((mF.call mF.refl F1196 rfl) : mF [21006, 21007, 200004, 200006, 200007, 200008, 201999, 202999] w μ μ1191).f (k := 4) A12 rfl rfl, ((mF.call mF.refl F1196 rfl) : mF [21006, 21007, 200004, 200006, 200007, 200008, 201999, 202999] w μ μ1191).f (k := 5) A12 rfl rfl]; exact e20) (((W1477 z1468 z1467 rfl h1470 h1471).2 h1509).2 h1510)) (gOk _ _ _ _ _) dX1_goThrough_104 (tX1_isSo _ _ _ _ _) ⟨wV_X1_isSo, wL_X1_isSo⟩ wM_X1_64 (gCX1 _ _ _ _ _) rfl (A_21 hw) rfl ⟨le_t rfl, le_t rfl⟩ ⟨le_t rfl, le_t rfl⟩ rfl (le_t rfl) fun z1517 h1516 => ?_
          refine sv_aload_n (pc := 107) dX1_goThrough_107 rfl rfl ?_
          refine gk_X5_1 (pc := 108) dX1_goThrough_108 wF_X1_60 A12 (F1196.f A12 rfl q15) ?_
          refine mr_iload (pc := 111) (z := z1467) dX1_goThrough_111 rfl ?_
          refine mr_iconst (pc := 113) (z := 1) dX1_goThrough_113 ?_
          refine mr_iadd (pc := 114) (x := z1467) (y := 1) dX1_goThrough_114 ?_
          refine la_231 (pc := 115) dX1_goThrough_115 A16 T1195 (lnC q1337 (vc_X1_goThrough_W12_30 h1339 h1347 h1475 h1509 h1338 h1193 h1348 h1349 h1471)) fun z1518 q1519 h1520 => ?_
          refine mr_iconst (pc := 116) (z := 1) dX1_goThrough_116 ?_
          refine mr_icmp_ne (pc := 117) (tgt := 124) dX1_goThrough_117 (by decide) h1520 (r32 (rR (x := 1)) rfl) (fun h1522 => ?_) (fun h1522 => ?_)
          · refine mr_iconst (pc := 124) (z := 0) dX1_goThrough_124 ?_
            refine mr_icmp_eq (pc := 125) (tgt := 132) dX1_goThrough_125 (by decide) (r32 h1516.1 rfl) (r32 (rR (x := 0)) rfl) (fun h1525 => ?_) (fun h1525 => ?_)
            · have h1526 : 0 ≤ z1517 ∧ z1517 ≤ 0 := (vc_X12_ring_22 h1525 h1516.1)
              refine mr_iconst (pc := 132) (z := 0) dX1_goThrough_132 ?_
              refine mr_istore (pc := 133) (lv' := [(9, iv 0), (0, .ref 21), (2, iv p2), (3, .ref b10), (5, iv z1189), (7, iv z1343), (8, iv ((z1190 + 2) + (z1340 * 5))), (10, iv z1467)]) dX1_goThrough_133 (by decide) rfl ?_
              refine mr_iinc (pc := 135) (lv' := [(10, iv (z1467 + 5)), (9, iv 0), (0, .ref 21), (2, iv p2), (3, .ref b10), (5, iv z1189), (7, iv z1343), (8, iv ((z1190 + 2) + (z1340 * 5)))]) dX1_goThrough_135 rfl (by decide) rfl ?_
              refine sv_goto (pc := 138) (tgt := 88) dX1_goThrough_138 (by decide) ?_
              refine mr_lvS (lv' := [(0, .ref 21), (2, iv p2), (3, .ref b10), (5, iv z1189), (7, iv z1343), (8, iv ((z1190 + 2) + (z1340 * 5))), (9, iv 0), (10, iv (z1467 + 5))]) (List.forall_mem_cons.mpr ⟨rfl, List.forall_mem_cons.mpr ⟨rfl, List.forall_mem_cons.mpr ⟨rfl, List.forall_mem_cons.mpr ⟨rfl, List.forall_mem_cons.mpr ⟨rfl, List.forall_mem_cons.mpr ⟨rfl, List.forall_mem_cons.mpr ⟨rfl, List.forall_mem_cons.mpr ⟨rfl, fun _ h => absurd h List.not_mem_nil⟩⟩⟩⟩⟩⟩⟩⟩) ?_
              exact ih1478 0 (z1467 + 5) trivial (rW (c := 0) (d := 1) (rR (x := 0)) rfl) (vc_X1_goThrough_W12_32 h1475 h1509 h1339 h1347 h1338 h1193 h1348 h1349 h1471) (vc_X1_goThrough_W12_33 h1339 h1347 h1475 h1509 h1338 h1193 h1348 h1349 h1471) (vc_X1_goThrough_W12_34 (nS h1476) h1475 h1509 h1339 h1347 h1338 h1193 h1348 h1349 h1471) ((((h1516.2.1 h1516.1) z1518 q1519 h1520).1 h1522).1 h1525)
            have h1527 : 1 ≤ z1517 ∧ z1517 ≤ 1 := (vc_X12_ring_24 h1525 h1516.1)
            refine mr_iconst (pc := 128) (z := 1) dX1_goThrough_128 ?_
            refine sv_goto (pc := 129) (tgt := 133) dX1_goThrough_129 (by decide) ?_
            refine mr_istore (pc := 133) (lv' := [(9, iv 1), (0, .ref 21), (2, iv p2), (3, .ref b10), (5, iv z1189), (7, iv z1343), (8, iv ((z1190 + 2) + (z1340 * 5))), (10, iv z1467)]) dX1_goThrough_133 (by decide) rfl ?_
            refine mr_iinc (pc := 135) (lv' := [(10, iv (z1467 + 5)), (9, iv 1), (0, .ref 21), (2, iv p2), (3, .ref b10), (5, iv z1189), (7, iv z1343), (8, iv ((z1190 + 2) + (z1340 * 5)))]) dX1_goThrough_135 rfl (by decide) rfl ?_
            refine sv_goto (pc := 138) (tgt := 88) dX1_goThrough_138 (by decide) ?_
            refine mr_lvS (lv' := [(0, .ref 21), (2, iv p2), (3, .ref b10), (5, iv z1189), (7, iv z1343), (8, iv ((z1190 + 2) + (z1340 * 5))), (9, iv 1), (10, iv (z1467 + 5))]) (List.forall_mem_cons.mpr ⟨rfl, List.forall_mem_cons.mpr ⟨rfl, List.forall_mem_cons.mpr ⟨rfl, List.forall_mem_cons.mpr ⟨rfl, List.forall_mem_cons.mpr ⟨rfl, List.forall_mem_cons.mpr ⟨rfl, List.forall_mem_cons.mpr ⟨rfl, List.forall_mem_cons.mpr ⟨rfl, fun _ h => absurd h List.not_mem_nil⟩⟩⟩⟩⟩⟩⟩⟩) ?_
            exact ih1478 1 (z1467 + 5) trivial (rW (c := 0) (d := 1) (rR (x := 1)) rfl) (vc_X1_goThrough_W12_32 h1475 h1509 h1339 h1347 h1338 h1193 h1348 h1349 h1471) (vc_X1_goThrough_W12_33 h1339 h1347 h1475 h1509 h1338 h1193 h1348 h1349 h1471) (vc_X1_goThrough_W12_34 (nS h1476) h1475 h1509 h1339 h1347 h1338 h1193 h1348 h1349 h1471) ((((h1516.2.1 h1516.1) z1518 q1519 h1520).1 h1522).2 h1525)
          have h1528 : 1 ≤ z1518 ∧ z1518 ≤ 1 := (vc_X3_toldInAll_1 h1522 h1520)
          refine mr_iconst (pc := 120) (z := 1) dX1_goThrough_120 ?_
          refine sv_goto (pc := 121) (tgt := 125) dX1_goThrough_121 (by decide) ?_
          refine mr_icmp_eq (pc := 125) (tgt := 132) dX1_goThrough_125 (by decide) (r32 h1516.1 rfl) (r32 (rR (x := 1)) rfl) (fun h1531 => ?_) (fun h1531 => ?_)
          · have h1532 : 1 ≤ z1517 ∧ z1517 ≤ 1 := (vc_X1_goThrough_W12_37 h1531 h1516.1)
            refine mr_iconst (pc := 132) (z := 0) dX1_goThrough_132 ?_
            refine mr_istore (pc := 133) (lv' := [(9, iv 0), (0, .ref 21), (2, iv p2), (3, .ref b10), (5, iv z1189), (7, iv z1343), (8, iv ((z1190 + 2) + (z1340 * 5))), (10, iv z1467)]) dX1_goThrough_133 (by decide) rfl ?_
            refine mr_iinc (pc := 135) (lv' := [(10, iv (z1467 + 5)), (9, iv 0), (0, .ref 21), (2, iv p2), (3, .ref b10), (5, iv z1189), (7, iv z1343), (8, iv ((z1190 + 2) + (z1340 * 5)))]) dX1_goThrough_135 rfl (by decide) rfl ?_
            refine sv_goto (pc := 138) (tgt := 88) dX1_goThrough_138 (by decide) ?_
            refine mr_lvS (lv' := [(0, .ref 21), (2, iv p2), (3, .ref b10), (5, iv z1189), (7, iv z1343), (8, iv ((z1190 + 2) + (z1340 * 5))), (9, iv 0), (10, iv (z1467 + 5))]) (List.forall_mem_cons.mpr ⟨rfl, List.forall_mem_cons.mpr ⟨rfl, List.forall_mem_cons.mpr ⟨rfl, List.forall_mem_cons.mpr ⟨rfl, List.forall_mem_cons.mpr ⟨rfl, List.forall_mem_cons.mpr ⟨rfl, List.forall_mem_cons.mpr ⟨rfl, List.forall_mem_cons.mpr ⟨rfl, fun _ h => absurd h List.not_mem_nil⟩⟩⟩⟩⟩⟩⟩⟩) ?_
            exact ih1478 0 (z1467 + 5) trivial (rW (c := 0) (d := 1) (rR (x := 0)) rfl) (vc_X1_goThrough_W12_32 h1475 h1509 h1339 h1347 h1338 h1193 h1348 h1349 h1471) (vc_X1_goThrough_W12_33 h1339 h1347 h1475 h1509 h1338 h1193 h1348 h1349 h1471) (vc_X1_goThrough_W12_34 (nS h1476) h1475 h1509 h1339 h1347 h1338 h1193 h1348 h1349 h1471) ((((h1516.2.1 h1516.1) z1518 q1519 h1520).2 h1522).1 h1531)
          have h1533 : 0 ≤ z1517 ∧ z1517 ≤ 0 := (vc_X1_goThrough_W12_38 h1531 h1516.1)
          refine mr_iconst (pc := 128) (z := 1) dX1_goThrough_128 ?_
          refine sv_goto (pc := 129) (tgt := 133) dX1_goThrough_129 (by decide) ?_
          refine mr_istore (pc := 133) (lv' := [(9, iv 1), (0, .ref 21), (2, iv p2), (3, .ref b10), (5, iv z1189), (7, iv z1343), (8, iv ((z1190 + 2) + (z1340 * 5))), (10, iv z1467)]) dX1_goThrough_133 (by decide) rfl ?_
          refine mr_iinc (pc := 135) (lv' := [(10, iv (z1467 + 5)), (9, iv 1), (0, .ref 21), (2, iv p2), (3, .ref b10), (5, iv z1189), (7, iv z1343), (8, iv ((z1190 + 2) + (z1340 * 5)))]) dX1_goThrough_135 rfl (by decide) rfl ?_
          refine sv_goto (pc := 138) (tgt := 88) dX1_goThrough_138 (by decide) ?_
          refine mr_lvS (lv' := [(0, .ref 21), (2, iv p2), (3, .ref b10), (5, iv z1189), (7, iv z1343), (8, iv ((z1190 + 2) + (z1340 * 5))), (9, iv 1), (10, iv (z1467 + 5))]) (List.forall_mem_cons.mpr ⟨rfl, List.forall_mem_cons.mpr ⟨rfl, List.forall_mem_cons.mpr ⟨rfl, List.forall_mem_cons.mpr ⟨rfl, List.forall_mem_cons.mpr ⟨rfl, List.forall_mem_cons.mpr ⟨rfl, List.forall_mem_cons.mpr ⟨rfl, List.forall_mem_cons.mpr ⟨rfl, fun _ h => absurd h List.not_mem_nil⟩⟩⟩⟩⟩⟩⟩⟩) ?_
          exact ih1478 1 (z1467 + 5) trivial (rW (c := 0) (d := 1) (rR (x := 1)) rfl) (vc_X1_goThrough_W12_32 h1475 h1509 h1339 h1347 h1338 h1193 h1348 h1349 h1471) (vc_X1_goThrough_W12_33 h1339 h1347 h1475 h1509 h1338 h1193 h1348 h1349 h1471) (vc_X1_goThrough_W12_34 (nS h1476) h1475 h1509 h1339 h1347 h1338 h1193 h1348 h1349 h1471) ((((h1516.2.1 h1516.1) z1518 q1519 h1520).2 h1522).2 h1531)
      refine mr_lvS (lv' := [(0, .ref 21), (2, iv p2), (3, .ref b10), (5, iv z1189), (7, iv z1343), (8, iv ((z1190 + 2) + (z1340 * 5))), (9, iv 1), (10, iv (z1190 + 2))]) (List.forall_mem_cons.mpr ⟨rfl, List.forall_mem_cons.mpr ⟨rfl, List.forall_mem_cons.mpr ⟨rfl, List.forall_mem_cons.mpr ⟨rfl, List.forall_mem_cons.mpr ⟨rfl, List.forall_mem_cons.mpr ⟨rfl, List.forall_mem_cons.mpr ⟨rfl, List.forall_mem_cons.mpr ⟨rfl, fun _ h => absurd h List.not_mem_nil⟩⟩⟩⟩⟩⟩⟩⟩) ?_
      exact L1469 2010 1 (z1190 + 2) trivial (rW (c := 0) (d := 1) (rR (x := 1)) rfl) (rW (c := 2) (d := 2010) (rAdd (e := 2) (f := 2002) h1193 (rR (x := 2)) rfl) rfl) (vc_X1_goThrough_W12_39 h1339 h1347 h1338 h1193 h1348 h1349) (vc_X1_goThrough_W12_40 h1339 h1347 h1338 h1193 h1348 h1349) (((((((W1202 z1190 z1189 μ1191 rfl h1193 h1194 T1195 F1196).2 h1268) z1271 q1272 h1273).2 h1333) n_1336 q1337 h1338) z1340 q1341 h1342) z1343 q1344 h1345)
  refine mr_lvS (lv' := [(0, .ref 21), (2, iv p2), (3, .ref b10), (4, iv 0), (5, iv 0)]) (List.forall_mem_cons.mpr ⟨rfl, List.forall_mem_cons.mpr ⟨rfl, List.forall_mem_cons.mpr ⟨rfl, List.forall_mem_cons.mpr ⟨rfl, List.forall_mem_cons.mpr ⟨rfl, fun _ h => absurd h List.not_mem_nil⟩⟩⟩⟩⟩) ?_
  exact L1192 2002 0 0 μ hT mF.refl (rW (c := 0) (d := 2000) (rR (x := 0)) rfl) (rW (c := 0) (d := 30) (rR (x := 0)) rfl) hIPC hIRT R18 vc_X1_goThrough_W12_41 ((((((hQ.2 h1) z4 q5 h6).2 h7) b10 q11 A12) c13 q15) z14 q17)
def WJ_X1_doActs_W7_2 (w : mW) (rec1 : (Int × mM) → Prop) (z1989 : Int) (μ2019 : mM) (μ2114 : mM) : Prop := mT w μ2114 → mF [21007, 200007, 201999] w μ2019 μ2114 → rec1 ((z1989 + 1), μ2114)
def WL_X1_doActs_W7_1 (w : mW) (μ : mM) (a1 : Nat) (p2 : Int) (p3 : Int) (p4 : Int) (Q : mM → Prop) (rec1 : (Int × mM) → Prop) (s : (Int × mM)) : Prop := ∀ z1989 : Int, ∀ μ1990 : mM, s = (z1989, μ1990) → (0 ≤ z1989 ∧ z1989 ≤ 1000) → mT w μ1990 → mF [21006, 21007, 200004, 200006, 200007, 200008, 201999, 202999] w μ μ1990 → ((p3 ≤ z1989) → Q μ1990) ∧ ((z1989 < p3) → ∀ z2004 : Int, μ1990 21 7 = z2004 → (0 ≤ z2004 ∧ z2004 ≤ 2) → ((¬ z2004 = 0) → Q μ1990) ∧ ((z2004 = 0) → ∀ z2010 : Int, μ1990 a1 (((p2 + (z1989 * 2)) + 1).toNat) = z2010 → ((-2147483648) ≤ z2010 ∧ z2010 ≤ 2147483647) → ∀ z2014 : Int, μ1990 21 6 = z2014 → (0 ≤ z2014 ∧ z2014 ≤ 500) → ((z2014 < 500) → ∀ μ2019 : mM, mU μ1990 21 (6) (z2014 + 1) μ2019 → mT w μ2019 → ∀ z2022 : Int, μ2019 a1 ((p2 + (z1989 * 2)).toNat) = z2022 → ((-2147483648) ≤ z2022 ∧ z2022 ≤ 2147483647) → (z2022 = 12 → ∀ b2028 : Nat, μ2019 21 2 = (b2028 : Int) → mAt w b2028 200 → ∀ μ2031 : mM, mU μ2019 b2028 (4) z2010 μ2031 → mT w μ2031 → rec1 ((z1989 + 1), μ2031)) ∧ (¬ z2022 = 12 → (z2022 = 13 → ∀ b2036 : Nat, μ2019 21 2 = (b2036 : Int) → mAt w b2036 200 → ∀ μ2039 : mM, mU μ2019 b2036 (6) z2010 μ2039 → mT w μ2039 → rec1 ((z1989 + 1), μ2039)) ∧ (¬ z2022 = 13 → (z2022 = 14 → rec1 ((z1989 + 1), μ2019)) ∧ (¬ z2022 = 14 → (z2022 = 15 → rec1 ((z1989 + 1), μ2019)) ∧ (¬ z2022 = 15 → (z2022 = 16 → rec1 ((z1989 + 1), μ2019)) ∧ (¬ z2022 = 16 → (z2022 = 17 → rec1 ((z1989 + 1), μ2019)) ∧ (¬ z2022 = 17 → (z2022 = 18 → rec1 ((z1989 + 1), μ2019)) ∧ (¬ z2022 = 18 → (z2022 = 19 → rec1 ((z1989 + 1), μ2019)) ∧ (¬ z2022 = 19 → (z2022 = 20 → rec1 ((z1989 + 1), μ2019)) ∧ (¬ z2022 = 20 → (z2022 = 21 → rec1 ((z1989 + 1), μ2019)) ∧ (¬ z2022 = 21 → (z2022 = 22 → rec1 ((z1989 + 1), μ2019)) ∧ (¬ z2022 = 22 → (z2022 = 23 → ∀ μ2063 : mM, mU μ2019 21 (7) (1 : Int) μ2063 → mT w μ2063 → rec1 ((z1989 + 1), μ2063)) ∧ (¬ z2022 = 23 → (z2022 = 24 → ∀ μ2069 : mM, mU μ2019 21 (7) (2 : Int) μ2069 → mT w μ2069 → rec1 ((z1989 + 1), μ2069)) ∧ (¬ z2022 = 24 → (z2022 = 25 → ∀ b2074 : Nat, μ2019 21 2 = (b2074 : Int) → mAt w b2074 200 → WP_X7_addMark_W w μ2019 b2074 z2010 (fun μ2077 => mT w μ2077 → mF [200008, 202999] w μ2019 μ2077 → rec1 ((z1989 + 1), μ2077))) ∧ (¬ z2022 = 25 → (z2022 = 26 → ∀ b2083 : Nat, μ2019 21 2 = (b2083 : Int) → mAt w b2083 200 → WP_X7_dropMark_W w μ2019 b2083 z2010 (fun μ2086 => mT w μ2086 → mF [200008, 202999] w μ2019 μ2086 → rec1 ((z1989 + 1), μ2086))) ∧ (¬ z2022 = 26 → (z2022 = 27 → ∀ b2092 : Nat, μ2019 21 2 = (b2092 : Int) → mAt w b2092 200 → ∀ z2095 : Int, μ2019 b2092 7 = z2095 → (0 ≤ z2095 ∧ z2095 ≤ 20) → ((z2095 ≤ 0) → (WJ_X1_doActs_W7_2 w rec1 z1989 μ2019) μ2019) ∧ ((0 < z2095) → ∀ z2126 : Int, μ2019 (b2092 + 1) ((0 : Int).toNat) = z2126 → ((-2147483648) ≤ z2126 ∧ z2126 ≤ 2147483647) → WP_X7_putInFront_W w μ2019 b2092 z2126 z2010 (fun z2133 μ2129 => mT w μ2129 → mF [200007, 201999] w μ2019 μ2129 → (0 ≤ z2133 ∧ z2133 ≤ 1) → ((¬ z2133 = 0) → (WJ_X1_doActs_W7_2 w rec1 z1989 μ2019) μ2129) ∧ ((z2133 = 0) → ∀ μ2138 : mM, mU μ2129 21 (7) (2 : Int) μ2138 → mT w μ2138 → (WJ_X1_doActs_W7_2 w rec1 z1989 μ2019) μ2138)))) ∧ (¬ z2022 = 27 → (z2022 = 28 → WP_X1_goThrough_W8 w μ2019 z2010 (p4 + 1) (fun μ2143 => mT w μ2143 → mF [21006, 21007, 200004, 200006, 200007, 200008, 201999, 202999] w μ2019 μ2143 → rec1 ((z1989 + 1), μ2143))) ∧ (¬ z2022 = 28 → rec1 ((z1989 + 1), μ2019))))))))))))))))))) ∧ ((500 ≤ z2014) → ∀ μ2148 : mM, mU μ1990 21 (7) (2 : Int) μ2148 → mT w μ2148 → Q μ2148)))
def WP_X1_doActs_W7 (w : mW) (μ : mM) (a1 : Nat) (p2 : Int) (p3 : Int) (p4 : Int) (Q : mM → Prop) : Prop := ∀ n_1 : Int, (w.2.2.1 a1 : Int) = n_1 → (0 ≤ n_1 ∧ n_1 ≤ 2000) → loopF (WL_X1_doActs_W7_1 w μ a1 p2 p3 p4 Q) False 1002 ((0 : Int), μ)
set_option maxRecDepth 4000 in
set_option maxHeartbeats 4000000 in
theorem c_X1_doActs_W7 {l : Launch} {D : va_G} {c : Nat → ClassId} {H0 : Heap} {sa : Nat × Nat × (Nat → Int32)} {w : mW} {μ : mM} (hw : mWF w) (hT : mT w μ) {a1 : Nat} (hA1 : mAt w a1 231) {p2 : Int} (hp2 : 0 ≤ p2 ∧ p2 ≤ 2000) {p3 : Int} (hp3 : 0 ≤ p3 ∧ p3 ≤ 1000) {p4 : Int} (hp4 : 7 ≤ p4 ∧ p4 ≤ 7) (hIPC : PC w μ) (hIRT : RT μ) (hlen : p2 + 2 * p3 ≤ (w.2.2.1 a1 : Int)) (harg : ∀ i : Int, 0 ≤ i → i < p3 → 0 ≤ μ a1 (p2 + 2 * i + 1).toNat ∧ μ a1 (p2 + 2 * i + 1).toNat ≤ 1000000) {Q : mM → Prop} (hQ : WP_X1_doActs_W7 w μ a1 p2 p3 p4 Q) : sC (gG l D c H0 sa) mX1_doActs 14 0 0 [.ref 21, .ref a1, iv p2, iv p3, iv p4] (mk w μ) (qV w [21006, 21007, 200004, 200006, 200007, 200008, 201999, 202999] μ (fun μ1 => Q μ1 ∧ True)) := by
  refine sC.of rfl (by decide) (le_t rfl) ?_
  refine mr_lvE (lv' := [(0, .ref 21), (1, .ref a1), (2, iv p2), (3, iv p3), (4, iv p4)]) rfl ?_
  obtain ⟨n_1, q2⟩ : ∃ n : Int, (w.2.2.1 a1 : Int) = n := ⟨_, rfl⟩
  have h3 : 0 ≤ n_1 ∧ n_1 ≤ 2000 := lnR (m := 2000) q2 hA1 rfl
  have h4 : p2 + 2 * p3 ≤ n_1 := lnLe q2 hlen
  refine mr_iconst (pc := 0) (z := 0) dX1_doActs_0 ?_
  refine mr_istore (pc := 1) (lv' := [(5, iv 0), (0, .ref 21), (1, .ref a1), (2, iv p2), (3, iv p3), (4, iv p4)]) dX1_doActs_1 (by decide) rfl ?_
  have L1991 : ∀ (nL1991 : Nat) (z1989 : Int) (μ1990 : mM), mT w μ1990 → mF [21006, 21007, 200004, 200006, 200007, 200008, 201999, 202999] w μ μ1990 → (0 ≤ z1989 ∧ z1989 ≤ 1000) → PC w μ1990 → RT μ1990 → (1001 - z1989) < (nL1991 : Int) → loopF (WL_X1_doActs_W7_1 w μ a1 p2 p3 p4 Q) False nL1991 (z1989, μ1990) → sV (gG l D c H0 sa) mX1_doActs (sRm 14 0 0) (sZ (gG l D c H0 sa) 0 0 (qV w [21006, 21007, 200004, 200006, 200007, 200008, 201999, 202999] μ (fun μ1 => Q μ1 ∧ True))) 3 [(0, .ref 21), (1, .ref a1), (2, iv p2), (3, iv p3), (4, iv p4), (5, iv z1989)] [] (mk w μ1990) 0 0 := by
    intro nL1991
    induction nL1991 with
    | zero => intro z1989 μ1990 T1993 F1994 h1992 I1996 I1997 h1998 W1999; exact ((vc_X1_doActs_W12_1 h1998 h1992)).elim
    | succ nL1991 ih2000 =>
      intro z1989 μ1990 T1993 F1994 h1992 I1996 I1997 h1998 W1999
      refine mr_iload (pc := 3) (z := z1989) dX1_doActs_3 rfl ?_
      refine mr_iload_n (pc := 5) (z := p3) dX1_doActs_5 rfl rfl ?_
      refine mr_icmp_ge (pc := 6) (tgt := 266) dX1_doActs_6 (by decide) (r32 h1992 rfl) (r32 hp3 rfl) (fun h2001 => ?_) (fun h2001 => ?_)
      · exact mr_vret dX1_doActs_266 rfl (le_t rfl) (le_t rfl) T1993 (mF.call mF.refl F1994 rfl) ⟨((W1999 z1989 μ1990 rfl h1992 T1993 F1994).1 h2001), trivial⟩
      have h2002 : 0 ≤ z1989 ∧ z1989 ≤ 999 := (vc_X1_doActs_W12_2 h2001 h4 h3 hp2 hp3 h1992)
      have h2003 : 1 ≤ p3 ∧ p3 ≤ 1000 := (vc_X1_doActs_W12_3 h2001 h4 h3 hp2 hp3 h2002)
      refine sv_aload_n (pc := 9) dX1_doActs_9 rfl rfl ?_
      refine gf_X1_7 (pc := 10) dX1_doActs_10 wF_X1_50 (A_21 hw) T1993 fun z2004 q2005 h2006 => ?_
      refine mr_if_ne (pc := 13) (tgt := 266) dX1_doActs_13 (by decide) (r32 h2006 rfl) (fun h2007 => ?_) (fun h2007 => ?_)
      · have h2008 : 1 ≤ z2004 ∧ z2004 ≤ 2 := (vc_X12_provides_3 h2007 h2006)
        exact mr_vret dX1_doActs_266 rfl (le_t rfl) (le_t rfl) T1993 (mF.call mF.refl F1994 rfl) ⟨((((W1999 z1989 μ1990 rfl h1992 T1993 F1994).2 h2001) z2004 q2005 h2006).1 h2007), trivial⟩
      have h2009 : 0 ≤ z2004 ∧ z2004 ≤ 0 := (vc_X12_provides_4 h2007 h2006)
      refine sv_aload_n (pc := 16) dX1_doActs_16 rfl rfl ?_
      refine mr_iload_n (pc := 17) (z := p2) dX1_doActs_17 rfl rfl ?_
      refine mr_iload (pc := 18) (z := z1989) dX1_doActs_18 rfl ?_
      refine mr_iconst (pc := 20) (z := 2) dX1_doActs_20 ?_
      refine mr_imul (pc := 21) (x := z1989) (y := 2) dX1_doActs_21 ?_
      refine mr_iadd (pc := 22) (x := p2) (y := (z1989 * 2)) dX1_doActs_22 ?_
      refine mr_iconst (pc := 23) (z := 1) dX1_doActs_23 ?_
      refine mr_iadd (pc := 24) (x := (p2 + (z1989 * 2))) (y := 1) dX1_doActs_24 ?_
      refine la_231 (pc := 25) dX1_doActs_25 hA1 T1993 (lnC q2 (vc_X1_doActs_W12_6 h4 h2001 h3 hp2 h2003 h2002)) fun z2010 q2011 h2012 => ?_
      have h2013 : 0 ≤ z2010 ∧ z2010 ≤ 1000000 := argB harg (vc_X1_doActs_W12_7 h2001 h4 h3 hp2 h2003 h2002) (vc_X1_doActs_W12_8 h4 h2001 h3 hp2 h2003 h2002) (vc_X1_doActs_W12_9 h4 h2001 h3 hp2 h2003 h2002) (((mF.call mF.refl F1994 rfl) : mF [21006, 21007, 200004, 200006, 200007, 200008, 201999, 202999] w μ μ1990).f hA1 rfl rfl) q2011
      refine mr_istore (pc := 26) (lv' := [(6, iv z2010), (0, .ref 21), (1, .ref a1), (2, iv p2), (3, iv p3), (4, iv p4), (5, iv z1989)]) dX1_doActs_26 (by decide) rfl ?_
      refine sv_aload_n (pc := 28) dX1_doActs_28 rfl rfl ?_
      refine gf_X1_6 (pc := 29) dX1_doActs_29 wF_X1_47 (A_21 hw) T1993 fun z2014 q2015 h2016 => ?_
      refine mr_sipush (pc := 32) (z := 500) dX1_doActs_32 (by decide) ?_
      refine mr_icmp_lt (pc := 35) (tgt := 44) dX1_doActs_35 (by decide) (r32 h2016 rfl) (r32 (rR (x := 500)) rfl) (fun h2017 => ?_) (fun h2017 => ?_)
      · have h2018 : 0 ≤ z2014 ∧ z2014 ≤ 499 := (vc_X1_doActs_W12_10 h2017 h2016)
        refine sv_aload_n (pc := 44) dX1_doActs_44 rfl rfl ?_
        refine sv_dup (pc := 45) dX1_doActs_45 rfl ?_
        refine gk_X1_6 (pc := 46) dX1_doActs_46 wF_X1_47 (A_21 hw) q2015 ?_
        refine mr_iconst (pc := 49) (z := 1) dX1_doActs_49 ?_
        refine mr_iadd (pc := 50) (x := z2014) (y := 1) dX1_doActs_50 ?_
        refine pf_X1_6 (pc := 51) dX1_doActs_51 wF_X1_47 (A_21 hw) T1993 (rW (c := 0) (d := 500) (rAdd (e := 1) (f := 500) h2018 (rR (x := 1)) rfl) rfl) fun μ2019 u2020 T2021 => ?_
        refine sv_aload_n (pc := 54) dX1_doActs_54 rfl rfl ?_
        refine mr_iload_n (pc := 55) (z := p2) dX1_doActs_55 rfl rfl ?_
        refine mr_iload (pc := 56) (z := z1989) dX1_doActs_56 rfl ?_
        refine mr_iconst (pc := 58) (z := 2) dX1_doActs_58 ?_
        refine mr_imul (pc := 59) (x := z1989) (y := 2) dX1_doActs_59 ?_
        refine mr_iadd (pc := 60) (x := p2) (y := (z1989 * 2)) dX1_doActs_60 ?_
        refine la_231 (pc := 61) dX1_doActs_61 hA1 T2021 (lnC q2 (vc_X1_doActs_W12_11 h4 h2001 h3 hp2 h2003 h2002)) fun z2022 q2023 h2024 => ?_
        have W2026 := (((((((((W1999 z1989 μ1990 rfl h1992 T1993 F1994).2 h2001) z2004 q2005 h2006).2 h2007) z2010 q2011 h2012) z2014 q2015 h2016).1 h2017) μ2019 u2020 T2021) z2022 q2023 h2024)
        by_cases h2025 : z2022 = 12
        · refine mr_tableIn (pc := 62) (v := 12) (tgt := 184) dX1_doActs_62 h2025 rfl rfl (by decide) ?_
          have h2027 : 12 ≤ z2022 ∧ z2022 ≤ 12 := (vc_X1_doActs_W12_12 h2025 h2024)
          refine sv_aload_n (pc := 184) dX1_doActs_184 rfl rfl ?_
          refine gf_X1_2 (pc := 185) dX1_doActs_185 wF_X1_25 (A_21 hw) T2021 (RT.keep I1997 hw ((mF.up mF.refl (A_21 hw) u2020 rfl) : mF [21006] w μ1990 μ2019) rfl) fun b2028 q2029 A2030 => ?_
          refine mr_iload (pc := 188) (z := z2010) dX1_doActs_188 rfl ?_
          refine pf_X7_4 (pc := 190) dX1_doActs_190 wF_X1_105 A2030 T2021 (rW (c := (-2147483648)) (d := 2147483647) h2013 rfl) fun μ2031 u2032 T2033 => ?_
          refine sv_goto (pc := 193) (tgt := 260) dX1_doActs_193 (by decide) ?_
          refine mr_iinc (pc := 260) (lv' := [(5, iv (z1989 + 1)), (6, iv z2010), (0, .ref 21), (1, .ref a1), (2, iv p2), (3, iv p3), (4, iv p4)]) dX1_doActs_260 rfl (by decide) rfl ?_
          refine sv_goto (pc := 263) (tgt := 3) dX1_doActs_263 (by decide) ?_
          refine mr_lvS (lv' := [(0, .ref 21), (1, .ref a1), (2, iv p2), (3, iv p3), (4, iv p4), (5, iv (z1989 + 1))]) (List.forall_mem_cons.mpr ⟨rfl, List.forall_mem_cons.mpr ⟨rfl, List.forall_mem_cons.mpr ⟨rfl, List.forall_mem_cons.mpr ⟨rfl, List.forall_mem_cons.mpr ⟨rfl, List.forall_mem_cons.mpr ⟨rfl, fun _ h => absurd h List.not_mem_nil⟩⟩⟩⟩⟩⟩) ?_
          exact ih2000 (z1989 + 1) μ2031 T2033 (mF.up (mF.up (mF.call mF.refl F1994 rfl) (A_21 hw) u2020 rfl) A2030 u2032 rfl) (rW (c := 0) (d := 1000) (rAdd (e := 1) (f := 1000) h2002 (rR (x := 1)) rfl) rfl) (PC.keep I1996 hw ((mF.up (mF.up mF.refl (A_21 hw) u2020 rfl) A2030 u2032 rfl) : mF [21006, 200004] w μ1990 μ2031) rfl) (RT.keep I1997 hw ((mF.up (mF.up mF.refl (A_21 hw) u2020 rfl) A2030 u2032 rfl) : mF [21006, 200004] w μ1990 μ2031) rfl) (vc_X1_doActs_W12_13 (nS h1998) h2001 h4 h3 hp2 h2003 h2002) (((W2026.1 h2025) b2028 q2029 A2030) μ2031 u2032 T2033)
        by_cases h2034 : z2022 = 13
        · refine mr_tableIn (pc := 62) (v := 13) (tgt := 196) dX1_doActs_62 h2034 rfl rfl (by decide) ?_
          have h2035 : 13 ≤ z2022 ∧ z2022 ≤ 13 := (vc_X1_doActs_W12_14 h2034 h2025 h2024)
          refine sv_aload_n (pc := 196) dX1_doActs_196 rfl rfl ?_
          refine gf_X1_2 (pc := 197) dX1_doActs_197 wF_X1_25 (A_21 hw) T2021 (RT.keep I1997 hw ((mF.up mF.refl (A_21 hw) u2020 rfl) : mF [21006] w μ1990 μ2019) rfl) fun b2036 q2037 A2038 => ?_
          refine mr_iload (pc := 200) (z := z2010) dX1_doActs_200 rfl ?_
          refine pf_X7_6 (pc := 202) dX1_doActs_202 wF_X1_108 A2038 T2021 (rW (c := (-2147483648)) (d := 2147483647) h2013 rfl) fun μ2039 u2040 T2041 => ?_
          refine sv_goto (pc := 205) (tgt := 260) dX1_doActs_205 (by decide) ?_
          refine mr_iinc (pc := 260) (lv' := [(5, iv (z1989 + 1)), (6, iv z2010), (0, .ref 21), (1, .ref a1), (2, iv p2), (3, iv p3), (4, iv p4)]) dX1_doActs_260 rfl (by decide) rfl ?_
          refine sv_goto (pc := 263) (tgt := 3) dX1_doActs_263 (by decide) ?_
          refine mr_lvS (lv' := [(0, .ref 21), (1, .ref a1), (2, iv p2), (3, iv p3), (4, iv p4), (5, iv (z1989 + 1))]) (List.forall_mem_cons.mpr ⟨rfl, List.forall_mem_cons.mpr ⟨rfl, List.forall_mem_cons.mpr ⟨rfl, List.forall_mem_cons.mpr ⟨rfl, List.forall_mem_cons.mpr ⟨rfl, List.forall_mem_cons.mpr ⟨rfl, fun _ h => absurd h List.not_mem_nil⟩⟩⟩⟩⟩⟩) ?_
          exact ih2000 (z1989 + 1) μ2039 T2041 (mF.up (mF.up (mF.call mF.refl F1994 rfl) (A_21 hw) u2020 rfl) A2038 u2040 rfl) (rW (c := 0) (d := 1000) (rAdd (e := 1) (f := 1000) h2002 (rR (x := 1)) rfl) rfl) (PC.keep I1996 hw ((mF.up (mF.up mF.refl (A_21 hw) u2020 rfl) A2038 u2040 rfl) : mF [21006, 200006] w μ1990 μ2039) rfl) (RT.keep I1997 hw ((mF.up (mF.up mF.refl (A_21 hw) u2020 rfl) A2038 u2040 rfl) : mF [21006, 200006] w μ1990 μ2039) rfl) (vc_X1_doActs_W12_13 (nS h1998) h2001 h4 h3 hp2 h2003 h2002) ((((W2026.2 h2025).1 h2034) b2036 q2037 A2038) μ2039 u2040 T2041)
        by_cases h2042 : z2022 = 14
        · refine mr_tableIn (pc := 62) (v := 14) (tgt := 260) dX1_doActs_62 h2042 rfl rfl (by decide) ?_
          have h2043 : 14 ≤ z2022 ∧ z2022 ≤ 14 := (vc_X1_doActs_W12_15 h2042 h2025 h2034 h2024)
          refine mr_iinc (pc := 260) (lv' := [(5, iv (z1989 + 1)), (6, iv z2010), (0, .ref 21), (1, .ref a1), (2, iv p2), (3, iv p3), (4, iv p4)]) dX1_doActs_260 rfl (by decide) rfl ?_
          refine sv_goto (pc := 263) (tgt := 3) dX1_doActs_263 (by decide) ?_
          refine mr_lvS (lv' := [(0, .ref 21), (1, .ref a1), (2, iv p2), (3, iv p3), (4, iv p4), (5, iv (z1989 + 1))]) (List.forall_mem_cons.mpr ⟨rfl, List.forall_mem_cons.mpr ⟨rfl, List.forall_mem_cons.mpr ⟨rfl, List.forall_mem_cons.mpr ⟨rfl, List.forall_mem_cons.mpr ⟨rfl, List.forall_mem_cons.mpr ⟨rfl, fun _ h => absurd h List.not_mem_nil⟩⟩⟩⟩⟩⟩) ?_
          exact ih2000 (z1989 + 1) μ2019 T2021 (mF.up (mF.call mF.refl F1994 rfl) (A_21 hw) u2020 rfl) (rW (c := 0) (d := 1000) (rAdd (e := 1) (f := 1000) h2002 (rR (x := 1)) rfl) rfl) (PC.keep I1996 hw ((mF.up mF.refl (A_21 hw) u2020 rfl) : mF [21006] w μ1990 μ2019) rfl) (RT.keep I1997 hw ((mF.up mF.refl (A_21 hw) u2020 rfl) : mF [21006] w μ1990 μ2019) rfl) (vc_X1_doActs_W12_13 (nS h1998) h2001 h4 h3 hp2 h2003 h2002) (((W2026.2 h2025).2 h2034).1 h2042)
        by_cases h2044 : z2022 = 15
        · refine mr_tableIn (pc := 62) (v := 15) (tgt := 260) dX1_doActs_62 h2044 rfl rfl (by decide) ?_
          have h2045 : 15 ≤ z2022 ∧ z2022 ≤ 15 := (vc_X1_doActs_W12_16 h2044 h2025 h2034 h2042 h2024)
          refine mr_iinc (pc := 260) (lv' := [(5, iv (z1989 + 1)), (6, iv z2010), (0, .ref 21), (1, .ref a1), (2, iv p2), (3, iv p3), (4, iv p4)]) dX1_doActs_260 rfl (by decide) rfl ?_
          refine sv_goto (pc := 263) (tgt := 3) dX1_doActs_263 (by decide) ?_
          refine mr_lvS (lv' := [(0, .ref 21), (1, .ref a1), (2, iv p2), (3, iv p3), (4, iv p4), (5, iv (z1989 + 1))]) (List.forall_mem_cons.mpr ⟨rfl, List.forall_mem_cons.mpr ⟨rfl, List.forall_mem_cons.mpr ⟨rfl, List.forall_mem_cons.mpr ⟨rfl, List.forall_mem_cons.mpr ⟨rfl, List.forall_mem_cons.mpr ⟨rfl, fun _ h => absurd h List.not_mem_nil⟩⟩⟩⟩⟩⟩) ?_
          exact ih2000 (z1989 + 1) μ2019 T2021 (mF.up (mF.call mF.refl F1994 rfl) (A_21 hw) u2020 rfl) (rW (c := 0) (d := 1000) (rAdd (e := 1) (f := 1000) h2002 (rR (x := 1)) rfl) rfl) (PC.keep I1996 hw ((mF.up mF.refl (A_21 hw) u2020 rfl) : mF [21006] w μ1990 μ2019) rfl) (RT.keep I1997 hw ((mF.up mF.refl (A_21 hw) u2020 rfl) : mF [21006] w μ1990 μ2019) rfl) (vc_X1_doActs_W12_13 (nS h1998) h2001 h4 h3 hp2 h2003 h2002) ((((W2026.2 h2025).2 h2034).2 h2042).1 h2044)
        by_cases h2046 : z2022 = 16
        · refine mr_tableIn (pc := 62) (v := 16) (tgt := 260) dX1_doActs_62 h2046 rfl rfl (by decide) ?_
          have h2047 : 16 ≤ z2022 ∧ z2022 ≤ 16 := (vc_X1_doActs_W12_17 h2046 h2025 h2034 h2042 h2044 h2024)
          refine mr_iinc (pc := 260) (lv' := [(5, iv (z1989 + 1)), (6, iv z2010), (0, .ref 21), (1, .ref a1), (2, iv p2), (3, iv p3), (4, iv p4)]) dX1_doActs_260 rfl (by decide) rfl ?_
          refine sv_goto (pc := 263) (tgt := 3) dX1_doActs_263 (by decide) ?_
          refine mr_lvS (lv' := [(0, .ref 21), (1, .ref a1), (2, iv p2), (3, iv p3), (4, iv p4), (5, iv (z1989 + 1))]) (List.forall_mem_cons.mpr ⟨rfl, List.forall_mem_cons.mpr ⟨rfl, List.forall_mem_cons.mpr ⟨rfl, List.forall_mem_cons.mpr ⟨rfl, List.forall_mem_cons.mpr ⟨rfl, List.forall_mem_cons.mpr ⟨rfl, fun _ h => absurd h List.not_mem_nil⟩⟩⟩⟩⟩⟩) ?_
          exact ih2000 (z1989 + 1) μ2019 T2021 (mF.up (mF.call mF.refl F1994 rfl) (A_21 hw) u2020 rfl) (rW (c := 0) (d := 1000) (rAdd (e := 1) (f := 1000) h2002 (rR (x := 1)) rfl) rfl) (PC.keep I1996 hw ((mF.up mF.refl (A_21 hw) u2020 rfl) : mF [21006] w μ1990 μ2019) rfl) (RT.keep I1997 hw ((mF.up mF.refl (A_21 hw) u2020 rfl) : mF [21006] w μ1990 μ2019) rfl) (vc_X1_doActs_W12_13 (nS h1998) h2001 h4 h3 hp2 h2003 h2002) (((((W2026.2 h2025).2 h2034).2 h2042).2 h2044).1 h2046)
        by_cases h2048 : z2022 = 17
        · refine mr_tableIn (pc := 62) (v := 17) (tgt := 260) dX1_doActs_62 h2048 rfl rfl (by decide) ?_
          have h2049 : 17 ≤ z2022 ∧ z2022 ≤ 17 := (vc_X1_doActs_W12_18 h2048 h2025 h2034 h2042 h2044 h2046 h2024)
          refine mr_iinc (pc := 260) (lv' := [(5, iv (z1989 + 1)), (6, iv z2010), (0, .ref 21), (1, .ref a1), (2, iv p2), (3, iv p3), (4, iv p4)]) dX1_doActs_260 rfl (by decide) rfl ?_
          refine sv_goto (pc := 263) (tgt := 3) dX1_doActs_263 (by decide) ?_
          refine mr_lvS (lv' := [(0, .ref 21), (1, .ref a1), (2, iv p2), (3, iv p3), (4, iv p4), (5, iv (z1989 + 1))]) (List.forall_mem_cons.mpr ⟨rfl, List.forall_mem_cons.mpr ⟨rfl, List.forall_mem_cons.mpr ⟨rfl, List.forall_mem_cons.mpr ⟨rfl, List.forall_mem_cons.mpr ⟨rfl, List.forall_mem_cons.mpr ⟨rfl, fun _ h => absurd h List.not_mem_nil⟩⟩⟩⟩⟩⟩) ?_
          exact ih2000 (z1989 + 1) μ2019 T2021 (mF.up (mF.call mF.refl F1994 rfl) (A_21 hw) u2020 rfl) (rW (c := 0) (d := 1000) (rAdd (e := 1) (f := 1000) h2002 (rR (x := 1)) rfl) rfl) (PC.keep I1996 hw ((mF.up mF.refl (A_21 hw) u2020 rfl) : mF [21006] w μ1990 μ2019) rfl) (RT.keep I1997 hw ((mF.up mF.refl (A_21 hw) u2020 rfl) : mF [21006] w μ1990 μ2019) rfl) (vc_X1_doActs_W12_13 (nS h1998) h2001 h4 h3 hp2 h2003 h2002) ((((((W2026.2 h2025).2 h2034).2 h2042).2 h2044).2 h2046).1 h2048)
        have W2051 := ((((((W2026.2 h2025).2 h2034).2 h2042).2 h2044).2 h2046).2 h2048)
        by_cases h2050 : z2022 = 18
        · refine mr_tableIn (pc := 62) (v := 18) (tgt := 260) dX1_doActs_62 h2050 rfl rfl (by decide) ?_
          have h2052 : 18 ≤ z2022 ∧ z2022 ≤ 18 := (vc_X1_doActs_W12_19 h2050 h2025 h2034 h2042 h2044 h2046 h2048 h2024)
          refine mr_iinc (pc := 260) (lv' := [(5, iv (z1989 + 1)), (6, iv z2010), (0, .ref 21), (1, .ref a1), (2, iv p2), (3, iv p3), (4, iv p4)]) dX1_doActs_260 rfl (by decide) rfl ?_
          refine sv_goto (pc := 263) (tgt := 3) dX1_doActs_263 (by decide) ?_
          refine mr_lvS (lv' := [(0, .ref 21), (1, .ref a1), (2, iv p2), (3, iv p3), (4, iv p4), (5, iv (z1989 + 1))]) (List.forall_mem_cons.mpr ⟨rfl, List.forall_mem_cons.mpr ⟨rfl, List.forall_mem_cons.mpr ⟨rfl, List.forall_mem_cons.mpr ⟨rfl, List.forall_mem_cons.mpr ⟨rfl, List.forall_mem_cons.mpr ⟨rfl, fun _ h => absurd h List.not_mem_nil⟩⟩⟩⟩⟩⟩) ?_
          exact ih2000 (z1989 + 1) μ2019 T2021 (mF.up (mF.call mF.refl F1994 rfl) (A_21 hw) u2020 rfl) (rW (c := 0) (d := 1000) (rAdd (e := 1) (f := 1000) h2002 (rR (x := 1)) rfl) rfl) (PC.keep I1996 hw ((mF.up mF.refl (A_21 hw) u2020 rfl) : mF [21006] w μ1990 μ2019) rfl) (RT.keep I1997 hw ((mF.up mF.refl (A_21 hw) u2020 rfl) : mF [21006] w μ1990 μ2019) rfl) (vc_X1_doActs_W12_13 (nS h1998) h2001 h4 h3 hp2 h2003 h2002) (W2051.1 h2050)
        by_cases h2053 : z2022 = 19
        · refine mr_tableIn (pc := 62) (v := 19) (tgt := 260) dX1_doActs_62 h2053 rfl rfl (by decide) ?_
          have h2054 : 19 ≤ z2022 ∧ z2022 ≤ 19 := (vc_X1_doActs_W12_20 h2053 h2025 h2034 h2042 h2044 h2046 h2048 h2050 h2024)
          refine mr_iinc (pc := 260) (lv' := [(5, iv (z1989 + 1)), (6, iv z2010), (0, .ref 21), (1, .ref a1), (2, iv p2), (3, iv p3), (4, iv p4)]) dX1_doActs_260 rfl (by decide) rfl ?_
          refine sv_goto (pc := 263) (tgt := 3) dX1_doActs_263 (by decide) ?_
          refine mr_lvS (lv' := [(0, .ref 21), (1, .ref a1), (2, iv p2), (3, iv p3), (4, iv p4), (5, iv (z1989 + 1))]) (List.forall_mem_cons.mpr ⟨rfl, List.forall_mem_cons.mpr ⟨rfl, List.forall_mem_cons.mpr ⟨rfl, List.forall_mem_cons.mpr ⟨rfl, List.forall_mem_cons.mpr ⟨rfl, List.forall_mem_cons.mpr ⟨rfl, fun _ h => absurd h List.not_mem_nil⟩⟩⟩⟩⟩⟩) ?_
          exact ih2000 (z1989 + 1) μ2019 T2021 (mF.up (mF.call mF.refl F1994 rfl) (A_21 hw) u2020 rfl) (rW (c := 0) (d := 1000) (rAdd (e := 1) (f := 1000) h2002 (rR (x := 1)) rfl) rfl) (PC.keep I1996 hw ((mF.up mF.refl (A_21 hw) u2020 rfl) : mF [21006] w μ1990 μ2019) rfl) (RT.keep I1997 hw ((mF.up mF.refl (A_21 hw) u2020 rfl) : mF [21006] w μ1990 μ2019) rfl) (vc_X1_doActs_W12_13 (nS h1998) h2001 h4 h3 hp2 h2003 h2002) ((W2051.2 h2050).1 h2053)
        by_cases h2055 : z2022 = 20
        · refine mr_tableIn (pc := 62) (v := 20) (tgt := 260) dX1_doActs_62 h2055 rfl rfl (by decide) ?_
          have h2056 : 20 ≤ z2022 ∧ z2022 ≤ 20 := (vc_X1_doActs_W12_21 h2055 h2034 h2042 h2044 h2046 h2048 h2050 h2053 h2024)
          refine mr_iinc (pc := 260) (lv' := [(5, iv (z1989 + 1)), (6, iv z2010), (0, .ref 21), (1, .ref a1), (2, iv p2), (3, iv p3), (4, iv p4)]) dX1_doActs_260 rfl (by decide) rfl ?_
          refine sv_goto (pc := 263) (tgt := 3) dX1_doActs_263 (by decide) ?_
          refine mr_lvS (lv' := [(0, .ref 21), (1, .ref a1), (2, iv p2), (3, iv p3), (4, iv p4), (5, iv (z1989 + 1))]) (List.forall_mem_cons.mpr ⟨rfl, List.forall_mem_cons.mpr ⟨rfl, List.forall_mem_cons.mpr ⟨rfl, List.forall_mem_cons.mpr ⟨rfl, List.forall_mem_cons.mpr ⟨rfl, List.forall_mem_cons.mpr ⟨rfl, fun _ h => absurd h List.not_mem_nil⟩⟩⟩⟩⟩⟩) ?_
          exact ih2000 (z1989 + 1) μ2019 T2021 (mF.up (mF.call mF.refl F1994 rfl) (A_21 hw) u2020 rfl) (rW (c := 0) (d := 1000) (rAdd (e := 1) (f := 1000) h2002 (rR (x := 1)) rfl) rfl) (PC.keep I1996 hw ((mF.up mF.refl (A_21 hw) u2020 rfl) : mF [21006] w μ1990 μ2019) rfl) (RT.keep I1997 hw ((mF.up mF.refl (A_21 hw) u2020 rfl) : mF [21006] w μ1990 μ2019) rfl) (vc_X1_doActs_W12_13 (nS h1998) h2001 h4 h3 hp2 h2003 h2002) (((W2051.2 h2050).2 h2053).1 h2055)
        by_cases h2057 : z2022 = 21
        · refine mr_tableIn (pc := 62) (v := 21) (tgt := 260) dX1_doActs_62 h2057 rfl rfl (by decide) ?_
          have h2058 : 21 ≤ z2022 ∧ z2022 ≤ 21 := (vc_X1_doActs_W12_22 h2057 h2042 h2044 h2046 h2048 h2050 h2053 h2055 h2024)
          refine mr_iinc (pc := 260) (lv' := [(5, iv (z1989 + 1)), (6, iv z2010), (0, .ref 21), (1, .ref a1), (2, iv p2), (3, iv p3), (4, iv p4)]) dX1_doActs_260 rfl (by decide) rfl ?_
          refine sv_goto (pc := 263) (tgt := 3) dX1_doActs_263 (by decide) ?_
          refine mr_lvS (lv' := [(0, .ref 21), (1, .ref a1), (2, iv p2), (3, iv p3), (4, iv p4), (5, iv (z1989 + 1))]) (List.forall_mem_cons.mpr ⟨rfl, List.forall_mem_cons.mpr ⟨rfl, List.forall_mem_cons.mpr ⟨rfl, List.forall_mem_cons.mpr ⟨rfl, List.forall_mem_cons.mpr ⟨rfl, List.forall_mem_cons.mpr ⟨rfl, fun _ h => absurd h List.not_mem_nil⟩⟩⟩⟩⟩⟩) ?_
          exact ih2000 (z1989 + 1) μ2019 T2021 (mF.up (mF.call mF.refl F1994 rfl) (A_21 hw) u2020 rfl) (rW (c := 0) (d := 1000) (rAdd (e := 1) (f := 1000) h2002 (rR (x := 1)) rfl) rfl) (PC.keep I1996 hw ((mF.up mF.refl (A_21 hw) u2020 rfl) : mF [21006] w μ1990 μ2019) rfl) (RT.keep I1997 hw ((mF.up mF.refl (A_21 hw) u2020 rfl) : mF [21006] w μ1990 μ2019) rfl) (vc_X1_doActs_W12_13 (nS h1998) h2001 h4 h3 hp2 h2003 h2002) ((((W2051.2 h2050).2 h2053).2 h2055).1 h2057)
        by_cases h2059 : z2022 = 22
        · refine mr_tableIn (pc := 62) (v := 22) (tgt := 260) dX1_doActs_62 h2059 rfl rfl (by decide) ?_
          have h2060 : 22 ≤ z2022 ∧ z2022 ≤ 22 := (vc_X1_doActs_W12_23 h2059 h2044 h2046 h2048 h2050 h2053 h2055 h2057 h2024)
          refine mr_iinc (pc := 260) (lv' := [(5, iv (z1989 + 1)), (6, iv z2010), (0, .ref 21), (1, .ref a1), (2, iv p2), (3, iv p3), (4, iv p4)]) dX1_doActs_260 rfl (by decide) rfl ?_
          refine sv_goto (pc := 263) (tgt := 3) dX1_doActs_263 (by decide) ?_
          refine mr_lvS (lv' := [(0, .ref 21), (1, .ref a1), (2, iv p2), (3, iv p3), (4, iv p4), (5, iv (z1989 + 1))]) (List.forall_mem_cons.mpr ⟨rfl, List.forall_mem_cons.mpr ⟨rfl, List.forall_mem_cons.mpr ⟨rfl, List.forall_mem_cons.mpr ⟨rfl, List.forall_mem_cons.mpr ⟨rfl, List.forall_mem_cons.mpr ⟨rfl, fun _ h => absurd h List.not_mem_nil⟩⟩⟩⟩⟩⟩) ?_
          exact ih2000 (z1989 + 1) μ2019 T2021 (mF.up (mF.call mF.refl F1994 rfl) (A_21 hw) u2020 rfl) (rW (c := 0) (d := 1000) (rAdd (e := 1) (f := 1000) h2002 (rR (x := 1)) rfl) rfl) (PC.keep I1996 hw ((mF.up mF.refl (A_21 hw) u2020 rfl) : mF [21006] w μ1990 μ2019) rfl) (RT.keep I1997 hw ((mF.up mF.refl (A_21 hw) u2020 rfl) : mF [21006] w μ1990 μ2019) rfl) (vc_X1_doActs_W12_13 (nS h1998) h2001 h4 h3 hp2 h2003 h2002) (((((W2051.2 h2050).2 h2053).2 h2055).2 h2057).1 h2059)
        by_cases h2061 : z2022 = 23
        · refine mr_tableIn (pc := 62) (v := 23) (tgt := 144) dX1_doActs_62 h2061 rfl rfl (by decide) ?_
          have h2062 : 23 ≤ z2022 ∧ z2022 ≤ 23 := (vc_X1_doActs_W12_24 h2061 h2046 h2048 h2050 h2053 h2055 h2057 h2059 h2024)
          refine sv_aload_n (pc := 144) dX1_doActs_144 rfl rfl ?_
          refine mr_iconst (pc := 145) (z := 1) dX1_doActs_145 ?_
          refine pf_X1_7 (pc := 146) dX1_doActs_146 wF_X1_50 (A_21 hw) T2021 (rW (c := 0) (d := 2) (rR (x := 1)) rfl) fun μ2063 u2064 T2065 => ?_
          refine sv_goto (pc := 149) (tgt := 260) dX1_doActs_149 (by decide) ?_
          refine mr_iinc (pc := 260) (lv' := [(5, iv (z1989 + 1)), (6, iv z2010), (0, .ref 21), (1, .ref a1), (2, iv p2), (3, iv p3), (4, iv p4)]) dX1_doActs_260 rfl (by decide) rfl ?_
          refine sv_goto (pc := 263) (tgt := 3) dX1_doActs_263 (by decide) ?_
          refine mr_lvS (lv' := [(0, .ref 21), (1, .ref a1), (2, iv p2), (3, iv p3), (4, iv p4), (5, iv (z1989 + 1))]) (List.forall_mem_cons.mpr ⟨rfl, List.forall_mem_cons.mpr ⟨rfl, List.forall_mem_cons.mpr ⟨rfl, List.forall_mem_cons.mpr ⟨rfl, List.forall_mem_cons.mpr ⟨rfl, List.forall_mem_cons.mpr ⟨rfl, fun _ h => absurd h List.not_mem_nil⟩⟩⟩⟩⟩⟩) ?_
          exact ih2000 (z1989 + 1) μ2063 T2065 (mF.up (mF.up (mF.call mF.refl F1994 rfl) (A_21 hw) u2020 rfl) (A_21 hw) u2064 rfl) (rW (c := 0) (d := 1000) (rAdd (e := 1) (f := 1000) h2002 (rR (x := 1)) rfl) rfl) (PC.keep I1996 hw ((mF.up (mF.up mF.refl (A_21 hw) u2020 rfl) (A_21 hw) u2064 rfl) : mF [21006, 21007] w μ1990 μ2063) rfl) (RT.keep I1997 hw ((mF.up (mF.up mF.refl (A_21 hw) u2020 rfl) (A_21 hw) u2064 rfl) : mF [21006, 21007] w μ1990 μ2063) rfl) (vc_X1_doActs_W12_13 (nS h1998) h2001 h4 h3 hp2 h2003 h2002) (((((((W2051.2 h2050).2 h2053).2 h2055).2 h2057).2 h2059).1 h2061) μ2063 u2064 T2065)
        have W2067 := ((((((W2051.2 h2050).2 h2053).2 h2055).2 h2057).2 h2059).2 h2061)
        by_cases h2066 : z2022 = 24
        · refine mr_tableIn (pc := 62) (v := 24) (tgt := 152) dX1_doActs_62 h2066 rfl rfl (by decide) ?_
          have h2068 : 24 ≤ z2022 ∧ z2022 ≤ 24 := (vc_X1_doActs_W12_25 h2066 h2048 h2050 h2053 h2055 h2057 h2059 h2061 h2024)
          refine sv_aload_n (pc := 152) dX1_doActs_152 rfl rfl ?_
          refine mr_iconst (pc := 153) (z := 2) dX1_doActs_153 ?_
          refine pf_X1_7 (pc := 154) dX1_doActs_154 wF_X1_50 (A_21 hw) T2021 (rW (c := 0) (d := 2) (rR (x := 2)) rfl) fun μ2069 u2070 T2071 => ?_
          refine sv_goto (pc := 157) (tgt := 260) dX1_doActs_157 (by decide) ?_
          refine mr_iinc (pc := 260) (lv' := [(5, iv (z1989 + 1)), (6, iv z2010), (0, .ref 21), (1, .ref a1), (2, iv p2), (3, iv p3), (4, iv p4)]) dX1_doActs_260 rfl (by decide) rfl ?_
          refine sv_goto (pc := 263) (tgt := 3) dX1_doActs_263 (by decide) ?_
          refine mr_lvS (lv' := [(0, .ref 21), (1, .ref a1), (2, iv p2), (3, iv p3), (4, iv p4), (5, iv (z1989 + 1))]) (List.forall_mem_cons.mpr ⟨rfl, List.forall_mem_cons.mpr ⟨rfl, List.forall_mem_cons.mpr ⟨rfl, List.forall_mem_cons.mpr ⟨rfl, List.forall_mem_cons.mpr ⟨rfl, List.forall_mem_cons.mpr ⟨rfl, fun _ h => absurd h List.not_mem_nil⟩⟩⟩⟩⟩⟩) ?_
          exact ih2000 (z1989 + 1) μ2069 T2071 (mF.up (mF.up (mF.call mF.refl F1994 rfl) (A_21 hw) u2020 rfl) (A_21 hw) u2070 rfl) (rW (c := 0) (d := 1000) (rAdd (e := 1) (f := 1000) h2002 (rR (x := 1)) rfl) rfl) (PC.keep I1996 hw ((mF.up (mF.up mF.refl (A_21 hw) u2020 rfl) (A_21 hw) u2070 rfl) : mF [21006, 21007] w μ1990 μ2069) rfl) (RT.keep I1997 hw ((mF.up (mF.up mF.refl (A_21 hw) u2020 rfl) (A_21 hw) u2070 rfl) : mF [21006, 21007] w μ1990 μ2069) rfl) (vc_X1_doActs_W12_13 (nS h1998) h2001 h4 h3 hp2 h2003 h2002) ((W2067.1 h2066) μ2069 u2070 T2071)
        by_cases h2072 : z2022 = 25
        · refine mr_tableIn (pc := 62) (v := 25) (tgt := 160) dX1_doActs_62 h2072 rfl rfl (by decide) ?_
          have h2073 : 25 ≤ z2022 ∧ z2022 ≤ 25 := (vc_X1_doActs_W12_26 h2072 h2050 h2053 h2055 h2057 h2059 h2061 h2066 h2024)
          refine sv_aload_n (pc := 160) dX1_doActs_160 rfl rfl ?_
          refine gf_X1_2 (pc := 161) dX1_doActs_161 wF_X1_25 (A_21 hw) T2021 (RT.keep I1997 hw ((mF.up mF.refl (A_21 hw) u2020 rfl) : mF [21006] w μ1990 μ2019) rfl) fun b2074 q2075 A2076 => ?_
          refine mr_iload (pc := 164) (z := z2010) dX1_doActs_164 rfl ?_
          refine mr_cVV (pc := 166) (c_X7_addMark_W hw T2021 A2076 (rW (c := (-2147483648)) (d := 2147483647) h2013 rfl) (((W2067.2 h2066).1 h2072) b2074 q2075 A2076)) (gOk _ _ _ _ _) dX1_doActs_166 (tX7_addMark _ _ _ _ _) ⟨wV_X7_addMark, wL_X7_addMark⟩ wM_X1_124 (gCX7 _ _ _ _ _) rfl A2076 rfl ⟨le_t rfl, le_t rfl⟩ ⟨le_t rfl, le_t rfl⟩ rfl (le_t rfl) fun μ2077 T2078 F2079 h2080 => ?_
          refine sv_goto (pc := 169) (tgt := 260) dX1_doActs_169 (by decide) ?_
          refine mr_iinc (pc := 260) (lv' := [(5, iv (z1989 + 1)), (6, iv z2010), (0, .ref 21), (1, .ref a1), (2, iv p2), (3, iv p3), (4, iv p4)]) dX1_doActs_260 rfl (by decide) rfl ?_
          refine sv_goto (pc := 263) (tgt := 3) dX1_doActs_263 (by decide) ?_
          refine mr_lvS (lv' := [(0, .ref 21), (1, .ref a1), (2, iv p2), (3, iv p3), (4, iv p4), (5, iv (z1989 + 1))]) (List.forall_mem_cons.mpr ⟨rfl, List.forall_mem_cons.mpr ⟨rfl, List.forall_mem_cons.mpr ⟨rfl, List.forall_mem_cons.mpr ⟨rfl, List.forall_mem_cons.mpr ⟨rfl, List.forall_mem_cons.mpr ⟨rfl, fun _ h => absurd h List.not_mem_nil⟩⟩⟩⟩⟩⟩) ?_
          exact ih2000 (z1989 + 1) μ2077 T2078 (mF.call (mF.up (mF.call mF.refl F1994 rfl) (A_21 hw) u2020 rfl) F2079 rfl) (rW (c := 0) (d := 1000) (rAdd (e := 1) (f := 1000) h2002 (rR (x := 1)) rfl) rfl) (PC.keep I1996 hw ((mF.call (mF.up mF.refl (A_21 hw) u2020 rfl) F2079 rfl) : mF [21006, 200008, 202999] w μ1990 μ2077) rfl) (RT.keep I1997 hw ((mF.call (mF.up mF.refl (A_21 hw) u2020 rfl) F2079 rfl) : mF [21006, 200008, 202999] w μ1990 μ2077) rfl) (vc_X1_doActs_W12_13 (nS h1998) h2001 h4 h3 hp2 h2003 h2002) (h2080.1 T2078 F2079)
        by_cases h2081 : z2022 = 26
        · refine mr_tableIn (pc := 62) (v := 26) (tgt := 172) dX1_doActs_62 h2081 rfl rfl (by decide) ?_
          have h2082 : 26 ≤ z2022 ∧ z2022 ≤ 26 := (vc_X1_doActs_W12_27 h2081 h2053 h2055 h2057 h2059 h2061 h2066 h2072 h2024)
          refine sv_aload_n (pc := 172) dX1_doActs_172 rfl rfl ?_
          refine gf_X1_2 (pc := 173) dX1_doActs_173 wF_X1_25 (A_21 hw) T2021 (RT.keep I1997 hw ((mF.up mF.refl (A_21 hw) u2020 rfl) : mF [21006] w μ1990 μ2019) rfl) fun b2083 q2084 A2085 => ?_
          refine mr_iload (pc := 176) (z := z2010) dX1_doActs_176 rfl ?_
          refine mr_cVV (pc := 178) (c_X7_dropMark_W hw T2021 A2085 (rW (c := (-2147483648)) (d := 2147483647) h2013 rfl) ((((W2067.2 h2066).2 h2072).1 h2081) b2083 q2084 A2085)) (gOk _ _ _ _ _) dX1_doActs_178 (tX7_dropMark _ _ _ _ _) ⟨wV_X7_dropMark, wL_X7_dropMark⟩ wM_X1_128 (gCX7 _ _ _ _ _) rfl A2085 rfl ⟨le_t rfl, le_t rfl⟩ ⟨le_t rfl, le_t rfl⟩ rfl (le_t rfl) fun μ2086 T2087 F2088 h2089 => ?_
          refine sv_goto (pc := 181) (tgt := 260) dX1_doActs_181 (by decide) ?_
          refine mr_iinc (pc := 260) (lv' := [(5, iv (z1989 + 1)), (6, iv z2010), (0, .ref 21), (1, .ref a1), (2, iv p2), (3, iv p3), (4, iv p4)]) dX1_doActs_260 rfl (by decide) rfl ?_
          refine sv_goto (pc := 263) (tgt := 3) dX1_doActs_263 (by decide) ?_
          refine mr_lvS (lv' := [(0, .ref 21), (1, .ref a1), (2, iv p2), (3, iv p3), (4, iv p4), (5, iv (z1989 + 1))]) (List.forall_mem_cons.mpr ⟨rfl, List.forall_mem_cons.mpr ⟨rfl, List.forall_mem_cons.mpr ⟨rfl, List.forall_mem_cons.mpr ⟨rfl, List.forall_mem_cons.mpr ⟨rfl, List.forall_mem_cons.mpr ⟨rfl, fun _ h => absurd h List.not_mem_nil⟩⟩⟩⟩⟩⟩) ?_
          exact ih2000 (z1989 + 1) μ2086 T2087 (mF.call (mF.up (mF.call mF.refl F1994 rfl) (A_21 hw) u2020 rfl) F2088 rfl) (rW (c := 0) (d := 1000) (rAdd (e := 1) (f := 1000) h2002 (rR (x := 1)) rfl) rfl) (PC.keep I1996 hw ((mF.call (mF.up mF.refl (A_21 hw) u2020 rfl) F2088 rfl) : mF [21006, 200008, 202999] w μ1990 μ2086) rfl) (RT.keep I1997 hw ((mF.call (mF.up mF.refl (A_21 hw) u2020 rfl) F2088 rfl) : mF [21006, 200008, 202999] w μ1990 μ2086) rfl) (vc_X1_doActs_W12_13 (nS h1998) h2001 h4 h3 hp2 h2003 h2002) (h2089.1 T2087 F2088)
        by_cases h2090 : z2022 = 27
        · refine mr_tableIn (pc := 62) (v := 27) (tgt := 208) dX1_doActs_62 h2090 rfl rfl (by decide) ?_
          have h2091 : 27 ≤ z2022 ∧ z2022 ≤ 27 := (vc_X1_doActs_W12_28 h2090 h2055 h2057 h2059 h2061 h2066 h2072 h2081 h2024)
          refine sv_aload_n (pc := 208) dX1_doActs_208 rfl rfl ?_
          refine gf_X1_2 (pc := 209) dX1_doActs_209 wF_X1_25 (A_21 hw) T2021 (RT.keep I1997 hw ((mF.up mF.refl (A_21 hw) u2020 rfl) : mF [21006] w μ1990 μ2019) rfl) fun b2092 q2093 A2094 => ?_
          refine gf_X7_7 (pc := 212) dX1_doActs_212 wF_X1_96 A2094 T2021 fun z2095 q2096 h2097 => ?_
          have J2120 : ∀ (μ2114 : mM), (mT w μ2114) → (mF [21007, 200007, 201999] w μ2019 μ2114) → (PC w μ2114) → (RT μ2114) → ((WJ_X1_doActs_W7_2 w (loopF (WL_X1_doActs_W7_1 w μ a1 p2 p3 p4 Q) False nL1991) z1989 μ2019) μ2114) → sV (gG l D c H0 sa) mX1_doActs (sRm 14 0 0) (sZ (gG l D c H0 sa) 0 0 (qV w [21006, 21007, 200004, 200006, 200007, 200008, 201999, 202999] μ (fun μ1 => Q μ1 ∧ True))) 260 [(0, .ref 21), (1, .ref a1), (2, iv p2), (3, iv p3), (4, iv p4), (5, iv z1989)] [] (mk w μ2114) 0 0 := by
            intro μ2114 T2115 F2116 I2118 I2119 W2121
            refine mr_iinc (pc := 260) (lv' := [(5, iv (z1989 + 1)), (0, .ref 21), (1, .ref a1), (2, iv p2), (3, iv p3), (4, iv p4)]) dX1_doActs_260 rfl (by decide) rfl ?_
            refine sv_goto (pc := 263) (tgt := 3) dX1_doActs_263 (by decide) ?_
            refine mr_lvS (lv' := [(0, .ref 21), (1, .ref a1), (2, iv p2), (3, iv p3), (4, iv p4), (5, iv (z1989 + 1))]) (List.forall_mem_cons.mpr ⟨rfl, List.forall_mem_cons.mpr ⟨rfl, List.forall_mem_cons.mpr ⟨rfl, List.forall_mem_cons.mpr ⟨rfl, List.forall_mem_cons.mpr ⟨rfl, List.forall_mem_cons.mpr ⟨rfl, fun _ h => absurd h List.not_mem_nil⟩⟩⟩⟩⟩⟩) ?_
            exact ih2000 (z1989 + 1) μ2114 T2115 (mF.call (mF.up (mF.call mF.refl F1994 rfl) (A_21 hw) u2020 rfl) F2116 rfl) (rW (c := 0) (d := 1000) (rAdd (e := 1) (f := 1000) h2002 (rR (x := 1)) rfl) rfl) I2118 I2119 (vc_X1_doActs_W12_13 (nS h1998) h2001 h4 h3 hp2 h2003 h2002) (W2121 T2115 F2116)
          refine mr_if_le (pc := 215) (tgt := 260) dX1_doActs_215 (by decide) (r32 h2097 rfl) (fun h2122 => ?_) (fun h2122 => ?_)
          · have h2123 : 0 ≤ z2095 ∧ z2095 ≤ 0 := (vc_X12_write_57 h2122 h2097)
            refine mr_lvS (lv' := [(0, .ref 21), (1, .ref a1), (2, iv p2), (3, iv p3), (4, iv p4), (5, iv z1989)]) (List.forall_mem_cons.mpr ⟨rfl, List.forall_mem_cons.mpr ⟨rfl, List.forall_mem_cons.mpr ⟨rfl, List.forall_mem_cons.mpr ⟨rfl, List.forall_mem_cons.mpr ⟨rfl, List.forall_mem_cons.mpr ⟨rfl, fun _ h => absurd h List.not_mem_nil⟩⟩⟩⟩⟩⟩) ?_
            exact J2120 μ2019 T2021 mF.refl (PC.keep I1996 hw ((mF.up mF.refl (A_21 hw) u2020 rfl) : mF [21006] w μ1990 μ2019) rfl) (RT.keep I1997 hw ((mF.up mF.refl (A_21 hw) u2020 rfl) : mF [21006] w μ1990 μ2019) rfl) (((((((W2067.2 h2066).2 h2072).2 h2081).1 h2090) b2092 q2093 A2094) z2095 q2096 h2097).1 h2122)
          have h2124 : 1 ≤ z2095 ∧ z2095 ≤ 20 := (vc_X12_write_59 h2122 h2097)
          refine sv_aload_n (pc := 218) dX1_doActs_218 rfl rfl ?_
          refine gk_X1_2 (pc := 219) dX1_doActs_219 wF_X1_25 (A_21 hw) q2093 ?_
          refine sv_aload_n (pc := 222) dX1_doActs_222 rfl rfl ?_
          refine gk_X1_2 (pc := 223) dX1_doActs_223 wF_X1_25 (A_21 hw) q2093 ?_
          refine gf_X7_0 (pc := 226) dX1_doActs_226 wF_X1_114 A2094 T2021 fun A2125 => ?_
          refine mr_iconst (pc := 229) (z := 0) dX1_doActs_229 ?_
          refine la_201 (pc := 230) dX1_doActs_230 A2125 T2021 (rIx (n := 20) (rR (x := 0)) rfl) fun z2126 q2127 h2128 => ?_
          refine mr_iload (pc := 231) (z := z2010) dX1_doActs_231 rfl ?_
          have W2134 := ((((((((W2067.2 h2066).2 h2072).2 h2081).1 h2090) b2092 q2093 A2094) z2095 q2096 h2097).2 h2122) z2126 q2127 h2128)
          refine mr_cVI (pc := 233) (c_X7_putInFront_W hw T2021 A2094 h2128 (rW (c := (-2147483648)) (d := 1000000) h2013 rfl) W2134) (gOk _ _ _ _ _) dX1_doActs_233 (tX7_putInFront _ _ _ _ _) ⟨wV_X7_putInFront, wL_X7_putInFront⟩ wM_X1_131 (gCX7 _ _ _ _ _) rfl A2094 rfl ⟨le_t rfl, le_t rfl⟩ ⟨le_t rfl, le_t rfl⟩ rfl (le_t rfl) fun z2133 μ2129 T2130 F2131 h2132 => ?_
          refine mr_if_ne (pc := 236) (tgt := 260) dX1_doActs_236 (by decide) (r32 h2132.1 rfl) (fun h2135 => ?_) (fun h2135 => ?_)
          · have h2136 : 1 ≤ z2133 ∧ z2133 ≤ 1 := (vc_X12_ring_24 h2135 h2132.1)
            refine mr_lvS (lv' := [(0, .ref 21), (1, .ref a1), (2, iv p2), (3, iv p3), (4, iv p4), (5, iv z1989)]) (List.forall_mem_cons.mpr ⟨rfl, List.forall_mem_cons.mpr ⟨rfl, List.forall_mem_cons.mpr ⟨rfl, List.forall_mem_cons.mpr ⟨rfl, List.forall_mem_cons.mpr ⟨rfl, List.forall_mem_cons.mpr ⟨rfl, fun _ h => absurd h List.not_mem_nil⟩⟩⟩⟩⟩⟩) ?_
            exact J2120 μ2129 T2130 (mF.call mF.refl F2131 rfl) (PC.keep I1996 hw ((mF.call (mF.up mF.refl (A_21 hw) u2020 rfl) F2131 rfl) : mF [21006, 200007, 201999] w μ1990 μ2129) rfl) (RT.keep I1997 hw ((mF.call (mF.up mF.refl (A_21 hw) u2020 rfl) F2131 rfl) : mF [21006, 200007, 201999] w μ1990 μ2129) rfl) (((h2132.2.1 T2130 F2131) h2132.1).1 h2135)
          have h2137 : 0 ≤ z2133 ∧ z2133 ≤ 0 := (vc_X12_ring_22 h2135 h2132.1)
          refine sv_aload_n (pc := 239) dX1_doActs_239 rfl rfl ?_
          refine mr_iconst (pc := 240) (z := 2) dX1_doActs_240 ?_
          refine pf_X1_7 (pc := 241) dX1_doActs_241 wF_X1_50 (A_21 hw) T2130 (rW (c := 0) (d := 2) (rR (x := 2)) rfl) fun μ2138 u2139 T2140 => ?_
          refine sv_goto (pc := 244) (tgt := 260) dX1_doActs_244 (by decide) ?_
          refine mr_lvS (lv' := [(0, .ref 21), (1, .ref a1), (2, iv p2), (3, iv p3), (4, iv p4), (5, iv z1989)]) (List.forall_mem_cons.mpr ⟨rfl, List.forall_mem_cons.mpr ⟨rfl, List.forall_mem_cons.mpr ⟨rfl, List.forall_mem_cons.mpr ⟨rfl, List.forall_mem_cons.mpr ⟨rfl, List.forall_mem_cons.mpr ⟨rfl, fun _ h => absurd h List.not_mem_nil⟩⟩⟩⟩⟩⟩) ?_
          exact J2120 μ2138 T2140 (mF.up (mF.call mF.refl F2131 rfl) (A_21 hw) u2139 rfl) (PC.keep I1996 hw ((mF.up (mF.call (mF.up mF.refl (A_21 hw) u2020 rfl) F2131 rfl) (A_21 hw) u2139 rfl) : mF [21006, 21007, 200007, 201999] w μ1990 μ2138) rfl) (RT.keep I1997 hw ((mF.up (mF.call (mF.up mF.refl (A_21 hw) u2020 rfl) F2131 rfl) (A_21 hw) u2139 rfl) : mF [21006, 21007, 200007, 201999] w μ1990 μ2138) rfl) ((((h2132.2.1 T2130 F2131) h2132.1).2 h2135) μ2138 u2139 T2140)
        by_cases h2141 : z2022 = 28
        · refine mr_tableIn (pc := 62) (v := 28) (tgt := 247) dX1_doActs_62 h2141 rfl rfl (by decide) ?_
          have h2142 : 28 ≤ z2022 ∧ z2022 ≤ 28 := (vc_X1_doActs_W12_33 h2141 h2057 h2059 h2061 h2066 h2072 h2081 h2090 h2024)
          refine sv_aload_n (pc := 247) dX1_doActs_247 rfl rfl ?_
          refine mr_iload (pc := 248) (z := z2010) dX1_doActs_248 rfl ?_
          refine mr_iload (pc := 250) (z := p4) dX1_doActs_250 rfl ?_
          refine mr_iconst (pc := 252) (z := 1) dX1_doActs_252 ?_
          refine mr_iadd (pc := 253) (x := p4) (y := 1) dX1_doActs_253 ?_
          refine mr_cVV (pc := 254) (c_X1_goThrough_W8 hw T2021 (rW (c := (-2147483648)) (d := 2147483647) h2013 rfl) (rAdd (e := 8) (f := 8) hp4 (rR (x := 1)) rfl) (PC.keep I1996 hw ((mF.up mF.refl (A_21 hw) u2020 rfl) : mF [21006] w μ1990 μ2019) rfl) (RT.keep I1997 hw ((mF.up mF.refl (A_21 hw) u2020 rfl) : mF [21006] w μ1990 μ2019) rfl) (((((W2067.2 h2066).2 h2072).2 h2081).2 h2090).1 h2141)) (gOk _ _ _ _ _) dX1_doActs_254 (tX1_goThrough _ _ _ _ _) ⟨wV_X1_goThrough, wL_X1_goThrough⟩ wM_X1_53 (gCX1 _ _ _ _ _) rfl (A_21 hw) rfl ⟨le_t rfl, le_t rfl⟩ ⟨le_t rfl, le_t rfl⟩ rfl (le_t rfl) fun μ2143 T2144 F2145 h2146 => ?_
          refine sv_goto (pc := 257) (tgt := 260) dX1_doActs_257 (by decide) ?_
          refine mr_iinc (pc := 260) (lv' := [(5, iv (z1989 + 1)), (6, iv z2010), (0, .ref 21), (1, .ref a1), (2, iv p2), (3, iv p3), (4, iv p4)]) dX1_doActs_260 rfl (by decide) rfl ?_
          refine sv_goto (pc := 263) (tgt := 3) dX1_doActs_263 (by decide) ?_
          refine mr_lvS (lv' := [(0, .ref 21), (1, .ref a1), (2, iv p2), (3, iv p3), (4, iv p4), (5, iv (z1989 + 1))]) (List.forall_mem_cons.mpr ⟨rfl, List.forall_mem_cons.mpr ⟨rfl, List.forall_mem_cons.mpr ⟨rfl, List.forall_mem_cons.mpr ⟨rfl, List.forall_mem_cons.mpr ⟨rfl, List.forall_mem_cons.mpr ⟨rfl, fun _ h => absurd h List.not_mem_nil⟩⟩⟩⟩⟩⟩) ?_
          exact ih2000 (z1989 + 1) μ2143 T2144 (mF.call (mF.up (mF.call mF.refl F1994 rfl) (A_21 hw) u2020 rfl) F2145 rfl) (rW (c := 0) (d := 1000) (rAdd (e := 1) (f := 1000) h2002 (rR (x := 1)) rfl) rfl) (PC.keep I1996 hw ((mF.call (mF.up mF.refl (A_21 hw) u2020 rfl) F2145 rfl) : mF [21006, 21007, 200004, 200006, 200007, 200008, 201999, 202999] w μ1990 μ2143) rfl) (RT.keep I1997 hw ((mF.call (mF.up mF.refl (A_21 hw) u2020 rfl) F2145 rfl) : mF [21006, 21007, 200004, 200006, 200007, 200008, 201999, 202999] w μ1990 μ2143) rfl) (vc_X1_doActs_W12_13 (nS h1998) h2001 h4 h3 hp2 h2003 h2002) (h2146.1 T2144 F2145)
        refine mr_tableOut (pc := 62) (tgt := 260) dX1_doActs_62 h2024 (vc_X1_doActs_W12_34 h2025 h2034 h2042 h2044 h2046 h2048 h2050 h2053 h2055 h2057 h2059 h2061 h2066 h2072 h2081 h2090 h2141 h2024) (by decide) ?_
        refine mr_iinc (pc := 260) (lv' := [(5, iv (z1989 + 1)), (6, iv z2010), (0, .ref 21), (1, .ref a1), (2, iv p2), (3, iv p3), (4, iv p4)]) dX1_doActs_260 rfl (by decide) rfl ?_
        refine sv_goto (pc := 263) (tgt := 3) dX1_doActs_263 (by decide) ?_
        refine mr_lvS (lv' := [(0, .ref 21), (1, .ref a1), (2, iv p2), (3, iv p3), (4, iv p4), (5, iv (z1989 + 1))]) (List.forall_mem_cons.mpr ⟨rfl, List.forall_mem_cons.mpr ⟨rfl, List.forall_mem_cons.mpr ⟨rfl, List.forall_mem_cons.mpr ⟨rfl, List.forall_mem_cons.mpr ⟨rfl, List.forall_mem_cons.mpr ⟨rfl, fun _ h => absurd h List.not_mem_nil⟩⟩⟩⟩⟩⟩) ?_
        exact ih2000 (z1989 + 1) μ2019 T2021 (mF.up (mF.call mF.refl F1994 rfl) (A_21 hw) u2020 rfl) (rW (c := 0) (d := 1000) (rAdd (e := 1) (f := 1000) h2002 (rR (x := 1)) rfl) rfl) (PC.keep I1996 hw ((mF.up mF.refl (A_21 hw) u2020 rfl) : mF [21006] w μ1990 μ2019) rfl) (RT.keep I1997 hw ((mF.up mF.refl (A_21 hw) u2020 rfl) : mF [21006] w μ1990 μ2019) rfl) (vc_X1_doActs_W12_13 (nS h1998) h2001 h4 h3 hp2 h2003 h2002) (((((W2067.2 h2066).2 h2072).2 h2081).2 h2090).2 h2141)
      have h2147 : 500 ≤ z2014 ∧ z2014 ≤ 500 := (vc_X1_doActs_W12_35 h2017 h2016)
      refine sv_aload_n (pc := 38) dX1_doActs_38 rfl rfl ?_
      refine mr_iconst (pc := 39) (z := 2) dX1_doActs_39 ?_
      refine pf_X1_7 (pc := 40) dX1_doActs_40 wF_X1_50 (A_21 hw) T1993 (rW (c := 0) (d := 2) (rR (x := 2)) rfl) fun μ2148 u2149 T2150 => ?_
      exact mr_vret dX1_doActs_43 rfl (le_t rfl) (le_t rfl) T2150 (mF.up (mF.call mF.refl F1994 rfl) (A_21 hw) u2149 rfl) ⟨((((((((W1999 z1989 μ1990 rfl h1992 T1993 F1994).2 h2001) z2004 q2005 h2006).2 h2007) z2010 q2011 h2012) z2014 q2015 h2016).2 h2017) μ2148 u2149 T2150), trivial⟩
  refine mr_lvS (lv' := [(0, .ref 21), (1, .ref a1), (2, iv p2), (3, iv p3), (4, iv p4), (5, iv 0)]) (List.forall_mem_cons.mpr ⟨rfl, List.forall_mem_cons.mpr ⟨rfl, List.forall_mem_cons.mpr ⟨rfl, List.forall_mem_cons.mpr ⟨rfl, List.forall_mem_cons.mpr ⟨rfl, List.forall_mem_cons.mpr ⟨rfl, fun _ h => absurd h List.not_mem_nil⟩⟩⟩⟩⟩⟩) ?_
  exact L1991 1002 0 μ hT mF.refl (rW (c := 0) (d := 1000) (rR (x := 0)) rfl) hIPC hIRT vc_X6_split_v_102 (hQ n_1 q2 h3)
