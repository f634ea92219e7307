def WJ_X12_partOf_W_2 (w : mW) (p3 : Int) (rec1 : (Int × mM) → Prop) (z537 : Int) (μ538 : mM) (f_g : Int) (f_c : Int) (z561 : Int) (z562 : Int) (z583 : Int) : Prop := ((-2147483648) ≤ z583 ∧ z583 ≤ 2147483647) → WP_X12_mask_W w μ538 z561 (fun z591 _ => ((-2147483648) ≤ z591 ∧ z591 ≤ 2147483647) → ∀ z592 : Int, bAnd z583 z591 = z592 → ((p3 = 0) → ∀ μ617 : mM, mU μ538 168 (f_c.toNat) z592 μ617 → mT w μ617 → ∀ μ620 : mM, mU μ617 169 (f_c.toNat) z561 μ620 → mT w μ620 → ∀ μ623 : mM, mU μ620 106 (91) (f_c + 1) μ623 → mT w μ623 → rec1 ((z537 + (1 + z562)), μ623)) ∧ ((¬ p3 = 0) → ∀ μ627 : mM, mU μ538 166 (f_g.toNat) z592 μ627 → mT w μ627 → ∀ μ630 : mM, mU μ627 167 (f_g.toNat) z561 μ630 → mT w μ630 → ∀ μ633 : mM, mU μ630 106 (88) (f_g + 1) μ633 → mT w μ633 → rec1 ((z537 + (1 + z562)), μ633)))
def WL_X12_partOf_W_1 (w : mW) (μ : mM) (p2 : Int) (p3 : Int) (Q : Int → mM → Prop) (rec1 : (Int × mM) → Prop) (s : (Int × mM)) : Prop := ∀ z537 : Int, ∀ μ538 : mM, s = (z537, μ538) → (0 ≤ z537 ∧ z537 ≤ 1000) → mT w μ538 → mF [106088, 106091, 166999, 167999, 168999, 169999] w μ μ538 → ∀ f_g : Int, μ538 106 (88) = f_g → (0 ≤ f_g ∧ f_g ≤ 1000) → ∀ f_c : Int, μ538 106 (91) = f_c → (0 ≤ f_c ∧ f_c ≤ 1000) → ((p2 ≤ z537) → Q (1 : Int) μ538) ∧ ((z537 < p2) → WP_X12_byteAt_Win w μ538 z537 (fun z561 _ => (0 ≤ z561 ∧ z561 ≤ 255) → ∀ z562 : Int, (z561 + 7) / 8 = z562 → ((32 < z561) → WP_X12_fails_W w μ538 (1) z537 (fun μ567 => mT w μ567 → mF [172999] w μ538 μ567 → Q (0 : Int) μ567)) ∧ ((z561 ≤ 32) → ((((z537 + 1) + z562) ≤ p2) → ((¬ z562 = 0) → WP_X12_number_W w μ538 (z537 + 1) z562 (fun z642 _ => ((-2147483648) ≤ z642 ∧ z642 ≤ 2147483647) → ∀ z643 : Int, bShl z642 (32 - (8 * z562)) = z643 → (WJ_X12_partOf_W_2 w p3 rec1 z537 μ538 f_g f_c z561 z562) z643)) ∧ ((z562 = 0) → (WJ_X12_partOf_W_2 w p3 rec1 z537 μ538 f_g f_c z561 z562) (0 : Int))) ∧ ((p2 < ((z537 + 1) + z562)) → WP_X12_fails_W w μ538 (1) z537 (fun μ647 => mT w μ647 → mF [172999] w μ538 μ647 → Q (0 : Int) μ647)))))
def WP_X12_partOf_W (w : mW) (μ : mM) (p1 : Int) (p2 : Int) (p3 : Int) (Q : Int → mM → Prop) : Prop := ∀ f_size : Int, μ 106 1 = f_size → (0 ≤ f_size ∧ f_size ≤ 1000) → ∀ f_g0 : Int, μ 106 88 = f_g0 → (0 ≤ f_g0 ∧ f_g0 ≤ 1000) → ∀ f_c0 : Int, μ 106 91 = f_c0 → (0 ≤ f_c0 ∧ f_c0 ≤ 1000) → loopF (WL_X12_partOf_W_1 w μ p2 p3 Q) False 1002 (p1, μ)
theorem vc_X12_partOf_W_1 {f_c f_c0 f_g f_g0 f_size p1 p2 z537 : Int} (h0 : (1001 - z537) < ((0 : Nat) : Int)) (h1 : f_g + f_c + p1 ≤ f_g0 + f_c0 + z537) (h2 : z537 ≤ p2) (h3 : p1 ≤ z537) (h4 : p1 ≤ p2) (h5 : p2 ≤ f_size) (h6 : f_g0 + f_c0 + p2 - p1 ≤ 1000) (h7 : 0 ≤ f_c0 ∧ f_c0 ≤ 1000) (h8 : 0 ≤ f_g0 ∧ f_g0 ≤ 1000) (h9 : 0 ≤ f_size ∧ f_size ≤ 1000) (h10 : 0 ≤ p1 ∧ p1 ≤ 1000) (h11 : 0 ≤ p2 ∧ p2 ≤ 1000) (h12 : 0 ≤ z537 ∧ z537 ≤ 1000) : False := by omega
theorem vc_X12_partOf_W_2 {f_c f_c0 f_g f_g0 f_size p1 p2 z537 : Int} (h0 : p1 ≤ p2) (h1 : p2 ≤ f_size) (h2 : f_g0 + f_c0 + p2 - p1 ≤ 1000) (h3 : f_g + f_c + p1 ≤ f_g0 + f_c0 + z537) (h4 : z537 ≤ p2) (h5 : p1 ≤ z537) (h6 : p2 ≤ z537) (h7 : 0 ≤ f_c ∧ f_c ≤ 1000) (h8 : 0 ≤ f_c0 ∧ f_c0 ≤ 1000) (h9 : 0 ≤ f_g ∧ f_g ≤ 1000) (h10 : 0 ≤ f_g0 ∧ f_g0 ≤ 1000) (h11 : 0 ≤ f_size ∧ f_size ≤ 1000) (h12 : 0 ≤ p1 ∧ p1 ≤ 1000) (h13 : 0 ≤ p2 ∧ p2 ≤ 1000) (h14 : 0 ≤ z537 ∧ z537 ≤ 1000) : f_g + f_c ≤ f_g0 + f_c0 + p2 - p1 := by omega
theorem vc_X12_partOf_W_3 {f_c f_c0 f_g f_g0 f_size p1 p2 z537 : Int} (h0 : z537 < p2) (h1 : p1 ≤ p2) (h2 : p2 ≤ f_size) (h3 : f_g0 + f_c0 + p2 - p1 ≤ 1000) (h4 : f_g + f_c + p1 ≤ f_g0 + f_c0 + z537) (h5 : z537 ≤ p2) (h6 : p1 ≤ z537) (h7 : 0 ≤ f_c ∧ f_c ≤ 1000) (h8 : 0 ≤ f_c0 ∧ f_c0 ≤ 1000) (h9 : 0 ≤ f_g ∧ f_g ≤ 1000) (h10 : 0 ≤ f_g0 ∧ f_g0 ≤ 1000) (h11 : 0 ≤ f_size ∧ f_size ≤ 1000) (h12 : 0 ≤ p1 ∧ p1 ≤ 1000) (h13 : 0 ≤ p2 ∧ p2 ≤ 1000) (h14 : 0 ≤ z537 ∧ z537 ≤ 1000) : 0 ≤ z537 ∧ z537 ≤ 999 := by omega
theorem vc_X12_partOf_W_4 {f_c f_c0 f_g f_g0 f_size p1 p2 z537 : Int} (h0 : z537 < p2) (h1 : p1 ≤ p2) (h2 : p2 ≤ f_size) (h3 : f_g0 + f_c0 + p2 - p1 ≤ 1000) (h4 : f_g + f_c + p1 ≤ f_g0 + f_c0 + z537) (h5 : z537 ≤ p2) (h6 : p1 ≤ z537) (h7 : 0 ≤ f_c ∧ f_c ≤ 1000) (h8 : 0 ≤ f_c0 ∧ f_c0 ≤ 1000) (h9 : 0 ≤ f_g ∧ f_g ≤ 1000) (h10 : 0 ≤ f_g0 ∧ f_g0 ≤ 1000) (h11 : 0 ≤ f_size ∧ f_size ≤ 1000) (h12 : 0 ≤ p1 ∧ p1 ≤ 1000) (h13 : 0 ≤ p2 ∧ p2 ≤ 1000) (h14 : 0 ≤ z537 ∧ z537 ≤ 999) : 1 ≤ p2 ∧ p2 ≤ 1000 := by omega
theorem vc_X12_partOf_W_5 {f_c f_c0 f_g f_g0 f_size p1 p2 z537 : Int} (h0 : p2 ≤ f_size) (h1 : f_g + f_c + p1 ≤ f_g0 + f_c0 + z537) (h2 : z537 ≤ p2) (h3 : p1 ≤ z537) (h4 : z537 < p2) (h5 : p1 ≤ p2) (h6 : f_g0 + f_c0 + p2 - p1 ≤ 1000) (h7 : 0 ≤ f_c ∧ f_c ≤ 1000) (h8 : 0 ≤ f_c0 ∧ f_c0 ≤ 1000) (h9 : 0 ≤ f_g ∧ f_g ≤ 1000) (h10 : 0 ≤ f_g0 ∧ f_g0 ≤ 1000) (h11 : 0 ≤ f_size ∧ f_size ≤ 1000) (h12 : 0 ≤ p1 ∧ p1 ≤ 1000) (h13 : 1 ≤ p2 ∧ p2 ≤ 1000) (h14 : 0 ≤ z537 ∧ z537 ≤ 999) : z537 < f_size := by omega
theorem vc_X12_partOf_W_8 {f_c f_c0 f_g f_g0 f_size p1 p2 z537 : Int} (h0 : p1 ≤ p2) (h1 : p2 ≤ f_size) (h2 : f_g0 + f_c0 + p2 - p1 ≤ 1000) (h3 : f_g + f_c + p1 ≤ f_g0 + f_c0 + z537) (h4 : z537 ≤ p2) (h5 : p1 ≤ z537) (h6 : z537 < p2) (h7 : 0 ≤ f_c ∧ f_c ≤ 1000) (h8 : 0 ≤ f_c0 ∧ f_c0 ≤ 1000) (h9 : 0 ≤ f_g ∧ f_g ≤ 1000) (h10 : 0 ≤ f_g0 ∧ f_g0 ≤ 1000) (h11 : 0 ≤ f_size ∧ f_size ≤ 1000) (h12 : 0 ≤ p1 ∧ p1 ≤ 1000) (h13 : 1 ≤ p2 ∧ p2 ≤ 1000) (h14 : 0 ≤ z537 ∧ z537 ≤ 999) : f_g + f_c ≤ f_g0 + f_c0 + p2 - p1 := by omega
theorem vc_X12_partOf_W_11 {f_c f_c0 f_g f_g0 p1 p2 z537 z562 : Int} (h0 : f_g + f_c + p1 ≤ f_g0 + f_c0 + z537) (h1 : p1 ≤ p2) (h2 : f_g0 + f_c0 + p2 - p1 ≤ 1000) (h3 : z537 ≤ p2) (h4 : p1 ≤ z537) (h5 : z537 < p2) (h6 : ((z537 + 1) + z562) ≤ p2) (h7 : 0 ≤ f_c ∧ f_c ≤ 1000) (h8 : 0 ≤ f_c0 ∧ f_c0 ≤ 1000) (h9 : 0 ≤ f_g ∧ f_g ≤ 1000) (h10 : 0 ≤ f_g0 ∧ f_g0 ≤ 1000) (h11 : 0 ≤ p1 ∧ p1 ≤ 1000) (h12 : 1 ≤ p2 ∧ p2 ≤ 1000) (h13 : 0 ≤ z537 ∧ z537 ≤ 999) (h14 : 0 ≤ z562 ∧ z562 ≤ 32) : 0 ≤ f_c ∧ f_c < 1000 := by omega
theorem vc_X12_partOf_W_12 {f_c f_c0 f_g f_g0 p1 p2 z537 z562 : Int} (h0 : f_g + f_c + p1 ≤ f_g0 + f_c0 + z537) (h1 : p1 ≤ p2) (h2 : f_g0 + f_c0 + p2 - p1 ≤ 1000) (h3 : z537 ≤ p2) (h4 : p1 ≤ z537) (h5 : z537 < p2) (h6 : ((z537 + 1) + z562) ≤ p2) (h7 : 0 ≤ f_c ∧ f_c ≤ 1000) (h8 : 0 ≤ f_c0 ∧ f_c0 ≤ 1000) (h9 : 0 ≤ f_g ∧ f_g ≤ 1000) (h10 : 0 ≤ f_g0 ∧ f_g0 ≤ 1000) (h11 : 0 ≤ p1 ∧ p1 ≤ 1000) (h12 : 1 ≤ p2 ∧ p2 ≤ 1000) (h13 : 0 ≤ z537 ∧ z537 ≤ 999) (h14 : 0 ≤ z562 ∧ z562 ≤ 32) : 0 ≤ (f_c + 1) ∧ (f_c + 1) ≤ 1000 := by omega
theorem vc_X12_partOf_W_13 {f_c f_c0 f_g f_g0 f_size p1 p2 z537 z561 z562 : Int} (h0 : f_g + f_c + p1 ≤ f_g0 + f_c0 + z537) (h1 : z537 ≤ p2) (h2 : p1 ≤ z537) (h3 : z537 < p2) (h4 : (z561 + 7) / 8 = z562) (h5 : ((z537 + 1) + z562) ≤ p2) (h6 : p1 ≤ p2) (h7 : p2 ≤ f_size) (h8 : f_g0 + f_c0 + p2 - p1 ≤ 1000) (h9 : z561 ≤ 32) (h10 : 0 ≤ f_c ∧ f_c ≤ 1000) (h11 : 0 ≤ f_c0 ∧ f_c0 ≤ 1000) (h12 : 0 ≤ f_g ∧ f_g ≤ 1000) (h13 : 0 ≤ f_g0 ∧ f_g0 ≤ 1000) (h14 : 0 ≤ f_size ∧ f_size ≤ 1000) (h15 : 0 ≤ p1 ∧ p1 ≤ 1000) (h16 : 1 ≤ p2 ∧ p2 ≤ 1000) (h17 : 0 ≤ z537 ∧ z537 ≤ 999) (h18 : 0 ≤ z561 ∧ z561 ≤ 32) (h19 : 0 ≤ z562 ∧ z562 ≤ 32) : 0 ≤ (z537 + (1 + z562)) ∧ (z537 + (1 + z562)) ≤ 1000 := by omega
theorem vc_X12_partOf_W_14 {f_c f_c0 f_g f_g0 f_size p1 p2 z537 z561 z562 : Int} (h0 : p1 ≤ p2) (h1 : f_g0 + f_c0 + p2 - p1 ≤ 1000) (h2 : f_g + f_c + p1 ≤ f_g0 + f_c0 + z537) (h3 : z537 ≤ p2) (h4 : p1 ≤ z537) (h5 : z537 < p2) (h6 : (z561 + 7) / 8 = z562) (h7 : ((z537 + 1) + z562) ≤ p2) (h8 : p2 ≤ f_size) (h9 : z561 ≤ 32) (h10 : 0 ≤ f_c ∧ f_c ≤ 1000) (h11 : 0 ≤ f_c0 ∧ f_c0 ≤ 1000) (h12 : 0 ≤ f_g ∧ f_g ≤ 1000) (h13 : 0 ≤ f_g0 ∧ f_g0 ≤ 1000) (h14 : 0 ≤ f_size ∧ f_size ≤ 1000) (h15 : 0 ≤ p1 ∧ p1 ≤ 1000) (h16 : 1 ≤ p2 ∧ p2 ≤ 1000) (h17 : 0 ≤ z537 ∧ z537 ≤ 999) (h18 : 0 ≤ z561 ∧ z561 ≤ 32) (h19 : 0 ≤ z562 ∧ z562 ≤ 32) : f_g + (f_c + 1) + p1 ≤ f_g0 + f_c0 + (z537 + (1 + z562)) := by omega
theorem vc_X12_partOf_W_15 {f_c f_c0 f_g f_g0 f_size p1 p2 z537 z561 z562 : Int} (h0 : p1 ≤ p2) (h1 : p2 ≤ f_size) (h2 : f_g0 + f_c0 + p2 - p1 ≤ 1000) (h3 : f_g + f_c + p1 ≤ f_g0 + f_c0 + z537) (h4 : z537 ≤ p2) (h5 : p1 ≤ z537) (h6 : z537 < p2) (h7 : (z561 + 7) / 8 = z562) (h8 : ((z537 + 1) + z562) ≤ p2) (h9 : z561 ≤ 32) (h10 : 0 ≤ f_c ∧ f_c ≤ 1000) (h11 : 0 ≤ f_c0 ∧ f_c0 ≤ 1000) (h12 : 0 ≤ f_g ∧ f_g ≤ 1000) (h13 : 0 ≤ f_g0 ∧ f_g0 ≤ 1000) (h14 : 0 ≤ f_size ∧ f_size ≤ 1000) (h15 : 0 ≤ p1 ∧ p1 ≤ 1000) (h16 : 1 ≤ p2 ∧ p2 ≤ 1000) (h17 : 0 ≤ z537 ∧ z537 ≤ 999) (h18 : 0 ≤ z561 ∧ z561 ≤ 32) (h19 : 0 ≤ z562 ∧ z562 ≤ 32) : (z537 + (1 + z562)) ≤ p2 := by omega
theorem vc_X12_partOf_W_16 {f_c f_c0 f_g f_g0 f_size p1 p2 z537 z561 z562 : Int} (h0 : p1 ≤ p2) (h1 : f_g0 + f_c0 + p2 - p1 ≤ 1000) (h2 : f_g + f_c + p1 ≤ f_g0 + f_c0 + z537) (h3 : z537 ≤ p2) (h4 : p1 ≤ z537) (h5 : z537 < p2) (h6 : (z561 + 7) / 8 = z562) (h7 : ((z537 + 1) + z562) ≤ p2) (h8 : p2 ≤ f_size) (h9 : z561 ≤ 32) (h10 : 0 ≤ f_c ∧ f_c ≤ 1000) (h11 : 0 ≤ f_c0 ∧ f_c0 ≤ 1000) (h12 : 0 ≤ f_g ∧ f_g ≤ 1000) (h13 : 0 ≤ f_g0 ∧ f_g0 ≤ 1000) (h14 : 0 ≤ f_size ∧ f_size ≤ 1000) (h15 : 0 ≤ p1 ∧ p1 ≤ 1000) (h16 : 1 ≤ p2 ∧ p2 ≤ 1000) (h17 : 0 ≤ z537 ∧ z537 ≤ 999) (h18 : 0 ≤ z561 ∧ z561 ≤ 32) (h19 : 0 ≤ z562 ∧ z562 ≤ 32) : p1 ≤ (z537 + (1 + z562)) := by omega
theorem vc_X12_partOf_W_17 {N f_c f_c0 f_g f_g0 f_size p1 p2 z537 z561 z562 : Int} (h0 : (1001 - z537) < N + 1) (h1 : f_g + f_c + p1 ≤ f_g0 + f_c0 + z537) (h2 : z537 ≤ p2) (h3 : p1 ≤ z537) (h4 : z537 < p2) (h5 : (z561 + 7) / 8 = z562) (h6 : ((z537 + 1) + z562) ≤ p2) (h7 : p1 ≤ p2) (h8 : p2 ≤ f_size) (h9 : f_g0 + f_c0 + p2 - p1 ≤ 1000) (h10 : z561 ≤ 32) (h11 : 0 ≤ f_c ∧ f_c ≤ 1000) (h12 : 0 ≤ f_c0 ∧ f_c0 ≤ 1000) (h13 : 0 ≤ f_g ∧ f_g ≤ 1000) (h14 : 0 ≤ f_g0 ∧ f_g0 ≤ 1000) (h15 : 0 ≤ f_size ∧ f_size ≤ 1000) (h16 : 0 ≤ p1 ∧ p1 ≤ 1000) (h17 : 1 ≤ p2 ∧ p2 ≤ 1000) (h18 : 0 ≤ z537 ∧ z537 ≤ 999) (h19 : 0 ≤ z561 ∧ z561 ≤ 32) (h20 : 0 ≤ z562 ∧ z562 ≤ 32) : (1001 - (z537 + (1 + z562))) < N := by omega
theorem vc_X12_partOf_W_19 {f_c f_c0 f_g f_g0 p1 p2 z537 z562 : Int} (h0 : f_g + f_c + p1 ≤ f_g0 + f_c0 + z537) (h1 : p1 ≤ p2) (h2 : f_g0 + f_c0 + p2 - p1 ≤ 1000) (h3 : z537 ≤ p2) (h4 : p1 ≤ z537) (h5 : z537 < p2) (h6 : ((z537 + 1) + z562) ≤ p2) (h7 : 0 ≤ f_c ∧ f_c ≤ 1000) (h8 : 0 ≤ f_c0 ∧ f_c0 ≤ 1000) (h9 : 0 ≤ f_g ∧ f_g ≤ 1000) (h10 : 0 ≤ f_g0 ∧ f_g0 ≤ 1000) (h11 : 0 ≤ p1 ∧ p1 ≤ 1000) (h12 : 1 ≤ p2 ∧ p2 ≤ 1000) (h13 : 0 ≤ z537 ∧ z537 ≤ 999) (h14 : 0 ≤ z562 ∧ z562 ≤ 32) : 0 ≤ f_g ∧ f_g < 1000 := by omega
theorem vc_X12_partOf_W_20 {f_c f_c0 f_g f_g0 p1 p2 z537 z562 : Int} (h0 : f_g + f_c + p1 ≤ f_g0 + f_c0 + z537) (h1 : p1 ≤ p2) (h2 : f_g0 + f_c0 + p2 - p1 ≤ 1000) (h3 : z537 ≤ p2) (h4 : p1 ≤ z537) (h5 : z537 < p2) (h6 : ((z537 + 1) + z562) ≤ p2) (h7 : 0 ≤ f_c ∧ f_c ≤ 1000) (h8 : 0 ≤ f_c0 ∧ f_c0 ≤ 1000) (h9 : 0 ≤ f_g ∧ f_g ≤ 1000) (h10 : 0 ≤ f_g0 ∧ f_g0 ≤ 1000) (h11 : 0 ≤ p1 ∧ p1 ≤ 1000) (h12 : 1 ≤ p2 ∧ p2 ≤ 1000) (h13 : 0 ≤ z537 ∧ z537 ≤ 999) (h14 : 0 ≤ z562 ∧ z562 ≤ 32) : 0 ≤ (f_g + 1) ∧ (f_g + 1) ≤ 1000 := by omega
theorem vc_X12_partOf_W_21 {f_c f_c0 f_g f_g0 f_size p1 p2 z537 z561 z562 : Int} (h0 : p1 ≤ p2) (h1 : f_g0 + f_c0 + p2 - p1 ≤ 1000) (h2 : f_g + f_c + p1 ≤ f_g0 + f_c0 + z537) (h3 : z537 ≤ p2) (h4 : p1 ≤ z537) (h5 : z537 < p2) (h6 : (z561 + 7) / 8 = z562) (h7 : ((z537 + 1) + z562) ≤ p2) (h8 : p2 ≤ f_size) (h9 : z561 ≤ 32) (h10 : 0 ≤ f_c ∧ f_c ≤ 1000) (h11 : 0 ≤ f_c0 ∧ f_c0 ≤ 1000) (h12 : 0 ≤ f_g ∧ f_g ≤ 1000) (h13 : 0 ≤ f_g0 ∧ f_g0 ≤ 1000) (h14 : 0 ≤ f_size ∧ f_size ≤ 1000) (h15 : 0 ≤ p1 ∧ p1 ≤ 1000) (h16 : 1 ≤ p2 ∧ p2 ≤ 1000) (h17 : 0 ≤ z537 ∧ z537 ≤ 999) (h18 : 0 ≤ z561 ∧ z561 ≤ 32) (h19 : 0 ≤ z562 ∧ z562 ≤ 32) : (f_g + 1) + f_c + p1 ≤ f_g0 + f_c0 + (z537 + (1 + z562)) := by omega
theorem vc_X12_partOf_W_22 {p2 z537 z561 z562 : Int} (h0 : ¬ z562 = 0) (h1 : (z561 + 7) / 8 = z562) (h2 : ((z537 + 1) + z562) ≤ p2) (h3 : 1 ≤ p2 ∧ p2 ≤ 1000) (h4 : 0 ≤ z537 ∧ z537 ≤ 999) (h5 : 0 ≤ z561 ∧ z561 ≤ 32) (h6 : 0 ≤ z562 ∧ z562 ≤ 32) : 1 ≤ z562 ∧ z562 ≤ 32 := by omega
theorem vc_X12_partOf_W_23 {f_c f_c0 f_g f_g0 f_size p1 p2 z537 z561 z562 : Int} (h0 : (z561 + 7) / 8 = z562) (h1 : ((z537 + 1) + z562) ≤ p2) (h2 : ¬ z562 = 0) (h3 : p1 ≤ p2) (h4 : p2 ≤ f_size) (h5 : f_g0 + f_c0 + p2 - p1 ≤ 1000) (h6 : f_g + f_c + p1 ≤ f_g0 + f_c0 + z537) (h7 : z537 ≤ p2) (h8 : p1 ≤ z537) (h9 : z537 < p2) (h10 : z561 ≤ 32) (h11 : 0 ≤ f_c ∧ f_c ≤ 1000) (h12 : 0 ≤ f_c0 ∧ f_c0 ≤ 1000) (h13 : 0 ≤ f_g ∧ f_g ≤ 1000) (h14 : 0 ≤ f_g0 ∧ f_g0 ≤ 1000) (h15 : 0 ≤ f_size ∧ f_size ≤ 1000) (h16 : 0 ≤ p1 ∧ p1 ≤ 1000) (h17 : 1 ≤ p2 ∧ p2 ≤ 1000) (h18 : 0 ≤ z537 ∧ z537 ≤ 999) (h19 : 0 ≤ z561 ∧ z561 ≤ 32) (h20 : 1 ≤ z562 ∧ z562 ≤ 32) : 0 ≤ z562 ∧ z562 ≤ 4 := by omega
theorem vc_X12_partOf_W_24 {f_c f_c0 f_g f_g0 f_size p1 p2 z537 z561 z562 : Int} (h0 : p2 ≤ f_size) (h1 : f_g + f_c + p1 ≤ f_g0 + f_c0 + z537) (h2 : z537 ≤ p2) (h3 : p1 ≤ z537) (h4 : z537 < p2) (h5 : (z561 + 7) / 8 = z562) (h6 : ((z537 + 1) + z562) ≤ p2) (h7 : ¬ z562 = 0) (h8 : p1 ≤ p2) (h9 : f_g0 + f_c0 + p2 - p1 ≤ 1000) (h10 : z561 ≤ 32) (h11 : 0 ≤ f_c ∧ f_c ≤ 1000) (h12 : 0 ≤ f_c0 ∧ f_c0 ≤ 1000) (h13 : 0 ≤ f_g ∧ f_g ≤ 1000) (h14 : 0 ≤ f_g0 ∧ f_g0 ≤ 1000) (h15 : 0 ≤ f_size ∧ f_size ≤ 1000) (h16 : 0 ≤ p1 ∧ p1 ≤ 1000) (h17 : 1 ≤ p2 ∧ p2 ≤ 1000) (h18 : 0 ≤ z537 ∧ z537 ≤ 999) (h19 : 0 ≤ z561 ∧ z561 ≤ 32) (h20 : 1 ≤ z562 ∧ z562 ≤ 32) : (z537 + 1) + z562 ≤ f_size := by omega
theorem vc_X12_partOf_W_25 {p2 z537 z561 z562 : Int} (h0 : z562 = 0) (h1 : (z561 + 7) / 8 = z562) (h2 : ((z537 + 1) + z562) ≤ p2) (h3 : 1 ≤ p2 ∧ p2 ≤ 1000) (h4 : 0 ≤ z537 ∧ z537 ≤ 999) (h5 : 0 ≤ z561 ∧ z561 ≤ 32) (h6 : 0 ≤ z562 ∧ z562 ≤ 32) : 0 ≤ z562 ∧ z562 ≤ 0 := by omega
theorem vc_X12_partOf_W_26 {f_c f_c0 f_g f_g0 f_size p1 p2 z537 z561 z562 : Int} (h0 : p1 ≤ p2) (h1 : p2 ≤ f_size) (h2 : f_g0 + f_c0 + p2 - p1 ≤ 1000) (h3 : f_g + f_c + p1 ≤ f_g0 + f_c0 + z537) (h4 : z537 ≤ p2) (h5 : p1 ≤ z537) (h6 : z537 < p2) (h7 : p2 < ((z537 + 1) + z562)) (h8 : (z561 + 7) / 8 = z562) (h9 : 0 ≤ f_c ∧ f_c ≤ 1000) (h10 : 0 ≤ f_c0 ∧ f_c0 ≤ 1000) (h11 : 0 ≤ f_g ∧ f_g ≤ 1000) (h12 : 0 ≤ f_g0 ∧ f_g0 ≤ 1000) (h13 : 0 ≤ f_size ∧ f_size ≤ 1000) (h14 : 0 ≤ p1 ∧ p1 ≤ 1000) (h15 : 1 ≤ p2 ∧ p2 ≤ 1000) (h16 : 0 ≤ z537 ∧ z537 ≤ 999) (h17 : 0 ≤ z561 ∧ z561 ≤ 32) (h18 : 0 ≤ z562 ∧ z562 ≤ 32) : f_g + f_c ≤ f_g0 + f_c0 + p2 - p1 := by omega
theorem vc_X12_partOf_W_27 {f_c0 f_g0 f_size p1 p2 : Int} (h0 : p1 ≤ p2) (h1 : f_g0 + f_c0 + p2 - p1 ≤ 1000) (h2 : p2 ≤ f_size) (h3 : 0 ≤ f_c0 ∧ f_c0 ≤ 1000) (h4 : 0 ≤ f_g0 ∧ f_g0 ≤ 1000) (h5 : 0 ≤ f_size ∧ f_size ≤ 1000) (h6 : 0 ≤ p1 ∧ p1 ≤ 1000) (h7 : 0 ≤ p2 ∧ p2 ≤ 1000) : f_g0 + f_c0 + p1 ≤ f_g0 + f_c0 + p1 := by omega
theorem vc_X12_partOf_W_28 {f_c0 f_g0 f_size p1 p2 : Int} (h0 : p1 ≤ p2) (h1 : p2 ≤ f_size) (h2 : f_g0 + f_c0 + p2 - p1 ≤ 1000) (h3 : 0 ≤ f_c0 ∧ f_c0 ≤ 1000) (h4 : 0 ≤ f_g0 ∧ f_g0 ≤ 1000) (h5 : 0 ≤ f_size ∧ f_size ≤ 1000) (h6 : 0 ≤ p1 ∧ p1 ≤ 1000) (h7 : 0 ≤ p2 ∧ p2 ≤ 1000) : p1 ≤ p2 := by omega
theorem vc_X12_partOf_W_29 {f_c0 f_g0 f_size p1 p2 : Int} (h0 : p1 ≤ p2) (h1 : f_g0 + f_c0 + p2 - p1 ≤ 1000) (h2 : p2 ≤ f_size) (h3 : 0 ≤ f_c0 ∧ f_c0 ≤ 1000) (h4 : 0 ≤ f_g0 ∧ f_g0 ≤ 1000) (h5 : 0 ≤ f_size ∧ f_size ≤ 1000) (h6 : 0 ≤ p1 ∧ p1 ≤ 1000) (h7 : 0 ≤ p2 ∧ p2 ≤ 1000) : p1 ≤ p1 := by omega
theorem vc_X12_partOf_W_30 {f_c0 f_g0 f_size p1 p2 : Int} (h0 : p1 ≤ p2) (h1 : f_g0 + f_c0 + p2 - p1 ≤ 1000) (h2 : p2 ≤ f_size) (h3 : 0 ≤ f_c0 ∧ f_c0 ≤ 1000) (h4 : 0 ≤ f_g0 ∧ f_g0 ≤ 1000) (h5 : 0 ≤ f_size ∧ f_size ≤ 1000) (h6 : 0 ≤ p1 ∧ p1 ≤ 1000) (h7 : 0 ≤ p2 ∧ p2 ≤ 1000) : (1001 - p1) < ((1002 : Nat) : Int) := by omega
set_option maxRecDepth 4000 in
set_option maxHeartbeats 4000000 in
theorem c_X12_partOf_W {l : Launch} {D : va_G} {c : Nat → ClassId} {H0 : Heap} {sa : Nat × Nat × (Nat → Int32)} {w : mW} {μ : mM} (hw : mWF w) (hT : mT w μ) {p1 : Int} (hp1 : 0 ≤ p1 ∧ p1 ≤ 1000) {p2 : Int} (hp2 : 0 ≤ p2 ∧ p2 ≤ 1000) {p3 : Int} (hp3 : 0 ≤ p3 ∧ p3 ≤ 1) {f_size : Int} (q_f_size : μ 106 1 = f_size) {f_g0 : Int} (q_f_g0 : μ 106 88 = f_g0) {f_c0 : Int} (q_f_c0 : μ 106 91 = f_c0) (hq0 : p1 ≤ p2) (hq1 : p2 ≤ f_size) (hq2 : f_g0 + f_c0 + p2 - p1 ≤ 1000) {Q : Int → mM → Prop} (hQ : WP_X12_partOf_W w μ p1 p2 p3 Q) : sC (gG l D c H0 sa) mX12_partOf 3 0 0 [.ref 106, iv p1, iv p2, iv p3] (mk w μ) (qI w [106088, 106091, 166999, 167999, 168999, 169999, 172999] μ (fun z μ1 => ∃ o_g o_c : Int, μ1 106 88 = o_g ∧ μ1 106 91 = o_c ∧ (0 ≤ z ∧ z ≤ 1) ∧ (o_g + o_c ≤ f_g0 + f_c0 + p2 - p1) ∧ Q z μ1 ∧ True)) := by
  refine sC.of rfl (by decide) (le_t rfl) ?_
  have ht_f_size : (0 ≤ f_size ∧ f_size ≤ 1000) := by rw [← q_f_size]; exact hT 106 106 (A_106 hw) 1
  have ht_f_g0 : (0 ≤ f_g0 ∧ f_g0 ≤ 1000) := by rw [← q_f_g0]; exact hT 106 106 (A_106 hw) 88
  have ht_f_c0 : (0 ≤ f_c0 ∧ f_c0 ≤ 1000) := by rw [← q_f_c0]; exact hT 106 106 (A_106 hw) 91
  refine mr_lvE (lv' := [(0, .ref 106), (1, iv p1), (2, iv p2), (3, iv p3)]) rfl ?_
  refine mr_iload_n (pc := 0) (z := p1) dX12_partOf_0 rfl rfl ?_
  refine mr_istore (pc := 1) (lv' := [(4, iv p1), (0, .ref 106), (1, iv p1), (2, iv p2), (3, iv p3)]) dX12_partOf_1 (by decide) rfl ?_
  have L539 : ∀ (nL539 : Nat) (z537 : Int) (μ538 : mM) (f_g : Int) (f_c : Int), mT w μ538 → mF [106088, 106091, 166999, 167999, 168999, 169999] w μ μ538 → μ538 106 (88) = f_g → μ538 106 (91) = f_c → (0 ≤ z537 ∧ z537 ≤ 1000) → (f_g + f_c + p1 ≤ f_g0 + f_c0 + z537) → (z537 ≤ p2) → (p1 ≤ z537) → (1001 - z537) < (nL539 : Int) → loopF (WL_X12_partOf_W_1 w μ p2 p3 Q) False nL539 (z537, μ538) → sV (gG l D c H0 sa) mX12_partOf (sRm 3 0 0) (sZ (gG l D c H0 sa) 0 0 (qI w [106088, 106091, 166999, 167999, 168999, 169999, 172999] μ (fun z μ1 => ∃ o_g o_c : Int, μ1 106 88 = o_g ∧ μ1 106 91 = o_c ∧ (0 ≤ z ∧ z ≤ 1) ∧ (o_g + o_c ≤ f_g0 + f_c0 + p2 - p1) ∧ Q z μ1 ∧ True))) 3 [(0, .ref 106), (2, iv p2), (3, iv p3), (4, iv z537)] [] (mk w μ538) 0 0 := by
    intro nL539
    induction nL539 with
    | zero => intro z537 μ538 f_g f_c T541 F542 q549 q550 h540 h544 h545 h546 h547 W548; exact ((vc_X12_partOf_W_1 h547 h544 h545 h546 hq0 hq1 hq2 ht_f_c0 ht_f_g0 ht_f_size hp1 hp2 h540)).elim
    | succ nL539 ih551 =>
      intro z537 μ538 f_g f_c T541 F542 q549 q550 h540 h544 h545 h546 h547 W548
      have h552 : (0 ≤ f_g ∧ f_g ≤ 1000) := by rw [← q549]; exact T541 106 106 (A_106 hw) (88)
      have h553 : (0 ≤ f_c ∧ f_c ≤ 1000) := by rw [← q550]; exact T541 106 106 (A_106 hw) (91)
      refine mr_iload (pc := 3) (z := z537) dX12_partOf_3 rfl ?_
      refine mr_iload_n (pc := 5) (z := p2) dX12_partOf_5 rfl rfl ?_
      refine mr_icmp_ge (pc := 6) (tgt := 177) dX12_partOf_6 (by decide) (r32 h540 rfl) (r32 hp2 rfl) (fun h554 => ?_) (fun h554 => ?_)
      · refine mr_iconst (pc := 177) (z := 1) dX12_partOf_177 ?_
        exact mr_zret dX12_partOf_178 rfl (rW (c := 0) (d := 1) (rR (x := 1)) rfl) (le_t rfl) (le_t rfl) T541 (mF.call mF.refl F542 rfl) ⟨f_g, f_c, q549, q550, (rW (c := 0) (d := 1) (rR (x := 1)) rfl), (vc_X12_partOf_W_2 hq0 hq1 hq2 h544 h545 h546 h554 h553 ht_f_c0 h552 ht_f_g0 ht_f_size hp1 hp2 h540), ((((W548 z537 μ538 rfl h540 T541 F542) f_g q549 h552) f_c q550 h553).1 h554), trivial⟩
      have h555 : 0 ≤ z537 ∧ z537 ≤ 999 := (vc_X12_partOf_W_3 h554 hq0 hq1 hq2 h544 h545 h546 h553 ht_f_c0 h552 ht_f_g0 ht_f_size hp1 hp2 h540)
      have h556 : 1 ≤ p2 ∧ p2 ≤ 1000 := (vc_X12_partOf_W_4 h554 hq0 hq1 hq2 h544 h545 h546 h553 ht_f_c0 h552 ht_f_g0 ht_f_size hp1 hp2 h555)
      refine sv_aload_n (pc := 9) dX12_partOf_9 rfl rfl ?_
      refine mr_iload (pc := 10) (z := z537) dX12_partOf_10 rfl ?_
      refine mr_cVP (pc := 12) (c_X12_byteAt_Win hw T541 (rW (c := 0) (d := 2147483647) h555 rfl) (F542.f (A_106 hw) rfl q_f_size) (vc_X12_partOf_W_5 hq1 h544 h545 h546 h554 hq0 hq2 h553 ht_f_c0 h552 ht_f_g0 ht_f_size hp1 h556 h555) ((((W548 z537 μ538 rfl h540 T541 F542) f_g q549 h552) f_c q550 h553).2 h554)) (gOk _ _ _ _ _) dX12_partOf_12 (tX12_byteAt _ _ _ _ _) ⟨wV_X12_byteAt, wL_X12_byteAt⟩ wM_X12_227 (gCX12 _ _ _ _ _) rfl (A_106 hw) rfl ⟨le_t rfl, le_t rfl⟩ ⟨le_t rfl, le_t rfl⟩ rfl (le_t rfl) fun z561 h560 => ?_
      refine mr_istore (pc := 15) (lv' := [(5, iv z561), (0, .ref 106), (2, iv p2), (3, iv p3), (4, iv z537)]) dX12_partOf_15 (by decide) rfl ?_
      refine mr_iload (pc := 17) (z := z561) dX12_partOf_17 rfl ?_
      refine mr_bipush (pc := 19) (z := 7) dX12_partOf_19 (by decide) ?_
      refine mr_iadd (pc := 21) (x := z561) (y := 7) dX12_partOf_21 ?_
      refine mr_bipush (pc := 22) (z := 8) dX12_partOf_22 (by decide) ?_
      refine mr_idiv (pc := 24) (x := (z561 + 7)) (y := 8) dX12_partOf_24 (rW (c := 0) (d := 2147483647) (rAdd (e := 7) (f := 262) h560.1 (rR (x := 7)) rfl) rfl) vc_X12_prefixOut_4 ?_
      refine mr_gen (P := fun z => 0 ≤ z ∧ z ≤ 32) (rDiv (rAdd (e := 7) (f := 262) h560.1 (rR (x := 7)) rfl) rfl) fun z562 q563 h564 => ?_
      refine mr_istore (pc := 25) (lv' := [(6, iv z562), (5, iv z561), (0, .ref 106), (2, iv p2), (3, iv p3), (4, iv z537)]) dX12_partOf_25 (by decide) rfl ?_
      refine mr_iload (pc := 27) (z := z561) dX12_partOf_27 rfl ?_
      refine mr_bipush (pc := 29) (z := 32) dX12_partOf_29 (by decide) ?_
      refine mr_icmp_gt (pc := 31) (tgt := 45) dX12_partOf_31 (by decide) (r32 h560.1 rfl) (r32 (rR (x := 32)) rfl) (fun h565 => ?_) (fun h565 => ?_)
      · have h566 : 33 ≤ z561 ∧ z561 ≤ 255 := (vc_X3_readPrefixes_W_6 h565 q563 h560.1 h564)
        refine sv_aload_n (pc := 45) dX12_partOf_45 rfl rfl ?_
        refine mr_iconst (pc := 46) (z := 1) dX12_partOf_46 ?_
        refine mr_iload (pc := 47) (z := z537) dX12_partOf_47 rfl ?_
        refine mr_cVV (pc := 49) (c_X12_fails_W hw T541 (rW (c := 0) (d := 3) (rR (x := 1)) rfl) (rW (c := (-2147483648)) (d := 2147483647) h555 rfl) (((h560.2.1 h560.1) z562 q563).1 h565)) (gOk _ _ _ _ _) dX12_partOf_49 (tX12_fails _ _ _ _ _) ⟨wV_X12_fails, wL_X12_fails⟩ wM_X12_620 (gCX12 _ _ _ _ _) rfl (A_106 hw) rfl ⟨le_t rfl, le_t rfl⟩ ⟨le_t rfl, le_t rfl⟩ rfl (le_t rfl) fun μ567 T568 F569 h570 => ?_
        refine mr_iconst (pc := 52) (z := 0) dX12_partOf_52 ?_
        exact mr_zret dX12_partOf_53 rfl (rW (c := 0) (d := 1) (rR (x := 0)) rfl) (le_t rfl) (le_t rfl) T568 (mF.call (mF.call mF.refl F542 rfl) F569 rfl) ⟨f_g, f_c, (F569.f (A_106 hw) rfl q549), (F569.f (A_106 hw) rfl q550), (rW (c := 0) (d := 1) (rR (x := 0)) rfl), (vc_X12_partOf_W_8 hq0 hq1 hq2 h544 h545 h546 h554 h553 ht_f_c0 h552 ht_f_g0 ht_f_size hp1 h556 h555), (h570.1 T568 F569), trivial⟩
      have h571 : 0 ≤ z561 ∧ z561 ≤ 32 := (vc_X3_readPrefixes_W_7 h565 q563 h560.1 h564)
      refine mr_iload (pc := 34) (z := z537) dX12_partOf_34 rfl ?_
      refine mr_iconst (pc := 36) (z := 1) dX12_partOf_36 ?_
      refine mr_iadd (pc := 37) (x := z537) (y := 1) dX12_partOf_37 ?_
      refine mr_iload (pc := 38) (z := z562) dX12_partOf_38 rfl ?_
      refine mr_iadd (pc := 40) (x := (z537 + 1)) (y := z562) dX12_partOf_40 ?_
      refine mr_iload_n (pc := 41) (z := p2) dX12_partOf_41 rfl rfl ?_
      refine mr_icmp_le (pc := 42) (tgt := 54) dX12_partOf_42 (by decide) (r32 (rAdd (e := 1) (f := 1032) (rAdd (e := 1) (f := 1000) h555 (rR (x := 1)) rfl) h564 rfl) rfl) (r32 h556 rfl) (fun h572 => ?_) (fun h572 => ?_)
      · refine mr_iload (pc := 54) (z := z562) dX12_partOf_54 rfl ?_
        have J585 : ∀ (z583 : Int), (((-2147483648) ≤ z583 ∧ z583 ≤ 2147483647)) → ((WJ_X12_partOf_W_2 w p3 (loopF (WL_X12_partOf_W_1 w μ p2 p3 Q) False nL539) z537 μ538 f_g f_c z561 z562) z583) → sV (gG l D c H0 sa) mX12_partOf (sRm 3 0 0) (sZ (gG l D c H0 sa) 0 0 (qI w [106088, 106091, 166999, 167999, 168999, 169999, 172999] μ (fun z μ1 => ∃ o_g o_c : Int, μ1 106 88 = o_g ∧ μ1 106 91 = o_c ∧ (0 ≤ z ∧ z ≤ 1) ∧ (o_g + o_c ≤ f_g0 + f_c0 + p2 - p1) ∧ Q z μ1 ∧ True))) 82 [(0, .ref 106), (2, iv p2), (3, iv p3), (4, iv z537), (5, iv z561), (6, iv z562)] [iv z583] (mk w μ538) 0 0 := by
          intro z583 h584 W586
          refine mr_istore (pc := 82) (lv' := [(7, iv z583), (0, .ref 106), (2, iv p2), (3, iv p3), (4, iv z537), (5, iv z561), (6, iv z562)]) dX12_partOf_82 (by decide) rfl ?_
          refine mr_iload (pc := 84) (z := z583) dX12_partOf_84 rfl ?_
          refine mr_iload (pc := 86) (z := z561) dX12_partOf_86 rfl ?_
          refine mr_cSP (pc := 88) (c_X12_mask_W hw T541 (rW (c := (-2147483648)) (d := 2147483647) h571 rfl) (W586 h584)) (gOk _ _ _ _ _) dX12_partOf_88 (tX12_mask _ _ _ _ _) wS_X12_mask wM_X12_11 ⟨le_t rfl, le_t rfl⟩ ⟨le_t rfl, le_t rfl⟩ rfl (le_t rfl) fun z591 h590 => ?_
          refine mr_iand (pc := 91) (x := z583) (y := z591) dX12_partOf_91 ?_
          refine mr_gen (P := fun z => (-2147483648) ≤ z ∧ z ≤ 2147483647) (r32i _) fun z592 q593 h594 => ?_
          refine mr_istore (pc := 92) (lv' := [(7, iv z592), (0, .ref 106), (2, iv p2), (3, iv p3), (4, iv z537), (5, iv z561), (6, iv z562)]) dX12_partOf_92 (by decide) rfl ?_
          refine mr_iload_n (pc := 94) (z := p3) dX12_partOf_94 rfl rfl ?_
          refine mr_if_eq (pc := 95) (tgt := 133) dX12_partOf_95 (by decide) (r32 hp3 rfl) (fun h615 => ?_) (fun h615 => ?_)
          · have h616 : 0 ≤ p3 ∧ p3 ≤ 0 := (vc_X12_ring_22 h615 hp3)
            refine sv_aload_n (pc := 133) dX12_partOf_133 rfl rfl ?_
            refine gf_X12_89 (pc := 134) dX12_partOf_134 wF_X12_466 (A_106 hw) T541 ?_
            refine sv_aload_n (pc := 137) dX12_partOf_137 rfl rfl ?_
            refine gk_X12_91 (pc := 138) dX12_partOf_138 wF_X12_628 (A_106 hw) q550 ?_
            refine mr_iload (pc := 141) (z := z592) dX12_partOf_141 rfl ?_
            refine ss_168 (pc := 143) dX12_partOf_143 (A_168 hw) T541 (vc_X12_partOf_W_11 h544 hq0 hq2 h545 h546 h554 h572 h553 ht_f_c0 h552 ht_f_g0 hp1 h556 h555 h564) h594 fun μ617 u618 T619 => ?_
            refine sv_aload_n (pc := 144) dX12_partOf_144 rfl rfl ?_
            refine gf_X12_90 (pc := 145) dX12_partOf_145 wF_X12_469 (A_106 hw) T619 ?_
            refine sv_aload_n (pc := 148) dX12_partOf_148 rfl rfl ?_
            refine gk_X12_91 (pc := 149) dX12_partOf_149 wF_X12_628 (A_106 hw) (u618.f (Or.inl (mAt.ne (A_168 hw) (A_106 hw) rfl)) q550) ?_
            refine mr_iload (pc := 152) (z := z561) dX12_partOf_152 rfl ?_
            refine ss_169 (pc := 154) dX12_partOf_154 (A_169 hw) T619 (vc_X12_partOf_W_11 h544 hq0 hq2 h545 h546 h554 h572 h553 ht_f_c0 h552 ht_f_g0 hp1 h556 h555 h564) (rW (c := (-2147483648)) (d := 2147483647) h571 rfl) fun μ620 u621 T622 => ?_
            refine sv_aload_n (pc := 155) dX12_partOf_155 rfl rfl ?_
            refine sv_dup (pc := 156) dX12_partOf_156 rfl ?_
            refine gk_X12_91 (pc := 157) dX12_partOf_157 wF_X12_628 (A_106 hw) (u621.f (Or.inl (mAt.ne (A_169 hw) (A_106 hw) rfl)) (u618.f (Or.inl (mAt.ne (A_168 hw) (A_106 hw) rfl)) q550)) ?_
            refine mr_iconst (pc := 160) (z := 1) dX12_partOf_160 ?_
            refine mr_iadd (pc := 161) (x := f_c) (y := 1) dX12_partOf_161 ?_
            refine pf_X12_91 (pc := 162) dX12_partOf_162 wF_X12_628 (A_106 hw) T622 (vc_X12_partOf_W_12 h544 hq0 hq2 h545 h546 h554 h572 h553 ht_f_c0 h552 ht_f_g0 hp1 h556 h555 h564) fun μ623 u624 T625 => ?_
            refine mr_iload (pc := 165) (z := z537) dX12_partOf_165 rfl ?_
            refine mr_iconst (pc := 167) (z := 1) dX12_partOf_167 ?_
            refine mr_iload (pc := 168) (z := z562) dX12_partOf_168 rfl ?_
            refine mr_iadd (pc := 170) (x := 1) (y := z562) dX12_partOf_170 ?_
            refine mr_iadd (pc := 171) (x := z537) (y := (1 + z562)) dX12_partOf_171 ?_
            refine mr_istore (pc := 172) (lv' := [(4, iv (z537 + (1 + z562))), (7, iv z592), (0, .ref 106), (2, iv p2), (3, iv p3), (5, iv z561), (6, iv z562)]) dX12_partOf_172 (by decide) rfl ?_
            refine sv_goto (pc := 174) (tgt := 3) dX12_partOf_174 (by decide) ?_
            refine mr_lvS (lv' := [(0, .ref 106), (2, iv p2), (3, iv p3), (4, iv (z537 + (1 + z562)))]) (List.forall_mem_cons.mpr ⟨rfl, List.forall_mem_cons.mpr ⟨rfl, List.forall_mem_cons.mpr ⟨rfl, List.forall_mem_cons.mpr ⟨rfl, fun _ h => absurd h List.not_mem_nil⟩⟩⟩⟩) ?_
            exact ih551 (z537 + (1 + z562)) μ623 f_g (f_c + 1) T625 (mF.up (mF.up (mF.up (mF.call mF.refl F542 rfl) (A_168 hw) u618 rfl) (A_169 hw) u621 rfl) (A_106 hw) u624 rfl) (u624.f (Or.inr (by decide)) (u621.f (Or.inl (mAt.ne (A_169 hw) (A_106 hw) rfl)) (u618.f (Or.inl (mAt.ne (A_168 hw) (A_106 hw) rfl)) q549))) u624.1 (vc_X12_partOf_W_13 h544 h545 h546 h554 q563 h572 hq0 hq1 hq2 h565 h553 ht_f_c0 h552 ht_f_g0 ht_f_size hp1 h556 h555 h571 h564) (vc_X12_partOf_W_14 hq0 hq2 h544 h545 h546 h554 q563 h572 hq1 h565 h553 ht_f_c0 h552 ht_f_g0 ht_f_size hp1 h556 h555 h571 h564) (vc_X12_partOf_W_15 hq0 hq1 hq2 h544 h545 h546 h554 q563 h572 h565 h553 ht_f_c0 h552 ht_f_g0 ht_f_size hp1 h556 h555 h571 h564) (vc_X12_partOf_W_16 hq0 hq2 h544 h545 h546 h554 q563 h572 hq1 h565 h553 ht_f_c0 h552 ht_f_g0 ht_f_size hp1 h556 h555 h571 h564) (vc_X12_partOf_W_17 (nS h547) h544 h545 h546 h554 q563 h572 hq0 hq1 hq2 h565 h553 ht_f_c0 h552 ht_f_g0 ht_f_size hp1 h556 h555 h571 h564) ((((((h590.2.1 h590.1) z592 q593).1 h615) μ617 u618 T619) μ620 u621 T622) μ623 u624 T625)
          have h626 : 1 ≤ p3 ∧ p3 ≤ 1 := (vc_X12_ring_24 h615 hp3)
          refine sv_aload_n (pc := 98) dX12_partOf_98 rfl rfl ?_
          refine gf_X12_86 (pc := 99) dX12_partOf_99 wF_X12_460 (A_106 hw) T541 ?_
          refine sv_aload_n (pc := 102) dX12_partOf_102 rfl rfl ?_
          refine gk_X12_88 (pc := 103) dX12_partOf_103 wF_X12_625 (A_106 hw) q549 ?_
          refine mr_iload (pc := 106) (z := z592) dX12_partOf_106 rfl ?_
          refine ss_166 (pc := 108) dX12_partOf_108 (A_166 hw) T541 (vc_X12_partOf_W_19 h544 hq0 hq2 h545 h546 h554 h572 h553 ht_f_c0 h552 ht_f_g0 hp1 h556 h555 h564) h594 fun μ627 u628 T629 => ?_
          refine sv_aload_n (pc := 109) dX12_partOf_109 rfl rfl ?_
          refine gf_X12_87 (pc := 110) dX12_partOf_110 wF_X12_463 (A_106 hw) T629 ?_
          refine sv_aload_n (pc := 113) dX12_partOf_113 rfl rfl ?_
          refine gk_X12_88 (pc := 114) dX12_partOf_114 wF_X12_625 (A_106 hw) (u628.f (Or.inl (mAt.ne (A_166 hw) (A_106 hw) rfl)) q549) ?_
          refine mr_iload (pc := 117) (z := z561) dX12_partOf_117 rfl ?_
          refine ss_167 (pc := 119) dX12_partOf_119 (A_167 hw) T629 (vc_X12_partOf_W_19 h544 hq0 hq2 h545 h546 h554 h572 h553 ht_f_c0 h552 ht_f_g0 hp1 h556 h555 h564) (rW (c := (-2147483648)) (d := 2147483647) h571 rfl) fun μ630 u631 T632 => ?_
          refine sv_aload_n (pc := 120) dX12_partOf_120 rfl rfl ?_
          refine sv_dup (pc := 121) dX12_partOf_121 rfl ?_
          refine gk_X12_88 (pc := 122) dX12_partOf_122 wF_X12_625 (A_106 hw) (u631.f (Or.inl (mAt.ne (A_167 hw) (A_106 hw) rfl)) (u628.f (Or.inl (mAt.ne (A_166 hw) (A_106 hw) rfl)) q549)) ?_
          refine mr_iconst (pc := 125) (z := 1) dX12_partOf_125 ?_
          refine mr_iadd (pc := 126) (x := f_g) (y := 1) dX12_partOf_126 ?_
          refine pf_X12_88 (pc := 127) dX12_partOf_127 wF_X12_625 (A_106 hw) T632 (vc_X12_partOf_W_20 h544 hq0 hq2 h545 h546 h554 h572 h553 ht_f_c0 h552 ht_f_g0 hp1 h556 h555 h564) fun μ633 u634 T635 => ?_
          refine sv_goto (pc := 130) (tgt := 165) dX12_partOf_130 (by decide) ?_
          refine mr_iload (pc := 165) (z := z537) dX12_partOf_165 rfl ?_
          refine mr_iconst (pc := 167) (z := 1) dX12_partOf_167 ?_
          refine mr_iload (pc := 168) (z := z562) dX12_partOf_168 rfl ?_
          refine mr_iadd (pc := 170) (x := 1) (y := z562) dX12_partOf_170 ?_
          refine mr_iadd (pc := 171) (x := z537) (y := (1 + z562)) dX12_partOf_171 ?_
          refine mr_istore (pc := 172) (lv' := [(4, iv (z537 + (1 + z562))), (7, iv z592), (0, .ref 106), (2, iv p2), (3, iv p3), (5, iv z561), (6, iv z562)]) dX12_partOf_172 (by decide) rfl ?_
          refine sv_goto (pc := 174) (tgt := 3) dX12_partOf_174 (by decide) ?_
          refine mr_lvS (lv' := [(0, .ref 106), (2, iv p2), (3, iv p3), (4, iv (z537 + (1 + z562)))]) (List.forall_mem_cons.mpr ⟨rfl, List.forall_mem_cons.mpr ⟨rfl, List.forall_mem_cons.mpr ⟨rfl, List.forall_mem_cons.mpr ⟨rfl, fun _ h => absurd h List.not_mem_nil⟩⟩⟩⟩) ?_
          exact ih551 (z537 + (1 + z562)) μ633 (f_g + 1) f_c T635 (mF.up (mF.up (mF.up (mF.call mF.refl F542 rfl) (A_166 hw) u628 rfl) (A_167 hw) u631 rfl) (A_106 hw) u634 rfl) u634.1 (u634.f (Or.inr (by decide)) (u631.f (Or.inl (mAt.ne (A_167 hw) (A_106 hw) rfl)) (u628.f (Or.inl (mAt.ne (A_166 hw) (A_106 hw) rfl)) q550))) (vc_X12_partOf_W_13 h544 h545 h546 h554 q563 h572 hq0 hq1 hq2 h565 h553 ht_f_c0 h552 ht_f_g0 ht_f_size hp1 h556 h555 h571 h564) (vc_X12_partOf_W_21 hq0 hq2 h544 h545 h546 h554 q563 h572 hq1 h565 h553 ht_f_c0 h552 ht_f_g0 ht_f_size hp1 h556 h555 h571 h564) (vc_X12_partOf_W_15 hq0 hq1 hq2 h544 h545 h546 h554 q563 h572 h565 h553 ht_f_c0 h552 ht_f_g0 ht_f_size hp1 h556 h555 h571 h564) (vc_X12_partOf_W_16 hq0 hq2 h544 h545 h546 h554 q563 h572 hq1 h565 h553 ht_f_c0 h552 ht_f_g0 ht_f_size hp1 h556 h555 h571 h564) (vc_X12_partOf_W_17 (nS h547) h544 h545 h546 h554 q563 h572 hq0 hq1 hq2 h565 h553 ht_f_c0 h552 ht_f_g0 ht_f_size hp1 h556 h555 h571 h564) ((((((h590.2.1 h590.1) z592 q593).2 h615) μ627 u628 T629) μ630 u631 T632) μ633 u634 T635)
        refine mr_if_ne (pc := 56) (tgt := 63) dX12_partOf_56 (by decide) (r32 h564 rfl) (fun h636 => ?_) (fun h636 => ?_)
        · have h637 : 1 ≤ z562 ∧ z562 ≤ 32 := (vc_X12_partOf_W_22 h636 q563 h572 h556 h555 h571 h564)
          refine sv_aload_n (pc := 63) dX12_partOf_63 rfl rfl ?_
          refine mr_iload (pc := 64) (z := z537) dX12_partOf_64 rfl ?_
          refine mr_iconst (pc := 66) (z := 1) dX12_partOf_66 ?_
          refine mr_iadd (pc := 67) (x := z537) (y := 1) dX12_partOf_67 ?_
          refine mr_iload (pc := 68) (z := z562) dX12_partOf_68 rfl ?_
          refine mr_cVP (pc := 70) (c_X12_number_W hw T541 (rW (c := 0) (d := 1000) (rAdd (e := 1) (f := 1000) h555 (rR (x := 1)) rfl) rfl) (vc_X12_partOf_W_23 q563 h572 h636 hq0 hq1 hq2 h544 h545 h546 h554 h565 h553 ht_f_c0 h552 ht_f_g0 ht_f_size hp1 h556 h555 h571 h637) (F542.f (A_106 hw) rfl q_f_size) (vc_X12_partOf_W_24 hq1 h544 h545 h546 h554 q563 h572 h636 hq0 hq2 h565 h553 ht_f_c0 h552 ht_f_g0 ht_f_size hp1 h556 h555 h571 h637) (((((h560.2.1 h560.1) z562 q563).2 h565).1 h572).1 h636)) (gOk _ _ _ _ _) dX12_partOf_70 (tX12_number _ _ _ _ _) ⟨wV_X12_number, wL_X12_number⟩ wM_X12_623 (gCX12 _ _ _ _ _) rfl (A_106 hw) rfl ⟨le_t rfl, le_t rfl⟩ ⟨le_t rfl, le_t rfl⟩ rfl (le_t rfl) fun z642 h641 => ?_
          refine mr_bipush (pc := 73) (z := 32) dX12_partOf_73 (by decide) ?_
          refine mr_bipush (pc := 75) (z := 8) dX12_partOf_75 (by decide) ?_
          refine mr_iload (pc := 77) (z := z562) dX12_partOf_77 rfl ?_
          refine mr_imul (pc := 79) (x := 8) (y := z562) dX12_partOf_79 ?_
          refine mr_isub (pc := 80) (x := 32) (y := (8 * z562)) dX12_partOf_80 ?_
          refine mr_ishl (pc := 81) (x := z642) (y := (32 - (8 * z562))) dX12_partOf_81 ?_
          refine mr_gen (P := fun z => (-2147483648) ≤ z ∧ z ≤ 2147483647) (r32i _) fun z643 q644 h645 => ?_
          refine mr_lvS (lv' := [(0, .ref 106), (2, iv p2), (3, iv p3), (4, iv z537), (5, iv z561), (6, iv z562)]) (List.forall_mem_cons.mpr ⟨rfl, List.forall_mem_cons.mpr ⟨rfl, List.forall_mem_cons.mpr ⟨rfl, List.forall_mem_cons.mpr ⟨rfl, List.forall_mem_cons.mpr ⟨rfl, List.forall_mem_cons.mpr ⟨rfl, fun _ h => absurd h List.not_mem_nil⟩⟩⟩⟩⟩⟩) ?_
          exact J585 z643 h645 ((h641.2.2.1 h641.1) z643 q644)
        have h646 : 0 ≤ z562 ∧ z562 ≤ 0 := (vc_X12_partOf_W_25 h636 q563 h572 h556 h555 h571 h564)
        refine mr_iconst (pc := 59) (z := 0) dX12_partOf_59 ?_
        refine sv_goto (pc := 60) (tgt := 82) dX12_partOf_60 (by decide) ?_
        refine mr_lvS (lv' := [(0, .ref 106), (2, iv p2), (3, iv p3), (4, iv z537), (5, iv z561), (6, iv z562)]) (List.forall_mem_cons.mpr ⟨rfl, List.forall_mem_cons.mpr ⟨rfl, List.forall_mem_cons.mpr ⟨rfl, List.forall_mem_cons.mpr ⟨rfl, List.forall_mem_cons.mpr ⟨rfl, List.forall_mem_cons.mpr ⟨rfl, fun _ h => absurd h List.not_mem_nil⟩⟩⟩⟩⟩⟩) ?_
        exact J585 0 (rW (c := (-2147483648)) (d := 2147483647) (rR (x := 0)) rfl) (((((h560.2.1 h560.1) z562 q563).2 h565).1 h572).2 h636)
      refine sv_aload_n (pc := 45) dX12_partOf_45 rfl rfl ?_
      refine mr_iconst (pc := 46) (z := 1) dX12_partOf_46 ?_
      refine mr_iload (pc := 47) (z := z537) dX12_partOf_47 rfl ?_
      refine mr_cVV (pc := 49) (c_X12_fails_W hw T541 (rW (c := 0) (d := 3) (rR (x := 1)) rfl) (rW (c := (-2147483648)) (d := 2147483647) h555 rfl) ((((h560.2.1 h560.1) z562 q563).2 h565).2 h572)) (gOk _ _ _ _ _) dX12_partOf_49 (tX12_fails _ _ _ _ _) ⟨wV_X12_fails, wL_X12_fails⟩ wM_X12_620 (gCX12 _ _ _ _ _) rfl (A_106 hw) rfl ⟨le_t rfl, le_t rfl⟩ ⟨le_t rfl, le_t rfl⟩ rfl (le_t rfl) fun μ647 T648 F649 h650 => ?_
      refine mr_iconst (pc := 52) (z := 0) dX12_partOf_52 ?_
      exact mr_zret dX12_partOf_53 rfl (rW (c := 0) (d := 1) (rR (x := 0)) rfl) (le_t rfl) (le_t rfl) T648 (mF.call (mF.call mF.refl F542 rfl) F649 rfl) ⟨f_g, f_c, (F649.f (A_106 hw) rfl q549), (F649.f (A_106 hw) rfl q550), (rW (c := 0) (d := 1) (rR (x := 0)) rfl), (vc_X12_partOf_W_26 hq0 hq1 hq2 h544 h545 h546 h554 h572 q563 h553 ht_f_c0 h552 ht_f_g0 ht_f_size hp1 h556 h555 h571 h564), (h650.1 T648 F649), trivial⟩
  refine mr_lvS (lv' := [(0, .ref 106), (2, iv p2), (3, iv p3), (4, iv p1)]) (List.forall_mem_cons.mpr ⟨rfl, List.forall_mem_cons.mpr ⟨rfl, List.forall_mem_cons.mpr ⟨rfl, List.forall_mem_cons.mpr ⟨rfl, fun _ h => absurd h List.not_mem_nil⟩⟩⟩⟩) ?_
  exact L539 1002 p1 μ f_g0 f_c0 hT mF.refl q_f_g0 q_f_c0 hp1 (vc_X12_partOf_W_27 hq0 hq2 hq1 ht_f_c0 ht_f_g0 ht_f_size hp1 hp2) (vc_X12_partOf_W_28 hq0 hq1 hq2 ht_f_c0 ht_f_g0 ht_f_size hp1 hp2) (vc_X12_partOf_W_29 hq0 hq2 hq1 ht_f_c0 ht_f_g0 ht_f_size hp1 hp2) (vc_X12_partOf_W_30 hq0 hq2 hq1 ht_f_c0 ht_f_g0 ht_f_size hp1 hp2) (((hQ f_size q_f_size ht_f_size) f_g0 q_f_g0 ht_f_g0) f_c0 q_f_c0 ht_f_c0)
def WP_X12_byteAt_W (w : mW) (μ : mM) (p1 : Int) (Q : Int → mM → Prop) : Prop := ∀ f_size : Int, μ 106 1 = f_size → (0 ≤ f_size ∧ f_size ≤ 1000) → ((f_size ≤ p1) → Q ((-1) : Int) μ) ∧ ((p1 < f_size) → ∀ z36 : Int, μ 107 (p1.toNat) = z36 → ((-128) ≤ z36 ∧ z36 ≤ 127) → ∀ z39 : Int, bAnd z36 (255 : Int) = z39 → Q z39 μ)
set_option maxRecDepth 4000 in
set_option maxHeartbeats 4000000 in
theorem c_X12_byteAt_W {l : Launch} {D : va_G} {c : Nat → ClassId} {H0 : Heap} {sa : Nat × Nat × (Nat → Int32)} {w : mW} {μ : mM} (hw : mWF w) (hT : mT w μ) {p1 : Int} (hp1 : 0 ≤ p1 ∧ p1 ≤ 2147483647) {f_size : Int} (q_f_size : μ 106 1 = f_size) {Q : Int → mM → Prop} (hQ : WP_X12_byteAt_W w μ p1 Q) : sC (gG l D c H0 sa) mX12_byteAt 1 0 0 [.ref 106, iv p1] (mk w μ) (qP w μ (fun z => ((-1) ≤ z ∧ z ≤ 255) ∧ (0 ≤ z → p1 < f_size) ∧ (p1 < f_size → 0 ≤ z) ∧ Q z μ ∧ True)) := by
  refine sC.of rfl (by decide) (le_t rfl) ?_
  have ht_f_size : (0 ≤ f_size ∧ f_size ≤ 1000) := by rw [← q_f_size]; exact hT 106 106 (A_106 hw) 1
  refine mr_lvE (lv' := [(0, .ref 106), (1, iv p1)]) rfl ?_
  refine mr_iload_n (pc := 0) (z := p1) dX12_byteAt_0 rfl rfl ?_
  refine sv_aload_n (pc := 1) dX12_byteAt_1 rfl rfl ?_
  refine gk_X12_1 (pc := 2) dX12_byteAt_2 wF_X12_1 (A_106 hw) q_f_size ?_
  refine mr_icmp_ge (pc := 5) (tgt := 21) dX12_byteAt_5 (by decide) (r32 hp1 rfl) (r32 ht_f_size rfl) (fun h33 => ?_) (fun h33 => ?_)
  · refine mr_iconst (pc := 21) (z := (-1)) dX12_byteAt_21 ?_
    exact mr_iretP dX12_byteAt_22 rfl (le_t rfl) (le_t rfl) ⟨(rW (c := (-1)) (d := 255) (rR (x := (-1))) rfl), (vc_X12_byteAt_g_2 h33 ht_f_size hp1), (vc_X12_byteAt_g_3 h33 ht_f_size hp1), ((hQ f_size q_f_size ht_f_size).1 h33), trivial⟩
  have h34 : 0 ≤ p1 ∧ p1 ≤ 999 := (vc_X12_byteAt_g_4 h33 ht_f_size hp1)
  have h35 : 1 ≤ f_size ∧ f_size ≤ 1000 := (vc_X12_byteAt_g_5 h33 ht_f_size h34)
  refine sv_aload_n (pc := 8) dX12_byteAt_8 rfl rfl ?_
  refine gf_X12_0 (pc := 9) dX12_byteAt_9 wF_X12_7 (A_106 hw) hT ?_
  refine mr_iload_n (pc := 12) (z := p1) dX12_byteAt_12 rfl rfl ?_
  refine la_107 (pc := 13) dX12_byteAt_13 (A_107 hw) hT (rIx (n := 1000) h34 rfl) fun z36 q37 h38 => ?_
  refine mr_sipush (pc := 14) (z := 255) dX12_byteAt_14 (by decide) ?_
  refine mr_iand (pc := 17) (x := z36) (y := 255) dX12_byteAt_17 ?_
  refine mr_gen (P := fun z => 0 ≤ z ∧ z ≤ 255) (rAndR (rR (x := 255)) rfl) fun z39 q40 h41 => ?_
  refine sv_goto (pc := 18) (tgt := 22) dX12_byteAt_18 (by decide) ?_
  exact mr_iretP dX12_byteAt_22 rfl (le_t rfl) (le_t rfl) ⟨(rW (c := (-1)) (d := 255) h41 rfl), (vc_X12_byteAt_g_7 h33 h35 h34 h41), (vc_X12_byteAt_g_8 h33 h35 h34 h41), ((((hQ f_size q_f_size ht_f_size).2 h33) z36 q37 h38) z39 q40), trivial⟩
def WP_X12_originRight_Wf (w : mW) (μ : mM) (p1 : Int) (p2 : Int) (Q : Int → mM → Prop) : Prop := ∀ f_size : Int, μ 106 1 = f_size → (0 ≤ f_size ∧ f_size ≤ 1000) → ((¬ p2 = 1) → Q (0 : Int) μ) ∧ ((p2 = 1) → WP_X12_byteAt_W w μ p1 (fun z64 _ => ((-1) ≤ z64 ∧ z64 ≤ 255) → ((z64 ≤ 2) → WP_X12_byteAt_W w μ p1 (fun z71 _ => ((-1) ≤ z71 ∧ z71 ≤ 255) → ∀ μ72 : mM, mU μ 126 ((962 : Int).toNat) z71 μ72 → mT w μ72 → ∀ μ75 : mM, mU μ72 106 (98) (1 : Int) μ75 → mT w μ75 → Q (1 : Int) μ75)) ∧ ((2 < z64) → Q (0 : Int) μ)))
theorem vc_X12_originRight_Wf_1 {f_size p1 p2 : Int} (h0 : p2 = 1) (h1 : p1 + p2 ≤ f_size) (h2 : 0 ≤ f_size ∧ f_size ≤ 1000) (h3 : 0 ≤ p1 ∧ p1 ≤ 1000) (h4 : 0 ≤ p2 ∧ p2 ≤ 1000) : 1 ≤ p2 ∧ p2 ≤ 1 := by omega
theorem vc_X12_originRight_Wf_2 {f_size p1 z64 : Int} (h0 : z64 ≤ 2) (h1 : 0 ≤ z64 → p1 < f_size) (h2 : p1 < f_size → 0 ≤ z64) (h3 : 0 ≤ f_size ∧ f_size ≤ 1000) (h4 : 0 ≤ p1 ∧ p1 ≤ 1000) (h5 : (-1) ≤ z64 ∧ z64 ≤ 255) : (-1) ≤ z64 ∧ z64 ≤ 2 := by omega
theorem vc_X12_originRight_Wf_3 {f_size p1 p2 z64 z71 : Int} (h0 : 0 ≤ z71 → p1 < f_size) (h1 : p1 < f_size → 0 ≤ z71) (h2 : p1 + p2 ≤ f_size) (h3 : 0 ≤ z64 → p1 < f_size) (h4 : p1 < f_size → 0 ≤ z64) (h5 : 0 ≤ f_size ∧ f_size ≤ 1000) (h6 : 0 ≤ p1 ∧ p1 ≤ 1000) (h7 : 1 ≤ p2 ∧ p2 ≤ 1) (h8 : (-1) ≤ z64 ∧ z64 ≤ 2) (h9 : (-1) ≤ z71 ∧ z71 ≤ 255) : (-2147483648 ≤ z71 ∧ z71 ≤ 2147483647) ∧ ((962 : Int) % 40 = 0 → -1 ≤ z71 ∧ z71 ≤ 9) ∧ ((962 : Int) % 40 = 4 → 0 ≤ z71 ∧ z71 ≤ 20) ∧ ((962 : Int) % 40 = 5 → 0 ≤ z71 ∧ z71 ≤ 8) := by omega
theorem vc_X12_originRight_Wf_4  : (0 : Int) ≤ (962 : Int) ∧ (962 : Int) ≤ (962 : Int) ∧ (962 : Int) < (963 : Int) := by omega
theorem vc_X12_originRight_Wf_5 {f_size p1 z64 : Int} (h0 : 2 < z64) (h1 : 0 ≤ z64 → p1 < f_size) (h2 : p1 < f_size → 0 ≤ z64) (h3 : 0 ≤ f_size ∧ f_size ≤ 1000) (h4 : 0 ≤ p1 ∧ p1 ≤ 1000) (h5 : (-1) ≤ z64 ∧ z64 ≤ 255) : 3 ≤ z64 ∧ z64 ≤ 255 := by omega
set_option maxRecDepth 4000 in
set_option maxHeartbeats 4000000 in
theorem c_X12_originRight_Wf {l : Launch} {D : va_G} {c : Nat → ClassId} {H0 : Heap} {sa : Nat × Nat × (Nat → Int32)} {w : mW} {μ : mM} (hw : mWF w) (hT : mT w μ) {p1 : Int} (hp1 : 0 ≤ p1 ∧ p1 ≤ 1000) {p2 : Int} (hp2 : 0 ≤ p2 ∧ p2 ≤ 1000) {f_size : Int} (q_f_size : μ 106 1 = f_size) (hq0 : p1 + p2 ≤ f_size) {Q : Int → mM → Prop} (hQ : WP_X12_originRight_Wf w μ p1 p2 Q) : sC (gG l D c H0 sa) mX12_originRight 2 0 0 [.ref 106, iv p1, iv p2] (mk w μ) (qI w [106098, 126999] μ (fun z μ1 => (0 ≤ z ∧ z ≤ 1) ∧ mG [(962, 963)] μ μ1 ∧ Q z μ1 ∧ True)) := by
  refine sC.of rfl (by decide) (le_t rfl) ?_
  have ht_f_size : (0 ≤ f_size ∧ f_size ≤ 1000) := by rw [← q_f_size]; exact hT 106 106 (A_106 hw) 1
  refine mr_lvE (lv' := [(0, .ref 106), (1, iv p1), (2, iv p2)]) rfl ?_
  refine mr_iload_n (pc := 0) (z := p2) dX12_originRight_0 rfl rfl ?_
  refine mr_iconst (pc := 1) (z := 1) dX12_originRight_1 ?_
  refine mr_icmp_ne (pc := 2) (tgt := 14) dX12_originRight_2 (by decide) (r32 hp2 rfl) (r32 (rR (x := 1)) rfl) (fun h58 => ?_) (fun h58 => ?_)
  · refine mr_iconst (pc := 14) (z := 0) dX12_originRight_14 ?_
    exact mr_zret dX12_originRight_15 rfl (rW (c := 0) (d := 1) (rR (x := 0)) rfl) (le_t rfl) (le_t rfl) hT mF.refl ⟨(rW (c := 0) (d := 1) (rR (x := 0)) rfl), mG.refl, ((hQ f_size q_f_size ht_f_size).1 h58), trivial⟩
  have h59 : 1 ≤ p2 ∧ p2 ≤ 1 := (vc_X12_originRight_Wf_1 h58 hq0 ht_f_size hp1 hp2)
  refine sv_aload_n (pc := 5) dX12_originRight_5 rfl rfl ?_
  refine mr_iload_n (pc := 6) (z := p1) dX12_originRight_6 rfl rfl ?_
  refine mr_cVP (pc := 7) (c_X12_byteAt_W hw hT (rW (c := 0) (d := 2147483647) hp1 rfl) q_f_size ((hQ f_size q_f_size ht_f_size).2 h58)) (gOk _ _ _ _ _) dX12_originRight_7 (tX12_byteAt _ _ _ _ _) ⟨wV_X12_byteAt, wL_X12_byteAt⟩ wM_X12_227 (gCX12 _ _ _ _ _) rfl (A_106 hw) rfl ⟨le_t rfl, le_t rfl⟩ ⟨le_t rfl, le_t rfl⟩ rfl (le_t rfl) fun z64 h63 => ?_
  refine mr_iconst (pc := 10) (z := 2) dX12_originRight_10 ?_
  refine mr_icmp_le (pc := 11) (tgt := 16) dX12_originRight_11 (by decide) (r32 h63.1 rfl) (r32 (rR (x := 2)) rfl) (fun h65 => ?_) (fun h65 => ?_)
  · have h66 : (-1) ≤ z64 ∧ z64 ≤ 2 := (vc_X12_originRight_Wf_2 h65 h63.2.1 h63.2.2.1 ht_f_size hp1 h63.1)
    refine sv_aload_n (pc := 16) dX12_originRight_16 rfl rfl ?_
    refine gf_X12_32 (pc := 17) dX12_originRight_17 wF_X12_148 (A_106 hw) hT ?_
    refine mr_sipush (pc := 20) (z := 962) dX12_originRight_20 (by decide) ?_
    refine sv_aload_n (pc := 23) dX12_originRight_23 rfl rfl ?_
    refine mr_iload_n (pc := 24) (z := p1) dX12_originRight_24 rfl rfl ?_
    refine mr_cVP (pc := 25) (c_X12_byteAt_W hw hT (rW (c := 0) (d := 2147483647) hp1 rfl) q_f_size ((h63.2.2.2.1 h63.1).1 h65)) (gOk _ _ _ _ _) dX12_originRight_25 (tX12_byteAt _ _ _ _ _) ⟨wV_X12_byteAt, wL_X12_byteAt⟩ wM_X12_227 (gCX12 _ _ _ _ _) rfl (A_106 hw) rfl ⟨le_t rfl, le_t rfl⟩ ⟨le_t rfl, le_t rfl⟩ rfl (le_t rfl) fun z71 h70 => ?_
    refine ss_126 (pc := 28) dX12_originRight_28 (A_126 hw) hT (rIx (n := 84000) (rR (x := 962)) rfl) (vc_X12_originRight_Wf_3 h70.2.1 h70.2.2.1 hq0 h63.2.1 h63.2.2.1 ht_f_size hp1 h59 h66 h70.1) fun μ72 u73 T74 => ?_
    refine sv_aload_n (pc := 29) dX12_originRight_29 rfl rfl ?_
    refine mr_iconst (pc := 30) (z := 1) dX12_originRight_30 ?_
    refine pf_X12_98 (pc := 31) dX12_originRight_31 wF_X12_631 (A_106 hw) T74 (rW (c := 0) (d := 1) (rR (x := 1)) rfl) fun μ75 u76 T77 => ?_
    refine mr_iconst (pc := 34) (z := 1) dX12_originRight_34 ?_
    exact mr_zret dX12_originRight_35 rfl (rW (c := 0) (d := 1) (rR (x := 1)) rfl) (le_t rfl) (le_t rfl) T77 (mF.up (mF.up mF.refl (A_126 hw) u73 rfl) (A_106 hw) u76 rfl) ⟨(rW (c := 0) (d := 1) (rR (x := 1)) rfl), (mG.upO (mG.up mG.refl u73 List.mem_cons_self vc_X12_originRight_Wf_4) u76 rfl), (((h70.2.2.2.1 h70.1) μ72 u73 T74) μ75 u76 T77), trivial⟩
  have h78 : 3 ≤ z64 ∧ z64 ≤ 255 := (vc_X12_originRight_Wf_5 h65 h63.2.1 h63.2.2.1 ht_f_size hp1 h63.1)
  refine mr_iconst (pc := 14) (z := 0) dX12_originRight_14 ?_
  exact mr_zret dX12_originRight_15 rfl (rW (c := 0) (d := 1) (rR (x := 0)) rfl) (le_t rfl) (le_t rfl) hT mF.refl ⟨(rW (c := 0) (d := 1) (rR (x := 0)) rfl), mG.refl, ((h63.2.2.2.1 h63.1).2 h65), trivial⟩
def WL_X12_number_Wf_1 (w : mW) (μ : mM) (p1 : Int) (p2 : Int) (Q : Int → mM → Prop) (rec1 : (Int × Int) → Prop) (s : (Int × Int)) : Prop := ∀ z453 : Int, ∀ z452 : Int, s = (z453, z452) → ((-2147483648) ≤ z453 ∧ z453 ≤ 2147483647) → (2 ≤ z452 ∧ z452 ≤ 4) → ((p2 ≤ z452) → Q z453 μ) ∧ ((z452 < p2) → ∀ z482 : Int, bShl z453 (8 : Int) = z482 → WP_X12_byteAt_Wf w μ (p1 + z452) (fun z489 _ => (0 ≤ z489 ∧ z489 ≤ 255) → ∀ z490 : Int, bOr z482 z489 = z490 → rec1 (z490, (z452 + 1))))
def WP_X12_number_Wf (w : mW) (μ : mM) (p1 : Int) (p2 : Int) (Q : Int → mM → Prop) : Prop := ∀ f_size : Int, μ 106 1 = f_size → (0 ≤ f_size ∧ f_size ≤ 1000) → ((p2 ≤ 0) → Q (0 : Int) μ) ∧ ((0 < p2) → ∀ z295 : Int, bShl (0 : Int) (8 : Int) = z295 → WP_X12_byteAt_Wf w μ (p1 + 0) (fun z302 _ => (0 ≤ z302 ∧ z302 ≤ 255) → ∀ z303 : Int, bOr z295 z302 = z303 → ((p2 ≤ 1) → Q z303 μ) ∧ ((1 < p2) → ∀ z356 : Int, bShl z303 (8 : Int) = z356 → WP_X12_byteAt_Wf w μ (p1 + 1) (fun z363 _ => (0 ≤ z363 ∧ z363 ≤ 255) → ∀ z364 : Int, bOr z356 z363 = z364 → loopF (WL_X12_number_Wf_1 w μ p1 p2 Q) False 4 (z364, (2 : Int))))))
theorem vc_X12_number_Wf_7 {f_size p1 p2 : Int} (h0 : p1 + p2 ≤ f_size) (h1 : 0 < p2) (h2 : 0 ≤ f_size ∧ f_size ≤ 1000) (h3 : 0 ≤ p1 ∧ p1 ≤ 1000) (h4 : 1 ≤ p2 ∧ p2 ≤ 4) : (p1 + 0) = p1 + (0 : Int) := by omega
theorem vc_X12_number_Wf_14 {f_size p1 p2 : Int} (h0 : p1 + p2 ≤ f_size) (h1 : 0 < p2) (h2 : 1 < p2) (h3 : 0 ≤ f_size ∧ f_size ≤ 1000) (h4 : 0 ≤ p1 ∧ p1 ≤ 1000) (h5 : 2 ≤ p2 ∧ p2 ≤ 4) : (p1 + 1) = p1 + (1 : Int) := by omega
theorem vc_X12_number_Wf_16 {f_size p1 p2 z452 z453 : Int} (h0 : p1 + p2 ≤ f_size) (h1 : 0 < p2) (h2 : 1 < p2) (h3 : z452 = 2 → 0 ≤ z453 ∧ z453 ≤ 65535) (h4 : z452 ≤ p2) (h5 : p2 ≤ z452) (h6 : 0 ≤ f_size ∧ f_size ≤ 1000) (h7 : 0 ≤ p1 ∧ p1 ≤ 1000) (h8 : 2 ≤ p2 ∧ p2 ≤ 4) (h9 : 2 ≤ z452 ∧ z452 ≤ 4) (h10 : (-2147483648) ≤ z453 ∧ z453 ≤ 2147483647) : p2 = z452 := by omega
theorem vc_X12_number_Wf_21 {f_size p1 p2 z452 z453 : Int} (h0 : z452 = 2 → 0 ≤ z453 ∧ z453 ≤ 65535) (h1 : z452 ≤ p2) (h2 : z452 < p2) (h3 : p1 + p2 ≤ f_size) (h4 : 0 < p2) (h5 : 1 < p2) (h6 : 0 ≤ f_size ∧ f_size ≤ 1000) (h7 : 0 ≤ p1 ∧ p1 ≤ 1000) (h8 : 3 ≤ p2 ∧ p2 ≤ 4) (h9 : 2 ≤ z452 ∧ z452 ≤ 3) (h10 : (-2147483648) ≤ z453 ∧ z453 ≤ 2147483647) : 0 ≤ z452 := by omega
theorem vc_X12_number_Wf_22 {f_size p1 p2 z452 z453 : Int} (h0 : p1 + p2 ≤ f_size) (h1 : z452 = 2 → 0 ≤ z453 ∧ z453 ≤ 65535) (h2 : z452 ≤ p2) (h3 : z452 < p2) (h4 : 0 < p2) (h5 : 1 < p2) (h6 : 0 ≤ f_size ∧ f_size ≤ 1000) (h7 : 0 ≤ p1 ∧ p1 ≤ 1000) (h8 : 3 ≤ p2 ∧ p2 ≤ 4) (h9 : 2 ≤ z452 ∧ z452 ≤ 3) (h10 : (-2147483648) ≤ z453 ∧ z453 ≤ 2147483647) : (p1 + z452) = p1 + z452 := by omega
set_option maxRecDepth 4000 in
set_option maxHeartbeats 4000000 in
theorem c_X12_number_Wf {l : Launch} {D : va_G} {c : Nat → ClassId} {H0 : Heap} {sa : Nat × Nat × (Nat → Int32)} {w : mW} {μ : mM} (hw : mWF w) (hT : mT w μ) {p1 : Int} (hp1 : 0 ≤ p1 ∧ p1 ≤ 1000) {p2 : Int} (hp2 : 0 ≤ p2 ∧ p2 ≤ 4) {f_size : Int} (q_f_size : μ 106 1 = f_size) (hq0 : p1 + p2 ≤ f_size) {Q : Int → mM → Prop} (hQ : WP_X12_number_Wf w μ p1 p2 Q) : sC (gG l D c H0 sa) mX12_number 2 0 0 [.ref 106, iv p1, iv p2] (mk w μ) (qP w μ (fun z => ((-2147483648) ≤ z ∧ z ≤ 2147483647) ∧ z = numF μ p1 p2 ∧ (p2 ≤ 2 → 0 ≤ z ∧ z ≤ 65535) ∧ Q z μ ∧ True)) := by
  refine sC.of rfl (by decide) (le_t rfl) ?_
  have ht_f_size : (0 ≤ f_size ∧ f_size ≤ 1000) := by rw [← q_f_size]; exact hT 106 106 (A_106 hw) 1
  refine mr_lvE (lv' := [(0, .ref 106), (1, iv p1), (2, iv p2)]) rfl ?_
  refine mr_iconst (pc := 0) (z := 0) dX12_number_0 ?_
  refine mr_istore_n (pc := 1) (lv' := [(3, iv 0), (0, .ref 106), (1, iv p1), (2, iv p2)]) dX12_number_1 rfl (by decide) rfl ?_
  refine mr_iconst (pc := 2) (z := 0) dX12_number_2 ?_
  refine mr_istore (pc := 3) (lv' := [(4, iv 0), (3, iv 0), (0, .ref 106), (1, iv p1), (2, iv p2)]) dX12_number_3 (by decide) rfl ?_
  refine mr_iload (pc := 5) (z := 0) dX12_number_5 rfl ?_
  refine mr_iload_n (pc := 7) (z := p2) dX12_number_7 rfl rfl ?_
  refine mr_icmp_ge (pc := 8) (tgt := 31) dX12_number_8 (by decide) (r32 (rR (x := 0)) rfl) (r32 hp2 rfl) (fun h292 => ?_) (fun h292 => ?_)
  · have h293 : 0 ≤ p2 ∧ p2 ≤ 0 := (vc_X12_number_W_1 h292 hq0 ht_f_size hp1 hp2)
    refine mr_iload_n (pc := 31) (z := 0) dX12_number_31 rfl rfl ?_
    exact mr_iretP dX12_number_32 rfl (le_t rfl) (le_t rfl) ⟨(rW (c := (-2147483648)) (d := 2147483647) (rR (x := 0)) rfl), (numF.fin (k := (0 : Int)) numF.zero (vc_X12_number_Wf2_2 hq0 h292 ht_f_size hp1 h293)), (vc_X12_number_W_2 hq0 h292 ht_f_size hp1 h293), ((hQ f_size q_f_size ht_f_size).1 h292), trivial⟩
  have h294 : 1 ≤ p2 ∧ p2 ≤ 4 := (vc_X12_number_W_3 h292 hq0 ht_f_size hp1 hp2)
  refine mr_iload_n (pc := 11) (z := 0) dX12_number_11 rfl rfl ?_
  refine mr_bipush (pc := 12) (z := 8) dX12_number_12 (by decide) ?_
  refine mr_ishl (pc := 14) (x := 0) (y := 8) dX12_number_14 ?_
  refine mr_gen (P := fun z => 0 ≤ z ∧ z ≤ 0) (rShl (k := 8) (rR (x := 0)) rfl) fun z295 q296 h297 => ?_
  refine sv_aload_n (pc := 15) dX12_number_15 rfl rfl ?_
  refine mr_iload_n (pc := 16) (z := p1) dX12_number_16 rfl rfl ?_
  refine mr_iload (pc := 17) (z := 0) dX12_number_17 rfl ?_
  refine mr_iadd (pc := 19) (x := p1) (y := 0) dX12_number_19 ?_
  refine mr_cVP (pc := 20) (c_X12_byteAt_Wf hw hT (rW (c := 0) (d := 2147483647) (rAdd (e := 0) (f := 1000) hp1 (rR (x := 0)) rfl) rfl) q_f_size (vc_X12_number_W_4 hq0 h292 ht_f_size hp1 h294) (((hQ f_size q_f_size ht_f_size).2 h292) z295 q296)) (gOk _ _ _ _ _) dX12_number_20 (tX12_byteAt _ _ _ _ _) ⟨wV_X12_byteAt, wL_X12_byteAt⟩ wM_X12_227 (gCX12 _ _ _ _ _) rfl (A_106 hw) rfl ⟨le_t rfl, le_t rfl⟩ ⟨le_t rfl, le_t rfl⟩ rfl (le_t rfl) fun z302 h301 => ?_
  refine mr_ior (pc := 23) (x := z295) (y := z302) dX12_number_23 ?_
  refine mr_gen (P := fun z => 0 ≤ z ∧ z ≤ 255) (rOr 8 h297 h301.1 rfl) fun z303 q304 h305 => ?_
  refine mr_istore_n (pc := 24) (lv' := [(3, iv z303), (4, iv 0), (0, .ref 106), (1, iv p1), (2, iv p2)]) dX12_number_24 rfl (by decide) rfl ?_
  refine mr_iinc (pc := 25) (lv' := [(4, iv 1), (3, iv z303), (0, .ref 106), (1, iv p1), (2, iv p2)]) dX12_number_25 rfl (by decide) rfl ?_
  refine sv_goto (pc := 28) (tgt := 5) dX12_number_28 (by decide) ?_
  refine mr_iload (pc := 5) (z := 1) dX12_number_5 rfl ?_
  refine mr_iload_n (pc := 7) (z := p2) dX12_number_7 rfl rfl ?_
  refine mr_icmp_ge (pc := 8) (tgt := 31) dX12_number_8 (by decide) (r32 (rR (x := 1)) rfl) (r32 h294 rfl) (fun h353 => ?_) (fun h353 => ?_)
  · have h354 : 1 ≤ p2 ∧ p2 ≤ 1 := (vc_X12_number_W_5 h353 hq0 h292 ht_f_size hp1 h294)
    refine mr_iload_n (pc := 31) (z := z303) dX12_number_31 rfl rfl ?_
    exact mr_iretP dX12_number_32 rfl (le_t rfl) (le_t rfl) ⟨(rW (c := (-2147483648)) (d := 2147483647) h305 rfl), (numF.fin (k := (1 : Int)) (numF.succ (n := (0 : Int)) numF.zero vc_X12_through_6 q296 (vc_X12_number_Wf_7 hq0 h292 ht_f_size hp1 h294) h301.2.1.symm.symm q304) (vc_X12_number_Wf2_8 hq0 h292 h353 ht_f_size hp1 h354)), (vc_X12_number_W_6 hq0 h292 h353 ht_f_size hp1 h354 h305), (((h301.2.2.1 h301.1) z303 q304).1 h353), trivial⟩
  have h355 : 2 ≤ p2 ∧ p2 ≤ 4 := (vc_X12_number_W_7 h353 hq0 h292 ht_f_size hp1 h294)
  refine mr_iload_n (pc := 11) (z := z303) dX12_number_11 rfl rfl ?_
  refine mr_bipush (pc := 12) (z := 8) dX12_number_12 (by decide) ?_
  refine mr_ishl (pc := 14) (x := z303) (y := 8) dX12_number_14 ?_
  refine mr_gen (P := fun z => 0 ≤ z ∧ z ≤ 65280) (rShl (k := 8) h305 rfl) fun z356 q357 h358 => ?_
  refine sv_aload_n (pc := 15) dX12_number_15 rfl rfl ?_
  refine mr_iload_n (pc := 16) (z := p1) dX12_number_16 rfl rfl ?_
  refine mr_iload (pc := 17) (z := 1) dX12_number_17 rfl ?_
  refine mr_iadd (pc := 19) (x := p1) (y := 1) dX12_number_19 ?_
  refine mr_cVP (pc := 20) (c_X12_byteAt_Wf hw hT (rW (c := 0) (d := 2147483647) (rAdd (e := 1) (f := 1001) hp1 (rR (x := 1)) rfl) rfl) q_f_size (vc_X12_number_W_8 hq0 h292 h353 ht_f_size hp1 h355) ((((h301.2.2.1 h301.1) z303 q304).2 h353) z356 q357)) (gOk _ _ _ _ _) dX12_number_20 (tX12_byteAt _ _ _ _ _) ⟨wV_X12_byteAt, wL_X12_byteAt⟩ wM_X12_227 (gCX12 _ _ _ _ _) rfl (A_106 hw) rfl ⟨le_t rfl, le_t rfl⟩ ⟨le_t rfl, le_t rfl⟩ rfl (le_t rfl) fun z363 h362 => ?_
  refine mr_ior (pc := 23) (x := z356) (y := z363) dX12_number_23 ?_
  refine mr_gen (P := fun z => 0 ≤ z ∧ z ≤ 65535) (rOr 16 h358 h362.1 rfl) fun z364 q365 h366 => ?_
  refine mr_istore_n (pc := 24) (lv' := [(3, iv z364), (4, iv 1), (0, .ref 106), (1, iv p1), (2, iv p2)]) dX12_number_24 rfl (by decide) rfl ?_
  refine mr_iinc (pc := 25) (lv' := [(4, iv 2), (3, iv z364), (0, .ref 106), (1, iv p1), (2, iv p2)]) dX12_number_25 rfl (by decide) rfl ?_
  refine sv_goto (pc := 28) (tgt := 5) dX12_number_28 (by decide) ?_
  have L454 : ∀ (nL454 : Nat) (z453 z452 : Int), True → ((-2147483648) ≤ z453 ∧ z453 ≤ 2147483647) → (2 ≤ z452 ∧ z452 ≤ 4) → (z452 = 2 → 0 ≤ z453 ∧ z453 ≤ 65535) → (z452 ≤ p2) → numF μ p1 z452 = z453 → (5 - z452) < (nL454 : Int) → loopF (WL_X12_number_Wf_1 w μ p1 p2 Q) False nL454 (z453, z452) → sV (gG l D c H0 sa) mX12_number (sRm 2 0 0) (sZ (gG l D c H0 sa) 0 0 (qP w μ (fun z => ((-2147483648) ≤ z ∧ z ≤ 2147483647) ∧ z = numF μ p1 p2 ∧ (p2 ≤ 2 → 0 ≤ z ∧ z ≤ 65535) ∧ Q z μ ∧ True))) 5 [(0, .ref 106), (1, iv p1), (2, iv p2), (3, iv z453), (4, iv z452)] [] (mk w μ) 0 0 := by
    intro nL454
    induction nL454 with
    | zero => intro z453 z452 _ h455 h456 h460 h461 R462 h463 W464; exact ((vc_X12_number_W_9 h463 h460 h461 hq0 h292 h353 ht_f_size hp1 h355 h456 h455)).elim
    | succ nL454 ih465 =>
      intro z453 z452 _ h455 h456 h460 h461 R462 h463 W464
      refine mr_iload (pc := 5) (z := z452) dX12_number_5 rfl ?_
      refine mr_iload_n (pc := 7) (z := p2) dX12_number_7 rfl rfl ?_
      refine mr_icmp_ge (pc := 8) (tgt := 31) dX12_number_8 (by decide) (r32 h456 rfl) (r32 h355 rfl) (fun h479 => ?_) (fun h479 => ?_)
      · refine mr_iload_n (pc := 31) (z := z453) dX12_number_31 rfl rfl ?_
        exact mr_iretP dX12_number_32 rfl (le_t rfl) (le_t rfl) ⟨h455, (numF.fin (k := z452) R462 (vc_X12_number_Wf_16 hq0 h292 h353 h460 h461 h479 ht_f_size hp1 h355 h456 h455)), (vc_X12_number_W_10 hq0 h292 h353 h460 h461 h479 ht_f_size hp1 h355 h456 h455), ((W464 z453 z452 rfl h455 h456).1 h479), trivial⟩
      have h480 : 2 ≤ z452 ∧ z452 ≤ 3 := (vc_X12_number_W_11 h479 hq0 h292 h353 h460 h461 ht_f_size hp1 h355 h456 h455)
      have h481 : 3 ≤ p2 ∧ p2 ≤ 4 := (vc_X12_number_W_12 h479 hq0 h292 h353 h460 h461 ht_f_size hp1 h355 h480 h455)
      refine mr_iload_n (pc := 11) (z := z453) dX12_number_11 rfl rfl ?_
      refine mr_bipush (pc := 12) (z := 8) dX12_number_12 (by decide) ?_
      refine mr_ishl (pc := 14) (x := z453) (y := 8) dX12_number_14 ?_
      refine mr_gen (P := fun z => (-2147483648) ≤ z ∧ z ≤ 2147483647) (r32i _) fun z482 q483 h484 => ?_
      refine sv_aload_n (pc := 15) dX12_number_15 rfl rfl ?_
      refine mr_iload_n (pc := 16) (z := p1) dX12_number_16 rfl rfl ?_
      refine mr_iload (pc := 17) (z := z452) dX12_number_17 rfl ?_
      refine mr_iadd (pc := 19) (x := p1) (y := z452) dX12_number_19 ?_
      refine mr_cVP (pc := 20) (c_X12_byteAt_Wf hw hT (rW (c := 0) (d := 2147483647) (rAdd (e := 2) (f := 1003) hp1 h480 rfl) rfl) q_f_size (vc_X12_number_W_13 hq0 h460 h461 h479 h292 h353 ht_f_size hp1 h481 h480 h455) (((W464 z453 z452 rfl h455 h456).2 h479) z482 q483)) (gOk _ _ _ _ _) dX12_number_20 (tX12_byteAt _ _ _ _ _) ⟨wV_X12_byteAt, wL_X12_byteAt⟩ wM_X12_227 (gCX12 _ _ _ _ _) rfl (A_106 hw) rfl ⟨le_t rfl, le_t rfl⟩ ⟨le_t rfl, le_t rfl⟩ rfl (le_t rfl) fun z489 h488 => ?_
      refine mr_ior (pc := 23) (x := z482) (y := z489) dX12_number_23 ?_
      refine mr_gen (P := fun z => (-2147483648) ≤ z ∧ z ≤ 2147483647) (r32i _) fun z490 q491 h492 => ?_
      refine mr_istore_n (pc := 24) (lv' := [(3, iv z490), (0, .ref 106), (1, iv p1), (2, iv p2), (4, iv z452)]) dX12_number_24 rfl (by decide) rfl ?_
      refine mr_iinc (pc := 25) (lv' := [(4, iv (z452 + 1)), (3, iv z490), (0, .ref 106), (1, iv p1), (2, iv p2)]) dX12_number_25 rfl (by decide) rfl ?_
      refine sv_goto (pc := 28) (tgt := 5) dX12_number_28 (by decide) ?_
      refine mr_lvS (lv' := [(0, .ref 106), (1, iv p1), (2, iv p2), (3, iv z490), (4, iv (z452 + 1))]) (List.forall_mem_cons.mpr ⟨rfl, List.forall_mem_cons.mpr ⟨rfl, List.forall_mem_cons.mpr ⟨rfl, List.forall_mem_cons.mpr ⟨rfl, List.forall_mem_cons.mpr ⟨rfl, fun _ h => absurd h List.not_mem_nil⟩⟩⟩⟩⟩) ?_
      exact ih465 z490 (z452 + 1) trivial h492 (rW (c := 2) (d := 4) (rAdd (e := 3) (f := 4) h480 (rR (x := 1)) rfl) rfl) (vc_X12_number_W_14 h460 h461 h479 hq0 h292 h353 ht_f_size hp1 h481 h480 h455 h492) (vc_X12_number_W_15 hq0 h292 h353 h460 h461 h479 ht_f_size hp1 h481 h480 h455) (numF.succ (n := z452) R462 (vc_X12_number_Wf_21 h460 h461 h479 hq0 h292 h353 ht_f_size hp1 h481 h480 h455) q483 (vc_X12_number_Wf_22 hq0 h460 h461 h479 h292 h353 ht_f_size hp1 h481 h480 h455) h488.2.1.symm.symm q491) (vc_X12_number_W_16 (nS h463) h460 h461 h479 hq0 h292 h353 ht_f_size hp1 h481 h480 h455) ((h488.2.2.1 h488.1) z490 q491)
  refine mr_lvS (lv' := [(0, .ref 106), (1, iv p1), (2, iv p2), (3, iv z364), (4, iv 2)]) (List.forall_mem_cons.mpr ⟨rfl, List.forall_mem_cons.mpr ⟨rfl, List.forall_mem_cons.mpr ⟨rfl, List.forall_mem_cons.mpr ⟨rfl, List.forall_mem_cons.mpr ⟨rfl, fun _ h => absurd h List.not_mem_nil⟩⟩⟩⟩⟩) ?_
  exact L454 4 z364 2 trivial (rW (c := (-2147483648)) (d := 2147483647) h366 rfl) (rW (c := 2) (d := 4) (rR (x := 2)) rfl) (vc_X12_number_W_17 h366) (vc_X12_number_W_18 hq0 h292 h353 ht_f_size hp1 h355) (numF.succ (n := (1 : Int)) (numF.succ (n := (0 : Int)) numF.zero vc_X12_through_6 q296 (vc_X12_number_Wf_7 hq0 h292 ht_f_size hp1 h294) h301.2.1.symm.symm q304) vc_X12_number_Wf2_11 q357 (vc_X12_number_Wf_14 hq0 h292 h353 ht_f_size hp1 h355) h362.2.1.symm.symm q365) vc_X12_number_W_19 ((h362.2.2.1 h362.1) z364 q365)
def WJ_X12_wayRight_W_5 (w : mW) (rec3 : (Int × Int × mM) → Prop) (z6110 : Int) (z6109 : Int) (z6197 : Int) (z6288 : Int) (μ6289 : mM) : Prop := ∀ μ6325 : mM, mU μ6289 126 (z6288.toNat) z6197 μ6325 → mT w μ6325 → rec3 ((z6110 + 1), (z6109 + 1), μ6325)
def WL_X12_wayRight_W_4 (w : mW) (z5069 : Int) (z5068 : Int) (rec3 : (Int × Int × mM) → Prop) (z6110 : Int) (z6109 : Int) (μ6111 : mM) (z6197 : Int) (rec4 : (Int × mM) → Prop) (s : (Int × mM)) : Prop := ∀ z6288 : Int, ∀ μ6289 : mM, s = (z6288, μ6289) → (966 ≤ z6288 ∧ z6288 ≤ 985) → mT w μ6289 → mF [126999] w μ6111 μ6289 → WP_X12_byteAt_Wf w μ6289 z5069 (fun z6304 _ => (0 ≤ z6304 ∧ z6304 ≤ 255) → ((¬ z6304 = 1) → (WJ_X12_wayRight_W_5 w rec3 z6110 z6109 z6197 z6288 μ6289) ) ∧ ((z6304 = 1) → ((z6288 ≤ z5068) → (WJ_X12_wayRight_W_5 w rec3 z6110 z6109 z6197 z6288 μ6289) ) ∧ ((z5068 < z6288) → ∀ z6333 : Int, μ6289 126 ((z6288 - 1).toNat) = z6333 → ((-2147483648 ≤ z6333 ∧ z6333 ≤ 2147483647) ∧ ((z6288 - 1) % 40 = 0 → -1 ≤ z6333 ∧ z6333 ≤ 9) ∧ ((z6288 - 1) % 40 = 4 → 0 ≤ z6333 ∧ z6333 ≤ 20) ∧ ((z6288 - 1) % 40 = 5 → 0 ≤ z6333 ∧ z6333 ≤ 8)) → WP_X12_isBelow_W w μ6289 z6197 z6333 (fun z6340 _ => (0 ≤ z6340 ∧ z6340 ≤ 1) → ((z6340 = 0) → (WJ_X12_wayRight_W_5 w rec3 z6110 z6109 z6197 z6288 μ6289) ) ∧ ((¬ z6340 = 0) → ∀ μ6346 : mM, mU μ6289 126 (z6288.toNat) z6333 μ6346 → mT w μ6346 → rec4 ((z6288 + (-1)), μ6346))))))
def WL_X12_wayRight_W_3 (w : mW) (rec2 : (Int × Int × mM) → Prop) (z5069 : Int) (z5068 : Int) (μ5070 : mM) (z5243 : Int) (rec3 : (Int × Int × mM) → Prop) (s : (Int × Int × mM)) : Prop := ∀ z6110 : Int, ∀ z6109 : Int, ∀ μ6111 : mM, s = (z6110, z6109, μ6111) → (966 ≤ z6110 ∧ z6110 ≤ 986) → (0 ≤ z6109 ∧ z6109 ≤ 20) → mT w μ6111 → mF [126999] w μ5070 μ6111 → ((z5243 ≤ z6109) → rec2 ((z5069 + (2 + (4 * z5243))), z6110, μ6111)) ∧ ((z6109 < z5243) → WP_X12_number_Wf w μ6111 ((z5069 + 2) + (4 * z6109)) (4) (fun z6197 _ => ((-2147483648) ≤ z6197 ∧ z6197 ≤ 2147483647) → loopF (WL_X12_wayRight_W_4 w z5069 z5068 rec3 z6110 z6109 μ6111 z6197) False 22 (z6110, μ6111)))
def WL_X12_wayRight_W_2 (w : mW) (μ : mM) (p1 : Int) (p2 : Int) (Q : Int → mM → Prop) (z4574 : Int) (rec2 : (Int × Int × mM) → Prop) (s : (Int × Int × mM)) : Prop := ∀ z5069 : Int, ∀ z5068 : Int, ∀ μ5070 : mM, s = (z5069, z5068, μ5070) → (0 ≤ z5069 ∧ z5069 ≤ 1000) → (966 ≤ z5068 ∧ z5068 ≤ 986) → mT w μ5070 → mF [126999] w μ μ5070 → (((p1 + p2) ≤ z5069) → ∀ μ5232 : mM, mU μ5070 126 ((964 : Int).toNat) z4574 μ5232 → mT w μ5232 → ∀ μ5235 : mM, mU μ5232 106 (99) (1 : Int) μ5235 → mT w μ5235 → Q (1 : Int) μ5235) ∧ ((z5069 < (p1 + p2)) → WP_X12_byteAt_Wf w μ5070 (z5069 + 1) (fun z5243 _ => (0 ≤ z5243 ∧ z5243 ≤ 255) → loopF (WL_X12_wayRight_W_3 w rec2 z5069 z5068 μ5070 z5243) False 22 (z5068, (0 : Int), μ5070)))
def WL_X12_wayRight_W_1 (w : mW) (μ : mM) (p1 : Int) (p2 : Int) (Q : Int → mM → Prop) (rec1 : (Int × Int) → Prop) (s : (Int × Int)) : Prop := ∀ z4575 : Int, ∀ z4574 : Int, s = (z4575, z4574) → (0 ≤ z4575 ∧ z4575 ≤ 1000) → (0 ≤ z4574 ∧ z4574 ≤ 250) → (((p1 + p2) ≤ z4575) → ((z4574 ≤ 20) → loopF (WL_X12_wayRight_W_2 w μ p1 p2 Q z4574) False 1002 (p1, (966 : Int), μ)) ∧ ((20 < z4574) → Q (0 : Int) μ)) ∧ ((z4575 < (p1 + p2)) → (((p1 + p2) < (z4575 + 2)) → Q (0 : Int) μ) ∧ (((z4575 + 2) ≤ (p1 + p2)) → WP_X12_byteAt_Wf w μ z4575 (fun z6355 _ => (0 ≤ z6355 ∧ z6355 ≤ 255) → WP_X12_in_W w μ z6355 (1) (2) (fun z6360 _ => (0 ≤ z6360 ∧ z6360 ≤ 1) → ((z6360 = 0) → Q (0 : Int) μ) ∧ ((¬ z6360 = 0) → WP_X12_byteAt_Wf w μ (z4575 + 1) (fun z6371 _ => (0 ≤ z6371 ∧ z6371 ≤ 255) → ((z6371 = 0) → Q (0 : Int) μ) ∧ ((¬ z6371 = 0) → WP_X12_byteAt_Wf w μ (z4575 + 1) (fun z6379 _ => (0 ≤ z6379 ∧ z6379 ≤ 255) → ((((z4575 + 2) + (4 * z6379)) ≤ (p1 + p2)) → WP_X12_byteAt_Wf w μ (z4575 + 1) (fun z6386 _ => (0 ≤ z6386 ∧ z6386 ≤ 255) → WP_X12_byteAt_Wf w μ (z4575 + 1) (fun z6392 _ => (0 ≤ z6392 ∧ z6392 ≤ 255) → rec1 ((z4575 + (2 + (4 * z6392))), (z4574 + z6386))))) ∧ (((p1 + p2) < ((z4575 + 2) + (4 * z6379))) → Q (0 : Int) μ)))))))))
def WP_X12_wayRight_W (w : mW) (μ : mM) (p1 : Int) (p2 : Int) (Q : Int → mM → Prop) : Prop := ∀ f_size : Int, μ 106 1 = f_size → (0 ≤ f_size ∧ f_size ≤ 1000) → loopF (WL_X12_wayRight_W_1 w μ p1 p2 Q) False 1002 (p1, (0 : Int))
theorem vc_X12_wayRight_W_1 {f_size p1 p2 z4574 z4575 : Int} (h0 : (1001 - z4575) < ((0 : Nat) : Int)) (h1 : 4 * z4574 ≤ z4575 - p1) (h2 : z4575 ≤ p1 + p2) (h3 : p1 + p2 ≤ f_size) (h4 : 0 ≤ f_size ∧ f_size ≤ 1000) (h5 : 0 ≤ p1 ∧ p1 ≤ 1000) (h6 : 0 ≤ p2 ∧ p2 ≤ 1000) (h7 : 0 ≤ z4574 ∧ z4574 ≤ 250) (h8 : 0 ≤ z4575 ∧ z4575 ≤ 1000) : False := by omega
theorem vc_X12_wayRight_W_2 {p1 z4574 z4575 : Int} (h0 : z4574 ≤ 20) (h1 : 4 * z4574 ≤ z4575 - p1) (h2 : 0 ≤ p1 ∧ p1 ≤ 1000) (h3 : 0 ≤ z4574 ∧ z4574 ≤ 250) (h4 : 0 ≤ z4575 ∧ z4575 ≤ 1000) : 0 ≤ z4574 ∧ z4574 ≤ 20 := by omega
theorem vc_X12_wayRight_W_3 {f_size p1 p2 z4574 z4575 z5069 : Int} (h0 : (1001 - z5069) < ((0 : Nat) : Int)) (h1 : p1 ≤ z5069) (h2 : p1 + p2 ≤ f_size) (h3 : 4 * z4574 ≤ z4575 - p1) (h4 : z4575 ≤ p1 + p2) (h5 : (p1 + p2) ≤ z4575) (h6 : 0 ≤ f_size ∧ f_size ≤ 1000) (h7 : 0 ≤ p1 ∧ p1 ≤ 1000) (h8 : 0 ≤ p2 ∧ p2 ≤ 1000) (h9 : 0 ≤ z4574 ∧ z4574 ≤ 20) (h10 : 0 ≤ z4575 ∧ z4575 ≤ 1000) (h11 : 0 ≤ z5069 ∧ z5069 ≤ 1000) : False := by omega
theorem vc_X12_wayRight_W_4 {f_size p1 p2 z4574 z4575 z5069 : Int} (h0 : 4 * z4574 ≤ z4575 - p1) (h1 : z4574 ≤ 20) (h2 : p1 + p2 ≤ f_size) (h3 : z4575 ≤ p1 + p2) (h4 : (p1 + p2) ≤ z4575) (h5 : p1 ≤ z5069) (h6 : (p1 + p2) ≤ z5069) (h7 : 0 ≤ f_size ∧ f_size ≤ 1000) (h8 : 0 ≤ p1 ∧ p1 ≤ 1000) (h9 : 0 ≤ p2 ∧ p2 ≤ 1000) (h10 : 0 ≤ z4574 ∧ z4574 ≤ 20) (h11 : 0 ≤ z4575 ∧ z4575 ≤ 1000) (h12 : 0 ≤ z5069 ∧ z5069 ≤ 1000) : (-2147483648 ≤ z4574 ∧ z4574 ≤ 2147483647) ∧ ((964 : Int) % 40 = 0 → -1 ≤ z4574 ∧ z4574 ≤ 9) ∧ ((964 : Int) % 40 = 4 → 0 ≤ z4574 ∧ z4574 ≤ 20) ∧ ((964 : Int) % 40 = 5 → 0 ≤ z4574 ∧ z4574 ≤ 8) := by omega
theorem vc_X12_wayRight_W_5  : (964 : Int) ≤ (964 : Int) ∧ (986 : Int) ≤ (986 : Int) := by omega
theorem vc_X12_wayRight_W_6  : (0 : Int) ≤ (964 : Int) ∧ (964 : Int) ≤ (964 : Int) ∧ (964 : Int) < (986 : Int) := by omega
theorem vc_X12_wayRight_W_7 {f_size p1 p2 z4574 z4575 z5069 : Int} (h0 : p1 + p2 ≤ f_size) (h1 : 4 * z4574 ≤ z4575 - p1) (h2 : z4575 ≤ p1 + p2) (h3 : (p1 + p2) ≤ z4575) (h4 : p1 ≤ z5069) (h5 : z5069 < (p1 + p2)) (h6 : z4574 ≤ 20) (h7 : 0 ≤ f_size ∧ f_size ≤ 1000) (h8 : 0 ≤ p1 ∧ p1 ≤ 1000) (h9 : 0 ≤ p2 ∧ p2 ≤ 1000) (h10 : 0 ≤ z4574 ∧ z4574 ≤ 20) (h11 : 0 ≤ z4575 ∧ z4575 ≤ 1000) (h12 : 0 ≤ z5069 ∧ z5069 ≤ 1000) : z5069 < p1 + p2 := by omega
theorem vc_X12_wayRight_W_8 {f_size p1 p2 z4574 z4575 z5069 : Int} (h0 : p1 + p2 ≤ f_size) (h1 : p1 ≤ z5069) (h2 : z5069 < (p1 + p2)) (h3 : z5069 + 2 ≤ p1 + p2) (h4 : 4 * z4574 ≤ z4575 - p1) (h5 : z4575 ≤ p1 + p2) (h6 : (p1 + p2) ≤ z4575) (h7 : 0 ≤ f_size ∧ f_size ≤ 1000) (h8 : 0 ≤ p1 ∧ p1 ≤ 1000) (h9 : 0 ≤ p2 ∧ p2 ≤ 1000) (h10 : 0 ≤ z4574 ∧ z4574 ≤ 20) (h11 : 0 ≤ z4575 ∧ z4575 ≤ 1000) (h12 : 0 ≤ z5069 ∧ z5069 ≤ 1000) : (z5069 + 1) < f_size := by omega
theorem vc_X12_wayRight_W_9 {f_size p1 p2 z4574 z4575 z5068 z5069 z5243 : Int} (h0 : 4 * z4574 ≤ z4575 - p1) (h1 : z4574 ≤ 20) (h2 : 1 ≤ z5243 ∧ z5069 + 2 + 4 * z5243 ≤ p1 + p2 ∧ z5243 ≤ z4574 - (z5068 - 966)) (h3 : p1 + p2 ≤ f_size) (h4 : z4575 ≤ p1 + p2) (h5 : (p1 + p2) ≤ z4575) (h6 : p1 ≤ z5069) (h7 : z5069 < (p1 + p2)) (h8 : z5069 + 2 ≤ p1 + p2) (h9 : 0 ≤ f_size ∧ f_size ≤ 1000) (h10 : 0 ≤ p1 ∧ p1 ≤ 1000) (h11 : 0 ≤ p2 ∧ p2 ≤ 1000) (h12 : 0 ≤ z4574 ∧ z4574 ≤ 20) (h13 : 0 ≤ z4575 ∧ z4575 ≤ 1000) (h14 : 966 ≤ z5068 ∧ z5068 ≤ 986) (h15 : 0 ≤ z5069 ∧ z5069 ≤ 1000) (h16 : 0 ≤ z5243 ∧ z5243 ≤ 255) : 1 ≤ z5243 ∧ z5243 ≤ 20 := by omega
theorem vc_X12_wayRight_W_10 {p1 p2 z4574 z5068 z5069 z5243 z6109 z6110 : Int} (h0 : (987 - z6110) < ((0 : Nat) : Int)) (h1 : z6110 = z5068 + z6109) (h2 : 1 ≤ z5243 ∧ z5069 + 2 + 4 * z5243 ≤ p1 + p2 ∧ z5243 ≤ z4574 - (z5068 - 966)) (h3 : z6109 ≤ z5243) (h4 : 0 ≤ p1 ∧ p1 ≤ 1000) (h5 : 0 ≤ p2 ∧ p2 ≤ 1000) (h6 : 0 ≤ z4574 ∧ z4574 ≤ 20) (h7 : 966 ≤ z5068 ∧ z5068 ≤ 986) (h8 : 0 ≤ z5069 ∧ z5069 ≤ 1000) (h9 : 1 ≤ z5243 ∧ z5243 ≤ 20) (h10 : 0 ≤ z6109 ∧ z6109 ≤ 20) (h11 : 966 ≤ z6110 ∧ z6110 ≤ 986) : False := by omega
theorem vc_X12_wayRight_W_11 {p1 p2 z4574 z5068 z5069 z5243 z6109 z6110 : Int} (h0 : z5243 ≤ z6109) (h1 : 1 ≤ z5243 ∧ z5069 + 2 + 4 * z5243 ≤ p1 + p2 ∧ z5243 ≤ z4574 - (z5068 - 966)) (h2 : z6110 = z5068 + z6109) (h3 : z6109 ≤ z5243) (h4 : 0 ≤ p1 ∧ p1 ≤ 1000) (h5 : 0 ≤ p2 ∧ p2 ≤ 1000) (h6 : 0 ≤ z4574 ∧ z4574 ≤ 20) (h7 : 966 ≤ z5068 ∧ z5068 ≤ 986) (h8 : 0 ≤ z5069 ∧ z5069 ≤ 1000) (h9 : 1 ≤ z5243 ∧ z5243 ≤ 20) (h10 : 0 ≤ z6109 ∧ z6109 ≤ 20) (h11 : 966 ≤ z6110 ∧ z6110 ≤ 986) : 1 ≤ z6109 ∧ z6109 ≤ 20 := by omega
theorem vc_X12_wayRight_W_12 {f_size p1 p2 z4574 z4575 z5068 z5069 z5243 z6109 z6110 : Int} (h0 : p1 ≤ z5069) (h1 : z5069 < (p1 + p2)) (h2 : z5069 + 2 ≤ p1 + p2) (h3 : 1 ≤ z5243 ∧ z5069 + 2 + 4 * z5243 ≤ p1 + p2 ∧ z5243 ≤ z4574 - (z5068 - 966)) (h4 : z6109 ≤ z5243) (h5 : z5243 ≤ z6109) (h6 : p1 + p2 ≤ f_size) (h7 : 4 * z4574 ≤ z4575 - p1) (h8 : z4575 ≤ p1 + p2) (h9 : (p1 + p2) ≤ z4575) (h10 : z4574 ≤ 20) (h11 : z6110 = z5068 + z6109) (h12 : 0 ≤ f_size ∧ f_size ≤ 1000) (h13 : 0 ≤ p1 ∧ p1 ≤ 1000) (h14 : 0 ≤ p2 ∧ p2 ≤ 1000) (h15 : 0 ≤ z4574 ∧ z4574 ≤ 20) (h16 : 0 ≤ z4575 ∧ z4575 ≤ 1000) (h17 : 966 ≤ z5068 ∧ z5068 ≤ 986) (h18 : 0 ≤ z5069 ∧ z5069 ≤ 1000) (h19 : 1 ≤ z5243 ∧ z5243 ≤ 20) (h20 : 1 ≤ z6109 ∧ z6109 ≤ 20) (h21 : 966 ≤ z6110 ∧ z6110 ≤ 986) : 0 ≤ (z5069 + (2 + (4 * z5243))) ∧ (z5069 + (2 + (4 * z5243))) ≤ 1000 := by omega
theorem vc_X12_wayRight_W_13 {f_size p1 p2 z4574 z4575 z5068 z5069 z5243 z6109 z6110 : Int} (h0 : p1 + p2 ≤ f_size) (h1 : 4 * z4574 ≤ z4575 - p1) (h2 : z4575 ≤ p1 + p2) (h3 : (p1 + p2) ≤ z4575) (h4 : p1 ≤ z5069) (h5 : z5069 < (p1 + p2)) (h6 : z5069 + 2 ≤ p1 + p2) (h7 : 1 ≤ z5243 ∧ z5069 + 2 + 4 * z5243 ≤ p1 + p2 ∧ z5243 ≤ z4574 - (z5068 - 966)) (h8 : z6109 ≤ z5243) (h9 : z5243 ≤ z6109) (h10 : z4574 ≤ 20) (h11 : z6110 = z5068 + z6109) (h12 : 0 ≤ f_size ∧ f_size ≤ 1000) (h13 : 0 ≤ p1 ∧ p1 ≤ 1000) (h14 : 0 ≤ p2 ∧ p2 ≤ 1000) (h15 : 0 ≤ z4574 ∧ z4574 ≤ 20) (h16 : 0 ≤ z4575 ∧ z4575 ≤ 1000) (h17 : 966 ≤ z5068 ∧ z5068 ≤ 986) (h18 : 0 ≤ z5069 ∧ z5069 ≤ 1000) (h19 : 1 ≤ z5243 ∧ z5243 ≤ 20) (h20 : 1 ≤ z6109 ∧ z6109 ≤ 20) (h21 : 966 ≤ z6110 ∧ z6110 ≤ 986) : p1 ≤ (z5069 + (2 + (4 * z5243))) := by omega
theorem vc_X12_wayRight_W_14 {N f_size p1 p2 z4574 z4575 z5068 z5069 z5243 z6109 z6110 : Int} (h0 : (1001 - z5069) < N + 1) (h1 : p1 ≤ z5069) (h2 : z5069 < (p1 + p2)) (h3 : z5069 + 2 ≤ p1 + p2) (h4 : 1 ≤ z5243 ∧ z5069 + 2 + 4 * z5243 ≤ p1 + p2 ∧ z5243 ≤ z4574 - (z5068 - 966)) (h5 : z6109 ≤ z5243) (h6 : z5243 ≤ z6109) (h7 : p1 + p2 ≤ f_size) (h8 : 4 * z4574 ≤ z4575 - p1) (h9 : z4575 ≤ p1 + p2) (h10 : (p1 + p2) ≤ z4575) (h11 : z4574 ≤ 20) (h12 : z6110 = z5068 + z6109) (h13 : 0 ≤ f_size ∧ f_size ≤ 1000) (h14 : 0 ≤ p1 ∧ p1 ≤ 1000) (h15 : 0 ≤ p2 ∧ p2 ≤ 1000) (h16 : 0 ≤ z4574 ∧ z4574 ≤ 20) (h17 : 0 ≤ z4575 ∧ z4575 ≤ 1000) (h18 : 966 ≤ z5068 ∧ z5068 ≤ 986) (h19 : 0 ≤ z5069 ∧ z5069 ≤ 1000) (h20 : 1 ≤ z5243 ∧ z5243 ≤ 20) (h21 : 1 ≤ z6109 ∧ z6109 ≤ 20) (h22 : 966 ≤ z6110 ∧ z6110 ≤ 986) : (1001 - (z5069 + (2 + (4 * z5243)))) < N := by omega
theorem vc_X12_wayRight_W_15 {f_size p1 p2 z4574 z4575 z5068 z5069 z5243 z6109 z6110 : Int} (h0 : p1 ≤ z5069) (h1 : z5069 < (p1 + p2)) (h2 : z5069 + 2 ≤ p1 + p2) (h3 : 1 ≤ z5243 ∧ z5069 + 2 + 4 * z5243 ≤ p1 + p2 ∧ z5243 ≤ z4574 - (z5068 - 966)) (h4 : z6109 ≤ z5243) (h5 : z5243 ≤ z6109) (h6 : p1 + p2 ≤ f_size) (h7 : 4 * z4574 ≤ z4575 - p1) (h8 : z4575 ≤ p1 + p2) (h9 : (p1 + p2) ≤ z4575) (h10 : z4574 ≤ 20) (h11 : z6110 = z5068 + z6109) (h12 : 0 ≤ f_size ∧ f_size ≤ 1000) (h13 : 0 ≤ p1 ∧ p1 ≤ 1000) (h14 : 0 ≤ p2 ∧ p2 ≤ 1000) (h15 : 0 ≤ z4574 ∧ z4574 ≤ 20) (h16 : 0 ≤ z4575 ∧ z4575 ≤ 1000) (h17 : 966 ≤ z5068 ∧ z5068 ≤ 986) (h18 : 0 ≤ z5069 ∧ z5069 ≤ 1000) (h19 : 1 ≤ z5243 ∧ z5243 ≤ 20) (h20 : 1 ≤ z6109 ∧ z6109 ≤ 20) (h21 : 966 ≤ z6110 ∧ z6110 ≤ 986) : (z5069 + (2 + (4 * z5243))) = z5069 + 2 + 4 * z5243 := by omega
theorem vc_X12_wayRight_W_16 {f_size p1 p2 z4574 z4575 z5068 z5069 z5243 z6109 z6110 : Int} (h0 : p1 + p2 ≤ f_size) (h1 : 4 * z4574 ≤ z4575 - p1) (h2 : z4575 ≤ p1 + p2) (h3 : (p1 + p2) ≤ z4575) (h4 : z4574 ≤ 20) (h5 : p1 ≤ z5069) (h6 : z5069 < (p1 + p2)) (h7 : z5069 + 2 ≤ p1 + p2) (h8 : 1 ≤ z5243 ∧ z5069 + 2 + 4 * z5243 ≤ p1 + p2 ∧ z5243 ≤ z4574 - (z5068 - 966)) (h9 : z6110 = z5068 + z6109) (h10 : z6109 ≤ z5243) (h11 : z5243 ≤ z6109) (h12 : 0 ≤ f_size ∧ f_size ≤ 1000) (h13 : 0 ≤ p1 ∧ p1 ≤ 1000) (h14 : 0 ≤ p2 ∧ p2 ≤ 1000) (h15 : 0 ≤ z4574 ∧ z4574 ≤ 20) (h16 : 0 ≤ z4575 ∧ z4575 ≤ 1000) (h17 : 966 ≤ z5068 ∧ z5068 ≤ 986) (h18 : 0 ≤ z5069 ∧ z5069 ≤ 1000) (h19 : 1 ≤ z5243 ∧ z5243 ≤ 20) (h20 : 1 ≤ z6109 ∧ z6109 ≤ 20) (h21 : 966 ≤ z6110 ∧ z6110 ≤ 986) : z4574 - (z6110 - 966) = z4574 - (z5068 - 966) - z5243 := by omega
theorem vc_X12_wayRight_W_17 {p1 p2 z4574 z5068 z5069 z5243 z6109 z6110 : Int} (h0 : z6109 < z5243) (h1 : 1 ≤ z5243 ∧ z5069 + 2 + 4 * z5243 ≤ p1 + p2 ∧ z5243 ≤ z4574 - (z5068 - 966)) (h2 : z6110 = z5068 + z6109) (h3 : z6109 ≤ z5243) (h4 : 0 ≤ p1 ∧ p1 ≤ 1000) (h5 : 0 ≤ p2 ∧ p2 ≤ 1000) (h6 : 0 ≤ z4574 ∧ z4574 ≤ 20) (h7 : 966 ≤ z5068 ∧ z5068 ≤ 986) (h8 : 0 ≤ z5069 ∧ z5069 ≤ 1000) (h9 : 1 ≤ z5243 ∧ z5243 ≤ 20) (h10 : 0 ≤ z6109 ∧ z6109 ≤ 20) (h11 : 966 ≤ z6110 ∧ z6110 ≤ 986) : 0 ≤ z6109 ∧ z6109 ≤ 19 := by omega
theorem vc_X12_wayRight_W_18 {f_size p1 p2 z4574 z4575 z5068 z5069 z5243 z6109 z6110 : Int} (h0 : p1 ≤ z5069) (h1 : z5069 < (p1 + p2)) (h2 : z5069 + 2 ≤ p1 + p2) (h3 : 1 ≤ z5243 ∧ z5069 + 2 + 4 * z5243 ≤ p1 + p2 ∧ z5243 ≤ z4574 - (z5068 - 966)) (h4 : z6110 = z5068 + z6109) (h5 : z6109 ≤ z5243) (h6 : z6109 < z5243) (h7 : p1 + p2 ≤ f_size) (h8 : 4 * z4574 ≤ z4575 - p1) (h9 : z4575 ≤ p1 + p2) (h10 : (p1 + p2) ≤ z4575) (h11 : z4574 ≤ 20) (h12 : 0 ≤ f_size ∧ f_size ≤ 1000) (h13 : 0 ≤ p1 ∧ p1 ≤ 1000) (h14 : 0 ≤ p2 ∧ p2 ≤ 1000) (h15 : 0 ≤ z4574 ∧ z4574 ≤ 20) (h16 : 0 ≤ z4575 ∧ z4575 ≤ 1000) (h17 : 966 ≤ z5068 ∧ z5068 ≤ 986) (h18 : 0 ≤ z5069 ∧ z5069 ≤ 1000) (h19 : 1 ≤ z5243 ∧ z5243 ≤ 20) (h20 : 0 ≤ z6109 ∧ z6109 ≤ 19) (h21 : 966 ≤ z6110 ∧ z6110 ≤ 986) : 0 ≤ ((z5069 + 2) + (4 * z6109)) ∧ ((z5069 + 2) + (4 * z6109)) ≤ 1000 := by omega
theorem vc_X12_wayRight_W_19 {f_size p1 p2 z4574 z4575 z5068 z5069 z5243 z6109 z6110 : Int} (h0 : p1 + p2 ≤ f_size) (h1 : p1 ≤ z5069) (h2 : z5069 < (p1 + p2)) (h3 : z5069 + 2 ≤ p1 + p2) (h4 : 1 ≤ z5243 ∧ z5069 + 2 + 4 * z5243 ≤ p1 + p2 ∧ z5243 ≤ z4574 - (z5068 - 966)) (h5 : z6110 = z5068 + z6109) (h6 : z6109 ≤ z5243) (h7 : z6109 < z5243) (h8 : 4 * z4574 ≤ z4575 - p1) (h9 : z4575 ≤ p1 + p2) (h10 : (p1 + p2) ≤ z4575) (h11 : z4574 ≤ 20) (h12 : 0 ≤ f_size ∧ f_size ≤ 1000) (h13 : 0 ≤ p1 ∧ p1 ≤ 1000) (h14 : 0 ≤ p2 ∧ p2 ≤ 1000) (h15 : 0 ≤ z4574 ∧ z4574 ≤ 20) (h16 : 0 ≤ z4575 ∧ z4575 ≤ 1000) (h17 : 966 ≤ z5068 ∧ z5068 ≤ 986) (h18 : 0 ≤ z5069 ∧ z5069 ≤ 1000) (h19 : 1 ≤ z5243 ∧ z5243 ≤ 20) (h20 : 0 ≤ z6109 ∧ z6109 ≤ 19) (h21 : 966 ≤ z6110 ∧ z6110 ≤ 986) : ((z5069 + 2) + (4 * z6109)) + (4 : Int) ≤ f_size := by omega
theorem vc_X12_wayRight_W_20 {p1 p2 z4574 z5068 z5069 z5243 z6109 z6110 z6288 : Int} (h0 : (z6288 - 965) < ((0 : Nat) : Int)) (h1 : z6288 ≤ z6110) (h2 : z5068 ≤ z6288) (h3 : 1 ≤ z5243 ∧ z5069 + 2 + 4 * z5243 ≤ p1 + p2 ∧ z5243 ≤ z4574 - (z5068 - 966)) (h4 : z6110 = z5068 + z6109) (h5 : 0 ≤ p1 ∧ p1 ≤ 1000) (h6 : 0 ≤ p2 ∧ p2 ≤ 1000) (h7 : 0 ≤ z4574 ∧ z4574 ≤ 20) (h8 : 966 ≤ z5068 ∧ z5068 ≤ 986) (h9 : 0 ≤ z5069 ∧ z5069 ≤ 1000) (h10 : 1 ≤ z5243 ∧ z5243 ≤ 20) (h11 : 0 ≤ z6109 ∧ z6109 ≤ 19) (h12 : 966 ≤ z6110 ∧ z6110 ≤ 986) (h13 : 966 ≤ z6288 ∧ z6288 ≤ 985) : False := by omega
theorem vc_X12_wayRight_W_21 {f_size p1 p2 z4574 z4575 z5068 z5069 z5243 z6109 z6110 z6288 : Int} (h0 : p1 + p2 ≤ f_size) (h1 : p1 ≤ z5069) (h2 : z5069 < (p1 + p2)) (h3 : z5069 + 2 ≤ p1 + p2) (h4 : 1 ≤ z5243 ∧ z5069 + 2 + 4 * z5243 ≤ p1 + p2 ∧ z5243 ≤ z4574 - (z5068 - 966)) (h5 : 4 * z4574 ≤ z4575 - p1) (h6 : z4575 ≤ p1 + p2) (h7 : (p1 + p2) ≤ z4575) (h8 : z4574 ≤ 20) (h9 : z6110 = z5068 + z6109) (h10 : z6109 ≤ z5243) (h11 : z6109 < z5243) (h12 : z5068 ≤ z6288) (h13 : 0 ≤ f_size ∧ f_size ≤ 1000) (h14 : 0 ≤ p1 ∧ p1 ≤ 1000) (h15 : 0 ≤ p2 ∧ p2 ≤ 1000) (h16 : 0 ≤ z4574 ∧ z4574 ≤ 20) (h17 : 0 ≤ z4575 ∧ z4575 ≤ 1000) (h18 : 966 ≤ z5068 ∧ z5068 ≤ 986) (h19 : 0 ≤ z5069 ∧ z5069 ≤ 1000) (h20 : 1 ≤ z5243 ∧ z5243 ≤ 20) (h21 : 0 ≤ z6109 ∧ z6109 ≤ 19) (h22 : 966 ≤ z6110 ∧ z6110 ≤ 986) (h23 : 966 ≤ z6288 ∧ z6288 ≤ 985) : z5069 < f_size := by omega
theorem vc_X12_wayRight_W_22 {p1 p2 z4574 z5068 z5069 z5243 z6109 z6110 z6197 z6288 : Int} (h0 : (4 : Int) ≤ 2 → 0 ≤ z6197 ∧ z6197 ≤ 65535) (h1 : z6288 ≤ z6110) (h2 : z5068 ≤ z6288) (h3 : 1 ≤ z5243 ∧ z5069 + 2 + 4 * z5243 ≤ p1 + p2 ∧ z5243 ≤ z4574 - (z5068 - 966)) (h4 : z6110 = z5068 + z6109) (h5 : 0 ≤ p1 ∧ p1 ≤ 1000) (h6 : 0 ≤ p2 ∧ p2 ≤ 1000) (h7 : 0 ≤ z4574 ∧ z4574 ≤ 20) (h8 : 966 ≤ z5068 ∧ z5068 ≤ 986) (h9 : 0 ≤ z5069 ∧ z5069 ≤ 1000) (h10 : 1 ≤ z5243 ∧ z5243 ≤ 20) (h11 : 0 ≤ z6109 ∧ z6109 ≤ 19) (h12 : 966 ≤ z6110 ∧ z6110 ≤ 986) (h13 : (-2147483648) ≤ z6197 ∧ z6197 ≤ 2147483647) (h14 : 966 ≤ z6288 ∧ z6288 ≤ 985) : (-2147483648 ≤ z6197 ∧ z6197 ≤ 2147483647) ∧ (z6288 % 40 = 0 → -1 ≤ z6197 ∧ z6197 ≤ 9) ∧ (z6288 % 40 = 4 → 0 ≤ z6197 ∧ z6197 ≤ 20) ∧ (z6288 % 40 = 5 → 0 ≤ z6197 ∧ z6197 ≤ 8) := by omega
theorem vc_X12_wayRight_W_23 {p1 p2 z4574 z5068 z5069 z5243 z6109 z6110 z6288 : Int} (h0 : z6110 = z5068 + z6109) (h1 : z6288 ≤ z6110) (h2 : 1 ≤ z5243 ∧ z5069 + 2 + 4 * z5243 ≤ p1 + p2 ∧ z5243 ≤ z4574 - (z5068 - 966)) (h3 : z6109 ≤ z5243) (h4 : z6109 < z5243) (h5 : z5068 ≤ z6288) (h6 : 0 ≤ p1 ∧ p1 ≤ 1000) (h7 : 0 ≤ p2 ∧ p2 ≤ 1000) (h8 : 0 ≤ z4574 ∧ z4574 ≤ 20) (h9 : 966 ≤ z5068 ∧ z5068 ≤ 986) (h10 : 0 ≤ z5069 ∧ z5069 ≤ 1000) (h11 : 1 ≤ z5243 ∧ z5243 ≤ 20) (h12 : 0 ≤ z6109 ∧ z6109 ≤ 19) (h13 : 966 ≤ z6110 ∧ z6110 ≤ 986) (h14 : 966 ≤ z6288 ∧ z6288 ≤ 985) : 966 ≤ (z6110 + 1) ∧ (z6110 + 1) ≤ 986 := by omega
theorem vc_X12_wayRight_W_24 {f_size p1 p2 z4574 z4575 z5068 z5069 z5243 z6109 z6110 z6288 : Int} (h0 : 1 ≤ z5243 ∧ z5069 + 2 + 4 * z5243 ≤ p1 + p2 ∧ z5243 ≤ z4574 - (z5068 - 966)) (h1 : z6110 = z5068 + z6109) (h2 : z6109 ≤ z5243) (h3 : z6109 < z5243) (h4 : z6288 ≤ z6110) (h5 : z5068 ≤ z6288) (h6 : p1 + p2 ≤ f_size) (h7 : 4 * z4574 ≤ z4575 - p1) (h8 : z4575 ≤ p1 + p2) (h9 : (p1 + p2) ≤ z4575) (h10 : z4574 ≤ 20) (h11 : p1 ≤ z5069) (h12 : z5069 < (p1 + p2)) (h13 : z5069 + 2 ≤ p1 + p2) (h14 : 0 ≤ f_size ∧ f_size ≤ 1000) (h15 : 0 ≤ p1 ∧ p1 ≤ 1000) (h16 : 0 ≤ p2 ∧ p2 ≤ 1000) (h17 : 0 ≤ z4574 ∧ z4574 ≤ 20) (h18 : 0 ≤ z4575 ∧ z4575 ≤ 1000) (h19 : 966 ≤ z5068 ∧ z5068 ≤ 986) (h20 : 0 ≤ z5069 ∧ z5069 ≤ 1000) (h21 : 1 ≤ z5243 ∧ z5243 ≤ 20) (h22 : 0 ≤ z6109 ∧ z6109 ≤ 19) (h23 : 966 ≤ z6110 ∧ z6110 ≤ 986) (h24 : 966 ≤ z6288 ∧ z6288 ≤ 985) : (z6110 + 1) = z5068 + (z6109 + 1) := by omega
theorem vc_X12_wayRight_W_25 {f_size p1 p2 z4574 z4575 z5068 z5069 z5243 z6109 z6110 z6288 : Int} (h0 : 1 ≤ z5243 ∧ z5069 + 2 + 4 * z5243 ≤ p1 + p2 ∧ z5243 ≤ z4574 - (z5068 - 966)) (h1 : z6110 = z5068 + z6109) (h2 : z6109 ≤ z5243) (h3 : z6109 < z5243) (h4 : p1 + p2 ≤ f_size) (h5 : 4 * z4574 ≤ z4575 - p1) (h6 : z4575 ≤ p1 + p2) (h7 : (p1 + p2) ≤ z4575) (h8 : z4574 ≤ 20) (h9 : p1 ≤ z5069) (h10 : z5069 < (p1 + p2)) (h11 : z5069 + 2 ≤ p1 + p2) (h12 : z6288 ≤ z6110) (h13 : z5068 ≤ z6288) (h14 : 0 ≤ f_size ∧ f_size ≤ 1000) (h15 : 0 ≤ p1 ∧ p1 ≤ 1000) (h16 : 0 ≤ p2 ∧ p2 ≤ 1000) (h17 : 0 ≤ z4574 ∧ z4574 ≤ 20) (h18 : 0 ≤ z4575 ∧ z4575 ≤ 1000) (h19 : 966 ≤ z5068 ∧ z5068 ≤ 986) (h20 : 0 ≤ z5069 ∧ z5069 ≤ 1000) (h21 : 1 ≤ z5243 ∧ z5243 ≤ 20) (h22 : 0 ≤ z6109 ∧ z6109 ≤ 19) (h23 : 966 ≤ z6110 ∧ z6110 ≤ 986) (h24 : 966 ≤ z6288 ∧ z6288 ≤ 985) : (z6109 + 1) ≤ z5243 := by omega
theorem vc_X12_wayRight_W_26 {N p1 p2 z4574 z5068 z5069 z5243 z6109 z6110 z6288 : Int} (h0 : (987 - z6110) < N + 1) (h1 : z6110 = z5068 + z6109) (h2 : z6288 ≤ z6110) (h3 : 1 ≤ z5243 ∧ z5069 + 2 + 4 * z5243 ≤ p1 + p2 ∧ z5243 ≤ z4574 - (z5068 - 966)) (h4 : z6109 ≤ z5243) (h5 : z6109 < z5243) (h6 : z5068 ≤ z6288) (h7 : 0 ≤ p1 ∧ p1 ≤ 1000) (h8 : 0 ≤ p2 ∧ p2 ≤ 1000) (h9 : 0 ≤ z4574 ∧ z4574 ≤ 20) (h10 : 966 ≤ z5068 ∧ z5068 ≤ 986) (h11 : 0 ≤ z5069 ∧ z5069 ≤ 1000) (h12 : 1 ≤ z5243 ∧ z5243 ≤ 20) (h13 : 0 ≤ z6109 ∧ z6109 ≤ 19) (h14 : 966 ≤ z6110 ∧ z6110 ≤ 986) (h15 : 966 ≤ z6288 ∧ z6288 ≤ 985) : (987 - (z6110 + 1)) < N := by omega
theorem vc_X12_wayRight_W_27 {p1 p2 z4574 z5068 z5069 z5243 z6109 z6110 z6288 : Int} (h0 : z6288 ≤ z6110) (h1 : z5068 ≤ z6288) (h2 : 1 ≤ z5243 ∧ z5069 + 2 + 4 * z5243 ≤ p1 + p2 ∧ z5243 ≤ z4574 - (z5068 - 966)) (h3 : z6110 = z5068 + z6109) (h4 : 0 ≤ p1 ∧ p1 ≤ 1000) (h5 : 0 ≤ p2 ∧ p2 ≤ 1000) (h6 : 0 ≤ z4574 ∧ z4574 ≤ 20) (h7 : 966 ≤ z5068 ∧ z5068 ≤ 986) (h8 : 0 ≤ z5069 ∧ z5069 ≤ 1000) (h9 : 1 ≤ z5243 ∧ z5243 ≤ 20) (h10 : 0 ≤ z6109 ∧ z6109 ≤ 19) (h11 : 966 ≤ z6110 ∧ z6110 ≤ 986) (h12 : 966 ≤ z6288 ∧ z6288 ≤ 985) : 0 ≤ z6288 ∧ 964 ≤ z6288 ∧ z6288 < 986 := by omega
theorem vc_X12_wayRight_W_29 {p1 p2 z4574 z5068 z5069 z5243 z6109 z6110 z6288 : Int} (h0 : z5068 < z6288) (h1 : 1 ≤ z5243 ∧ z5069 + 2 + 4 * z5243 ≤ p1 + p2 ∧ z5243 ≤ z4574 - (z5068 - 966)) (h2 : z6110 = z5068 + z6109) (h3 : z6288 ≤ z6110) (h4 : z5068 ≤ z6288) (h5 : 0 ≤ p1 ∧ p1 ≤ 1000) (h6 : 0 ≤ p2 ∧ p2 ≤ 1000) (h7 : 0 ≤ z4574 ∧ z4574 ≤ 20) (h8 : 966 ≤ z5068 ∧ z5068 ≤ 986) (h9 : 0 ≤ z5069 ∧ z5069 ≤ 1000) (h10 : 1 ≤ z5243 ∧ z5243 ≤ 20) (h11 : 0 ≤ z6109 ∧ z6109 ≤ 19) (h12 : 966 ≤ z6110 ∧ z6110 ≤ 986) (h13 : 966 ≤ z6288 ∧ z6288 ≤ 985) : 967 ≤ z6288 ∧ z6288 ≤ 985 := by omega
theorem vc_X12_wayRight_W_30 {p1 p2 z4574 z5068 z5069 z5243 z6109 z6110 z6288 : Int} (h0 : z5068 < z6288) (h1 : 1 ≤ z5243 ∧ z5069 + 2 + 4 * z5243 ≤ p1 + p2 ∧ z5243 ≤ z4574 - (z5068 - 966)) (h2 : z6110 = z5068 + z6109) (h3 : z6288 ≤ z6110) (h4 : z5068 ≤ z6288) (h5 : 0 ≤ p1 ∧ p1 ≤ 1000) (h6 : 0 ≤ p2 ∧ p2 ≤ 1000) (h7 : 0 ≤ z4574 ∧ z4574 ≤ 20) (h8 : 966 ≤ z5068 ∧ z5068 ≤ 986) (h9 : 0 ≤ z5069 ∧ z5069 ≤ 1000) (h10 : 1 ≤ z5243 ∧ z5243 ≤ 20) (h11 : 0 ≤ z6109 ∧ z6109 ≤ 19) (h12 : 966 ≤ z6110 ∧ z6110 ≤ 986) (h13 : 967 ≤ z6288 ∧ z6288 ≤ 985) : 966 ≤ z5068 ∧ z5068 ≤ 984 := by omega
theorem vc_X12_wayRight_W_32 {z6197 z6288 z6333 z6340 : Int} (h0 : (z6340 = 1 → z6197 % 4294967296 < z6333 % 4294967296)) (h1 : (z6340 = 0 → z6333 % 4294967296 ≤ z6197 % 4294967296)) (h2 : z6340 = 0) (h3 : (4 : Int) ≤ 2 → 0 ≤ z6197 ∧ z6197 ≤ 65535) (h4 : ((z6288 - 1) % 40 = 0 → -1 ≤ z6333 ∧ z6333 ≤ 9)) (h5 : ((z6288 - 1) % 40 = 4 → 0 ≤ z6333 ∧ z6333 ≤ 20)) (h6 : ((z6288 - 1) % 40 = 5 → 0 ≤ z6333 ∧ z6333 ≤ 8)) (h7 : (-2147483648) ≤ z6197 ∧ z6197 ≤ 2147483647) (h8 : 967 ≤ z6288 ∧ z6288 ≤ 985) (h9 : (-2147483648) ≤ z6333 ∧ z6333 ≤ 2147483647) (h10 : 0 ≤ z6340 ∧ z6340 ≤ 0) : z6340 = 0 := by omega
theorem vc_X12_wayRight_W_34 {z6197 z6288 z6333 z6340 : Int} (h0 : (z6340 = 1 → z6197 % 4294967296 < z6333 % 4294967296)) (h1 : (z6340 = 0 → z6333 % 4294967296 ≤ z6197 % 4294967296)) (h2 : ¬ z6340 = 0) (h3 : (4 : Int) ≤ 2 → 0 ≤ z6197 ∧ z6197 ≤ 65535) (h4 : ((z6288 - 1) % 40 = 0 → -1 ≤ z6333 ∧ z6333 ≤ 9)) (h5 : ((z6288 - 1) % 40 = 4 → 0 ≤ z6333 ∧ z6333 ≤ 20)) (h6 : ((z6288 - 1) % 40 = 5 → 0 ≤ z6333 ∧ z6333 ≤ 8)) (h7 : (-2147483648) ≤ z6197 ∧ z6197 ≤ 2147483647) (h8 : 967 ≤ z6288 ∧ z6288 ≤ 985) (h9 : (-2147483648) ≤ z6333 ∧ z6333 ≤ 2147483647) (h10 : 1 ≤ z6340 ∧ z6340 ≤ 1) : z6340 = 1 := by omega
theorem vc_X12_wayRight_W_35 {p1 p2 z4574 z5068 z5069 z5243 z6109 z6110 z6197 z6288 z6333 z6340 : Int} (h0 : z6288 ≤ z6110) (h1 : z5068 ≤ z6288) (h2 : z5068 < z6288) (h3 : ((z6288 - 1) % 40 = 0 → -1 ≤ z6333 ∧ z6333 ≤ 9)) (h4 : ((z6288 - 1) % 40 = 4 → 0 ≤ z6333 ∧ z6333 ≤ 20)) (h5 : ((z6288 - 1) % 40 = 5 → 0 ≤ z6333 ∧ z6333 ≤ 8)) (h6 : (z6340 = 1 → z6197 % 4294967296 < z6333 % 4294967296)) (h7 : (z6340 = 0 → z6333 % 4294967296 ≤ z6197 % 4294967296)) (h8 : z6197 % 4294967296 < z6333 % 4294967296) (h9 : 1 ≤ z5243 ∧ z5069 + 2 + 4 * z5243 ≤ p1 + p2 ∧ z5243 ≤ z4574 - (z5068 - 966)) (h10 : z6110 = z5068 + z6109) (h11 : (4 : Int) ≤ 2 → 0 ≤ z6197 ∧ z6197 ≤ 65535) (h12 : ¬ z6340 = 0) (h13 : 0 ≤ p1 ∧ p1 ≤ 1000) (h14 : 0 ≤ p2 ∧ p2 ≤ 1000) (h15 : 0 ≤ z4574 ∧ z4574 ≤ 20) (h16 : 966 ≤ z5068 ∧ z5068 ≤ 984) (h17 : 0 ≤ z5069 ∧ z5069 ≤ 1000) (h18 : 1 ≤ z5243 ∧ z5243 ≤ 20) (h19 : 0 ≤ z6109 ∧ z6109 ≤ 19) (h20 : 966 ≤ z6110 ∧ z6110 ≤ 986) (h21 : (-2147483648) ≤ z6197 ∧ z6197 ≤ 2147483647) (h22 : 967 ≤ z6288 ∧ z6288 ≤ 985) (h23 : (-2147483648) ≤ z6333 ∧ z6333 ≤ 2147483647) (h24 : 1 ≤ z6340 ∧ z6340 ≤ 1) : (-2147483648 ≤ z6333 ∧ z6333 ≤ 2147483647) ∧ (z6288 % 40 = 0 → -1 ≤ z6333 ∧ z6333 ≤ 9) ∧ (z6288 % 40 = 4 → 0 ≤ z6333 ∧ z6333 ≤ 20) ∧ (z6288 % 40 = 5 → 0 ≤ z6333 ∧ z6333 ≤ 8) := by omega
theorem vc_X12_wayRight_W_36 {p1 p2 z4574 z5068 z5069 z5243 z6109 z6110 z6197 z6288 z6333 z6340 : Int} (h0 : z6110 = z5068 + z6109) (h1 : z6288 ≤ z6110) (h2 : z5068 ≤ z6288) (h3 : z5068 < z6288) (h4 : ((z6288 - 1) % 40 = 0 → -1 ≤ z6333 ∧ z6333 ≤ 9)) (h5 : ((z6288 - 1) % 40 = 4 → 0 ≤ z6333 ∧ z6333 ≤ 20)) (h6 : ((z6288 - 1) % 40 = 5 → 0 ≤ z6333 ∧ z6333 ≤ 8)) (h7 : 1 ≤ z5243 ∧ z5069 + 2 + 4 * z5243 ≤ p1 + p2 ∧ z5243 ≤ z4574 - (z5068 - 966)) (h8 : z6109 ≤ z5243) (h9 : z6109 < z5243) (h10 : (z6340 = 1 → z6197 % 4294967296 < z6333 % 4294967296)) (h11 : (z6340 = 0 → z6333 % 4294967296 ≤ z6197 % 4294967296)) (h12 : z6197 % 4294967296 < z6333 % 4294967296) (h13 : 0 ≤ p1 ∧ p1 ≤ 1000) (h14 : 0 ≤ p2 ∧ p2 ≤ 1000) (h15 : 0 ≤ z4574 ∧ z4574 ≤ 20) (h16 : 966 ≤ z5068 ∧ z5068 ≤ 984) (h17 : 0 ≤ z5069 ∧ z5069 ≤ 1000) (h18 : 1 ≤ z5243 ∧ z5243 ≤ 20) (h19 : 0 ≤ z6109 ∧ z6109 ≤ 19) (h20 : 966 ≤ z6110 ∧ z6110 ≤ 986) (h21 : (-2147483648) ≤ z6197 ∧ z6197 ≤ 2147483647) (h22 : 967 ≤ z6288 ∧ z6288 ≤ 985) (h23 : (-2147483648) ≤ z6333 ∧ z6333 ≤ 2147483647) (h24 : 1 ≤ z6340 ∧ z6340 ≤ 1) : (z6288 + (-1)) ≤ z6110 := by omega
theorem vc_X12_wayRight_W_37 {f_size p1 p2 z4574 z4575 z5068 z5069 z5243 z6109 z6110 z6197 z6288 z6333 z6340 : Int} (h0 : 1 ≤ z5243 ∧ z5069 + 2 + 4 * z5243 ≤ p1 + p2 ∧ z5243 ≤ z4574 - (z5068 - 966)) (h1 : z6110 = z5068 + z6109) (h2 : z6288 ≤ z6110) (h3 : z5068 ≤ z6288) (h4 : z5068 < z6288) (h5 : ((z6288 - 1) % 40 = 0 → -1 ≤ z6333 ∧ z6333 ≤ 9)) (h6 : ((z6288 - 1) % 40 = 4 → 0 ≤ z6333 ∧ z6333 ≤ 20)) (h7 : ((z6288 - 1) % 40 = 5 → 0 ≤ z6333 ∧ z6333 ≤ 8)) (h8 : p1 + p2 ≤ f_size) (h9 : 4 * z4574 ≤ z4575 - p1) (h10 : z4575 ≤ p1 + p2) (h11 : (p1 + p2) ≤ z4575) (h12 : z4574 ≤ 20) (h13 : p1 ≤ z5069) (h14 : z5069 < (p1 + p2)) (h15 : z5069 + 2 ≤ p1 + p2) (h16 : z6109 ≤ z5243) (h17 : z6109 < z5243) (h18 : (z6340 = 1 → z6197 % 4294967296 < z6333 % 4294967296)) (h19 : (z6340 = 0 → z6333 % 4294967296 ≤ z6197 % 4294967296)) (h20 : z6197 % 4294967296 < z6333 % 4294967296) (h21 : 0 ≤ f_size ∧ f_size ≤ 1000) (h22 : 0 ≤ p1 ∧ p1 ≤ 1000) (h23 : 0 ≤ p2 ∧ p2 ≤ 1000) (h24 : 0 ≤ z4574 ∧ z4574 ≤ 20) (h25 : 0 ≤ z4575 ∧ z4575 ≤ 1000) (h26 : 966 ≤ z5068 ∧ z5068 ≤ 984) (h27 : 0 ≤ z5069 ∧ z5069 ≤ 1000) (h28 : 1 ≤ z5243 ∧ z5243 ≤ 20) (h29 : 0 ≤ z6109 ∧ z6109 ≤ 19) (h30 : 966 ≤ z6110 ∧ z6110 ≤ 986) (h31 : (-2147483648) ≤ z6197 ∧ z6197 ≤ 2147483647) (h32 : 967 ≤ z6288 ∧ z6288 ≤ 985) (h33 : (-2147483648) ≤ z6333 ∧ z6333 ≤ 2147483647) (h34 : 1 ≤ z6340 ∧ z6340 ≤ 1) : z5068 ≤ (z6288 + (-1)) := by omega
theorem vc_X12_wayRight_W_38 {N p1 p2 z4574 z5068 z5069 z5243 z6109 z6110 z6197 z6288 z6333 z6340 : Int} (h0 : (z6288 - 965) < N + 1) (h1 : z6288 ≤ z6110) (h2 : z5068 ≤ z6288) (h3 : z5068 < z6288) (h4 : ((z6288 - 1) % 40 = 0 → -1 ≤ z6333 ∧ z6333 ≤ 9)) (h5 : ((z6288 - 1) % 40 = 4 → 0 ≤ z6333 ∧ z6333 ≤ 20)) (h6 : ((z6288 - 1) % 40 = 5 → 0 ≤ z6333 ∧ z6333 ≤ 8)) (h7 : 1 ≤ z5243 ∧ z5069 + 2 + 4 * z5243 ≤ p1 + p2 ∧ z5243 ≤ z4574 - (z5068 - 966)) (h8 : z6110 = z5068 + z6109) (h9 : (z6340 = 1 → z6197 % 4294967296 < z6333 % 4294967296)) (h10 : (z6340 = 0 → z6333 % 4294967296 ≤ z6197 % 4294967296)) (h11 : z6197 % 4294967296 < z6333 % 4294967296) (h12 : 0 ≤ p1 ∧ p1 ≤ 1000) (h13 : 0 ≤ p2 ∧ p2 ≤ 1000) (h14 : 0 ≤ z4574 ∧ z4574 ≤ 20) (h15 : 966 ≤ z5068 ∧ z5068 ≤ 984) (h16 : 0 ≤ z5069 ∧ z5069 ≤ 1000) (h17 : 1 ≤ z5243 ∧ z5243 ≤ 20) (h18 : 0 ≤ z6109 ∧ z6109 ≤ 19) (h19 : 966 ≤ z6110 ∧ z6110 ≤ 986) (h20 : (-2147483648) ≤ z6197 ∧ z6197 ≤ 2147483647) (h21 : 967 ≤ z6288 ∧ z6288 ≤ 985) (h22 : (-2147483648) ≤ z6333 ∧ z6333 ≤ 2147483647) (h23 : 1 ≤ z6340 ∧ z6340 ≤ 1) : ((z6288 + (-1)) - 965) < N := by omega
theorem vc_X12_wayRight_W_39 {p1 p2 z4574 z5068 z5069 z5243 z6109 z6110 z6197 z6288 z6333 z6340 : Int} (h0 : z6288 ≤ z6110) (h1 : z5068 ≤ z6288) (h2 : z5068 < z6288) (h3 : ((z6288 - 1) % 40 = 0 → -1 ≤ z6333 ∧ z6333 ≤ 9)) (h4 : ((z6288 - 1) % 40 = 4 → 0 ≤ z6333 ∧ z6333 ≤ 20)) (h5 : ((z6288 - 1) % 40 = 5 → 0 ≤ z6333 ∧ z6333 ≤ 8)) (h6 : 1 ≤ z5243 ∧ z5069 + 2 + 4 * z5243 ≤ p1 + p2 ∧ z5243 ≤ z4574 - (z5068 - 966)) (h7 : z6110 = z5068 + z6109) (h8 : (z6340 = 1 → z6197 % 4294967296 < z6333 % 4294967296)) (h9 : (z6340 = 0 → z6333 % 4294967296 ≤ z6197 % 4294967296)) (h10 : z6197 % 4294967296 < z6333 % 4294967296) (h11 : 0 ≤ p1 ∧ p1 ≤ 1000) (h12 : 0 ≤ p2 ∧ p2 ≤ 1000) (h13 : 0 ≤ z4574 ∧ z4574 ≤ 20) (h14 : 966 ≤ z5068 ∧ z5068 ≤ 984) (h15 : 0 ≤ z5069 ∧ z5069 ≤ 1000) (h16 : 1 ≤ z5243 ∧ z5243 ≤ 20) (h17 : 0 ≤ z6109 ∧ z6109 ≤ 19) (h18 : 966 ≤ z6110 ∧ z6110 ≤ 986) (h19 : (-2147483648) ≤ z6197 ∧ z6197 ≤ 2147483647) (h20 : 967 ≤ z6288 ∧ z6288 ≤ 985) (h21 : (-2147483648) ≤ z6333 ∧ z6333 ≤ 2147483647) (h22 : 1 ≤ z6340 ∧ z6340 ≤ 1) : 0 ≤ z6288 ∧ 964 ≤ z6288 ∧ z6288 < 986 := by omega
theorem vc_X12_wayRight_W_40 {p1 p2 z4574 z5068 z5069 z5243 z6109 z6110 : Int} (h0 : z6110 = z5068 + z6109) (h1 : 1 ≤ z5243 ∧ z5069 + 2 + 4 * z5243 ≤ p1 + p2 ∧ z5243 ≤ z4574 - (z5068 - 966)) (h2 : z6109 ≤ z5243) (h3 : z6109 < z5243) (h4 : 0 ≤ p1 ∧ p1 ≤ 1000) (h5 : 0 ≤ p2 ∧ p2 ≤ 1000) (h6 : 0 ≤ z4574 ∧ z4574 ≤ 20) (h7 : 966 ≤ z5068 ∧ z5068 ≤ 986) (h8 : 0 ≤ z5069 ∧ z5069 ≤ 1000) (h9 : 1 ≤ z5243 ∧ z5243 ≤ 20) (h10 : 0 ≤ z6109 ∧ z6109 ≤ 19) (h11 : 966 ≤ z6110 ∧ z6110 ≤ 986) : 966 ≤ z6110 ∧ z6110 ≤ 985 := by omega
theorem vc_X12_wayRight_W_41 {p1 p2 z4574 z5068 z5069 z5243 z6109 z6110 : Int} (h0 : z6110 = z5068 + z6109) (h1 : 1 ≤ z5243 ∧ z5069 + 2 + 4 * z5243 ≤ p1 + p2 ∧ z5243 ≤ z4574 - (z5068 - 966)) (h2 : z6109 ≤ z5243) (h3 : z6109 < z5243) (h4 : 0 ≤ p1 ∧ p1 ≤ 1000) (h5 : 0 ≤ p2 ∧ p2 ≤ 1000) (h6 : 0 ≤ z4574 ∧ z4574 ≤ 20) (h7 : 966 ≤ z5068 ∧ z5068 ≤ 986) (h8 : 0 ≤ z5069 ∧ z5069 ≤ 1000) (h9 : 1 ≤ z5243 ∧ z5243 ≤ 20) (h10 : 0 ≤ z6109 ∧ z6109 ≤ 19) (h11 : 966 ≤ z6110 ∧ z6110 ≤ 986) : z6110 ≤ z6110 := by omega
theorem vc_X12_wayRight_W_42 {f_size p1 p2 z4574 z4575 z5068 z5069 z5243 z6109 z6110 : Int} (h0 : 1 ≤ z5243 ∧ z5069 + 2 + 4 * z5243 ≤ p1 + p2 ∧ z5243 ≤ z4574 - (z5068 - 966)) (h1 : z6110 = z5068 + z6109) (h2 : p1 + p2 ≤ f_size) (h3 : 4 * z4574 ≤ z4575 - p1) (h4 : z4575 ≤ p1 + p2) (h5 : (p1 + p2) ≤ z4575) (h6 : z4574 ≤ 20) (h7 : p1 ≤ z5069) (h8 : z5069 < (p1 + p2)) (h9 : z5069 + 2 ≤ p1 + p2) (h10 : z6109 ≤ z5243) (h11 : z6109 < z5243) (h12 : 0 ≤ f_size ∧ f_size ≤ 1000) (h13 : 0 ≤ p1 ∧ p1 ≤ 1000) (h14 : 0 ≤ p2 ∧ p2 ≤ 1000) (h15 : 0 ≤ z4574 ∧ z4574 ≤ 20) (h16 : 0 ≤ z4575 ∧ z4575 ≤ 1000) (h17 : 966 ≤ z5068 ∧ z5068 ≤ 986) (h18 : 0 ≤ z5069 ∧ z5069 ≤ 1000) (h19 : 1 ≤ z5243 ∧ z5243 ≤ 20) (h20 : 0 ≤ z6109 ∧ z6109 ≤ 19) (h21 : 966 ≤ z6110 ∧ z6110 ≤ 986) : z5068 ≤ z6110 := by omega
theorem vc_X12_wayRight_W_43 {p1 p2 z4574 z5068 z5069 z5243 z6109 z6110 : Int} (h0 : z6110 = z5068 + z6109) (h1 : 1 ≤ z5243 ∧ z5069 + 2 + 4 * z5243 ≤ p1 + p2 ∧ z5243 ≤ z4574 - (z5068 - 966)) (h2 : z6109 ≤ z5243) (h3 : z6109 < z5243) (h4 : 0 ≤ p1 ∧ p1 ≤ 1000) (h5 : 0 ≤ p2 ∧ p2 ≤ 1000) (h6 : 0 ≤ z4574 ∧ z4574 ≤ 20) (h7 : 966 ≤ z5068 ∧ z5068 ≤ 986) (h8 : 0 ≤ z5069 ∧ z5069 ≤ 1000) (h9 : 1 ≤ z5243 ∧ z5243 ≤ 20) (h10 : 0 ≤ z6109 ∧ z6109 ≤ 19) (h11 : 966 ≤ z6110 ∧ z6110 ≤ 986) : (z6110 - 965) < ((22 : Nat) : Int) := by omega
theorem vc_X12_wayRight_W_44 {f_size p1 p2 z4574 z4575 z5068 z5069 z5243 : Int} (h0 : 1 ≤ z5243 ∧ z5069 + 2 + 4 * z5243 ≤ p1 + p2 ∧ z5243 ≤ z4574 - (z5068 - 966)) (h1 : p1 + p2 ≤ f_size) (h2 : 4 * z4574 ≤ z4575 - p1) (h3 : z4575 ≤ p1 + p2) (h4 : (p1 + p2) ≤ z4575) (h5 : z4574 ≤ 20) (h6 : p1 ≤ z5069) (h7 : z5069 < (p1 + p2)) (h8 : z5069 + 2 ≤ p1 + p2) (h9 : 0 ≤ f_size ∧ f_size ≤ 1000) (h10 : 0 ≤ p1 ∧ p1 ≤ 1000) (h11 : 0 ≤ p2 ∧ p2 ≤ 1000) (h12 : 0 ≤ z4574 ∧ z4574 ≤ 20) (h13 : 0 ≤ z4575 ∧ z4575 ≤ 1000) (h14 : 966 ≤ z5068 ∧ z5068 ≤ 986) (h15 : 0 ≤ z5069 ∧ z5069 ≤ 1000) (h16 : 1 ≤ z5243 ∧ z5243 ≤ 20) : z5068 = z5068 + (0 : Int) := by omega
theorem vc_X12_wayRight_W_45 {f_size p1 p2 z4574 z4575 z5068 z5069 z5243 : Int} (h0 : 1 ≤ z5243 ∧ z5069 + 2 + 4 * z5243 ≤ p1 + p2 ∧ z5243 ≤ z4574 - (z5068 - 966)) (h1 : p1 + p2 ≤ f_size) (h2 : 4 * z4574 ≤ z4575 - p1) (h3 : z4575 ≤ p1 + p2) (h4 : (p1 + p2) ≤ z4575) (h5 : z4574 ≤ 20) (h6 : p1 ≤ z5069) (h7 : z5069 < (p1 + p2)) (h8 : z5069 + 2 ≤ p1 + p2) (h9 : 0 ≤ f_size ∧ f_size ≤ 1000) (h10 : 0 ≤ p1 ∧ p1 ≤ 1000) (h11 : 0 ≤ p2 ∧ p2 ≤ 1000) (h12 : 0 ≤ z4574 ∧ z4574 ≤ 20) (h13 : 0 ≤ z4575 ∧ z4575 ≤ 1000) (h14 : 966 ≤ z5068 ∧ z5068 ≤ 986) (h15 : 0 ≤ z5069 ∧ z5069 ≤ 1000) (h16 : 1 ≤ z5243 ∧ z5243 ≤ 20) : (0 : Int) ≤ z5243 := by omega
theorem vc_X12_wayRight_W_46 {f_size p1 p2 z4574 z4575 z5068 z5069 z5243 : Int} (h0 : 1 ≤ z5243 ∧ z5069 + 2 + 4 * z5243 ≤ p1 + p2 ∧ z5243 ≤ z4574 - (z5068 - 966)) (h1 : p1 + p2 ≤ f_size) (h2 : 4 * z4574 ≤ z4575 - p1) (h3 : z4575 ≤ p1 + p2) (h4 : (p1 + p2) ≤ z4575) (h5 : z4574 ≤ 20) (h6 : p1 ≤ z5069) (h7 : z5069 < (p1 + p2)) (h8 : z5069 + 2 ≤ p1 + p2) (h9 : 0 ≤ f_size ∧ f_size ≤ 1000) (h10 : 0 ≤ p1 ∧ p1 ≤ 1000) (h11 : 0 ≤ p2 ∧ p2 ≤ 1000) (h12 : 0 ≤ z4574 ∧ z4574 ≤ 20) (h13 : 0 ≤ z4575 ∧ z4575 ≤ 1000) (h14 : 966 ≤ z5068 ∧ z5068 ≤ 986) (h15 : 0 ≤ z5069 ∧ z5069 ≤ 1000) (h16 : 1 ≤ z5243 ∧ z5243 ≤ 20) : (987 - z5068) < ((22 : Nat) : Int) := by omega
theorem vc_X12_wayRight_W_47 {f_size p1 p2 z4574 z4575 : Int} (h0 : p1 + p2 ≤ f_size) (h1 : 4 * z4574 ≤ z4575 - p1) (h2 : z4575 ≤ p1 + p2) (h3 : (p1 + p2) ≤ z4575) (h4 : z4574 ≤ 20) (h5 : 0 ≤ f_size ∧ f_size ≤ 1000) (h6 : 0 ≤ p1 ∧ p1 ≤ 1000) (h7 : 0 ≤ p2 ∧ p2 ≤ 1000) (h8 : 0 ≤ z4574 ∧ z4574 ≤ 20) (h9 : 0 ≤ z4575 ∧ z4575 ≤ 1000) : p1 ≤ p1 := by omega
theorem vc_X12_wayRight_W_48 {f_size p1 p2 z4574 z4575 : Int} (h0 : p1 + p2 ≤ f_size) (h1 : 4 * z4574 ≤ z4575 - p1) (h2 : z4575 ≤ p1 + p2) (h3 : (p1 + p2) ≤ z4575) (h4 : z4574 ≤ 20) (h5 : 0 ≤ f_size ∧ f_size ≤ 1000) (h6 : 0 ≤ p1 ∧ p1 ≤ 1000) (h7 : 0 ≤ p2 ∧ p2 ≤ 1000) (h8 : 0 ≤ z4574 ∧ z4574 ≤ 20) (h9 : 0 ≤ z4575 ∧ z4575 ≤ 1000) : (1001 - p1) < ((1002 : Nat) : Int) := by omega
theorem vc_X12_wayRight_W_49 {f_size p1 p2 z4574 z4575 : Int} (h0 : p1 + p2 ≤ f_size) (h1 : 4 * z4574 ≤ z4575 - p1) (h2 : z4575 ≤ p1 + p2) (h3 : (p1 + p2) ≤ z4575) (h4 : z4574 ≤ 20) (h5 : 0 ≤ f_size ∧ f_size ≤ 1000) (h6 : 0 ≤ p1 ∧ p1 ≤ 1000) (h7 : 0 ≤ p2 ∧ p2 ≤ 1000) (h8 : 0 ≤ z4574 ∧ z4574 ≤ 20) (h9 : 0 ≤ z4575 ∧ z4575 ≤ 1000) : p1 + p2 ≤ z4575 := by omega
theorem vc_X12_wayRight_W_50 {f_size p1 p2 z4574 z4575 : Int} (h0 : p1 + p2 ≤ f_size) (h1 : 4 * z4574 ≤ z4575 - p1) (h2 : z4575 ≤ p1 + p2) (h3 : (p1 + p2) ≤ z4575) (h4 : z4574 ≤ 20) (h5 : 0 ≤ f_size ∧ f_size ≤ 1000) (h6 : 0 ≤ p1 ∧ p1 ≤ 1000) (h7 : 0 ≤ p2 ∧ p2 ≤ 1000) (h8 : 0 ≤ z4574 ∧ z4574 ≤ 20) (h9 : 0 ≤ z4575 ∧ z4575 ≤ 1000) : z4574 - ((966 : Int) - 966) = z4574 := by omega
theorem vc_X12_wayRight_W_51 {p1 z4574 z4575 : Int} (h0 : 20 < z4574) (h1 : 4 * z4574 ≤ z4575 - p1) (h2 : 0 ≤ p1 ∧ p1 ≤ 1000) (h3 : 0 ≤ z4574 ∧ z4574 ≤ 250) (h4 : 0 ≤ z4575 ∧ z4575 ≤ 1000) : 21 ≤ z4574 ∧ z4574 ≤ 250 := by omega
theorem vc_X12_wayRight_W_52 {f_size p1 p2 z4574 z4575 : Int} (h0 : p1 + p2 ≤ f_size) (h1 : 4 * z4574 ≤ z4575 - p1) (h2 : z4575 ≤ p1 + p2) (h3 : z4575 < (p1 + p2)) (h4 : (z4575 + 2) ≤ (p1 + p2)) (h5 : 0 ≤ f_size ∧ f_size ≤ 1000) (h6 : 0 ≤ p1 ∧ p1 ≤ 1000) (h7 : 0 ≤ p2 ∧ p2 ≤ 1000) (h8 : 0 ≤ z4574 ∧ z4574 ≤ 250) (h9 : 0 ≤ z4575 ∧ z4575 ≤ 1000) : z4575 < f_size := by omega
theorem vc_X12_wayRight_W_53 {z6355 z6360 : Int} (h0 : z6360 = 0) (h1 : (z6360 = 1 → (1 : Int) ≤ z6355 ∧ z6355 ≤ (2 : Int))) (h2 : (z6360 = 0 → z6355 < (1 : Int) ∨ (2 : Int) < z6355)) (h3 : 0 ≤ z6355 ∧ z6355 ≤ 255) (h4 : 0 ≤ z6360 ∧ z6360 ≤ 1) : 0 ≤ z6360 ∧ z6360 ≤ 0 := by omega
theorem vc_X12_wayRight_W_54 {z6355 z6360 : Int} (h0 : (z6360 = 1 → (1 : Int) ≤ z6355 ∧ z6355 ≤ (2 : Int))) (h1 : (z6360 = 0 → z6355 < (1 : Int) ∨ (2 : Int) < z6355)) (h2 : z6360 = 0) (h3 : 0 ≤ z6355 ∧ z6355 ≤ 255) (h4 : 0 ≤ z6360 ∧ z6360 ≤ 0) : z6360 = 0 := by omega
theorem vc_X12_wayRight_W_55 {z6355 z6360 : Int} (h0 : ¬ z6360 = 0) (h1 : (z6360 = 1 → (1 : Int) ≤ z6355 ∧ z6355 ≤ (2 : Int))) (h2 : (z6360 = 0 → z6355 < (1 : Int) ∨ (2 : Int) < z6355)) (h3 : 0 ≤ z6355 ∧ z6355 ≤ 255) (h4 : 0 ≤ z6360 ∧ z6360 ≤ 1) : 1 ≤ z6360 ∧ z6360 ≤ 1 := by omega
theorem vc_X12_wayRight_W_56 {z6355 z6360 : Int} (h0 : (z6360 = 1 → (1 : Int) ≤ z6355 ∧ z6355 ≤ (2 : Int))) (h1 : (z6360 = 0 → z6355 < (1 : Int) ∨ (2 : Int) < z6355)) (h2 : ¬ z6360 = 0) (h3 : 0 ≤ z6355 ∧ z6355 ≤ 255) (h4 : 1 ≤ z6360 ∧ z6360 ≤ 1) : z6360 = 1 := by omega
theorem vc_X12_wayRight_W_57 {z6355 z6360 : Int} (h0 : (1 : Int) ≤ z6355 ∧ z6355 ≤ (2 : Int)) (h1 : (z6360 = 1 → (1 : Int) ≤ z6355 ∧ z6355 ≤ (2 : Int))) (h2 : (z6360 = 0 → z6355 < (1 : Int) ∨ (2 : Int) < z6355)) (h3 : 0 ≤ z6355 ∧ z6355 ≤ 255) (h4 : 1 ≤ z6360 ∧ z6360 ≤ 1) : 1 ≤ z6355 ∧ z6355 ≤ 2 := by omega
theorem vc_X12_wayRight_W_58 {f_size p1 p2 z4574 z4575 : Int} (h0 : p1 + p2 ≤ f_size) (h1 : 4 * z4574 ≤ z4575 - p1) (h2 : z4575 ≤ p1 + p2) (h3 : z4575 < (p1 + p2)) (h4 : (z4575 + 2) ≤ (p1 + p2)) (h5 : 0 ≤ f_size ∧ f_size ≤ 1000) (h6 : 0 ≤ p1 ∧ p1 ≤ 1000) (h7 : 0 ≤ p2 ∧ p2 ≤ 1000) (h8 : 0 ≤ z4574 ∧ z4574 ≤ 250) (h9 : 0 ≤ z4575 ∧ z4575 ≤ 1000) : (z4575 + 1) < f_size := by omega
theorem vc_X12_wayRight_W_59 {z6371 : Int} (h0 : z6371 = 0) (h1 : 0 ≤ z6371 ∧ z6371 ≤ 255) : 0 ≤ z6371 ∧ z6371 ≤ 0 := by omega
theorem vc_X12_wayRight_W_60 {z6371 : Int} (h0 : ¬ z6371 = 0) (h1 : 0 ≤ z6371 ∧ z6371 ≤ 255) : 1 ≤ z6371 ∧ z6371 ≤ 255 := by omega
theorem vc_X12_wayRight_W_61 {z6371 z6379 : Int} (h0 : z6379 = z6371) (h1 : ¬ z6371 = 0) (h2 : 1 ≤ z6371 ∧ z6371 ≤ 255) (h3 : 0 ≤ z6379 ∧ z6379 ≤ 255) : 1 ≤ z6379 ∧ z6379 ≤ 255 := by omega
theorem vc_X12_wayRight_W_62 {f_size p1 p2 z4574 z4575 z6371 z6379 : Int} (h0 : p1 + p2 ≤ f_size) (h1 : 4 * z4574 ≤ z4575 - p1) (h2 : z4575 ≤ p1 + p2) (h3 : z4575 < (p1 + p2)) (h4 : (z4575 + 2) ≤ (p1 + p2)) (h5 : ((z4575 + 2) + (4 * z6379)) ≤ (p1 + p2)) (h6 : z6379 = z6371) (h7 : 0 ≤ f_size ∧ f_size ≤ 1000) (h8 : 0 ≤ p1 ∧ p1 ≤ 1000) (h9 : 0 ≤ p2 ∧ p2 ≤ 1000) (h10 : 0 ≤ z4574 ∧ z4574 ≤ 250) (h11 : 0 ≤ z4575 ∧ z4575 ≤ 1000) (h12 : 1 ≤ z6371 ∧ z6371 ≤ 255) (h13 : 1 ≤ z6379 ∧ z6379 ≤ 255) : (z4575 + 1) < f_size := by omega
theorem vc_X12_wayRight_W_63 {z6371 z6379 z6386 : Int} (h0 : z6386 = z6371) (h1 : ¬ z6371 = 0) (h2 : z6379 = z6371) (h3 : 1 ≤ z6371 ∧ z6371 ≤ 255) (h4 : 1 ≤ z6379 ∧ z6379 ≤ 255) (h5 : 0 ≤ z6386 ∧ z6386 ≤ 255) : 1 ≤ z6386 ∧ z6386 ≤ 255 := by omega
theorem vc_X12_wayRight_W_64 {z6371 z6379 z6386 z6392 : Int} (h0 : z6392 = z6371) (h1 : ¬ z6371 = 0) (h2 : z6379 = z6371) (h3 : z6386 = z6371) (h4 : 1 ≤ z6371 ∧ z6371 ≤ 255) (h5 : 1 ≤ z6379 ∧ z6379 ≤ 255) (h6 : 1 ≤ z6386 ∧ z6386 ≤ 255) (h7 : 0 ≤ z6392 ∧ z6392 ≤ 255) : 1 ≤ z6392 ∧ z6392 ≤ 255 := by omega
theorem vc_X12_wayRight_W_65 {f_size p1 p2 z4574 z4575 z6371 z6379 z6386 z6392 : Int} (h0 : 4 * z4574 ≤ z4575 - p1) (h1 : z4575 ≤ p1 + p2) (h2 : z4575 < (p1 + p2)) (h3 : (z4575 + 2) ≤ (p1 + p2)) (h4 : ((z4575 + 2) + (4 * z6379)) ≤ (p1 + p2)) (h5 : z6392 = z6371) (h6 : p1 + p2 ≤ f_size) (h7 : ¬ z6371 = 0) (h8 : z6379 = z6371) (h9 : z6386 = z6371) (h10 : 0 ≤ f_size ∧ f_size ≤ 1000) (h11 : 0 ≤ p1 ∧ p1 ≤ 1000) (h12 : 0 ≤ p2 ∧ p2 ≤ 1000) (h13 : 0 ≤ z4574 ∧ z4574 ≤ 250) (h14 : 0 ≤ z4575 ∧ z4575 ≤ 1000) (h15 : 1 ≤ z6371 ∧ z6371 ≤ 255) (h16 : 1 ≤ z6379 ∧ z6379 ≤ 255) (h17 : 1 ≤ z6386 ∧ z6386 ≤ 255) (h18 : 1 ≤ z6392 ∧ z6392 ≤ 255) : 0 ≤ (z4575 + (2 + (4 * z6392))) ∧ (z4575 + (2 + (4 * z6392))) ≤ 1000 := by omega
theorem vc_X12_wayRight_W_66 {f_size p1 p2 z4574 z4575 z6371 z6379 z6386 z6392 : Int} (h0 : 4 * z4574 ≤ z4575 - p1) (h1 : z6386 = z6371) (h2 : p1 + p2 ≤ f_size) (h3 : z4575 ≤ p1 + p2) (h4 : z4575 < (p1 + p2)) (h5 : (z4575 + 2) ≤ (p1 + p2)) (h6 : ¬ z6371 = 0) (h7 : z6379 = z6371) (h8 : ((z4575 + 2) + (4 * z6379)) ≤ (p1 + p2)) (h9 : z6392 = z6371) (h10 : 0 ≤ f_size ∧ f_size ≤ 1000) (h11 : 0 ≤ p1 ∧ p1 ≤ 1000) (h12 : 0 ≤ p2 ∧ p2 ≤ 1000) (h13 : 0 ≤ z4574 ∧ z4574 ≤ 250) (h14 : 0 ≤ z4575 ∧ z4575 ≤ 1000) (h15 : 1 ≤ z6371 ∧ z6371 ≤ 255) (h16 : 1 ≤ z6379 ∧ z6379 ≤ 255) (h17 : 1 ≤ z6386 ∧ z6386 ≤ 255) (h18 : 1 ≤ z6392 ∧ z6392 ≤ 255) : 0 ≤ (z4574 + z6386) ∧ (z4574 + z6386) ≤ 250 := by omega
theorem vc_X12_wayRight_W_67 {f_size p1 p2 z4574 z4575 z6371 z6379 z6386 z6392 : Int} (h0 : p1 + p2 ≤ f_size) (h1 : 4 * z4574 ≤ z4575 - p1) (h2 : z4575 ≤ p1 + p2) (h3 : z4575 < (p1 + p2)) (h4 : (z4575 + 2) ≤ (p1 + p2)) (h5 : ((z4575 + 2) + (4 * z6379)) ≤ (p1 + p2)) (h6 : z6386 = z6371) (h7 : z6392 = z6371) (h8 : ¬ z6371 = 0) (h9 : z6379 = z6371) (h10 : 0 ≤ f_size ∧ f_size ≤ 1000) (h11 : 0 ≤ p1 ∧ p1 ≤ 1000) (h12 : 0 ≤ p2 ∧ p2 ≤ 1000) (h13 : 0 ≤ z4574 ∧ z4574 ≤ 250) (h14 : 0 ≤ z4575 ∧ z4575 ≤ 1000) (h15 : 1 ≤ z6371 ∧ z6371 ≤ 255) (h16 : 1 ≤ z6379 ∧ z6379 ≤ 255) (h17 : 1 ≤ z6386 ∧ z6386 ≤ 255) (h18 : 1 ≤ z6392 ∧ z6392 ≤ 255) : 4 * (z4574 + z6386) ≤ (z4575 + (2 + (4 * z6392))) - p1 := by omega
theorem vc_X12_wayRight_W_68 {f_size p1 p2 z4574 z4575 z6371 z6379 z6386 z6392 : Int} (h0 : p1 + p2 ≤ f_size) (h1 : 4 * z4574 ≤ z4575 - p1) (h2 : z4575 ≤ p1 + p2) (h3 : z4575 < (p1 + p2)) (h4 : (z4575 + 2) ≤ (p1 + p2)) (h5 : ((z4575 + 2) + (4 * z6379)) ≤ (p1 + p2)) (h6 : z6392 = z6371) (h7 : ¬ z6371 = 0) (h8 : z6379 = z6371) (h9 : z6386 = z6371) (h10 : 0 ≤ f_size ∧ f_size ≤ 1000) (h11 : 0 ≤ p1 ∧ p1 ≤ 1000) (h12 : 0 ≤ p2 ∧ p2 ≤ 1000) (h13 : 0 ≤ z4574 ∧ z4574 ≤ 250) (h14 : 0 ≤ z4575 ∧ z4575 ≤ 1000) (h15 : 1 ≤ z6371 ∧ z6371 ≤ 255) (h16 : 1 ≤ z6379 ∧ z6379 ≤ 255) (h17 : 1 ≤ z6386 ∧ z6386 ≤ 255) (h18 : 1 ≤ z6392 ∧ z6392 ≤ 255) : (z4575 + (2 + (4 * z6392))) ≤ p1 + p2 := by omega
theorem vc_X12_wayRight_W_69 {N f_size p1 p2 z4574 z4575 z6371 z6379 z6386 z6392 : Int} (h0 : (1001 - z4575) < N + 1) (h1 : 4 * z4574 ≤ z4575 - p1) (h2 : z4575 ≤ p1 + p2) (h3 : z4575 < (p1 + p2)) (h4 : (z4575 + 2) ≤ (p1 + p2)) (h5 : ((z4575 + 2) + (4 * z6379)) ≤ (p1 + p2)) (h6 : z6392 = z6371) (h7 : p1 + p2 ≤ f_size) (h8 : ¬ z6371 = 0) (h9 : z6379 = z6371) (h10 : z6386 = z6371) (h11 : 0 ≤ f_size ∧ f_size ≤ 1000) (h12 : 0 ≤ p1 ∧ p1 ≤ 1000) (h13 : 0 ≤ p2 ∧ p2 ≤ 1000) (h14 : 0 ≤ z4574 ∧ z4574 ≤ 250) (h15 : 0 ≤ z4575 ∧ z4575 ≤ 1000) (h16 : 1 ≤ z6371 ∧ z6371 ≤ 255) (h17 : 1 ≤ z6379 ∧ z6379 ≤ 255) (h18 : 1 ≤ z6386 ∧ z6386 ≤ 255) (h19 : 1 ≤ z6392 ∧ z6392 ≤ 255) : (1001 - (z4575 + (2 + (4 * z6392)))) < N := by omega
theorem vc_X12_wayRight_W_70 {f_size p1 p2 z4574 z4575 z6371 z6379 : Int} (h0 : p1 + p2 ≤ f_size) (h1 : 4 * z4574 ≤ z4575 - p1) (h2 : z4575 ≤ p1 + p2) (h3 : z4575 < (p1 + p2)) (h4 : (z4575 + 2) ≤ (p1 + p2)) (h5 : ((z4575 + 2) + (4 * z6379)) ≤ (p1 + p2)) (h6 : z6379 = z6371) (h7 : 0 ≤ f_size ∧ f_size ≤ 1000) (h8 : 0 ≤ p1 ∧ p1 ≤ 1000) (h9 : 0 ≤ p2 ∧ p2 ≤ 1000) (h10 : 0 ≤ z4574 ∧ z4574 ≤ 250) (h11 : 0 ≤ z4575 ∧ z4575 ≤ 1000) (h12 : 1 ≤ z6371 ∧ z6371 ≤ 255) (h13 : 1 ≤ z6379 ∧ z6379 ≤ 255) : z4575 < p1 + p2 := by omega
theorem vc_X12_wayRight_W_71 {f_size p1 p2 z4574 z4575 z6371 z6379 : Int} (h0 : p1 + p2 ≤ f_size) (h1 : 4 * z4574 ≤ z4575 - p1) (h2 : z4575 ≤ p1 + p2) (h3 : z4575 < (p1 + p2)) (h4 : (z4575 + 2) ≤ (p1 + p2)) (h5 : ((z4575 + 2) + (4 * z6379)) ≤ (p1 + p2)) (h6 : z6379 = z6371) (h7 : 0 ≤ f_size ∧ f_size ≤ 1000) (h8 : 0 ≤ p1 ∧ p1 ≤ 1000) (h9 : 0 ≤ p2 ∧ p2 ≤ 1000) (h10 : 0 ≤ z4574 ∧ z4574 ≤ 250) (h11 : 0 ≤ z4575 ∧ z4575 ≤ 1000) (h12 : 1 ≤ z6371 ∧ z6371 ≤ 255) (h13 : 1 ≤ z6379 ∧ z6379 ≤ 255) : z4575 + 2 ≤ p1 + p2 := by omega
theorem vc_X12_wayRight_W_72 {f_size p1 p2 z4574 z4575 z6371 z6379 z6386 z6392 : Int} (h0 : p1 + p2 ≤ f_size) (h1 : 4 * z4574 ≤ z4575 - p1) (h2 : z4575 ≤ p1 + p2) (h3 : z4575 < (p1 + p2)) (h4 : (z4575 + 2) ≤ (p1 + p2)) (h5 : ¬ z6371 = 0) (h6 : z6379 = z6371) (h7 : ((z4575 + 2) + (4 * z6379)) ≤ (p1 + p2)) (h8 : z6386 = z6371) (h9 : z6392 = z6371) (h10 : 0 ≤ f_size ∧ f_size ≤ 1000) (h11 : 0 ≤ p1 ∧ p1 ≤ 1000) (h12 : 0 ≤ p2 ∧ p2 ≤ 1000) (h13 : 0 ≤ z4574 ∧ z4574 ≤ 250) (h14 : 0 ≤ z4575 ∧ z4575 ≤ 1000) (h15 : 1 ≤ z6371 ∧ z6371 ≤ 255) (h16 : 1 ≤ z6379 ∧ z6379 ≤ 255) (h17 : 1 ≤ z6386 ∧ z6386 ≤ 255) (h18 : 1 ≤ z6392 ∧ z6392 ≤ 255) : 1 ≤ z6371 := by omega
theorem vc_X12_wayRight_W_73 {f_size p1 p2 z4574 z4575 z6371 z6379 z6386 z6392 : Int} (h0 : p1 + p2 ≤ f_size) (h1 : 4 * z4574 ≤ z4575 - p1) (h2 : z4575 ≤ p1 + p2) (h3 : z4575 < (p1 + p2)) (h4 : (z4575 + 2) ≤ (p1 + p2)) (h5 : ¬ z6371 = 0) (h6 : z6379 = z6371) (h7 : ((z4575 + 2) + (4 * z6379)) ≤ (p1 + p2)) (h8 : z6386 = z6371) (h9 : z6392 = z6371) (h10 : 0 ≤ f_size ∧ f_size ≤ 1000) (h11 : 0 ≤ p1 ∧ p1 ≤ 1000) (h12 : 0 ≤ p2 ∧ p2 ≤ 1000) (h13 : 0 ≤ z4574 ∧ z4574 ≤ 250) (h14 : 0 ≤ z4575 ∧ z4575 ≤ 1000) (h15 : 1 ≤ z6371 ∧ z6371 ≤ 255) (h16 : 1 ≤ z6379 ∧ z6379 ≤ 255) (h17 : 1 ≤ z6386 ∧ z6386 ≤ 255) (h18 : 1 ≤ z6392 ∧ z6392 ≤ 255) : z4575 + 2 + 4 * z6371 ≤ p1 + p2 := by omega
theorem vc_X12_wayRight_W_74 {f_size p1 p2 z4574 z4575 z6371 z6379 z6386 z6392 : Int} (h0 : p1 + p2 ≤ f_size) (h1 : 4 * z4574 ≤ z4575 - p1) (h2 : z4575 ≤ p1 + p2) (h3 : z4575 < (p1 + p2)) (h4 : (z4575 + 2) ≤ (p1 + p2)) (h5 : ¬ z6371 = 0) (h6 : z6379 = z6371) (h7 : ((z4575 + 2) + (4 * z6379)) ≤ (p1 + p2)) (h8 : z6386 = z6371) (h9 : z6392 = z6371) (h10 : 0 ≤ f_size ∧ f_size ≤ 1000) (h11 : 0 ≤ p1 ∧ p1 ≤ 1000) (h12 : 0 ≤ p2 ∧ p2 ≤ 1000) (h13 : 0 ≤ z4574 ∧ z4574 ≤ 250) (h14 : 0 ≤ z4575 ∧ z4575 ≤ 1000) (h15 : 1 ≤ z6371 ∧ z6371 ≤ 255) (h16 : 1 ≤ z6379 ∧ z6379 ≤ 255) (h17 : 1 ≤ z6386 ∧ z6386 ≤ 255) (h18 : 1 ≤ z6392 ∧ z6392 ≤ 255) : (z4575 + (2 + (4 * z6392))) = z4575 + 2 + 4 * z6371 := by omega
theorem vc_X12_wayRight_W_75 {f_size p1 p2 z4574 z4575 z6371 z6379 z6386 z6392 : Int} (h0 : p1 + p2 ≤ f_size) (h1 : 4 * z4574 ≤ z4575 - p1) (h2 : z4575 ≤ p1 + p2) (h3 : z4575 < (p1 + p2)) (h4 : (z4575 + 2) ≤ (p1 + p2)) (h5 : ¬ z6371 = 0) (h6 : z6379 = z6371) (h7 : ((z4575 + 2) + (4 * z6379)) ≤ (p1 + p2)) (h8 : z6386 = z6371) (h9 : z6392 = z6371) (h10 : 0 ≤ f_size ∧ f_size ≤ 1000) (h11 : 0 ≤ p1 ∧ p1 ≤ 1000) (h12 : 0 ≤ p2 ∧ p2 ≤ 1000) (h13 : 0 ≤ z4574 ∧ z4574 ≤ 250) (h14 : 0 ≤ z4575 ∧ z4575 ≤ 1000) (h15 : 1 ≤ z6371 ∧ z6371 ≤ 255) (h16 : 1 ≤ z6379 ∧ z6379 ≤ 255) (h17 : 1 ≤ z6386 ∧ z6386 ≤ 255) (h18 : 1 ≤ z6392 ∧ z6392 ≤ 255) : (z4574 + z6386) = z4574 + z6371 := by omega
theorem vc_X12_wayRight_W_76 {f_size p1 p2 : Int} (h0 : p1 + p2 ≤ f_size) (h1 : 0 ≤ f_size ∧ f_size ≤ 1000) (h2 : 0 ≤ p1 ∧ p1 ≤ 1000) (h3 : 0 ≤ p2 ∧ p2 ≤ 1000) : 4 * (0 : Int) ≤ p1 - p1 := by omega
theorem vc_X12_wayRight_W_77 {f_size p1 p2 : Int} (h0 : p1 + p2 ≤ f_size) (h1 : 0 ≤ f_size ∧ f_size ≤ 1000) (h2 : 0 ≤ p1 ∧ p1 ≤ 1000) (h3 : 0 ≤ p2 ∧ p2 ≤ 1000) : p1 ≤ p1 + p2 := by omega
theorem vc_X12_wayRight_W_78 {f_size p1 p2 : Int} (h0 : p1 + p2 ≤ f_size) (h1 : 0 ≤ f_size ∧ f_size ≤ 1000) (h2 : 0 ≤ p1 ∧ p1 ≤ 1000) (h3 : 0 ≤ p2 ∧ p2 ≤ 1000) : (1001 - p1) < ((1002 : Nat) : Int) := by omega
set_option maxRecDepth 4000 in
set_option maxHeartbeats 4000000 in
theorem c_X12_wayRight_W {l : Launch} {D : va_G} {c : Nat → ClassId} {H0 : Heap} {sa : Nat × Nat × (Nat → Int32)} {w : mW} {μ : mM} (hw : mWF w) (hT : mT w μ) {p1 : Int} (hp1 : 0 ≤ p1 ∧ p1 ≤ 1000) {p2 : Int} (hp2 : 0 ≤ p2 ∧ p2 ≤ 1000) {f_size : Int} (q_f_size : μ 106 1 = f_size) (hq0 : p1 + p2 ≤ f_size) {Q : Int → mM → Prop} (hQ : WP_X12_wayRight_W w μ p1 p2 Q) : sC (gG l D c H0 sa) mX12_wayRight 3 0 0 [.ref 106, iv p1, iv p2] (mk w μ) (qI w [106099, 126999] μ (fun z μ1 => (0 ≤ z ∧ z ≤ 1) ∧ mG [(964, 986)] μ μ1 ∧ Q z μ1 ∧ True)) := by
  refine sC.of rfl (by decide) (le_t rfl) ?_
  have ht_f_size : (0 ≤ f_size ∧ f_size ≤ 1000) := by rw [← q_f_size]; exact hT 106 106 (A_106 hw) 1
  refine mr_lvE (lv' := [(0, .ref 106), (1, iv p1), (2, iv p2)]) rfl ?_
  refine mr_iload_n (pc := 0) (z := p1) dX12_wayRight_0 rfl rfl ?_
  refine mr_istore_n (pc := 1) (lv' := [(3, iv p1), (0, .ref 106), (1, iv p1), (2, iv p2)]) dX12_wayRight_1 rfl (by decide) rfl ?_
  refine mr_iconst (pc := 2) (z := 0) dX12_wayRight_2 ?_
  refine mr_istore (pc := 3) (lv' := [(4, iv 0), (3, iv p1), (0, .ref 106), (1, iv p1), (2, iv p2)]) dX12_wayRight_3 (by decide) rfl ?_
  have L4576 : ∀ (nL4576 : Nat) (z4575 z4574 : Int), True → (0 ≤ z4575 ∧ z4575 ≤ 1000) → (0 ≤ z4574 ∧ z4574 ≤ 250) → (4 * z4574 ≤ z4575 - p1) → (z4575 ≤ p1 + p2) → (∀ s, Chn μ (p1 + p2) z4575 s → Chn μ (p1 + p2) p1 (z4574 + s)) → (1001 - z4575) < (nL4576 : Int) → loopF (WL_X12_wayRight_W_1 w μ p1 p2 Q) False nL4576 (z4575, z4574) → sV (gG l D c H0 sa) mX12_wayRight (sRm 3 0 0) (sZ (gG l D c H0 sa) 0 0 (qI w [106099, 126999] μ (fun z μ1 => (0 ≤ z ∧ z ≤ 1) ∧ mG [(964, 986)] μ μ1 ∧ Q z μ1 ∧ True))) 5 [(0, .ref 106), (1, iv p1), (2, iv p2), (3, iv z4575), (4, iv z4574)] [] (mk w μ) 0 0 := by
    intro nL4576
    induction nL4576 with
    | zero => intro z4575 z4574 _ h4577 h4578 h4582 h4583 R4584 h4585 W4586; exact ((vc_X12_wayRight_W_1 h4585 h4582 h4583 hq0 ht_f_size hp1 hp2 h4578 h4577)).elim
    | succ nL4576 ih4587 =>
      intro z4575 z4574 _ h4577 h4578 h4582 h4583 R4584 h4585 W4586
      refine mr_iload_n (pc := 5) (z := z4575) dX12_wayRight_5 rfl rfl ?_
      refine mr_iload_n (pc := 6) (z := p1) dX12_wayRight_6 rfl rfl ?_
      refine mr_iload_n (pc := 7) (z := p2) dX12_wayRight_7 rfl rfl ?_
      refine mr_iadd (pc := 8) (x := p1) (y := p2) dX12_wayRight_8 ?_
      refine mr_icmp_ge (pc := 9) (tgt := 94) dX12_wayRight_9 (by decide) (r32 h4577 rfl) (r32 (rAdd (e := 0) (f := 2000) hp1 hp2 rfl) rfl) (fun h4588 => ?_) (fun h4588 => ?_)
      · refine mr_iload (pc := 94) (z := z4574) dX12_wayRight_94 rfl ?_
        refine mr_bipush (pc := 96) (z := 20) dX12_wayRight_96 (by decide) ?_
        refine mr_icmp_le (pc := 98) (tgt := 103) dX12_wayRight_98 (by decide) (r32 h4578 rfl) (r32 (rR (x := 20)) rfl) (fun h4589 => ?_) (fun h4589 => ?_)
        · have h4590 : 0 ≤ z4574 ∧ z4574 ≤ 20 := (vc_X12_wayRight_W_2 h4589 h4582 hp1 h4578 h4577)
          refine mr_iload_n (pc := 103) (z := p1) dX12_wayRight_103 rfl rfl ?_
          refine mr_istore_n (pc := 104) (lv' := [(3, iv p1), (0, .ref 106), (1, iv p1), (2, iv p2), (4, iv z4574)]) dX12_wayRight_104 rfl (by decide) rfl ?_
          refine mr_sipush (pc := 105) (z := 966) dX12_wayRight_105 (by decide) ?_
          refine mr_istore (pc := 108) (lv' := [(5, iv 966), (3, iv p1), (0, .ref 106), (1, iv p1), (2, iv p2), (4, iv z4574)]) dX12_wayRight_108 (by decide) rfl ?_
          have L5071 : ∀ (nL5071 : Nat) (z5069 z5068 : Int) (μ5070 : mM), mT w μ5070 → mF [126999] w μ μ5070 → mG [(964, 986)] μ μ5070 → (0 ≤ z5069 ∧ z5069 ≤ 1000) → (966 ≤ z5068 ∧ z5068 ≤ 986) → (p1 ≤ z5069) → Chn μ5070 (p1 + p2) z5069 (z4574 - (z5068 - 966)) → (1001 - z5069) < (nL5071 : Int) → loopF (WL_X12_wayRight_W_2 w μ p1 p2 Q z4574) False nL5071 (z5069, z5068, μ5070) → sV (gG l D c H0 sa) mX12_wayRight (sRm 3 0 0) (sZ (gG l D c H0 sa) 0 0 (qI w [106099, 126999] μ (fun z μ1 => (0 ≤ z ∧ z ≤ 1) ∧ mG [(964, 986)] μ μ1 ∧ Q z μ1 ∧ True))) 110 [(0, .ref 106), (1, iv p1), (2, iv p2), (3, iv z5069), (4, iv z4574), (5, iv z5068)] [] (mk w μ5070) 0 0 := by
            intro nL5071
            induction nL5071 with
            | zero => intro z5069 z5068 μ5070 T5074 F5075 G5076 h5072 h5073 h5077 R5078 h5079 W5080; exact ((vc_X12_wayRight_W_3 h5079 h5077 hq0 h4582 h4583 h4588 ht_f_size hp1 hp2 h4590 h4577 h5072)).elim
            | succ nL5071 ih5081 =>
              intro z5069 z5068 μ5070 T5074 F5075 G5076 h5072 h5073 h5077 R5078 h5079 W5080
              refine mr_iload_n (pc := 110) (z := z5069) dX12_wayRight_110 rfl rfl ?_
              refine mr_iload_n (pc := 111) (z := p1) dX12_wayRight_111 rfl rfl ?_
              refine mr_iload_n (pc := 112) (z := p2) dX12_wayRight_112 rfl rfl ?_
              refine mr_iadd (pc := 113) (x := p1) (y := p2) dX12_wayRight_113 ?_
              refine mr_icmp_ge (pc := 114) (tgt := 244) dX12_wayRight_114 (by decide) (r32 h5072 rfl) (r32 (rAdd (e := 0) (f := 2000) hp1 hp2 rfl) rfl) (fun h5231 => ?_) (fun h5231 => ?_)
              · refine sv_aload_n (pc := 244) dX12_wayRight_244 rfl rfl ?_
                refine gf_X12_32 (pc := 245) dX12_wayRight_245 wF_X12_148 (A_106 hw) T5074 ?_
                refine mr_sipush (pc := 248) (z := 964) dX12_wayRight_248 (by decide) ?_
                refine mr_iload (pc := 251) (z := z4574) dX12_wayRight_251 rfl ?_
                refine ss_126 (pc := 253) dX12_wayRight_253 (A_126 hw) T5074 (rIx (n := 84000) (rR (x := 964)) rfl) (vc_X12_wayRight_W_4 h4582 h4589 hq0 h4583 h4588 h5077 h5231 ht_f_size hp1 hp2 h4590 h4577 h5072) fun μ5232 u5233 T5234 => ?_
                refine sv_aload_n (pc := 254) dX12_wayRight_254 rfl rfl ?_
                refine mr_iconst (pc := 255) (z := 1) dX12_wayRight_255 ?_
                refine pf_X12_99 (pc := 256) dX12_wayRight_256 wF_X12_634 (A_106 hw) T5234 (rW (c := 0) (d := 1) (rR (x := 1)) rfl) fun μ5235 u5236 T5237 => ?_
                refine mr_iconst (pc := 259) (z := 1) dX12_wayRight_259 ?_
                exact mr_zret dX12_wayRight_260 rfl (rW (c := 0) (d := 1) (rR (x := 1)) rfl) (le_t rfl) (le_t rfl) T5237 (mF.up (mF.up (mF.call mF.refl F5075 rfl) (A_126 hw) u5233 rfl) (A_106 hw) u5236 rfl) ⟨(rW (c := 0) (d := 1) (rR (x := 1)) rfl), (mG.upO (mG.up (mG.call mG.refl G5076 (List.forall_mem_cons.mpr ⟨⟨_, List.mem_cons_self, vc_X12_wayRight_W_5⟩, (fun _ h => absurd h List.not_mem_nil)⟩)) u5233 List.mem_cons_self vc_X12_wayRight_W_6) u5236 rfl), ((((W5080 z5069 z5068 μ5070 rfl h5072 h5073 T5074 F5075).1 h5231) μ5232 u5233 T5234) μ5235 u5236 T5237), trivial⟩
              have B5238 := Chn.un R5078 (vc_X12_wayRight_W_7 hq0 h4582 h4583 h4588 h5077 h5231 h4589 ht_f_size hp1 hp2 h4590 h4577 h5072)
              refine sv_aload_n (pc := 117) dX12_wayRight_117 rfl rfl ?_
              refine mr_iload_n (pc := 118) (z := z5069) dX12_wayRight_118 rfl rfl ?_
              refine mr_iconst (pc := 119) (z := 1) dX12_wayRight_119 ?_
              refine mr_iadd (pc := 120) (x := z5069) (y := 1) dX12_wayRight_120 ?_
              refine mr_cVP (pc := 121) (c_X12_byteAt_Wf hw T5074 (rW (c := 0) (d := 2147483647) (rAdd (e := 1) (f := 1001) h5072 (rR (x := 1)) rfl) rfl) (F5075.f (A_106 hw) rfl q_f_size) (vc_X12_wayRight_W_8 hq0 h5077 h5231 B5238.1 h4582 h4583 h4588 ht_f_size hp1 hp2 h4590 h4577 h5072) ((W5080 z5069 z5068 μ5070 rfl h5072 h5073 T5074 F5075).2 h5231)) (gOk _ _ _ _ _) dX12_wayRight_121 (tX12_byteAt _ _ _ _ _) ⟨wV_X12_byteAt, wL_X12_byteAt⟩ wM_X12_227 (gCX12 _ _ _ _ _) rfl (A_106 hw) rfl ⟨le_t rfl, le_t rfl⟩ ⟨le_t rfl, le_t rfl⟩ rfl (le_t rfl) fun z5243 h5242 => ?_
              have B5244 := B5238; rw [h5242.2.1.symm] at B5244
              have h5245 : 1 ≤ z5243 ∧ z5069 + 2 + 4 * z5243 ≤ p1 + p2 ∧ z5243 ≤ z4574 - (z5068 - 966) := ⟨B5244.2.1, B5244.2.2.1, B5244.2.2.2.1⟩
              have h5246 : 1 ≤ z5243 ∧ z5243 ≤ 20 := (vc_X12_wayRight_W_9 h4582 h4589 h5245 hq0 h4583 h4588 h5077 h5231 B5238.1 ht_f_size hp1 hp2 h4590 h4577 h5073 h5072 h5242.1)
              refine mr_istore (pc := 124) (lv' := [(6, iv z5243), (0, .ref 106), (1, iv p1), (2, iv p2), (3, iv z5069), (4, iv z4574), (5, iv z5068)]) dX12_wayRight_124 (by decide) rfl ?_
              refine mr_iload (pc := 126) (z := z5068) dX12_wayRight_126 rfl ?_
              refine mr_istore (pc := 128) (lv' := [(7, iv z5068), (6, iv z5243), (0, .ref 106), (1, iv p1), (2, iv p2), (3, iv z5069), (4, iv z4574), (5, iv z5068)]) dX12_wayRight_128 (by decide) rfl ?_
              refine mr_iconst (pc := 130) (z := 0) dX12_wayRight_130 ?_
              refine mr_istore (pc := 131) (lv' := [(8, iv 0), (7, iv z5068), (6, iv z5243), (0, .ref 106), (1, iv p1), (2, iv p2), (3, iv z5069), (4, iv z4574), (5, iv z5068)]) dX12_wayRight_131 (by decide) rfl ?_
              have L6112 : ∀ (nL6112 : Nat) (z6110 z6109 : Int) (μ6111 : mM), mT w μ6111 → mF [126999] w μ5070 μ6111 → mG [(964, 986)] μ5070 μ6111 → (966 ≤ z6110 ∧ z6110 ≤ 986) → (0 ≤ z6109 ∧ z6109 ≤ 20) → (z6110 = z5068 + z6109) → (z6109 ≤ z5243) → (987 - z6110) < (nL6112 : Int) → loopF (WL_X12_wayRight_W_3 w (loopF (WL_X12_wayRight_W_2 w μ p1 p2 Q z4574) False nL5071) z5069 z5068 μ5070 z5243) False nL6112 (z6110, z6109, μ6111) → sV (gG l D c H0 sa) mX12_wayRight (sRm 3 0 0) (sZ (gG l D c H0 sa) 0 0 (qI w [106099, 126999] μ (fun z μ1 => (0 ≤ z ∧ z ≤ 1) ∧ mG [(964, 986)] μ μ1 ∧ Q z μ1 ∧ True))) 133 [(0, .ref 106), (1, iv p1), (2, iv p2), (3, iv z5069), (4, iv z4574), (5, iv z6110), (6, iv z5243), (7, iv z5068), (8, iv z6109)] [] (mk w μ6111) 0 0 := by
                intro nL6112
                induction nL6112 with
                | zero => intro z6110 z6109 μ6111 T6115 F6116 G6117 h6113 h6114 h6118 h6119 h6120 W6121; exact ((vc_X12_wayRight_W_10 h6120 h6118 h5245 h6119 hp1 hp2 h4590 h5073 h5072 h5246 h6114 h6113)).elim
                | succ nL6112 ih6122 =>
                  intro z6110 z6109 μ6111 T6115 F6116 G6117 h6113 h6114 h6118 h6119 h6120 W6121
                  refine mr_iload (pc := 133) (z := z6109) dX12_wayRight_133 rfl ?_
                  refine mr_iload (pc := 135) (z := z5243) dX12_wayRight_135 rfl ?_
                  refine mr_icmp_ge (pc := 137) (tgt := 232) dX12_wayRight_137 (by decide) (r32 h6114 rfl) (r32 h5246 rfl) (fun h6190 => ?_) (fun h6190 => ?_)
                  · have h6191 : 1 ≤ z6109 ∧ z6109 ≤ 20 := (vc_X12_wayRight_W_11 h6190 h5245 h6118 h6119 hp1 hp2 h4590 h5073 h5072 h5246 h6114 h6113)
                    refine mr_iload_n (pc := 232) (z := z5069) dX12_wayRight_232 rfl rfl ?_
                    refine mr_iconst (pc := 233) (z := 2) dX12_wayRight_233 ?_
                    refine mr_iconst (pc := 234) (z := 4) dX12_wayRight_234 ?_
                    refine mr_iload (pc := 235) (z := z5243) dX12_wayRight_235 rfl ?_
                    refine mr_imul (pc := 237) (x := 4) (y := z5243) dX12_wayRight_237 ?_
                    refine mr_iadd (pc := 238) (x := 2) (y := (4 * z5243)) dX12_wayRight_238 ?_
                    refine mr_iadd (pc := 239) (x := z5069) (y := (2 + (4 * z5243))) dX12_wayRight_239 ?_
                    refine mr_istore_n (pc := 240) (lv' := [(3, iv (z5069 + (2 + (4 * z5243)))), (0, .ref 106), (1, iv p1), (2, iv p2), (4, iv z4574), (5, iv z6110), (6, iv z5243), (7, iv z5068), (8, iv z6109)]) dX12_wayRight_240 rfl (by decide) rfl ?_
                    refine sv_goto (pc := 241) (tgt := 110) dX12_wayRight_241 (by decide) ?_
                    refine mr_lvS (lv' := [(0, .ref 106), (1, iv p1), (2, iv p2), (3, iv (z5069 + (2 + (4 * z5243)))), (4, iv z4574), (5, iv z6110)]) (List.forall_mem_cons.mpr ⟨rfl, List.forall_mem_cons.mpr ⟨rfl, List.forall_mem_cons.mpr ⟨rfl, List.forall_mem_cons.mpr ⟨rfl, List.forall_mem_cons.mpr ⟨rfl, List.forall_mem_cons.mpr ⟨rfl, fun _ h => absurd h List.not_mem_nil⟩⟩⟩⟩⟩⟩) ?_
                    exact ih5081 (z5069 + (2 + (4 * z5243))) z6110 μ6111 T6115 (mF.call (mF.call mF.refl F5075 rfl) F6116 rfl) (mG.call (mG.call mG.refl G5076 (List.forall_mem_cons.mpr ⟨⟨_, List.mem_cons_self, vc_X12_wayRight_W_5⟩, (fun _ h => absurd h List.not_mem_nil)⟩)) G6117 (List.forall_mem_cons.mpr ⟨⟨_, List.mem_cons_self, vc_X12_wayRight_W_5⟩, (fun _ h => absurd h List.not_mem_nil)⟩)) (vc_X12_wayRight_W_12 h5077 h5231 B5238.1 h5245 h6119 h6190 hq0 h4582 h4583 h4588 h4589 h6118 ht_f_size hp1 hp2 h4590 h4577 h5073 h5072 h5246 h6191 h6113) h6113 (vc_X12_wayRight_W_13 hq0 h4582 h4583 h4588 h5077 h5231 B5238.1 h5245 h6119 h6190 h4589 h6118 ht_f_size hp1 hp2 h4590 h4577 h5073 h5072 h5246 h6191 h6113) (Chn.cg (Chn.keep B5244.2.2.2.2 hw ((mF.call mF.refl F6116 rfl) : mF [126999] w μ5070 μ6111) rfl) (vc_X12_wayRight_W_15 h5077 h5231 B5238.1 h5245 h6119 h6190 hq0 h4582 h4583 h4588 h4589 h6118 ht_f_size hp1 hp2 h4590 h4577 h5073 h5072 h5246 h6191 h6113) (vc_X12_wayRight_W_16 hq0 h4582 h4583 h4588 h4589 h5077 h5231 B5238.1 h5245 h6118 h6119 h6190 ht_f_size hp1 hp2 h4590 h4577 h5073 h5072 h5246 h6191 h6113)) (vc_X12_wayRight_W_14 (nS h5079) h5077 h5231 B5238.1 h5245 h6119 h6190 hq0 h4582 h4583 h4588 h4589 h6118 ht_f_size hp1 hp2 h4590 h4577 h5073 h5072 h5246 h6191 h6113) ((W6121 z6110 z6109 μ6111 rfl h6113 h6114 T6115 F6116).1 h6190)
                  have h6192 : 0 ≤ z6109 ∧ z6109 ≤ 19 := (vc_X12_wayRight_W_17 h6190 h5245 h6118 h6119 hp1 hp2 h4590 h5073 h5072 h5246 h6114 h6113)
                  refine sv_aload_n (pc := 140) dX12_wayRight_140 rfl rfl ?_
                  refine mr_iload_n (pc := 141) (z := z5069) dX12_wayRight_141 rfl rfl ?_
                  refine mr_iconst (pc := 142) (z := 2) dX12_wayRight_142 ?_
                  refine mr_iadd (pc := 143) (x := z5069) (y := 2) dX12_wayRight_143 ?_
                  refine mr_iconst (pc := 144) (z := 4) dX12_wayRight_144 ?_
                  refine mr_iload (pc := 145) (z := z6109) dX12_wayRight_145 rfl ?_
                  refine mr_imul (pc := 147) (x := 4) (y := z6109) dX12_wayRight_147 ?_
                  refine mr_iadd (pc := 148) (x := (z5069 + 2)) (y := (4 * z6109)) dX12_wayRight_148 ?_
                  refine mr_iconst (pc := 149) (z := 4) dX12_wayRight_149 ?_
                  refine mr_cVP (pc := 150) (c_X12_number_Wf hw T6115 (vc_X12_wayRight_W_18 h5077 h5231 B5238.1 h5245 h6118 h6119 h6190 hq0 h4582 h4583 h4588 h4589 ht_f_size hp1 hp2 h4590 h4577 h5073 h5072 h5246 h6192 h6113) (rW (c := 0) (d := 4) (rR (x := 4)) rfl) (F6116.f (A_106 hw) rfl (F5075.f (A_106 hw) rfl q_f_size)) (vc_X12_wayRight_W_19 hq0 h5077 h5231 B5238.1 h5245 h6118 h6119 h6190 h4582 h4583 h4588 h4589 ht_f_size hp1 hp2 h4590 h4577 h5073 h5072 h5246 h6192 h6113) ((W6121 z6110 z6109 μ6111 rfl h6113 h6114 T6115 F6116).2 h6190)) (gOk _ _ _ _ _) dX12_wayRight_150 (tX12_number _ _ _ _ _) ⟨wV_X12_number, wL_X12_number⟩ wM_X12_623 (gCX12 _ _ _ _ _) rfl (A_106 hw) rfl ⟨le_t rfl, le_t rfl⟩ ⟨le_t rfl, le_t rfl⟩ rfl (le_t rfl) fun z6197 h6196 => ?_
                  refine mr_istore (pc := 153) (lv' := [(9, iv z6197), (0, .ref 106), (1, iv p1), (2, iv p2), (3, iv z5069), (4, iv z4574), (5, iv z6110), (6, iv z5243), (7, iv z5068), (8, iv z6109)]) dX12_wayRight_153 (by decide) rfl ?_
                  refine mr_iload (pc := 155) (z := z6110) dX12_wayRight_155 rfl ?_
                  refine mr_istore (pc := 157) (lv' := [(10, iv z6110), (9, iv z6197), (0, .ref 106), (1, iv p1), (2, iv p2), (3, iv z5069), (4, iv z4574), (5, iv z6110), (6, iv z5243), (7, iv z5068), (8, iv z6109)]) dX12_wayRight_157 (by decide) rfl ?_
                  have L6290 : ∀ (nL6290 : Nat) (z6288 : Int) (μ6289 : mM), mT w μ6289 → mF [126999] w μ6111 μ6289 → mG [(964, 986)] μ6111 μ6289 → (966 ≤ z6288 ∧ z6288 ≤ 985) → (z6288 ≤ z6110) → (z5068 ≤ z6288) → (z6288 - 965) < (nL6290 : Int) → loopF (WL_X12_wayRight_W_4 w z5069 z5068 (loopF (WL_X12_wayRight_W_3 w (loopF (WL_X12_wayRight_W_2 w μ p1 p2 Q z4574) False nL5071) z5069 z5068 μ5070 z5243) False nL6112) z6110 z6109 μ6111 z6197) False nL6290 (z6288, μ6289) → sV (gG l D c H0 sa) mX12_wayRight (sRm 3 0 0) (sZ (gG l D c H0 sa) 0 0 (qI w [106099, 126999] μ (fun z μ1 => (0 ≤ z ∧ z ≤ 1) ∧ mG [(964, 986)] μ μ1 ∧ Q z μ1 ∧ True))) 159 [(0, .ref 106), (1, iv p1), (2, iv p2), (3, iv z5069), (4, iv z4574), (5, iv z6110), (6, iv z5243), (7, iv z5068), (8, iv z6109), (9, iv z6197), (10, iv z6288)] [] (mk w μ6289) 0 0 := by
                    intro nL6290
                    induction nL6290 with
                    | zero => intro z6288 μ6289 T6292 F6293 G6294 h6291 h6295 h6296 h6297 W6298; exact ((vc_X12_wayRight_W_20 h6297 h6295 h6296 h5245 h6118 hp1 hp2 h4590 h5073 h5072 h5246 h6192 h6113 h6291)).elim
                    | succ nL6290 ih6299 =>
                      intro z6288 μ6289 T6292 F6293 G6294 h6291 h6295 h6296 h6297 W6298
                      refine sv_aload_n (pc := 159) dX12_wayRight_159 rfl rfl ?_
                      refine mr_iload_n (pc := 160) (z := z5069) dX12_wayRight_160 rfl rfl ?_
                      refine mr_cVP (pc := 161) (c_X12_byteAt_Wf hw T6292 (rW (c := 0) (d := 2147483647) h5072 rfl) (F6293.f (A_106 hw) rfl (F6116.f (A_106 hw) rfl (F5075.f (A_106 hw) rfl q_f_size))) (vc_X12_wayRight_W_21 hq0 h5077 h5231 B5238.1 h5245 h4582 h4583 h4588 h4589 h6118 h6119 h6190 h6296 ht_f_size hp1 hp2 h4590 h4577 h5073 h5072 h5246 h6192 h6113 h6291) (W6298 z6288 μ6289 rfl h6291 T6292 F6293)) (gOk _ _ _ _ _) dX12_wayRight_161 (tX12_byteAt _ _ _ _ _) ⟨wV_X12_byteAt, wL_X12_byteAt⟩ wM_X12_227 (gCX12 _ _ _ _ _) rfl (A_106 hw) rfl ⟨le_t rfl, le_t rfl⟩ ⟨le_t rfl, le_t rfl⟩ rfl (le_t rfl) fun z6304 h6303 => ?_
                      refine mr_iconst (pc := 164) (z := 1) dX12_wayRight_164 ?_
                      have J6323 : ((WJ_X12_wayRight_W_5 w (loopF (WL_X12_wayRight_W_3 w (loopF (WL_X12_wayRight_W_2 w μ p1 p2 Q z4574) False nL5071) z5069 z5068 μ5070 z5243) False nL6112) z6110 z6109 z6197 z6288 μ6289) ) → sV (gG l D c H0 sa) mX12_wayRight (sRm 3 0 0) (sZ (gG l D c H0 sa) 0 0 (qI w [106099, 126999] μ (fun z μ1 => (0 ≤ z ∧ z ≤ 1) ∧ mG [(964, 986)] μ μ1 ∧ Q z μ1 ∧ True))) 214 [(0, .ref 106), (1, iv p1), (2, iv p2), (3, iv z5069), (4, iv z4574), (5, iv z6110), (6, iv z5243), (7, iv z5068), (8, iv z6109), (9, iv z6197), (10, iv z6288)] [] (mk w μ6289) 0 0 := by
                        intro W6324
                        refine sv_aload_n (pc := 214) dX12_wayRight_214 rfl rfl ?_
                        refine gf_X12_32 (pc := 215) dX12_wayRight_215 wF_X12_148 (A_106 hw) T6292 ?_
                        refine mr_iload (pc := 218) (z := z6288) dX12_wayRight_218 rfl ?_
                        refine mr_iload (pc := 220) (z := z6197) dX12_wayRight_220 rfl ?_
                        refine ss_126 (pc := 222) dX12_wayRight_222 (A_126 hw) T6292 (rIx (n := 84000) h6291 rfl) (vc_X12_wayRight_W_22 h6196.2.2.1 h6295 h6296 h5245 h6118 hp1 hp2 h4590 h5073 h5072 h5246 h6192 h6113 h6196.1 h6291) fun μ6325 u6326 T6327 => ?_
                        refine mr_iinc (pc := 223) (lv' := [(5, iv (z6110 + 1)), (0, .ref 106), (1, iv p1), (2, iv p2), (3, iv z5069), (4, iv z4574), (6, iv z5243), (7, iv z5068), (8, iv z6109), (9, iv z6197), (10, iv z6288)]) dX12_wayRight_223 rfl (by decide) rfl ?_
                        refine mr_iinc (pc := 226) (lv' := [(8, iv (z6109 + 1)), (5, iv (z6110 + 1)), (0, .ref 106), (1, iv p1), (2, iv p2), (3, iv z5069), (4, iv z4574), (6, iv z5243), (7, iv z5068), (9, iv z6197), (10, iv z6288)]) dX12_wayRight_226 rfl (by decide) rfl ?_
                        refine sv_goto (pc := 229) (tgt := 133) dX12_wayRight_229 (by decide) ?_
                        refine mr_lvS (lv' := [(0, .ref 106), (1, iv p1), (2, iv p2), (3, iv z5069), (4, iv z4574), (5, iv (z6110 + 1)), (6, iv z5243), (7, iv z5068), (8, iv (z6109 + 1))]) (List.forall_mem_cons.mpr ⟨rfl, List.forall_mem_cons.mpr ⟨rfl, List.forall_mem_cons.mpr ⟨rfl, List.forall_mem_cons.mpr ⟨rfl, List.forall_mem_cons.mpr ⟨rfl, List.forall_mem_cons.mpr ⟨rfl, List.forall_mem_cons.mpr ⟨rfl, List.forall_mem_cons.mpr ⟨rfl, List.forall_mem_cons.mpr ⟨rfl, fun _ h => absurd h List.not_mem_nil⟩⟩⟩⟩⟩⟩⟩⟩⟩) ?_
                        exact ih6122 (z6110 + 1) (z6109 + 1) μ6325 T6327 (mF.up (mF.call (mF.call mF.refl F6116 rfl) F6293 rfl) (A_126 hw) u6326 rfl) (mG.up (mG.call (mG.call mG.refl G6117 (List.forall_mem_cons.mpr ⟨⟨_, List.mem_cons_self, vc_X12_wayRight_W_5⟩, (fun _ h => absurd h List.not_mem_nil)⟩)) G6294 (List.forall_mem_cons.mpr ⟨⟨_, List.mem_cons_self, vc_X12_wayRight_W_5⟩, (fun _ h => absurd h List.not_mem_nil)⟩)) u6326 List.mem_cons_self (vc_X12_wayRight_W_27 h6295 h6296 h5245 h6118 hp1 hp2 h4590 h5073 h5072 h5246 h6192 h6113 h6291)) (vc_X12_wayRight_W_23 h6118 h6295 h5245 h6119 h6190 h6296 hp1 hp2 h4590 h5073 h5072 h5246 h6192 h6113 h6291) (rW (c := 0) (d := 20) (rAdd (e := 1) (f := 20) h6192 (rR (x := 1)) rfl) rfl) (vc_X12_wayRight_W_24 h5245 h6118 h6119 h6190 h6295 h6296 hq0 h4582 h4583 h4588 h4589 h5077 h5231 B5238.1 ht_f_size hp1 hp2 h4590 h4577 h5073 h5072 h5246 h6192 h6113 h6291) (vc_X12_wayRight_W_25 h5245 h6118 h6119 h6190 hq0 h4582 h4583 h4588 h4589 h5077 h5231 B5238.1 h6295 h6296 ht_f_size hp1 hp2 h4590 h4577 h5073 h5072 h5246 h6192 h6113 h6291) (vc_X12_wayRight_W_26 (nS h6120) h6118 h6295 h5245 h6119 h6190 h6296 hp1 hp2 h4590 h5073 h5072 h5246 h6192 h6113 h6291) ((W6324) μ6325 u6326 T6327)
                      refine mr_icmp_ne (pc := 165) (tgt := 214) dX12_wayRight_165 (by decide) (r32 h6303.1 rfl) (r32 (rR (x := 1)) rfl) (fun h6328 => ?_) (fun h6328 => ?_)
                      · exact J6323 ((h6303.2.2.1 h6303.1).1 h6328)
                      have h6329 : 1 ≤ z6304 ∧ z6304 ≤ 1 := (vc_X3_readAttribute_W_2 h6328 h6303.1)
                      refine mr_iload (pc := 168) (z := z6288) dX12_wayRight_168 rfl ?_
                      refine mr_iload (pc := 170) (z := z5068) dX12_wayRight_170 rfl ?_
                      refine mr_icmp_le (pc := 172) (tgt := 214) dX12_wayRight_172 (by decide) (r32 h6291 rfl) (r32 h5073 rfl) (fun h6330 => ?_) (fun h6330 => ?_)
                      · exact J6323 (((h6303.2.2.1 h6303.1).2 h6328).1 h6330)
                      have h6331 : 967 ≤ z6288 ∧ z6288 ≤ 985 := (vc_X12_wayRight_W_29 h6330 h5245 h6118 h6295 h6296 hp1 hp2 h4590 h5073 h5072 h5246 h6192 h6113 h6291)
                      have h6332 : 966 ≤ z5068 ∧ z5068 ≤ 984 := (vc_X12_wayRight_W_30 h6330 h5245 h6118 h6295 h6296 hp1 hp2 h4590 h5073 h5072 h5246 h6192 h6113 h6331)
                      refine mr_iload (pc := 175) (z := z6197) dX12_wayRight_175 rfl ?_
                      refine sv_aload_n (pc := 177) dX12_wayRight_177 rfl rfl ?_
                      refine gf_X12_32 (pc := 178) dX12_wayRight_178 wF_X12_148 (A_106 hw) T6292 ?_
                      refine mr_iload (pc := 181) (z := z6288) dX12_wayRight_181 rfl ?_
                      refine mr_iconst (pc := 183) (z := 1) dX12_wayRight_183 ?_
                      refine mr_isub (pc := 184) (x := z6288) (y := 1) dX12_wayRight_184 ?_
                      refine la_126 (pc := 185) dX12_wayRight_185 (A_126 hw) T6292 (rIx (n := 84000) (rSub (e := 966) (f := 984) h6331 (rR (x := 1)) rfl) rfl) fun z6333 q6334 h6335 => ?_
                      refine mr_cSP (pc := 186) (c_X12_isBelow_W hw T6292 h6196.1 h6335.1 ((((h6303.2.2.1 h6303.1).2 h6328).2 h6330) z6333 q6334 h6335)) (gOk _ _ _ _ _) dX12_wayRight_186 (tX12_isBelow _ _ _ _ _) wS_X12_isBelow wM_X12_578 ⟨le_t rfl, le_t rfl⟩ ⟨le_t rfl, le_t rfl⟩ rfl (le_t rfl) fun z6340 h6339 => ?_
                      refine mr_if_eq (pc := 189) (tgt := 214) dX12_wayRight_189 (by decide) (r32 h6339.1 rfl) (fun h6341 => ?_) (fun h6341 => ?_)
                      · have h6342 : 0 ≤ z6340 ∧ z6340 ≤ 0 := (vc_X12_pick_W_85 h6341 h6339.2.1 h6339.2.2.1 h6196.1 h6335.1 h6339.1)
                        have h6343 : z6333 % 4294967296 ≤ z6197 % 4294967296 := (h6339.2.2.1 (vc_X12_wayRight_W_32 h6339.2.1 h6339.2.2.1 h6341 h6196.2.2.1 h6335.2.1 h6335.2.2.1 h6335.2.2.2 h6196.1 h6331 h6335.1 h6342))
                        exact J6323 ((h6339.2.2.2.1 h6339.1).1 h6341)
                      have h6344 : 1 ≤ z6340 ∧ z6340 ≤ 1 := (vc_X12_pick_W_88 h6341 h6339.2.1 h6339.2.2.1 h6196.1 h6335.1 h6339.1)
                      have h6345 : z6197 % 4294967296 < z6333 % 4294967296 := (h6339.2.1 (vc_X12_wayRight_W_34 h6339.2.1 h6339.2.2.1 h6341 h6196.2.2.1 h6335.2.1 h6335.2.2.1 h6335.2.2.2 h6196.1 h6331 h6335.1 h6344))
                      refine sv_aload_n (pc := 192) dX12_wayRight_192 rfl rfl ?_
                      refine gf_X12_32 (pc := 193) dX12_wayRight_193 wF_X12_148 (A_106 hw) T6292 ?_
                      refine mr_iload (pc := 196) (z := z6288) dX12_wayRight_196 rfl ?_
                      refine sv_aload_n (pc := 198) dX12_wayRight_198 rfl rfl ?_
                      refine gf_X12_32 (pc := 199) dX12_wayRight_199 wF_X12_148 (A_106 hw) T6292 ?_
                      refine mr_iload (pc := 202) (z := z6288) dX12_wayRight_202 rfl ?_
                      refine mr_iconst (pc := 204) (z := 1) dX12_wayRight_204 ?_
                      refine mr_isub (pc := 205) (x := z6288) (y := 1) dX12_wayRight_205 ?_
                      refine lk_126 (pc := 206) dX12_wayRight_206 (A_126 hw) (rIx (n := 84000) (rSub (e := 966) (f := 984) h6331 (rR (x := 1)) rfl) rfl) q6334 ?_
                      refine ss_126 (pc := 207) dX12_wayRight_207 (A_126 hw) T6292 (rIx (n := 84000) h6331 rfl) (vc_X12_wayRight_W_35 h6295 h6296 h6330 h6335.2.1 h6335.2.2.1 h6335.2.2.2 h6339.2.1 h6339.2.2.1 h6345 h5245 h6118 h6196.2.2.1 h6341 hp1 hp2 h4590 h6332 h5072 h5246 h6192 h6113 h6196.1 h6331 h6335.1 h6344) fun μ6346 u6347 T6348 => ?_
                      refine mr_iinc (pc := 208) (lv' := [(10, iv (z6288 + (-1))), (0, .ref 106), (1, iv p1), (2, iv p2), (3, iv z5069), (4, iv z4574), (5, iv z6110), (6, iv z5243), (7, iv z5068), (8, iv z6109), (9, iv z6197)]) dX12_wayRight_208 rfl (by decide) rfl ?_
                      refine sv_goto (pc := 211) (tgt := 159) dX12_wayRight_211 (by decide) ?_
                      refine mr_lvS (lv' := [(0, .ref 106), (1, iv p1), (2, iv p2), (3, iv z5069), (4, iv z4574), (5, iv z6110), (6, iv z5243), (7, iv z5068), (8, iv z6109), (9, iv z6197), (10, iv (z6288 + (-1)))]) (List.forall_mem_cons.mpr ⟨rfl, List.forall_mem_cons.mpr ⟨rfl, List.forall_mem_cons.mpr ⟨rfl, List.forall_mem_cons.mpr ⟨rfl, List.forall_mem_cons.mpr ⟨rfl, List.forall_mem_cons.mpr ⟨rfl, List.forall_mem_cons.mpr ⟨rfl, List.forall_mem_cons.mpr ⟨rfl, List.forall_mem_cons.mpr ⟨rfl, List.forall_mem_cons.mpr ⟨rfl, List.forall_mem_cons.mpr ⟨rfl, fun _ h => absurd h List.not_mem_nil⟩⟩⟩⟩⟩⟩⟩⟩⟩⟩⟩) ?_
                      exact ih6299 (z6288 + (-1)) μ6346 T6348 (mF.up (mF.call mF.refl F6293 rfl) (A_126 hw) u6347 rfl) (mG.up (mG.call mG.refl G6294 (List.forall_mem_cons.mpr ⟨⟨_, List.mem_cons_self, vc_X12_wayRight_W_5⟩, (fun _ h => absurd h List.not_mem_nil)⟩)) u6347 List.mem_cons_self (vc_X12_wayRight_W_39 h6295 h6296 h6330 h6335.2.1 h6335.2.2.1 h6335.2.2.2 h5245 h6118 h6339.2.1 h6339.2.2.1 h6345 hp1 hp2 h4590 h6332 h5072 h5246 h6192 h6113 h6196.1 h6331 h6335.1 h6344)) (rW (c := 966) (d := 985) (rAdd (e := 966) (f := 984) h6331 (rR (x := (-1))) rfl) rfl) (vc_X12_wayRight_W_36 h6118 h6295 h6296 h6330 h6335.2.1 h6335.2.2.1 h6335.2.2.2 h5245 h6119 h6190 h6339.2.1 h6339.2.2.1 h6345 hp1 hp2 h4590 h6332 h5072 h5246 h6192 h6113 h6196.1 h6331 h6335.1 h6344) (vc_X12_wayRight_W_37 h5245 h6118 h6295 h6296 h6330 h6335.2.1 h6335.2.2.1 h6335.2.2.2 hq0 h4582 h4583 h4588 h4589 h5077 h5231 B5238.1 h6119 h6190 h6339.2.1 h6339.2.2.1 h6345 ht_f_size hp1 hp2 h4590 h4577 h6332 h5072 h5246 h6192 h6113 h6196.1 h6331 h6335.1 h6344) (vc_X12_wayRight_W_38 (nS h6297) h6295 h6296 h6330 h6335.2.1 h6335.2.2.1 h6335.2.2.2 h5245 h6118 h6339.2.1 h6339.2.2.1 h6345 hp1 hp2 h4590 h6332 h5072 h5246 h6192 h6113 h6196.1 h6331 h6335.1 h6344) (((h6339.2.2.2.1 h6339.1).2 h6341) μ6346 u6347 T6348)
                  refine mr_lvS (lv' := [(0, .ref 106), (1, iv p1), (2, iv p2), (3, iv z5069), (4, iv z4574), (5, iv z6110), (6, iv z5243), (7, iv z5068), (8, iv z6109), (9, iv z6197), (10, iv z6110)]) (List.forall_mem_cons.mpr ⟨rfl, List.forall_mem_cons.mpr ⟨rfl, List.forall_mem_cons.mpr ⟨rfl, List.forall_mem_cons.mpr ⟨rfl, List.forall_mem_cons.mpr ⟨rfl, List.forall_mem_cons.mpr ⟨rfl, List.forall_mem_cons.mpr ⟨rfl, List.forall_mem_cons.mpr ⟨rfl, List.forall_mem_cons.mpr ⟨rfl, List.forall_mem_cons.mpr ⟨rfl, List.forall_mem_cons.mpr ⟨rfl, fun _ h => absurd h List.not_mem_nil⟩⟩⟩⟩⟩⟩⟩⟩⟩⟩⟩) ?_
                  exact L6290 22 z6110 μ6111 T6115 mF.refl mG.refl (vc_X12_wayRight_W_40 h6118 h5245 h6119 h6190 hp1 hp2 h4590 h5073 h5072 h5246 h6192 h6113) (vc_X12_wayRight_W_41 h6118 h5245 h6119 h6190 hp1 hp2 h4590 h5073 h5072 h5246 h6192 h6113) (vc_X12_wayRight_W_42 h5245 h6118 hq0 h4582 h4583 h4588 h4589 h5077 h5231 B5238.1 h6119 h6190 ht_f_size hp1 hp2 h4590 h4577 h5073 h5072 h5246 h6192 h6113) (vc_X12_wayRight_W_43 h6118 h5245 h6119 h6190 hp1 hp2 h4590 h5073 h5072 h5246 h6192 h6113) (h6196.2.2.2.1 h6196.1)
              refine mr_lvS (lv' := [(0, .ref 106), (1, iv p1), (2, iv p2), (3, iv z5069), (4, iv z4574), (5, iv z5068), (6, iv z5243), (7, iv z5068), (8, iv 0)]) (List.forall_mem_cons.mpr ⟨rfl, List.forall_mem_cons.mpr ⟨rfl, List.forall_mem_cons.mpr ⟨rfl, List.forall_mem_cons.mpr ⟨rfl, List.forall_mem_cons.mpr ⟨rfl, List.forall_mem_cons.mpr ⟨rfl, List.forall_mem_cons.mpr ⟨rfl, List.forall_mem_cons.mpr ⟨rfl, List.forall_mem_cons.mpr ⟨rfl, fun _ h => absurd h List.not_mem_nil⟩⟩⟩⟩⟩⟩⟩⟩⟩) ?_
              exact L6112 22 z5068 0 μ5070 T5074 mF.refl mG.refl h5073 (rW (c := 0) (d := 20) (rR (x := 0)) rfl) (vc_X12_wayRight_W_44 h5245 hq0 h4582 h4583 h4588 h4589 h5077 h5231 B5238.1 ht_f_size hp1 hp2 h4590 h4577 h5073 h5072 h5246) (vc_X12_wayRight_W_45 h5245 hq0 h4582 h4583 h4588 h4589 h5077 h5231 B5238.1 ht_f_size hp1 hp2 h4590 h4577 h5073 h5072 h5246) (vc_X12_wayRight_W_46 h5245 hq0 h4582 h4583 h4588 h4589 h5077 h5231 B5238.1 ht_f_size hp1 hp2 h4590 h4577 h5073 h5072 h5246) (h5242.2.2.1 h5242.1)
          refine mr_lvS (lv' := [(0, .ref 106), (1, iv p1), (2, iv p2), (3, iv p1), (4, iv z4574), (5, iv 966)]) (List.forall_mem_cons.mpr ⟨rfl, List.forall_mem_cons.mpr ⟨rfl, List.forall_mem_cons.mpr ⟨rfl, List.forall_mem_cons.mpr ⟨rfl, List.forall_mem_cons.mpr ⟨rfl, List.forall_mem_cons.mpr ⟨rfl, fun _ h => absurd h List.not_mem_nil⟩⟩⟩⟩⟩⟩) ?_
          exact L5071 1002 p1 966 μ hT mF.refl mG.refl hp1 (rW (c := 966) (d := 986) (rR (x := 966)) rfl) (vc_X12_wayRight_W_47 hq0 h4582 h4583 h4588 h4589 ht_f_size hp1 hp2 h4590 h4577) (Chn.fin R4584 (vc_X12_wayRight_W_49 hq0 h4582 h4583 h4588 h4589 ht_f_size hp1 hp2 h4590 h4577) (vc_X12_wayRight_W_50 hq0 h4582 h4583 h4588 h4589 ht_f_size hp1 hp2 h4590 h4577)) (vc_X12_wayRight_W_48 hq0 h4582 h4583 h4588 h4589 ht_f_size hp1 hp2 h4590 h4577) (((W4586 z4575 z4574 rfl h4577 h4578).1 h4588).1 h4589)
        have h6349 : 21 ≤ z4574 ∧ z4574 ≤ 250 := (vc_X12_wayRight_W_51 h4589 h4582 hp1 h4578 h4577)
        refine mr_iconst (pc := 101) (z := 0) dX12_wayRight_101 ?_
        exact mr_zret dX12_wayRight_102 rfl (rW (c := 0) (d := 1) (rR (x := 0)) rfl) (le_t rfl) (le_t rfl) hT mF.refl ⟨(rW (c := 0) (d := 1) (rR (x := 0)) rfl), mG.refl, (((W4586 z4575 z4574 rfl h4577 h4578).1 h4588).2 h4589), trivial⟩
      refine mr_iload_n (pc := 12) (z := z4575) dX12_wayRight_12 rfl rfl ?_
      refine mr_iconst (pc := 13) (z := 2) dX12_wayRight_13 ?_
      refine mr_iadd (pc := 14) (x := z4575) (y := 2) dX12_wayRight_14 ?_
      refine mr_iload_n (pc := 15) (z := p1) dX12_wayRight_15 rfl rfl ?_
      refine mr_iload_n (pc := 16) (z := p2) dX12_wayRight_16 rfl rfl ?_
      refine mr_iadd (pc := 17) (x := p1) (y := p2) dX12_wayRight_17 ?_
      refine mr_icmp_gt (pc := 18) (tgt := 63) dX12_wayRight_18 (by decide) (r32 (rAdd (e := 2) (f := 1002) h4577 (rR (x := 2)) rfl) rfl) (r32 (rAdd (e := 0) (f := 2000) hp1 hp2 rfl) rfl) (fun h6350 => ?_) (fun h6350 => ?_)
      · refine mr_iconst (pc := 63) (z := 0) dX12_wayRight_63 ?_
        exact mr_zret dX12_wayRight_64 rfl (rW (c := 0) (d := 1) (rR (x := 0)) rfl) (le_t rfl) (le_t rfl) hT mF.refl ⟨(rW (c := 0) (d := 1) (rR (x := 0)) rfl), mG.refl, (((W4586 z4575 z4574 rfl h4577 h4578).2 h4588).1 h6350), trivial⟩
      refine sv_aload_n (pc := 21) dX12_wayRight_21 rfl rfl ?_
      refine mr_iload_n (pc := 22) (z := z4575) dX12_wayRight_22 rfl rfl ?_
      refine mr_cVP (pc := 23) (c_X12_byteAt_Wf hw hT (rW (c := 0) (d := 2147483647) h4577 rfl) q_f_size (vc_X12_wayRight_W_52 hq0 h4582 h4583 h4588 h6350 ht_f_size hp1 hp2 h4578 h4577) (((W4586 z4575 z4574 rfl h4577 h4578).2 h4588).2 h6350)) (gOk _ _ _ _ _) dX12_wayRight_23 (tX12_byteAt _ _ _ _ _) ⟨wV_X12_byteAt, wL_X12_byteAt⟩ wM_X12_227 (gCX12 _ _ _ _ _) rfl (A_106 hw) rfl ⟨le_t rfl, le_t rfl⟩ ⟨le_t rfl, le_t rfl⟩ rfl (le_t rfl) fun z6355 h6354 => ?_
      refine mr_iconst (pc := 26) (z := 1) dX12_wayRight_26 ?_
      refine mr_iconst (pc := 27) (z := 2) dX12_wayRight_27 ?_
      refine mr_cSP (pc := 28) (c_X12_in_W hw hT (rW (c := (-2147483648)) (d := 2147483647) h6354.1 rfl) (rW (c := (-2147483648)) (d := 2147483647) (rR (x := 1)) rfl) (rW (c := (-2147483648)) (d := 2147483647) (rR (x := 2)) rfl) (h6354.2.2.1 h6354.1)) (gOk _ _ _ _ _) dX12_wayRight_28 (tX12_in _ _ _ _ _) wS_X12_in wM_X12_18 ⟨le_t rfl, le_t rfl⟩ ⟨le_t rfl, le_t rfl⟩ rfl (le_t rfl) fun z6360 h6359 => ?_
      refine mr_if_eq (pc := 31) (tgt := 63) dX12_wayRight_31 (by decide) (r32 h6359.1 rfl) (fun h6361 => ?_) (fun h6361 => ?_)
      · have h6362 : 0 ≤ z6360 ∧ z6360 ≤ 0 := (vc_X12_wayRight_W_53 h6361 h6359.2.1 h6359.2.2.1 h6354.1 h6359.1)
        have h6363 : z6355 < (1 : Int) ∨ (2 : Int) < z6355 := (h6359.2.2.1 (vc_X12_wayRight_W_54 h6359.2.1 h6359.2.2.1 h6361 h6354.1 h6362))
        refine mr_iconst (pc := 63) (z := 0) dX12_wayRight_63 ?_
        exact mr_zret dX12_wayRight_64 rfl (rW (c := 0) (d := 1) (rR (x := 0)) rfl) (le_t rfl) (le_t rfl) hT mF.refl ⟨(rW (c := 0) (d := 1) (rR (x := 0)) rfl), mG.refl, ((h6359.2.2.2.1 h6359.1).1 h6361), trivial⟩
      have h6364 : 1 ≤ z6360 ∧ z6360 ≤ 1 := (vc_X12_wayRight_W_55 h6361 h6359.2.1 h6359.2.2.1 h6354.1 h6359.1)
      have h6365 : (1 : Int) ≤ z6355 ∧ z6355 ≤ (2 : Int) := (h6359.2.1 (vc_X12_wayRight_W_56 h6359.2.1 h6359.2.2.1 h6361 h6354.1 h6364))
      have h6366 : 1 ≤ z6355 ∧ z6355 ≤ 2 := (vc_X12_wayRight_W_57 h6365 h6359.2.1 h6359.2.2.1 h6354.1 h6364)
      refine sv_aload_n (pc := 34) dX12_wayRight_34 rfl rfl ?_
      refine mr_iload_n (pc := 35) (z := z4575) dX12_wayRight_35 rfl rfl ?_
      refine mr_iconst (pc := 36) (z := 1) dX12_wayRight_36 ?_
      refine mr_iadd (pc := 37) (x := z4575) (y := 1) dX12_wayRight_37 ?_
      refine mr_cVP (pc := 38) (c_X12_byteAt_Wf hw hT (rW (c := 0) (d := 2147483647) (rAdd (e := 1) (f := 1001) h4577 (rR (x := 1)) rfl) rfl) q_f_size (vc_X12_wayRight_W_58 hq0 h4582 h4583 h4588 h6350 ht_f_size hp1 hp2 h4578 h4577) ((h6359.2.2.2.1 h6359.1).2 h6361)) (gOk _ _ _ _ _) dX12_wayRight_38 (tX12_byteAt _ _ _ _ _) ⟨wV_X12_byteAt, wL_X12_byteAt⟩ wM_X12_227 (gCX12 _ _ _ _ _) rfl (A_106 hw) rfl ⟨le_t rfl, le_t rfl⟩ ⟨le_t rfl, le_t rfl⟩ rfl (le_t rfl) fun z6371 h6370 => ?_
      refine mr_if_eq (pc := 41) (tgt := 63) dX12_wayRight_41 (by decide) (r32 h6370.1 rfl) (fun h6372 => ?_) (fun h6372 => ?_)
      · have h6373 : 0 ≤ z6371 ∧ z6371 ≤ 0 := (vc_X12_wayRight_W_59 h6372 h6370.1)
        refine mr_iconst (pc := 63) (z := 0) dX12_wayRight_63 ?_
        exact mr_zret dX12_wayRight_64 rfl (rW (c := 0) (d := 1) (rR (x := 0)) rfl) (le_t rfl) (le_t rfl) hT mF.refl ⟨(rW (c := 0) (d := 1) (rR (x := 0)) rfl), mG.refl, ((h6370.2.2.1 h6370.1).1 h6372), trivial⟩
      have h6374 : 1 ≤ z6371 ∧ z6371 ≤ 255 := (vc_X12_wayRight_W_60 h6372 h6370.1)
      refine mr_iload_n (pc := 44) (z := z4575) dX12_wayRight_44 rfl rfl ?_
      refine mr_iconst (pc := 45) (z := 2) dX12_wayRight_45 ?_
      refine mr_iadd (pc := 46) (x := z4575) (y := 2) dX12_wayRight_46 ?_
      refine mr_iconst (pc := 47) (z := 4) dX12_wayRight_47 ?_
      refine sv_aload_n (pc := 48) dX12_wayRight_48 rfl rfl ?_
      refine mr_iload_n (pc := 49) (z := z4575) dX12_wayRight_49 rfl rfl ?_
      refine mr_iconst (pc := 50) (z := 1) dX12_wayRight_50 ?_
      refine mr_iadd (pc := 51) (x := z4575) (y := 1) dX12_wayRight_51 ?_
      refine mr_cVP (pc := 52) (c_X12_byteAt_Wf hw hT (rW (c := 0) (d := 2147483647) (rAdd (e := 1) (f := 1001) h4577 (rR (x := 1)) rfl) rfl) q_f_size (vc_X12_wayRight_W_58 hq0 h4582 h4583 h4588 h6350 ht_f_size hp1 hp2 h4578 h4577) ((h6370.2.2.1 h6370.1).2 h6372)) (gOk _ _ _ _ _) dX12_wayRight_52 (tX12_byteAt _ _ _ _ _) ⟨wV_X12_byteAt, wL_X12_byteAt⟩ wM_X12_227 (gCX12 _ _ _ _ _) rfl (A_106 hw) rfl ⟨le_t rfl, le_t rfl⟩ ⟨le_t rfl, le_t rfl⟩ rfl (le_t rfl) fun z6379 h6378 => ?_
      have h6380 : 1 ≤ z6379 ∧ z6379 ≤ 255 := (vc_X12_wayRight_W_61 (h6378.2.1.trans h6370.2.1.symm) h6372 h6374 h6378.1)
      refine mr_imul (pc := 55) (x := 4) (y := z6379) dX12_wayRight_55 ?_
      refine mr_iadd (pc := 56) (x := (z4575 + 2)) (y := (4 * z6379)) dX12_wayRight_56 ?_
      refine mr_iload_n (pc := 57) (z := p1) dX12_wayRight_57 rfl rfl ?_
      refine mr_iload_n (pc := 58) (z := p2) dX12_wayRight_58 rfl rfl ?_
      refine mr_iadd (pc := 59) (x := p1) (y := p2) dX12_wayRight_59 ?_
      refine mr_icmp_le (pc := 60) (tgt := 65) dX12_wayRight_60 (by decide) (r32 (rAdd (e := 6) (f := 2022) (rAdd (e := 2) (f := 1002) h4577 (rR (x := 2)) rfl) (rMulL (n := 4) (e := 4) (f := 1020) h6380 rfl) rfl) rfl) (r32 (rAdd (e := 0) (f := 2000) hp1 hp2 rfl) rfl) (fun h6381 => ?_) (fun h6381 => ?_)
      · refine mr_iload (pc := 65) (z := z4574) dX12_wayRight_65 rfl ?_
        refine sv_aload_n (pc := 67) dX12_wayRight_67 rfl rfl ?_
        refine mr_iload_n (pc := 68) (z := z4575) dX12_wayRight_68 rfl rfl ?_
        refine mr_iconst (pc := 69) (z := 1) dX12_wayRight_69 ?_
        refine mr_iadd (pc := 70) (x := z4575) (y := 1) dX12_wayRight_70 ?_
        refine mr_cVP (pc := 71) (c_X12_byteAt_Wf hw hT (rW (c := 0) (d := 2147483647) (rAdd (e := 1) (f := 1001) h4577 (rR (x := 1)) rfl) rfl) q_f_size (vc_X12_wayRight_W_62 hq0 h4582 h4583 h4588 h6350 h6381 (h6378.2.1.trans h6370.2.1.symm) ht_f_size hp1 hp2 h4578 h4577 h6374 h6380) ((h6378.2.2.1 h6378.1).1 h6381)) (gOk _ _ _ _ _) dX12_wayRight_71 (tX12_byteAt _ _ _ _ _) ⟨wV_X12_byteAt, wL_X12_byteAt⟩ wM_X12_227 (gCX12 _ _ _ _ _) rfl (A_106 hw) rfl ⟨le_t rfl, le_t rfl⟩ ⟨le_t rfl, le_t rfl⟩ rfl (le_t rfl) fun z6386 h6385 => ?_
        have h6387 : 1 ≤ z6386 ∧ z6386 ≤ 255 := (vc_X12_wayRight_W_63 (h6385.2.1.trans h6370.2.1.symm) h6372 (h6378.2.1.trans h6370.2.1.symm) h6374 h6380 h6385.1)
        refine mr_iadd (pc := 74) (x := z4574) (y := z6386) dX12_wayRight_74 ?_
        refine mr_istore (pc := 75) (lv' := [(4, iv (z4574 + z6386)), (0, .ref 106), (1, iv p1), (2, iv p2), (3, iv z4575)]) dX12_wayRight_75 (by decide) rfl ?_
        refine mr_iload_n (pc := 77) (z := z4575) dX12_wayRight_77 rfl rfl ?_
        refine mr_iconst (pc := 78) (z := 2) dX12_wayRight_78 ?_
        refine mr_iconst (pc := 79) (z := 4) dX12_wayRight_79 ?_
        refine sv_aload_n (pc := 80) dX12_wayRight_80 rfl rfl ?_
        refine mr_iload_n (pc := 81) (z := z4575) dX12_wayRight_81 rfl rfl ?_
        refine mr_iconst (pc := 82) (z := 1) dX12_wayRight_82 ?_
        refine mr_iadd (pc := 83) (x := z4575) (y := 1) dX12_wayRight_83 ?_
        refine mr_cVP (pc := 84) (c_X12_byteAt_Wf hw hT (rW (c := 0) (d := 2147483647) (rAdd (e := 1) (f := 1001) h4577 (rR (x := 1)) rfl) rfl) q_f_size (vc_X12_wayRight_W_62 hq0 h4582 h4583 h4588 h6350 h6381 (h6378.2.1.trans h6370.2.1.symm) ht_f_size hp1 hp2 h4578 h4577 h6374 h6380) (h6385.2.2.1 h6385.1)) (gOk _ _ _ _ _) dX12_wayRight_84 (tX12_byteAt _ _ _ _ _) ⟨wV_X12_byteAt, wL_X12_byteAt⟩ wM_X12_227 (gCX12 _ _ _ _ _) rfl (A_106 hw) rfl ⟨le_t rfl, le_t rfl⟩ ⟨le_t rfl, le_t rfl⟩ rfl (le_t rfl) fun z6392 h6391 => ?_
        have h6393 : 1 ≤ z6392 ∧ z6392 ≤ 255 := (vc_X12_wayRight_W_64 (h6391.2.1.trans h6370.2.1.symm) h6372 (h6378.2.1.trans h6370.2.1.symm) (h6385.2.1.trans h6370.2.1.symm) h6374 h6380 h6387 h6391.1)
        refine mr_imul (pc := 87) (x := 4) (y := z6392) dX12_wayRight_87 ?_
        refine mr_iadd (pc := 88) (x := 2) (y := (4 * z6392)) dX12_wayRight_88 ?_
        refine mr_iadd (pc := 89) (x := z4575) (y := (2 + (4 * z6392))) dX12_wayRight_89 ?_
        refine mr_istore_n (pc := 90) (lv' := [(3, iv (z4575 + (2 + (4 * z6392)))), (4, iv (z4574 + z6386)), (0, .ref 106), (1, iv p1), (2, iv p2)]) dX12_wayRight_90 rfl (by decide) rfl ?_
        refine sv_goto (pc := 91) (tgt := 5) dX12_wayRight_91 (by decide) ?_
        refine mr_lvS (lv' := [(0, .ref 106), (1, iv p1), (2, iv p2), (3, iv (z4575 + (2 + (4 * z6392)))), (4, iv (z4574 + z6386))]) (List.forall_mem_cons.mpr ⟨rfl, List.forall_mem_cons.mpr ⟨rfl, List.forall_mem_cons.mpr ⟨rfl, List.forall_mem_cons.mpr ⟨rfl, List.forall_mem_cons.mpr ⟨rfl, fun _ h => absurd h List.not_mem_nil⟩⟩⟩⟩⟩) ?_
        exact ih4587 (z4575 + (2 + (4 * z6392))) (z4574 + z6386) trivial (vc_X12_wayRight_W_65 h4582 h4583 h4588 h6350 h6381 (h6391.2.1.trans h6370.2.1.symm) hq0 h6372 (h6378.2.1.trans h6370.2.1.symm) (h6385.2.1.trans h6370.2.1.symm) ht_f_size hp1 hp2 h4578 h4577 h6374 h6380 h6387 h6393) (vc_X12_wayRight_W_66 h4582 (h6385.2.1.trans h6370.2.1.symm) hq0 h4583 h4588 h6350 h6372 (h6378.2.1.trans h6370.2.1.symm) h6381 (h6391.2.1.trans h6370.2.1.symm) ht_f_size hp1 hp2 h4578 h4577 h6374 h6380 h6387 h6393) (vc_X12_wayRight_W_67 hq0 h4582 h4583 h4588 h6350 h6381 (h6385.2.1.trans h6370.2.1.symm) (h6391.2.1.trans h6370.2.1.symm) h6372 (h6378.2.1.trans h6370.2.1.symm) ht_f_size hp1 hp2 h4578 h4577 h6374 h6380 h6387 h6393) (vc_X12_wayRight_W_68 hq0 h4582 h4583 h4588 h6350 h6381 (h6391.2.1.trans h6370.2.1.symm) h6372 (h6378.2.1.trans h6370.2.1.symm) (h6385.2.1.trans h6370.2.1.symm) ht_f_size hp1 hp2 h4578 h4577 h6374 h6380 h6387 h6393) (Chn.step R4584 (vc_X12_wayRight_W_70 hq0 h4582 h4583 h4588 h6350 h6381 (h6378.2.1.trans h6370.2.1.symm) ht_f_size hp1 hp2 h4578 h4577 h6374 h6380) (vc_X12_wayRight_W_71 hq0 h4582 h4583 h4588 h6350 h6381 (h6378.2.1.trans h6370.2.1.symm) ht_f_size hp1 hp2 h4578 h4577 h6374 h6380) h6370.2.1.symm (vc_X12_wayRight_W_72 hq0 h4582 h4583 h4588 h6350 h6372 (h6378.2.1.trans h6370.2.1.symm) h6381 (h6385.2.1.trans h6370.2.1.symm) (h6391.2.1.trans h6370.2.1.symm) ht_f_size hp1 hp2 h4578 h4577 h6374 h6380 h6387 h6393) (vc_X12_wayRight_W_73 hq0 h4582 h4583 h4588 h6350 h6372 (h6378.2.1.trans h6370.2.1.symm) h6381 (h6385.2.1.trans h6370.2.1.symm) (h6391.2.1.trans h6370.2.1.symm) ht_f_size hp1 hp2 h4578 h4577 h6374 h6380 h6387 h6393) (vc_X12_wayRight_W_74 hq0 h4582 h4583 h4588 h6350 h6372 (h6378.2.1.trans h6370.2.1.symm) h6381 (h6385.2.1.trans h6370.2.1.symm) (h6391.2.1.trans h6370.2.1.symm) ht_f_size hp1 hp2 h4578 h4577 h6374 h6380 h6387 h6393) (vc_X12_wayRight_W_75 hq0 h4582 h4583 h4588 h6350 h6372 (h6378.2.1.trans h6370.2.1.symm) h6381 (h6385.2.1.trans h6370.2.1.symm) (h6391.2.1.trans h6370.2.1.symm) ht_f_size hp1 hp2 h4578 h4577 h6374 h6380 h6387 h6393)) (vc_X12_wayRight_W_69 (nS h4585) h4582 h4583 h4588 h6350 h6381 (h6391.2.1.trans h6370.2.1.symm) hq0 h6372 (h6378.2.1.trans h6370.2.1.symm) (h6385.2.1.trans h6370.2.1.symm) ht_f_size hp1 hp2 h4578 h4577 h6374 h6380 h6387 h6393) (h6391.2.2.1 h6391.1)
      refine mr_iconst (pc := 63) (z := 0) dX12_wayRight_63 ?_
      exact mr_zret dX12_wayRight_64 rfl (rW (c := 0) (d := 1) (rR (x := 0)) rfl) (le_t rfl) (le_t rfl) hT mF.refl ⟨(rW (c := 0) (d := 1) (rR (x := 0)) rfl), mG.refl, ((h6378.2.2.1 h6378.1).2 h6381), trivial⟩
  refine mr_lvS (lv' := [(0, .ref 106), (1, iv p1), (2, iv p2), (3, iv p1), (4, iv 0)]) (List.forall_mem_cons.mpr ⟨rfl, List.forall_mem_cons.mpr ⟨rfl, List.forall_mem_cons.mpr ⟨rfl, List.forall_mem_cons.mpr ⟨rfl, List.forall_mem_cons.mpr ⟨rfl, fun _ h => absurd h List.not_mem_nil⟩⟩⟩⟩⟩) ?_
  exact L4576 1002 p1 0 trivial hp1 (rW (c := 0) (d := 250) (rR (x := 0)) rfl) (vc_X12_wayRight_W_76 hq0 ht_f_size hp1 hp2) (vc_X12_wayRight_W_77 hq0 ht_f_size hp1 hp2) (Chn.id rfl) (vc_X12_wayRight_W_78 hq0 ht_f_size hp1 hp2) (hQ f_size q_f_size ht_f_size)
def WP_X12_costRight_Wf (w : mW) (μ : mM) (p1 : Int) (p2 : Int) (Q : Int → mM → Prop) : Prop := ∀ f_size : Int, μ 106 1 = f_size → (0 ≤ f_size ∧ f_size ≤ 1000) → ((p2 = 4) → WP_X12_number_W w μ p1 (4) (fun z64 _ => ((-2147483648) ≤ z64 ∧ z64 ≤ 2147483647) → ((z64 < 0) → ∀ μ71 : mM, mU μ 126 ((963 : Int).toNat) (1000000 : Int) μ71 → mT w μ71 → Q (1 : Int) μ71) ∧ ((0 ≤ z64) → ((z64 ≤ 1000000) → ∀ μ79 : mM, mU μ 126 ((963 : Int).toNat) z64 μ79 → mT w μ79 → Q (1 : Int) μ79) ∧ ((1000000 < z64) → ∀ μ83 : mM, mU μ 126 ((963 : Int).toNat) (1000000 : Int) μ83 → mT w μ83 → Q (1 : Int) μ83)))) ∧ ((¬ p2 = 4) → Q (0 : Int) μ)
theorem vc_X12_costRight_Wf_1 {f_size p1 p2 : Int} (h0 : p2 = 4) (h1 : p1 + p2 ≤ f_size) (h2 : 0 ≤ f_size ∧ f_size ≤ 1000) (h3 : 0 ≤ p1 ∧ p1 ≤ 1000) (h4 : 0 ≤ p2 ∧ p2 ≤ 1000) : 4 ≤ p2 ∧ p2 ≤ 4 := by omega
theorem vc_X12_costRight_Wf_2 {f_size p1 p2 : Int} (h0 : p1 + p2 ≤ f_size) (h1 : p2 = 4) (h2 : 0 ≤ f_size ∧ f_size ≤ 1000) (h3 : 0 ≤ p1 ∧ p1 ≤ 1000) (h4 : 4 ≤ p2 ∧ p2 ≤ 4) : p1 + (4 : Int) ≤ f_size := by omega
theorem vc_X12_costRight_Wf_3 {z64 : Int} (h0 : z64 < 0) (h1 : (4 : Int) ≤ 2 → 0 ≤ z64 ∧ z64 ≤ 65535) (h2 : (-2147483648) ≤ z64 ∧ z64 ≤ 2147483647) : (-2147483648) ≤ z64 ∧ z64 ≤ (-1) := by omega
theorem vc_X12_costRight_Wf_4  : (-(2147483648 : Int) ≤ ((1000000 : Int) : Int) ∧ ((1000000 : Int) : Int) ≤ (2147483647 : Int)) ∧ (((963 : Int) : Int) % (40 : Int) = (0 : Int) → -(1 : Int) ≤ ((1000000 : Int) : Int) ∧ ((1000000 : Int) : Int) ≤ (9 : Int)) ∧ (((963 : Int) : Int) % (40 : Int) = (4 : Int) → (0 : Int) ≤ ((1000000 : Int) : Int) ∧ ((1000000 : Int) : Int) ≤ (20 : Int)) ∧ (((963 : Int) : Int) % (40 : Int) = (5 : Int) → (0 : Int) ≤ ((1000000 : Int) : Int) ∧ ((1000000 : Int) : Int) ≤ (8 : Int)) := by omega
theorem vc_X12_costRight_Wf_5  : (0 : Int) ≤ (963 : Int) ∧ (963 : Int) ≤ (963 : Int) ∧ (963 : Int) < (964 : Int) := by omega
theorem vc_X12_costRight_Wf_6 {z64 : Int} (h0 : 0 ≤ z64) (h1 : (4 : Int) ≤ 2 → 0 ≤ z64 ∧ z64 ≤ 65535) (h2 : (-2147483648) ≤ z64 ∧ z64 ≤ 2147483647) : 0 ≤ z64 ∧ z64 ≤ 2147483647 := by omega
theorem vc_X12_costRight_Wf_7 {z64 : Int} (h0 : z64 ≤ 1000000) (h1 : (4 : Int) ≤ 2 → 0 ≤ z64 ∧ z64 ≤ 65535) (h2 : 0 ≤ z64) (h3 : 0 ≤ z64 ∧ z64 ≤ 2147483647) : 0 ≤ z64 ∧ z64 ≤ 1000000 := by omega
theorem vc_X12_costRight_Wf_8 {z64 : Int} (h0 : (4 : Int) ≤ 2 → 0 ≤ z64 ∧ z64 ≤ 65535) (h1 : 0 ≤ z64) (h2 : z64 ≤ 1000000) (h3 : 0 ≤ z64 ∧ z64 ≤ 1000000) : (-2147483648 ≤ z64 ∧ z64 ≤ 2147483647) ∧ ((963 : Int) % 40 = 0 → -1 ≤ z64 ∧ z64 ≤ 9) ∧ ((963 : Int) % 40 = 4 → 0 ≤ z64 ∧ z64 ≤ 20) ∧ ((963 : Int) % 40 = 5 → 0 ≤ z64 ∧ z64 ≤ 8) := by omega
theorem vc_X12_costRight_Wf_9 {z64 : Int} (h0 : 1000000 < z64) (h1 : (4 : Int) ≤ 2 → 0 ≤ z64 ∧ z64 ≤ 65535) (h2 : 0 ≤ z64) (h3 : 0 ≤ z64 ∧ z64 ≤ 2147483647) : 1000001 ≤ z64 ∧ z64 ≤ 2147483647 := by omega
set_option maxRecDepth 4000 in
set_option maxHeartbeats 4000000 in
theorem c_X12_costRight_Wf {l : Launch} {D : va_G} {c : Nat → ClassId} {H0 : Heap} {sa : Nat × Nat × (Nat → Int32)} {w : mW} {μ : mM} (hw : mWF w) (hT : mT w μ) {p1 : Int} (hp1 : 0 ≤ p1 ∧ p1 ≤ 1000) {p2 : Int} (hp2 : 0 ≤ p2 ∧ p2 ≤ 1000) {f_size : Int} (q_f_size : μ 106 1 = f_size) (hq0 : p1 + p2 ≤ f_size) {Q : Int → mM → Prop} (hQ : WP_X12_costRight_Wf w μ p1 p2 Q) : sC (gG l D c H0 sa) mX12_costRight 3 0 0 [.ref 106, iv p1, iv p2] (mk w μ) (qI w [126999] μ (fun z μ1 => (0 ≤ z ∧ z ≤ 1) ∧ mG [(963, 964)] μ μ1 ∧ Q z μ1 ∧ True)) := by
  refine sC.of rfl (by decide) (le_t rfl) ?_
  have ht_f_size : (0 ≤ f_size ∧ f_size ≤ 1000) := by rw [← q_f_size]; exact hT 106 106 (A_106 hw) 1
  refine mr_lvE (lv' := [(0, .ref 106), (1, iv p1), (2, iv p2)]) rfl ?_
  refine mr_iload_n (pc := 0) (z := p2) dX12_costRight_0 rfl rfl ?_
  refine mr_iconst (pc := 1) (z := 4) dX12_costRight_1 ?_
  refine mr_icmp_eq (pc := 2) (tgt := 7) dX12_costRight_2 (by decide) (r32 hp2 rfl) (r32 (rR (x := 4)) rfl) (fun h58 => ?_) (fun h58 => ?_)
  · have h59 : 4 ≤ p2 ∧ p2 ≤ 4 := (vc_X12_costRight_Wf_1 h58 hq0 ht_f_size hp1 hp2)
    refine sv_aload_n (pc := 7) dX12_costRight_7 rfl rfl ?_
    refine mr_iload_n (pc := 8) (z := p1) dX12_costRight_8 rfl rfl ?_
    refine mr_iconst (pc := 9) (z := 4) dX12_costRight_9 ?_
    refine mr_cVP (pc := 10) (c_X12_number_W hw hT hp1 (rW (c := 0) (d := 4) (rR (x := 4)) rfl) q_f_size (vc_X12_costRight_Wf_2 hq0 h58 ht_f_size hp1 h59) ((hQ f_size q_f_size ht_f_size).1 h58)) (gOk _ _ _ _ _) dX12_costRight_10 (tX12_number _ _ _ _ _) ⟨wV_X12_number, wL_X12_number⟩ wM_X12_623 (gCX12 _ _ _ _ _) rfl (A_106 hw) rfl ⟨le_t rfl, le_t rfl⟩ ⟨le_t rfl, le_t rfl⟩ rfl (le_t rfl) fun z64 h63 => ?_
    refine mr_istore_n (pc := 13) (lv' := [(3, iv z64), (0, .ref 106), (1, iv p1), (2, iv p2)]) dX12_costRight_13 rfl (by decide) rfl ?_
    refine sv_aload_n (pc := 14) dX12_costRight_14 rfl rfl ?_
    refine gf_X12_32 (pc := 15) dX12_costRight_15 wF_X12_148 (A_106 hw) hT ?_
    refine mr_sipush (pc := 18) (z := 963) dX12_costRight_18 (by decide) ?_
    refine mr_iload_n (pc := 21) (z := z64) dX12_costRight_21 rfl rfl ?_
    refine mr_if_lt (pc := 22) (tgt := 32) dX12_costRight_22 (by decide) h63.1 (fun h69 => ?_) (fun h69 => ?_)
    · have h70 : (-2147483648) ≤ z64 ∧ z64 ≤ (-1) := (vc_X12_costRight_Wf_3 h69 h63.2.1 h63.1)
      refine mr_ldcw (pc := 32) (z := 1000000) dX12_costRight_32 wG_X12_291 (by decide) ?_
      refine sv_goto (pc := 35) (tgt := 39) dX12_costRight_35 (by decide) ?_
      refine ss_126 (pc := 39) dX12_costRight_39 (A_126 hw) hT (rIx (n := 84000) (rR (x := 963)) rfl) vc_X12_costRight_Wf_4 fun μ71 u72 T73 => ?_
      refine mr_iconst (pc := 40) (z := 1) dX12_costRight_40 ?_
      exact mr_zret dX12_costRight_41 rfl (rW (c := 0) (d := 1) (rR (x := 1)) rfl) (le_t rfl) (le_t rfl) T73 (mF.up mF.refl (A_126 hw) u72 rfl) ⟨(rW (c := 0) (d := 1) (rR (x := 1)) rfl), (mG.up mG.refl u72 List.mem_cons_self vc_X12_costRight_Wf_5), (((h63.2.2.1 h63.1).1 h69) μ71 u72 T73), trivial⟩
    have h74 : 0 ≤ z64 ∧ z64 ≤ 2147483647 := (vc_X12_costRight_Wf_6 h69 h63.2.1 h63.1)
    refine mr_iload_n (pc := 25) (z := z64) dX12_costRight_25 rfl rfl ?_
    refine mr_ldcw (pc := 26) (z := 1000000) dX12_costRight_26 wG_X12_291 (by decide) ?_
    refine mr_icmp_le (pc := 29) (tgt := 38) dX12_costRight_29 (by decide) (r32 h74 rfl) (r32 (rR (x := 1000000)) rfl) (fun h77 => ?_) (fun h77 => ?_)
    · have h78 : 0 ≤ z64 ∧ z64 ≤ 1000000 := (vc_X12_costRight_Wf_7 h77 h63.2.1 h69 h74)
      refine mr_iload_n (pc := 38) (z := z64) dX12_costRight_38 rfl rfl ?_
      refine ss_126 (pc := 39) dX12_costRight_39 (A_126 hw) hT (rIx (n := 84000) (rR (x := 963)) rfl) (vc_X12_costRight_Wf_8 h63.2.1 h69 h77 h78) fun μ79 u80 T81 => ?_
      refine mr_iconst (pc := 40) (z := 1) dX12_costRight_40 ?_
      exact mr_zret dX12_costRight_41 rfl (rW (c := 0) (d := 1) (rR (x := 1)) rfl) (le_t rfl) (le_t rfl) T81 (mF.up mF.refl (A_126 hw) u80 rfl) ⟨(rW (c := 0) (d := 1) (rR (x := 1)) rfl), (mG.up mG.refl u80 List.mem_cons_self vc_X12_costRight_Wf_5), ((((h63.2.2.1 h63.1).2 h69).1 h77) μ79 u80 T81), trivial⟩
    have h82 : 1000001 ≤ z64 ∧ z64 ≤ 2147483647 := (vc_X12_costRight_Wf_9 h77 h63.2.1 h69 h74)
    refine mr_ldcw (pc := 32) (z := 1000000) dX12_costRight_32 wG_X12_291 (by decide) ?_
    refine sv_goto (pc := 35) (tgt := 39) dX12_costRight_35 (by decide) ?_
    refine ss_126 (pc := 39) dX12_costRight_39 (A_126 hw) hT (rIx (n := 84000) (rR (x := 963)) rfl) vc_X12_costRight_Wf_4 fun μ83 u84 T85 => ?_
    refine mr_iconst (pc := 40) (z := 1) dX12_costRight_40 ?_
    exact mr_zret dX12_costRight_41 rfl (rW (c := 0) (d := 1) (rR (x := 1)) rfl) (le_t rfl) (le_t rfl) T85 (mF.up mF.refl (A_126 hw) u84 rfl) ⟨(rW (c := 0) (d := 1) (rR (x := 1)) rfl), (mG.up mG.refl u84 List.mem_cons_self vc_X12_costRight_Wf_5), ((((h63.2.2.1 h63.1).2 h69).2 h77) μ83 u84 T85), trivial⟩
  refine mr_iconst (pc := 5) (z := 0) dX12_costRight_5 ?_
  exact mr_zret dX12_costRight_6 rfl (rW (c := 0) (d := 1) (rR (x := 0)) rfl) (le_t rfl) (le_t rfl) hT mF.refl ⟨(rW (c := 0) (d := 1) (rR (x := 0)) rfl), mG.refl, ((hQ f_size q_f_size ht_f_size).2 h58), trivial⟩
def WL_X12_marksRight_Wf_1 (w : mW) (μ : mM) (p1 : Int) (p2 : Int) (Q : Int → mM → Prop) (rec1 : (Int × mM) → Prop) (s : (Int × mM)) : Prop := ∀ z725 : Int, ∀ μ726 : mM, s = (z725, μ726) → (0 ≤ z725 ∧ z725 ≤ 1003) → mT w μ726 → mF [106101, 126999, 173999] w μ μ726 → ((p2 ≤ z725) → Q (1 : Int) μ726) ∧ ((z725 < p2) → WP_X12_number_W w μ726 ((p1 + z725) + 2) (2) (fun z772 _ => ((-2147483648) ≤ z772 ∧ z772 ≤ 2147483647) → ∀ z773 : Int, μ726 106 101 = z773 → (0 ≤ z773 ∧ z773 ≤ 8) → ((8 ≤ z773) → rec1 ((z725 + 4), μ726)) ∧ ((z773 < 8) → WP_X12_marked_W w μ726 (24) z772 (fun z802 _ => (0 ≤ z802 ∧ z802 ≤ 1) → ((¬ z802 = 0) → rec1 ((z725 + 4), μ726)) ∧ ((z802 = 0) → WP_X12_addMark_W w μ726 (24) z772 (fun μ818 => mT w μ818 → mF [126999] w μ726 μ818 → ∀ μ822 : mM, mU μ818 173 (z773.toNat) z772 μ822 → mT w μ822 → ∀ μ825 : mM, mU μ822 106 (101) (z773 + 1) μ825 → mT w μ825 → rec1 ((z725 + 4), μ825)))))))
def WP_X12_marksRight_Wf (w : mW) (μ : mM) (p1 : Int) (p2 : Int) (Q : Int → mM → Prop) : Prop := ∀ f_size : Int, μ 106 1 = f_size → (0 ≤ f_size ∧ f_size ≤ 1000) → ∀ z432 : Int, p2 % 4 = z432 → ((z432 = 0) → loopF (WL_X12_marksRight_Wf_1 w μ p1 p2 Q) False 1005 ((0 : Int), μ)) ∧ ((¬ z432 = 0) → Q (0 : Int) μ)
theorem vc_X12_marksRight_Wf_3 {z725 : Int} (h0 : (1004 - z725) < ((0 : Nat) : Int)) (h1 : z725 % 4 = 0) (h2 : 0 ≤ z725 ∧ z725 ≤ 1003) : False := by omega
theorem vc_X12_marksRight_Wf_4  : (961 : Int) ≤ (961 : Int) ∧ (1000 : Int) ≤ (1000 : Int) := by omega
theorem vc_X12_marksRight_Wf_5 {f_size p1 p2 z432 z725 : Int} (h0 : z725 < p2) (h1 : p1 + p2 ≤ f_size) (h2 : p2 % 4 = z432) (h3 : z725 % 4 = 0) (h4 : 0 ≤ f_size ∧ f_size ≤ 1000) (h5 : 0 ≤ p1 ∧ p1 ≤ 1000) (h6 : 0 ≤ p2 ∧ p2 ≤ 1000) (h7 : 0 ≤ z432 ∧ z432 ≤ 0) (h8 : 0 ≤ z725 ∧ z725 ≤ 1003) : 0 ≤ z725 ∧ z725 ≤ 999 := by omega
theorem vc_X12_marksRight_Wf_6 {f_size p1 p2 z432 z725 : Int} (h0 : z725 < p2) (h1 : p1 + p2 ≤ f_size) (h2 : p2 % 4 = z432) (h3 : z725 % 4 = 0) (h4 : 0 ≤ f_size ∧ f_size ≤ 1000) (h5 : 0 ≤ p1 ∧ p1 ≤ 1000) (h6 : 0 ≤ p2 ∧ p2 ≤ 1000) (h7 : 0 ≤ z432 ∧ z432 ≤ 0) (h8 : 0 ≤ z725 ∧ z725 ≤ 999) : 1 ≤ p2 ∧ p2 ≤ 1000 := by omega
theorem vc_X12_marksRight_Wf_7 {f_size p1 p2 z432 z725 : Int} (h0 : p1 + p2 ≤ f_size) (h1 : z725 % 4 = 0) (h2 : z725 < p2) (h3 : p2 % 4 = z432) (h4 : 0 ≤ f_size ∧ f_size ≤ 1000) (h5 : 0 ≤ p1 ∧ p1 ≤ 1000) (h6 : 1 ≤ p2 ∧ p2 ≤ 1000) (h7 : 0 ≤ z432 ∧ z432 ≤ 0) (h8 : 0 ≤ z725 ∧ z725 ≤ 999) : 0 ≤ ((p1 + z725) + 2) ∧ ((p1 + z725) + 2) ≤ 1000 := by omega
theorem vc_X12_marksRight_Wf_8 {f_size p1 p2 z432 z725 : Int} (h0 : p1 + p2 ≤ f_size) (h1 : z725 % 4 = 0) (h2 : z725 < p2) (h3 : p2 % 4 = z432) (h4 : 0 ≤ f_size ∧ f_size ≤ 1000) (h5 : 0 ≤ p1 ∧ p1 ≤ 1000) (h6 : 1 ≤ p2 ∧ p2 ≤ 1000) (h7 : 0 ≤ z432 ∧ z432 ≤ 0) (h8 : 0 ≤ z725 ∧ z725 ≤ 999) : ((p1 + z725) + 2) + (2 : Int) ≤ f_size := by omega
theorem vc_X12_marksRight_Wf_10 {f_size p1 p2 z432 z725 : Int} (h0 : z725 % 4 = 0) (h1 : z725 < p2) (h2 : p1 + p2 ≤ f_size) (h3 : p2 % 4 = z432) (h4 : 0 ≤ f_size ∧ f_size ≤ 1000) (h5 : 0 ≤ p1 ∧ p1 ≤ 1000) (h6 : 1 ≤ p2 ∧ p2 ≤ 1000) (h7 : 0 ≤ z432 ∧ z432 ≤ 0) (h8 : 0 ≤ z725 ∧ z725 ≤ 999) : (z725 + 4) % 4 = 0 := by omega
theorem vc_X12_marksRight_Wf_11 {N f_size p1 p2 z432 z725 : Int} (h0 : (1004 - z725) < N + 1) (h1 : z725 % 4 = 0) (h2 : z725 < p2) (h3 : p1 + p2 ≤ f_size) (h4 : p2 % 4 = z432) (h5 : 0 ≤ f_size ∧ f_size ≤ 1000) (h6 : 0 ≤ p1 ∧ p1 ≤ 1000) (h7 : 1 ≤ p2 ∧ p2 ≤ 1000) (h8 : 0 ≤ z432 ∧ z432 ≤ 0) (h9 : 0 ≤ z725 ∧ z725 ≤ 999) : (1004 - (z725 + 4)) < N := by omega
theorem vc_X12_marksRight_Wf_15  : (961 : Int) ≤ (((40 : Int) * (24 : Int)) + (1 : Int)) ∧ (((40 : Int) * (24 : Int)) + (40 : Int)) ≤ (1000 : Int) := by omega
theorem vc_X12_marksRight_Wf_16  : ((0 : Int) : Int) % (4 : Int) = (0 : Int) := by omega
theorem vc_X12_marksRight_Wf_17  : (1004 - 0) < ((1005 : Nat) : Int) := by omega
set_option maxRecDepth 4000 in
set_option maxHeartbeats 4000000 in
theorem c_X12_marksRight_Wf {l : Launch} {D : va_G} {c : Nat → ClassId} {H0 : Heap} {sa : Nat × Nat × (Nat → Int32)} {w : mW} {μ : mM} (hw : mWF w) (hT : mT w μ) {p1 : Int} (hp1 : 0 ≤ p1 ∧ p1 ≤ 1000) {p2 : Int} (hp2 : 0 ≤ p2 ∧ p2 ≤ 1000) {f_size : Int} (q_f_size : μ 106 1 = f_size) (hq0 : p1 + p2 ≤ f_size) {Q : Int → mM → Prop} (hQ : WP_X12_marksRight_Wf w μ p1 p2 Q) : sC (gG l D c H0 sa) mX12_marksRight 3 0 0 [.ref 106, iv p1, iv p2] (mk w μ) (qI w [106101, 126999, 173999] μ (fun z μ1 => (0 ≤ z ∧ z ≤ 1) ∧ mG [(961, 1000)] μ μ1 ∧ Q z μ1 ∧ True)) := by
  refine sC.of rfl (by decide) (le_t rfl) ?_
  have ht_f_size : (0 ≤ f_size ∧ f_size ≤ 1000) := by rw [← q_f_size]; exact hT 106 106 (A_106 hw) 1
  refine mr_lvE (lv' := [(0, .ref 106), (1, iv p1), (2, iv p2)]) rfl ?_
  refine mr_iload_n (pc := 0) (z := p2) dX12_marksRight_0 rfl rfl ?_
  refine mr_iconst (pc := 1) (z := 4) dX12_marksRight_1 ?_
  refine mr_irem (pc := 2) (x := p2) (y := 4) dX12_marksRight_2 (rW (c := 0) (d := 2147483647) hp2 rfl) vc_X12_feed_w_13 ?_
  refine mr_gen (P := fun z => 0 ≤ z ∧ z ≤ 3) (rMod hp2 rfl) fun z432 q433 h434 => ?_
  refine mr_if_eq (pc := 3) (tgt := 8) dX12_marksRight_3 (by decide) (r32 h434 rfl) (fun h435 => ?_) (fun h435 => ?_)
  · have h436 : 0 ≤ z432 ∧ z432 ≤ 0 := (vc_X3_readMarks_W_2 h435 q433 hp2 h434)
    refine mr_iconst (pc := 8) (z := 0) dX12_marksRight_8 ?_
    refine mr_istore_n (pc := 9) (lv' := [(3, iv 0), (0, .ref 106), (1, iv p1), (2, iv p2)]) dX12_marksRight_9 rfl (by decide) rfl ?_
    have L727 : ∀ (nL727 : Nat) (z725 : Int) (μ726 : mM), mT w μ726 → mF [106101, 126999, 173999] w μ μ726 → mG [(961, 1000)] μ μ726 → (0 ≤ z725 ∧ z725 ≤ 1003) → (z725 % 4 = 0) → (1004 - z725) < (nL727 : Int) → loopF (WL_X12_marksRight_Wf_1 w μ p1 p2 Q) False nL727 (z725, μ726) → sV (gG l D c H0 sa) mX12_marksRight (sRm 3 0 0) (sZ (gG l D c H0 sa) 0 0 (qI w [106101, 126999, 173999] μ (fun z μ1 => (0 ≤ z ∧ z ≤ 1) ∧ mG [(961, 1000)] μ μ1 ∧ Q z μ1 ∧ True))) 10 [(0, .ref 106), (1, iv p1), (2, iv p2), (3, iv z725)] [] (mk w μ726) 0 0 := by
      intro nL727
      induction nL727 with
      | zero => intro z725 μ726 T729 F730 G731 h728 h732 h733 W734; exact ((vc_X12_marksRight_Wf_3 h733 h732 h728)).elim
      | succ nL727 ih735 =>
        intro z725 μ726 T729 F730 G731 h728 h732 h733 W734
        refine mr_iload_n (pc := 10) (z := z725) dX12_marksRight_10 rfl rfl ?_
        refine mr_iload_n (pc := 11) (z := p2) dX12_marksRight_11 rfl rfl ?_
        refine mr_icmp_ge (pc := 12) (tgt := 82) dX12_marksRight_12 (by decide) (r32 h728 rfl) (r32 hp2 rfl) (fun h765 => ?_) (fun h765 => ?_)
        · refine mr_iconst (pc := 82) (z := 1) dX12_marksRight_82 ?_
          exact mr_zret dX12_marksRight_83 rfl (rW (c := 0) (d := 1) (rR (x := 1)) rfl) (le_t rfl) (le_t rfl) T729 (mF.call mF.refl F730 rfl) ⟨(rW (c := 0) (d := 1) (rR (x := 1)) rfl), (mG.call mG.refl G731 (List.forall_mem_cons.mpr ⟨⟨_, List.mem_cons_self, vc_X12_marksRight_Wf_4⟩, (fun _ h => absurd h List.not_mem_nil)⟩)), ((W734 z725 μ726 rfl h728 T729 F730).1 h765), trivial⟩
        have h766 : 0 ≤ z725 ∧ z725 ≤ 999 := (vc_X12_marksRight_Wf_5 h765 hq0 q433 h732 ht_f_size hp1 hp2 h436 h728)
        have h767 : 1 ≤ p2 ∧ p2 ≤ 1000 := (vc_X12_marksRight_Wf_6 h765 hq0 q433 h732 ht_f_size hp1 hp2 h436 h766)
        refine sv_aload_n (pc := 15) dX12_marksRight_15 rfl rfl ?_
        refine mr_iload_n (pc := 16) (z := p1) dX12_marksRight_16 rfl rfl ?_
        refine mr_iload_n (pc := 17) (z := z725) dX12_marksRight_17 rfl rfl ?_
        refine mr_iadd (pc := 18) (x := p1) (y := z725) dX12_marksRight_18 ?_
        refine mr_iconst (pc := 19) (z := 2) dX12_marksRight_19 ?_
        refine mr_iadd (pc := 20) (x := (p1 + z725)) (y := 2) dX12_marksRight_20 ?_
        refine mr_iconst (pc := 21) (z := 2) dX12_marksRight_21 ?_
        refine mr_cVP (pc := 22) (c_X12_number_W hw T729 (vc_X12_marksRight_Wf_7 hq0 h732 h765 q433 ht_f_size hp1 h767 h436 h766) (rW (c := 0) (d := 4) (rR (x := 2)) rfl) (F730.f (A_106 hw) rfl q_f_size) (vc_X12_marksRight_Wf_8 hq0 h732 h765 q433 ht_f_size hp1 h767 h436 h766) ((W734 z725 μ726 rfl h728 T729 F730).2 h765)) (gOk _ _ _ _ _) dX12_marksRight_22 (tX12_number _ _ _ _ _) ⟨wV_X12_number, wL_X12_number⟩ wM_X12_623 (gCX12 _ _ _ _ _) rfl (A_106 hw) rfl ⟨le_t rfl, le_t rfl⟩ ⟨le_t rfl, le_t rfl⟩ rfl (le_t rfl) fun z772 h771 => ?_
        refine mr_istore (pc := 25) (lv' := [(4, iv z772), (0, .ref 106), (1, iv p1), (2, iv p2), (3, iv z725)]) dX12_marksRight_25 (by decide) rfl ?_
        refine sv_aload_n (pc := 27) dX12_marksRight_27 rfl rfl ?_
        refine gf_X12_101 (pc := 28) dX12_marksRight_28 wF_X12_637 (A_106 hw) T729 fun z773 q774 h775 => ?_
        refine mr_bipush (pc := 31) (z := 8) dX12_marksRight_31 (by decide) ?_
        refine mr_icmp_ge (pc := 33) (tgt := 76) dX12_marksRight_33 (by decide) (r32 h775 rfl) (r32 (rR (x := 8)) rfl) (fun h795 => ?_) (fun h795 => ?_)
        · have h796 : 8 ≤ z773 ∧ z773 ≤ 8 := (vc_X12_same_W_18 h795 h775)
          refine mr_iinc (pc := 76) (lv' := [(3, iv (z725 + 4)), (4, iv z772), (0, .ref 106), (1, iv p1), (2, iv p2)]) dX12_marksRight_76 rfl (by decide) rfl ?_
          refine sv_goto (pc := 79) (tgt := 10) dX12_marksRight_79 (by decide) ?_
          refine mr_lvS (lv' := [(0, .ref 106), (1, iv p1), (2, iv p2), (3, iv (z725 + 4))]) (List.forall_mem_cons.mpr ⟨rfl, List.forall_mem_cons.mpr ⟨rfl, List.forall_mem_cons.mpr ⟨rfl, List.forall_mem_cons.mpr ⟨rfl, fun _ h => absurd h List.not_mem_nil⟩⟩⟩⟩) ?_
          exact ih735 (z725 + 4) μ726 T729 (mF.call mF.refl F730 rfl) (mG.call mG.refl G731 (List.forall_mem_cons.mpr ⟨⟨_, List.mem_cons_self, vc_X12_marksRight_Wf_4⟩, (fun _ h => absurd h List.not_mem_nil)⟩)) (rW (c := 0) (d := 1003) (rAdd (e := 4) (f := 1003) h766 (rR (x := 4)) rfl) rfl) (vc_X12_marksRight_Wf_10 h732 h765 hq0 q433 ht_f_size hp1 h767 h436 h766) (vc_X12_marksRight_Wf_11 (nS h733) h732 h765 hq0 q433 ht_f_size hp1 h767 h436 h766) (((h771.2.2.1 h771.1) z773 q774 h775).1 h795)
        have h797 : 0 ≤ z773 ∧ z773 ≤ 7 := (vc_X12_same_W_19 h795 h775)
        refine sv_aload_n (pc := 36) dX12_marksRight_36 rfl rfl ?_
        refine mr_bipush (pc := 37) (z := 24) dX12_marksRight_37 (by decide) ?_
        refine mr_iload (pc := 39) (z := z772) dX12_marksRight_39 rfl ?_
        refine mr_cVP (pc := 41) (c_X12_marked_W hw T729 (rW (c := 0) (d := 2099) (rR (x := 24)) rfl) h771.1 (((h771.2.2.1 h771.1) z773 q774 h775).2 h795)) (gOk _ _ _ _ _) dX12_marksRight_41 (tX12_marked _ _ _ _ _) ⟨wV_X12_marked, wL_X12_marked⟩ wM_X12_154 (gCX12 _ _ _ _ _) rfl (A_106 hw) rfl ⟨le_t rfl, le_t rfl⟩ ⟨le_t rfl, le_t rfl⟩ rfl (le_t rfl) fun z802 h801 => ?_
        refine mr_if_ne (pc := 44) (tgt := 76) dX12_marksRight_44 (by decide) (r32 h801.1 rfl) (fun h815 => ?_) (fun h815 => ?_)
        · have h816 : 1 ≤ z802 ∧ z802 ≤ 1 := (vc_X12_ring_24 h815 h801.1)
          refine mr_iinc (pc := 76) (lv' := [(3, iv (z725 + 4)), (4, iv z772), (0, .ref 106), (1, iv p1), (2, iv p2)]) dX12_marksRight_76 rfl (by decide) rfl ?_
          refine sv_goto (pc := 79) (tgt := 10) dX12_marksRight_79 (by decide) ?_
          refine mr_lvS (lv' := [(0, .ref 106), (1, iv p1), (2, iv p2), (3, iv (z725 + 4))]) (List.forall_mem_cons.mpr ⟨rfl, List.forall_mem_cons.mpr ⟨rfl, List.forall_mem_cons.mpr ⟨rfl, List.forall_mem_cons.mpr ⟨rfl, fun _ h => absurd h List.not_mem_nil⟩⟩⟩⟩) ?_
          exact ih735 (z725 + 4) μ726 T729 (mF.call mF.refl F730 rfl) (mG.call mG.refl G731 (List.forall_mem_cons.mpr ⟨⟨_, List.mem_cons_self, vc_X12_marksRight_Wf_4⟩, (fun _ h => absurd h List.not_mem_nil)⟩)) (rW (c := 0) (d := 1003) (rAdd (e := 4) (f := 1003) h766 (rR (x := 4)) rfl) rfl) (vc_X12_marksRight_Wf_10 h732 h765 hq0 q433 ht_f_size hp1 h767 h436 h766) (vc_X12_marksRight_Wf_11 (nS h733) h732 h765 hq0 q433 ht_f_size hp1 h767 h436 h766) ((h801.2.1 h801.1).1 h815)
        have h817 : 0 ≤ z802 ∧ z802 ≤ 0 := (vc_X12_ring_22 h815 h801.1)
        refine sv_aload_n (pc := 47) dX12_marksRight_47 rfl rfl ?_
        refine mr_bipush (pc := 48) (z := 24) dX12_marksRight_48 (by decide) ?_
        refine mr_iload (pc := 50) (z := z772) dX12_marksRight_50 rfl ?_
        refine mr_cVV (pc := 52) (c_X12_addMark_W hw T729 (rW (c := 0) (d := 2099) (rR (x := 24)) rfl) h771.1 ((h801.2.1 h801.1).2 h815)) (gOk _ _ _ _ _) dX12_marksRight_52 (tX12_addMark _ _ _ _ _) ⟨wV_X12_addMark, wL_X12_addMark⟩ wM_X12_401 (gCX12 _ _ _ _ _) rfl (A_106 hw) rfl ⟨le_t rfl, le_t rfl⟩ ⟨le_t rfl, le_t rfl⟩ rfl (le_t rfl) fun μ818 T819 F820 h821 => ?_
        refine sv_aload_n (pc := 55) dX12_marksRight_55 rfl rfl ?_
        refine gf_X12_100 (pc := 56) dX12_marksRight_56 wF_X12_481 (A_106 hw) T819 ?_
        refine sv_aload_n (pc := 59) dX12_marksRight_59 rfl rfl ?_
        refine gk_X12_101 (pc := 60) dX12_marksRight_60 wF_X12_637 (A_106 hw) (F820.f (A_106 hw) rfl q774) ?_
        refine mr_iload (pc := 63) (z := z772) dX12_marksRight_63 rfl ?_
        refine ss_173 (pc := 65) dX12_marksRight_65 (A_173 hw) T819 (rIx (n := 8) h797 rfl) h771.1 fun μ822 u823 T824 => ?_
        refine sv_aload_n (pc := 66) dX12_marksRight_66 rfl rfl ?_
        refine sv_dup (pc := 67) dX12_marksRight_67 rfl ?_
        refine gk_X12_101 (pc := 68) dX12_marksRight_68 wF_X12_637 (A_106 hw) (u823.f (Or.inl (mAt.ne (A_173 hw) (A_106 hw) rfl)) (F820.f (A_106 hw) rfl q774)) ?_
        refine mr_iconst (pc := 71) (z := 1) dX12_marksRight_71 ?_
        refine mr_iadd (pc := 72) (x := z773) (y := 1) dX12_marksRight_72 ?_
        refine pf_X12_101 (pc := 73) dX12_marksRight_73 wF_X12_637 (A_106 hw) T824 (rW (c := 0) (d := 8) (rAdd (e := 1) (f := 8) h797 (rR (x := 1)) rfl) rfl) fun μ825 u826 T827 => ?_
        refine mr_iinc (pc := 76) (lv' := [(3, iv (z725 + 4)), (4, iv z772), (0, .ref 106), (1, iv p1), (2, iv p2)]) dX12_marksRight_76 rfl (by decide) rfl ?_
        refine sv_goto (pc := 79) (tgt := 10) dX12_marksRight_79 (by decide) ?_
        refine mr_lvS (lv' := [(0, .ref 106), (1, iv p1), (2, iv p2), (3, iv (z725 + 4))]) (List.forall_mem_cons.mpr ⟨rfl, List.forall_mem_cons.mpr ⟨rfl, List.forall_mem_cons.mpr ⟨rfl, List.forall_mem_cons.mpr ⟨rfl, fun _ h => absurd h List.not_mem_nil⟩⟩⟩⟩) ?_
        exact ih735 (z725 + 4) μ825 T827 (mF.up (mF.up (mF.call (mF.call mF.refl F730 rfl) F820 rfl) (A_173 hw) u823 rfl) (A_106 hw) u826 rfl) (mG.upO (mG.upO (mG.call (mG.call mG.refl G731 (List.forall_mem_cons.mpr ⟨⟨_, List.mem_cons_self, vc_X12_marksRight_Wf_4⟩, (fun _ h => absurd h List.not_mem_nil)⟩)) h821.1 (List.forall_mem_cons.mpr ⟨⟨_, List.mem_cons_self, vc_X12_marksRight_Wf_15⟩, (fun _ h => absurd h List.not_mem_nil)⟩)) u823 rfl) u826 rfl) (rW (c := 0) (d := 1003) (rAdd (e := 4) (f := 1003) h766 (rR (x := 4)) rfl) rfl) (vc_X12_marksRight_Wf_10 h732 h765 hq0 q433 ht_f_size hp1 h767 h436 h766) (vc_X12_marksRight_Wf_11 (nS h733) h732 h765 hq0 q433 ht_f_size hp1 h767 h436 h766) (((h821.2.1 T819 F820) μ822 u823 T824) μ825 u826 T827)
    refine mr_lvS (lv' := [(0, .ref 106), (1, iv p1), (2, iv p2), (3, iv 0)]) (List.forall_mem_cons.mpr ⟨rfl, List.forall_mem_cons.mpr ⟨rfl, List.forall_mem_cons.mpr ⟨rfl, List.forall_mem_cons.mpr ⟨rfl, fun _ h => absurd h List.not_mem_nil⟩⟩⟩⟩) ?_
    exact L727 1005 0 μ hT mF.refl mG.refl (rW (c := 0) (d := 1003) (rR (x := 0)) rfl) vc_X12_marksRight_Wf_16 vc_X12_marksRight_Wf_17 (((hQ f_size q_f_size ht_f_size) z432 q433).1 h435)
  have h828 : 1 ≤ z432 ∧ z432 ≤ 3 := (vc_X3_readMarks_W_12 h435 q433 hp2 h434)
  refine mr_iconst (pc := 6) (z := 0) dX12_marksRight_6 ?_
  exact mr_zret dX12_marksRight_7 rfl (rW (c := 0) (d := 1) (rR (x := 0)) rfl) (le_t rfl) (le_t rfl) hT mF.refl ⟨(rW (c := 0) (d := 1) (rR (x := 0)) rfl), mG.refl, (((hQ f_size q_f_size ht_f_size) z432 q433).2 h435), trivial⟩
def WJ_X12_attributes_W_5 (w : mW) (rec1 : (Int × mM) → Prop) (z1201 : Int) (z1233 : Int) (z1265 : Int) (μ1365 : mM) (z1439 : Int) (μ1441 : mM) : Prop := (0 ≤ z1439 ∧ z1439 ≤ 1) → mT w μ1441 → mF [106093, 106098, 106099, 106101, 126999, 170999, 173999] w μ1365 μ1441 → ∀ z1448 : Int, μ1441 106 93 = z1448 → (0 ≤ z1448 ∧ z1448 ≤ 400) → ((¬ z1439 = 0) → rec1 (((z1201 + z1233) + z1265), μ1441)) ∧ ((z1439 = 0) → WP_X12_fails_W w μ1441 (2) z1201 (fun μ1461 => mT w μ1461 → mF [172999] w μ1441 μ1461 → rec1 (((z1201 + z1233) + z1265), μ1461)))
def WJ_X12_attributes_W_6 (w : mW) (rec1 : (Int × mM) → Prop) (z1201 : Int) (f_c : Int) (z1233 : Int) (z1255 : Int) (z1260 : Int) (z1265 : Int) (μ1365 : mM) (z1472 : Int) : Prop := (0 ≤ z1472 ∧ z1472 ≤ 1) → ((z1472 = 0) → (WJ_X12_attributes_W_5 w rec1 z1201 z1233 z1265 μ1365) z1472 μ1365) ∧ ((¬ z1472 = 0) → ∀ z1479 : Int, bAnd z1255 (64 : Int) = z1479 → ((z1479 = 0) → (WJ_X12_attributes_W_5 w rec1 z1201 z1233 z1265 μ1365) z1472 μ1365) ∧ ((¬ z1479 = 0) → ∀ μ1485 : mM, mU μ1365 170 (f_c.toNat) z1260 μ1485 → mT w μ1485 → ∀ μ1488 : mM, mU μ1485 106 (93) (f_c + 1) μ1488 → mT w μ1488 → (WJ_X12_attributes_W_5 w rec1 z1201 z1233 z1265 μ1365) z1472 μ1488))
def WJ_X12_attributes_W_7 (w : mW) (rec1 : (Int × mM) → Prop) (z1201 : Int) (z1233 : Int) (z1265 : Int) (μ1365 : mM) (z1530 : Int) (μ1532 : mM) : Prop := (0 ≤ z1530 ∧ z1530 ≤ 1) → mT w μ1532 → mF [106098, 106099, 106101, 126999, 173999] w μ1365 μ1532 → (WJ_X12_attributes_W_5 w rec1 z1201 z1233 z1265 μ1365) z1530 μ1532
def WJ_X12_attributes_W_4 (w : mW) (rec1 : (Int × mM) → Prop) (z1201 : Int) (f_c : Int) (z1233 : Int) (z1255 : Int) (z1260 : Int) (z1265 : Int) (μ1365 : mM) (z1372 : Int) : Prop := ((-1) ≤ z1372 ∧ z1372 ≤ 192) → ((z1372 < 0) → ∀ z1467 : Int, bAnd z1255 (128 : Int) = z1467 → ((z1467 = 0) → (WJ_X12_attributes_W_6 w rec1 z1201 f_c z1233 z1255 z1260 z1265 μ1365) (0 : Int)) ∧ ((¬ z1467 = 0) → (WJ_X12_attributes_W_6 w rec1 z1201 f_c z1233 z1255 z1260 z1265 μ1365) (1 : Int))) ∧ ((0 ≤ z1372) → ∀ z1495 : Int, bAnd z1255 ((-49) : Int) = z1495 → ((¬ z1495 = z1372) → (WJ_X12_attributes_W_7 w rec1 z1201 z1233 z1265 μ1365) (0 : Int) μ1365) ∧ ((z1495 = z1372) → ((¬ z1260 = 1) → ((¬ z1260 = 2) → ((¬ z1260 = 4) → WP_X12_marksRight_Wf w μ1365 (z1201 + z1233) z1265 (fun z1547 μ1543 => mT w μ1543 → mF [106101, 126999, 173999] w μ1365 μ1543 → (0 ≤ z1547 ∧ z1547 ≤ 1) → ((z1547 = 0) → (WJ_X12_attributes_W_7 w rec1 z1201 z1233 z1265 μ1365) (0 : Int) μ1543) ∧ ((¬ z1547 = 0) → (WJ_X12_attributes_W_7 w rec1 z1201 z1233 z1265 μ1365) (1 : Int) μ1543))) ∧ ((z1260 = 4) → WP_X12_costRight_Wf w μ1365 (z1201 + z1233) z1265 (fun z1556 μ1552 => mT w μ1552 → mF [126999] w μ1365 μ1552 → (0 ≤ z1556 ∧ z1556 ≤ 1) → ((z1556 = 0) → (WJ_X12_attributes_W_7 w rec1 z1201 z1233 z1265 μ1365) (0 : Int) μ1552) ∧ ((¬ z1556 = 0) → (WJ_X12_attributes_W_7 w rec1 z1201 z1233 z1265 μ1365) (1 : Int) μ1552)))) ∧ ((z1260 = 2) → WP_X12_wayRight_W w μ1365 (z1201 + z1233) z1265 (fun z1565 μ1561 => mT w μ1561 → mF [106099, 126999] w μ1365 μ1561 → (0 ≤ z1565 ∧ z1565 ≤ 1) → ((z1565 = 0) → (WJ_X12_attributes_W_7 w rec1 z1201 z1233 z1265 μ1365) (0 : Int) μ1561) ∧ ((¬ z1565 = 0) → (WJ_X12_attributes_W_7 w rec1 z1201 z1233 z1265 μ1365) (1 : Int) μ1561)))) ∧ ((z1260 = 1) → WP_X12_originRight_Wf w μ1365 (z1201 + z1233) z1265 (fun z1574 μ1570 => mT w μ1570 → mF [106098, 126999] w μ1365 μ1570 → (0 ≤ z1574 ∧ z1574 ≤ 1) → ((z1574 = 0) → (WJ_X12_attributes_W_7 w rec1 z1201 z1233 z1265 μ1365) (0 : Int) μ1570) ∧ ((¬ z1574 = 0) → (WJ_X12_attributes_W_7 w rec1 z1201 z1233 z1265 μ1365) (1 : Int) μ1570)))))
def WJ_X12_attributes_W_3 (w : mW) (p2 : Int) (Q : mM → Prop) (rec1 : (Int × mM) → Prop) (z1201 : Int) (μ1202 : mM) (f_c : Int) (z1233 : Int) : Prop := (3 ≤ z1233 ∧ z1233 ≤ 4) → ((p2 < (z1201 + z1233)) → WP_X12_fails_W w μ1202 (2) z1201 (fun μ1238 => mT w μ1238 → mF [172999] w μ1202 μ1238 → Q μ1238)) ∧ (((z1201 + z1233) ≤ p2) → WP_X12_number_Wf2 w μ1202 (z1201 + 2) (z1233 - 2) (fun z1248 _ => (0 ≤ z1248 ∧ z1248 ≤ 65535) → ((((z1201 + z1233) + z1248) ≤ p2) → WP_X12_byteAt_Wf w μ1202 z1201 (fun z1255 _ => (0 ≤ z1255 ∧ z1255 ≤ 255) → WP_X12_byteAt_Wf w μ1202 (z1201 + 1) (fun z1260 _ => (0 ≤ z1260 ∧ z1260 ≤ 255) → WP_X12_number_Wf2 w μ1202 (z1201 + 2) (z1233 - 2) (fun z1265 _ => (0 ≤ z1265 ∧ z1265 ≤ 65535) → ∀ z1267 : Int, μ1202 171 (z1260.toNat) = z1267 → (0 ≤ z1267 ∧ z1267 ≤ 1) → ((z1267 = 0) → ∀ μ1365 : mM, mU μ1202 171 (z1260.toNat) (1 : Int) μ1365 → mT w μ1365 → ((z1260 = 1) → (WJ_X12_attributes_W_4 w rec1 z1201 f_c z1233 z1255 z1260 z1265 μ1365) (64 : Int)) ∧ ((¬ z1260 = 1) → ((¬ z1260 = 2) → ((¬ z1260 = 4) → ((¬ z1260 = 8) → (WJ_X12_attributes_W_4 w rec1 z1201 f_c z1233 z1255 z1260 z1265 μ1365) ((-1) : Int)) ∧ ((z1260 = 8) → (WJ_X12_attributes_W_4 w rec1 z1201 f_c z1233 z1255 z1260 z1265 μ1365) (192 : Int))) ∧ ((z1260 = 4) → (WJ_X12_attributes_W_4 w rec1 z1201 f_c z1233 z1255 z1260 z1265 μ1365) (128 : Int))) ∧ ((z1260 = 2) → (WJ_X12_attributes_W_4 w rec1 z1201 f_c z1233 z1255 z1260 z1265 μ1365) (64 : Int)))) ∧ ((¬ z1267 = 0) → WP_X12_fails_W w μ1202 (3) z1201 (fun μ1587 => mT w μ1587 → mF [172999] w μ1202 μ1587 → rec1 (((z1201 + z1233) + z1265), μ1587))))))) ∧ ((p2 < ((z1201 + z1233) + z1248)) → WP_X12_fails_W w μ1202 (2) z1201 (fun μ1591 => mT w μ1591 → mF [172999] w μ1202 μ1591 → Q μ1591))))
def WJ_X12_attributes_W_2 (w : mW) (p2 : Int) (Q : mM → Prop) (rec1 : (Int × mM) → Prop) (z1201 : Int) (μ1202 : mM) (f_c : Int) (z1227 : Int) : Prop := (0 ≤ z1227 ∧ z1227 ≤ 1) → ((z1227 = 0) → (WJ_X12_attributes_W_3 w p2 Q rec1 z1201 μ1202 f_c) (3 : Int)) ∧ ((¬ z1227 = 0) → (WJ_X12_attributes_W_3 w p2 Q rec1 z1201 μ1202 f_c) (4 : Int))
def WL_X12_attributes_W_1 (w : mW) (μ : mM) (p2 : Int) (Q : mM → Prop) (rec1 : (Int × mM) → Prop) (s : (Int × mM)) : Prop := ∀ z1201 : Int, ∀ μ1202 : mM, s = (z1201, μ1202) → (0 ≤ z1201 ∧ z1201 ≤ 1002) → mT w μ1202 → mF [106093, 106098, 106099, 106101, 126999, 170999, 171999, 172999, 173999] w μ μ1202 → ∀ f_c : Int, μ1202 106 (93) = f_c → (0 ≤ f_c ∧ f_c ≤ 400) → ((p2 ≤ z1201) → Q μ1202) ∧ ((z1201 < p2) → WP_X12_byteAt_Wf w μ1202 z1201 (fun z1221 _ => (0 ≤ z1221 ∧ z1221 ≤ 255) → ∀ z1222 : Int, bAnd z1221 (16 : Int) = z1222 → ((z1222 = 0) → (WJ_X12_attributes_W_2 w p2 Q rec1 z1201 μ1202 f_c) (0 : Int)) ∧ ((¬ z1222 = 0) → (WJ_X12_attributes_W_2 w p2 Q rec1 z1201 μ1202 f_c) (1 : Int))))
def WP_X12_attributes_W (w : mW) (μ : mM) (p1 : Int) (p2 : Int) (Q : mM → Prop) : Prop := ∀ f_size : Int, μ 106 1 = f_size → (0 ≤ f_size ∧ f_size ≤ 1000) → ∀ f_c0 : Int, μ 106 93 = f_c0 → (0 ≤ f_c0 ∧ f_c0 ≤ 400) → loopF (WL_X12_attributes_W_1 w μ p2 Q) False 1004 (p1, μ)
theorem vc_X12_attributes_W_1 {f_c z1201 : Int} (h0 : (1003 - z1201) < ((0 : Nat) : Int)) (h1 : 3 * f_c ≤ z1201) (h2 : 0 ≤ z1201 ∧ z1201 ≤ 1002) : False := by omega
theorem vc_X12_attributes_W_2  : (960 : Int) ≤ (960 : Int) ∧ (1000 : Int) ≤ (1000 : Int) := by omega
theorem vc_X12_attributes_W_3 {f_c f_size p2 z1201 : Int} (h0 : z1201 < p2) (h1 : p2 ≤ f_size) (h2 : 3 * f_c ≤ z1201) (h3 : 0 ≤ f_c ∧ f_c ≤ 400) (h4 : 0 ≤ f_size ∧ f_size ≤ 1000) (h5 : 0 ≤ p2 ∧ p2 ≤ 1000) (h6 : 0 ≤ z1201 ∧ z1201 ≤ 1002) : 0 ≤ z1201 ∧ z1201 ≤ 999 := by omega
theorem vc_X12_attributes_W_4 {f_c f_size p2 z1201 : Int} (h0 : z1201 < p2) (h1 : p2 ≤ f_size) (h2 : 3 * f_c ≤ z1201) (h3 : 0 ≤ f_c ∧ f_c ≤ 400) (h4 : 0 ≤ f_size ∧ f_size ≤ 1000) (h5 : 0 ≤ p2 ∧ p2 ≤ 1000) (h6 : 0 ≤ z1201 ∧ z1201 ≤ 999) : 1 ≤ p2 ∧ p2 ≤ 1000 := by omega
theorem vc_X12_attributes_W_5 {f_c f_size p2 z1201 : Int} (h0 : p2 ≤ f_size) (h1 : 3 * f_c ≤ z1201) (h2 : z1201 < p2) (h3 : 0 ≤ f_c ∧ f_c ≤ 400) (h4 : 0 ≤ f_size ∧ f_size ≤ 1000) (h5 : 1 ≤ p2 ∧ p2 ≤ 1000) (h6 : 0 ≤ z1201 ∧ z1201 ≤ 999) : z1201 < f_size := by omega
theorem vc_X12_attributes_W_6 {f_c f_size p2 z1201 z1233 : Int} (h0 : (z1201 + z1233) ≤ p2) (h1 : p2 ≤ f_size) (h2 : 3 * f_c ≤ z1201) (h3 : z1201 < p2) (h4 : 0 ≤ f_c ∧ f_c ≤ 400) (h5 : 0 ≤ f_size ∧ f_size ≤ 1000) (h6 : 1 ≤ p2 ∧ p2 ≤ 1000) (h7 : 0 ≤ z1201 ∧ z1201 ≤ 999) (h8 : 3 ≤ z1233 ∧ z1233 ≤ 4) : 0 ≤ z1201 ∧ z1201 ≤ 997 := by omega
theorem vc_X12_attributes_W_7 {f_c f_size p2 z1201 z1233 : Int} (h0 : (z1201 + z1233) ≤ p2) (h1 : p2 ≤ f_size) (h2 : 3 * f_c ≤ z1201) (h3 : z1201 < p2) (h4 : 0 ≤ f_c ∧ f_c ≤ 400) (h5 : 0 ≤ f_size ∧ f_size ≤ 1000) (h6 : 1 ≤ p2 ∧ p2 ≤ 1000) (h7 : 0 ≤ z1201 ∧ z1201 ≤ 997) (h8 : 3 ≤ z1233 ∧ z1233 ≤ 4) : 3 ≤ p2 ∧ p2 ≤ 1000 := by omega
theorem vc_X12_attributes_W_8 {f_c f_size p2 z1201 z1233 : Int} (h0 : p2 ≤ f_size) (h1 : 3 * f_c ≤ z1201) (h2 : z1201 < p2) (h3 : (z1201 + z1233) ≤ p2) (h4 : 0 ≤ f_c ∧ f_c ≤ 400) (h5 : 0 ≤ f_size ∧ f_size ≤ 1000) (h6 : 3 ≤ p2 ∧ p2 ≤ 1000) (h7 : 0 ≤ z1201 ∧ z1201 ≤ 997) (h8 : 3 ≤ z1233 ∧ z1233 ≤ 4) : (z1201 + 2) + (z1233 - 2) ≤ f_size := by omega
theorem vc_X12_attributes_W_9 {f_c f_size p2 z1201 z1233 z1248 : Int} (h0 : ((z1201 + z1233) + z1248) ≤ p2) (h1 : p2 ≤ f_size) (h2 : 3 * f_c ≤ z1201) (h3 : z1201 < p2) (h4 : (z1201 + z1233) ≤ p2) (h5 : 0 ≤ f_c ∧ f_c ≤ 400) (h6 : 0 ≤ f_size ∧ f_size ≤ 1000) (h7 : 3 ≤ p2 ∧ p2 ≤ 1000) (h8 : 0 ≤ z1201 ∧ z1201 ≤ 997) (h9 : 3 ≤ z1233 ∧ z1233 ≤ 4) (h10 : 0 ≤ z1248 ∧ z1248 ≤ 65535) : 0 ≤ z1248 ∧ z1248 ≤ 997 := by omega
theorem vc_X12_attributes_W_10 {f_c f_size p2 z1201 z1233 z1248 : Int} (h0 : p2 ≤ f_size) (h1 : 3 * f_c ≤ z1201) (h2 : z1201 < p2) (h3 : (z1201 + z1233) ≤ p2) (h4 : ((z1201 + z1233) + z1248) ≤ p2) (h5 : 0 ≤ f_c ∧ f_c ≤ 400) (h6 : 0 ≤ f_size ∧ f_size ≤ 1000) (h7 : 3 ≤ p2 ∧ p2 ≤ 1000) (h8 : 0 ≤ z1201 ∧ z1201 ≤ 997) (h9 : 3 ≤ z1233 ∧ z1233 ≤ 4) (h10 : 0 ≤ z1248 ∧ z1248 ≤ 997) : z1201 < f_size := by omega
theorem vc_X12_attributes_W_11 {f_c f_size p2 z1201 z1233 z1248 : Int} (h0 : p2 ≤ f_size) (h1 : 3 * f_c ≤ z1201) (h2 : z1201 < p2) (h3 : (z1201 + z1233) ≤ p2) (h4 : ((z1201 + z1233) + z1248) ≤ p2) (h5 : 0 ≤ f_c ∧ f_c ≤ 400) (h6 : 0 ≤ f_size ∧ f_size ≤ 1000) (h7 : 3 ≤ p2 ∧ p2 ≤ 1000) (h8 : 0 ≤ z1201 ∧ z1201 ≤ 997) (h9 : 3 ≤ z1233 ∧ z1233 ≤ 4) (h10 : 0 ≤ z1248 ∧ z1248 ≤ 997) : (z1201 + 1) < f_size := by omega
theorem vc_X12_attributes_W_12 {f_c f_size p2 z1201 z1233 z1248 : Int} (h0 : p2 ≤ f_size) (h1 : 3 * f_c ≤ z1201) (h2 : z1201 < p2) (h3 : (z1201 + z1233) ≤ p2) (h4 : ((z1201 + z1233) + z1248) ≤ p2) (h5 : 0 ≤ f_c ∧ f_c ≤ 400) (h6 : 0 ≤ f_size ∧ f_size ≤ 1000) (h7 : 3 ≤ p2 ∧ p2 ≤ 1000) (h8 : 0 ≤ z1201 ∧ z1201 ≤ 997) (h9 : 3 ≤ z1233 ∧ z1233 ≤ 4) (h10 : 0 ≤ z1248 ∧ z1248 ≤ 997) : (z1201 + 2) + (z1233 - 2) ≤ f_size := by omega
theorem vc_X12_attributes_W_13 {p2 z1201 z1233 z1248 z1265 : Int} (h0 : z1265 = z1248) (h1 : ((z1201 + z1233) + z1248) ≤ p2) (h2 : 3 ≤ p2 ∧ p2 ≤ 1000) (h3 : 0 ≤ z1201 ∧ z1201 ≤ 997) (h4 : 3 ≤ z1233 ∧ z1233 ≤ 4) (h5 : 0 ≤ z1248 ∧ z1248 ≤ 997) (h6 : 0 ≤ z1265 ∧ z1265 ≤ 65535) : 0 ≤ z1265 ∧ z1265 ≤ 997 := by omega
theorem vc_X12_attributes_W_16 {f_c f_size p2 z1201 z1233 z1248 z1265 z1448 : Int} (h0 : 3 * f_c ≤ z1201) (h1 : z1201 < p2) (h2 : (z1201 + z1233) ≤ p2) (h3 : ((z1201 + z1233) + z1248) ≤ p2) (h4 : z1265 = z1248) (h5 : 3 * z1448 ≤ (z1201 + z1233)) (h6 : p2 ≤ f_size) (h7 : 0 ≤ f_c ∧ f_c ≤ 400) (h8 : 0 ≤ f_size ∧ f_size ≤ 1000) (h9 : 3 ≤ p2 ∧ p2 ≤ 1000) (h10 : 0 ≤ z1201 ∧ z1201 ≤ 997) (h11 : 3 ≤ z1233 ∧ z1233 ≤ 4) (h12 : 0 ≤ z1248 ∧ z1248 ≤ 997) (h13 : 0 ≤ z1265 ∧ z1265 ≤ 997) (h14 : 0 ≤ z1448 ∧ z1448 ≤ 400) : 0 ≤ ((z1201 + z1233) + z1265) ∧ ((z1201 + z1233) + z1265) ≤ 1002 := by omega
theorem vc_X12_attributes_W_17 {f_c f_size p2 z1201 z1233 z1248 z1265 z1448 : Int} (h0 : 3 * f_c ≤ z1201) (h1 : z1201 < p2) (h2 : (z1201 + z1233) ≤ p2) (h3 : ((z1201 + z1233) + z1248) ≤ p2) (h4 : z1265 = z1248) (h5 : 3 * z1448 ≤ (z1201 + z1233)) (h6 : p2 ≤ f_size) (h7 : 0 ≤ f_c ∧ f_c ≤ 400) (h8 : 0 ≤ f_size ∧ f_size ≤ 1000) (h9 : 3 ≤ p2 ∧ p2 ≤ 1000) (h10 : 0 ≤ z1201 ∧ z1201 ≤ 997) (h11 : 3 ≤ z1233 ∧ z1233 ≤ 4) (h12 : 0 ≤ z1248 ∧ z1248 ≤ 997) (h13 : 0 ≤ z1265 ∧ z1265 ≤ 997) (h14 : 0 ≤ z1448 ∧ z1448 ≤ 400) : 3 * z1448 ≤ ((z1201 + z1233) + z1265) := by omega
theorem vc_X12_attributes_W_18 {N f_c f_size p2 z1201 z1233 z1248 z1265 z1448 : Int} (h0 : (1003 - z1201) < N + 1) (h1 : 3 * f_c ≤ z1201) (h2 : z1201 < p2) (h3 : (z1201 + z1233) ≤ p2) (h4 : ((z1201 + z1233) + z1248) ≤ p2) (h5 : z1265 = z1248) (h6 : 3 * z1448 ≤ (z1201 + z1233)) (h7 : p2 ≤ f_size) (h8 : 0 ≤ f_c ∧ f_c ≤ 400) (h9 : 0 ≤ f_size ∧ f_size ≤ 1000) (h10 : 3 ≤ p2 ∧ p2 ≤ 1000) (h11 : 0 ≤ z1201 ∧ z1201 ≤ 997) (h12 : 3 ≤ z1233 ∧ z1233 ≤ 4) (h13 : 0 ≤ z1248 ∧ z1248 ≤ 997) (h14 : 0 ≤ z1265 ∧ z1265 ≤ 997) (h15 : 0 ≤ z1448 ∧ z1448 ≤ 400) : (1003 - ((z1201 + z1233) + z1265)) < N := by omega
theorem vc_X12_attributes_W_20 {z1372 : Int} (h0 : z1372 < 0) (h1 : (-1) ≤ z1372 ∧ z1372 ≤ 192) : (-1) ≤ z1372 ∧ z1372 ≤ (-1) := by omega
theorem vc_X12_attributes_W_22 {f_c f_size p2 z1201 z1233 z1248 z1265 : Int} (h0 : 3 * f_c ≤ z1201) (h1 : z1201 < p2) (h2 : (z1201 + z1233) ≤ p2) (h3 : ((z1201 + z1233) + z1248) ≤ p2) (h4 : p2 ≤ f_size) (h5 : z1265 = z1248) (h6 : 0 ≤ f_c ∧ f_c ≤ 400) (h7 : 0 ≤ f_size ∧ f_size ≤ 1000) (h8 : 3 ≤ p2 ∧ p2 ≤ 1000) (h9 : 0 ≤ z1201 ∧ z1201 ≤ 997) (h10 : 3 ≤ z1233 ∧ z1233 ≤ 4) (h11 : 0 ≤ z1248 ∧ z1248 ≤ 997) (h12 : 0 ≤ z1265 ∧ z1265 ≤ 997) : 3 * f_c ≤ (z1201 + z1233) := by omega
theorem vc_X12_attributes_W_24 {z1479 : Int} (h0 : z1479 = 0) (h1 : 0 ≤ z1479 ∧ z1479 ≤ 64) : 0 ≤ z1479 ∧ z1479 ≤ 0 := by omega
theorem vc_X12_attributes_W_25 {z1479 : Int} (h0 : ¬ z1479 = 0) (h1 : 0 ≤ z1479 ∧ z1479 ≤ 64) : 1 ≤ z1479 ∧ z1479 ≤ 64 := by omega
theorem vc_X12_attributes_W_26 {f_c p2 z1201 z1233 z1248 : Int} (h0 : 3 * f_c ≤ z1201) (h1 : z1201 < p2) (h2 : (z1201 + z1233) ≤ p2) (h3 : ((z1201 + z1233) + z1248) ≤ p2) (h4 : 0 ≤ f_c ∧ f_c ≤ 400) (h5 : 3 ≤ p2 ∧ p2 ≤ 1000) (h6 : 0 ≤ z1201 ∧ z1201 ≤ 997) (h7 : 3 ≤ z1233 ∧ z1233 ≤ 4) (h8 : 0 ≤ z1248 ∧ z1248 ≤ 997) : 0 ≤ f_c ∧ f_c < 400 := by omega
theorem vc_X12_attributes_W_27 {f_c p2 z1201 z1233 z1248 : Int} (h0 : 3 * f_c ≤ z1201) (h1 : z1201 < p2) (h2 : (z1201 + z1233) ≤ p2) (h3 : ((z1201 + z1233) + z1248) ≤ p2) (h4 : 0 ≤ f_c ∧ f_c ≤ 400) (h5 : 3 ≤ p2 ∧ p2 ≤ 1000) (h6 : 0 ≤ z1201 ∧ z1201 ≤ 997) (h7 : 3 ≤ z1233 ∧ z1233 ≤ 4) (h8 : 0 ≤ z1248 ∧ z1248 ≤ 997) : 0 ≤ (f_c + 1) ∧ (f_c + 1) ≤ 400 := by omega
theorem vc_X12_attributes_W_28 {f_c f_size p2 z1201 z1233 z1248 z1265 : Int} (h0 : 3 * f_c ≤ z1201) (h1 : z1201 < p2) (h2 : (z1201 + z1233) ≤ p2) (h3 : ((z1201 + z1233) + z1248) ≤ p2) (h4 : p2 ≤ f_size) (h5 : z1265 = z1248) (h6 : 0 ≤ f_c ∧ f_c ≤ 400) (h7 : 0 ≤ f_size ∧ f_size ≤ 1000) (h8 : 3 ≤ p2 ∧ p2 ≤ 1000) (h9 : 0 ≤ z1201 ∧ z1201 ≤ 997) (h10 : 3 ≤ z1233 ∧ z1233 ≤ 4) (h11 : 0 ≤ z1248 ∧ z1248 ≤ 997) (h12 : 0 ≤ z1265 ∧ z1265 ≤ 997) : 3 * (f_c + 1) ≤ (z1201 + z1233) := by omega
theorem vc_X12_attributes_W_31 {z1372 : Int} (h0 : 0 ≤ z1372) (h1 : (-1) ≤ z1372 ∧ z1372 ≤ 192) : 0 ≤ z1372 ∧ z1372 ≤ 192 := by omega
theorem vc_X12_attributes_W_32 {z1372 z1495 : Int} (h0 : z1495 = z1372) (h1 : 0 ≤ z1372) (h2 : 0 ≤ z1372 ∧ z1372 ≤ 192) (h3 : 0 ≤ z1495 ∧ z1495 ≤ 255) : 0 ≤ z1495 ∧ z1495 ≤ 192 := by omega
theorem vc_X12_attributes_W_33 {f_c f_size p2 z1201 z1233 z1248 z1265 : Int} (h0 : 3 * f_c ≤ z1201) (h1 : z1201 < p2) (h2 : (z1201 + z1233) ≤ p2) (h3 : ((z1201 + z1233) + z1248) ≤ p2) (h4 : p2 ≤ f_size) (h5 : z1265 = z1248) (h6 : 0 ≤ f_c ∧ f_c ≤ 400) (h7 : 0 ≤ f_size ∧ f_size ≤ 1000) (h8 : 3 ≤ p2 ∧ p2 ≤ 1000) (h9 : 0 ≤ z1201 ∧ z1201 ≤ 997) (h10 : 3 ≤ z1233 ∧ z1233 ≤ 4) (h11 : 0 ≤ z1248 ∧ z1248 ≤ 997) (h12 : 0 ≤ z1265 ∧ z1265 ≤ 997) : 0 ≤ (z1201 + z1233) ∧ (z1201 + z1233) ≤ 1000 := by omega
theorem vc_X12_attributes_W_34 {f_c f_size p2 z1201 z1233 z1248 z1265 : Int} (h0 : p2 ≤ f_size) (h1 : 3 * f_c ≤ z1201) (h2 : z1201 < p2) (h3 : (z1201 + z1233) ≤ p2) (h4 : ((z1201 + z1233) + z1248) ≤ p2) (h5 : z1265 = z1248) (h6 : 0 ≤ f_c ∧ f_c ≤ 400) (h7 : 0 ≤ f_size ∧ f_size ≤ 1000) (h8 : 3 ≤ p2 ∧ p2 ≤ 1000) (h9 : 0 ≤ z1201 ∧ z1201 ≤ 997) (h10 : 3 ≤ z1233 ∧ z1233 ≤ 4) (h11 : 0 ≤ z1248 ∧ z1248 ≤ 997) (h12 : 0 ≤ z1265 ∧ z1265 ≤ 997) : (z1201 + z1233) + z1265 ≤ f_size := by omega
theorem vc_X12_attributes_W_36  : (960 : Int) ≤ (961 : Int) ∧ (1000 : Int) ≤ (1000 : Int) := by omega
theorem vc_X12_attributes_W_38 {z1260 : Int} (h0 : z1260 = 4) (h1 : ¬ z1260 = 1) (h2 : ¬ z1260 = 2) (h3 : 0 ≤ z1260 ∧ z1260 ≤ 255) : 4 ≤ z1260 ∧ z1260 ≤ 4 := by omega
theorem vc_X12_attributes_W_40  : (960 : Int) ≤ (963 : Int) ∧ (964 : Int) ≤ (1000 : Int) := by omega
theorem vc_X12_attributes_W_44  : (960 : Int) ≤ (964 : Int) ∧ (986 : Int) ≤ (1000 : Int) := by omega
theorem vc_X12_attributes_W_48  : (960 : Int) ≤ (962 : Int) ∧ (963 : Int) ≤ (1000 : Int) := by omega
theorem vc_X12_attributes_W_50 {z1260 : Int} (h0 : z1260 = 8) (h1 : ¬ z1260 = 1) (h2 : ¬ z1260 = 2) (h3 : ¬ z1260 = 4) (h4 : 0 ≤ z1260 ∧ z1260 ≤ 255) : 8 ≤ z1260 ∧ z1260 ≤ 8 := by omega
theorem vc_X12_attributes_W_52 {f_c f_size p2 z1201 z1233 z1248 z1265 : Int} (h0 : 3 * f_c ≤ z1201) (h1 : z1201 < p2) (h2 : (z1201 + z1233) ≤ p2) (h3 : ((z1201 + z1233) + z1248) ≤ p2) (h4 : z1265 = z1248) (h5 : p2 ≤ f_size) (h6 : 0 ≤ f_c ∧ f_c ≤ 400) (h7 : 0 ≤ f_size ∧ f_size ≤ 1000) (h8 : 3 ≤ p2 ∧ p2 ≤ 1000) (h9 : 0 ≤ z1201 ∧ z1201 ≤ 997) (h10 : 3 ≤ z1233 ∧ z1233 ≤ 4) (h11 : 0 ≤ z1248 ∧ z1248 ≤ 997) (h12 : 0 ≤ z1265 ∧ z1265 ≤ 997) : 0 ≤ ((z1201 + z1233) + z1265) ∧ ((z1201 + z1233) + z1265) ≤ 1002 := by omega
theorem vc_X12_attributes_W_53 {f_c f_size p2 z1201 z1233 z1248 z1265 : Int} (h0 : 3 * f_c ≤ z1201) (h1 : z1201 < p2) (h2 : (z1201 + z1233) ≤ p2) (h3 : ((z1201 + z1233) + z1248) ≤ p2) (h4 : z1265 = z1248) (h5 : p2 ≤ f_size) (h6 : 0 ≤ f_c ∧ f_c ≤ 400) (h7 : 0 ≤ f_size ∧ f_size ≤ 1000) (h8 : 3 ≤ p2 ∧ p2 ≤ 1000) (h9 : 0 ≤ z1201 ∧ z1201 ≤ 997) (h10 : 3 ≤ z1233 ∧ z1233 ≤ 4) (h11 : 0 ≤ z1248 ∧ z1248 ≤ 997) (h12 : 0 ≤ z1265 ∧ z1265 ≤ 997) : 3 * f_c ≤ ((z1201 + z1233) + z1265) := by omega
theorem vc_X12_attributes_W_54 {N f_c f_size p2 z1201 z1233 z1248 z1265 : Int} (h0 : (1003 - z1201) < N + 1) (h1 : 3 * f_c ≤ z1201) (h2 : z1201 < p2) (h3 : (z1201 + z1233) ≤ p2) (h4 : ((z1201 + z1233) + z1248) ≤ p2) (h5 : z1265 = z1248) (h6 : p2 ≤ f_size) (h7 : 0 ≤ f_c ∧ f_c ≤ 400) (h8 : 0 ≤ f_size ∧ f_size ≤ 1000) (h9 : 3 ≤ p2 ∧ p2 ≤ 1000) (h10 : 0 ≤ z1201 ∧ z1201 ≤ 997) (h11 : 3 ≤ z1233 ∧ z1233 ≤ 4) (h12 : 0 ≤ z1248 ∧ z1248 ≤ 997) (h13 : 0 ≤ z1265 ∧ z1265 ≤ 997) : (1003 - ((z1201 + z1233) + z1265)) < N := by omega
theorem vc_X12_attributes_W_59 {f_c0 p1 : Int} (h0 : 3 * f_c0 ≤ p1) (h1 : 0 ≤ f_c0 ∧ f_c0 ≤ 400) (h2 : 0 ≤ p1 ∧ p1 ≤ 1002) : 3 * f_c0 ≤ p1 := by omega
theorem vc_X12_attributes_W_60 {f_c0 p1 : Int} (h0 : 3 * f_c0 ≤ p1) (h1 : 0 ≤ f_c0 ∧ f_c0 ≤ 400) (h2 : 0 ≤ p1 ∧ p1 ≤ 1002) : (1003 - p1) < ((1004 : Nat) : Int) := by omega
set_option maxRecDepth 4000 in
set_option maxHeartbeats 4000000 in
theorem c_X12_attributes_W {l : Launch} {D : va_G} {c : Nat → ClassId} {H0 : Heap} {sa : Nat × Nat × (Nat → Int32)} {w : mW} {μ : mM} (hw : mWF w) (hT : mT w μ) {p1 : Int} (hp1 : 0 ≤ p1 ∧ p1 ≤ 1002) {p2 : Int} (hp2 : 0 ≤ p2 ∧ p2 ≤ 1000) {f_size : Int} (q_f_size : μ 106 1 = f_size) {f_c0 : Int} (q_f_c0 : μ 106 93 = f_c0) (hq0 : p2 ≤ f_size) (hq1 : 3 * f_c0 ≤ p1) {Q : mM → Prop} (hQ : WP_X12_attributes_W w μ p1 p2 Q) : sC (gG l D c H0 sa) mX12_attributes 4 0 0 [.ref 106, iv p1, iv p2] (mk w μ) (qV w [106093, 106098, 106099, 106101, 126999, 170999, 171999, 172999, 173999] μ (fun μ1 => mG [(960, 1000)] μ μ1 ∧ Q μ1 ∧ True)) := by
  refine sC.of rfl (by decide) (le_t rfl) ?_
  have ht_f_size : (0 ≤ f_size ∧ f_size ≤ 1000) := by rw [← q_f_size]; exact hT 106 106 (A_106 hw) 1
  have ht_f_c0 : (0 ≤ f_c0 ∧ f_c0 ≤ 400) := by rw [← q_f_c0]; exact hT 106 106 (A_106 hw) 93
  refine mr_lvE (lv' := [(0, .ref 106), (1, iv p1), (2, iv p2)]) rfl ?_
  refine mr_iload_n (pc := 0) (z := p1) dX12_attributes_0 rfl rfl ?_
  refine mr_istore_n (pc := 1) (lv' := [(3, iv p1), (0, .ref 106), (1, iv p1), (2, iv p2)]) dX12_attributes_1 rfl (by decide) rfl ?_
  have L1203 : ∀ (nL1203 : Nat) (z1201 : Int) (μ1202 : mM) (f_c : Int), mT w μ1202 → mF [106093, 106098, 106099, 106101, 126999, 170999, 171999, 172999, 173999] w μ μ1202 → mG [(960, 1000)] μ μ1202 → μ1202 106 (93) = f_c → (0 ≤ z1201 ∧ z1201 ≤ 1002) → (3 * f_c ≤ z1201) → (1003 - z1201) < (nL1203 : Int) → loopF (WL_X12_attributes_W_1 w μ p2 Q) False nL1203 (z1201, μ1202) → sV (gG l D c H0 sa) mX12_attributes (sRm 4 0 0) (sZ (gG l D c H0 sa) 0 0 (qV w [106093, 106098, 106099, 106101, 126999, 170999, 171999, 172999, 173999] μ (fun μ1 => mG [(960, 1000)] μ μ1 ∧ Q μ1 ∧ True))) 2 [(0, .ref 106), (2, iv p2), (3, iv z1201)] [] (mk w μ1202) 0 0 := by
    intro nL1203
    induction nL1203 with
    | zero => intro z1201 μ1202 f_c T1205 F1206 G1207 q1211 h1204 h1208 h1209 W1210; exact ((vc_X12_attributes_W_1 h1209 h1208 h1204)).elim
    | succ nL1203 ih1212 =>
      intro z1201 μ1202 f_c T1205 F1206 G1207 q1211 h1204 h1208 h1209 W1210
      have h1213 : (0 ≤ f_c ∧ f_c ≤ 400) := by rw [← q1211]; exact T1205 106 106 (A_106 hw) (93)
      refine mr_iload_n (pc := 2) (z := z1201) dX12_attributes_2 rfl rfl ?_
      refine mr_iload_n (pc := 3) (z := p2) dX12_attributes_3 rfl rfl ?_
      refine mr_icmp_ge (pc := 4) (tgt := 345) dX12_attributes_4 (by decide) (r32 h1204 rfl) (r32 hp2 rfl) (fun h1214 => ?_) (fun h1214 => ?_)
      · exact mr_vret dX12_attributes_345 rfl (le_t rfl) (le_t rfl) T1205 (mF.call mF.refl F1206 rfl) ⟨(mG.call mG.refl G1207 (List.forall_mem_cons.mpr ⟨⟨_, List.mem_cons_self, vc_X12_attributes_W_2⟩, (fun _ h => absurd h List.not_mem_nil)⟩)), (((W1210 z1201 μ1202 rfl h1204 T1205 F1206) f_c q1211 h1213).1 h1214), trivial⟩
      have h1215 : 0 ≤ z1201 ∧ z1201 ≤ 999 := (vc_X12_attributes_W_3 h1214 hq0 h1208 h1213 ht_f_size hp2 h1204)
      have h1216 : 1 ≤ p2 ∧ p2 ≤ 1000 := (vc_X12_attributes_W_4 h1214 hq0 h1208 h1213 ht_f_size hp2 h1215)
      refine sv_aload_n (pc := 7) dX12_attributes_7 rfl rfl ?_
      refine mr_iload_n (pc := 8) (z := z1201) dX12_attributes_8 rfl rfl ?_
      refine mr_cVP (pc := 9) (c_X12_byteAt_Wf hw T1205 (rW (c := 0) (d := 2147483647) h1215 rfl) (F1206.f (A_106 hw) rfl q_f_size) (vc_X12_attributes_W_5 hq0 h1208 h1214 h1213 ht_f_size h1216 h1215) (((W1210 z1201 μ1202 rfl h1204 T1205 F1206) f_c q1211 h1213).2 h1214)) (gOk _ _ _ _ _) dX12_attributes_9 (tX12_byteAt _ _ _ _ _) ⟨wV_X12_byteAt, wL_X12_byteAt⟩ wM_X12_227 (gCX12 _ _ _ _ _) rfl (A_106 hw) rfl ⟨le_t rfl, le_t rfl⟩ ⟨le_t rfl, le_t rfl⟩ rfl (le_t rfl) fun z1221 h1220 => ?_
      refine mr_bipush (pc := 12) (z := 16) dX12_attributes_12 (by decide) ?_
      refine mr_iand (pc := 14) (x := z1221) (y := 16) dX12_attributes_14 ?_
      refine mr_gen (P := fun z => 0 ≤ z ∧ z ≤ 16) (rAndR (rR (x := 16)) rfl) fun z1222 q1223 h1224 => ?_
      have J1229 : ∀ (z1227 : Int), ((0 ≤ z1227 ∧ z1227 ≤ 1)) → ((WJ_X12_attributes_W_2 w p2 Q (loopF (WL_X12_attributes_W_1 w μ p2 Q) False nL1203) z1201 μ1202 f_c) z1227) → sV (gG l D c H0 sa) mX12_attributes (sRm 4 0 0) (sZ (gG l D c H0 sa) 0 0 (qV w [106093, 106098, 106099, 106101, 126999, 170999, 171999, 172999, 173999] μ (fun μ1 => mG [(960, 1000)] μ μ1 ∧ Q μ1 ∧ True))) 23 [(0, .ref 106), (2, iv p2), (3, iv z1201)] [iv z1227] (mk w μ1202) 0 0 := by
        intro z1227 h1228 W1230
        refine mr_istore (pc := 23) (lv' := [(4, iv z1227), (0, .ref 106), (2, iv p2), (3, iv z1201)]) dX12_attributes_23 (by decide) rfl ?_
        refine mr_iload (pc := 25) (z := z1227) dX12_attributes_25 rfl ?_
        have J1235 : ∀ (z1233 : Int), ((3 ≤ z1233 ∧ z1233 ≤ 4)) → ((WJ_X12_attributes_W_3 w p2 Q (loopF (WL_X12_attributes_W_1 w μ p2 Q) False nL1203) z1201 μ1202 f_c) z1233) → sV (gG l D c H0 sa) mX12_attributes (sRm 4 0 0) (sZ (gG l D c H0 sa) 0 0 (qV w [106093, 106098, 106099, 106101, 126999, 170999, 171999, 172999, 173999] μ (fun μ1 => mG [(960, 1000)] μ μ1 ∧ Q μ1 ∧ True))) 35 [(0, .ref 106), (2, iv p2), (3, iv z1201)] [iv z1233] (mk w μ1202) 0 0 := by
          intro z1233 h1234 W1236
          refine mr_istore (pc := 35) (lv' := [(5, iv z1233), (0, .ref 106), (2, iv p2), (3, iv z1201)]) dX12_attributes_35 (by decide) rfl ?_
          refine mr_iload_n (pc := 37) (z := z1201) dX12_attributes_37 rfl rfl ?_
          refine mr_iload (pc := 38) (z := z1233) dX12_attributes_38 rfl ?_
          refine mr_iadd (pc := 40) (x := z1201) (y := z1233) dX12_attributes_40 ?_
          refine mr_iload_n (pc := 41) (z := p2) dX12_attributes_41 rfl rfl ?_
          refine mr_icmp_gt (pc := 42) (tgt := 65) dX12_attributes_42 (by decide) (r32 (rAdd (e := 3) (f := 1003) h1215 h1234 rfl) rfl) (r32 h1216 rfl) (fun h1237 => ?_) (fun h1237 => ?_)
          · refine sv_aload_n (pc := 65) dX12_attributes_65 rfl rfl ?_
            refine mr_iconst (pc := 66) (z := 2) dX12_attributes_66 ?_
            refine mr_iload_n (pc := 67) (z := z1201) dX12_attributes_67 rfl rfl ?_
            refine mr_cVV (pc := 68) (c_X12_fails_W hw T1205 (rW (c := 0) (d := 3) (rR (x := 2)) rfl) (rW (c := (-2147483648)) (d := 2147483647) h1215 rfl) ((W1236 h1234).1 h1237)) (gOk _ _ _ _ _) dX12_attributes_68 (tX12_fails _ _ _ _ _) ⟨wV_X12_fails, wL_X12_fails⟩ wM_X12_620 (gCX12 _ _ _ _ _) rfl (A_106 hw) rfl ⟨le_t rfl, le_t rfl⟩ ⟨le_t rfl, le_t rfl⟩ rfl (le_t rfl) fun μ1238 T1239 F1240 h1241 => ?_
            exact mr_vret dX12_attributes_71 rfl (le_t rfl) (le_t rfl) T1239 (mF.call (mF.call mF.refl F1206 rfl) F1240 rfl) ⟨(mG.fr (mG.call mG.refl G1207 (List.forall_mem_cons.mpr ⟨⟨_, List.mem_cons_self, vc_X12_attributes_W_2⟩, (fun _ h => absurd h List.not_mem_nil)⟩)) F1240 (A_126 hw) rfl), (h1241.1 T1239 F1240), trivial⟩
          have h1242 : 0 ≤ z1201 ∧ z1201 ≤ 997 := (vc_X12_attributes_W_6 h1237 hq0 h1208 h1214 h1213 ht_f_size h1216 h1215 h1234)
          have h1243 : 3 ≤ p2 ∧ p2 ≤ 1000 := (vc_X12_attributes_W_7 h1237 hq0 h1208 h1214 h1213 ht_f_size h1216 h1242 h1234)
          refine mr_iload_n (pc := 45) (z := z1201) dX12_attributes_45 rfl rfl ?_
          refine mr_iload (pc := 46) (z := z1233) dX12_attributes_46 rfl ?_
          refine mr_iadd (pc := 48) (x := z1201) (y := z1233) dX12_attributes_48 ?_
          refine sv_aload_n (pc := 49) dX12_attributes_49 rfl rfl ?_
          refine mr_iload_n (pc := 50) (z := z1201) dX12_attributes_50 rfl rfl ?_
          refine mr_iconst (pc := 51) (z := 2) dX12_attributes_51 ?_
          refine mr_iadd (pc := 52) (x := z1201) (y := 2) dX12_attributes_52 ?_
          refine mr_iload (pc := 53) (z := z1233) dX12_attributes_53 rfl ?_
          refine mr_iconst (pc := 55) (z := 2) dX12_attributes_55 ?_
          refine mr_isub (pc := 56) (x := z1233) (y := 2) dX12_attributes_56 ?_
          refine mr_cVP (pc := 57) (c_X12_number_Wf2 hw T1205 (rW (c := 0) (d := 1000) (rAdd (e := 2) (f := 999) h1242 (rR (x := 2)) rfl) rfl) (rW (c := 0) (d := 2) (rSub (e := 1) (f := 2) h1234 (rR (x := 2)) rfl) rfl) (F1206.f (A_106 hw) rfl q_f_size) (vc_X12_attributes_W_8 hq0 h1208 h1214 h1237 h1213 ht_f_size h1243 h1242 h1234) ((W1236 h1234).2 h1237)) (gOk _ _ _ _ _) dX12_attributes_57 (tX12_number _ _ _ _ _) ⟨wV_X12_number, wL_X12_number⟩ wM_X12_623 (gCX12 _ _ _ _ _) rfl (A_106 hw) rfl ⟨le_t rfl, le_t rfl⟩ ⟨le_t rfl, le_t rfl⟩ rfl (le_t rfl) fun z1248 h1247 => ?_
          refine mr_iadd (pc := 60) (x := (z1201 + z1233)) (y := z1248) dX12_attributes_60 ?_
          refine mr_iload_n (pc := 61) (z := p2) dX12_attributes_61 rfl rfl ?_
          refine mr_icmp_le (pc := 62) (tgt := 72) dX12_attributes_62 (by decide) (r32 (rAdd (e := 3) (f := 66536) (rAdd (e := 3) (f := 1001) h1242 h1234 rfl) h1247.1 rfl) rfl) (r32 h1243 rfl) (fun h1249 => ?_) (fun h1249 => ?_)
          · have h1250 : 0 ≤ z1248 ∧ z1248 ≤ 997 := (vc_X12_attributes_W_9 h1249 hq0 h1208 h1214 h1237 h1213 ht_f_size h1243 h1242 h1234 h1247.1)
            refine sv_aload_n (pc := 72) dX12_attributes_72 rfl rfl ?_
            refine mr_iload_n (pc := 73) (z := z1201) dX12_attributes_73 rfl rfl ?_
            refine mr_cVP (pc := 74) (c_X12_byteAt_Wf hw T1205 (rW (c := 0) (d := 2147483647) h1242 rfl) (F1206.f (A_106 hw) rfl q_f_size) (vc_X12_attributes_W_10 hq0 h1208 h1214 h1237 h1249 h1213 ht_f_size h1243 h1242 h1234 h1250) ((h1247.2.2.1 h1247.1).1 h1249)) (gOk _ _ _ _ _) dX12_attributes_74 (tX12_byteAt _ _ _ _ _) ⟨wV_X12_byteAt, wL_X12_byteAt⟩ wM_X12_227 (gCX12 _ _ _ _ _) rfl (A_106 hw) rfl ⟨le_t rfl, le_t rfl⟩ ⟨le_t rfl, le_t rfl⟩ rfl (le_t rfl) fun z1255 h1254 => ?_
            refine mr_istore (pc := 77) (lv' := [(6, iv z1255), (5, iv z1233), (0, .ref 106), (2, iv p2), (3, iv z1201)]) dX12_attributes_77 (by decide) rfl ?_
            refine sv_aload_n (pc := 79) dX12_attributes_79 rfl rfl ?_
            refine mr_iload_n (pc := 80) (z := z1201) dX12_attributes_80 rfl rfl ?_
            refine mr_iconst (pc := 81) (z := 1) dX12_attributes_81 ?_
            refine mr_iadd (pc := 82) (x := z1201) (y := 1) dX12_attributes_82 ?_
            refine mr_cVP (pc := 83) (c_X12_byteAt_Wf hw T1205 (rW (c := 0) (d := 2147483647) (rAdd (e := 1) (f := 998) h1242 (rR (x := 1)) rfl) rfl) (F1206.f (A_106 hw) rfl q_f_size) (vc_X12_attributes_W_11 hq0 h1208 h1214 h1237 h1249 h1213 ht_f_size h1243 h1242 h1234 h1250) (h1254.2.2.1 h1254.1)) (gOk _ _ _ _ _) dX12_attributes_83 (tX12_byteAt _ _ _ _ _) ⟨wV_X12_byteAt, wL_X12_byteAt⟩ wM_X12_227 (gCX12 _ _ _ _ _) rfl (A_106 hw) rfl ⟨le_t rfl, le_t rfl⟩ ⟨le_t rfl, le_t rfl⟩ rfl (le_t rfl) fun z1260 h1259 => ?_
            refine mr_istore (pc := 86) (lv' := [(7, iv z1260), (6, iv z1255), (5, iv z1233), (0, .ref 106), (2, iv p2), (3, iv z1201)]) dX12_attributes_86 (by decide) rfl ?_
            refine sv_aload_n (pc := 88) dX12_attributes_88 rfl rfl ?_
            refine mr_iload_n (pc := 89) (z := z1201) dX12_attributes_89 rfl rfl ?_
            refine mr_iconst (pc := 90) (z := 2) dX12_attributes_90 ?_
            refine mr_iadd (pc := 91) (x := z1201) (y := 2) dX12_attributes_91 ?_
            refine mr_iload (pc := 92) (z := z1233) dX12_attributes_92 rfl ?_
            refine mr_iconst (pc := 94) (z := 2) dX12_attributes_94 ?_
            refine mr_isub (pc := 95) (x := z1233) (y := 2) dX12_attributes_95 ?_
            refine mr_cVP (pc := 96) (c_X12_number_Wf2 hw T1205 (rW (c := 0) (d := 1000) (rAdd (e := 2) (f := 999) h1242 (rR (x := 2)) rfl) rfl) (rW (c := 0) (d := 2) (rSub (e := 1) (f := 2) h1234 (rR (x := 2)) rfl) rfl) (F1206.f (A_106 hw) rfl q_f_size) (vc_X12_attributes_W_12 hq0 h1208 h1214 h1237 h1249 h1213 ht_f_size h1243 h1242 h1234 h1250) (h1259.2.2.1 h1259.1)) (gOk _ _ _ _ _) dX12_attributes_96 (tX12_number _ _ _ _ _) ⟨wV_X12_number, wL_X12_number⟩ wM_X12_623 (gCX12 _ _ _ _ _) rfl (A_106 hw) rfl ⟨le_t rfl, le_t rfl⟩ ⟨le_t rfl, le_t rfl⟩ rfl (le_t rfl) fun z1265 h1264 => ?_
            have h1266 : 0 ≤ z1265 ∧ z1265 ≤ 997 := (vc_X12_attributes_W_13 (h1264.2.1.trans h1247.2.1.symm) h1249 h1243 h1242 h1234 h1250 h1264.1)
            refine mr_istore (pc := 99) (lv' := [(8, iv z1265), (7, iv z1260), (6, iv z1255), (5, iv z1233), (0, .ref 106), (2, iv p2), (3, iv z1201)]) dX12_attributes_99 (by decide) rfl ?_
            refine mr_iload_n (pc := 101) (z := z1201) dX12_attributes_101 rfl rfl ?_
            refine mr_iload (pc := 102) (z := z1233) dX12_attributes_102 rfl ?_
            refine mr_iadd (pc := 104) (x := z1201) (y := z1233) dX12_attributes_104 ?_
            refine mr_istore (pc := 105) (lv' := [(9, iv (z1201 + z1233)), (8, iv z1265), (7, iv z1260), (6, iv z1255), (5, iv z1233), (0, .ref 106), (2, iv p2), (3, iv z1201)]) dX12_attributes_105 (by decide) rfl ?_
            refine sv_aload_n (pc := 107) dX12_attributes_107 rfl rfl ?_
            refine gf_X12_94 (pc := 108) dX12_attributes_108 wF_X12_475 (A_106 hw) T1205 ?_
            refine mr_iload (pc := 111) (z := z1260) dX12_attributes_111 rfl ?_
            refine la_171 (pc := 113) dX12_attributes_113 (A_171 hw) T1205 (rIx (n := 256) h1259.1 rfl) fun z1267 q1268 h1269 => ?_
            refine mr_if_eq (pc := 114) (tgt := 126) dX12_attributes_114 (by decide) (r32 h1269 rfl) (fun h1363 => ?_) (fun h1363 => ?_)
            · have h1364 : 0 ≤ z1267 ∧ z1267 ≤ 0 := (vc_X12_ring_22 h1363 h1269)
              refine sv_aload_n (pc := 126) dX12_attributes_126 rfl rfl ?_
              refine gf_X12_94 (pc := 127) dX12_attributes_127 wF_X12_475 (A_106 hw) T1205 ?_
              refine mr_iload (pc := 130) (z := z1260) dX12_attributes_130 rfl ?_
              refine mr_iconst (pc := 132) (z := 1) dX12_attributes_132 ?_
              refine ss_171 (pc := 133) dX12_attributes_133 (A_171 hw) T1205 (rIx (n := 256) h1259.1 rfl) (rW (c := 0) (d := 1) (rR (x := 1)) rfl) fun μ1365 u1366 T1367 => ?_
              refine mr_iload (pc := 134) (z := z1260) dX12_attributes_134 rfl ?_
              refine mr_iconst (pc := 136) (z := 1) dX12_attributes_136 ?_
              have J1374 : ∀ (z1372 : Int), (((-1) ≤ z1372 ∧ z1372 ≤ 192)) → ((WJ_X12_attributes_W_4 w (loopF (WL_X12_attributes_W_1 w μ p2 Q) False nL1203) z1201 f_c z1233 z1255 z1260 z1265 μ1365) z1372) → sV (gG l D c H0 sa) mX12_attributes (sRm 4 0 0) (sZ (gG l D c H0 sa) 0 0 (qV w [106093, 106098, 106099, 106101, 126999, 170999, 171999, 172999, 173999] μ (fun μ1 => mG [(960, 1000)] μ μ1 ∧ Q μ1 ∧ True))) 177 [(0, .ref 106), (2, iv p2), (3, iv z1201), (6, iv z1255), (7, iv z1260), (8, iv z1265), (9, iv (z1201 + z1233))] [iv z1372] (mk w μ1365) 0 0 := by
                intro z1372 h1373 W1375
                refine mr_istore (pc := 177) (lv' := [(10, iv z1372), (0, .ref 106), (2, iv p2), (3, iv z1201), (6, iv z1255), (7, iv z1260), (8, iv z1265), (9, iv (z1201 + z1233))]) dX12_attributes_177 (by decide) rfl ?_
                refine mr_iload (pc := 179) (z := z1372) dX12_attributes_179 rfl ?_
                have J1446 : ∀ (z1439 : Int) (μ1441 : mM), (mT w μ1441) → (mF [106093, 106098, 106099, 106101, 126999, 170999, 173999] w μ1365 μ1441) → (mG [(960, 1000)] μ1365 μ1441) → ((0 ≤ z1439 ∧ z1439 ≤ 1)) → ((3 * μ1441 106 (93) ≤ (z1201 + z1233))) → ((WJ_X12_attributes_W_5 w (loopF (WL_X12_attributes_W_1 w μ p2 Q) False nL1203) z1201 z1233 z1265 μ1365) z1439 μ1441) → sV (gG l D c H0 sa) mX12_attributes (sRm 4 0 0) (sZ (gG l D c H0 sa) 0 0 (qV w [106093, 106098, 106099, 106101, 126999, 170999, 171999, 172999, 173999] μ (fun μ1 => mG [(960, 1000)] μ μ1 ∧ Q μ1 ∧ True))) 325 [(0, .ref 106), (2, iv p2), (3, iv z1201), (8, iv z1265), (9, iv (z1201 + z1233)), (11, iv z1439)] [] (mk w μ1441) 0 0 := by
                  intro z1439 μ1441 T1442 F1443 G1444 h1440 h1445 W1447
                  obtain ⟨z1448, q1449⟩ : ∃ z, μ1441 106 93 = z := ⟨_, rfl⟩
                  have h1450 : (0 ≤ z1448 ∧ z1448 ≤ 400) := by rw [← q1449]; exact T1442 106 106 (A_106 hw) 93
                  have h1451 : 3 * z1448 ≤ (z1201 + z1233) := q1449 ▸ h1445
                  refine mr_iload (pc := 325) (z := z1439) dX12_attributes_325 rfl ?_
                  refine mr_if_ne (pc := 327) (tgt := 336) dX12_attributes_327 (by decide) (r32 h1440 rfl) (fun h1458 => ?_) (fun h1458 => ?_)
                  · have h1459 : 1 ≤ z1439 ∧ z1439 ≤ 1 := (vc_X12_ring_24 h1458 h1440)
                    refine mr_iload (pc := 336) (z := (z1201 + z1233)) dX12_attributes_336 rfl ?_
                    refine mr_iload (pc := 338) (z := z1265) dX12_attributes_338 rfl ?_
                    refine mr_iadd (pc := 340) (x := (z1201 + z1233)) (y := z1265) dX12_attributes_340 ?_
                    refine mr_istore_n (pc := 341) (lv' := [(3, iv ((z1201 + z1233) + z1265)), (0, .ref 106), (2, iv p2), (8, iv z1265), (9, iv (z1201 + z1233)), (11, iv z1439)]) dX12_attributes_341 rfl (by decide) rfl ?_
                    refine sv_goto (pc := 342) (tgt := 2) dX12_attributes_342 (by decide) ?_
                    refine mr_lvS (lv' := [(0, .ref 106), (2, iv p2), (3, iv ((z1201 + z1233) + z1265))]) (List.forall_mem_cons.mpr ⟨rfl, List.forall_mem_cons.mpr ⟨rfl, List.forall_mem_cons.mpr ⟨rfl, fun _ h => absurd h List.not_mem_nil⟩⟩⟩) ?_
                    exact ih1212 ((z1201 + z1233) + z1265) μ1441 z1448 T1442 (mF.call (mF.up (mF.call mF.refl F1206 rfl) (A_171 hw) u1366 rfl) F1443 rfl) (mG.call (mG.upO (mG.call mG.refl G1207 (List.forall_mem_cons.mpr ⟨⟨_, List.mem_cons_self, vc_X12_attributes_W_2⟩, (fun _ h => absurd h List.not_mem_nil)⟩)) u1366 rfl) G1444 (List.forall_mem_cons.mpr ⟨⟨_, List.mem_cons_self, vc_X12_attributes_W_2⟩, (fun _ h => absurd h List.not_mem_nil)⟩)) q1449 (vc_X12_attributes_W_16 h1208 h1214 h1237 h1249 (h1264.2.1.trans h1247.2.1.symm) h1451 hq0 h1213 ht_f_size h1243 h1242 h1234 h1250 h1266 h1450) (vc_X12_attributes_W_17 h1208 h1214 h1237 h1249 (h1264.2.1.trans h1247.2.1.symm) h1451 hq0 h1213 ht_f_size h1243 h1242 h1234 h1250 h1266 h1450) (vc_X12_attributes_W_18 (nS h1209) h1208 h1214 h1237 h1249 (h1264.2.1.trans h1247.2.1.symm) h1451 hq0 h1213 ht_f_size h1243 h1242 h1234 h1250 h1266 h1450) (((W1447 h1440 T1442 F1443) z1448 q1449 h1450).1 h1458)
                  have h1460 : 0 ≤ z1439 ∧ z1439 ≤ 0 := (vc_X12_ring_22 h1458 h1440)
                  refine sv_aload_n (pc := 330) dX12_attributes_330 rfl rfl ?_
                  refine mr_iconst (pc := 331) (z := 2) dX12_attributes_331 ?_
                  refine mr_iload_n (pc := 332) (z := z1201) dX12_attributes_332 rfl rfl ?_
                  refine mr_cVV (pc := 333) (c_X12_fails_W hw T1442 (rW (c := 0) (d := 3) (rR (x := 2)) rfl) (rW (c := (-2147483648)) (d := 2147483647) h1242 rfl) (((W1447 h1440 T1442 F1443) z1448 q1449 h1450).2 h1458)) (gOk _ _ _ _ _) dX12_attributes_333 (tX12_fails _ _ _ _ _) ⟨wV_X12_fails, wL_X12_fails⟩ wM_X12_620 (gCX12 _ _ _ _ _) rfl (A_106 hw) rfl ⟨le_t rfl, le_t rfl⟩ ⟨le_t rfl, le_t rfl⟩ rfl (le_t rfl) fun μ1461 T1462 F1463 h1464 => ?_
                  refine mr_iload (pc := 336) (z := (z1201 + z1233)) dX12_attributes_336 rfl ?_
                  refine mr_iload (pc := 338) (z := z1265) dX12_attributes_338 rfl ?_
                  refine mr_iadd (pc := 340) (x := (z1201 + z1233)) (y := z1265) dX12_attributes_340 ?_
                  refine mr_istore_n (pc := 341) (lv' := [(3, iv ((z1201 + z1233) + z1265)), (0, .ref 106), (2, iv p2), (8, iv z1265), (9, iv (z1201 + z1233)), (11, iv z1439)]) dX12_attributes_341 rfl (by decide) rfl ?_
                  refine sv_goto (pc := 342) (tgt := 2) dX12_attributes_342 (by decide) ?_
                  refine mr_lvS (lv' := [(0, .ref 106), (2, iv p2), (3, iv ((z1201 + z1233) + z1265))]) (List.forall_mem_cons.mpr ⟨rfl, List.forall_mem_cons.mpr ⟨rfl, List.forall_mem_cons.mpr ⟨rfl, fun _ h => absurd h List.not_mem_nil⟩⟩⟩) ?_
                  exact ih1212 ((z1201 + z1233) + z1265) μ1461 z1448 T1462 (mF.call (mF.call (mF.up (mF.call mF.refl F1206 rfl) (A_171 hw) u1366 rfl) F1443 rfl) F1463 rfl) (mG.fr (mG.call (mG.upO (mG.call mG.refl G1207 (List.forall_mem_cons.mpr ⟨⟨_, List.mem_cons_self, vc_X12_attributes_W_2⟩, (fun _ h => absurd h List.not_mem_nil)⟩)) u1366 rfl) G1444 (List.forall_mem_cons.mpr ⟨⟨_, List.mem_cons_self, vc_X12_attributes_W_2⟩, (fun _ h => absurd h List.not_mem_nil)⟩)) F1463 (A_126 hw) rfl) (F1463.f (A_106 hw) rfl q1449) (vc_X12_attributes_W_16 h1208 h1214 h1237 h1249 (h1264.2.1.trans h1247.2.1.symm) h1451 hq0 h1213 ht_f_size h1243 h1242 h1234 h1250 h1266 h1450) (vc_X12_attributes_W_17 h1208 h1214 h1237 h1249 (h1264.2.1.trans h1247.2.1.symm) h1451 hq0 h1213 ht_f_size h1243 h1242 h1234 h1250 h1266 h1450) (vc_X12_attributes_W_18 (nS h1209) h1208 h1214 h1237 h1249 (h1264.2.1.trans h1247.2.1.symm) h1451 hq0 h1213 ht_f_size h1243 h1242 h1234 h1250 h1266 h1450) (h1464.1 T1462 F1463)
                refine mr_if_lt (pc := 181) (tgt := 275) dX12_attributes_181 (by decide) (r32 h1373 rfl) (fun h1465 => ?_) (fun h1465 => ?_)
                · have h1466 : (-1) ≤ z1372 ∧ z1372 ≤ (-1) := (vc_X12_attributes_W_20 h1465 h1373)
                  refine mr_iload (pc := 275) (z := z1255) dX12_attributes_275 rfl ?_
                  refine mr_sipush (pc := 277) (z := 128) dX12_attributes_277 (by decide) ?_
                  refine mr_iand (pc := 280) (x := z1255) (y := 128) dX12_attributes_280 ?_
                  refine mr_gen (P := fun z => 0 ≤ z ∧ z ≤ 128) (rAndR (rR (x := 128)) rfl) fun z1467 q1468 h1469 => ?_
                  have J1474 : ∀ (z1472 : Int), ((0 ≤ z1472 ∧ z1472 ≤ 1)) → ((WJ_X12_attributes_W_6 w (loopF (WL_X12_attributes_W_1 w μ p2 Q) False nL1203) z1201 f_c z1233 z1255 z1260 z1265 μ1365) z1472) → sV (gG l D c H0 sa) mX12_attributes (sRm 4 0 0) (sZ (gG l D c H0 sa) 0 0 (qV w [106093, 106098, 106099, 106101, 126999, 170999, 171999, 172999, 173999] μ (fun μ1 => mG [(960, 1000)] μ μ1 ∧ Q μ1 ∧ True))) 289 [(0, .ref 106), (2, iv p2), (3, iv z1201), (6, iv z1255), (7, iv z1260), (8, iv z1265), (9, iv (z1201 + z1233))] [iv z1472] (mk w μ1365) 0 0 := by
                    intro z1472 h1473 W1475
                    refine mr_istore (pc := 289) (lv' := [(11, iv z1472), (0, .ref 106), (2, iv p2), (3, iv z1201), (6, iv z1255), (7, iv z1260), (8, iv z1265), (9, iv (z1201 + z1233))]) dX12_attributes_289 (by decide) rfl ?_
                    refine mr_iload (pc := 291) (z := z1472) dX12_attributes_291 rfl ?_
                    refine mr_if_eq (pc := 293) (tgt := 325) dX12_attributes_293 (by decide) (r32 h1473 rfl) (fun h1476 => ?_) (fun h1476 => ?_)
                    · have h1477 : 0 ≤ z1472 ∧ z1472 ≤ 0 := (vc_X12_ring_22 h1476 h1473)
                      refine mr_lvS (lv' := [(0, .ref 106), (2, iv p2), (3, iv z1201), (8, iv z1265), (9, iv (z1201 + z1233)), (11, iv z1472)]) (List.forall_mem_cons.mpr ⟨rfl, List.forall_mem_cons.mpr ⟨rfl, List.forall_mem_cons.mpr ⟨rfl, List.forall_mem_cons.mpr ⟨rfl, List.forall_mem_cons.mpr ⟨rfl, List.forall_mem_cons.mpr ⟨rfl, fun _ h => absurd h List.not_mem_nil⟩⟩⟩⟩⟩⟩) ?_
                      exact J1446 z1472 μ1365 T1367 mF.refl mG.refl (rW (c := 0) (d := 1) h1477 rfl) (by rw [(u1366.f (Or.inl (mAt.ne (A_171 hw) (A_106 hw) rfl)) q1211)]; exact (vc_X12_attributes_W_22 h1208 h1214 h1237 h1249 hq0 (h1264.2.1.trans h1247.2.1.symm) h1213 ht_f_size h1243 h1242 h1234 h1250 h1266)) ((W1475 h1473).1 h1476)
                    have h1478 : 1 ≤ z1472 ∧ z1472 ≤ 1 := (vc_X12_ring_24 h1476 h1473)
                    refine mr_iload (pc := 296) (z := z1255) dX12_attributes_296 rfl ?_
                    refine mr_bipush (pc := 298) (z := 64) dX12_attributes_298 (by decide) ?_
                    refine mr_iand (pc := 300) (x := z1255) (y := 64) dX12_attributes_300 ?_
                    refine mr_gen (P := fun z => 0 ≤ z ∧ z ≤ 64) (rAndR (rR (x := 64)) rfl) fun z1479 q1480 h1481 => ?_
                    refine mr_if_eq (pc := 301) (tgt := 325) dX12_attributes_301 (by decide) (r32 h1481 rfl) (fun h1482 => ?_) (fun h1482 => ?_)
                    · have h1483 : 0 ≤ z1479 ∧ z1479 ≤ 0 := (vc_X12_attributes_W_24 h1482 h1481)
                      refine mr_lvS (lv' := [(0, .ref 106), (2, iv p2), (3, iv z1201), (8, iv z1265), (9, iv (z1201 + z1233)), (11, iv z1472)]) (List.forall_mem_cons.mpr ⟨rfl, List.forall_mem_cons.mpr ⟨rfl, List.forall_mem_cons.mpr ⟨rfl, List.forall_mem_cons.mpr ⟨rfl, List.forall_mem_cons.mpr ⟨rfl, List.forall_mem_cons.mpr ⟨rfl, fun _ h => absurd h List.not_mem_nil⟩⟩⟩⟩⟩⟩) ?_
                      exact J1446 z1472 μ1365 T1367 mF.refl mG.refl (rW (c := 0) (d := 1) h1478 rfl) (by rw [(u1366.f (Or.inl (mAt.ne (A_171 hw) (A_106 hw) rfl)) q1211)]; exact (vc_X12_attributes_W_22 h1208 h1214 h1237 h1249 hq0 (h1264.2.1.trans h1247.2.1.symm) h1213 ht_f_size h1243 h1242 h1234 h1250 h1266)) ((((W1475 h1473).2 h1476) z1479 q1480).1 h1482)
                    have h1484 : 1 ≤ z1479 ∧ z1479 ≤ 64 := (vc_X12_attributes_W_25 h1482 h1481)
                    refine sv_aload_n (pc := 304) dX12_attributes_304 rfl rfl ?_
                    refine gf_X12_92 (pc := 305) dX12_attributes_305 wF_X12_472 (A_106 hw) T1367 ?_
                    refine sv_aload_n (pc := 308) dX12_attributes_308 rfl rfl ?_
                    refine gk_X12_93 (pc := 309) dX12_attributes_309 wF_X12_652 (A_106 hw) (u1366.f (Or.inl (mAt.ne (A_171 hw) (A_106 hw) rfl)) q1211) ?_
                    refine mr_iload (pc := 312) (z := z1260) dX12_attributes_312 rfl ?_
                    refine ss_170 (pc := 314) dX12_attributes_314 (A_170 hw) T1367 (vc_X12_attributes_W_26 h1208 h1214 h1237 h1249 h1213 h1243 h1242 h1234 h1250) (rW (c := (-2147483648)) (d := 2147483647) h1259.1 rfl) fun μ1485 u1486 T1487 => ?_
                    refine sv_aload_n (pc := 315) dX12_attributes_315 rfl rfl ?_
                    refine sv_dup (pc := 316) dX12_attributes_316 rfl ?_
                    refine gk_X12_93 (pc := 317) dX12_attributes_317 wF_X12_652 (A_106 hw) (u1486.f (Or.inl (mAt.ne (A_170 hw) (A_106 hw) rfl)) (u1366.f (Or.inl (mAt.ne (A_171 hw) (A_106 hw) rfl)) q1211)) ?_
                    refine mr_iconst (pc := 320) (z := 1) dX12_attributes_320 ?_
                    refine mr_iadd (pc := 321) (x := f_c) (y := 1) dX12_attributes_321 ?_
                    refine pf_X12_93 (pc := 322) dX12_attributes_322 wF_X12_652 (A_106 hw) T1487 (vc_X12_attributes_W_27 h1208 h1214 h1237 h1249 h1213 h1243 h1242 h1234 h1250) fun μ1488 u1489 T1490 => ?_
                    refine mr_lvS (lv' := [(0, .ref 106), (2, iv p2), (3, iv z1201), (8, iv z1265), (9, iv (z1201 + z1233)), (11, iv z1472)]) (List.forall_mem_cons.mpr ⟨rfl, List.forall_mem_cons.mpr ⟨rfl, List.forall_mem_cons.mpr ⟨rfl, List.forall_mem_cons.mpr ⟨rfl, List.forall_mem_cons.mpr ⟨rfl, List.forall_mem_cons.mpr ⟨rfl, fun _ h => absurd h List.not_mem_nil⟩⟩⟩⟩⟩⟩) ?_
                    exact J1446 z1472 μ1488 T1490 (mF.up (mF.up mF.refl (A_170 hw) u1486 rfl) (A_106 hw) u1489 rfl) (mG.upO (mG.upO mG.refl u1486 rfl) u1489 rfl) (rW (c := 0) (d := 1) h1478 rfl) (by rw [u1489.1]; exact (vc_X12_attributes_W_28 h1208 h1214 h1237 h1249 hq0 (h1264.2.1.trans h1247.2.1.symm) h1213 ht_f_size h1243 h1242 h1234 h1250 h1266)) ((((((W1475 h1473).2 h1476) z1479 q1480).2 h1482) μ1485 u1486 T1487) μ1488 u1489 T1490)
                  refine mr_if_eq (pc := 281) (tgt := 288) dX12_attributes_281 (by decide) (r32 h1469 rfl) (fun h1491 => ?_) (fun h1491 => ?_)
                  · have h1492 : 0 ≤ z1467 ∧ z1467 ≤ 0 := (vc_X3_readAttribute_W_20 h1491 h1469)
                    refine mr_iconst (pc := 288) (z := 0) dX12_attributes_288 ?_
                    refine mr_lvS (lv' := [(0, .ref 106), (2, iv p2), (3, iv z1201), (6, iv z1255), (7, iv z1260), (8, iv z1265), (9, iv (z1201 + z1233))]) (List.forall_mem_cons.mpr ⟨rfl, List.forall_mem_cons.mpr ⟨rfl, List.forall_mem_cons.mpr ⟨rfl, List.forall_mem_cons.mpr ⟨rfl, List.forall_mem_cons.mpr ⟨rfl, List.forall_mem_cons.mpr ⟨rfl, List.forall_mem_cons.mpr ⟨rfl, fun _ h => absurd h List.not_mem_nil⟩⟩⟩⟩⟩⟩⟩) ?_
                    exact J1474 0 (rW (c := 0) (d := 1) (rR (x := 0)) rfl) ((((W1375 h1373).1 h1465) z1467 q1468).1 h1491)
                  have h1493 : 1 ≤ z1467 ∧ z1467 ≤ 128 := (vc_X3_readAttribute_W_21 h1491 h1469)
                  refine mr_iconst (pc := 284) (z := 1) dX12_attributes_284 ?_
                  refine sv_goto (pc := 285) (tgt := 289) dX12_attributes_285 (by decide) ?_
                  refine mr_lvS (lv' := [(0, .ref 106), (2, iv p2), (3, iv z1201), (6, iv z1255), (7, iv z1260), (8, iv z1265), (9, iv (z1201 + z1233))]) (List.forall_mem_cons.mpr ⟨rfl, List.forall_mem_cons.mpr ⟨rfl, List.forall_mem_cons.mpr ⟨rfl, List.forall_mem_cons.mpr ⟨rfl, List.forall_mem_cons.mpr ⟨rfl, List.forall_mem_cons.mpr ⟨rfl, List.forall_mem_cons.mpr ⟨rfl, fun _ h => absurd h List.not_mem_nil⟩⟩⟩⟩⟩⟩⟩) ?_
                  exact J1474 1 (rW (c := 0) (d := 1) (rR (x := 1)) rfl) ((((W1375 h1373).1 h1465) z1467 q1468).2 h1491)
                have h1494 : 0 ≤ z1372 ∧ z1372 ≤ 192 := (vc_X12_attributes_W_31 h1465 h1373)
                refine mr_iload (pc := 184) (z := z1255) dX12_attributes_184 rfl ?_
                refine mr_bipush (pc := 186) (z := (-49)) dX12_attributes_186 (by decide) ?_
                refine mr_iand (pc := 188) (x := z1255) (y := (-49)) dX12_attributes_188 ?_
                refine mr_gen (P := fun z => 0 ≤ z ∧ z ≤ 255) (rAndL h1254.1 rfl) fun z1495 q1496 h1497 => ?_
                refine mr_iload (pc := 189) (z := z1372) dX12_attributes_189 rfl ?_
                have J1536 : ∀ (z1530 : Int) (μ1532 : mM), (mT w μ1532) → (mF [106098, 106099, 106101, 126999, 173999] w μ1365 μ1532) → (mG [(960, 1000)] μ1365 μ1532) → ((0 ≤ z1530 ∧ z1530 ≤ 1)) → ((WJ_X12_attributes_W_7 w (loopF (WL_X12_attributes_W_1 w μ p2 Q) False nL1203) z1201 z1233 z1265 μ1365) z1530 μ1532) → sV (gG l D c H0 sa) mX12_attributes (sRm 4 0 0) (sZ (gG l D c H0 sa) 0 0 (qV w [106093, 106098, 106099, 106101, 126999, 170999, 171999, 172999, 173999] μ (fun μ1 => mG [(960, 1000)] μ μ1 ∧ Q μ1 ∧ True))) 270 [(0, .ref 106), (2, iv p2), (3, iv z1201), (8, iv z1265), (9, iv (z1201 + z1233))] [iv z1530] (mk w μ1532) 0 0 := by
                  intro z1530 μ1532 T1533 F1534 G1535 h1531 W1537
                  refine mr_istore (pc := 270) (lv' := [(11, iv z1530), (0, .ref 106), (2, iv p2), (3, iv z1201), (8, iv z1265), (9, iv (z1201 + z1233))]) dX12_attributes_270 (by decide) rfl ?_
                  refine sv_goto (pc := 272) (tgt := 325) dX12_attributes_272 (by decide) ?_
                  refine mr_lvS (lv' := [(0, .ref 106), (2, iv p2), (3, iv z1201), (8, iv z1265), (9, iv (z1201 + z1233)), (11, iv z1530)]) (List.forall_mem_cons.mpr ⟨rfl, List.forall_mem_cons.mpr ⟨rfl, List.forall_mem_cons.mpr ⟨rfl, List.forall_mem_cons.mpr ⟨rfl, List.forall_mem_cons.mpr ⟨rfl, List.forall_mem_cons.mpr ⟨rfl, fun _ h => absurd h List.not_mem_nil⟩⟩⟩⟩⟩⟩) ?_
                  exact J1446 z1530 μ1532 T1533 (mF.call mF.refl F1534 rfl) (mG.call mG.refl G1535 (List.forall_mem_cons.mpr ⟨⟨_, List.mem_cons_self, vc_X12_attributes_W_2⟩, (fun _ h => absurd h List.not_mem_nil)⟩)) h1531 (by rw [(F1534.f (A_106 hw) rfl (u1366.f (Or.inl (mAt.ne (A_171 hw) (A_106 hw) rfl)) q1211))]; exact (vc_X12_attributes_W_22 h1208 h1214 h1237 h1249 hq0 (h1264.2.1.trans h1247.2.1.symm) h1213 ht_f_size h1243 h1242 h1234 h1250 h1266)) (W1537 h1531 T1533 F1534)
                refine mr_icmp_ne (pc := 191) (tgt := 269) dX12_attributes_191 (by decide) (r32 h1497 rfl) (r32 h1494 rfl) (fun h1538 => ?_) (fun h1538 => ?_)
                · refine mr_iconst (pc := 269) (z := 0) dX12_attributes_269 ?_
                  refine mr_lvS (lv' := [(0, .ref 106), (2, iv p2), (3, iv z1201), (8, iv z1265), (9, iv (z1201 + z1233))]) (List.forall_mem_cons.mpr ⟨rfl, List.forall_mem_cons.mpr ⟨rfl, List.forall_mem_cons.mpr ⟨rfl, List.forall_mem_cons.mpr ⟨rfl, List.forall_mem_cons.mpr ⟨rfl, fun _ h => absurd h List.not_mem_nil⟩⟩⟩⟩⟩) ?_
                  exact J1536 0 μ1365 T1367 mF.refl mG.refl (rW (c := 0) (d := 1) (rR (x := 0)) rfl) ((((W1375 h1373).2 h1465) z1495 q1496).1 h1538)
                have h1539 : 0 ≤ z1495 ∧ z1495 ≤ 192 := (vc_X12_attributes_W_32 h1538 h1465 h1494 h1497)
                refine mr_iload (pc := 194) (z := z1260) dX12_attributes_194 rfl ?_
                refine mr_iconst (pc := 196) (z := 1) dX12_attributes_196 ?_
                refine mr_icmp_ne (pc := 197) (tgt := 214) dX12_attributes_197 (by decide) (r32 h1259.1 rfl) (r32 (rR (x := 1)) rfl) (fun h1540 => ?_) (fun h1540 => ?_)
                · refine mr_iload (pc := 214) (z := z1260) dX12_attributes_214 rfl ?_
                  refine mr_iconst (pc := 216) (z := 2) dX12_attributes_216 ?_
                  refine mr_icmp_ne (pc := 217) (tgt := 234) dX12_attributes_217 (by decide) (r32 h1259.1 rfl) (r32 (rR (x := 2)) rfl) (fun h1541 => ?_) (fun h1541 => ?_)
                  · refine mr_iload (pc := 234) (z := z1260) dX12_attributes_234 rfl ?_
                    refine mr_iconst (pc := 236) (z := 4) dX12_attributes_236 ?_
                    refine mr_icmp_ne (pc := 237) (tgt := 254) dX12_attributes_237 (by decide) (r32 h1259.1 rfl) (r32 (rR (x := 4)) rfl) (fun h1542 => ?_) (fun h1542 => ?_)
                    · refine sv_aload_n (pc := 254) dX12_attributes_254 rfl rfl ?_
                      refine mr_iload (pc := 255) (z := (z1201 + z1233)) dX12_attributes_255 rfl ?_
                      refine mr_iload (pc := 257) (z := z1265) dX12_attributes_257 rfl ?_
                      refine mr_cVI (pc := 259) (c_X12_marksRight_Wf hw T1367 (vc_X12_attributes_W_33 h1208 h1214 h1237 h1249 hq0 (h1264.2.1.trans h1247.2.1.symm) h1213 ht_f_size h1243 h1242 h1234 h1250 h1266) (rW (c := 0) (d := 1000) h1266 rfl) (u1366.f (Or.inl (mAt.ne (A_171 hw) (A_106 hw) rfl)) (F1206.f (A_106 hw) rfl q_f_size)) (vc_X12_attributes_W_34 hq0 h1208 h1214 h1237 h1249 (h1264.2.1.trans h1247.2.1.symm) h1213 ht_f_size h1243 h1242 h1234 h1250 h1266) (((((((W1375 h1373).2 h1465) z1495 q1496).2 h1538).1 h1540).1 h1541).1 h1542)) (gOk _ _ _ _ _) dX12_attributes_259 (tX12_marksRight _ _ _ _ _) ⟨wV_X12_marksRight, wL_X12_marksRight⟩ wM_X12_649 (gCX12 _ _ _ _ _) rfl (A_106 hw) rfl ⟨le_t rfl, le_t rfl⟩ ⟨le_t rfl, le_t rfl⟩ rfl (le_t rfl) fun z1547 μ1543 T1544 F1545 h1546 => ?_
                      refine mr_if_eq (pc := 262) (tgt := 269) dX12_attributes_262 (by decide) (r32 h1546.1 rfl) (fun h1548 => ?_) (fun h1548 => ?_)
                      · have h1549 : 0 ≤ z1547 ∧ z1547 ≤ 0 := (vc_X12_ring_22 h1548 h1546.1)
                        refine mr_iconst (pc := 269) (z := 0) dX12_attributes_269 ?_
                        refine mr_lvS (lv' := [(0, .ref 106), (2, iv p2), (3, iv z1201), (8, iv z1265), (9, iv (z1201 + z1233))]) (List.forall_mem_cons.mpr ⟨rfl, List.forall_mem_cons.mpr ⟨rfl, List.forall_mem_cons.mpr ⟨rfl, List.forall_mem_cons.mpr ⟨rfl, List.forall_mem_cons.mpr ⟨rfl, fun _ h => absurd h List.not_mem_nil⟩⟩⟩⟩⟩) ?_
                        exact J1536 0 μ1543 T1544 (mF.call mF.refl F1545 rfl) (mG.call mG.refl h1546.2.1 (List.forall_mem_cons.mpr ⟨⟨_, List.mem_cons_self, vc_X12_attributes_W_36⟩, (fun _ h => absurd h List.not_mem_nil)⟩)) (rW (c := 0) (d := 1) (rR (x := 0)) rfl) (((h1546.2.2.1 T1544 F1545) h1546.1).1 h1548)
                      have h1550 : 1 ≤ z1547 ∧ z1547 ≤ 1 := (vc_X12_ring_24 h1548 h1546.1)
                      refine mr_iconst (pc := 265) (z := 1) dX12_attributes_265 ?_
                      refine sv_goto (pc := 266) (tgt := 270) dX12_attributes_266 (by decide) ?_
                      refine mr_lvS (lv' := [(0, .ref 106), (2, iv p2), (3, iv z1201), (8, iv z1265), (9, iv (z1201 + z1233))]) (List.forall_mem_cons.mpr ⟨rfl, List.forall_mem_cons.mpr ⟨rfl, List.forall_mem_cons.mpr ⟨rfl, List.forall_mem_cons.mpr ⟨rfl, List.forall_mem_cons.mpr ⟨rfl, fun _ h => absurd h List.not_mem_nil⟩⟩⟩⟩⟩) ?_
                      exact J1536 1 μ1543 T1544 (mF.call mF.refl F1545 rfl) (mG.call mG.refl h1546.2.1 (List.forall_mem_cons.mpr ⟨⟨_, List.mem_cons_self, vc_X12_attributes_W_36⟩, (fun _ h => absurd h List.not_mem_nil)⟩)) (rW (c := 0) (d := 1) (rR (x := 1)) rfl) (((h1546.2.2.1 T1544 F1545) h1546.1).2 h1548)
                    have h1551 : 4 ≤ z1260 ∧ z1260 ≤ 4 := (vc_X12_attributes_W_38 h1542 h1540 h1541 h1259.1)
                    refine sv_aload_n (pc := 240) dX12_attributes_240 rfl rfl ?_
                    refine mr_iload (pc := 241) (z := (z1201 + z1233)) dX12_attributes_241 rfl ?_
                    refine mr_iload (pc := 243) (z := z1265) dX12_attributes_243 rfl ?_
                    refine mr_cVI (pc := 245) (c_X12_costRight_Wf hw T1367 (vc_X12_attributes_W_33 h1208 h1214 h1237 h1249 hq0 (h1264.2.1.trans h1247.2.1.symm) h1213 ht_f_size h1243 h1242 h1234 h1250 h1266) (rW (c := 0) (d := 1000) h1266 rfl) (u1366.f (Or.inl (mAt.ne (A_171 hw) (A_106 hw) rfl)) (F1206.f (A_106 hw) rfl q_f_size)) (vc_X12_attributes_W_34 hq0 h1208 h1214 h1237 h1249 (h1264.2.1.trans h1247.2.1.symm) h1213 ht_f_size h1243 h1242 h1234 h1250 h1266) (((((((W1375 h1373).2 h1465) z1495 q1496).2 h1538).1 h1540).1 h1541).2 h1542)) (gOk _ _ _ _ _) dX12_attributes_245 (tX12_costRight _ _ _ _ _) ⟨wV_X12_costRight, wL_X12_costRight⟩ wM_X12_646 (gCX12 _ _ _ _ _) rfl (A_106 hw) rfl ⟨le_t rfl, le_t rfl⟩ ⟨le_t rfl, le_t rfl⟩ rfl (le_t rfl) fun z1556 μ1552 T1553 F1554 h1555 => ?_
                    refine mr_if_eq (pc := 248) (tgt := 269) dX12_attributes_248 (by decide) (r32 h1555.1 rfl) (fun h1557 => ?_) (fun h1557 => ?_)
                    · have h1558 : 0 ≤ z1556 ∧ z1556 ≤ 0 := (vc_X12_ring_22 h1557 h1555.1)
                      refine mr_iconst (pc := 269) (z := 0) dX12_attributes_269 ?_
                      refine mr_lvS (lv' := [(0, .ref 106), (2, iv p2), (3, iv z1201), (8, iv z1265), (9, iv (z1201 + z1233))]) (List.forall_mem_cons.mpr ⟨rfl, List.forall_mem_cons.mpr ⟨rfl, List.forall_mem_cons.mpr ⟨rfl, List.forall_mem_cons.mpr ⟨rfl, List.forall_mem_cons.mpr ⟨rfl, fun _ h => absurd h List.not_mem_nil⟩⟩⟩⟩⟩) ?_
                      exact J1536 0 μ1552 T1553 (mF.call mF.refl F1554 rfl) (mG.call mG.refl h1555.2.1 (List.forall_mem_cons.mpr ⟨⟨_, List.mem_cons_self, vc_X12_attributes_W_40⟩, (fun _ h => absurd h List.not_mem_nil)⟩)) (rW (c := 0) (d := 1) (rR (x := 0)) rfl) (((h1555.2.2.1 T1553 F1554) h1555.1).1 h1557)
                    have h1559 : 1 ≤ z1556 ∧ z1556 ≤ 1 := (vc_X12_ring_24 h1557 h1555.1)
                    refine sv_goto (pc := 251) (tgt := 265) dX12_attributes_251 (by decide) ?_
                    refine mr_iconst (pc := 265) (z := 1) dX12_attributes_265 ?_
                    refine sv_goto (pc := 266) (tgt := 270) dX12_attributes_266 (by decide) ?_
                    refine mr_lvS (lv' := [(0, .ref 106), (2, iv p2), (3, iv z1201), (8, iv z1265), (9, iv (z1201 + z1233))]) (List.forall_mem_cons.mpr ⟨rfl, List.forall_mem_cons.mpr ⟨rfl, List.forall_mem_cons.mpr ⟨rfl, List.forall_mem_cons.mpr ⟨rfl, List.forall_mem_cons.mpr ⟨rfl, fun _ h => absurd h List.not_mem_nil⟩⟩⟩⟩⟩) ?_
                    exact J1536 1 μ1552 T1553 (mF.call mF.refl F1554 rfl) (mG.call mG.refl h1555.2.1 (List.forall_mem_cons.mpr ⟨⟨_, List.mem_cons_self, vc_X12_attributes_W_40⟩, (fun _ h => absurd h List.not_mem_nil)⟩)) (rW (c := 0) (d := 1) (rR (x := 1)) rfl) (((h1555.2.2.1 T1553 F1554) h1555.1).2 h1557)
                  have h1560 : 2 ≤ z1260 ∧ z1260 ≤ 2 := (vc_X3_readAttribute_W_10 h1541 h1540 h1259.1)
                  refine sv_aload_n (pc := 220) dX12_attributes_220 rfl rfl ?_
                  refine mr_iload (pc := 221) (z := (z1201 + z1233)) dX12_attributes_221 rfl ?_
                  refine mr_iload (pc := 223) (z := z1265) dX12_attributes_223 rfl ?_
                  refine mr_cVI (pc := 225) (c_X12_wayRight_W hw T1367 (vc_X12_attributes_W_33 h1208 h1214 h1237 h1249 hq0 (h1264.2.1.trans h1247.2.1.symm) h1213 ht_f_size h1243 h1242 h1234 h1250 h1266) (rW (c := 0) (d := 1000) h1266 rfl) (u1366.f (Or.inl (mAt.ne (A_171 hw) (A_106 hw) rfl)) (F1206.f (A_106 hw) rfl q_f_size)) (vc_X12_attributes_W_34 hq0 h1208 h1214 h1237 h1249 (h1264.2.1.trans h1247.2.1.symm) h1213 ht_f_size h1243 h1242 h1234 h1250 h1266) ((((((W1375 h1373).2 h1465) z1495 q1496).2 h1538).1 h1540).2 h1541)) (gOk _ _ _ _ _) dX12_attributes_225 (tX12_wayRight _ _ _ _ _) ⟨wV_X12_wayRight, wL_X12_wayRight⟩ wM_X12_643 (gCX12 _ _ _ _ _) rfl (A_106 hw) rfl ⟨le_t rfl, le_t rfl⟩ ⟨le_t rfl, le_t rfl⟩ rfl (le_t rfl) fun z1565 μ1561 T1562 F1563 h1564 => ?_
                  refine mr_if_eq (pc := 228) (tgt := 269) dX12_attributes_228 (by decide) (r32 h1564.1 rfl) (fun h1566 => ?_) (fun h1566 => ?_)
                  · have h1567 : 0 ≤ z1565 ∧ z1565 ≤ 0 := (vc_X12_ring_22 h1566 h1564.1)
                    refine mr_iconst (pc := 269) (z := 0) dX12_attributes_269 ?_
                    refine mr_lvS (lv' := [(0, .ref 106), (2, iv p2), (3, iv z1201), (8, iv z1265), (9, iv (z1201 + z1233))]) (List.forall_mem_cons.mpr ⟨rfl, List.forall_mem_cons.mpr ⟨rfl, List.forall_mem_cons.mpr ⟨rfl, List.forall_mem_cons.mpr ⟨rfl, List.forall_mem_cons.mpr ⟨rfl, fun _ h => absurd h List.not_mem_nil⟩⟩⟩⟩⟩) ?_
                    exact J1536 0 μ1561 T1562 (mF.call mF.refl F1563 rfl) (mG.call mG.refl h1564.2.1 (List.forall_mem_cons.mpr ⟨⟨_, List.mem_cons_self, vc_X12_attributes_W_44⟩, (fun _ h => absurd h List.not_mem_nil)⟩)) (rW (c := 0) (d := 1) (rR (x := 0)) rfl) (((h1564.2.2.1 T1562 F1563) h1564.1).1 h1566)
                  have h1568 : 1 ≤ z1565 ∧ z1565 ≤ 1 := (vc_X12_ring_24 h1566 h1564.1)
                  refine sv_goto (pc := 231) (tgt := 265) dX12_attributes_231 (by decide) ?_
                  refine mr_iconst (pc := 265) (z := 1) dX12_attributes_265 ?_
                  refine sv_goto (pc := 266) (tgt := 270) dX12_attributes_266 (by decide) ?_
                  refine mr_lvS (lv' := [(0, .ref 106), (2, iv p2), (3, iv z1201), (8, iv z1265), (9, iv (z1201 + z1233))]) (List.forall_mem_cons.mpr ⟨rfl, List.forall_mem_cons.mpr ⟨rfl, List.forall_mem_cons.mpr ⟨rfl, List.forall_mem_cons.mpr ⟨rfl, List.forall_mem_cons.mpr ⟨rfl, fun _ h => absurd h List.not_mem_nil⟩⟩⟩⟩⟩) ?_
                  exact J1536 1 μ1561 T1562 (mF.call mF.refl F1563 rfl) (mG.call mG.refl h1564.2.1 (List.forall_mem_cons.mpr ⟨⟨_, List.mem_cons_self, vc_X12_attributes_W_44⟩, (fun _ h => absurd h List.not_mem_nil)⟩)) (rW (c := 0) (d := 1) (rR (x := 1)) rfl) (((h1564.2.2.1 T1562 F1563) h1564.1).2 h1566)
                have h1569 : 1 ≤ z1260 ∧ z1260 ≤ 1 := (vc_X3_readAttribute_W_2 h1540 h1259.1)
                refine sv_aload_n (pc := 200) dX12_attributes_200 rfl rfl ?_
                refine mr_iload (pc := 201) (z := (z1201 + z1233)) dX12_attributes_201 rfl ?_
                refine mr_iload (pc := 203) (z := z1265) dX12_attributes_203 rfl ?_
                refine mr_cVI (pc := 205) (c_X12_originRight_Wf hw T1367 (vc_X12_attributes_W_33 h1208 h1214 h1237 h1249 hq0 (h1264.2.1.trans h1247.2.1.symm) h1213 ht_f_size h1243 h1242 h1234 h1250 h1266) (rW (c := 0) (d := 1000) h1266 rfl) (u1366.f (Or.inl (mAt.ne (A_171 hw) (A_106 hw) rfl)) (F1206.f (A_106 hw) rfl q_f_size)) (vc_X12_attributes_W_34 hq0 h1208 h1214 h1237 h1249 (h1264.2.1.trans h1247.2.1.symm) h1213 ht_f_size h1243 h1242 h1234 h1250 h1266) (((((W1375 h1373).2 h1465) z1495 q1496).2 h1538).2 h1540)) (gOk _ _ _ _ _) dX12_attributes_205 (tX12_originRight _ _ _ _ _) ⟨wV_X12_originRight, wL_X12_originRight⟩ wM_X12_640 (gCX12 _ _ _ _ _) rfl (A_106 hw) rfl ⟨le_t rfl, le_t rfl⟩ ⟨le_t rfl, le_t rfl⟩ rfl (le_t rfl) fun z1574 μ1570 T1571 F1572 h1573 => ?_
                refine mr_if_eq (pc := 208) (tgt := 269) dX12_attributes_208 (by decide) (r32 h1573.1 rfl) (fun h1575 => ?_) (fun h1575 => ?_)
                · have h1576 : 0 ≤ z1574 ∧ z1574 ≤ 0 := (vc_X12_ring_22 h1575 h1573.1)
                  refine mr_iconst (pc := 269) (z := 0) dX12_attributes_269 ?_
                  refine mr_lvS (lv' := [(0, .ref 106), (2, iv p2), (3, iv z1201), (8, iv z1265), (9, iv (z1201 + z1233))]) (List.forall_mem_cons.mpr ⟨rfl, List.forall_mem_cons.mpr ⟨rfl, List.forall_mem_cons.mpr ⟨rfl, List.forall_mem_cons.mpr ⟨rfl, List.forall_mem_cons.mpr ⟨rfl, fun _ h => absurd h List.not_mem_nil⟩⟩⟩⟩⟩) ?_
                  exact J1536 0 μ1570 T1571 (mF.call mF.refl F1572 rfl) (mG.call mG.refl h1573.2.1 (List.forall_mem_cons.mpr ⟨⟨_, List.mem_cons_self, vc_X12_attributes_W_48⟩, (fun _ h => absurd h List.not_mem_nil)⟩)) (rW (c := 0) (d := 1) (rR (x := 0)) rfl) (((h1573.2.2.1 T1571 F1572) h1573.1).1 h1575)
                have h1577 : 1 ≤ z1574 ∧ z1574 ≤ 1 := (vc_X12_ring_24 h1575 h1573.1)
                refine sv_goto (pc := 211) (tgt := 265) dX12_attributes_211 (by decide) ?_
                refine mr_iconst (pc := 265) (z := 1) dX12_attributes_265 ?_
                refine sv_goto (pc := 266) (tgt := 270) dX12_attributes_266 (by decide) ?_
                refine mr_lvS (lv' := [(0, .ref 106), (2, iv p2), (3, iv z1201), (8, iv z1265), (9, iv (z1201 + z1233))]) (List.forall_mem_cons.mpr ⟨rfl, List.forall_mem_cons.mpr ⟨rfl, List.forall_mem_cons.mpr ⟨rfl, List.forall_mem_cons.mpr ⟨rfl, List.forall_mem_cons.mpr ⟨rfl, fun _ h => absurd h List.not_mem_nil⟩⟩⟩⟩⟩) ?_
                exact J1536 1 μ1570 T1571 (mF.call mF.refl F1572 rfl) (mG.call mG.refl h1573.2.1 (List.forall_mem_cons.mpr ⟨⟨_, List.mem_cons_self, vc_X12_attributes_W_48⟩, (fun _ h => absurd h List.not_mem_nil)⟩)) (rW (c := 0) (d := 1) (rR (x := 1)) rfl) (((h1573.2.2.1 T1571 F1572) h1573.1).2 h1575)
              refine mr_icmp_eq (pc := 137) (tgt := 146) dX12_attributes_137 (by decide) (r32 h1259.1 rfl) (r32 (rR (x := 1)) rfl) (fun h1578 => ?_) (fun h1578 => ?_)
              · have h1579 : 1 ≤ z1260 ∧ z1260 ≤ 1 := (vc_X3_readAttribute_W_2 h1578 h1259.1)
                refine mr_bipush (pc := 146) (z := 64) dX12_attributes_146 (by decide) ?_
                refine sv_goto (pc := 148) (tgt := 177) dX12_attributes_148 (by decide) ?_
                refine mr_lvS (lv' := [(0, .ref 106), (2, iv p2), (3, iv z1201), (6, iv z1255), (7, iv z1260), (8, iv z1265), (9, iv (z1201 + z1233))]) (List.forall_mem_cons.mpr ⟨rfl, List.forall_mem_cons.mpr ⟨rfl, List.forall_mem_cons.mpr ⟨rfl, List.forall_mem_cons.mpr ⟨rfl, List.forall_mem_cons.mpr ⟨rfl, List.forall_mem_cons.mpr ⟨rfl, List.forall_mem_cons.mpr ⟨rfl, fun _ h => absurd h List.not_mem_nil⟩⟩⟩⟩⟩⟩⟩) ?_
                exact J1374 64 (rW (c := (-1)) (d := 192) (rR (x := 64)) rfl) (((((h1264.2.2.1 h1264.1) z1267 q1268 h1269).1 h1363) μ1365 u1366 T1367).1 h1578)
              refine mr_iload (pc := 140) (z := z1260) dX12_attributes_140 rfl ?_
              refine mr_iconst (pc := 142) (z := 2) dX12_attributes_142 ?_
              refine mr_icmp_ne (pc := 143) (tgt := 151) dX12_attributes_143 (by decide) (r32 h1259.1 rfl) (r32 (rR (x := 2)) rfl) (fun h1580 => ?_) (fun h1580 => ?_)
              · refine mr_iload (pc := 151) (z := z1260) dX12_attributes_151 rfl ?_
                refine mr_iconst (pc := 153) (z := 4) dX12_attributes_153 ?_
                refine mr_icmp_ne (pc := 154) (tgt := 163) dX12_attributes_154 (by decide) (r32 h1259.1 rfl) (r32 (rR (x := 4)) rfl) (fun h1581 => ?_) (fun h1581 => ?_)
                · refine mr_iload (pc := 163) (z := z1260) dX12_attributes_163 rfl ?_
                  refine mr_bipush (pc := 165) (z := 8) dX12_attributes_165 (by decide) ?_
                  refine mr_icmp_ne (pc := 167) (tgt := 176) dX12_attributes_167 (by decide) (r32 h1259.1 rfl) (r32 (rR (x := 8)) rfl) (fun h1582 => ?_) (fun h1582 => ?_)
                  · refine mr_iconst (pc := 176) (z := (-1)) dX12_attributes_176 ?_
                    refine mr_lvS (lv' := [(0, .ref 106), (2, iv p2), (3, iv z1201), (6, iv z1255), (7, iv z1260), (8, iv z1265), (9, iv (z1201 + z1233))]) (List.forall_mem_cons.mpr ⟨rfl, List.forall_mem_cons.mpr ⟨rfl, List.forall_mem_cons.mpr ⟨rfl, List.forall_mem_cons.mpr ⟨rfl, List.forall_mem_cons.mpr ⟨rfl, List.forall_mem_cons.mpr ⟨rfl, List.forall_mem_cons.mpr ⟨rfl, fun _ h => absurd h List.not_mem_nil⟩⟩⟩⟩⟩⟩⟩) ?_
                    exact J1374 (-1) (rW (c := (-1)) (d := 192) (rR (x := (-1))) rfl) ((((((((h1264.2.2.1 h1264.1) z1267 q1268 h1269).1 h1363) μ1365 u1366 T1367).2 h1578).1 h1580).1 h1581).1 h1582)
                  have h1583 : 8 ≤ z1260 ∧ z1260 ≤ 8 := (vc_X12_attributes_W_50 h1582 h1578 h1580 h1581 h1259.1)
                  refine mr_sipush (pc := 170) (z := 192) dX12_attributes_170 (by decide) ?_
                  refine sv_goto (pc := 173) (tgt := 177) dX12_attributes_173 (by decide) ?_
                  refine mr_lvS (lv' := [(0, .ref 106), (2, iv p2), (3, iv z1201), (6, iv z1255), (7, iv z1260), (8, iv z1265), (9, iv (z1201 + z1233))]) (List.forall_mem_cons.mpr ⟨rfl, List.forall_mem_cons.mpr ⟨rfl, List.forall_mem_cons.mpr ⟨rfl, List.forall_mem_cons.mpr ⟨rfl, List.forall_mem_cons.mpr ⟨rfl, List.forall_mem_cons.mpr ⟨rfl, List.forall_mem_cons.mpr ⟨rfl, fun _ h => absurd h List.not_mem_nil⟩⟩⟩⟩⟩⟩⟩) ?_
                  exact J1374 192 (rW (c := (-1)) (d := 192) (rR (x := 192)) rfl) ((((((((h1264.2.2.1 h1264.1) z1267 q1268 h1269).1 h1363) μ1365 u1366 T1367).2 h1578).1 h1580).1 h1581).2 h1582)
                have h1584 : 4 ≤ z1260 ∧ z1260 ≤ 4 := (vc_X12_attributes_W_38 h1581 h1578 h1580 h1259.1)
                refine mr_sipush (pc := 157) (z := 128) dX12_attributes_157 (by decide) ?_
                refine sv_goto (pc := 160) (tgt := 177) dX12_attributes_160 (by decide) ?_
                refine mr_lvS (lv' := [(0, .ref 106), (2, iv p2), (3, iv z1201), (6, iv z1255), (7, iv z1260), (8, iv z1265), (9, iv (z1201 + z1233))]) (List.forall_mem_cons.mpr ⟨rfl, List.forall_mem_cons.mpr ⟨rfl, List.forall_mem_cons.mpr ⟨rfl, List.forall_mem_cons.mpr ⟨rfl, List.forall_mem_cons.mpr ⟨rfl, List.forall_mem_cons.mpr ⟨rfl, List.forall_mem_cons.mpr ⟨rfl, fun _ h => absurd h List.not_mem_nil⟩⟩⟩⟩⟩⟩⟩) ?_
                exact J1374 128 (rW (c := (-1)) (d := 192) (rR (x := 128)) rfl) (((((((h1264.2.2.1 h1264.1) z1267 q1268 h1269).1 h1363) μ1365 u1366 T1367).2 h1578).1 h1580).2 h1581)
              have h1585 : 2 ≤ z1260 ∧ z1260 ≤ 2 := (vc_X3_readAttribute_W_10 h1580 h1578 h1259.1)
              refine mr_bipush (pc := 146) (z := 64) dX12_attributes_146 (by decide) ?_
              refine sv_goto (pc := 148) (tgt := 177) dX12_attributes_148 (by decide) ?_
              refine mr_lvS (lv' := [(0, .ref 106), (2, iv p2), (3, iv z1201), (6, iv z1255), (7, iv z1260), (8, iv z1265), (9, iv (z1201 + z1233))]) (List.forall_mem_cons.mpr ⟨rfl, List.forall_mem_cons.mpr ⟨rfl, List.forall_mem_cons.mpr ⟨rfl, List.forall_mem_cons.mpr ⟨rfl, List.forall_mem_cons.mpr ⟨rfl, List.forall_mem_cons.mpr ⟨rfl, List.forall_mem_cons.mpr ⟨rfl, fun _ h => absurd h List.not_mem_nil⟩⟩⟩⟩⟩⟩⟩) ?_
              exact J1374 64 (rW (c := (-1)) (d := 192) (rR (x := 64)) rfl) ((((((h1264.2.2.1 h1264.1) z1267 q1268 h1269).1 h1363) μ1365 u1366 T1367).2 h1578).2 h1580)
            have h1586 : 1 ≤ z1267 ∧ z1267 ≤ 1 := (vc_X12_ring_24 h1363 h1269)
            refine sv_aload_n (pc := 117) dX12_attributes_117 rfl rfl ?_
            refine mr_iconst (pc := 118) (z := 3) dX12_attributes_118 ?_
            refine mr_iload_n (pc := 119) (z := z1201) dX12_attributes_119 rfl rfl ?_
            refine mr_cVV (pc := 120) (c_X12_fails_W hw T1205 (rW (c := 0) (d := 3) (rR (x := 3)) rfl) (rW (c := (-2147483648)) (d := 2147483647) h1242 rfl) (((h1264.2.2.1 h1264.1) z1267 q1268 h1269).2 h1363)) (gOk _ _ _ _ _) dX12_attributes_120 (tX12_fails _ _ _ _ _) ⟨wV_X12_fails, wL_X12_fails⟩ wM_X12_620 (gCX12 _ _ _ _ _) rfl (A_106 hw) rfl ⟨le_t rfl, le_t rfl⟩ ⟨le_t rfl, le_t rfl⟩ rfl (le_t rfl) fun μ1587 T1588 F1589 h1590 => ?_
            refine sv_goto (pc := 123) (tgt := 336) dX12_attributes_123 (by decide) ?_
            refine mr_iload (pc := 336) (z := (z1201 + z1233)) dX12_attributes_336 rfl ?_
            refine mr_iload (pc := 338) (z := z1265) dX12_attributes_338 rfl ?_
            refine mr_iadd (pc := 340) (x := (z1201 + z1233)) (y := z1265) dX12_attributes_340 ?_
            refine mr_istore_n (pc := 341) (lv' := [(3, iv ((z1201 + z1233) + z1265)), (9, iv (z1201 + z1233)), (8, iv z1265), (7, iv z1260), (6, iv z1255), (5, iv z1233), (0, .ref 106), (2, iv p2)]) dX12_attributes_341 rfl (by decide) rfl ?_
            refine sv_goto (pc := 342) (tgt := 2) dX12_attributes_342 (by decide) ?_
            refine mr_lvS (lv' := [(0, .ref 106), (2, iv p2), (3, iv ((z1201 + z1233) + z1265))]) (List.forall_mem_cons.mpr ⟨rfl, List.forall_mem_cons.mpr ⟨rfl, List.forall_mem_cons.mpr ⟨rfl, fun _ h => absurd h List.not_mem_nil⟩⟩⟩) ?_
            exact ih1212 ((z1201 + z1233) + z1265) μ1587 f_c T1588 (mF.call (mF.call mF.refl F1206 rfl) F1589 rfl) (mG.fr (mG.call mG.refl G1207 (List.forall_mem_cons.mpr ⟨⟨_, List.mem_cons_self, vc_X12_attributes_W_2⟩, (fun _ h => absurd h List.not_mem_nil)⟩)) F1589 (A_126 hw) rfl) (F1589.f (A_106 hw) rfl q1211) (vc_X12_attributes_W_52 h1208 h1214 h1237 h1249 (h1264.2.1.trans h1247.2.1.symm) hq0 h1213 ht_f_size h1243 h1242 h1234 h1250 h1266) (vc_X12_attributes_W_53 h1208 h1214 h1237 h1249 (h1264.2.1.trans h1247.2.1.symm) hq0 h1213 ht_f_size h1243 h1242 h1234 h1250 h1266) (vc_X12_attributes_W_54 (nS h1209) h1208 h1214 h1237 h1249 (h1264.2.1.trans h1247.2.1.symm) hq0 h1213 ht_f_size h1243 h1242 h1234 h1250 h1266) (h1590.1 T1588 F1589)
          refine sv_aload_n (pc := 65) dX12_attributes_65 rfl rfl ?_
          refine mr_iconst (pc := 66) (z := 2) dX12_attributes_66 ?_
          refine mr_iload_n (pc := 67) (z := z1201) dX12_attributes_67 rfl rfl ?_
          refine mr_cVV (pc := 68) (c_X12_fails_W hw T1205 (rW (c := 0) (d := 3) (rR (x := 2)) rfl) (rW (c := (-2147483648)) (d := 2147483647) h1242 rfl) ((h1247.2.2.1 h1247.1).2 h1249)) (gOk _ _ _ _ _) dX12_attributes_68 (tX12_fails _ _ _ _ _) ⟨wV_X12_fails, wL_X12_fails⟩ wM_X12_620 (gCX12 _ _ _ _ _) rfl (A_106 hw) rfl ⟨le_t rfl, le_t rfl⟩ ⟨le_t rfl, le_t rfl⟩ rfl (le_t rfl) fun μ1591 T1592 F1593 h1594 => ?_
          exact mr_vret dX12_attributes_71 rfl (le_t rfl) (le_t rfl) T1592 (mF.call (mF.call mF.refl F1206 rfl) F1593 rfl) ⟨(mG.fr (mG.call mG.refl G1207 (List.forall_mem_cons.mpr ⟨⟨_, List.mem_cons_self, vc_X12_attributes_W_2⟩, (fun _ h => absurd h List.not_mem_nil)⟩)) F1593 (A_126 hw) rfl), (h1594.1 T1592 F1593), trivial⟩
        refine mr_if_eq (pc := 27) (tgt := 34) dX12_attributes_27 (by decide) (r32 h1228 rfl) (fun h1595 => ?_) (fun h1595 => ?_)
        · have h1596 : 0 ≤ z1227 ∧ z1227 ≤ 0 := (vc_X12_ring_22 h1595 h1228)
          refine mr_iconst (pc := 34) (z := 3) dX12_attributes_34 ?_
          refine mr_lvS (lv' := [(0, .ref 106), (2, iv p2), (3, iv z1201)]) (List.forall_mem_cons.mpr ⟨rfl, List.forall_mem_cons.mpr ⟨rfl, List.forall_mem_cons.mpr ⟨rfl, fun _ h => absurd h List.not_mem_nil⟩⟩⟩) ?_
          exact J1235 3 (rW (c := 3) (d := 4) (rR (x := 3)) rfl) ((W1230 h1228).1 h1595)
        have h1597 : 1 ≤ z1227 ∧ z1227 ≤ 1 := (vc_X12_ring_24 h1595 h1228)
        refine mr_iconst (pc := 30) (z := 4) dX12_attributes_30 ?_
        refine sv_goto (pc := 31) (tgt := 35) dX12_attributes_31 (by decide) ?_
        refine mr_lvS (lv' := [(0, .ref 106), (2, iv p2), (3, iv z1201)]) (List.forall_mem_cons.mpr ⟨rfl, List.forall_mem_cons.mpr ⟨rfl, List.forall_mem_cons.mpr ⟨rfl, fun _ h => absurd h List.not_mem_nil⟩⟩⟩) ?_
        exact J1235 4 (rW (c := 3) (d := 4) (rR (x := 4)) rfl) ((W1230 h1228).2 h1595)
      refine mr_if_eq (pc := 15) (tgt := 22) dX12_attributes_15 (by decide) (r32 h1224 rfl) (fun h1598 => ?_) (fun h1598 => ?_)
      · have h1599 : 0 ≤ z1222 ∧ z1222 ≤ 0 := (vc_X3_readAttributes_W_5 h1598 h1224)
        refine mr_iconst (pc := 22) (z := 0) dX12_attributes_22 ?_
        exact J1229 0 (rW (c := 0) (d := 1) (rR (x := 0)) rfl) (((h1220.2.2.1 h1220.1) z1222 q1223).1 h1598)
      have h1600 : 1 ≤ z1222 ∧ z1222 ≤ 16 := (vc_X3_readAttributes_W_13 h1598 h1224)
      refine mr_iconst (pc := 18) (z := 1) dX12_attributes_18 ?_
      refine sv_goto (pc := 19) (tgt := 23) dX12_attributes_19 (by decide) ?_
      exact J1229 1 (rW (c := 0) (d := 1) (rR (x := 1)) rfl) (((h1220.2.2.1 h1220.1) z1222 q1223).2 h1598)
  refine mr_lvS (lv' := [(0, .ref 106), (2, iv p2), (3, iv p1)]) (List.forall_mem_cons.mpr ⟨rfl, List.forall_mem_cons.mpr ⟨rfl, List.forall_mem_cons.mpr ⟨rfl, fun _ h => absurd h List.not_mem_nil⟩⟩⟩) ?_
  exact L1203 1004 p1 μ f_c0 hT mF.refl mG.refl q_f_c0 hp1 (vc_X12_attributes_W_59 hq1 ht_f_c0 hp1) (vc_X12_attributes_W_60 hq1 ht_f_c0 hp1) ((hQ f_size q_f_size ht_f_size) f_c0 q_f_c0 ht_f_c0)
def WJ_X12_message_W_8 (w : mW) (Q : Int → mM → Prop) (μ3436 : mM) (z3452 : Int) : Prop := (0 ≤ z3452 ∧ z3452 ≤ 3) → ∀ μ3456 : mM, mU μ3436 106 (102) z3452 μ3456 → mT w μ3456 → Q z3452 μ3456
def WJ_X12_message_W_7 (w : mW) (Q : Int → mM → Prop) (z3367 : Int) (μ3375 : mM) (μ3436 : mM) : Prop := mT w μ3436 → mF [106088, 106091, 166999, 167999] w μ3375 μ3436 → ((z3367 = (-99999999)) → ∀ z3461 : Int, μ3436 172 ((2 : Int).toNat) = z3461 → ((-2147483648) ≤ z3461 ∧ z3461 ≤ 2147483647) → ((z3461 = (-99999999)) → ∀ z3466 : Int, μ3436 172 ((3 : Int).toNat) = z3466 → ((-2147483648) ≤ z3466 ∧ z3466 ≤ 2147483647) → ((z3466 = (-99999999)) → (WJ_X12_message_W_8 w Q μ3436) (0 : Int)) ∧ ((¬ z3466 = (-99999999)) → (WJ_X12_message_W_8 w Q μ3436) (3 : Int))) ∧ ((¬ z3461 = (-99999999)) → (WJ_X12_message_W_8 w Q μ3436) (2 : Int))) ∧ ((¬ z3367 = (-99999999)) → (WJ_X12_message_W_8 w Q μ3436) (1 : Int))
def WL_X12_message_W_9 (w : mW) (Q : Int → mM → Prop) (z3367 : Int) (μ3375 : mM) (rec9 : (Int × mM) → Prop) (s : (Int × mM)) : Prop := ∀ z4129 : Int, ∀ μ4130 : mM, s = (z4129, μ4130) → (0 ≤ z4129 ∧ z4129 ≤ 1000) → mT w μ4130 → mF [106088, 166999, 167999] w μ3375 μ4130 → ∀ f_g : Int, μ4130 106 (88) = f_g → (0 ≤ f_g ∧ f_g ≤ 1000) → ∀ f_c : Int, μ4130 106 (91) = f_c → (0 ≤ f_c ∧ f_c ≤ 1000) → ((f_c ≤ z4129) → ∀ μ4164 : mM, mU μ4130 106 (91) (0 : Int) μ4164 → mT w μ4164 → (WJ_X12_message_W_7 w Q z3367 μ3375) μ4164) ∧ ((z4129 < f_c) → ∀ z4169 : Int, μ4130 168 (z4129.toNat) = z4169 → ((-2147483648) ≤ z4169 ∧ z4169 ≤ 2147483647) → ∀ μ4172 : mM, mU μ4130 166 (f_g.toNat) z4169 μ4172 → mT w μ4172 → ∀ z4175 : Int, μ4172 169 (z4129.toNat) = z4175 → ((-2147483648) ≤ z4175 ∧ z4175 ≤ 2147483647) → ∀ μ4178 : mM, mU μ4172 167 (f_g.toNat) z4175 μ4178 → mT w μ4178 → ∀ μ4181 : mM, mU μ4178 106 (88) (f_g + 1) μ4181 → mT w μ4181 → rec9 ((z4129 + 1), μ4181))
def WJ_X12_message_W_6 (w : mW) (Q : Int → mM → Prop) (μ3364 : mM) (z3367 : Int) (z3371 : Int) : Prop := (0 ≤ z3371 ∧ z3371 ≤ 1) → ∀ μ3375 : mM, mU μ3364 106 (97) z3371 μ3375 → mT w μ3375 → ((¬ z3371 = 0) → (WJ_X12_message_W_7 w Q z3367 μ3375) μ3375) ∧ ((z3371 = 0) → ∀ z3474 : Int, μ3375 172 ((2 : Int).toNat) = z3474 → ((-2147483648) ≤ z3474 ∧ z3474 ≤ 2147483647) → ((z3474 = (-99999999)) → (WJ_X12_message_W_7 w Q z3367 μ3375) μ3375) ∧ ((¬ z3474 = (-99999999)) → loopF (WL_X12_message_W_9 w Q z3367 μ3375) False 1002 ((0 : Int), μ3375)))
def WJ_X12_message_W_5 (w : mW) (Q : Int → mM → Prop) (μ3251 : mM) (μ3349 : mM) : Prop := mT w μ3349 → mF [106088, 106091, 106093, 106098, 106099, 106101, 126999, 166999, 167999, 168999, 169999, 170999, 171999, 172999, 173999] w μ3251 μ3349 → ∀ z3357 : Int, μ3349 106 88 = z3357 → (0 ≤ z3357 ∧ z3357 ≤ 1000) → ∀ z3360 : Int, μ3349 106 91 = z3360 → (0 ≤ z3360 ∧ z3360 ≤ 1000) → ∀ μ3364 : mM, mU μ3349 106 (1) (0 : Int) μ3364 → mT w μ3364 → ∀ z3367 : Int, μ3364 172 ((1 : Int).toNat) = z3367 → ((-2147483648) ≤ z3367 ∧ z3367 ≤ 2147483647) → ((z3367 = (-99999999)) → (WJ_X12_message_W_6 w Q μ3364 z3367) (0 : Int)) ∧ ((¬ z3367 = (-99999999)) → (WJ_X12_message_W_6 w Q μ3364 z3367) (1 : Int))
def WJ_X12_message_W_10 (w : mW) (Q : Int → mM → Prop) (μ3251 : mM) (z3254 : Int) (z3264 : Int) (μ4195 : mM) (z4214 : Int) : Prop := (0 ≤ z4214 ∧ z4214 ≤ 65535) → ((z3254 < ((2 + z3264) + 2)) → WP_X12_fails_W w μ4195 (1) (2 + z3264) (fun μ4219 => mT w μ4219 → mF [172999] w μ4195 μ4219 → (WJ_X12_message_W_5 w Q μ3251) μ4219)) ∧ ((((2 + z3264) + 2) ≤ z3254) → (((((2 + z3264) + 2) + z4214) ≤ z3254) → WP_X12_attributes_W w μ4195 ((2 + z3264) + 2) (((2 + z3264) + 2) + z4214) (fun μ4227 => mT w μ4227 → mF [106093, 106098, 106099, 106101, 126999, 170999, 171999, 172999, 173999] w μ4195 μ4227 → WP_X12_partOf_W w μ4227 (((2 + z3264) + 2) + z4214) z3254 (0) (fun z4235 μ4231 => mT w μ4231 → mF [106088, 106091, 166999, 167999, 168999, 169999, 172999] w μ4227 μ4231 → (0 ≤ z4235 ∧ z4235 ≤ 1) → ∀ z4236 : Int, μ4231 106 88 = z4236 → ∀ z4238 : Int, μ4231 106 91 = z4238 → ((z3254 ≤ (((2 + z3264) + 2) + z4214)) → (WJ_X12_message_W_5 w Q μ3251) μ4231) ∧ (((((2 + z3264) + 2) + z4214) < z3254) → ∀ z4247 : Int, μ4231 106 98 = z4247 → (0 ≤ z4247 ∧ z4247 ≤ 1) → ((z4247 = 0) → WP_X12_fails_W w μ4231 (2) (((2 + z3264) + 2) + z4214) (fun μ4252 => mT w μ4252 → mF [172999] w μ4231 μ4252 → (WJ_X12_message_W_5 w Q μ3251) μ4252)) ∧ ((¬ z4247 = 0) → ∀ z4258 : Int, μ4231 106 99 = z4258 → (0 ≤ z4258 ∧ z4258 ≤ 1) → ((¬ z4258 = 0) → (WJ_X12_message_W_5 w Q μ3251) μ4231) ∧ ((z4258 = 0) → WP_X12_fails_W w μ4231 (2) (((2 + z3264) + 2) + z4214) (fun μ4264 => mT w μ4264 → mF [172999] w μ4231 μ4264 → (WJ_X12_message_W_5 w Q μ3251) μ4264))))))) ∧ ((z3254 < (((2 + z3264) + 2) + z4214)) → WP_X12_fails_W w μ4195 (1) (2 + z3264) (fun μ4269 => mT w μ4269 → mF [172999] w μ4195 μ4269 → (WJ_X12_message_W_5 w Q μ3251) μ4269)))
def WJ_X12_message_W_4 (w : mW) (Q : Int → mM → Prop) (μ3251 : mM) (z3254 : Int) (z3264 : Int) : Prop := (0 ≤ z3264 ∧ z3264 ≤ 65535) → ((z3254 < 2) → WP_X12_fails_W w μ3251 (1) (0) (fun μ4188 => mT w μ4188 → mF [172999] w μ3251 μ4188 → (WJ_X12_message_W_5 w Q μ3251) μ4188)) ∧ ((2 ≤ z3254) → (((2 + z3264) ≤ z3254) → WP_X12_partOf_W w μ3251 (2) (2 + z3264) (1) (fun z4199 μ4195 => mT w μ4195 → mF [106088, 106091, 166999, 167999, 168999, 169999, 172999] w μ3251 μ4195 → (0 ≤ z4199 ∧ z4199 ≤ 1) → ∀ z4200 : Int, μ4195 106 88 = z4200 → ∀ z4202 : Int, μ4195 106 91 = z4202 → ((z3254 < ((2 + z3264) + 2)) → (WJ_X12_message_W_10 w Q μ3251 z3254 z3264 μ4195) (0 : Int)) ∧ ((((2 + z3264) + 2) ≤ z3254) → WP_X12_number_Wf2 w μ4195 (2 + z3264) (2) (fun z4280 _ => (0 ≤ z4280 ∧ z4280 ≤ 65535) → (WJ_X12_message_W_10 w Q μ3251 z3254 z3264 μ4195) z4280)))) ∧ ((z3254 < (2 + z3264)) → WP_X12_fails_W w μ3251 (1) (0) (fun μ4282 => mT w μ4282 → mF [172999] w μ3251 μ4282 → (WJ_X12_message_W_5 w Q μ3251) μ4282)))
def WL_X12_message_W_3 (w : mW) (Q : Int → mM → Prop) (μ2804 : mM) (rec3 : (Int × mM) → Prop) (s : (Int × mM)) : Prop := ∀ z3233 : Int, ∀ μ3234 : mM, s = (z3233, μ3234) → (2 ≤ z3233 ∧ z3233 ≤ 6) → mT w μ3234 → mF [126999] w μ2804 μ3234 → ((6 ≤ z3233) → ∀ μ3251 : mM, mU μ3234 106 (96) (1 : Int) μ3251 → mT w μ3251 → ∀ z3254 : Int, μ3251 106 1 = z3254 → (0 ≤ z3254 ∧ z3254 ≤ 1000) → ((z3254 < 2) → (WJ_X12_message_W_4 w Q μ3251 z3254) (0 : Int)) ∧ ((2 ≤ z3254) → WP_X12_number_Wf2 w μ3251 (0) (2) (fun z4293 _ => (0 ≤ z4293 ∧ z4293 ≤ 65535) → (WJ_X12_message_W_4 w Q μ3251 z3254) z4293))) ∧ ((z3233 < 6) → ∀ μ4296 : mM, mU μ3234 126 ((960 + z3233).toNat) (0 : Int) μ4296 → mT w μ4296 → rec3 ((z3233 + 1), μ4296))
def WL_X12_message_W_2 (w : mW) (Q : Int → mM → Prop) (μ1784 : mM) (rec2 : (Int × mM) → Prop) (s : (Int × mM)) : Prop := ∀ z2765 : Int, ∀ μ2766 : mM, s = (z2765, μ2766) → (0 ≤ z2765 ∧ z2765 ≤ 256) → mT w μ2766 → mF [171999] w μ1784 μ2766 → ((256 ≤ z2765) → ∀ μ2783 : mM, mU μ2766 106 (88) (0 : Int) μ2783 → mT w μ2783 → ∀ μ2786 : mM, mU μ2783 106 (91) (0 : Int) μ2786 → mT w μ2786 → ∀ μ2789 : mM, mU μ2786 106 (93) (0 : Int) μ2789 → mT w μ2789 → ∀ μ2792 : mM, mU μ2789 106 (101) (0 : Int) μ2792 → mT w μ2792 → ∀ μ2795 : mM, mU μ2792 106 (98) (0 : Int) μ2795 → mT w μ2795 → ∀ μ2798 : mM, mU μ2795 106 (99) (0 : Int) μ2798 → mT w μ2798 → ∀ μ2801 : mM, mU μ2798 126 ((960 : Int).toNat) (0 : Int) μ2801 → mT w μ2801 → ∀ μ2804 : mM, mU μ2801 126 (((960 + 1) : Int).toNat) (100 : Int) μ2804 → mT w μ2804 → loopF (WL_X12_message_W_3 w Q μ2804) False 6 ((2 : Int), μ2804)) ∧ ((z2765 < 256) → ∀ μ4300 : mM, mU μ2766 171 (z2765.toNat) (0 : Int) μ4300 → mT w μ4300 → rec2 ((z2765 + 1), μ4300))
def WL_X12_message_W_1 (w : mW) (μ : mM) (Q : Int → mM → Prop) (rec1 : (Int × mM) → Prop) (s : (Int × mM)) : Prop := ∀ z1783 : Int, ∀ μ1784 : mM, s = (z1783, μ1784) → (0 ≤ z1783 ∧ z1783 ≤ 4) → mT w μ1784 → mF [172999] w μ μ1784 → ((4 ≤ z1783) → loopF (WL_X12_message_W_2 w Q μ1784) False 258 ((0 : Int), μ1784)) ∧ ((z1783 < 4) → ∀ μ4304 : mM, mU μ1784 172 (z1783.toNat) ((-99999999) : Int) μ4304 → mT w μ4304 → rec1 ((z1783 + 1), μ4304))
def WP_X12_message_W (w : mW) (μ : mM) (Q : Int → mM → Prop) : Prop := loopF (WL_X12_message_W_1 w μ Q) False 6 ((0 : Int), μ)
theorem vc_X12_message_W_2 {z1783 : Int} (h0 : 4 ≤ z1783) (h1 : 0 ≤ z1783 ∧ z1783 ≤ 4) : 4 ≤ z1783 ∧ z1783 ≤ 4 := by omega
theorem vc_X12_message_W_3 {z2765 : Int} (h0 : (257 - z2765) < ((0 : Nat) : Int)) (h1 : 0 ≤ z2765 ∧ z2765 ≤ 256) : False := by omega
theorem vc_X12_message_W_5  : (-(2147483648 : Int) ≤ ((0 : Int) : Int) ∧ ((0 : Int) : Int) ≤ (2147483647 : Int)) ∧ (((960 : Int) : Int) % (40 : Int) = (0 : Int) → -(1 : Int) ≤ ((0 : Int) : Int) ∧ ((0 : Int) : Int) ≤ (9 : Int)) ∧ (((960 : Int) : Int) % (40 : Int) = (4 : Int) → (0 : Int) ≤ ((0 : Int) : Int) ∧ ((0 : Int) : Int) ≤ (20 : Int)) ∧ (((960 : Int) : Int) % (40 : Int) = (5 : Int) → (0 : Int) ≤ ((0 : Int) : Int) ∧ ((0 : Int) : Int) ≤ (8 : Int)) := by omega
theorem vc_X12_message_W_6  : (-(2147483648 : Int) ≤ ((100 : Int) : Int) ∧ ((100 : Int) : Int) ≤ (2147483647 : Int)) ∧ ((((960 : Int) + (1 : Int)) : Int) % (40 : Int) = (0 : Int) → -(1 : Int) ≤ ((100 : Int) : Int) ∧ ((100 : Int) : Int) ≤ (9 : Int)) ∧ ((((960 : Int) + (1 : Int)) : Int) % (40 : Int) = (4 : Int) → (0 : Int) ≤ ((100 : Int) : Int) ∧ ((100 : Int) : Int) ≤ (20 : Int)) ∧ ((((960 : Int) + (1 : Int)) : Int) % (40 : Int) = (5 : Int) → (0 : Int) ≤ ((100 : Int) : Int) ∧ ((100 : Int) : Int) ≤ (8 : Int)) := by omega
theorem vc_X12_message_W_7 {z3233 : Int} (h0 : (7 - z3233) < ((0 : Nat) : Int)) (h1 : 2 ≤ z3233 ∧ z3233 ≤ 6) : False := by omega
theorem vc_X12_message_W_8 {z3233 : Int} (h0 : 6 ≤ z3233) (h1 : 2 ≤ z3233 ∧ z3233 ≤ 6) : 6 ≤ z3233 ∧ z3233 ≤ 6 := by omega
theorem vc_X12_message_W_9  : (0 : Int) ≤ (960 : Int) ∧ (960 : Int) ≤ (960 : Int) ∧ (960 : Int) < (1000 : Int) := by omega
theorem vc_X12_message_W_10  : (0 : Int) ≤ ((960 : Int) + (1 : Int)) ∧ (960 : Int) ≤ ((960 : Int) + (1 : Int)) ∧ ((960 : Int) + (1 : Int)) < (1000 : Int) := by omega
theorem vc_X12_message_W_18 {f_c f_g z4129 : Int} (h0 : (1001 - z4129) < ((0 : Nat) : Int)) (h1 : f_g + f_c ≤ 1000 + z4129) (h2 : z4129 ≤ f_c) (h3 : 0 ≤ z4129 ∧ z4129 ≤ 1000) : False := by omega
theorem vc_X12_message_W_19 {f_c f_g z4129 : Int} (h0 : z4129 < f_c) (h1 : f_g + f_c ≤ 1000 + z4129) (h2 : z4129 ≤ f_c) (h3 : 0 ≤ f_c ∧ f_c ≤ 1000) (h4 : 0 ≤ f_g ∧ f_g ≤ 1000) (h5 : 0 ≤ z4129 ∧ z4129 ≤ 1000) : 0 ≤ z4129 ∧ z4129 ≤ 999 := by omega
theorem vc_X12_message_W_20 {f_c f_g z4129 : Int} (h0 : z4129 < f_c) (h1 : f_g + f_c ≤ 1000 + z4129) (h2 : z4129 ≤ f_c) (h3 : 0 ≤ f_c ∧ f_c ≤ 1000) (h4 : 0 ≤ f_g ∧ f_g ≤ 1000) (h5 : 0 ≤ z4129 ∧ z4129 ≤ 999) : 1 ≤ f_c ∧ f_c ≤ 1000 := by omega
theorem vc_X12_message_W_21 {f_c f_g z4129 : Int} (h0 : f_g + f_c ≤ 1000 + z4129) (h1 : z4129 ≤ f_c) (h2 : z4129 < f_c) (h3 : 1 ≤ f_c ∧ f_c ≤ 1000) (h4 : 0 ≤ f_g ∧ f_g ≤ 1000) (h5 : 0 ≤ z4129 ∧ z4129 ≤ 999) : 0 ≤ f_g ∧ f_g < 1000 := by omega
theorem vc_X12_message_W_22 {f_c f_g z4129 : Int} (h0 : f_g + f_c ≤ 1000 + z4129) (h1 : z4129 ≤ f_c) (h2 : z4129 < f_c) (h3 : 1 ≤ f_c ∧ f_c ≤ 1000) (h4 : 0 ≤ f_g ∧ f_g ≤ 1000) (h5 : 0 ≤ z4129 ∧ z4129 ≤ 999) : 0 ≤ (f_g + 1) ∧ (f_g + 1) ≤ 1000 := by omega
theorem vc_X12_message_W_23 {f_c f_g z4129 : Int} (h0 : f_g + f_c ≤ 1000 + z4129) (h1 : z4129 ≤ f_c) (h2 : z4129 < f_c) (h3 : 1 ≤ f_c ∧ f_c ≤ 1000) (h4 : 0 ≤ f_g ∧ f_g ≤ 1000) (h5 : 0 ≤ z4129 ∧ z4129 ≤ 999) : (f_g + 1) + f_c ≤ 1000 + (z4129 + 1) := by omega
theorem vc_X12_message_W_24 {f_c f_g z4129 : Int} (h0 : f_g + f_c ≤ 1000 + z4129) (h1 : z4129 ≤ f_c) (h2 : z4129 < f_c) (h3 : 1 ≤ f_c ∧ f_c ≤ 1000) (h4 : 0 ≤ f_g ∧ f_g ≤ 1000) (h5 : 0 ≤ z4129 ∧ z4129 ≤ 999) : (z4129 + 1) ≤ f_c := by omega
theorem vc_X12_message_W_25 {N f_c f_g z4129 : Int} (h0 : (1001 - z4129) < N + 1) (h1 : f_g + f_c ≤ 1000 + z4129) (h2 : z4129 ≤ f_c) (h3 : z4129 < f_c) (h4 : 1 ≤ f_c ∧ f_c ≤ 1000) (h5 : 0 ≤ f_g ∧ f_g ≤ 1000) (h6 : 0 ≤ z4129 ∧ z4129 ≤ 999) : (1001 - (z4129 + 1)) < N := by omega
theorem vc_X12_message_W_26 {z3357 z3360 : Int} (h0 : z3357 + z3360 ≤ 1000) (h1 : 0 ≤ z3357 ∧ z3357 ≤ 1000) (h2 : 0 ≤ z3360 ∧ z3360 ≤ 1000) : z3357 + z3360 ≤ 1000 + (0 : Int) := by omega
theorem vc_X12_message_W_27 {z3357 z3360 : Int} (h0 : z3357 + z3360 ≤ 1000) (h1 : 0 ≤ z3357 ∧ z3357 ≤ 1000) (h2 : 0 ≤ z3360 ∧ z3360 ≤ 1000) : (0 : Int) ≤ z3360 := by omega
theorem vc_X12_message_W_30  : ((0 : Int) : Int) + ((0 : Int) : Int) ≤ (1000 : Int) := by omega
theorem vc_X12_message_W_32 {z3254 z3264 : Int} (h0 : (2 + z3264) ≤ z3254) (h1 : 2 ≤ z3254) (h2 : 2 ≤ z3254 ∧ z3254 ≤ 1000) (h3 : 0 ≤ z3264 ∧ z3264 ≤ 65535) : 0 ≤ z3264 ∧ z3264 ≤ 998 := by omega
theorem vc_X12_message_W_33 {z3254 z3264 : Int} (h0 : (2 + z3264) ≤ z3254) (h1 : 2 ≤ z3254) (h2 : 2 ≤ z3254 ∧ z3254 ≤ 1000) (h3 : 0 ≤ z3264 ∧ z3264 ≤ 998) : (2 : Int) ≤ (2 + z3264) := by omega
theorem vc_X12_message_W_34 {z3254 z3264 : Int} (h0 : 2 ≤ z3254) (h1 : (2 + z3264) ≤ z3254) (h2 : 2 ≤ z3254 ∧ z3254 ≤ 1000) (h3 : 0 ≤ z3264 ∧ z3264 ≤ 998) : (2 + z3264) ≤ z3254 := by omega
theorem vc_X12_message_W_35 {z3254 z3264 : Int} (h0 : (2 + z3264) ≤ z3254) (h1 : 2 ≤ z3254) (h2 : 2 ≤ z3254 ∧ z3254 ≤ 1000) (h3 : 0 ≤ z3264 ∧ z3264 ≤ 998) : (0 : Int) + (0 : Int) + (2 + z3264) - (2 : Int) ≤ 1000 := by omega
theorem vc_X12_message_W_36 {z3254 z3264 z4200 z4202 : Int} (h0 : z4200 + z4202 ≤ (0 : Int) + (0 : Int) + (2 + z3264) - (2 : Int)) (h1 : (2 + z3264) ≤ z3254) (h2 : z3254 < ((2 + z3264) + 2)) (h3 : 2 ≤ z3254 ∧ z3254 ≤ 1000) (h4 : 0 ≤ z3264 ∧ z3264 ≤ 998) (h5 : 0 ≤ z4200 ∧ z4200 ≤ 1000) (h6 : 0 ≤ z4202 ∧ z4202 ≤ 1000) : z4200 + z4202 ≤ 1000 := by omega
theorem vc_X12_message_W_37 {z3254 z3264 z4200 z4202 : Int} (h0 : ((2 + z3264) + 2) ≤ z3254) (h1 : 2 ≤ z3254) (h2 : (2 + z3264) ≤ z3254) (h3 : z4200 + z4202 ≤ (0 : Int) + (0 : Int) + (2 + z3264) - (2 : Int)) (h4 : 2 ≤ z3254 ∧ z3254 ≤ 1000) (h5 : 0 ≤ z3264 ∧ z3264 ≤ 998) (h6 : 0 ≤ z4200 ∧ z4200 ≤ 1000) (h7 : 0 ≤ z4202 ∧ z4202 ≤ 1000) : 0 ≤ z3264 ∧ z3264 ≤ 996 := by omega
theorem vc_X12_message_W_38 {z3254 z3264 z4200 z4202 : Int} (h0 : ((2 + z3264) + 2) ≤ z3254) (h1 : 2 ≤ z3254) (h2 : (2 + z3264) ≤ z3254) (h3 : z4200 + z4202 ≤ (0 : Int) + (0 : Int) + (2 + z3264) - (2 : Int)) (h4 : 2 ≤ z3254 ∧ z3254 ≤ 1000) (h5 : 0 ≤ z3264 ∧ z3264 ≤ 996) (h6 : 0 ≤ z4200 ∧ z4200 ≤ 1000) (h7 : 0 ≤ z4202 ∧ z4202 ≤ 1000) : 4 ≤ z3254 ∧ z3254 ≤ 1000 := by omega
theorem vc_X12_message_W_39 {z3254 z3264 z4200 z4202 z4214 : Int} (h0 : (((2 + z3264) + 2) + z4214) ≤ z3254) (h1 : 2 ≤ z3254) (h2 : (2 + z3264) ≤ z3254) (h3 : z4200 + z4202 ≤ (0 : Int) + (0 : Int) + (2 + z3264) - (2 : Int)) (h4 : ((2 + z3264) + 2) ≤ z3254) (h5 : 4 ≤ z3254 ∧ z3254 ≤ 1000) (h6 : 0 ≤ z3264 ∧ z3264 ≤ 996) (h7 : 0 ≤ z4200 ∧ z4200 ≤ 1000) (h8 : 0 ≤ z4202 ∧ z4202 ≤ 1000) (h9 : 0 ≤ z4214 ∧ z4214 ≤ 65535) : 0 ≤ z4214 ∧ z4214 ≤ 996 := by omega
theorem vc_X12_message_W_40 {z3254 z3264 z4200 z4202 z4214 : Int} (h0 : (2 + z3264) ≤ z3254) (h1 : z4200 + z4202 ≤ (0 : Int) + (0 : Int) + (2 + z3264) - (2 : Int)) (h2 : ((2 + z3264) + 2) ≤ z3254) (h3 : (((2 + z3264) + 2) + z4214) ≤ z3254) (h4 : 2 ≤ z3254) (h5 : 4 ≤ z3254 ∧ z3254 ≤ 1000) (h6 : 0 ≤ z3264 ∧ z3264 ≤ 996) (h7 : 0 ≤ z4200 ∧ z4200 ≤ 1000) (h8 : 0 ≤ z4202 ∧ z4202 ≤ 1000) (h9 : 0 ≤ z4214 ∧ z4214 ≤ 996) : 0 ≤ (((2 + z3264) + 2) + z4214) ∧ (((2 + z3264) + 2) + z4214) ≤ 1000 := by omega
theorem vc_X12_message_W_41 {z3254 z3264 z4200 z4202 z4214 : Int} (h0 : 2 ≤ z3254) (h1 : (2 + z3264) ≤ z3254) (h2 : z4200 + z4202 ≤ (0 : Int) + (0 : Int) + (2 + z3264) - (2 : Int)) (h3 : ((2 + z3264) + 2) ≤ z3254) (h4 : (((2 + z3264) + 2) + z4214) ≤ z3254) (h5 : 4 ≤ z3254 ∧ z3254 ≤ 1000) (h6 : 0 ≤ z3264 ∧ z3264 ≤ 996) (h7 : 0 ≤ z4200 ∧ z4200 ≤ 1000) (h8 : 0 ≤ z4202 ∧ z4202 ≤ 1000) (h9 : 0 ≤ z4214 ∧ z4214 ≤ 996) : (((2 + z3264) + 2) + z4214) ≤ z3254 := by omega
theorem vc_X12_message_W_42 {z3254 z3264 z4200 z4202 z4214 : Int} (h0 : (2 + z3264) ≤ z3254) (h1 : z4200 + z4202 ≤ (0 : Int) + (0 : Int) + (2 + z3264) - (2 : Int)) (h2 : ((2 + z3264) + 2) ≤ z3254) (h3 : (((2 + z3264) + 2) + z4214) ≤ z3254) (h4 : 2 ≤ z3254) (h5 : 4 ≤ z3254 ∧ z3254 ≤ 1000) (h6 : 0 ≤ z3264 ∧ z3264 ≤ 996) (h7 : 0 ≤ z4200 ∧ z4200 ≤ 1000) (h8 : 0 ≤ z4202 ∧ z4202 ≤ 1000) (h9 : 0 ≤ z4214 ∧ z4214 ≤ 996) : 3 * (0 : Int) ≤ ((2 + z3264) + 2) := by omega
theorem vc_X12_message_W_43 {z3254 z3264 z4200 z4202 z4214 : Int} (h0 : 2 ≤ z3254) (h1 : (2 + z3264) ≤ z3254) (h2 : ((2 + z3264) + 2) ≤ z3254) (h3 : (((2 + z3264) + 2) + z4214) ≤ z3254) (h4 : z4200 + z4202 ≤ (0 : Int) + (0 : Int) + (2 + z3264) - (2 : Int)) (h5 : 4 ≤ z3254 ∧ z3254 ≤ 1000) (h6 : 0 ≤ z3264 ∧ z3264 ≤ 996) (h7 : 0 ≤ z4200 ∧ z4200 ≤ 1000) (h8 : 0 ≤ z4202 ∧ z4202 ≤ 1000) (h9 : 0 ≤ z4214 ∧ z4214 ≤ 996) : z3254 ≤ z3254 := by omega
theorem vc_X12_message_W_44 {z3254 z3264 z4200 z4202 z4214 : Int} (h0 : 2 ≤ z3254) (h1 : (2 + z3264) ≤ z3254) (h2 : z4200 + z4202 ≤ (0 : Int) + (0 : Int) + (2 + z3264) - (2 : Int)) (h3 : ((2 + z3264) + 2) ≤ z3254) (h4 : (((2 + z3264) + 2) + z4214) ≤ z3254) (h5 : 4 ≤ z3254 ∧ z3254 ≤ 1000) (h6 : 0 ≤ z3264 ∧ z3264 ≤ 996) (h7 : 0 ≤ z4200 ∧ z4200 ≤ 1000) (h8 : 0 ≤ z4202 ∧ z4202 ≤ 1000) (h9 : 0 ≤ z4214 ∧ z4214 ≤ 996) : z4200 + z4202 + z3254 - (((2 + z3264) + 2) + z4214) ≤ 1000 := by omega
theorem vc_X12_message_W_45  : ((1 : Int) ≤ ((960 : Int) : Int) ∧ ((1000 : Int) : Int) ≤ (1200 : Int)) ∨ (5200 : Int) ≤ ((960 : Int) : Int) := by omega
theorem vc_X12_message_W_46 {z3254 z3264 z4200 z4202 z4214 z4236 z4238 : Int} (h0 : z4236 + z4238 ≤ z4200 + z4202 + z3254 - (((2 + z3264) + 2) + z4214)) (h1 : 2 ≤ z3254) (h2 : (2 + z3264) ≤ z3254) (h3 : z4200 + z4202 ≤ (0 : Int) + (0 : Int) + (2 + z3264) - (2 : Int)) (h4 : ((2 + z3264) + 2) ≤ z3254) (h5 : (((2 + z3264) + 2) + z4214) ≤ z3254) (h6 : z3254 ≤ (((2 + z3264) + 2) + z4214)) (h7 : 4 ≤ z3254 ∧ z3254 ≤ 1000) (h8 : 0 ≤ z3264 ∧ z3264 ≤ 996) (h9 : 0 ≤ z4200 ∧ z4200 ≤ 1000) (h10 : 0 ≤ z4202 ∧ z4202 ≤ 1000) (h11 : 0 ≤ z4214 ∧ z4214 ≤ 996) (h12 : 0 ≤ z4236 ∧ z4236 ≤ 1000) (h13 : 0 ≤ z4238 ∧ z4238 ≤ 1000) : z4236 + z4238 ≤ 1000 := by omega
theorem vc_X12_message_W_47 {z3254 z3264 z4200 z4202 z4214 z4236 z4238 : Int} (h0 : (((2 + z3264) + 2) + z4214) < z3254) (h1 : 2 ≤ z3254) (h2 : (2 + z3264) ≤ z3254) (h3 : z4200 + z4202 ≤ (0 : Int) + (0 : Int) + (2 + z3264) - (2 : Int)) (h4 : ((2 + z3264) + 2) ≤ z3254) (h5 : (((2 + z3264) + 2) + z4214) ≤ z3254) (h6 : z4236 + z4238 ≤ z4200 + z4202 + z3254 - (((2 + z3264) + 2) + z4214)) (h7 : 4 ≤ z3254 ∧ z3254 ≤ 1000) (h8 : 0 ≤ z3264 ∧ z3264 ≤ 996) (h9 : 0 ≤ z4200 ∧ z4200 ≤ 1000) (h10 : 0 ≤ z4202 ∧ z4202 ≤ 1000) (h11 : 0 ≤ z4214 ∧ z4214 ≤ 996) (h12 : 0 ≤ z4236 ∧ z4236 ≤ 1000) (h13 : 0 ≤ z4238 ∧ z4238 ≤ 1000) : 5 ≤ z3254 ∧ z3254 ≤ 1000 := by omega
theorem vc_X12_message_W_48 {z3254 z3264 z4200 z4202 z4214 z4236 z4238 : Int} (h0 : (((2 + z3264) + 2) + z4214) < z3254) (h1 : 2 ≤ z3254) (h2 : (2 + z3264) ≤ z3254) (h3 : z4200 + z4202 ≤ (0 : Int) + (0 : Int) + (2 + z3264) - (2 : Int)) (h4 : ((2 + z3264) + 2) ≤ z3254) (h5 : (((2 + z3264) + 2) + z4214) ≤ z3254) (h6 : z4236 + z4238 ≤ z4200 + z4202 + z3254 - (((2 + z3264) + 2) + z4214)) (h7 : 5 ≤ z3254 ∧ z3254 ≤ 1000) (h8 : 0 ≤ z3264 ∧ z3264 ≤ 996) (h9 : 0 ≤ z4200 ∧ z4200 ≤ 1000) (h10 : 0 ≤ z4202 ∧ z4202 ≤ 1000) (h11 : 0 ≤ z4214 ∧ z4214 ≤ 996) (h12 : 0 ≤ z4236 ∧ z4236 ≤ 1000) (h13 : 0 ≤ z4238 ∧ z4238 ≤ 1000) : 0 ≤ z3264 ∧ z3264 ≤ 995 := by omega
theorem vc_X12_message_W_49 {z3254 z3264 z4200 z4202 z4214 z4236 z4238 : Int} (h0 : (((2 + z3264) + 2) + z4214) < z3254) (h1 : 2 ≤ z3254) (h2 : (2 + z3264) ≤ z3254) (h3 : z4200 + z4202 ≤ (0 : Int) + (0 : Int) + (2 + z3264) - (2 : Int)) (h4 : ((2 + z3264) + 2) ≤ z3254) (h5 : (((2 + z3264) + 2) + z4214) ≤ z3254) (h6 : z4236 + z4238 ≤ z4200 + z4202 + z3254 - (((2 + z3264) + 2) + z4214)) (h7 : 5 ≤ z3254 ∧ z3254 ≤ 1000) (h8 : 0 ≤ z3264 ∧ z3264 ≤ 995) (h9 : 0 ≤ z4200 ∧ z4200 ≤ 1000) (h10 : 0 ≤ z4202 ∧ z4202 ≤ 1000) (h11 : 0 ≤ z4214 ∧ z4214 ≤ 996) (h12 : 0 ≤ z4236 ∧ z4236 ≤ 1000) (h13 : 0 ≤ z4238 ∧ z4238 ≤ 1000) : 0 ≤ z4214 ∧ z4214 ≤ 995 := by omega
theorem vc_X12_message_W_51 {z3254 z3264 z4200 z4202 z4214 z4236 z4238 : Int} (h0 : z4236 + z4238 ≤ z4200 + z4202 + z3254 - (((2 + z3264) + 2) + z4214)) (h1 : 2 ≤ z3254) (h2 : (2 + z3264) ≤ z3254) (h3 : z4200 + z4202 ≤ (0 : Int) + (0 : Int) + (2 + z3264) - (2 : Int)) (h4 : ((2 + z3264) + 2) ≤ z3254) (h5 : (((2 + z3264) + 2) + z4214) ≤ z3254) (h6 : (((2 + z3264) + 2) + z4214) < z3254) (h7 : 5 ≤ z3254 ∧ z3254 ≤ 1000) (h8 : 0 ≤ z3264 ∧ z3264 ≤ 995) (h9 : 0 ≤ z4200 ∧ z4200 ≤ 1000) (h10 : 0 ≤ z4202 ∧ z4202 ≤ 1000) (h11 : 0 ≤ z4214 ∧ z4214 ≤ 995) (h12 : 0 ≤ z4236 ∧ z4236 ≤ 1000) (h13 : 0 ≤ z4238 ∧ z4238 ≤ 1000) : z4236 + z4238 ≤ 1000 := by omega
theorem vc_X12_message_W_55 {z3254 z3264 z4200 z4202 z4214 : Int} (h0 : z4200 + z4202 ≤ (0 : Int) + (0 : Int) + (2 + z3264) - (2 : Int)) (h1 : (2 + z3264) ≤ z3254) (h2 : ((2 + z3264) + 2) ≤ z3254) (h3 : z3254 < (((2 + z3264) + 2) + z4214)) (h4 : 4 ≤ z3254 ∧ z3254 ≤ 1000) (h5 : 0 ≤ z3264 ∧ z3264 ≤ 996) (h6 : 0 ≤ z4200 ∧ z4200 ≤ 1000) (h7 : 0 ≤ z4202 ∧ z4202 ≤ 1000) (h8 : 0 ≤ z4214 ∧ z4214 ≤ 65535) : z4200 + z4202 ≤ 1000 := by omega
theorem vc_X12_message_W_56 {z3254 z3264 z4200 z4202 : Int} (h0 : 2 ≤ z3254) (h1 : (2 + z3264) ≤ z3254) (h2 : z4200 + z4202 ≤ (0 : Int) + (0 : Int) + (2 + z3264) - (2 : Int)) (h3 : ((2 + z3264) + 2) ≤ z3254) (h4 : 4 ≤ z3254 ∧ z3254 ≤ 1000) (h5 : 0 ≤ z3264 ∧ z3264 ≤ 996) (h6 : 0 ≤ z4200 ∧ z4200 ≤ 1000) (h7 : 0 ≤ z4202 ∧ z4202 ≤ 1000) : (2 + z3264) + (2 : Int) ≤ z3254 := by omega
theorem vc_X12_message_W_57 {z3254 z3264 : Int} (h0 : z3254 < (2 + z3264)) (h1 : 2 ≤ z3254) (h2 : 2 ≤ z3254 ∧ z3254 ≤ 1000) (h3 : 0 ≤ z3264 ∧ z3264 ≤ 65535) : 1 ≤ z3264 ∧ z3264 ≤ 65535 := by omega
theorem vc_X12_message_W_58 {z3254 : Int} (h0 : 2 ≤ z3254) (h1 : 2 ≤ z3254 ∧ z3254 ≤ 1000) : (0 : Int) + (2 : Int) ≤ z3254 := by omega
theorem vc_X12_message_W_59 {z3233 : Int} (h0 : z3233 < 6) (h1 : 2 ≤ z3233 ∧ z3233 ≤ 6) : 2 ≤ z3233 ∧ z3233 ≤ 5 := by omega
theorem vc_X12_message_W_60 {z3233 : Int} (h0 : z3233 < 6) (h1 : 2 ≤ z3233 ∧ z3233 ≤ 5) : (-2147483648 ≤ (0 : Int) ∧ (0 : Int) ≤ 2147483647) ∧ ((960 + z3233) % 40 = 0 → -1 ≤ (0 : Int) ∧ (0 : Int) ≤ 9) ∧ ((960 + z3233) % 40 = 4 → 0 ≤ (0 : Int) ∧ (0 : Int) ≤ 20) ∧ ((960 + z3233) % 40 = 5 → 0 ≤ (0 : Int) ∧ (0 : Int) ≤ 8) := by omega
theorem vc_X12_message_W_61 {N z3233 : Int} (h0 : (7 - z3233) < N + 1) (h1 : z3233 < 6) (h2 : 2 ≤ z3233 ∧ z3233 ≤ 5) : (7 - (z3233 + 1)) < N := by omega
theorem vc_X12_message_W_62 {z3233 : Int} (h0 : z3233 < 6) (h1 : 2 ≤ z3233 ∧ z3233 ≤ 5) : 0 ≤ (960 + z3233) ∧ 960 ≤ (960 + z3233) ∧ (960 + z3233) < 1000 := by omega
theorem vc_X12_message_W_63 {z3233 : Int} (h0 : z3233 < 6) (h1 : 2 ≤ z3233 ∧ z3233 ≤ 5) : 0 ≤ (960 + z3233) ∧ (960 + z3233) ≤ (960 + z3233) ∧ (960 + z3233) < ((960 + z3233) + 1) := by omega
theorem vc_X12_message_W_64 {z3233 : Int} (h0 : z3233 < 6) (h1 : 2 ≤ z3233 ∧ z3233 ≤ 5) : (1 ≤ (960 + z3233) ∧ ((960 + z3233) + 1) ≤ 1200) ∨ 5200 ≤ (960 + z3233) := by omega
theorem vc_X12_message_W_65  : (7 - 2) < ((6 : Nat) : Int) := by omega
theorem vc_X12_message_W_66  : (0 : Int) ≤ (960 : Int) ∧ (960 : Int) ≤ (960 : Int) ∧ (960 : Int) < ((960 : Int) + (1 : Int)) := by omega
theorem vc_X12_message_W_67  : (0 : Int) ≤ ((960 : Int) + (1 : Int)) ∧ ((960 : Int) + (1 : Int)) ≤ ((960 : Int) + (1 : Int)) ∧ ((960 : Int) + (1 : Int)) < (((960 : Int) + (1 : Int)) + (1 : Int)) := by omega
theorem vc_X12_message_W_68  : ((1 : Int) ≤ (((960 : Int) + (1 : Int)) : Int) ∧ ((((960 : Int) + (1 : Int)) + (1 : Int)) : Int) ≤ (1200 : Int)) ∨ (5200 : Int) ≤ (((960 : Int) + (1 : Int)) : Int) := by omega
theorem vc_X12_message_W_69  : ((1 : Int) ≤ ((960 : Int) : Int) ∧ (((960 : Int) + (1 : Int)) : Int) ≤ (1200 : Int)) ∨ (5200 : Int) ≤ ((960 : Int) : Int) := by omega
theorem vc_X12_message_W_71 {N z2765 : Int} (h0 : (257 - z2765) < N + 1) (h1 : z2765 < 256) (h2 : 0 ≤ z2765 ∧ z2765 ≤ 255) : (257 - (z2765 + 1)) < N := by omega
theorem vc_X12_message_W_72  : (257 - 0) < ((258 : Nat) : Int) := by omega
theorem vc_X12_message_W_73 {z1783 : Int} (h0 : z1783 < 4) (h1 : 0 ≤ z1783 ∧ z1783 ≤ 4) : 0 ≤ z1783 ∧ z1783 ≤ 3 := by omega
theorem vc_X12_message_W_74 {N z1783 : Int} (h0 : (5 - z1783) < N + 1) (h1 : z1783 < 4) (h2 : 0 ≤ z1783 ∧ z1783 ≤ 3) : (5 - (z1783 + 1)) < N := by omega
set_option maxRecDepth 4000 in
set_option maxHeartbeats 4000000 in
theorem c_X12_message_W {l : Launch} {D : va_G} {c : Nat → ClassId} {H0 : Heap} {sa : Nat × Nat × (Nat → Int32)} {w : mW} {μ : mM} (hw : mWF w) (hT : mT w μ) (hIG1 : G1 μ) {Q : Int → mM → Prop} (hQ : WP_X12_message_W w μ  Q) : sC (gG l D c H0 sa) mX12_message 5 0 0 [.ref 106] (mk w μ) (qI w [106001, 106088, 106091, 106093, 106096, 106097, 106098, 106099, 106101, 106102, 126999, 166999, 167999, 168999, 169999, 170999, 171999, 172999, 173999] μ (fun z μ1 => ((-2147483648) ≤ z ∧ z ≤ 2147483647) ∧ mG [(960, 1000)] μ μ1 ∧ G1 μ1 ∧ Q z μ1 ∧ True)) := by
  refine sC.of rfl (by decide) (le_t rfl) ?_
  refine mr_lvE (lv' := [(0, .ref 106)]) rfl ?_
  refine mr_iconst (pc := 0) (z := 0) dX12_message_0 ?_
  refine mr_istore_n (pc := 1) (lv' := [(1, iv 0), (0, .ref 106)]) dX12_message_1 rfl (by decide) rfl ?_
  have L1785 : ∀ (nL1785 : Nat) (z1783 : Int) (μ1784 : mM), mT w μ1784 → mF [172999] w μ μ1784 → (0 ≤ z1783 ∧ z1783 ≤ 4) → G1 μ1784 → (5 - z1783) < (nL1785 : Int) → loopF (WL_X12_message_W_1 w μ Q) False nL1785 (z1783, μ1784) → sV (gG l D c H0 sa) mX12_message (sRm 5 0 0) (sZ (gG l D c H0 sa) 0 0 (qI w [106001, 106088, 106091, 106093, 106096, 106097, 106098, 106099, 106101, 106102, 126999, 166999, 167999, 168999, 169999, 170999, 171999, 172999, 173999] μ (fun z μ1 => ((-2147483648) ≤ z ∧ z ≤ 2147483647) ∧ mG [(960, 1000)] μ μ1 ∧ G1 μ1 ∧ Q z μ1 ∧ True))) 2 [(0, .ref 106), (1, iv z1783)] [] (mk w μ1784) 0 0 := by
    intro nL1785
    induction nL1785 with
    | zero => intro z1783 μ1784 T1787 F1788 h1786 I1790 h1791 W1792; exact ((vc_X3_putPrefix_2 h1791 h1786)).elim
    | succ nL1785 ih1793 =>
      intro z1783 μ1784 T1787 F1788 h1786 I1790 h1791 W1792
      refine mr_iload_n (pc := 2) (z := z1783) dX12_message_2 rfl rfl ?_
      refine mr_iconst (pc := 3) (z := 4) dX12_message_3 ?_
      refine mr_icmp_ge (pc := 4) (tgt := 21) dX12_message_4 (by decide) (r32 h1786 rfl) (r32 (rR (x := 4)) rfl) (fun h1799 => ?_) (fun h1799 => ?_)
      · have h1800 : 4 ≤ z1783 ∧ z1783 ≤ 4 := (vc_X12_message_W_2 h1799 h1786)
        refine mr_iconst (pc := 21) (z := 0) dX12_message_21 ?_
        refine mr_istore_n (pc := 22) (lv' := [(1, iv 0), (0, .ref 106)]) dX12_message_22 rfl (by decide) rfl ?_
        have L2767 : ∀ (nL2767 : Nat) (z2765 : Int) (μ2766 : mM), mT w μ2766 → mF [171999] w μ1784 μ2766 → (0 ≤ z2765 ∧ z2765 ≤ 256) → G1 μ2766 → (257 - z2765) < (nL2767 : Int) → loopF (WL_X12_message_W_2 w Q μ1784) False nL2767 (z2765, μ2766) → sV (gG l D c H0 sa) mX12_message (sRm 5 0 0) (sZ (gG l D c H0 sa) 0 0 (qI w [106001, 106088, 106091, 106093, 106096, 106097, 106098, 106099, 106101, 106102, 126999, 166999, 167999, 168999, 169999, 170999, 171999, 172999, 173999] μ (fun z μ1 => ((-2147483648) ≤ z ∧ z ≤ 2147483647) ∧ mG [(960, 1000)] μ μ1 ∧ G1 μ1 ∧ Q z μ1 ∧ True))) 23 [(0, .ref 106), (1, iv z2765)] [] (mk w μ2766) 0 0 := by
          intro nL2767
          induction nL2767 with
          | zero => intro z2765 μ2766 T2769 F2770 h2768 I2772 h2773 W2774; exact ((vc_X12_message_W_3 h2773 h2768)).elim
          | succ nL2767 ih2775 =>
            intro z2765 μ2766 T2769 F2770 h2768 I2772 h2773 W2774
            refine mr_iload_n (pc := 23) (z := z2765) dX12_message_23 rfl rfl ?_
            refine mr_sipush (pc := 24) (z := 256) dX12_message_24 (by decide) ?_
            refine mr_icmp_ge (pc := 27) (tgt := 43) dX12_message_27 (by decide) (r32 h2768 rfl) (r32 (rR (x := 256)) rfl) (fun h2781 => ?_) (fun h2781 => ?_)
            · have h2782 : 256 ≤ z2765 ∧ z2765 ≤ 256 := (vc_X3_putNumber_4 h2781 h2768)
              refine sv_aload_n (pc := 43) dX12_message_43 rfl rfl ?_
              refine mr_iconst (pc := 44) (z := 0) dX12_message_44 ?_
              refine pf_X12_88 (pc := 45) dX12_message_45 wF_X12_625 (A_106 hw) T2769 (rW (c := 0) (d := 1000) (rR (x := 0)) rfl) fun μ2783 u2784 T2785 => ?_
              refine sv_aload_n (pc := 48) dX12_message_48 rfl rfl ?_
              refine mr_iconst (pc := 49) (z := 0) dX12_message_49 ?_
              refine pf_X12_91 (pc := 50) dX12_message_50 wF_X12_628 (A_106 hw) T2785 (rW (c := 0) (d := 1000) (rR (x := 0)) rfl) fun μ2786 u2787 T2788 => ?_
              refine sv_aload_n (pc := 53) dX12_message_53 rfl rfl ?_
              refine mr_iconst (pc := 54) (z := 0) dX12_message_54 ?_
              refine pf_X12_93 (pc := 55) dX12_message_55 wF_X12_652 (A_106 hw) T2788 (rW (c := 0) (d := 400) (rR (x := 0)) rfl) fun μ2789 u2790 T2791 => ?_
              refine sv_aload_n (pc := 58) dX12_message_58 rfl rfl ?_
              refine mr_iconst (pc := 59) (z := 0) dX12_message_59 ?_
              refine pf_X12_101 (pc := 60) dX12_message_60 wF_X12_637 (A_106 hw) T2791 (rW (c := 0) (d := 8) (rR (x := 0)) rfl) fun μ2792 u2793 T2794 => ?_
              refine sv_aload_n (pc := 63) dX12_message_63 rfl rfl ?_
              refine mr_iconst (pc := 64) (z := 0) dX12_message_64 ?_
              refine pf_X12_98 (pc := 65) dX12_message_65 wF_X12_631 (A_106 hw) T2794 (rW (c := 0) (d := 1) (rR (x := 0)) rfl) fun μ2795 u2796 T2797 => ?_
              refine sv_aload_n (pc := 68) dX12_message_68 rfl rfl ?_
              refine mr_iconst (pc := 69) (z := 0) dX12_message_69 ?_
              refine pf_X12_99 (pc := 70) dX12_message_70 wF_X12_634 (A_106 hw) T2797 (rW (c := 0) (d := 1) (rR (x := 0)) rfl) fun μ2798 u2799 T2800 => ?_
              refine mr_sipush (pc := 73) (z := 960) dX12_message_73 (by decide) ?_
              refine mr_istore_n (pc := 76) (lv' := [(1, iv 960), (0, .ref 106)]) dX12_message_76 rfl (by decide) rfl ?_
              refine sv_aload_n (pc := 77) dX12_message_77 rfl rfl ?_
              refine gf_X12_32 (pc := 78) dX12_message_78 wF_X12_148 (A_106 hw) T2800 ?_
              refine mr_iload_n (pc := 81) (z := 960) dX12_message_81 rfl rfl ?_
              refine mr_iconst (pc := 82) (z := 0) dX12_message_82 ?_
              refine ss_126 (pc := 83) dX12_message_83 (A_126 hw) T2800 (rIx (n := 84000) (rR (x := 960)) rfl) vc_X12_message_W_5 fun μ2801 u2802 T2803 => ?_
              refine sv_aload_n (pc := 84) dX12_message_84 rfl rfl ?_
              refine gf_X12_32 (pc := 85) dX12_message_85 wF_X12_148 (A_106 hw) T2803 ?_
              refine mr_iload_n (pc := 88) (z := 960) dX12_message_88 rfl rfl ?_
              refine mr_iconst (pc := 89) (z := 1) dX12_message_89 ?_
              refine mr_iadd (pc := 90) (x := 960) (y := 1) dX12_message_90 ?_
              refine mr_bipush (pc := 91) (z := 100) dX12_message_91 (by decide) ?_
              refine ss_126 (pc := 93) dX12_message_93 (A_126 hw) T2803 (rIx (n := 84000) (rAdd (e := 961) (f := 961) (rR (x := 960)) (rR (x := 1)) rfl) rfl) vc_X12_message_W_6 fun μ2804 u2805 T2806 => ?_
              refine mr_iconst (pc := 94) (z := 2) dX12_message_94 ?_
              refine mr_istore_n (pc := 95) (lv' := [(2, iv 2), (1, iv 960), (0, .ref 106)]) dX12_message_95 rfl (by decide) rfl ?_
              have L3235 : ∀ (nL3235 : Nat) (z3233 : Int) (μ3234 : mM), mT w μ3234 → mF [126999] w μ2804 μ3234 → mG [(960, 1000)] μ2804 μ3234 → (2 ≤ z3233 ∧ z3233 ≤ 6) → G1 μ3234 → (7 - z3233) < (nL3235 : Int) → loopF (WL_X12_message_W_3 w Q μ2804) False nL3235 (z3233, μ3234) → sV (gG l D c H0 sa) mX12_message (sRm 5 0 0) (sZ (gG l D c H0 sa) 0 0 (qI w [106001, 106088, 106091, 106093, 106096, 106097, 106098, 106099, 106101, 106102, 126999, 166999, 167999, 168999, 169999, 170999, 171999, 172999, 173999] μ (fun z μ1 => ((-2147483648) ≤ z ∧ z ≤ 2147483647) ∧ mG [(960, 1000)] μ μ1 ∧ G1 μ1 ∧ Q z μ1 ∧ True))) 96 [(0, .ref 106), (1, iv 960), (2, iv z3233)] [] (mk w μ3234) 0 0 := by
                intro nL3235
                induction nL3235 with
                | zero => intro z3233 μ3234 T3237 F3238 G3239 h3236 I3240 h3241 W3242; exact ((vc_X12_message_W_7 h3241 h3236)).elim
                | succ nL3235 ih3243 =>
                  intro z3233 μ3234 T3237 F3238 G3239 h3236 I3240 h3241 W3242
                  refine mr_iload_n (pc := 96) (z := z3233) dX12_message_96 rfl rfl ?_
                  refine mr_bipush (pc := 97) (z := 6) dX12_message_97 (by decide) ?_
                  refine mr_icmp_ge (pc := 99) (tgt := 117) dX12_message_99 (by decide) (r32 h3236 rfl) (r32 (rR (x := 6)) rfl) (fun h3249 => ?_) (fun h3249 => ?_)
                  · have h3250 : 6 ≤ z3233 ∧ z3233 ≤ 6 := (vc_X12_message_W_8 h3249 h3236)
                    refine sv_aload_n (pc := 117) dX12_message_117 rfl rfl ?_
                    refine mr_iconst (pc := 118) (z := 1) dX12_message_118 ?_
                    refine pf_X12_96 (pc := 119) dX12_message_119 wF_X12_655 (A_106 hw) T3237 (rW (c := 0) (d := 1) (rR (x := 1)) rfl) fun μ3251 u3252 T3253 => ?_
                    refine sv_aload_n (pc := 122) dX12_message_122 rfl rfl ?_
                    refine gf_X12_1 (pc := 123) dX12_message_123 wF_X12_1 (A_106 hw) T3253 fun z3254 q3255 h3256 => ?_
                    refine mr_iconst (pc := 126) (z := 2) dX12_message_126 ?_
                    have J3266 : ∀ (z3264 : Int), ((0 ≤ z3264 ∧ z3264 ≤ 65535)) → ((WJ_X12_message_W_4 w Q μ3251 z3254) z3264) → sV (gG l D c H0 sa) mX12_message (sRm 5 0 0) (sZ (gG l D c H0 sa) 0 0 (qI w [106001, 106088, 106091, 106093, 106096, 106097, 106098, 106099, 106101, 106102, 126999, 166999, 167999, 168999, 169999, 170999, 171999, 172999, 173999] μ (fun z μ1 => ((-2147483648) ≤ z ∧ z ≤ 2147483647) ∧ mG [(960, 1000)] μ μ1 ∧ G1 μ1 ∧ Q z μ1 ∧ True))) 140 [(0, .ref 106)] [iv z3264] (mk w μ3251) 0 0 := by
                      intro z3264 h3265 W3267
                      refine mr_istore_n (pc := 140) (lv' := [(2, iv z3264), (0, .ref 106)]) dX12_message_140 rfl (by decide) rfl ?_
                      refine sv_aload_n (pc := 141) dX12_message_141 rfl rfl ?_
                      refine gk_X12_1 (pc := 142) dX12_message_142 wF_X12_1 (A_106 hw) q3255 ?_
                      refine mr_iconst (pc := 145) (z := 2) dX12_message_145 ?_
                      have J3355 : ∀ (μ3349 : mM), (mT w μ3349) → (mF [106088, 106091, 106093, 106098, 106099, 106101, 126999, 166999, 167999, 168999, 169999, 170999, 171999, 172999, 173999] w μ3251 μ3349) → (mG [(960, 1000)] μ3251 μ3349) → (G1 μ3349) → ((μ3349 106 (88) + μ3349 106 (91) ≤ 1000)) → ((WJ_X12_message_W_5 w Q μ3251) μ3349) → sV (gG l D c H0 sa) mX12_message (sRm 5 0 0) (sZ (gG l D c H0 sa) 0 0 (qI w [106001, 106088, 106091, 106093, 106096, 106097, 106098, 106099, 106101, 106102, 126999, 166999, 167999, 168999, 169999, 170999, 171999, 172999, 173999] μ (fun z μ1 => ((-2147483648) ≤ z ∧ z ≤ 2147483647) ∧ mG [(960, 1000)] μ μ1 ∧ G1 μ1 ∧ Q z μ1 ∧ True))) 303 [(0, .ref 106)] [] (mk w μ3349) 0 0 := by
                        intro μ3349 T3350 F3351 G3352 I3353 h3354 W3356
                        obtain ⟨z3357, q3358⟩ : ∃ z, μ3349 106 88 = z := ⟨_, rfl⟩
                        have h3359 : (0 ≤ z3357 ∧ z3357 ≤ 1000) := by rw [← q3358]; exact T3350 106 106 (A_106 hw) 88
                        obtain ⟨z3360, q3361⟩ : ∃ z, μ3349 106 91 = z := ⟨_, rfl⟩
                        have h3362 : (0 ≤ z3360 ∧ z3360 ≤ 1000) := by rw [← q3361]; exact T3350 106 106 (A_106 hw) 91
                        have h3363 : z3357 + z3360 ≤ 1000 := by have h := h3354; rw [q3358, q3361] at h; exact h
                        refine sv_aload_n (pc := 303) dX12_message_303 rfl rfl ?_
                        refine mr_iconst (pc := 304) (z := 0) dX12_message_304 ?_
                        refine pf_X12_1 (pc := 305) dX12_message_305 wF_X12_1 (A_106 hw) T3350 (rW (c := 0) (d := 1000) (rR (x := 0)) rfl) fun μ3364 u3365 T3366 => ?_
                        refine sv_aload_n (pc := 308) dX12_message_308 rfl rfl ?_
                        refine sv_aload_n (pc := 309) dX12_message_309 rfl rfl ?_
                        refine gf_X12_95 (pc := 310) dX12_message_310 wF_X12_478 (A_106 hw) T3366 ?_
                        refine mr_iconst (pc := 313) (z := 1) dX12_message_313 ?_
                        refine la_172 (pc := 314) dX12_message_314 (A_172 hw) T3366 (rIx (n := 4) (rR (x := 1)) rfl) fun z3367 q3368 h3369 => ?_
                        refine mr_ldc (pc := 315) (z := (-99999999)) dX12_message_315 wG_X12_29 (by decide) ?_
                        have J3373 : ∀ (z3371 : Int), ((0 ≤ z3371 ∧ z3371 ≤ 1)) → ((WJ_X12_message_W_6 w Q μ3364 z3367) z3371) → sV (gG l D c H0 sa) mX12_message (sRm 5 0 0) (sZ (gG l D c H0 sa) 0 0 (qI w [106001, 106088, 106091, 106093, 106096, 106097, 106098, 106099, 106101, 106102, 126999, 166999, 167999, 168999, 169999, 170999, 171999, 172999, 173999] μ (fun z μ1 => ((-2147483648) ≤ z ∧ z ≤ 2147483647) ∧ mG [(960, 1000)] μ μ1 ∧ G1 μ1 ∧ Q z μ1 ∧ True))) 325 [(0, .ref 106)] [iv z3371, .ref 106] (mk w μ3364) 0 0 := by
                          intro z3371 h3372 W3374
                          refine pf_X12_97 (pc := 325) dX12_message_325 wF_X12_665 (A_106 hw) T3366 h3372 fun μ3375 u3376 T3377 => ?_
                          refine sv_aload_n (pc := 328) dX12_message_328 rfl rfl ?_
                          refine gk_X12_97 (pc := 329) dX12_message_329 wF_X12_665 (A_106 hw) u3376.1 ?_
                          have J3441 : ∀ (μ3436 : mM), (mT w μ3436) → (mF [106088, 106091, 166999, 167999] w μ3375 μ3436) → (G1 μ3436) → ((WJ_X12_message_W_7 w Q z3367 μ3375) μ3436) → sV (gG l D c H0 sa) mX12_message (sRm 5 0 0) (sZ (gG l D c H0 sa) 0 0 (qI w [106001, 106088, 106091, 106093, 106096, 106097, 106098, 106099, 106101, 106102, 126999, 166999, 167999, 168999, 169999, 170999, 171999, 172999, 173999] μ (fun z μ1 => ((-2147483648) ≤ z ∧ z ≤ 2147483647) ∧ mG [(960, 1000)] μ μ1 ∧ G1 μ1 ∧ Q z μ1 ∧ True))) 407 [(0, .ref 106)] [] (mk w μ3436) 0 0 := by
                            intro μ3436 T3437 F3438 I3440 W3442
                            refine sv_aload_n (pc := 407) dX12_message_407 rfl rfl ?_
                            refine sv_aload_n (pc := 408) dX12_message_408 rfl rfl ?_
                            refine gf_X12_95 (pc := 409) dX12_message_409 wF_X12_478 (A_106 hw) T3437 ?_
                            refine mr_iconst (pc := 412) (z := 1) dX12_message_412 ?_
                            refine lk_172 (pc := 413) dX12_message_413 (A_172 hw) (rIx (n := 4) (rR (x := 1)) rfl) (F3438.f (A_172 hw) rfl (u3376.f (Or.inl (mAt.ne (A_106 hw) (A_172 hw) rfl)) q3368)) ?_
                            refine mr_ldc (pc := 414) (z := (-99999999)) dX12_message_414 wG_X12_29 (by decide) ?_
                            have J3454 : ∀ (z3452 : Int), ((0 ≤ z3452 ∧ z3452 ≤ 3)) → ((WJ_X12_message_W_8 w Q μ3436) z3452) → sV (gG l D c H0 sa) mX12_message (sRm 5 0 0) (sZ (gG l D c H0 sa) 0 0 (qI w [106001, 106088, 106091, 106093, 106096, 106097, 106098, 106099, 106101, 106102, 126999, 166999, 167999, 168999, 169999, 170999, 171999, 172999, 173999] μ (fun z μ1 => ((-2147483648) ≤ z ∧ z ≤ 2147483647) ∧ mG [(960, 1000)] μ μ1 ∧ G1 μ1 ∧ Q z μ1 ∧ True))) 454 [(0, .ref 106)] [iv z3452, .ref 106] (mk w μ3436) 0 0 := by
                              intro z3452 h3453 W3455
                              refine pf_X12_102 (pc := 454) dX12_message_454 wF_X12_668 (A_106 hw) T3437 h3453 fun μ3456 u3457 T3458 => ?_
                              refine sv_aload_n (pc := 457) dX12_message_457 rfl rfl ?_
                              refine gk_X12_102 (pc := 458) dX12_message_458 wF_X12_668 (A_106 hw) u3457.1 ?_
                              exact mr_iret dX12_message_461 rfl (le_t rfl) (le_t rfl) T3458 (mF.up (mF.call (mF.up (mF.up (mF.call (mF.up (mF.call (mF.up (mF.up (mF.up (mF.up (mF.up (mF.up (mF.up (mF.up (mF.call (mF.call mF.refl F1788 rfl) F2770 rfl) (A_106 hw) u2784 rfl) (A_106 hw) u2787 rfl) (A_106 hw) u2790 rfl) (A_106 hw) u2793 rfl) (A_106 hw) u2796 rfl) (A_106 hw) u2799 rfl) (A_126 hw) u2802 rfl) (A_126 hw) u2805 rfl) F3238 rfl) (A_106 hw) u3252 rfl) F3351 rfl) (A_106 hw) u3365 rfl) (A_106 hw) u3376 rfl) F3438 rfl) (A_106 hw) u3457 rfl) ⟨(rW (c := (-2147483648)) (d := 2147483647) h3453 rfl), (mG.upO (mG.fr (mG.upO (mG.upO (mG.call (mG.upO (mG.call (mG.up (mG.up (mG.upO (mG.upO (mG.upO (mG.upO (mG.upO (mG.upO (mG.fr (mG.fr mG.refl F1788 (A_126 hw) rfl) F2770 (A_126 hw) rfl) u2784 rfl) u2787 rfl) u2790 rfl) u2793 rfl) u2796 rfl) u2799 rfl) u2802 List.mem_cons_self vc_X12_message_W_9) u2805 List.mem_cons_self vc_X12_message_W_10) G3239 (List.forall_mem_cons.mpr ⟨⟨_, List.mem_cons_self, vc_X12_attributes_W_2⟩, (fun _ h => absurd h List.not_mem_nil)⟩)) u3252 rfl) G3352 (List.forall_mem_cons.mpr ⟨⟨_, List.mem_cons_self, vc_X12_attributes_W_2⟩, (fun _ h => absurd h List.not_mem_nil)⟩)) u3365 rfl) u3376 rfl) F3438 (A_126 hw) rfl) u3457 rfl), (G1.keep I3440 hw ((mF.up mF.refl (A_106 hw) u3457 rfl) : mF [106102] w μ3436 μ3456) rfl rfl ((mG.upO mG.refl u3457 rfl) : mG [] μ3436 μ3456) (fun _ h => absurd h List.not_mem_nil)), ((W3455 h3453) μ3456 u3457 T3458), trivial⟩
                            refine mr_icmp_eq (pc := 416) (tgt := 423) dX12_message_416 (by decide) h3369 (r32 (rR (x := (-99999999))) rfl) (fun h3459 => ?_) (fun h3459 => ?_)
                            · have h3460 : (-99999999) ≤ z3367 ∧ z3367 ≤ (-99999999) := (vc_X12_judgedAnew_21 h3459 h3369)
                              refine sv_aload_n (pc := 423) dX12_message_423 rfl rfl ?_
                              refine gf_X12_95 (pc := 424) dX12_message_424 wF_X12_478 (A_106 hw) T3437 ?_
                              refine mr_iconst (pc := 427) (z := 2) dX12_message_427 ?_
                              refine la_172 (pc := 428) dX12_message_428 (A_172 hw) T3437 (rIx (n := 4) (rR (x := 2)) rfl) fun z3461 q3462 h3463 => ?_
                              refine mr_ldc (pc := 429) (z := (-99999999)) dX12_message_429 wG_X12_29 (by decide) ?_
                              refine mr_icmp_eq (pc := 431) (tgt := 438) dX12_message_431 (by decide) h3463 (r32 (rR (x := (-99999999))) rfl) (fun h3464 => ?_) (fun h3464 => ?_)
                              · have h3465 : (-99999999) ≤ z3461 ∧ z3461 ≤ (-99999999) := (vc_X12_judgedAnew_21 h3464 h3463)
                                refine sv_aload_n (pc := 438) dX12_message_438 rfl rfl ?_
                                refine gf_X12_95 (pc := 439) dX12_message_439 wF_X12_478 (A_106 hw) T3437 ?_
                                refine mr_iconst (pc := 442) (z := 3) dX12_message_442 ?_
                                refine la_172 (pc := 443) dX12_message_443 (A_172 hw) T3437 (rIx (n := 4) (rR (x := 3)) rfl) fun z3466 q3467 h3468 => ?_
                                refine mr_ldc (pc := 444) (z := (-99999999)) dX12_message_444 wG_X12_29 (by decide) ?_
                                refine mr_icmp_eq (pc := 446) (tgt := 453) dX12_message_446 (by decide) h3468 (r32 (rR (x := (-99999999))) rfl) (fun h3469 => ?_) (fun h3469 => ?_)
                                · have h3470 : (-99999999) ≤ z3466 ∧ z3466 ≤ (-99999999) := (vc_X12_judgedAnew_21 h3469 h3468)
                                  refine mr_iconst (pc := 453) (z := 0) dX12_message_453 ?_
                                  exact J3454 0 (rW (c := 0) (d := 3) (rR (x := 0)) rfl) ((((((W3442 T3437 F3438).1 h3459) z3461 q3462 h3463).1 h3464) z3466 q3467 h3468).1 h3469)
                                refine mr_iconst (pc := 449) (z := 3) dX12_message_449 ?_
                                refine sv_goto (pc := 450) (tgt := 454) dX12_message_450 (by decide) ?_
                                exact J3454 3 (rW (c := 0) (d := 3) (rR (x := 3)) rfl) ((((((W3442 T3437 F3438).1 h3459) z3461 q3462 h3463).1 h3464) z3466 q3467 h3468).2 h3469)
                              refine mr_iconst (pc := 434) (z := 2) dX12_message_434 ?_
                              refine sv_goto (pc := 435) (tgt := 454) dX12_message_435 (by decide) ?_
                              exact J3454 2 (rW (c := 0) (d := 3) (rR (x := 2)) rfl) ((((W3442 T3437 F3438).1 h3459) z3461 q3462 h3463).2 h3464)
                            refine mr_iconst (pc := 419) (z := 1) dX12_message_419 ?_
                            refine sv_goto (pc := 420) (tgt := 454) dX12_message_420 (by decide) ?_
                            exact J3454 1 (rW (c := 0) (d := 3) (rR (x := 1)) rfl) ((W3442 T3437 F3438).2 h3459)
                          refine mr_if_ne (pc := 332) (tgt := 407) dX12_message_332 (by decide) (r32 h3372 rfl) (fun h3471 => ?_) (fun h3471 => ?_)
                          · have h3472 : 1 ≤ z3371 ∧ z3371 ≤ 1 := (vc_X12_ring_24 h3471 h3372)
                            exact J3441 μ3375 T3377 mF.refl (G1.keep I3353 hw ((mF.up (mF.up mF.refl (A_106 hw) u3365 rfl) (A_106 hw) u3376 rfl) : mF [106001, 106097] w μ3349 μ3375) rfl rfl ((mG.upO (mG.upO mG.refl u3365 rfl) u3376 rfl) : mG [] μ3349 μ3375) (fun _ h => absurd h List.not_mem_nil)) (((W3374 h3372) μ3375 u3376 T3377).1 h3471)
                          have h3473 : 0 ≤ z3371 ∧ z3371 ≤ 0 := (vc_X12_ring_22 h3471 h3372)
                          refine sv_aload_n (pc := 335) dX12_message_335 rfl rfl ?_
                          refine gf_X12_95 (pc := 336) dX12_message_336 wF_X12_478 (A_106 hw) T3377 ?_
                          refine mr_iconst (pc := 339) (z := 2) dX12_message_339 ?_
                          refine la_172 (pc := 340) dX12_message_340 (A_172 hw) T3377 (rIx (n := 4) (rR (x := 2)) rfl) fun z3474 q3475 h3476 => ?_
                          refine mr_ldc (pc := 341) (z := (-99999999)) dX12_message_341 wG_X12_29 (by decide) ?_
                          refine mr_icmp_eq (pc := 343) (tgt := 407) dX12_message_343 (by decide) h3476 (r32 (rR (x := (-99999999))) rfl) (fun h3477 => ?_) (fun h3477 => ?_)
                          · have h3478 : (-99999999) ≤ z3474 ∧ z3474 ≤ (-99999999) := (vc_X12_judgedAnew_21 h3477 h3476)
                            exact J3441 μ3375 T3377 mF.refl (G1.keep I3353 hw ((mF.up (mF.up mF.refl (A_106 hw) u3365 rfl) (A_106 hw) u3376 rfl) : mF [106001, 106097] w μ3349 μ3375) rfl rfl ((mG.upO (mG.upO mG.refl u3365 rfl) u3376 rfl) : mG [] μ3349 μ3375) (fun _ h => absurd h List.not_mem_nil)) (((((W3374 h3372) μ3375 u3376 T3377).2 h3471) z3474 q3475 h3476).1 h3477)
                          refine mr_iconst (pc := 346) (z := 0) dX12_message_346 ?_
                          refine mr_istore_n (pc := 347) (lv' := [(3, iv 0), (0, .ref 106)]) dX12_message_347 rfl (by decide) rfl ?_
                          have L4131 : ∀ (nL4131 : Nat) (z4129 : Int) (μ4130 : mM) (f_g : Int) (f_c : Int), mT w μ4130 → mF [106088, 166999, 167999] w μ3375 μ4130 → μ4130 106 (88) = f_g → μ4130 106 (91) = f_c → (0 ≤ z4129 ∧ z4129 ≤ 1000) → (f_g + f_c ≤ 1000 + z4129) → (z4129 ≤ f_c) → G1 μ4130 → (1001 - z4129) < (nL4131 : Int) → loopF (WL_X12_message_W_9 w Q z3367 μ3375) False nL4131 (z4129, μ4130) → sV (gG l D c H0 sa) mX12_message (sRm 5 0 0) (sZ (gG l D c H0 sa) 0 0 (qI w [106001, 106088, 106091, 106093, 106096, 106097, 106098, 106099, 106101, 106102, 126999, 166999, 167999, 168999, 169999, 170999, 171999, 172999, 173999] μ (fun z μ1 => ((-2147483648) ≤ z ∧ z ≤ 2147483647) ∧ mG [(960, 1000)] μ μ1 ∧ G1 μ1 ∧ Q z μ1 ∧ True))) 348 [(0, .ref 106), (3, iv z4129)] [] (mk w μ4130) 0 0 := by
                            intro nL4131
                            induction nL4131 with
                            | zero => intro z4129 μ4130 f_g f_c T4133 F4134 q4141 q4142 h4132 h4136 h4137 I4138 h4139 W4140; exact ((vc_X12_message_W_18 h4139 h4136 h4137 h4132)).elim
                            | succ nL4131 ih4143 =>
                              intro z4129 μ4130 f_g f_c T4133 F4134 q4141 q4142 h4132 h4136 h4137 I4138 h4139 W4140
                              have h4144 : (0 ≤ f_g ∧ f_g ≤ 1000) := by rw [← q4141]; exact T4133 106 106 (A_106 hw) (88)
                              have h4145 : (0 ≤ f_c ∧ f_c ≤ 1000) := by rw [← q4142]; exact T4133 106 106 (A_106 hw) (91)
                              refine mr_iload_n (pc := 348) (z := z4129) dX12_message_348 rfl rfl ?_
                              refine sv_aload_n (pc := 349) dX12_message_349 rfl rfl ?_
                              refine gk_X12_91 (pc := 350) dX12_message_350 wF_X12_628 (A_106 hw) q4142 ?_
                              refine mr_icmp_ge (pc := 353) (tgt := 402) dX12_message_353 (by decide) (r32 h4132 rfl) (r32 h4145 rfl) (fun h4163 => ?_) (fun h4163 => ?_)
                              · refine sv_aload_n (pc := 402) dX12_message_402 rfl rfl ?_
                                refine mr_iconst (pc := 403) (z := 0) dX12_message_403 ?_
                                refine pf_X12_91 (pc := 404) dX12_message_404 wF_X12_628 (A_106 hw) T4133 (rW (c := 0) (d := 1000) (rR (x := 0)) rfl) fun μ4164 u4165 T4166 => ?_
                                refine mr_lvS (lv' := [(0, .ref 106)]) (List.forall_mem_cons.mpr ⟨rfl, fun _ h => absurd h List.not_mem_nil⟩) ?_
                                exact J3441 μ4164 T4166 (mF.up (mF.call mF.refl F4134 rfl) (A_106 hw) u4165 rfl) (G1.keep I4138 hw ((mF.up mF.refl (A_106 hw) u4165 rfl) : mF [106091] w μ4130 μ4164) rfl rfl ((mG.upO mG.refl u4165 rfl) : mG [] μ4130 μ4164) (fun _ h => absurd h List.not_mem_nil)) (((((W4140 z4129 μ4130 rfl h4132 T4133 F4134) f_g q4141 h4144) f_c q4142 h4145).1 h4163) μ4164 u4165 T4166)
                              have h4167 : 0 ≤ z4129 ∧ z4129 ≤ 999 := (vc_X12_message_W_19 h4163 h4136 h4137 h4145 h4144 h4132)
                              have h4168 : 1 ≤ f_c ∧ f_c ≤ 1000 := (vc_X12_message_W_20 h4163 h4136 h4137 h4145 h4144 h4167)
                              refine sv_aload_n (pc := 356) dX12_message_356 rfl rfl ?_
                              refine gf_X12_86 (pc := 357) dX12_message_357 wF_X12_460 (A_106 hw) T4133 ?_
                              refine sv_aload_n (pc := 360) dX12_message_360 rfl rfl ?_
                              refine gk_X12_88 (pc := 361) dX12_message_361 wF_X12_625 (A_106 hw) q4141 ?_
                              refine sv_aload_n (pc := 364) dX12_message_364 rfl rfl ?_
                              refine gf_X12_89 (pc := 365) dX12_message_365 wF_X12_466 (A_106 hw) T4133 ?_
                              refine mr_iload_n (pc := 368) (z := z4129) dX12_message_368 rfl rfl ?_
                              refine la_168 (pc := 369) dX12_message_369 (A_168 hw) T4133 (rIx (n := 1000) h4167 rfl) fun z4169 q4170 h4171 => ?_
                              refine ss_166 (pc := 370) dX12_message_370 (A_166 hw) T4133 (vc_X12_message_W_21 h4136 h4137 h4163 h4168 h4144 h4167) h4171 fun μ4172 u4173 T4174 => ?_
                              refine sv_aload_n (pc := 371) dX12_message_371 rfl rfl ?_
                              refine gf_X12_87 (pc := 372) dX12_message_372 wF_X12_463 (A_106 hw) T4174 ?_
                              refine sv_aload_n (pc := 375) dX12_message_375 rfl rfl ?_
                              refine gk_X12_88 (pc := 376) dX12_message_376 wF_X12_625 (A_106 hw) (u4173.f (Or.inl (mAt.ne (A_166 hw) (A_106 hw) rfl)) q4141) ?_
                              refine sv_aload_n (pc := 379) dX12_message_379 rfl rfl ?_
                              refine gf_X12_90 (pc := 380) dX12_message_380 wF_X12_469 (A_106 hw) T4174 ?_
                              refine mr_iload_n (pc := 383) (z := z4129) dX12_message_383 rfl rfl ?_
                              refine la_169 (pc := 384) dX12_message_384 (A_169 hw) T4174 (rIx (n := 1000) h4167 rfl) fun z4175 q4176 h4177 => ?_
                              refine ss_167 (pc := 385) dX12_message_385 (A_167 hw) T4174 (vc_X12_message_W_21 h4136 h4137 h4163 h4168 h4144 h4167) h4177 fun μ4178 u4179 T4180 => ?_
                              refine sv_aload_n (pc := 386) dX12_message_386 rfl rfl ?_
                              refine sv_dup (pc := 387) dX12_message_387 rfl ?_
                              refine gk_X12_88 (pc := 388) dX12_message_388 wF_X12_625 (A_106 hw) (u4179.f (Or.inl (mAt.ne (A_167 hw) (A_106 hw) rfl)) (u4173.f (Or.inl (mAt.ne (A_166 hw) (A_106 hw) rfl)) q4141)) ?_
                              refine mr_iconst (pc := 391) (z := 1) dX12_message_391 ?_
                              refine mr_iadd (pc := 392) (x := f_g) (y := 1) dX12_message_392 ?_
                              refine pf_X12_88 (pc := 393) dX12_message_393 wF_X12_625 (A_106 hw) T4180 (vc_X12_message_W_22 h4136 h4137 h4163 h4168 h4144 h4167) fun μ4181 u4182 T4183 => ?_
                              refine mr_iinc (pc := 396) (lv' := [(3, iv (z4129 + 1)), (0, .ref 106)]) dX12_message_396 rfl (by decide) rfl ?_
                              refine sv_goto (pc := 399) (tgt := 348) dX12_message_399 (by decide) ?_
                              refine mr_lvS (lv' := [(0, .ref 106), (3, iv (z4129 + 1))]) (List.forall_mem_cons.mpr ⟨rfl, List.forall_mem_cons.mpr ⟨rfl, fun _ h => absurd h List.not_mem_nil⟩⟩) ?_
                              exact ih4143 (z4129 + 1) μ4181 (f_g + 1) f_c T4183 (mF.up (mF.up (mF.up (mF.call mF.refl F4134 rfl) (A_166 hw) u4173 rfl) (A_167 hw) u4179 rfl) (A_106 hw) u4182 rfl) u4182.1 (u4182.f (Or.inr (by decide)) (u4179.f (Or.inl (mAt.ne (A_167 hw) (A_106 hw) rfl)) (u4173.f (Or.inl (mAt.ne (A_166 hw) (A_106 hw) rfl)) q4142))) (rW (c := 0) (d := 1000) (rAdd (e := 1) (f := 1000) h4167 (rR (x := 1)) rfl) rfl) (vc_X12_message_W_23 h4136 h4137 h4163 h4168 h4144 h4167) (vc_X12_message_W_24 h4136 h4137 h4163 h4168 h4144 h4167) (G1.keep I4138 hw ((mF.up (mF.up (mF.up mF.refl (A_166 hw) u4173 rfl) (A_167 hw) u4179 rfl) (A_106 hw) u4182 rfl) : mF [106088, 166999, 167999] w μ4130 μ4181) rfl rfl ((mG.upO (mG.upO (mG.upO mG.refl u4173 rfl) u4179 rfl) u4182 rfl) : mG [] μ4130 μ4181) (fun _ h => absurd h List.not_mem_nil)) (vc_X12_message_W_25 (nS h4139) h4136 h4137 h4163 h4168 h4144 h4167) (((((((((W4140 z4129 μ4130 rfl h4132 T4133 F4134) f_g q4141 h4144) f_c q4142 h4145).2 h4163) z4169 q4170 h4171) μ4172 u4173 T4174) z4175 q4176 h4177) μ4178 u4179 T4180) μ4181 u4182 T4183)
                          refine mr_lvS (lv' := [(0, .ref 106), (3, iv 0)]) (List.forall_mem_cons.mpr ⟨rfl, List.forall_mem_cons.mpr ⟨rfl, fun _ h => absurd h List.not_mem_nil⟩⟩) ?_
                          exact L4131 1002 0 μ3375 z3357 z3360 T3377 mF.refl (u3376.f (Or.inr (by decide)) (u3365.f (Or.inr (by decide)) q3358)) (u3376.f (Or.inr (by decide)) (u3365.f (Or.inr (by decide)) q3361)) (rW (c := 0) (d := 1000) (rR (x := 0)) rfl) (vc_X12_message_W_26 h3363 h3359 h3362) (vc_X12_message_W_27 h3363 h3359 h3362) (G1.keep I3353 hw ((mF.up (mF.up mF.refl (A_106 hw) u3365 rfl) (A_106 hw) u3376 rfl) : mF [106001, 106097] w μ3349 μ3375) rfl rfl ((mG.upO (mG.upO mG.refl u3365 rfl) u3376 rfl) : mG [] μ3349 μ3375) (fun _ h => absurd h List.not_mem_nil)) vc_X6_split_v_102 (((((W3374 h3372) μ3375 u3376 T3377).2 h3471) z3474 q3475 h3476).2 h3477)
                        refine mr_icmp_eq (pc := 317) (tgt := 324) dX12_message_317 (by decide) h3369 (r32 (rR (x := (-99999999))) rfl) (fun h4184 => ?_) (fun h4184 => ?_)
                        · have h4185 : (-99999999) ≤ z3367 ∧ z3367 ≤ (-99999999) := (vc_X12_judgedAnew_21 h4184 h3369)
                          refine mr_iconst (pc := 324) (z := 0) dX12_message_324 ?_
                          exact J3373 0 (rW (c := 0) (d := 1) (rR (x := 0)) rfl) ((((((W3356 T3350 F3351) z3357 q3358 h3359) z3360 q3361 h3362) μ3364 u3365 T3366) z3367 q3368 h3369).1 h4184)
                        refine mr_iconst (pc := 320) (z := 1) dX12_message_320 ?_
                        refine sv_goto (pc := 321) (tgt := 325) dX12_message_321 (by decide) ?_
                        exact J3373 1 (rW (c := 0) (d := 1) (rR (x := 1)) rfl) ((((((W3356 T3350 F3351) z3357 q3358 h3359) z3360 q3361 h3362) μ3364 u3365 T3366) z3367 q3368 h3369).2 h4184)
                      refine mr_icmp_lt (pc := 146) (tgt := 159) dX12_message_146 (by decide) (r32 h3256 rfl) (r32 (rR (x := 2)) rfl) (fun h4186 => ?_) (fun h4186 => ?_)
                      · have h4187 : 0 ≤ z3254 ∧ z3254 ≤ 1 := (vc_X3_readParts_W_20 h4186 h3256)
                        refine sv_aload_n (pc := 159) dX12_message_159 rfl rfl ?_
                        refine mr_iconst (pc := 160) (z := 1) dX12_message_160 ?_
                        refine mr_iconst (pc := 161) (z := 0) dX12_message_161 ?_
                        refine mr_cVV (pc := 162) (c_X12_fails_W hw T3253 (rW (c := 0) (d := 3) (rR (x := 1)) rfl) (rW (c := (-2147483648)) (d := 2147483647) (rR (x := 0)) rfl) ((W3267 h3265).1 h4186)) (gOk _ _ _ _ _) dX12_message_162 (tX12_fails _ _ _ _ _) ⟨wV_X12_fails, wL_X12_fails⟩ wM_X12_620 (gCX12 _ _ _ _ _) rfl (A_106 hw) rfl ⟨le_t rfl, le_t rfl⟩ ⟨le_t rfl, le_t rfl⟩ rfl (le_t rfl) fun μ4188 T4189 F4190 h4191 => ?_
                        refine sv_goto (pc := 165) (tgt := 303) dX12_message_165 (by decide) ?_
                        refine mr_lvS (lv' := [(0, .ref 106)]) (List.forall_mem_cons.mpr ⟨rfl, fun _ h => absurd h List.not_mem_nil⟩) ?_
                        exact J3355 μ4188 T4189 (mF.call mF.refl F4190 rfl) (mG.fr mG.refl F4190 (A_126 hw) rfl) (G1.keep I3240 hw ((mF.call (mF.up mF.refl (A_106 hw) u3252 rfl) F4190 rfl) : mF [106096, 172999] w μ3234 μ4188) rfl rfl ((mG.fr (mG.upO mG.refl u3252 rfl) F4190 (A_126 hw) rfl) : mG [] μ3234 μ4188) (fun _ h => absurd h List.not_mem_nil)) (by rw [(F4190.f (A_106 hw) rfl (u3252.f (Or.inr (by decide)) (F3238.f (A_106 hw) rfl (u2805.f (Or.inl (mAt.ne (A_126 hw) (A_106 hw) rfl)) (u2802.f (Or.inl (mAt.ne (A_126 hw) (A_106 hw) rfl)) (u2799.f (Or.inr (by decide)) (u2796.f (Or.inr (by decide)) (u2793.f (Or.inr (by decide)) (u2790.f (Or.inr (by decide)) (u2787.f (Or.inr (by decide)) u2784.1)))))))))), (F4190.f (A_106 hw) rfl (u3252.f (Or.inr (by decide)) (F3238.f (A_106 hw) rfl (u2805.f (Or.inl (mAt.ne (A_126 hw) (A_106 hw) rfl)) (u2802.f (Or.inl (mAt.ne (A_126 hw) (A_106 hw) rfl)) (u2799.f (Or.inr (by decide)) (u2796.f (Or.inr (by decide)) (u2793.f (Or.inr (by decide)) (u2790.f (Or.inr (by decide)) u2787.1)))))))))]; exact vc_X12_message_W_30) (h4191.1 T4189 F4190)
                      have h4192 : 2 ≤ z3254 ∧ z3254 ≤ 1000 := (vc_X3_readParts_W_21 h4186 h3256)
                      refine mr_iconst (pc := 149) (z := 2) dX12_message_149 ?_
                      refine mr_iload_n (pc := 150) (z := z3264) dX12_message_150 rfl rfl ?_
                      refine mr_iadd (pc := 151) (x := 2) (y := z3264) dX12_message_151 ?_
                      refine sv_aload_n (pc := 152) dX12_message_152 rfl rfl ?_
                      refine gk_X12_1 (pc := 153) dX12_message_153 wF_X12_1 (A_106 hw) q3255 ?_
                      refine mr_icmp_le (pc := 156) (tgt := 168) dX12_message_156 (by decide) (r32 (rAdd (e := 2) (f := 65537) (rR (x := 2)) h3265 rfl) rfl) (r32 h4192 rfl) (fun h4193 => ?_) (fun h4193 => ?_)
                      · have h4194 : 0 ≤ z3264 ∧ z3264 ≤ 998 := (vc_X12_message_W_32 h4193 h4186 h4192 h3265)
                        refine sv_aload_n (pc := 168) dX12_message_168 rfl rfl ?_
                        refine mr_iconst (pc := 169) (z := 2) dX12_message_169 ?_
                        refine mr_iconst (pc := 170) (z := 2) dX12_message_170 ?_
                        refine mr_iload_n (pc := 171) (z := z3264) dX12_message_171 rfl rfl ?_
                        refine mr_iadd (pc := 172) (x := 2) (y := z3264) dX12_message_172 ?_
                        refine mr_iconst (pc := 173) (z := 1) dX12_message_173 ?_
                        refine mr_cVI (pc := 174) (c_X12_partOf_W hw T3253 (rW (c := 0) (d := 1000) (rR (x := 2)) rfl) (rW (c := 0) (d := 1000) (rAdd (e := 2) (f := 1000) (rR (x := 2)) h4194 rfl) rfl) (rW (c := 0) (d := 1) (rR (x := 1)) rfl) q3255 (u3252.f (Or.inr (by decide)) (F3238.f (A_106 hw) rfl (u2805.f (Or.inl (mAt.ne (A_126 hw) (A_106 hw) rfl)) (u2802.f (Or.inl (mAt.ne (A_126 hw) (A_106 hw) rfl)) (u2799.f (Or.inr (by decide)) (u2796.f (Or.inr (by decide)) (u2793.f (Or.inr (by decide)) (u2790.f (Or.inr (by decide)) (u2787.f (Or.inr (by decide)) u2784.1))))))))) (u3252.f (Or.inr (by decide)) (F3238.f (A_106 hw) rfl (u2805.f (Or.inl (mAt.ne (A_126 hw) (A_106 hw) rfl)) (u2802.f (Or.inl (mAt.ne (A_126 hw) (A_106 hw) rfl)) (u2799.f (Or.inr (by decide)) (u2796.f (Or.inr (by decide)) (u2793.f (Or.inr (by decide)) (u2790.f (Or.inr (by decide)) u2787.1)))))))) (vc_X12_message_W_33 h4193 h4186 h4192 h4194) (vc_X12_message_W_34 h4186 h4193 h4192 h4194) (vc_X12_message_W_35 h4193 h4186 h4192 h4194) (((W3267 h3265).2 h4186).1 h4193)) (gOk _ _ _ _ _) dX12_message_174 (tX12_partOf _ _ _ _ _) ⟨wV_X12_partOf, wL_X12_partOf⟩ wM_X12_658 (gCX12 _ _ _ _ _) rfl (A_106 hw) rfl ⟨le_t rfl, le_t rfl⟩ ⟨le_t rfl, le_t rfl⟩ rfl (le_t rfl) fun z4199 μ4195 T4196 F4197 h4198 => ?_
                        obtain ⟨z4200, z4202, q4201, q4203, h4204⟩ := h4198
                        have h4205 : (0 ≤ z4200 ∧ z4200 ≤ 1000) := by rw [← q4201]; exact T4196 106 106 (A_106 hw) 88
                        have h4206 : (0 ≤ z4202 ∧ z4202 ≤ 1000) := by rw [← q4203]; exact T4196 106 106 (A_106 hw) 91
                        refine sv_pop (pc := 177) dX12_message_177 rfl ?_
                        refine mr_iconst (pc := 178) (z := 2) dX12_message_178 ?_
                        refine mr_iload_n (pc := 179) (z := z3264) dX12_message_179 rfl rfl ?_
                        refine mr_iadd (pc := 180) (x := 2) (y := z3264) dX12_message_180 ?_
                        refine mr_istore_n (pc := 181) (lv' := [(3, iv (2 + z3264)), (2, iv z3264), (0, .ref 106)]) dX12_message_181 rfl (by decide) rfl ?_
                        refine mr_iload_n (pc := 182) (z := (2 + z3264)) dX12_message_182 rfl rfl ?_
                        refine mr_iconst (pc := 183) (z := 2) dX12_message_183 ?_
                        refine mr_iadd (pc := 184) (x := (2 + z3264)) (y := 2) dX12_message_184 ?_
                        refine sv_aload_n (pc := 185) dX12_message_185 rfl rfl ?_
                        refine gk_X12_1 (pc := 186) dX12_message_186 wF_X12_1 (A_106 hw) (F4197.f (A_106 hw) rfl q3255) ?_
                        have J4216 : ∀ (z4214 : Int), ((0 ≤ z4214 ∧ z4214 ≤ 65535)) → ((WJ_X12_message_W_10 w Q μ3251 z3254 z3264 μ4195) z4214) → sV (gG l D c H0 sa) mX12_message (sRm 5 0 0) (sZ (gG l D c H0 sa) 0 0 (qI w [106001, 106088, 106091, 106093, 106096, 106097, 106098, 106099, 106101, 106102, 126999, 166999, 167999, 168999, 169999, 170999, 171999, 172999, 173999] μ (fun z μ1 => ((-2147483648) ≤ z ∧ z ≤ 2147483647) ∧ mG [(960, 1000)] μ μ1 ∧ G1 μ1 ∧ Q z μ1 ∧ True))) 202 [(0, .ref 106), (3, iv (2 + z3264))] [iv z4214] (mk w μ4195) 0 0 := by
                          intro z4214 h4215 W4217
                          refine mr_istore (pc := 202) (lv' := [(4, iv z4214), (0, .ref 106), (3, iv (2 + z3264))]) dX12_message_202 (by decide) rfl ?_
                          refine mr_iload_n (pc := 204) (z := (2 + z3264)) dX12_message_204 rfl rfl ?_
                          refine mr_iconst (pc := 205) (z := 2) dX12_message_205 ?_
                          refine mr_iadd (pc := 206) (x := (2 + z3264)) (y := 2) dX12_message_206 ?_
                          refine sv_aload_n (pc := 207) dX12_message_207 rfl rfl ?_
                          refine gk_X12_1 (pc := 208) dX12_message_208 wF_X12_1 (A_106 hw) (F4197.f (A_106 hw) rfl q3255) ?_
                          refine mr_icmp_gt (pc := 211) (tgt := 227) dX12_message_211 (by decide) (r32 (rAdd (e := 4) (f := 1002) (rAdd (e := 2) (f := 1000) (rR (x := 2)) h4194 rfl) (rR (x := 2)) rfl) rfl) (r32 h4192 rfl) (fun h4218 => ?_) (fun h4218 => ?_)
                          · refine sv_aload_n (pc := 227) dX12_message_227 rfl rfl ?_
                            refine mr_iconst (pc := 228) (z := 1) dX12_message_228 ?_
                            refine mr_iload_n (pc := 229) (z := (2 + z3264)) dX12_message_229 rfl rfl ?_
                            refine mr_cVV (pc := 230) (c_X12_fails_W hw T4196 (rW (c := 0) (d := 3) (rR (x := 1)) rfl) (rW (c := (-2147483648)) (d := 2147483647) (rAdd (e := 2) (f := 1000) (rR (x := 2)) h4194 rfl) rfl) ((W4217 h4215).1 h4218)) (gOk _ _ _ _ _) dX12_message_230 (tX12_fails _ _ _ _ _) ⟨wV_X12_fails, wL_X12_fails⟩ wM_X12_620 (gCX12 _ _ _ _ _) rfl (A_106 hw) rfl ⟨le_t rfl, le_t rfl⟩ ⟨le_t rfl, le_t rfl⟩ rfl (le_t rfl) fun μ4219 T4220 F4221 h4222 => ?_
                            refine sv_goto (pc := 233) (tgt := 303) dX12_message_233 (by decide) ?_
                            refine mr_lvS (lv' := [(0, .ref 106)]) (List.forall_mem_cons.mpr ⟨rfl, fun _ h => absurd h List.not_mem_nil⟩) ?_
                            exact J3355 μ4219 T4220 (mF.call (mF.call mF.refl F4197 rfl) F4221 rfl) (mG.fr (mG.fr mG.refl F4197 (A_126 hw) rfl) F4221 (A_126 hw) rfl) (G1.keep I3240 hw ((mF.call (mF.call (mF.up mF.refl (A_106 hw) u3252 rfl) F4197 rfl) F4221 rfl) : mF [106088, 106091, 106096, 166999, 167999, 168999, 169999, 172999] w μ3234 μ4219) rfl rfl ((mG.fr (mG.fr (mG.upO mG.refl u3252 rfl) F4197 (A_126 hw) rfl) F4221 (A_126 hw) rfl) : mG [] μ3234 μ4219) (fun _ h => absurd h List.not_mem_nil)) (by rw [(F4221.f (A_106 hw) rfl q4201), (F4221.f (A_106 hw) rfl q4203)]; exact (vc_X12_message_W_36 h4204.2.1 h4193 h4218 h4192 h4194 h4205 h4206)) (h4222.1 T4220 F4221)
                          have h4223 : 0 ≤ z3264 ∧ z3264 ≤ 996 := (vc_X12_message_W_37 h4218 h4186 h4193 h4204.2.1 h4192 h4194 h4205 h4206)
                          have h4224 : 4 ≤ z3254 ∧ z3254 ≤ 1000 := (vc_X12_message_W_38 h4218 h4186 h4193 h4204.2.1 h4192 h4223 h4205 h4206)
                          refine mr_iload_n (pc := 214) (z := (2 + z3264)) dX12_message_214 rfl rfl ?_
                          refine mr_iconst (pc := 215) (z := 2) dX12_message_215 ?_
                          refine mr_iadd (pc := 216) (x := (2 + z3264)) (y := 2) dX12_message_216 ?_
                          refine mr_iload (pc := 217) (z := z4214) dX12_message_217 rfl ?_
                          refine mr_iadd (pc := 219) (x := ((2 + z3264) + 2)) (y := z4214) dX12_message_219 ?_
                          refine sv_aload_n (pc := 220) dX12_message_220 rfl rfl ?_
                          refine gk_X12_1 (pc := 221) dX12_message_221 wF_X12_1 (A_106 hw) (F4197.f (A_106 hw) rfl q3255) ?_
                          refine mr_icmp_le (pc := 224) (tgt := 236) dX12_message_224 (by decide) (r32 (rAdd (e := 4) (f := 66535) (rAdd (e := 4) (f := 1000) (rAdd (e := 2) (f := 998) (rR (x := 2)) h4223 rfl) (rR (x := 2)) rfl) h4215 rfl) rfl) (r32 h4224 rfl) (fun h4225 => ?_) (fun h4225 => ?_)
                          · have h4226 : 0 ≤ z4214 ∧ z4214 ≤ 996 := (vc_X12_message_W_39 h4225 h4186 h4193 h4204.2.1 h4218 h4224 h4223 h4205 h4206 h4215)
                            refine sv_aload_n (pc := 236) dX12_message_236 rfl rfl ?_
                            refine mr_iload_n (pc := 237) (z := (2 + z3264)) dX12_message_237 rfl rfl ?_
                            refine mr_iconst (pc := 238) (z := 2) dX12_message_238 ?_
                            refine mr_iadd (pc := 239) (x := (2 + z3264)) (y := 2) dX12_message_239 ?_
                            refine mr_iload_n (pc := 240) (z := (2 + z3264)) dX12_message_240 rfl rfl ?_
                            refine mr_iconst (pc := 241) (z := 2) dX12_message_241 ?_
                            refine mr_iadd (pc := 242) (x := (2 + z3264)) (y := 2) dX12_message_242 ?_
                            refine mr_iload (pc := 243) (z := z4214) dX12_message_243 rfl ?_
                            refine mr_iadd (pc := 245) (x := ((2 + z3264) + 2)) (y := z4214) dX12_message_245 ?_
                            refine mr_cVV (pc := 246) (c_X12_attributes_W hw T4196 (rW (c := 0) (d := 1002) (rAdd (e := 4) (f := 1000) (rAdd (e := 2) (f := 998) (rR (x := 2)) h4223 rfl) (rR (x := 2)) rfl) rfl) (vc_X12_message_W_40 h4193 h4204.2.1 h4218 h4225 h4186 h4224 h4223 h4205 h4206 h4226) (F4197.f (A_106 hw) rfl q3255) (F4197.f (A_106 hw) rfl (u3252.f (Or.inr (by decide)) (F3238.f (A_106 hw) rfl (u2805.f (Or.inl (mAt.ne (A_126 hw) (A_106 hw) rfl)) (u2802.f (Or.inl (mAt.ne (A_126 hw) (A_106 hw) rfl)) (u2799.f (Or.inr (by decide)) (u2796.f (Or.inr (by decide)) (u2793.f (Or.inr (by decide)) u2790.1)))))))) (vc_X12_message_W_41 h4186 h4193 h4204.2.1 h4218 h4225 h4224 h4223 h4205 h4206 h4226) (vc_X12_message_W_42 h4193 h4204.2.1 h4218 h4225 h4186 h4224 h4223 h4205 h4206 h4226) (((W4217 h4215).2 h4218).1 h4225)) (gOk _ _ _ _ _) dX12_message_246 (tX12_attributes _ _ _ _ _) ⟨wV_X12_attributes, wL_X12_attributes⟩ wM_X12_662 (gCX12 _ _ _ _ _) rfl (A_106 hw) rfl ⟨le_t rfl, le_t rfl⟩ ⟨le_t rfl, le_t rfl⟩ rfl (le_t rfl) fun μ4227 T4228 F4229 h4230 => ?_
                            refine sv_aload_n (pc := 249) dX12_message_249 rfl rfl ?_
                            refine mr_iload_n (pc := 250) (z := (2 + z3264)) dX12_message_250 rfl rfl ?_
                            refine mr_iconst (pc := 251) (z := 2) dX12_message_251 ?_
                            refine mr_iadd (pc := 252) (x := (2 + z3264)) (y := 2) dX12_message_252 ?_
                            refine mr_iload (pc := 253) (z := z4214) dX12_message_253 rfl ?_
                            refine mr_iadd (pc := 255) (x := ((2 + z3264) + 2)) (y := z4214) dX12_message_255 ?_
                            refine sv_aload_n (pc := 256) dX12_message_256 rfl rfl ?_
                            refine gk_X12_1 (pc := 257) dX12_message_257 wF_X12_1 (A_106 hw) (F4229.f (A_106 hw) rfl (F4197.f (A_106 hw) rfl q3255)) ?_
                            refine mr_iconst (pc := 260) (z := 0) dX12_message_260 ?_
                            refine mr_cVI (pc := 261) (c_X12_partOf_W hw T4228 (vc_X12_message_W_40 h4193 h4204.2.1 h4218 h4225 h4186 h4224 h4223 h4205 h4206 h4226) (rW (c := 0) (d := 1000) h4224 rfl) (rW (c := 0) (d := 1) (rR (x := 0)) rfl) (F4229.f (A_106 hw) rfl (F4197.f (A_106 hw) rfl q3255)) (F4229.f (A_106 hw) rfl q4201) (F4229.f (A_106 hw) rfl q4203) (vc_X12_message_W_41 h4186 h4193 h4204.2.1 h4218 h4225 h4224 h4223 h4205 h4206 h4226) (vc_X12_message_W_43 h4186 h4193 h4218 h4225 h4204.2.1 h4224 h4223 h4205 h4206 h4226) (vc_X12_message_W_44 h4186 h4193 h4204.2.1 h4218 h4225 h4224 h4223 h4205 h4206 h4226) (h4230.2.1 T4228 F4229)) (gOk _ _ _ _ _) dX12_message_261 (tX12_partOf _ _ _ _ _) ⟨wV_X12_partOf, wL_X12_partOf⟩ wM_X12_658 (gCX12 _ _ _ _ _) rfl (A_106 hw) rfl ⟨le_t rfl, le_t rfl⟩ ⟨le_t rfl, le_t rfl⟩ rfl (le_t rfl) fun z4235 μ4231 T4232 F4233 h4234 => ?_
                            obtain ⟨z4236, z4238, q4237, q4239, h4240⟩ := h4234
                            have h4241 : (0 ≤ z4236 ∧ z4236 ≤ 1000) := by rw [← q4237]; exact T4232 106 106 (A_106 hw) 88
                            have h4242 : (0 ≤ z4238 ∧ z4238 ≤ 1000) := by rw [← q4239]; exact T4232 106 106 (A_106 hw) 91
                            refine sv_pop (pc := 264) dX12_message_264 rfl ?_
                            refine sv_aload_n (pc := 265) dX12_message_265 rfl rfl ?_
                            refine gk_X12_1 (pc := 266) dX12_message_266 wF_X12_1 (A_106 hw) (F4233.f (A_106 hw) rfl (F4229.f (A_106 hw) rfl (F4197.f (A_106 hw) rfl q3255))) ?_
                            refine mr_iload_n (pc := 269) (z := (2 + z3264)) dX12_message_269 rfl rfl ?_
                            refine mr_iconst (pc := 270) (z := 2) dX12_message_270 ?_
                            refine mr_iadd (pc := 271) (x := (2 + z3264)) (y := 2) dX12_message_271 ?_
                            refine mr_iload (pc := 272) (z := z4214) dX12_message_272 rfl ?_
                            refine mr_iadd (pc := 274) (x := ((2 + z3264) + 2)) (y := z4214) dX12_message_274 ?_
                            refine mr_icmp_le (pc := 275) (tgt := 303) dX12_message_275 (by decide) (r32 h4224 rfl) (r32 (rAdd (e := 4) (f := 1996) (rAdd (e := 4) (f := 1000) (rAdd (e := 2) (f := 998) (rR (x := 2)) h4223 rfl) (rR (x := 2)) rfl) h4226 rfl) rfl) (fun h4243 => ?_) (fun h4243 => ?_)
                            · refine mr_lvS (lv' := [(0, .ref 106)]) (List.forall_mem_cons.mpr ⟨rfl, fun _ h => absurd h List.not_mem_nil⟩) ?_
                              exact J3355 μ4231 T4232 (mF.call (mF.call (mF.call mF.refl F4197 rfl) F4229 rfl) F4233 rfl) (mG.fr (mG.call (mG.fr mG.refl F4197 (A_126 hw) rfl) h4230.1 (List.forall_mem_cons.mpr ⟨⟨_, List.mem_cons_self, vc_X12_attributes_W_2⟩, (fun _ h => absurd h List.not_mem_nil)⟩)) F4233 (A_126 hw) rfl) (G1.keep I3240 hw ((mF.call (mF.call (mF.call (mF.up mF.refl (A_106 hw) u3252 rfl) F4197 rfl) F4229 rfl) F4233 rfl) : mF [106088, 106091, 106093, 106096, 106098, 106099, 106101, 126999, 166999, 167999, 168999, 169999, 170999, 171999, 172999, 173999] w μ3234 μ4231) rfl rfl ((mG.fr (mG.call (mG.fr (mG.upO mG.refl u3252 rfl) F4197 (A_126 hw) rfl) h4230.1 (List.forall_mem_cons.mpr ⟨⟨_, List.mem_cons_self, vc_X12_attributes_W_2⟩, (fun _ h => absurd h List.not_mem_nil)⟩)) F4233 (A_126 hw) rfl) : mG [(960, 1000)] μ3234 μ4231) (List.forall_mem_cons.mpr ⟨vc_X12_message_W_45, (fun _ h => absurd h List.not_mem_nil)⟩)) (by rw [q4237, q4239]; exact (vc_X12_message_W_46 h4240.2.1 h4186 h4193 h4204.2.1 h4218 h4225 h4243 h4224 h4223 h4205 h4206 h4226 h4241 h4242)) (((((h4240.2.2.1 T4232 F4233) h4240.1) z4236 q4237) z4238 q4239).1 h4243)
                            have h4244 : 5 ≤ z3254 ∧ z3254 ≤ 1000 := (vc_X12_message_W_47 h4243 h4186 h4193 h4204.2.1 h4218 h4225 h4240.2.1 h4224 h4223 h4205 h4206 h4226 h4241 h4242)
                            have h4245 : 0 ≤ z3264 ∧ z3264 ≤ 995 := (vc_X12_message_W_48 h4243 h4186 h4193 h4204.2.1 h4218 h4225 h4240.2.1 h4244 h4223 h4205 h4206 h4226 h4241 h4242)
                            have h4246 : 0 ≤ z4214 ∧ z4214 ≤ 995 := (vc_X12_message_W_49 h4243 h4186 h4193 h4204.2.1 h4218 h4225 h4240.2.1 h4244 h4245 h4205 h4206 h4226 h4241 h4242)
                            refine sv_aload_n (pc := 278) dX12_message_278 rfl rfl ?_
                            refine gf_X12_98 (pc := 279) dX12_message_279 wF_X12_631 (A_106 hw) T4232 fun z4247 q4248 h4249 => ?_
                            refine mr_if_eq (pc := 282) (tgt := 292) dX12_message_282 (by decide) (r32 h4249 rfl) (fun h4250 => ?_) (fun h4250 => ?_)
                            · have h4251 : 0 ≤ z4247 ∧ z4247 ≤ 0 := (vc_X12_ring_22 h4250 h4249)
                              refine sv_aload_n (pc := 292) dX12_message_292 rfl rfl ?_
                              refine mr_iconst (pc := 293) (z := 2) dX12_message_293 ?_
                              refine mr_iload_n (pc := 294) (z := (2 + z3264)) dX12_message_294 rfl rfl ?_
                              refine mr_iconst (pc := 295) (z := 2) dX12_message_295 ?_
                              refine mr_iadd (pc := 296) (x := (2 + z3264)) (y := 2) dX12_message_296 ?_
                              refine mr_iload (pc := 297) (z := z4214) dX12_message_297 rfl ?_
                              refine mr_iadd (pc := 299) (x := ((2 + z3264) + 2)) (y := z4214) dX12_message_299 ?_
                              have W4256 := (((((((h4240.2.2.1 T4232 F4233) h4240.1) z4236 q4237) z4238 q4239).2 h4243) z4247 q4248 h4249).1 h4250)
                              refine mr_cVV (pc := 300) (c_X12_fails_W hw T4232 (rW (c := 0) (d := 3) (rR (x := 2)) rfl) (rW (c := (-2147483648)) (d := 2147483647) (rAdd (e := 4) (f := 1994) (rAdd (e := 4) (f := 999) (rAdd (e := 2) (f := 997) (rR (x := 2)) h4245 rfl) (rR (x := 2)) rfl) h4246 rfl) rfl) W4256) (gOk _ _ _ _ _) dX12_message_300 (tX12_fails _ _ _ _ _) ⟨wV_X12_fails, wL_X12_fails⟩ wM_X12_620 (gCX12 _ _ _ _ _) rfl (A_106 hw) rfl ⟨le_t rfl, le_t rfl⟩ ⟨le_t rfl, le_t rfl⟩ rfl (le_t rfl) fun μ4252 T4253 F4254 h4255 => ?_
                              refine mr_lvS (lv' := [(0, .ref 106)]) (List.forall_mem_cons.mpr ⟨rfl, fun _ h => absurd h List.not_mem_nil⟩) ?_
                              exact J3355 μ4252 T4253 (mF.call (mF.call (mF.call (mF.call mF.refl F4197 rfl) F4229 rfl) F4233 rfl) F4254 rfl) (mG.fr (mG.fr (mG.call (mG.fr mG.refl F4197 (A_126 hw) rfl) h4230.1 (List.forall_mem_cons.mpr ⟨⟨_, List.mem_cons_self, vc_X12_attributes_W_2⟩, (fun _ h => absurd h List.not_mem_nil)⟩)) F4233 (A_126 hw) rfl) F4254 (A_126 hw) rfl) (G1.keep I3240 hw ((mF.call (mF.call (mF.call (mF.call (mF.up mF.refl (A_106 hw) u3252 rfl) F4197 rfl) F4229 rfl) F4233 rfl) F4254 rfl) : mF [106088, 106091, 106093, 106096, 106098, 106099, 106101, 126999, 166999, 167999, 168999, 169999, 170999, 171999, 172999, 173999] w μ3234 μ4252) rfl rfl ((mG.fr (mG.fr (mG.call (mG.fr (mG.upO mG.refl u3252 rfl) F4197 (A_126 hw) rfl) h4230.1 (List.forall_mem_cons.mpr ⟨⟨_, List.mem_cons_self, vc_X12_attributes_W_2⟩, (fun _ h => absurd h List.not_mem_nil)⟩)) F4233 (A_126 hw) rfl) F4254 (A_126 hw) rfl) : mG [(960, 1000)] μ3234 μ4252) (List.forall_mem_cons.mpr ⟨vc_X12_message_W_45, (fun _ h => absurd h List.not_mem_nil)⟩)) (by rw [(F4254.f (A_106 hw) rfl q4237), (F4254.f (A_106 hw) rfl q4239)]; exact (vc_X12_message_W_51 h4240.2.1 h4186 h4193 h4204.2.1 h4218 h4225 h4243 h4244 h4245 h4205 h4206 h4246 h4241 h4242)) (h4255.1 T4253 F4254)
                            have h4257 : 1 ≤ z4247 ∧ z4247 ≤ 1 := (vc_X12_ring_24 h4250 h4249)
                            refine sv_aload_n (pc := 285) dX12_message_285 rfl rfl ?_
                            refine gf_X12_99 (pc := 286) dX12_message_286 wF_X12_634 (A_106 hw) T4232 fun z4258 q4259 h4260 => ?_
                            refine mr_if_ne (pc := 289) (tgt := 303) dX12_message_289 (by decide) (r32 h4260 rfl) (fun h4261 => ?_) (fun h4261 => ?_)
                            · have h4262 : 1 ≤ z4258 ∧ z4258 ≤ 1 := (vc_X12_ring_24 h4261 h4260)
                              refine mr_lvS (lv' := [(0, .ref 106)]) (List.forall_mem_cons.mpr ⟨rfl, fun _ h => absurd h List.not_mem_nil⟩) ?_
                              exact J3355 μ4231 T4232 (mF.call (mF.call (mF.call mF.refl F4197 rfl) F4229 rfl) F4233 rfl) (mG.fr (mG.call (mG.fr mG.refl F4197 (A_126 hw) rfl) h4230.1 (List.forall_mem_cons.mpr ⟨⟨_, List.mem_cons_self, vc_X12_attributes_W_2⟩, (fun _ h => absurd h List.not_mem_nil)⟩)) F4233 (A_126 hw) rfl) (G1.keep I3240 hw ((mF.call (mF.call (mF.call (mF.up mF.refl (A_106 hw) u3252 rfl) F4197 rfl) F4229 rfl) F4233 rfl) : mF [106088, 106091, 106093, 106096, 106098, 106099, 106101, 126999, 166999, 167999, 168999, 169999, 170999, 171999, 172999, 173999] w μ3234 μ4231) rfl rfl ((mG.fr (mG.call (mG.fr (mG.upO mG.refl u3252 rfl) F4197 (A_126 hw) rfl) h4230.1 (List.forall_mem_cons.mpr ⟨⟨_, List.mem_cons_self, vc_X12_attributes_W_2⟩, (fun _ h => absurd h List.not_mem_nil)⟩)) F4233 (A_126 hw) rfl) : mG [(960, 1000)] μ3234 μ4231) (List.forall_mem_cons.mpr ⟨vc_X12_message_W_45, (fun _ h => absurd h List.not_mem_nil)⟩)) (by rw [q4237, q4239]; exact (vc_X12_message_W_51 h4240.2.1 h4186 h4193 h4204.2.1 h4218 h4225 h4243 h4244 h4245 h4205 h4206 h4246 h4241 h4242)) (((((((((h4240.2.2.1 T4232 F4233) h4240.1) z4236 q4237) z4238 q4239).2 h4243) z4247 q4248 h4249).2 h4250) z4258 q4259 h4260).1 h4261)
                            have h4263 : 0 ≤ z4258 ∧ z4258 ≤ 0 := (vc_X12_ring_22 h4261 h4260)
                            refine sv_aload_n (pc := 292) dX12_message_292 rfl rfl ?_
                            refine mr_iconst (pc := 293) (z := 2) dX12_message_293 ?_
                            refine mr_iload_n (pc := 294) (z := (2 + z3264)) dX12_message_294 rfl rfl ?_
                            refine mr_iconst (pc := 295) (z := 2) dX12_message_295 ?_
                            refine mr_iadd (pc := 296) (x := (2 + z3264)) (y := 2) dX12_message_296 ?_
                            refine mr_iload (pc := 297) (z := z4214) dX12_message_297 rfl ?_
                            refine mr_iadd (pc := 299) (x := ((2 + z3264) + 2)) (y := z4214) dX12_message_299 ?_
                            have W4268 := (((((((((h4240.2.2.1 T4232 F4233) h4240.1) z4236 q4237) z4238 q4239).2 h4243) z4247 q4248 h4249).2 h4250) z4258 q4259 h4260).2 h4261)
                            refine mr_cVV (pc := 300) (c_X12_fails_W hw T4232 (rW (c := 0) (d := 3) (rR (x := 2)) rfl) (rW (c := (-2147483648)) (d := 2147483647) (rAdd (e := 4) (f := 1994) (rAdd (e := 4) (f := 999) (rAdd (e := 2) (f := 997) (rR (x := 2)) h4245 rfl) (rR (x := 2)) rfl) h4246 rfl) rfl) W4268) (gOk _ _ _ _ _) dX12_message_300 (tX12_fails _ _ _ _ _) ⟨wV_X12_fails, wL_X12_fails⟩ wM_X12_620 (gCX12 _ _ _ _ _) rfl (A_106 hw) rfl ⟨le_t rfl, le_t rfl⟩ ⟨le_t rfl, le_t rfl⟩ rfl (le_t rfl) fun μ4264 T4265 F4266 h4267 => ?_
                            refine mr_lvS (lv' := [(0, .ref 106)]) (List.forall_mem_cons.mpr ⟨rfl, fun _ h => absurd h List.not_mem_nil⟩) ?_
                            exact J3355 μ4264 T4265 (mF.call (mF.call (mF.call (mF.call mF.refl F4197 rfl) F4229 rfl) F4233 rfl) F4266 rfl) (mG.fr (mG.fr (mG.call (mG.fr mG.refl F4197 (A_126 hw) rfl) h4230.1 (List.forall_mem_cons.mpr ⟨⟨_, List.mem_cons_self, vc_X12_attributes_W_2⟩, (fun _ h => absurd h List.not_mem_nil)⟩)) F4233 (A_126 hw) rfl) F4266 (A_126 hw) rfl) (G1.keep I3240 hw ((mF.call (mF.call (mF.call (mF.call (mF.up mF.refl (A_106 hw) u3252 rfl) F4197 rfl) F4229 rfl) F4233 rfl) F4266 rfl) : mF [106088, 106091, 106093, 106096, 106098, 106099, 106101, 126999, 166999, 167999, 168999, 169999, 170999, 171999, 172999, 173999] w μ3234 μ4264) rfl rfl ((mG.fr (mG.fr (mG.call (mG.fr (mG.upO mG.refl u3252 rfl) F4197 (A_126 hw) rfl) h4230.1 (List.forall_mem_cons.mpr ⟨⟨_, List.mem_cons_self, vc_X12_attributes_W_2⟩, (fun _ h => absurd h List.not_mem_nil)⟩)) F4233 (A_126 hw) rfl) F4266 (A_126 hw) rfl) : mG [(960, 1000)] μ3234 μ4264) (List.forall_mem_cons.mpr ⟨vc_X12_message_W_45, (fun _ h => absurd h List.not_mem_nil)⟩)) (by rw [(F4266.f (A_106 hw) rfl q4237), (F4266.f (A_106 hw) rfl q4239)]; exact (vc_X12_message_W_51 h4240.2.1 h4186 h4193 h4204.2.1 h4218 h4225 h4243 h4244 h4245 h4205 h4206 h4246 h4241 h4242)) (h4267.1 T4265 F4266)
                          refine sv_aload_n (pc := 227) dX12_message_227 rfl rfl ?_
                          refine mr_iconst (pc := 228) (z := 1) dX12_message_228 ?_
                          refine mr_iload_n (pc := 229) (z := (2 + z3264)) dX12_message_229 rfl rfl ?_
                          refine mr_cVV (pc := 230) (c_X12_fails_W hw T4196 (rW (c := 0) (d := 3) (rR (x := 1)) rfl) (rW (c := (-2147483648)) (d := 2147483647) (rAdd (e := 2) (f := 998) (rR (x := 2)) h4223 rfl) rfl) (((W4217 h4215).2 h4218).2 h4225)) (gOk _ _ _ _ _) dX12_message_230 (tX12_fails _ _ _ _ _) ⟨wV_X12_fails, wL_X12_fails⟩ wM_X12_620 (gCX12 _ _ _ _ _) rfl (A_106 hw) rfl ⟨le_t rfl, le_t rfl⟩ ⟨le_t rfl, le_t rfl⟩ rfl (le_t rfl) fun μ4269 T4270 F4271 h4272 => ?_
                          refine sv_goto (pc := 233) (tgt := 303) dX12_message_233 (by decide) ?_
                          refine mr_lvS (lv' := [(0, .ref 106)]) (List.forall_mem_cons.mpr ⟨rfl, fun _ h => absurd h List.not_mem_nil⟩) ?_
                          exact J3355 μ4269 T4270 (mF.call (mF.call mF.refl F4197 rfl) F4271 rfl) (mG.fr (mG.fr mG.refl F4197 (A_126 hw) rfl) F4271 (A_126 hw) rfl) (G1.keep I3240 hw ((mF.call (mF.call (mF.up mF.refl (A_106 hw) u3252 rfl) F4197 rfl) F4271 rfl) : mF [106088, 106091, 106096, 166999, 167999, 168999, 169999, 172999] w μ3234 μ4269) rfl rfl ((mG.fr (mG.fr (mG.upO mG.refl u3252 rfl) F4197 (A_126 hw) rfl) F4271 (A_126 hw) rfl) : mG [] μ3234 μ4269) (fun _ h => absurd h List.not_mem_nil)) (by rw [(F4271.f (A_106 hw) rfl q4201), (F4271.f (A_106 hw) rfl q4203)]; exact (vc_X12_message_W_55 h4204.2.1 h4193 h4218 h4225 h4224 h4223 h4205 h4206 h4215)) (h4272.1 T4270 F4271)
                        refine mr_icmp_gt (pc := 189) (tgt := 201) dX12_message_189 (by decide) (r32 (rAdd (e := 4) (f := 1002) (rAdd (e := 2) (f := 1000) (rR (x := 2)) h4194 rfl) (rR (x := 2)) rfl) rfl) (r32 h4192 rfl) (fun h4273 => ?_) (fun h4273 => ?_)
                        · refine mr_iconst (pc := 201) (z := 0) dX12_message_201 ?_
                          refine mr_lvS (lv' := [(0, .ref 106), (3, iv (2 + z3264))]) (List.forall_mem_cons.mpr ⟨rfl, List.forall_mem_cons.mpr ⟨rfl, fun _ h => absurd h List.not_mem_nil⟩⟩) ?_
                          exact J4216 0 (rW (c := 0) (d := 65535) (rR (x := 0)) rfl) (((((h4204.2.2.1 T4196 F4197) h4204.1) z4200 q4201) z4202 q4203).1 h4273)
                        have h4274 : 0 ≤ z3264 ∧ z3264 ≤ 996 := (vc_X12_message_W_37 h4273 h4186 h4193 h4204.2.1 h4192 h4194 h4205 h4206)
                        have h4275 : 4 ≤ z3254 ∧ z3254 ≤ 1000 := (vc_X12_message_W_38 h4273 h4186 h4193 h4204.2.1 h4192 h4274 h4205 h4206)
                        refine sv_aload_n (pc := 192) dX12_message_192 rfl rfl ?_
                        refine mr_iload_n (pc := 193) (z := (2 + z3264)) dX12_message_193 rfl rfl ?_
                        refine mr_iconst (pc := 194) (z := 2) dX12_message_194 ?_
                        refine mr_cVP (pc := 195) (c_X12_number_Wf2 hw T4196 (rW (c := 0) (d := 1000) (rAdd (e := 2) (f := 998) (rR (x := 2)) h4274 rfl) rfl) (rW (c := 0) (d := 2) (rR (x := 2)) rfl) (F4197.f (A_106 hw) rfl q3255) (vc_X12_message_W_56 h4186 h4193 h4204.2.1 h4273 h4275 h4274 h4205 h4206) (((((h4204.2.2.1 T4196 F4197) h4204.1) z4200 q4201) z4202 q4203).2 h4273)) (gOk _ _ _ _ _) dX12_message_195 (tX12_number _ _ _ _ _) ⟨wV_X12_number, wL_X12_number⟩ wM_X12_623 (gCX12 _ _ _ _ _) rfl (A_106 hw) rfl ⟨le_t rfl, le_t rfl⟩ ⟨le_t rfl, le_t rfl⟩ rfl (le_t rfl) fun z4280 h4279 => ?_
                        refine sv_goto (pc := 198) (tgt := 202) dX12_message_198 (by decide) ?_
                        refine mr_lvS (lv' := [(0, .ref 106), (3, iv (2 + z3264))]) (List.forall_mem_cons.mpr ⟨rfl, List.forall_mem_cons.mpr ⟨rfl, fun _ h => absurd h List.not_mem_nil⟩⟩) ?_
                        exact J4216 z4280 h4279.1 (h4279.2.2.1 h4279.1)
                      have h4281 : 1 ≤ z3264 ∧ z3264 ≤ 65535 := (vc_X12_message_W_57 h4193 h4186 h4192 h3265)
                      refine sv_aload_n (pc := 159) dX12_message_159 rfl rfl ?_
                      refine mr_iconst (pc := 160) (z := 1) dX12_message_160 ?_
                      refine mr_iconst (pc := 161) (z := 0) dX12_message_161 ?_
                      refine mr_cVV (pc := 162) (c_X12_fails_W hw T3253 (rW (c := 0) (d := 3) (rR (x := 1)) rfl) (rW (c := (-2147483648)) (d := 2147483647) (rR (x := 0)) rfl) (((W3267 h3265).2 h4186).2 h4193)) (gOk _ _ _ _ _) dX12_message_162 (tX12_fails _ _ _ _ _) ⟨wV_X12_fails, wL_X12_fails⟩ wM_X12_620 (gCX12 _ _ _ _ _) rfl (A_106 hw) rfl ⟨le_t rfl, le_t rfl⟩ ⟨le_t rfl, le_t rfl⟩ rfl (le_t rfl) fun μ4282 T4283 F4284 h4285 => ?_
                      refine sv_goto (pc := 165) (tgt := 303) dX12_message_165 (by decide) ?_
                      refine mr_lvS (lv' := [(0, .ref 106)]) (List.forall_mem_cons.mpr ⟨rfl, fun _ h => absurd h List.not_mem_nil⟩) ?_
                      exact J3355 μ4282 T4283 (mF.call mF.refl F4284 rfl) (mG.fr mG.refl F4284 (A_126 hw) rfl) (G1.keep I3240 hw ((mF.call (mF.up mF.refl (A_106 hw) u3252 rfl) F4284 rfl) : mF [106096, 172999] w μ3234 μ4282) rfl rfl ((mG.fr (mG.upO mG.refl u3252 rfl) F4284 (A_126 hw) rfl) : mG [] μ3234 μ4282) (fun _ h => absurd h List.not_mem_nil)) (by rw [(F4284.f (A_106 hw) rfl (u3252.f (Or.inr (by decide)) (F3238.f (A_106 hw) rfl (u2805.f (Or.inl (mAt.ne (A_126 hw) (A_106 hw) rfl)) (u2802.f (Or.inl (mAt.ne (A_126 hw) (A_106 hw) rfl)) (u2799.f (Or.inr (by decide)) (u2796.f (Or.inr (by decide)) (u2793.f (Or.inr (by decide)) (u2790.f (Or.inr (by decide)) (u2787.f (Or.inr (by decide)) u2784.1)))))))))), (F4284.f (A_106 hw) rfl (u3252.f (Or.inr (by decide)) (F3238.f (A_106 hw) rfl (u2805.f (Or.inl (mAt.ne (A_126 hw) (A_106 hw) rfl)) (u2802.f (Or.inl (mAt.ne (A_126 hw) (A_106 hw) rfl)) (u2799.f (Or.inr (by decide)) (u2796.f (Or.inr (by decide)) (u2793.f (Or.inr (by decide)) (u2790.f (Or.inr (by decide)) u2787.1)))))))))]; exact vc_X12_message_W_30) (h4285.1 T4283 F4284)
                    refine mr_icmp_lt (pc := 127) (tgt := 139) dX12_message_127 (by decide) (r32 h3256 rfl) (r32 (rR (x := 2)) rfl) (fun h4286 => ?_) (fun h4286 => ?_)
                    · have h4287 : 0 ≤ z3254 ∧ z3254 ≤ 1 := (vc_X3_readParts_W_20 h4286 h3256)
                      refine mr_iconst (pc := 139) (z := 0) dX12_message_139 ?_
                      refine mr_lvS (lv' := [(0, .ref 106)]) (List.forall_mem_cons.mpr ⟨rfl, fun _ h => absurd h List.not_mem_nil⟩) ?_
                      exact J3266 0 (rW (c := 0) (d := 65535) (rR (x := 0)) rfl) (((((W3242 z3233 μ3234 rfl h3236 T3237 F3238).1 h3249) μ3251 u3252 T3253) z3254 q3255 h3256).1 h4286)
                    have h4288 : 2 ≤ z3254 ∧ z3254 ≤ 1000 := (vc_X3_readParts_W_21 h4286 h3256)
                    refine sv_aload_n (pc := 130) dX12_message_130 rfl rfl ?_
                    refine mr_iconst (pc := 131) (z := 0) dX12_message_131 ?_
                    refine mr_iconst (pc := 132) (z := 2) dX12_message_132 ?_
                    have W4294 := (((((W3242 z3233 μ3234 rfl h3236 T3237 F3238).1 h3249) μ3251 u3252 T3253) z3254 q3255 h3256).2 h4286)
                    refine mr_cVP (pc := 133) (c_X12_number_Wf2 hw T3253 (rW (c := 0) (d := 1000) (rR (x := 0)) rfl) (rW (c := 0) (d := 2) (rR (x := 2)) rfl) q3255 (vc_X12_message_W_58 h4286 h4288) W4294) (gOk _ _ _ _ _) dX12_message_133 (tX12_number _ _ _ _ _) ⟨wV_X12_number, wL_X12_number⟩ wM_X12_623 (gCX12 _ _ _ _ _) rfl (A_106 hw) rfl ⟨le_t rfl, le_t rfl⟩ ⟨le_t rfl, le_t rfl⟩ rfl (le_t rfl) fun z4293 h4292 => ?_
                    refine sv_goto (pc := 136) (tgt := 140) dX12_message_136 (by decide) ?_
                    refine mr_lvS (lv' := [(0, .ref 106)]) (List.forall_mem_cons.mpr ⟨rfl, fun _ h => absurd h List.not_mem_nil⟩) ?_
                    exact J3266 z4293 h4292.1 (h4292.2.2.1 h4292.1)
                  have h4295 : 2 ≤ z3233 ∧ z3233 ≤ 5 := (vc_X12_message_W_59 h3249 h3236)
                  refine sv_aload_n (pc := 102) dX12_message_102 rfl rfl ?_
                  refine gf_X12_32 (pc := 103) dX12_message_103 wF_X12_148 (A_106 hw) T3237 ?_
                  refine mr_iload_n (pc := 106) (z := 960) dX12_message_106 rfl rfl ?_
                  refine mr_iload_n (pc := 107) (z := z3233) dX12_message_107 rfl rfl ?_
                  refine mr_iadd (pc := 108) (x := 960) (y := z3233) dX12_message_108 ?_
                  refine mr_iconst (pc := 109) (z := 0) dX12_message_109 ?_
                  refine ss_126 (pc := 110) dX12_message_110 (A_126 hw) T3237 (rIx (n := 84000) (rAdd (e := 962) (f := 965) (rR (x := 960)) h4295 rfl) rfl) (vc_X12_message_W_60 h3249 h4295) fun μ4296 u4297 T4298 => ?_
                  refine mr_iinc (pc := 111) (lv' := [(2, iv (z3233 + 1)), (0, .ref 106), (1, iv 960)]) dX12_message_111 rfl (by decide) rfl ?_
                  refine sv_goto (pc := 114) (tgt := 96) dX12_message_114 (by decide) ?_
                  refine mr_lvS (lv' := [(0, .ref 106), (1, iv 960), (2, iv (z3233 + 1))]) (List.forall_mem_cons.mpr ⟨rfl, List.forall_mem_cons.mpr ⟨rfl, List.forall_mem_cons.mpr ⟨rfl, fun _ h => absurd h List.not_mem_nil⟩⟩⟩) ?_
                  exact ih3243 (z3233 + 1) μ4296 T4298 (mF.up (mF.call mF.refl F3238 rfl) (A_126 hw) u4297 rfl) (mG.up (mG.call mG.refl G3239 (List.forall_mem_cons.mpr ⟨⟨_, List.mem_cons_self, vc_X12_attributes_W_2⟩, (fun _ h => absurd h List.not_mem_nil)⟩)) u4297 List.mem_cons_self (vc_X12_message_W_62 h3249 h4295)) (rW (c := 2) (d := 6) (rAdd (e := 3) (f := 6) h4295 (rR (x := 1)) rfl) rfl) (G1.keep I3240 hw ((mF.up mF.refl (A_126 hw) u4297 rfl) : mF [126999] w μ3234 μ4296) rfl rfl ((mG.up mG.refl u4297 List.mem_cons_self (vc_X12_message_W_63 h3249 h4295)) : mG [((960 + z3233), ((960 + z3233) + 1))] μ3234 μ4296) (List.forall_mem_cons.mpr ⟨(vc_X12_message_W_64 h3249 h4295), (fun _ h => absurd h List.not_mem_nil)⟩)) (vc_X12_message_W_61 (nS h3241) h3249 h4295) (((W3242 z3233 μ3234 rfl h3236 T3237 F3238).2 h3249) μ4296 u4297 T4298)
              refine mr_lvS (lv' := [(0, .ref 106), (1, iv 960), (2, iv 2)]) (List.forall_mem_cons.mpr ⟨rfl, List.forall_mem_cons.mpr ⟨rfl, List.forall_mem_cons.mpr ⟨rfl, fun _ h => absurd h List.not_mem_nil⟩⟩⟩) ?_
              exact L3235 6 2 μ2804 T2806 mF.refl mG.refl (rW (c := 2) (d := 6) (rR (x := 2)) rfl) (G1.keep I2772 hw ((mF.up (mF.up (mF.up (mF.up (mF.up (mF.up (mF.up (mF.up mF.refl (A_106 hw) u2784 rfl) (A_106 hw) u2787 rfl) (A_106 hw) u2790 rfl) (A_106 hw) u2793 rfl) (A_106 hw) u2796 rfl) (A_106 hw) u2799 rfl) (A_126 hw) u2802 rfl) (A_126 hw) u2805 rfl) : mF [106088, 106091, 106093, 106098, 106099, 106101, 126999] w μ2766 μ2804) rfl rfl ((mG.up (mG.up (mG.upO (mG.upO (mG.upO (mG.upO (mG.upO (mG.upO mG.refl u2784 rfl) u2787 rfl) u2790 rfl) u2793 rfl) u2796 rfl) u2799 rfl) u2802 List.mem_cons_self vc_X12_message_W_66) u2805 (List.mem_cons_of_mem _ List.mem_cons_self) vc_X12_message_W_67) : mG [(960, (960 + 1)), ((960 + 1), ((960 + 1) + 1))] μ2766 μ2804) (List.forall_mem_cons.mpr ⟨vc_X12_message_W_69, (List.forall_mem_cons.mpr ⟨vc_X12_message_W_68, (fun _ h => absurd h List.not_mem_nil)⟩)⟩)) vc_X12_message_W_65 ((((((((((W2774 z2765 μ2766 rfl h2768 T2769 F2770).1 h2781) μ2783 u2784 T2785) μ2786 u2787 T2788) μ2789 u2790 T2791) μ2792 u2793 T2794) μ2795 u2796 T2797) μ2798 u2799 T2800) μ2801 u2802 T2803) μ2804 u2805 T2806)
            have h4299 : 0 ≤ z2765 ∧ z2765 ≤ 255 := (vc_X3_putNumber_5 h2781 h2768)
            refine sv_aload_n (pc := 30) dX12_message_30 rfl rfl ?_
            refine gf_X12_94 (pc := 31) dX12_message_31 wF_X12_475 (A_106 hw) T2769 ?_
            refine mr_iload_n (pc := 34) (z := z2765) dX12_message_34 rfl rfl ?_
            refine mr_iconst (pc := 35) (z := 0) dX12_message_35 ?_
            refine ss_171 (pc := 36) dX12_message_36 (A_171 hw) T2769 (rIx (n := 256) h4299 rfl) (rW (c := 0) (d := 1) (rR (x := 0)) rfl) fun μ4300 u4301 T4302 => ?_
            refine mr_iinc (pc := 37) (lv' := [(1, iv (z2765 + 1)), (0, .ref 106)]) dX12_message_37 rfl (by decide) rfl ?_
            refine sv_goto (pc := 40) (tgt := 23) dX12_message_40 (by decide) ?_
            refine mr_lvS (lv' := [(0, .ref 106), (1, iv (z2765 + 1))]) (List.forall_mem_cons.mpr ⟨rfl, List.forall_mem_cons.mpr ⟨rfl, fun _ h => absurd h List.not_mem_nil⟩⟩) ?_
            exact ih2775 (z2765 + 1) μ4300 T4302 (mF.up (mF.call mF.refl F2770 rfl) (A_171 hw) u4301 rfl) (rW (c := 0) (d := 256) (rAdd (e := 1) (f := 256) h4299 (rR (x := 1)) rfl) rfl) (G1.keep I2772 hw ((mF.up mF.refl (A_171 hw) u4301 rfl) : mF [171999] w μ2766 μ4300) rfl rfl ((mG.upO mG.refl u4301 rfl) : mG [] μ2766 μ4300) (fun _ h => absurd h List.not_mem_nil)) (vc_X12_message_W_71 (nS h2773) h2781 h4299) (((W2774 z2765 μ2766 rfl h2768 T2769 F2770).2 h2781) μ4300 u4301 T4302)
        refine mr_lvS (lv' := [(0, .ref 106), (1, iv 0)]) (List.forall_mem_cons.mpr ⟨rfl, List.forall_mem_cons.mpr ⟨rfl, fun _ h => absurd h List.not_mem_nil⟩⟩) ?_
        exact L2767 258 0 μ1784 T1787 mF.refl (rW (c := 0) (d := 256) (rR (x := 0)) rfl) I1790 vc_X12_message_W_72 ((W1792 z1783 μ1784 rfl h1786 T1787 F1788).1 h1799)
      have h4303 : 0 ≤ z1783 ∧ z1783 ≤ 3 := (vc_X12_message_W_73 h1799 h1786)
      refine sv_aload_n (pc := 7) dX12_message_7 rfl rfl ?_
      refine gf_X12_95 (pc := 8) dX12_message_8 wF_X12_478 (A_106 hw) T1787 ?_
      refine mr_iload_n (pc := 11) (z := z1783) dX12_message_11 rfl rfl ?_
      refine mr_ldc (pc := 12) (z := (-99999999)) dX12_message_12 wG_X12_29 (by decide) ?_
      refine ss_172 (pc := 14) dX12_message_14 (A_172 hw) T1787 (rIx (n := 4) h4303 rfl) (rW (c := (-2147483648)) (d := 2147483647) (rR (x := (-99999999))) rfl) fun μ4304 u4305 T4306 => ?_
      refine mr_iinc (pc := 15) (lv' := [(1, iv (z1783 + 1)), (0, .ref 106)]) dX12_message_15 rfl (by decide) rfl ?_
      refine sv_goto (pc := 18) (tgt := 2) dX12_message_18 (by decide) ?_
      refine mr_lvS (lv' := [(0, .ref 106), (1, iv (z1783 + 1))]) (List.forall_mem_cons.mpr ⟨rfl, List.forall_mem_cons.mpr ⟨rfl, fun _ h => absurd h List.not_mem_nil⟩⟩) ?_
      exact ih1793 (z1783 + 1) μ4304 T4306 (mF.up (mF.call mF.refl F1788 rfl) (A_172 hw) u4305 rfl) (rW (c := 0) (d := 4) (rAdd (e := 1) (f := 4) h4303 (rR (x := 1)) rfl) rfl) (G1.keep I1790 hw ((mF.up mF.refl (A_172 hw) u4305 rfl) : mF [172999] w μ1784 μ4304) rfl rfl ((mG.upO mG.refl u4305 rfl) : mG [] μ1784 μ4304) (fun _ h => absurd h List.not_mem_nil)) (vc_X12_message_W_74 (nS h1791) h1799 h4303) (((W1792 z1783 μ1784 rfl h1786 T1787 F1788).2 h1799) μ4304 u4305 T4306)
  refine mr_lvS (lv' := [(0, .ref 106), (1, iv 0)]) (List.forall_mem_cons.mpr ⟨rfl, List.forall_mem_cons.mpr ⟨rfl, fun _ h => absurd h List.not_mem_nil⟩⟩) ?_
  exact L1785 6 0 μ hT mF.refl (rW (c := 0) (d := 4) (rR (x := 0)) rfl) hIG1 vc_X12_prefixOut_14 hQ
def WP_X12_domain_W (w : mW) (μ : mM) (Q : Int → mM → Prop) : Prop := ∀ z1 : Int, μ 106 5 = z1 → (0 ≤ z1 ∧ z1 ≤ 10) → ((¬ z1 = 10) → ∀ μ6 : mM, mU μ 106 (5) (z1 + 1) μ6 → mT w μ6 → Q ((z1 + 1) - 1) μ6) ∧ ((z1 = 10) → Q ((-3) : Int) μ)
set_option maxRecDepth 4000 in
set_option maxHeartbeats 4000000 in
theorem c_X12_domain_W {l : Launch} {D : va_G} {c : Nat → ClassId} {H0 : Heap} {sa : Nat × Nat × (Nat → Int32)} {w : mW} {μ : mM} (hw : mWF w) (hT : mT w μ) {Q : Int → mM → Prop} (hQ : WP_X12_domain_W w μ  Q) : sC (gG l D c H0 sa) mX12_domain 1 0 0 [.ref 106] (mk w μ) (qI w [106005] μ (fun z μ1 => ((-2147483648) ≤ z ∧ z ≤ 2147483647) ∧ Q z μ1 ∧ True)) := by
  refine sC.of rfl (by decide) (le_t rfl) ?_
  refine mr_lvE (lv' := [(0, .ref 106)]) rfl ?_
  refine sv_aload_n (pc := 0) dX12_domain_0 rfl rfl ?_
  refine gf_X12_5 (pc := 1) dX12_domain_1 wF_X12_34 (A_106 hw) hT fun z1 q2 h3 => ?_
  refine mr_bipush (pc := 4) (z := 10) dX12_domain_4 (by decide) ?_
  refine mr_icmp_ne (pc := 6) (tgt := 12) dX12_domain_6 (by decide) (r32 h3 rfl) (r32 (rR (x := 10)) rfl) (fun h4 => ?_) (fun h4 => ?_)
  · have h5 : 0 ≤ z1 ∧ z1 ≤ 9 := (vc_X12_prefix_W_8 h4 h3)
    refine sv_aload_n (pc := 12) dX12_domain_12 rfl rfl ?_
    refine sv_dup (pc := 13) dX12_domain_13 rfl ?_
    refine gk_X12_5 (pc := 14) dX12_domain_14 wF_X12_34 (A_106 hw) q2 ?_
    refine mr_iconst (pc := 17) (z := 1) dX12_domain_17 ?_
    refine mr_iadd (pc := 18) (x := z1) (y := 1) dX12_domain_18 ?_
    refine pf_X12_5 (pc := 19) dX12_domain_19 wF_X12_34 (A_106 hw) hT (rW (c := 0) (d := 10) (rAdd (e := 1) (f := 10) h5 (rR (x := 1)) rfl) rfl) fun μ6 u7 T8 => ?_
    refine sv_aload_n (pc := 22) dX12_domain_22 rfl rfl ?_
    refine gk_X12_5 (pc := 23) dX12_domain_23 wF_X12_34 (A_106 hw) u7.1 ?_
    refine mr_iconst (pc := 26) (z := 1) dX12_domain_26 ?_
    refine mr_isub (pc := 27) (x := (z1 + 1)) (y := 1) dX12_domain_27 ?_
    exact mr_iret dX12_domain_28 rfl (le_t rfl) (le_t rfl) T8 (mF.up mF.refl (A_106 hw) u7 rfl) ⟨(rW (c := (-2147483648)) (d := 2147483647) (rSub (e := 0) (f := 9) (rAdd (e := 1) (f := 10) h5 (rR (x := 1)) rfl) (rR (x := 1)) rfl) rfl), (((hQ z1 q2 h3).1 h4) μ6 u7 T8), trivial⟩
  have h9 : 10 ≤ z1 ∧ z1 ≤ 10 := (vc_X12_prefix_W_9 h4 h3)
  refine mr_bipush (pc := 9) (z := (-3)) dX12_domain_9 (by decide) ?_
  exact mr_iret dX12_domain_11 rfl (le_t rfl) (le_t rfl) hT mF.refl ⟨(rW (c := (-2147483648)) (d := 2147483647) (rR (x := (-3))) rfl), ((hQ z1 q2 h3).2 h4), trivial⟩
def WL_X12_tieOf_W_1 (μ : mM) (p1 : Int) (p2 : Int) (Q : Int → mM → Prop) (rec1 : (Int) → Prop) (s : (Int)) : Prop := ∀ z201 : Int, s = (z201) → (0 ≤ z201 ∧ z201 ≤ 20) → ∀ z210 : Int, μ 106 6 = z210 → (0 ≤ z210 ∧ z210 ≤ 20) → ((z210 ≤ z201) → Q ((-99999999) : Int) μ) ∧ ((z201 < z210) → ∀ z216 : Int, μ 110 ((2 * z201).toNat) = z216 → (0 ≤ z216 ∧ z216 ≤ 9) → ((¬ z216 = p1) → ((¬ z216 = p2) → rec1 ((z201 + 1))) ∧ ((z216 = p2) → ∀ z222 : Int, μ 110 (((2 * z201) + 1).toNat) = z222 → (0 ≤ z222 ∧ z222 ≤ 9) → ((¬ z222 = p1) → rec1 ((z201 + 1))) ∧ ((z222 = p1) → Q z201 μ))) ∧ ((z216 = p1) → ∀ z228 : Int, μ 110 (((2 * z201) + 1).toNat) = z228 → (0 ≤ z228 ∧ z228 ≤ 9) → ((z228 = p2) → Q z201 μ) ∧ ((¬ z228 = p2) → ((¬ z216 = p2) → rec1 ((z201 + 1))) ∧ ((z216 = p2) → ((¬ z228 = p1) → rec1 ((z201 + 1))) ∧ ((z228 = p1) → Q z201 μ)))))
def WP_X12_tieOf_W (w : mW) (μ : mM) (p1 : Int) (p2 : Int) (Q : Int → mM → Prop) : Prop := loopF (WL_X12_tieOf_W_1 μ p1 p2 Q) False 22 ((0 : Int))
set_option maxRecDepth 4000 in
set_option maxHeartbeats 4000000 in
theorem c_X12_tieOf_W {l : Launch} {D : va_G} {c : Nat → ClassId} {H0 : Heap} {sa : Nat × Nat × (Nat → Int32)} {w : mW} {μ : mM} (hw : mWF w) (hT : mT w μ) {p1 : Int} (hp1 : (-2147483648) ≤ p1 ∧ p1 ≤ 2147483647) {p2 : Int} (hp2 : (-2147483648) ≤ p2 ∧ p2 ≤ 2147483647) {Q : Int → mM → Prop} (hQ : WP_X12_tieOf_W w μ p1 p2 Q) : sC (gG l D c H0 sa) mX12_tieOf 1 0 0 [.ref 106, iv p1, iv p2] (mk w μ) (qP w μ (fun z => ((-99999999) ≤ z ∧ z ≤ 19) ∧ (z = -99999999 ∨ (0 ≤ z ∧ z ≤ 19)) ∧ Q z μ ∧ True)) := by
  refine sC.of rfl (by decide) (le_t rfl) ?_
  refine mr_lvE (lv' := [(0, .ref 106), (1, iv p1), (2, iv p2)]) rfl ?_
  refine mr_iconst (pc := 0) (z := 0) dX12_tieOf_0 ?_
  refine mr_istore_n (pc := 1) (lv' := [(3, iv 0), (0, .ref 106), (1, iv p1), (2, iv p2)]) dX12_tieOf_1 rfl (by decide) rfl ?_
  have L202 : ∀ (nL202 : Nat) (z201 : Int), True → (0 ≤ z201 ∧ z201 ≤ 20) → (21 - z201) < (nL202 : Int) → loopF (WL_X12_tieOf_W_1 μ p1 p2 Q) False nL202 (z201) → sV (gG l D c H0 sa) mX12_tieOf (sRm 1 0 0) (sZ (gG l D c H0 sa) 0 0 (qP w μ (fun z => ((-99999999) ≤ z ∧ z ≤ 19) ∧ (z = -99999999 ∨ (0 ≤ z ∧ z ≤ 19)) ∧ Q z μ ∧ True))) 2 [(0, .ref 106), (1, iv p1), (2, iv p2), (3, iv z201)] [] (mk w μ) 0 0 := by
    intro nL202
    induction nL202 with
    | zero => intro z201 _ h203 h207 W208; exact ((vc_X12_tieOf_1 h207 h203)).elim
    | succ nL202 ih209 =>
      intro z201 _ h203 h207 W208
      refine mr_iload_n (pc := 2) (z := z201) dX12_tieOf_2 rfl rfl ?_
      refine sv_aload_n (pc := 3) dX12_tieOf_3 rfl rfl ?_
      refine gf_X12_6 (pc := 4) dX12_tieOf_4 wF_X12_37 (A_106 hw) hT fun z210 q211 h212 => ?_
      refine mr_icmp_ge (pc := 7) (tgt := 70) dX12_tieOf_7 (by decide) (r32 h203 rfl) (r32 h212 rfl) (fun h213 => ?_) (fun h213 => ?_)
      · refine mr_ldc (pc := 70) (z := (-99999999)) dX12_tieOf_70 wG_X12_29 (by decide) ?_
        exact mr_iretP dX12_tieOf_72 rfl (le_t rfl) (le_t rfl) ⟨(rW (c := (-99999999)) (d := 19) (rR (x := (-99999999))) rfl), vc_X12_tieOf_2, (((W208 z201 rfl h203) z210 q211 h212).1 h213), trivial⟩
      have h214 : 0 ≤ z201 ∧ z201 ≤ 19 := (vc_X12_tieOf_3 h213 h203 h212)
      have h215 : 1 ≤ z210 ∧ z210 ≤ 20 := (vc_X12_tieOf_4 h213 h214 h212)
      refine sv_aload_n (pc := 10) dX12_tieOf_10 rfl rfl ?_
      refine gf_X12_7 (pc := 11) dX12_tieOf_11 wF_X12_40 (A_106 hw) hT ?_
      refine mr_iconst (pc := 14) (z := 2) dX12_tieOf_14 ?_
      refine mr_iload_n (pc := 15) (z := z201) dX12_tieOf_15 rfl rfl ?_
      refine mr_imul (pc := 16) (x := 2) (y := z201) dX12_tieOf_16 ?_
      refine la_110 (pc := 17) dX12_tieOf_17 (A_110 hw) hT (rIx (n := 40) (rMulL (n := 2) (e := 0) (f := 38) h214 rfl) rfl) fun z216 q217 h218 => ?_
      refine mr_iload_n (pc := 18) (z := p1) dX12_tieOf_18 rfl rfl ?_
      refine mr_icmp_ne (pc := 19) (tgt := 36) dX12_tieOf_19 (by decide) (r32 h218 rfl) hp1 (fun h219 => ?_) (fun h219 => ?_)
      · refine sv_aload_n (pc := 36) dX12_tieOf_36 rfl rfl ?_
        refine gf_X12_7 (pc := 37) dX12_tieOf_37 wF_X12_40 (A_106 hw) hT ?_
        refine mr_iconst (pc := 40) (z := 2) dX12_tieOf_40 ?_
        refine mr_iload_n (pc := 41) (z := z201) dX12_tieOf_41 rfl rfl ?_
        refine mr_imul (pc := 42) (x := 2) (y := z201) dX12_tieOf_42 ?_
        refine lk_110 (pc := 43) dX12_tieOf_43 (A_110 hw) (rIx (n := 40) (rMulL (n := 2) (e := 0) (f := 38) h214 rfl) rfl) q217 ?_
        refine mr_iload_n (pc := 44) (z := p2) dX12_tieOf_44 rfl rfl ?_
        refine mr_icmp_ne (pc := 45) (tgt := 64) dX12_tieOf_45 (by decide) (r32 h218 rfl) hp2 (fun h220 => ?_) (fun h220 => ?_)
        · refine mr_iinc (pc := 64) (lv' := [(3, iv (z201 + 1)), (0, .ref 106), (1, iv p1), (2, iv p2)]) dX12_tieOf_64 rfl (by decide) rfl ?_
          refine sv_goto (pc := 67) (tgt := 2) dX12_tieOf_67 (by decide) ?_
          refine mr_lvS (lv' := [(0, .ref 106), (1, iv p1), (2, iv p2), (3, iv (z201 + 1))]) (List.forall_mem_cons.mpr ⟨rfl, List.forall_mem_cons.mpr ⟨rfl, List.forall_mem_cons.mpr ⟨rfl, List.forall_mem_cons.mpr ⟨rfl, fun _ h => absurd h List.not_mem_nil⟩⟩⟩⟩) ?_
          exact ih209 (z201 + 1) trivial (rW (c := 0) (d := 20) (rAdd (e := 1) (f := 20) h214 (rR (x := 1)) rfl) rfl) (vc_X12_tieOf_5 (nS h207) h213 h214 h215) ((((((W208 z201 rfl h203) z210 q211 h212).2 h213) z216 q217 h218).1 h219).1 h220)
        have h221 : 0 ≤ p2 ∧ p2 ≤ 9 := (vc_X12_tieOf_6 h220 h219 hp1 hp2 h218)
        refine sv_aload_n (pc := 48) dX12_tieOf_48 rfl rfl ?_
        refine gf_X12_7 (pc := 49) dX12_tieOf_49 wF_X12_40 (A_106 hw) hT ?_
        refine mr_iconst (pc := 52) (z := 2) dX12_tieOf_52 ?_
        refine mr_iload_n (pc := 53) (z := z201) dX12_tieOf_53 rfl rfl ?_
        refine mr_imul (pc := 54) (x := 2) (y := z201) dX12_tieOf_54 ?_
        refine mr_iconst (pc := 55) (z := 1) dX12_tieOf_55 ?_
        refine mr_iadd (pc := 56) (x := (2 * z201)) (y := 1) dX12_tieOf_56 ?_
        refine la_110 (pc := 57) dX12_tieOf_57 (A_110 hw) hT (rIx (n := 40) (rAdd (e := 1) (f := 39) (rMulL (n := 2) (e := 0) (f := 38) h214 rfl) (rR (x := 1)) rfl) rfl) fun z222 q223 h224 => ?_
        refine mr_iload_n (pc := 58) (z := p1) dX12_tieOf_58 rfl rfl ?_
        refine mr_icmp_ne (pc := 59) (tgt := 64) dX12_tieOf_59 (by decide) (r32 h224 rfl) hp1 (fun h225 => ?_) (fun h225 => ?_)
        · refine mr_iinc (pc := 64) (lv' := [(3, iv (z201 + 1)), (0, .ref 106), (1, iv p1), (2, iv p2)]) dX12_tieOf_64 rfl (by decide) rfl ?_
          refine sv_goto (pc := 67) (tgt := 2) dX12_tieOf_67 (by decide) ?_
          refine mr_lvS (lv' := [(0, .ref 106), (1, iv p1), (2, iv p2), (3, iv (z201 + 1))]) (List.forall_mem_cons.mpr ⟨rfl, List.forall_mem_cons.mpr ⟨rfl, List.forall_mem_cons.mpr ⟨rfl, List.forall_mem_cons.mpr ⟨rfl, fun _ h => absurd h List.not_mem_nil⟩⟩⟩⟩) ?_
          exact ih209 (z201 + 1) trivial (rW (c := 0) (d := 20) (rAdd (e := 1) (f := 20) h214 (rR (x := 1)) rfl) rfl) (vc_X12_tieOf_5 (nS h207) h213 h214 h215) ((((((((W208 z201 rfl h203) z210 q211 h212).2 h213) z216 q217 h218).1 h219).2 h220) z222 q223 h224).1 h225)
        have h226 : 0 ≤ p1 ∧ p1 ≤ 9 := (vc_X12_tieOf_7 h225 h219 hp1 h218 h224)
        refine mr_iload_n (pc := 62) (z := z201) dX12_tieOf_62 rfl rfl ?_
        exact mr_iretP dX12_tieOf_63 rfl (le_t rfl) (le_t rfl) ⟨(rW (c := (-99999999)) (d := 19) h214 rfl), (vc_X12_tieOf_8 h213 h214 h215), ((((((((W208 z201 rfl h203) z210 q211 h212).2 h213) z216 q217 h218).1 h219).2 h220) z222 q223 h224).2 h225), trivial⟩
      have h227 : 0 ≤ p1 ∧ p1 ≤ 9 := (vc_X12_tieOf_9 h219 hp1 h218)
      refine sv_aload_n (pc := 22) dX12_tieOf_22 rfl rfl ?_
      refine gf_X12_7 (pc := 23) dX12_tieOf_23 wF_X12_40 (A_106 hw) hT ?_
      refine mr_iconst (pc := 26) (z := 2) dX12_tieOf_26 ?_
      refine mr_iload_n (pc := 27) (z := z201) dX12_tieOf_27 rfl rfl ?_
      refine mr_imul (pc := 28) (x := 2) (y := z201) dX12_tieOf_28 ?_
      refine mr_iconst (pc := 29) (z := 1) dX12_tieOf_29 ?_
      refine mr_iadd (pc := 30) (x := (2 * z201)) (y := 1) dX12_tieOf_30 ?_
      refine la_110 (pc := 31) dX12_tieOf_31 (A_110 hw) hT (rIx (n := 40) (rAdd (e := 1) (f := 39) (rMulL (n := 2) (e := 0) (f := 38) h214 rfl) (rR (x := 1)) rfl) rfl) fun z228 q229 h230 => ?_
      refine mr_iload_n (pc := 32) (z := p2) dX12_tieOf_32 rfl rfl ?_
      refine mr_icmp_eq (pc := 33) (tgt := 62) dX12_tieOf_33 (by decide) (r32 h230 rfl) hp2 (fun h231 => ?_) (fun h231 => ?_)
      · have h232 : 0 ≤ p2 ∧ p2 ≤ 9 := (vc_X12_tieOf_9 h231 hp2 h230)
        refine mr_iload_n (pc := 62) (z := z201) dX12_tieOf_62 rfl rfl ?_
        exact mr_iretP dX12_tieOf_63 rfl (le_t rfl) (le_t rfl) ⟨(rW (c := (-99999999)) (d := 19) h214 rfl), (vc_X12_tieOf_8 h213 h214 h215), (((((((W208 z201 rfl h203) z210 q211 h212).2 h213) z216 q217 h218).2 h219) z228 q229 h230).1 h231), trivial⟩
      refine sv_aload_n (pc := 36) dX12_tieOf_36 rfl rfl ?_
      refine gf_X12_7 (pc := 37) dX12_tieOf_37 wF_X12_40 (A_106 hw) hT ?_
      refine mr_iconst (pc := 40) (z := 2) dX12_tieOf_40 ?_
      refine mr_iload_n (pc := 41) (z := z201) dX12_tieOf_41 rfl rfl ?_
      refine mr_imul (pc := 42) (x := 2) (y := z201) dX12_tieOf_42 ?_
      refine lk_110 (pc := 43) dX12_tieOf_43 (A_110 hw) (rIx (n := 40) (rMulL (n := 2) (e := 0) (f := 38) h214 rfl) rfl) q217 ?_
      refine mr_iload_n (pc := 44) (z := p2) dX12_tieOf_44 rfl rfl ?_
      refine mr_icmp_ne (pc := 45) (tgt := 64) dX12_tieOf_45 (by decide) (r32 h218 rfl) hp2 (fun h233 => ?_) (fun h233 => ?_)
      · refine mr_iinc (pc := 64) (lv' := [(3, iv (z201 + 1)), (0, .ref 106), (1, iv p1), (2, iv p2)]) dX12_tieOf_64 rfl (by decide) rfl ?_
        refine sv_goto (pc := 67) (tgt := 2) dX12_tieOf_67 (by decide) ?_
        refine mr_lvS (lv' := [(0, .ref 106), (1, iv p1), (2, iv p2), (3, iv (z201 + 1))]) (List.forall_mem_cons.mpr ⟨rfl, List.forall_mem_cons.mpr ⟨rfl, List.forall_mem_cons.mpr ⟨rfl, List.forall_mem_cons.mpr ⟨rfl, fun _ h => absurd h List.not_mem_nil⟩⟩⟩⟩) ?_
        exact ih209 (z201 + 1) trivial (rW (c := 0) (d := 20) (rAdd (e := 1) (f := 20) h214 (rR (x := 1)) rfl) rfl) (vc_X12_tieOf_5 (nS h207) h213 h214 h215) ((((((((W208 z201 rfl h203) z210 q211 h212).2 h213) z216 q217 h218).2 h219) z228 q229 h230).2 h231).1 h233)
      have h234 : 0 ≤ p2 ∧ p2 ≤ 9 := (vc_X12_tieOf_11 h233 h219 h231 h227 hp2 h218 h230)
      refine sv_aload_n (pc := 48) dX12_tieOf_48 rfl rfl ?_
      refine gf_X12_7 (pc := 49) dX12_tieOf_49 wF_X12_40 (A_106 hw) hT ?_
      refine mr_iconst (pc := 52) (z := 2) dX12_tieOf_52 ?_
      refine mr_iload_n (pc := 53) (z := z201) dX12_tieOf_53 rfl rfl ?_
      refine mr_imul (pc := 54) (x := 2) (y := z201) dX12_tieOf_54 ?_
      refine mr_iconst (pc := 55) (z := 1) dX12_tieOf_55 ?_
      refine mr_iadd (pc := 56) (x := (2 * z201)) (y := 1) dX12_tieOf_56 ?_
      refine lk_110 (pc := 57) dX12_tieOf_57 (A_110 hw) (rIx (n := 40) (rAdd (e := 1) (f := 39) (rMulL (n := 2) (e := 0) (f := 38) h214 rfl) (rR (x := 1)) rfl) rfl) q229 ?_
      refine mr_iload_n (pc := 58) (z := p1) dX12_tieOf_58 rfl rfl ?_
      refine mr_icmp_ne (pc := 59) (tgt := 64) dX12_tieOf_59 (by decide) (r32 h230 rfl) (r32 h227 rfl) (fun h235 => ?_) (fun h235 => ?_)
      · refine mr_iinc (pc := 64) (lv' := [(3, iv (z201 + 1)), (0, .ref 106), (1, iv p1), (2, iv p2)]) dX12_tieOf_64 rfl (by decide) rfl ?_
        refine sv_goto (pc := 67) (tgt := 2) dX12_tieOf_67 (by decide) ?_
        refine mr_lvS (lv' := [(0, .ref 106), (1, iv p1), (2, iv p2), (3, iv (z201 + 1))]) (List.forall_mem_cons.mpr ⟨rfl, List.forall_mem_cons.mpr ⟨rfl, List.forall_mem_cons.mpr ⟨rfl, List.forall_mem_cons.mpr ⟨rfl, fun _ h => absurd h List.not_mem_nil⟩⟩⟩⟩) ?_
        exact ih209 (z201 + 1) trivial (rW (c := 0) (d := 20) (rAdd (e := 1) (f := 20) h214 (rR (x := 1)) rfl) rfl) (vc_X12_tieOf_5 (nS h207) h213 h214 h215) (((((((((W208 z201 rfl h203) z210 q211 h212).2 h213) z216 q217 h218).2 h219) z228 q229 h230).2 h231).2 h233).1 h235)
      refine mr_iload_n (pc := 62) (z := z201) dX12_tieOf_62 rfl rfl ?_
      exact mr_iretP dX12_tieOf_63 rfl (le_t rfl) (le_t rfl) ⟨(rW (c := (-99999999)) (d := 19) h214 rfl), (vc_X12_tieOf_8 h213 h214 h215), (((((((((W208 z201 rfl h203) z210 q211 h212).2 h213) z216 q217 h218).2 h219) z228 q229 h230).2 h231).2 h233).2 h235), trivial⟩
  refine mr_lvS (lv' := [(0, .ref 106), (1, iv p1), (2, iv p2), (3, iv 0)]) (List.forall_mem_cons.mpr ⟨rfl, List.forall_mem_cons.mpr ⟨rfl, List.forall_mem_cons.mpr ⟨rfl, List.forall_mem_cons.mpr ⟨rfl, fun _ h => absurd h List.not_mem_nil⟩⟩⟩⟩) ?_
  exact L202 22 0 trivial (rW (c := 0) (d := 20) (rR (x := 0)) rfl) vc_X12_tieOf_12 hQ
def WL_X12_tie_W_1 (w : mW) (Q : Int → mM → Prop) (z44 : Int) (μ64 : mM) (rec1 : (Int × mM) → Prop) (s : (Int × mM)) : Prop := ∀ z107 : Int, ∀ μ108 : mM, s = (z107, μ108) → (0 ≤ z107 ∧ z107 ≤ 4) → mT w μ108 → mF [115999] w μ64 μ108 → ((4 ≤ z107) → ∀ μ124 : mM, mU μ108 106 (6) (z44 + 1) μ124 → mT w μ124 → Q ((z44 + 1) - 1) μ124) ∧ ((z107 < 4) → ∀ μ128 : mM, mU μ108 115 (((4 * z44) + z107).toNat) ((-99999999) : Int) μ128 → mT w μ128 → rec1 ((z107 + 1), μ128))
def WP_X12_tie_W (w : mW) (μ : mM) (p1 : Int) (p2 : Int) (p3 : Int) (Q : Int → mM → Prop) : Prop := ∀ z1 : Int, μ 106 5 = z1 → (0 ≤ z1 ∧ z1 ≤ 10) → WP_X12_isDomain_W w μ p1 (fun z8 _ => (0 ≤ z8 ∧ z8 ≤ 1) → ((z8 = 0) → Q ((-1) : Int) μ) ∧ ((¬ z8 = 0) → WP_X12_isDomain_W w μ p2 (fun z20 _ => (0 ≤ z20 ∧ z20 ≤ 1) → ((z20 = 0) → Q ((-1) : Int) μ) ∧ ((¬ z20 = 0) → ((p1 = p2) → Q ((-1) : Int) μ) ∧ ((¬ p1 = p2) → WP_X12_in_W w μ p3 (0) (2) (fun z32 _ => (0 ≤ z32 ∧ z32 ≤ 1) → ((¬ z32 = 0) → WP_X12_tieOf_W w μ p1 p2 (fun z41 _ => ((-99999999) ≤ z41 ∧ z41 ≤ 19) → ((z41 = (-99999999)) → ∀ z44 : Int, μ 106 6 = z44 → (0 ≤ z44 ∧ z44 ≤ 20) → ((¬ z44 = 20) → ∀ μ49 : mM, mU μ 110 ((2 * z44).toNat) p1 μ49 → mT w μ49 → ∀ μ52 : mM, mU μ49 110 (((2 * z44) + 1).toNat) p2 μ52 → mT w μ52 → ∀ μ55 : mM, mU μ52 111 (z44.toNat) p3 μ55 → mT w μ55 → ∀ μ58 : mM, mU μ55 112 (z44.toNat) (1 : Int) μ58 → mT w μ58 → ∀ μ61 : mM, mU μ58 113 (z44.toNat) (1 : Int) μ61 → mT w μ61 → ∀ μ64 : mM, mU μ61 114 (z44.toNat) (0 : Int) μ64 → mT w μ64 → loopF (WL_X12_tie_W_1 w Q z44 μ64) False 6 ((0 : Int), μ64)) ∧ ((z44 = 20) → Q ((-3) : Int) μ)) ∧ ((¬ z41 = (-99999999)) → Q ((-2) : Int) μ))) ∧ ((z32 = 0) → Q ((-1) : Int) μ)))))))
theorem vc_X12_tie_W_20  : ((-99999999) : Int) = -(99999999 : Int) ∨ ((0 : Int) ≤ ((-99999999) : Int) ∧ ((-99999999) : Int) ≤ (11 : Int)) := by omega
set_option maxRecDepth 4000 in
set_option maxHeartbeats 4000000 in
theorem c_X12_tie_W {l : Launch} {D : va_G} {c : Nat → ClassId} {H0 : Heap} {sa : Nat × Nat × (Nat → Int32)} {w : mW} {μ : mM} (hw : mWF w) (hT : mT w μ) {p1 : Int} (hp1 : (-2147483648) ≤ p1 ∧ p1 ≤ 2147483647) {p2 : Int} (hp2 : (-2147483648) ≤ p2 ∧ p2 ≤ 2147483647) {p3 : Int} (hp3 : (-2147483648) ≤ p3 ∧ p3 ≤ 2147483647) {Q : Int → mM → Prop} (hQ : WP_X12_tie_W w μ p1 p2 p3 Q) : sC (gG l D c H0 sa) mX12_tie 3 0 0 [.ref 106, iv p1, iv p2, iv p3] (mk w μ) (qI w [106006, 110999, 111999, 112999, 113999, 114999, 115999] μ (fun z μ1 => ((-2147483648) ≤ z ∧ z ≤ 2147483647) ∧ Q z μ1 ∧ True)) := by
  refine sC.of rfl (by decide) (le_t rfl) ?_
  refine mr_lvE (lv' := [(0, .ref 106), (1, iv p1), (2, iv p2), (3, iv p3)]) rfl ?_
  refine sv_aload_n (pc := 0) dX12_tie_0 rfl rfl ?_
  refine mr_iload_n (pc := 1) (z := p1) dX12_tie_1 rfl rfl ?_
  obtain ⟨z1, q2⟩ : ∃ z, μ 106 5 = z := ⟨_, rfl⟩
  have h3 : (0 ≤ z1 ∧ z1 ≤ 10) := by rw [← q2]; exact hT 106 106 (A_106 hw) 5
  refine mr_cVP (pc := 2) (c_X12_isDomain_W hw hT hp1 q2 (hQ z1 q2 h3)) (gOk _ _ _ _ _) dX12_tie_2 (tX12_isDomain _ _ _ _ _) ⟨wV_X12_isDomain, wL_X12_isDomain⟩ wM_X12_49 (gCX12 _ _ _ _ _) rfl (A_106 hw) rfl ⟨le_t rfl, le_t rfl⟩ ⟨le_t rfl, le_t rfl⟩ rfl (le_t rfl) fun z8 h7 => ?_
  refine mr_if_eq (pc := 5) (tgt := 30) dX12_tie_5 (by decide) (r32 h7.1 rfl) (fun h9 => ?_) (fun h9 => ?_)
  · have h10 : 0 ≤ z8 ∧ z8 ≤ 0 := (vc_X12_write_78 h9 h7.2.1 h7.2.2.1 hp1 h3 h7.1)
    have h11 : p1 < 0 ∨ z1 ≤ p1 := (h7.2.2.1 (vc_X12_write_79 h7.2.1 h7.2.2.1 h9 hp1 h3 h10))
    refine mr_iconst (pc := 30) (z := (-1)) dX12_tie_30 ?_
    exact mr_iret dX12_tie_31 rfl (le_t rfl) (le_t rfl) hT mF.refl ⟨(rW (c := (-2147483648)) (d := 2147483647) (rR (x := (-1))) rfl), ((h7.2.2.2.1 h7.1).1 h9), trivial⟩
  have h12 : 1 ≤ z8 ∧ z8 ≤ 1 := (vc_X12_write_12 h9 h7.2.1 h7.2.2.1 hp1 h3 h7.1)
  have h13 : 0 ≤ p1 ∧ p1 < z1 := (h7.2.1 (vc_X12_write_13 h7.2.1 h7.2.2.1 h9 hp1 h3 h12))
  have h14 : 0 ≤ p1 ∧ p1 ≤ 9 := (vc_X12_write_14 h13 h7.2.1 h7.2.2.1 hp1 h3 h12)
  have h15 : 1 ≤ z1 ∧ z1 ≤ 10 := (vc_X12_write_15 h13 h7.2.1 h7.2.2.1 h14 h3 h12)
  refine sv_aload_n (pc := 8) dX12_tie_8 rfl rfl ?_
  refine mr_iload_n (pc := 9) (z := p2) dX12_tie_9 rfl rfl ?_
  refine mr_cVP (pc := 10) (c_X12_isDomain_W hw hT hp2 q2 ((h7.2.2.2.1 h7.1).2 h9)) (gOk _ _ _ _ _) dX12_tie_10 (tX12_isDomain _ _ _ _ _) ⟨wV_X12_isDomain, wL_X12_isDomain⟩ wM_X12_49 (gCX12 _ _ _ _ _) rfl (A_106 hw) rfl ⟨le_t rfl, le_t rfl⟩ ⟨le_t rfl, le_t rfl⟩ rfl (le_t rfl) fun z20 h19 => ?_
  refine mr_if_eq (pc := 13) (tgt := 30) dX12_tie_13 (by decide) (r32 h19.1 rfl) (fun h21 => ?_) (fun h21 => ?_)
  · have h22 : 0 ≤ z20 ∧ z20 ≤ 0 := (vc_X12_differ_44 h21 h19.2.1 h19.2.2.1 hp2 h15 h19.1)
    have h23 : p2 < 0 ∨ z1 ≤ p2 := (h19.2.2.1 (vc_X12_differ_45 h19.2.1 h19.2.2.1 h21 h7.2.1 h7.2.2.1 h13 h14 hp2 h15 h22 h12))
    refine mr_iconst (pc := 30) (z := (-1)) dX12_tie_30 ?_
    exact mr_iret dX12_tie_31 rfl (le_t rfl) (le_t rfl) hT mF.refl ⟨(rW (c := (-2147483648)) (d := 2147483647) (rR (x := (-1))) rfl), ((h19.2.2.2.1 h19.1).1 h21), trivial⟩
  have h24 : 1 ≤ z20 ∧ z20 ≤ 1 := (vc_X12_differ_7 h21 h19.2.1 h19.2.2.1 hp2 h15 h19.1)
  have h25 : 0 ≤ p2 ∧ p2 < z1 := (h19.2.1 (vc_X12_differ_8 h19.2.1 h19.2.2.1 h21 h7.2.1 h7.2.2.1 h13 h14 hp2 h15 h24 h12))
  have h26 : 0 ≤ p2 ∧ p2 ≤ 9 := (vc_X12_differ_9 h25 h7.2.1 h7.2.2.1 h13 h19.2.1 h19.2.2.1 h14 hp2 h15 h24 h12)
  refine mr_iload_n (pc := 16) (z := p1) dX12_tie_16 rfl rfl ?_
  refine mr_iload_n (pc := 17) (z := p2) dX12_tie_17 rfl rfl ?_
  refine mr_icmp_eq (pc := 18) (tgt := 30) dX12_tie_18 (by decide) (r32 h14 rfl) (r32 h26 rfl) (fun h27 => ?_) (fun h27 => ?_)
  · refine mr_iconst (pc := 30) (z := (-1)) dX12_tie_30 ?_
    exact mr_iret dX12_tie_31 rfl (le_t rfl) (le_t rfl) hT mF.refl ⟨(rW (c := (-2147483648)) (d := 2147483647) (rR (x := (-1))) rfl), (((h19.2.2.2.1 h19.1).2 h21).1 h27), trivial⟩
  refine mr_iload_n (pc := 21) (z := p3) dX12_tie_21 rfl rfl ?_
  refine mr_iconst (pc := 22) (z := 0) dX12_tie_22 ?_
  refine mr_iconst (pc := 23) (z := 2) dX12_tie_23 ?_
  refine mr_cSP (pc := 24) (c_X12_in_W hw hT hp3 (rW (c := (-2147483648)) (d := 2147483647) (rR (x := 0)) rfl) (rW (c := (-2147483648)) (d := 2147483647) (rR (x := 2)) rfl) (((h19.2.2.2.1 h19.1).2 h21).2 h27)) (gOk _ _ _ _ _) dX12_tie_24 (tX12_in _ _ _ _ _) wS_X12_in wM_X12_18 ⟨le_t rfl, le_t rfl⟩ ⟨le_t rfl, le_t rfl⟩ rfl (le_t rfl) fun z32 h31 => ?_
  refine mr_if_ne (pc := 27) (tgt := 32) dX12_tie_27 (by decide) (r32 h31.1 rfl) (fun h33 => ?_) (fun h33 => ?_)
  · have h34 : 1 ≤ z32 ∧ z32 ≤ 1 := (vc_X12_units_1 h33 h31.2.1 h31.2.2.1 hp3 h31.1)
    have h35 : (0 : Int) ≤ p3 ∧ p3 ≤ (2 : Int) := (h31.2.1 (vc_X12_units_2 h31.2.1 h31.2.2.1 h33 hp3 h34))
    have h36 : 0 ≤ p3 ∧ p3 ≤ 2 := (vc_X12_units_3 h35 h31.2.1 h31.2.2.1 hp3 h34)
    refine sv_aload_n (pc := 32) dX12_tie_32 rfl rfl ?_
    refine mr_iload_n (pc := 33) (z := p1) dX12_tie_33 rfl rfl ?_
    refine mr_iload_n (pc := 34) (z := p2) dX12_tie_34 rfl rfl ?_
    refine mr_cVP (pc := 35) (c_X12_tieOf_W hw hT (rW (c := (-2147483648)) (d := 2147483647) h14 rfl) (rW (c := (-2147483648)) (d := 2147483647) h26 rfl) ((h31.2.2.2.1 h31.1).1 h33)) (gOk _ _ _ _ _) dX12_tie_35 (tX12_tieOf _ _ _ _ _) ⟨wV_X12_tieOf, wL_X12_tieOf⟩ wM_X12_43 (gCX12 _ _ _ _ _) rfl (A_106 hw) rfl ⟨le_t rfl, le_t rfl⟩ ⟨le_t rfl, le_t rfl⟩ rfl (le_t rfl) fun z41 h40 => ?_
    refine mr_ldc (pc := 38) (z := (-99999999)) dX12_tie_38 wG_X12_29 (by decide) ?_
    refine mr_icmp_eq (pc := 40) (tgt := 46) dX12_tie_40 (by decide) (r32 h40.1 rfl) (r32 (rR (x := (-99999999))) rfl) (fun h42 => ?_) (fun h42 => ?_)
    · have h43 : (-99999999) ≤ z41 ∧ z41 ≤ (-99999999) := (vc_X12_provides_1 h42 h40.2.1 h40.1)
      refine sv_aload_n (pc := 46) dX12_tie_46 rfl rfl ?_
      refine gf_X12_6 (pc := 47) dX12_tie_47 wF_X12_37 (A_106 hw) hT fun z44 q45 h46 => ?_
      refine mr_bipush (pc := 50) (z := 20) dX12_tie_50 (by decide) ?_
      refine mr_icmp_ne (pc := 52) (tgt := 58) dX12_tie_52 (by decide) (r32 h46 rfl) (r32 (rR (x := 20)) rfl) (fun h47 => ?_) (fun h47 => ?_)
      · have h48 : 0 ≤ z44 ∧ z44 ≤ 19 := (vc_X12_front_2 h47 h46)
        refine sv_aload_n (pc := 58) dX12_tie_58 rfl rfl ?_
        refine gf_X12_7 (pc := 59) dX12_tie_59 wF_X12_40 (A_106 hw) hT ?_
        refine mr_iconst (pc := 62) (z := 2) dX12_tie_62 ?_
        refine sv_aload_n (pc := 63) dX12_tie_63 rfl rfl ?_
        refine gk_X12_6 (pc := 64) dX12_tie_64 wF_X12_37 (A_106 hw) q45 ?_
        refine mr_imul (pc := 67) (x := 2) (y := z44) dX12_tie_67 ?_
        refine mr_iload_n (pc := 68) (z := p1) dX12_tie_68 rfl rfl ?_
        refine ss_110 (pc := 69) dX12_tie_69 (A_110 hw) hT (rIx (n := 40) (rMulL (n := 2) (e := 0) (f := 38) h48 rfl) rfl) h14 fun μ49 u50 T51 => ?_
        refine sv_aload_n (pc := 70) dX12_tie_70 rfl rfl ?_
        refine gf_X12_7 (pc := 71) dX12_tie_71 wF_X12_40 (A_106 hw) T51 ?_
        refine mr_iconst (pc := 74) (z := 2) dX12_tie_74 ?_
        refine sv_aload_n (pc := 75) dX12_tie_75 rfl rfl ?_
        refine gk_X12_6 (pc := 76) dX12_tie_76 wF_X12_37 (A_106 hw) (u50.f (Or.inl (mAt.ne (A_110 hw) (A_106 hw) rfl)) q45) ?_
        refine mr_imul (pc := 79) (x := 2) (y := z44) dX12_tie_79 ?_
        refine mr_iconst (pc := 80) (z := 1) dX12_tie_80 ?_
        refine mr_iadd (pc := 81) (x := (2 * z44)) (y := 1) dX12_tie_81 ?_
        refine mr_iload_n (pc := 82) (z := p2) dX12_tie_82 rfl rfl ?_
        refine ss_110 (pc := 83) dX12_tie_83 (A_110 hw) T51 (rIx (n := 40) (rAdd (e := 1) (f := 39) (rMulL (n := 2) (e := 0) (f := 38) h48 rfl) (rR (x := 1)) rfl) rfl) h26 fun μ52 u53 T54 => ?_
        refine sv_aload_n (pc := 84) dX12_tie_84 rfl rfl ?_
        refine gf_X12_8 (pc := 85) dX12_tie_85 wF_X12_46 (A_106 hw) T54 ?_
        refine sv_aload_n (pc := 88) dX12_tie_88 rfl rfl ?_
        refine gk_X12_6 (pc := 89) dX12_tie_89 wF_X12_37 (A_106 hw) (u53.f (Or.inl (mAt.ne (A_110 hw) (A_106 hw) rfl)) (u50.f (Or.inl (mAt.ne (A_110 hw) (A_106 hw) rfl)) q45)) ?_
        refine mr_iload_n (pc := 92) (z := p3) dX12_tie_92 rfl rfl ?_
        refine ss_111 (pc := 93) dX12_tie_93 (A_111 hw) T54 (rIx (n := 20) h48 rfl) h36 fun μ55 u56 T57 => ?_
        refine sv_aload_n (pc := 94) dX12_tie_94 rfl rfl ?_
        refine gf_X12_9 (pc := 95) dX12_tie_95 wF_X12_53 (A_106 hw) T57 ?_
        refine sv_aload_n (pc := 98) dX12_tie_98 rfl rfl ?_
        refine gk_X12_6 (pc := 99) dX12_tie_99 wF_X12_37 (A_106 hw) (u56.f (Or.inl (mAt.ne (A_111 hw) (A_106 hw) rfl)) (u53.f (Or.inl (mAt.ne (A_110 hw) (A_106 hw) rfl)) (u50.f (Or.inl (mAt.ne (A_110 hw) (A_106 hw) rfl)) q45))) ?_
        refine mr_iconst (pc := 102) (z := 1) dX12_tie_102 ?_
        refine ss_112 (pc := 103) dX12_tie_103 (A_112 hw) T57 (rIx (n := 20) h48 rfl) (rW (c := 0) (d := 1) (rR (x := 1)) rfl) fun μ58 u59 T60 => ?_
        refine sv_aload_n (pc := 104) dX12_tie_104 rfl rfl ?_
        refine gf_X12_10 (pc := 105) dX12_tie_105 wF_X12_57 (A_106 hw) T60 ?_
        refine sv_aload_n (pc := 108) dX12_tie_108 rfl rfl ?_
        refine gk_X12_6 (pc := 109) dX12_tie_109 wF_X12_37 (A_106 hw) (u59.f (Or.inl (mAt.ne (A_112 hw) (A_106 hw) rfl)) (u56.f (Or.inl (mAt.ne (A_111 hw) (A_106 hw) rfl)) (u53.f (Or.inl (mAt.ne (A_110 hw) (A_106 hw) rfl)) (u50.f (Or.inl (mAt.ne (A_110 hw) (A_106 hw) rfl)) q45)))) ?_
        refine mr_iconst (pc := 112) (z := 1) dX12_tie_112 ?_
        refine ss_113 (pc := 113) dX12_tie_113 (A_113 hw) T60 (rIx (n := 20) h48 rfl) (rW (c := 0) (d := 1000) (rR (x := 1)) rfl) fun μ61 u62 T63 => ?_
        refine sv_aload_n (pc := 114) dX12_tie_114 rfl rfl ?_
        refine gf_X12_11 (pc := 115) dX12_tie_115 wF_X12_60 (A_106 hw) T63 ?_
        refine sv_aload_n (pc := 118) dX12_tie_118 rfl rfl ?_
        refine gk_X12_6 (pc := 119) dX12_tie_119 wF_X12_37 (A_106 hw) (u62.f (Or.inl (mAt.ne (A_113 hw) (A_106 hw) rfl)) (u59.f (Or.inl (mAt.ne (A_112 hw) (A_106 hw) rfl)) (u56.f (Or.inl (mAt.ne (A_111 hw) (A_106 hw) rfl)) (u53.f (Or.inl (mAt.ne (A_110 hw) (A_106 hw) rfl)) (u50.f (Or.inl (mAt.ne (A_110 hw) (A_106 hw) rfl)) q45))))) ?_
        refine mr_iconst (pc := 122) (z := 0) dX12_tie_122 ?_
        refine ss_114 (pc := 123) dX12_tie_123 (A_114 hw) T63 (rIx (n := 20) h48 rfl) (rW (c := 0) (d := 1000) (rR (x := 0)) rfl) fun μ64 u65 T66 => ?_
        refine mr_iconst (pc := 124) (z := 0) dX12_tie_124 ?_
        refine mr_istore (pc := 125) (lv' := [(4, iv 0), (0, .ref 106), (1, iv p1), (2, iv p2), (3, iv p3)]) dX12_tie_125 (by decide) rfl ?_
        have L109 : ∀ (nL109 : Nat) (z107 : Int) (μ108 : mM), mT w μ108 → mF [115999] w μ64 μ108 → (0 ≤ z107 ∧ z107 ≤ 4) → (5 - z107) < (nL109 : Int) → loopF (WL_X12_tie_W_1 w Q z44 μ64) False nL109 (z107, μ108) → sV (gG l D c H0 sa) mX12_tie (sRm 3 0 0) (sZ (gG l D c H0 sa) 0 0 (qI w [106006, 110999, 111999, 112999, 113999, 114999, 115999] μ (fun z μ1 => ((-2147483648) ≤ z ∧ z ≤ 2147483647) ∧ Q z μ1 ∧ True))) 127 [(0, .ref 106), (4, iv z107)] [] (mk w μ108) 0 0 := by
          intro nL109
          induction nL109 with
          | zero => intro z107 μ108 T111 F112 h110 h114 W115; exact ((vc_X3_putPrefix_2 h114 h110)).elim
          | succ nL109 ih116 =>
            intro z107 μ108 T111 F112 h110 h114 W115
            refine mr_iload (pc := 127) (z := z107) dX12_tie_127 rfl ?_
            refine mr_iconst (pc := 129) (z := 4) dX12_tie_129 ?_
            refine mr_icmp_ge (pc := 130) (tgt := 155) dX12_tie_130 (by decide) (r32 h110 rfl) (r32 (rR (x := 4)) rfl) (fun h122 => ?_) (fun h122 => ?_)
            · have h123 : 4 ≤ z107 ∧ z107 ≤ 4 := (vc_X12_message_W_2 h122 h110)
              refine sv_aload_n (pc := 155) dX12_tie_155 rfl rfl ?_
              refine sv_dup (pc := 156) dX12_tie_156 rfl ?_
              refine gk_X12_6 (pc := 157) dX12_tie_157 wF_X12_37 (A_106 hw) (F112.f (A_106 hw) rfl (u65.f (Or.inl (mAt.ne (A_114 hw) (A_106 hw) rfl)) (u62.f (Or.inl (mAt.ne (A_113 hw) (A_106 hw) rfl)) (u59.f (Or.inl (mAt.ne (A_112 hw) (A_106 hw) rfl)) (u56.f (Or.inl (mAt.ne (A_111 hw) (A_106 hw) rfl)) (u53.f (Or.inl (mAt.ne (A_110 hw) (A_106 hw) rfl)) (u50.f (Or.inl (mAt.ne (A_110 hw) (A_106 hw) rfl)) q45))))))) ?_
              refine mr_iconst (pc := 160) (z := 1) dX12_tie_160 ?_
              refine mr_iadd (pc := 161) (x := z44) (y := 1) dX12_tie_161 ?_
              refine pf_X12_6 (pc := 162) dX12_tie_162 wF_X12_37 (A_106 hw) T111 (rW (c := 0) (d := 20) (rAdd (e := 1) (f := 20) h48 (rR (x := 1)) rfl) rfl) fun μ124 u125 T126 => ?_
              refine sv_aload_n (pc := 165) dX12_tie_165 rfl rfl ?_
              refine gk_X12_6 (pc := 166) dX12_tie_166 wF_X12_37 (A_106 hw) u125.1 ?_
              refine mr_iconst (pc := 169) (z := 1) dX12_tie_169 ?_
              refine mr_isub (pc := 170) (x := (z44 + 1)) (y := 1) dX12_tie_170 ?_
              exact mr_iret dX12_tie_171 rfl (le_t rfl) (le_t rfl) T126 (mF.up (mF.call (mF.up (mF.up (mF.up (mF.up (mF.up (mF.up mF.refl (A_110 hw) u50 rfl) (A_110 hw) u53 rfl) (A_111 hw) u56 rfl) (A_112 hw) u59 rfl) (A_113 hw) u62 rfl) (A_114 hw) u65 rfl) F112 rfl) (A_106 hw) u125 rfl) ⟨(rW (c := (-2147483648)) (d := 2147483647) (rSub (e := 0) (f := 19) (rAdd (e := 1) (f := 20) h48 (rR (x := 1)) rfl) (rR (x := 1)) rfl) rfl), (((W115 z107 μ108 rfl h110 T111 F112).1 h122) μ124 u125 T126), trivial⟩
            have h127 : 0 ≤ z107 ∧ z107 ≤ 3 := (vc_X12_message_W_73 h122 h110)
            refine sv_aload_n (pc := 133) dX12_tie_133 rfl rfl ?_
            refine gf_X12_12 (pc := 134) dX12_tie_134 wF_X12_63 (A_106 hw) T111 ?_
            refine mr_iconst (pc := 137) (z := 4) dX12_tie_137 ?_
            refine sv_aload_n (pc := 138) dX12_tie_138 rfl rfl ?_
            refine gk_X12_6 (pc := 139) dX12_tie_139 wF_X12_37 (A_106 hw) (F112.f (A_106 hw) rfl (u65.f (Or.inl (mAt.ne (A_114 hw) (A_106 hw) rfl)) (u62.f (Or.inl (mAt.ne (A_113 hw) (A_106 hw) rfl)) (u59.f (Or.inl (mAt.ne (A_112 hw) (A_106 hw) rfl)) (u56.f (Or.inl (mAt.ne (A_111 hw) (A_106 hw) rfl)) (u53.f (Or.inl (mAt.ne (A_110 hw) (A_106 hw) rfl)) (u50.f (Or.inl (mAt.ne (A_110 hw) (A_106 hw) rfl)) q45))))))) ?_
            refine mr_imul (pc := 142) (x := 4) (y := z44) dX12_tie_142 ?_
            refine mr_iload (pc := 143) (z := z107) dX12_tie_143 rfl ?_
            refine mr_iadd (pc := 145) (x := (4 * z44)) (y := z107) dX12_tie_145 ?_
            refine mr_ldc (pc := 146) (z := (-99999999)) dX12_tie_146 wG_X12_29 (by decide) ?_
            refine ss_115 (pc := 148) dX12_tie_148 (A_115 hw) T111 (rIx (n := 80) (rAdd (e := 0) (f := 79) (rMulL (n := 4) (e := 0) (f := 76) h48 rfl) h127 rfl) rfl) vc_X12_tie_W_20 fun μ128 u129 T130 => ?_
            refine mr_iinc (pc := 149) (lv' := [(4, iv (z107 + 1)), (0, .ref 106)]) dX12_tie_149 rfl (by decide) rfl ?_
            refine sv_goto (pc := 152) (tgt := 127) dX12_tie_152 (by decide) ?_
            refine mr_lvS (lv' := [(0, .ref 106), (4, iv (z107 + 1))]) (List.forall_mem_cons.mpr ⟨rfl, List.forall_mem_cons.mpr ⟨rfl, fun _ h => absurd h List.not_mem_nil⟩⟩) ?_
            exact ih116 (z107 + 1) μ128 T130 (mF.up (mF.call mF.refl F112 rfl) (A_115 hw) u129 rfl) (rW (c := 0) (d := 4) (rAdd (e := 1) (f := 4) h127 (rR (x := 1)) rfl) rfl) (vc_X12_message_W_74 (nS h114) h122 h127) (((W115 z107 μ108 rfl h110 T111 F112).2 h122) μ128 u129 T130)
        refine mr_lvS (lv' := [(0, .ref 106), (4, iv 0)]) (List.forall_mem_cons.mpr ⟨rfl, List.forall_mem_cons.mpr ⟨rfl, fun _ h => absurd h List.not_mem_nil⟩⟩) ?_
        exact L109 6 0 μ64 T66 mF.refl (rW (c := 0) (d := 4) (rR (x := 0)) rfl) vc_X12_prefixOut_14 ((((((((((h40.2.2.1 h40.1).1 h42) z44 q45 h46).1 h47) μ49 u50 T51) μ52 u53 T54) μ55 u56 T57) μ58 u59 T60) μ61 u62 T63) μ64 u65 T66)
      have h131 : 20 ≤ z44 ∧ z44 ≤ 20 := (vc_X12_front_21 h47 h46)
      refine mr_bipush (pc := 55) (z := (-3)) dX12_tie_55 (by decide) ?_
      exact mr_iret dX12_tie_57 rfl (le_t rfl) (le_t rfl) hT mF.refl ⟨(rW (c := (-2147483648)) (d := 2147483647) (rR (x := (-3))) rfl), ((((h40.2.2.1 h40.1).1 h42) z44 q45 h46).2 h47), trivial⟩
    have h132 : 0 ≤ z41 ∧ z41 ≤ 19 := (vc_X12_provides_2 h42 h40.2.1 h40.1)
    refine mr_bipush (pc := 43) (z := (-2)) dX12_tie_43 (by decide) ?_
    exact mr_iret dX12_tie_45 rfl (le_t rfl) (le_t rfl) hT mF.refl ⟨(rW (c := (-2147483648)) (d := 2147483647) (rR (x := (-2))) rfl), ((h40.2.2.1 h40.1).2 h42), trivial⟩
  have h133 : 0 ≤ z32 ∧ z32 ≤ 0 := (vc_X12_units_9 h33 h31.2.1 h31.2.2.1 hp3 h31.1)
  have h134 : p3 < (0 : Int) ∨ (2 : Int) < p3 := (h31.2.2.1 (vc_X12_units_10 h31.2.1 h31.2.2.1 h33 hp3 h133))
  refine mr_iconst (pc := 30) (z := (-1)) dX12_tie_30 ?_
  exact mr_iret dX12_tie_31 rfl (le_t rfl) (le_t rfl) hT mF.refl ⟨(rW (c := (-2147483648)) (d := 2147483647) (rR (x := (-1))) rfl), ((h31.2.2.2.1 h31.1).2 h33), trivial⟩
def WP_X6_isAct_Wx (w : mW) (μ : mM) (p1 : Int) (Q : Int → mM → Prop) : Prop := ((p1 = 12) → Q (1 : Int) μ) ∧ ((¬ p1 = 12) → ((p1 = 13) → Q (1 : Int) μ) ∧ ((¬ p1 = 13) → ((p1 < 23) → Q (0 : Int) μ) ∧ ((23 ≤ p1) → ((28 < p1) → Q (0 : Int) μ) ∧ ((p1 ≤ 28) → Q (1 : Int) μ))))
theorem vc_X6_isAct_Wx_3 {p1 : Int} (h0 : p1 < 23) (h1 : ¬ p1 = 12) (h2 : ¬ p1 = 13) (h3 : (-2147483648) ≤ p1 ∧ p1 ≤ 2147483647) : (-2147483648) ≤ p1 ∧ p1 ≤ 22 := by omega
theorem vc_X6_isAct_Wx_4 {p1 : Int} (h0 : 23 ≤ p1) (h1 : ¬ p1 = 12) (h2 : ¬ p1 = 13) (h3 : (-2147483648) ≤ p1 ∧ p1 ≤ 2147483647) : 23 ≤ p1 ∧ p1 ≤ 2147483647 := by omega
theorem vc_X6_isAct_Wx_5 {p1 : Int} (h0 : 28 < p1) (h1 : ¬ p1 = 12) (h2 : ¬ p1 = 13) (h3 : 23 ≤ p1) (h4 : 23 ≤ p1 ∧ p1 ≤ 2147483647) : 29 ≤ p1 ∧ p1 ≤ 2147483647 := by omega
theorem vc_X6_isAct_Wx_6 {p1 : Int} (h0 : p1 ≤ 28) (h1 : ¬ p1 = 12) (h2 : ¬ p1 = 13) (h3 : 23 ≤ p1) (h4 : 23 ≤ p1 ∧ p1 ≤ 2147483647) : 23 ≤ p1 ∧ p1 ≤ 28 := by omega
set_option maxRecDepth 4000 in
set_option maxHeartbeats 4000000 in
theorem c_X6_isAct_Wx {l : Launch} {D : va_G} {c : Nat → ClassId} {H0 : Heap} {sa : Nat × Nat × (Nat → Int32)} {w : mW} {μ : mM} (hw : mWF w) (hT : mT w μ) {p1 : Int} (hp1 : (-2147483648) ≤ p1 ∧ p1 ≤ 2147483647) {Q : Int → mM → Prop} (hQ : WP_X6_isAct_Wx w μ p1 Q) : sC (gG l D c H0 sa) mX6_isAct 1 0 0 [iv p1] (mk w μ) (qP w μ (fun z => (0 ≤ z ∧ z ≤ 1) ∧ Q z μ ∧ True)) := by
  refine sC.of rfl (by decide) (le_t rfl) ?_
  refine mr_lvE (lv' := [(0, iv p1)]) rfl ?_
  refine mr_iload_n (pc := 0) (z := p1) dX6_isAct_0 rfl rfl ?_
  refine mr_bipush (pc := 1) (z := 12) dX6_isAct_1 (by decide) ?_
  refine mr_icmp_eq (pc := 3) (tgt := 24) dX6_isAct_3 (by decide) hp1 (r32 (rR (x := 12)) rfl) (fun h7 => ?_) (fun h7 => ?_)
  · have h8 : 12 ≤ p1 ∧ p1 ≤ 12 := (vc_X1_doActs_W12_12 h7 hp1)
    refine mr_iconst (pc := 24) (z := 1) dX6_isAct_24 ?_
    refine sv_goto (pc := 25) (tgt := 29) dX6_isAct_25 (by decide) ?_
    exact mr_zretP dX6_isAct_29 rfl (rW (c := 0) (d := 1) (rR (x := 1)) rfl) (le_t rfl) (le_t rfl) ⟨(rW (c := 0) (d := 1) (rR (x := 1)) rfl), (hQ.1 h7), trivial⟩
  refine mr_iload_n (pc := 6) (z := p1) dX6_isAct_6 rfl rfl ?_
  refine mr_bipush (pc := 7) (z := 13) dX6_isAct_7 (by decide) ?_
  refine mr_icmp_eq (pc := 9) (tgt := 24) dX6_isAct_9 (by decide) hp1 (r32 (rR (x := 13)) rfl) (fun h14 => ?_) (fun h14 => ?_)
  · have h15 : 13 ≤ p1 ∧ p1 ≤ 13 := (vc_X1_doActs_W12_14 h14 h7 hp1)
    refine mr_iconst (pc := 24) (z := 1) dX6_isAct_24 ?_
    refine sv_goto (pc := 25) (tgt := 29) dX6_isAct_25 (by decide) ?_
    exact mr_zretP dX6_isAct_29 rfl (rW (c := 0) (d := 1) (rR (x := 1)) rfl) (le_t rfl) (le_t rfl) ⟨(rW (c := 0) (d := 1) (rR (x := 1)) rfl), ((hQ.2 h7).1 h14), trivial⟩
  refine mr_iload_n (pc := 12) (z := p1) dX6_isAct_12 rfl rfl ?_
  refine mr_bipush (pc := 13) (z := 23) dX6_isAct_13 (by decide) ?_
  refine mr_icmp_lt (pc := 15) (tgt := 28) dX6_isAct_15 (by decide) hp1 (r32 (rR (x := 23)) rfl) (fun h20 => ?_) (fun h20 => ?_)
  · have h21 : (-2147483648) ≤ p1 ∧ p1 ≤ 22 := (vc_X6_isAct_Wx_3 h20 h7 h14 hp1)
    refine mr_iconst (pc := 28) (z := 0) dX6_isAct_28 ?_
    exact mr_zretP dX6_isAct_29 rfl (rW (c := 0) (d := 1) (rR (x := 0)) rfl) (le_t rfl) (le_t rfl) ⟨(rW (c := 0) (d := 1) (rR (x := 0)) rfl), (((hQ.2 h7).2 h14).1 h20), trivial⟩
  have h22 : 23 ≤ p1 ∧ p1 ≤ 2147483647 := (vc_X6_isAct_Wx_4 h20 h7 h14 hp1)
  refine mr_iload_n (pc := 18) (z := p1) dX6_isAct_18 rfl rfl ?_
  refine mr_bipush (pc := 19) (z := 28) dX6_isAct_19 (by decide) ?_
  refine mr_icmp_gt (pc := 21) (tgt := 28) dX6_isAct_21 (by decide) (r32 h22 rfl) (r32 (rR (x := 28)) rfl) (fun h25 => ?_) (fun h25 => ?_)
  · have h26 : 29 ≤ p1 ∧ p1 ≤ 2147483647 := (vc_X6_isAct_Wx_5 h25 h7 h14 h20 h22)
    refine mr_iconst (pc := 28) (z := 0) dX6_isAct_28 ?_
    exact mr_zretP dX6_isAct_29 rfl (rW (c := 0) (d := 1) (rR (x := 0)) rfl) (le_t rfl) (le_t rfl) ⟨(rW (c := 0) (d := 1) (rR (x := 0)) rfl), ((((hQ.2 h7).2 h14).2 h20).1 h25), trivial⟩
  have h27 : 23 ≤ p1 ∧ p1 ≤ 28 := (vc_X6_isAct_Wx_6 h25 h7 h14 h20 h22)
  refine mr_iconst (pc := 24) (z := 1) dX6_isAct_24 ?_
  refine sv_goto (pc := 25) (tgt := 29) dX6_isAct_25 (by decide) ?_
  exact mr_zretP dX6_isAct_29 rfl (rW (c := 0) (d := 1) (rR (x := 1)) rfl) (le_t rfl) (le_t rfl) ⟨(rW (c := 0) (d := 1) (rR (x := 1)) rfl), ((((hQ.2 h7).2 h14).2 h20).2 h25), trivial⟩
def WJ_X6_fail_Wx_1 (w : mW) (μ : mM) (Q : mM → Prop) (z40 : Int) (z47 : Int) : Prop := (1 ≤ z47 ∧ z47 ≤ 4) → ∀ μ51 : mM, mU μ 23 (18) z47 μ51 → mT w μ51 → ∀ z54 : Int, μ51 26 (z40.toNat) = z54 → (0 ≤ z54 ∧ z54 ≤ 1000) → ∀ μ57 : mM, mU μ51 23 (19) z54 μ57 → mT w μ57 → ∀ z60 : Int, μ57 23 8 = z60 → (0 ≤ z60 ∧ z60 ≤ 1000) → ∀ μ63 : mM, mU μ57 23 (9) z60 μ63 → mT w μ63 → Q μ63
def WP_X6_fail_Wx (w : mW) (μ : mM) (p1 : Int) (Q : mM → Prop) : Prop := ∀ z1 : Int, μ 23 18 = z1 → (0 ≤ z1 ∧ z1 ≤ 4) → ((¬ z1 = 0) → ∀ z33 : Int, μ 23 8 = z33 → (0 ≤ z33 ∧ z33 ≤ 1000) → ∀ μ36 : mM, mU μ 23 (9) z33 μ36 → mT w μ36 → Q μ36) ∧ ((z1 = 0) → ∀ z40 : Int, μ 23 9 = z40 → (0 ≤ z40 ∧ z40 ≤ 1000) → ∀ z43 : Int, μ 24 (z40.toNat) = z43 → ((-2147483648) ≤ z43 ∧ z43 ≤ 2147483647) → ((¬ z43 = (-3)) → (WJ_X6_fail_Wx_1 w μ Q z40) p1) ∧ ((z43 = (-3)) → (WJ_X6_fail_Wx_1 w μ Q z40) (1 : Int)))
theorem vc_X6_fail_Wx_3 {z43 : Int} (h0 : z43 = (-3)) (h1 : (-2147483648) ≤ z43 ∧ z43 ≤ 2147483647) : (-3) ≤ z43 ∧ z43 ≤ (-3) := by omega
set_option maxRecDepth 4000 in
set_option maxHeartbeats 4000000 in
theorem c_X6_fail_Wx {l : Launch} {D : va_G} {c : Nat → ClassId} {H0 : Heap} {sa : Nat × Nat × (Nat → Int32)} {w : mW} {μ : mM} (hw : mWF w) (hT : mT w μ) {p1 : Int} (hp1 : 1 ≤ p1 ∧ p1 ≤ 4) {Q : mM → Prop} (hQ : WP_X6_fail_Wx w μ p1 Q) : sC (gG l D c H0 sa) mX6_fail 1 0 0 [.ref 23, iv p1] (mk w μ) (qV w [23009, 23018, 23019] μ (fun μ1 => Q μ1 ∧ True)) := by
  refine sC.of rfl (by decide) (le_t rfl) ?_
  refine mr_lvE (lv' := [(0, .ref 23), (1, iv p1)]) rfl ?_
  refine sv_aload_n (pc := 0) dX6_fail_0 rfl rfl ?_
  refine gf_X6_18 (pc := 1) dX6_fail_1 wF_X6_37 (A_23 hw) hT fun z1 q2 h3 => ?_
  refine mr_if_ne (pc := 4) (tgt := 43) dX6_fail_4 (by decide) (r32 h3 rfl) (fun h31 => ?_) (fun h31 => ?_)
  · have h32 : 1 ≤ z1 ∧ z1 ≤ 4 := (vc_X12_wrong_v_1 h31 h3)
    refine sv_aload_n (pc := 43) dX6_fail_43 rfl rfl ?_
    refine sv_aload_n (pc := 44) dX6_fail_44 rfl rfl ?_
    refine gf_X6_8 (pc := 45) dX6_fail_45 wF_X6_83 (A_23 hw) hT fun z33 q34 h35 => ?_
    refine pf_X6_9 (pc := 48) dX6_fail_48 wF_X6_63 (A_23 hw) hT h35 fun μ36 u37 T38 => ?_
    exact mr_vret dX6_fail_51 rfl (le_t rfl) (le_t rfl) T38 (mF.up mF.refl (A_23 hw) u37 rfl) ⟨((((hQ z1 q2 h3).1 h31) z33 q34 h35) μ36 u37 T38), trivial⟩
  have h39 : 0 ≤ z1 ∧ z1 ≤ 0 := (vc_X12_wrong_v_5 h31 h3)
  refine sv_aload_n (pc := 7) dX6_fail_7 rfl rfl ?_
  refine sv_aload_n (pc := 8) dX6_fail_8 rfl rfl ?_
  refine gf_X6_0 (pc := 9) dX6_fail_9 wF_X6_9 (A_23 hw) hT ?_
  refine sv_aload_n (pc := 12) dX6_fail_12 rfl rfl ?_
  refine gf_X6_9 (pc := 13) dX6_fail_13 wF_X6_63 (A_23 hw) hT fun z40 q41 h42 => ?_
  refine la_24 (pc := 16) dX6_fail_16 (A_24 hw) hT (rIx (n := 1001) h42 rfl) fun z43 q44 h45 => ?_
  refine mr_bipush (pc := 17) (z := (-3)) dX6_fail_17 (by decide) ?_
  have J49 : ∀ (z47 : Int), ((1 ≤ z47 ∧ z47 ≤ 4)) → ((WJ_X6_fail_Wx_1 w μ Q z40) z47) → sV (gG l D c H0 sa) mX6_fail (sRm 1 0 0) (sZ (gG l D c H0 sa) 0 0 (qV w [23009, 23018, 23019] μ (fun μ1 => Q μ1 ∧ True))) 27 [(0, .ref 23)] [iv z47, .ref 23] (mk w μ) 0 0 := by
    intro z47 h48 W50
    refine pf_X6_18 (pc := 27) dX6_fail_27 wF_X6_37 (A_23 hw) hT (rW (c := 0) (d := 4) h48 rfl) fun μ51 u52 T53 => ?_
    refine sv_aload_n (pc := 30) dX6_fail_30 rfl rfl ?_
    refine sv_aload_n (pc := 31) dX6_fail_31 rfl rfl ?_
    refine gf_X6_2 (pc := 32) dX6_fail_32 wF_X6_18 (A_23 hw) T53 ?_
    refine sv_aload_n (pc := 35) dX6_fail_35 rfl rfl ?_
    refine gk_X6_9 (pc := 36) dX6_fail_36 wF_X6_63 (A_23 hw) (u52.f (Or.inr (by decide)) q41) ?_
    refine la_26 (pc := 39) dX6_fail_39 (A_26 hw) T53 (rIx (n := 1001) h42 rfl) fun z54 q55 h56 => ?_
    refine pf_X6_19 (pc := 40) dX6_fail_40 wF_X6_41 (A_23 hw) T53 h56 fun μ57 u58 T59 => ?_
    refine sv_aload_n (pc := 43) dX6_fail_43 rfl rfl ?_
    refine sv_aload_n (pc := 44) dX6_fail_44 rfl rfl ?_
    refine gf_X6_8 (pc := 45) dX6_fail_45 wF_X6_83 (A_23 hw) T59 fun z60 q61 h62 => ?_
    refine pf_X6_9 (pc := 48) dX6_fail_48 wF_X6_63 (A_23 hw) T59 h62 fun μ63 u64 T65 => ?_
    exact mr_vret dX6_fail_51 rfl (le_t rfl) (le_t rfl) T65 (mF.up (mF.up (mF.up mF.refl (A_23 hw) u52 rfl) (A_23 hw) u58 rfl) (A_23 hw) u64 rfl) ⟨((((((W50 h48) μ51 u52 T53) z54 q55 h56) μ57 u58 T59) z60 q61 h62) μ63 u64 T65), trivial⟩
  refine mr_icmp_ne (pc := 19) (tgt := 26) dX6_fail_19 (by decide) h45 (r32 (rR (x := (-3))) rfl) (fun h66 => ?_) (fun h66 => ?_)
  · refine mr_iload_n (pc := 26) (z := p1) dX6_fail_26 rfl rfl ?_
    refine mr_lvS (lv' := [(0, .ref 23)]) (List.forall_mem_cons.mpr ⟨rfl, fun _ h => absurd h List.not_mem_nil⟩) ?_
    exact J49 p1 hp1 (((((hQ z1 q2 h3).2 h31) z40 q41 h42) z43 q44 h45).1 h66)
  have h67 : (-3) ≤ z43 ∧ z43 ≤ (-3) := (vc_X6_fail_Wx_3 h66 h45)
  refine mr_iconst (pc := 22) (z := 1) dX6_fail_22 ?_
  refine sv_goto (pc := 23) (tgt := 27) dX6_fail_23 (by decide) ?_
  refine mr_lvS (lv' := [(0, .ref 23)]) (List.forall_mem_cons.mpr ⟨rfl, fun _ h => absurd h List.not_mem_nil⟩) ?_
  exact J49 1 (rW (c := 1) (d := 4) (rR (x := 1)) rfl) (((((hQ z1 q2 h3).2 h31) z40 q41 h42) z43 q44 h45).2 h66)
def WP_X6_put_Wx (w : mW) (μ : mM) (p1 : Int) (Q : mM → Prop) : Prop := ∀ z1 : Int, μ 23 11 = z1 → (0 ≤ z1 ∧ z1 ≤ 2000) → ((2000 ≤ z1) → Q μ) ∧ ((z1 < 2000) → ∀ μ15 : mM, mU μ 27 (z1.toNat) p1 μ15 → mT w μ15 → ∀ μ18 : mM, mU μ15 23 (11) (z1 + 1) μ18 → mT w μ18 → Q μ18)
theorem vc_X6_put_Wx_1 {z1 : Int} (h0 : 2000 ≤ z1) (h1 : 0 ≤ z1 ∧ z1 ≤ 2000) : 2000 ≤ z1 ∧ z1 ≤ 2000 := by omega
theorem vc_X6_put_Wx_2 {z1 : Int} (h0 : z1 < 2000) (h1 : 0 ≤ z1 ∧ z1 ≤ 2000) : 0 ≤ z1 ∧ z1 ≤ 1999 := by omega
set_option maxRecDepth 4000 in
set_option maxHeartbeats 4000000 in
theorem c_X6_put_Wx {l : Launch} {D : va_G} {c : Nat → ClassId} {H0 : Heap} {sa : Nat × Nat × (Nat → Int32)} {w : mW} {μ : mM} (hw : mWF w) (hT : mT w μ) {p1 : Int} (hp1 : (-2147483648) ≤ p1 ∧ p1 ≤ 2147483647) {Q : mM → Prop} (hQ : WP_X6_put_Wx w μ p1 Q) : sC (gG l D c H0 sa) mX6_put 1 0 0 [.ref 23, iv p1] (mk w μ) (qV w [23011, 27999] μ (fun μ1 => Q μ1 ∧ True)) := by
  refine sC.of rfl (by decide) (le_t rfl) ?_
  refine mr_lvE (lv' := [(0, .ref 23), (1, iv p1)]) rfl ?_
  refine sv_aload_n (pc := 0) dX6_put_0 rfl rfl ?_
  refine gf_X6_11 (pc := 1) dX6_put_1 wF_X6_47 (A_23 hw) hT fun z1 q2 h3 => ?_
  refine mr_sipush (pc := 4) (z := 2000) dX6_put_4 (by decide) ?_
  refine mr_icmp_ge (pc := 7) (tgt := 30) dX6_put_7 (by decide) (r32 h3 rfl) (r32 (rR (x := 2000)) rfl) (fun h12 => ?_) (fun h12 => ?_)
  · have h13 : 2000 ≤ z1 ∧ z1 ≤ 2000 := (vc_X6_put_Wx_1 h12 h3)
    exact mr_vret dX6_put_30 rfl (le_t rfl) (le_t rfl) hT mF.refl ⟨((hQ z1 q2 h3).1 h12), trivial⟩
  have h14 : 0 ≤ z1 ∧ z1 ≤ 1999 := (vc_X6_put_Wx_2 h12 h3)
  refine sv_aload_n (pc := 10) dX6_put_10 rfl rfl ?_
  refine gf_X6_3 (pc := 11) dX6_put_11 wF_X6_21 (A_23 hw) hT ?_
  refine sv_aload_n (pc := 14) dX6_put_14 rfl rfl ?_
  refine gk_X6_11 (pc := 15) dX6_put_15 wF_X6_47 (A_23 hw) q2 ?_
  refine mr_iload_n (pc := 18) (z := p1) dX6_put_18 rfl rfl ?_
  refine ss_27 (pc := 19) dX6_put_19 (A_27 hw) hT (rIx (n := 2000) h14 rfl) hp1 fun μ15 u16 T17 => ?_
  refine sv_aload_n (pc := 20) dX6_put_20 rfl rfl ?_
  refine sv_dup (pc := 21) dX6_put_21 rfl ?_
  refine gk_X6_11 (pc := 22) dX6_put_22 wF_X6_47 (A_23 hw) (u16.f (Or.inl (mAt.ne (A_27 hw) (A_23 hw) rfl)) q2) ?_
  refine mr_iconst (pc := 25) (z := 1) dX6_put_25 ?_
  refine mr_iadd (pc := 26) (x := z1) (y := 1) dX6_put_26 ?_
  refine pf_X6_11 (pc := 27) dX6_put_27 wF_X6_47 (A_23 hw) T17 (rW (c := 0) (d := 2000) (rAdd (e := 1) (f := 2000) h14 (rR (x := 1)) rfl) rfl) fun μ18 u19 T20 => ?_
  exact mr_vret dX6_put_30 rfl (le_t rfl) (le_t rfl) T20 (mF.up (mF.up mF.refl (A_27 hw) u16 rfl) (A_23 hw) u19 rfl) ⟨((((hQ z1 q2 h3).2 h12) μ15 u16 T17) μ18 u19 T20), trivial⟩
def WP_X6_step_Wx (w : mW) (μ : mM) (Q : mM → Prop) : Prop := ∀ z1 : Int, μ 23 9 = z1 → (0 ≤ z1 ∧ z1 ≤ 1000) → ∀ z4 : Int, μ 23 8 = z4 → (0 ≤ z4 ∧ z4 ≤ 1000) → ((z4 ≤ z1) → Q μ) ∧ ((z1 < z4) → ∀ μ15 : mM, mU μ 23 (9) (z1 + 1) μ15 → mT w μ15 → Q μ15)
theorem vc_X6_step_Wx_1 {z1 z4 : Int} (h0 : z1 < z4) (h1 : 0 ≤ z1 ∧ z1 ≤ 1000) (h2 : 0 ≤ z4 ∧ z4 ≤ 1000) : 0 ≤ z1 ∧ z1 ≤ 999 := by omega
theorem vc_X6_step_Wx_2 {z1 z4 : Int} (h0 : z1 < z4) (h1 : 0 ≤ z1 ∧ z1 ≤ 999) (h2 : 0 ≤ z4 ∧ z4 ≤ 1000) : 1 ≤ z4 ∧ z4 ≤ 1000 := by omega
set_option maxRecDepth 4000 in
set_option maxHeartbeats 4000000 in
theorem c_X6_step_Wx {l : Launch} {D : va_G} {c : Nat → ClassId} {H0 : Heap} {sa : Nat × Nat × (Nat → Int32)} {w : mW} {μ : mM} (hw : mWF w) (hT : mT w μ) {Q : mM → Prop} (hQ : WP_X6_step_Wx w μ  Q) : sC (gG l D c H0 sa) mX6_step 1 0 0 [.ref 23] (mk w μ) (qV w [23009] μ (fun μ1 => Q μ1 ∧ True)) := by
  refine sC.of rfl (by decide) (le_t rfl) ?_
  refine mr_lvE (lv' := [(0, .ref 23)]) rfl ?_
  refine sv_aload_n (pc := 0) dX6_step_0 rfl rfl ?_
  refine gf_X6_9 (pc := 1) dX6_step_1 wF_X6_63 (A_23 hw) hT fun z1 q2 h3 => ?_
  refine sv_aload_n (pc := 4) dX6_step_4 rfl rfl ?_
  refine gf_X6_8 (pc := 5) dX6_step_5 wF_X6_83 (A_23 hw) hT fun z4 q5 h6 => ?_
  refine mr_icmp_ge (pc := 8) (tgt := 21) dX6_step_8 (by decide) (r32 h3 rfl) (r32 h6 rfl) (fun h12 => ?_) (fun h12 => ?_)
  · exact mr_vret dX6_step_21 rfl (le_t rfl) (le_t rfl) hT mF.refl ⟨(((hQ z1 q2 h3) z4 q5 h6).1 h12), trivial⟩
  have h13 : 0 ≤ z1 ∧ z1 ≤ 999 := (vc_X6_step_Wx_1 h12 h3 h6)
  have h14 : 1 ≤ z4 ∧ z4 ≤ 1000 := (vc_X6_step_Wx_2 h12 h13 h6)
  refine sv_aload_n (pc := 11) dX6_step_11 rfl rfl ?_
  refine sv_dup (pc := 12) dX6_step_12 rfl ?_
  refine gk_X6_9 (pc := 13) dX6_step_13 wF_X6_63 (A_23 hw) q2 ?_
  refine mr_iconst (pc := 16) (z := 1) dX6_step_16 ?_
  refine mr_iadd (pc := 17) (x := z1) (y := 1) dX6_step_17 ?_
  refine pf_X6_9 (pc := 18) dX6_step_18 wF_X6_63 (A_23 hw) hT (rW (c := 0) (d := 1000) (rAdd (e := 1) (f := 1000) h13 (rR (x := 1)) rfl) rfl) fun μ15 u16 T17 => ?_
  exact mr_vret dX6_step_21 rfl (le_t rfl) (le_t rfl) T17 (mF.up mF.refl (A_23 hw) u16 rfl) ⟨((((hQ z1 q2 h3) z4 q5 h6).2 h12) μ15 u16 T17), trivial⟩
def WP_X6_take_Wx (w : mW) (μ : mM) (p1 : Int) (Q : Int → mM → Prop) : Prop := ∀ z1 : Int, μ 23 9 = z1 → (0 ≤ z1 ∧ z1 ≤ 1000) → ∀ z4 : Int, μ 24 (z1.toNat) = z4 → ((-2147483648) ≤ z4 ∧ z4 ≤ 2147483647) → ((z4 = p1) → WP_X6_step_Wx w μ  (fun μ8 => mT w μ8 → mF [23009] w μ μ8 → Q (1 : Int) μ8)) ∧ ((¬ z4 = p1) → Q (0 : Int) μ)
set_option maxRecDepth 4000 in
set_option maxHeartbeats 4000000 in
theorem c_X6_take_Wx {l : Launch} {D : va_G} {c : Nat → ClassId} {H0 : Heap} {sa : Nat × Nat × (Nat → Int32)} {w : mW} {μ : mM} (hw : mWF w) (hT : mT w μ) {p1 : Int} (hp1 : (-2147483648) ≤ p1 ∧ p1 ≤ 2147483647) {Q : Int → mM → Prop} (hQ : WP_X6_take_Wx w μ p1 Q) : sC (gG l D c H0 sa) mX6_take 2 0 0 [.ref 23, iv p1] (mk w μ) (qI w [23009] μ (fun z μ1 => (0 ≤ z ∧ z ≤ 1) ∧ Q z μ1 ∧ True)) := by
  refine sC.of rfl (by decide) (le_t rfl) ?_
  refine mr_lvE (lv' := [(0, .ref 23), (1, iv p1)]) rfl ?_
  refine sv_aload_n (pc := 0) dX6_take_0 rfl rfl ?_
  refine gf_X6_0 (pc := 1) dX6_take_1 wF_X6_9 (A_23 hw) hT ?_
  refine sv_aload_n (pc := 4) dX6_take_4 rfl rfl ?_
  refine gf_X6_9 (pc := 5) dX6_take_5 wF_X6_63 (A_23 hw) hT fun z1 q2 h3 => ?_
  refine la_24 (pc := 8) dX6_take_8 (A_24 hw) hT (rIx (n := 1001) h3 rfl) fun z4 q5 h6 => ?_
  refine mr_iload_n (pc := 9) (z := p1) dX6_take_9 rfl rfl ?_
  refine mr_icmp_eq (pc := 10) (tgt := 15) dX6_take_10 (by decide) h6 hp1 (fun h7 => ?_) (fun h7 => ?_)
  · refine sv_aload_n (pc := 15) dX6_take_15 rfl rfl ?_
    refine mr_cVV (pc := 16) (c_X6_step_Wx hw hT (((hQ z1 q2 h3) z4 q5 h6).1 h7)) (gOk _ _ _ _ _) dX6_take_16 (tX6_step _ _ _ _ _) ⟨wV_X6_step, wL_X6_step⟩ wM_X6_117 (gCX6 _ _ _ _ _) rfl (A_23 hw) rfl ⟨le_t rfl, le_t rfl⟩ ⟨le_t rfl, le_t rfl⟩ rfl (le_t rfl) fun μ8 T9 F10 h11 => ?_
    refine mr_iconst (pc := 19) (z := 1) dX6_take_19 ?_
    exact mr_zret dX6_take_20 rfl (rW (c := 0) (d := 1) (rR (x := 1)) rfl) (le_t rfl) (le_t rfl) T9 (mF.call mF.refl F10 rfl) ⟨(rW (c := 0) (d := 1) (rR (x := 1)) rfl), (h11.1 T9 F10), trivial⟩
  refine mr_iconst (pc := 13) (z := 0) dX6_take_13 ?_
  exact mr_zret dX6_take_14 rfl (rW (c := 0) (d := 1) (rR (x := 0)) rfl) (le_t rfl) (le_t rfl) hT mF.refl ⟨(rW (c := 0) (d := 1) (rR (x := 0)) rfl), (((hQ z1 q2 h3) z4 q5 h6).2 h7), trivial⟩
def WP_X6_isTest_Wx (w : mW) (μ : mM) (p1 : Int) (Q : Int → mM → Prop) : Prop := ((p1 = 4) → Q (1 : Int) μ) ∧ ((¬ p1 = 4) → ((p1 = 6) → Q (1 : Int) μ) ∧ ((¬ p1 = 6) → ((p1 < 8) → Q (0 : Int) μ) ∧ ((8 ≤ p1) → ((15 < p1) → Q (0 : Int) μ) ∧ ((p1 ≤ 15) → Q (1 : Int) μ))))
theorem vc_X6_isTest_Wx_3 {p1 : Int} (h0 : p1 < 8) (h1 : ¬ p1 = 4) (h2 : ¬ p1 = 6) (h3 : (-2147483648) ≤ p1 ∧ p1 ≤ 2147483647) : (-2147483648) ≤ p1 ∧ p1 ≤ 7 := by omega
theorem vc_X6_isTest_Wx_4 {p1 : Int} (h0 : 8 ≤ p1) (h1 : ¬ p1 = 4) (h2 : ¬ p1 = 6) (h3 : (-2147483648) ≤ p1 ∧ p1 ≤ 2147483647) : 8 ≤ p1 ∧ p1 ≤ 2147483647 := by omega
theorem vc_X6_isTest_Wx_5 {p1 : Int} (h0 : 15 < p1) (h1 : ¬ p1 = 4) (h2 : ¬ p1 = 6) (h3 : 8 ≤ p1) (h4 : 8 ≤ p1 ∧ p1 ≤ 2147483647) : 16 ≤ p1 ∧ p1 ≤ 2147483647 := by omega
theorem vc_X6_isTest_Wx_6 {p1 : Int} (h0 : p1 ≤ 15) (h1 : ¬ p1 = 4) (h2 : ¬ p1 = 6) (h3 : 8 ≤ p1) (h4 : 8 ≤ p1 ∧ p1 ≤ 2147483647) : 8 ≤ p1 ∧ p1 ≤ 15 := by omega
set_option maxRecDepth 4000 in
set_option maxHeartbeats 4000000 in
theorem c_X6_isTest_Wx {l : Launch} {D : va_G} {c : Nat → ClassId} {H0 : Heap} {sa : Nat × Nat × (Nat → Int32)} {w : mW} {μ : mM} (hw : mWF w) (hT : mT w μ) {p1 : Int} (hp1 : (-2147483648) ≤ p1 ∧ p1 ≤ 2147483647) {Q : Int → mM → Prop} (hQ : WP_X6_isTest_Wx w μ p1 Q) : sC (gG l D c H0 sa) mX6_isTest 1 0 0 [iv p1] (mk w μ) (qP w μ (fun z => (0 ≤ z ∧ z ≤ 1) ∧ Q z μ ∧ True)) := by
  refine sC.of rfl (by decide) (le_t rfl) ?_
  refine mr_lvE (lv' := [(0, iv p1)]) rfl ?_
  refine mr_iload_n (pc := 0) (z := p1) dX6_isTest_0 rfl rfl ?_
  refine mr_iconst (pc := 1) (z := 4) dX6_isTest_1 ?_
  refine mr_icmp_eq (pc := 2) (tgt := 23) dX6_isTest_2 (by decide) hp1 (r32 (rR (x := 4)) rfl) (fun h7 => ?_) (fun h7 => ?_)
  · have h8 : 4 ≤ p1 ∧ p1 ≤ 4 := (vc_X12_isSo_25 h7 hp1)
    refine mr_iconst (pc := 23) (z := 1) dX6_isTest_23 ?_
    refine sv_goto (pc := 24) (tgt := 28) dX6_isTest_24 (by decide) ?_
    exact mr_zretP dX6_isTest_28 rfl (rW (c := 0) (d := 1) (rR (x := 1)) rfl) (le_t rfl) (le_t rfl) ⟨(rW (c := 0) (d := 1) (rR (x := 1)) rfl), (hQ.1 h7), trivial⟩
  refine mr_iload_n (pc := 5) (z := p1) dX6_isTest_5 rfl rfl ?_
  refine mr_bipush (pc := 6) (z := 6) dX6_isTest_6 (by decide) ?_
  refine mr_icmp_eq (pc := 8) (tgt := 23) dX6_isTest_8 (by decide) hp1 (r32 (rR (x := 6)) rfl) (fun h14 => ?_) (fun h14 => ?_)
  · have h15 : 6 ≤ p1 ∧ p1 ≤ 6 := (vc_X12_isSo_24 h14 h7 hp1)
    refine mr_iconst (pc := 23) (z := 1) dX6_isTest_23 ?_
    refine sv_goto (pc := 24) (tgt := 28) dX6_isTest_24 (by decide) ?_
    exact mr_zretP dX6_isTest_28 rfl (rW (c := 0) (d := 1) (rR (x := 1)) rfl) (le_t rfl) (le_t rfl) ⟨(rW (c := 0) (d := 1) (rR (x := 1)) rfl), ((hQ.2 h7).1 h14), trivial⟩
  refine mr_iload_n (pc := 11) (z := p1) dX6_isTest_11 rfl rfl ?_
  refine mr_bipush (pc := 12) (z := 8) dX6_isTest_12 (by decide) ?_
  refine mr_icmp_lt (pc := 14) (tgt := 27) dX6_isTest_14 (by decide) hp1 (r32 (rR (x := 8)) rfl) (fun h20 => ?_) (fun h20 => ?_)
  · have h21 : (-2147483648) ≤ p1 ∧ p1 ≤ 7 := (vc_X6_isTest_Wx_3 h20 h7 h14 hp1)
    refine mr_iconst (pc := 27) (z := 0) dX6_isTest_27 ?_
    exact mr_zretP dX6_isTest_28 rfl (rW (c := 0) (d := 1) (rR (x := 0)) rfl) (le_t rfl) (le_t rfl) ⟨(rW (c := 0) (d := 1) (rR (x := 0)) rfl), (((hQ.2 h7).2 h14).1 h20), trivial⟩
  have h22 : 8 ≤ p1 ∧ p1 ≤ 2147483647 := (vc_X6_isTest_Wx_4 h20 h7 h14 hp1)
  refine mr_iload_n (pc := 17) (z := p1) dX6_isTest_17 rfl rfl ?_
  refine mr_bipush (pc := 18) (z := 15) dX6_isTest_18 (by decide) ?_
  refine mr_icmp_gt (pc := 20) (tgt := 27) dX6_isTest_20 (by decide) (r32 h22 rfl) (r32 (rR (x := 15)) rfl) (fun h25 => ?_) (fun h25 => ?_)
  · have h26 : 16 ≤ p1 ∧ p1 ≤ 2147483647 := (vc_X6_isTest_Wx_5 h25 h7 h14 h20 h22)
    refine mr_iconst (pc := 27) (z := 0) dX6_isTest_27 ?_
    exact mr_zretP dX6_isTest_28 rfl (rW (c := 0) (d := 1) (rR (x := 0)) rfl) (le_t rfl) (le_t rfl) ⟨(rW (c := 0) (d := 1) (rR (x := 0)) rfl), ((((hQ.2 h7).2 h14).2 h20).1 h25), trivial⟩
  have h27 : 8 ≤ p1 ∧ p1 ≤ 15 := (vc_X6_isTest_Wx_6 h25 h7 h14 h20 h22)
  refine mr_iconst (pc := 23) (z := 1) dX6_isTest_23 ?_
  refine sv_goto (pc := 24) (tgt := 28) dX6_isTest_24 (by decide) ?_
  exact mr_zretP dX6_isTest_28 rfl (rW (c := 0) (d := 1) (rR (x := 1)) rfl) (le_t rfl) (le_t rfl) ⟨(rW (c := 0) (d := 1) (rR (x := 1)) rfl), ((((hQ.2 h7).2 h14).2 h20).2 h25), trivial⟩
def WP_X6_number_Wx (w : mW) (μ : mM) (p1 : Int) (p2 : Int) (Q : Int → mM → Prop) : Prop := ∀ z1 : Int, μ 23 9 = z1 → (0 ≤ z1 ∧ z1 ≤ 1000) → ∀ z4 : Int, μ 24 (z1.toNat) = z4 → ((-2147483648) ≤ z4 ∧ z4 ≤ 2147483647) → ((z4 = (-2)) → ∀ z9 : Int, μ 25 (z1.toNat) = z9 → ((-2147483648) ≤ z9 ∧ z9 ≤ 2147483647) → ((z9 < p1) → WP_X6_fail_Wx w μ (3) (fun μ15 => mT w μ15 → mF [23009, 23018, 23019] w μ μ15 → Q (0 : Int) μ15)) ∧ ((p1 ≤ z9) → ((z9 ≤ p2) → WP_X6_step_Wx w μ  (fun μ20 => mT w μ20 → mF [23009] w μ μ20 → Q z9 μ20)) ∧ ((p2 < z9) → WP_X6_fail_Wx w μ (3) (fun μ26 => mT w μ26 → mF [23009, 23018, 23019] w μ μ26 → Q (0 : Int) μ26)))) ∧ ((¬ z4 = (-2)) → WP_X6_fail_Wx w μ (2) (fun μ30 => mT w μ30 → mF [23009, 23018, 23019] w μ μ30 → Q (0 : Int) μ30))
theorem vc_X6_number_Wx_1 {z4 : Int} (h0 : z4 = (-2)) (h1 : (-2147483648) ≤ z4 ∧ z4 ≤ 2147483647) : (-2) ≤ z4 ∧ z4 ≤ (-2) := by omega
theorem vc_X6_number_Wx_4 {p1 p2 z9 : Int} (h0 : p2 < z9) (h1 : p1 ≤ z9) (h2 : (-2147483648) ≤ p1 ∧ p1 ≤ 2147483647) (h3 : (-2147483648) ≤ p2 ∧ p2 ≤ 2147483647) (h4 : (-2147483648) ≤ z9 ∧ z9 ≤ 2147483647) : (-2147483647) ≤ z9 ∧ z9 ≤ 2147483647 := by omega
theorem vc_X6_number_Wx_5 {p1 p2 z9 : Int} (h0 : p2 < z9) (h1 : p1 ≤ z9) (h2 : (-2147483648) ≤ p1 ∧ p1 ≤ 2147483647) (h3 : (-2147483648) ≤ p2 ∧ p2 ≤ 2147483647) (h4 : (-2147483647) ≤ z9 ∧ z9 ≤ 2147483647) : (-2147483648) ≤ p2 ∧ p2 ≤ 2147483646 := by omega
set_option maxRecDepth 4000 in
set_option maxHeartbeats 4000000 in
theorem c_X6_number_Wx {l : Launch} {D : va_G} {c : Nat → ClassId} {H0 : Heap} {sa : Nat × Nat × (Nat → Int32)} {w : mW} {μ : mM} (hw : mWF w) (hT : mT w μ) {p1 : Int} (hp1 : (-2147483648) ≤ p1 ∧ p1 ≤ 2147483647) {p2 : Int} (hp2 : (-2147483648) ≤ p2 ∧ p2 ≤ 2147483647) {Q : Int → mM → Prop} (hQ : WP_X6_number_Wx w μ p1 p2 Q) : sC (gG l D c H0 sa) mX6_number 2 0 0 [.ref 23, iv p1, iv p2] (mk w μ) (qI w [23009, 23018, 23019] μ (fun z μ1 => ((-2147483648) ≤ z ∧ z ≤ 2147483647) ∧ Q z μ1 ∧ True)) := by
  refine sC.of rfl (by decide) (le_t rfl) ?_
  refine mr_lvE (lv' := [(0, .ref 23), (1, iv p1), (2, iv p2)]) rfl ?_
  refine sv_aload_n (pc := 0) dX6_number_0 rfl rfl ?_
  refine gf_X6_0 (pc := 1) dX6_number_1 wF_X6_9 (A_23 hw) hT ?_
  refine sv_aload_n (pc := 4) dX6_number_4 rfl rfl ?_
  refine gf_X6_9 (pc := 5) dX6_number_5 wF_X6_63 (A_23 hw) hT fun z1 q2 h3 => ?_
  refine la_24 (pc := 8) dX6_number_8 (A_24 hw) hT (rIx (n := 1001) h3 rfl) fun z4 q5 h6 => ?_
  refine mr_bipush (pc := 9) (z := (-2)) dX6_number_9 (by decide) ?_
  refine mr_icmp_eq (pc := 11) (tgt := 21) dX6_number_11 (by decide) h6 (r32 (rR (x := (-2))) rfl) (fun h7 => ?_) (fun h7 => ?_)
  · have h8 : (-2) ≤ z4 ∧ z4 ≤ (-2) := (vc_X6_number_Wx_1 h7 h6)
    refine sv_aload_n (pc := 21) dX6_number_21 rfl rfl ?_
    refine gf_X6_1 (pc := 22) dX6_number_22 wF_X6_15 (A_23 hw) hT ?_
    refine sv_aload_n (pc := 25) dX6_number_25 rfl rfl ?_
    refine gk_X6_9 (pc := 26) dX6_number_26 wF_X6_63 (A_23 hw) q2 ?_
    refine la_25 (pc := 29) dX6_number_29 (A_25 hw) hT (rIx (n := 1001) h3 rfl) fun z9 q10 h11 => ?_
    refine mr_istore_n (pc := 30) (lv' := [(3, iv z9), (0, .ref 23), (1, iv p1), (2, iv p2)]) dX6_number_30 rfl (by decide) rfl ?_
    refine mr_iload_n (pc := 31) (z := z9) dX6_number_31 rfl rfl ?_
    refine mr_iload_n (pc := 32) (z := p1) dX6_number_32 rfl rfl ?_
    refine mr_icmp_lt (pc := 33) (tgt := 41) dX6_number_33 (by decide) h11 hp1 (fun h12 => ?_) (fun h12 => ?_)
    · have h13 : (-2147483648) ≤ z9 ∧ z9 ≤ 2147483646 := (vc_X7_addMark_W_16 h12 hp1 h11)
      have h14 : (-2147483647) ≤ p1 ∧ p1 ≤ 2147483647 := (vc_X7_addMark_W_17 h12 hp1 h13)
      refine sv_aload_n (pc := 41) dX6_number_41 rfl rfl ?_
      refine mr_iconst (pc := 42) (z := 3) dX6_number_42 ?_
      refine mr_cVV (pc := 43) (c_X6_fail_Wx hw hT (rW (c := 1) (d := 4) (rR (x := 3)) rfl) (((((hQ z1 q2 h3) z4 q5 h6).1 h7) z9 q10 h11).1 h12)) (gOk _ _ _ _ _) dX6_number_43 (tX6_fail _ _ _ _ _) ⟨wV_X6_fail, wL_X6_fail⟩ wM_X6_123 (gCX6 _ _ _ _ _) rfl (A_23 hw) rfl ⟨le_t rfl, le_t rfl⟩ ⟨le_t rfl, le_t rfl⟩ rfl (le_t rfl) fun μ15 T16 F17 h18 => ?_
      refine mr_iconst (pc := 46) (z := 0) dX6_number_46 ?_
      exact mr_iret dX6_number_47 rfl (le_t rfl) (le_t rfl) T16 (mF.call mF.refl F17 rfl) ⟨(rW (c := (-2147483648)) (d := 2147483647) (rR (x := 0)) rfl), (h18.1 T16 F17), trivial⟩
    refine mr_iload_n (pc := 36) (z := z9) dX6_number_36 rfl rfl ?_
    refine mr_iload_n (pc := 37) (z := p2) dX6_number_37 rfl rfl ?_
    refine mr_icmp_le (pc := 38) (tgt := 48) dX6_number_38 (by decide) h11 hp2 (fun h19 => ?_) (fun h19 => ?_)
    · refine sv_aload_n (pc := 48) dX6_number_48 rfl rfl ?_
      refine mr_cVV (pc := 49) (c_X6_step_Wx hw hT ((((((hQ z1 q2 h3) z4 q5 h6).1 h7) z9 q10 h11).2 h12).1 h19)) (gOk _ _ _ _ _) dX6_number_49 (tX6_step _ _ _ _ _) ⟨wV_X6_step, wL_X6_step⟩ wM_X6_117 (gCX6 _ _ _ _ _) rfl (A_23 hw) rfl ⟨le_t rfl, le_t rfl⟩ ⟨le_t rfl, le_t rfl⟩ rfl (le_t rfl) fun μ20 T21 F22 h23 => ?_
      refine mr_iload_n (pc := 52) (z := z9) dX6_number_52 rfl rfl ?_
      exact mr_iret dX6_number_53 rfl (le_t rfl) (le_t rfl) T21 (mF.call mF.refl F22 rfl) ⟨h11, (h23.1 T21 F22), trivial⟩
    have h24 : (-2147483647) ≤ z9 ∧ z9 ≤ 2147483647 := (vc_X6_number_Wx_4 h19 h12 hp1 hp2 h11)
    have h25 : (-2147483648) ≤ p2 ∧ p2 ≤ 2147483646 := (vc_X6_number_Wx_5 h19 h12 hp1 hp2 h24)
    refine sv_aload_n (pc := 41) dX6_number_41 rfl rfl ?_
    refine mr_iconst (pc := 42) (z := 3) dX6_number_42 ?_
    refine mr_cVV (pc := 43) (c_X6_fail_Wx hw hT (rW (c := 1) (d := 4) (rR (x := 3)) rfl) ((((((hQ z1 q2 h3) z4 q5 h6).1 h7) z9 q10 h11).2 h12).2 h19)) (gOk _ _ _ _ _) dX6_number_43 (tX6_fail _ _ _ _ _) ⟨wV_X6_fail, wL_X6_fail⟩ wM_X6_123 (gCX6 _ _ _ _ _) rfl (A_23 hw) rfl ⟨le_t rfl, le_t rfl⟩ ⟨le_t rfl, le_t rfl⟩ rfl (le_t rfl) fun μ26 T27 F28 h29 => ?_
    refine mr_iconst (pc := 46) (z := 0) dX6_number_46 ?_
    exact mr_iret dX6_number_47 rfl (le_t rfl) (le_t rfl) T27 (mF.call mF.refl F28 rfl) ⟨(rW (c := (-2147483648)) (d := 2147483647) (rR (x := 0)) rfl), (h29.1 T27 F28), trivial⟩
  refine sv_aload_n (pc := 14) dX6_number_14 rfl rfl ?_
  refine mr_iconst (pc := 15) (z := 2) dX6_number_15 ?_
  refine mr_cVV (pc := 16) (c_X6_fail_Wx hw hT (rW (c := 1) (d := 4) (rR (x := 2)) rfl) (((hQ z1 q2 h3) z4 q5 h6).2 h7)) (gOk _ _ _ _ _) dX6_number_16 (tX6_fail _ _ _ _ _) ⟨wV_X6_fail, wL_X6_fail⟩ wM_X6_123 (gCX6 _ _ _ _ _) rfl (A_23 hw) rfl ⟨le_t rfl, le_t rfl⟩ ⟨le_t rfl, le_t rfl⟩ rfl (le_t rfl) fun μ30 T31 F32 h33 => ?_
  refine mr_iconst (pc := 19) (z := 0) dX6_number_19 ?_
  exact mr_iret dX6_number_20 rfl (le_t rfl) (le_t rfl) T31 (mF.call mF.refl F32 rfl) ⟨(rW (c := (-2147483648)) (d := 2147483647) (rR (x := 0)) rfl), (h33.1 T31 F32), trivial⟩
def WP_X6_expect_Wx (w : mW) (μ : mM) (p1 : Int) (Q : mM → Prop) : Prop := WP_X6_take_Wx w μ p1 (fun z5 μ1 => mT w μ1 → mF [23009] w μ μ1 → (0 ≤ z5 ∧ z5 ≤ 1) → ((¬ z5 = 0) → Q μ1) ∧ ((z5 = 0) → WP_X6_fail_Wx w μ1 (2) (fun μ15 => mT w μ15 → mF [23009, 23018, 23019] w μ1 μ15 → Q μ15)))
set_option maxRecDepth 4000 in
set_option maxHeartbeats 4000000 in
theorem c_X6_expect_Wx {l : Launch} {D : va_G} {c : Nat → ClassId} {H0 : Heap} {sa : Nat × Nat × (Nat → Int32)} {w : mW} {μ : mM} (hw : mWF w) (hT : mT w μ) {p1 : Int} (hp1 : (-2147483648) ≤ p1 ∧ p1 ≤ 2147483647) {Q : mM → Prop} (hQ : WP_X6_expect_Wx w μ p1 Q) : sC (gG l D c H0 sa) mX6_expect 3 0 0 [.ref 23, iv p1] (mk w μ) (qV w [23009, 23018, 23019] μ (fun μ1 => Q μ1 ∧ True)) := by
  refine sC.of rfl (by decide) (le_t rfl) ?_
  refine mr_lvE (lv' := [(0, .ref 23), (1, iv p1)]) rfl ?_
  refine sv_aload_n (pc := 0) dX6_expect_0 rfl rfl ?_
  refine mr_iload_n (pc := 1) (z := p1) dX6_expect_1 rfl rfl ?_
  refine mr_cVI (pc := 2) (c_X6_take_Wx hw hT hp1 hQ) (gOk _ _ _ _ _) dX6_expect_2 (tX6_take _ _ _ _ _) ⟨wV_X6_take, wL_X6_take⟩ wM_X6_120 (gCX6 _ _ _ _ _) rfl (A_23 hw) rfl ⟨le_t rfl, le_t rfl⟩ ⟨le_t rfl, le_t rfl⟩ rfl (le_t rfl) fun z5 μ1 T2 F3 h4 => ?_
  refine mr_if_ne (pc := 5) (tgt := 13) dX6_expect_5 (by decide) (r32 h4.1 rfl) (fun h12 => ?_) (fun h12 => ?_)
  · have h13 : 1 ≤ z5 ∧ z5 ≤ 1 := (vc_X12_ring_24 h12 h4.1)
    exact mr_vret dX6_expect_13 rfl (le_t rfl) (le_t rfl) T2 (mF.call mF.refl F3 rfl) ⟨(((h4.2.1 T2 F3) h4.1).1 h12), trivial⟩
  have h14 : 0 ≤ z5 ∧ z5 ≤ 0 := (vc_X12_ring_22 h12 h4.1)
  refine sv_aload_n (pc := 8) dX6_expect_8 rfl rfl ?_
  refine mr_iconst (pc := 9) (z := 2) dX6_expect_9 ?_
  refine mr_cVV (pc := 10) (c_X6_fail_Wx hw T2 (rW (c := 1) (d := 4) (rR (x := 2)) rfl) (((h4.2.1 T2 F3) h4.1).2 h12)) (gOk _ _ _ _ _) dX6_expect_10 (tX6_fail _ _ _ _ _) ⟨wV_X6_fail, wL_X6_fail⟩ wM_X6_123 (gCX6 _ _ _ _ _) rfl (A_23 hw) rfl ⟨le_t rfl, le_t rfl⟩ ⟨le_t rfl, le_t rfl⟩ rfl (le_t rfl) fun μ15 T16 F17 h18 => ?_
  exact mr_vret dX6_expect_13 rfl (le_t rfl) (le_t rfl) T16 (mF.call (mF.call mF.refl F3 rfl) F17 rfl) ⟨(h18.1 T16 F17), trivial⟩
def WP_X6_putTest_Wx (w : mW) (μ : mM) (p1 : Int) (p2 : Int) (p3 : Int) (p4 : Int) (p5 : Int) (Q : mM → Prop) : Prop := WP_X6_put_Wx w μ p1 (fun μ1 => mT w μ1 → mF [23011, 27999] w μ μ1 → WP_X6_put_Wx w μ1 p2 (fun μ5 => mT w μ5 → mF [23011, 27999] w μ1 μ5 → WP_X6_put_Wx w μ5 p3 (fun μ9 => mT w μ9 → mF [23011, 27999] w μ5 μ9 → WP_X6_put_Wx w μ9 p4 (fun μ13 => mT w μ13 → mF [23011, 27999] w μ9 μ13 → WP_X6_put_Wx w μ13 p5 (fun μ17 => mT w μ17 → mF [23011, 27999] w μ13 μ17 → Q μ17)))))
set_option maxRecDepth 4000 in
set_option maxHeartbeats 4000000 in
theorem c_X6_putTest_Wx {l : Launch} {D : va_G} {c : Nat → ClassId} {H0 : Heap} {sa : Nat × Nat × (Nat → Int32)} {w : mW} {μ : mM} (hw : mWF w) (hT : mT w μ) {p1 : Int} (hp1 : (-2147483648) ≤ p1 ∧ p1 ≤ 2147483647) {p2 : Int} (hp2 : (-2147483648) ≤ p2 ∧ p2 ≤ 2147483647) {p3 : Int} (hp3 : (-2147483648) ≤ p3 ∧ p3 ≤ 2147483647) {p4 : Int} (hp4 : (-2147483648) ≤ p4 ∧ p4 ≤ 2147483647) {p5 : Int} (hp5 : (-2147483648) ≤ p5 ∧ p5 ≤ 2147483647) {Q : mM → Prop} (hQ : WP_X6_putTest_Wx w μ p1 p2 p3 p4 p5 Q) : sC (gG l D c H0 sa) mX6_putTest 2 0 0 [.ref 23, iv p1, iv p2, iv p3, iv p4, iv p5] (mk w μ) (qV w [23011, 27999] μ (fun μ1 => Q μ1 ∧ True)) := by
  refine sC.of rfl (by decide) (le_t rfl) ?_
  refine mr_lvE (lv' := [(0, .ref 23), (1, iv p1), (2, iv p2), (3, iv p3), (4, iv p4), (5, iv p5)]) rfl ?_
  refine sv_aload_n (pc := 0) dX6_putTest_0 rfl rfl ?_
  refine mr_iload_n (pc := 1) (z := p1) dX6_putTest_1 rfl rfl ?_
  refine mr_cVV (pc := 2) (c_X6_put_Wx hw hT hp1 hQ) (gOk _ _ _ _ _) dX6_putTest_2 (tX6_put _ _ _ _ _) ⟨wV_X6_put, wL_X6_put⟩ wM_X6_130 (gCX6 _ _ _ _ _) rfl (A_23 hw) rfl ⟨le_t rfl, le_t rfl⟩ ⟨le_t rfl, le_t rfl⟩ rfl (le_t rfl) fun μ1 T2 F3 h4 => ?_
  refine sv_aload_n (pc := 5) dX6_putTest_5 rfl rfl ?_
  refine mr_iload_n (pc := 6) (z := p2) dX6_putTest_6 rfl rfl ?_
  refine mr_cVV (pc := 7) (c_X6_put_Wx hw T2 hp2 (h4.1 T2 F3)) (gOk _ _ _ _ _) dX6_putTest_7 (tX6_put _ _ _ _ _) ⟨wV_X6_put, wL_X6_put⟩ wM_X6_130 (gCX6 _ _ _ _ _) rfl (A_23 hw) rfl ⟨le_t rfl, le_t rfl⟩ ⟨le_t rfl, le_t rfl⟩ rfl (le_t rfl) fun μ5 T6 F7 h8 => ?_
  refine sv_aload_n (pc := 10) dX6_putTest_10 rfl rfl ?_
  refine mr_iload_n (pc := 11) (z := p3) dX6_putTest_11 rfl rfl ?_
  refine mr_cVV (pc := 12) (c_X6_put_Wx hw T6 hp3 (h8.1 T6 F7)) (gOk _ _ _ _ _) dX6_putTest_12 (tX6_put _ _ _ _ _) ⟨wV_X6_put, wL_X6_put⟩ wM_X6_130 (gCX6 _ _ _ _ _) rfl (A_23 hw) rfl ⟨le_t rfl, le_t rfl⟩ ⟨le_t rfl, le_t rfl⟩ rfl (le_t rfl) fun μ9 T10 F11 h12 => ?_
  refine sv_aload_n (pc := 15) dX6_putTest_15 rfl rfl ?_
  refine mr_iload (pc := 16) (z := p4) dX6_putTest_16 rfl ?_
  refine mr_cVV (pc := 18) (c_X6_put_Wx hw T10 hp4 (h12.1 T10 F11)) (gOk _ _ _ _ _) dX6_putTest_18 (tX6_put _ _ _ _ _) ⟨wV_X6_put, wL_X6_put⟩ wM_X6_130 (gCX6 _ _ _ _ _) rfl (A_23 hw) rfl ⟨le_t rfl, le_t rfl⟩ ⟨le_t rfl, le_t rfl⟩ rfl (le_t rfl) fun μ13 T14 F15 h16 => ?_
  refine sv_aload_n (pc := 21) dX6_putTest_21 rfl rfl ?_
  refine mr_iload (pc := 22) (z := p5) dX6_putTest_22 rfl ?_
  refine mr_cVV (pc := 24) (c_X6_put_Wx hw T14 hp5 (h16.1 T14 F15)) (gOk _ _ _ _ _) dX6_putTest_24 (tX6_put _ _ _ _ _) ⟨wV_X6_put, wL_X6_put⟩ wM_X6_130 (gCX6 _ _ _ _ _) rfl (A_23 hw) rfl ⟨le_t rfl, le_t rfl⟩ ⟨le_t rfl, le_t rfl⟩ rfl (le_t rfl) fun μ17 T18 F19 h20 => ?_
  exact mr_vret dX6_putTest_27 rfl (le_t rfl) (le_t rfl) T18 (mF.call (mF.call (mF.call (mF.call (mF.call mF.refl F3 rfl) F7 rfl) F11 rfl) F15 rfl) F19 rfl) ⟨(h20.1 T18 F19), trivial⟩
def WJ_X6_readHeldIn_Wx_3 (w : mW) (p1 : Int) (Q : mM → Prop) (z237 : Int) (μ267 : mM) (μ308 : mM) : Prop := mT w μ308 → mF [23009, 23018, 23019] w μ267 μ308 → WP_X6_number_Wx w μ308 (0) (32) (fun z318 μ314 => mT w μ314 → mF [23009, 23018, 23019] w μ308 μ314 → ((-2147483648) ≤ z318 ∧ z318 ≤ 2147483647) → WP_X6_take_Wx w μ314 (5) (fun z323 μ319 => mT w μ319 → mF [23009] w μ314 μ319 → (0 ≤ z323 ∧ z323 ≤ 1) → ((z323 = 0) → WP_X6_putTest_Wx w μ319 (4) p1 z237 z318 (32) (fun μ333 => mT w μ333 → mF [23011, 27999] w μ319 μ333 → Q μ333)) ∧ ((¬ z323 = 0) → WP_X6_number_Wx w μ319 z318 (32) (fun z342 μ338 => mT w μ338 → mF [23009, 23018, 23019] w μ319 μ338 → ((-2147483648) ≤ z342 ∧ z342 ≤ 2147483647) → WP_X6_putTest_Wx w μ338 (4) p1 z237 z318 z342 (fun μ343 => mT w μ343 → mF [23011, 27999] w μ338 μ343 → Q μ343)))))
def WJ_X6_readHeldIn_Wx_2 (w : mW) (p1 : Int) (Q : mM → Prop) (z237 : Int) (μ267 : mM) (z271 : Int) (z283 : Int) : Prop := (0 ≤ z283 ∧ z283 ≤ 1) → ((z283 = 0) → (WJ_X6_readHeldIn_Wx_3 w p1 Q z237 μ267) μ267) ∧ ((¬ z283 = 0) → ∀ z350 : Int, μ267 25 (z271.toNat) = z350 → ((-2147483648) ≤ z350 ∧ z350 ≤ 2147483647) → WP_X10_maskOf_W w μ267 z350 (fun z357 _ => ((-2147483648) ≤ z357 ∧ z357 ≤ 2147483647) → ∀ z358 : Int, bXor z357 ((-1) : Int) = z358 → ∀ z361 : Int, bAnd z237 z358 = z361 → ((z361 = 0) → (WJ_X6_readHeldIn_Wx_3 w p1 Q z237 μ267) μ267) ∧ ((¬ z361 = 0) → WP_X6_fail_Wx w μ267 (3) (fun μ366 => mT w μ366 → mF [23009, 23018, 23019] w μ267 μ366 → (WJ_X6_readHeldIn_Wx_3 w p1 Q z237 μ267) μ366))))
def WL_X6_readHeldIn_Wx_1 (w : mW) (p1 : Int) (Q : mM → Prop) (μ1 : mM) (rec1 : (Int × Int × mM) → Prop) (s : (Int × Int × mM)) : Prop := ∀ z237 : Int, ∀ z236 : Int, ∀ μ238 : mM, s = (z237, z236, μ238) → ((-2147483648) ≤ z237 ∧ z237 ≤ 2147483647) → (0 ≤ z236 ∧ z236 ≤ 3) → mT w μ238 → mF [23009, 23018, 23019] w μ1 μ238 → ((3 ≤ z236) → WP_X6_expect_Wx w μ238 (1047) (fun μ267 => mT w μ267 → mF [23009, 23018, 23019] w μ238 μ267 → ∀ z271 : Int, μ267 23 9 = z271 → (0 ≤ z271 ∧ z271 ≤ 1000) → ∀ z274 : Int, μ267 24 (z271.toNat) = z274 → ((-2147483648) ≤ z274 ∧ z274 ≤ 2147483647) → ((¬ z274 = (-2)) → (WJ_X6_readHeldIn_Wx_2 w p1 Q z237 μ267 z271) (0 : Int)) ∧ ((z274 = (-2)) → ∀ z372 : Int, μ267 25 (z271.toNat) = z372 → ((-2147483648) ≤ z372 ∧ z372 ≤ 2147483647) → ((32 < z372) → (WJ_X6_readHeldIn_Wx_2 w p1 Q z237 μ267 z271) (0 : Int)) ∧ ((z372 ≤ 32) → (WJ_X6_readHeldIn_Wx_2 w p1 Q z237 μ267 z271) (1 : Int))))) ∧ ((z236 < 3) → WP_X6_expect_Wx w μ238 (1046) (fun μ379 => mT w μ379 → mF [23009, 23018, 23019] w μ238 μ379 → ∀ z383 : Int, bShl z237 (8 : Int) = z383 → WP_X6_number_Wx w μ379 (0) (255) (fun z390 μ386 => mT w μ386 → mF [23009, 23018, 23019] w μ379 μ386 → ((-2147483648) ≤ z390 ∧ z390 ≤ 2147483647) → ∀ z391 : Int, bOr z383 z390 = z391 → rec1 (z391, (z236 + 1), μ386))))
def WP_X6_readHeldIn_Wx (w : mW) (μ : mM) (p1 : Int) (Q : mM → Prop) : Prop := WP_X6_number_Wx w μ (0) (255) (fun z5 μ1 => mT w μ1 → mF [23009, 23018, 23019] w μ μ1 → ((-2147483648) ≤ z5 ∧ z5 ≤ 2147483647) → loopF (WL_X6_readHeldIn_Wx_1 w p1 Q μ1) False 5 (z5, (0 : Int), μ1))
theorem vc_X6_readHeldIn_Wx_1 {z236 : Int} (h0 : (4 - z236) < ((0 : Nat) : Int)) (h1 : 0 ≤ z236 ∧ z236 ≤ 3) : False := by omega
theorem vc_X6_readHeldIn_Wx_2 {z236 : Int} (h0 : 3 ≤ z236) (h1 : 0 ≤ z236 ∧ z236 ≤ 3) : 3 ≤ z236 ∧ z236 ≤ 3 := by omega
theorem vc_X6_readHeldIn_Wx_9 {z372 : Int} (h0 : 32 < z372) (h1 : (-2147483648) ≤ z372 ∧ z372 ≤ 2147483647) : 33 ≤ z372 ∧ z372 ≤ 2147483647 := by omega
theorem vc_X6_readHeldIn_Wx_10 {z372 : Int} (h0 : z372 ≤ 32) (h1 : (-2147483648) ≤ z372 ∧ z372 ≤ 2147483647) : (-2147483648) ≤ z372 ∧ z372 ≤ 32 := by omega
theorem vc_X6_readHeldIn_Wx_11 {z236 : Int} (h0 : z236 < 3) (h1 : 0 ≤ z236 ∧ z236 ≤ 3) : 0 ≤ z236 ∧ z236 ≤ 2 := by omega
theorem vc_X6_readHeldIn_Wx_12 {N z236 : Int} (h0 : (4 - z236) < N + 1) (h1 : z236 < 3) (h2 : 0 ≤ z236 ∧ z236 ≤ 2) : (4 - (z236 + 1)) < N := by omega
theorem vc_X6_readHeldIn_Wx_13  : (4 - 0) < ((5 : Nat) : Int) := by omega
set_option maxRecDepth 4000 in
set_option maxHeartbeats 4000000 in
theorem c_X6_readHeldIn_Wx {l : Launch} {D : va_G} {c : Nat → ClassId} {H0 : Heap} {sa : Nat × Nat × (Nat → Int32)} {w : mW} {μ : mM} (hw : mWF w) (hT : mT w μ) {p1 : Int} (hp1 : (-2147483648) ≤ p1 ∧ p1 ≤ 2147483647) {Q : mM → Prop} (hQ : WP_X6_readHeldIn_Wx w μ p1 Q) : sC (gG l D c H0 sa) mX6_readHeldIn 4 0 0 [.ref 23, iv p1] (mk w μ) (qV w [23009, 23011, 23018, 23019, 27999] μ (fun μ1 => Q μ1 ∧ True)) := by
  refine sC.of rfl (by decide) (le_t rfl) ?_
  refine mr_lvE (lv' := [(0, .ref 23), (1, iv p1)]) rfl ?_
  refine sv_aload_n (pc := 0) dX6_readHeldIn_0 rfl rfl ?_
  refine mr_iconst (pc := 1) (z := 0) dX6_readHeldIn_1 ?_
  refine mr_sipush (pc := 2) (z := 255) dX6_readHeldIn_2 (by decide) ?_
  refine mr_cVI (pc := 5) (c_X6_number_Wx hw hT (rW (c := (-2147483648)) (d := 2147483647) (rR (x := 0)) rfl) (rW (c := (-2147483648)) (d := 2147483647) (rR (x := 255)) rfl) hQ) (gOk _ _ _ _ _) dX6_readHeldIn_5 (tX6_number _ _ _ _ _) ⟨wV_X6_number, wL_X6_number⟩ wM_X6_143 (gCX6 _ _ _ _ _) rfl (A_23 hw) rfl ⟨le_t rfl, le_t rfl⟩ ⟨le_t rfl, le_t rfl⟩ rfl (le_t rfl) fun z5 μ1 T2 F3 h4 => ?_
  refine mr_istore_n (pc := 8) (lv' := [(2, iv z5), (0, .ref 23), (1, iv p1)]) dX6_readHeldIn_8 rfl (by decide) rfl ?_
  refine mr_iconst (pc := 9) (z := 0) dX6_readHeldIn_9 ?_
  refine mr_istore_n (pc := 10) (lv' := [(3, iv 0), (2, iv z5), (0, .ref 23), (1, iv p1)]) dX6_readHeldIn_10 rfl (by decide) rfl ?_
  have L239 : ∀ (nL239 : Nat) (z237 z236 : Int) (μ238 : mM), mT w μ238 → mF [23009, 23018, 23019] w μ1 μ238 → ((-2147483648) ≤ z237 ∧ z237 ≤ 2147483647) → (0 ≤ z236 ∧ z236 ≤ 3) → (4 - z236) < (nL239 : Int) → loopF (WL_X6_readHeldIn_Wx_1 w p1 Q μ1) False nL239 (z237, z236, μ238) → sV (gG l D c H0 sa) mX6_readHeldIn (sRm 4 0 0) (sZ (gG l D c H0 sa) 0 0 (qV w [23009, 23011, 23018, 23019, 27999] μ (fun μ1 => Q μ1 ∧ True))) 11 [(0, .ref 23), (1, iv p1), (2, iv z237), (3, iv z236)] [] (mk w μ238) 0 0 := by
    intro nL239
    induction nL239 with
    | zero => intro z237 z236 μ238 T242 F243 h240 h241 h245 W246; exact ((vc_X6_readHeldIn_Wx_1 h245 h241)).elim
    | succ nL239 ih247 =>
      intro z237 z236 μ238 T242 F243 h240 h241 h245 W246
      refine mr_iload_n (pc := 11) (z := z236) dX6_readHeldIn_11 rfl rfl ?_
      refine mr_iconst (pc := 12) (z := 3) dX6_readHeldIn_12 ?_
      refine mr_icmp_ge (pc := 13) (tgt := 43) dX6_readHeldIn_13 (by decide) (r32 h241 rfl) (r32 (rR (x := 3)) rfl) (fun h265 => ?_) (fun h265 => ?_)
      · have h266 : 3 ≤ z236 ∧ z236 ≤ 3 := (vc_X6_readHeldIn_Wx_2 h265 h241)
        refine sv_aload_n (pc := 43) dX6_readHeldIn_43 rfl rfl ?_
        refine mr_sipush (pc := 44) (z := 1047) dX6_readHeldIn_44 (by decide) ?_
        refine mr_cVV (pc := 47) (c_X6_expect_Wx hw T242 (rW (c := (-2147483648)) (d := 2147483647) (rR (x := 1047)) rfl) ((W246 z237 z236 μ238 rfl h240 h241 T242 F243).1 h265)) (gOk _ _ _ _ _) dX6_readHeldIn_47 (tX6_expect _ _ _ _ _) ⟨wV_X6_expect, wL_X6_expect⟩ wM_X6_136 (gCX6 _ _ _ _ _) rfl (A_23 hw) rfl ⟨le_t rfl, le_t rfl⟩ ⟨le_t rfl, le_t rfl⟩ rfl (le_t rfl) fun μ267 T268 F269 h270 => ?_
        refine sv_aload_n (pc := 50) dX6_readHeldIn_50 rfl rfl ?_
        refine gf_X6_0 (pc := 51) dX6_readHeldIn_51 wF_X6_9 (A_23 hw) T268 ?_
        refine sv_aload_n (pc := 54) dX6_readHeldIn_54 rfl rfl ?_
        refine gf_X6_9 (pc := 55) dX6_readHeldIn_55 wF_X6_63 (A_23 hw) T268 fun z271 q272 h273 => ?_
        refine la_24 (pc := 58) dX6_readHeldIn_58 (A_24 hw) T268 (rIx (n := 1001) h273 rfl) fun z274 q275 h276 => ?_
        refine mr_bipush (pc := 59) (z := (-2)) dX6_readHeldIn_59 (by decide) ?_
        have J285 : ∀ (z283 : Int), ((0 ≤ z283 ∧ z283 ≤ 1)) → ((WJ_X6_readHeldIn_Wx_2 w p1 Q z237 μ267 z271) z283) → sV (gG l D c H0 sa) mX6_readHeldIn (sRm 4 0 0) (sZ (gG l D c H0 sa) 0 0 (qV w [23009, 23011, 23018, 23019, 27999] μ (fun μ1 => Q μ1 ∧ True))) 83 [(0, .ref 23), (1, iv p1), (2, iv z237)] [iv z283] (mk w μ267) 0 0 := by
          intro z283 h284 W286
          refine mr_istore_n (pc := 83) (lv' := [(3, iv z283), (0, .ref 23), (1, iv p1), (2, iv z237)]) dX6_readHeldIn_83 rfl (by decide) rfl ?_
          refine mr_iload_n (pc := 84) (z := z283) dX6_readHeldIn_84 rfl rfl ?_
          have J312 : ∀ (μ308 : mM), (mT w μ308) → (mF [23009, 23018, 23019] w μ267 μ308) → ((WJ_X6_readHeldIn_Wx_3 w p1 Q z237 μ267) μ308) → sV (gG l D c H0 sa) mX6_readHeldIn (sRm 4 0 0) (sZ (gG l D c H0 sa) 0 0 (qV w [23009, 23011, 23018, 23019, 27999] μ (fun μ1 => Q μ1 ∧ True))) 112 [(0, .ref 23), (1, iv p1), (2, iv z237)] [] (mk w μ308) 0 0 := by
            intro μ308 T309 F310 W313
            refine sv_aload_n (pc := 112) dX6_readHeldIn_112 rfl rfl ?_
            refine mr_iconst (pc := 113) (z := 0) dX6_readHeldIn_113 ?_
            refine mr_bipush (pc := 114) (z := 32) dX6_readHeldIn_114 (by decide) ?_
            refine mr_cVI (pc := 116) (c_X6_number_Wx hw T309 (rW (c := (-2147483648)) (d := 2147483647) (rR (x := 0)) rfl) (rW (c := (-2147483648)) (d := 2147483647) (rR (x := 32)) rfl) (W313 T309 F310)) (gOk _ _ _ _ _) dX6_readHeldIn_116 (tX6_number _ _ _ _ _) ⟨wV_X6_number, wL_X6_number⟩ wM_X6_143 (gCX6 _ _ _ _ _) rfl (A_23 hw) rfl ⟨le_t rfl, le_t rfl⟩ ⟨le_t rfl, le_t rfl⟩ rfl (le_t rfl) fun z318 μ314 T315 F316 h317 => ?_
            refine mr_istore (pc := 119) (lv' := [(4, iv z318), (0, .ref 23), (1, iv p1), (2, iv z237)]) dX6_readHeldIn_119 (by decide) rfl ?_
            refine sv_aload_n (pc := 121) dX6_readHeldIn_121 rfl rfl ?_
            refine mr_iconst (pc := 122) (z := 5) dX6_readHeldIn_122 ?_
            refine mr_cVI (pc := 123) (c_X6_take_Wx hw T315 (rW (c := (-2147483648)) (d := 2147483647) (rR (x := 5)) rfl) ((h317.2.1 T315 F316) h317.1)) (gOk _ _ _ _ _) dX6_readHeldIn_123 (tX6_take _ _ _ _ _) ⟨wV_X6_take, wL_X6_take⟩ wM_X6_120 (gCX6 _ _ _ _ _) rfl (A_23 hw) rfl ⟨le_t rfl, le_t rfl⟩ ⟨le_t rfl, le_t rfl⟩ rfl (le_t rfl) fun z323 μ319 T320 F321 h322 => ?_
            refine mr_if_eq (pc := 126) (tgt := 140) dX6_readHeldIn_126 (by decide) (r32 h322.1 rfl) (fun h331 => ?_) (fun h331 => ?_)
            · have h332 : 0 ≤ z323 ∧ z323 ≤ 0 := (vc_X12_ring_22 h331 h322.1)
              refine mr_bipush (pc := 140) (z := 32) dX6_readHeldIn_140 (by decide) ?_
              refine mr_istore (pc := 142) (lv' := [(5, iv 32), (4, iv z318), (0, .ref 23), (1, iv p1), (2, iv z237)]) dX6_readHeldIn_142 (by decide) rfl ?_
              refine sv_aload_n (pc := 144) dX6_readHeldIn_144 rfl rfl ?_
              refine mr_iconst (pc := 145) (z := 4) dX6_readHeldIn_145 ?_
              refine mr_iload_n (pc := 146) (z := p1) dX6_readHeldIn_146 rfl rfl ?_
              refine mr_iload_n (pc := 147) (z := z237) dX6_readHeldIn_147 rfl rfl ?_
              refine mr_iload (pc := 148) (z := z318) dX6_readHeldIn_148 rfl ?_
              refine mr_iload (pc := 150) (z := 32) dX6_readHeldIn_150 rfl ?_
              refine mr_cVV (pc := 152) (c_X6_putTest_Wx hw T320 (rW (c := (-2147483648)) (d := 2147483647) (rR (x := 4)) rfl) hp1 h240 h317.1 (rW (c := (-2147483648)) (d := 2147483647) (rR (x := 32)) rfl) (((h322.2.1 T320 F321) h322.1).1 h331)) (gOk _ _ _ _ _) dX6_readHeldIn_152 (tX6_putTest _ _ _ _ _) ⟨wV_X6_putTest, wL_X6_putTest⟩ wM_X6_157 (gCX6 _ _ _ _ _) rfl (A_23 hw) rfl ⟨le_t rfl, le_t rfl⟩ ⟨le_t rfl, le_t rfl⟩ rfl (le_t rfl) fun μ333 T334 F335 h336 => ?_
              exact mr_vret dX6_readHeldIn_155 rfl (le_t rfl) (le_t rfl) T334 (mF.call (mF.call (mF.call (mF.call (mF.call (mF.call (mF.call mF.refl F3 rfl) F243 rfl) F269 rfl) F310 rfl) F316 rfl) F321 rfl) F335 rfl) ⟨(h336.1 T334 F335), trivial⟩
            have h337 : 1 ≤ z323 ∧ z323 ≤ 1 := (vc_X12_ring_24 h331 h322.1)
            refine sv_aload_n (pc := 129) dX6_readHeldIn_129 rfl rfl ?_
            refine mr_iload (pc := 130) (z := z318) dX6_readHeldIn_130 rfl ?_
            refine mr_bipush (pc := 132) (z := 32) dX6_readHeldIn_132 (by decide) ?_
            refine mr_cVI (pc := 134) (c_X6_number_Wx hw T320 h317.1 (rW (c := (-2147483648)) (d := 2147483647) (rR (x := 32)) rfl) (((h322.2.1 T320 F321) h322.1).2 h331)) (gOk _ _ _ _ _) dX6_readHeldIn_134 (tX6_number _ _ _ _ _) ⟨wV_X6_number, wL_X6_number⟩ wM_X6_143 (gCX6 _ _ _ _ _) rfl (A_23 hw) rfl ⟨le_t rfl, le_t rfl⟩ ⟨le_t rfl, le_t rfl⟩ rfl (le_t rfl) fun z342 μ338 T339 F340 h341 => ?_
            refine sv_goto (pc := 137) (tgt := 142) dX6_readHeldIn_137 (by decide) ?_
            refine mr_istore (pc := 142) (lv' := [(5, iv z342), (4, iv z318), (0, .ref 23), (1, iv p1), (2, iv z237)]) dX6_readHeldIn_142 (by decide) rfl ?_
            refine sv_aload_n (pc := 144) dX6_readHeldIn_144 rfl rfl ?_
            refine mr_iconst (pc := 145) (z := 4) dX6_readHeldIn_145 ?_
            refine mr_iload_n (pc := 146) (z := p1) dX6_readHeldIn_146 rfl rfl ?_
            refine mr_iload_n (pc := 147) (z := z237) dX6_readHeldIn_147 rfl rfl ?_
            refine mr_iload (pc := 148) (z := z318) dX6_readHeldIn_148 rfl ?_
            refine mr_iload (pc := 150) (z := z342) dX6_readHeldIn_150 rfl ?_
            refine mr_cVV (pc := 152) (c_X6_putTest_Wx hw T339 (rW (c := (-2147483648)) (d := 2147483647) (rR (x := 4)) rfl) hp1 h240 h317.1 h341.1 ((h341.2.1 T339 F340) h341.1)) (gOk _ _ _ _ _) dX6_readHeldIn_152 (tX6_putTest _ _ _ _ _) ⟨wV_X6_putTest, wL_X6_putTest⟩ wM_X6_157 (gCX6 _ _ _ _ _) rfl (A_23 hw) rfl ⟨le_t rfl, le_t rfl⟩ ⟨le_t rfl, le_t rfl⟩ rfl (le_t rfl) fun μ343 T344 F345 h346 => ?_
            exact mr_vret dX6_readHeldIn_155 rfl (le_t rfl) (le_t rfl) T344 (mF.call (mF.call (mF.call (mF.call (mF.call (mF.call (mF.call (mF.call mF.refl F3 rfl) F243 rfl) F269 rfl) F310 rfl) F316 rfl) F321 rfl) F340 rfl) F345 rfl) ⟨(h346.1 T344 F345), trivial⟩
          refine mr_if_eq (pc := 85) (tgt := 112) dX6_readHeldIn_85 (by decide) (r32 h284 rfl) (fun h347 => ?_) (fun h347 => ?_)
          · have h348 : 0 ≤ z283 ∧ z283 ≤ 0 := (vc_X12_ring_22 h347 h284)
            refine mr_lvS (lv' := [(0, .ref 23), (1, iv p1), (2, iv z237)]) (List.forall_mem_cons.mpr ⟨rfl, List.forall_mem_cons.mpr ⟨rfl, List.forall_mem_cons.mpr ⟨rfl, fun _ h => absurd h List.not_mem_nil⟩⟩⟩) ?_
            exact J312 μ267 T268 mF.refl ((W286 h284).1 h347)
          have h349 : 1 ≤ z283 ∧ z283 ≤ 1 := (vc_X12_ring_24 h347 h284)
          refine mr_iload_n (pc := 88) (z := z237) dX6_readHeldIn_88 rfl rfl ?_
          refine sv_aload_n (pc := 89) dX6_readHeldIn_89 rfl rfl ?_
          refine gf_X6_1 (pc := 90) dX6_readHeldIn_90 wF_X6_15 (A_23 hw) T268 ?_
          refine sv_aload_n (pc := 93) dX6_readHeldIn_93 rfl rfl ?_
          refine gk_X6_9 (pc := 94) dX6_readHeldIn_94 wF_X6_63 (A_23 hw) q272 ?_
          refine la_25 (pc := 97) dX6_readHeldIn_97 (A_25 hw) T268 (rIx (n := 1001) h273 rfl) fun z350 q351 h352 => ?_
          refine mr_cSP (pc := 98) (c_X10_maskOf_W hw T268 h352 (((W286 h284).2 h347) z350 q351 h352)) (gOk _ _ _ _ _) dX6_readHeldIn_98 (tX10_maskOf _ _ _ _ _) wS_X10_maskOf wM_X6_171 ⟨le_t rfl, le_t rfl⟩ ⟨le_t rfl, le_t rfl⟩ rfl (le_t rfl) fun z357 h356 => ?_
          refine mr_iconst (pc := 101) (z := (-1)) dX6_readHeldIn_101 ?_
          refine mr_ixor (pc := 102) (x := z357) (y := (-1)) dX6_readHeldIn_102 ?_
          refine mr_gen (P := fun z => (-2147483648) ≤ z ∧ z ≤ 2147483647) (r32i _) fun z358 q359 h360 => ?_
          refine mr_iand (pc := 103) (x := z237) (y := z358) dX6_readHeldIn_103 ?_
          refine mr_gen (P := fun z => (-2147483648) ≤ z ∧ z ≤ 2147483647) (r32i _) fun z361 q362 h363 => ?_
          refine mr_if_eq (pc := 104) (tgt := 112) dX6_readHeldIn_104 (by decide) h363 (fun h364 => ?_) (fun h364 => ?_)
          · have h365 : 0 ≤ z361 ∧ z361 ≤ 0 := (vc_X12_mask_1 h364 h363)
            refine mr_lvS (lv' := [(0, .ref 23), (1, iv p1), (2, iv z237)]) (List.forall_mem_cons.mpr ⟨rfl, List.forall_mem_cons.mpr ⟨rfl, List.forall_mem_cons.mpr ⟨rfl, fun _ h => absurd h List.not_mem_nil⟩⟩⟩) ?_
            exact J312 μ267 T268 mF.refl ((((h356.2.1 h356.1) z358 q359) z361 q362).1 h364)
          refine sv_aload_n (pc := 107) dX6_readHeldIn_107 rfl rfl ?_
          refine mr_iconst (pc := 108) (z := 3) dX6_readHeldIn_108 ?_
          refine mr_cVV (pc := 109) (c_X6_fail_Wx hw T268 (rW (c := 1) (d := 4) (rR (x := 3)) rfl) ((((h356.2.1 h356.1) z358 q359) z361 q362).2 h364)) (gOk _ _ _ _ _) dX6_readHeldIn_109 (tX6_fail _ _ _ _ _) ⟨wV_X6_fail, wL_X6_fail⟩ wM_X6_123 (gCX6 _ _ _ _ _) rfl (A_23 hw) rfl ⟨le_t rfl, le_t rfl⟩ ⟨le_t rfl, le_t rfl⟩ rfl (le_t rfl) fun μ366 T367 F368 h369 => ?_
          refine mr_lvS (lv' := [(0, .ref 23), (1, iv p1), (2, iv z237)]) (List.forall_mem_cons.mpr ⟨rfl, List.forall_mem_cons.mpr ⟨rfl, List.forall_mem_cons.mpr ⟨rfl, fun _ h => absurd h List.not_mem_nil⟩⟩⟩) ?_
          exact J312 μ366 T367 (mF.call mF.refl F368 rfl) (h369.1 T367 F368)
        refine mr_icmp_ne (pc := 61) (tgt := 82) dX6_readHeldIn_61 (by decide) h276 (r32 (rR (x := (-2))) rfl) (fun h370 => ?_) (fun h370 => ?_)
        · refine mr_iconst (pc := 82) (z := 0) dX6_readHeldIn_82 ?_
          refine mr_lvS (lv' := [(0, .ref 23), (1, iv p1), (2, iv z237)]) (List.forall_mem_cons.mpr ⟨rfl, List.forall_mem_cons.mpr ⟨rfl, List.forall_mem_cons.mpr ⟨rfl, fun _ h => absurd h List.not_mem_nil⟩⟩⟩) ?_
          exact J285 0 (rW (c := 0) (d := 1) (rR (x := 0)) rfl) ((((h270.1 T268 F269) z271 q272 h273) z274 q275 h276).1 h370)
        have h371 : (-2) ≤ z274 ∧ z274 ≤ (-2) := (vc_X6_number_Wx_1 h370 h276)
        refine sv_aload_n (pc := 64) dX6_readHeldIn_64 rfl rfl ?_
        refine gf_X6_1 (pc := 65) dX6_readHeldIn_65 wF_X6_15 (A_23 hw) T268 ?_
        refine sv_aload_n (pc := 68) dX6_readHeldIn_68 rfl rfl ?_
        refine gk_X6_9 (pc := 69) dX6_readHeldIn_69 wF_X6_63 (A_23 hw) q272 ?_
        refine la_25 (pc := 72) dX6_readHeldIn_72 (A_25 hw) T268 (rIx (n := 1001) h273 rfl) fun z372 q373 h374 => ?_
        refine mr_bipush (pc := 73) (z := 32) dX6_readHeldIn_73 (by decide) ?_
        refine mr_icmp_gt (pc := 75) (tgt := 82) dX6_readHeldIn_75 (by decide) h374 (r32 (rR (x := 32)) rfl) (fun h375 => ?_) (fun h375 => ?_)
        · have h376 : 33 ≤ z372 ∧ z372 ≤ 2147483647 := (vc_X6_readHeldIn_Wx_9 h375 h374)
          refine mr_iconst (pc := 82) (z := 0) dX6_readHeldIn_82 ?_
          refine mr_lvS (lv' := [(0, .ref 23), (1, iv p1), (2, iv z237)]) (List.forall_mem_cons.mpr ⟨rfl, List.forall_mem_cons.mpr ⟨rfl, List.forall_mem_cons.mpr ⟨rfl, fun _ h => absurd h List.not_mem_nil⟩⟩⟩) ?_
          exact J285 0 (rW (c := 0) (d := 1) (rR (x := 0)) rfl) ((((((h270.1 T268 F269) z271 q272 h273) z274 q275 h276).2 h370) z372 q373 h374).1 h375)
        have h377 : (-2147483648) ≤ z372 ∧ z372 ≤ 32 := (vc_X6_readHeldIn_Wx_10 h375 h374)
        refine mr_iconst (pc := 78) (z := 1) dX6_readHeldIn_78 ?_
        refine sv_goto (pc := 79) (tgt := 83) dX6_readHeldIn_79 (by decide) ?_
        refine mr_lvS (lv' := [(0, .ref 23), (1, iv p1), (2, iv z237)]) (List.forall_mem_cons.mpr ⟨rfl, List.forall_mem_cons.mpr ⟨rfl, List.forall_mem_cons.mpr ⟨rfl, fun _ h => absurd h List.not_mem_nil⟩⟩⟩) ?_
        exact J285 1 (rW (c := 0) (d := 1) (rR (x := 1)) rfl) ((((((h270.1 T268 F269) z271 q272 h273) z274 q275 h276).2 h370) z372 q373 h374).2 h375)
      have h378 : 0 ≤ z236 ∧ z236 ≤ 2 := (vc_X6_readHeldIn_Wx_11 h265 h241)
      refine sv_aload_n (pc := 16) dX6_readHeldIn_16 rfl rfl ?_
      refine mr_sipush (pc := 17) (z := 1046) dX6_readHeldIn_17 (by decide) ?_
      refine mr_cVV (pc := 20) (c_X6_expect_Wx hw T242 (rW (c := (-2147483648)) (d := 2147483647) (rR (x := 1046)) rfl) ((W246 z237 z236 μ238 rfl h240 h241 T242 F243).2 h265)) (gOk _ _ _ _ _) dX6_readHeldIn_20 (tX6_expect _ _ _ _ _) ⟨wV_X6_expect, wL_X6_expect⟩ wM_X6_136 (gCX6 _ _ _ _ _) rfl (A_23 hw) rfl ⟨le_t rfl, le_t rfl⟩ ⟨le_t rfl, le_t rfl⟩ rfl (le_t rfl) fun μ379 T380 F381 h382 => ?_
      refine mr_iload_n (pc := 23) (z := z237) dX6_readHeldIn_23 rfl rfl ?_
      refine mr_bipush (pc := 24) (z := 8) dX6_readHeldIn_24 (by decide) ?_
      refine mr_ishl (pc := 26) (x := z237) (y := 8) dX6_readHeldIn_26 ?_
      refine mr_gen (P := fun z => (-2147483648) ≤ z ∧ z ≤ 2147483647) (r32i _) fun z383 q384 h385 => ?_
      refine sv_aload_n (pc := 27) dX6_readHeldIn_27 rfl rfl ?_
      refine mr_iconst (pc := 28) (z := 0) dX6_readHeldIn_28 ?_
      refine mr_sipush (pc := 29) (z := 255) dX6_readHeldIn_29 (by decide) ?_
      refine mr_cVI (pc := 32) (c_X6_number_Wx hw T380 (rW (c := (-2147483648)) (d := 2147483647) (rR (x := 0)) rfl) (rW (c := (-2147483648)) (d := 2147483647) (rR (x := 255)) rfl) ((h382.1 T380 F381) z383 q384)) (gOk _ _ _ _ _) dX6_readHeldIn_32 (tX6_number _ _ _ _ _) ⟨wV_X6_number, wL_X6_number⟩ wM_X6_143 (gCX6 _ _ _ _ _) rfl (A_23 hw) rfl ⟨le_t rfl, le_t rfl⟩ ⟨le_t rfl, le_t rfl⟩ rfl (le_t rfl) fun z390 μ386 T387 F388 h389 => ?_
      refine mr_ior (pc := 35) (x := z383) (y := z390) dX6_readHeldIn_35 ?_
      refine mr_gen (P := fun z => (-2147483648) ≤ z ∧ z ≤ 2147483647) (r32i _) fun z391 q392 h393 => ?_
      refine mr_istore_n (pc := 36) (lv' := [(2, iv z391), (0, .ref 23), (1, iv p1), (3, iv z236)]) dX6_readHeldIn_36 rfl (by decide) rfl ?_
      refine mr_iinc (pc := 37) (lv' := [(3, iv (z236 + 1)), (2, iv z391), (0, .ref 23), (1, iv p1)]) dX6_readHeldIn_37 rfl (by decide) rfl ?_
      refine sv_goto (pc := 40) (tgt := 11) dX6_readHeldIn_40 (by decide) ?_
      refine mr_lvS (lv' := [(0, .ref 23), (1, iv p1), (2, iv z391), (3, iv (z236 + 1))]) (List.forall_mem_cons.mpr ⟨rfl, List.forall_mem_cons.mpr ⟨rfl, List.forall_mem_cons.mpr ⟨rfl, List.forall_mem_cons.mpr ⟨rfl, fun _ h => absurd h List.not_mem_nil⟩⟩⟩⟩) ?_
      exact ih247 z391 (z236 + 1) μ386 T387 (mF.call (mF.call (mF.call mF.refl F243 rfl) F381 rfl) F388 rfl) h393 (rW (c := 0) (d := 3) (rAdd (e := 1) (f := 3) h378 (rR (x := 1)) rfl) rfl) (vc_X6_readHeldIn_Wx_12 (nS h245) h265 h378) (((h389.2.1 T387 F388) h389.1) z391 q392)
  refine mr_lvS (lv' := [(0, .ref 23), (1, iv p1), (2, iv z5), (3, iv 0)]) (List.forall_mem_cons.mpr ⟨rfl, List.forall_mem_cons.mpr ⟨rfl, List.forall_mem_cons.mpr ⟨rfl, List.forall_mem_cons.mpr ⟨rfl, fun _ h => absurd h List.not_mem_nil⟩⟩⟩⟩) ?_
  exact L239 5 z5 0 μ1 T2 mF.refl h4.1 (rW (c := 0) (d := 3) (rR (x := 0)) rfl) vc_X6_readHeldIn_Wx_13 ((h4.2.1 T2 F3) h4.1)
