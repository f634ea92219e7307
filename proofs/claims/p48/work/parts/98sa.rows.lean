theorem vc_X12_isOffered_v_4 {z306 z309 z321 : Int} (h0 : z306 ≤ z321) (h1 : ¬ z306 = (z309 - 1)) (h2 : 0 ≤ z306 ∧ z306 ≤ 7) (h3 : 0 ≤ z309 ∧ z309 ≤ 7) (h4 : 0 ≤ z321 ∧ z321 ≤ 0) : 0 ≤ z306 ∧ z306 ≤ 0 := by omega
theorem vc_X12_isOffered_v_5 {p1 : Int} (h0 : 5 ≤ p1 ∧ p1 ≤ 34) : 0 ≤ p1 ∧ ((8 * p1) + 1) = 8 * p1 + 1 := by omega
theorem vc_X12_isOffered_v_6 {f_h1 f_h2 f_h3 f_h4 f_h5 f_h6 f_v1 f_v2 f_v3 f_v4 f_v5 f_v6 z294 z299 z302 : Int} (h0 : ¬ z294 = 0) (h1 : (z294 = 1 → z299 = f_h1)) (h2 : (z294 = 2 → z299 = f_h2)) (h3 : (z294 = 3 → z299 = f_h3)) (h4 : (z294 = 4 → z299 = f_h4)) (h5 : (z294 = 5 → z299 = f_h5)) (h6 : (z294 = 6 → z299 = f_h6)) (h7 : (z294 = 1 → z302 = f_v1)) (h8 : (z294 = 2 → z302 = f_v2)) (h9 : (z294 = 3 → z302 = f_v3)) (h10 : (z294 = 4 → z302 = f_v4)) (h11 : (z294 = 5 → z302 = f_v5)) (h12 : (z294 = 6 → z302 = f_v6)) (h13 : f_h1 ≤ f_v1) (h14 : f_h2 ≤ f_v2) (h15 : f_h3 ≤ f_v3) (h16 : f_h4 ≤ f_v4) (h17 : f_h5 ≤ f_v5) (h18 : f_h6 ≤ f_v6) (h19 : ¬ z299 = z302) (h20 : 0 ≤ f_h1 ∧ f_h1 ≤ 5) (h21 : 0 ≤ f_h2 ∧ f_h2 ≤ 5) (h22 : 0 ≤ f_h3 ∧ f_h3 ≤ 5) (h23 : 0 ≤ f_h4 ∧ f_h4 ≤ 5) (h24 : 0 ≤ f_h5 ∧ f_h5 ≤ 5) (h25 : 0 ≤ f_h6 ∧ f_h6 ≤ 5) (h26 : 0 ≤ f_v1 ∧ f_v1 ≤ 5) (h27 : 0 ≤ f_v2 ∧ f_v2 ≤ 5) (h28 : 0 ≤ f_v3 ∧ f_v3 ≤ 5) (h29 : 0 ≤ f_v4 ∧ f_v4 ≤ 5) (h30 : 0 ≤ f_v5 ∧ f_v5 ≤ 5) (h31 : 0 ≤ f_v6 ∧ f_v6 ≤ 5) (h32 : 1 ≤ z294 ∧ z294 ≤ 6) (h33 : 0 ≤ z299 ∧ z299 ≤ 5) (h34 : 0 ≤ z302 ∧ z302 ≤ 5) : ¬ z294 = 0 := by omega
theorem vc_X12_isOffered_v_7 {f_h1 f_h2 f_h3 f_h4 f_h5 f_h6 f_v1 f_v2 f_v3 f_v4 f_v5 f_v6 z294 z299 z302 : Int} (h0 : (z294 = 1 → z299 = f_h1)) (h1 : (z294 = 2 → z299 = f_h2)) (h2 : (z294 = 3 → z299 = f_h3)) (h3 : (z294 = 4 → z299 = f_h4)) (h4 : (z294 = 5 → z299 = f_h5)) (h5 : (z294 = 6 → z299 = f_h6)) (h6 : (z294 = 1 → z302 = f_v1)) (h7 : (z294 = 2 → z302 = f_v2)) (h8 : (z294 = 3 → z302 = f_v3)) (h9 : (z294 = 4 → z302 = f_v4)) (h10 : (z294 = 5 → z302 = f_v5)) (h11 : (z294 = 6 → z302 = f_v6)) (h12 : ¬ z299 = z302) (h13 : f_h1 ≤ f_v1) (h14 : f_h2 ≤ f_v2) (h15 : f_h3 ≤ f_v3) (h16 : f_h4 ≤ f_v4) (h17 : f_h5 ≤ f_v5) (h18 : f_h6 ≤ f_v6) (h19 : ¬ z294 = 0) (h20 : 0 ≤ f_h1 ∧ f_h1 ≤ 5) (h21 : 0 ≤ f_h2 ∧ f_h2 ≤ 5) (h22 : 0 ≤ f_h3 ∧ f_h3 ≤ 5) (h23 : 0 ≤ f_h4 ∧ f_h4 ≤ 5) (h24 : 0 ≤ f_h5 ∧ f_h5 ≤ 5) (h25 : 0 ≤ f_h6 ∧ f_h6 ≤ 5) (h26 : 0 ≤ f_v1 ∧ f_v1 ≤ 5) (h27 : 0 ≤ f_v2 ∧ f_v2 ≤ 5) (h28 : 0 ≤ f_v3 ∧ f_v3 ≤ 5) (h29 : 0 ≤ f_v4 ∧ f_v4 ≤ 5) (h30 : 0 ≤ f_v5 ∧ f_v5 ≤ 5) (h31 : 0 ≤ f_v6 ∧ f_v6 ≤ 5) (h32 : 1 ≤ z294 ∧ z294 ≤ 6) (h33 : 0 ≤ z299 ∧ z299 ≤ 5) (h34 : 0 ≤ z302 ∧ z302 ≤ 5) : ¬ z299 = z302 := by omega
theorem vc_X12_isOffered_v_8 {f_h1 f_h2 f_h3 f_h4 f_h5 f_h6 f_v1 f_v2 f_v3 f_v4 f_v5 f_v6 z294 z299 z302 : Int} (h0 : ¬ z294 = 0) (h1 : (z294 = 1 → z299 = f_h1)) (h2 : (z294 = 2 → z299 = f_h2)) (h3 : (z294 = 3 → z299 = f_h3)) (h4 : (z294 = 4 → z299 = f_h4)) (h5 : (z294 = 5 → z299 = f_h5)) (h6 : (z294 = 6 → z299 = f_h6)) (h7 : (z294 = 1 → z302 = f_v1)) (h8 : (z294 = 2 → z302 = f_v2)) (h9 : (z294 = 3 → z302 = f_v3)) (h10 : (z294 = 4 → z302 = f_v4)) (h11 : (z294 = 5 → z302 = f_v5)) (h12 : (z294 = 6 → z302 = f_v6)) (h13 : ¬ z299 = z302) (h14 : f_h1 ≤ f_v1) (h15 : f_h2 ≤ f_v2) (h16 : f_h3 ≤ f_v3) (h17 : f_h4 ≤ f_v4) (h18 : f_h5 ≤ f_v5) (h19 : f_h6 ≤ f_v6) (h20 : 0 ≤ f_h1 ∧ f_h1 ≤ 5) (h21 : 0 ≤ f_h2 ∧ f_h2 ≤ 5) (h22 : 0 ≤ f_h3 ∧ f_h3 ≤ 5) (h23 : 0 ≤ f_h4 ∧ f_h4 ≤ 5) (h24 : 0 ≤ f_h5 ∧ f_h5 ≤ 5) (h25 : 0 ≤ f_h6 ∧ f_h6 ≤ 5) (h26 : 0 ≤ f_v1 ∧ f_v1 ≤ 5) (h27 : 0 ≤ f_v2 ∧ f_v2 ≤ 5) (h28 : 0 ≤ f_v3 ∧ f_v3 ≤ 5) (h29 : 0 ≤ f_v4 ∧ f_v4 ≤ 5) (h30 : 0 ≤ f_v5 ∧ f_v5 ≤ 5) (h31 : 0 ≤ f_v6 ∧ f_v6 ≤ 5) (h32 : 1 ≤ z294 ∧ z294 ≤ 6) (h33 : 0 ≤ z299 ∧ z299 ≤ 5) (h34 : 0 ≤ z302 ∧ z302 ≤ 5) : ((5 * z294) + z299) = 5 * z294 + z299 := by omega
theorem vc_X12_isOffered_v_9 {z322 : Int} (h0 : 0 ≤ z322 ∧ z322 ≤ 0) : z322 = z322 := by omega
theorem vc_X12_isOffered_v_10 {z306 z309 z321 z322 : Int} (h0 : ¬ z306 = (z309 - 1)) (h1 : z306 ≤ z321) (h2 : 0 ≤ z306 ∧ z306 ≤ 0) (h3 : 0 ≤ z309 ∧ z309 ≤ 7) (h4 : 0 ≤ z321 ∧ z321 ≤ 0) (h5 : 0 ≤ z322 ∧ z322 ≤ 0) : ¬ z322 = 1 ∨ z306 ≤ z321 := by omega
theorem vc_X12_isOffered_v_11 {z306 z309 z321 : Int} (h0 : z321 < z306) (h1 : ¬ z306 = (z309 - 1)) (h2 : 0 ≤ z306 ∧ z306 ≤ 7) (h3 : 0 ≤ z309 ∧ z309 ≤ 7) (h4 : 0 ≤ z321 ∧ z321 ≤ 0) : 1 ≤ z306 ∧ z306 ≤ 7 := by omega
theorem vc_X12_isOffered_v_13 {z306 z309 z321 z322 : Int} (h0 : ¬ z306 = (z309 - 1)) (h1 : z321 < z306) (h2 : 1 ≤ z306 ∧ z306 ≤ 7) (h3 : 0 ≤ z309 ∧ z309 ≤ 7) (h4 : 0 ≤ z321 ∧ z321 ≤ 0) (h5 : 0 ≤ z322 ∧ z322 ≤ 0) : ¬ z322 = 1 ∨ z306 ≤ z321 := by omega
theorem vc_X12_isOffered_v_15  : ((0 : Int) : Int) ≤ (0 : Int) := by omega
theorem vc_X12_isOffered_v_16 {z306 z309 : Int} (h0 : ¬ z306 = (z309 - 1)) (h1 : 0 ≤ z306 ∧ z306 ≤ 7) (h2 : 0 ≤ z309 ∧ z309 ≤ 7) : (z306 = z309 - 1 ∧ (0 : Int) = 1) ∨ (¬ z306 = z309 - 1 ∧ ¬ (0 : Int) = 1) := by omega
theorem vc_X12_isOffered_v_20 {z432 : Int} (h0 : 0 ≤ z432 ∧ z432 ≤ 1) : z432 = z432 := by omega
theorem vc_X12_isOffered_v_21 {z306 z309 z431 z432 : Int} (h0 : z306 = (z309 - 1)) (h1 : z306 ≤ z431) (h2 : 0 ≤ z306 ∧ z306 ≤ 6) (h3 : 1 ≤ z309 ∧ z309 ≤ 7) (h4 : 0 ≤ z431 ∧ z431 ≤ 6) (h5 : 0 ≤ z432 ∧ z432 ≤ 1) : ¬ z432 = 1 ∨ z306 ≤ z431 := by omega
theorem vc_X12_isOffered_v_22 {z306 z309 z431 : Int} (h0 : z431 < z306) (h1 : z306 = (z309 - 1)) (h2 : 0 ≤ z306 ∧ z306 ≤ 6) (h3 : 1 ≤ z309 ∧ z309 ≤ 7) (h4 : 0 ≤ z431 ∧ z431 ≤ 6) : 0 ≤ z431 ∧ z431 ≤ 5 := by omega
theorem vc_X12_isOffered_v_23 {z306 z309 z431 : Int} (h0 : z431 < z306) (h1 : z306 = (z309 - 1)) (h2 : 0 ≤ z306 ∧ z306 ≤ 6) (h3 : 1 ≤ z309 ∧ z309 ≤ 7) (h4 : 0 ≤ z431 ∧ z431 ≤ 5) : 1 ≤ z306 ∧ z306 ≤ 6 := by omega
theorem vc_X12_isOffered_v_25 {z432 : Int} (h0 : z432 = 0) (h1 : 0 ≤ z432 ∧ z432 ≤ 0) : z432 = z432 := by omega
theorem vc_X12_isOffered_v_26 {z306 z309 z431 z432 : Int} (h0 : z306 = (z309 - 1)) (h1 : z431 < z306) (h2 : z432 = 0) (h3 : 1 ≤ z306 ∧ z306 ≤ 6) (h4 : 1 ≤ z309 ∧ z309 ≤ 7) (h5 : 0 ≤ z431 ∧ z431 ≤ 5) (h6 : 0 ≤ z432 ∧ z432 ≤ 0) : ¬ z432 = 1 ∨ z306 ≤ z431 := by omega
theorem vc_X12_isOffered_v_28 {f_h1 f_h2 f_h3 f_h4 f_h5 f_h6 f_v1 f_v2 f_v3 f_v4 f_v5 f_v6 z294 z299 z302 z306 z309 z431 : Int} (h0 : ¬ z294 = 0) (h1 : (z294 = 1 → z299 = f_h1)) (h2 : (z294 = 2 → z299 = f_h2)) (h3 : (z294 = 3 → z299 = f_h3)) (h4 : (z294 = 4 → z299 = f_h4)) (h5 : (z294 = 5 → z299 = f_h5)) (h6 : (z294 = 6 → z299 = f_h6)) (h7 : (z294 = 1 → z302 = f_v1)) (h8 : (z294 = 2 → z302 = f_v2)) (h9 : (z294 = 3 → z302 = f_v3)) (h10 : (z294 = 4 → z302 = f_v4)) (h11 : (z294 = 5 → z302 = f_v5)) (h12 : (z294 = 6 → z302 = f_v6)) (h13 : ¬ z299 = z302) (h14 : z431 < z306) (h15 : f_h1 ≤ f_v1) (h16 : f_h2 ≤ f_v2) (h17 : f_h3 ≤ f_v3) (h18 : f_h4 ≤ f_v4) (h19 : f_h5 ≤ f_v5) (h20 : f_h6 ≤ f_v6) (h21 : z306 = (z309 - 1)) (h22 : 0 ≤ f_h1 ∧ f_h1 ≤ 5) (h23 : 0 ≤ f_h2 ∧ f_h2 ≤ 5) (h24 : 0 ≤ f_h3 ∧ f_h3 ≤ 5) (h25 : 0 ≤ f_h4 ∧ f_h4 ≤ 5) (h26 : 0 ≤ f_h5 ∧ f_h5 ≤ 5) (h27 : 0 ≤ f_h6 ∧ f_h6 ≤ 5) (h28 : 0 ≤ f_v1 ∧ f_v1 ≤ 5) (h29 : 0 ≤ f_v2 ∧ f_v2 ≤ 5) (h30 : 0 ≤ f_v3 ∧ f_v3 ≤ 5) (h31 : 0 ≤ f_v4 ∧ f_v4 ≤ 5) (h32 : 0 ≤ f_v5 ∧ f_v5 ≤ 5) (h33 : 0 ≤ f_v6 ∧ f_v6 ≤ 5) (h34 : 1 ≤ z294 ∧ z294 ≤ 6) (h35 : 0 ≤ z299 ∧ z299 ≤ 5) (h36 : 0 ≤ z302 ∧ z302 ≤ 5) (h37 : 1 ≤ z306 ∧ z306 ≤ 6) (h38 : 1 ≤ z309 ∧ z309 ≤ 7) (h39 : 0 ≤ z431 ∧ z431 ≤ 5) : 0 ≤ ((8 * ((5 * z294) + z299)) + z431) ∧ ((8 * ((5 * z294) + z299)) + z431) < 280 := by omega
theorem vc_X12_isOffered_v_29 {N z306 z309 z431 : Int} (h0 : (7 - z431) < N + 1) (h1 : z431 < z306) (h2 : z306 = (z309 - 1)) (h3 : 1 ≤ z306 ∧ z306 ≤ 6) (h4 : 1 ≤ z309 ∧ z309 ≤ 7) (h5 : 0 ≤ z431 ∧ z431 ≤ 5) : (7 - (z431 + 1)) < N := by omega
theorem vc_X12_isOffered_v_31 {z306 z309 z431 : Int} (h0 : z306 = (z309 - 1)) (h1 : z431 < z306) (h2 : 1 ≤ z306 ∧ z306 ≤ 6) (h3 : 1 ≤ z309 ∧ z309 ≤ 7) (h4 : 0 ≤ z431 ∧ z431 ≤ 5) : 0 ≤ z431 ∧ z431 < z306 := by omega
theorem vc_X12_isOffered_v_32 {f_h1 f_h2 f_h3 f_h4 f_h5 f_h6 f_v1 f_v2 f_v3 f_v4 f_v5 f_v6 z294 z299 z302 z306 z309 z431 : Int} (h0 : ¬ z294 = 0) (h1 : (z294 = 1 → z299 = f_h1)) (h2 : (z294 = 2 → z299 = f_h2)) (h3 : (z294 = 3 → z299 = f_h3)) (h4 : (z294 = 4 → z299 = f_h4)) (h5 : (z294 = 5 → z299 = f_h5)) (h6 : (z294 = 6 → z299 = f_h6)) (h7 : (z294 = 1 → z302 = f_v1)) (h8 : (z294 = 2 → z302 = f_v2)) (h9 : (z294 = 3 → z302 = f_v3)) (h10 : (z294 = 4 → z302 = f_v4)) (h11 : (z294 = 5 → z302 = f_v5)) (h12 : (z294 = 6 → z302 = f_v6)) (h13 : ¬ z299 = z302) (h14 : z431 < z306) (h15 : f_h1 ≤ f_v1) (h16 : f_h2 ≤ f_v2) (h17 : f_h3 ≤ f_v3) (h18 : f_h4 ≤ f_v4) (h19 : f_h5 ≤ f_v5) (h20 : f_h6 ≤ f_v6) (h21 : z306 = (z309 - 1)) (h22 : 0 ≤ f_h1 ∧ f_h1 ≤ 5) (h23 : 0 ≤ f_h2 ∧ f_h2 ≤ 5) (h24 : 0 ≤ f_h3 ∧ f_h3 ≤ 5) (h25 : 0 ≤ f_h4 ∧ f_h4 ≤ 5) (h26 : 0 ≤ f_h5 ∧ f_h5 ≤ 5) (h27 : 0 ≤ f_h6 ∧ f_h6 ≤ 5) (h28 : 0 ≤ f_v1 ∧ f_v1 ≤ 5) (h29 : 0 ≤ f_v2 ∧ f_v2 ≤ 5) (h30 : 0 ≤ f_v3 ∧ f_v3 ≤ 5) (h31 : 0 ≤ f_v4 ∧ f_v4 ≤ 5) (h32 : 0 ≤ f_v5 ∧ f_v5 ≤ 5) (h33 : 0 ≤ f_v6 ∧ f_v6 ≤ 5) (h34 : 1 ≤ z294 ∧ z294 ≤ 6) (h35 : 0 ≤ z299 ∧ z299 ≤ 5) (h36 : 0 ≤ z302 ∧ z302 ≤ 5) (h37 : 1 ≤ z306 ∧ z306 ≤ 6) (h38 : 1 ≤ z309 ∧ z309 ≤ 7) (h39 : 0 ≤ z431 ∧ z431 ≤ 5) : 0 ≤ ((5 * z294) + z299) ∧ ((8 * ((5 * z294) + z299)) + z431) = 8 * ((5 * z294) + z299) + z431 := by omega
theorem vc_X12_isOffered_v_33 {p1 z306 z309 z431 : Int} (h0 : z431 < z306) (h1 : z306 = (z309 - 1)) (h2 : 5 ≤ p1 ∧ p1 ≤ 34) (h3 : 1 ≤ z306 ∧ z306 ≤ 6) (h4 : 1 ≤ z309 ∧ z309 ≤ 7) (h5 : 0 ≤ z431 ∧ z431 ≤ 5) : 0 ≤ p1 ∧ (((8 * p1) + z431) + 1) = 8 * p1 + z431 + 1 := by omega
theorem vc_X12_isOffered_v_34 {z448 z451 : Int} (h0 : ¬ z448 = z451) (h1 : 0 ≤ z448 ∧ z448 ≤ 6) (h2 : 0 ≤ z451 ∧ z451 ≤ 6) : (z448 = z451 ∧ (0 : Int) = 1) ∨ (¬ z448 = z451 ∧ ¬ (0 : Int) = 1) := by omega
theorem vc_X12_isOffered_v_35 {z448 z451 : Int} (h0 : z448 = z451) (h1 : 0 ≤ z448 ∧ z448 ≤ 6) (h2 : 0 ≤ z451 ∧ z451 ≤ 6) : (z448 = z451 ∧ (1 : Int) = 1) ∨ (¬ z448 = z451 ∧ ¬ (1 : Int) = 1) := by omega
theorem vc_X12_isOffered_v_37 {z306 z309 : Int} (h0 : z306 = (z309 - 1)) (h1 : 0 ≤ z306 ∧ z306 ≤ 6) (h2 : 1 ≤ z309 ∧ z309 ≤ 7) : (z306 = z309 - 1 ∧ (1 : Int) = 1) ∨ (¬ z306 = z309 - 1 ∧ ¬ (1 : Int) = 1) := by omega
theorem vc_X12_isOffered_v_38 {f_h1 f_h2 f_h3 f_h4 f_h5 f_h6 f_v1 f_v2 f_v3 f_v4 f_v5 f_v6 z294 z299 z302 : Int} (h0 : ¬ z294 = 0) (h1 : (z294 = 1 → z299 = f_h1)) (h2 : (z294 = 2 → z299 = f_h2)) (h3 : (z294 = 3 → z299 = f_h3)) (h4 : (z294 = 4 → z299 = f_h4)) (h5 : (z294 = 5 → z299 = f_h5)) (h6 : (z294 = 6 → z299 = f_h6)) (h7 : (z294 = 1 → z302 = f_v1)) (h8 : (z294 = 2 → z302 = f_v2)) (h9 : (z294 = 3 → z302 = f_v3)) (h10 : (z294 = 4 → z302 = f_v4)) (h11 : (z294 = 5 → z302 = f_v5)) (h12 : (z294 = 6 → z302 = f_v6)) (h13 : f_h1 ≤ f_v1) (h14 : f_h2 ≤ f_v2) (h15 : f_h3 ≤ f_v3) (h16 : f_h4 ≤ f_v4) (h17 : f_h5 ≤ f_v5) (h18 : f_h6 ≤ f_v6) (h19 : z299 = z302) (h20 : 0 ≤ f_h1 ∧ f_h1 ≤ 5) (h21 : 0 ≤ f_h2 ∧ f_h2 ≤ 5) (h22 : 0 ≤ f_h3 ∧ f_h3 ≤ 5) (h23 : 0 ≤ f_h4 ∧ f_h4 ≤ 5) (h24 : 0 ≤ f_h5 ∧ f_h5 ≤ 5) (h25 : 0 ≤ f_h6 ∧ f_h6 ≤ 5) (h26 : 0 ≤ f_v1 ∧ f_v1 ≤ 5) (h27 : 0 ≤ f_v2 ∧ f_v2 ≤ 5) (h28 : 0 ≤ f_v3 ∧ f_v3 ≤ 5) (h29 : 0 ≤ f_v4 ∧ f_v4 ≤ 5) (h30 : 0 ≤ f_v5 ∧ f_v5 ≤ 5) (h31 : 0 ≤ f_v6 ∧ f_v6 ≤ 5) (h32 : 1 ≤ z294 ∧ z294 ≤ 6) (h33 : 0 ≤ z299 ∧ z299 ≤ 5) (h34 : 0 ≤ z302 ∧ z302 ≤ 5) : ¬ z294 = 0 := by omega
theorem vc_X12_isOffered_v_39 {f_h1 f_h2 f_h3 f_h4 f_h5 f_h6 f_v1 f_v2 f_v3 f_v4 f_v5 f_v6 z294 z299 z302 : Int} (h0 : (z294 = 1 → z299 = f_h1)) (h1 : (z294 = 2 → z299 = f_h2)) (h2 : (z294 = 3 → z299 = f_h3)) (h3 : (z294 = 4 → z299 = f_h4)) (h4 : (z294 = 5 → z299 = f_h5)) (h5 : (z294 = 6 → z299 = f_h6)) (h6 : (z294 = 1 → z302 = f_v1)) (h7 : (z294 = 2 → z302 = f_v2)) (h8 : (z294 = 3 → z302 = f_v3)) (h9 : (z294 = 4 → z302 = f_v4)) (h10 : (z294 = 5 → z302 = f_v5)) (h11 : (z294 = 6 → z302 = f_v6)) (h12 : z299 = z302) (h13 : f_h1 ≤ f_v1) (h14 : f_h2 ≤ f_v2) (h15 : f_h3 ≤ f_v3) (h16 : f_h4 ≤ f_v4) (h17 : f_h5 ≤ f_v5) (h18 : f_h6 ≤ f_v6) (h19 : ¬ z294 = 0) (h20 : 0 ≤ f_h1 ∧ f_h1 ≤ 5) (h21 : 0 ≤ f_h2 ∧ f_h2 ≤ 5) (h22 : 0 ≤ f_h3 ∧ f_h3 ≤ 5) (h23 : 0 ≤ f_h4 ∧ f_h4 ≤ 5) (h24 : 0 ≤ f_h5 ∧ f_h5 ≤ 5) (h25 : 0 ≤ f_h6 ∧ f_h6 ≤ 5) (h26 : 0 ≤ f_v1 ∧ f_v1 ≤ 5) (h27 : 0 ≤ f_v2 ∧ f_v2 ≤ 5) (h28 : 0 ≤ f_v3 ∧ f_v3 ≤ 5) (h29 : 0 ≤ f_v4 ∧ f_v4 ≤ 5) (h30 : 0 ≤ f_v5 ∧ f_v5 ≤ 5) (h31 : 0 ≤ f_v6 ∧ f_v6 ≤ 5) (h32 : 1 ≤ z294 ∧ z294 ≤ 6) (h33 : 0 ≤ z299 ∧ z299 ≤ 5) (h34 : 0 ≤ z302 ∧ z302 ≤ 5) : z299 = z302 := by omega
theorem vc_X12_isOffered_v_40  : ¬ ((0 : Int) : Int) = (1 : Int) := by omega
theorem vc_X12_isOffered_v_43 {z456 : Int} (h0 : ¬ z456 = 2) (h1 : 0 ≤ z456 ∧ z456 ≤ 7) : (z456 = 2 ∧ (0 : Int) = 1) ∨ (¬ z456 = 2 ∧ ¬ (0 : Int) = 1) := by omega
theorem vc_X12_isOffered_v_45 {z456 : Int} (h0 : z456 = 2) (h1 : 2 ≤ z456 ∧ z456 ≤ 2) : (z456 = 2 ∧ (1 : Int) = 1) ∨ (¬ z456 = 2 ∧ ¬ (1 : Int) = 1) := by omega
set_option maxRecDepth 4000 in
set_option maxHeartbeats 4000000 in
theorem c_X12_isOffered_v {l : Launch} {D : va_G} {c : Nat → ClassId} {H0 : Heap} {sa : Nat × Nat × (Nat → Int32)} {w : mW} {μ : mM} (hw : mWF w) (hT : mT w μ) {p1 : Int} (hp1 : 5 ≤ p1 ∧ p1 ≤ 34) {f_h1 : Int} (q_f_h1 : μ 188 ((1 : Int).toNat) = f_h1) {f_h2 : Int} (q_f_h2 : μ 188 ((2 : Int).toNat) = f_h2) {f_h3 : Int} (q_f_h3 : μ 188 ((3 : Int).toNat) = f_h3) {f_h4 : Int} (q_f_h4 : μ 188 ((4 : Int).toNat) = f_h4) {f_h5 : Int} (q_f_h5 : μ 188 ((5 : Int).toNat) = f_h5) {f_h6 : Int} (q_f_h6 : μ 188 ((6 : Int).toNat) = f_h6) {f_v1 : Int} (q_f_v1 : μ 184 ((1 : Int).toNat) = f_v1) {f_v2 : Int} (q_f_v2 : μ 184 ((2 : Int).toNat) = f_v2) {f_v3 : Int} (q_f_v3 : μ 184 ((3 : Int).toNat) = f_v3) {f_v4 : Int} (q_f_v4 : μ 184 ((4 : Int).toNat) = f_v4) {f_v5 : Int} (q_f_v5 : μ 184 ((5 : Int).toNat) = f_v5) {f_v6 : Int} (q_f_v6 : μ 184 ((6 : Int).toNat) = f_v6) (hq0 : f_h1 ≤ f_v1) (hq1 : f_h2 ≤ f_v2) (hq2 : f_h3 ≤ f_v3) (hq3 : f_h4 ≤ f_v4) (hq4 : f_h5 ≤ f_v5) (hq5 : f_h6 ≤ f_v6) : sC (gG l D c H0 sa) mX12_isOffered 1 0 0 [.ref 106, iv p1] (mk w μ) (qP w μ (fun z => (0 ≤ z ∧ z ≤ 1) ∧ ((z = 1 ↔ offd μ 184 185 186 8 (μ 188) p1.toNat)) ∧ True)) := by
  refine sC.of rfl (by decide) (le_t rfl) ?_
  have ht_f_h1 : (0 ≤ f_h1 ∧ f_h1 ≤ 5) := by rw [← q_f_h1]; exact hT 188 188 (A_188 hw) ((1 : Int).toNat)
  have ht_f_h2 : (0 ≤ f_h2 ∧ f_h2 ≤ 5) := by rw [← q_f_h2]; exact hT 188 188 (A_188 hw) ((2 : Int).toNat)
  have ht_f_h3 : (0 ≤ f_h3 ∧ f_h3 ≤ 5) := by rw [← q_f_h3]; exact hT 188 188 (A_188 hw) ((3 : Int).toNat)
  have ht_f_h4 : (0 ≤ f_h4 ∧ f_h4 ≤ 5) := by rw [← q_f_h4]; exact hT 188 188 (A_188 hw) ((4 : Int).toNat)
  have ht_f_h5 : (0 ≤ f_h5 ∧ f_h5 ≤ 5) := by rw [← q_f_h5]; exact hT 188 188 (A_188 hw) ((5 : Int).toNat)
  have ht_f_h6 : (0 ≤ f_h6 ∧ f_h6 ≤ 5) := by rw [← q_f_h6]; exact hT 188 188 (A_188 hw) ((6 : Int).toNat)
  have ht_f_v1 : (0 ≤ f_v1 ∧ f_v1 ≤ 5) := by rw [← q_f_v1]; exact hT 184 184 (A_184 hw) ((1 : Int).toNat)
  have ht_f_v2 : (0 ≤ f_v2 ∧ f_v2 ≤ 5) := by rw [← q_f_v2]; exact hT 184 184 (A_184 hw) ((2 : Int).toNat)
  have ht_f_v3 : (0 ≤ f_v3 ∧ f_v3 ≤ 5) := by rw [← q_f_v3]; exact hT 184 184 (A_184 hw) ((3 : Int).toNat)
  have ht_f_v4 : (0 ≤ f_v4 ∧ f_v4 ≤ 5) := by rw [← q_f_v4]; exact hT 184 184 (A_184 hw) ((4 : Int).toNat)
  have ht_f_v5 : (0 ≤ f_v5 ∧ f_v5 ≤ 5) := by rw [← q_f_v5]; exact hT 184 184 (A_184 hw) ((5 : Int).toNat)
  have ht_f_v6 : (0 ≤ f_v6 ∧ f_v6 ≤ 5) := by rw [← q_f_v6]; exact hT 184 184 (A_184 hw) ((6 : Int).toNat)
  refine mr_lvE (lv' := [(0, .ref 106), (1, iv p1)]) rfl ?_
  refine sv_aload_n (pc := 0) dX12_isOffered_0 rfl rfl ?_
  refine gf_X12_120 (pc := 1) dX12_isOffered_1 wF_X12_520 (A_106 hw) hT ?_
  refine mr_bipush (pc := 4) (z := 8) dX12_isOffered_4 (by decide) ?_
  refine mr_iload_n (pc := 6) (z := p1) dX12_isOffered_6 rfl rfl ?_
  refine mr_imul (pc := 7) (x := 8) (y := p1) dX12_isOffered_7 ?_
  refine mr_iconst (pc := 8) (z := 1) dX12_isOffered_8 ?_
  refine mr_iadd (pc := 9) (x := (8 * p1)) (y := 1) dX12_isOffered_9 ?_
  refine la_186 (pc := 10) dX12_isOffered_10 (A_186 hw) hT (rIx (n := 280) (rAdd (e := 41) (f := 273) (rMulL (n := 8) (e := 40) (f := 272) hp1 rfl) (rR (x := 1)) rfl) rfl) fun z294 q295 h296 => ?_
  refine mr_istore_n (pc := 11) (lv' := [(2, iv z294), (0, .ref 106), (1, iv p1)]) dX12_isOffered_11 rfl (by decide) rfl ?_
  refine mr_iload_n (pc := 12) (z := z294) dX12_isOffered_12 rfl rfl ?_
  refine mr_if_ne (pc := 13) (tgt := 32) dX12_isOffered_13 (by decide) (r32 h296 rfl) (fun h297 => ?_) (fun h297 => ?_)
  · have h298 : 1 ≤ z294 ∧ z294 ≤ 6 := (vc_X12_isOffered_1 h297 h296)
    refine sv_aload_n (pc := 32) dX12_isOffered_32 rfl rfl ?_
    refine gf_X12_122 (pc := 33) dX12_isOffered_33 wF_X12_526 (A_106 hw) hT ?_
    refine mr_iload_n (pc := 36) (z := z294) dX12_isOffered_36 rfl rfl ?_
    refine la_188 (pc := 37) dX12_isOffered_37 (A_188 hw) hT (rIx (n := 7) h298 rfl) fun z299 q300 h301 => ?_
    refine sv_aload_n (pc := 38) dX12_isOffered_38 rfl rfl ?_
    refine gf_X12_118 (pc := 39) dX12_isOffered_39 wF_X12_514 (A_106 hw) hT ?_
    refine mr_iload_n (pc := 42) (z := z294) dX12_isOffered_42 rfl rfl ?_
    refine la_184 (pc := 43) dX12_isOffered_43 (A_184 hw) hT (rIx (n := 7) h298 rfl) fun z302 q303 h304 => ?_
    refine mr_icmp_ne (pc := 44) (tgt := 49) dX12_isOffered_44 (by decide) (r32 h301 rfl) (r32 h304 rfl) (fun h305 => ?_) (fun h305 => ?_)
    · refine mr_iconst (pc := 49) (z := 5) dX12_isOffered_49 ?_
      refine mr_iload_n (pc := 50) (z := z294) dX12_isOffered_50 rfl rfl ?_
      refine mr_imul (pc := 51) (x := 5) (y := z294) dX12_isOffered_51 ?_
      refine sv_aload_n (pc := 52) dX12_isOffered_52 rfl rfl ?_
      refine gf_X12_122 (pc := 53) dX12_isOffered_53 wF_X12_526 (A_106 hw) hT ?_
      refine mr_iload_n (pc := 56) (z := z294) dX12_isOffered_56 rfl rfl ?_
      refine lk_188 (pc := 57) dX12_isOffered_57 (A_188 hw) (rIx (n := 7) h298 rfl) q300 ?_
      refine mr_iadd (pc := 58) (x := (5 * z294)) (y := z299) dX12_isOffered_58 ?_
      refine mr_istore_n (pc := 59) (lv' := [(3, iv ((5 * z294) + z299)), (2, iv z294), (0, .ref 106), (1, iv p1)]) dX12_isOffered_59 rfl (by decide) rfl ?_
      refine sv_aload_n (pc := 60) dX12_isOffered_60 rfl rfl ?_
      refine gf_X12_119 (pc := 61) dX12_isOffered_61 wF_X12_517 (A_106 hw) hT ?_
      refine mr_iload_n (pc := 64) (z := ((5 * z294) + z299)) dX12_isOffered_64 rfl rfl ?_
      refine la_185 (pc := 65) dX12_isOffered_65 (A_185 hw) hT (vc_X12_isOffered_2 h297 (cgr q300 q_f_h1) (cgr q300 q_f_h2) (cgr q300 q_f_h3) (cgr q300 q_f_h4) (cgr q300 q_f_h5) (cgr q300 q_f_h6) (cgr q303 q_f_v1) (cgr q303 q_f_v2) (cgr q303 q_f_v3) (cgr q303 q_f_v4) (cgr q303 q_f_v5) (cgr q303 q_f_v6) h305 hq0 hq1 hq2 hq3 hq4 hq5 ht_f_h1 ht_f_h2 ht_f_h3 ht_f_h4 ht_f_h5 ht_f_h6 ht_f_v1 ht_f_v2 ht_f_v3 ht_f_v4 ht_f_v5 ht_f_v6 h298 h301 h304) fun z306 q307 h308 => ?_
      refine sv_aload_n (pc := 66) dX12_isOffered_66 rfl rfl ?_
      refine gf_X12_119 (pc := 67) dX12_isOffered_67 wF_X12_517 (A_106 hw) hT ?_
      refine mr_iload_n (pc := 70) (z := p1) dX12_isOffered_70 rfl rfl ?_
      refine la_185 (pc := 71) dX12_isOffered_71 (A_185 hw) hT (rIx (n := 35) hp1 rfl) fun z309 q310 h311 => ?_
      refine mr_iconst (pc := 72) (z := 1) dX12_isOffered_72 ?_
      refine mr_isub (pc := 73) (x := z309) (y := 1) dX12_isOffered_73 ?_
      refine mr_icmp_ne (pc := 74) (tgt := 81) dX12_isOffered_74 (by decide) (r32 h308 rfl) (r32 (rSub (e := (-1)) (f := 6) h311 (rR (x := 1)) rfl) rfl) (fun h312 => ?_) (fun h312 => ?_)
      · refine mr_iconst (pc := 81) (z := 0) dX12_isOffered_81 ?_
        refine mr_istore (pc := 82) (lv' := [(4, iv 0), (3, iv ((5 * z294) + z299)), (2, iv z294), (0, .ref 106), (1, iv p1)]) dX12_isOffered_82 (by decide) rfl ?_
        refine mr_iconst (pc := 84) (z := 0) dX12_isOffered_84 ?_
        refine mr_istore (pc := 85) (lv' := [(5, iv 0), (4, iv 0), (3, iv ((5 * z294) + z299)), (2, iv z294), (0, .ref 106), (1, iv p1)]) dX12_isOffered_85 (by decide) rfl ?_
        have L323 : ∀ (nL323 : Nat) (z322 z321 : Int), True → (0 ≤ z322 ∧ z322 ≤ 0) → (0 ≤ z321 ∧ z321 ≤ 0) → suI μ 185 186 8 p1.toNat (((5 * z294) + z299)).toNat z321 z322 → 1 < (nL323 : Int) → sV (gG l D c H0 sa) mX12_isOffered (sRm 1 0 0) (sZ (gG l D c H0 sa) 0 0 (qP w μ (fun z => (0 ≤ z ∧ z ≤ 1) ∧ ((z = 1 ↔ offd μ 184 185 186 8 (μ 188) p1.toNat)) ∧ True))) 87 [(0, .ref 106), (1, iv p1), (3, iv ((5 * z294) + z299)), (4, iv z322), (5, iv z321)] [] (mk w μ) 0 0 := by
          intro nL323
          induction nL323 with
          | zero => intro z322 z321 _ h324 h325 R329 h330; exact ((vc_X8_lastStanding_2 h330)).elim
          | succ nL323 ih331 =>
            intro z322 z321 _ h324 h325 R329 h330
            refine mr_iload (pc := 87) (z := z321) dX12_isOffered_87 rfl ?_
            refine sv_aload_n (pc := 89) dX12_isOffered_89 rfl rfl ?_
            refine gf_X12_119 (pc := 90) dX12_isOffered_90 wF_X12_517 (A_106 hw) hT ?_
            refine mr_iload_n (pc := 93) (z := ((5 * z294) + z299)) dX12_isOffered_93 rfl rfl ?_
            refine lk_185 (pc := 94) dX12_isOffered_94 (A_185 hw) (vc_X12_isOffered_2 h297 (cgr q300 q_f_h1) (cgr q300 q_f_h2) (cgr q300 q_f_h3) (cgr q300 q_f_h4) (cgr q300 q_f_h5) (cgr q300 q_f_h6) (cgr q303 q_f_v1) (cgr q303 q_f_v2) (cgr q303 q_f_v3) (cgr q303 q_f_v4) (cgr q303 q_f_v5) (cgr q303 q_f_v6) h305 hq0 hq1 hq2 hq3 hq4 hq5 ht_f_h1 ht_f_h2 ht_f_h3 ht_f_h4 ht_f_h5 ht_f_h6 ht_f_v1 ht_f_v2 ht_f_v3 ht_f_v4 ht_f_v5 ht_f_v6 h298 h301 h304) q307 ?_
            refine mr_icmp_ge (pc := 95) (tgt := 145) dX12_isOffered_95 (by decide) (r32 h325 rfl) (r32 h308 rfl) (fun h332 => ?_) (fun h332 => ?_)
            · have h333 : 0 ≤ z306 ∧ z306 ≤ 0 := (vc_X12_isOffered_v_4 h332 h312 h308 h311 h325)
              refine mr_iload (pc := 145) (z := z322) dX12_isOffered_145 rfl ?_
              exact mr_zretP dX12_isOffered_147 rfl (rW (c := 0) (d := 1) h324 rfl) (le_t rfl) (le_t rfl) ⟨(rW (c := 0) (d := 1) h324 rfl), (offd.go q295 (vc_X12_isOffered_v_5 hp1) (vc_X12_isOffered_v_6 h297 (cgr q300 q_f_h1) (cgr q300 q_f_h2) (cgr q300 q_f_h3) (cgr q300 q_f_h4) (cgr q300 q_f_h5) (cgr q300 q_f_h6) (cgr q303 q_f_v1) (cgr q303 q_f_v2) (cgr q303 q_f_v3) (cgr q303 q_f_v4) (cgr q303 q_f_v5) (cgr q303 q_f_v6) hq0 hq1 hq2 hq3 hq4 hq5 h305 ht_f_h1 ht_f_h2 ht_f_h3 ht_f_h4 ht_f_h5 ht_f_h6 ht_f_v1 ht_f_v2 ht_f_v3 ht_f_v4 ht_f_v5 ht_f_v6 h298 h301 h304) q300 q303 (vc_X12_isOffered_v_7 (cgr q300 q_f_h1) (cgr q300 q_f_h2) (cgr q300 q_f_h3) (cgr q300 q_f_h4) (cgr q300 q_f_h5) (cgr q300 q_f_h6) (cgr q303 q_f_v1) (cgr q303 q_f_v2) (cgr q303 q_f_v3) (cgr q303 q_f_v4) (cgr q303 q_f_v5) (cgr q303 q_f_v6) h305 hq0 hq1 hq2 hq3 hq4 hq5 h297 ht_f_h1 ht_f_h2 ht_f_h3 ht_f_h4 ht_f_h5 ht_f_h6 ht_f_v1 ht_f_v2 ht_f_v3 ht_f_v4 ht_f_v5 ht_f_v6 h298 h301 h304) (vc_X12_isOffered_v_8 h297 (cgr q300 q_f_h1) (cgr q300 q_f_h2) (cgr q300 q_f_h3) (cgr q300 q_f_h4) (cgr q300 q_f_h5) (cgr q300 q_f_h6) (cgr q303 q_f_v1) (cgr q303 q_f_v2) (cgr q303 q_f_v3) (cgr q303 q_f_v4) (cgr q303 q_f_v5) (cgr q303 q_f_v6) h305 hq0 hq1 hq2 hq3 hq4 hq5 ht_f_h1 ht_f_h2 ht_f_h3 ht_f_h4 ht_f_h5 ht_f_h6 ht_f_v1 ht_f_v2 ht_f_v3 ht_f_v4 ht_f_v5 ht_f_v6 h298 h301 h304) R329 (vc_X12_isOffered_v_9 h324) q307 (vc_X12_isOffered_v_10 h312 h332 h333 h311 h325 h324)), trivial⟩
            have h334 : 1 ≤ z306 ∧ z306 ≤ 7 := (vc_X12_isOffered_v_11 h332 h312 h308 h311 h325)
            refine mr_iload (pc := 98) (z := z322) dX12_isOffered_98 rfl ?_
            refine mr_if_eq (pc := 100) (tgt := 145) dX12_isOffered_100 (by decide) (r32 h324 rfl) (fun _ => ?_) (fun h => ((vc_X10_firstWrongStep_7 h h324)).elim)
            refine mr_iload (pc := 145) (z := z322) dX12_isOffered_145 rfl ?_
            exact mr_zretP dX12_isOffered_147 rfl (rW (c := 0) (d := 1) h324 rfl) (le_t rfl) (le_t rfl) ⟨(rW (c := 0) (d := 1) h324 rfl), (offd.go q295 (vc_X12_isOffered_v_5 hp1) (vc_X12_isOffered_v_6 h297 (cgr q300 q_f_h1) (cgr q300 q_f_h2) (cgr q300 q_f_h3) (cgr q300 q_f_h4) (cgr q300 q_f_h5) (cgr q300 q_f_h6) (cgr q303 q_f_v1) (cgr q303 q_f_v2) (cgr q303 q_f_v3) (cgr q303 q_f_v4) (cgr q303 q_f_v5) (cgr q303 q_f_v6) hq0 hq1 hq2 hq3 hq4 hq5 h305 ht_f_h1 ht_f_h2 ht_f_h3 ht_f_h4 ht_f_h5 ht_f_h6 ht_f_v1 ht_f_v2 ht_f_v3 ht_f_v4 ht_f_v5 ht_f_v6 h298 h301 h304) q300 q303 (vc_X12_isOffered_v_7 (cgr q300 q_f_h1) (cgr q300 q_f_h2) (cgr q300 q_f_h3) (cgr q300 q_f_h4) (cgr q300 q_f_h5) (cgr q300 q_f_h6) (cgr q303 q_f_v1) (cgr q303 q_f_v2) (cgr q303 q_f_v3) (cgr q303 q_f_v4) (cgr q303 q_f_v5) (cgr q303 q_f_v6) h305 hq0 hq1 hq2 hq3 hq4 hq5 h297 ht_f_h1 ht_f_h2 ht_f_h3 ht_f_h4 ht_f_h5 ht_f_h6 ht_f_v1 ht_f_v2 ht_f_v3 ht_f_v4 ht_f_v5 ht_f_v6 h298 h301 h304) (vc_X12_isOffered_v_8 h297 (cgr q300 q_f_h1) (cgr q300 q_f_h2) (cgr q300 q_f_h3) (cgr q300 q_f_h4) (cgr q300 q_f_h5) (cgr q300 q_f_h6) (cgr q303 q_f_v1) (cgr q303 q_f_v2) (cgr q303 q_f_v3) (cgr q303 q_f_v4) (cgr q303 q_f_v5) (cgr q303 q_f_v6) h305 hq0 hq1 hq2 hq3 hq4 hq5 ht_f_h1 ht_f_h2 ht_f_h3 ht_f_h4 ht_f_h5 ht_f_h6 ht_f_v1 ht_f_v2 ht_f_v3 ht_f_v4 ht_f_v5 ht_f_v6 h298 h301 h304) R329 (vc_X12_isOffered_v_9 h324) q307 (vc_X12_isOffered_v_13 h312 h332 h334 h311 h325 h324)), trivial⟩
        refine mr_lvS (lv' := [(0, .ref 106), (1, iv p1), (3, iv ((5 * z294) + z299)), (4, iv 0), (5, iv 0)]) (List.forall_mem_cons.mpr ⟨rfl, List.forall_mem_cons.mpr ⟨rfl, List.forall_mem_cons.mpr ⟨rfl, List.forall_mem_cons.mpr ⟨rfl, List.forall_mem_cons.mpr ⟨rfl, fun _ h => absurd h List.not_mem_nil⟩⟩⟩⟩⟩) ?_
        exact L323 2 0 0 trivial (rR (x := 0)) (rR (x := 0)) (suI.start q307 q310 vc_X12_isOffered_v_15 (vc_X12_isOffered_v_16 h312 h308 h311)) vc_X8_lastStanding_7
      have h335 : 0 ≤ z306 ∧ z306 ≤ 6 := (vc_X12_isOffered_11 h312 h308 h311)
      have h336 : 1 ≤ z309 ∧ z309 ≤ 7 := (vc_X12_isOffered_12 h312 h335 h311)
      refine mr_iconst (pc := 77) (z := 1) dX12_isOffered_77 ?_
      refine sv_goto (pc := 78) (tgt := 82) dX12_isOffered_78 (by decide) ?_
      refine mr_istore (pc := 82) (lv' := [(4, iv 1), (3, iv ((5 * z294) + z299)), (2, iv z294), (0, .ref 106), (1, iv p1)]) dX12_isOffered_82 (by decide) rfl ?_
      refine mr_iconst (pc := 84) (z := 0) dX12_isOffered_84 ?_
      refine mr_istore (pc := 85) (lv' := [(5, iv 0), (4, iv 1), (3, iv ((5 * z294) + z299)), (2, iv z294), (0, .ref 106), (1, iv p1)]) dX12_isOffered_85 (by decide) rfl ?_
      have L433 : ∀ (nL433 : Nat) (z432 z431 : Int), True → (0 ≤ z432 ∧ z432 ≤ 1) → (0 ≤ z431 ∧ z431 ≤ 6) → suI μ 185 186 8 p1.toNat (((5 * z294) + z299)).toNat z431 z432 → (7 - z431) < (nL433 : Int) → sV (gG l D c H0 sa) mX12_isOffered (sRm 1 0 0) (sZ (gG l D c H0 sa) 0 0 (qP w μ (fun z => (0 ≤ z ∧ z ≤ 1) ∧ ((z = 1 ↔ offd μ 184 185 186 8 (μ 188) p1.toNat)) ∧ True))) 87 [(0, .ref 106), (1, iv p1), (3, iv ((5 * z294) + z299)), (4, iv z432), (5, iv z431)] [] (mk w μ) 0 0 := by
        intro nL433
        induction nL433 with
        | zero => intro z432 z431 _ h434 h435 R439 h440; exact ((vc_X12_same_14 h440 h435)).elim
        | succ nL433 ih441 =>
          intro z432 z431 _ h434 h435 R439 h440
          refine mr_iload (pc := 87) (z := z431) dX12_isOffered_87 rfl ?_
          refine sv_aload_n (pc := 89) dX12_isOffered_89 rfl rfl ?_
          refine gf_X12_119 (pc := 90) dX12_isOffered_90 wF_X12_517 (A_106 hw) hT ?_
          refine mr_iload_n (pc := 93) (z := ((5 * z294) + z299)) dX12_isOffered_93 rfl rfl ?_
          refine lk_185 (pc := 94) dX12_isOffered_94 (A_185 hw) (vc_X12_isOffered_2 h297 (cgr q300 q_f_h1) (cgr q300 q_f_h2) (cgr q300 q_f_h3) (cgr q300 q_f_h4) (cgr q300 q_f_h5) (cgr q300 q_f_h6) (cgr q303 q_f_v1) (cgr q303 q_f_v2) (cgr q303 q_f_v3) (cgr q303 q_f_v4) (cgr q303 q_f_v5) (cgr q303 q_f_v6) h305 hq0 hq1 hq2 hq3 hq4 hq5 ht_f_h1 ht_f_h2 ht_f_h3 ht_f_h4 ht_f_h5 ht_f_h6 ht_f_v1 ht_f_v2 ht_f_v3 ht_f_v4 ht_f_v5 ht_f_v6 h298 h301 h304) q307 ?_
          refine mr_icmp_ge (pc := 95) (tgt := 145) dX12_isOffered_95 (by decide) (r32 h435 rfl) (r32 h335 rfl) (fun h442 => ?_) (fun h442 => ?_)
          · refine mr_iload (pc := 145) (z := z432) dX12_isOffered_145 rfl ?_
            exact mr_zretP dX12_isOffered_147 rfl h434 (le_t rfl) (le_t rfl) ⟨h434, (offd.go q295 (vc_X12_isOffered_v_5 hp1) (vc_X12_isOffered_v_6 h297 (cgr q300 q_f_h1) (cgr q300 q_f_h2) (cgr q300 q_f_h3) (cgr q300 q_f_h4) (cgr q300 q_f_h5) (cgr q300 q_f_h6) (cgr q303 q_f_v1) (cgr q303 q_f_v2) (cgr q303 q_f_v3) (cgr q303 q_f_v4) (cgr q303 q_f_v5) (cgr q303 q_f_v6) hq0 hq1 hq2 hq3 hq4 hq5 h305 ht_f_h1 ht_f_h2 ht_f_h3 ht_f_h4 ht_f_h5 ht_f_h6 ht_f_v1 ht_f_v2 ht_f_v3 ht_f_v4 ht_f_v5 ht_f_v6 h298 h301 h304) q300 q303 (vc_X12_isOffered_v_7 (cgr q300 q_f_h1) (cgr q300 q_f_h2) (cgr q300 q_f_h3) (cgr q300 q_f_h4) (cgr q300 q_f_h5) (cgr q300 q_f_h6) (cgr q303 q_f_v1) (cgr q303 q_f_v2) (cgr q303 q_f_v3) (cgr q303 q_f_v4) (cgr q303 q_f_v5) (cgr q303 q_f_v6) h305 hq0 hq1 hq2 hq3 hq4 hq5 h297 ht_f_h1 ht_f_h2 ht_f_h3 ht_f_h4 ht_f_h5 ht_f_h6 ht_f_v1 ht_f_v2 ht_f_v3 ht_f_v4 ht_f_v5 ht_f_v6 h298 h301 h304) (vc_X12_isOffered_v_8 h297 (cgr q300 q_f_h1) (cgr q300 q_f_h2) (cgr q300 q_f_h3) (cgr q300 q_f_h4) (cgr q300 q_f_h5) (cgr q300 q_f_h6) (cgr q303 q_f_v1) (cgr q303 q_f_v2) (cgr q303 q_f_v3) (cgr q303 q_f_v4) (cgr q303 q_f_v5) (cgr q303 q_f_v6) h305 hq0 hq1 hq2 hq3 hq4 hq5 ht_f_h1 ht_f_h2 ht_f_h3 ht_f_h4 ht_f_h5 ht_f_h6 ht_f_v1 ht_f_v2 ht_f_v3 ht_f_v4 ht_f_v5 ht_f_v6 h298 h301 h304) R439 (vc_X12_isOffered_v_20 h434) q307 (vc_X12_isOffered_v_21 h312 h442 h335 h336 h435 h434)), trivial⟩
          have h443 : 0 ≤ z431 ∧ z431 ≤ 5 := (vc_X12_isOffered_v_22 h442 h312 h335 h336 h435)
          have h444 : 1 ≤ z306 ∧ z306 ≤ 6 := (vc_X12_isOffered_v_23 h442 h312 h335 h336 h443)
          refine mr_iload (pc := 98) (z := z432) dX12_isOffered_98 rfl ?_
          refine mr_if_eq (pc := 100) (tgt := 145) dX12_isOffered_100 (by decide) (r32 h434 rfl) (fun h445 => ?_) (fun h445 => ?_)
          · have h446 : 0 ≤ z432 ∧ z432 ≤ 0 := (vc_X12_ring_22 h445 h434)
            refine mr_iload (pc := 145) (z := z432) dX12_isOffered_145 rfl ?_
            exact mr_zretP dX12_isOffered_147 rfl (rW (c := 0) (d := 1) h446 rfl) (le_t rfl) (le_t rfl) ⟨(rW (c := 0) (d := 1) h446 rfl), (offd.go q295 (vc_X12_isOffered_v_5 hp1) (vc_X12_isOffered_v_6 h297 (cgr q300 q_f_h1) (cgr q300 q_f_h2) (cgr q300 q_f_h3) (cgr q300 q_f_h4) (cgr q300 q_f_h5) (cgr q300 q_f_h6) (cgr q303 q_f_v1) (cgr q303 q_f_v2) (cgr q303 q_f_v3) (cgr q303 q_f_v4) (cgr q303 q_f_v5) (cgr q303 q_f_v6) hq0 hq1 hq2 hq3 hq4 hq5 h305 ht_f_h1 ht_f_h2 ht_f_h3 ht_f_h4 ht_f_h5 ht_f_h6 ht_f_v1 ht_f_v2 ht_f_v3 ht_f_v4 ht_f_v5 ht_f_v6 h298 h301 h304) q300 q303 (vc_X12_isOffered_v_7 (cgr q300 q_f_h1) (cgr q300 q_f_h2) (cgr q300 q_f_h3) (cgr q300 q_f_h4) (cgr q300 q_f_h5) (cgr q300 q_f_h6) (cgr q303 q_f_v1) (cgr q303 q_f_v2) (cgr q303 q_f_v3) (cgr q303 q_f_v4) (cgr q303 q_f_v5) (cgr q303 q_f_v6) h305 hq0 hq1 hq2 hq3 hq4 hq5 h297 ht_f_h1 ht_f_h2 ht_f_h3 ht_f_h4 ht_f_h5 ht_f_h6 ht_f_v1 ht_f_v2 ht_f_v3 ht_f_v4 ht_f_v5 ht_f_v6 h298 h301 h304) (vc_X12_isOffered_v_8 h297 (cgr q300 q_f_h1) (cgr q300 q_f_h2) (cgr q300 q_f_h3) (cgr q300 q_f_h4) (cgr q300 q_f_h5) (cgr q300 q_f_h6) (cgr q303 q_f_v1) (cgr q303 q_f_v2) (cgr q303 q_f_v3) (cgr q303 q_f_v4) (cgr q303 q_f_v5) (cgr q303 q_f_v6) h305 hq0 hq1 hq2 hq3 hq4 hq5 ht_f_h1 ht_f_h2 ht_f_h3 ht_f_h4 ht_f_h5 ht_f_h6 ht_f_v1 ht_f_v2 ht_f_v3 ht_f_v4 ht_f_v5 ht_f_v6 h298 h301 h304) R439 (vc_X12_isOffered_v_25 h445 h446) q307 (vc_X12_isOffered_v_26 h312 h442 h445 h444 h336 h443 h446)), trivial⟩
          have h447 : 1 ≤ z432 ∧ z432 ≤ 1 := (vc_X12_ring_24 h445 h434)
          refine sv_aload_n (pc := 103) dX12_isOffered_103 rfl rfl ?_
          refine gf_X12_120 (pc := 104) dX12_isOffered_104 wF_X12_520 (A_106 hw) hT ?_
          refine mr_bipush (pc := 107) (z := 8) dX12_isOffered_107 (by decide) ?_
          refine mr_iload_n (pc := 109) (z := ((5 * z294) + z299)) dX12_isOffered_109 rfl rfl ?_
          refine mr_imul (pc := 110) (x := 8) (y := ((5 * z294) + z299)) dX12_isOffered_110 ?_
          refine mr_iload (pc := 111) (z := z431) dX12_isOffered_111 rfl ?_
          refine mr_iadd (pc := 113) (x := (8 * ((5 * z294) + z299))) (y := z431) dX12_isOffered_113 ?_
          refine la_186 (pc := 114) dX12_isOffered_114 (A_186 hw) hT (vc_X12_isOffered_v_28 h297 (cgr q300 q_f_h1) (cgr q300 q_f_h2) (cgr q300 q_f_h3) (cgr q300 q_f_h4) (cgr q300 q_f_h5) (cgr q300 q_f_h6) (cgr q303 q_f_v1) (cgr q303 q_f_v2) (cgr q303 q_f_v3) (cgr q303 q_f_v4) (cgr q303 q_f_v5) (cgr q303 q_f_v6) h305 h442 hq0 hq1 hq2 hq3 hq4 hq5 h312 ht_f_h1 ht_f_h2 ht_f_h3 ht_f_h4 ht_f_h5 ht_f_h6 ht_f_v1 ht_f_v2 ht_f_v3 ht_f_v4 ht_f_v5 ht_f_v6 h298 h301 h304 h444 h336 h443) fun z448 q449 h450 => ?_
          refine sv_aload_n (pc := 115) dX12_isOffered_115 rfl rfl ?_
          refine gf_X12_120 (pc := 116) dX12_isOffered_116 wF_X12_520 (A_106 hw) hT ?_
          refine mr_bipush (pc := 119) (z := 8) dX12_isOffered_119 (by decide) ?_
          refine mr_iload_n (pc := 121) (z := p1) dX12_isOffered_121 rfl rfl ?_
          refine mr_imul (pc := 122) (x := 8) (y := p1) dX12_isOffered_122 ?_
          refine mr_iload (pc := 123) (z := z431) dX12_isOffered_123 rfl ?_
          refine mr_iadd (pc := 125) (x := (8 * p1)) (y := z431) dX12_isOffered_125 ?_
          refine mr_iconst (pc := 126) (z := 1) dX12_isOffered_126 ?_
          refine mr_iadd (pc := 127) (x := ((8 * p1) + z431)) (y := 1) dX12_isOffered_127 ?_
          refine la_186 (pc := 128) dX12_isOffered_128 (A_186 hw) hT (rIx (n := 280) (rAdd (e := 41) (f := 278) (rAdd (e := 40) (f := 277) (rMulL (n := 8) (e := 40) (f := 272) hp1 rfl) h443 rfl) (rR (x := 1)) rfl) rfl) fun z451 q452 h453 => ?_
          refine mr_icmp_ne (pc := 129) (tgt := 136) dX12_isOffered_129 (by decide) (r32 h450 rfl) (r32 h453 rfl) (fun h454 => ?_) (fun h454 => ?_)
          · refine mr_iconst (pc := 136) (z := 0) dX12_isOffered_136 ?_
            refine mr_istore (pc := 137) (lv' := [(4, iv 0), (0, .ref 106), (1, iv p1), (3, iv ((5 * z294) + z299)), (5, iv z431)]) dX12_isOffered_137 (by decide) rfl ?_
            refine mr_iinc (pc := 139) (lv' := [(5, iv (z431 + 1)), (4, iv 0), (0, .ref 106), (1, iv p1), (3, iv ((5 * z294) + z299))]) dX12_isOffered_139 rfl (by decide) rfl ?_
            refine sv_goto (pc := 142) (tgt := 87) dX12_isOffered_142 (by decide) ?_
            refine mr_lvS (lv' := [(0, .ref 106), (1, iv p1), (3, iv ((5 * z294) + z299)), (4, iv 0), (5, iv (z431 + 1))]) (List.forall_mem_cons.mpr ⟨rfl, List.forall_mem_cons.mpr ⟨rfl, List.forall_mem_cons.mpr ⟨rfl, List.forall_mem_cons.mpr ⟨rfl, List.forall_mem_cons.mpr ⟨rfl, fun _ h => absurd h List.not_mem_nil⟩⟩⟩⟩⟩) ?_
            exact ih441 0 (z431 + 1) trivial (rW (c := 0) (d := 1) (rR (x := 0)) rfl) (rW (c := 0) (d := 6) (rAdd (e := 1) (f := 6) h443 (rR (x := 1)) rfl) rfl) (suI.next R439 (vc_X12_best_l_18 h445 h447) q307 (vc_X12_isOffered_v_31 h312 h442 h444 h336 h443) q449 (vc_X12_isOffered_v_32 h297 (cgr q300 q_f_h1) (cgr q300 q_f_h2) (cgr q300 q_f_h3) (cgr q300 q_f_h4) (cgr q300 q_f_h5) (cgr q300 q_f_h6) (cgr q303 q_f_v1) (cgr q303 q_f_v2) (cgr q303 q_f_v3) (cgr q303 q_f_v4) (cgr q303 q_f_v5) (cgr q303 q_f_v6) h305 h442 hq0 hq1 hq2 hq3 hq4 hq5 h312 ht_f_h1 ht_f_h2 ht_f_h3 ht_f_h4 ht_f_h5 ht_f_h6 ht_f_v1 ht_f_v2 ht_f_v3 ht_f_v4 ht_f_v5 ht_f_v6 h298 h301 h304 h444 h336 h443) q452 (vc_X12_isOffered_v_33 h442 h312 hp1 h444 h336 h443) (vc_X12_isOffered_v_34 h454 h450 h453)) (vc_X12_isOffered_v_29 (nS h440) h442 h312 h444 h336 h443)
          refine mr_iconst (pc := 132) (z := 1) dX12_isOffered_132 ?_
          refine sv_goto (pc := 133) (tgt := 137) dX12_isOffered_133 (by decide) ?_
          refine mr_istore (pc := 137) (lv' := [(4, iv 1), (0, .ref 106), (1, iv p1), (3, iv ((5 * z294) + z299)), (5, iv z431)]) dX12_isOffered_137 (by decide) rfl ?_
          refine mr_iinc (pc := 139) (lv' := [(5, iv (z431 + 1)), (4, iv 1), (0, .ref 106), (1, iv p1), (3, iv ((5 * z294) + z299))]) dX12_isOffered_139 rfl (by decide) rfl ?_
          refine sv_goto (pc := 142) (tgt := 87) dX12_isOffered_142 (by decide) ?_
          refine mr_lvS (lv' := [(0, .ref 106), (1, iv p1), (3, iv ((5 * z294) + z299)), (4, iv 1), (5, iv (z431 + 1))]) (List.forall_mem_cons.mpr ⟨rfl, List.forall_mem_cons.mpr ⟨rfl, List.forall_mem_cons.mpr ⟨rfl, List.forall_mem_cons.mpr ⟨rfl, List.forall_mem_cons.mpr ⟨rfl, fun _ h => absurd h List.not_mem_nil⟩⟩⟩⟩⟩) ?_
          exact ih441 1 (z431 + 1) trivial (rW (c := 0) (d := 1) (rR (x := 1)) rfl) (rW (c := 0) (d := 6) (rAdd (e := 1) (f := 6) h443 (rR (x := 1)) rfl) rfl) (suI.next R439 (vc_X12_best_l_18 h445 h447) q307 (vc_X12_isOffered_v_31 h312 h442 h444 h336 h443) q449 (vc_X12_isOffered_v_32 h297 (cgr q300 q_f_h1) (cgr q300 q_f_h2) (cgr q300 q_f_h3) (cgr q300 q_f_h4) (cgr q300 q_f_h5) (cgr q300 q_f_h6) (cgr q303 q_f_v1) (cgr q303 q_f_v2) (cgr q303 q_f_v3) (cgr q303 q_f_v4) (cgr q303 q_f_v5) (cgr q303 q_f_v6) h305 h442 hq0 hq1 hq2 hq3 hq4 hq5 h312 ht_f_h1 ht_f_h2 ht_f_h3 ht_f_h4 ht_f_h5 ht_f_h6 ht_f_v1 ht_f_v2 ht_f_v3 ht_f_v4 ht_f_v5 ht_f_v6 h298 h301 h304 h444 h336 h443) q452 (vc_X12_isOffered_v_33 h442 h312 hp1 h444 h336 h443) (vc_X12_isOffered_v_35 h454 h450 h453)) (vc_X12_isOffered_v_29 (nS h440) h442 h312 h444 h336 h443)
      refine mr_lvS (lv' := [(0, .ref 106), (1, iv p1), (3, iv ((5 * z294) + z299)), (4, iv 1), (5, iv 0)]) (List.forall_mem_cons.mpr ⟨rfl, List.forall_mem_cons.mpr ⟨rfl, List.forall_mem_cons.mpr ⟨rfl, List.forall_mem_cons.mpr ⟨rfl, List.forall_mem_cons.mpr ⟨rfl, fun _ h => absurd h List.not_mem_nil⟩⟩⟩⟩⟩) ?_
      exact L433 8 1 0 trivial (rW (c := 0) (d := 1) (rR (x := 1)) rfl) (rW (c := 0) (d := 6) (rR (x := 0)) rfl) (suI.start q307 q310 vc_X12_isOffered_v_15 (vc_X12_isOffered_v_37 h312 h335 h336)) vc_X12_same_46
    refine mr_iconst (pc := 47) (z := 0) dX12_isOffered_47 ?_
    exact mr_zretP dX12_isOffered_48 rfl (rW (c := 0) (d := 1) (rR (x := 0)) rfl) (le_t rfl) (le_t rfl) ⟨(rW (c := 0) (d := 1) (rR (x := 0)) rfl), (offd.all q295 (vc_X12_isOffered_v_5 hp1) (vc_X12_isOffered_v_38 h297 (cgr q300 q_f_h1) (cgr q300 q_f_h2) (cgr q300 q_f_h3) (cgr q300 q_f_h4) (cgr q300 q_f_h5) (cgr q300 q_f_h6) (cgr q303 q_f_v1) (cgr q303 q_f_v2) (cgr q303 q_f_v3) (cgr q303 q_f_v4) (cgr q303 q_f_v5) (cgr q303 q_f_v6) hq0 hq1 hq2 hq3 hq4 hq5 h305 ht_f_h1 ht_f_h2 ht_f_h3 ht_f_h4 ht_f_h5 ht_f_h6 ht_f_v1 ht_f_v2 ht_f_v3 ht_f_v4 ht_f_v5 ht_f_v6 h298 h301 h304) q300 q303 (vc_X12_isOffered_v_39 (cgr q300 q_f_h1) (cgr q300 q_f_h2) (cgr q300 q_f_h3) (cgr q300 q_f_h4) (cgr q300 q_f_h5) (cgr q300 q_f_h6) (cgr q303 q_f_v1) (cgr q303 q_f_v2) (cgr q303 q_f_v3) (cgr q303 q_f_v4) (cgr q303 q_f_v5) (cgr q303 q_f_v6) h305 hq0 hq1 hq2 hq3 hq4 hq5 h297 ht_f_h1 ht_f_h2 ht_f_h3 ht_f_h4 ht_f_h5 ht_f_h6 ht_f_v1 ht_f_v2 ht_f_v3 ht_f_v4 ht_f_v5 ht_f_v6 h298 h301 h304) vc_X12_isOffered_v_40), trivial⟩
  have h455 : 0 ≤ z294 ∧ z294 ≤ 0 := (vc_X12_isOffered_13 h297 h296)
  refine sv_aload_n (pc := 16) dX12_isOffered_16 rfl rfl ?_
  refine gf_X12_119 (pc := 17) dX12_isOffered_17 wF_X12_517 (A_106 hw) hT ?_
  refine mr_iload_n (pc := 20) (z := p1) dX12_isOffered_20 rfl rfl ?_
  refine la_185 (pc := 21) dX12_isOffered_21 (A_185 hw) hT (rIx (n := 35) hp1 rfl) fun z456 q457 h458 => ?_
  refine mr_iconst (pc := 22) (z := 2) dX12_isOffered_22 ?_
  refine mr_icmp_ne (pc := 23) (tgt := 30) dX12_isOffered_23 (by decide) (r32 h458 rfl) (r32 (rR (x := 2)) rfl) (fun h459 => ?_) (fun h459 => ?_)
  · refine mr_iconst (pc := 30) (z := 0) dX12_isOffered_30 ?_
    exact mr_zretP dX12_isOffered_31 rfl (rW (c := 0) (d := 1) (rR (x := 0)) rfl) (le_t rfl) (le_t rfl) ⟨(rW (c := 0) (d := 1) (rR (x := 0)) rfl), (offd.zero q295 (vc_X12_isOffered_v_5 hp1) (vc_X12_goes_7 h297 h455) q457 (vc_X12_isOffered_v_43 h459 h458)), trivial⟩
  have h460 : 2 ≤ z456 ∧ z456 ≤ 2 := (vc_X12_isOffered_14 h459 h458)
  refine mr_iconst (pc := 26) (z := 1) dX12_isOffered_26 ?_
  refine sv_goto (pc := 27) (tgt := 31) dX12_isOffered_27 (by decide) ?_
  exact mr_zretP dX12_isOffered_31 rfl (rW (c := 0) (d := 1) (rR (x := 1)) rfl) (le_t rfl) (le_t rfl) ⟨(rW (c := 0) (d := 1) (rR (x := 1)) rfl), (offd.zero q295 (vc_X12_isOffered_v_5 hp1) (vc_X12_goes_7 h297 h455) q457 (vc_X12_isOffered_v_45 h459 h460)), trivial⟩
theorem vc_X12_acted_w_2 {f_vp z141 : Int} (h0 : f_vp ≤ z141) (h1 : 0 ≤ f_vp ∧ f_vp ≤ 5) (h2 : 0 ≤ z141 ∧ z141 ≤ 5) : f_vp ≤ f_vp := by omega
theorem vc_X12_acted_w_3 {f_vp z141 : Int} (h0 : f_vp ≤ z141) (h1 : 0 ≤ f_vp ∧ f_vp ≤ 5) (h2 : 0 ≤ z141 ∧ z141 ≤ 5) : 0 ≤ f_vp ∧ f_vp ≤ z141 := by omega
theorem vc_X12_acted_w_4 {f_vp z141 : Int} (h0 : f_vp ≤ z141) (h1 : 0 ≤ f_vp ∧ f_vp ≤ 5) (h2 : 0 ≤ z141 ∧ z141 ≤ 5) : f_vp = f_vp := by omega
theorem vc_X12_acted_w_15 {f_vp z141 : Int} (h0 : z141 < f_vp) (h1 : 1 ≤ f_vp ∧ f_vp ≤ 5) (h2 : 0 ≤ z141 ∧ z141 ≤ 4) : 0 ≤ z141 := by omega
theorem vc_X12_acted_w_16 {f_vp p1 z141 : Int} (h0 : z141 < f_vp) (h1 : 1 ≤ f_vp ∧ f_vp ≤ 5) (h2 : 1 ≤ p1 ∧ p1 ≤ 6) (h3 : 0 ≤ z141 ∧ z141 ≤ 4) : ((5 * p1) + z141) = 5 * p1 + z141 := by omega
theorem vc_X12_acted_w_17 {z157 : Int} (h0 : z157 = 0) (h1 : 0 ≤ z157 ∧ z157 ≤ 0) : ¬ z157 = 1 := by omega
theorem vc_X12_acted_w_19 {f_vp z141 : Int} (h0 : z141 < f_vp) (h1 : 1 ≤ f_vp ∧ f_vp ≤ 5) (h2 : 0 ≤ z141 ∧ z141 ≤ 4) : z141 ≤ f_vp := by omega
theorem vc_X12_acted_w_20 {f_vp z141 : Int} (h0 : z141 < f_vp) (h1 : 1 ≤ f_vp ∧ f_vp ≤ 5) (h2 : 0 ≤ z141 ∧ z141 ≤ 4) : 0 ≤ z141 ∧ z141 < f_vp := by omega
set_option maxRecDepth 4000 in
set_option maxHeartbeats 4000000 in
theorem c_X12_acted_w {l : Launch} {D : va_G} {c : Nat → ClassId} {H0 : Heap} {sa : Nat × Nat × (Nat → Int32)} {w : mW} {μ : mM} (hw : mWF w) (hT : mT w μ) {p1 : Int} (hp1 : 1 ≤ p1 ∧ p1 ≤ 6) {f_h1 : Int} (q_f_h1 : μ 188 ((1 : Int).toNat) = f_h1) {f_h2 : Int} (q_f_h2 : μ 188 ((2 : Int).toNat) = f_h2) {f_h3 : Int} (q_f_h3 : μ 188 ((3 : Int).toNat) = f_h3) {f_h4 : Int} (q_f_h4 : μ 188 ((4 : Int).toNat) = f_h4) {f_h5 : Int} (q_f_h5 : μ 188 ((5 : Int).toNat) = f_h5) {f_h6 : Int} (q_f_h6 : μ 188 ((6 : Int).toNat) = f_h6) {f_v1 : Int} (q_f_v1 : μ 184 ((1 : Int).toNat) = f_v1) {f_v2 : Int} (q_f_v2 : μ 184 ((2 : Int).toNat) = f_v2) {f_v3 : Int} (q_f_v3 : μ 184 ((3 : Int).toNat) = f_v3) {f_v4 : Int} (q_f_v4 : μ 184 ((4 : Int).toNat) = f_v4) {f_v5 : Int} (q_f_v5 : μ 184 ((5 : Int).toNat) = f_v5) {f_v6 : Int} (q_f_v6 : μ 184 ((6 : Int).toNat) = f_v6) {f_vp : Int} (q_f_vp : μ 184 (p1.toNat) = f_vp) (hq0 : f_h1 ≤ f_v1) (hq1 : f_h2 ≤ f_v2) (hq2 : f_h3 ≤ f_v3) (hq3 : f_h4 ≤ f_v4) (hq4 : f_h5 ≤ f_v5) (hq5 : f_h6 ≤ f_v6) : sC (gG l D c H0 sa) mX12_acted 2 0 0 [.ref 106, iv p1] (mk w μ) (qP w μ (fun z => (0 ≤ z ∧ z ≤ 5) ∧ (z ≤ f_vp) ∧ (actR μ 184 185 186 8 (μ 188) p1 z) ∧ True)) := by
  refine sC.of rfl (by decide) (le_t rfl) ?_
  have ht_f_h1 : (0 ≤ f_h1 ∧ f_h1 ≤ 5) := by rw [← q_f_h1]; exact hT 188 188 (A_188 hw) ((1 : Int).toNat)
  have ht_f_h2 : (0 ≤ f_h2 ∧ f_h2 ≤ 5) := by rw [← q_f_h2]; exact hT 188 188 (A_188 hw) ((2 : Int).toNat)
  have ht_f_h3 : (0 ≤ f_h3 ∧ f_h3 ≤ 5) := by rw [← q_f_h3]; exact hT 188 188 (A_188 hw) ((3 : Int).toNat)
  have ht_f_h4 : (0 ≤ f_h4 ∧ f_h4 ≤ 5) := by rw [← q_f_h4]; exact hT 188 188 (A_188 hw) ((4 : Int).toNat)
  have ht_f_h5 : (0 ≤ f_h5 ∧ f_h5 ≤ 5) := by rw [← q_f_h5]; exact hT 188 188 (A_188 hw) ((5 : Int).toNat)
  have ht_f_h6 : (0 ≤ f_h6 ∧ f_h6 ≤ 5) := by rw [← q_f_h6]; exact hT 188 188 (A_188 hw) ((6 : Int).toNat)
  have ht_f_v1 : (0 ≤ f_v1 ∧ f_v1 ≤ 5) := by rw [← q_f_v1]; exact hT 184 184 (A_184 hw) ((1 : Int).toNat)
  have ht_f_v2 : (0 ≤ f_v2 ∧ f_v2 ≤ 5) := by rw [← q_f_v2]; exact hT 184 184 (A_184 hw) ((2 : Int).toNat)
  have ht_f_v3 : (0 ≤ f_v3 ∧ f_v3 ≤ 5) := by rw [← q_f_v3]; exact hT 184 184 (A_184 hw) ((3 : Int).toNat)
  have ht_f_v4 : (0 ≤ f_v4 ∧ f_v4 ≤ 5) := by rw [← q_f_v4]; exact hT 184 184 (A_184 hw) ((4 : Int).toNat)
  have ht_f_v5 : (0 ≤ f_v5 ∧ f_v5 ≤ 5) := by rw [← q_f_v5]; exact hT 184 184 (A_184 hw) ((5 : Int).toNat)
  have ht_f_v6 : (0 ≤ f_v6 ∧ f_v6 ≤ 5) := by rw [← q_f_v6]; exact hT 184 184 (A_184 hw) ((6 : Int).toNat)
  have ht_f_vp : (0 ≤ f_vp ∧ f_vp ≤ 5) := by rw [← q_f_vp]; exact hT 184 184 (A_184 hw) (p1.toNat)
  refine mr_lvE (lv' := [(0, .ref 106), (1, iv p1)]) rfl ?_
  refine mr_iconst (pc := 0) (z := 0) dX12_acted_0 ?_
  refine mr_istore_n (pc := 1) (lv' := [(2, iv 0), (0, .ref 106), (1, iv p1)]) dX12_acted_1 rfl (by decide) rfl ?_
  have L142 : ∀ (nL142 : Nat) (z141 : Int), True → (0 ≤ z141 ∧ z141 ≤ 5) → acI μ 184 185 186 8 (μ 188) p1 z141 → (6 - z141) < (nL142 : Int) → sV (gG l D c H0 sa) mX12_acted (sRm 2 0 0) (sZ (gG l D c H0 sa) 0 0 (qP w μ (fun z => (0 ≤ z ∧ z ≤ 5) ∧ (z ≤ f_vp) ∧ (actR μ 184 185 186 8 (μ 188) p1 z) ∧ True))) 2 [(0, .ref 106), (1, iv p1), (2, iv z141)] [] (mk w μ) 0 0 := by
    intro nL142
    induction nL142 with
    | zero => intro z141 _ h143 R147 h148; exact ((vc_X12_acted_1 h148 h143)).elim
    | succ nL142 ih149 =>
      intro z141 _ h143 R147 h148
      refine mr_iload_n (pc := 2) (z := z141) dX12_acted_2 rfl rfl ?_
      refine sv_aload_n (pc := 3) dX12_acted_3 rfl rfl ?_
      refine gf_X12_118 (pc := 4) dX12_acted_4 wF_X12_514 (A_106 hw) hT ?_
      refine mr_iload_n (pc := 7) (z := p1) dX12_acted_7 rfl rfl ?_
      refine lk_184 (pc := 8) dX12_acted_8 (A_184 hw) (rIx (n := 7) hp1 rfl) q_f_vp ?_
      refine mr_icmp_ge (pc := 9) (tgt := 32) dX12_acted_9 (by decide) (r32 h143 rfl) (r32 ht_f_vp rfl) (fun h150 => ?_) (fun h150 => ?_)
      · refine sv_aload_n (pc := 32) dX12_acted_32 rfl rfl ?_
        refine gf_X12_118 (pc := 33) dX12_acted_33 wF_X12_514 (A_106 hw) hT ?_
        refine mr_iload_n (pc := 36) (z := p1) dX12_acted_36 rfl rfl ?_
        refine lk_184 (pc := 37) dX12_acted_37 (A_184 hw) (rIx (n := 7) hp1 rfl) q_f_vp ?_
        exact mr_iretP dX12_acted_38 rfl (le_t rfl) (le_t rfl) ⟨ht_f_vp, (vc_X12_acted_w_2 h150 ht_f_vp h143), (actR.miss R147 q_f_vp (vc_X12_acted_w_3 h150 ht_f_vp h143) (vc_X12_acted_w_4 h150 ht_f_vp h143)), trivial⟩
      have h151 : 0 ≤ z141 ∧ z141 ≤ 4 := (vc_X4_actOf_2 h150 ht_f_vp h143)
      have h152 : 1 ≤ f_vp ∧ f_vp ≤ 5 := (vc_X4_actOf_3 h150 ht_f_vp h151)
      refine sv_aload_n (pc := 12) dX12_acted_12 rfl rfl ?_
      refine mr_iconst (pc := 13) (z := 5) dX12_acted_13 ?_
      refine mr_iload_n (pc := 14) (z := p1) dX12_acted_14 rfl rfl ?_
      refine mr_imul (pc := 15) (x := 5) (y := p1) dX12_acted_15 ?_
      refine mr_iload_n (pc := 16) (z := z141) dX12_acted_16 rfl rfl ?_
      refine mr_iadd (pc := 17) (x := (5 * p1)) (y := z141) dX12_acted_17 ?_
      refine mr_cVP (pc := 18) (c_X12_isOffered_v hw hT (rAdd (e := 5) (f := 34) (rMulL (n := 5) (e := 5) (f := 30) hp1 rfl) h151 rfl) q_f_h1 q_f_h2 q_f_h3 q_f_h4 q_f_h5 q_f_h6 q_f_v1 q_f_v2 q_f_v3 q_f_v4 q_f_v5 q_f_v6 (vc_X12_acted_4 hq0 ht_f_h1 ht_f_v1) (vc_X12_acted_4 hq1 ht_f_h2 ht_f_v2) (vc_X12_acted_4 hq2 ht_f_h3 ht_f_v3) (vc_X12_acted_4 hq3 ht_f_h4 ht_f_v4) (vc_X12_acted_4 hq4 ht_f_h5 ht_f_v5) (vc_X12_acted_4 hq5 ht_f_h6 ht_f_v6)) (gOk _ _ _ _ _) dX12_acted_18 (tX12_isOffered _ _ _ _ _) ⟨wV_X12_isOffered, wL_X12_isOffered⟩ wM_X12_719 (gCX12 _ _ _ _ _) rfl (A_106 hw) rfl ⟨le_t rfl, le_t rfl⟩ ⟨le_t rfl, le_t rfl⟩ rfl (le_t rfl) fun z157 h156 => ?_
      refine mr_if_eq (pc := 21) (tgt := 26) dX12_acted_21 (by decide) (r32 h156.1 rfl) (fun h158 => ?_) (fun h158 => ?_)
      · have h159 : 0 ≤ z157 ∧ z157 ≤ 0 := (vc_X12_ring_22 h158 h156.1)
        refine mr_iinc (pc := 26) (lv' := [(2, iv (z141 + 1)), (0, .ref 106), (1, iv p1)]) dX12_acted_26 rfl (by decide) rfl ?_
        refine sv_goto (pc := 29) (tgt := 2) dX12_acted_29 (by decide) ?_
        refine mr_lvS (lv' := [(0, .ref 106), (1, iv p1), (2, iv (z141 + 1))]) (List.forall_mem_cons.mpr ⟨rfl, List.forall_mem_cons.mpr ⟨rfl, List.forall_mem_cons.mpr ⟨rfl, fun _ h => absurd h List.not_mem_nil⟩⟩⟩) ?_
        exact ih149 (z141 + 1) trivial (rW (c := 0) (d := 5) (rAdd (e := 1) (f := 5) h151 (rR (x := 1)) rfl) rfl) (acI.next R147 (vc_X12_acted_w_15 h150 h152 h151) (vc_X12_acted_w_16 h150 h152 hp1 h151) (fun g => (vc_X12_acted_w_17 h158 h159) ((h156.2.1).mpr g))) (vc_X4_actOf_6 (nS h148) h150 h152 h151)
      have h160 : 1 ≤ z157 ∧ z157 ≤ 1 := (vc_X12_ring_24 h158 h156.1)
      refine mr_iload_n (pc := 24) (z := z141) dX12_acted_24 rfl rfl ?_
      exact mr_iretP dX12_acted_25 rfl (le_t rfl) (le_t rfl) ⟨(rW (c := 0) (d := 5) h151 rfl), (vc_X12_acted_w_19 h150 h152 h151), (actR.hit R147 q_f_vp (vc_X12_acted_w_20 h150 h152 h151) (vc_X12_acted_w_16 h150 h152 hp1 h151) ((h156.2.1).mp (vc_X12_best_l_18 h158 h160))), trivial⟩
  refine mr_lvS (lv' := [(0, .ref 106), (1, iv p1), (2, iv 0)]) (List.forall_mem_cons.mpr ⟨rfl, List.forall_mem_cons.mpr ⟨rfl, List.forall_mem_cons.mpr ⟨rfl, fun _ h => absurd h List.not_mem_nil⟩⟩⟩) ?_
  exact L142 7 0 trivial (rW (c := 0) (d := 5) (rR (x := 0)) rfl) (acI.zero vc_X12_isOffered_v_15) vc_X12_acted_13
theorem vc_X4_find_n_6 {p2 p3 z1085 z1097 : Int} (h0 : p3 ≤ z1097) (h1 : p2 + p3 ≤ 245) (h2 : ¬ z1085 = p3) (h3 : 0 ≤ p2 ∧ p2 ≤ 244) (h4 : (-1) ≤ p3 ∧ p3 ≤ 7) (h5 : 0 ≤ z1085 ∧ z1085 ≤ 7) (h6 : 0 ≤ z1097 ∧ z1097 ≤ 0) : (-1) ≤ p3 ∧ p3 ≤ 0 := by omega
theorem vc_X4_find_n_10 {f_N f_q z1073 : Int} (h0 : z1073 < f_N) (h1 : 1 ≤ f_N ∧ f_N ≤ 5) (h2 : 0 ≤ f_q ∧ f_q ≤ 6) (h3 : 0 ≤ z1073 ∧ z1073 ≤ 4) : ((f_q * 5) + z1073) = 5 * f_q + z1073 := by omega
theorem vc_X4_find_n_11 {z1098 : Int} (h0 : 0 ≤ z1098 ∧ z1098 ≤ 0) : ¬ z1098 = 1 := by omega
theorem vc_X4_find_n_12 {p2 p3 z1085 z1097 : Int} (h0 : z1097 < p3) (h1 : p2 + p3 ≤ 245) (h2 : ¬ z1085 = p3) (h3 : 0 ≤ p2 ∧ p2 ≤ 244) (h4 : (-1) ≤ p3 ∧ p3 ≤ 7) (h5 : 0 ≤ z1085 ∧ z1085 ≤ 7) (h6 : 0 ≤ z1097 ∧ z1097 ≤ 0) : 1 ≤ p3 ∧ p3 ≤ 7 := by omega
theorem vc_X4_find_n_15 {p2 p3 z1085 : Int} (h0 : p2 + p3 ≤ 245) (h1 : ¬ z1085 = p3) (h2 : 0 ≤ p2 ∧ p2 ≤ 244) (h3 : (-1) ≤ p3 ∧ p3 ≤ 7) (h4 : 0 ≤ z1085 ∧ z1085 ≤ 7) : (z1085 = p3 ∧ (0 : Int) = 1) ∨ (¬ z1085 = p3 ∧ ¬ (0 : Int) = 1) := by omega
theorem vc_X4_find_n_22 {f_N z1073 : Int} (h0 : z1073 < f_N) (h1 : 1 ≤ f_N ∧ f_N ≤ 5) (h2 : 0 ≤ z1073 ∧ z1073 ≤ 4) : z1073 = z1073 := by omega
theorem vc_X4_find_n_24 {p2 p3 z1085 z1220 : Int} (h0 : p2 + p3 ≤ 245) (h1 : z1085 = p3) (h2 : p3 ≤ z1220) (h3 : 0 ≤ p2 ∧ p2 ≤ 244) (h4 : 0 ≤ p3 ∧ p3 ≤ 7) (h5 : 0 ≤ z1085 ∧ z1085 ≤ 7) (h6 : 0 ≤ z1220 ∧ z1220 ≤ 7) : p3 ≤ z1220 := by omega
theorem vc_X4_find_n_25 {p2 p3 z1085 z1220 : Int} (h0 : z1220 < p3) (h1 : p2 + p3 ≤ 245) (h2 : z1085 = p3) (h3 : 0 ≤ p2 ∧ p2 ≤ 244) (h4 : 0 ≤ p3 ∧ p3 ≤ 7) (h5 : 0 ≤ z1085 ∧ z1085 ≤ 7) (h6 : 0 ≤ z1220 ∧ z1220 ≤ 7) : 0 ≤ z1220 ∧ z1220 ≤ 6 := by omega
theorem vc_X4_find_n_26 {p2 p3 z1085 z1220 : Int} (h0 : z1220 < p3) (h1 : p2 + p3 ≤ 245) (h2 : z1085 = p3) (h3 : 0 ≤ p2 ∧ p2 ≤ 244) (h4 : 0 ≤ p3 ∧ p3 ≤ 7) (h5 : 0 ≤ z1085 ∧ z1085 ≤ 7) (h6 : 0 ≤ z1220 ∧ z1220 ≤ 6) : 1 ≤ p3 ∧ p3 ≤ 7 := by omega
theorem vc_X4_find_n_28 {f_q z1073 z1220 : Int} (h0 : 0 ≤ f_q ∧ f_q ≤ 6) (h1 : 0 ≤ z1073 ∧ z1073 ≤ 4) (h2 : 0 ≤ z1220 ∧ z1220 ≤ 6) : ((7 * ((f_q * 5) + z1073)) + z1220) = ((((f_q * 5) + z1073) * 7) + z1220) := by omega
theorem vc_X4_find_n_29 {p2 p3 z1085 z1220 : Int} (h0 : p2 + p3 ≤ 245) (h1 : z1220 < p3) (h2 : z1085 = p3) (h3 : 0 ≤ p2 ∧ p2 ≤ 244) (h4 : 1 ≤ p3 ∧ p3 ≤ 7) (h5 : 0 ≤ z1085 ∧ z1085 ≤ 7) (h6 : 0 ≤ z1220 ∧ z1220 ≤ 6) : 0 ≤ (p2 + z1220) ∧ (p2 + z1220) < 245 := by omega
theorem vc_X4_find_n_30 {N p2 p3 z1085 z1220 : Int} (h0 : (8 - z1220) < N + 1) (h1 : z1220 < p3) (h2 : p2 + p3 ≤ 245) (h3 : z1085 = p3) (h4 : 0 ≤ p2 ∧ p2 ≤ 244) (h5 : 1 ≤ p3 ∧ p3 ≤ 7) (h6 : 0 ≤ z1085 ∧ z1085 ≤ 7) (h7 : 0 ≤ z1220 ∧ z1220 ≤ 6) : (8 - (z1220 + 1)) < N := by omega
theorem vc_X4_find_n_31 {p2 p3 z1085 z1220 : Int} (h0 : p2 + p3 ≤ 245) (h1 : z1085 = p3) (h2 : z1220 < p3) (h3 : 0 ≤ p2 ∧ p2 ≤ 244) (h4 : 1 ≤ p3 ∧ p3 ≤ 7) (h5 : 0 ≤ z1085 ∧ z1085 ≤ 7) (h6 : 0 ≤ z1220 ∧ z1220 ≤ 6) : 0 ≤ z1220 ∧ z1220 < p3 := by omega
theorem vc_X4_find_n_32 {f_N f_q p2 p3 z1073 z1085 z1220 : Int} (h0 : z1073 < f_N) (h1 : z1220 < p3) (h2 : p2 + p3 ≤ 245) (h3 : z1085 = p3) (h4 : 1 ≤ f_N ∧ f_N ≤ 5) (h5 : 0 ≤ f_q ∧ f_q ≤ 6) (h6 : 0 ≤ p2 ∧ p2 ≤ 244) (h7 : 1 ≤ p3 ∧ p3 ≤ 7) (h8 : 0 ≤ z1073 ∧ z1073 ≤ 4) (h9 : 0 ≤ z1085 ∧ z1085 ≤ 7) (h10 : 0 ≤ z1220 ∧ z1220 ≤ 6) : 0 ≤ ((f_q * 5) + z1073) ∧ ((7 * ((f_q * 5) + z1073)) + z1220) = 7 * ((f_q * 5) + z1073) + z1220 := by omega
theorem vc_X4_find_n_33 {p2 p3 z1085 z1220 : Int} (h0 : p2 + p3 ≤ 245) (h1 : z1220 < p3) (h2 : z1085 = p3) (h3 : 0 ≤ p2 ∧ p2 ≤ 244) (h4 : 1 ≤ p3 ∧ p3 ≤ 7) (h5 : 0 ≤ z1085 ∧ z1085 ≤ 7) (h6 : 0 ≤ z1220 ∧ z1220 ≤ 6) : (p2 + z1220) = p2 + z1220 := by omega
theorem vc_X4_find_n_37 {p2 p3 z1085 : Int} (h0 : p2 + p3 ≤ 245) (h1 : z1085 = p3) (h2 : 0 ≤ p2 ∧ p2 ≤ 244) (h3 : 0 ≤ p3 ∧ p3 ≤ 7) (h4 : 0 ≤ z1085 ∧ z1085 ≤ 7) : (z1085 = p3 ∧ (1 : Int) = 1) ∨ (¬ z1085 = p3 ∧ ¬ (1 : Int) = 1) := by omega
set_option maxRecDepth 4000 in
set_option maxHeartbeats 4000000 in
theorem c_X4_find_n {l : Launch} {D : va_G} {c : Nat → ClassId} {H0 : Heap} {sa : Nat × Nat × (Nat → Int32)} {w : mW} {μ : mM} (hw : mWF w) (hT : mT w μ) (hA1 : mAt w 96 96) {p2 : Int} (hp2 : 0 ≤ p2 ∧ p2 ≤ 244) {p3 : Int} (hp3 : (-1) ≤ p3 ∧ p3 ≤ 7) {f_q : Int} (q_f_q : μ 96 (p2.toNat) = f_q) {f_N : Int} (q_f_N : μ 95 (f_q.toNat) = f_N) (hq0 : p2 + p3 ≤ 245) : sC (gG l D c H0 sa) mX4_find 1 0 0 [.ref 94, .ref 96, iv p2, iv p3] (mk w μ) (qP w μ (fun z => ((-1) ≤ z ∧ z ≤ 4) ∧ (fnG μ f_q p2 p3 f_N z) ∧ True)) := by
  refine sC.of rfl (by decide) (le_t rfl) ?_
  have ht_f_q : (0 ≤ f_q ∧ f_q ≤ 6) := by rw [← q_f_q]; exact hT 96 96 (A_96 hw) (p2.toNat)
  have ht_f_N : (0 ≤ f_N ∧ f_N ≤ 5) := by rw [← q_f_N]; exact hT 95 95 (A_95 hw) (f_q.toNat)
  refine mr_lvE (lv' := [(0, .ref 94), (1, .ref 96), (2, iv p2), (3, iv p3)]) rfl ?_
  refine sv_aload_n (pc := 0) dX4_find_0 rfl rfl ?_
  refine mr_iload_n (pc := 1) (z := p2) dX4_find_1 rfl rfl ?_
  refine lk_96 (pc := 2) dX4_find_2 (A_96 hw) (rIx (n := 245) hp2 rfl) q_f_q ?_
  refine mr_istore (pc := 3) (lv' := [(4, iv f_q), (0, .ref 94), (1, .ref 96), (2, iv p2), (3, iv p3)]) dX4_find_3 (by decide) rfl ?_
  refine mr_iconst (pc := 5) (z := 0) dX4_find_5 ?_
  refine mr_istore (pc := 6) (lv' := [(5, iv 0), (4, iv f_q), (0, .ref 94), (1, .ref 96), (2, iv p2), (3, iv p3)]) dX4_find_6 (by decide) rfl ?_
  have L1074 : ∀ (nL1074 : Nat) (z1073 : Int), True → (0 ≤ z1073 ∧ z1073 ≤ 5) → nsf μ f_q p2 p3 z1073 → (6 - z1073) < (nL1074 : Int) → sV (gG l D c H0 sa) mX4_find (sRm 1 0 0) (sZ (gG l D c H0 sa) 0 0 (qP w μ (fun z => ((-1) ≤ z ∧ z ≤ 4) ∧ (fnG μ f_q p2 p3 f_N z) ∧ True))) 8 [(0, .ref 94), (1, .ref 96), (2, iv p2), (3, iv p3), (4, iv f_q), (5, iv z1073)] [] (mk w μ) 0 0 := by
    intro nL1074
    induction nL1074 with
    | zero => intro z1073 _ h1075 R1079 h1080; exact ((vc_X12_acted_1 h1080 h1075)).elim
    | succ nL1074 ih1081 =>
      intro z1073 _ h1075 R1079 h1080
      refine mr_iload (pc := 8) (z := z1073) dX4_find_8 rfl ?_
      refine sv_aload_n (pc := 10) dX4_find_10 rfl rfl ?_
      refine gf_X4_12 (pc := 11) dX4_find_11 wF_X4_11 (A_94 hw) hT ?_
      refine mr_iload (pc := 14) (z := f_q) dX4_find_14 rfl ?_
      refine lk_95 (pc := 16) dX4_find_16 (A_95 hw) (rIx (n := 7) ht_f_q rfl) q_f_N ?_
      refine mr_icmp_ge (pc := 17) (tgt := 110) dX4_find_17 (by decide) (r32 h1075 rfl) (r32 ht_f_N rfl) (fun h1082 => ?_) (fun h1082 => ?_)
      · refine mr_iconst (pc := 110) (z := (-1)) dX4_find_110 ?_
        exact mr_iretP dX4_find_111 rfl (le_t rfl) (le_t rfl) ⟨(rW (c := (-1)) (d := 4) (rR (x := (-1))) rfl), (fnG.no R1079 (vc_X12_acted_4 h1082 ht_f_N h1075)), trivial⟩
      have h1083 : 0 ≤ z1073 ∧ z1073 ≤ 4 := (vc_X4_actOf_2 h1082 ht_f_N h1075)
      have h1084 : 1 ≤ f_N ∧ f_N ≤ 5 := (vc_X4_actOf_3 h1082 ht_f_N h1083)
      refine mr_iload (pc := 20) (z := f_q) dX4_find_20 rfl ?_
      refine mr_iconst (pc := 22) (z := 5) dX4_find_22 ?_
      refine mr_imul (pc := 23) (x := f_q) (y := 5) dX4_find_23 ?_
      refine mr_iload (pc := 24) (z := z1073) dX4_find_24 rfl ?_
      refine mr_iadd (pc := 26) (x := (f_q * 5)) (y := z1073) dX4_find_26 ?_
      refine mr_istore (pc := 27) (lv' := [(6, iv ((f_q * 5) + z1073)), (0, .ref 94), (1, .ref 96), (2, iv p2), (3, iv p3), (4, iv f_q), (5, iv z1073)]) dX4_find_27 (by decide) rfl ?_
      refine sv_aload_n (pc := 29) dX4_find_29 rfl rfl ?_
      refine gf_X4_1 (pc := 30) dX4_find_30 wF_X4_18 (A_94 hw) hT ?_
      refine mr_iload (pc := 33) (z := ((f_q * 5) + z1073)) dX4_find_33 rfl ?_
      refine la_97 (pc := 35) dX4_find_35 (A_97 hw) hT (rIx (n := 35) (rAdd (e := 0) (f := 34) (rMulR (n := 5) (e := 0) (f := 30) ht_f_q rfl) h1083 rfl) rfl) fun z1085 q1086 h1087 => ?_
      refine mr_iload_n (pc := 36) (z := p3) dX4_find_36 rfl rfl ?_
      refine mr_icmp_ne (pc := 37) (tgt := 44) dX4_find_37 (by decide) (r32 h1087 rfl) (r32 hp3 rfl) (fun h1088 => ?_) (fun h1088 => ?_)
      · refine mr_iconst (pc := 44) (z := 0) dX4_find_44 ?_
        refine mr_istore (pc := 45) (lv' := [(7, iv 0), (6, iv ((f_q * 5) + z1073)), (0, .ref 94), (1, .ref 96), (2, iv p2), (3, iv p3), (4, iv f_q), (5, iv z1073)]) dX4_find_45 (by decide) rfl ?_
        refine mr_iconst (pc := 47) (z := 0) dX4_find_47 ?_
        refine mr_istore (pc := 48) (lv' := [(8, iv 0), (7, iv 0), (6, iv ((f_q * 5) + z1073)), (0, .ref 94), (1, .ref 96), (2, iv p2), (3, iv p3), (4, iv f_q), (5, iv z1073)]) dX4_find_48 (by decide) rfl ?_
        have L1099 : ∀ (nL1099 : Nat) (z1098 z1097 : Int), True → (0 ≤ z1098 ∧ z1098 ≤ 0) → (0 ≤ z1097 ∧ z1097 ≤ 0) → sfI μ (((f_q * 5) + z1073)).toNat p2 p3 z1097 z1098 → 1 < (nL1099 : Int) → sV (gG l D c H0 sa) mX4_find (sRm 1 0 0) (sZ (gG l D c H0 sa) 0 0 (qP w μ (fun z => ((-1) ≤ z ∧ z ≤ 4) ∧ (fnG μ f_q p2 p3 f_N z) ∧ True))) 50 [(0, .ref 94), (1, .ref 96), (2, iv p2), (3, iv p3), (4, iv f_q), (5, iv z1073), (6, iv ((f_q * 5) + z1073)), (7, iv z1098), (8, iv z1097)] [] (mk w μ) 0 0 := by
          intro nL1099
          induction nL1099 with
          | zero => intro z1098 z1097 _ h1100 h1101 R1105 h1106; exact ((vc_X8_lastStanding_2 h1106)).elim
          | succ nL1099 ih1107 =>
            intro z1098 z1097 _ h1100 h1101 R1105 h1106
            refine mr_iload (pc := 50) (z := z1097) dX4_find_50 rfl ?_
            refine mr_iload_n (pc := 52) (z := p3) dX4_find_52 rfl rfl ?_
            refine mr_icmp_ge (pc := 53) (tgt := 96) dX4_find_53 (by decide) (r32 h1101 rfl) (r32 hp3 rfl) (fun h1108 => ?_) (fun h1108 => ?_)
            · have h1109 : (-1) ≤ p3 ∧ p3 ≤ 0 := (vc_X4_find_n_6 h1108 hq0 h1088 hp2 hp3 h1087 h1101)
              refine mr_iload (pc := 96) (z := z1098) dX4_find_96 rfl ?_
              refine mr_if_eq (pc := 98) (tgt := 104) dX4_find_98 (by decide) (r32 h1100 rfl) (fun _ => ?_) (fun h => ((vc_X10_firstWrongStep_7 h h1100)).elim)
              refine mr_iinc (pc := 104) (lv' := [(5, iv (z1073 + 1)), (0, .ref 94), (1, .ref 96), (2, iv p2), (3, iv p3), (4, iv f_q), (6, iv ((f_q * 5) + z1073)), (7, iv z1098), (8, iv z1097)]) dX4_find_104 rfl (by decide) rfl ?_
              refine sv_goto (pc := 107) (tgt := 8) dX4_find_107 (by decide) ?_
              refine mr_lvS (lv' := [(0, .ref 94), (1, .ref 96), (2, iv p2), (3, iv p3), (4, iv f_q), (5, iv (z1073 + 1))]) (List.forall_mem_cons.mpr ⟨rfl, List.forall_mem_cons.mpr ⟨rfl, List.forall_mem_cons.mpr ⟨rfl, List.forall_mem_cons.mpr ⟨rfl, List.forall_mem_cons.mpr ⟨rfl, List.forall_mem_cons.mpr ⟨rfl, fun _ h => absurd h List.not_mem_nil⟩⟩⟩⟩⟩⟩) ?_
              exact ih1081 (z1073 + 1) trivial (rW (c := 0) (d := 5) (rAdd (e := 1) (f := 5) h1083 (rR (x := 1)) rfl) rfl) (nsf.next R1079 (vc_X12_acted_w_15 h1082 h1084 h1083) (vc_X4_find_n_10 h1082 h1084 ht_f_q h1083) ((R1105).2 (vc_X4_find_n_11 h1100))) (vc_X4_actOf_6 (nS h1080) h1082 h1084 h1083)
            have h1110 : 1 ≤ p3 ∧ p3 ≤ 7 := (vc_X4_find_n_12 h1108 hq0 h1088 hp2 hp3 h1087 h1101)
            refine mr_iload (pc := 56) (z := z1098) dX4_find_56 rfl ?_
            refine mr_if_eq (pc := 58) (tgt := 96) dX4_find_58 (by decide) (r32 h1100 rfl) (fun _ => ?_) (fun h => ((vc_X10_firstWrongStep_7 h h1100)).elim)
            refine mr_iload (pc := 96) (z := z1098) dX4_find_96 rfl ?_
            refine mr_if_eq (pc := 98) (tgt := 104) dX4_find_98 (by decide) (r32 h1100 rfl) (fun _ => ?_) (fun h => ((vc_X10_firstWrongStep_7 h h1100)).elim)
            refine mr_iinc (pc := 104) (lv' := [(5, iv (z1073 + 1)), (0, .ref 94), (1, .ref 96), (2, iv p2), (3, iv p3), (4, iv f_q), (6, iv ((f_q * 5) + z1073)), (7, iv z1098), (8, iv z1097)]) dX4_find_104 rfl (by decide) rfl ?_
            refine sv_goto (pc := 107) (tgt := 8) dX4_find_107 (by decide) ?_
            refine mr_lvS (lv' := [(0, .ref 94), (1, .ref 96), (2, iv p2), (3, iv p3), (4, iv f_q), (5, iv (z1073 + 1))]) (List.forall_mem_cons.mpr ⟨rfl, List.forall_mem_cons.mpr ⟨rfl, List.forall_mem_cons.mpr ⟨rfl, List.forall_mem_cons.mpr ⟨rfl, List.forall_mem_cons.mpr ⟨rfl, List.forall_mem_cons.mpr ⟨rfl, fun _ h => absurd h List.not_mem_nil⟩⟩⟩⟩⟩⟩) ?_
            exact ih1081 (z1073 + 1) trivial (rW (c := 0) (d := 5) (rAdd (e := 1) (f := 5) h1083 (rR (x := 1)) rfl) rfl) (nsf.next R1079 (vc_X12_acted_w_15 h1082 h1084 h1083) (vc_X4_find_n_10 h1082 h1084 ht_f_q h1083) ((R1105).2 (vc_X4_find_n_11 h1100))) (vc_X4_actOf_6 (nS h1080) h1082 h1084 h1083)
        refine mr_lvS (lv' := [(0, .ref 94), (1, .ref 96), (2, iv p2), (3, iv p3), (4, iv f_q), (5, iv z1073), (6, iv ((f_q * 5) + z1073)), (7, iv 0), (8, iv 0)]) (List.forall_mem_cons.mpr ⟨rfl, List.forall_mem_cons.mpr ⟨rfl, List.forall_mem_cons.mpr ⟨rfl, List.forall_mem_cons.mpr ⟨rfl, List.forall_mem_cons.mpr ⟨rfl, List.forall_mem_cons.mpr ⟨rfl, List.forall_mem_cons.mpr ⟨rfl, List.forall_mem_cons.mpr ⟨rfl, List.forall_mem_cons.mpr ⟨rfl, fun _ h => absurd h List.not_mem_nil⟩⟩⟩⟩⟩⟩⟩⟩⟩) ?_
        exact L1099 2 0 0 trivial (rR (x := 0)) (rR (x := 0)) (sfI.start q1086 vc_X12_isOffered_v_15 (vc_X4_find_n_15 hq0 h1088 hp2 hp3 h1087)) vc_X8_lastStanding_7
      have h1111 : 0 ≤ p3 ∧ p3 ≤ 7 := (vc_X4_find_w_14 h1088 hq0 hp2 hp3 h1087)
      refine mr_iconst (pc := 40) (z := 1) dX4_find_40 ?_
      refine sv_goto (pc := 41) (tgt := 45) dX4_find_41 (by decide) ?_
      refine mr_istore (pc := 45) (lv' := [(7, iv 1), (6, iv ((f_q * 5) + z1073)), (0, .ref 94), (1, .ref 96), (2, iv p2), (3, iv p3), (4, iv f_q), (5, iv z1073)]) dX4_find_45 (by decide) rfl ?_
      refine mr_iconst (pc := 47) (z := 0) dX4_find_47 ?_
      refine mr_istore (pc := 48) (lv' := [(8, iv 0), (7, iv 1), (6, iv ((f_q * 5) + z1073)), (0, .ref 94), (1, .ref 96), (2, iv p2), (3, iv p3), (4, iv f_q), (5, iv z1073)]) dX4_find_48 (by decide) rfl ?_
      have L1222 : ∀ (nL1222 : Nat) (z1221 z1220 : Int), True → (0 ≤ z1221 ∧ z1221 ≤ 1) → (0 ≤ z1220 ∧ z1220 ≤ 7) → sfI μ (((f_q * 5) + z1073)).toNat p2 p3 z1220 z1221 → (8 - z1220) < (nL1222 : Int) → sV (gG l D c H0 sa) mX4_find (sRm 1 0 0) (sZ (gG l D c H0 sa) 0 0 (qP w μ (fun z => ((-1) ≤ z ∧ z ≤ 4) ∧ (fnG μ f_q p2 p3 f_N z) ∧ True))) 50 [(0, .ref 94), (1, .ref 96), (2, iv p2), (3, iv p3), (4, iv f_q), (5, iv z1073), (6, iv ((f_q * 5) + z1073)), (7, iv z1221), (8, iv z1220)] [] (mk w μ) 0 0 := by
        intro nL1222
        induction nL1222 with
        | zero => intro z1221 z1220 _ h1223 h1224 R1228 h1229; exact ((vc_X12_isOffered_3 h1229 h1224)).elim
        | succ nL1222 ih1230 =>
          intro z1221 z1220 _ h1223 h1224 R1228 h1229
          refine mr_iload (pc := 50) (z := z1220) dX4_find_50 rfl ?_
          refine mr_iload_n (pc := 52) (z := p3) dX4_find_52 rfl rfl ?_
          refine mr_icmp_ge (pc := 53) (tgt := 96) dX4_find_53 (by decide) (r32 h1224 rfl) (r32 h1111 rfl) (fun h1231 => ?_) (fun h1231 => ?_)
          · refine mr_iload (pc := 96) (z := z1221) dX4_find_96 rfl ?_
            refine mr_if_eq (pc := 98) (tgt := 104) dX4_find_98 (by decide) (r32 h1223 rfl) (fun h1232 => ?_) (fun h1232 => ?_)
            · have h1233 : 0 ≤ z1221 ∧ z1221 ≤ 0 := (vc_X12_ring_22 h1232 h1223)
              refine mr_iinc (pc := 104) (lv' := [(5, iv (z1073 + 1)), (0, .ref 94), (1, .ref 96), (2, iv p2), (3, iv p3), (4, iv f_q), (6, iv ((f_q * 5) + z1073)), (7, iv z1221), (8, iv z1220)]) dX4_find_104 rfl (by decide) rfl ?_
              refine sv_goto (pc := 107) (tgt := 8) dX4_find_107 (by decide) ?_
              refine mr_lvS (lv' := [(0, .ref 94), (1, .ref 96), (2, iv p2), (3, iv p3), (4, iv f_q), (5, iv (z1073 + 1))]) (List.forall_mem_cons.mpr ⟨rfl, List.forall_mem_cons.mpr ⟨rfl, List.forall_mem_cons.mpr ⟨rfl, List.forall_mem_cons.mpr ⟨rfl, List.forall_mem_cons.mpr ⟨rfl, List.forall_mem_cons.mpr ⟨rfl, fun _ h => absurd h List.not_mem_nil⟩⟩⟩⟩⟩⟩) ?_
              exact ih1081 (z1073 + 1) trivial (rW (c := 0) (d := 5) (rAdd (e := 1) (f := 5) h1083 (rR (x := 1)) rfl) rfl) (nsf.next R1079 (vc_X12_acted_w_15 h1082 h1084 h1083) (vc_X4_find_n_10 h1082 h1084 ht_f_q h1083) ((R1228).2 (vc_X12_acted_w_17 h1232 h1233))) (vc_X4_actOf_6 (nS h1080) h1082 h1084 h1083)
            have h1234 : 1 ≤ z1221 ∧ z1221 ≤ 1 := (vc_X12_ring_24 h1232 h1223)
            refine mr_iload (pc := 101) (z := z1073) dX4_find_101 rfl ?_
            exact mr_iretP dX4_find_103 rfl (le_t rfl) (le_t rfl) ⟨(rW (c := (-1)) (d := 4) h1083 rfl), (fnG.yes (vc_X12_acted_w_20 h1082 h1084 h1083) (vc_X4_find_n_10 h1082 h1084 ht_f_q h1083) (vc_X4_find_n_22 h1082 h1084 h1083) ((R1228).yes (vc_X12_best_l_18 h1232 h1234) (vc_X4_find_n_24 hq0 h1088 h1231 hp2 h1111 h1087 h1224))), trivial⟩
          have h1235 : 0 ≤ z1220 ∧ z1220 ≤ 6 := (vc_X4_find_n_25 h1231 hq0 h1088 hp2 h1111 h1087 h1224)
          have h1236 : 1 ≤ p3 ∧ p3 ≤ 7 := (vc_X4_find_n_26 h1231 hq0 h1088 hp2 h1111 h1087 h1235)
          refine mr_iload (pc := 56) (z := z1221) dX4_find_56 rfl ?_
          refine mr_if_eq (pc := 58) (tgt := 96) dX4_find_58 (by decide) (r32 h1223 rfl) (fun h1237 => ?_) (fun h1237 => ?_)
          · have h1238 : 0 ≤ z1221 ∧ z1221 ≤ 0 := (vc_X12_ring_22 h1237 h1223)
            refine mr_iload (pc := 96) (z := z1221) dX4_find_96 rfl ?_
            refine mr_if_eq (pc := 98) (tgt := 104) dX4_find_98 (by decide) (r32 h1238 rfl) (fun _ => ?_) (fun h => ((vc_X10_firstWrongStep_7 h h1238)).elim)
            refine mr_iinc (pc := 104) (lv' := [(5, iv (z1073 + 1)), (0, .ref 94), (1, .ref 96), (2, iv p2), (3, iv p3), (4, iv f_q), (6, iv ((f_q * 5) + z1073)), (7, iv z1221), (8, iv z1220)]) dX4_find_104 rfl (by decide) rfl ?_
            refine sv_goto (pc := 107) (tgt := 8) dX4_find_107 (by decide) ?_
            refine mr_lvS (lv' := [(0, .ref 94), (1, .ref 96), (2, iv p2), (3, iv p3), (4, iv f_q), (5, iv (z1073 + 1))]) (List.forall_mem_cons.mpr ⟨rfl, List.forall_mem_cons.mpr ⟨rfl, List.forall_mem_cons.mpr ⟨rfl, List.forall_mem_cons.mpr ⟨rfl, List.forall_mem_cons.mpr ⟨rfl, List.forall_mem_cons.mpr ⟨rfl, fun _ h => absurd h List.not_mem_nil⟩⟩⟩⟩⟩⟩) ?_
            exact ih1081 (z1073 + 1) trivial (rW (c := 0) (d := 5) (rAdd (e := 1) (f := 5) h1083 (rR (x := 1)) rfl) rfl) (nsf.next R1079 (vc_X12_acted_w_15 h1082 h1084 h1083) (vc_X4_find_n_10 h1082 h1084 ht_f_q h1083) ((R1228).2 (vc_X12_acted_w_17 h1237 h1238))) (vc_X4_actOf_6 (nS h1080) h1082 h1084 h1083)
          have h1239 : 1 ≤ z1221 ∧ z1221 ≤ 1 := (vc_X12_ring_24 h1237 h1223)
          refine sv_aload_n (pc := 61) dX4_find_61 rfl rfl ?_
          refine gf_X4_0 (pc := 62) dX4_find_62 wF_X4_15 (A_94 hw) hT ?_
          refine mr_iload (pc := 65) (z := ((f_q * 5) + z1073)) dX4_find_65 rfl ?_
          refine mr_bipush (pc := 67) (z := 7) dX4_find_67 (by decide) ?_
          refine mr_imul (pc := 69) (x := ((f_q * 5) + z1073)) (y := 7) dX4_find_69 ?_
          refine mr_iload (pc := 70) (z := z1220) dX4_find_70 rfl ?_
          refine mr_iadd (pc := 72) (x := (((f_q * 5) + z1073) * 7)) (y := z1220) dX4_find_72 ?_
          refine la_96 (pc := 73) dX4_find_73 (A_96 hw) hT (rIx (n := 245) (rAdd (e := 0) (f := 244) (rMulR (n := 7) (e := 0) (f := 238) (rAdd (e := 0) (f := 34) (rMulR (n := 5) (e := 0) (f := 30) ht_f_q rfl) h1083 rfl) rfl) h1235 rfl) rfl) fun z1240 q1241 h1242 => ?_
          refine sv_aload_n (pc := 74) dX4_find_74 rfl rfl ?_
          refine mr_iload_n (pc := 75) (z := p2) dX4_find_75 rfl rfl ?_
          refine mr_iload (pc := 76) (z := z1220) dX4_find_76 rfl ?_
          refine mr_iadd (pc := 78) (x := p2) (y := z1220) dX4_find_78 ?_
          refine la_96 (pc := 79) dX4_find_79 (A_96 hw) hT (vc_X4_find_n_29 hq0 h1231 h1088 hp2 h1236 h1087 h1235) fun z1243 q1244 h1245 => ?_
          refine mr_icmp_ne (pc := 80) (tgt := 87) dX4_find_80 (by decide) (r32 h1242 rfl) (r32 h1245 rfl) (fun h1246 => ?_) (fun h1246 => ?_)
          · refine mr_iconst (pc := 87) (z := 0) dX4_find_87 ?_
            refine mr_istore (pc := 88) (lv' := [(7, iv 0), (0, .ref 94), (1, .ref 96), (2, iv p2), (3, iv p3), (4, iv f_q), (5, iv z1073), (6, iv ((f_q * 5) + z1073)), (8, iv z1220)]) dX4_find_88 (by decide) rfl ?_
            refine mr_iinc (pc := 90) (lv' := [(8, iv (z1220 + 1)), (7, iv 0), (0, .ref 94), (1, .ref 96), (2, iv p2), (3, iv p3), (4, iv f_q), (5, iv z1073), (6, iv ((f_q * 5) + z1073))]) dX4_find_90 rfl (by decide) rfl ?_
            refine sv_goto (pc := 93) (tgt := 50) dX4_find_93 (by decide) ?_
            refine mr_lvS (lv' := [(0, .ref 94), (1, .ref 96), (2, iv p2), (3, iv p3), (4, iv f_q), (5, iv z1073), (6, iv ((f_q * 5) + z1073)), (7, iv 0), (8, iv (z1220 + 1))]) (List.forall_mem_cons.mpr ⟨rfl, List.forall_mem_cons.mpr ⟨rfl, List.forall_mem_cons.mpr ⟨rfl, List.forall_mem_cons.mpr ⟨rfl, List.forall_mem_cons.mpr ⟨rfl, List.forall_mem_cons.mpr ⟨rfl, List.forall_mem_cons.mpr ⟨rfl, List.forall_mem_cons.mpr ⟨rfl, List.forall_mem_cons.mpr ⟨rfl, fun _ h => absurd h List.not_mem_nil⟩⟩⟩⟩⟩⟩⟩⟩⟩) ?_
            exact ih1230 0 (z1220 + 1) trivial (rW (c := 0) (d := 1) (rR (x := 0)) rfl) (rW (c := 0) (d := 7) (rAdd (e := 1) (f := 7) h1235 (rR (x := 1)) rfl) rfl) (sfI.next R1228 (vc_X12_best_l_18 h1237 h1239) (vc_X4_find_n_31 hq0 h1088 h1231 hp2 h1236 h1087 h1235) (eqIx (vc_X4_find_n_28 ht_f_q h1083 h1235) q1241) (vc_X4_find_n_32 h1082 h1231 hq0 h1088 h1084 ht_f_q hp2 h1236 h1083 h1087 h1235) q1244 (vc_X4_find_n_33 hq0 h1231 h1088 hp2 h1236 h1087 h1235) (vc_X12_isOffered_v_34 h1246 h1242 h1245)) (vc_X4_find_n_30 (nS h1229) h1231 hq0 h1088 hp2 h1236 h1087 h1235)
          refine mr_iconst (pc := 83) (z := 1) dX4_find_83 ?_
          refine sv_goto (pc := 84) (tgt := 88) dX4_find_84 (by decide) ?_
          refine mr_istore (pc := 88) (lv' := [(7, iv 1), (0, .ref 94), (1, .ref 96), (2, iv p2), (3, iv p3), (4, iv f_q), (5, iv z1073), (6, iv ((f_q * 5) + z1073)), (8, iv z1220)]) dX4_find_88 (by decide) rfl ?_
          refine mr_iinc (pc := 90) (lv' := [(8, iv (z1220 + 1)), (7, iv 1), (0, .ref 94), (1, .ref 96), (2, iv p2), (3, iv p3), (4, iv f_q), (5, iv z1073), (6, iv ((f_q * 5) + z1073))]) dX4_find_90 rfl (by decide) rfl ?_
          refine sv_goto (pc := 93) (tgt := 50) dX4_find_93 (by decide) ?_
          refine mr_lvS (lv' := [(0, .ref 94), (1, .ref 96), (2, iv p2), (3, iv p3), (4, iv f_q), (5, iv z1073), (6, iv ((f_q * 5) + z1073)), (7, iv 1), (8, iv (z1220 + 1))]) (List.forall_mem_cons.mpr ⟨rfl, List.forall_mem_cons.mpr ⟨rfl, List.forall_mem_cons.mpr ⟨rfl, List.forall_mem_cons.mpr ⟨rfl, List.forall_mem_cons.mpr ⟨rfl, List.forall_mem_cons.mpr ⟨rfl, List.forall_mem_cons.mpr ⟨rfl, List.forall_mem_cons.mpr ⟨rfl, List.forall_mem_cons.mpr ⟨rfl, fun _ h => absurd h List.not_mem_nil⟩⟩⟩⟩⟩⟩⟩⟩⟩) ?_
          exact ih1230 1 (z1220 + 1) trivial (rW (c := 0) (d := 1) (rR (x := 1)) rfl) (rW (c := 0) (d := 7) (rAdd (e := 1) (f := 7) h1235 (rR (x := 1)) rfl) rfl) (sfI.next R1228 (vc_X12_best_l_18 h1237 h1239) (vc_X4_find_n_31 hq0 h1088 h1231 hp2 h1236 h1087 h1235) (eqIx (vc_X4_find_n_28 ht_f_q h1083 h1235) q1241) (vc_X4_find_n_32 h1082 h1231 hq0 h1088 h1084 ht_f_q hp2 h1236 h1083 h1087 h1235) q1244 (vc_X4_find_n_33 hq0 h1231 h1088 hp2 h1236 h1087 h1235) (vc_X12_isOffered_v_35 h1246 h1242 h1245)) (vc_X4_find_n_30 (nS h1229) h1231 hq0 h1088 hp2 h1236 h1087 h1235)
      refine mr_lvS (lv' := [(0, .ref 94), (1, .ref 96), (2, iv p2), (3, iv p3), (4, iv f_q), (5, iv z1073), (6, iv ((f_q * 5) + z1073)), (7, iv 1), (8, iv 0)]) (List.forall_mem_cons.mpr ⟨rfl, List.forall_mem_cons.mpr ⟨rfl, List.forall_mem_cons.mpr ⟨rfl, List.forall_mem_cons.mpr ⟨rfl, List.forall_mem_cons.mpr ⟨rfl, List.forall_mem_cons.mpr ⟨rfl, List.forall_mem_cons.mpr ⟨rfl, List.forall_mem_cons.mpr ⟨rfl, List.forall_mem_cons.mpr ⟨rfl, fun _ h => absurd h List.not_mem_nil⟩⟩⟩⟩⟩⟩⟩⟩⟩) ?_
      exact L1222 9 1 0 trivial (rW (c := 0) (d := 1) (rR (x := 1)) rfl) (rW (c := 0) (d := 7) (rR (x := 0)) rfl) (sfI.start q1086 vc_X12_isOffered_v_15 (vc_X4_find_n_37 hq0 h1088 hp2 h1111 h1087)) vc_X12_isOffered_10
  refine mr_lvS (lv' := [(0, .ref 94), (1, .ref 96), (2, iv p2), (3, iv p3), (4, iv f_q), (5, iv 0)]) (List.forall_mem_cons.mpr ⟨rfl, List.forall_mem_cons.mpr ⟨rfl, List.forall_mem_cons.mpr ⟨rfl, List.forall_mem_cons.mpr ⟨rfl, List.forall_mem_cons.mpr ⟨rfl, List.forall_mem_cons.mpr ⟨rfl, fun _ h => absurd h List.not_mem_nil⟩⟩⟩⟩⟩⟩) ?_
  exact L1074 7 0 trivial (rW (c := 0) (d := 5) (rR (x := 0)) rfl) (nsf.zero vc_X12_isOffered_v_15) vc_X12_acted_13
theorem vc_X4_need_v_1 {p1 : Int} (h0 : 5 ≤ p1 ∧ p1 ≤ 34) : ((p1 * 7) + 1) = ((7 * p1) + 1) := by omega
theorem vc_X4_need_v_3 {f_l p1 : Int} (h0 : 0 ≤ f_l ∧ f_l ≤ 7) (h1 : 5 ≤ p1 ∧ p1 ≤ 34) : ((p1 * 7) + 1) + (f_l - 1) ≤ 245 := by omega
theorem vc_X4_need_v_4 {p1 : Int} (h0 : 5 ≤ p1 ∧ p1 ≤ 34) : 0 ≤ p1 := by omega
theorem vc_X4_need_v_5 {f_l : Int} (h0 : 0 ≤ f_l ∧ f_l ≤ 7) : (f_l - 1) = f_l - 1 := by omega
theorem vc_X4_need_v_6 {f_s : Int} (h0 : ¬ f_s = 0) (h1 : 1 ≤ f_s ∧ f_s ≤ 6) : f_s = f_s := by omega
theorem vc_X4_need_v_7 {p1 : Int} (h0 : 5 ≤ p1 ∧ p1 ≤ 34) : 0 ≤ p1 ∧ ((7 * p1) + 1) = 7 * p1 + 1 := by omega
set_option maxRecDepth 4000 in
set_option maxHeartbeats 4000000 in
theorem c_X4_need_v {l : Launch} {D : va_G} {c : Nat → ClassId} {H0 : Heap} {sa : Nat × Nat × (Nat → Int32)} {w : mW} {μ : mM} (hw : mWF w) (hT : mT w μ) {p1 : Int} (hp1 : 5 ≤ p1 ∧ p1 ≤ 34) {f_s : Int} (q_f_s : μ 96 (((7 * p1) + 1).toNat) = f_s) {f_l : Int} (q_f_l : μ 97 (p1.toNat) = f_l) {f_N : Int} (q_f_N : μ 95 (f_s.toNat) = f_N) : sC (gG l D c H0 sa) mX4_need 2 0 0 [.ref 94, iv p1] (mk w μ) (qV w [98999, 99999] μ (fun μ1 => (ndW μ μ1 p1) ∧ True)) := by
  refine sC.of rfl (by decide) (le_t rfl) ?_
  have ht_f_s : (0 ≤ f_s ∧ f_s ≤ 6) := by rw [← q_f_s]; exact hT 96 96 (A_96 hw) (((7 * p1) + 1).toNat)
  have ht_f_l : (0 ≤ f_l ∧ f_l ≤ 7) := by rw [← q_f_l]; exact hT 97 97 (A_97 hw) (p1.toNat)
  have ht_f_N : (0 ≤ f_N ∧ f_N ≤ 5) := by rw [← q_f_N]; exact hT 95 95 (A_95 hw) (f_s.toNat)
  refine mr_lvE (lv' := [(0, .ref 94), (1, iv p1)]) rfl ?_
  refine sv_aload_n (pc := 0) dX4_need_0 rfl rfl ?_
  refine gf_X4_0 (pc := 1) dX4_need_1 wF_X4_15 (A_94 hw) hT ?_
  refine mr_iload_n (pc := 4) (z := p1) dX4_need_4 rfl rfl ?_
  refine mr_bipush (pc := 5) (z := 7) dX4_need_5 (by decide) ?_
  refine mr_imul (pc := 7) (x := p1) (y := 7) dX4_need_7 ?_
  refine mr_iconst (pc := 8) (z := 1) dX4_need_8 ?_
  refine mr_iadd (pc := 9) (x := (p1 * 7)) (y := 1) dX4_need_9 ?_
  refine lk_96 (pc := 10) dX4_need_10 (A_96 hw) (rIx (n := 245) (rAdd (e := 36) (f := 239) (rMulR (n := 7) (e := 35) (f := 238) hp1 rfl) (rR (x := 1)) rfl) rfl) (eqIx (vc_X4_need_v_1 hp1) q_f_s) ?_
  refine mr_istore_n (pc := 11) (lv' := [(2, iv f_s), (0, .ref 94), (1, iv p1)]) dX4_need_11 rfl (by decide) rfl ?_
  refine sv_aload_n (pc := 12) dX4_need_12 rfl rfl ?_
  refine gf_X4_2 (pc := 13) dX4_need_13 wF_X4_21 (A_94 hw) hT ?_
  refine mr_iload_n (pc := 16) (z := p1) dX4_need_16 rfl rfl ?_
  refine mr_iload_n (pc := 17) (z := f_s) dX4_need_17 rfl rfl ?_
  refine ss_98 (pc := 18) dX4_need_18 (A_98 hw) hT (rIx (n := 35) hp1 rfl) ht_f_s fun μ49 u50 T51 => ?_
  refine sv_aload_n (pc := 19) dX4_need_19 rfl rfl ?_
  refine gf_X4_3 (pc := 20) dX4_need_20 wF_X4_24 (A_94 hw) T51 ?_
  refine mr_iload_n (pc := 23) (z := p1) dX4_need_23 rfl rfl ?_
  refine mr_iload_n (pc := 24) (z := f_s) dX4_need_24 rfl rfl ?_
  refine mr_if_ne (pc := 25) (tgt := 32) dX4_need_25 (by decide) (r32 ht_f_s rfl) (fun h52 => ?_) (fun h52 => ?_)
  · have h53 : 1 ≤ f_s ∧ f_s ≤ 6 := (vc_X12_isOffered_1 h52 ht_f_s)
    refine sv_aload_n (pc := 32) dX4_need_32 rfl rfl ?_
    refine sv_aload_n (pc := 33) dX4_need_33 rfl rfl ?_
    refine gf_X4_0 (pc := 34) dX4_need_34 wF_X4_15 (A_94 hw) T51 ?_
    refine mr_iload_n (pc := 37) (z := p1) dX4_need_37 rfl rfl ?_
    refine mr_bipush (pc := 38) (z := 7) dX4_need_38 (by decide) ?_
    refine mr_imul (pc := 40) (x := p1) (y := 7) dX4_need_40 ?_
    refine mr_iconst (pc := 41) (z := 1) dX4_need_41 ?_
    refine mr_iadd (pc := 42) (x := (p1 * 7)) (y := 1) dX4_need_42 ?_
    refine sv_aload_n (pc := 43) dX4_need_43 rfl rfl ?_
    refine gf_X4_1 (pc := 44) dX4_need_44 wF_X4_18 (A_94 hw) T51 ?_
    refine mr_iload_n (pc := 47) (z := p1) dX4_need_47 rfl rfl ?_
    refine lk_97 (pc := 48) dX4_need_48 (A_97 hw) (rIx (n := 35) hp1 rfl) (u50.f (Or.inl (mAt.ne (A_98 hw) (A_97 hw) rfl)) q_f_l) ?_
    refine mr_iconst (pc := 49) (z := 1) dX4_need_49 ?_
    refine mr_isub (pc := 50) (x := f_l) (y := 1) dX4_need_50 ?_
    refine mr_cVP (pc := 51) (c_X4_find_n hw T51 (A_96 hw) (rW (c := 0) (d := 244) (rAdd (e := 36) (f := 239) (rMulR (n := 7) (e := 35) (f := 238) hp1 rfl) (rR (x := 1)) rfl) rfl) (rW (c := (-1)) (d := 7) (rSub (e := (-1)) (f := 6) ht_f_l (rR (x := 1)) rfl) rfl) (eqIx (vc_X4_need_v_1 hp1) (u50.f (Or.inl (mAt.ne (A_98 hw) (A_96 hw) rfl)) q_f_s)) (u50.f (Or.inl (mAt.ne (A_98 hw) (A_95 hw) rfl)) q_f_N) (vc_X4_need_v_3 ht_f_l hp1)) (gOk _ _ _ _ _) dX4_need_51 (tX4_find _ _ _ _ _) ⟨wV_X4_find, wL_X4_find⟩ wM_X4_67 (gCX4 _ _ _ _ _) rfl (A_94 hw) rfl ⟨le_t rfl, le_t rfl⟩ ⟨le_t rfl, le_t rfl⟩ rfl (le_t rfl) fun z58 h57 => ?_
    refine ss_99 (pc := 54) dX4_need_54 (A_99 hw) T51 (rIx (n := 35) hp1 rfl) (rW (c := (-1)) (d := 5) h57.1 rfl) fun μ59 u60 T61 => ?_
    exact mr_vret dX4_need_55 rfl (le_t rfl) (le_t rfl) T61 (mF.up (mF.up mF.refl (A_98 hw) u50 rfl) (A_99 hw) u60 rfl) ⟨(ndW.of (one.oth (one.up one.refl (vc_X4_need_v_4 hp1) u50) u60 rfl) (one.up (one.oth one.refl u50 rfl) (vc_X4_need_v_4 hp1) u60) ((u60.f (Or.inl (mAt.ne (A_99 hw) (A_98 hw) rfl)) u50.1).trans (vc_X4_need_v_6 h52 h53)) u60.1 q_f_s (vc_X4_need_v_7 hp1) q_f_l q_f_N (fun _ => ⟨(vc_X4_need_v_5 ht_f_l), (by have h := fnG.cg h57.2.1 (rowB (A_96 hw) ((mF.up mF.refl (A_98 hw) u50 rfl) : mF [98999] w μ μ49) rfl rfl) (rowB (A_97 hw) ((mF.up mF.refl (A_98 hw) u50 rfl) : mF [98999] w μ μ49) rfl rfl); rw [Int.mul_comm p1 7] at h; exact h)⟩)), trivial⟩
  have h62 : 0 ≤ f_s ∧ f_s ≤ 0 := (vc_X12_isOffered_13 h52 ht_f_s)
  refine mr_iconst (pc := 28) (z := 0) dX4_need_28 ?_
  refine sv_goto (pc := 29) (tgt := 54) dX4_need_29 (by decide) ?_
  refine ss_99 (pc := 54) dX4_need_54 (A_99 hw) T51 (rIx (n := 35) hp1 rfl) (rW (c := (-1)) (d := 5) (rR (x := 0)) rfl) fun μ63 u64 T65 => ?_
  exact mr_vret dX4_need_55 rfl (le_t rfl) (le_t rfl) T65 (mF.up (mF.up mF.refl (A_98 hw) u50 rfl) (A_99 hw) u64 rfl) ⟨(ndW.of (n := 0) (one.oth (one.up one.refl (vc_X4_need_v_4 hp1) u50) u64 rfl) (one.up (one.oth one.refl u50 rfl) (vc_X4_need_v_4 hp1) u64) ((u64.f (Or.inl (mAt.ne (A_99 hw) (A_98 hw) rfl)) u50.1).trans (vc_X12_isOffered_v_25 h52 h62)) u64.1 q_f_s (vc_X4_need_v_7 hp1) q_f_l q_f_N (fun g => absurd (vc_X12_goes_7 h52 h62) g)), trivial⟩
theorem vc_X4_prepare_v_34 {z7 z8671 : Int} (h0 : z7 ≤ z8671) (h1 : 0 ≤ z7 ∧ z7 ≤ 5) (h2 : 0 ≤ z8671 ∧ z8671 ≤ 5) : 0 < (1 * (z7 + 1)) := by omega
theorem vc_X4_prepare_v_36  : ((1 : Int) : Int) = (1 : Int) := by omega
theorem vc_X4_prepare_v_41 {z16436 z16547 : Int} (h0 : z16547 < z16436) (h1 : 1 ≤ z16436 ∧ z16436 ≤ 5) (h2 : 0 ≤ z16547 ∧ z16547 ≤ 4) : ((1 * 5) + z16547) = 5 * (1 : Int) + z16547 := by omega
theorem vc_X4_prepare_v_42 {z16436 z16547 : Int} (h0 : z16547 < z16436) (h1 : 1 ≤ z16436 ∧ z16436 ≤ 5) (h2 : 0 ≤ z16547 ∧ z16547 ≤ 4) : 0 ≤ (1 : Int) ∧ 0 ≤ z16547 := by omega
theorem vc_X4_prepare_v_45  : ((1 : Int) : Int) = ((2 : Int) : Int) - (1 : Int) := by omega
theorem vc_X4_prepare_v_51 {z16020 z16407 : Int} (h0 : z16407 < z16020) (h1 : 1 ≤ z16020 ∧ z16020 ≤ 5) (h2 : 0 ≤ z16407 ∧ z16407 ≤ 4) : ((2 * 5) + z16407) = 5 * (2 : Int) + z16407 := by omega
theorem vc_X4_prepare_v_52 {z16020 z16407 : Int} (h0 : z16407 < z16020) (h1 : 1 ≤ z16020 ∧ z16020 ≤ 5) (h2 : 0 ≤ z16407 ∧ z16407 ≤ 4) : 0 ≤ (2 : Int) ∧ 0 ≤ z16407 := by omega
theorem vc_X4_prepare_v_54  : ((2 : Int) : Int) = ((3 : Int) : Int) - (1 : Int) := by omega
theorem vc_X4_prepare_v_59 {z15052 z15991 : Int} (h0 : z15991 < z15052) (h1 : 1 ≤ z15052 ∧ z15052 ≤ 5) (h2 : 0 ≤ z15991 ∧ z15991 ≤ 4) : ((3 * 5) + z15991) = 5 * (3 : Int) + z15991 := by omega
theorem vc_X4_prepare_v_60 {z15052 z15991 : Int} (h0 : z15991 < z15052) (h1 : 1 ≤ z15052 ∧ z15052 ≤ 5) (h2 : 0 ≤ z15991 ∧ z15991 ≤ 4) : 0 ≤ (3 : Int) ∧ 0 ≤ z15991 := by omega
theorem vc_X4_prepare_v_62  : ((3 : Int) : Int) = ((4 : Int) : Int) - (1 : Int) := by omega
theorem vc_X4_prepare_v_67 {z12980 z15023 : Int} (h0 : z15023 < z12980) (h1 : 1 ≤ z12980 ∧ z12980 ≤ 5) (h2 : 0 ≤ z15023 ∧ z15023 ≤ 4) : ((4 * 5) + z15023) = 5 * (4 : Int) + z15023 := by omega
theorem vc_X4_prepare_v_68 {z12980 z15023 : Int} (h0 : z15023 < z12980) (h1 : 1 ≤ z12980 ∧ z12980 ≤ 5) (h2 : 0 ≤ z15023 ∧ z15023 ≤ 4) : 0 ≤ (4 : Int) ∧ 0 ≤ z15023 := by omega
theorem vc_X4_prepare_v_70  : ((4 : Int) : Int) = ((5 : Int) : Int) - (1 : Int) := by omega
theorem vc_X4_prepare_v_75 {z12951 z8700 : Int} (h0 : z12951 < z8700) (h1 : 0 ≤ z12951 ∧ z12951 ≤ 4) (h2 : 1 ≤ z8700 ∧ z8700 ≤ 5) : ((5 * 5) + z12951) = 5 * (5 : Int) + z12951 := by omega
theorem vc_X4_prepare_v_76 {z12951 z8700 : Int} (h0 : z12951 < z8700) (h1 : 0 ≤ z12951 ∧ z12951 ≤ 4) (h2 : 1 ≤ z8700 ∧ z8700 ≤ 5) : 0 ≤ (5 : Int) ∧ 0 ≤ z12951 := by omega
theorem vc_X4_prepare_v_78  : ((5 : Int) : Int) = ((6 : Int) : Int) - (1 : Int) := by omega
theorem vc_X4_prepare_v_79  : (0 : Int) ≤ ((6 : Int) : Int) := by omega
theorem vc_X4_prepare_v_83 {z7 z8671 : Int} (h0 : z8671 < z7) (h1 : 1 ≤ z7 ∧ z7 ≤ 5) (h2 : 0 ≤ z8671 ∧ z8671 ≤ 4) : ((6 * 5) + z8671) = 5 * (6 : Int) + z8671 := by omega
theorem vc_X4_prepare_v_84 {z7 z8671 : Int} (h0 : z8671 < z7) (h1 : 1 ≤ z7 ∧ z7 ≤ 5) (h2 : 0 ≤ z8671 ∧ z8671 ≤ 4) : 0 ≤ (6 : Int) ∧ 0 ≤ z8671 := by omega
theorem vc_X4_prepare_v_85  : (6 : Int) ≤ ((6 : Int) : Int) := by omega
set_option maxRecDepth 4000 in
set_option maxHeartbeats 4000000 in
theorem c_X4_prepare_v {l : Launch} {D : va_G} {c : Nat → ClassId} {H0 : Heap} {sa : Nat × Nat × (Nat → Int32)} {w : mW} {μ : mM} (hw : mWF w) (hT : mT w μ) : sC (gG l D c H0 sa) mX4_prepare 3 0 0 [.ref 94] (mk w μ) (qV w [94009, 98999, 99999, 100999] μ (fun μ1 => ∃ o_st : Int, μ1 94 9 = o_st ∧ (1 ≤ o_st) ∧ (radix μ1 100 95 (μ1 94 9)) ∧ ((wgT μ1 100 95 ∧ μ1 94 9 = wgk (μ1 95) 6)) ∧ (ndA μ1) ∧ True)) := by
  refine sC.of rfl (by decide) (le_t rfl) ?_
  refine mr_lvE (lv' := [(0, .ref 94)]) rfl ?_
  refine sv_aload_n (pc := 0) dX4_prepare_0 rfl rfl ?_
  refine mr_iconst (pc := 1) (z := 1) dX4_prepare_1 ?_
  refine pf_X4_9 (pc := 2) dX4_prepare_2 wF_X4_59 (A_94 hw) hT (rW (c := 0) (d := 46656) (rR (x := 1)) rfl) fun μ1 u2 T3 => ?_
  refine mr_bipush (pc := 5) (z := 6) dX4_prepare_5 (by decide) ?_
  refine mr_istore_n (pc := 7) (lv' := [(1, iv 6), (0, .ref 94)]) dX4_prepare_7 rfl (by decide) rfl ?_
  refine mr_iload_n (pc := 8) (z := 6) dX4_prepare_8 rfl rfl ?_
  refine mr_iconst (pc := 9) (z := 1) dX4_prepare_9 ?_
  refine mr_icmp_lt (pc := 10) (tgt := 73) dX4_prepare_10 (by decide) (r32 (rR (x := 6)) rfl) (r32 (rR (x := 1)) rfl) (fun h => ((vc_X12_states_1 h)).elim) (fun _ => ?_)
  refine sv_aload_n (pc := 13) dX4_prepare_13 rfl rfl ?_
  refine gf_X4_4 (pc := 14) dX4_prepare_14 wF_X4_27 (A_94 hw) T3 ?_
  refine mr_iload_n (pc := 17) (z := 6) dX4_prepare_17 rfl rfl ?_
  refine sv_aload_n (pc := 18) dX4_prepare_18 rfl rfl ?_
  refine gk_X4_9 (pc := 19) dX4_prepare_19 wF_X4_59 (A_94 hw) u2.1 ?_
  refine ss_100 (pc := 22) dX4_prepare_22 (A_100 hw) T3 (rIx (n := 7) (rR (x := 6)) rfl) (rW (c := 0) (d := 46656) (rR (x := 1)) rfl) fun μ4 u5 T6 => ?_
  refine sv_aload_n (pc := 23) dX4_prepare_23 rfl rfl ?_
  refine sv_dup (pc := 24) dX4_prepare_24 rfl ?_
  refine gk_X4_9 (pc := 25) dX4_prepare_25 wF_X4_59 (A_94 hw) (u5.f (Or.inl (mAt.ne (A_100 hw) (A_94 hw) rfl)) u2.1) ?_
  refine sv_aload_n (pc := 28) dX4_prepare_28 rfl rfl ?_
  refine gf_X4_12 (pc := 29) dX4_prepare_29 wF_X4_11 (A_94 hw) T6 ?_
  refine mr_iload_n (pc := 32) (z := 6) dX4_prepare_32 rfl rfl ?_
  refine la_95 (pc := 33) dX4_prepare_33 (A_95 hw) T6 (rIx (n := 7) (rR (x := 6)) rfl) fun z7 q8 h9 => ?_
  refine mr_iconst (pc := 34) (z := 1) dX4_prepare_34 ?_
  refine mr_iadd (pc := 35) (x := z7) (y := 1) dX4_prepare_35 ?_
  refine mr_imul (pc := 36) (x := 1) (y := (z7 + 1)) dX4_prepare_36 ?_
  refine pf_X4_9 (pc := 37) dX4_prepare_37 wF_X4_59 (A_94 hw) T6 (rW (c := 0) (d := 46656) (rMulL (n := 1) (e := 1) (f := 6) (rAdd (e := 1) (f := 6) h9 (rR (x := 1)) rfl) rfl) rfl) fun μ10 u11 T12 => ?_
  refine mr_iconst (pc := 40) (z := 0) dX4_prepare_40 ?_
  refine mr_istore_n (pc := 41) (lv' := [(2, iv 0), (1, iv 6), (0, .ref 94)]) dX4_prepare_41 rfl (by decide) rfl ?_
  have L8673 : ∀ (nL8673 : Nat) (z8671 : Int) (μ8672 : mM), mT w μ8672 → mF [98999, 99999] w μ10 μ8672 → (0 ≤ z8671 ∧ z8671 ≤ 5) → ndT μ8672 6 z8671 → (6 - z8671) < (nL8673 : Int) → sV (gG l D c H0 sa) mX4_prepare (sRm 3 0 0) (sZ (gG l D c H0 sa) 0 0 (qV w [94009, 98999, 99999, 100999] μ (fun μ1 => ∃ o_st : Int, μ1 94 9 = o_st ∧ (1 ≤ o_st) ∧ (radix μ1 100 95 (μ1 94 9)) ∧ ((wgT μ1 100 95 ∧ μ1 94 9 = wgk (μ1 95) 6)) ∧ (ndA μ1) ∧ True))) 42 [(0, .ref 94), (1, iv 6), (2, iv z8671)] [] (mk w μ8672) 0 0 := by
    intro nL8673
    induction nL8673 with
    | zero => intro z8671 μ8672 T8675 F8676 h8674 R8678 h8679; exact ((vc_X12_acted_1 h8679 h8674)).elim
    | succ nL8673 ih8680 =>
      intro z8671 μ8672 T8675 F8676 h8674 R8678 h8679
      refine mr_iload_n (pc := 42) (z := z8671) dX4_prepare_42 rfl rfl ?_
      refine sv_aload_n (pc := 43) dX4_prepare_43 rfl rfl ?_
      refine gf_X4_12 (pc := 44) dX4_prepare_44 wF_X4_11 (A_94 hw) T8675 ?_
      refine mr_iload_n (pc := 47) (z := 6) dX4_prepare_47 rfl rfl ?_
      refine lk_95 (pc := 48) dX4_prepare_48 (A_95 hw) (rIx (n := 7) (rR (x := 6)) rfl) (F8676.f (A_95 hw) rfl (u11.f (Or.inl (mAt.ne (A_94 hw) (A_95 hw) rfl)) q8)) ?_
      refine mr_icmp_ge (pc := 49) (tgt := 67) dX4_prepare_49 (by decide) (r32 h8674 rfl) (r32 h9 rfl) (fun h8696 => ?_) (fun h8696 => ?_)
      · refine mr_iinc (pc := 67) (lv' := [(1, iv 5), (0, .ref 94), (2, iv z8671)]) dX4_prepare_67 rfl (by decide) rfl ?_
        refine sv_goto (pc := 70) (tgt := 8) dX4_prepare_70 (by decide) ?_
        refine mr_iload_n (pc := 8) (z := 5) dX4_prepare_8 rfl rfl ?_
        refine mr_iconst (pc := 9) (z := 1) dX4_prepare_9 ?_
        refine mr_icmp_lt (pc := 10) (tgt := 73) dX4_prepare_10 (by decide) (r32 (rR (x := 5)) rfl) (r32 (rR (x := 1)) rfl) (fun h => ((vc_X12_states_2 h)).elim) (fun _ => ?_)
        refine sv_aload_n (pc := 13) dX4_prepare_13 rfl rfl ?_
        refine gf_X4_4 (pc := 14) dX4_prepare_14 wF_X4_27 (A_94 hw) T8675 ?_
        refine mr_iload_n (pc := 17) (z := 5) dX4_prepare_17 rfl rfl ?_
        refine sv_aload_n (pc := 18) dX4_prepare_18 rfl rfl ?_
        refine gk_X4_9 (pc := 19) dX4_prepare_19 wF_X4_59 (A_94 hw) (F8676.f (A_94 hw) rfl u11.1) ?_
        refine ss_100 (pc := 22) dX4_prepare_22 (A_100 hw) T8675 (rIx (n := 7) (rR (x := 5)) rfl) (rW (c := 0) (d := 46656) (rMulL (n := 1) (e := 1) (f := 6) (rAdd (e := 1) (f := 6) h9 (rR (x := 1)) rfl) rfl) rfl) fun μ8697 u8698 T8699 => ?_
        refine sv_aload_n (pc := 23) dX4_prepare_23 rfl rfl ?_
        refine sv_dup (pc := 24) dX4_prepare_24 rfl ?_
        refine gk_X4_9 (pc := 25) dX4_prepare_25 wF_X4_59 (A_94 hw) (u8698.f (Or.inl (mAt.ne (A_100 hw) (A_94 hw) rfl)) (F8676.f (A_94 hw) rfl u11.1)) ?_
        refine sv_aload_n (pc := 28) dX4_prepare_28 rfl rfl ?_
        refine gf_X4_12 (pc := 29) dX4_prepare_29 wF_X4_11 (A_94 hw) T8699 ?_
        refine mr_iload_n (pc := 32) (z := 5) dX4_prepare_32 rfl rfl ?_
        refine la_95 (pc := 33) dX4_prepare_33 (A_95 hw) T8699 (rIx (n := 7) (rR (x := 5)) rfl) fun z8700 q8701 h8702 => ?_
        refine mr_iconst (pc := 34) (z := 1) dX4_prepare_34 ?_
        refine mr_iadd (pc := 35) (x := z8700) (y := 1) dX4_prepare_35 ?_
        refine mr_imul (pc := 36) (x := (1 * (z7 + 1))) (y := (z8700 + 1)) dX4_prepare_36 ?_
        refine mr_gen (P := fun z => 1 ≤ z ∧ z ≤ 36) (rMulP (rMulL (n := 1) (e := 1) (f := 6) (rAdd (e := 1) (f := 6) h9 (rR (x := 1)) rfl) rfl) (rAdd (e := 1) (f := 6) h8702 (rR (x := 1)) rfl) rfl) fun z8703 q8704 h8705 => ?_
        refine pf_X4_9 (pc := 37) dX4_prepare_37 wF_X4_59 (A_94 hw) T8699 (rW (c := 0) (d := 46656) h8705 rfl) fun μ8706 u8707 T8708 => ?_
        refine mr_iconst (pc := 40) (z := 0) dX4_prepare_40 ?_
        refine mr_istore_n (pc := 41) (lv' := [(2, iv 0), (1, iv 5), (0, .ref 94)]) dX4_prepare_41 rfl (by decide) rfl ?_
        have L12953 : ∀ (nL12953 : Nat) (z12951 : Int) (μ12952 : mM), mT w μ12952 → mF [98999, 99999] w μ8706 μ12952 → (0 ≤ z12951 ∧ z12951 ≤ 5) → ndT μ12952 5 z12951 → (6 - z12951) < (nL12953 : Int) → sV (gG l D c H0 sa) mX4_prepare (sRm 3 0 0) (sZ (gG l D c H0 sa) 0 0 (qV w [94009, 98999, 99999, 100999] μ (fun μ1 => ∃ o_st : Int, μ1 94 9 = o_st ∧ (1 ≤ o_st) ∧ (radix μ1 100 95 (μ1 94 9)) ∧ ((wgT μ1 100 95 ∧ μ1 94 9 = wgk (μ1 95) 6)) ∧ (ndA μ1) ∧ True))) 42 [(0, .ref 94), (1, iv 5), (2, iv z12951)] [] (mk w μ12952) 0 0 := by
          intro nL12953
          induction nL12953 with
          | zero => intro z12951 μ12952 T12955 F12956 h12954 R12958 h12959; exact ((vc_X12_acted_1 h12959 h12954)).elim
          | succ nL12953 ih12960 =>
            intro z12951 μ12952 T12955 F12956 h12954 R12958 h12959
            refine mr_iload_n (pc := 42) (z := z12951) dX4_prepare_42 rfl rfl ?_
            refine sv_aload_n (pc := 43) dX4_prepare_43 rfl rfl ?_
            refine gf_X4_12 (pc := 44) dX4_prepare_44 wF_X4_11 (A_94 hw) T12955 ?_
            refine mr_iload_n (pc := 47) (z := 5) dX4_prepare_47 rfl rfl ?_
            refine lk_95 (pc := 48) dX4_prepare_48 (A_95 hw) (rIx (n := 7) (rR (x := 5)) rfl) (F12956.f (A_95 hw) rfl (u8707.f (Or.inl (mAt.ne (A_94 hw) (A_95 hw) rfl)) q8701)) ?_
            refine mr_icmp_ge (pc := 49) (tgt := 67) dX4_prepare_49 (by decide) (r32 h12954 rfl) (r32 h8702 rfl) (fun h12976 => ?_) (fun h12976 => ?_)
            · refine mr_iinc (pc := 67) (lv' := [(1, iv 4), (0, .ref 94), (2, iv z12951)]) dX4_prepare_67 rfl (by decide) rfl ?_
              refine sv_goto (pc := 70) (tgt := 8) dX4_prepare_70 (by decide) ?_
              refine mr_iload_n (pc := 8) (z := 4) dX4_prepare_8 rfl rfl ?_
              refine mr_iconst (pc := 9) (z := 1) dX4_prepare_9 ?_
              refine mr_icmp_lt (pc := 10) (tgt := 73) dX4_prepare_10 (by decide) (r32 (rR (x := 4)) rfl) (r32 (rR (x := 1)) rfl) (fun h => ((vc_X12_states_3 h)).elim) (fun _ => ?_)
              refine sv_aload_n (pc := 13) dX4_prepare_13 rfl rfl ?_
              refine gf_X4_4 (pc := 14) dX4_prepare_14 wF_X4_27 (A_94 hw) T12955 ?_
              refine mr_iload_n (pc := 17) (z := 4) dX4_prepare_17 rfl rfl ?_
              refine sv_aload_n (pc := 18) dX4_prepare_18 rfl rfl ?_
              refine gk_X4_9 (pc := 19) dX4_prepare_19 wF_X4_59 (A_94 hw) (F12956.f (A_94 hw) rfl u8707.1) ?_
              refine ss_100 (pc := 22) dX4_prepare_22 (A_100 hw) T12955 (rIx (n := 7) (rR (x := 4)) rfl) (rW (c := 0) (d := 46656) h8705 rfl) fun μ12977 u12978 T12979 => ?_
              refine sv_aload_n (pc := 23) dX4_prepare_23 rfl rfl ?_
              refine sv_dup (pc := 24) dX4_prepare_24 rfl ?_
              refine gk_X4_9 (pc := 25) dX4_prepare_25 wF_X4_59 (A_94 hw) (u12978.f (Or.inl (mAt.ne (A_100 hw) (A_94 hw) rfl)) (F12956.f (A_94 hw) rfl u8707.1)) ?_
              refine sv_aload_n (pc := 28) dX4_prepare_28 rfl rfl ?_
              refine gf_X4_12 (pc := 29) dX4_prepare_29 wF_X4_11 (A_94 hw) T12979 ?_
              refine mr_iload_n (pc := 32) (z := 4) dX4_prepare_32 rfl rfl ?_
              refine la_95 (pc := 33) dX4_prepare_33 (A_95 hw) T12979 (rIx (n := 7) (rR (x := 4)) rfl) fun z12980 q12981 h12982 => ?_
              refine mr_iconst (pc := 34) (z := 1) dX4_prepare_34 ?_
              refine mr_iadd (pc := 35) (x := z12980) (y := 1) dX4_prepare_35 ?_
              refine mr_imul (pc := 36) (x := z8703) (y := (z12980 + 1)) dX4_prepare_36 ?_
              refine mr_gen (P := fun z => 1 ≤ z ∧ z ≤ 216) (rMulP h8705 (rAdd (e := 1) (f := 6) h12982 (rR (x := 1)) rfl) rfl) fun z12983 q12984 h12985 => ?_
              refine pf_X4_9 (pc := 37) dX4_prepare_37 wF_X4_59 (A_94 hw) T12979 (rW (c := 0) (d := 46656) h12985 rfl) fun μ12986 u12987 T12988 => ?_
              refine mr_iconst (pc := 40) (z := 0) dX4_prepare_40 ?_
              refine mr_istore_n (pc := 41) (lv' := [(2, iv 0), (1, iv 4), (0, .ref 94)]) dX4_prepare_41 rfl (by decide) rfl ?_
              have L15025 : ∀ (nL15025 : Nat) (z15023 : Int) (μ15024 : mM), mT w μ15024 → mF [98999, 99999] w μ12986 μ15024 → (0 ≤ z15023 ∧ z15023 ≤ 5) → ndT μ15024 4 z15023 → (6 - z15023) < (nL15025 : Int) → sV (gG l D c H0 sa) mX4_prepare (sRm 3 0 0) (sZ (gG l D c H0 sa) 0 0 (qV w [94009, 98999, 99999, 100999] μ (fun μ1 => ∃ o_st : Int, μ1 94 9 = o_st ∧ (1 ≤ o_st) ∧ (radix μ1 100 95 (μ1 94 9)) ∧ ((wgT μ1 100 95 ∧ μ1 94 9 = wgk (μ1 95) 6)) ∧ (ndA μ1) ∧ True))) 42 [(0, .ref 94), (1, iv 4), (2, iv z15023)] [] (mk w μ15024) 0 0 := by
                intro nL15025
                induction nL15025 with
                | zero => intro z15023 μ15024 T15027 F15028 h15026 R15030 h15031; exact ((vc_X12_acted_1 h15031 h15026)).elim
                | succ nL15025 ih15032 =>
                  intro z15023 μ15024 T15027 F15028 h15026 R15030 h15031
                  refine mr_iload_n (pc := 42) (z := z15023) dX4_prepare_42 rfl rfl ?_
                  refine sv_aload_n (pc := 43) dX4_prepare_43 rfl rfl ?_
                  refine gf_X4_12 (pc := 44) dX4_prepare_44 wF_X4_11 (A_94 hw) T15027 ?_
                  refine mr_iload_n (pc := 47) (z := 4) dX4_prepare_47 rfl rfl ?_
                  refine lk_95 (pc := 48) dX4_prepare_48 (A_95 hw) (rIx (n := 7) (rR (x := 4)) rfl) (F15028.f (A_95 hw) rfl (u12987.f (Or.inl (mAt.ne (A_94 hw) (A_95 hw) rfl)) q12981)) ?_
                  refine mr_icmp_ge (pc := 49) (tgt := 67) dX4_prepare_49 (by decide) (r32 h15026 rfl) (r32 h12982 rfl) (fun h15048 => ?_) (fun h15048 => ?_)
                  · refine mr_iinc (pc := 67) (lv' := [(1, iv 3), (0, .ref 94), (2, iv z15023)]) dX4_prepare_67 rfl (by decide) rfl ?_
                    refine sv_goto (pc := 70) (tgt := 8) dX4_prepare_70 (by decide) ?_
                    refine mr_iload_n (pc := 8) (z := 3) dX4_prepare_8 rfl rfl ?_
                    refine mr_iconst (pc := 9) (z := 1) dX4_prepare_9 ?_
                    refine mr_icmp_lt (pc := 10) (tgt := 73) dX4_prepare_10 (by decide) (r32 (rR (x := 3)) rfl) (r32 (rR (x := 1)) rfl) (fun h => ((vc_X12_states_4 h)).elim) (fun _ => ?_)
                    refine sv_aload_n (pc := 13) dX4_prepare_13 rfl rfl ?_
                    refine gf_X4_4 (pc := 14) dX4_prepare_14 wF_X4_27 (A_94 hw) T15027 ?_
                    refine mr_iload_n (pc := 17) (z := 3) dX4_prepare_17 rfl rfl ?_
                    refine sv_aload_n (pc := 18) dX4_prepare_18 rfl rfl ?_
                    refine gk_X4_9 (pc := 19) dX4_prepare_19 wF_X4_59 (A_94 hw) (F15028.f (A_94 hw) rfl u12987.1) ?_
                    refine ss_100 (pc := 22) dX4_prepare_22 (A_100 hw) T15027 (rIx (n := 7) (rR (x := 3)) rfl) (rW (c := 0) (d := 46656) h12985 rfl) fun μ15049 u15050 T15051 => ?_
                    refine sv_aload_n (pc := 23) dX4_prepare_23 rfl rfl ?_
                    refine sv_dup (pc := 24) dX4_prepare_24 rfl ?_
                    refine gk_X4_9 (pc := 25) dX4_prepare_25 wF_X4_59 (A_94 hw) (u15050.f (Or.inl (mAt.ne (A_100 hw) (A_94 hw) rfl)) (F15028.f (A_94 hw) rfl u12987.1)) ?_
                    refine sv_aload_n (pc := 28) dX4_prepare_28 rfl rfl ?_
                    refine gf_X4_12 (pc := 29) dX4_prepare_29 wF_X4_11 (A_94 hw) T15051 ?_
                    refine mr_iload_n (pc := 32) (z := 3) dX4_prepare_32 rfl rfl ?_
                    refine la_95 (pc := 33) dX4_prepare_33 (A_95 hw) T15051 (rIx (n := 7) (rR (x := 3)) rfl) fun z15052 q15053 h15054 => ?_
                    refine mr_iconst (pc := 34) (z := 1) dX4_prepare_34 ?_
                    refine mr_iadd (pc := 35) (x := z15052) (y := 1) dX4_prepare_35 ?_
                    refine mr_imul (pc := 36) (x := z12983) (y := (z15052 + 1)) dX4_prepare_36 ?_
                    refine mr_gen (P := fun z => 1 ≤ z ∧ z ≤ 1296) (rMulP h12985 (rAdd (e := 1) (f := 6) h15054 (rR (x := 1)) rfl) rfl) fun z15055 q15056 h15057 => ?_
                    refine pf_X4_9 (pc := 37) dX4_prepare_37 wF_X4_59 (A_94 hw) T15051 (rW (c := 0) (d := 46656) h15057 rfl) fun μ15058 u15059 T15060 => ?_
                    refine mr_iconst (pc := 40) (z := 0) dX4_prepare_40 ?_
                    refine mr_istore_n (pc := 41) (lv' := [(2, iv 0), (1, iv 3), (0, .ref 94)]) dX4_prepare_41 rfl (by decide) rfl ?_
                    have L15993 : ∀ (nL15993 : Nat) (z15991 : Int) (μ15992 : mM), mT w μ15992 → mF [98999, 99999] w μ15058 μ15992 → (0 ≤ z15991 ∧ z15991 ≤ 5) → ndT μ15992 3 z15991 → (6 - z15991) < (nL15993 : Int) → sV (gG l D c H0 sa) mX4_prepare (sRm 3 0 0) (sZ (gG l D c H0 sa) 0 0 (qV w [94009, 98999, 99999, 100999] μ (fun μ1 => ∃ o_st : Int, μ1 94 9 = o_st ∧ (1 ≤ o_st) ∧ (radix μ1 100 95 (μ1 94 9)) ∧ ((wgT μ1 100 95 ∧ μ1 94 9 = wgk (μ1 95) 6)) ∧ (ndA μ1) ∧ True))) 42 [(0, .ref 94), (1, iv 3), (2, iv z15991)] [] (mk w μ15992) 0 0 := by
                      intro nL15993
                      induction nL15993 with
                      | zero => intro z15991 μ15992 T15995 F15996 h15994 R15998 h15999; exact ((vc_X12_acted_1 h15999 h15994)).elim
                      | succ nL15993 ih16000 =>
                        intro z15991 μ15992 T15995 F15996 h15994 R15998 h15999
                        refine mr_iload_n (pc := 42) (z := z15991) dX4_prepare_42 rfl rfl ?_
                        refine sv_aload_n (pc := 43) dX4_prepare_43 rfl rfl ?_
                        refine gf_X4_12 (pc := 44) dX4_prepare_44 wF_X4_11 (A_94 hw) T15995 ?_
                        refine mr_iload_n (pc := 47) (z := 3) dX4_prepare_47 rfl rfl ?_
                        refine lk_95 (pc := 48) dX4_prepare_48 (A_95 hw) (rIx (n := 7) (rR (x := 3)) rfl) (F15996.f (A_95 hw) rfl (u15059.f (Or.inl (mAt.ne (A_94 hw) (A_95 hw) rfl)) q15053)) ?_
                        refine mr_icmp_ge (pc := 49) (tgt := 67) dX4_prepare_49 (by decide) (r32 h15994 rfl) (r32 h15054 rfl) (fun h16016 => ?_) (fun h16016 => ?_)
                        · refine mr_iinc (pc := 67) (lv' := [(1, iv 2), (0, .ref 94), (2, iv z15991)]) dX4_prepare_67 rfl (by decide) rfl ?_
                          refine sv_goto (pc := 70) (tgt := 8) dX4_prepare_70 (by decide) ?_
                          refine mr_iload_n (pc := 8) (z := 2) dX4_prepare_8 rfl rfl ?_
                          refine mr_iconst (pc := 9) (z := 1) dX4_prepare_9 ?_
                          refine mr_icmp_lt (pc := 10) (tgt := 73) dX4_prepare_10 (by decide) (r32 (rR (x := 2)) rfl) (r32 (rR (x := 1)) rfl) (fun h => ((vc_X12_states_5 h)).elim) (fun _ => ?_)
                          refine sv_aload_n (pc := 13) dX4_prepare_13 rfl rfl ?_
                          refine gf_X4_4 (pc := 14) dX4_prepare_14 wF_X4_27 (A_94 hw) T15995 ?_
                          refine mr_iload_n (pc := 17) (z := 2) dX4_prepare_17 rfl rfl ?_
                          refine sv_aload_n (pc := 18) dX4_prepare_18 rfl rfl ?_
                          refine gk_X4_9 (pc := 19) dX4_prepare_19 wF_X4_59 (A_94 hw) (F15996.f (A_94 hw) rfl u15059.1) ?_
                          refine ss_100 (pc := 22) dX4_prepare_22 (A_100 hw) T15995 (rIx (n := 7) (rR (x := 2)) rfl) (rW (c := 0) (d := 46656) h15057 rfl) fun μ16017 u16018 T16019 => ?_
                          refine sv_aload_n (pc := 23) dX4_prepare_23 rfl rfl ?_
                          refine sv_dup (pc := 24) dX4_prepare_24 rfl ?_
                          refine gk_X4_9 (pc := 25) dX4_prepare_25 wF_X4_59 (A_94 hw) (u16018.f (Or.inl (mAt.ne (A_100 hw) (A_94 hw) rfl)) (F15996.f (A_94 hw) rfl u15059.1)) ?_
                          refine sv_aload_n (pc := 28) dX4_prepare_28 rfl rfl ?_
                          refine gf_X4_12 (pc := 29) dX4_prepare_29 wF_X4_11 (A_94 hw) T16019 ?_
                          refine mr_iload_n (pc := 32) (z := 2) dX4_prepare_32 rfl rfl ?_
                          refine la_95 (pc := 33) dX4_prepare_33 (A_95 hw) T16019 (rIx (n := 7) (rR (x := 2)) rfl) fun z16020 q16021 h16022 => ?_
                          refine mr_iconst (pc := 34) (z := 1) dX4_prepare_34 ?_
                          refine mr_iadd (pc := 35) (x := z16020) (y := 1) dX4_prepare_35 ?_
                          refine mr_imul (pc := 36) (x := z15055) (y := (z16020 + 1)) dX4_prepare_36 ?_
                          refine mr_gen (P := fun z => 1 ≤ z ∧ z ≤ 7776) (rMulP h15057 (rAdd (e := 1) (f := 6) h16022 (rR (x := 1)) rfl) rfl) fun z16023 q16024 h16025 => ?_
                          refine pf_X4_9 (pc := 37) dX4_prepare_37 wF_X4_59 (A_94 hw) T16019 (rW (c := 0) (d := 46656) h16025 rfl) fun μ16026 u16027 T16028 => ?_
                          refine mr_iconst (pc := 40) (z := 0) dX4_prepare_40 ?_
                          refine mr_istore_n (pc := 41) (lv' := [(2, iv 0), (1, iv 2), (0, .ref 94)]) dX4_prepare_41 rfl (by decide) rfl ?_
                          have L16409 : ∀ (nL16409 : Nat) (z16407 : Int) (μ16408 : mM), mT w μ16408 → mF [98999, 99999] w μ16026 μ16408 → (0 ≤ z16407 ∧ z16407 ≤ 5) → ndT μ16408 2 z16407 → (6 - z16407) < (nL16409 : Int) → sV (gG l D c H0 sa) mX4_prepare (sRm 3 0 0) (sZ (gG l D c H0 sa) 0 0 (qV w [94009, 98999, 99999, 100999] μ (fun μ1 => ∃ o_st : Int, μ1 94 9 = o_st ∧ (1 ≤ o_st) ∧ (radix μ1 100 95 (μ1 94 9)) ∧ ((wgT μ1 100 95 ∧ μ1 94 9 = wgk (μ1 95) 6)) ∧ (ndA μ1) ∧ True))) 42 [(0, .ref 94), (1, iv 2), (2, iv z16407)] [] (mk w μ16408) 0 0 := by
                            intro nL16409
                            induction nL16409 with
                            | zero => intro z16407 μ16408 T16411 F16412 h16410 R16414 h16415; exact ((vc_X12_acted_1 h16415 h16410)).elim
                            | succ nL16409 ih16416 =>
                              intro z16407 μ16408 T16411 F16412 h16410 R16414 h16415
                              refine mr_iload_n (pc := 42) (z := z16407) dX4_prepare_42 rfl rfl ?_
                              refine sv_aload_n (pc := 43) dX4_prepare_43 rfl rfl ?_
                              refine gf_X4_12 (pc := 44) dX4_prepare_44 wF_X4_11 (A_94 hw) T16411 ?_
                              refine mr_iload_n (pc := 47) (z := 2) dX4_prepare_47 rfl rfl ?_
                              refine lk_95 (pc := 48) dX4_prepare_48 (A_95 hw) (rIx (n := 7) (rR (x := 2)) rfl) (F16412.f (A_95 hw) rfl (u16027.f (Or.inl (mAt.ne (A_94 hw) (A_95 hw) rfl)) q16021)) ?_
                              refine mr_icmp_ge (pc := 49) (tgt := 67) dX4_prepare_49 (by decide) (r32 h16410 rfl) (r32 h16022 rfl) (fun h16432 => ?_) (fun h16432 => ?_)
                              · refine mr_iinc (pc := 67) (lv' := [(1, iv 1), (0, .ref 94), (2, iv z16407)]) dX4_prepare_67 rfl (by decide) rfl ?_
                                refine sv_goto (pc := 70) (tgt := 8) dX4_prepare_70 (by decide) ?_
                                refine mr_iload_n (pc := 8) (z := 1) dX4_prepare_8 rfl rfl ?_
                                refine mr_iconst (pc := 9) (z := 1) dX4_prepare_9 ?_
                                refine mr_icmp_lt (pc := 10) (tgt := 73) dX4_prepare_10 (by decide) (r32 (rR (x := 1)) rfl) (r32 (rR (x := 1)) rfl) (fun h => ((vc_X12_states_6 h)).elim) (fun _ => ?_)
                                refine sv_aload_n (pc := 13) dX4_prepare_13 rfl rfl ?_
                                refine gf_X4_4 (pc := 14) dX4_prepare_14 wF_X4_27 (A_94 hw) T16411 ?_
                                refine mr_iload_n (pc := 17) (z := 1) dX4_prepare_17 rfl rfl ?_
                                refine sv_aload_n (pc := 18) dX4_prepare_18 rfl rfl ?_
                                refine gk_X4_9 (pc := 19) dX4_prepare_19 wF_X4_59 (A_94 hw) (F16412.f (A_94 hw) rfl u16027.1) ?_
                                refine ss_100 (pc := 22) dX4_prepare_22 (A_100 hw) T16411 (rIx (n := 7) (rR (x := 1)) rfl) (rW (c := 0) (d := 46656) h16025 rfl) fun μ16433 u16434 T16435 => ?_
                                refine sv_aload_n (pc := 23) dX4_prepare_23 rfl rfl ?_
                                refine sv_dup (pc := 24) dX4_prepare_24 rfl ?_
                                refine gk_X4_9 (pc := 25) dX4_prepare_25 wF_X4_59 (A_94 hw) (u16434.f (Or.inl (mAt.ne (A_100 hw) (A_94 hw) rfl)) (F16412.f (A_94 hw) rfl u16027.1)) ?_
                                refine sv_aload_n (pc := 28) dX4_prepare_28 rfl rfl ?_
                                refine gf_X4_12 (pc := 29) dX4_prepare_29 wF_X4_11 (A_94 hw) T16435 ?_
                                refine mr_iload_n (pc := 32) (z := 1) dX4_prepare_32 rfl rfl ?_
                                refine la_95 (pc := 33) dX4_prepare_33 (A_95 hw) T16435 (rIx (n := 7) (rR (x := 1)) rfl) fun z16436 q16437 h16438 => ?_
                                refine mr_iconst (pc := 34) (z := 1) dX4_prepare_34 ?_
                                refine mr_iadd (pc := 35) (x := z16436) (y := 1) dX4_prepare_35 ?_
                                refine mr_imul (pc := 36) (x := z16023) (y := (z16436 + 1)) dX4_prepare_36 ?_
                                refine mr_gen (P := fun z => 1 ≤ z ∧ z ≤ 46656) (rMulP h16025 (rAdd (e := 1) (f := 6) h16438 (rR (x := 1)) rfl) rfl) fun z16439 q16440 h16441 => ?_
                                refine pf_X4_9 (pc := 37) dX4_prepare_37 wF_X4_59 (A_94 hw) T16435 (rW (c := 0) (d := 46656) h16441 rfl) fun μ16442 u16443 T16444 => ?_
                                refine mr_iconst (pc := 40) (z := 0) dX4_prepare_40 ?_
                                refine mr_istore_n (pc := 41) (lv' := [(2, iv 0), (1, iv 1), (0, .ref 94)]) dX4_prepare_41 rfl (by decide) rfl ?_
                                have L16549 : ∀ (nL16549 : Nat) (z16547 : Int) (μ16548 : mM), mT w μ16548 → mF [98999, 99999] w μ16442 μ16548 → (0 ≤ z16547 ∧ z16547 ≤ 5) → ndT μ16548 1 z16547 → (6 - z16547) < (nL16549 : Int) → sV (gG l D c H0 sa) mX4_prepare (sRm 3 0 0) (sZ (gG l D c H0 sa) 0 0 (qV w [94009, 98999, 99999, 100999] μ (fun μ1 => ∃ o_st : Int, μ1 94 9 = o_st ∧ (1 ≤ o_st) ∧ (radix μ1 100 95 (μ1 94 9)) ∧ ((wgT μ1 100 95 ∧ μ1 94 9 = wgk (μ1 95) 6)) ∧ (ndA μ1) ∧ True))) 42 [(0, .ref 94), (1, iv 1), (2, iv z16547)] [] (mk w μ16548) 0 0 := by
                                  intro nL16549
                                  induction nL16549 with
                                  | zero => intro z16547 μ16548 T16551 F16552 h16550 R16554 h16555; exact ((vc_X12_acted_1 h16555 h16550)).elim
                                  | succ nL16549 ih16556 =>
                                    intro z16547 μ16548 T16551 F16552 h16550 R16554 h16555
                                    refine mr_iload_n (pc := 42) (z := z16547) dX4_prepare_42 rfl rfl ?_
                                    refine sv_aload_n (pc := 43) dX4_prepare_43 rfl rfl ?_
                                    refine gf_X4_12 (pc := 44) dX4_prepare_44 wF_X4_11 (A_94 hw) T16551 ?_
                                    refine mr_iload_n (pc := 47) (z := 1) dX4_prepare_47 rfl rfl ?_
                                    refine lk_95 (pc := 48) dX4_prepare_48 (A_95 hw) (rIx (n := 7) (rR (x := 1)) rfl) (F16552.f (A_95 hw) rfl (u16443.f (Or.inl (mAt.ne (A_94 hw) (A_95 hw) rfl)) q16437)) ?_
                                    refine mr_icmp_ge (pc := 49) (tgt := 67) dX4_prepare_49 (by decide) (r32 h16550 rfl) (r32 h16438 rfl) (fun h16572 => ?_) (fun h16572 => ?_)
                                    · refine mr_iinc (pc := 67) (lv' := [(1, iv 0), (0, .ref 94), (2, iv z16547)]) dX4_prepare_67 rfl (by decide) rfl ?_
                                      refine sv_goto (pc := 70) (tgt := 8) dX4_prepare_70 (by decide) ?_
                                      refine mr_iload_n (pc := 8) (z := 0) dX4_prepare_8 rfl rfl ?_
                                      refine mr_iconst (pc := 9) (z := 1) dX4_prepare_9 ?_
                                      refine mr_icmp_lt (pc := 10) (tgt := 73) dX4_prepare_10 (by decide) (r32 (rR (x := 0)) rfl) (r32 (rR (x := 1)) rfl) (fun _ => ?_) (fun h => ((vc_X12_states_7 h)).elim)
                                      exact mr_vret dX4_prepare_73 rfl (le_t rfl) (le_t rfl) T16551 (mF.call (mF.up (mF.up (mF.call (mF.up (mF.up (mF.call (mF.up (mF.up (mF.call (mF.up (mF.up (mF.call (mF.up (mF.up (mF.call (mF.up (mF.up (mF.up mF.refl (A_94 hw) u2 rfl) (A_100 hw) u5 rfl) (A_94 hw) u11 rfl) F8676 rfl) (A_100 hw) u8698 rfl) (A_94 hw) u8707 rfl) F12956 rfl) (A_100 hw) u12978 rfl) (A_94 hw) u12987 rfl) F15028 rfl) (A_100 hw) u15050 rfl) (A_94 hw) u15059 rfl) F15996 rfl) (A_100 hw) u16018 rfl) (A_94 hw) u16027 rfl) F16412 rfl) (A_100 hw) u16434 rfl) (A_94 hw) u16443 rfl) F16552 rfl) ⟨z16439, (F16552.f (A_94 hw) rfl u16443.1), (vc_X4_prepare_14 h16441), (by show radix μ16548 100 95 (μ16548 94 9); rw [(F16552.f (A_94 hw) rfl u16443.1)]; exact radix.mk (F16552.f (A_95 hw) rfl (u16443.f (Or.inl (mAt.ne (A_94 hw) (A_95 hw) rfl)) q16437)) (F16552.f (A_95 hw) rfl (u16443.f (Or.inl (mAt.ne (A_94 hw) (A_95 hw) rfl)) (u16434.f (Or.inl (mAt.ne (A_100 hw) (A_95 hw) rfl)) (F16412.f (A_95 hw) rfl (u16027.f (Or.inl (mAt.ne (A_94 hw) (A_95 hw) rfl)) q16021))))) (F16552.f (A_95 hw) rfl (u16443.f (Or.inl (mAt.ne (A_94 hw) (A_95 hw) rfl)) (u16434.f (Or.inl (mAt.ne (A_100 hw) (A_95 hw) rfl)) (F16412.f (A_95 hw) rfl (u16027.f (Or.inl (mAt.ne (A_94 hw) (A_95 hw) rfl)) (u16018.f (Or.inl (mAt.ne (A_100 hw) (A_95 hw) rfl)) (F15996.f (A_95 hw) rfl (u15059.f (Or.inl (mAt.ne (A_94 hw) (A_95 hw) rfl)) q15053)))))))) (F16552.f (A_95 hw) rfl (u16443.f (Or.inl (mAt.ne (A_94 hw) (A_95 hw) rfl)) (u16434.f (Or.inl (mAt.ne (A_100 hw) (A_95 hw) rfl)) (F16412.f (A_95 hw) rfl (u16027.f (Or.inl (mAt.ne (A_94 hw) (A_95 hw) rfl)) (u16018.f (Or.inl (mAt.ne (A_100 hw) (A_95 hw) rfl)) (F15996.f (A_95 hw) rfl (u15059.f (Or.inl (mAt.ne (A_94 hw) (A_95 hw) rfl)) (u15050.f (Or.inl (mAt.ne (A_100 hw) (A_95 hw) rfl)) (F15028.f (A_95 hw) rfl (u12987.f (Or.inl (mAt.ne (A_94 hw) (A_95 hw) rfl)) q12981))))))))))) (F16552.f (A_95 hw) rfl (u16443.f (Or.inl (mAt.ne (A_94 hw) (A_95 hw) rfl)) (u16434.f (Or.inl (mAt.ne (A_100 hw) (A_95 hw) rfl)) (F16412.f (A_95 hw) rfl (u16027.f (Or.inl (mAt.ne (A_94 hw) (A_95 hw) rfl)) (u16018.f (Or.inl (mAt.ne (A_100 hw) (A_95 hw) rfl)) (F15996.f (A_95 hw) rfl (u15059.f (Or.inl (mAt.ne (A_94 hw) (A_95 hw) rfl)) (u15050.f (Or.inl (mAt.ne (A_100 hw) (A_95 hw) rfl)) (F15028.f (A_95 hw) rfl (u12987.f (Or.inl (mAt.ne (A_94 hw) (A_95 hw) rfl)) (u12978.f (Or.inl (mAt.ne (A_100 hw) (A_95 hw) rfl)) (F12956.f (A_95 hw) rfl (u8707.f (Or.inl (mAt.ne (A_94 hw) (A_95 hw) rfl)) q8701)))))))))))))) (F16552.f (A_95 hw) rfl (u16443.f (Or.inl (mAt.ne (A_94 hw) (A_95 hw) rfl)) (u16434.f (Or.inl (mAt.ne (A_100 hw) (A_95 hw) rfl)) (F16412.f (A_95 hw) rfl (u16027.f (Or.inl (mAt.ne (A_94 hw) (A_95 hw) rfl)) (u16018.f (Or.inl (mAt.ne (A_100 hw) (A_95 hw) rfl)) (F15996.f (A_95 hw) rfl (u15059.f (Or.inl (mAt.ne (A_94 hw) (A_95 hw) rfl)) (u15050.f (Or.inl (mAt.ne (A_100 hw) (A_95 hw) rfl)) (F15028.f (A_95 hw) rfl (u12987.f (Or.inl (mAt.ne (A_94 hw) (A_95 hw) rfl)) (u12978.f (Or.inl (mAt.ne (A_100 hw) (A_95 hw) rfl)) (F12956.f (A_95 hw) rfl (u8707.f (Or.inl (mAt.ne (A_94 hw) (A_95 hw) rfl)) (u8698.f (Or.inl (mAt.ne (A_100 hw) (A_95 hw) rfl)) (F8676.f (A_95 hw) rfl (u11.f (Or.inl (mAt.ne (A_94 hw) (A_95 hw) rfl)) q8))))))))))))))))) (F16552.f (A_100 hw) rfl (u16443.f (Or.inl (mAt.ne (A_94 hw) (A_100 hw) rfl)) u16434.1)) (F16552.f (A_100 hw) rfl (u16443.f (Or.inl (mAt.ne (A_94 hw) (A_100 hw) rfl)) (u16434.f (Or.inr vc_X12_states_8) (F16412.f (A_100 hw) rfl (u16027.f (Or.inl (mAt.ne (A_94 hw) (A_100 hw) rfl)) u16018.1))))) (F16552.f (A_100 hw) rfl (u16443.f (Or.inl (mAt.ne (A_94 hw) (A_100 hw) rfl)) (u16434.f (Or.inr vc_X12_states_10) (F16412.f (A_100 hw) rfl (u16027.f (Or.inl (mAt.ne (A_94 hw) (A_100 hw) rfl)) (u16018.f (Or.inr vc_X12_states_9) (F15996.f (A_100 hw) rfl (u15059.f (Or.inl (mAt.ne (A_94 hw) (A_100 hw) rfl)) u15050.1)))))))) (F16552.f (A_100 hw) rfl (u16443.f (Or.inl (mAt.ne (A_94 hw) (A_100 hw) rfl)) (u16434.f (Or.inr vc_X12_states_13) (F16412.f (A_100 hw) rfl (u16027.f (Or.inl (mAt.ne (A_94 hw) (A_100 hw) rfl)) (u16018.f (Or.inr vc_X12_states_12) (F15996.f (A_100 hw) rfl (u15059.f (Or.inl (mAt.ne (A_94 hw) (A_100 hw) rfl)) (u15050.f (Or.inr vc_X12_states_11) (F15028.f (A_100 hw) rfl (u12987.f (Or.inl (mAt.ne (A_94 hw) (A_100 hw) rfl)) u12978.1))))))))))) (F16552.f (A_100 hw) rfl (u16443.f (Or.inl (mAt.ne (A_94 hw) (A_100 hw) rfl)) (u16434.f (Or.inr vc_X12_states_17) (F16412.f (A_100 hw) rfl (u16027.f (Or.inl (mAt.ne (A_94 hw) (A_100 hw) rfl)) (u16018.f (Or.inr vc_X12_states_16) (F15996.f (A_100 hw) rfl (u15059.f (Or.inl (mAt.ne (A_94 hw) (A_100 hw) rfl)) (u15050.f (Or.inr vc_X12_states_15) (F15028.f (A_100 hw) rfl (u12987.f (Or.inl (mAt.ne (A_94 hw) (A_100 hw) rfl)) (u12978.f (Or.inr vc_X12_states_14) (F12956.f (A_100 hw) rfl (u8707.f (Or.inl (mAt.ne (A_94 hw) (A_100 hw) rfl)) u8698.1)))))))))))))) (F16552.f (A_100 hw) rfl (u16443.f (Or.inl (mAt.ne (A_94 hw) (A_100 hw) rfl)) (u16434.f (Or.inr vc_X12_states_22) (F16412.f (A_100 hw) rfl (u16027.f (Or.inl (mAt.ne (A_94 hw) (A_100 hw) rfl)) (u16018.f (Or.inr vc_X12_states_21) (F15996.f (A_100 hw) rfl (u15059.f (Or.inl (mAt.ne (A_94 hw) (A_100 hw) rfl)) (u15050.f (Or.inr vc_X12_states_20) (F15028.f (A_100 hw) rfl (u12987.f (Or.inl (mAt.ne (A_94 hw) (A_100 hw) rfl)) (u12978.f (Or.inr vc_X12_states_19) (F12956.f (A_100 hw) rfl (u8707.f (Or.inl (mAt.ne (A_94 hw) (A_100 hw) rfl)) (u8698.f (Or.inr vc_X12_states_18) (F8676.f (A_100 hw) rfl (u11.f (Or.inl (mAt.ne (A_94 hw) (A_100 hw) rfl)) u5.1))))))))))))))))) (vc_X4_prepare_30 h16025) (vc_X4_prepare_31 h15057) (vc_X4_prepare_32 h12985) (vc_X4_prepare_33 h8705) (vc_X4_prepare_v_34 h8696 h9 h8674) vc_X4_prepare_35 rfl q8704.symm q12984.symm q15056.symm q16024.symm q16440.symm), (by rw [(F16552.f (A_94 hw) rfl u16443.1)]; exact (wgT.mk (F16552.f (A_95 hw) rfl (u16443.f (Or.inl (mAt.ne (A_94 hw) (A_95 hw) rfl)) q16437)) (F16552.f (A_95 hw) rfl (u16443.f (Or.inl (mAt.ne (A_94 hw) (A_95 hw) rfl)) (u16434.f (Or.inl (mAt.ne (A_100 hw) (A_95 hw) rfl)) (F16412.f (A_95 hw) rfl (u16027.f (Or.inl (mAt.ne (A_94 hw) (A_95 hw) rfl)) q16021))))) (F16552.f (A_95 hw) rfl (u16443.f (Or.inl (mAt.ne (A_94 hw) (A_95 hw) rfl)) (u16434.f (Or.inl (mAt.ne (A_100 hw) (A_95 hw) rfl)) (F16412.f (A_95 hw) rfl (u16027.f (Or.inl (mAt.ne (A_94 hw) (A_95 hw) rfl)) (u16018.f (Or.inl (mAt.ne (A_100 hw) (A_95 hw) rfl)) (F15996.f (A_95 hw) rfl (u15059.f (Or.inl (mAt.ne (A_94 hw) (A_95 hw) rfl)) q15053)))))))) (F16552.f (A_95 hw) rfl (u16443.f (Or.inl (mAt.ne (A_94 hw) (A_95 hw) rfl)) (u16434.f (Or.inl (mAt.ne (A_100 hw) (A_95 hw) rfl)) (F16412.f (A_95 hw) rfl (u16027.f (Or.inl (mAt.ne (A_94 hw) (A_95 hw) rfl)) (u16018.f (Or.inl (mAt.ne (A_100 hw) (A_95 hw) rfl)) (F15996.f (A_95 hw) rfl (u15059.f (Or.inl (mAt.ne (A_94 hw) (A_95 hw) rfl)) (u15050.f (Or.inl (mAt.ne (A_100 hw) (A_95 hw) rfl)) (F15028.f (A_95 hw) rfl (u12987.f (Or.inl (mAt.ne (A_94 hw) (A_95 hw) rfl)) q12981))))))))))) (F16552.f (A_95 hw) rfl (u16443.f (Or.inl (mAt.ne (A_94 hw) (A_95 hw) rfl)) (u16434.f (Or.inl (mAt.ne (A_100 hw) (A_95 hw) rfl)) (F16412.f (A_95 hw) rfl (u16027.f (Or.inl (mAt.ne (A_94 hw) (A_95 hw) rfl)) (u16018.f (Or.inl (mAt.ne (A_100 hw) (A_95 hw) rfl)) (F15996.f (A_95 hw) rfl (u15059.f (Or.inl (mAt.ne (A_94 hw) (A_95 hw) rfl)) (u15050.f (Or.inl (mAt.ne (A_100 hw) (A_95 hw) rfl)) (F15028.f (A_95 hw) rfl (u12987.f (Or.inl (mAt.ne (A_94 hw) (A_95 hw) rfl)) (u12978.f (Or.inl (mAt.ne (A_100 hw) (A_95 hw) rfl)) (F12956.f (A_95 hw) rfl (u8707.f (Or.inl (mAt.ne (A_94 hw) (A_95 hw) rfl)) q8701)))))))))))))) (F16552.f (A_95 hw) rfl (u16443.f (Or.inl (mAt.ne (A_94 hw) (A_95 hw) rfl)) (u16434.f (Or.inl (mAt.ne (A_100 hw) (A_95 hw) rfl)) (F16412.f (A_95 hw) rfl (u16027.f (Or.inl (mAt.ne (A_94 hw) (A_95 hw) rfl)) (u16018.f (Or.inl (mAt.ne (A_100 hw) (A_95 hw) rfl)) (F15996.f (A_95 hw) rfl (u15059.f (Or.inl (mAt.ne (A_94 hw) (A_95 hw) rfl)) (u15050.f (Or.inl (mAt.ne (A_100 hw) (A_95 hw) rfl)) (F15028.f (A_95 hw) rfl (u12987.f (Or.inl (mAt.ne (A_94 hw) (A_95 hw) rfl)) (u12978.f (Or.inl (mAt.ne (A_100 hw) (A_95 hw) rfl)) (F12956.f (A_95 hw) rfl (u8707.f (Or.inl (mAt.ne (A_94 hw) (A_95 hw) rfl)) (u8698.f (Or.inl (mAt.ne (A_100 hw) (A_95 hw) rfl)) (F8676.f (A_95 hw) rfl (u11.f (Or.inl (mAt.ne (A_94 hw) (A_95 hw) rfl)) q8))))))))))))))))) (F16552.f (A_100 hw) rfl (u16443.f (Or.inl (mAt.ne (A_94 hw) (A_100 hw) rfl)) u16434.1)) (F16552.f (A_100 hw) rfl (u16443.f (Or.inl (mAt.ne (A_94 hw) (A_100 hw) rfl)) (u16434.f (Or.inr vc_X12_states_8) (F16412.f (A_100 hw) rfl (u16027.f (Or.inl (mAt.ne (A_94 hw) (A_100 hw) rfl)) u16018.1))))) (F16552.f (A_100 hw) rfl (u16443.f (Or.inl (mAt.ne (A_94 hw) (A_100 hw) rfl)) (u16434.f (Or.inr vc_X12_states_10) (F16412.f (A_100 hw) rfl (u16027.f (Or.inl (mAt.ne (A_94 hw) (A_100 hw) rfl)) (u16018.f (Or.inr vc_X12_states_9) (F15996.f (A_100 hw) rfl (u15059.f (Or.inl (mAt.ne (A_94 hw) (A_100 hw) rfl)) u15050.1)))))))) (F16552.f (A_100 hw) rfl (u16443.f (Or.inl (mAt.ne (A_94 hw) (A_100 hw) rfl)) (u16434.f (Or.inr vc_X12_states_13) (F16412.f (A_100 hw) rfl (u16027.f (Or.inl (mAt.ne (A_94 hw) (A_100 hw) rfl)) (u16018.f (Or.inr vc_X12_states_12) (F15996.f (A_100 hw) rfl (u15059.f (Or.inl (mAt.ne (A_94 hw) (A_100 hw) rfl)) (u15050.f (Or.inr vc_X12_states_11) (F15028.f (A_100 hw) rfl (u12987.f (Or.inl (mAt.ne (A_94 hw) (A_100 hw) rfl)) u12978.1))))))))))) (F16552.f (A_100 hw) rfl (u16443.f (Or.inl (mAt.ne (A_94 hw) (A_100 hw) rfl)) (u16434.f (Or.inr vc_X12_states_17) (F16412.f (A_100 hw) rfl (u16027.f (Or.inl (mAt.ne (A_94 hw) (A_100 hw) rfl)) (u16018.f (Or.inr vc_X12_states_16) (F15996.f (A_100 hw) rfl (u15059.f (Or.inl (mAt.ne (A_94 hw) (A_100 hw) rfl)) (u15050.f (Or.inr vc_X12_states_15) (F15028.f (A_100 hw) rfl (u12987.f (Or.inl (mAt.ne (A_94 hw) (A_100 hw) rfl)) (u12978.f (Or.inr vc_X12_states_14) (F12956.f (A_100 hw) rfl (u8707.f (Or.inl (mAt.ne (A_94 hw) (A_100 hw) rfl)) u8698.1)))))))))))))) (F16552.f (A_100 hw) rfl (u16443.f (Or.inl (mAt.ne (A_94 hw) (A_100 hw) rfl)) (u16434.f (Or.inr vc_X12_states_22) (F16412.f (A_100 hw) rfl (u16027.f (Or.inl (mAt.ne (A_94 hw) (A_100 hw) rfl)) (u16018.f (Or.inr vc_X12_states_21) (F15996.f (A_100 hw) rfl (u15059.f (Or.inl (mAt.ne (A_94 hw) (A_100 hw) rfl)) (u15050.f (Or.inr vc_X12_states_20) (F15028.f (A_100 hw) rfl (u12987.f (Or.inl (mAt.ne (A_94 hw) (A_100 hw) rfl)) (u12978.f (Or.inr vc_X12_states_19) (F12956.f (A_100 hw) rfl (u8707.f (Or.inl (mAt.ne (A_94 hw) (A_100 hw) rfl)) (u8698.f (Or.inr vc_X12_states_18) (F8676.f (A_100 hw) rfl (u11.f (Or.inl (mAt.ne (A_94 hw) (A_100 hw) rfl)) u5.1))))))))))))))))) rfl rfl q8704.symm q12984.symm q15056.symm q16024.symm q16440.symm)), (ndT.all R16554 vc_X4_prepare_v_36 (F16552.f (A_95 hw) rfl (u16443.f (Or.inl (mAt.ne (A_94 hw) (A_95 hw) rfl)) q16437)) (vc_X12_acted_4 h16572 h16438 h16550)), trivial⟩
                                    have h16573 : 0 ≤ z16547 ∧ z16547 ≤ 4 := (vc_X4_actOf_2 h16572 h16438 h16550)
                                    have h16574 : 1 ≤ z16436 ∧ z16436 ≤ 5 := (vc_X4_actOf_3 h16572 h16438 h16573)
                                    refine sv_aload_n (pc := 52) dX4_prepare_52 rfl rfl ?_
                                    refine mr_iload_n (pc := 53) (z := 1) dX4_prepare_53 rfl rfl ?_
                                    refine mr_iconst (pc := 54) (z := 5) dX4_prepare_54 ?_
                                    refine mr_imul (pc := 55) (x := 1) (y := 5) dX4_prepare_55 ?_
                                    refine mr_iload_n (pc := 56) (z := z16547) dX4_prepare_56 rfl rfl ?_
                                    refine mr_iadd (pc := 57) (x := (1 * 5)) (y := z16547) dX4_prepare_57 ?_
                                    obtain ⟨z16575, q16576⟩ : ∃ z, μ16548 96 (((7 * ((1 * 5) + z16547)) + 1).toNat) = z := ⟨_, rfl⟩
                                    have h16577 : (0 ≤ z16575 ∧ z16575 ≤ 6) := by rw [← q16576]; exact T16551 96 96 (A_96 hw) (((7 * ((1 * 5) + z16547)) + 1).toNat)
                                    obtain ⟨z16578, q16579⟩ : ∃ z, μ16548 97 (((1 * 5) + z16547).toNat) = z := ⟨_, rfl⟩
                                    have h16580 : (0 ≤ z16578 ∧ z16578 ≤ 7) := by rw [← q16579]; exact T16551 97 97 (A_97 hw) (((1 * 5) + z16547).toNat)
                                    obtain ⟨z16581, q16582⟩ : ∃ z, μ16548 95 (z16575.toNat) = z := ⟨_, rfl⟩
                                    have h16583 : (0 ≤ z16581 ∧ z16581 ≤ 5) := by rw [← q16582]; exact T16551 95 95 (A_95 hw) (z16575.toNat)
                                    refine mr_cVV (pc := 58) (c_X4_need_v hw T16551 (rW (c := 5) (d := 34) (rAdd (e := 5) (f := 9) (rMulL (n := 1) (e := 5) (f := 5) (rR (x := 5)) rfl) h16573 rfl) rfl) q16576 q16579 q16582) (gOk _ _ _ _ _) dX4_prepare_58 (tX4_need _ _ _ _ _) ⟨wV_X4_need, wL_X4_need⟩ wM_X4_63 (gCX4 _ _ _ _ _) rfl (A_94 hw) rfl ⟨le_t rfl, le_t rfl⟩ ⟨le_t rfl, le_t rfl⟩ rfl (le_t rfl) fun μ16584 T16585 F16586 h16587 => ?_
                                    refine mr_iinc (pc := 61) (lv' := [(2, iv (z16547 + 1)), (0, .ref 94), (1, iv 1)]) dX4_prepare_61 rfl (by decide) rfl ?_
                                    refine sv_goto (pc := 64) (tgt := 42) dX4_prepare_64 (by decide) ?_
                                    refine mr_lvS (lv' := [(0, .ref 94), (1, iv 1), (2, iv (z16547 + 1))]) (List.forall_mem_cons.mpr ⟨rfl, List.forall_mem_cons.mpr ⟨rfl, List.forall_mem_cons.mpr ⟨rfl, fun _ h => absurd h List.not_mem_nil⟩⟩⟩) ?_
                                    exact ih16556 (z16547 + 1) μ16584 T16585 (mF.call (mF.call mF.refl F16552 rfl) F16586 rfl) (rW (c := 0) (d := 5) (rAdd (e := 1) (f := 5) h16573 (rR (x := 1)) rfl) rfl) (ndT.next R16554 (fun p => (T16551 95 95 (A_95 hw) p).2) (vc_X4_prepare_v_41 h16572 h16574 h16573) (vc_X4_prepare_v_42 h16572 h16574 h16573) h16587.1 (rowB (A_95 hw) ((mF.call mF.refl F16586 rfl) : mF [98999, 99999] w μ16548 μ16584) rfl rfl) (rowB (A_96 hw) ((mF.call mF.refl F16586 rfl) : mF [98999, 99999] w μ16548 μ16584) rfl rfl) (rowB (A_97 hw) ((mF.call mF.refl F16586 rfl) : mF [98999, 99999] w μ16548 μ16584) rfl rfl)) (vc_X4_actOf_6 (nS h16555) h16572 h16574 h16573)
                                refine mr_lvS (lv' := [(0, .ref 94), (1, iv 1), (2, iv 0)]) (List.forall_mem_cons.mpr ⟨rfl, List.forall_mem_cons.mpr ⟨rfl, List.forall_mem_cons.mpr ⟨rfl, fun _ h => absurd h List.not_mem_nil⟩⟩⟩) ?_
                                exact L16549 7 0 μ16442 T16444 mF.refl (rW (c := 0) (d := 5) (rR (x := 0)) rfl) (ndT.shift (ndT.of R16414 (rowB (A_95 hw) ((mF.up (mF.up mF.refl (A_100 hw) u16434 rfl) (A_94 hw) u16443 rfl) : mF [94009, 100999] w μ16408 μ16442) rfl rfl) (rowB (A_96 hw) ((mF.up (mF.up mF.refl (A_100 hw) u16434 rfl) (A_94 hw) u16443 rfl) : mF [94009, 100999] w μ16408 μ16442) rfl rfl) (rowB (A_97 hw) ((mF.up (mF.up mF.refl (A_100 hw) u16434 rfl) (A_94 hw) u16443 rfl) : mF [94009, 100999] w μ16408 μ16442) rfl rfl) (rowB (A_98 hw) ((mF.up (mF.up mF.refl (A_100 hw) u16434 rfl) (A_94 hw) u16443 rfl) : mF [94009, 100999] w μ16408 μ16442) rfl rfl) (rowB (A_99 hw) ((mF.up (mF.up mF.refl (A_100 hw) u16434 rfl) (A_94 hw) u16443 rfl) : mF [94009, 100999] w μ16408 μ16442) rfl rfl)) (u16443.f (Or.inl (mAt.ne (A_94 hw) (A_95 hw) rfl)) (u16434.f (Or.inl (mAt.ne (A_100 hw) (A_95 hw) rfl)) (F16412.f (A_95 hw) rfl (u16027.f (Or.inl (mAt.ne (A_94 hw) (A_95 hw) rfl)) q16021)))) (vc_X12_acted_4 h16432 h16022 h16410) vc_X4_prepare_v_45 vc_X12_route_u_30 vc_X12_isOffered_v_15) vc_X12_acted_13
                              have h16588 : 0 ≤ z16407 ∧ z16407 ≤ 4 := (vc_X4_actOf_2 h16432 h16022 h16410)
                              have h16589 : 1 ≤ z16020 ∧ z16020 ≤ 5 := (vc_X4_actOf_3 h16432 h16022 h16588)
                              refine sv_aload_n (pc := 52) dX4_prepare_52 rfl rfl ?_
                              refine mr_iload_n (pc := 53) (z := 2) dX4_prepare_53 rfl rfl ?_
                              refine mr_iconst (pc := 54) (z := 5) dX4_prepare_54 ?_
                              refine mr_imul (pc := 55) (x := 2) (y := 5) dX4_prepare_55 ?_
                              refine mr_iload_n (pc := 56) (z := z16407) dX4_prepare_56 rfl rfl ?_
                              refine mr_iadd (pc := 57) (x := (2 * 5)) (y := z16407) dX4_prepare_57 ?_
                              obtain ⟨z16590, q16591⟩ : ∃ z, μ16408 96 (((7 * ((2 * 5) + z16407)) + 1).toNat) = z := ⟨_, rfl⟩
                              have h16592 : (0 ≤ z16590 ∧ z16590 ≤ 6) := by rw [← q16591]; exact T16411 96 96 (A_96 hw) (((7 * ((2 * 5) + z16407)) + 1).toNat)
                              obtain ⟨z16593, q16594⟩ : ∃ z, μ16408 97 (((2 * 5) + z16407).toNat) = z := ⟨_, rfl⟩
                              have h16595 : (0 ≤ z16593 ∧ z16593 ≤ 7) := by rw [← q16594]; exact T16411 97 97 (A_97 hw) (((2 * 5) + z16407).toNat)
                              obtain ⟨z16596, q16597⟩ : ∃ z, μ16408 95 (z16590.toNat) = z := ⟨_, rfl⟩
                              have h16598 : (0 ≤ z16596 ∧ z16596 ≤ 5) := by rw [← q16597]; exact T16411 95 95 (A_95 hw) (z16590.toNat)
                              refine mr_cVV (pc := 58) (c_X4_need_v hw T16411 (rW (c := 5) (d := 34) (rAdd (e := 10) (f := 14) (rMulL (n := 2) (e := 10) (f := 10) (rR (x := 5)) rfl) h16588 rfl) rfl) q16591 q16594 q16597) (gOk _ _ _ _ _) dX4_prepare_58 (tX4_need _ _ _ _ _) ⟨wV_X4_need, wL_X4_need⟩ wM_X4_63 (gCX4 _ _ _ _ _) rfl (A_94 hw) rfl ⟨le_t rfl, le_t rfl⟩ ⟨le_t rfl, le_t rfl⟩ rfl (le_t rfl) fun μ16599 T16600 F16601 h16602 => ?_
                              refine mr_iinc (pc := 61) (lv' := [(2, iv (z16407 + 1)), (0, .ref 94), (1, iv 2)]) dX4_prepare_61 rfl (by decide) rfl ?_
                              refine sv_goto (pc := 64) (tgt := 42) dX4_prepare_64 (by decide) ?_
                              refine mr_lvS (lv' := [(0, .ref 94), (1, iv 2), (2, iv (z16407 + 1))]) (List.forall_mem_cons.mpr ⟨rfl, List.forall_mem_cons.mpr ⟨rfl, List.forall_mem_cons.mpr ⟨rfl, fun _ h => absurd h List.not_mem_nil⟩⟩⟩) ?_
                              exact ih16416 (z16407 + 1) μ16599 T16600 (mF.call (mF.call mF.refl F16412 rfl) F16601 rfl) (rW (c := 0) (d := 5) (rAdd (e := 1) (f := 5) h16588 (rR (x := 1)) rfl) rfl) (ndT.next R16414 (fun p => (T16411 95 95 (A_95 hw) p).2) (vc_X4_prepare_v_51 h16432 h16589 h16588) (vc_X4_prepare_v_52 h16432 h16589 h16588) h16602.1 (rowB (A_95 hw) ((mF.call mF.refl F16601 rfl) : mF [98999, 99999] w μ16408 μ16599) rfl rfl) (rowB (A_96 hw) ((mF.call mF.refl F16601 rfl) : mF [98999, 99999] w μ16408 μ16599) rfl rfl) (rowB (A_97 hw) ((mF.call mF.refl F16601 rfl) : mF [98999, 99999] w μ16408 μ16599) rfl rfl)) (vc_X4_actOf_6 (nS h16415) h16432 h16589 h16588)
                          refine mr_lvS (lv' := [(0, .ref 94), (1, iv 2), (2, iv 0)]) (List.forall_mem_cons.mpr ⟨rfl, List.forall_mem_cons.mpr ⟨rfl, List.forall_mem_cons.mpr ⟨rfl, fun _ h => absurd h List.not_mem_nil⟩⟩⟩) ?_
                          exact L16409 7 0 μ16026 T16028 mF.refl (rW (c := 0) (d := 5) (rR (x := 0)) rfl) (ndT.shift (ndT.of R15998 (rowB (A_95 hw) ((mF.up (mF.up mF.refl (A_100 hw) u16018 rfl) (A_94 hw) u16027 rfl) : mF [94009, 100999] w μ15992 μ16026) rfl rfl) (rowB (A_96 hw) ((mF.up (mF.up mF.refl (A_100 hw) u16018 rfl) (A_94 hw) u16027 rfl) : mF [94009, 100999] w μ15992 μ16026) rfl rfl) (rowB (A_97 hw) ((mF.up (mF.up mF.refl (A_100 hw) u16018 rfl) (A_94 hw) u16027 rfl) : mF [94009, 100999] w μ15992 μ16026) rfl rfl) (rowB (A_98 hw) ((mF.up (mF.up mF.refl (A_100 hw) u16018 rfl) (A_94 hw) u16027 rfl) : mF [94009, 100999] w μ15992 μ16026) rfl rfl) (rowB (A_99 hw) ((mF.up (mF.up mF.refl (A_100 hw) u16018 rfl) (A_94 hw) u16027 rfl) : mF [94009, 100999] w μ15992 μ16026) rfl rfl)) (u16027.f (Or.inl (mAt.ne (A_94 hw) (A_95 hw) rfl)) (u16018.f (Or.inl (mAt.ne (A_100 hw) (A_95 hw) rfl)) (F15996.f (A_95 hw) rfl (u15059.f (Or.inl (mAt.ne (A_94 hw) (A_95 hw) rfl)) q15053)))) (vc_X12_acted_4 h16016 h15054 h15994) vc_X4_prepare_v_54 vc_X12_route_u_33 vc_X12_isOffered_v_15) vc_X12_acted_13
                        have h16603 : 0 ≤ z15991 ∧ z15991 ≤ 4 := (vc_X4_actOf_2 h16016 h15054 h15994)
                        have h16604 : 1 ≤ z15052 ∧ z15052 ≤ 5 := (vc_X4_actOf_3 h16016 h15054 h16603)
                        refine sv_aload_n (pc := 52) dX4_prepare_52 rfl rfl ?_
                        refine mr_iload_n (pc := 53) (z := 3) dX4_prepare_53 rfl rfl ?_
                        refine mr_iconst (pc := 54) (z := 5) dX4_prepare_54 ?_
                        refine mr_imul (pc := 55) (x := 3) (y := 5) dX4_prepare_55 ?_
                        refine mr_iload_n (pc := 56) (z := z15991) dX4_prepare_56 rfl rfl ?_
                        refine mr_iadd (pc := 57) (x := (3 * 5)) (y := z15991) dX4_prepare_57 ?_
                        obtain ⟨z16605, q16606⟩ : ∃ z, μ15992 96 (((7 * ((3 * 5) + z15991)) + 1).toNat) = z := ⟨_, rfl⟩
                        have h16607 : (0 ≤ z16605 ∧ z16605 ≤ 6) := by rw [← q16606]; exact T15995 96 96 (A_96 hw) (((7 * ((3 * 5) + z15991)) + 1).toNat)
                        obtain ⟨z16608, q16609⟩ : ∃ z, μ15992 97 (((3 * 5) + z15991).toNat) = z := ⟨_, rfl⟩
                        have h16610 : (0 ≤ z16608 ∧ z16608 ≤ 7) := by rw [← q16609]; exact T15995 97 97 (A_97 hw) (((3 * 5) + z15991).toNat)
                        obtain ⟨z16611, q16612⟩ : ∃ z, μ15992 95 (z16605.toNat) = z := ⟨_, rfl⟩
                        have h16613 : (0 ≤ z16611 ∧ z16611 ≤ 5) := by rw [← q16612]; exact T15995 95 95 (A_95 hw) (z16605.toNat)
                        refine mr_cVV (pc := 58) (c_X4_need_v hw T15995 (rW (c := 5) (d := 34) (rAdd (e := 15) (f := 19) (rMulL (n := 3) (e := 15) (f := 15) (rR (x := 5)) rfl) h16603 rfl) rfl) q16606 q16609 q16612) (gOk _ _ _ _ _) dX4_prepare_58 (tX4_need _ _ _ _ _) ⟨wV_X4_need, wL_X4_need⟩ wM_X4_63 (gCX4 _ _ _ _ _) rfl (A_94 hw) rfl ⟨le_t rfl, le_t rfl⟩ ⟨le_t rfl, le_t rfl⟩ rfl (le_t rfl) fun μ16614 T16615 F16616 h16617 => ?_
                        refine mr_iinc (pc := 61) (lv' := [(2, iv (z15991 + 1)), (0, .ref 94), (1, iv 3)]) dX4_prepare_61 rfl (by decide) rfl ?_
                        refine sv_goto (pc := 64) (tgt := 42) dX4_prepare_64 (by decide) ?_
                        refine mr_lvS (lv' := [(0, .ref 94), (1, iv 3), (2, iv (z15991 + 1))]) (List.forall_mem_cons.mpr ⟨rfl, List.forall_mem_cons.mpr ⟨rfl, List.forall_mem_cons.mpr ⟨rfl, fun _ h => absurd h List.not_mem_nil⟩⟩⟩) ?_
                        exact ih16000 (z15991 + 1) μ16614 T16615 (mF.call (mF.call mF.refl F15996 rfl) F16616 rfl) (rW (c := 0) (d := 5) (rAdd (e := 1) (f := 5) h16603 (rR (x := 1)) rfl) rfl) (ndT.next R15998 (fun p => (T15995 95 95 (A_95 hw) p).2) (vc_X4_prepare_v_59 h16016 h16604 h16603) (vc_X4_prepare_v_60 h16016 h16604 h16603) h16617.1 (rowB (A_95 hw) ((mF.call mF.refl F16616 rfl) : mF [98999, 99999] w μ15992 μ16614) rfl rfl) (rowB (A_96 hw) ((mF.call mF.refl F16616 rfl) : mF [98999, 99999] w μ15992 μ16614) rfl rfl) (rowB (A_97 hw) ((mF.call mF.refl F16616 rfl) : mF [98999, 99999] w μ15992 μ16614) rfl rfl)) (vc_X4_actOf_6 (nS h15999) h16016 h16604 h16603)
                    refine mr_lvS (lv' := [(0, .ref 94), (1, iv 3), (2, iv 0)]) (List.forall_mem_cons.mpr ⟨rfl, List.forall_mem_cons.mpr ⟨rfl, List.forall_mem_cons.mpr ⟨rfl, fun _ h => absurd h List.not_mem_nil⟩⟩⟩) ?_
                    exact L15993 7 0 μ15058 T15060 mF.refl (rW (c := 0) (d := 5) (rR (x := 0)) rfl) (ndT.shift (ndT.of R15030 (rowB (A_95 hw) ((mF.up (mF.up mF.refl (A_100 hw) u15050 rfl) (A_94 hw) u15059 rfl) : mF [94009, 100999] w μ15024 μ15058) rfl rfl) (rowB (A_96 hw) ((mF.up (mF.up mF.refl (A_100 hw) u15050 rfl) (A_94 hw) u15059 rfl) : mF [94009, 100999] w μ15024 μ15058) rfl rfl) (rowB (A_97 hw) ((mF.up (mF.up mF.refl (A_100 hw) u15050 rfl) (A_94 hw) u15059 rfl) : mF [94009, 100999] w μ15024 μ15058) rfl rfl) (rowB (A_98 hw) ((mF.up (mF.up mF.refl (A_100 hw) u15050 rfl) (A_94 hw) u15059 rfl) : mF [94009, 100999] w μ15024 μ15058) rfl rfl) (rowB (A_99 hw) ((mF.up (mF.up mF.refl (A_100 hw) u15050 rfl) (A_94 hw) u15059 rfl) : mF [94009, 100999] w μ15024 μ15058) rfl rfl)) (u15059.f (Or.inl (mAt.ne (A_94 hw) (A_95 hw) rfl)) (u15050.f (Or.inl (mAt.ne (A_100 hw) (A_95 hw) rfl)) (F15028.f (A_95 hw) rfl (u12987.f (Or.inl (mAt.ne (A_94 hw) (A_95 hw) rfl)) q12981)))) (vc_X12_acted_4 h15048 h12982 h15026) vc_X4_prepare_v_62 vc_X12_route_u_36 vc_X12_isOffered_v_15) vc_X12_acted_13
                  have h16618 : 0 ≤ z15023 ∧ z15023 ≤ 4 := (vc_X4_actOf_2 h15048 h12982 h15026)
                  have h16619 : 1 ≤ z12980 ∧ z12980 ≤ 5 := (vc_X4_actOf_3 h15048 h12982 h16618)
                  refine sv_aload_n (pc := 52) dX4_prepare_52 rfl rfl ?_
                  refine mr_iload_n (pc := 53) (z := 4) dX4_prepare_53 rfl rfl ?_
                  refine mr_iconst (pc := 54) (z := 5) dX4_prepare_54 ?_
                  refine mr_imul (pc := 55) (x := 4) (y := 5) dX4_prepare_55 ?_
                  refine mr_iload_n (pc := 56) (z := z15023) dX4_prepare_56 rfl rfl ?_
                  refine mr_iadd (pc := 57) (x := (4 * 5)) (y := z15023) dX4_prepare_57 ?_
                  obtain ⟨z16620, q16621⟩ : ∃ z, μ15024 96 (((7 * ((4 * 5) + z15023)) + 1).toNat) = z := ⟨_, rfl⟩
                  have h16622 : (0 ≤ z16620 ∧ z16620 ≤ 6) := by rw [← q16621]; exact T15027 96 96 (A_96 hw) (((7 * ((4 * 5) + z15023)) + 1).toNat)
                  obtain ⟨z16623, q16624⟩ : ∃ z, μ15024 97 (((4 * 5) + z15023).toNat) = z := ⟨_, rfl⟩
                  have h16625 : (0 ≤ z16623 ∧ z16623 ≤ 7) := by rw [← q16624]; exact T15027 97 97 (A_97 hw) (((4 * 5) + z15023).toNat)
                  obtain ⟨z16626, q16627⟩ : ∃ z, μ15024 95 (z16620.toNat) = z := ⟨_, rfl⟩
                  have h16628 : (0 ≤ z16626 ∧ z16626 ≤ 5) := by rw [← q16627]; exact T15027 95 95 (A_95 hw) (z16620.toNat)
                  refine mr_cVV (pc := 58) (c_X4_need_v hw T15027 (rW (c := 5) (d := 34) (rAdd (e := 20) (f := 24) (rMulL (n := 4) (e := 20) (f := 20) (rR (x := 5)) rfl) h16618 rfl) rfl) q16621 q16624 q16627) (gOk _ _ _ _ _) dX4_prepare_58 (tX4_need _ _ _ _ _) ⟨wV_X4_need, wL_X4_need⟩ wM_X4_63 (gCX4 _ _ _ _ _) rfl (A_94 hw) rfl ⟨le_t rfl, le_t rfl⟩ ⟨le_t rfl, le_t rfl⟩ rfl (le_t rfl) fun μ16629 T16630 F16631 h16632 => ?_
                  refine mr_iinc (pc := 61) (lv' := [(2, iv (z15023 + 1)), (0, .ref 94), (1, iv 4)]) dX4_prepare_61 rfl (by decide) rfl ?_
                  refine sv_goto (pc := 64) (tgt := 42) dX4_prepare_64 (by decide) ?_
                  refine mr_lvS (lv' := [(0, .ref 94), (1, iv 4), (2, iv (z15023 + 1))]) (List.forall_mem_cons.mpr ⟨rfl, List.forall_mem_cons.mpr ⟨rfl, List.forall_mem_cons.mpr ⟨rfl, fun _ h => absurd h List.not_mem_nil⟩⟩⟩) ?_
                  exact ih15032 (z15023 + 1) μ16629 T16630 (mF.call (mF.call mF.refl F15028 rfl) F16631 rfl) (rW (c := 0) (d := 5) (rAdd (e := 1) (f := 5) h16618 (rR (x := 1)) rfl) rfl) (ndT.next R15030 (fun p => (T15027 95 95 (A_95 hw) p).2) (vc_X4_prepare_v_67 h15048 h16619 h16618) (vc_X4_prepare_v_68 h15048 h16619 h16618) h16632.1 (rowB (A_95 hw) ((mF.call mF.refl F16631 rfl) : mF [98999, 99999] w μ15024 μ16629) rfl rfl) (rowB (A_96 hw) ((mF.call mF.refl F16631 rfl) : mF [98999, 99999] w μ15024 μ16629) rfl rfl) (rowB (A_97 hw) ((mF.call mF.refl F16631 rfl) : mF [98999, 99999] w μ15024 μ16629) rfl rfl)) (vc_X4_actOf_6 (nS h15031) h15048 h16619 h16618)
              refine mr_lvS (lv' := [(0, .ref 94), (1, iv 4), (2, iv 0)]) (List.forall_mem_cons.mpr ⟨rfl, List.forall_mem_cons.mpr ⟨rfl, List.forall_mem_cons.mpr ⟨rfl, fun _ h => absurd h List.not_mem_nil⟩⟩⟩) ?_
              exact L15025 7 0 μ12986 T12988 mF.refl (rW (c := 0) (d := 5) (rR (x := 0)) rfl) (ndT.shift (ndT.of R12958 (rowB (A_95 hw) ((mF.up (mF.up mF.refl (A_100 hw) u12978 rfl) (A_94 hw) u12987 rfl) : mF [94009, 100999] w μ12952 μ12986) rfl rfl) (rowB (A_96 hw) ((mF.up (mF.up mF.refl (A_100 hw) u12978 rfl) (A_94 hw) u12987 rfl) : mF [94009, 100999] w μ12952 μ12986) rfl rfl) (rowB (A_97 hw) ((mF.up (mF.up mF.refl (A_100 hw) u12978 rfl) (A_94 hw) u12987 rfl) : mF [94009, 100999] w μ12952 μ12986) rfl rfl) (rowB (A_98 hw) ((mF.up (mF.up mF.refl (A_100 hw) u12978 rfl) (A_94 hw) u12987 rfl) : mF [94009, 100999] w μ12952 μ12986) rfl rfl) (rowB (A_99 hw) ((mF.up (mF.up mF.refl (A_100 hw) u12978 rfl) (A_94 hw) u12987 rfl) : mF [94009, 100999] w μ12952 μ12986) rfl rfl)) (u12987.f (Or.inl (mAt.ne (A_94 hw) (A_95 hw) rfl)) (u12978.f (Or.inl (mAt.ne (A_100 hw) (A_95 hw) rfl)) (F12956.f (A_95 hw) rfl (u8707.f (Or.inl (mAt.ne (A_94 hw) (A_95 hw) rfl)) q8701)))) (vc_X12_isRest_18 h12976 h12954 h8702) vc_X4_prepare_v_70 vc_X12_route_u_39 vc_X12_isOffered_v_15) vc_X12_acted_13
            have h16633 : 0 ≤ z12951 ∧ z12951 ≤ 4 := (vc_X12_acted_2 h12976 h12954 h8702)
            have h16634 : 1 ≤ z8700 ∧ z8700 ≤ 5 := (vc_X12_acted_3 h12976 h16633 h8702)
            refine sv_aload_n (pc := 52) dX4_prepare_52 rfl rfl ?_
            refine mr_iload_n (pc := 53) (z := 5) dX4_prepare_53 rfl rfl ?_
            refine mr_iconst (pc := 54) (z := 5) dX4_prepare_54 ?_
            refine mr_imul (pc := 55) (x := 5) (y := 5) dX4_prepare_55 ?_
            refine mr_iload_n (pc := 56) (z := z12951) dX4_prepare_56 rfl rfl ?_
            refine mr_iadd (pc := 57) (x := (5 * 5)) (y := z12951) dX4_prepare_57 ?_
            obtain ⟨z16635, q16636⟩ : ∃ z, μ12952 96 (((7 * ((5 * 5) + z12951)) + 1).toNat) = z := ⟨_, rfl⟩
            have h16637 : (0 ≤ z16635 ∧ z16635 ≤ 6) := by rw [← q16636]; exact T12955 96 96 (A_96 hw) (((7 * ((5 * 5) + z12951)) + 1).toNat)
            obtain ⟨z16638, q16639⟩ : ∃ z, μ12952 97 (((5 * 5) + z12951).toNat) = z := ⟨_, rfl⟩
            have h16640 : (0 ≤ z16638 ∧ z16638 ≤ 7) := by rw [← q16639]; exact T12955 97 97 (A_97 hw) (((5 * 5) + z12951).toNat)
            obtain ⟨z16641, q16642⟩ : ∃ z, μ12952 95 (z16635.toNat) = z := ⟨_, rfl⟩
            have h16643 : (0 ≤ z16641 ∧ z16641 ≤ 5) := by rw [← q16642]; exact T12955 95 95 (A_95 hw) (z16635.toNat)
            refine mr_cVV (pc := 58) (c_X4_need_v hw T12955 (rW (c := 5) (d := 34) (rAdd (e := 25) (f := 29) (rMulL (n := 5) (e := 25) (f := 25) (rR (x := 5)) rfl) h16633 rfl) rfl) q16636 q16639 q16642) (gOk _ _ _ _ _) dX4_prepare_58 (tX4_need _ _ _ _ _) ⟨wV_X4_need, wL_X4_need⟩ wM_X4_63 (gCX4 _ _ _ _ _) rfl (A_94 hw) rfl ⟨le_t rfl, le_t rfl⟩ ⟨le_t rfl, le_t rfl⟩ rfl (le_t rfl) fun μ16644 T16645 F16646 h16647 => ?_
            refine mr_iinc (pc := 61) (lv' := [(2, iv (z12951 + 1)), (0, .ref 94), (1, iv 5)]) dX4_prepare_61 rfl (by decide) rfl ?_
            refine sv_goto (pc := 64) (tgt := 42) dX4_prepare_64 (by decide) ?_
            refine mr_lvS (lv' := [(0, .ref 94), (1, iv 5), (2, iv (z12951 + 1))]) (List.forall_mem_cons.mpr ⟨rfl, List.forall_mem_cons.mpr ⟨rfl, List.forall_mem_cons.mpr ⟨rfl, fun _ h => absurd h List.not_mem_nil⟩⟩⟩) ?_
            exact ih12960 (z12951 + 1) μ16644 T16645 (mF.call (mF.call mF.refl F12956 rfl) F16646 rfl) (rW (c := 0) (d := 5) (rAdd (e := 1) (f := 5) h16633 (rR (x := 1)) rfl) rfl) (ndT.next R12958 (fun p => (T12955 95 95 (A_95 hw) p).2) (vc_X4_prepare_v_75 h12976 h16633 h16634) (vc_X4_prepare_v_76 h12976 h16633 h16634) h16647.1 (rowB (A_95 hw) ((mF.call mF.refl F16646 rfl) : mF [98999, 99999] w μ12952 μ16644) rfl rfl) (rowB (A_96 hw) ((mF.call mF.refl F16646 rfl) : mF [98999, 99999] w μ12952 μ16644) rfl rfl) (rowB (A_97 hw) ((mF.call mF.refl F16646 rfl) : mF [98999, 99999] w μ12952 μ16644) rfl rfl)) (vc_X12_acted_11 (nS h12959) h12976 h16633 h16634)
        refine mr_lvS (lv' := [(0, .ref 94), (1, iv 5), (2, iv 0)]) (List.forall_mem_cons.mpr ⟨rfl, List.forall_mem_cons.mpr ⟨rfl, List.forall_mem_cons.mpr ⟨rfl, fun _ h => absurd h List.not_mem_nil⟩⟩⟩) ?_
        exact L12953 7 0 μ8706 T8708 mF.refl (rW (c := 0) (d := 5) (rR (x := 0)) rfl) (ndT.shift (ndT.of R8678 (rowB (A_95 hw) ((mF.up (mF.up mF.refl (A_100 hw) u8698 rfl) (A_94 hw) u8707 rfl) : mF [94009, 100999] w μ8672 μ8706) rfl rfl) (rowB (A_96 hw) ((mF.up (mF.up mF.refl (A_100 hw) u8698 rfl) (A_94 hw) u8707 rfl) : mF [94009, 100999] w μ8672 μ8706) rfl rfl) (rowB (A_97 hw) ((mF.up (mF.up mF.refl (A_100 hw) u8698 rfl) (A_94 hw) u8707 rfl) : mF [94009, 100999] w μ8672 μ8706) rfl rfl) (rowB (A_98 hw) ((mF.up (mF.up mF.refl (A_100 hw) u8698 rfl) (A_94 hw) u8707 rfl) : mF [94009, 100999] w μ8672 μ8706) rfl rfl) (rowB (A_99 hw) ((mF.up (mF.up mF.refl (A_100 hw) u8698 rfl) (A_94 hw) u8707 rfl) : mF [94009, 100999] w μ8672 μ8706) rfl rfl)) (u8707.f (Or.inl (mAt.ne (A_94 hw) (A_95 hw) rfl)) (u8698.f (Or.inl (mAt.ne (A_100 hw) (A_95 hw) rfl)) (F8676.f (A_95 hw) rfl (u11.f (Or.inl (mAt.ne (A_94 hw) (A_95 hw) rfl)) q8)))) (vc_X12_acted_4 h8696 h9 h8674) vc_X4_prepare_v_78 vc_X4_prepare_v_79 vc_X12_isOffered_v_15) vc_X12_acted_13
      have h16648 : 0 ≤ z8671 ∧ z8671 ≤ 4 := (vc_X4_actOf_2 h8696 h9 h8674)
      have h16649 : 1 ≤ z7 ∧ z7 ≤ 5 := (vc_X4_actOf_3 h8696 h9 h16648)
      refine sv_aload_n (pc := 52) dX4_prepare_52 rfl rfl ?_
      refine mr_iload_n (pc := 53) (z := 6) dX4_prepare_53 rfl rfl ?_
      refine mr_iconst (pc := 54) (z := 5) dX4_prepare_54 ?_
      refine mr_imul (pc := 55) (x := 6) (y := 5) dX4_prepare_55 ?_
      refine mr_iload_n (pc := 56) (z := z8671) dX4_prepare_56 rfl rfl ?_
      refine mr_iadd (pc := 57) (x := (6 * 5)) (y := z8671) dX4_prepare_57 ?_
      obtain ⟨z16650, q16651⟩ : ∃ z, μ8672 96 (((7 * ((6 * 5) + z8671)) + 1).toNat) = z := ⟨_, rfl⟩
      have h16652 : (0 ≤ z16650 ∧ z16650 ≤ 6) := by rw [← q16651]; exact T8675 96 96 (A_96 hw) (((7 * ((6 * 5) + z8671)) + 1).toNat)
      obtain ⟨z16653, q16654⟩ : ∃ z, μ8672 97 (((6 * 5) + z8671).toNat) = z := ⟨_, rfl⟩
      have h16655 : (0 ≤ z16653 ∧ z16653 ≤ 7) := by rw [← q16654]; exact T8675 97 97 (A_97 hw) (((6 * 5) + z8671).toNat)
      obtain ⟨z16656, q16657⟩ : ∃ z, μ8672 95 (z16650.toNat) = z := ⟨_, rfl⟩
      have h16658 : (0 ≤ z16656 ∧ z16656 ≤ 5) := by rw [← q16657]; exact T8675 95 95 (A_95 hw) (z16650.toNat)
      refine mr_cVV (pc := 58) (c_X4_need_v hw T8675 (rW (c := 5) (d := 34) (rAdd (e := 30) (f := 34) (rMulL (n := 6) (e := 30) (f := 30) (rR (x := 5)) rfl) h16648 rfl) rfl) q16651 q16654 q16657) (gOk _ _ _ _ _) dX4_prepare_58 (tX4_need _ _ _ _ _) ⟨wV_X4_need, wL_X4_need⟩ wM_X4_63 (gCX4 _ _ _ _ _) rfl (A_94 hw) rfl ⟨le_t rfl, le_t rfl⟩ ⟨le_t rfl, le_t rfl⟩ rfl (le_t rfl) fun μ16659 T16660 F16661 h16662 => ?_
      refine mr_iinc (pc := 61) (lv' := [(2, iv (z8671 + 1)), (0, .ref 94), (1, iv 6)]) dX4_prepare_61 rfl (by decide) rfl ?_
      refine sv_goto (pc := 64) (tgt := 42) dX4_prepare_64 (by decide) ?_
      refine mr_lvS (lv' := [(0, .ref 94), (1, iv 6), (2, iv (z8671 + 1))]) (List.forall_mem_cons.mpr ⟨rfl, List.forall_mem_cons.mpr ⟨rfl, List.forall_mem_cons.mpr ⟨rfl, fun _ h => absurd h List.not_mem_nil⟩⟩⟩) ?_
      exact ih8680 (z8671 + 1) μ16659 T16660 (mF.call (mF.call mF.refl F8676 rfl) F16661 rfl) (rW (c := 0) (d := 5) (rAdd (e := 1) (f := 5) h16648 (rR (x := 1)) rfl) rfl) (ndT.next R8678 (fun p => (T8675 95 95 (A_95 hw) p).2) (vc_X4_prepare_v_83 h8696 h16649 h16648) (vc_X4_prepare_v_84 h8696 h16649 h16648) h16662.1 (rowB (A_95 hw) ((mF.call mF.refl F16661 rfl) : mF [98999, 99999] w μ8672 μ16659) rfl rfl) (rowB (A_96 hw) ((mF.call mF.refl F16661 rfl) : mF [98999, 99999] w μ8672 μ16659) rfl rfl) (rowB (A_97 hw) ((mF.call mF.refl F16661 rfl) : mF [98999, 99999] w μ8672 μ16659) rfl rfl)) (vc_X4_actOf_6 (nS h8679) h8696 h16649 h16648)
  refine mr_lvS (lv' := [(0, .ref 94), (1, iv 6), (2, iv 0)]) (List.forall_mem_cons.mpr ⟨rfl, List.forall_mem_cons.mpr ⟨rfl, List.forall_mem_cons.mpr ⟨rfl, fun _ h => absurd h List.not_mem_nil⟩⟩⟩) ?_
  exact L8673 7 0 μ10 T12 mF.refl (rW (c := 0) (d := 5) (rR (x := 0)) rfl) (ndT.none vc_X4_prepare_v_85 vc_X12_isOffered_v_15) vc_X12_acted_13
theorem vc_X4_actOf_w_9 {p1 : Int} (h0 : 1 ≤ p1 ∧ p1 ≤ 6) : 1 ≤ p1 ∧ p1 ≤ 6 := by omega
theorem vc_X4_actOf_w_11 {f_vp p1 z225 : Int} (h0 : z225 < f_vp) (h1 : 1 ≤ f_vp ∧ f_vp ≤ 5) (h2 : 1 ≤ p1 ∧ p1 ≤ 6) (h3 : 0 ≤ z225 ∧ z225 ≤ 4) : ((p1 * 5) + z225) = 5 * p1 + z225 := by omega
theorem vc_X4_actOf_w_16 {z237 : Int} (h0 : ¬ z237 = 0) (h1 : 1 ≤ z237 ∧ z237 ≤ 6) : ¬ z237 = 0 := by omega
theorem vc_X4_actOf_w_17 {z246 z249 : Int} (h0 : ¬ z246 = z249) (h1 : 0 ≤ z246 ∧ z246 ≤ 46656) (h2 : (-1) ≤ z249 ∧ z249 ≤ 5) : ¬ z246 = z249 := by omega
theorem vc_X4_actOf_w_20 {z246 z249 : Int} (h0 : z246 = z249) (h1 : 0 ≤ z246 ∧ z246 ≤ 5) (h2 : 0 ≤ z249 ∧ z249 ≤ 5) : z246 = z249 := by omega
set_option maxRecDepth 4000 in
set_option maxHeartbeats 4000000 in
theorem c_X4_actOf_w {l : Launch} {D : va_G} {c : Nat → ClassId} {H0 : Heap} {sa : Nat × Nat × (Nat → Int32)} {w : mW} {μ : mM} (hw : mWF w) (hT : mT w μ) {p1 : Int} (hp1 : 1 ≤ p1 ∧ p1 ≤ 6) {f_vp : Int} (q_f_vp : μ 95 (p1.toNat) = f_vp) (hna : ndA μ) (hnd : NDQ μ) (hhs : hasB μ) : sC (gG l D c H0 sa) mX4_actOf 1 0 0 [.ref 94, iv p1] (mk w μ) (qP w μ (fun z => (0 ≤ z ∧ z ≤ 5) ∧ (z ≤ f_vp) ∧ (actR μ 95 97 96 7 (μ 101) p1 z) ∧ True)) := by
  refine sC.of rfl (by decide) (le_t rfl) ?_
  have ht_f_vp : (0 ≤ f_vp ∧ f_vp ≤ 5) := by rw [← q_f_vp]; exact hT 95 95 (A_95 hw) (p1.toNat)
  refine mr_lvE (lv' := [(0, .ref 94), (1, iv p1)]) rfl ?_
  refine mr_iconst (pc := 0) (z := 0) dX4_actOf_0 ?_
  refine mr_istore_n (pc := 1) (lv' := [(2, iv 0), (0, .ref 94), (1, iv p1)]) dX4_actOf_1 rfl (by decide) rfl ?_
  have L226 : ∀ (nL226 : Nat) (z225 : Int), True → (0 ≤ z225 ∧ z225 ≤ 5) → acI μ 95 97 96 7 (μ 101) p1 z225 → (6 - z225) < (nL226 : Int) → sV (gG l D c H0 sa) mX4_actOf (sRm 1 0 0) (sZ (gG l D c H0 sa) 0 0 (qP w μ (fun z => (0 ≤ z ∧ z ≤ 5) ∧ (z ≤ f_vp) ∧ (actR μ 95 97 96 7 (μ 101) p1 z) ∧ True))) 2 [(0, .ref 94), (1, iv p1), (2, iv z225)] [] (mk w μ) 0 0 := by
    intro nL226
    induction nL226 with
    | zero => intro z225 _ h227 R231 h232; exact ((vc_X12_acted_1 h232 h227)).elim
    | succ nL226 ih233 =>
      intro z225 _ h227 R231 h232
      refine mr_iload_n (pc := 2) (z := z225) dX4_actOf_2 rfl rfl ?_
      refine sv_aload_n (pc := 3) dX4_actOf_3 rfl rfl ?_
      refine gf_X4_12 (pc := 4) dX4_actOf_4 wF_X4_11 (A_94 hw) hT ?_
      refine mr_iload_n (pc := 7) (z := p1) dX4_actOf_7 rfl rfl ?_
      refine lk_95 (pc := 8) dX4_actOf_8 (A_95 hw) (rIx (n := 7) hp1 rfl) q_f_vp ?_
      refine mr_icmp_ge (pc := 9) (tgt := 55) dX4_actOf_9 (by decide) (r32 h227 rfl) (r32 ht_f_vp rfl) (fun h234 => ?_) (fun h234 => ?_)
      · refine sv_aload_n (pc := 55) dX4_actOf_55 rfl rfl ?_
        refine gf_X4_12 (pc := 56) dX4_actOf_56 wF_X4_11 (A_94 hw) hT ?_
        refine mr_iload_n (pc := 59) (z := p1) dX4_actOf_59 rfl rfl ?_
        refine lk_95 (pc := 60) dX4_actOf_60 (A_95 hw) (rIx (n := 7) hp1 rfl) q_f_vp ?_
        exact mr_iretP dX4_actOf_61 rfl (le_t rfl) (le_t rfl) ⟨ht_f_vp, (vc_X12_acted_w_2 h234 ht_f_vp h227), (actR.miss R231 q_f_vp (vc_X12_acted_w_3 h234 ht_f_vp h227) (vc_X12_acted_w_4 h234 ht_f_vp h227)), trivial⟩
      have h235 : 0 ≤ z225 ∧ z225 ≤ 4 := (vc_X4_actOf_2 h234 ht_f_vp h227)
      have h236 : 1 ≤ f_vp ∧ f_vp ≤ 5 := (vc_X4_actOf_3 h234 ht_f_vp h235)
      refine mr_iload_n (pc := 12) (z := p1) dX4_actOf_12 rfl rfl ?_
      refine mr_iconst (pc := 13) (z := 5) dX4_actOf_13 ?_
      refine mr_imul (pc := 14) (x := p1) (y := 5) dX4_actOf_14 ?_
      refine mr_iload_n (pc := 15) (z := z225) dX4_actOf_15 rfl rfl ?_
      refine mr_iadd (pc := 16) (x := (p1 * 5)) (y := z225) dX4_actOf_16 ?_
      refine mr_istore_n (pc := 17) (lv' := [(3, iv ((p1 * 5) + z225)), (0, .ref 94), (1, iv p1), (2, iv z225)]) dX4_actOf_17 rfl (by decide) rfl ?_
      refine sv_aload_n (pc := 18) dX4_actOf_18 rfl rfl ?_
      refine gf_X4_2 (pc := 19) dX4_actOf_19 wF_X4_21 (A_94 hw) hT ?_
      refine mr_iload_n (pc := 22) (z := ((p1 * 5) + z225)) dX4_actOf_22 rfl rfl ?_
      refine la_98 (pc := 23) dX4_actOf_23 (A_98 hw) hT (rIx (n := 35) (rAdd (e := 5) (f := 34) (rMulR (n := 5) (e := 5) (f := 30) hp1 rfl) h235 rfl) rfl) fun z237 q238 h239 => ?_
      refine mr_istore (pc := 24) (lv' := [(4, iv z237), (3, iv ((p1 * 5) + z225)), (0, .ref 94), (1, iv p1), (2, iv z225)]) dX4_actOf_24 (by decide) rfl ?_
      refine mr_iload (pc := 26) (z := z237) dX4_actOf_26 rfl ?_
      refine mr_if_eq (pc := 28) (tgt := 47) dX4_actOf_28 (by decide) (r32 h239 rfl) (fun h240 => ?_) (fun h240 => ?_)
      · have h241 : 0 ≤ z237 ∧ z237 ≤ 0 := (vc_X12_isOffered_13 h240 h239)
        refine mr_iload_n (pc := 47) (z := z225) dX4_actOf_47 rfl rfl ?_
        obtain ⟨z242, q243⟩ : ∃ z, μ 99 (((p1 * 5) + z225).toNat) = z := ⟨_, rfl⟩
        have h244 : ((-1) ≤ z242 ∧ z242 ≤ 5) := by rw [← q243]; exact hT 99 99 (A_99 hw) (((p1 * 5) + z225).toNat)
        exact mr_iretP dX4_actOf_48 rfl (le_t rfl) (le_t rfl) ⟨(rW (c := 0) (d := 5) h235 rfl), (vc_X12_acted_w_19 h234 h236 h235), (actR.hit R231 q_f_vp (vc_X12_acted_w_20 h234 h236 h235) (vc_X4_actOf_w_11 h234 h236 hp1 h235) (((ndA.off hna hnd hhs (vc_X4_actOf_w_9 hp1) (vc_X12_acted_w_20 h234 h236 h235) q_f_vp (vc_X4_actOf_w_11 h234 h236 hp1 h235) q238 q243)).mp (Or.inl (vc_X12_goes_7 h240 h241)))), trivial⟩
      have h245 : 1 ≤ z237 ∧ z237 ≤ 6 := (vc_X12_isOffered_1 h240 h239)
      refine sv_aload_n (pc := 31) dX4_actOf_31 rfl rfl ?_
      refine gf_X4_5 (pc := 32) dX4_actOf_32 wF_X4_30 (A_94 hw) hT ?_
      refine mr_iload (pc := 35) (z := z237) dX4_actOf_35 rfl ?_
      refine la_101 (pc := 37) dX4_actOf_37 (A_101 hw) hT (rIx (n := 7) h245 rfl) fun z246 q247 h248 => ?_
      refine sv_aload_n (pc := 38) dX4_actOf_38 rfl rfl ?_
      refine gf_X4_3 (pc := 39) dX4_actOf_39 wF_X4_24 (A_94 hw) hT ?_
      refine mr_iload_n (pc := 42) (z := ((p1 * 5) + z225)) dX4_actOf_42 rfl rfl ?_
      refine la_99 (pc := 43) dX4_actOf_43 (A_99 hw) hT (rIx (n := 35) (rAdd (e := 5) (f := 34) (rMulR (n := 5) (e := 5) (f := 30) hp1 rfl) h235 rfl) rfl) fun z249 q250 h251 => ?_
      refine mr_icmp_ne (pc := 44) (tgt := 49) dX4_actOf_44 (by decide) (r32 h248 rfl) (r32 h251 rfl) (fun h252 => ?_) (fun h252 => ?_)
      · refine mr_iinc (pc := 49) (lv' := [(2, iv (z225 + 1)), (4, iv z237), (3, iv ((p1 * 5) + z225)), (0, .ref 94), (1, iv p1)]) dX4_actOf_49 rfl (by decide) rfl ?_
        refine sv_goto (pc := 52) (tgt := 2) dX4_actOf_52 (by decide) ?_
        refine mr_lvS (lv' := [(0, .ref 94), (1, iv p1), (2, iv (z225 + 1))]) (List.forall_mem_cons.mpr ⟨rfl, List.forall_mem_cons.mpr ⟨rfl, List.forall_mem_cons.mpr ⟨rfl, fun _ h => absurd h List.not_mem_nil⟩⟩⟩) ?_
        exact ih233 (z225 + 1) trivial (rW (c := 0) (d := 5) (rAdd (e := 1) (f := 5) h235 (rR (x := 1)) rfl) rfl) (acI.next R231 (vc_X12_acted_w_15 h234 h236 h235) (vc_X4_actOf_w_11 h234 h236 hp1 h235) (fun g => (((ndA.off hna hnd hhs (vc_X4_actOf_w_9 hp1) (vc_X12_acted_w_20 h234 h236 h235) q_f_vp (vc_X4_actOf_w_11 h234 h236 hp1 h235) q238 q250)).mpr g).elim (vc_X4_actOf_w_16 h240 h245) (fun g2 => (vc_X4_actOf_w_17 h252 h248 h251) ((q247).symm.trans g2)))) (vc_X4_actOf_6 (nS h232) h234 h236 h235)
      have h253 : 0 ≤ z246 ∧ z246 ≤ 5 := (vc_X4_actOf_7 h252 h248 h251)
      have h254 : 0 ≤ z249 ∧ z249 ≤ 5 := (vc_X4_actOf_8 h252 h253 h251)
      refine mr_iload_n (pc := 47) (z := z225) dX4_actOf_47 rfl rfl ?_
      exact mr_iretP dX4_actOf_48 rfl (le_t rfl) (le_t rfl) ⟨(rW (c := 0) (d := 5) h235 rfl), (vc_X12_acted_w_19 h234 h236 h235), (actR.hit R231 q_f_vp (vc_X12_acted_w_20 h234 h236 h235) (vc_X4_actOf_w_11 h234 h236 hp1 h235) (((ndA.off hna hnd hhs (vc_X4_actOf_w_9 hp1) (vc_X12_acted_w_20 h234 h236 h235) q_f_vp (vc_X4_actOf_w_11 h234 h236 hp1 h235) q238 q250)).mp (Or.inr ((q247).trans (vc_X4_actOf_w_20 h252 h253 h254))))), trivial⟩
  refine mr_lvS (lv' := [(0, .ref 94), (1, iv p1), (2, iv 0)]) (List.forall_mem_cons.mpr ⟨rfl, List.forall_mem_cons.mpr ⟨rfl, List.forall_mem_cons.mpr ⟨rfl, fun _ h => absurd h List.not_mem_nil⟩⟩⟩) ?_
  exact L226 7 0 trivial (rW (c := 0) (d := 5) (rR (x := 0)) rfl) (acI.zero vc_X12_isOffered_v_15) vc_X12_acted_13
theorem vc_X4_isRest_v_3 {z70 : Int} (h0 : 7 ≤ z70) (h1 : 7 ≤ z70 ∧ z70 ≤ 7) : 7 ≤ z70 := by omega
theorem vc_X4_isRest_v_5 {z82 z85 z92 : Int} (h0 : z82 = z92) (h1 : z92 ≤ z85) (h2 : 0 ≤ z82 ∧ z82 ≤ 46656) (h3 : 0 ≤ z85 ∧ z85 ≤ 5) (h4 : 0 ≤ z92 ∧ z92 ≤ 5) : 0 ≤ z82 ∧ z82 ≤ 5 := by omega
theorem vc_X4_isRest_v_7 {z70 : Int} (h0 : z70 < 7) (h1 : 1 ≤ z70 ∧ z70 ≤ 6) : 1 ≤ z70 ∧ z70 ≤ 6 := by omega
theorem vc_X4_isRest_v_8 {z82 z85 z92 : Int} (h0 : z92 ≤ z85) (h1 : z82 = z92) (h2 : 0 ≤ z82 ∧ z82 ≤ 5) (h3 : 0 ≤ z85 ∧ z85 ≤ 5) (h4 : 0 ≤ z92 ∧ z92 ≤ 5) : (z92 = z82 ∧ (1 : Int) = 1) ∨ (¬ z92 = z82 ∧ ¬ (1 : Int) = 1) := by omega
theorem vc_X4_isRest_v_9 {z82 z85 z92 : Int} (h0 : z92 ≤ z85) (h1 : ¬ z82 = z92) (h2 : 0 ≤ z82 ∧ z82 ≤ 46656) (h3 : 0 ≤ z85 ∧ z85 ≤ 5) (h4 : 0 ≤ z92 ∧ z92 ≤ 5) : (z92 = z82 ∧ (0 : Int) = 1) ∨ (¬ z92 = z82 ∧ ¬ (0 : Int) = 1) := by omega
theorem vc_X4_isRest_v_11  : ((1 : Int) : Int) ≤ (1 : Int) := by omega
set_option maxRecDepth 4000 in
set_option maxHeartbeats 4000000 in
theorem c_X4_isRest_v {l : Launch} {D : va_G} {c : Nat → ClassId} {H0 : Heap} {sa : Nat × Nat × (Nat → Int32)} {w : mW} {μ : mM} (hw : mWF w) (hT : mT w μ) (hna : ndA μ) (hnd : NDQ μ) (hhs : hasB μ) : sC (gG l D c H0 sa) mX4_isRest 2 0 0 [.ref 94] (mk w μ) (qP w μ (fun z => (0 ≤ z ∧ z ≤ 1) ∧ ((z = 1 ↔ rstP μ 95 97 96 7 (μ 101))) ∧ True)) := by
  refine sC.of rfl (by decide) (le_t rfl) ?_
  refine mr_lvE (lv' := [(0, .ref 94)]) rfl ?_
  refine mr_iconst (pc := 0) (z := 1) dX4_isRest_0 ?_
  refine mr_istore_n (pc := 1) (lv' := [(1, iv 1), (0, .ref 94)]) dX4_isRest_1 rfl (by decide) rfl ?_
  have L71 : ∀ (nL71 : Nat) (z70 : Int), True → (1 ≤ z70 ∧ z70 ≤ 7) → rsI μ 95 97 96 7 (μ 101) z70 1 → (8 - z70) < (nL71 : Int) → sV (gG l D c H0 sa) mX4_isRest (sRm 2 0 0) (sZ (gG l D c H0 sa) 0 0 (qP w μ (fun z => (0 ≤ z ∧ z ≤ 1) ∧ ((z = 1 ↔ rstP μ 95 97 96 7 (μ 101))) ∧ True))) 2 [(0, .ref 94), (1, iv z70)] [] (mk w μ) 0 0 := by
    intro nL71
    induction nL71 with
    | zero => intro z70 _ h72 R76 h77; exact ((vc_X12_isRest_13 h77 h72)).elim
    | succ nL71 ih78 =>
      intro z70 _ h72 R76 h77
      refine mr_iload_n (pc := 2) (z := z70) dX4_isRest_2 rfl rfl ?_
      refine mr_bipush (pc := 3) (z := 7) dX4_isRest_3 (by decide) ?_
      refine mr_icmp_ge (pc := 5) (tgt := 30) dX4_isRest_5 (by decide) (r32 h72 rfl) (r32 (rR (x := 7)) rfl) (fun h79 => ?_) (fun h79 => ?_)
      · have h80 : 7 ≤ z70 ∧ z70 ≤ 7 := (vc_X4_isRest_2 h79 h72)
        refine mr_iconst (pc := 30) (z := 1) dX4_isRest_30 ?_
        exact mr_zretP dX4_isRest_31 rfl (rW (c := 0) (d := 1) (rR (x := 1)) rfl) (le_t rfl) (le_t rfl) ⟨(rW (c := 0) (d := 1) (rR (x := 1)) rfl), ⟨fun _ => rsI.yes R76 rfl (vc_X4_isRest_v_3 h79 h80), fun _ => rfl⟩, trivial⟩
      have h81 : 1 ≤ z70 ∧ z70 ≤ 6 := (vc_X4_isRest_3 h79 h72)
      refine sv_aload_n (pc := 8) dX4_isRest_8 rfl rfl ?_
      refine gf_X4_5 (pc := 9) dX4_isRest_9 wF_X4_30 (A_94 hw) hT ?_
      refine mr_iload_n (pc := 12) (z := z70) dX4_isRest_12 rfl rfl ?_
      refine la_101 (pc := 13) dX4_isRest_13 (A_101 hw) hT (rIx (n := 7) h81 rfl) fun z82 q83 h84 => ?_
      refine sv_aload_n (pc := 14) dX4_isRest_14 rfl rfl ?_
      refine mr_iload_n (pc := 15) (z := z70) dX4_isRest_15 rfl rfl ?_
      obtain ⟨z85, q86⟩ : ∃ z, μ 95 (z70.toNat) = z := ⟨_, rfl⟩
      have h87 : (0 ≤ z85 ∧ z85 ≤ 5) := by rw [← q86]; exact hT 95 95 (A_95 hw) (z70.toNat)
      refine mr_cVP (pc := 16) (c_X4_actOf_w hw hT h81 q86 hna hnd hhs) (gOk _ _ _ _ _) dX4_isRest_16 (tX4_actOf _ _ _ _ _) ⟨wV_X4_actOf, wL_X4_actOf⟩ wM_X4_71 (gCX4 _ _ _ _ _) rfl (A_94 hw) rfl ⟨le_t rfl, le_t rfl⟩ ⟨le_t rfl, le_t rfl⟩ rfl (le_t rfl) fun z92 h91 => ?_
      refine mr_icmp_eq (pc := 19) (tgt := 24) dX4_isRest_19 (by decide) (r32 h84 rfl) (r32 h91.1 rfl) (fun h93 => ?_) (fun h93 => ?_)
      · have h94 : 0 ≤ z82 ∧ z82 ≤ 5 := (vc_X4_isRest_v_5 h93 h91.2.1 h84 h87 h91.1)
        refine mr_iinc (pc := 24) (lv' := [(1, iv (z70 + 1)), (0, .ref 94)]) dX4_isRest_24 rfl (by decide) rfl ?_
        refine sv_goto (pc := 27) (tgt := 2) dX4_isRest_27 (by decide) ?_
        refine mr_lvS (lv' := [(0, .ref 94), (1, iv (z70 + 1))]) (List.forall_mem_cons.mpr ⟨rfl, List.forall_mem_cons.mpr ⟨rfl, fun _ h => absurd h List.not_mem_nil⟩⟩) ?_
        exact ih78 (z70 + 1) trivial (rW (c := 1) (d := 7) (rAdd (e := 2) (f := 7) h81 (rR (x := 1)) rfl) rfl) (rsI.next (g := 1) R76 rfl (vc_X4_isRest_v_7 h79 h81) h91.2.2.1 q83 (vc_X4_isRest_v_8 h91.2.1 h93 h94 h87 h91.1)) (vc_X4_isRest_5 (nS h77) h79 h81)
      refine mr_iconst (pc := 22) (z := 0) dX4_isRest_22 ?_
      exact mr_zretP dX4_isRest_23 rfl (rW (c := 0) (d := 1) (rR (x := 0)) rfl) (le_t rfl) (le_t rfl) ⟨(rW (c := 0) (d := 1) (rR (x := 0)) rfl), ⟨fun h => absurd h (by decide), fun h => absurd h (((rsI.next (g := 0) R76 rfl (vc_X4_isRest_v_7 h79 h81) h91.2.2.1 q83 (vc_X4_isRest_v_9 h91.2.1 h93 h84 h87 h91.1))).2 (by decide))⟩, trivial⟩
  refine mr_lvS (lv' := [(0, .ref 94), (1, iv 1)]) (List.forall_mem_cons.mpr ⟨rfl, List.forall_mem_cons.mpr ⟨rfl, fun _ h => absurd h List.not_mem_nil⟩⟩) ?_
  exact L71 8 1 trivial (rW (c := 1) (d := 7) (rR (x := 1)) rfl) (rsI.start vc_X4_isRest_v_11 rfl) vc_X12_isRest_25
theorem vc_X11_walk_w_1 {p1 : Int} (h0 : p1 < (-1)) (h1 : (-2147483648) ≤ p1 ∧ p1 ≤ 2147483647) : (-2147483648) ≤ p1 ∧ p1 ≤ (-2) := by omega
theorem vc_X11_walk_w_2 {f_q p1 : Int} (h0 : p1 < (-1)) (h1 : 0 ≤ f_q ∧ f_q ≤ 20) (h2 : (-2147483648) ≤ p1 ∧ p1 ≤ (-2)) : p1 < -1 ∨ 9 < p1 → (-1 : Int) = -1 ∧ f_q = f_q := by omega
theorem vc_X11_walk_w_3 {f_q p1 : Int} (h0 : p1 < (-1)) (h1 : 0 ≤ f_q ∧ f_q ≤ 20) (h2 : (-2147483648) ≤ p1 ∧ p1 ≤ (-2)) : p1 = -1 → (-1 : Int) = 0 ∧ f_q = 0 := by omega
theorem vc_X11_walk_w_4 {f_q p1 : Int} (h0 : p1 < (-1)) (h1 : 0 ≤ f_q ∧ f_q ≤ 20) (h2 : (-2147483648) ≤ p1 ∧ p1 ≤ (-2)) : 0 ≤ p1 → p1 ≤ 9 → f_q = 20 → (-1 : Int) = -3 ∧ f_q = f_q := by omega
theorem vc_X11_walk_w_5 {f_q p1 : Int} (h0 : p1 < (-1)) (h1 : 0 ≤ f_q ∧ f_q ≤ 20) (h2 : (-2147483648) ≤ p1 ∧ p1 ≤ (-2)) : 0 ≤ p1 → p1 ≤ 9 → f_q < 20 → (-1 : Int) = f_q + 1 ∧ f_q = f_q + 1 := by omega
theorem vc_X11_walk_w_6 {f_q : Int} (h0 : 0 ≤ f_q ∧ f_q ≤ 20) : ¬ f_q = f_q + 1 := by omega
theorem vc_X11_walk_w_7 {p1 : Int} (h0 : (-1) ≤ p1) (h1 : (-2147483648) ≤ p1 ∧ p1 ≤ 2147483647) : (-1) ≤ p1 ∧ p1 ≤ 2147483647 := by omega
theorem vc_X11_walk_w_8 {p1 : Int} (h0 : p1 < 10) (h1 : (-1) ≤ p1) (h2 : (-1) ≤ p1 ∧ p1 ≤ 2147483647) : (-1) ≤ p1 ∧ p1 ≤ 9 := by omega
theorem vc_X11_walk_w_9 {p1 : Int} (h0 : ¬ p1 = (-1)) (h1 : (-1) ≤ p1) (h2 : p1 < 10) (h3 : (-1) ≤ p1 ∧ p1 ≤ 9) : 0 ≤ p1 ∧ p1 ≤ 9 := by omega
theorem vc_X11_walk_w_11 {f_q p1 : Int} (h0 : (-1) ≤ p1) (h1 : p1 < 10) (h2 : ¬ p1 = (-1)) (h3 : f_q < 20) (h4 : 0 ≤ f_q ∧ f_q ≤ 19) (h5 : 0 ≤ p1 ∧ p1 ≤ 9) : p1 < -1 ∨ 9 < p1 → (f_q + 1) = -1 ∧ (f_q + 1) = f_q := by omega
theorem vc_X11_walk_w_12 {f_q p1 : Int} (h0 : (-1) ≤ p1) (h1 : p1 < 10) (h2 : ¬ p1 = (-1)) (h3 : f_q < 20) (h4 : 0 ≤ f_q ∧ f_q ≤ 19) (h5 : 0 ≤ p1 ∧ p1 ≤ 9) : p1 = -1 → (f_q + 1) = 0 ∧ (f_q + 1) = 0 := by omega
theorem vc_X11_walk_w_13 {f_q p1 : Int} (h0 : (-1) ≤ p1) (h1 : p1 < 10) (h2 : ¬ p1 = (-1)) (h3 : f_q < 20) (h4 : 0 ≤ f_q ∧ f_q ≤ 19) (h5 : 0 ≤ p1 ∧ p1 ≤ 9) : 0 ≤ p1 → p1 ≤ 9 → f_q = 20 → (f_q + 1) = -3 ∧ (f_q + 1) = f_q := by omega
theorem vc_X11_walk_w_14 {f_q p1 : Int} (h0 : (-1) ≤ p1) (h1 : p1 < 10) (h2 : ¬ p1 = (-1)) (h3 : f_q < 20) (h4 : 0 ≤ f_q ∧ f_q ≤ 19) (h5 : 0 ≤ p1 ∧ p1 ≤ 9) : 0 ≤ p1 → p1 ≤ 9 → f_q < 20 → (f_q + 1) = f_q + 1 ∧ (f_q + 1) = f_q + 1 := by omega
theorem vc_X11_walk_w_15 {f_q : Int} (h0 : f_q < 20) (h1 : 0 ≤ f_q ∧ f_q ≤ 19) : f_q ≤ f_q := by omega
theorem vc_X11_walk_w_16 {p1 : Int} (h0 : (-1) ≤ p1) (h1 : p1 < 10) (h2 : ¬ p1 = (-1)) (h3 : 0 ≤ p1 ∧ p1 ≤ 9) : p1 = p1 := by omega
theorem vc_X11_walk_w_18 {f_q p1 : Int} (h0 : (-1) ≤ p1) (h1 : p1 < 10) (h2 : ¬ p1 = (-1)) (h3 : 20 ≤ f_q) (h4 : 20 ≤ f_q ∧ f_q ≤ 20) (h5 : 0 ≤ p1 ∧ p1 ≤ 9) : p1 < -1 ∨ 9 < p1 → (-3 : Int) = -1 ∧ f_q = f_q := by omega
theorem vc_X11_walk_w_19 {f_q p1 : Int} (h0 : (-1) ≤ p1) (h1 : p1 < 10) (h2 : ¬ p1 = (-1)) (h3 : 20 ≤ f_q) (h4 : 20 ≤ f_q ∧ f_q ≤ 20) (h5 : 0 ≤ p1 ∧ p1 ≤ 9) : p1 = -1 → (-3 : Int) = 0 ∧ f_q = 0 := by omega
theorem vc_X11_walk_w_20 {f_q p1 : Int} (h0 : (-1) ≤ p1) (h1 : p1 < 10) (h2 : ¬ p1 = (-1)) (h3 : 20 ≤ f_q) (h4 : 20 ≤ f_q ∧ f_q ≤ 20) (h5 : 0 ≤ p1 ∧ p1 ≤ 9) : 0 ≤ p1 → p1 ≤ 9 → f_q = 20 → (-3 : Int) = -3 ∧ f_q = f_q := by omega
theorem vc_X11_walk_w_21 {f_q p1 : Int} (h0 : (-1) ≤ p1) (h1 : p1 < 10) (h2 : ¬ p1 = (-1)) (h3 : 20 ≤ f_q) (h4 : 20 ≤ f_q ∧ f_q ≤ 20) (h5 : 0 ≤ p1 ∧ p1 ≤ 9) : 0 ≤ p1 → p1 ≤ 9 → f_q < 20 → (-3 : Int) = f_q + 1 ∧ f_q = f_q + 1 := by omega
theorem vc_X11_walk_w_22 {f_q : Int} (h0 : 20 ≤ f_q) (h1 : 20 ≤ f_q ∧ f_q ≤ 20) : ¬ f_q = f_q + 1 := by omega
theorem vc_X11_walk_w_23 {p1 : Int} (h0 : p1 = (-1)) (h1 : (-1) ≤ p1) (h2 : p1 < 10) (h3 : (-1) ≤ p1 ∧ p1 ≤ 9) : (-1) ≤ p1 ∧ p1 ≤ (-1) := by omega
theorem vc_X11_walk_w_24 {f_q p1 : Int} (h0 : (-1) ≤ p1) (h1 : p1 < 10) (h2 : p1 = (-1)) (h3 : 0 ≤ f_q ∧ f_q ≤ 20) (h4 : (-1) ≤ p1 ∧ p1 ≤ (-1)) : p1 < -1 ∨ 9 < p1 → (0 : Int) = -1 ∧ (0 : Int) = f_q := by omega
theorem vc_X11_walk_w_25 {p1 : Int} (h0 : (-1) ≤ p1) (h1 : p1 < 10) (h2 : p1 = (-1)) (h3 : (-1) ≤ p1 ∧ p1 ≤ (-1)) : p1 = -1 → (0 : Int) = 0 ∧ (0 : Int) = 0 := by omega
theorem vc_X11_walk_w_26 {f_q p1 : Int} (h0 : (-1) ≤ p1) (h1 : p1 < 10) (h2 : p1 = (-1)) (h3 : 0 ≤ f_q ∧ f_q ≤ 20) (h4 : (-1) ≤ p1 ∧ p1 ≤ (-1)) : 0 ≤ p1 → p1 ≤ 9 → f_q = 20 → (0 : Int) = -3 ∧ (0 : Int) = f_q := by omega
theorem vc_X11_walk_w_27 {f_q p1 : Int} (h0 : (-1) ≤ p1) (h1 : p1 < 10) (h2 : p1 = (-1)) (h3 : 0 ≤ f_q ∧ f_q ≤ 20) (h4 : (-1) ≤ p1 ∧ p1 ≤ (-1)) : 0 ≤ p1 → p1 ≤ 9 → f_q < 20 → (0 : Int) = f_q + 1 ∧ (0 : Int) = f_q + 1 := by omega
theorem vc_X11_walk_w_28 {f_q : Int} (h0 : 0 ≤ f_q ∧ f_q ≤ 20) : ¬ (0 : Int) = f_q + 1 := by omega
theorem vc_X11_walk_w_29 {p1 : Int} (h0 : 10 ≤ p1) (h1 : (-1) ≤ p1) (h2 : (-1) ≤ p1 ∧ p1 ≤ 2147483647) : 10 ≤ p1 ∧ p1 ≤ 2147483647 := by omega
theorem vc_X11_walk_w_30 {f_q p1 : Int} (h0 : (-1) ≤ p1) (h1 : 10 ≤ p1) (h2 : 0 ≤ f_q ∧ f_q ≤ 20) (h3 : 10 ≤ p1 ∧ p1 ≤ 2147483647) : p1 < -1 ∨ 9 < p1 → (-1 : Int) = -1 ∧ f_q = f_q := by omega
theorem vc_X11_walk_w_31 {f_q p1 : Int} (h0 : (-1) ≤ p1) (h1 : 10 ≤ p1) (h2 : 0 ≤ f_q ∧ f_q ≤ 20) (h3 : 10 ≤ p1 ∧ p1 ≤ 2147483647) : p1 = -1 → (-1 : Int) = 0 ∧ f_q = 0 := by omega
theorem vc_X11_walk_w_32 {f_q p1 : Int} (h0 : (-1) ≤ p1) (h1 : 10 ≤ p1) (h2 : 0 ≤ f_q ∧ f_q ≤ 20) (h3 : 10 ≤ p1 ∧ p1 ≤ 2147483647) : 0 ≤ p1 → p1 ≤ 9 → f_q = 20 → (-1 : Int) = -3 ∧ f_q = f_q := by omega
theorem vc_X11_walk_w_33 {f_q p1 : Int} (h0 : (-1) ≤ p1) (h1 : 10 ≤ p1) (h2 : 0 ≤ f_q ∧ f_q ≤ 20) (h3 : 10 ≤ p1 ∧ p1 ≤ 2147483647) : 0 ≤ p1 → p1 ≤ 9 → f_q < 20 → (-1 : Int) = f_q + 1 ∧ f_q = f_q + 1 := by omega
set_option maxRecDepth 4000 in
set_option maxHeartbeats 4000000 in
theorem c_X11_walk_w {l : Launch} {D : va_G} {c : Nat → ClassId} {H0 : Heap} {sa : Nat × Nat × (Nat → Int32)} {w : mW} {μ : mM} (hw : mWF w) (hT : mT w μ) {p1 : Int} (hp1 : (-2147483648) ≤ p1 ∧ p1 ≤ 2147483647) {f_q : Int} (q_f_q : μ 0 11 = f_q) : sC (gG l D c H0 sa) mX11_walk 1 0 0 [.ref 0, iv p1] (mk w μ) (qI w [11, 2999] μ (fun z μ1 => ∃ o_q : Int, μ1 0 11 = o_q ∧ ((-2147483648) ≤ z ∧ z ≤ 2147483647) ∧ (p1 < -1 ∨ 9 < p1 → z = -1 ∧ o_q = f_q) ∧ (p1 = -1 → z = 0 ∧ o_q = 0) ∧ (0 ≤ p1 → p1 ≤ 9 → f_q = 20 → z = -3 ∧ o_q = f_q) ∧ (0 ≤ p1 → p1 ≤ 9 → f_q < 20 → z = f_q + 1 ∧ o_q = f_q + 1) ∧ (wkT μ μ1 2 f_q o_q p1) ∧ True)) := by
  refine sC.of rfl (by decide) (le_t rfl) ?_
  have ht_f_q : (0 ≤ f_q ∧ f_q ≤ 20) := by rw [← q_f_q]; exact hT 0 0 (A_0 hw) 11
  refine mr_lvE (lv' := [(0, .ref 0), (1, iv p1)]) rfl ?_
  refine mr_iload_n (pc := 0) (z := p1) dX11_walk_0 rfl rfl ?_
  refine mr_iconst (pc := 1) (z := (-1)) dX11_walk_1 ?_
  refine mr_icmp_lt (pc := 2) (tgt := 11) dX11_walk_2 (by decide) hp1 (r32 (rR (x := (-1))) rfl) (fun h52 => ?_) (fun h52 => ?_)
  · have h53 : (-2147483648) ≤ p1 ∧ p1 ≤ (-2) := (vc_X11_walk_w_1 h52 hp1)
    refine mr_iconst (pc := 11) (z := (-1)) dX11_walk_11 ?_
    exact mr_iret dX11_walk_12 rfl (le_t rfl) (le_t rfl) hT mF.refl ⟨f_q, q_f_q, (rW (c := (-2147483648)) (d := 2147483647) (rR (x := (-1))) rfl), (vc_X11_walk_w_2 h52 ht_f_q h53), (vc_X11_walk_w_3 h52 ht_f_q h53), (vc_X11_walk_w_4 h52 ht_f_q h53), (vc_X11_walk_w_5 h52 ht_f_q h53), ⟨tabS.refl, fun h => absurd h (vc_X11_walk_w_6 ht_f_q)⟩, trivial⟩
  have h54 : (-1) ≤ p1 ∧ p1 ≤ 2147483647 := (vc_X11_walk_w_7 h52 hp1)
  refine mr_iload_n (pc := 5) (z := p1) dX11_walk_5 rfl rfl ?_
  refine mr_bipush (pc := 6) (z := 10) dX11_walk_6 (by decide) ?_
  refine mr_icmp_lt (pc := 8) (tgt := 13) dX11_walk_8 (by decide) (r32 h54 rfl) (r32 (rR (x := 10)) rfl) (fun h55 => ?_) (fun h55 => ?_)
  · have h56 : (-1) ≤ p1 ∧ p1 ≤ 9 := (vc_X11_walk_w_8 h55 h52 h54)
    refine mr_iload_n (pc := 13) (z := p1) dX11_walk_13 rfl rfl ?_
    refine mr_iconst (pc := 14) (z := (-1)) dX11_walk_14 ?_
    refine mr_icmp_ne (pc := 15) (tgt := 25) dX11_walk_15 (by decide) (r32 h56 rfl) (r32 (rR (x := (-1))) rfl) (fun h57 => ?_) (fun h57 => ?_)
    · have h58 : 0 ≤ p1 ∧ p1 ≤ 9 := (vc_X11_walk_w_9 h57 h52 h55 h56)
      refine sv_aload_n (pc := 25) dX11_walk_25 rfl rfl ?_
      refine gk_X11_11 (pc := 26) dX11_walk_26 wF_X11_169 (A_0 hw) q_f_q ?_
      refine mr_bipush (pc := 29) (z := 20) dX11_walk_29 (by decide) ?_
      refine mr_icmp_lt (pc := 31) (tgt := 37) dX11_walk_31 (by decide) (r32 ht_f_q rfl) (r32 (rR (x := 20)) rfl) (fun h59 => ?_) (fun h59 => ?_)
      · have h60 : 0 ≤ f_q ∧ f_q ≤ 19 := (vc_X12_feed_4 h59 ht_f_q)
        refine sv_aload_n (pc := 37) dX11_walk_37 rfl rfl ?_
        refine gf_X11_1 (pc := 38) dX11_walk_38 wF_X11_13 (A_0 hw) hT ?_
        refine sv_aload_n (pc := 41) dX11_walk_41 rfl rfl ?_
        refine gk_X11_11 (pc := 42) dX11_walk_42 wF_X11_169 (A_0 hw) q_f_q ?_
        refine mr_iload_n (pc := 45) (z := p1) dX11_walk_45 rfl rfl ?_
        refine ss_2 (pc := 46) dX11_walk_46 (A_2 hw) hT (rIx (n := 20) h60 rfl) h58 fun μ61 u62 T63 => ?_
        refine sv_aload_n (pc := 47) dX11_walk_47 rfl rfl ?_
        refine sv_dup (pc := 48) dX11_walk_48 rfl ?_
        refine gk_X11_11 (pc := 49) dX11_walk_49 wF_X11_169 (A_0 hw) (u62.f (Or.inl (mAt.ne (A_2 hw) (A_0 hw) rfl)) q_f_q) ?_
        refine mr_iconst (pc := 52) (z := 1) dX11_walk_52 ?_
        refine mr_iadd (pc := 53) (x := f_q) (y := 1) dX11_walk_53 ?_
        refine pf_X11_11 (pc := 54) dX11_walk_54 wF_X11_169 (A_0 hw) T63 (rW (c := 0) (d := 20) (rAdd (e := 1) (f := 20) h60 (rR (x := 1)) rfl) rfl) fun μ64 u65 T66 => ?_
        refine sv_aload_n (pc := 57) dX11_walk_57 rfl rfl ?_
        refine gk_X11_11 (pc := 58) dX11_walk_58 wF_X11_169 (A_0 hw) u65.1 ?_
        exact mr_iret dX11_walk_61 rfl (le_t rfl) (le_t rfl) T66 (mF.up (mF.up mF.refl (A_2 hw) u62 rfl) (A_0 hw) u65 rfl) ⟨(f_q + 1), u65.1, (rW (c := (-2147483648)) (d := 2147483647) (rAdd (e := 1) (f := 20) h60 (rR (x := 1)) rfl) rfl), (vc_X11_walk_w_11 h52 h55 h57 h59 h60 h58), (vc_X11_walk_w_12 h52 h55 h57 h59 h60 h58), (vc_X11_walk_w_13 h52 h55 h57 h59 h60 h58), (vc_X11_walk_w_14 h52 h55 h57 h59 h60 h58), ⟨(tabS.oth (tabS.up tabS.refl u62 (vc_X11_walk_w_15 h59 h60)) u65 rfl), fun _ => (u65.f (Or.inl (mAt.ne (A_0 hw) (A_2 hw) rfl)) u62.1).trans (vc_X11_walk_w_16 h52 h55 h57 h58)⟩, trivial⟩
      have h67 : 20 ≤ f_q ∧ f_q ≤ 20 := (vc_X12_feed_3 h59 ht_f_q)
      refine mr_bipush (pc := 34) (z := (-3)) dX11_walk_34 (by decide) ?_
      exact mr_iret dX11_walk_36 rfl (le_t rfl) (le_t rfl) hT mF.refl ⟨f_q, q_f_q, (rW (c := (-2147483648)) (d := 2147483647) (rR (x := (-3))) rfl), (vc_X11_walk_w_18 h52 h55 h57 h59 h67 h58), (vc_X11_walk_w_19 h52 h55 h57 h59 h67 h58), (vc_X11_walk_w_20 h52 h55 h57 h59 h67 h58), (vc_X11_walk_w_21 h52 h55 h57 h59 h67 h58), ⟨tabS.refl, fun h => absurd h (vc_X11_walk_w_22 h59 h67)⟩, trivial⟩
    have h68 : (-1) ≤ p1 ∧ p1 ≤ (-1) := (vc_X11_walk_w_23 h57 h52 h55 h56)
    refine sv_aload_n (pc := 18) dX11_walk_18 rfl rfl ?_
    refine mr_iconst (pc := 19) (z := 0) dX11_walk_19 ?_
    refine pf_X11_11 (pc := 20) dX11_walk_20 wF_X11_169 (A_0 hw) hT (rW (c := 0) (d := 20) (rR (x := 0)) rfl) fun μ69 u70 T71 => ?_
    refine mr_iconst (pc := 23) (z := 0) dX11_walk_23 ?_
    exact mr_iret dX11_walk_24 rfl (le_t rfl) (le_t rfl) T71 (mF.up mF.refl (A_0 hw) u70 rfl) ⟨0, u70.1, (rW (c := (-2147483648)) (d := 2147483647) (rR (x := 0)) rfl), (vc_X11_walk_w_24 h52 h55 h57 ht_f_q h68), (vc_X11_walk_w_25 h52 h55 h57 h68), (vc_X11_walk_w_26 h52 h55 h57 ht_f_q h68), (vc_X11_walk_w_27 h52 h55 h57 ht_f_q h68), ⟨(tabS.oth tabS.refl u70 rfl), fun h => absurd h (vc_X11_walk_w_28 ht_f_q)⟩, trivial⟩
  have h72 : 10 ≤ p1 ∧ p1 ≤ 2147483647 := (vc_X11_walk_w_29 h55 h52 h54)
  refine mr_iconst (pc := 11) (z := (-1)) dX11_walk_11 ?_
  exact mr_iret dX11_walk_12 rfl (le_t rfl) (le_t rfl) hT mF.refl ⟨f_q, q_f_q, (rW (c := (-2147483648)) (d := 2147483647) (rR (x := (-1))) rfl), (vc_X11_walk_w_30 h52 h55 ht_f_q h72), (vc_X11_walk_w_31 h52 h55 ht_f_q h72), (vc_X11_walk_w_32 h52 h55 ht_f_q h72), (vc_X11_walk_w_33 h52 h55 ht_f_q h72), ⟨tabS.refl, fun h => absurd h (vc_X11_walk_w_6 ht_f_q)⟩, trivial⟩
theorem vc_X12_walk_w_1 {p1 z74 : Int} (h0 : ¬ z74 = 0) (h1 : (z74 = 1 → ((-1) : Int) ≤ p1 ∧ p1 ≤ (9 : Int))) (h2 : (z74 = 0 → p1 < ((-1) : Int) ∨ (9 : Int) < p1)) (h3 : (-2147483648) ≤ p1 ∧ p1 ≤ 2147483647) (h4 : 0 ≤ z74 ∧ z74 ≤ 1) : 1 ≤ z74 ∧ z74 ≤ 1 := by omega
theorem vc_X12_walk_w_2 {p1 z74 : Int} (h0 : (z74 = 1 → ((-1) : Int) ≤ p1 ∧ p1 ≤ (9 : Int))) (h1 : (z74 = 0 → p1 < ((-1) : Int) ∨ (9 : Int) < p1)) (h2 : ¬ z74 = 0) (h3 : (-2147483648) ≤ p1 ∧ p1 ≤ 2147483647) (h4 : 1 ≤ z74 ∧ z74 ≤ 1) : z74 = 1 := by omega
theorem vc_X12_walk_w_3 {p1 z74 : Int} (h0 : ((-1) : Int) ≤ p1 ∧ p1 ≤ (9 : Int)) (h1 : (z74 = 1 → ((-1) : Int) ≤ p1 ∧ p1 ≤ (9 : Int))) (h2 : (z74 = 0 → p1 < ((-1) : Int) ∨ (9 : Int) < p1)) (h3 : (-2147483648) ≤ p1 ∧ p1 ≤ 2147483647) (h4 : 1 ≤ z74 ∧ z74 ≤ 1) : (-1) ≤ p1 ∧ p1 ≤ 9 := by omega
theorem vc_X12_walk_w_4 {p1 z74 : Int} (h0 : ¬ p1 = (-1)) (h1 : (z74 = 1 → ((-1) : Int) ≤ p1 ∧ p1 ≤ (9 : Int))) (h2 : (z74 = 0 → p1 < ((-1) : Int) ∨ (9 : Int) < p1)) (h3 : ((-1) : Int) ≤ p1 ∧ p1 ≤ (9 : Int)) (h4 : (-1) ≤ p1 ∧ p1 ≤ 9) (h5 : 1 ≤ z74 ∧ z74 ≤ 1) : 0 ≤ p1 ∧ p1 ≤ 9 := by omega
theorem vc_X12_walk_w_6 {f_q p1 z74 : Int} (h0 : (z74 = 1 → ((-1) : Int) ≤ p1 ∧ p1 ≤ (9 : Int))) (h1 : (z74 = 0 → p1 < ((-1) : Int) ∨ (9 : Int) < p1)) (h2 : ((-1) : Int) ≤ p1 ∧ p1 ≤ (9 : Int)) (h3 : ¬ p1 = (-1)) (h4 : ¬ f_q = 20) (h5 : ¬ z74 = 0) (h6 : 0 ≤ f_q ∧ f_q ≤ 19) (h7 : 0 ≤ p1 ∧ p1 ≤ 9) (h8 : 1 ≤ z74 ∧ z74 ≤ 1) : p1 < -1 ∨ 9 < p1 → (f_q + 1) = -1 ∧ (f_q + 1) = f_q := by omega
theorem vc_X12_walk_w_7 {f_q p1 z74 : Int} (h0 : (z74 = 1 → ((-1) : Int) ≤ p1 ∧ p1 ≤ (9 : Int))) (h1 : (z74 = 0 → p1 < ((-1) : Int) ∨ (9 : Int) < p1)) (h2 : ((-1) : Int) ≤ p1 ∧ p1 ≤ (9 : Int)) (h3 : ¬ p1 = (-1)) (h4 : ¬ f_q = 20) (h5 : ¬ z74 = 0) (h6 : 0 ≤ f_q ∧ f_q ≤ 19) (h7 : 0 ≤ p1 ∧ p1 ≤ 9) (h8 : 1 ≤ z74 ∧ z74 ≤ 1) : p1 = -1 → (f_q + 1) = 0 ∧ (f_q + 1) = 0 := by omega
theorem vc_X12_walk_w_8 {f_q p1 z74 : Int} (h0 : (z74 = 1 → ((-1) : Int) ≤ p1 ∧ p1 ≤ (9 : Int))) (h1 : (z74 = 0 → p1 < ((-1) : Int) ∨ (9 : Int) < p1)) (h2 : ((-1) : Int) ≤ p1 ∧ p1 ≤ (9 : Int)) (h3 : ¬ p1 = (-1)) (h4 : ¬ f_q = 20) (h5 : ¬ z74 = 0) (h6 : 0 ≤ f_q ∧ f_q ≤ 19) (h7 : 0 ≤ p1 ∧ p1 ≤ 9) (h8 : 1 ≤ z74 ∧ z74 ≤ 1) : 0 ≤ p1 → p1 ≤ 9 → f_q = 20 → (f_q + 1) = -3 ∧ (f_q + 1) = f_q := by omega
theorem vc_X12_walk_w_9 {f_q p1 z74 : Int} (h0 : (z74 = 1 → ((-1) : Int) ≤ p1 ∧ p1 ≤ (9 : Int))) (h1 : (z74 = 0 → p1 < ((-1) : Int) ∨ (9 : Int) < p1)) (h2 : ((-1) : Int) ≤ p1 ∧ p1 ≤ (9 : Int)) (h3 : ¬ p1 = (-1)) (h4 : ¬ f_q = 20) (h5 : ¬ z74 = 0) (h6 : 0 ≤ f_q ∧ f_q ≤ 19) (h7 : 0 ≤ p1 ∧ p1 ≤ 9) (h8 : 1 ≤ z74 ∧ z74 ≤ 1) : 0 ≤ p1 → p1 ≤ 9 → f_q < 20 → (f_q + 1) = f_q + 1 ∧ (f_q + 1) = f_q + 1 := by omega
theorem vc_X12_walk_w_10 {f_q : Int} (h0 : ¬ f_q = 20) (h1 : 0 ≤ f_q ∧ f_q ≤ 19) : f_q ≤ f_q := by omega
theorem vc_X12_walk_w_11 {p1 z74 : Int} (h0 : (z74 = 1 → ((-1) : Int) ≤ p1 ∧ p1 ≤ (9 : Int))) (h1 : (z74 = 0 → p1 < ((-1) : Int) ∨ (9 : Int) < p1)) (h2 : ((-1) : Int) ≤ p1 ∧ p1 ≤ (9 : Int)) (h3 : ¬ p1 = (-1)) (h4 : ¬ z74 = 0) (h5 : 0 ≤ p1 ∧ p1 ≤ 9) (h6 : 1 ≤ z74 ∧ z74 ≤ 1) : p1 = p1 := by omega
theorem vc_X12_walk_w_13 {f_q p1 z74 : Int} (h0 : (z74 = 1 → ((-1) : Int) ≤ p1 ∧ p1 ≤ (9 : Int))) (h1 : (z74 = 0 → p1 < ((-1) : Int) ∨ (9 : Int) < p1)) (h2 : ((-1) : Int) ≤ p1 ∧ p1 ≤ (9 : Int)) (h3 : ¬ p1 = (-1)) (h4 : f_q = 20) (h5 : ¬ z74 = 0) (h6 : 20 ≤ f_q ∧ f_q ≤ 20) (h7 : 0 ≤ p1 ∧ p1 ≤ 9) (h8 : 1 ≤ z74 ∧ z74 ≤ 1) : p1 < -1 ∨ 9 < p1 → (-3 : Int) = -1 ∧ f_q = f_q := by omega
theorem vc_X12_walk_w_14 {f_q p1 z74 : Int} (h0 : (z74 = 1 → ((-1) : Int) ≤ p1 ∧ p1 ≤ (9 : Int))) (h1 : (z74 = 0 → p1 < ((-1) : Int) ∨ (9 : Int) < p1)) (h2 : ((-1) : Int) ≤ p1 ∧ p1 ≤ (9 : Int)) (h3 : ¬ p1 = (-1)) (h4 : f_q = 20) (h5 : ¬ z74 = 0) (h6 : 20 ≤ f_q ∧ f_q ≤ 20) (h7 : 0 ≤ p1 ∧ p1 ≤ 9) (h8 : 1 ≤ z74 ∧ z74 ≤ 1) : p1 = -1 → (-3 : Int) = 0 ∧ f_q = 0 := by omega
theorem vc_X12_walk_w_15 {f_q p1 z74 : Int} (h0 : (z74 = 1 → ((-1) : Int) ≤ p1 ∧ p1 ≤ (9 : Int))) (h1 : (z74 = 0 → p1 < ((-1) : Int) ∨ (9 : Int) < p1)) (h2 : ((-1) : Int) ≤ p1 ∧ p1 ≤ (9 : Int)) (h3 : ¬ p1 = (-1)) (h4 : f_q = 20) (h5 : ¬ z74 = 0) (h6 : 20 ≤ f_q ∧ f_q ≤ 20) (h7 : 0 ≤ p1 ∧ p1 ≤ 9) (h8 : 1 ≤ z74 ∧ z74 ≤ 1) : 0 ≤ p1 → p1 ≤ 9 → f_q = 20 → (-3 : Int) = -3 ∧ f_q = f_q := by omega
theorem vc_X12_walk_w_16 {f_q p1 z74 : Int} (h0 : (z74 = 1 → ((-1) : Int) ≤ p1 ∧ p1 ≤ (9 : Int))) (h1 : (z74 = 0 → p1 < ((-1) : Int) ∨ (9 : Int) < p1)) (h2 : ((-1) : Int) ≤ p1 ∧ p1 ≤ (9 : Int)) (h3 : ¬ p1 = (-1)) (h4 : f_q = 20) (h5 : ¬ z74 = 0) (h6 : 20 ≤ f_q ∧ f_q ≤ 20) (h7 : 0 ≤ p1 ∧ p1 ≤ 9) (h8 : 1 ≤ z74 ∧ z74 ≤ 1) : 0 ≤ p1 → p1 ≤ 9 → f_q < 20 → (-3 : Int) = f_q + 1 ∧ f_q = f_q + 1 := by omega
theorem vc_X12_walk_w_17 {f_q : Int} (h0 : f_q = 20) (h1 : 20 ≤ f_q ∧ f_q ≤ 20) : ¬ f_q = f_q + 1 := by omega
theorem vc_X12_walk_w_18 {p1 z74 : Int} (h0 : p1 = (-1)) (h1 : (z74 = 1 → ((-1) : Int) ≤ p1 ∧ p1 ≤ (9 : Int))) (h2 : (z74 = 0 → p1 < ((-1) : Int) ∨ (9 : Int) < p1)) (h3 : ((-1) : Int) ≤ p1 ∧ p1 ≤ (9 : Int)) (h4 : (-1) ≤ p1 ∧ p1 ≤ 9) (h5 : 1 ≤ z74 ∧ z74 ≤ 1) : (-1) ≤ p1 ∧ p1 ≤ (-1) := by omega
theorem vc_X12_walk_w_19 {f_q p1 z74 : Int} (h0 : (z74 = 1 → ((-1) : Int) ≤ p1 ∧ p1 ≤ (9 : Int))) (h1 : (z74 = 0 → p1 < ((-1) : Int) ∨ (9 : Int) < p1)) (h2 : ((-1) : Int) ≤ p1 ∧ p1 ≤ (9 : Int)) (h3 : p1 = (-1)) (h4 : ¬ z74 = 0) (h5 : 0 ≤ f_q ∧ f_q ≤ 20) (h6 : (-1) ≤ p1 ∧ p1 ≤ (-1)) (h7 : 1 ≤ z74 ∧ z74 ≤ 1) : p1 < -1 ∨ 9 < p1 → (0 : Int) = -1 ∧ (0 : Int) = f_q := by omega
theorem vc_X12_walk_w_20 {p1 z74 : Int} (h0 : (z74 = 1 → ((-1) : Int) ≤ p1 ∧ p1 ≤ (9 : Int))) (h1 : (z74 = 0 → p1 < ((-1) : Int) ∨ (9 : Int) < p1)) (h2 : ((-1) : Int) ≤ p1 ∧ p1 ≤ (9 : Int)) (h3 : p1 = (-1)) (h4 : ¬ z74 = 0) (h5 : (-1) ≤ p1 ∧ p1 ≤ (-1)) (h6 : 1 ≤ z74 ∧ z74 ≤ 1) : p1 = -1 → (0 : Int) = 0 ∧ (0 : Int) = 0 := by omega
theorem vc_X12_walk_w_21 {f_q p1 z74 : Int} (h0 : (z74 = 1 → ((-1) : Int) ≤ p1 ∧ p1 ≤ (9 : Int))) (h1 : (z74 = 0 → p1 < ((-1) : Int) ∨ (9 : Int) < p1)) (h2 : ((-1) : Int) ≤ p1 ∧ p1 ≤ (9 : Int)) (h3 : p1 = (-1)) (h4 : ¬ z74 = 0) (h5 : 0 ≤ f_q ∧ f_q ≤ 20) (h6 : (-1) ≤ p1 ∧ p1 ≤ (-1)) (h7 : 1 ≤ z74 ∧ z74 ≤ 1) : 0 ≤ p1 → p1 ≤ 9 → f_q = 20 → (0 : Int) = -3 ∧ (0 : Int) = f_q := by omega
theorem vc_X12_walk_w_22 {f_q p1 z74 : Int} (h0 : (z74 = 1 → ((-1) : Int) ≤ p1 ∧ p1 ≤ (9 : Int))) (h1 : (z74 = 0 → p1 < ((-1) : Int) ∨ (9 : Int) < p1)) (h2 : ((-1) : Int) ≤ p1 ∧ p1 ≤ (9 : Int)) (h3 : p1 = (-1)) (h4 : ¬ z74 = 0) (h5 : 0 ≤ f_q ∧ f_q ≤ 20) (h6 : (-1) ≤ p1 ∧ p1 ≤ (-1)) (h7 : 1 ≤ z74 ∧ z74 ≤ 1) : 0 ≤ p1 → p1 ≤ 9 → f_q < 20 → (0 : Int) = f_q + 1 ∧ (0 : Int) = f_q + 1 := by omega
theorem vc_X12_walk_w_24 {p1 z74 : Int} (h0 : z74 = 0) (h1 : (z74 = 1 → ((-1) : Int) ≤ p1 ∧ p1 ≤ (9 : Int))) (h2 : (z74 = 0 → p1 < ((-1) : Int) ∨ (9 : Int) < p1)) (h3 : (-2147483648) ≤ p1 ∧ p1 ≤ 2147483647) (h4 : 0 ≤ z74 ∧ z74 ≤ 1) : 0 ≤ z74 ∧ z74 ≤ 0 := by omega
theorem vc_X12_walk_w_25 {p1 z74 : Int} (h0 : (z74 = 1 → ((-1) : Int) ≤ p1 ∧ p1 ≤ (9 : Int))) (h1 : (z74 = 0 → p1 < ((-1) : Int) ∨ (9 : Int) < p1)) (h2 : z74 = 0) (h3 : (-2147483648) ≤ p1 ∧ p1 ≤ 2147483647) (h4 : 0 ≤ z74 ∧ z74 ≤ 0) : z74 = 0 := by omega
theorem vc_X12_walk_w_26 {f_q p1 z74 : Int} (h0 : (z74 = 1 → ((-1) : Int) ≤ p1 ∧ p1 ≤ (9 : Int))) (h1 : (z74 = 0 → p1 < ((-1) : Int) ∨ (9 : Int) < p1)) (h2 : p1 < ((-1) : Int) ∨ (9 : Int) < p1) (h3 : z74 = 0) (h4 : 0 ≤ f_q ∧ f_q ≤ 20) (h5 : (-2147483648) ≤ p1 ∧ p1 ≤ 2147483647) (h6 : 0 ≤ z74 ∧ z74 ≤ 0) : p1 < -1 ∨ 9 < p1 → (-1 : Int) = -1 ∧ f_q = f_q := by omega
theorem vc_X12_walk_w_27 {f_q p1 z74 : Int} (h0 : (z74 = 1 → ((-1) : Int) ≤ p1 ∧ p1 ≤ (9 : Int))) (h1 : (z74 = 0 → p1 < ((-1) : Int) ∨ (9 : Int) < p1)) (h2 : p1 < ((-1) : Int) ∨ (9 : Int) < p1) (h3 : z74 = 0) (h4 : 0 ≤ f_q ∧ f_q ≤ 20) (h5 : (-2147483648) ≤ p1 ∧ p1 ≤ 2147483647) (h6 : 0 ≤ z74 ∧ z74 ≤ 0) : p1 = -1 → (-1 : Int) = 0 ∧ f_q = 0 := by omega
theorem vc_X12_walk_w_28 {f_q p1 z74 : Int} (h0 : (z74 = 1 → ((-1) : Int) ≤ p1 ∧ p1 ≤ (9 : Int))) (h1 : (z74 = 0 → p1 < ((-1) : Int) ∨ (9 : Int) < p1)) (h2 : p1 < ((-1) : Int) ∨ (9 : Int) < p1) (h3 : z74 = 0) (h4 : 0 ≤ f_q ∧ f_q ≤ 20) (h5 : (-2147483648) ≤ p1 ∧ p1 ≤ 2147483647) (h6 : 0 ≤ z74 ∧ z74 ≤ 0) : 0 ≤ p1 → p1 ≤ 9 → f_q = 20 → (-1 : Int) = -3 ∧ f_q = f_q := by omega
theorem vc_X12_walk_w_29 {f_q p1 z74 : Int} (h0 : (z74 = 1 → ((-1) : Int) ≤ p1 ∧ p1 ≤ (9 : Int))) (h1 : (z74 = 0 → p1 < ((-1) : Int) ∨ (9 : Int) < p1)) (h2 : p1 < ((-1) : Int) ∨ (9 : Int) < p1) (h3 : z74 = 0) (h4 : 0 ≤ f_q ∧ f_q ≤ 20) (h5 : (-2147483648) ≤ p1 ∧ p1 ≤ 2147483647) (h6 : 0 ≤ z74 ∧ z74 ≤ 0) : 0 ≤ p1 → p1 ≤ 9 → f_q < 20 → (-1 : Int) = f_q + 1 ∧ f_q = f_q + 1 := by omega
set_option maxRecDepth 4000 in
set_option maxHeartbeats 4000000 in
theorem c_X12_walk_w {l : Launch} {D : va_G} {c : Nat → ClassId} {H0 : Heap} {sa : Nat × Nat × (Nat → Int32)} {w : mW} {μ : mM} (hw : mWF w) (hT : mT w μ) {p1 : Int} (hp1 : (-2147483648) ≤ p1 ∧ p1 ≤ 2147483647) {f_q : Int} (q_f_q : μ 106 15 = f_q) : sC (gG l D c H0 sa) mX12_walk 2 0 0 [.ref 106, iv p1] (mk w μ) (qI w [106015, 118999] μ (fun z μ1 => ∃ o_q : Int, μ1 106 15 = o_q ∧ ((-2147483648) ≤ z ∧ z ≤ 2147483647) ∧ (p1 < -1 ∨ 9 < p1 → z = -1 ∧ o_q = f_q) ∧ (p1 = -1 → z = 0 ∧ o_q = 0) ∧ (0 ≤ p1 → p1 ≤ 9 → f_q = 20 → z = -3 ∧ o_q = f_q) ∧ (0 ≤ p1 → p1 ≤ 9 → f_q < 20 → z = f_q + 1 ∧ o_q = f_q + 1) ∧ (wkT μ μ1 118 f_q o_q p1) ∧ True)) := by
  refine sC.of rfl (by decide) (le_t rfl) ?_
  have ht_f_q : (0 ≤ f_q ∧ f_q ≤ 20) := by rw [← q_f_q]; exact hT 106 106 (A_106 hw) 15
  refine mr_lvE (lv' := [(0, .ref 106), (1, iv p1)]) rfl ?_
  refine mr_iload_n (pc := 0) (z := p1) dX12_walk_0 rfl rfl ?_
  refine mr_iconst (pc := 1) (z := (-1)) dX12_walk_1 ?_
  refine mr_bipush (pc := 2) (z := 9) dX12_walk_2 (by decide) ?_
  refine mr_cSP (pc := 4) (c_X12_in hw hT hp1 (rW (c := (-2147483648)) (d := 2147483647) (rR (x := (-1))) rfl) (rW (c := (-2147483648)) (d := 2147483647) (rR (x := 9)) rfl)) (gOk _ _ _ _ _) dX12_walk_4 (tX12_in _ _ _ _ _) wS_X12_in wM_X12_18 ⟨le_t rfl, le_t rfl⟩ ⟨le_t rfl, le_t rfl⟩ rfl (le_t rfl) fun z74 h73 => ?_
  refine mr_if_ne (pc := 7) (tgt := 12) dX12_walk_7 (by decide) (r32 h73.1 rfl) (fun h75 => ?_) (fun h75 => ?_)
  · have h76 : 1 ≤ z74 ∧ z74 ≤ 1 := (vc_X12_walk_w_1 h75 h73.2.1 h73.2.2.1 hp1 h73.1)
    have h77 : ((-1) : Int) ≤ p1 ∧ p1 ≤ (9 : Int) := (h73.2.1 (vc_X12_walk_w_2 h73.2.1 h73.2.2.1 h75 hp1 h76))
    have h78 : (-1) ≤ p1 ∧ p1 ≤ 9 := (vc_X12_walk_w_3 h77 h73.2.1 h73.2.2.1 hp1 h76)
    refine mr_iload_n (pc := 12) (z := p1) dX12_walk_12 rfl rfl ?_
    refine mr_iconst (pc := 13) (z := (-1)) dX12_walk_13 ?_
    refine mr_icmp_ne (pc := 14) (tgt := 24) dX12_walk_14 (by decide) (r32 h78 rfl) (r32 (rR (x := (-1))) rfl) (fun h79 => ?_) (fun h79 => ?_)
    · have h80 : 0 ≤ p1 ∧ p1 ≤ 9 := (vc_X12_walk_w_4 h79 h73.2.1 h73.2.2.1 h77 h78 h76)
      refine sv_aload_n (pc := 24) dX12_walk_24 rfl rfl ?_
      refine gk_X12_15 (pc := 25) dX12_walk_25 wF_X12_79 (A_106 hw) q_f_q ?_
      refine mr_bipush (pc := 28) (z := 20) dX12_walk_28 (by decide) ?_
      refine mr_icmp_ne (pc := 30) (tgt := 36) dX12_walk_30 (by decide) (r32 ht_f_q rfl) (r32 (rR (x := 20)) rfl) (fun h81 => ?_) (fun h81 => ?_)
      · have h82 : 0 ≤ f_q ∧ f_q ≤ 19 := (vc_X12_front_2 h81 ht_f_q)
        refine sv_aload_n (pc := 36) dX12_walk_36 rfl rfl ?_
        refine gf_X12_16 (pc := 37) dX12_walk_37 wF_X12_82 (A_106 hw) hT ?_
        refine sv_aload_n (pc := 40) dX12_walk_40 rfl rfl ?_
        refine gk_X12_15 (pc := 41) dX12_walk_41 wF_X12_79 (A_106 hw) q_f_q ?_
        refine mr_iload_n (pc := 44) (z := p1) dX12_walk_44 rfl rfl ?_
        refine ss_118 (pc := 45) dX12_walk_45 (A_118 hw) hT (rIx (n := 20) h82 rfl) h80 fun μ83 u84 T85 => ?_
        refine sv_aload_n (pc := 46) dX12_walk_46 rfl rfl ?_
        refine sv_dup (pc := 47) dX12_walk_47 rfl ?_
        refine gk_X12_15 (pc := 48) dX12_walk_48 wF_X12_79 (A_106 hw) (u84.f (Or.inl (mAt.ne (A_118 hw) (A_106 hw) rfl)) q_f_q) ?_
        refine mr_iconst (pc := 51) (z := 1) dX12_walk_51 ?_
        refine mr_iadd (pc := 52) (x := f_q) (y := 1) dX12_walk_52 ?_
        refine pf_X12_15 (pc := 53) dX12_walk_53 wF_X12_79 (A_106 hw) T85 (rW (c := 0) (d := 20) (rAdd (e := 1) (f := 20) h82 (rR (x := 1)) rfl) rfl) fun μ86 u87 T88 => ?_
        refine sv_aload_n (pc := 56) dX12_walk_56 rfl rfl ?_
        refine gk_X12_15 (pc := 57) dX12_walk_57 wF_X12_79 (A_106 hw) u87.1 ?_
        exact mr_iret dX12_walk_60 rfl (le_t rfl) (le_t rfl) T88 (mF.up (mF.up mF.refl (A_118 hw) u84 rfl) (A_106 hw) u87 rfl) ⟨(f_q + 1), u87.1, (rW (c := (-2147483648)) (d := 2147483647) (rAdd (e := 1) (f := 20) h82 (rR (x := 1)) rfl) rfl), (vc_X12_walk_w_6 h73.2.1 h73.2.2.1 h77 h79 h81 h75 h82 h80 h76), (vc_X12_walk_w_7 h73.2.1 h73.2.2.1 h77 h79 h81 h75 h82 h80 h76), (vc_X12_walk_w_8 h73.2.1 h73.2.2.1 h77 h79 h81 h75 h82 h80 h76), (vc_X12_walk_w_9 h73.2.1 h73.2.2.1 h77 h79 h81 h75 h82 h80 h76), ⟨(tabS.oth (tabS.up tabS.refl u84 (vc_X12_walk_w_10 h81 h82)) u87 rfl), fun _ => (u87.f (Or.inl (mAt.ne (A_106 hw) (A_118 hw) rfl)) u84.1).trans (vc_X12_walk_w_11 h73.2.1 h73.2.2.1 h77 h79 h75 h80 h76)⟩, trivial⟩
      have h89 : 20 ≤ f_q ∧ f_q ≤ 20 := (vc_X12_front_21 h81 ht_f_q)
      refine mr_bipush (pc := 33) (z := (-3)) dX12_walk_33 (by decide) ?_
      exact mr_iret dX12_walk_35 rfl (le_t rfl) (le_t rfl) hT mF.refl ⟨f_q, q_f_q, (rW (c := (-2147483648)) (d := 2147483647) (rR (x := (-3))) rfl), (vc_X12_walk_w_13 h73.2.1 h73.2.2.1 h77 h79 h81 h75 h89 h80 h76), (vc_X12_walk_w_14 h73.2.1 h73.2.2.1 h77 h79 h81 h75 h89 h80 h76), (vc_X12_walk_w_15 h73.2.1 h73.2.2.1 h77 h79 h81 h75 h89 h80 h76), (vc_X12_walk_w_16 h73.2.1 h73.2.2.1 h77 h79 h81 h75 h89 h80 h76), ⟨tabS.refl, fun h => absurd h (vc_X12_walk_w_17 h81 h89)⟩, trivial⟩
    have h90 : (-1) ≤ p1 ∧ p1 ≤ (-1) := (vc_X12_walk_w_18 h79 h73.2.1 h73.2.2.1 h77 h78 h76)
    refine sv_aload_n (pc := 17) dX12_walk_17 rfl rfl ?_
    refine mr_iconst (pc := 18) (z := 0) dX12_walk_18 ?_
    refine pf_X12_15 (pc := 19) dX12_walk_19 wF_X12_79 (A_106 hw) hT (rW (c := 0) (d := 20) (rR (x := 0)) rfl) fun μ91 u92 T93 => ?_
    refine mr_iconst (pc := 22) (z := 0) dX12_walk_22 ?_
    exact mr_iret dX12_walk_23 rfl (le_t rfl) (le_t rfl) T93 (mF.up mF.refl (A_106 hw) u92 rfl) ⟨0, u92.1, (rW (c := (-2147483648)) (d := 2147483647) (rR (x := 0)) rfl), (vc_X12_walk_w_19 h73.2.1 h73.2.2.1 h77 h79 h75 ht_f_q h90 h76), (vc_X12_walk_w_20 h73.2.1 h73.2.2.1 h77 h79 h75 h90 h76), (vc_X12_walk_w_21 h73.2.1 h73.2.2.1 h77 h79 h75 ht_f_q h90 h76), (vc_X12_walk_w_22 h73.2.1 h73.2.2.1 h77 h79 h75 ht_f_q h90 h76), ⟨(tabS.oth tabS.refl u92 rfl), fun h => absurd h (vc_X11_walk_w_28 ht_f_q)⟩, trivial⟩
  have h94 : 0 ≤ z74 ∧ z74 ≤ 0 := (vc_X12_walk_w_24 h75 h73.2.1 h73.2.2.1 hp1 h73.1)
  have h95 : p1 < ((-1) : Int) ∨ (9 : Int) < p1 := (h73.2.2.1 (vc_X12_walk_w_25 h73.2.1 h73.2.2.1 h75 hp1 h94))
  refine mr_iconst (pc := 10) (z := (-1)) dX12_walk_10 ?_
  exact mr_iret dX12_walk_11 rfl (le_t rfl) (le_t rfl) hT mF.refl ⟨f_q, q_f_q, (rW (c := (-2147483648)) (d := 2147483647) (rR (x := (-1))) rfl), (vc_X12_walk_w_26 h73.2.1 h73.2.2.1 h95 h75 ht_f_q hp1 h94), (vc_X12_walk_w_27 h73.2.1 h73.2.2.1 h95 h75 ht_f_q hp1 h94), (vc_X12_walk_w_28 h73.2.1 h73.2.2.1 h95 h75 ht_f_q hp1 h94), (vc_X12_walk_w_29 h73.2.1 h73.2.2.1 h95 h75 ht_f_q hp1 h94), ⟨tabS.refl, fun h => absurd h (vc_X11_walk_w_6 ht_f_q)⟩, trivial⟩
theorem vc_X4_isWish_v_1 {p2 : Int} (h0 : p2 < 2) (h1 : 0 ≤ p2 ∧ p2 ≤ 20) : 0 ≤ p2 ∧ p2 ≤ 1 := by omega
theorem vc_X4_isWish_v_2 {p2 : Int} (h0 : p2 < 2) (h1 : 0 ≤ p2 ∧ p2 ≤ 1) : (0 : Int) = 1 → 2 ≤ p2 ∧ p2 ≤ 7 := by omega
theorem vc_X4_isWish_v_3 {p2 : Int} (h0 : p2 < 2) (h1 : 0 ≤ p2 ∧ p2 ≤ 1) : p2 < 2 ∨ 7 < p2 := by omega
theorem vc_X4_isWish_v_4 {p2 : Int} (h0 : 2 ≤ p2) (h1 : 0 ≤ p2 ∧ p2 ≤ 20) : 2 ≤ p2 ∧ p2 ≤ 20 := by omega
theorem vc_X4_isWish_v_5 {p2 : Int} (h0 : 7 < p2) (h1 : 2 ≤ p2) (h2 : 2 ≤ p2 ∧ p2 ≤ 20) : 8 ≤ p2 ∧ p2 ≤ 20 := by omega
theorem vc_X4_isWish_v_6 {p2 : Int} (h0 : 2 ≤ p2) (h1 : 7 < p2) (h2 : 8 ≤ p2 ∧ p2 ≤ 20) : (0 : Int) = 1 → 2 ≤ p2 ∧ p2 ≤ 7 := by omega
theorem vc_X4_isWish_v_7 {p2 : Int} (h0 : 2 ≤ p2) (h1 : 7 < p2) (h2 : 8 ≤ p2 ∧ p2 ≤ 20) : p2 < 2 ∨ 7 < p2 := by omega
theorem vc_X4_isWish_v_8 {p2 : Int} (h0 : p2 ≤ 7) (h1 : 2 ≤ p2) (h2 : 2 ≤ p2 ∧ p2 ≤ 20) : 2 ≤ p2 ∧ p2 ≤ 7 := by omega
theorem vc_X4_isWish_v_9 {z7 : Int} (h0 : z7 = 0) (h1 : 0 ≤ z7 ∧ z7 ≤ 9) : 0 ≤ z7 ∧ z7 ≤ 0 := by omega
theorem vc_X4_isWish_v_10 {p2 z176 : Int} (h0 : (8 - z176) < ((0 : Nat) : Int)) (h1 : z176 ≤ p2) (h2 : 2 ≤ p2) (h3 : p2 ≤ 7) (h4 : 2 ≤ p2 ∧ p2 ≤ 7) (h5 : 0 ≤ z176 ∧ z176 ≤ 7) : False := by omega
theorem vc_X4_isWish_v_11 {p2 z176 : Int} (h0 : p2 ≤ z176) (h1 : 2 ≤ p2) (h2 : p2 ≤ 7) (h3 : z176 ≤ p2) (h4 : 2 ≤ p2 ∧ p2 ≤ 7) (h5 : 0 ≤ z176 ∧ z176 ≤ 7) : 2 ≤ z176 ∧ z176 ≤ 7 := by omega
theorem vc_X4_isWish_v_12 {p2 z176 : Int} (h0 : 2 ≤ p2) (h1 : p2 ≤ 7) (h2 : z176 ≤ p2) (h3 : p2 ≤ z176) (h4 : 2 ≤ p2 ∧ p2 ≤ 7) (h5 : 2 ≤ z176 ∧ z176 ≤ 7) : (1 : Int) = 1 → 2 ≤ p2 ∧ p2 ≤ 7 := by omega
theorem vc_X4_isWish_v_13 {p2 z176 : Int} (h0 : 2 ≤ p2) (h1 : p2 ≤ 7) (h2 : z176 ≤ p2) (h3 : p2 ≤ z176) (h4 : 2 ≤ p2 ∧ p2 ≤ 7) (h5 : 2 ≤ z176 ∧ z176 ≤ 7) : z176 = p2 := by omega
theorem vc_X4_isWish_v_14 {p2 z176 : Int} (h0 : 2 ≤ p2) (h1 : p2 ≤ 7) (h2 : z176 ≤ p2) (h3 : p2 ≤ z176) (h4 : 2 ≤ p2 ∧ p2 ≤ 7) (h5 : 2 ≤ z176 ∧ z176 ≤ 7) : p2 ≤ z176 := by omega
theorem vc_X4_isWish_v_15 {p2 z176 : Int} (h0 : 2 ≤ p2) (h1 : p2 ≤ 7) (h2 : z176 ≤ p2) (h3 : p2 ≤ z176) (h4 : 2 ≤ p2 ∧ p2 ≤ 7) (h5 : 2 ≤ z176 ∧ z176 ≤ 7) : 2 ≤ p2 ∧ p2 ≤ 7 := by omega
theorem vc_X4_isWish_v_17 {p2 z176 : Int} (h0 : z176 < p2) (h1 : 2 ≤ p2) (h2 : p2 ≤ 7) (h3 : z176 ≤ p2) (h4 : 2 ≤ p2 ∧ p2 ≤ 7) (h5 : 0 ≤ z176 ∧ z176 ≤ 7) : 0 ≤ z176 ∧ z176 ≤ 6 := by omega
theorem vc_X4_isWish_v_18 {z192 : Int} (h0 : 7 ≤ z192) (h1 : 0 ≤ z192 ∧ z192 ≤ 9) : 7 ≤ z192 ∧ z192 ≤ 9 := by omega
theorem vc_X4_isWish_v_19 {p2 z176 : Int} (h0 : 2 ≤ p2) (h1 : p2 ≤ 7) (h2 : z176 ≤ p2) (h3 : z176 < p2) (h4 : 2 ≤ p2 ∧ p2 ≤ 7) (h5 : 0 ≤ z176 ∧ z176 ≤ 6) : (0 : Int) = 1 → 2 ≤ p2 ∧ p2 ≤ 7 := by omega
theorem vc_X4_isWish_v_20 {p2 z176 : Int} (h0 : 2 ≤ p2) (h1 : p2 ≤ 7) (h2 : z176 ≤ p2) (h3 : z176 < p2) (h4 : 2 ≤ p2 ∧ p2 ≤ 7) (h5 : 0 ≤ z176 ∧ z176 ≤ 6) : 0 ≤ z176 ∧ z176 < p2 := by omega
theorem vc_X4_isWish_v_21 {z192 : Int} (h0 : 7 ≤ z192) (h1 : 7 ≤ z192 ∧ z192 ≤ 9) : 7 ≤ z192 := by omega
theorem vc_X4_isWish_v_22 {z192 : Int} (h0 : z192 < 7) (h1 : 0 ≤ z192 ∧ z192 ≤ 9) : 0 ≤ z192 ∧ z192 ≤ 6 := by omega
theorem vc_X4_isWish_v_24 {p2 z176 : Int} (h0 : 2 ≤ p2) (h1 : p2 ≤ 7) (h2 : z176 ≤ p2) (h3 : z176 < p2) (h4 : 2 ≤ p2 ∧ p2 ≤ 7) (h5 : 0 ≤ z176 ∧ z176 ≤ 6) : (z176 + 1) ≤ p2 := by omega
theorem vc_X4_isWish_v_25 {N p2 z176 : Int} (h0 : (8 - z176) < N + 1) (h1 : z176 ≤ p2) (h2 : z176 < p2) (h3 : 2 ≤ p2) (h4 : p2 ≤ 7) (h5 : 2 ≤ p2 ∧ p2 ≤ 7) (h6 : 0 ≤ z176 ∧ z176 ≤ 6) : (8 - (z176 + 1)) < N := by omega
theorem vc_X4_isWish_v_26 {z192 : Int} (h0 : z192 < 7) (h1 : 0 ≤ z192 ∧ z192 ≤ 6) : z192 ≤ 6 := by omega
theorem vc_X4_isWish_v_27 {p2 z176 : Int} (h0 : z176 ≤ p2) (h1 : z176 < p2) (h2 : 2 ≤ p2) (h3 : p2 ≤ 7) (h4 : 2 ≤ p2 ∧ p2 ≤ 7) (h5 : 0 ≤ z176 ∧ z176 ≤ 6) : 0 ≤ z176 := by omega
theorem vc_X4_isWish_v_28 {z192 : Int} (h0 : z192 < 7) (h1 : 0 ≤ z192 ∧ z192 ≤ 6) : 0 ≤ z192 ∧ z192 ≤ 6 := by omega
theorem vc_X4_isWish_v_32 {p2 : Int} (h0 : 2 ≤ p2) (h1 : p2 ≤ 7) (h2 : 2 ≤ p2 ∧ p2 ≤ 7) : (0 : Int) ≤ p2 := by omega
theorem vc_X4_isWish_v_34 {z7 : Int} (h0 : ¬ z7 = 0) (h1 : 0 ≤ z7 ∧ z7 ≤ 9) : 1 ≤ z7 ∧ z7 ≤ 9 := by omega
theorem vc_X4_isWish_v_35 {p2 : Int} (h0 : 2 ≤ p2) (h1 : p2 ≤ 7) (h2 : 2 ≤ p2 ∧ p2 ≤ 7) : (0 : Int) = 1 → 2 ≤ p2 ∧ p2 ≤ 7 := by omega
theorem vc_X4_isWish_v_36 {z7 : Int} (h0 : ¬ z7 = 0) (h1 : 1 ≤ z7 ∧ z7 ≤ 9) : ¬ z7 = 0 := by omega
set_option maxRecDepth 4000 in
set_option maxHeartbeats 4000000 in
theorem c_X4_isWish_v {l : Launch} {D : va_G} {c : Nat → ClassId} {H0 : Heap} {sa : Nat × Nat × (Nat → Int32)} {w : mW} {μ : mM} (hw : mWF w) (hT : mT w μ) (hA1 : mAt w 2 2) {p2 : Int} (hp2 : 0 ≤ p2 ∧ p2 ≤ 20) : sC (gG l D c H0 sa) mX4_isWish 1 0 0 [.ref 2, iv p2] (mk w μ) (qP w μ (fun z => (0 ≤ z ∧ z ≤ 1) ∧ (z = 1 → 2 ≤ p2 ∧ p2 ≤ 7) ∧ (z = 1 → allLe μ 2 p2 6) ∧ (z = 1 → wiP μ 2 p2) ∧ (z = 0 → ¬ wiP μ 2 p2) ∧ True)) := by
  refine sC.of rfl (by decide) (le_t rfl) ?_
  refine mr_lvE (lv' := [(0, .ref 2), (1, iv p2)]) rfl ?_
  refine mr_iload_n (pc := 0) (z := p2) dX4_isWish_0 rfl rfl ?_
  refine mr_iconst (pc := 1) (z := 2) dX4_isWish_1 ?_
  refine mr_icmp_lt (pc := 2) (tgt := 19) dX4_isWish_2 (by decide) (r32 hp2 rfl) (r32 (rR (x := 2)) rfl) (fun h1 => ?_) (fun h1 => ?_)
  · have h2 : 0 ≤ p2 ∧ p2 ≤ 1 := (vc_X4_isWish_v_1 h1 hp2)
    refine mr_iconst (pc := 19) (z := 0) dX4_isWish_19 ?_
    exact mr_zretP dX4_isWish_20 rfl (rW (c := 0) (d := 1) (rR (x := 0)) rfl) (le_t rfl) (le_t rfl) ⟨(rW (c := 0) (d := 1) (rR (x := 0)) rfl), (vc_X4_isWish_v_2 h1 h2), (fun h => absurd h (by decide)), (fun h => absurd h (by decide)), (fun _ => wiP.len (vc_X4_isWish_v_3 h1 h2)), trivial⟩
  have h3 : 2 ≤ p2 ∧ p2 ≤ 20 := (vc_X4_isWish_v_4 h1 hp2)
  refine mr_iload_n (pc := 5) (z := p2) dX4_isWish_5 rfl rfl ?_
  refine mr_bipush (pc := 6) (z := 7) dX4_isWish_6 (by decide) ?_
  refine mr_icmp_gt (pc := 8) (tgt := 19) dX4_isWish_8 (by decide) (r32 h3 rfl) (r32 (rR (x := 7)) rfl) (fun h4 => ?_) (fun h4 => ?_)
  · have h5 : 8 ≤ p2 ∧ p2 ≤ 20 := (vc_X4_isWish_v_5 h4 h1 h3)
    refine mr_iconst (pc := 19) (z := 0) dX4_isWish_19 ?_
    exact mr_zretP dX4_isWish_20 rfl (rW (c := 0) (d := 1) (rR (x := 0)) rfl) (le_t rfl) (le_t rfl) ⟨(rW (c := 0) (d := 1) (rR (x := 0)) rfl), (vc_X4_isWish_v_6 h1 h4 h5), (fun h => absurd h (by decide)), (fun h => absurd h (by decide)), (fun _ => wiP.len (vc_X4_isWish_v_7 h1 h4 h5)), trivial⟩
  have h6 : 2 ≤ p2 ∧ p2 ≤ 7 := (vc_X4_isWish_v_8 h4 h1 h3)
  refine sv_aload_n (pc := 11) dX4_isWish_11 rfl rfl ?_
  refine mr_iload_n (pc := 12) (z := p2) dX4_isWish_12 rfl rfl ?_
  refine mr_iconst (pc := 13) (z := 1) dX4_isWish_13 ?_
  refine mr_isub (pc := 14) (x := p2) (y := 1) dX4_isWish_14 ?_
  refine la_2 (pc := 15) dX4_isWish_15 (A_2 hw) hT (rIx (n := 20) (rSub (e := 1) (f := 6) h6 (rR (x := 1)) rfl) rfl) fun z7 q8 h9 => ?_
  refine mr_if_eq (pc := 16) (tgt := 21) dX4_isWish_16 (by decide) (r32 h9 rfl) (fun h10 => ?_) (fun h10 => ?_)
  · have h11 : 0 ≤ z7 ∧ z7 ≤ 0 := (vc_X4_isWish_v_9 h10 h9)
    refine mr_iconst (pc := 21) (z := 0) dX4_isWish_21 ?_
    refine mr_istore_n (pc := 22) (lv' := [(2, iv 0), (0, .ref 2), (1, iv p2)]) dX4_isWish_22 rfl (by decide) rfl ?_
    refine mr_iconst (pc := 23) (z := 0) dX4_isWish_23 ?_
    refine mr_istore_n (pc := 24) (lv' := [(3, iv 0), (2, iv 0), (0, .ref 2), (1, iv p2)]) dX4_isWish_24 rfl (by decide) rfl ?_
    have L178 : ∀ (nL178 : Nat) (z177 z176 : Int), True → ((-2147483648) ≤ z177 ∧ z177 ≤ 2147483647) → (0 ≤ z176 ∧ z176 ≤ 7) → (z176 ≤ p2) → allLe μ 2 z176 6 → imI μ z176 z177 → (8 - z176) < (nL178 : Int) → sV (gG l D c H0 sa) mX4_isWish (sRm 1 0 0) (sZ (gG l D c H0 sa) 0 0 (qP w μ (fun z => (0 ≤ z ∧ z ≤ 1) ∧ (z = 1 → 2 ≤ p2 ∧ p2 ≤ 7) ∧ (z = 1 → allLe μ 2 p2 6) ∧ (z = 1 → wiP μ 2 p2) ∧ (z = 0 → ¬ wiP μ 2 p2) ∧ True))) 25 [(0, .ref 2), (1, iv p2), (2, iv z177), (3, iv z176)] [] (mk w μ) 0 0 := by
      intro nL178
      induction nL178 with
      | zero => intro z177 z176 _ h179 h180 h184 R185 R186 h187; exact ((vc_X4_isWish_v_10 h187 h184 h1 h4 h6 h180)).elim
      | succ nL178 ih188 =>
        intro z177 z176 _ h179 h180 h184 R185 R186 h187
        refine mr_iload_n (pc := 25) (z := z176) dX4_isWish_25 rfl rfl ?_
        refine mr_iload_n (pc := 26) (z := p2) dX4_isWish_26 rfl rfl ?_
        refine mr_icmp_ge (pc := 27) (tgt := 64) dX4_isWish_27 (by decide) (r32 h180 rfl) (r32 h6 rfl) (fun h189 => ?_) (fun h189 => ?_)
        · have h190 : 2 ≤ z176 ∧ z176 ≤ 7 := (vc_X4_isWish_v_11 h189 h1 h4 h184 h6 h180)
          refine mr_iconst (pc := 64) (z := 1) dX4_isWish_64 ?_
          exact mr_zretP dX4_isWish_65 rfl (rW (c := 0) (d := 1) (rR (x := 1)) rfl) (le_t rfl) (le_t rfl) ⟨(rW (c := 0) (d := 1) (rR (x := 1)) rfl), (vc_X4_isWish_v_12 h1 h4 h184 h189 h6 h190), (fun _ => by have h := R185; rw [show z176 = p2 from (vc_X4_isWish_v_13 h1 h4 h184 h189 h6 h190)] at h; exact h), (fun _ => imI.yes R186 (vc_X4_isWish_v_14 h1 h4 h184 h189 h6 h190) (vc_X4_isWish_v_15 h1 h4 h184 h189 h6 h190) (p2 - 1) (q8.trans (vc_X12_goes_7 h10 h11)) rfl), (fun h => absurd h (by decide)), trivial⟩
        have h191 : 0 ≤ z176 ∧ z176 ≤ 6 := (vc_X4_isWish_v_17 h189 h1 h4 h184 h6 h180)
        refine sv_aload_n (pc := 30) dX4_isWish_30 rfl rfl ?_
        refine mr_iload_n (pc := 31) (z := z176) dX4_isWish_31 rfl rfl ?_
        refine la_2 (pc := 32) dX4_isWish_32 (A_2 hw) hT (rIx (n := 20) h191 rfl) fun z192 q193 h194 => ?_
        refine mr_bipush (pc := 33) (z := 7) dX4_isWish_33 (by decide) ?_
        refine mr_icmp_ge (pc := 35) (tgt := 48) dX4_isWish_35 (by decide) (r32 h194 rfl) (r32 (rR (x := 7)) rfl) (fun h195 => ?_) (fun h195 => ?_)
        · have h196 : 7 ≤ z192 ∧ z192 ≤ 9 := (vc_X4_isWish_v_18 h195 h194)
          refine mr_iconst (pc := 48) (z := 0) dX4_isWish_48 ?_
          exact mr_zretP dX4_isWish_49 rfl (rW (c := 0) (d := 1) (rR (x := 0)) rfl) (le_t rfl) (le_t rfl) ⟨(rW (c := 0) (d := 1) (rR (x := 0)) rfl), (vc_X4_isWish_v_19 h1 h4 h184 h189 h6 h191), (fun h => absurd h (by decide)), (fun h => absurd h (by decide)), (fun _ => imI.big (vc_X4_isWish_v_20 h1 h4 h184 h189 h6 h191) q193 (vc_X4_isWish_v_21 h195 h196)), trivial⟩
        have h197 : 0 ≤ z192 ∧ z192 ≤ 6 := (vc_X4_isWish_v_22 h195 h194)
        refine mr_iload_n (pc := 38) (z := z177) dX4_isWish_38 rfl rfl ?_
        refine sv_aload_n (pc := 39) dX4_isWish_39 rfl rfl ?_
        refine mr_iload_n (pc := 40) (z := z176) dX4_isWish_40 rfl rfl ?_
        refine lk_2 (pc := 41) dX4_isWish_41 (A_2 hw) (rIx (n := 20) h191 rfl) q193 ?_
        refine mr_ishr (pc := 42) (x := z177) (y := z192) dX4_isWish_42 ?_
        refine mr_gen (P := fun z => (-2147483648) ≤ z ∧ z ≤ 2147483647) (r32i _) fun z198 q199 h200 => ?_
        refine mr_iconst (pc := 43) (z := 1) dX4_isWish_43 ?_
        refine mr_iand (pc := 44) (x := z198) (y := 1) dX4_isWish_44 ?_
        refine mr_gen (P := fun z => 0 ≤ z ∧ z ≤ 1) (rAndR (rR (x := 1)) rfl) fun z201 q202 h203 => ?_
        refine mr_if_eq (pc := 45) (tgt := 50) dX4_isWish_45 (by decide) (r32 h203 rfl) (fun h204 => ?_) (fun h204 => ?_)
        · have h205 : 0 ≤ z201 ∧ z201 ≤ 0 := (vc_X12_ring_22 h204 h203)
          refine mr_iload_n (pc := 50) (z := z177) dX4_isWish_50 rfl rfl ?_
          refine mr_iconst (pc := 51) (z := 1) dX4_isWish_51 ?_
          refine sv_aload_n (pc := 52) dX4_isWish_52 rfl rfl ?_
          refine mr_iload_n (pc := 53) (z := z176) dX4_isWish_53 rfl rfl ?_
          refine lk_2 (pc := 54) dX4_isWish_54 (A_2 hw) (rIx (n := 20) h191 rfl) q193 ?_
          refine mr_ishl (pc := 55) (x := 1) (y := z192) dX4_isWish_55 ?_
          refine mr_gen (P := fun z => (-2147483648) ≤ z ∧ z ≤ 2147483647) (r32i _) fun z206 q207 h208 => ?_
          refine mr_ior (pc := 56) (x := z177) (y := z206) dX4_isWish_56 ?_
          refine mr_gen (P := fun z => (-2147483648) ≤ z ∧ z ≤ 2147483647) (r32i _) fun z209 q210 h211 => ?_
          refine mr_istore_n (pc := 57) (lv' := [(2, iv z209), (0, .ref 2), (1, iv p2), (3, iv z176)]) dX4_isWish_57 rfl (by decide) rfl ?_
          refine mr_iinc (pc := 58) (lv' := [(3, iv (z176 + 1)), (2, iv z209), (0, .ref 2), (1, iv p2)]) dX4_isWish_58 rfl (by decide) rfl ?_
          refine sv_goto (pc := 61) (tgt := 25) dX4_isWish_61 (by decide) ?_
          refine mr_lvS (lv' := [(0, .ref 2), (1, iv p2), (2, iv z209), (3, iv (z176 + 1))]) (List.forall_mem_cons.mpr ⟨rfl, List.forall_mem_cons.mpr ⟨rfl, List.forall_mem_cons.mpr ⟨rfl, List.forall_mem_cons.mpr ⟨rfl, fun _ h => absurd h List.not_mem_nil⟩⟩⟩⟩) ?_
          exact ih188 z209 (z176 + 1) trivial h211 (rW (c := 0) (d := 7) (rAdd (e := 1) (f := 7) h191 (rR (x := 1)) rfl) rfl) (vc_X4_isWish_v_24 h1 h4 h184 h189 h6 h191) (allLe.succ R185 q193 (vc_X4_isWish_v_26 h195 h197)) (imI.next R186 (vc_X4_isWish_v_27 h184 h189 h1 h4 h6 h191) q193 (vc_X4_isWish_v_28 h195 h197) q199 q202 (vc_X12_goes_7 h204 h205) q207 q210) (vc_X4_isWish_v_25 (nS h187) h184 h189 h1 h4 h6 h191)
        have h212 : 1 ≤ z201 ∧ z201 ≤ 1 := (vc_X12_ring_24 h204 h203)
        refine mr_iconst (pc := 48) (z := 0) dX4_isWish_48 ?_
        exact mr_zretP dX4_isWish_49 rfl (rW (c := 0) (d := 1) (rR (x := 0)) rfl) (le_t rfl) (le_t rfl) ⟨(rW (c := 0) (d := 1) (rR (x := 0)) rfl), (vc_X4_isWish_v_19 h1 h4 h184 h189 h6 h191), (fun h => absurd h (by decide)), (fun h => absurd h (by decide)), (fun _ => imI.twice R186 (vc_X4_isWish_v_20 h1 h4 h184 h189 h6 h191) q193 (vc_X4_isWish_v_28 h195 h197) q199 q202 (vc_X12_raise_u_7 h204 h212)), trivial⟩
    refine mr_lvS (lv' := [(0, .ref 2), (1, iv p2), (2, iv 0), (3, iv 0)]) (List.forall_mem_cons.mpr ⟨rfl, List.forall_mem_cons.mpr ⟨rfl, List.forall_mem_cons.mpr ⟨rfl, List.forall_mem_cons.mpr ⟨rfl, fun _ h => absurd h List.not_mem_nil⟩⟩⟩⟩) ?_
    exact L178 9 0 0 trivial (rW (c := (-2147483648)) (d := 2147483647) (rR (x := 0)) rfl) (rW (c := 0) (d := 7) (rR (x := 0)) rfl) (vc_X4_isWish_v_32 h1 h4 h6) (allLe.zero (Int.le_refl 0)) imI.zero vc_X12_isOffered_10
  have h213 : 1 ≤ z7 ∧ z7 ≤ 9 := (vc_X4_isWish_v_34 h10 h9)
  refine mr_iconst (pc := 19) (z := 0) dX4_isWish_19 ?_
  exact mr_zretP dX4_isWish_20 rfl (rW (c := 0) (d := 1) (rR (x := 0)) rfl) (le_t rfl) (le_t rfl) ⟨(rW (c := 0) (d := 1) (rR (x := 0)) rfl), (vc_X4_isWish_v_35 h1 h4 h6), (fun h => absurd h (by decide)), (fun h => absurd h (by decide)), (fun _ => wiP.last q8 rfl (vc_X4_isWish_v_36 h10 h213)), trivial⟩
theorem vc_X4_find_v_1 {f_p : Int} (h0 : f_p ≤ 6) (h1 : 0 ≤ f_p ∧ f_p ≤ 9) : 0 ≤ f_p ∧ f_p ≤ 6 := by omega
theorem vc_X4_find_v_7 {p3 z1138 z1150 : Int} (h0 : p3 ≤ z1150) (h1 : ¬ z1138 = p3) (h2 : 0 ≤ p3 ∧ p3 ≤ 7) (h3 : 0 ≤ z1138 ∧ z1138 ≤ 7) (h4 : 0 ≤ z1150 ∧ z1150 ≤ 0) : 0 ≤ p3 ∧ p3 ≤ 0 := by omega
theorem vc_X4_find_v_11 {f_c f_p z1126 : Int} (h0 : f_p ≤ 6) (h1 : z1126 < f_c) (h2 : 1 ≤ f_c ∧ f_c ≤ 5) (h3 : 0 ≤ f_p ∧ f_p ≤ 6) (h4 : 0 ≤ z1126 ∧ z1126 ≤ 4) : ((f_p * 5) + z1126) = 5 * f_p + z1126 := by omega
theorem vc_X4_find_v_13 {p3 z1138 z1150 : Int} (h0 : z1150 < p3) (h1 : ¬ z1138 = p3) (h2 : 0 ≤ p3 ∧ p3 ≤ 7) (h3 : 0 ≤ z1138 ∧ z1138 ≤ 7) (h4 : 0 ≤ z1150 ∧ z1150 ≤ 0) : 1 ≤ p3 ∧ p3 ≤ 7 := by omega
theorem vc_X4_find_v_16 {p3 z1138 : Int} (h0 : ¬ z1138 = p3) (h1 : 0 ≤ p3 ∧ p3 ≤ 7) (h2 : 0 ≤ z1138 ∧ z1138 ≤ 7) : (z1138 = p3 ∧ (0 : Int) = 1) ∨ (¬ z1138 = p3 ∧ (0 : Int) = 0) := by omega
theorem vc_X4_find_v_21 {f_c z1126 : Int} (h0 : z1126 < f_c) (h1 : 1 ≤ f_c ∧ f_c ≤ 5) (h2 : 0 ≤ z1126 ∧ z1126 ≤ 4) : ¬ z1126 < 0 := by omega
theorem vc_X4_find_v_24 {p3 z1138 z1280 : Int} (h0 : z1138 = p3) (h1 : p3 ≤ z1280) (h2 : 0 ≤ p3 ∧ p3 ≤ 7) (h3 : 0 ≤ z1138 ∧ z1138 ≤ 7) (h4 : 0 ≤ z1280 ∧ z1280 ≤ 7) : p3 ≤ z1280 := by omega
theorem vc_X4_find_v_25 {p3 z1138 z1280 : Int} (h0 : z1280 < p3) (h1 : z1138 = p3) (h2 : 0 ≤ p3 ∧ p3 ≤ 7) (h3 : 0 ≤ z1138 ∧ z1138 ≤ 7) (h4 : 0 ≤ z1280 ∧ z1280 ≤ 7) : 0 ≤ z1280 ∧ z1280 ≤ 6 := by omega
theorem vc_X4_find_v_26 {p3 z1138 z1280 : Int} (h0 : z1280 < p3) (h1 : z1138 = p3) (h2 : 0 ≤ p3 ∧ p3 ≤ 7) (h3 : 0 ≤ z1138 ∧ z1138 ≤ 7) (h4 : 0 ≤ z1280 ∧ z1280 ≤ 6) : 1 ≤ p3 ∧ p3 ≤ 7 := by omega
theorem vc_X4_find_v_28 {N p3 z1138 z1280 : Int} (h0 : (8 - z1280) < N + 1) (h1 : z1280 < p3) (h2 : z1138 = p3) (h3 : 1 ≤ p3 ∧ p3 ≤ 7) (h4 : 0 ≤ z1138 ∧ z1138 ≤ 7) (h5 : 0 ≤ z1280 ∧ z1280 ≤ 6) : (8 - (z1280 + 1)) < N := by omega
theorem vc_X4_find_v_29 {p3 z1138 z1280 : Int} (h0 : z1138 = p3) (h1 : z1280 < p3) (h2 : 1 ≤ p3 ∧ p3 ≤ 7) (h3 : 0 ≤ z1138 ∧ z1138 ≤ 7) (h4 : 0 ≤ z1280 ∧ z1280 ≤ 6) : 0 ≤ z1280 ∧ z1280 < p3 := by omega
theorem vc_X4_find_v_30 {f_c f_p p3 z1126 z1138 z1280 : Int} (h0 : f_p ≤ 6) (h1 : z1126 < f_c) (h2 : z1280 < p3) (h3 : z1138 = p3) (h4 : 1 ≤ f_c ∧ f_c ≤ 5) (h5 : 0 ≤ f_p ∧ f_p ≤ 6) (h6 : 1 ≤ p3 ∧ p3 ≤ 7) (h7 : 0 ≤ z1126 ∧ z1126 ≤ 4) (h8 : 0 ≤ z1138 ∧ z1138 ≤ 7) (h9 : 0 ≤ z1280 ∧ z1280 ≤ 6) : 0 ≤ ((f_p * 5) + z1126) ∧ ((((f_p * 5) + z1126) * 7) + z1280) = ((7 : Nat) : Int) * (((f_p * 5) + z1126)) + z1280 := by omega
theorem vc_X4_find_v_31 {p2 p3 z1138 z1280 : Int} (h0 : z1280 < p3) (h1 : z1138 = p3) (h2 : 0 ≤ p2 ∧ p2 ≤ 0) (h3 : 1 ≤ p3 ∧ p3 ≤ 7) (h4 : 0 ≤ z1138 ∧ z1138 ≤ 7) (h5 : 0 ≤ z1280 ∧ z1280 ≤ 6) : (p2 + z1280) = z1280 := by omega
theorem vc_X4_find_v_32 {z1300 z1303 : Int} (h0 : ¬ z1300 = z1303) (h1 : 0 ≤ z1300 ∧ z1300 ≤ 6) (h2 : 0 ≤ z1303 ∧ z1303 ≤ 9) : (z1300 = z1303 ∧ (0 : Int) = 1) ∨ (¬ z1300 = z1303 ∧ (0 : Int) = 0) := by omega
theorem vc_X4_find_v_33 {z1300 z1303 : Int} (h0 : z1300 = z1303) (h1 : 0 ≤ z1300 ∧ z1300 ≤ 6) (h2 : 0 ≤ z1303 ∧ z1303 ≤ 9) : 0 ≤ z1303 ∧ z1303 ≤ 6 := by omega
theorem vc_X4_find_v_34 {z1300 z1303 : Int} (h0 : z1300 = z1303) (h1 : 0 ≤ z1300 ∧ z1300 ≤ 6) (h2 : 0 ≤ z1303 ∧ z1303 ≤ 6) : (z1300 = z1303 ∧ (1 : Int) = 1) ∨ (¬ z1300 = z1303 ∧ (1 : Int) = 0) := by omega
theorem vc_X4_find_v_36 {p3 z1138 : Int} (h0 : z1138 = p3) (h1 : 0 ≤ p3 ∧ p3 ≤ 7) (h2 : 0 ≤ z1138 ∧ z1138 ≤ 7) : (z1138 = p3 ∧ (1 : Int) = 1) ∨ (¬ z1138 = p3 ∧ (1 : Int) = 0) := by omega
set_option maxRecDepth 4000 in
set_option maxHeartbeats 4000000 in
theorem c_X4_find_v {l : Launch} {D : va_G} {c : Nat → ClassId} {H0 : Heap} {sa : Nat × Nat × (Nat → Int32)} {w : mW} {μ : mM} (hw : mWF w) (hT : mT w μ) (hA1 : mAt w 2 2) {p2 : Int} (hp2 : 0 ≤ p2 ∧ p2 ≤ 0) {p3 : Int} (hp3 : 0 ≤ p3 ∧ p3 ≤ 7) {f_p : Int} (q_f_p : μ 2 (p2.toNat) = f_p) {f_c : Int} (q_f_c : μ 95 (f_p.toNat) = f_c) (hq0 : f_p ≤ 6) : sC (gG l D c H0 sa) mX4_find 1 0 0 [.ref 94, .ref 2, iv p2, iv p3] (mk w μ) (qP w μ (fun z => ((-1) ≤ z ∧ z ≤ 4) ∧ (z < 0 → noW μ 97 96 7 2 f_p p3 f_c) ∧ (0 ≤ z → hasW μ 97 96 7 2 f_p p3 f_c) ∧ True)) := by
  refine sC.of rfl (by decide) (le_t rfl) ?_
  have ht_f_p : (0 ≤ f_p ∧ f_p ≤ 9) := by rw [← q_f_p]; exact hT 2 2 (A_2 hw) (p2.toNat)
  have ht_f_c : (0 ≤ f_c ∧ f_c ≤ 5) := by rw [← q_f_c]; exact hT 95 95 (A_95 hw) (f_p.toNat)
  have h1 : 0 ≤ f_p ∧ f_p ≤ 6 := (vc_X4_find_v_1 hq0 ht_f_p)
  refine mr_lvE (lv' := [(0, .ref 94), (1, .ref 2), (2, iv p2), (3, iv p3)]) rfl ?_
  refine sv_aload_n (pc := 0) dX4_find_0 rfl rfl ?_
  refine mr_iload_n (pc := 1) (z := p2) dX4_find_1 rfl rfl ?_
  refine lk_2 (pc := 2) dX4_find_2 (A_2 hw) (rIx (n := 20) hp2 rfl) q_f_p ?_
  refine mr_istore (pc := 3) (lv' := [(4, iv f_p), (0, .ref 94), (1, .ref 2), (2, iv p2), (3, iv p3)]) dX4_find_3 (by decide) rfl ?_
  refine mr_iconst (pc := 5) (z := 0) dX4_find_5 ?_
  refine mr_istore (pc := 6) (lv' := [(5, iv 0), (4, iv f_p), (0, .ref 94), (1, .ref 2), (2, iv p2), (3, iv p3)]) dX4_find_6 (by decide) rfl ?_
  have L1127 : ∀ (nL1127 : Nat) (z1126 : Int), True → (0 ≤ z1126 ∧ z1126 ≤ 5) → noW μ 97 96 7 2 f_p p3 z1126 → (6 - z1126) < (nL1127 : Int) → sV (gG l D c H0 sa) mX4_find (sRm 1 0 0) (sZ (gG l D c H0 sa) 0 0 (qP w μ (fun z => ((-1) ≤ z ∧ z ≤ 4) ∧ (z < 0 → noW μ 97 96 7 2 f_p p3 f_c) ∧ (0 ≤ z → hasW μ 97 96 7 2 f_p p3 f_c) ∧ True))) 8 [(0, .ref 94), (1, .ref 2), (2, iv p2), (3, iv p3), (4, iv f_p), (5, iv z1126)] [] (mk w μ) 0 0 := by
    intro nL1127
    induction nL1127 with
    | zero => intro z1126 _ h1128 R1132 h1133; exact ((vc_X12_acted_1 h1133 h1128)).elim
    | succ nL1127 ih1134 =>
      intro z1126 _ h1128 R1132 h1133
      refine mr_iload (pc := 8) (z := z1126) dX4_find_8 rfl ?_
      refine sv_aload_n (pc := 10) dX4_find_10 rfl rfl ?_
      refine gf_X4_12 (pc := 11) dX4_find_11 wF_X4_11 (A_94 hw) hT ?_
      refine mr_iload (pc := 14) (z := f_p) dX4_find_14 rfl ?_
      refine lk_95 (pc := 16) dX4_find_16 (A_95 hw) (rIx (n := 7) h1 rfl) q_f_c ?_
      refine mr_icmp_ge (pc := 17) (tgt := 110) dX4_find_17 (by decide) (r32 h1128 rfl) (r32 ht_f_c rfl) (fun h1135 => ?_) (fun h1135 => ?_)
      · refine mr_iconst (pc := 110) (z := (-1)) dX4_find_110 ?_
        exact mr_iretP dX4_find_111 rfl (le_t rfl) (le_t rfl) ⟨(rW (c := (-1)) (d := 4) (rR (x := (-1))) rfl), (fun _ => (R1132).le (vc_X12_acted_4 h1135 ht_f_c h1128)), (fun h => absurd h (by decide)), trivial⟩
      have h1136 : 0 ≤ z1126 ∧ z1126 ≤ 4 := (vc_X4_actOf_2 h1135 ht_f_c h1128)
      have h1137 : 1 ≤ f_c ∧ f_c ≤ 5 := (vc_X4_actOf_3 h1135 ht_f_c h1136)
      refine mr_iload (pc := 20) (z := f_p) dX4_find_20 rfl ?_
      refine mr_iconst (pc := 22) (z := 5) dX4_find_22 ?_
      refine mr_imul (pc := 23) (x := f_p) (y := 5) dX4_find_23 ?_
      refine mr_iload (pc := 24) (z := z1126) dX4_find_24 rfl ?_
      refine mr_iadd (pc := 26) (x := (f_p * 5)) (y := z1126) dX4_find_26 ?_
      refine mr_istore (pc := 27) (lv' := [(6, iv ((f_p * 5) + z1126)), (0, .ref 94), (1, .ref 2), (2, iv p2), (3, iv p3), (4, iv f_p), (5, iv z1126)]) dX4_find_27 (by decide) rfl ?_
      refine sv_aload_n (pc := 29) dX4_find_29 rfl rfl ?_
      refine gf_X4_1 (pc := 30) dX4_find_30 wF_X4_18 (A_94 hw) hT ?_
      refine mr_iload (pc := 33) (z := ((f_p * 5) + z1126)) dX4_find_33 rfl ?_
      refine la_97 (pc := 35) dX4_find_35 (A_97 hw) hT (rIx (n := 35) (rAdd (e := 0) (f := 34) (rMulR (n := 5) (e := 0) (f := 30) h1 rfl) h1136 rfl) rfl) fun z1138 q1139 h1140 => ?_
      refine mr_iload_n (pc := 36) (z := p3) dX4_find_36 rfl rfl ?_
      refine mr_icmp_ne (pc := 37) (tgt := 44) dX4_find_37 (by decide) (r32 h1140 rfl) (r32 hp3 rfl) (fun h1141 => ?_) (fun h1141 => ?_)
      · refine mr_iconst (pc := 44) (z := 0) dX4_find_44 ?_
        refine mr_istore (pc := 45) (lv' := [(7, iv 0), (6, iv ((f_p * 5) + z1126)), (0, .ref 94), (1, .ref 2), (2, iv p2), (3, iv p3), (4, iv f_p), (5, iv z1126)]) dX4_find_45 (by decide) rfl ?_
        refine mr_iconst (pc := 47) (z := 0) dX4_find_47 ?_
        refine mr_istore (pc := 48) (lv' := [(8, iv 0), (7, iv 0), (6, iv ((f_p * 5) + z1126)), (0, .ref 94), (1, .ref 2), (2, iv p2), (3, iv p3), (4, iv f_p), (5, iv z1126)]) dX4_find_48 (by decide) rfl ?_
        have L1152 : ∀ (nL1152 : Nat) (z1151 z1150 : Int), True → (0 ≤ z1151 ∧ z1151 ≤ 0) → (0 ≤ z1150 ∧ z1150 ≤ 0) → mtI μ 97 96 7 2 (((f_p * 5) + z1126)).toNat p3 z1150 z1151 → 1 < (nL1152 : Int) → sV (gG l D c H0 sa) mX4_find (sRm 1 0 0) (sZ (gG l D c H0 sa) 0 0 (qP w μ (fun z => ((-1) ≤ z ∧ z ≤ 4) ∧ (z < 0 → noW μ 97 96 7 2 f_p p3 f_c) ∧ (0 ≤ z → hasW μ 97 96 7 2 f_p p3 f_c) ∧ True))) 50 [(0, .ref 94), (1, .ref 2), (2, iv p2), (3, iv p3), (4, iv f_p), (5, iv z1126), (6, iv ((f_p * 5) + z1126)), (7, iv z1151), (8, iv z1150)] [] (mk w μ) 0 0 := by
          intro nL1152
          induction nL1152 with
          | zero => intro z1151 z1150 _ h1153 h1154 R1158 h1159; exact ((vc_X8_lastStanding_2 h1159)).elim
          | succ nL1152 ih1160 =>
            intro z1151 z1150 _ h1153 h1154 R1158 h1159
            refine mr_iload (pc := 50) (z := z1150) dX4_find_50 rfl ?_
            refine mr_iload_n (pc := 52) (z := p3) dX4_find_52 rfl rfl ?_
            refine mr_icmp_ge (pc := 53) (tgt := 96) dX4_find_53 (by decide) (r32 h1154 rfl) (r32 hp3 rfl) (fun h1161 => ?_) (fun h1161 => ?_)
            · have h1162 : 0 ≤ p3 ∧ p3 ≤ 0 := (vc_X4_find_v_7 h1161 h1141 hp3 h1140 h1154)
              refine mr_iload (pc := 96) (z := z1151) dX4_find_96 rfl ?_
              refine mr_if_eq (pc := 98) (tgt := 104) dX4_find_98 (by decide) (r32 h1153 rfl) (fun _ => ?_) (fun h => ((vc_X10_firstWrongStep_7 h h1153)).elim)
              refine mr_iinc (pc := 104) (lv' := [(5, iv (z1126 + 1)), (0, .ref 94), (1, .ref 2), (2, iv p2), (3, iv p3), (4, iv f_p), (6, iv ((f_p * 5) + z1126)), (7, iv z1151), (8, iv z1150)]) dX4_find_104 rfl (by decide) rfl ?_
              refine sv_goto (pc := 107) (tgt := 8) dX4_find_107 (by decide) ?_
              refine mr_lvS (lv' := [(0, .ref 94), (1, .ref 2), (2, iv p2), (3, iv p3), (4, iv f_p), (5, iv (z1126 + 1))]) (List.forall_mem_cons.mpr ⟨rfl, List.forall_mem_cons.mpr ⟨rfl, List.forall_mem_cons.mpr ⟨rfl, List.forall_mem_cons.mpr ⟨rfl, List.forall_mem_cons.mpr ⟨rfl, List.forall_mem_cons.mpr ⟨rfl, fun _ h => absurd h List.not_mem_nil⟩⟩⟩⟩⟩⟩) ?_
              exact ih1134 (z1126 + 1) trivial (rW (c := 0) (d := 5) (rAdd (e := 1) (f := 5) h1136 (rR (x := 1)) rfl) rfl) (noW.next R1132 (vc_X12_acted_w_15 h1135 h1137 h1136) (vc_X4_find_v_11 hq0 h1135 h1137 h1 h1136) ((R1158).2 (vc_X4_find_n_11 h1153))) (vc_X4_actOf_6 (nS h1133) h1135 h1137 h1136)
            have h1163 : 1 ≤ p3 ∧ p3 ≤ 7 := (vc_X4_find_v_13 h1161 h1141 hp3 h1140 h1154)
            refine mr_iload (pc := 56) (z := z1151) dX4_find_56 rfl ?_
            refine mr_if_eq (pc := 58) (tgt := 96) dX4_find_58 (by decide) (r32 h1153 rfl) (fun _ => ?_) (fun h => ((vc_X10_firstWrongStep_7 h h1153)).elim)
            refine mr_iload (pc := 96) (z := z1151) dX4_find_96 rfl ?_
            refine mr_if_eq (pc := 98) (tgt := 104) dX4_find_98 (by decide) (r32 h1153 rfl) (fun _ => ?_) (fun h => ((vc_X10_firstWrongStep_7 h h1153)).elim)
            refine mr_iinc (pc := 104) (lv' := [(5, iv (z1126 + 1)), (0, .ref 94), (1, .ref 2), (2, iv p2), (3, iv p3), (4, iv f_p), (6, iv ((f_p * 5) + z1126)), (7, iv z1151), (8, iv z1150)]) dX4_find_104 rfl (by decide) rfl ?_
            refine sv_goto (pc := 107) (tgt := 8) dX4_find_107 (by decide) ?_
            refine mr_lvS (lv' := [(0, .ref 94), (1, .ref 2), (2, iv p2), (3, iv p3), (4, iv f_p), (5, iv (z1126 + 1))]) (List.forall_mem_cons.mpr ⟨rfl, List.forall_mem_cons.mpr ⟨rfl, List.forall_mem_cons.mpr ⟨rfl, List.forall_mem_cons.mpr ⟨rfl, List.forall_mem_cons.mpr ⟨rfl, List.forall_mem_cons.mpr ⟨rfl, fun _ h => absurd h List.not_mem_nil⟩⟩⟩⟩⟩⟩) ?_
            exact ih1134 (z1126 + 1) trivial (rW (c := 0) (d := 5) (rAdd (e := 1) (f := 5) h1136 (rR (x := 1)) rfl) rfl) (noW.next R1132 (vc_X12_acted_w_15 h1135 h1137 h1136) (vc_X4_find_v_11 hq0 h1135 h1137 h1 h1136) ((R1158).2 (vc_X4_find_n_11 h1153))) (vc_X4_actOf_6 (nS h1133) h1135 h1137 h1136)
        refine mr_lvS (lv' := [(0, .ref 94), (1, .ref 2), (2, iv p2), (3, iv p3), (4, iv f_p), (5, iv z1126), (6, iv ((f_p * 5) + z1126)), (7, iv 0), (8, iv 0)]) (List.forall_mem_cons.mpr ⟨rfl, List.forall_mem_cons.mpr ⟨rfl, List.forall_mem_cons.mpr ⟨rfl, List.forall_mem_cons.mpr ⟨rfl, List.forall_mem_cons.mpr ⟨rfl, List.forall_mem_cons.mpr ⟨rfl, List.forall_mem_cons.mpr ⟨rfl, List.forall_mem_cons.mpr ⟨rfl, List.forall_mem_cons.mpr ⟨rfl, fun _ h => absurd h List.not_mem_nil⟩⟩⟩⟩⟩⟩⟩⟩⟩) ?_
        exact L1152 2 0 0 trivial (rR (x := 0)) (rR (x := 0)) (mtI.start q1139 vc_X12_isOffered_v_15 (vc_X4_find_v_16 h1141 hp3 h1140)) vc_X8_lastStanding_7
      refine mr_iconst (pc := 40) (z := 1) dX4_find_40 ?_
      refine sv_goto (pc := 41) (tgt := 45) dX4_find_41 (by decide) ?_
      refine mr_istore (pc := 45) (lv' := [(7, iv 1), (6, iv ((f_p * 5) + z1126)), (0, .ref 94), (1, .ref 2), (2, iv p2), (3, iv p3), (4, iv f_p), (5, iv z1126)]) dX4_find_45 (by decide) rfl ?_
      refine mr_iconst (pc := 47) (z := 0) dX4_find_47 ?_
      refine mr_istore (pc := 48) (lv' := [(8, iv 0), (7, iv 1), (6, iv ((f_p * 5) + z1126)), (0, .ref 94), (1, .ref 2), (2, iv p2), (3, iv p3), (4, iv f_p), (5, iv z1126)]) dX4_find_48 (by decide) rfl ?_
      have L1282 : ∀ (nL1282 : Nat) (z1281 z1280 : Int), True → (0 ≤ z1281 ∧ z1281 ≤ 1) → (0 ≤ z1280 ∧ z1280 ≤ 7) → mtI μ 97 96 7 2 (((f_p * 5) + z1126)).toNat p3 z1280 z1281 → (8 - z1280) < (nL1282 : Int) → sV (gG l D c H0 sa) mX4_find (sRm 1 0 0) (sZ (gG l D c H0 sa) 0 0 (qP w μ (fun z => ((-1) ≤ z ∧ z ≤ 4) ∧ (z < 0 → noW μ 97 96 7 2 f_p p3 f_c) ∧ (0 ≤ z → hasW μ 97 96 7 2 f_p p3 f_c) ∧ True))) 50 [(0, .ref 94), (1, .ref 2), (2, iv p2), (3, iv p3), (4, iv f_p), (5, iv z1126), (6, iv ((f_p * 5) + z1126)), (7, iv z1281), (8, iv z1280)] [] (mk w μ) 0 0 := by
        intro nL1282
        induction nL1282 with
        | zero => intro z1281 z1280 _ h1283 h1284 R1288 h1289; exact ((vc_X12_isOffered_3 h1289 h1284)).elim
        | succ nL1282 ih1290 =>
          intro z1281 z1280 _ h1283 h1284 R1288 h1289
          refine mr_iload (pc := 50) (z := z1280) dX4_find_50 rfl ?_
          refine mr_iload_n (pc := 52) (z := p3) dX4_find_52 rfl rfl ?_
          refine mr_icmp_ge (pc := 53) (tgt := 96) dX4_find_53 (by decide) (r32 h1284 rfl) (r32 hp3 rfl) (fun h1291 => ?_) (fun h1291 => ?_)
          · refine mr_iload (pc := 96) (z := z1281) dX4_find_96 rfl ?_
            refine mr_if_eq (pc := 98) (tgt := 104) dX4_find_98 (by decide) (r32 h1283 rfl) (fun h1292 => ?_) (fun h1292 => ?_)
            · have h1293 : 0 ≤ z1281 ∧ z1281 ≤ 0 := (vc_X12_ring_22 h1292 h1283)
              refine mr_iinc (pc := 104) (lv' := [(5, iv (z1126 + 1)), (0, .ref 94), (1, .ref 2), (2, iv p2), (3, iv p3), (4, iv f_p), (6, iv ((f_p * 5) + z1126)), (7, iv z1281), (8, iv z1280)]) dX4_find_104 rfl (by decide) rfl ?_
              refine sv_goto (pc := 107) (tgt := 8) dX4_find_107 (by decide) ?_
              refine mr_lvS (lv' := [(0, .ref 94), (1, .ref 2), (2, iv p2), (3, iv p3), (4, iv f_p), (5, iv (z1126 + 1))]) (List.forall_mem_cons.mpr ⟨rfl, List.forall_mem_cons.mpr ⟨rfl, List.forall_mem_cons.mpr ⟨rfl, List.forall_mem_cons.mpr ⟨rfl, List.forall_mem_cons.mpr ⟨rfl, List.forall_mem_cons.mpr ⟨rfl, fun _ h => absurd h List.not_mem_nil⟩⟩⟩⟩⟩⟩) ?_
              exact ih1134 (z1126 + 1) trivial (rW (c := 0) (d := 5) (rAdd (e := 1) (f := 5) h1136 (rR (x := 1)) rfl) rfl) (noW.next R1132 (vc_X12_acted_w_15 h1135 h1137 h1136) (vc_X4_find_v_11 hq0 h1135 h1137 h1 h1136) ((R1288).2 (vc_X12_acted_w_17 h1292 h1293))) (vc_X4_actOf_6 (nS h1133) h1135 h1137 h1136)
            have h1294 : 1 ≤ z1281 ∧ z1281 ≤ 1 := (vc_X12_ring_24 h1292 h1283)
            refine mr_iload (pc := 101) (z := z1126) dX4_find_101 rfl ?_
            exact mr_iretP dX4_find_103 rfl (le_t rfl) (le_t rfl) ⟨(rW (c := (-1)) (d := 4) h1136 rfl), (fun h => absurd h (vc_X4_find_v_21 h1135 h1137 h1136)), (fun _ => hasW.of (vc_X12_acted_w_20 h1135 h1137 h1136) (vc_X4_find_v_11 hq0 h1135 h1137 h1 h1136) ((R1288).yes (vc_X12_best_l_18 h1292 h1294) (vc_X4_find_v_24 h1141 h1291 hp3 h1140 h1284))), trivial⟩
          have h1295 : 0 ≤ z1280 ∧ z1280 ≤ 6 := (vc_X4_find_v_25 h1291 h1141 hp3 h1140 h1284)
          have h1296 : 1 ≤ p3 ∧ p3 ≤ 7 := (vc_X4_find_v_26 h1291 h1141 hp3 h1140 h1295)
          refine mr_iload (pc := 56) (z := z1281) dX4_find_56 rfl ?_
          refine mr_if_eq (pc := 58) (tgt := 96) dX4_find_58 (by decide) (r32 h1283 rfl) (fun h1297 => ?_) (fun h1297 => ?_)
          · have h1298 : 0 ≤ z1281 ∧ z1281 ≤ 0 := (vc_X12_ring_22 h1297 h1283)
            refine mr_iload (pc := 96) (z := z1281) dX4_find_96 rfl ?_
            refine mr_if_eq (pc := 98) (tgt := 104) dX4_find_98 (by decide) (r32 h1298 rfl) (fun _ => ?_) (fun h => ((vc_X10_firstWrongStep_7 h h1298)).elim)
            refine mr_iinc (pc := 104) (lv' := [(5, iv (z1126 + 1)), (0, .ref 94), (1, .ref 2), (2, iv p2), (3, iv p3), (4, iv f_p), (6, iv ((f_p * 5) + z1126)), (7, iv z1281), (8, iv z1280)]) dX4_find_104 rfl (by decide) rfl ?_
            refine sv_goto (pc := 107) (tgt := 8) dX4_find_107 (by decide) ?_
            refine mr_lvS (lv' := [(0, .ref 94), (1, .ref 2), (2, iv p2), (3, iv p3), (4, iv f_p), (5, iv (z1126 + 1))]) (List.forall_mem_cons.mpr ⟨rfl, List.forall_mem_cons.mpr ⟨rfl, List.forall_mem_cons.mpr ⟨rfl, List.forall_mem_cons.mpr ⟨rfl, List.forall_mem_cons.mpr ⟨rfl, List.forall_mem_cons.mpr ⟨rfl, fun _ h => absurd h List.not_mem_nil⟩⟩⟩⟩⟩⟩) ?_
            exact ih1134 (z1126 + 1) trivial (rW (c := 0) (d := 5) (rAdd (e := 1) (f := 5) h1136 (rR (x := 1)) rfl) rfl) (noW.next R1132 (vc_X12_acted_w_15 h1135 h1137 h1136) (vc_X4_find_v_11 hq0 h1135 h1137 h1 h1136) ((R1288).2 (vc_X12_acted_w_17 h1297 h1298))) (vc_X4_actOf_6 (nS h1133) h1135 h1137 h1136)
          have h1299 : 1 ≤ z1281 ∧ z1281 ≤ 1 := (vc_X12_ring_24 h1297 h1283)
          refine sv_aload_n (pc := 61) dX4_find_61 rfl rfl ?_
          refine gf_X4_0 (pc := 62) dX4_find_62 wF_X4_15 (A_94 hw) hT ?_
          refine mr_iload (pc := 65) (z := ((f_p * 5) + z1126)) dX4_find_65 rfl ?_
          refine mr_bipush (pc := 67) (z := 7) dX4_find_67 (by decide) ?_
          refine mr_imul (pc := 69) (x := ((f_p * 5) + z1126)) (y := 7) dX4_find_69 ?_
          refine mr_iload (pc := 70) (z := z1280) dX4_find_70 rfl ?_
          refine mr_iadd (pc := 72) (x := (((f_p * 5) + z1126) * 7)) (y := z1280) dX4_find_72 ?_
          refine la_96 (pc := 73) dX4_find_73 (A_96 hw) hT (rIx (n := 245) (rAdd (e := 0) (f := 244) (rMulR (n := 7) (e := 0) (f := 238) (rAdd (e := 0) (f := 34) (rMulR (n := 5) (e := 0) (f := 30) h1 rfl) h1136 rfl) rfl) h1295 rfl) rfl) fun z1300 q1301 h1302 => ?_
          refine sv_aload_n (pc := 74) dX4_find_74 rfl rfl ?_
          refine mr_iload_n (pc := 75) (z := p2) dX4_find_75 rfl rfl ?_
          refine mr_iload (pc := 76) (z := z1280) dX4_find_76 rfl ?_
          refine mr_iadd (pc := 78) (x := p2) (y := z1280) dX4_find_78 ?_
          refine la_2 (pc := 79) dX4_find_79 (A_2 hw) hT (rIx (n := 20) (rAdd (e := 0) (f := 6) hp2 h1295 rfl) rfl) fun z1303 q1304 h1305 => ?_
          refine mr_icmp_ne (pc := 80) (tgt := 87) dX4_find_80 (by decide) (r32 h1302 rfl) (r32 h1305 rfl) (fun h1306 => ?_) (fun h1306 => ?_)
          · refine mr_iconst (pc := 87) (z := 0) dX4_find_87 ?_
            refine mr_istore (pc := 88) (lv' := [(7, iv 0), (0, .ref 94), (1, .ref 2), (2, iv p2), (3, iv p3), (4, iv f_p), (5, iv z1126), (6, iv ((f_p * 5) + z1126)), (8, iv z1280)]) dX4_find_88 (by decide) rfl ?_
            refine mr_iinc (pc := 90) (lv' := [(8, iv (z1280 + 1)), (7, iv 0), (0, .ref 94), (1, .ref 2), (2, iv p2), (3, iv p3), (4, iv f_p), (5, iv z1126), (6, iv ((f_p * 5) + z1126))]) dX4_find_90 rfl (by decide) rfl ?_
            refine sv_goto (pc := 93) (tgt := 50) dX4_find_93 (by decide) ?_
            refine mr_lvS (lv' := [(0, .ref 94), (1, .ref 2), (2, iv p2), (3, iv p3), (4, iv f_p), (5, iv z1126), (6, iv ((f_p * 5) + z1126)), (7, iv 0), (8, iv (z1280 + 1))]) (List.forall_mem_cons.mpr ⟨rfl, List.forall_mem_cons.mpr ⟨rfl, List.forall_mem_cons.mpr ⟨rfl, List.forall_mem_cons.mpr ⟨rfl, List.forall_mem_cons.mpr ⟨rfl, List.forall_mem_cons.mpr ⟨rfl, List.forall_mem_cons.mpr ⟨rfl, List.forall_mem_cons.mpr ⟨rfl, List.forall_mem_cons.mpr ⟨rfl, fun _ h => absurd h List.not_mem_nil⟩⟩⟩⟩⟩⟩⟩⟩⟩) ?_
            exact ih1290 0 (z1280 + 1) trivial (rW (c := 0) (d := 1) (rR (x := 0)) rfl) (rW (c := 0) (d := 7) (rAdd (e := 1) (f := 7) h1295 (rR (x := 1)) rfl) rfl) (mtI.next R1288 (vc_X12_best_l_18 h1297 h1299) (vc_X4_find_v_29 h1141 h1291 h1296 h1140 h1295) q1301 (vc_X4_find_v_30 hq0 h1135 h1291 h1141 h1137 h1 h1296 h1136 h1140 h1295) q1304 (vc_X4_find_v_31 h1291 h1141 hp2 h1296 h1140 h1295) (vc_X4_find_v_32 h1306 h1302 h1305)) (vc_X4_find_v_28 (nS h1289) h1291 h1141 h1296 h1140 h1295)
          have h1307 : 0 ≤ z1303 ∧ z1303 ≤ 6 := (vc_X4_find_v_33 h1306 h1302 h1305)
          refine mr_iconst (pc := 83) (z := 1) dX4_find_83 ?_
          refine sv_goto (pc := 84) (tgt := 88) dX4_find_84 (by decide) ?_
          refine mr_istore (pc := 88) (lv' := [(7, iv 1), (0, .ref 94), (1, .ref 2), (2, iv p2), (3, iv p3), (4, iv f_p), (5, iv z1126), (6, iv ((f_p * 5) + z1126)), (8, iv z1280)]) dX4_find_88 (by decide) rfl ?_
          refine mr_iinc (pc := 90) (lv' := [(8, iv (z1280 + 1)), (7, iv 1), (0, .ref 94), (1, .ref 2), (2, iv p2), (3, iv p3), (4, iv f_p), (5, iv z1126), (6, iv ((f_p * 5) + z1126))]) dX4_find_90 rfl (by decide) rfl ?_
          refine sv_goto (pc := 93) (tgt := 50) dX4_find_93 (by decide) ?_
          refine mr_lvS (lv' := [(0, .ref 94), (1, .ref 2), (2, iv p2), (3, iv p3), (4, iv f_p), (5, iv z1126), (6, iv ((f_p * 5) + z1126)), (7, iv 1), (8, iv (z1280 + 1))]) (List.forall_mem_cons.mpr ⟨rfl, List.forall_mem_cons.mpr ⟨rfl, List.forall_mem_cons.mpr ⟨rfl, List.forall_mem_cons.mpr ⟨rfl, List.forall_mem_cons.mpr ⟨rfl, List.forall_mem_cons.mpr ⟨rfl, List.forall_mem_cons.mpr ⟨rfl, List.forall_mem_cons.mpr ⟨rfl, List.forall_mem_cons.mpr ⟨rfl, fun _ h => absurd h List.not_mem_nil⟩⟩⟩⟩⟩⟩⟩⟩⟩) ?_
          exact ih1290 1 (z1280 + 1) trivial (rW (c := 0) (d := 1) (rR (x := 1)) rfl) (rW (c := 0) (d := 7) (rAdd (e := 1) (f := 7) h1295 (rR (x := 1)) rfl) rfl) (mtI.next R1288 (vc_X12_best_l_18 h1297 h1299) (vc_X4_find_v_29 h1141 h1291 h1296 h1140 h1295) q1301 (vc_X4_find_v_30 hq0 h1135 h1291 h1141 h1137 h1 h1296 h1136 h1140 h1295) q1304 (vc_X4_find_v_31 h1291 h1141 hp2 h1296 h1140 h1295) (vc_X4_find_v_34 h1306 h1302 h1307)) (vc_X4_find_v_28 (nS h1289) h1291 h1141 h1296 h1140 h1295)
      refine mr_lvS (lv' := [(0, .ref 94), (1, .ref 2), (2, iv p2), (3, iv p3), (4, iv f_p), (5, iv z1126), (6, iv ((f_p * 5) + z1126)), (7, iv 1), (8, iv 0)]) (List.forall_mem_cons.mpr ⟨rfl, List.forall_mem_cons.mpr ⟨rfl, List.forall_mem_cons.mpr ⟨rfl, List.forall_mem_cons.mpr ⟨rfl, List.forall_mem_cons.mpr ⟨rfl, List.forall_mem_cons.mpr ⟨rfl, List.forall_mem_cons.mpr ⟨rfl, List.forall_mem_cons.mpr ⟨rfl, List.forall_mem_cons.mpr ⟨rfl, fun _ h => absurd h List.not_mem_nil⟩⟩⟩⟩⟩⟩⟩⟩⟩) ?_
      exact L1282 9 1 0 trivial (rW (c := 0) (d := 1) (rR (x := 1)) rfl) (rW (c := 0) (d := 7) (rR (x := 0)) rfl) (mtI.start q1139 vc_X12_isOffered_v_15 (vc_X4_find_v_36 h1141 hp3 h1140)) vc_X12_isOffered_10
  refine mr_lvS (lv' := [(0, .ref 94), (1, .ref 2), (2, iv p2), (3, iv p3), (4, iv f_p), (5, iv 0)]) (List.forall_mem_cons.mpr ⟨rfl, List.forall_mem_cons.mpr ⟨rfl, List.forall_mem_cons.mpr ⟨rfl, List.forall_mem_cons.mpr ⟨rfl, List.forall_mem_cons.mpr ⟨rfl, List.forall_mem_cons.mpr ⟨rfl, fun _ h => absurd h List.not_mem_nil⟩⟩⟩⟩⟩⟩) ?_
  exact L1127 7 0 trivial (rW (c := 0) (d := 5) (rR (x := 0)) rfl) (noW.zero vc_X12_isOffered_v_15) vc_X12_acted_13
