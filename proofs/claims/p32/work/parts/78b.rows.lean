section
theorem vc_X12_sign_2 {f_code : Int} (h0 : 0 ≤ f_code ∧ f_code ≤ 0) : f_code = 0 := by omega
theorem vc_X12_sign_5 {f_code f_number f_type p1 : Int} (h0 : f_code = 0 ∧ f_type = 3 ∧ f_number = p1) (h1 : f_code = 0) (h2 : 0 ≤ f_code ∧ f_code ≤ 0) (h3 : (-2147483648) ≤ f_number ∧ f_number ≤ 2147483647) (h4 : 0 ≤ f_type ∧ f_type ≤ 3) (h5 : (-2147483648) ≤ p1 ∧ p1 ≤ 2147483647) : 3 ≤ f_type ∧ f_type ≤ 3 := by omega
theorem vc_X12_sign_6 {f_type : Int} (h0 : 3 ≤ f_type ∧ f_type ≤ 3) : ¬ f_type = 0 := by omega
theorem vc_X12_sign_9 {f_at f_from z361 z363 z365 : Int} (h0 : z361 = 0) (h1 : f_at ≤ z365) (h2 : z365 ≤ z363) (h3 : f_from ≤ f_at) (h4 : f_from + 1 ≤ f_at) (h5 : 0 ≤ f_at ∧ f_at ≤ 1000) (h6 : 0 ≤ f_from ∧ f_from ≤ 1000) (h7 : 0 ≤ z361 ∧ z361 ≤ 0) (h8 : 0 ≤ z363 ∧ z363 ≤ 1000) (h9 : 0 ≤ z365 ∧ z365 ≤ 1000) : z361 = 0 → z365 ≤ z363 := by omega
theorem vc_X12_sign_10 {f_at f_from z361 z363 z365 z367 : Int} (h0 : z361 = 0) (h1 : f_at ≤ z365) (h2 : z365 ≤ z363) (h3 : z367 = 0 ∨ z365 + 1 ≤ z363) (h4 : z367 = 1 → z365 + 2 ≤ z363) (h5 : f_from ≤ f_at) (h6 : f_from + 1 ≤ f_at) (h7 : 0 ≤ f_at ∧ f_at ≤ 1000) (h8 : 0 ≤ f_from ∧ f_from ≤ 1000) (h9 : 0 ≤ z361 ∧ z361 ≤ 0) (h10 : 0 ≤ z363 ∧ z363 ≤ 1000) (h11 : 0 ≤ z365 ∧ z365 ≤ 1000) (h12 : 0 ≤ z367 ∧ z367 ≤ 3) : z361 = 0 → z367 = 0 ∨ z365 + 1 ≤ z363 := by omega
theorem vc_X12_sign_11 {f_at f_from z361 z363 z365 z367 : Int} (h0 : z361 = 0) (h1 : f_at ≤ z365) (h2 : z365 ≤ z363) (h3 : z367 = 0 ∨ z365 + 1 ≤ z363) (h4 : z367 = 1 → z365 + 2 ≤ z363) (h5 : f_from ≤ f_at) (h6 : f_from + 1 ≤ f_at) (h7 : 0 ≤ f_at ∧ f_at ≤ 1000) (h8 : 0 ≤ f_from ∧ f_from ≤ 1000) (h9 : 0 ≤ z361 ∧ z361 ≤ 0) (h10 : 0 ≤ z363 ∧ z363 ≤ 1000) (h11 : 0 ≤ z365 ∧ z365 ≤ 1000) (h12 : 0 ≤ z367 ∧ z367 ≤ 3) : z361 = 0 → z367 = 1 → z365 + 2 ≤ z363 := by omega
theorem vc_X12_sign_12 {f_at f_from z361 z363 z365 z367 z369 : Int} (h0 : z361 = 0) (h1 : f_at ≤ z365) (h2 : z365 ≤ z363) (h3 : z367 = 0 ∨ z365 + 1 ≤ z363) (h4 : z367 = 1 → z365 + 2 ≤ z363) (h5 : z367 = 1 → z369 = 0 ∨ z369 = 4 ∨ z369 = 5 ∨ z365 + 3 ≤ z363) (h6 : f_from ≤ f_at) (h7 : f_from + 1 ≤ f_at) (h8 : 0 ≤ f_at ∧ f_at ≤ 1000) (h9 : 0 ≤ f_from ∧ f_from ≤ 1000) (h10 : 0 ≤ z361 ∧ z361 ≤ 0) (h11 : 0 ≤ z363 ∧ z363 ≤ 1000) (h12 : 0 ≤ z365 ∧ z365 ≤ 1000) (h13 : 0 ≤ z367 ∧ z367 ≤ 3) (h14 : (-2147483648) ≤ z369 ∧ z369 ≤ 2147483647) : z361 = 0 → z367 = 1 → z369 = 0 ∨ z369 = 4 ∨ z369 = 5 ∨ z365 + 3 ≤ z363 := by omega
theorem vc_X12_sign_13 {f_code f_number f_type p1 z361 : Int} (h0 : f_code = 0) (h1 : f_code = 0 ∧ f_type = 3 ∧ f_number = p1) (h2 : z361 = 0) (h3 : 0 ≤ f_code ∧ f_code ≤ 0) (h4 : (-2147483648) ≤ f_number ∧ f_number ≤ 2147483647) (h5 : 3 ≤ f_type ∧ f_type ≤ 3) (h6 : (-2147483648) ≤ p1 ∧ p1 ≤ 2147483647) (h7 : 0 ≤ z361 ∧ z361 ≤ 0) : z361 = 0 → f_code = 0 := by omega
theorem vc_X12_sign_14 {f_at f_from z361 z363 z365 : Int} (h0 : f_from ≤ f_at) (h1 : f_from + 1 ≤ f_at) (h2 : z361 = 0) (h3 : f_at ≤ z365) (h4 : z365 ≤ z363) (h5 : 0 ≤ f_at ∧ f_at ≤ 1000) (h6 : 0 ≤ f_from ∧ f_from ≤ 1000) (h7 : 0 ≤ z361 ∧ z361 ≤ 0) (h8 : 0 ≤ z363 ∧ z363 ≤ 1000) (h9 : 0 ≤ z365 ∧ z365 ≤ 1000) : z361 = 0 → f_from + 1 ≤ z365 := by omega
theorem vc_X12_sign_15 {f_code f_number f_type p1 z361 : Int} (h0 : f_code = 0) (h1 : f_code = 0 ∧ f_type = 3 ∧ f_number = p1) (h2 : z361 = 0) (h3 : 0 ≤ f_code ∧ f_code ≤ 0) (h4 : (-2147483648) ≤ f_number ∧ f_number ≤ 2147483647) (h5 : 3 ≤ f_type ∧ f_type ≤ 3) (h6 : (-2147483648) ≤ p1 ∧ p1 ≤ 2147483647) (h7 : 0 ≤ z361 ∧ z361 ≤ 0) : f_code = 0 ∨ 1 ≤ z361 := by omega
theorem vc_X12_sign_17 {f_at f_from z361 z363 z365 : Int} (h0 : ¬ z361 = 0) (h1 : f_at ≤ z365) (h2 : f_from ≤ f_at) (h3 : f_from + 1 ≤ f_at) (h4 : 0 ≤ f_at ∧ f_at ≤ 1000) (h5 : 0 ≤ f_from ∧ f_from ≤ 1000) (h6 : 1 ≤ z361 ∧ z361 ≤ 4) (h7 : 0 ≤ z363 ∧ z363 ≤ 1000) (h8 : 0 ≤ z365 ∧ z365 ≤ 1000) : z361 = 0 → z365 ≤ z363 := by omega
theorem vc_X12_sign_18 {f_at f_from z361 z363 z365 z367 : Int} (h0 : ¬ z361 = 0) (h1 : f_at ≤ z365) (h2 : f_from ≤ f_at) (h3 : f_from + 1 ≤ f_at) (h4 : 0 ≤ f_at ∧ f_at ≤ 1000) (h5 : 0 ≤ f_from ∧ f_from ≤ 1000) (h6 : 1 ≤ z361 ∧ z361 ≤ 4) (h7 : 0 ≤ z363 ∧ z363 ≤ 1000) (h8 : 0 ≤ z365 ∧ z365 ≤ 1000) (h9 : 0 ≤ z367 ∧ z367 ≤ 3) : z361 = 0 → z367 = 0 ∨ z365 + 1 ≤ z363 := by omega
theorem vc_X12_sign_19 {f_at f_from z361 z363 z365 z367 : Int} (h0 : ¬ z361 = 0) (h1 : f_at ≤ z365) (h2 : f_from ≤ f_at) (h3 : f_from + 1 ≤ f_at) (h4 : 0 ≤ f_at ∧ f_at ≤ 1000) (h5 : 0 ≤ f_from ∧ f_from ≤ 1000) (h6 : 1 ≤ z361 ∧ z361 ≤ 4) (h7 : 0 ≤ z363 ∧ z363 ≤ 1000) (h8 : 0 ≤ z365 ∧ z365 ≤ 1000) (h9 : 0 ≤ z367 ∧ z367 ≤ 3) : z361 = 0 → z367 = 1 → z365 + 2 ≤ z363 := by omega
theorem vc_X12_sign_20 {f_at f_from z361 z363 z365 z367 z369 : Int} (h0 : ¬ z361 = 0) (h1 : f_at ≤ z365) (h2 : f_from ≤ f_at) (h3 : f_from + 1 ≤ f_at) (h4 : 0 ≤ f_at ∧ f_at ≤ 1000) (h5 : 0 ≤ f_from ∧ f_from ≤ 1000) (h6 : 1 ≤ z361 ∧ z361 ≤ 4) (h7 : 0 ≤ z363 ∧ z363 ≤ 1000) (h8 : 0 ≤ z365 ∧ z365 ≤ 1000) (h9 : 0 ≤ z367 ∧ z367 ≤ 3) (h10 : (-2147483648) ≤ z369 ∧ z369 ≤ 2147483647) : z361 = 0 → z367 = 1 → z369 = 0 ∨ z369 = 4 ∨ z369 = 5 ∨ z365 + 3 ≤ z363 := by omega
theorem vc_X12_sign_21 {f_code f_number f_type p1 z361 : Int} (h0 : f_code = 0) (h1 : f_code = 0 ∧ f_type = 3 ∧ f_number = p1) (h2 : ¬ z361 = 0) (h3 : 0 ≤ f_code ∧ f_code ≤ 0) (h4 : (-2147483648) ≤ f_number ∧ f_number ≤ 2147483647) (h5 : 3 ≤ f_type ∧ f_type ≤ 3) (h6 : (-2147483648) ≤ p1 ∧ p1 ≤ 2147483647) (h7 : 1 ≤ z361 ∧ z361 ≤ 4) : z361 = 0 → f_code = 0 := by omega
theorem vc_X12_sign_22 {f_at f_from z361 z365 : Int} (h0 : f_from ≤ f_at) (h1 : f_from + 1 ≤ f_at) (h2 : ¬ z361 = 0) (h3 : f_at ≤ z365) (h4 : 0 ≤ f_at ∧ f_at ≤ 1000) (h5 : 0 ≤ f_from ∧ f_from ≤ 1000) (h6 : 1 ≤ z361 ∧ z361 ≤ 4) (h7 : 0 ≤ z365 ∧ z365 ≤ 1000) : z361 = 0 → f_from + 1 ≤ z365 := by omega
theorem vc_X12_sign_23 {f_code f_number f_type p1 z361 : Int} (h0 : f_code = 0) (h1 : f_code = 0 ∧ f_type = 3 ∧ f_number = p1) (h2 : ¬ z361 = 0) (h3 : 0 ≤ f_code ∧ f_code ≤ 0) (h4 : (-2147483648) ≤ f_number ∧ f_number ≤ 2147483647) (h5 : 3 ≤ f_type ∧ f_type ≤ 3) (h6 : (-2147483648) ≤ p1 ∧ p1 ≤ 2147483647) (h7 : 1 ≤ z361 ∧ z361 ≤ 4) : f_code = 0 ∨ 1 ≤ z361 := by omega
theorem vc_X12_sign_27 {z386 : Int} (h0 : 1 ≤ z386 ∧ z386 ≤ 4) : ¬ z386 = 0 := by omega
theorem vc_X12_sign_29 {z386 z398 z400 z402 : Int} (h0 : 1 ≤ z398) (h1 : 1 ≤ z386) (h2 : 1 ≤ z386 ∧ z386 ≤ 4) (h3 : 1 ≤ z398 ∧ z398 ≤ 4) (h4 : 0 ≤ z400 ∧ z400 ≤ 1000) (h5 : 0 ≤ z402 ∧ z402 ≤ 1000) : z398 = 0 → z402 ≤ z400 := by omega
theorem vc_X12_sign_30 {z386 z398 z400 z402 z404 : Int} (h0 : 1 ≤ z398) (h1 : 1 ≤ z386) (h2 : 1 ≤ z386 ∧ z386 ≤ 4) (h3 : 1 ≤ z398 ∧ z398 ≤ 4) (h4 : 0 ≤ z400 ∧ z400 ≤ 1000) (h5 : 0 ≤ z402 ∧ z402 ≤ 1000) (h6 : 0 ≤ z404 ∧ z404 ≤ 3) : z398 = 0 → z404 = 0 ∨ z402 + 1 ≤ z400 := by omega
theorem vc_X12_sign_31 {z386 z398 z400 z402 z404 : Int} (h0 : 1 ≤ z398) (h1 : 1 ≤ z386) (h2 : 1 ≤ z386 ∧ z386 ≤ 4) (h3 : 1 ≤ z398 ∧ z398 ≤ 4) (h4 : 0 ≤ z400 ∧ z400 ≤ 1000) (h5 : 0 ≤ z402 ∧ z402 ≤ 1000) (h6 : 0 ≤ z404 ∧ z404 ≤ 3) : z398 = 0 → z404 = 1 → z402 + 2 ≤ z400 := by omega
theorem vc_X12_sign_32 {z386 z398 z400 z402 z404 z406 : Int} (h0 : 1 ≤ z398) (h1 : 1 ≤ z386) (h2 : 1 ≤ z386 ∧ z386 ≤ 4) (h3 : 1 ≤ z398 ∧ z398 ≤ 4) (h4 : 0 ≤ z400 ∧ z400 ≤ 1000) (h5 : 0 ≤ z402 ∧ z402 ≤ 1000) (h6 : 0 ≤ z404 ∧ z404 ≤ 3) (h7 : (-2147483648) ≤ z406 ∧ z406 ≤ 2147483647) : z398 = 0 → z404 = 1 → z406 = 0 ∨ z406 = 4 ∨ z406 = 5 ∨ z402 + 3 ≤ z400 := by omega
theorem vc_X12_sign_33 {f_code z386 z398 : Int} (h0 : f_code = 0) (h1 : 1 ≤ z398) (h2 : 1 ≤ z386) (h3 : 0 ≤ f_code ∧ f_code ≤ 0) (h4 : 1 ≤ z386 ∧ z386 ≤ 4) (h5 : 1 ≤ z398 ∧ z398 ≤ 4) : z398 = 0 → f_code = 0 := by omega
theorem vc_X12_sign_34 {f_at f_from z386 z398 z402 : Int} (h0 : f_from ≤ f_at) (h1 : 1 ≤ z398) (h2 : 1 ≤ z386) (h3 : 0 ≤ f_at ∧ f_at ≤ 1000) (h4 : 0 ≤ f_from ∧ f_from ≤ 1000) (h5 : 1 ≤ z386 ∧ z386 ≤ 4) (h6 : 1 ≤ z398 ∧ z398 ≤ 4) (h7 : 0 ≤ z402 ∧ z402 ≤ 1000) : z398 = 0 → f_from + 1 ≤ z402 := by omega
theorem vc_X12_sign_35 {f_code z386 z398 : Int} (h0 : f_code = 0) (h1 : 1 ≤ z398) (h2 : 1 ≤ z386) (h3 : 0 ≤ f_code ∧ f_code ≤ 0) (h4 : 1 ≤ z386 ∧ z386 ≤ 4) (h5 : 1 ≤ z398 ∧ z398 ≤ 4) : f_code = 0 ∨ 1 ≤ z398 := by omega
theorem vc_X12_sign_39 {f_code f_number f_type p1 z420 : Int} (h0 : ¬ z420 = 0) (h1 : (z420 = 1 → f_code = 0 ∧ f_type = 3 ∧ f_number = p1)) (h2 : (z420 = 0 → ¬ f_code = 0 ∨ ¬ f_type = 3 ∨ ¬ f_number = p1)) (h3 : ¬ f_code = 0) (h4 : 1 ≤ f_code ∧ f_code ≤ 4) (h5 : (-2147483648) ≤ f_number ∧ f_number ≤ 2147483647) (h6 : 0 ≤ f_type ∧ f_type ≤ 3) (h7 : (-2147483648) ≤ p1 ∧ p1 ≤ 2147483647) (h8 : 0 ≤ z420 ∧ z420 ≤ 1) : False := by omega
theorem vc_X12_sign_49 {f_code z443 z455 : Int} (h0 : ¬ f_code = 0) (h1 : 1 ≤ z455) (h2 : 1 ≤ z443) (h3 : 1 ≤ f_code ∧ f_code ≤ 4) (h4 : 1 ≤ z443 ∧ z443 ≤ 4) (h5 : 1 ≤ z455 ∧ z455 ≤ 4) : z455 = 0 → f_code = 0 := by omega
theorem vc_X12_sign_50 {f_from z443 z455 z459 : Int} (h0 : 1 ≤ z455) (h1 : 1 ≤ z443) (h2 : 0 ≤ f_from ∧ f_from ≤ 1000) (h3 : 1 ≤ z443 ∧ z443 ≤ 4) (h4 : 1 ≤ z455 ∧ z455 ≤ 4) (h5 : 0 ≤ z459 ∧ z459 ≤ 1000) : z455 = 0 → f_from + 1 ≤ z459 := by omega
theorem vc_X12_sign_51 {f_code z443 z455 : Int} (h0 : ¬ f_code = 0) (h1 : 1 ≤ z455) (h2 : 1 ≤ z443) (h3 : 1 ≤ f_code ∧ f_code ≤ 4) (h4 : 1 ≤ z443 ∧ z443 ≤ 4) (h5 : 1 ≤ z455 ∧ z455 ≤ 4) : f_code = 0 ∨ 1 ≤ z455 := by omega
set_option maxRecDepth 4000 in
set_option maxHeartbeats 4000000 in
theorem c_X12_sign {l : Launch} {D : va_G} {c : Nat → ClassId} {H0 : Heap} {sa : Nat × Nat × (Nat → Int32)} {w : mW} {μ : mM} (hw : mWF w) (hT : mT w μ) {p1 : Int} (hp1 : (-2147483648) ≤ p1 ∧ p1 ≤ 2147483647) {f_code : Int} (q_f_code : μ 106 37 = f_code) {f_at : Int} (q_f_at : μ 106 33 = f_at) {f_from : Int} (q_f_from : μ 106 34 = f_from) {f_type : Int} (q_f_type : μ 106 35 = f_type) {f_number : Int} (q_f_number : μ 106 36 = f_number) (hq0 : f_code = 0 → f_from ≤ f_at) (hq1 : f_code = 0 → f_type = 0 ∨ f_from + 1 ≤ f_at) (hq2 : f_code = 0 → f_type = 1 → f_from + 2 ≤ f_at) (hq3 : f_code = 0 → f_type = 1 → f_number = 0 ∨ f_number = 4 ∨ f_number = 5 ∨ f_from + 3 ≤ f_at) : sC (gG l D c H0 sa) mX12_sign 3 0 0 [.ref 106, iv p1] (mk w μ) (qV w [106033, 106034, 106035, 106036, 106037, 106038] μ (fun μ1 => ∃ o_code o_at o_from o_type o_number : Int, μ1 106 37 = o_code ∧ μ1 106 33 = o_at ∧ μ1 106 34 = o_from ∧ μ1 106 35 = o_type ∧ μ1 106 36 = o_number ∧ (o_code = 0 → o_from ≤ o_at) ∧ (o_code = 0 → o_type = 0 ∨ o_from + 1 ≤ o_at) ∧ (o_code = 0 → o_type = 1 → o_from + 2 ≤ o_at) ∧ (o_code = 0 → o_type = 1 → o_number = 0 ∨ o_number = 4 ∨ o_number = 5 ∨ o_from + 3 ≤ o_at) ∧ (o_code = 0 → f_code = 0) ∧ (o_code = 0 → f_from + 1 ≤ o_from) ∧ (f_code = 0 ∨ 1 ≤ o_code) ∧ True)) := by
  refine sC.of rfl (by decide) (le_t rfl) ?_
  have ht_f_code : (0 ≤ f_code ∧ f_code ≤ 4) := by rw [← q_f_code]; exact hT 106 106 (A_106 hw) 37
  have ht_f_at : (0 ≤ f_at ∧ f_at ≤ 1000) := by rw [← q_f_at]; exact hT 106 106 (A_106 hw) 33
  have ht_f_from : (0 ≤ f_from ∧ f_from ≤ 1000) := by rw [← q_f_from]; exact hT 106 106 (A_106 hw) 34
  have ht_f_type : (0 ≤ f_type ∧ f_type ≤ 3) := by rw [← q_f_type]; exact hT 106 106 (A_106 hw) 35
  have ht_f_number : ((-2147483648) ≤ f_number ∧ f_number ≤ 2147483647) := by rw [← q_f_number]; exact hT 106 106 (A_106 hw) 36
  refine mr_lvE (lv' := [(0, .ref 106), (1, iv p1)]) rfl ?_
  by_cases h343 : f_code = 0
  · have h344 : 0 ≤ f_code ∧ f_code ≤ 0 := (vc_X12_wrong_4 h343 ht_f_code)
    refine sv_aload_n (pc := 0) dX12_sign_0 rfl rfl ?_
    refine mr_iload_n (pc := 1) (z := p1) dX12_sign_1 rfl rfl ?_
    refine mr_cVP (pc := 2) (c_X12_isSign hw hT hp1 q_f_code q_f_type q_f_number) (gOk _ _ _ _ _) dX12_sign_2 (tX12_isSign _ _ _ _ _) ⟨wV_X12_isSign, wL_X12_isSign⟩ wM_X12_244 (gCX12 _ _ _ _ _) rfl (A_106 hw) rfl ⟨le_t rfl, le_t rfl⟩ ⟨le_t rfl, le_t rfl⟩ rfl (le_t rfl) fun z349 h348 => ?_
    refine mr_if_ne (pc := 5) (tgt := 13) dX12_sign_5 (by decide) (r32 h348.1 rfl) (fun h350 => ?_) (fun h350 => ?_)
    · have h351 : 1 ≤ z349 ∧ z349 ≤ 1 := (vc_X12_ring_24 h350 h348.1)
      have h352 : f_code = 0 ∧ f_type = 3 ∧ f_number = p1 := (h348.2.1 (vc_X12_best_l_18 h350 h351))
      have h353 : 3 ≤ f_type ∧ f_type ≤ 3 := (vc_X12_sign_5 h352 h343 h344 ht_f_number ht_f_type hp1)
      refine sv_aload_n (pc := 13) dX12_sign_13 rfl rfl ?_
      obtain ⟨z354, q355⟩ : ∃ z, μ 106 1 = z := ⟨_, rfl⟩
      have h356 : (0 ≤ z354 ∧ z354 ≤ 1000) := by rw [← q355]; exact hT 106 106 (A_106 hw) 1
      refine mr_cVV (pc := 14) (c_X12_next hw hT q_f_code q_f_at q355) (gOk _ _ _ _ _) dX12_sign_14 (tX12_next _ _ _ _ _) ⟨wV_X12_next, wL_X12_next⟩ wM_X12_247 (gCX12 _ _ _ _ _) rfl (A_106 hw) rfl ⟨le_t rfl, le_t rfl⟩ ⟨le_t rfl, le_t rfl⟩ rfl (le_t rfl) fun μ357 T358 F359 h360 => ?_
      obtain ⟨z361, z363, z365, z367, z369, q362, q364, q366, q368, q370, h371⟩ := h360
      have h372 : (0 ≤ z361 ∧ z361 ≤ 4) := by rw [← q362]; exact T358 106 106 (A_106 hw) 37
      have h373 : (0 ≤ z363 ∧ z363 ≤ 1000) := by rw [← q364]; exact T358 106 106 (A_106 hw) 33
      have h374 : (0 ≤ z365 ∧ z365 ≤ 1000) := by rw [← q366]; exact T358 106 106 (A_106 hw) 34
      have h375 : (0 ≤ z367 ∧ z367 ≤ 3) := by rw [← q368]; exact T358 106 106 (A_106 hw) 35
      have h376 : ((-2147483648) ≤ z369 ∧ z369 ≤ 2147483647) := by rw [← q370]; exact T358 106 106 (A_106 hw) 36
      by_cases h377 : z361 = 0
      · have h378 : 0 ≤ z361 ∧ z361 ≤ 0 := (vc_X12_wrong_4 h377 h372)
        exact mr_vret dX12_sign_17 rfl (le_t rfl) (le_t rfl) T358 (mF.call mF.refl F359 rfl) ⟨z361, z363, z365, z367, z369, q362, q364, q366, q368, q370, (vc_X12_sign_9 h377 (h371.1 (vc_X12_sign_2 h344)) (h371.2.2.2.1 (vc_X12_sign_2 h378)) (hq0 (vc_X12_sign_2 h344)) ((hq1 (vc_X12_sign_2 h344)).resolve_left (vc_X12_sign_6 h353)) ht_f_at ht_f_from h378 h373 h374), (vc_X12_sign_10 h377 (h371.1 (vc_X12_sign_2 h344)) (h371.2.2.2.1 (vc_X12_sign_2 h378)) (h371.2.2.2.2.1 (vc_X12_sign_2 h378)) (h371.2.2.2.2.2.1 (vc_X12_sign_2 h378)) (hq0 (vc_X12_sign_2 h344)) ((hq1 (vc_X12_sign_2 h344)).resolve_left (vc_X12_sign_6 h353)) ht_f_at ht_f_from h378 h373 h374 h375), (vc_X12_sign_11 h377 (h371.1 (vc_X12_sign_2 h344)) (h371.2.2.2.1 (vc_X12_sign_2 h378)) (h371.2.2.2.2.1 (vc_X12_sign_2 h378)) (h371.2.2.2.2.2.1 (vc_X12_sign_2 h378)) (hq0 (vc_X12_sign_2 h344)) ((hq1 (vc_X12_sign_2 h344)).resolve_left (vc_X12_sign_6 h353)) ht_f_at ht_f_from h378 h373 h374 h375), (vc_X12_sign_12 h377 (h371.1 (vc_X12_sign_2 h344)) (h371.2.2.2.1 (vc_X12_sign_2 h378)) (h371.2.2.2.2.1 (vc_X12_sign_2 h378)) (h371.2.2.2.2.2.1 (vc_X12_sign_2 h378)) (h371.2.2.2.2.2.2.1 (vc_X12_sign_2 h378)) (hq0 (vc_X12_sign_2 h344)) ((hq1 (vc_X12_sign_2 h344)).resolve_left (vc_X12_sign_6 h353)) ht_f_at ht_f_from h378 h373 h374 h375 h376), (vc_X12_sign_13 h343 h352 h377 h344 ht_f_number h353 hp1 h378), (vc_X12_sign_14 (hq0 (vc_X12_sign_2 h344)) ((hq1 (vc_X12_sign_2 h344)).resolve_left (vc_X12_sign_6 h353)) h377 (h371.1 (vc_X12_sign_2 h344)) (h371.2.2.2.1 (vc_X12_sign_2 h378)) ht_f_at ht_f_from h378 h373 h374), (vc_X12_sign_15 h343 h352 h377 h344 ht_f_number h353 hp1 h378), trivial⟩
      have h379 : 1 ≤ z361 ∧ z361 ≤ 4 := (vc_X12_wrong_1 h377 h372)
      exact mr_vret dX12_sign_17 rfl (le_t rfl) (le_t rfl) T358 (mF.call mF.refl F359 rfl) ⟨z361, z363, z365, z367, z369, q362, q364, q366, q368, q370, (vc_X12_sign_17 h377 (h371.1 (vc_X12_sign_2 h344)) (hq0 (vc_X12_sign_2 h344)) ((hq1 (vc_X12_sign_2 h344)).resolve_left (vc_X12_sign_6 h353)) ht_f_at ht_f_from h379 h373 h374), (vc_X12_sign_18 h377 (h371.1 (vc_X12_sign_2 h344)) (hq0 (vc_X12_sign_2 h344)) ((hq1 (vc_X12_sign_2 h344)).resolve_left (vc_X12_sign_6 h353)) ht_f_at ht_f_from h379 h373 h374 h375), (vc_X12_sign_19 h377 (h371.1 (vc_X12_sign_2 h344)) (hq0 (vc_X12_sign_2 h344)) ((hq1 (vc_X12_sign_2 h344)).resolve_left (vc_X12_sign_6 h353)) ht_f_at ht_f_from h379 h373 h374 h375), (vc_X12_sign_20 h377 (h371.1 (vc_X12_sign_2 h344)) (hq0 (vc_X12_sign_2 h344)) ((hq1 (vc_X12_sign_2 h344)).resolve_left (vc_X12_sign_6 h353)) ht_f_at ht_f_from h379 h373 h374 h375 h376), (vc_X12_sign_21 h343 h352 h377 h344 ht_f_number h353 hp1 h379), (vc_X12_sign_22 (hq0 (vc_X12_sign_2 h344)) ((hq1 (vc_X12_sign_2 h344)).resolve_left (vc_X12_sign_6 h353)) h377 (h371.1 (vc_X12_sign_2 h344)) ht_f_at ht_f_from h379 h374), (vc_X12_sign_23 h343 h352 h377 h344 ht_f_number h353 hp1 h379), trivial⟩
    have h380 : 0 ≤ z349 ∧ z349 ≤ 0 := (vc_X12_ring_22 h350 h348.1)
    have h381 : ¬ f_code = 0 ∨ ¬ f_type = 3 ∨ ¬ f_number = p1 := (h348.2.2.1 (vc_X12_goes_7 h350 h380))
    refine sv_aload_n (pc := 8) dX12_sign_8 rfl rfl ?_
    refine mr_iconst (pc := 9) (z := 2) dX12_sign_9 ?_
    refine mr_cVV (pc := 10) (c_X12_wrong hw hT (rW (c := 1) (d := 4) (rR (x := 2)) rfl) q_f_code) (gOk _ _ _ _ _) dX12_sign_10 (tX12_wrong _ _ _ _ _) ⟨wV_X12_wrong, wL_X12_wrong⟩ wM_X12_240 (gCX12 _ _ _ _ _) rfl (A_106 hw) rfl ⟨le_t rfl, le_t rfl⟩ ⟨le_t rfl, le_t rfl⟩ rfl (le_t rfl) fun μ382 T383 F384 h385 => ?_
    obtain ⟨z386, q387, h388⟩ := h385
    have h389 : (0 ≤ z386 ∧ z386 ≤ 4) := by rw [← q387]; exact T383 106 106 (A_106 hw) 37
    have h390 : 1 ≤ z386 ∧ z386 ≤ 4 := (vc_X12_next_128 h388.1 h389)
    refine sv_aload_n (pc := 13) dX12_sign_13 rfl rfl ?_
    obtain ⟨z391, q392⟩ : ∃ z, μ382 106 1 = z := ⟨_, rfl⟩
    have h393 : (0 ≤ z391 ∧ z391 ≤ 1000) := by rw [← q392]; exact T383 106 106 (A_106 hw) 1
    refine mr_cVV (pc := 14) (c_X12_next hw T383 q387 (F384.f (A_106 hw) rfl q_f_at) q392) (gOk _ _ _ _ _) dX12_sign_14 (tX12_next _ _ _ _ _) ⟨wV_X12_next, wL_X12_next⟩ wM_X12_247 (gCX12 _ _ _ _ _) rfl (A_106 hw) rfl ⟨le_t rfl, le_t rfl⟩ ⟨le_t rfl, le_t rfl⟩ rfl (le_t rfl) fun μ394 T395 F396 h397 => ?_
    obtain ⟨z398, z400, z402, z404, z406, q399, q401, q403, q405, q407, h408⟩ := h397
    have h409 : (0 ≤ z398 ∧ z398 ≤ 4) := by rw [← q399]; exact T395 106 106 (A_106 hw) 37
    have h410 : (0 ≤ z400 ∧ z400 ≤ 1000) := by rw [← q401]; exact T395 106 106 (A_106 hw) 33
    have h411 : (0 ≤ z402 ∧ z402 ≤ 1000) := by rw [← q403]; exact T395 106 106 (A_106 hw) 34
    have h412 : (0 ≤ z404 ∧ z404 ≤ 3) := by rw [← q405]; exact T395 106 106 (A_106 hw) 35
    have h413 : ((-2147483648) ≤ z406 ∧ z406 ≤ 2147483647) := by rw [← q407]; exact T395 106 106 (A_106 hw) 36
    have h414 : 1 ≤ z398 ∧ z398 ≤ 4 := (vc_X12_next_128 (h408.2.2.1.resolve_left (vc_X12_sign_27 h390)) h409)
    exact mr_vret dX12_sign_17 rfl (le_t rfl) (le_t rfl) T395 (mF.call (mF.call mF.refl F384 rfl) F396 rfl) ⟨z398, z400, z402, z404, z406, q399, q401, q403, q405, q407, (vc_X12_sign_29 (h408.2.2.1.resolve_left (vc_X12_sign_27 h390)) h388.1 h390 h414 h410 h411), (vc_X12_sign_30 (h408.2.2.1.resolve_left (vc_X12_sign_27 h390)) h388.1 h390 h414 h410 h411 h412), (vc_X12_sign_31 (h408.2.2.1.resolve_left (vc_X12_sign_27 h390)) h388.1 h390 h414 h410 h411 h412), (vc_X12_sign_32 (h408.2.2.1.resolve_left (vc_X12_sign_27 h390)) h388.1 h390 h414 h410 h411 h412 h413), (vc_X12_sign_33 h343 (h408.2.2.1.resolve_left (vc_X12_sign_27 h390)) h388.1 h344 h390 h414), (vc_X12_sign_34 (hq0 (vc_X12_sign_2 h344)) (h408.2.2.1.resolve_left (vc_X12_sign_27 h390)) h388.1 ht_f_at ht_f_from h390 h414 h411), (vc_X12_sign_35 h343 (h408.2.2.1.resolve_left (vc_X12_sign_27 h390)) h388.1 h344 h390 h414), trivial⟩
  have h415 : 1 ≤ f_code ∧ f_code ≤ 4 := (vc_X12_wrong_1 h343 ht_f_code)
  refine sv_aload_n (pc := 0) dX12_sign_0 rfl rfl ?_
  refine mr_iload_n (pc := 1) (z := p1) dX12_sign_1 rfl rfl ?_
  refine mr_cVP (pc := 2) (c_X12_isSign hw hT hp1 q_f_code q_f_type q_f_number) (gOk _ _ _ _ _) dX12_sign_2 (tX12_isSign _ _ _ _ _) ⟨wV_X12_isSign, wL_X12_isSign⟩ wM_X12_244 (gCX12 _ _ _ _ _) rfl (A_106 hw) rfl ⟨le_t rfl, le_t rfl⟩ ⟨le_t rfl, le_t rfl⟩ rfl (le_t rfl) fun z420 h419 => ?_
  refine mr_if_ne (pc := 5) (tgt := 13) dX12_sign_5 (by decide) (r32 h419.1 rfl) (fun h434 => ?_) (fun h434 => ?_)
  · exact ((vc_X12_sign_39 h434 h419.2.1 h419.2.2.1 h343 h415 ht_f_number ht_f_type hp1 h419.1)).elim
  have h437 : 0 ≤ z420 ∧ z420 ≤ 0 := (vc_X12_ring_22 h434 h419.1)
  have h438 : ¬ f_code = 0 ∨ ¬ f_type = 3 ∨ ¬ f_number = p1 := (h419.2.2.1 (vc_X12_goes_7 h434 h437))
  refine sv_aload_n (pc := 8) dX12_sign_8 rfl rfl ?_
  refine mr_iconst (pc := 9) (z := 2) dX12_sign_9 ?_
  refine mr_cVV (pc := 10) (c_X12_wrong hw hT (rW (c := 1) (d := 4) (rR (x := 2)) rfl) q_f_code) (gOk _ _ _ _ _) dX12_sign_10 (tX12_wrong _ _ _ _ _) ⟨wV_X12_wrong, wL_X12_wrong⟩ wM_X12_240 (gCX12 _ _ _ _ _) rfl (A_106 hw) rfl ⟨le_t rfl, le_t rfl⟩ ⟨le_t rfl, le_t rfl⟩ rfl (le_t rfl) fun μ439 T440 F441 h442 => ?_
  obtain ⟨z443, q444, h445⟩ := h442
  have h446 : (0 ≤ z443 ∧ z443 ≤ 4) := by rw [← q444]; exact T440 106 106 (A_106 hw) 37
  have h447 : 1 ≤ z443 ∧ z443 ≤ 4 := (vc_X12_next_128 h445.1 h446)
  refine sv_aload_n (pc := 13) dX12_sign_13 rfl rfl ?_
  obtain ⟨z448, q449⟩ : ∃ z, μ439 106 1 = z := ⟨_, rfl⟩
  have h450 : (0 ≤ z448 ∧ z448 ≤ 1000) := by rw [← q449]; exact T440 106 106 (A_106 hw) 1
  refine mr_cVV (pc := 14) (c_X12_next hw T440 q444 (F441.f (A_106 hw) rfl q_f_at) q449) (gOk _ _ _ _ _) dX12_sign_14 (tX12_next _ _ _ _ _) ⟨wV_X12_next, wL_X12_next⟩ wM_X12_247 (gCX12 _ _ _ _ _) rfl (A_106 hw) rfl ⟨le_t rfl, le_t rfl⟩ ⟨le_t rfl, le_t rfl⟩ rfl (le_t rfl) fun μ451 T452 F453 h454 => ?_
  obtain ⟨z455, z457, z459, z461, z463, q456, q458, q460, q462, q464, h465⟩ := h454
  have h466 : (0 ≤ z455 ∧ z455 ≤ 4) := by rw [← q456]; exact T452 106 106 (A_106 hw) 37
  have h467 : (0 ≤ z457 ∧ z457 ≤ 1000) := by rw [← q458]; exact T452 106 106 (A_106 hw) 33
  have h468 : (0 ≤ z459 ∧ z459 ≤ 1000) := by rw [← q460]; exact T452 106 106 (A_106 hw) 34
  have h469 : (0 ≤ z461 ∧ z461 ≤ 3) := by rw [← q462]; exact T452 106 106 (A_106 hw) 35
  have h470 : ((-2147483648) ≤ z463 ∧ z463 ≤ 2147483647) := by rw [← q464]; exact T452 106 106 (A_106 hw) 36
  have h471 : 1 ≤ z455 ∧ z455 ≤ 4 := (vc_X12_next_128 (h465.2.2.1.resolve_left (vc_X12_sign_27 h447)) h466)
  exact mr_vret dX12_sign_17 rfl (le_t rfl) (le_t rfl) T452 (mF.call (mF.call mF.refl F441 rfl) F453 rfl) ⟨z455, z457, z459, z461, z463, q456, q458, q460, q462, q464, (vc_X12_sign_29 (h465.2.2.1.resolve_left (vc_X12_sign_27 h447)) h445.1 h447 h471 h467 h468), (vc_X12_sign_30 (h465.2.2.1.resolve_left (vc_X12_sign_27 h447)) h445.1 h447 h471 h467 h468 h469), (vc_X12_sign_31 (h465.2.2.1.resolve_left (vc_X12_sign_27 h447)) h445.1 h447 h471 h467 h468 h469), (vc_X12_sign_32 (h465.2.2.1.resolve_left (vc_X12_sign_27 h447)) h445.1 h447 h471 h467 h468 h469 h470), (vc_X12_sign_49 h343 (h465.2.2.1.resolve_left (vc_X12_sign_27 h447)) h445.1 h415 h447 h471), (vc_X12_sign_50 (h465.2.2.1.resolve_left (vc_X12_sign_27 h447)) h445.1 ht_f_from h447 h471 h468), (vc_X12_sign_51 h343 (h465.2.2.1.resolve_left (vc_X12_sign_27 h447)) h445.1 h415 h447 h471), trivial⟩
theorem vc_X12_within_4 {f_type : Int} (h0 : 2 ≤ f_type ∧ f_type ≤ 2) : ¬ f_type = 0 := by omega
theorem vc_X12_within_13 {f_code z515 : Int} (h0 : f_code = 0) (h1 : z515 = 0) (h2 : 0 ≤ f_code ∧ f_code ≤ 0) (h3 : 0 ≤ z515 ∧ z515 ≤ 0) : z515 = 0 → f_code = 0 := by omega
theorem vc_X12_within_15 {f_code z515 : Int} (h0 : f_code = 0) (h1 : z515 = 0) (h2 : 0 ≤ f_code ∧ f_code ≤ 0) (h3 : 0 ≤ z515 ∧ z515 ≤ 0) : f_code = 0 ∨ 1 ≤ z515 := by omega
theorem vc_X12_within_16 {f_number p1 p2 z515 : Int} (h0 : p1 ≤ f_number ∧ f_number ≤ p2) (h1 : z515 = 0) (h2 : (-2147483648) ≤ f_number ∧ f_number ≤ 2147483647) (h3 : (-2147483648) ≤ p1 ∧ p1 ≤ 2147483647) (h4 : (-2147483648) ≤ p2 ∧ p2 ≤ 2147483647) (h5 : 0 ≤ z515 ∧ z515 ≤ 0) : z515 = 0 → p1 ≤ f_number ∧ f_number ≤ p2 := by omega
theorem vc_X12_within_22 {f_code z515 : Int} (h0 : f_code = 0) (h1 : ¬ z515 = 0) (h2 : 0 ≤ f_code ∧ f_code ≤ 0) (h3 : 1 ≤ z515 ∧ z515 ≤ 4) : z515 = 0 → f_code = 0 := by omega
theorem vc_X12_within_24 {f_code z515 : Int} (h0 : f_code = 0) (h1 : ¬ z515 = 0) (h2 : 0 ≤ f_code ∧ f_code ≤ 0) (h3 : 1 ≤ z515 ∧ z515 ≤ 4) : f_code = 0 ∨ 1 ≤ z515 := by omega
theorem vc_X12_within_25 {f_number p1 p2 z515 : Int} (h0 : p1 ≤ f_number ∧ f_number ≤ p2) (h1 : ¬ z515 = 0) (h2 : (-2147483648) ≤ f_number ∧ f_number ≤ 2147483647) (h3 : (-2147483648) ≤ p1 ∧ p1 ≤ 2147483647) (h4 : (-2147483648) ≤ p2 ∧ p2 ≤ 2147483647) (h5 : 1 ≤ z515 ∧ z515 ≤ 4) : z515 = 0 → p1 ≤ f_number ∧ f_number ≤ p2 := by omega
theorem vc_X12_within_36 {f_at f_from z540 z552 z556 : Int} (h0 : f_from ≤ f_at) (h1 : f_from + 1 ≤ f_at) (h2 : 1 ≤ z552) (h3 : 1 ≤ z540) (h4 : 0 ≤ f_at ∧ f_at ≤ 1000) (h5 : 0 ≤ f_from ∧ f_from ≤ 1000) (h6 : 1 ≤ z540 ∧ z540 ≤ 4) (h7 : 1 ≤ z552 ∧ z552 ≤ 4) (h8 : 0 ≤ z556 ∧ z556 ≤ 1000) : z552 = 0 → f_from + 1 ≤ z556 := by omega
theorem vc_X12_within_38 {f_number p1 p2 z540 z552 : Int} (h0 : f_number < p1 ∨ p2 < f_number) (h1 : 1 ≤ z552) (h2 : 1 ≤ z540) (h3 : (-2147483648) ≤ f_number ∧ f_number ≤ 2147483647) (h4 : (-2147483648) ≤ p1 ∧ p1 ≤ 2147483647) (h5 : (-2147483648) ≤ p2 ∧ p2 ≤ 2147483647) (h6 : 1 ≤ z540 ∧ z540 ≤ 4) (h7 : 1 ≤ z552 ∧ z552 ≤ 4) : z552 = 0 → p1 ≤ f_number ∧ f_number ≤ p2 := by omega
theorem vc_X12_within_47 {f_at f_from f_type z573 z585 z589 : Int} (h0 : f_from ≤ f_at) (h1 : 1 ≤ z585) (h2 : ¬ f_type = 2) (h3 : 1 ≤ z573) (h4 : 0 ≤ f_at ∧ f_at ≤ 1000) (h5 : 0 ≤ f_from ∧ f_from ≤ 1000) (h6 : 0 ≤ f_type ∧ f_type ≤ 3) (h7 : 1 ≤ z573 ∧ z573 ≤ 4) (h8 : 1 ≤ z585 ∧ z585 ≤ 4) (h9 : 0 ≤ z589 ∧ z589 ≤ 1000) : z585 = 0 → f_from + 1 ≤ z589 := by omega
theorem vc_X12_within_49 {f_at f_from f_number f_type p1 p2 z573 z585 : Int} (h0 : 1 ≤ z585) (h1 : f_from ≤ f_at) (h2 : ¬ f_type = 2) (h3 : 1 ≤ z573) (h4 : 0 ≤ f_at ∧ f_at ≤ 1000) (h5 : 0 ≤ f_from ∧ f_from ≤ 1000) (h6 : (-2147483648) ≤ f_number ∧ f_number ≤ 2147483647) (h7 : 0 ≤ f_type ∧ f_type ≤ 3) (h8 : (-2147483648) ≤ p1 ∧ p1 ≤ 2147483647) (h9 : (-2147483648) ≤ p2 ∧ p2 ≤ 2147483647) (h10 : 1 ≤ z573 ∧ z573 ≤ 4) (h11 : 1 ≤ z585 ∧ z585 ≤ 4) : z585 = 0 → p1 ≤ f_number ∧ f_number ≤ p2 := by omega
theorem vc_X12_within_61 {f_number p1 p2 z637 z649 : Int} (h0 : 1 ≤ z649) (h1 : 1 ≤ z637) (h2 : (-2147483648) ≤ f_number ∧ f_number ≤ 2147483647) (h3 : (-2147483648) ≤ p1 ∧ p1 ≤ 2147483647) (h4 : (-2147483648) ≤ p2 ∧ p2 ≤ 2147483647) (h5 : 1 ≤ z637 ∧ z637 ≤ 4) (h6 : 1 ≤ z649 ∧ z649 ≤ 4) : z649 = 0 → p1 ≤ f_number ∧ f_number ≤ p2 := by omega
theorem vc_X12_within_68 {f_code z682 : Int} (h0 : 1 ≤ z682) (h1 : ¬ f_code = 0) (h2 : 1 ≤ f_code ∧ f_code ≤ 4) (h3 : 1 ≤ z682 ∧ z682 ≤ 4) : 1 ≤ z682 := by omega
set_option maxRecDepth 4000 in
set_option maxHeartbeats 4000000 in
theorem c_X12_within {l : Launch} {D : va_G} {c : Nat → ClassId} {H0 : Heap} {sa : Nat × Nat × (Nat → Int32)} {w : mW} {μ : mM} (hw : mWF w) (hT : mT w μ) {p1 : Int} (hp1 : (-2147483648) ≤ p1 ∧ p1 ≤ 2147483647) {p2 : Int} (hp2 : (-2147483648) ≤ p2 ∧ p2 ≤ 2147483647) {f_code : Int} (q_f_code : μ 106 37 = f_code) {f_at : Int} (q_f_at : μ 106 33 = f_at) {f_from : Int} (q_f_from : μ 106 34 = f_from) {f_type : Int} (q_f_type : μ 106 35 = f_type) {f_number : Int} (q_f_number : μ 106 36 = f_number) (hq0 : f_code = 0 → f_from ≤ f_at) (hq1 : f_code = 0 → f_type = 0 ∨ f_from + 1 ≤ f_at) (hq2 : f_code = 0 → f_type = 1 → f_from + 2 ≤ f_at) (hq3 : f_code = 0 → f_type = 1 → f_number = 0 ∨ f_number = 4 ∨ f_number = 5 ∨ f_from + 3 ≤ f_at) : sC (gG l D c H0 sa) mX12_within 3 0 0 [.ref 106, iv p1, iv p2] (mk w μ) (qI w [106033, 106034, 106035, 106036, 106037, 106038] μ (fun z μ1 => ∃ o_code o_at o_from o_type o_number : Int, μ1 106 37 = o_code ∧ μ1 106 33 = o_at ∧ μ1 106 34 = o_from ∧ μ1 106 35 = o_type ∧ μ1 106 36 = o_number ∧ ((-2147483648) ≤ z ∧ z ≤ 2147483647) ∧ (o_code = 0 → o_from ≤ o_at) ∧ (o_code = 0 → o_type = 0 ∨ o_from + 1 ≤ o_at) ∧ (o_code = 0 → o_type = 1 → o_from + 2 ≤ o_at) ∧ (o_code = 0 → o_type = 1 → o_number = 0 ∨ o_number = 4 ∨ o_number = 5 ∨ o_from + 3 ≤ o_at) ∧ (o_code = 0 → f_code = 0) ∧ (o_code = 0 → f_from + 1 ≤ o_from) ∧ (f_code = 0 ∨ 1 ≤ o_code) ∧ (o_code = 0 → p1 ≤ z ∧ z ≤ p2) ∧ True)) := by
  refine sC.of rfl (by decide) (le_t rfl) ?_
  have ht_f_code : (0 ≤ f_code ∧ f_code ≤ 4) := by rw [← q_f_code]; exact hT 106 106 (A_106 hw) 37
  have ht_f_at : (0 ≤ f_at ∧ f_at ≤ 1000) := by rw [← q_f_at]; exact hT 106 106 (A_106 hw) 33
  have ht_f_from : (0 ≤ f_from ∧ f_from ≤ 1000) := by rw [← q_f_from]; exact hT 106 106 (A_106 hw) 34
  have ht_f_type : (0 ≤ f_type ∧ f_type ≤ 3) := by rw [← q_f_type]; exact hT 106 106 (A_106 hw) 35
  have ht_f_number : ((-2147483648) ≤ f_number ∧ f_number ≤ 2147483647) := by rw [← q_f_number]; exact hT 106 106 (A_106 hw) 36
  refine mr_lvE (lv' := [(0, .ref 106), (1, iv p1), (2, iv p2)]) rfl ?_
  by_cases h496 : f_code = 0
  · have h497 : 0 ≤ f_code ∧ f_code ≤ 0 := (vc_X12_wrong_4 h496 ht_f_code)
    refine sv_aload_n (pc := 0) dX12_within_0 rfl rfl ?_
    refine gk_X12_35 (pc := 1) dX12_within_1 wF_X12_230 (A_106 hw) q_f_type ?_
    refine mr_iconst (pc := 4) (z := 2) dX12_within_4 ?_
    refine mr_icmp_eq (pc := 5) (tgt := 16) dX12_within_5 (by decide) (r32 ht_f_type rfl) (r32 (rR (x := 2)) rfl) (fun h498 => ?_) (fun h498 => ?_)
    · have h499 : 2 ≤ f_type ∧ f_type ≤ 2 := (vc_X10_firstWrongStep_8 h498 ht_f_type)
      refine sv_aload_n (pc := 16) dX12_within_16 rfl rfl ?_
      refine gk_X12_36 (pc := 17) dX12_within_17 wF_X12_233 (A_106 hw) q_f_number ?_
      refine mr_iload_n (pc := 20) (z := p1) dX12_within_20 rfl rfl ?_
      refine mr_iload_n (pc := 21) (z := p2) dX12_within_21 rfl rfl ?_
      refine mr_cSP (pc := 22) (c_X12_in hw hT ht_f_number hp1 hp2) (gOk _ _ _ _ _) dX12_within_22 (tX12_in _ _ _ _ _) wS_X12_in wM_X12_18 ⟨le_t rfl, le_t rfl⟩ ⟨le_t rfl, le_t rfl⟩ rfl (le_t rfl) fun z504 h503 => ?_
      refine mr_if_ne (pc := 25) (tgt := 33) dX12_within_25 (by decide) (r32 h503.1 rfl) (fun h505 => ?_) (fun h505 => ?_)
      · have h506 : 1 ≤ z504 ∧ z504 ≤ 1 := (vc_X12_ring_24 h505 h503.1)
        have h507 : p1 ≤ f_number ∧ f_number ≤ p2 := (h503.2.1 (vc_X12_best_l_18 h505 h506))
        refine sv_aload_n (pc := 33) dX12_within_33 rfl rfl ?_
        refine gk_X12_36 (pc := 34) dX12_within_34 wF_X12_233 (A_106 hw) q_f_number ?_
        refine mr_istore_n (pc := 37) (lv' := [(3, iv f_number), (0, .ref 106), (1, iv p1), (2, iv p2)]) dX12_within_37 rfl (by decide) rfl ?_
        refine sv_aload_n (pc := 38) dX12_within_38 rfl rfl ?_
        obtain ⟨z508, q509⟩ : ∃ z, μ 106 1 = z := ⟨_, rfl⟩
        have h510 : (0 ≤ z508 ∧ z508 ≤ 1000) := by rw [← q509]; exact hT 106 106 (A_106 hw) 1
        refine mr_cVV (pc := 39) (c_X12_next hw hT q_f_code q_f_at q509) (gOk _ _ _ _ _) dX12_within_39 (tX12_next _ _ _ _ _) ⟨wV_X12_next, wL_X12_next⟩ wM_X12_247 (gCX12 _ _ _ _ _) rfl (A_106 hw) rfl ⟨le_t rfl, le_t rfl⟩ ⟨le_t rfl, le_t rfl⟩ rfl (le_t rfl) fun μ511 T512 F513 h514 => ?_
        obtain ⟨z515, z517, z519, z521, z523, q516, q518, q520, q522, q524, h525⟩ := h514
        have h526 : (0 ≤ z515 ∧ z515 ≤ 4) := by rw [← q516]; exact T512 106 106 (A_106 hw) 37
        have h527 : (0 ≤ z517 ∧ z517 ≤ 1000) := by rw [← q518]; exact T512 106 106 (A_106 hw) 33
        have h528 : (0 ≤ z519 ∧ z519 ≤ 1000) := by rw [← q520]; exact T512 106 106 (A_106 hw) 34
        have h529 : (0 ≤ z521 ∧ z521 ≤ 3) := by rw [← q522]; exact T512 106 106 (A_106 hw) 35
        have h530 : ((-2147483648) ≤ z523 ∧ z523 ≤ 2147483647) := by rw [← q524]; exact T512 106 106 (A_106 hw) 36
        by_cases h531 : z515 = 0
        · have h532 : 0 ≤ z515 ∧ z515 ≤ 0 := (vc_X12_wrong_4 h531 h526)
          refine mr_iload_n (pc := 42) (z := f_number) dX12_within_42 rfl rfl ?_
          exact mr_iret dX12_within_43 rfl (le_t rfl) (le_t rfl) T512 (mF.call mF.refl F513 rfl) ⟨z515, z517, z519, z521, z523, q516, q518, q520, q522, q524, ht_f_number, (vc_X12_sign_9 h531 (h525.1 (vc_X12_sign_2 h497)) (h525.2.2.2.1 (vc_X12_sign_2 h532)) (hq0 (vc_X12_sign_2 h497)) ((hq1 (vc_X12_sign_2 h497)).resolve_left (vc_X12_within_4 h499)) ht_f_at ht_f_from h532 h527 h528), (vc_X12_sign_10 h531 (h525.1 (vc_X12_sign_2 h497)) (h525.2.2.2.1 (vc_X12_sign_2 h532)) (h525.2.2.2.2.1 (vc_X12_sign_2 h532)) (h525.2.2.2.2.2.1 (vc_X12_sign_2 h532)) (hq0 (vc_X12_sign_2 h497)) ((hq1 (vc_X12_sign_2 h497)).resolve_left (vc_X12_within_4 h499)) ht_f_at ht_f_from h532 h527 h528 h529), (vc_X12_sign_11 h531 (h525.1 (vc_X12_sign_2 h497)) (h525.2.2.2.1 (vc_X12_sign_2 h532)) (h525.2.2.2.2.1 (vc_X12_sign_2 h532)) (h525.2.2.2.2.2.1 (vc_X12_sign_2 h532)) (hq0 (vc_X12_sign_2 h497)) ((hq1 (vc_X12_sign_2 h497)).resolve_left (vc_X12_within_4 h499)) ht_f_at ht_f_from h532 h527 h528 h529), (vc_X12_sign_12 h531 (h525.1 (vc_X12_sign_2 h497)) (h525.2.2.2.1 (vc_X12_sign_2 h532)) (h525.2.2.2.2.1 (vc_X12_sign_2 h532)) (h525.2.2.2.2.2.1 (vc_X12_sign_2 h532)) (h525.2.2.2.2.2.2.1 (vc_X12_sign_2 h532)) (hq0 (vc_X12_sign_2 h497)) ((hq1 (vc_X12_sign_2 h497)).resolve_left (vc_X12_within_4 h499)) ht_f_at ht_f_from h532 h527 h528 h529 h530), (vc_X12_within_13 h496 h531 h497 h532), (vc_X12_sign_14 (hq0 (vc_X12_sign_2 h497)) ((hq1 (vc_X12_sign_2 h497)).resolve_left (vc_X12_within_4 h499)) h531 (h525.1 (vc_X12_sign_2 h497)) (h525.2.2.2.1 (vc_X12_sign_2 h532)) ht_f_at ht_f_from h532 h527 h528), (vc_X12_within_15 h496 h531 h497 h532), (vc_X12_within_16 h507 h531 ht_f_number hp1 hp2 h532), trivial⟩
        have h533 : 1 ≤ z515 ∧ z515 ≤ 4 := (vc_X12_wrong_1 h531 h526)
        refine mr_iload_n (pc := 42) (z := f_number) dX12_within_42 rfl rfl ?_
        exact mr_iret dX12_within_43 rfl (le_t rfl) (le_t rfl) T512 (mF.call mF.refl F513 rfl) ⟨z515, z517, z519, z521, z523, q516, q518, q520, q522, q524, ht_f_number, (vc_X12_sign_17 h531 (h525.1 (vc_X12_sign_2 h497)) (hq0 (vc_X12_sign_2 h497)) ((hq1 (vc_X12_sign_2 h497)).resolve_left (vc_X12_within_4 h499)) ht_f_at ht_f_from h533 h527 h528), (vc_X12_sign_18 h531 (h525.1 (vc_X12_sign_2 h497)) (hq0 (vc_X12_sign_2 h497)) ((hq1 (vc_X12_sign_2 h497)).resolve_left (vc_X12_within_4 h499)) ht_f_at ht_f_from h533 h527 h528 h529), (vc_X12_sign_19 h531 (h525.1 (vc_X12_sign_2 h497)) (hq0 (vc_X12_sign_2 h497)) ((hq1 (vc_X12_sign_2 h497)).resolve_left (vc_X12_within_4 h499)) ht_f_at ht_f_from h533 h527 h528 h529), (vc_X12_sign_20 h531 (h525.1 (vc_X12_sign_2 h497)) (hq0 (vc_X12_sign_2 h497)) ((hq1 (vc_X12_sign_2 h497)).resolve_left (vc_X12_within_4 h499)) ht_f_at ht_f_from h533 h527 h528 h529 h530), (vc_X12_within_22 h496 h531 h497 h533), (vc_X12_sign_22 (hq0 (vc_X12_sign_2 h497)) ((hq1 (vc_X12_sign_2 h497)).resolve_left (vc_X12_within_4 h499)) h531 (h525.1 (vc_X12_sign_2 h497)) ht_f_at ht_f_from h533 h528), (vc_X12_within_24 h496 h531 h497 h533), (vc_X12_within_25 h507 h531 ht_f_number hp1 hp2 h533), trivial⟩
      have h534 : 0 ≤ z504 ∧ z504 ≤ 0 := (vc_X12_ring_22 h505 h503.1)
      have h535 : f_number < p1 ∨ p2 < f_number := (h503.2.2.1 (vc_X12_goes_7 h505 h534))
      refine sv_aload_n (pc := 28) dX12_within_28 rfl rfl ?_
      refine mr_iconst (pc := 29) (z := 3) dX12_within_29 ?_
      refine mr_cVV (pc := 30) (c_X12_wrong hw hT (rW (c := 1) (d := 4) (rR (x := 3)) rfl) q_f_code) (gOk _ _ _ _ _) dX12_within_30 (tX12_wrong _ _ _ _ _) ⟨wV_X12_wrong, wL_X12_wrong⟩ wM_X12_240 (gCX12 _ _ _ _ _) rfl (A_106 hw) rfl ⟨le_t rfl, le_t rfl⟩ ⟨le_t rfl, le_t rfl⟩ rfl (le_t rfl) fun μ536 T537 F538 h539 => ?_
      obtain ⟨z540, q541, h542⟩ := h539
      have h543 : (0 ≤ z540 ∧ z540 ≤ 4) := by rw [← q541]; exact T537 106 106 (A_106 hw) 37
      have h544 : 1 ≤ z540 ∧ z540 ≤ 4 := (vc_X12_next_128 h542.1 h543)
      refine sv_aload_n (pc := 33) dX12_within_33 rfl rfl ?_
      refine gk_X12_36 (pc := 34) dX12_within_34 wF_X12_233 (A_106 hw) (F538.f (A_106 hw) rfl q_f_number) ?_
      refine mr_istore_n (pc := 37) (lv' := [(3, iv f_number), (0, .ref 106), (1, iv p1), (2, iv p2)]) dX12_within_37 rfl (by decide) rfl ?_
      refine sv_aload_n (pc := 38) dX12_within_38 rfl rfl ?_
      obtain ⟨z545, q546⟩ : ∃ z, μ536 106 1 = z := ⟨_, rfl⟩
      have h547 : (0 ≤ z545 ∧ z545 ≤ 1000) := by rw [← q546]; exact T537 106 106 (A_106 hw) 1
      refine mr_cVV (pc := 39) (c_X12_next hw T537 q541 (F538.f (A_106 hw) rfl q_f_at) q546) (gOk _ _ _ _ _) dX12_within_39 (tX12_next _ _ _ _ _) ⟨wV_X12_next, wL_X12_next⟩ wM_X12_247 (gCX12 _ _ _ _ _) rfl (A_106 hw) rfl ⟨le_t rfl, le_t rfl⟩ ⟨le_t rfl, le_t rfl⟩ rfl (le_t rfl) fun μ548 T549 F550 h551 => ?_
      obtain ⟨z552, z554, z556, z558, z560, q553, q555, q557, q559, q561, h562⟩ := h551
      have h563 : (0 ≤ z552 ∧ z552 ≤ 4) := by rw [← q553]; exact T549 106 106 (A_106 hw) 37
      have h564 : (0 ≤ z554 ∧ z554 ≤ 1000) := by rw [← q555]; exact T549 106 106 (A_106 hw) 33
      have h565 : (0 ≤ z556 ∧ z556 ≤ 1000) := by rw [← q557]; exact T549 106 106 (A_106 hw) 34
      have h566 : (0 ≤ z558 ∧ z558 ≤ 3) := by rw [← q559]; exact T549 106 106 (A_106 hw) 35
      have h567 : ((-2147483648) ≤ z560 ∧ z560 ≤ 2147483647) := by rw [← q561]; exact T549 106 106 (A_106 hw) 36
      have h568 : 1 ≤ z552 ∧ z552 ≤ 4 := (vc_X12_next_128 (h562.2.2.1.resolve_left (vc_X12_sign_27 h544)) h563)
      refine mr_iload_n (pc := 42) (z := f_number) dX12_within_42 rfl rfl ?_
      exact mr_iret dX12_within_43 rfl (le_t rfl) (le_t rfl) T549 (mF.call (mF.call mF.refl F538 rfl) F550 rfl) ⟨z552, z554, z556, z558, z560, q553, q555, q557, q559, q561, ht_f_number, (vc_X12_sign_29 (h562.2.2.1.resolve_left (vc_X12_sign_27 h544)) h542.1 h544 h568 h564 h565), (vc_X12_sign_30 (h562.2.2.1.resolve_left (vc_X12_sign_27 h544)) h542.1 h544 h568 h564 h565 h566), (vc_X12_sign_31 (h562.2.2.1.resolve_left (vc_X12_sign_27 h544)) h542.1 h544 h568 h564 h565 h566), (vc_X12_sign_32 (h562.2.2.1.resolve_left (vc_X12_sign_27 h544)) h542.1 h544 h568 h564 h565 h566 h567), (vc_X12_sign_33 h496 (h562.2.2.1.resolve_left (vc_X12_sign_27 h544)) h542.1 h497 h544 h568), (vc_X12_within_36 (hq0 (vc_X12_sign_2 h497)) ((hq1 (vc_X12_sign_2 h497)).resolve_left (vc_X12_within_4 h499)) (h562.2.2.1.resolve_left (vc_X12_sign_27 h544)) h542.1 ht_f_at ht_f_from h544 h568 h565), (vc_X12_sign_35 h496 (h562.2.2.1.resolve_left (vc_X12_sign_27 h544)) h542.1 h497 h544 h568), (vc_X12_within_38 h535 (h562.2.2.1.resolve_left (vc_X12_sign_27 h544)) h542.1 ht_f_number hp1 hp2 h544 h568), trivial⟩
    refine sv_aload_n (pc := 8) dX12_within_8 rfl rfl ?_
    refine mr_iconst (pc := 9) (z := 2) dX12_within_9 ?_
    refine mr_cVV (pc := 10) (c_X12_wrong hw hT (rW (c := 1) (d := 4) (rR (x := 2)) rfl) q_f_code) (gOk _ _ _ _ _) dX12_within_10 (tX12_wrong _ _ _ _ _) ⟨wV_X12_wrong, wL_X12_wrong⟩ wM_X12_240 (gCX12 _ _ _ _ _) rfl (A_106 hw) rfl ⟨le_t rfl, le_t rfl⟩ ⟨le_t rfl, le_t rfl⟩ rfl (le_t rfl) fun μ569 T570 F571 h572 => ?_
    obtain ⟨z573, q574, h575⟩ := h572
    have h576 : (0 ≤ z573 ∧ z573 ≤ 4) := by rw [← q574]; exact T570 106 106 (A_106 hw) 37
    have h577 : 1 ≤ z573 ∧ z573 ≤ 4 := (vc_X12_next_128 h575.1 h576)
    refine sv_goto (pc := 13) (tgt := 33) dX12_within_13 (by decide) ?_
    refine sv_aload_n (pc := 33) dX12_within_33 rfl rfl ?_
    refine gk_X12_36 (pc := 34) dX12_within_34 wF_X12_233 (A_106 hw) (F571.f (A_106 hw) rfl q_f_number) ?_
    refine mr_istore_n (pc := 37) (lv' := [(3, iv f_number), (0, .ref 106), (1, iv p1), (2, iv p2)]) dX12_within_37 rfl (by decide) rfl ?_
    refine sv_aload_n (pc := 38) dX12_within_38 rfl rfl ?_
    obtain ⟨z578, q579⟩ : ∃ z, μ569 106 1 = z := ⟨_, rfl⟩
    have h580 : (0 ≤ z578 ∧ z578 ≤ 1000) := by rw [← q579]; exact T570 106 106 (A_106 hw) 1
    refine mr_cVV (pc := 39) (c_X12_next hw T570 q574 (F571.f (A_106 hw) rfl q_f_at) q579) (gOk _ _ _ _ _) dX12_within_39 (tX12_next _ _ _ _ _) ⟨wV_X12_next, wL_X12_next⟩ wM_X12_247 (gCX12 _ _ _ _ _) rfl (A_106 hw) rfl ⟨le_t rfl, le_t rfl⟩ ⟨le_t rfl, le_t rfl⟩ rfl (le_t rfl) fun μ581 T582 F583 h584 => ?_
    obtain ⟨z585, z587, z589, z591, z593, q586, q588, q590, q592, q594, h595⟩ := h584
    have h596 : (0 ≤ z585 ∧ z585 ≤ 4) := by rw [← q586]; exact T582 106 106 (A_106 hw) 37
    have h597 : (0 ≤ z587 ∧ z587 ≤ 1000) := by rw [← q588]; exact T582 106 106 (A_106 hw) 33
    have h598 : (0 ≤ z589 ∧ z589 ≤ 1000) := by rw [← q590]; exact T582 106 106 (A_106 hw) 34
    have h599 : (0 ≤ z591 ∧ z591 ≤ 3) := by rw [← q592]; exact T582 106 106 (A_106 hw) 35
    have h600 : ((-2147483648) ≤ z593 ∧ z593 ≤ 2147483647) := by rw [← q594]; exact T582 106 106 (A_106 hw) 36
    have h601 : 1 ≤ z585 ∧ z585 ≤ 4 := (vc_X12_next_128 (h595.2.2.1.resolve_left (vc_X12_sign_27 h577)) h596)
    refine mr_iload_n (pc := 42) (z := f_number) dX12_within_42 rfl rfl ?_
    exact mr_iret dX12_within_43 rfl (le_t rfl) (le_t rfl) T582 (mF.call (mF.call mF.refl F571 rfl) F583 rfl) ⟨z585, z587, z589, z591, z593, q586, q588, q590, q592, q594, ht_f_number, (vc_X12_sign_29 (h595.2.2.1.resolve_left (vc_X12_sign_27 h577)) h575.1 h577 h601 h597 h598), (vc_X12_sign_30 (h595.2.2.1.resolve_left (vc_X12_sign_27 h577)) h575.1 h577 h601 h597 h598 h599), (vc_X12_sign_31 (h595.2.2.1.resolve_left (vc_X12_sign_27 h577)) h575.1 h577 h601 h597 h598 h599), (vc_X12_sign_32 (h595.2.2.1.resolve_left (vc_X12_sign_27 h577)) h575.1 h577 h601 h597 h598 h599 h600), (vc_X12_sign_33 h496 (h595.2.2.1.resolve_left (vc_X12_sign_27 h577)) h575.1 h497 h577 h601), (vc_X12_within_47 (hq0 (vc_X12_sign_2 h497)) (h595.2.2.1.resolve_left (vc_X12_sign_27 h577)) h498 h575.1 ht_f_at ht_f_from ht_f_type h577 h601 h598), (vc_X12_sign_35 h496 (h595.2.2.1.resolve_left (vc_X12_sign_27 h577)) h575.1 h497 h577 h601), (vc_X12_within_49 (h595.2.2.1.resolve_left (vc_X12_sign_27 h577)) (hq0 (vc_X12_sign_2 h497)) h498 h575.1 ht_f_at ht_f_from ht_f_number ht_f_type hp1 hp2 h577 h601), trivial⟩
  have h602 : 1 ≤ f_code ∧ f_code ≤ 4 := (vc_X12_wrong_1 h496 ht_f_code)
  refine sv_aload_n (pc := 0) dX12_within_0 rfl rfl ?_
  refine gk_X12_35 (pc := 1) dX12_within_1 wF_X12_230 (A_106 hw) q_f_type ?_
  refine mr_iconst (pc := 4) (z := 2) dX12_within_4 ?_
  have J636 : ∀ (μ631 : mM), (mT w μ631) → (mF [106037, 106038] w μ μ631) → ((1 ≤ μ631 106 (37))) → sV (gG l D c H0 sa) mX12_within (sRm 3 0 0) (sZ (gG l D c H0 sa) 0 0 (qI w [106033, 106034, 106035, 106036, 106037, 106038] μ (fun z μ1 => ∃ o_code o_at o_from o_type o_number : Int, μ1 106 37 = o_code ∧ μ1 106 33 = o_at ∧ μ1 106 34 = o_from ∧ μ1 106 35 = o_type ∧ μ1 106 36 = o_number ∧ ((-2147483648) ≤ z ∧ z ≤ 2147483647) ∧ (o_code = 0 → o_from ≤ o_at) ∧ (o_code = 0 → o_type = 0 ∨ o_from + 1 ≤ o_at) ∧ (o_code = 0 → o_type = 1 → o_from + 2 ≤ o_at) ∧ (o_code = 0 → o_type = 1 → o_number = 0 ∨ o_number = 4 ∨ o_number = 5 ∨ o_from + 3 ≤ o_at) ∧ (o_code = 0 → f_code = 0) ∧ (o_code = 0 → f_from + 1 ≤ o_from) ∧ (f_code = 0 ∨ 1 ≤ o_code) ∧ (o_code = 0 → p1 ≤ z ∧ z ≤ p2) ∧ True))) 33 [(0, .ref 106)] [] (mk w μ631) 0 0 := by
    intro μ631 T632 F633 h635
    obtain ⟨z637, q638⟩ : ∃ z, μ631 106 37 = z := ⟨_, rfl⟩
    have h639 : (0 ≤ z637 ∧ z637 ≤ 4) := by rw [← q638]; exact T632 106 106 (A_106 hw) 37
    have h640 : 1 ≤ z637 := q638 ▸ h635
    have h641 : 1 ≤ z637 ∧ z637 ≤ 4 := (vc_X12_next_128 h640 h639)
    refine sv_aload_n (pc := 33) dX12_within_33 rfl rfl ?_
    refine gk_X12_36 (pc := 34) dX12_within_34 wF_X12_233 (A_106 hw) (F633.f (A_106 hw) rfl q_f_number) ?_
    refine mr_istore_n (pc := 37) (lv' := [(3, iv f_number), (0, .ref 106)]) dX12_within_37 rfl (by decide) rfl ?_
    refine sv_aload_n (pc := 38) dX12_within_38 rfl rfl ?_
    obtain ⟨z642, q643⟩ : ∃ z, μ631 106 1 = z := ⟨_, rfl⟩
    have h644 : (0 ≤ z642 ∧ z642 ≤ 1000) := by rw [← q643]; exact T632 106 106 (A_106 hw) 1
    refine mr_cVV (pc := 39) (c_X12_next hw T632 q638 (F633.f (A_106 hw) rfl q_f_at) q643) (gOk _ _ _ _ _) dX12_within_39 (tX12_next _ _ _ _ _) ⟨wV_X12_next, wL_X12_next⟩ wM_X12_247 (gCX12 _ _ _ _ _) rfl (A_106 hw) rfl ⟨le_t rfl, le_t rfl⟩ ⟨le_t rfl, le_t rfl⟩ rfl (le_t rfl) fun μ645 T646 F647 h648 => ?_
    obtain ⟨z649, z651, z653, z655, z657, q650, q652, q654, q656, q658, h659⟩ := h648
    have h660 : (0 ≤ z649 ∧ z649 ≤ 4) := by rw [← q650]; exact T646 106 106 (A_106 hw) 37
    have h661 : (0 ≤ z651 ∧ z651 ≤ 1000) := by rw [← q652]; exact T646 106 106 (A_106 hw) 33
    have h662 : (0 ≤ z653 ∧ z653 ≤ 1000) := by rw [← q654]; exact T646 106 106 (A_106 hw) 34
    have h663 : (0 ≤ z655 ∧ z655 ≤ 3) := by rw [← q656]; exact T646 106 106 (A_106 hw) 35
    have h664 : ((-2147483648) ≤ z657 ∧ z657 ≤ 2147483647) := by rw [← q658]; exact T646 106 106 (A_106 hw) 36
    have h665 : 1 ≤ z649 ∧ z649 ≤ 4 := (vc_X12_next_128 (h659.2.2.1.resolve_left (vc_X12_sign_27 h641)) h660)
    refine mr_iload_n (pc := 42) (z := f_number) dX12_within_42 rfl rfl ?_
    exact mr_iret dX12_within_43 rfl (le_t rfl) (le_t rfl) T646 (mF.call (mF.call mF.refl F633 rfl) F647 rfl) ⟨z649, z651, z653, z655, z657, q650, q652, q654, q656, q658, ht_f_number, (vc_X12_sign_29 (h659.2.2.1.resolve_left (vc_X12_sign_27 h641)) h640 h641 h665 h661 h662), (vc_X12_sign_30 (h659.2.2.1.resolve_left (vc_X12_sign_27 h641)) h640 h641 h665 h661 h662 h663), (vc_X12_sign_31 (h659.2.2.1.resolve_left (vc_X12_sign_27 h641)) h640 h641 h665 h661 h662 h663), (vc_X12_sign_32 (h659.2.2.1.resolve_left (vc_X12_sign_27 h641)) h640 h641 h665 h661 h662 h663 h664), (vc_X12_sign_49 h496 (h659.2.2.1.resolve_left (vc_X12_sign_27 h641)) h640 h602 h641 h665), (vc_X12_sign_50 (h659.2.2.1.resolve_left (vc_X12_sign_27 h641)) h640 ht_f_from h641 h665 h662), (vc_X12_sign_51 h496 (h659.2.2.1.resolve_left (vc_X12_sign_27 h641)) h640 h602 h641 h665), (vc_X12_within_61 (h659.2.2.1.resolve_left (vc_X12_sign_27 h641)) h640 ht_f_number hp1 hp2 h641 h665), trivial⟩
  refine mr_icmp_eq (pc := 5) (tgt := 16) dX12_within_5 (by decide) (r32 ht_f_type rfl) (r32 (rR (x := 2)) rfl) (fun h666 => ?_) (fun h666 => ?_)
  · have h667 : 2 ≤ f_type ∧ f_type ≤ 2 := (vc_X10_firstWrongStep_8 h666 ht_f_type)
    refine sv_aload_n (pc := 16) dX12_within_16 rfl rfl ?_
    refine gk_X12_36 (pc := 17) dX12_within_17 wF_X12_233 (A_106 hw) q_f_number ?_
    refine mr_iload_n (pc := 20) (z := p1) dX12_within_20 rfl rfl ?_
    refine mr_iload_n (pc := 21) (z := p2) dX12_within_21 rfl rfl ?_
    refine mr_cSP (pc := 22) (c_X12_in hw hT ht_f_number hp1 hp2) (gOk _ _ _ _ _) dX12_within_22 (tX12_in _ _ _ _ _) wS_X12_in wM_X12_18 ⟨le_t rfl, le_t rfl⟩ ⟨le_t rfl, le_t rfl⟩ rfl (le_t rfl) fun z672 h671 => ?_
    refine mr_if_ne (pc := 25) (tgt := 33) dX12_within_25 (by decide) (r32 h671.1 rfl) (fun h673 => ?_) (fun h673 => ?_)
    · have h674 : 1 ≤ z672 ∧ z672 ≤ 1 := (vc_X12_ring_24 h673 h671.1)
      have h675 : p1 ≤ f_number ∧ f_number ≤ p2 := (h671.2.1 (vc_X12_best_l_18 h673 h674))
      refine mr_lvS (lv' := [(0, .ref 106)]) (List.forall_mem_cons.mpr ⟨rfl, fun _ h => absurd h List.not_mem_nil⟩) ?_
      exact J636 μ hT mF.refl (by rw [q_f_code]; exact (vc_X12_wrong_2 h496 h602))
    have h676 : 0 ≤ z672 ∧ z672 ≤ 0 := (vc_X12_ring_22 h673 h671.1)
    have h677 : f_number < p1 ∨ p2 < f_number := (h671.2.2.1 (vc_X12_goes_7 h673 h676))
    refine sv_aload_n (pc := 28) dX12_within_28 rfl rfl ?_
    refine mr_iconst (pc := 29) (z := 3) dX12_within_29 ?_
    refine mr_cVV (pc := 30) (c_X12_wrong hw hT (rW (c := 1) (d := 4) (rR (x := 3)) rfl) q_f_code) (gOk _ _ _ _ _) dX12_within_30 (tX12_wrong _ _ _ _ _) ⟨wV_X12_wrong, wL_X12_wrong⟩ wM_X12_240 (gCX12 _ _ _ _ _) rfl (A_106 hw) rfl ⟨le_t rfl, le_t rfl⟩ ⟨le_t rfl, le_t rfl⟩ rfl (le_t rfl) fun μ678 T679 F680 h681 => ?_
    obtain ⟨z682, q683, h684⟩ := h681
    have h685 : (0 ≤ z682 ∧ z682 ≤ 4) := by rw [← q683]; exact T679 106 106 (A_106 hw) 37
    have h686 : 1 ≤ z682 ∧ z682 ≤ 4 := (vc_X12_next_128 h684.1 h685)
    refine mr_lvS (lv' := [(0, .ref 106)]) (List.forall_mem_cons.mpr ⟨rfl, fun _ h => absurd h List.not_mem_nil⟩) ?_
    exact J636 μ678 T679 (mF.call mF.refl F680 rfl) (by rw [q683]; exact (vc_X12_within_68 h684.1 h496 h602 h686))
  refine sv_aload_n (pc := 8) dX12_within_8 rfl rfl ?_
  refine mr_iconst (pc := 9) (z := 2) dX12_within_9 ?_
  refine mr_cVV (pc := 10) (c_X12_wrong hw hT (rW (c := 1) (d := 4) (rR (x := 2)) rfl) q_f_code) (gOk _ _ _ _ _) dX12_within_10 (tX12_wrong _ _ _ _ _) ⟨wV_X12_wrong, wL_X12_wrong⟩ wM_X12_240 (gCX12 _ _ _ _ _) rfl (A_106 hw) rfl ⟨le_t rfl, le_t rfl⟩ ⟨le_t rfl, le_t rfl⟩ rfl (le_t rfl) fun μ687 T688 F689 h690 => ?_
  obtain ⟨z691, q692, h693⟩ := h690
  have h694 : (0 ≤ z691 ∧ z691 ≤ 4) := by rw [← q692]; exact T688 106 106 (A_106 hw) 37
  have h695 : 1 ≤ z691 ∧ z691 ≤ 4 := (vc_X12_next_128 h693.1 h694)
  refine sv_goto (pc := 13) (tgt := 33) dX12_within_13 (by decide) ?_
  refine mr_lvS (lv' := [(0, .ref 106)]) (List.forall_mem_cons.mpr ⟨rfl, fun _ h => absurd h List.not_mem_nil⟩) ?_
  exact J636 μ687 T688 (mF.call mF.refl F689 rfl) (by rw [q692]; exact (vc_X12_within_68 h693.1 h496 h602 h695))
theorem vc_X12_addressRead_3 {f_at f_from z2850 : Int} (h0 : (5 - z2850) < ((0 : Nat) : Int)) (h1 : f_from ≤ f_at) (h2 : 0 ≤ f_at ∧ f_at ≤ 1000) (h3 : 0 ≤ f_from ∧ f_from ≤ 1000) (h4 : 0 ≤ z2850 ∧ z2850 ≤ 4) : False := by omega
theorem vc_X12_addressRead_6 {f_from f_lf z2850 : Int} (h0 : 4 ≤ z2850) (h1 : f_from + z2850 ≤ f_lf) (h2 : 0 ≤ f_from ∧ f_from ≤ 1000) (h3 : 0 ≤ f_lf ∧ f_lf ≤ 1000) (h4 : 0 ≤ z2850 ∧ z2850 ≤ 4) : 4 ≤ z2850 ∧ z2850 ≤ 4 := by omega
theorem vc_X12_addressRead_7 {f_at f_from f_la f_lc f_lf z2850 : Int} (h0 : f_lc = 0) (h1 : f_lf ≤ f_la) (h2 : f_from + z2850 ≤ f_lf) (h3 : f_from ≤ f_at) (h4 : 4 ≤ z2850) (h5 : 0 ≤ f_at ∧ f_at ≤ 1000) (h6 : 0 ≤ f_from ∧ f_from ≤ 1000) (h7 : 0 ≤ f_la ∧ f_la ≤ 1000) (h8 : 0 ≤ f_lc ∧ f_lc ≤ 0) (h9 : 0 ≤ f_lf ∧ f_lf ≤ 1000) (h10 : 4 ≤ z2850 ∧ z2850 ≤ 4) : f_lc = 0 → f_lf ≤ f_la := by omega
theorem vc_X12_addressRead_8 {f_at f_from f_la f_lc f_lf f_lt z2850 : Int} (h0 : f_lc = 0) (h1 : f_lf ≤ f_la) (h2 : f_lt = 0 ∨ f_lf + 1 ≤ f_la) (h3 : f_lt = 1 → f_lf + 2 ≤ f_la) (h4 : f_from + z2850 ≤ f_lf) (h5 : f_from ≤ f_at) (h6 : 4 ≤ z2850) (h7 : 0 ≤ f_at ∧ f_at ≤ 1000) (h8 : 0 ≤ f_from ∧ f_from ≤ 1000) (h9 : 0 ≤ f_la ∧ f_la ≤ 1000) (h10 : 0 ≤ f_lc ∧ f_lc ≤ 0) (h11 : 0 ≤ f_lf ∧ f_lf ≤ 1000) (h12 : 0 ≤ f_lt ∧ f_lt ≤ 3) (h13 : 4 ≤ z2850 ∧ z2850 ≤ 4) : f_lc = 0 → f_lt = 0 ∨ f_lf + 1 ≤ f_la := by omega
theorem vc_X12_addressRead_9 {f_at f_from f_la f_lc f_lf f_lt z2850 : Int} (h0 : f_lc = 0) (h1 : f_lf ≤ f_la) (h2 : f_lt = 0 ∨ f_lf + 1 ≤ f_la) (h3 : f_lt = 1 → f_lf + 2 ≤ f_la) (h4 : f_from + z2850 ≤ f_lf) (h5 : f_from ≤ f_at) (h6 : 4 ≤ z2850) (h7 : 0 ≤ f_at ∧ f_at ≤ 1000) (h8 : 0 ≤ f_from ∧ f_from ≤ 1000) (h9 : 0 ≤ f_la ∧ f_la ≤ 1000) (h10 : 0 ≤ f_lc ∧ f_lc ≤ 0) (h11 : 0 ≤ f_lf ∧ f_lf ≤ 1000) (h12 : 0 ≤ f_lt ∧ f_lt ≤ 3) (h13 : 4 ≤ z2850 ∧ z2850 ≤ 4) : f_lc = 0 → f_lt = 1 → f_lf + 2 ≤ f_la := by omega
theorem vc_X12_addressRead_10 {f_at f_from f_la f_lc f_lf f_ln f_lt z2850 : Int} (h0 : f_lc = 0) (h1 : f_lf ≤ f_la) (h2 : f_lt = 0 ∨ f_lf + 1 ≤ f_la) (h3 : f_lt = 1 → f_lf + 2 ≤ f_la) (h4 : f_lt = 1 → f_ln = 0 ∨ f_ln = 4 ∨ f_ln = 5 ∨ f_lf + 3 ≤ f_la) (h5 : f_from + z2850 ≤ f_lf) (h6 : f_from ≤ f_at) (h7 : 4 ≤ z2850) (h8 : 0 ≤ f_at ∧ f_at ≤ 1000) (h9 : 0 ≤ f_from ∧ f_from ≤ 1000) (h10 : 0 ≤ f_la ∧ f_la ≤ 1000) (h11 : 0 ≤ f_lc ∧ f_lc ≤ 0) (h12 : 0 ≤ f_lf ∧ f_lf ≤ 1000) (h13 : (-2147483648) ≤ f_ln ∧ f_ln ≤ 2147483647) (h14 : 0 ≤ f_lt ∧ f_lt ≤ 3) (h15 : 4 ≤ z2850 ∧ z2850 ≤ 4) : f_lc = 0 → f_lt = 1 → f_ln = 0 ∨ f_ln = 4 ∨ f_ln = 5 ∨ f_lf + 3 ≤ f_la := by omega
theorem vc_X12_addressRead_12 {f_at f_from f_la f_lc f_lf z2850 : Int} (h0 : f_from ≤ f_at) (h1 : f_lc = 0) (h2 : f_lf ≤ f_la) (h3 : f_from + z2850 ≤ f_lf) (h4 : 4 ≤ z2850) (h5 : 0 ≤ f_at ∧ f_at ≤ 1000) (h6 : 0 ≤ f_from ∧ f_from ≤ 1000) (h7 : 0 ≤ f_la ∧ f_la ≤ 1000) (h8 : 0 ≤ f_lc ∧ f_lc ≤ 0) (h9 : 0 ≤ f_lf ∧ f_lf ≤ 1000) (h10 : 4 ≤ z2850 ∧ z2850 ≤ 4) : f_lc = 0 → f_from + 4 ≤ f_lf := by omega
theorem vc_X12_addressRead_14 {f_from f_lf z2850 : Int} (h0 : z2850 < 4) (h1 : f_from + z2850 ≤ f_lf) (h2 : 0 ≤ f_from ∧ f_from ≤ 1000) (h3 : 0 ≤ f_lf ∧ f_lf ≤ 1000) (h4 : 0 ≤ z2850 ∧ z2850 ≤ 4) : 0 ≤ z2850 ∧ z2850 ≤ 3 := by omega
theorem vc_X12_addressRead_15 {f_at f_from f_la f_lc f_lf z2850 : Int} (h0 : f_lc = 0) (h1 : f_lf ≤ f_la) (h2 : f_from + z2850 ≤ f_lf) (h3 : f_from ≤ f_at) (h4 : z2850 < 4) (h5 : 0 ≤ f_at ∧ f_at ≤ 1000) (h6 : 0 ≤ f_from ∧ f_from ≤ 1000) (h7 : 0 ≤ f_la ∧ f_la ≤ 1000) (h8 : 0 ≤ f_lc ∧ f_lc ≤ 0) (h9 : 0 ≤ f_lf ∧ f_lf ≤ 1000) (h10 : 0 ≤ z2850 ∧ z2850 ≤ 3) : f_lc = 0 → f_lf ≤ f_la := by omega
theorem vc_X12_addressRead_16 {f_at f_from f_la f_lc f_lf f_lt z2850 : Int} (h0 : f_lc = 0) (h1 : f_lf ≤ f_la) (h2 : f_lt = 0 ∨ f_lf + 1 ≤ f_la) (h3 : f_lt = 1 → f_lf + 2 ≤ f_la) (h4 : f_from + z2850 ≤ f_lf) (h5 : f_from ≤ f_at) (h6 : z2850 < 4) (h7 : 0 ≤ f_at ∧ f_at ≤ 1000) (h8 : 0 ≤ f_from ∧ f_from ≤ 1000) (h9 : 0 ≤ f_la ∧ f_la ≤ 1000) (h10 : 0 ≤ f_lc ∧ f_lc ≤ 0) (h11 : 0 ≤ f_lf ∧ f_lf ≤ 1000) (h12 : 0 ≤ f_lt ∧ f_lt ≤ 3) (h13 : 0 ≤ z2850 ∧ z2850 ≤ 3) : f_lc = 0 → f_lt = 0 ∨ f_lf + 1 ≤ f_la := by omega
theorem vc_X12_addressRead_17 {f_at f_from f_la f_lc f_lf f_lt z2850 : Int} (h0 : f_lc = 0) (h1 : f_lf ≤ f_la) (h2 : f_lt = 0 ∨ f_lf + 1 ≤ f_la) (h3 : f_lt = 1 → f_lf + 2 ≤ f_la) (h4 : f_from + z2850 ≤ f_lf) (h5 : f_from ≤ f_at) (h6 : z2850 < 4) (h7 : 0 ≤ f_at ∧ f_at ≤ 1000) (h8 : 0 ≤ f_from ∧ f_from ≤ 1000) (h9 : 0 ≤ f_la ∧ f_la ≤ 1000) (h10 : 0 ≤ f_lc ∧ f_lc ≤ 0) (h11 : 0 ≤ f_lf ∧ f_lf ≤ 1000) (h12 : 0 ≤ f_lt ∧ f_lt ≤ 3) (h13 : 0 ≤ z2850 ∧ z2850 ≤ 3) : f_lc = 0 → f_lt = 1 → f_lf + 2 ≤ f_la := by omega
theorem vc_X12_addressRead_18 {f_at f_from f_la f_lc f_lf f_ln f_lt z2850 : Int} (h0 : f_lc = 0) (h1 : f_lf ≤ f_la) (h2 : f_lt = 0 ∨ f_lf + 1 ≤ f_la) (h3 : f_lt = 1 → f_lf + 2 ≤ f_la) (h4 : f_lt = 1 → f_ln = 0 ∨ f_ln = 4 ∨ f_ln = 5 ∨ f_lf + 3 ≤ f_la) (h5 : f_from + z2850 ≤ f_lf) (h6 : f_from ≤ f_at) (h7 : z2850 < 4) (h8 : 0 ≤ f_at ∧ f_at ≤ 1000) (h9 : 0 ≤ f_from ∧ f_from ≤ 1000) (h10 : 0 ≤ f_la ∧ f_la ≤ 1000) (h11 : 0 ≤ f_lc ∧ f_lc ≤ 0) (h12 : 0 ≤ f_lf ∧ f_lf ≤ 1000) (h13 : (-2147483648) ≤ f_ln ∧ f_ln ≤ 2147483647) (h14 : 0 ≤ f_lt ∧ f_lt ≤ 3) (h15 : 0 ≤ z2850 ∧ z2850 ≤ 3) : f_lc = 0 → f_lt = 1 → f_ln = 0 ∨ f_ln = 4 ∨ f_ln = 5 ∨ f_lf + 3 ≤ f_la := by omega
theorem vc_X12_addressRead_21 {z2974 : Int} (h0 : (0 : Int) ≤ z2974 ∧ z2974 ≤ (255 : Int)) (h1 : (-2147483648) ≤ z2974 ∧ z2974 ≤ 2147483647) : 0 ≤ z2974 ∧ z2974 ≤ 255 := by omega
theorem vc_X12_addressRead_22 {f_from f_lf z2850 : Int} (h0 : 3 ≤ z2850) (h1 : f_from + z2850 ≤ f_lf) (h2 : z2850 < 4) (h3 : 0 ≤ f_from ∧ f_from ≤ 1000) (h4 : 0 ≤ f_lf ∧ f_lf ≤ 1000) (h5 : 0 ≤ z2850 ∧ z2850 ≤ 3) : 3 ≤ z2850 ∧ z2850 ≤ 3 := by omega
theorem vc_X12_addressRead_23 {f_from f_la f_lf z2850 z2975 z2977 z2979 : Int} (h0 : z2975 = 0) (h1 : z2979 ≤ z2977) (h2 : f_lf + 1 ≤ z2979) (h3 : f_lf ≤ f_la) (h4 : f_from + z2850 ≤ f_lf) (h5 : 0 ≤ f_from ∧ f_from ≤ 1000) (h6 : 0 ≤ f_la ∧ f_la ≤ 1000) (h7 : 0 ≤ f_lf ∧ f_lf ≤ 1000) (h8 : 3 ≤ z2850 ∧ z2850 ≤ 3) (h9 : 0 ≤ z2975 ∧ z2975 ≤ 0) (h10 : 0 ≤ z2977 ∧ z2977 ≤ 1000) (h11 : 0 ≤ z2979 ∧ z2979 ≤ 1000) : z2975 = 0 → z2979 ≤ z2977 := by omega
theorem vc_X12_addressRead_24 {f_from f_la f_lf z2850 z2975 z2977 z2979 z2981 : Int} (h0 : z2975 = 0) (h1 : z2979 ≤ z2977) (h2 : z2981 = 0 ∨ z2979 + 1 ≤ z2977) (h3 : z2981 = 1 → z2979 + 2 ≤ z2977) (h4 : f_lf + 1 ≤ z2979) (h5 : f_lf ≤ f_la) (h6 : f_from + z2850 ≤ f_lf) (h7 : 0 ≤ f_from ∧ f_from ≤ 1000) (h8 : 0 ≤ f_la ∧ f_la ≤ 1000) (h9 : 0 ≤ f_lf ∧ f_lf ≤ 1000) (h10 : 3 ≤ z2850 ∧ z2850 ≤ 3) (h11 : 0 ≤ z2975 ∧ z2975 ≤ 0) (h12 : 0 ≤ z2977 ∧ z2977 ≤ 1000) (h13 : 0 ≤ z2979 ∧ z2979 ≤ 1000) (h14 : 0 ≤ z2981 ∧ z2981 ≤ 3) : z2975 = 0 → z2981 = 0 ∨ z2979 + 1 ≤ z2977 := by omega
theorem vc_X12_addressRead_25 {f_from f_la f_lf z2850 z2975 z2977 z2979 z2981 : Int} (h0 : z2975 = 0) (h1 : z2979 ≤ z2977) (h2 : z2981 = 0 ∨ z2979 + 1 ≤ z2977) (h3 : z2981 = 1 → z2979 + 2 ≤ z2977) (h4 : f_lf + 1 ≤ z2979) (h5 : f_lf ≤ f_la) (h6 : f_from + z2850 ≤ f_lf) (h7 : 0 ≤ f_from ∧ f_from ≤ 1000) (h8 : 0 ≤ f_la ∧ f_la ≤ 1000) (h9 : 0 ≤ f_lf ∧ f_lf ≤ 1000) (h10 : 3 ≤ z2850 ∧ z2850 ≤ 3) (h11 : 0 ≤ z2975 ∧ z2975 ≤ 0) (h12 : 0 ≤ z2977 ∧ z2977 ≤ 1000) (h13 : 0 ≤ z2979 ∧ z2979 ≤ 1000) (h14 : 0 ≤ z2981 ∧ z2981 ≤ 3) : z2975 = 0 → z2981 = 1 → z2979 + 2 ≤ z2977 := by omega
theorem vc_X12_addressRead_26 {f_from f_la f_lf z2850 z2975 z2977 z2979 z2981 z2983 : Int} (h0 : z2975 = 0) (h1 : z2979 ≤ z2977) (h2 : z2981 = 0 ∨ z2979 + 1 ≤ z2977) (h3 : z2981 = 1 → z2979 + 2 ≤ z2977) (h4 : z2981 = 1 → z2983 = 0 ∨ z2983 = 4 ∨ z2983 = 5 ∨ z2979 + 3 ≤ z2977) (h5 : f_lf + 1 ≤ z2979) (h6 : f_lf ≤ f_la) (h7 : f_from + z2850 ≤ f_lf) (h8 : 0 ≤ f_from ∧ f_from ≤ 1000) (h9 : 0 ≤ f_la ∧ f_la ≤ 1000) (h10 : 0 ≤ f_lf ∧ f_lf ≤ 1000) (h11 : 3 ≤ z2850 ∧ z2850 ≤ 3) (h12 : 0 ≤ z2975 ∧ z2975 ≤ 0) (h13 : 0 ≤ z2977 ∧ z2977 ≤ 1000) (h14 : 0 ≤ z2979 ∧ z2979 ≤ 1000) (h15 : 0 ≤ z2981 ∧ z2981 ≤ 3) (h16 : (-2147483648) ≤ z2983 ∧ z2983 ≤ 2147483647) : z2975 = 0 → z2981 = 1 → z2983 = 0 ∨ z2983 = 4 ∨ z2983 = 5 ∨ z2979 + 3 ≤ z2977 := by omega
theorem vc_X12_addressRead_28 {f_at f_from f_la f_lf z2850 z2975 z2977 z2979 : Int} (h0 : f_from ≤ f_at) (h1 : f_from + z2850 ≤ f_lf) (h2 : z2850 < 4) (h3 : z2975 = 0) (h4 : z2979 ≤ z2977) (h5 : f_lf + 1 ≤ z2979) (h6 : 3 ≤ z2850) (h7 : f_lf ≤ f_la) (h8 : 0 ≤ f_at ∧ f_at ≤ 1000) (h9 : 0 ≤ f_from ∧ f_from ≤ 1000) (h10 : 0 ≤ f_la ∧ f_la ≤ 1000) (h11 : 0 ≤ f_lf ∧ f_lf ≤ 1000) (h12 : 3 ≤ z2850 ∧ z2850 ≤ 3) (h13 : 0 ≤ z2975 ∧ z2975 ≤ 0) (h14 : 0 ≤ z2977 ∧ z2977 ≤ 1000) (h15 : 0 ≤ z2979 ∧ z2979 ≤ 1000) : z2975 = 0 → f_from + (z2850 + 1) ≤ z2979 := by omega
theorem vc_X12_addressRead_30 {N f_at f_from f_la f_lf z2850 z2979 : Int} (h0 : (5 - z2850) < N + 1) (h1 : f_from + z2850 ≤ f_lf) (h2 : z2850 < 4) (h3 : 3 ≤ z2850) (h4 : f_from ≤ f_at) (h5 : f_lf ≤ f_la) (h6 : f_lf + 1 ≤ z2979) (h7 : 0 ≤ f_at ∧ f_at ≤ 1000) (h8 : 0 ≤ f_from ∧ f_from ≤ 1000) (h9 : 0 ≤ f_la ∧ f_la ≤ 1000) (h10 : 0 ≤ f_lf ∧ f_lf ≤ 1000) (h11 : 3 ≤ z2850 ∧ z2850 ≤ 3) (h12 : 0 ≤ z2979 ∧ z2979 ≤ 1000) : (5 - (z2850 + 1)) < N := by omega
theorem vc_X12_addressRead_31 {f_from f_lf z2850 : Int} (h0 : z2850 < 3) (h1 : f_from + z2850 ≤ f_lf) (h2 : z2850 < 4) (h3 : 0 ≤ f_from ∧ f_from ≤ 1000) (h4 : 0 ≤ f_lf ∧ f_lf ≤ 1000) (h5 : 0 ≤ z2850 ∧ z2850 ≤ 3) : 0 ≤ z2850 ∧ z2850 ≤ 2 := by omega
theorem vc_X12_addressRead_32 {f_from f_la f_lf z2850 z2975 z2977 z2979 : Int} (h0 : z2975 = 0) (h1 : z2979 ≤ z2977) (h2 : f_lf + 1 ≤ z2979) (h3 : f_lf ≤ f_la) (h4 : f_from + z2850 ≤ f_lf) (h5 : 0 ≤ f_from ∧ f_from ≤ 1000) (h6 : 0 ≤ f_la ∧ f_la ≤ 1000) (h7 : 0 ≤ f_lf ∧ f_lf ≤ 1000) (h8 : 0 ≤ z2850 ∧ z2850 ≤ 2) (h9 : 0 ≤ z2975 ∧ z2975 ≤ 0) (h10 : 0 ≤ z2977 ∧ z2977 ≤ 1000) (h11 : 0 ≤ z2979 ∧ z2979 ≤ 1000) : z2975 = 0 → z2979 ≤ z2977 := by omega
theorem vc_X12_addressRead_33 {f_from f_la f_lf z2850 z2975 z2977 z2979 z2981 : Int} (h0 : z2975 = 0) (h1 : z2979 ≤ z2977) (h2 : z2981 = 0 ∨ z2979 + 1 ≤ z2977) (h3 : z2981 = 1 → z2979 + 2 ≤ z2977) (h4 : f_lf + 1 ≤ z2979) (h5 : f_lf ≤ f_la) (h6 : f_from + z2850 ≤ f_lf) (h7 : 0 ≤ f_from ∧ f_from ≤ 1000) (h8 : 0 ≤ f_la ∧ f_la ≤ 1000) (h9 : 0 ≤ f_lf ∧ f_lf ≤ 1000) (h10 : 0 ≤ z2850 ∧ z2850 ≤ 2) (h11 : 0 ≤ z2975 ∧ z2975 ≤ 0) (h12 : 0 ≤ z2977 ∧ z2977 ≤ 1000) (h13 : 0 ≤ z2979 ∧ z2979 ≤ 1000) (h14 : 0 ≤ z2981 ∧ z2981 ≤ 3) : z2975 = 0 → z2981 = 0 ∨ z2979 + 1 ≤ z2977 := by omega
theorem vc_X12_addressRead_34 {f_from f_la f_lf z2850 z2975 z2977 z2979 z2981 : Int} (h0 : z2975 = 0) (h1 : z2979 ≤ z2977) (h2 : z2981 = 0 ∨ z2979 + 1 ≤ z2977) (h3 : z2981 = 1 → z2979 + 2 ≤ z2977) (h4 : f_lf + 1 ≤ z2979) (h5 : f_lf ≤ f_la) (h6 : f_from + z2850 ≤ f_lf) (h7 : 0 ≤ f_from ∧ f_from ≤ 1000) (h8 : 0 ≤ f_la ∧ f_la ≤ 1000) (h9 : 0 ≤ f_lf ∧ f_lf ≤ 1000) (h10 : 0 ≤ z2850 ∧ z2850 ≤ 2) (h11 : 0 ≤ z2975 ∧ z2975 ≤ 0) (h12 : 0 ≤ z2977 ∧ z2977 ≤ 1000) (h13 : 0 ≤ z2979 ∧ z2979 ≤ 1000) (h14 : 0 ≤ z2981 ∧ z2981 ≤ 3) : z2975 = 0 → z2981 = 1 → z2979 + 2 ≤ z2977 := by omega
theorem vc_X12_addressRead_35 {f_from f_la f_lf z2850 z2975 z2977 z2979 z2981 z2983 : Int} (h0 : z2975 = 0) (h1 : z2979 ≤ z2977) (h2 : z2981 = 0 ∨ z2979 + 1 ≤ z2977) (h3 : z2981 = 1 → z2979 + 2 ≤ z2977) (h4 : z2981 = 1 → z2983 = 0 ∨ z2983 = 4 ∨ z2983 = 5 ∨ z2979 + 3 ≤ z2977) (h5 : f_lf + 1 ≤ z2979) (h6 : f_lf ≤ f_la) (h7 : f_from + z2850 ≤ f_lf) (h8 : 0 ≤ f_from ∧ f_from ≤ 1000) (h9 : 0 ≤ f_la ∧ f_la ≤ 1000) (h10 : 0 ≤ f_lf ∧ f_lf ≤ 1000) (h11 : 0 ≤ z2850 ∧ z2850 ≤ 2) (h12 : 0 ≤ z2975 ∧ z2975 ≤ 0) (h13 : 0 ≤ z2977 ∧ z2977 ≤ 1000) (h14 : 0 ≤ z2979 ∧ z2979 ≤ 1000) (h15 : 0 ≤ z2981 ∧ z2981 ≤ 3) (h16 : (-2147483648) ≤ z2983 ∧ z2983 ≤ 2147483647) : z2975 = 0 → z2981 = 1 → z2983 = 0 ∨ z2983 = 4 ∨ z2983 = 5 ∨ z2979 + 3 ≤ z2977 := by omega
theorem vc_X12_addressRead_38 {f_lf z2977 z2979 z3004 z3006 z3008 : Int} (h0 : z3004 = 0) (h1 : z3008 ≤ z3006) (h2 : z2979 + 1 ≤ z3008) (h3 : z2979 ≤ z2977) (h4 : f_lf + 1 ≤ z2979) (h5 : 0 ≤ f_lf ∧ f_lf ≤ 1000) (h6 : 0 ≤ z2977 ∧ z2977 ≤ 1000) (h7 : 0 ≤ z2979 ∧ z2979 ≤ 1000) (h8 : 0 ≤ z3004 ∧ z3004 ≤ 0) (h9 : 0 ≤ z3006 ∧ z3006 ≤ 1000) (h10 : 0 ≤ z3008 ∧ z3008 ≤ 1000) : z3004 = 0 → z3008 ≤ z3006 := by omega
theorem vc_X12_addressRead_39 {f_lf z2977 z2979 z3004 z3006 z3008 z3010 : Int} (h0 : z3004 = 0) (h1 : z3008 ≤ z3006) (h2 : z3010 = 0 ∨ z3008 + 1 ≤ z3006) (h3 : z3010 = 1 → z3008 + 2 ≤ z3006) (h4 : z2979 + 1 ≤ z3008) (h5 : z2979 ≤ z2977) (h6 : f_lf + 1 ≤ z2979) (h7 : 0 ≤ f_lf ∧ f_lf ≤ 1000) (h8 : 0 ≤ z2977 ∧ z2977 ≤ 1000) (h9 : 0 ≤ z2979 ∧ z2979 ≤ 1000) (h10 : 0 ≤ z3004 ∧ z3004 ≤ 0) (h11 : 0 ≤ z3006 ∧ z3006 ≤ 1000) (h12 : 0 ≤ z3008 ∧ z3008 ≤ 1000) (h13 : 0 ≤ z3010 ∧ z3010 ≤ 3) : z3004 = 0 → z3010 = 0 ∨ z3008 + 1 ≤ z3006 := by omega
theorem vc_X12_addressRead_40 {f_lf z2977 z2979 z3004 z3006 z3008 z3010 : Int} (h0 : z3004 = 0) (h1 : z3008 ≤ z3006) (h2 : z3010 = 0 ∨ z3008 + 1 ≤ z3006) (h3 : z3010 = 1 → z3008 + 2 ≤ z3006) (h4 : z2979 + 1 ≤ z3008) (h5 : z2979 ≤ z2977) (h6 : f_lf + 1 ≤ z2979) (h7 : 0 ≤ f_lf ∧ f_lf ≤ 1000) (h8 : 0 ≤ z2977 ∧ z2977 ≤ 1000) (h9 : 0 ≤ z2979 ∧ z2979 ≤ 1000) (h10 : 0 ≤ z3004 ∧ z3004 ≤ 0) (h11 : 0 ≤ z3006 ∧ z3006 ≤ 1000) (h12 : 0 ≤ z3008 ∧ z3008 ≤ 1000) (h13 : 0 ≤ z3010 ∧ z3010 ≤ 3) : z3004 = 0 → z3010 = 1 → z3008 + 2 ≤ z3006 := by omega
theorem vc_X12_addressRead_41 {f_lf z2977 z2979 z3004 z3006 z3008 z3010 z3012 : Int} (h0 : z3004 = 0) (h1 : z3008 ≤ z3006) (h2 : z3010 = 0 ∨ z3008 + 1 ≤ z3006) (h3 : z3010 = 1 → z3008 + 2 ≤ z3006) (h4 : z3010 = 1 → z3012 = 0 ∨ z3012 = 4 ∨ z3012 = 5 ∨ z3008 + 3 ≤ z3006) (h5 : z2979 + 1 ≤ z3008) (h6 : z2979 ≤ z2977) (h7 : f_lf + 1 ≤ z2979) (h8 : 0 ≤ f_lf ∧ f_lf ≤ 1000) (h9 : 0 ≤ z2977 ∧ z2977 ≤ 1000) (h10 : 0 ≤ z2979 ∧ z2979 ≤ 1000) (h11 : 0 ≤ z3004 ∧ z3004 ≤ 0) (h12 : 0 ≤ z3006 ∧ z3006 ≤ 1000) (h13 : 0 ≤ z3008 ∧ z3008 ≤ 1000) (h14 : 0 ≤ z3010 ∧ z3010 ≤ 3) (h15 : (-2147483648) ≤ z3012 ∧ z3012 ≤ 2147483647) : z3004 = 0 → z3010 = 1 → z3012 = 0 ∨ z3012 = 4 ∨ z3012 = 5 ∨ z3008 + 3 ≤ z3006 := by omega
theorem vc_X12_addressRead_43 {f_at f_from f_la f_lf z2850 z2977 z2979 z3004 z3006 z3008 : Int} (h0 : f_from ≤ f_at) (h1 : f_from + z2850 ≤ f_lf) (h2 : z2850 < 4) (h3 : z2850 < 3) (h4 : z3004 = 0) (h5 : z3008 ≤ z3006) (h6 : z2979 + 1 ≤ z3008) (h7 : f_lf ≤ f_la) (h8 : z2979 ≤ z2977) (h9 : f_lf + 1 ≤ z2979) (h10 : 0 ≤ f_at ∧ f_at ≤ 1000) (h11 : 0 ≤ f_from ∧ f_from ≤ 1000) (h12 : 0 ≤ f_la ∧ f_la ≤ 1000) (h13 : 0 ≤ f_lf ∧ f_lf ≤ 1000) (h14 : 0 ≤ z2850 ∧ z2850 ≤ 2) (h15 : 0 ≤ z2977 ∧ z2977 ≤ 1000) (h16 : 0 ≤ z2979 ∧ z2979 ≤ 1000) (h17 : 0 ≤ z3004 ∧ z3004 ≤ 0) (h18 : 0 ≤ z3006 ∧ z3006 ≤ 1000) (h19 : 0 ≤ z3008 ∧ z3008 ≤ 1000) : z3004 = 0 → f_from + (z2850 + 1) ≤ z3008 := by omega
theorem vc_X12_addressRead_45 {N f_at f_from f_la f_lf z2850 z2979 : Int} (h0 : (5 - z2850) < N + 1) (h1 : f_from + z2850 ≤ f_lf) (h2 : z2850 < 4) (h3 : z2850 < 3) (h4 : f_from ≤ f_at) (h5 : f_lf ≤ f_la) (h6 : f_lf + 1 ≤ z2979) (h7 : 0 ≤ f_at ∧ f_at ≤ 1000) (h8 : 0 ≤ f_from ∧ f_from ≤ 1000) (h9 : 0 ≤ f_la ∧ f_la ≤ 1000) (h10 : 0 ≤ f_lf ∧ f_lf ≤ 1000) (h11 : 0 ≤ z2850 ∧ z2850 ≤ 2) (h12 : 0 ≤ z2979 ∧ z2979 ≤ 1000) : (5 - (z2850 + 1)) < N := by omega
theorem vc_X12_addressRead_47 {z3004 z3006 z3008 : Int} (h0 : ¬ z3004 = 0) (h1 : 1 ≤ z3004 ∧ z3004 ≤ 4) (h2 : 0 ≤ z3006 ∧ z3006 ≤ 1000) (h3 : 0 ≤ z3008 ∧ z3008 ≤ 1000) : z3004 = 0 → z3008 ≤ z3006 := by omega
theorem vc_X12_addressRead_48 {z3004 z3006 z3008 z3010 : Int} (h0 : ¬ z3004 = 0) (h1 : 1 ≤ z3004 ∧ z3004 ≤ 4) (h2 : 0 ≤ z3006 ∧ z3006 ≤ 1000) (h3 : 0 ≤ z3008 ∧ z3008 ≤ 1000) (h4 : 0 ≤ z3010 ∧ z3010 ≤ 3) : z3004 = 0 → z3010 = 0 ∨ z3008 + 1 ≤ z3006 := by omega
theorem vc_X12_addressRead_49 {z3004 z3006 z3008 z3010 : Int} (h0 : ¬ z3004 = 0) (h1 : 1 ≤ z3004 ∧ z3004 ≤ 4) (h2 : 0 ≤ z3006 ∧ z3006 ≤ 1000) (h3 : 0 ≤ z3008 ∧ z3008 ≤ 1000) (h4 : 0 ≤ z3010 ∧ z3010 ≤ 3) : z3004 = 0 → z3010 = 1 → z3008 + 2 ≤ z3006 := by omega
theorem vc_X12_addressRead_50 {z3004 z3006 z3008 z3010 z3012 : Int} (h0 : ¬ z3004 = 0) (h1 : 1 ≤ z3004 ∧ z3004 ≤ 4) (h2 : 0 ≤ z3006 ∧ z3006 ≤ 1000) (h3 : 0 ≤ z3008 ∧ z3008 ≤ 1000) (h4 : 0 ≤ z3010 ∧ z3010 ≤ 3) (h5 : (-2147483648) ≤ z3012 ∧ z3012 ≤ 2147483647) : z3004 = 0 → z3010 = 1 → z3012 = 0 ∨ z3012 = 4 ∨ z3012 = 5 ∨ z3008 + 3 ≤ z3006 := by omega
theorem vc_X12_addressRead_52 {f_at f_from f_la f_lf z2850 z2979 z3004 z3008 : Int} (h0 : f_from ≤ f_at) (h1 : f_from + z2850 ≤ f_lf) (h2 : z2850 < 4) (h3 : z2850 < 3) (h4 : ¬ z3004 = 0) (h5 : f_lf ≤ f_la) (h6 : f_lf + 1 ≤ z2979) (h7 : 0 ≤ f_at ∧ f_at ≤ 1000) (h8 : 0 ≤ f_from ∧ f_from ≤ 1000) (h9 : 0 ≤ f_la ∧ f_la ≤ 1000) (h10 : 0 ≤ f_lf ∧ f_lf ≤ 1000) (h11 : 0 ≤ z2850 ∧ z2850 ≤ 2) (h12 : 0 ≤ z2979 ∧ z2979 ≤ 1000) (h13 : 1 ≤ z3004 ∧ z3004 ≤ 4) (h14 : 0 ≤ z3008 ∧ z3008 ≤ 1000) : z3004 = 0 → f_from + (z2850 + 1) ≤ z3008 := by omega
theorem vc_X12_addressRead_60 {f_at f_from f_la f_lf z2850 z2975 z2979 : Int} (h0 : f_from ≤ f_at) (h1 : f_from + z2850 ≤ f_lf) (h2 : z2850 < 4) (h3 : ¬ z2975 = 0) (h4 : 3 ≤ z2850) (h5 : f_lf ≤ f_la) (h6 : 0 ≤ f_at ∧ f_at ≤ 1000) (h7 : 0 ≤ f_from ∧ f_from ≤ 1000) (h8 : 0 ≤ f_la ∧ f_la ≤ 1000) (h9 : 0 ≤ f_lf ∧ f_lf ≤ 1000) (h10 : 3 ≤ z2850 ∧ z2850 ≤ 3) (h11 : 1 ≤ z2975 ∧ z2975 ≤ 4) (h12 : 0 ≤ z2979 ∧ z2979 ≤ 1000) : z2975 = 0 → f_from + (z2850 + 1) ≤ z2979 := by omega
theorem vc_X12_addressRead_62 {N f_at f_from f_la f_lf z2850 : Int} (h0 : (5 - z2850) < N + 1) (h1 : f_from + z2850 ≤ f_lf) (h2 : z2850 < 4) (h3 : 3 ≤ z2850) (h4 : f_from ≤ f_at) (h5 : f_lf ≤ f_la) (h6 : 0 ≤ f_at ∧ f_at ≤ 1000) (h7 : 0 ≤ f_from ∧ f_from ≤ 1000) (h8 : 0 ≤ f_la ∧ f_la ≤ 1000) (h9 : 0 ≤ f_lf ∧ f_lf ≤ 1000) (h10 : 3 ≤ z2850 ∧ z2850 ≤ 3) : (5 - (z2850 + 1)) < N := by omega
theorem vc_X12_addressRead_65 {z2975 z3057 z3059 z3061 : Int} (h0 : z3057 = 0 → z3061 ≤ z3059) (h1 : 1 ≤ z3057) (h2 : ¬ z2975 = 0) (h3 : 1 ≤ z2975 ∧ z2975 ≤ 4) (h4 : 1 ≤ z3057 ∧ z3057 ≤ 4) (h5 : 0 ≤ z3059 ∧ z3059 ≤ 1000) (h6 : 0 ≤ z3061 ∧ z3061 ≤ 1000) : z3057 = 0 → z3061 ≤ z3059 := by omega
theorem vc_X12_addressRead_66 {z2975 z3057 z3059 z3061 z3063 : Int} (h0 : z3057 = 0 → z3061 ≤ z3059) (h1 : z3057 = 0 → z3063 = 0 ∨ z3061 + 1 ≤ z3059) (h2 : z3057 = 0 → z3063 = 1 → z3061 + 2 ≤ z3059) (h3 : 1 ≤ z3057) (h4 : ¬ z2975 = 0) (h5 : 1 ≤ z2975 ∧ z2975 ≤ 4) (h6 : 1 ≤ z3057 ∧ z3057 ≤ 4) (h7 : 0 ≤ z3059 ∧ z3059 ≤ 1000) (h8 : 0 ≤ z3061 ∧ z3061 ≤ 1000) (h9 : 0 ≤ z3063 ∧ z3063 ≤ 3) : z3057 = 0 → z3063 = 0 ∨ z3061 + 1 ≤ z3059 := by omega
theorem vc_X12_addressRead_67 {z2975 z3057 z3059 z3061 z3063 : Int} (h0 : z3057 = 0 → z3061 ≤ z3059) (h1 : z3057 = 0 → z3063 = 0 ∨ z3061 + 1 ≤ z3059) (h2 : z3057 = 0 → z3063 = 1 → z3061 + 2 ≤ z3059) (h3 : 1 ≤ z3057) (h4 : ¬ z2975 = 0) (h5 : 1 ≤ z2975 ∧ z2975 ≤ 4) (h6 : 1 ≤ z3057 ∧ z3057 ≤ 4) (h7 : 0 ≤ z3059 ∧ z3059 ≤ 1000) (h8 : 0 ≤ z3061 ∧ z3061 ≤ 1000) (h9 : 0 ≤ z3063 ∧ z3063 ≤ 3) : z3057 = 0 → z3063 = 1 → z3061 + 2 ≤ z3059 := by omega
theorem vc_X12_addressRead_68 {z2975 z3057 z3059 z3061 z3063 z3065 : Int} (h0 : z3057 = 0 → z3061 ≤ z3059) (h1 : z3057 = 0 → z3063 = 0 ∨ z3061 + 1 ≤ z3059) (h2 : z3057 = 0 → z3063 = 1 → z3061 + 2 ≤ z3059) (h3 : z3057 = 0 → z3063 = 1 → z3065 = 0 ∨ z3065 = 4 ∨ z3065 = 5 ∨ z3061 + 3 ≤ z3059) (h4 : 1 ≤ z3057) (h5 : ¬ z2975 = 0) (h6 : 1 ≤ z2975 ∧ z2975 ≤ 4) (h7 : 1 ≤ z3057 ∧ z3057 ≤ 4) (h8 : 0 ≤ z3059 ∧ z3059 ≤ 1000) (h9 : 0 ≤ z3061 ∧ z3061 ≤ 1000) (h10 : 0 ≤ z3063 ∧ z3063 ≤ 3) (h11 : (-2147483648) ≤ z3065 ∧ z3065 ≤ 2147483647) : z3057 = 0 → z3063 = 1 → z3065 = 0 ∨ z3065 = 4 ∨ z3065 = 5 ∨ z3061 + 3 ≤ z3059 := by omega
theorem vc_X12_addressRead_69 {f_code z2975 z3057 : Int} (h0 : f_code = 0) (h1 : 1 ≤ z3057) (h2 : ¬ z2975 = 0) (h3 : 0 ≤ f_code ∧ f_code ≤ 0) (h4 : 1 ≤ z2975 ∧ z2975 ≤ 4) (h5 : 1 ≤ z3057 ∧ z3057 ≤ 4) : z3057 = 0 → f_code = 0 := by omega
theorem vc_X12_addressRead_70 {f_at f_from f_la f_lf z2850 z2975 z3057 z3061 : Int} (h0 : f_from ≤ f_at) (h1 : f_from + z2850 ≤ f_lf) (h2 : z2850 < 4) (h3 : z2850 < 3) (h4 : 1 ≤ z3057) (h5 : f_lf ≤ f_la) (h6 : ¬ z2975 = 0) (h7 : 0 ≤ f_at ∧ f_at ≤ 1000) (h8 : 0 ≤ f_from ∧ f_from ≤ 1000) (h9 : 0 ≤ f_la ∧ f_la ≤ 1000) (h10 : 0 ≤ f_lf ∧ f_lf ≤ 1000) (h11 : 0 ≤ z2850 ∧ z2850 ≤ 2) (h12 : 1 ≤ z2975 ∧ z2975 ≤ 4) (h13 : 1 ≤ z3057 ∧ z3057 ≤ 4) (h14 : 0 ≤ z3061 ∧ z3061 ≤ 1000) : z3057 = 0 → f_from + (z2850 + 1) ≤ z3061 := by omega
theorem vc_X12_addressRead_71 {f_code z2975 z3057 : Int} (h0 : f_code = 0) (h1 : 1 ≤ z3057) (h2 : ¬ z2975 = 0) (h3 : 0 ≤ f_code ∧ f_code ≤ 0) (h4 : 1 ≤ z2975 ∧ z2975 ≤ 4) (h5 : 1 ≤ z3057 ∧ z3057 ≤ 4) : f_code = 0 ∨ 1 ≤ z3057 := by omega
theorem vc_X12_addressRead_72 {N f_at f_from f_la f_lf z2850 : Int} (h0 : (5 - z2850) < N + 1) (h1 : f_from + z2850 ≤ f_lf) (h2 : z2850 < 4) (h3 : z2850 < 3) (h4 : f_from ≤ f_at) (h5 : f_lf ≤ f_la) (h6 : 0 ≤ f_at ∧ f_at ≤ 1000) (h7 : 0 ≤ f_from ∧ f_from ≤ 1000) (h8 : 0 ≤ f_la ∧ f_la ≤ 1000) (h9 : 0 ≤ f_lf ∧ f_lf ≤ 1000) (h10 : 0 ≤ z2850 ∧ z2850 ≤ 2) : (5 - (z2850 + 1)) < N := by omega
theorem vc_X12_addressRead_74 {z2850 : Int} (h0 : 4 ≤ z2850) (h1 : 0 ≤ z2850 ∧ z2850 ≤ 4) : 4 ≤ z2850 ∧ z2850 ≤ 4 := by omega
theorem vc_X12_addressRead_78 {f_la f_lc f_lf f_ln f_lt : Int} (h0 : ¬ f_lc = 0) (h1 : 0 ≤ f_la ∧ f_la ≤ 1000) (h2 : 1 ≤ f_lc ∧ f_lc ≤ 4) (h3 : 0 ≤ f_lf ∧ f_lf ≤ 1000) (h4 : (-2147483648) ≤ f_ln ∧ f_ln ≤ 2147483647) (h5 : 0 ≤ f_lt ∧ f_lt ≤ 3) : f_lc = 0 → f_lt = 1 → f_ln = 0 ∨ f_ln = 4 ∨ f_ln = 5 ∨ f_lf + 3 ≤ f_la := by omega
theorem vc_X12_addressRead_80 {f_at f_from f_lc f_lf : Int} (h0 : f_from ≤ f_at) (h1 : ¬ f_lc = 0) (h2 : 0 ≤ f_at ∧ f_at ≤ 1000) (h3 : 0 ≤ f_from ∧ f_from ≤ 1000) (h4 : 1 ≤ f_lc ∧ f_lc ≤ 4) (h5 : 0 ≤ f_lf ∧ f_lf ≤ 1000) : f_lc = 0 → f_from + 4 ≤ f_lf := by omega
theorem vc_X12_addressRead_82 {z2850 : Int} (h0 : z2850 < 4) (h1 : 0 ≤ z2850 ∧ z2850 ≤ 4) : 0 ≤ z2850 ∧ z2850 ≤ 3 := by omega
theorem vc_X12_addressRead_85 {z2850 : Int} (h0 : 3 ≤ z2850) (h1 : z2850 < 4) (h2 : 0 ≤ z2850 ∧ z2850 ≤ 3) : 3 ≤ z2850 ∧ z2850 ≤ 3 := by omega
theorem vc_X12_addressRead_86 {z3139 z3141 z3143 : Int} (h0 : 1 ≤ z3139) (h1 : 1 ≤ z3139 ∧ z3139 ≤ 4) (h2 : 0 ≤ z3141 ∧ z3141 ≤ 1000) (h3 : 0 ≤ z3143 ∧ z3143 ≤ 1000) : z3139 = 0 → z3143 ≤ z3141 := by omega
theorem vc_X12_addressRead_87 {z3139 z3141 z3143 z3145 : Int} (h0 : 1 ≤ z3139) (h1 : 1 ≤ z3139 ∧ z3139 ≤ 4) (h2 : 0 ≤ z3141 ∧ z3141 ≤ 1000) (h3 : 0 ≤ z3143 ∧ z3143 ≤ 1000) (h4 : 0 ≤ z3145 ∧ z3145 ≤ 3) : z3139 = 0 → z3145 = 0 ∨ z3143 + 1 ≤ z3141 := by omega
theorem vc_X12_addressRead_88 {z3139 z3141 z3143 z3145 : Int} (h0 : 1 ≤ z3139) (h1 : 1 ≤ z3139 ∧ z3139 ≤ 4) (h2 : 0 ≤ z3141 ∧ z3141 ≤ 1000) (h3 : 0 ≤ z3143 ∧ z3143 ≤ 1000) (h4 : 0 ≤ z3145 ∧ z3145 ≤ 3) : z3139 = 0 → z3145 = 1 → z3143 + 2 ≤ z3141 := by omega
theorem vc_X12_addressRead_89 {z3139 z3141 z3143 z3145 z3147 : Int} (h0 : 1 ≤ z3139) (h1 : 1 ≤ z3139 ∧ z3139 ≤ 4) (h2 : 0 ≤ z3141 ∧ z3141 ≤ 1000) (h3 : 0 ≤ z3143 ∧ z3143 ≤ 1000) (h4 : 0 ≤ z3145 ∧ z3145 ≤ 3) (h5 : (-2147483648) ≤ z3147 ∧ z3147 ≤ 2147483647) : z3139 = 0 → z3145 = 1 → z3147 = 0 ∨ z3147 = 4 ∨ z3147 = 5 ∨ z3143 + 3 ≤ z3141 := by omega
theorem vc_X12_addressRead_90 {f_code z3139 : Int} (h0 : f_code = 0) (h1 : 1 ≤ z3139) (h2 : 0 ≤ f_code ∧ f_code ≤ 0) (h3 : 1 ≤ z3139 ∧ z3139 ≤ 4) : z3139 = 0 → f_code = 0 := by omega
theorem vc_X12_addressRead_91 {f_at f_from z2850 z3139 z3143 : Int} (h0 : f_from ≤ f_at) (h1 : z2850 < 4) (h2 : 1 ≤ z3139) (h3 : 3 ≤ z2850) (h4 : 0 ≤ f_at ∧ f_at ≤ 1000) (h5 : 0 ≤ f_from ∧ f_from ≤ 1000) (h6 : 3 ≤ z2850 ∧ z2850 ≤ 3) (h7 : 1 ≤ z3139 ∧ z3139 ≤ 4) (h8 : 0 ≤ z3143 ∧ z3143 ≤ 1000) : z3139 = 0 → f_from + (z2850 + 1) ≤ z3143 := by omega
theorem vc_X12_addressRead_92 {f_code z3139 : Int} (h0 : f_code = 0) (h1 : 1 ≤ z3139) (h2 : 0 ≤ f_code ∧ f_code ≤ 0) (h3 : 1 ≤ z3139 ∧ z3139 ≤ 4) : f_code = 0 ∨ 1 ≤ z3139 := by omega
theorem vc_X12_addressRead_93 {N z2850 : Int} (h0 : (5 - z2850) < N + 1) (h1 : z2850 < 4) (h2 : 3 ≤ z2850) (h3 : 3 ≤ z2850 ∧ z2850 ≤ 3) : (5 - (z2850 + 1)) < N := by omega
theorem vc_X12_addressRead_94 {z2850 : Int} (h0 : z2850 < 3) (h1 : z2850 < 4) (h2 : 0 ≤ z2850 ∧ z2850 ≤ 3) : 0 ≤ z2850 ∧ z2850 ≤ 2 := by omega
theorem vc_X12_addressRead_97 {z3139 z3189 z3191 z3193 : Int} (h0 : z3189 = 0 → z3193 ≤ z3191) (h1 : 1 ≤ z3189) (h2 : 1 ≤ z3139) (h3 : 1 ≤ z3139 ∧ z3139 ≤ 4) (h4 : 1 ≤ z3189 ∧ z3189 ≤ 4) (h5 : 0 ≤ z3191 ∧ z3191 ≤ 1000) (h6 : 0 ≤ z3193 ∧ z3193 ≤ 1000) : z3189 = 0 → z3193 ≤ z3191 := by omega
theorem vc_X12_addressRead_98 {z3139 z3189 z3191 z3193 z3195 : Int} (h0 : z3189 = 0 → z3193 ≤ z3191) (h1 : z3189 = 0 → z3195 = 0 ∨ z3193 + 1 ≤ z3191) (h2 : z3189 = 0 → z3195 = 1 → z3193 + 2 ≤ z3191) (h3 : 1 ≤ z3189) (h4 : 1 ≤ z3139) (h5 : 1 ≤ z3139 ∧ z3139 ≤ 4) (h6 : 1 ≤ z3189 ∧ z3189 ≤ 4) (h7 : 0 ≤ z3191 ∧ z3191 ≤ 1000) (h8 : 0 ≤ z3193 ∧ z3193 ≤ 1000) (h9 : 0 ≤ z3195 ∧ z3195 ≤ 3) : z3189 = 0 → z3195 = 0 ∨ z3193 + 1 ≤ z3191 := by omega
theorem vc_X12_addressRead_99 {z3139 z3189 z3191 z3193 z3195 : Int} (h0 : z3189 = 0 → z3193 ≤ z3191) (h1 : z3189 = 0 → z3195 = 0 ∨ z3193 + 1 ≤ z3191) (h2 : z3189 = 0 → z3195 = 1 → z3193 + 2 ≤ z3191) (h3 : 1 ≤ z3189) (h4 : 1 ≤ z3139) (h5 : 1 ≤ z3139 ∧ z3139 ≤ 4) (h6 : 1 ≤ z3189 ∧ z3189 ≤ 4) (h7 : 0 ≤ z3191 ∧ z3191 ≤ 1000) (h8 : 0 ≤ z3193 ∧ z3193 ≤ 1000) (h9 : 0 ≤ z3195 ∧ z3195 ≤ 3) : z3189 = 0 → z3195 = 1 → z3193 + 2 ≤ z3191 := by omega
theorem vc_X12_addressRead_100 {z3139 z3189 z3191 z3193 z3195 z3197 : Int} (h0 : z3189 = 0 → z3193 ≤ z3191) (h1 : z3189 = 0 → z3195 = 0 ∨ z3193 + 1 ≤ z3191) (h2 : z3189 = 0 → z3195 = 1 → z3193 + 2 ≤ z3191) (h3 : z3189 = 0 → z3195 = 1 → z3197 = 0 ∨ z3197 = 4 ∨ z3197 = 5 ∨ z3193 + 3 ≤ z3191) (h4 : 1 ≤ z3189) (h5 : 1 ≤ z3139) (h6 : 1 ≤ z3139 ∧ z3139 ≤ 4) (h7 : 1 ≤ z3189 ∧ z3189 ≤ 4) (h8 : 0 ≤ z3191 ∧ z3191 ≤ 1000) (h9 : 0 ≤ z3193 ∧ z3193 ≤ 1000) (h10 : 0 ≤ z3195 ∧ z3195 ≤ 3) (h11 : (-2147483648) ≤ z3197 ∧ z3197 ≤ 2147483647) : z3189 = 0 → z3195 = 1 → z3197 = 0 ∨ z3197 = 4 ∨ z3197 = 5 ∨ z3193 + 3 ≤ z3191 := by omega
theorem vc_X12_addressRead_102 {f_at f_from z2850 z3139 z3189 z3193 : Int} (h0 : f_from ≤ f_at) (h1 : z2850 < 4) (h2 : z2850 < 3) (h3 : 1 ≤ z3189) (h4 : 1 ≤ z3139) (h5 : 0 ≤ f_at ∧ f_at ≤ 1000) (h6 : 0 ≤ f_from ∧ f_from ≤ 1000) (h7 : 0 ≤ z2850 ∧ z2850 ≤ 2) (h8 : 1 ≤ z3139 ∧ z3139 ≤ 4) (h9 : 1 ≤ z3189 ∧ z3189 ≤ 4) (h10 : 0 ≤ z3193 ∧ z3193 ≤ 1000) : z3189 = 0 → f_from + (z2850 + 1) ≤ z3193 := by omega
theorem vc_X12_addressRead_104 {N z2850 : Int} (h0 : (5 - z2850) < N + 1) (h1 : z2850 < 4) (h2 : z2850 < 3) (h3 : 0 ≤ z2850 ∧ z2850 ≤ 2) : (5 - (z2850 + 1)) < N := by omega
theorem vc_X12_addressRead_105 {f_at f_code f_from : Int} (h0 : f_code = 0) (h1 : f_from ≤ f_at) (h2 : 0 ≤ f_at ∧ f_at ≤ 1000) (h3 : 0 ≤ f_code ∧ f_code ≤ 0) (h4 : 0 ≤ f_from ∧ f_from ≤ 1000) : f_code = 0 → f_from ≤ f_at := by omega
theorem vc_X12_addressRead_106 {f_at f_code f_from f_type : Int} (h0 : f_code = 0) (h1 : f_from ≤ f_at) (h2 : f_type = 0 ∨ f_from + 1 ≤ f_at) (h3 : f_type = 1 → f_from + 2 ≤ f_at) (h4 : 0 ≤ f_at ∧ f_at ≤ 1000) (h5 : 0 ≤ f_code ∧ f_code ≤ 0) (h6 : 0 ≤ f_from ∧ f_from ≤ 1000) (h7 : 0 ≤ f_type ∧ f_type ≤ 3) : f_code = 0 → f_type = 0 ∨ f_from + 1 ≤ f_at := by omega
theorem vc_X12_addressRead_107 {f_at f_code f_from f_type : Int} (h0 : f_code = 0) (h1 : f_from ≤ f_at) (h2 : f_type = 0 ∨ f_from + 1 ≤ f_at) (h3 : f_type = 1 → f_from + 2 ≤ f_at) (h4 : 0 ≤ f_at ∧ f_at ≤ 1000) (h5 : 0 ≤ f_code ∧ f_code ≤ 0) (h6 : 0 ≤ f_from ∧ f_from ≤ 1000) (h7 : 0 ≤ f_type ∧ f_type ≤ 3) : f_code = 0 → f_type = 1 → f_from + 2 ≤ f_at := by omega
theorem vc_X12_addressRead_108 {f_at f_code f_from f_number f_type : Int} (h0 : f_code = 0) (h1 : f_from ≤ f_at) (h2 : f_type = 0 ∨ f_from + 1 ≤ f_at) (h3 : f_type = 1 → f_from + 2 ≤ f_at) (h4 : f_type = 1 → f_number = 0 ∨ f_number = 4 ∨ f_number = 5 ∨ f_from + 3 ≤ f_at) (h5 : 0 ≤ f_at ∧ f_at ≤ 1000) (h6 : 0 ≤ f_code ∧ f_code ≤ 0) (h7 : 0 ≤ f_from ∧ f_from ≤ 1000) (h8 : (-2147483648) ≤ f_number ∧ f_number ≤ 2147483647) (h9 : 0 ≤ f_type ∧ f_type ≤ 3) : f_code = 0 → f_type = 1 → f_number = 0 ∨ f_number = 4 ∨ f_number = 5 ∨ f_from + 3 ≤ f_at := by omega
theorem vc_X12_addressRead_110 {f_at f_code f_from : Int} (h0 : f_code = 0) (h1 : f_from ≤ f_at) (h2 : 0 ≤ f_at ∧ f_at ≤ 1000) (h3 : 0 ≤ f_code ∧ f_code ≤ 0) (h4 : 0 ≤ f_from ∧ f_from ≤ 1000) : f_code = 0 → f_from + (0 : Int) ≤ f_from := by omega
theorem vc_X12_addressRead_116 {f_code f_lc : Int} (h0 : ¬ f_code = 0) (h1 : f_lc = 0) (h2 : f_code = 0) (h3 : 1 ≤ f_code ∧ f_code ≤ 4) (h4 : 0 ≤ f_lc ∧ f_lc ≤ 0) : False := by omega
theorem vc_X12_addressRead_118 {f_la f_lc f_lf : Int} (h0 : ¬ f_lc = 0) (h1 : 1 ≤ f_lc) (h2 : 0 ≤ f_la ∧ f_la ≤ 1000) (h3 : 1 ≤ f_lc ∧ f_lc ≤ 4) (h4 : 0 ≤ f_lf ∧ f_lf ≤ 1000) : f_lc = 0 → f_lf ≤ f_la := by omega
theorem vc_X12_addressRead_119 {f_la f_lc f_lf f_lt : Int} (h0 : ¬ f_lc = 0) (h1 : 1 ≤ f_lc) (h2 : 0 ≤ f_la ∧ f_la ≤ 1000) (h3 : 1 ≤ f_lc ∧ f_lc ≤ 4) (h4 : 0 ≤ f_lf ∧ f_lf ≤ 1000) (h5 : 0 ≤ f_lt ∧ f_lt ≤ 3) : f_lc = 0 → f_lt = 0 ∨ f_lf + 1 ≤ f_la := by omega
theorem vc_X12_addressRead_120 {f_la f_lc f_lf f_lt : Int} (h0 : ¬ f_lc = 0) (h1 : 1 ≤ f_lc) (h2 : 0 ≤ f_la ∧ f_la ≤ 1000) (h3 : 1 ≤ f_lc ∧ f_lc ≤ 4) (h4 : 0 ≤ f_lf ∧ f_lf ≤ 1000) (h5 : 0 ≤ f_lt ∧ f_lt ≤ 3) : f_lc = 0 → f_lt = 1 → f_lf + 2 ≤ f_la := by omega
theorem vc_X12_addressRead_121 {f_la f_lc f_lf f_ln f_lt : Int} (h0 : ¬ f_lc = 0) (h1 : 1 ≤ f_lc) (h2 : 0 ≤ f_la ∧ f_la ≤ 1000) (h3 : 1 ≤ f_lc ∧ f_lc ≤ 4) (h4 : 0 ≤ f_lf ∧ f_lf ≤ 1000) (h5 : (-2147483648) ≤ f_ln ∧ f_ln ≤ 2147483647) (h6 : 0 ≤ f_lt ∧ f_lt ≤ 3) : f_lc = 0 → f_lt = 1 → f_ln = 0 ∨ f_ln = 4 ∨ f_ln = 5 ∨ f_lf + 3 ≤ f_la := by omega
theorem vc_X12_addressRead_122 {f_code f_lc : Int} (h0 : ¬ f_code = 0) (h1 : ¬ f_lc = 0) (h2 : 1 ≤ f_lc) (h3 : 1 ≤ f_code ∧ f_code ≤ 4) (h4 : 1 ≤ f_lc ∧ f_lc ≤ 4) : f_lc = 0 → f_code = 0 := by omega
theorem vc_X12_addressRead_123 {f_from f_lc f_lf : Int} (h0 : ¬ f_lc = 0) (h1 : 1 ≤ f_lc) (h2 : 0 ≤ f_from ∧ f_from ≤ 1000) (h3 : 1 ≤ f_lc ∧ f_lc ≤ 4) (h4 : 0 ≤ f_lf ∧ f_lf ≤ 1000) : f_lc = 0 → f_from + 4 ≤ f_lf := by omega
theorem vc_X12_addressRead_124 {f_code f_lc : Int} (h0 : ¬ f_code = 0) (h1 : ¬ f_lc = 0) (h2 : 1 ≤ f_lc) (h3 : 1 ≤ f_code ∧ f_code ≤ 4) (h4 : 1 ≤ f_lc ∧ f_lc ≤ 4) : f_code = 0 ∨ 1 ≤ f_lc := by omega
theorem vc_X12_addressRead_132 {f_code z3714 : Int} (h0 : ¬ f_code = 0) (h1 : 1 ≤ z3714) (h2 : 1 ≤ f_code ∧ f_code ≤ 4) (h3 : 1 ≤ z3714 ∧ z3714 ≤ 4) : z3714 = 0 → f_code = 0 := by omega
theorem vc_X12_addressRead_133 {f_from z3619 z3714 z3718 : Int} (h0 : z3619 < 4) (h1 : 1 ≤ z3714) (h2 : 3 ≤ z3619) (h3 : 0 ≤ f_from ∧ f_from ≤ 1000) (h4 : 3 ≤ z3619 ∧ z3619 ≤ 3) (h5 : 1 ≤ z3714 ∧ z3714 ≤ 4) (h6 : 0 ≤ z3718 ∧ z3718 ≤ 1000) : z3714 = 0 → f_from + (z3619 + 1) ≤ z3718 := by omega
theorem vc_X12_addressRead_134 {f_code z3714 : Int} (h0 : ¬ f_code = 0) (h1 : 1 ≤ z3714) (h2 : 1 ≤ f_code ∧ f_code ≤ 4) (h3 : 1 ≤ z3714 ∧ z3714 ≤ 4) : f_code = 0 ∨ 1 ≤ z3714 := by omega
theorem vc_X12_addressRead_144 {f_from z3619 z3714 z3764 z3768 : Int} (h0 : z3619 < 4) (h1 : z3619 < 3) (h2 : 1 ≤ z3764) (h3 : 1 ≤ z3714) (h4 : 0 ≤ f_from ∧ f_from ≤ 1000) (h5 : 0 ≤ z3619 ∧ z3619 ≤ 2) (h6 : 1 ≤ z3714 ∧ z3714 ≤ 4) (h7 : 1 ≤ z3764 ∧ z3764 ≤ 4) (h8 : 0 ≤ z3768 ∧ z3768 ≤ 1000) : z3764 = 0 → f_from + (z3619 + 1) ≤ z3768 := by omega
theorem vc_X12_addressRead_152 {f_code f_from : Int} (h0 : ¬ f_code = 0) (h1 : 1 ≤ f_code ∧ f_code ≤ 4) (h2 : 0 ≤ f_from ∧ f_from ≤ 1000) : f_code = 0 → f_from + (0 : Int) ≤ f_from := by omega
set_option maxRecDepth 4000 in
set_option maxHeartbeats 4000000 in
theorem c_X12_addressRead {l : Launch} {D : va_G} {c : Nat → ClassId} {H0 : Heap} {sa : Nat × Nat × (Nat → Int32)} {w : mW} {μ : mM} (hw : mWF w) (hT : mT w μ) {f_code : Int} (q_f_code : μ 106 37 = f_code) {f_at : Int} (q_f_at : μ 106 33 = f_at) {f_from : Int} (q_f_from : μ 106 34 = f_from) {f_type : Int} (q_f_type : μ 106 35 = f_type) {f_number : Int} (q_f_number : μ 106 36 = f_number) (hq0 : f_code = 0 → f_from ≤ f_at) (hq1 : f_code = 0 → f_type = 0 ∨ f_from + 1 ≤ f_at) (hq2 : f_code = 0 → f_type = 1 → f_from + 2 ≤ f_at) (hq3 : f_code = 0 → f_type = 1 → f_number = 0 ∨ f_number = 4 ∨ f_number = 5 ∨ f_from + 3 ≤ f_at) : sC (gG l D c H0 sa) mX12_addressRead 4 0 0 [.ref 106] (mk w μ) (qI w [106033, 106034, 106035, 106036, 106037, 106038] μ (fun z μ1 => ∃ o_code o_at o_from o_type o_number : Int, μ1 106 37 = o_code ∧ μ1 106 33 = o_at ∧ μ1 106 34 = o_from ∧ μ1 106 35 = o_type ∧ μ1 106 36 = o_number ∧ ((-2147483648) ≤ z ∧ z ≤ 2147483647) ∧ (o_code = 0 → o_from ≤ o_at) ∧ (o_code = 0 → o_type = 0 ∨ o_from + 1 ≤ o_at) ∧ (o_code = 0 → o_type = 1 → o_from + 2 ≤ o_at) ∧ (o_code = 0 → o_type = 1 → o_number = 0 ∨ o_number = 4 ∨ o_number = 5 ∨ o_from + 3 ≤ o_at) ∧ (o_code = 0 → f_code = 0) ∧ (o_code = 0 → f_from + 4 ≤ o_from) ∧ (f_code = 0 ∨ 1 ≤ o_code) ∧ True)) := by
  refine sC.of rfl (by decide) (le_t rfl) ?_
  have ht_f_code : (0 ≤ f_code ∧ f_code ≤ 4) := by rw [← q_f_code]; exact hT 106 106 (A_106 hw) 37
  have ht_f_at : (0 ≤ f_at ∧ f_at ≤ 1000) := by rw [← q_f_at]; exact hT 106 106 (A_106 hw) 33
  have ht_f_from : (0 ≤ f_from ∧ f_from ≤ 1000) := by rw [← q_f_from]; exact hT 106 106 (A_106 hw) 34
  have ht_f_type : (0 ≤ f_type ∧ f_type ≤ 3) := by rw [← q_f_type]; exact hT 106 106 (A_106 hw) 35
  have ht_f_number : ((-2147483648) ≤ f_number ∧ f_number ≤ 2147483647) := by rw [← q_f_number]; exact hT 106 106 (A_106 hw) 36
  refine mr_lvE (lv' := [(0, .ref 106)]) rfl ?_
  by_cases h1952 : f_code = 0
  · have h1953 : 0 ≤ f_code ∧ f_code ≤ 0 := (vc_X12_wrong_4 h1952 ht_f_code)
    refine mr_iconst (pc := 0) (z := 0) dX12_addressRead_0 ?_
    refine mr_istore_n (pc := 1) (lv' := [(1, iv 0), (0, .ref 106)]) dX12_addressRead_1 rfl (by decide) rfl ?_
    refine mr_iconst (pc := 2) (z := 0) dX12_addressRead_2 ?_
    refine mr_istore_n (pc := 3) (lv' := [(2, iv 0), (1, iv 0), (0, .ref 106)]) dX12_addressRead_3 rfl (by decide) rfl ?_
    have L2853 : ∀ (nL2853 : Nat) (z2851 z2850 : Int) (μ2852 : mM) (f_lc : Int) (f_la : Int) (f_lf : Int) (f_lt : Int) (f_ln : Int), mT w μ2852 → mF [106033, 106034, 106035, 106036, 106037, 106038] w μ μ2852 → μ2852 106 (37) = f_lc → μ2852 106 (33) = f_la → μ2852 106 (34) = f_lf → μ2852 106 (35) = f_lt → μ2852 106 (36) = f_ln → ((-2147483648) ≤ z2851 ∧ z2851 ≤ 2147483647) → (0 ≤ z2850 ∧ z2850 ≤ 4) → (f_lc = 0 → f_lf ≤ f_la) → (f_lc = 0 → f_lt = 0 ∨ f_lf + 1 ≤ f_la) → (f_lc = 0 → f_lt = 1 → f_lf + 2 ≤ f_la) → (f_lc = 0 → f_lt = 1 → f_ln = 0 ∨ f_ln = 4 ∨ f_ln = 5 ∨ f_lf + 3 ≤ f_la) → (f_lc = 0 → f_code = 0) → (f_lc = 0 → f_from + z2850 ≤ f_lf) → (f_code = 0 ∨ 1 ≤ f_lc) → (5 - z2850) < (nL2853 : Int) → sV (gG l D c H0 sa) mX12_addressRead (sRm 4 0 0) (sZ (gG l D c H0 sa) 0 0 (qI w [106033, 106034, 106035, 106036, 106037, 106038] μ (fun z μ1 => ∃ o_code o_at o_from o_type o_number : Int, μ1 106 37 = o_code ∧ μ1 106 33 = o_at ∧ μ1 106 34 = o_from ∧ μ1 106 35 = o_type ∧ μ1 106 36 = o_number ∧ ((-2147483648) ≤ z ∧ z ≤ 2147483647) ∧ (o_code = 0 → o_from ≤ o_at) ∧ (o_code = 0 → o_type = 0 ∨ o_from + 1 ≤ o_at) ∧ (o_code = 0 → o_type = 1 → o_from + 2 ≤ o_at) ∧ (o_code = 0 → o_type = 1 → o_number = 0 ∨ o_number = 4 ∨ o_number = 5 ∨ o_from + 3 ≤ o_at) ∧ (o_code = 0 → f_code = 0) ∧ (o_code = 0 → f_from + 4 ≤ o_from) ∧ (f_code = 0 ∨ 1 ≤ o_code) ∧ True))) 4 [(0, .ref 106), (1, iv z2851), (2, iv z2850)] [] (mk w μ2852) 0 0 := by
      intro nL2853
      induction nL2853 with
      | zero => intro z2851 z2850 μ2852 f_lc f_la f_lf f_lt f_ln T2856 F2857 q2867 q2868 q2869 q2870 q2871 h2854 h2855 h2859 h2860 h2861 h2862 h2863 h2864 h2865 h2866; exact ((vc_X12_addressRead_3 h2866 (hq0 (vc_X12_sign_2 h1953)) ht_f_at ht_f_from h2855)).elim
      | succ nL2853 ih2872 =>
        intro z2851 z2850 μ2852 f_lc f_la f_lf f_lt f_ln T2856 F2857 q2867 q2868 q2869 q2870 q2871 h2854 h2855 h2859 h2860 h2861 h2862 h2863 h2864 h2865 h2866
        have h2873 : (0 ≤ f_lc ∧ f_lc ≤ 4) := by rw [← q2867]; exact T2856 106 106 (A_106 hw) (37)
        have h2874 : (0 ≤ f_la ∧ f_la ≤ 1000) := by rw [← q2868]; exact T2856 106 106 (A_106 hw) (33)
        have h2875 : (0 ≤ f_lf ∧ f_lf ≤ 1000) := by rw [← q2869]; exact T2856 106 106 (A_106 hw) (34)
        have h2876 : (0 ≤ f_lt ∧ f_lt ≤ 3) := by rw [← q2870]; exact T2856 106 106 (A_106 hw) (35)
        have h2877 : ((-2147483648) ≤ f_ln ∧ f_ln ≤ 2147483647) := by rw [← q2871]; exact T2856 106 106 (A_106 hw) (36)
        refine mr_iload_n (pc := 4) (z := z2850) dX12_addressRead_4 rfl rfl ?_
        by_cases h2878 : f_lc = 0
        · have h2879 : 0 ≤ f_lc ∧ f_lc ≤ 0 := (vc_X12_wrong_4 h2878 h2873)
          refine mr_iconst (pc := 5) (z := 4) dX12_addressRead_5 ?_
          refine mr_icmp_ge (pc := 6) (tgt := 40) dX12_addressRead_6 (by decide) (r32 h2855 rfl) (r32 (rR (x := 4)) rfl) (fun h2964 => ?_) (fun h2964 => ?_)
          · have h2965 : 4 ≤ z2850 ∧ z2850 ≤ 4 := (vc_X12_addressRead_6 h2964 (h2864 (vc_X12_sign_2 h2879)) ht_f_from h2875 h2855)
            refine mr_iload_n (pc := 40) (z := z2851) dX12_addressRead_40 rfl rfl ?_
            exact mr_iret dX12_addressRead_41 rfl (le_t rfl) (le_t rfl) T2856 (mF.call mF.refl F2857 rfl) ⟨f_lc, f_la, f_lf, f_lt, f_ln, q2867, q2868, q2869, q2870, q2871, h2854, (vc_X12_addressRead_7 h2878 (h2859 (vc_X12_sign_2 h2879)) (h2864 (vc_X12_sign_2 h2879)) (hq0 (vc_X12_sign_2 h1953)) h2964 ht_f_at ht_f_from h2874 h2879 h2875 h2965), (vc_X12_addressRead_8 h2878 (h2859 (vc_X12_sign_2 h2879)) (h2860 (vc_X12_sign_2 h2879)) (h2861 (vc_X12_sign_2 h2879)) (h2864 (vc_X12_sign_2 h2879)) (hq0 (vc_X12_sign_2 h1953)) h2964 ht_f_at ht_f_from h2874 h2879 h2875 h2876 h2965), (vc_X12_addressRead_9 h2878 (h2859 (vc_X12_sign_2 h2879)) (h2860 (vc_X12_sign_2 h2879)) (h2861 (vc_X12_sign_2 h2879)) (h2864 (vc_X12_sign_2 h2879)) (hq0 (vc_X12_sign_2 h1953)) h2964 ht_f_at ht_f_from h2874 h2879 h2875 h2876 h2965), (vc_X12_addressRead_10 h2878 (h2859 (vc_X12_sign_2 h2879)) (h2860 (vc_X12_sign_2 h2879)) (h2861 (vc_X12_sign_2 h2879)) (h2862 (vc_X12_sign_2 h2879)) (h2864 (vc_X12_sign_2 h2879)) (hq0 (vc_X12_sign_2 h1953)) h2964 ht_f_at ht_f_from h2874 h2879 h2875 h2877 h2876 h2965), (vc_X12_within_13 h1952 h2878 h1953 h2879), (vc_X12_addressRead_12 (hq0 (vc_X12_sign_2 h1953)) h2878 (h2859 (vc_X12_sign_2 h2879)) (h2864 (vc_X12_sign_2 h2879)) h2964 ht_f_at ht_f_from h2874 h2879 h2875 h2965), (vc_X12_within_15 h1952 h2878 h1953 h2879), trivial⟩
          have h2966 : 0 ≤ z2850 ∧ z2850 ≤ 3 := (vc_X12_addressRead_14 h2964 (h2864 (vc_X12_sign_2 h2879)) ht_f_from h2875 h2855)
          refine mr_iload_n (pc := 9) (z := z2851) dX12_addressRead_9 rfl rfl ?_
          refine mr_bipush (pc := 10) (z := 8) dX12_addressRead_10 (by decide) ?_
          refine mr_ishl (pc := 12) (x := z2851) (y := 8) dX12_addressRead_12 ?_
          refine mr_gen (P := fun z => (-2147483648) ≤ z ∧ z ≤ 2147483647) (r32i _) fun z2967 q2968 h2969 => ?_
          refine sv_aload_n (pc := 13) dX12_addressRead_13 rfl rfl ?_
          refine mr_iconst (pc := 14) (z := 0) dX12_addressRead_14 ?_
          refine mr_sipush (pc := 15) (z := 255) dX12_addressRead_15 (by decide) ?_
          refine mr_cVI (pc := 18) (c_X12_within hw T2856 (rW (c := (-2147483648)) (d := 2147483647) (rR (x := 0)) rfl) (rW (c := (-2147483648)) (d := 2147483647) (rR (x := 255)) rfl) q2867 q2868 q2869 q2870 q2871 (vc_X12_addressRead_15 h2878 (h2859 (vc_X12_sign_2 h2879)) (h2864 (vc_X12_sign_2 h2879)) (hq0 (vc_X12_sign_2 h1953)) h2964 ht_f_at ht_f_from h2874 h2879 h2875 h2966) (vc_X12_addressRead_16 h2878 (h2859 (vc_X12_sign_2 h2879)) (h2860 (vc_X12_sign_2 h2879)) (h2861 (vc_X12_sign_2 h2879)) (h2864 (vc_X12_sign_2 h2879)) (hq0 (vc_X12_sign_2 h1953)) h2964 ht_f_at ht_f_from h2874 h2879 h2875 h2876 h2966) (vc_X12_addressRead_17 h2878 (h2859 (vc_X12_sign_2 h2879)) (h2860 (vc_X12_sign_2 h2879)) (h2861 (vc_X12_sign_2 h2879)) (h2864 (vc_X12_sign_2 h2879)) (hq0 (vc_X12_sign_2 h1953)) h2964 ht_f_at ht_f_from h2874 h2879 h2875 h2876 h2966) (vc_X12_addressRead_18 h2878 (h2859 (vc_X12_sign_2 h2879)) (h2860 (vc_X12_sign_2 h2879)) (h2861 (vc_X12_sign_2 h2879)) (h2862 (vc_X12_sign_2 h2879)) (h2864 (vc_X12_sign_2 h2879)) (hq0 (vc_X12_sign_2 h1953)) h2964 ht_f_at ht_f_from h2874 h2879 h2875 h2877 h2876 h2966)) (gOk _ _ _ _ _) dX12_addressRead_18 (tX12_within _ _ _ _ _) ⟨wV_X12_within, wL_X12_within⟩ wM_X12_314 (gCX12 _ _ _ _ _) rfl (A_106 hw) rfl ⟨le_t rfl, le_t rfl⟩ ⟨le_t rfl, le_t rfl⟩ rfl (le_t rfl) fun z2974 μ2970 T2971 F2972 h2973 => ?_
          obtain ⟨z2975, z2977, z2979, z2981, z2983, q2976, q2978, q2980, q2982, q2984, h2985⟩ := h2973
          have h2986 : (0 ≤ z2975 ∧ z2975 ≤ 4) := by rw [← q2976]; exact T2971 106 106 (A_106 hw) 37
          have h2987 : (0 ≤ z2977 ∧ z2977 ≤ 1000) := by rw [← q2978]; exact T2971 106 106 (A_106 hw) 33
          have h2988 : (0 ≤ z2979 ∧ z2979 ≤ 1000) := by rw [← q2980]; exact T2971 106 106 (A_106 hw) 34
          have h2989 : (0 ≤ z2981 ∧ z2981 ≤ 3) := by rw [← q2982]; exact T2971 106 106 (A_106 hw) 35
          have h2990 : ((-2147483648) ≤ z2983 ∧ z2983 ≤ 2147483647) := by rw [← q2984]; exact T2971 106 106 (A_106 hw) 36
          by_cases h2991 : z2975 = 0
          · have h2992 : 0 ≤ z2975 ∧ z2975 ≤ 0 := (vc_X12_wrong_4 h2991 h2986)
            have h2993 : 0 ≤ z2974 ∧ z2974 ≤ 255 := (vc_X12_addressRead_21 (h2985.2.2.2.2.2.2.2.2.1 (vc_X12_sign_2 h2992)) h2985.1)
            refine mr_ior (pc := 21) (x := z2967) (y := z2974) dX12_addressRead_21 ?_
            refine mr_gen (P := fun z => (-2147483648) ≤ z ∧ z ≤ 2147483647) (r32i _) fun z2994 q2995 h2996 => ?_
            refine mr_istore_n (pc := 22) (lv' := [(1, iv z2994), (0, .ref 106), (2, iv z2850)]) dX12_addressRead_22 rfl (by decide) rfl ?_
            refine mr_iload_n (pc := 23) (z := z2850) dX12_addressRead_23 rfl rfl ?_
            refine mr_iconst (pc := 24) (z := 3) dX12_addressRead_24 ?_
            refine mr_icmp_ge (pc := 25) (tgt := 34) dX12_addressRead_25 (by decide) (r32 h2966 rfl) (r32 (rR (x := 3)) rfl) (fun h2997 => ?_) (fun h2997 => ?_)
            · have h2998 : 3 ≤ z2850 ∧ z2850 ≤ 3 := (vc_X12_addressRead_22 h2997 (h2864 (vc_X12_sign_2 h2879)) h2964 ht_f_from h2875 h2966)
              refine mr_iinc (pc := 34) (lv' := [(2, iv (z2850 + 1)), (1, iv z2994), (0, .ref 106)]) dX12_addressRead_34 rfl (by decide) rfl ?_
              refine sv_goto (pc := 37) (tgt := 4) dX12_addressRead_37 (by decide) ?_
              refine mr_lvS (lv' := [(0, .ref 106), (1, iv z2994), (2, iv (z2850 + 1))]) (List.forall_mem_cons.mpr ⟨rfl, List.forall_mem_cons.mpr ⟨rfl, List.forall_mem_cons.mpr ⟨rfl, fun _ h => absurd h List.not_mem_nil⟩⟩⟩) ?_
              exact ih2872 z2994 (z2850 + 1) μ2970 z2975 z2977 z2979 z2981 z2983 T2971 (mF.call (mF.call mF.refl F2857 rfl) F2972 rfl) q2976 q2978 q2980 q2982 q2984 h2996 (rW (c := 0) (d := 4) (rAdd (e := 4) (f := 4) h2998 (rR (x := 1)) rfl) rfl) (vc_X12_addressRead_23 h2991 (h2985.2.1 (vc_X12_sign_2 h2992)) (h2985.2.2.2.2.2.2.1 (vc_X12_sign_2 h2992)) (h2859 (vc_X12_sign_2 h2879)) (h2864 (vc_X12_sign_2 h2879)) ht_f_from h2874 h2875 h2998 h2992 h2987 h2988) (vc_X12_addressRead_24 h2991 (h2985.2.1 (vc_X12_sign_2 h2992)) (h2985.2.2.1 (vc_X12_sign_2 h2992)) (h2985.2.2.2.1 (vc_X12_sign_2 h2992)) (h2985.2.2.2.2.2.2.1 (vc_X12_sign_2 h2992)) (h2859 (vc_X12_sign_2 h2879)) (h2864 (vc_X12_sign_2 h2879)) ht_f_from h2874 h2875 h2998 h2992 h2987 h2988 h2989) (vc_X12_addressRead_25 h2991 (h2985.2.1 (vc_X12_sign_2 h2992)) (h2985.2.2.1 (vc_X12_sign_2 h2992)) (h2985.2.2.2.1 (vc_X12_sign_2 h2992)) (h2985.2.2.2.2.2.2.1 (vc_X12_sign_2 h2992)) (h2859 (vc_X12_sign_2 h2879)) (h2864 (vc_X12_sign_2 h2879)) ht_f_from h2874 h2875 h2998 h2992 h2987 h2988 h2989) (vc_X12_addressRead_26 h2991 (h2985.2.1 (vc_X12_sign_2 h2992)) (h2985.2.2.1 (vc_X12_sign_2 h2992)) (h2985.2.2.2.1 (vc_X12_sign_2 h2992)) (h2985.2.2.2.2.1 (vc_X12_sign_2 h2992)) (h2985.2.2.2.2.2.2.1 (vc_X12_sign_2 h2992)) (h2859 (vc_X12_sign_2 h2879)) (h2864 (vc_X12_sign_2 h2879)) ht_f_from h2874 h2875 h2998 h2992 h2987 h2988 h2989 h2990) (vc_X12_within_13 h1952 h2991 h1953 h2992) (vc_X12_addressRead_28 (hq0 (vc_X12_sign_2 h1953)) (h2864 (vc_X12_sign_2 h2879)) h2964 h2991 (h2985.2.1 (vc_X12_sign_2 h2992)) (h2985.2.2.2.2.2.2.1 (vc_X12_sign_2 h2992)) h2997 (h2859 (vc_X12_sign_2 h2879)) ht_f_at ht_f_from h2874 h2875 h2998 h2992 h2987 h2988) (vc_X12_within_15 h1952 h2991 h1953 h2992) (vc_X12_addressRead_30 (nS h2866) (h2864 (vc_X12_sign_2 h2879)) h2964 h2997 (hq0 (vc_X12_sign_2 h1953)) (h2859 (vc_X12_sign_2 h2879)) (h2985.2.2.2.2.2.2.1 (vc_X12_sign_2 h2992)) ht_f_at ht_f_from h2874 h2875 h2998 h2988)
            have h2999 : 0 ≤ z2850 ∧ z2850 ≤ 2 := (vc_X12_addressRead_31 h2997 (h2864 (vc_X12_sign_2 h2879)) h2964 ht_f_from h2875 h2966)
            refine sv_aload_n (pc := 28) dX12_addressRead_28 rfl rfl ?_
            refine mr_bipush (pc := 29) (z := 46) dX12_addressRead_29 (by decide) ?_
            refine mr_cVV (pc := 31) (c_X12_sign hw T2971 (rW (c := (-2147483648)) (d := 2147483647) (rR (x := 46)) rfl) q2976 q2978 q2980 q2982 q2984 (vc_X12_addressRead_32 h2991 (h2985.2.1 (vc_X12_sign_2 h2992)) (h2985.2.2.2.2.2.2.1 (vc_X12_sign_2 h2992)) (h2859 (vc_X12_sign_2 h2879)) (h2864 (vc_X12_sign_2 h2879)) ht_f_from h2874 h2875 h2999 h2992 h2987 h2988) (vc_X12_addressRead_33 h2991 (h2985.2.1 (vc_X12_sign_2 h2992)) (h2985.2.2.1 (vc_X12_sign_2 h2992)) (h2985.2.2.2.1 (vc_X12_sign_2 h2992)) (h2985.2.2.2.2.2.2.1 (vc_X12_sign_2 h2992)) (h2859 (vc_X12_sign_2 h2879)) (h2864 (vc_X12_sign_2 h2879)) ht_f_from h2874 h2875 h2999 h2992 h2987 h2988 h2989) (vc_X12_addressRead_34 h2991 (h2985.2.1 (vc_X12_sign_2 h2992)) (h2985.2.2.1 (vc_X12_sign_2 h2992)) (h2985.2.2.2.1 (vc_X12_sign_2 h2992)) (h2985.2.2.2.2.2.2.1 (vc_X12_sign_2 h2992)) (h2859 (vc_X12_sign_2 h2879)) (h2864 (vc_X12_sign_2 h2879)) ht_f_from h2874 h2875 h2999 h2992 h2987 h2988 h2989) (vc_X12_addressRead_35 h2991 (h2985.2.1 (vc_X12_sign_2 h2992)) (h2985.2.2.1 (vc_X12_sign_2 h2992)) (h2985.2.2.2.1 (vc_X12_sign_2 h2992)) (h2985.2.2.2.2.1 (vc_X12_sign_2 h2992)) (h2985.2.2.2.2.2.2.1 (vc_X12_sign_2 h2992)) (h2859 (vc_X12_sign_2 h2879)) (h2864 (vc_X12_sign_2 h2879)) ht_f_from h2874 h2875 h2999 h2992 h2987 h2988 h2989 h2990)) (gOk _ _ _ _ _) dX12_addressRead_31 (tX12_sign _ _ _ _ _) ⟨wV_X12_sign, wL_X12_sign⟩ wM_X12_317 (gCX12 _ _ _ _ _) rfl (A_106 hw) rfl ⟨le_t rfl, le_t rfl⟩ ⟨le_t rfl, le_t rfl⟩ rfl (le_t rfl) fun μ3000 T3001 F3002 h3003 => ?_
            obtain ⟨z3004, z3006, z3008, z3010, z3012, q3005, q3007, q3009, q3011, q3013, h3014⟩ := h3003
            have h3015 : (0 ≤ z3004 ∧ z3004 ≤ 4) := by rw [← q3005]; exact T3001 106 106 (A_106 hw) 37
            have h3016 : (0 ≤ z3006 ∧ z3006 ≤ 1000) := by rw [← q3007]; exact T3001 106 106 (A_106 hw) 33
            have h3017 : (0 ≤ z3008 ∧ z3008 ≤ 1000) := by rw [← q3009]; exact T3001 106 106 (A_106 hw) 34
            have h3018 : (0 ≤ z3010 ∧ z3010 ≤ 3) := by rw [← q3011]; exact T3001 106 106 (A_106 hw) 35
            have h3019 : ((-2147483648) ≤ z3012 ∧ z3012 ≤ 2147483647) := by rw [← q3013]; exact T3001 106 106 (A_106 hw) 36
            by_cases h3020 : z3004 = 0
            · have h3021 : 0 ≤ z3004 ∧ z3004 ≤ 0 := (vc_X12_wrong_4 h3020 h3015)
              refine mr_iinc (pc := 34) (lv' := [(2, iv (z2850 + 1)), (1, iv z2994), (0, .ref 106)]) dX12_addressRead_34 rfl (by decide) rfl ?_
              refine sv_goto (pc := 37) (tgt := 4) dX12_addressRead_37 (by decide) ?_
              refine mr_lvS (lv' := [(0, .ref 106), (1, iv z2994), (2, iv (z2850 + 1))]) (List.forall_mem_cons.mpr ⟨rfl, List.forall_mem_cons.mpr ⟨rfl, List.forall_mem_cons.mpr ⟨rfl, fun _ h => absurd h List.not_mem_nil⟩⟩⟩) ?_
              exact ih2872 z2994 (z2850 + 1) μ3000 z3004 z3006 z3008 z3010 z3012 T3001 (mF.call (mF.call (mF.call mF.refl F2857 rfl) F2972 rfl) F3002 rfl) q3005 q3007 q3009 q3011 q3013 h2996 (rW (c := 0) (d := 4) (rAdd (e := 1) (f := 3) h2999 (rR (x := 1)) rfl) rfl) (vc_X12_addressRead_38 h3020 (h3014.1 (vc_X12_sign_2 h3021)) (h3014.2.2.2.2.2.1 (vc_X12_sign_2 h3021)) (h2985.2.1 (vc_X12_sign_2 h2992)) (h2985.2.2.2.2.2.2.1 (vc_X12_sign_2 h2992)) h2875 h2987 h2988 h3021 h3016 h3017) (vc_X12_addressRead_39 h3020 (h3014.1 (vc_X12_sign_2 h3021)) (h3014.2.1 (vc_X12_sign_2 h3021)) (h3014.2.2.1 (vc_X12_sign_2 h3021)) (h3014.2.2.2.2.2.1 (vc_X12_sign_2 h3021)) (h2985.2.1 (vc_X12_sign_2 h2992)) (h2985.2.2.2.2.2.2.1 (vc_X12_sign_2 h2992)) h2875 h2987 h2988 h3021 h3016 h3017 h3018) (vc_X12_addressRead_40 h3020 (h3014.1 (vc_X12_sign_2 h3021)) (h3014.2.1 (vc_X12_sign_2 h3021)) (h3014.2.2.1 (vc_X12_sign_2 h3021)) (h3014.2.2.2.2.2.1 (vc_X12_sign_2 h3021)) (h2985.2.1 (vc_X12_sign_2 h2992)) (h2985.2.2.2.2.2.2.1 (vc_X12_sign_2 h2992)) h2875 h2987 h2988 h3021 h3016 h3017 h3018) (vc_X12_addressRead_41 h3020 (h3014.1 (vc_X12_sign_2 h3021)) (h3014.2.1 (vc_X12_sign_2 h3021)) (h3014.2.2.1 (vc_X12_sign_2 h3021)) (h3014.2.2.2.1 (vc_X12_sign_2 h3021)) (h3014.2.2.2.2.2.1 (vc_X12_sign_2 h3021)) (h2985.2.1 (vc_X12_sign_2 h2992)) (h2985.2.2.2.2.2.2.1 (vc_X12_sign_2 h2992)) h2875 h2987 h2988 h3021 h3016 h3017 h3018 h3019) (vc_X12_within_13 h1952 h3020 h1953 h3021) (vc_X12_addressRead_43 (hq0 (vc_X12_sign_2 h1953)) (h2864 (vc_X12_sign_2 h2879)) h2964 h2997 h3020 (h3014.1 (vc_X12_sign_2 h3021)) (h3014.2.2.2.2.2.1 (vc_X12_sign_2 h3021)) (h2859 (vc_X12_sign_2 h2879)) (h2985.2.1 (vc_X12_sign_2 h2992)) (h2985.2.2.2.2.2.2.1 (vc_X12_sign_2 h2992)) ht_f_at ht_f_from h2874 h2875 h2999 h2987 h2988 h3021 h3016 h3017) (vc_X12_within_15 h1952 h3020 h1953 h3021) (vc_X12_addressRead_45 (nS h2866) (h2864 (vc_X12_sign_2 h2879)) h2964 h2997 (hq0 (vc_X12_sign_2 h1953)) (h2859 (vc_X12_sign_2 h2879)) (h2985.2.2.2.2.2.2.1 (vc_X12_sign_2 h2992)) ht_f_at ht_f_from h2874 h2875 h2999 h2988)
            have h3022 : 1 ≤ z3004 ∧ z3004 ≤ 4 := (vc_X12_wrong_1 h3020 h3015)
            refine mr_iinc (pc := 34) (lv' := [(2, iv (z2850 + 1)), (1, iv z2994), (0, .ref 106)]) dX12_addressRead_34 rfl (by decide) rfl ?_
            refine sv_goto (pc := 37) (tgt := 4) dX12_addressRead_37 (by decide) ?_
            refine mr_lvS (lv' := [(0, .ref 106), (1, iv z2994), (2, iv (z2850 + 1))]) (List.forall_mem_cons.mpr ⟨rfl, List.forall_mem_cons.mpr ⟨rfl, List.forall_mem_cons.mpr ⟨rfl, fun _ h => absurd h List.not_mem_nil⟩⟩⟩) ?_
            exact ih2872 z2994 (z2850 + 1) μ3000 z3004 z3006 z3008 z3010 z3012 T3001 (mF.call (mF.call (mF.call mF.refl F2857 rfl) F2972 rfl) F3002 rfl) q3005 q3007 q3009 q3011 q3013 h2996 (rW (c := 0) (d := 4) (rAdd (e := 1) (f := 3) h2999 (rR (x := 1)) rfl) rfl) (vc_X12_addressRead_47 h3020 h3022 h3016 h3017) (vc_X12_addressRead_48 h3020 h3022 h3016 h3017 h3018) (vc_X12_addressRead_49 h3020 h3022 h3016 h3017 h3018) (vc_X12_addressRead_50 h3020 h3022 h3016 h3017 h3018 h3019) (vc_X12_within_22 h1952 h3020 h1953 h3022) (vc_X12_addressRead_52 (hq0 (vc_X12_sign_2 h1953)) (h2864 (vc_X12_sign_2 h2879)) h2964 h2997 h3020 (h2859 (vc_X12_sign_2 h2879)) (h2985.2.2.2.2.2.2.1 (vc_X12_sign_2 h2992)) ht_f_at ht_f_from h2874 h2875 h2999 h2988 h3022 h3017) (vc_X12_within_24 h1952 h3020 h1953 h3022) (vc_X12_addressRead_45 (nS h2866) (h2864 (vc_X12_sign_2 h2879)) h2964 h2997 (hq0 (vc_X12_sign_2 h1953)) (h2859 (vc_X12_sign_2 h2879)) (h2985.2.2.2.2.2.2.1 (vc_X12_sign_2 h2992)) ht_f_at ht_f_from h2874 h2875 h2999 h2988)
          have h3023 : 1 ≤ z2975 ∧ z2975 ≤ 4 := (vc_X12_wrong_1 h2991 h2986)
          refine mr_ior (pc := 21) (x := z2967) (y := z2974) dX12_addressRead_21 ?_
          refine mr_gen (P := fun z => (-2147483648) ≤ z ∧ z ≤ 2147483647) (r32i _) fun z3024 q3025 h3026 => ?_
          refine mr_istore_n (pc := 22) (lv' := [(1, iv z3024), (0, .ref 106), (2, iv z2850)]) dX12_addressRead_22 rfl (by decide) rfl ?_
          refine mr_iload_n (pc := 23) (z := z2850) dX12_addressRead_23 rfl rfl ?_
          refine mr_iconst (pc := 24) (z := 3) dX12_addressRead_24 ?_
          refine mr_icmp_ge (pc := 25) (tgt := 34) dX12_addressRead_25 (by decide) (r32 h2966 rfl) (r32 (rR (x := 3)) rfl) (fun h3050 => ?_) (fun h3050 => ?_)
          · have h3051 : 3 ≤ z2850 ∧ z2850 ≤ 3 := (vc_X12_addressRead_22 h3050 (h2864 (vc_X12_sign_2 h2879)) h2964 ht_f_from h2875 h2966)
            refine mr_iinc (pc := 34) (lv' := [(2, iv (z2850 + 1)), (1, iv z3024), (0, .ref 106)]) dX12_addressRead_34 rfl (by decide) rfl ?_
            refine sv_goto (pc := 37) (tgt := 4) dX12_addressRead_37 (by decide) ?_
            refine mr_lvS (lv' := [(0, .ref 106), (1, iv z3024), (2, iv (z2850 + 1))]) (List.forall_mem_cons.mpr ⟨rfl, List.forall_mem_cons.mpr ⟨rfl, List.forall_mem_cons.mpr ⟨rfl, fun _ h => absurd h List.not_mem_nil⟩⟩⟩) ?_
            exact ih2872 z3024 (z2850 + 1) μ2970 z2975 z2977 z2979 z2981 z2983 T2971 (mF.call (mF.call mF.refl F2857 rfl) F2972 rfl) q2976 q2978 q2980 q2982 q2984 h3026 (rW (c := 0) (d := 4) (rAdd (e := 4) (f := 4) h3051 (rR (x := 1)) rfl) rfl) (vc_X12_addressRead_47 h2991 h3023 h2987 h2988) (vc_X12_addressRead_48 h2991 h3023 h2987 h2988 h2989) (vc_X12_addressRead_49 h2991 h3023 h2987 h2988 h2989) (vc_X12_addressRead_50 h2991 h3023 h2987 h2988 h2989 h2990) (vc_X12_within_22 h1952 h2991 h1953 h3023) (vc_X12_addressRead_60 (hq0 (vc_X12_sign_2 h1953)) (h2864 (vc_X12_sign_2 h2879)) h2964 h2991 h3050 (h2859 (vc_X12_sign_2 h2879)) ht_f_at ht_f_from h2874 h2875 h3051 h3023 h2988) (vc_X12_within_24 h1952 h2991 h1953 h3023) (vc_X12_addressRead_62 (nS h2866) (h2864 (vc_X12_sign_2 h2879)) h2964 h3050 (hq0 (vc_X12_sign_2 h1953)) (h2859 (vc_X12_sign_2 h2879)) ht_f_at ht_f_from h2874 h2875 h3051)
          have h3052 : 0 ≤ z2850 ∧ z2850 ≤ 2 := (vc_X12_addressRead_31 h3050 (h2864 (vc_X12_sign_2 h2879)) h2964 ht_f_from h2875 h2966)
          refine sv_aload_n (pc := 28) dX12_addressRead_28 rfl rfl ?_
          refine mr_bipush (pc := 29) (z := 46) dX12_addressRead_29 (by decide) ?_
          refine mr_cVV (pc := 31) (c_X12_sign hw T2971 (rW (c := (-2147483648)) (d := 2147483647) (rR (x := 46)) rfl) q2976 q2978 q2980 q2982 q2984 (vc_X12_addressRead_47 h2991 h3023 h2987 h2988) (vc_X12_addressRead_48 h2991 h3023 h2987 h2988 h2989) (vc_X12_addressRead_49 h2991 h3023 h2987 h2988 h2989) (vc_X12_addressRead_50 h2991 h3023 h2987 h2988 h2989 h2990)) (gOk _ _ _ _ _) dX12_addressRead_31 (tX12_sign _ _ _ _ _) ⟨wV_X12_sign, wL_X12_sign⟩ wM_X12_317 (gCX12 _ _ _ _ _) rfl (A_106 hw) rfl ⟨le_t rfl, le_t rfl⟩ ⟨le_t rfl, le_t rfl⟩ rfl (le_t rfl) fun μ3053 T3054 F3055 h3056 => ?_
          obtain ⟨z3057, z3059, z3061, z3063, z3065, q3058, q3060, q3062, q3064, q3066, h3067⟩ := h3056
          have h3068 : (0 ≤ z3057 ∧ z3057 ≤ 4) := by rw [← q3058]; exact T3054 106 106 (A_106 hw) 37
          have h3069 : (0 ≤ z3059 ∧ z3059 ≤ 1000) := by rw [← q3060]; exact T3054 106 106 (A_106 hw) 33
          have h3070 : (0 ≤ z3061 ∧ z3061 ≤ 1000) := by rw [← q3062]; exact T3054 106 106 (A_106 hw) 34
          have h3071 : (0 ≤ z3063 ∧ z3063 ≤ 3) := by rw [← q3064]; exact T3054 106 106 (A_106 hw) 35
          have h3072 : ((-2147483648) ≤ z3065 ∧ z3065 ≤ 2147483647) := by rw [← q3066]; exact T3054 106 106 (A_106 hw) 36
          have h3073 : 1 ≤ z3057 ∧ z3057 ≤ 4 := (vc_X12_next_128 (h3067.2.2.2.2.2.2.1.resolve_left (vc_X12_sign_27 h3023)) h3068)
          refine mr_iinc (pc := 34) (lv' := [(2, iv (z2850 + 1)), (1, iv z3024), (0, .ref 106)]) dX12_addressRead_34 rfl (by decide) rfl ?_
          refine sv_goto (pc := 37) (tgt := 4) dX12_addressRead_37 (by decide) ?_
          refine mr_lvS (lv' := [(0, .ref 106), (1, iv z3024), (2, iv (z2850 + 1))]) (List.forall_mem_cons.mpr ⟨rfl, List.forall_mem_cons.mpr ⟨rfl, List.forall_mem_cons.mpr ⟨rfl, fun _ h => absurd h List.not_mem_nil⟩⟩⟩) ?_
          exact ih2872 z3024 (z2850 + 1) μ3053 z3057 z3059 z3061 z3063 z3065 T3054 (mF.call (mF.call (mF.call mF.refl F2857 rfl) F2972 rfl) F3055 rfl) q3058 q3060 q3062 q3064 q3066 h3026 (rW (c := 0) (d := 4) (rAdd (e := 1) (f := 3) h3052 (rR (x := 1)) rfl) rfl) (vc_X12_addressRead_65 h3067.1 (h3067.2.2.2.2.2.2.1.resolve_left (vc_X12_sign_27 h3023)) h2991 h3023 h3073 h3069 h3070) (vc_X12_addressRead_66 h3067.1 h3067.2.1 h3067.2.2.1 (h3067.2.2.2.2.2.2.1.resolve_left (vc_X12_sign_27 h3023)) h2991 h3023 h3073 h3069 h3070 h3071) (vc_X12_addressRead_67 h3067.1 h3067.2.1 h3067.2.2.1 (h3067.2.2.2.2.2.2.1.resolve_left (vc_X12_sign_27 h3023)) h2991 h3023 h3073 h3069 h3070 h3071) (vc_X12_addressRead_68 h3067.1 h3067.2.1 h3067.2.2.1 h3067.2.2.2.1 (h3067.2.2.2.2.2.2.1.resolve_left (vc_X12_sign_27 h3023)) h2991 h3023 h3073 h3069 h3070 h3071 h3072) (vc_X12_addressRead_69 h1952 (h3067.2.2.2.2.2.2.1.resolve_left (vc_X12_sign_27 h3023)) h2991 h1953 h3023 h3073) (vc_X12_addressRead_70 (hq0 (vc_X12_sign_2 h1953)) (h2864 (vc_X12_sign_2 h2879)) h2964 h3050 (h3067.2.2.2.2.2.2.1.resolve_left (vc_X12_sign_27 h3023)) (h2859 (vc_X12_sign_2 h2879)) h2991 ht_f_at ht_f_from h2874 h2875 h3052 h3023 h3073 h3070) (vc_X12_addressRead_71 h1952 (h3067.2.2.2.2.2.2.1.resolve_left (vc_X12_sign_27 h3023)) h2991 h1953 h3023 h3073) (vc_X12_addressRead_72 (nS h2866) (h2864 (vc_X12_sign_2 h2879)) h2964 h3050 (hq0 (vc_X12_sign_2 h1953)) (h2859 (vc_X12_sign_2 h2879)) ht_f_at ht_f_from h2874 h2875 h3052)
        have h3074 : 1 ≤ f_lc ∧ f_lc ≤ 4 := (vc_X12_wrong_1 h2878 h2873)
        refine mr_iconst (pc := 5) (z := 4) dX12_addressRead_5 ?_
        refine mr_icmp_ge (pc := 6) (tgt := 40) dX12_addressRead_6 (by decide) (r32 h2855 rfl) (r32 (rR (x := 4)) rfl) (fun h3128 => ?_) (fun h3128 => ?_)
        · have h3129 : 4 ≤ z2850 ∧ z2850 ≤ 4 := (vc_X12_addressRead_74 h3128 h2855)
          refine mr_iload_n (pc := 40) (z := z2851) dX12_addressRead_40 rfl rfl ?_
          exact mr_iret dX12_addressRead_41 rfl (le_t rfl) (le_t rfl) T2856 (mF.call mF.refl F2857 rfl) ⟨f_lc, f_la, f_lf, f_lt, f_ln, q2867, q2868, q2869, q2870, q2871, h2854, (vc_X12_next_485 h2878 h2874 h3074 h2875), (vc_X12_next_486 h2878 h2874 h3074 h2875 h2876), (vc_X12_next_487 h2878 h2874 h3074 h2875 h2876), (vc_X12_addressRead_78 h2878 h2874 h3074 h2875 h2877 h2876), (vc_X12_within_22 h1952 h2878 h1953 h3074), (vc_X12_addressRead_80 (hq0 (vc_X12_sign_2 h1953)) h2878 ht_f_at ht_f_from h3074 h2875), (vc_X12_within_24 h1952 h2878 h1953 h3074), trivial⟩
        have h3130 : 0 ≤ z2850 ∧ z2850 ≤ 3 := (vc_X12_addressRead_82 h3128 h2855)
        refine mr_iload_n (pc := 9) (z := z2851) dX12_addressRead_9 rfl rfl ?_
        refine mr_bipush (pc := 10) (z := 8) dX12_addressRead_10 (by decide) ?_
        refine mr_ishl (pc := 12) (x := z2851) (y := 8) dX12_addressRead_12 ?_
        refine mr_gen (P := fun z => (-2147483648) ≤ z ∧ z ≤ 2147483647) (r32i _) fun z3131 q3132 h3133 => ?_
        refine sv_aload_n (pc := 13) dX12_addressRead_13 rfl rfl ?_
        refine mr_iconst (pc := 14) (z := 0) dX12_addressRead_14 ?_
        refine mr_sipush (pc := 15) (z := 255) dX12_addressRead_15 (by decide) ?_
        refine mr_cVI (pc := 18) (c_X12_within hw T2856 (rW (c := (-2147483648)) (d := 2147483647) (rR (x := 0)) rfl) (rW (c := (-2147483648)) (d := 2147483647) (rR (x := 255)) rfl) q2867 q2868 q2869 q2870 q2871 (vc_X12_next_485 h2878 h2874 h3074 h2875) (vc_X12_next_486 h2878 h2874 h3074 h2875 h2876) (vc_X12_next_487 h2878 h2874 h3074 h2875 h2876) (vc_X12_addressRead_78 h2878 h2874 h3074 h2875 h2877 h2876)) (gOk _ _ _ _ _) dX12_addressRead_18 (tX12_within _ _ _ _ _) ⟨wV_X12_within, wL_X12_within⟩ wM_X12_314 (gCX12 _ _ _ _ _) rfl (A_106 hw) rfl ⟨le_t rfl, le_t rfl⟩ ⟨le_t rfl, le_t rfl⟩ rfl (le_t rfl) fun z3138 μ3134 T3135 F3136 h3137 => ?_
        obtain ⟨z3139, z3141, z3143, z3145, z3147, q3140, q3142, q3144, q3146, q3148, h3149⟩ := h3137
        have h3150 : (0 ≤ z3139 ∧ z3139 ≤ 4) := by rw [← q3140]; exact T3135 106 106 (A_106 hw) 37
        have h3151 : (0 ≤ z3141 ∧ z3141 ≤ 1000) := by rw [← q3142]; exact T3135 106 106 (A_106 hw) 33
        have h3152 : (0 ≤ z3143 ∧ z3143 ≤ 1000) := by rw [← q3144]; exact T3135 106 106 (A_106 hw) 34
        have h3153 : (0 ≤ z3145 ∧ z3145 ≤ 3) := by rw [← q3146]; exact T3135 106 106 (A_106 hw) 35
        have h3154 : ((-2147483648) ≤ z3147 ∧ z3147 ≤ 2147483647) := by rw [← q3148]; exact T3135 106 106 (A_106 hw) 36
        have h3155 : 1 ≤ z3139 ∧ z3139 ≤ 4 := (vc_X12_next_128 (h3149.2.2.2.2.2.2.2.1.resolve_left (vc_X12_sign_27 h3074)) h3150)
        refine mr_ior (pc := 21) (x := z3131) (y := z3138) dX12_addressRead_21 ?_
        refine mr_gen (P := fun z => (-2147483648) ≤ z ∧ z ≤ 2147483647) (r32i _) fun z3156 q3157 h3158 => ?_
        refine mr_istore_n (pc := 22) (lv' := [(1, iv z3156), (0, .ref 106), (2, iv z2850)]) dX12_addressRead_22 rfl (by decide) rfl ?_
        refine mr_iload_n (pc := 23) (z := z2850) dX12_addressRead_23 rfl rfl ?_
        refine mr_iconst (pc := 24) (z := 3) dX12_addressRead_24 ?_
        refine mr_icmp_ge (pc := 25) (tgt := 34) dX12_addressRead_25 (by decide) (r32 h3130 rfl) (r32 (rR (x := 3)) rfl) (fun h3182 => ?_) (fun h3182 => ?_)
        · have h3183 : 3 ≤ z2850 ∧ z2850 ≤ 3 := (vc_X12_addressRead_85 h3182 h3128 h3130)
          refine mr_iinc (pc := 34) (lv' := [(2, iv (z2850 + 1)), (1, iv z3156), (0, .ref 106)]) dX12_addressRead_34 rfl (by decide) rfl ?_
          refine sv_goto (pc := 37) (tgt := 4) dX12_addressRead_37 (by decide) ?_
          refine mr_lvS (lv' := [(0, .ref 106), (1, iv z3156), (2, iv (z2850 + 1))]) (List.forall_mem_cons.mpr ⟨rfl, List.forall_mem_cons.mpr ⟨rfl, List.forall_mem_cons.mpr ⟨rfl, fun _ h => absurd h List.not_mem_nil⟩⟩⟩) ?_
          exact ih2872 z3156 (z2850 + 1) μ3134 z3139 z3141 z3143 z3145 z3147 T3135 (mF.call (mF.call mF.refl F2857 rfl) F3136 rfl) q3140 q3142 q3144 q3146 q3148 h3158 (rW (c := 0) (d := 4) (rAdd (e := 4) (f := 4) h3183 (rR (x := 1)) rfl) rfl) (vc_X12_addressRead_86 (h3149.2.2.2.2.2.2.2.1.resolve_left (vc_X12_sign_27 h3074)) h3155 h3151 h3152) (vc_X12_addressRead_87 (h3149.2.2.2.2.2.2.2.1.resolve_left (vc_X12_sign_27 h3074)) h3155 h3151 h3152 h3153) (vc_X12_addressRead_88 (h3149.2.2.2.2.2.2.2.1.resolve_left (vc_X12_sign_27 h3074)) h3155 h3151 h3152 h3153) (vc_X12_addressRead_89 (h3149.2.2.2.2.2.2.2.1.resolve_left (vc_X12_sign_27 h3074)) h3155 h3151 h3152 h3153 h3154) (vc_X12_addressRead_90 h1952 (h3149.2.2.2.2.2.2.2.1.resolve_left (vc_X12_sign_27 h3074)) h1953 h3155) (vc_X12_addressRead_91 (hq0 (vc_X12_sign_2 h1953)) h3128 (h3149.2.2.2.2.2.2.2.1.resolve_left (vc_X12_sign_27 h3074)) h3182 ht_f_at ht_f_from h3183 h3155 h3152) (vc_X12_addressRead_92 h1952 (h3149.2.2.2.2.2.2.2.1.resolve_left (vc_X12_sign_27 h3074)) h1953 h3155) (vc_X12_addressRead_93 (nS h2866) h3128 h3182 h3183)
        have h3184 : 0 ≤ z2850 ∧ z2850 ≤ 2 := (vc_X12_addressRead_94 h3182 h3128 h3130)
        refine sv_aload_n (pc := 28) dX12_addressRead_28 rfl rfl ?_
        refine mr_bipush (pc := 29) (z := 46) dX12_addressRead_29 (by decide) ?_
        refine mr_cVV (pc := 31) (c_X12_sign hw T3135 (rW (c := (-2147483648)) (d := 2147483647) (rR (x := 46)) rfl) q3140 q3142 q3144 q3146 q3148 (vc_X12_addressRead_86 (h3149.2.2.2.2.2.2.2.1.resolve_left (vc_X12_sign_27 h3074)) h3155 h3151 h3152) (vc_X12_addressRead_87 (h3149.2.2.2.2.2.2.2.1.resolve_left (vc_X12_sign_27 h3074)) h3155 h3151 h3152 h3153) (vc_X12_addressRead_88 (h3149.2.2.2.2.2.2.2.1.resolve_left (vc_X12_sign_27 h3074)) h3155 h3151 h3152 h3153) (vc_X12_addressRead_89 (h3149.2.2.2.2.2.2.2.1.resolve_left (vc_X12_sign_27 h3074)) h3155 h3151 h3152 h3153 h3154)) (gOk _ _ _ _ _) dX12_addressRead_31 (tX12_sign _ _ _ _ _) ⟨wV_X12_sign, wL_X12_sign⟩ wM_X12_317 (gCX12 _ _ _ _ _) rfl (A_106 hw) rfl ⟨le_t rfl, le_t rfl⟩ ⟨le_t rfl, le_t rfl⟩ rfl (le_t rfl) fun μ3185 T3186 F3187 h3188 => ?_
        obtain ⟨z3189, z3191, z3193, z3195, z3197, q3190, q3192, q3194, q3196, q3198, h3199⟩ := h3188
        have h3200 : (0 ≤ z3189 ∧ z3189 ≤ 4) := by rw [← q3190]; exact T3186 106 106 (A_106 hw) 37
        have h3201 : (0 ≤ z3191 ∧ z3191 ≤ 1000) := by rw [← q3192]; exact T3186 106 106 (A_106 hw) 33
        have h3202 : (0 ≤ z3193 ∧ z3193 ≤ 1000) := by rw [← q3194]; exact T3186 106 106 (A_106 hw) 34
        have h3203 : (0 ≤ z3195 ∧ z3195 ≤ 3) := by rw [← q3196]; exact T3186 106 106 (A_106 hw) 35
        have h3204 : ((-2147483648) ≤ z3197 ∧ z3197 ≤ 2147483647) := by rw [← q3198]; exact T3186 106 106 (A_106 hw) 36
        have h3205 : 1 ≤ z3189 ∧ z3189 ≤ 4 := (vc_X12_next_128 (h3199.2.2.2.2.2.2.1.resolve_left (vc_X12_sign_27 h3155)) h3200)
        refine mr_iinc (pc := 34) (lv' := [(2, iv (z2850 + 1)), (1, iv z3156), (0, .ref 106)]) dX12_addressRead_34 rfl (by decide) rfl ?_
        refine sv_goto (pc := 37) (tgt := 4) dX12_addressRead_37 (by decide) ?_
        refine mr_lvS (lv' := [(0, .ref 106), (1, iv z3156), (2, iv (z2850 + 1))]) (List.forall_mem_cons.mpr ⟨rfl, List.forall_mem_cons.mpr ⟨rfl, List.forall_mem_cons.mpr ⟨rfl, fun _ h => absurd h List.not_mem_nil⟩⟩⟩) ?_
        exact ih2872 z3156 (z2850 + 1) μ3185 z3189 z3191 z3193 z3195 z3197 T3186 (mF.call (mF.call (mF.call mF.refl F2857 rfl) F3136 rfl) F3187 rfl) q3190 q3192 q3194 q3196 q3198 h3158 (rW (c := 0) (d := 4) (rAdd (e := 1) (f := 3) h3184 (rR (x := 1)) rfl) rfl) (vc_X12_addressRead_97 h3199.1 (h3199.2.2.2.2.2.2.1.resolve_left (vc_X12_sign_27 h3155)) (h3149.2.2.2.2.2.2.2.1.resolve_left (vc_X12_sign_27 h3074)) h3155 h3205 h3201 h3202) (vc_X12_addressRead_98 h3199.1 h3199.2.1 h3199.2.2.1 (h3199.2.2.2.2.2.2.1.resolve_left (vc_X12_sign_27 h3155)) (h3149.2.2.2.2.2.2.2.1.resolve_left (vc_X12_sign_27 h3074)) h3155 h3205 h3201 h3202 h3203) (vc_X12_addressRead_99 h3199.1 h3199.2.1 h3199.2.2.1 (h3199.2.2.2.2.2.2.1.resolve_left (vc_X12_sign_27 h3155)) (h3149.2.2.2.2.2.2.2.1.resolve_left (vc_X12_sign_27 h3074)) h3155 h3205 h3201 h3202 h3203) (vc_X12_addressRead_100 h3199.1 h3199.2.1 h3199.2.2.1 h3199.2.2.2.1 (h3199.2.2.2.2.2.2.1.resolve_left (vc_X12_sign_27 h3155)) (h3149.2.2.2.2.2.2.2.1.resolve_left (vc_X12_sign_27 h3074)) h3155 h3205 h3201 h3202 h3203 h3204) (vc_X12_sign_33 h1952 (h3199.2.2.2.2.2.2.1.resolve_left (vc_X12_sign_27 h3155)) (h3149.2.2.2.2.2.2.2.1.resolve_left (vc_X12_sign_27 h3074)) h1953 h3155 h3205) (vc_X12_addressRead_102 (hq0 (vc_X12_sign_2 h1953)) h3128 h3182 (h3199.2.2.2.2.2.2.1.resolve_left (vc_X12_sign_27 h3155)) (h3149.2.2.2.2.2.2.2.1.resolve_left (vc_X12_sign_27 h3074)) ht_f_at ht_f_from h3184 h3155 h3205 h3202) (vc_X12_sign_35 h1952 (h3199.2.2.2.2.2.2.1.resolve_left (vc_X12_sign_27 h3155)) (h3149.2.2.2.2.2.2.2.1.resolve_left (vc_X12_sign_27 h3074)) h1953 h3155 h3205) (vc_X12_addressRead_104 (nS h2866) h3128 h3182 h3184)
    refine mr_lvS (lv' := [(0, .ref 106), (1, iv 0), (2, iv 0)]) (List.forall_mem_cons.mpr ⟨rfl, List.forall_mem_cons.mpr ⟨rfl, List.forall_mem_cons.mpr ⟨rfl, fun _ h => absurd h List.not_mem_nil⟩⟩⟩) ?_
    exact L2853 6 0 0 μ f_code f_at f_from f_type f_number hT mF.refl q_f_code q_f_at q_f_from q_f_type q_f_number (rW (c := (-2147483648)) (d := 2147483647) (rR (x := 0)) rfl) (rW (c := 0) (d := 4) (rR (x := 0)) rfl) (vc_X12_addressRead_105 h1952 (hq0 (vc_X12_sign_2 h1953)) ht_f_at h1953 ht_f_from) (vc_X12_addressRead_106 h1952 (hq0 (vc_X12_sign_2 h1953)) (hq1 (vc_X12_sign_2 h1953)) (hq2 (vc_X12_sign_2 h1953)) ht_f_at h1953 ht_f_from ht_f_type) (vc_X12_addressRead_107 h1952 (hq0 (vc_X12_sign_2 h1953)) (hq1 (vc_X12_sign_2 h1953)) (hq2 (vc_X12_sign_2 h1953)) ht_f_at h1953 ht_f_from ht_f_type) (vc_X12_addressRead_108 h1952 (hq0 (vc_X12_sign_2 h1953)) (hq1 (vc_X12_sign_2 h1953)) (hq2 (vc_X12_sign_2 h1953)) (hq3 (vc_X12_sign_2 h1953)) ht_f_at h1953 ht_f_from ht_f_number ht_f_type) (vc_X12_next_14 h1952 h1953) (vc_X12_addressRead_110 h1952 (hq0 (vc_X12_sign_2 h1953)) ht_f_at h1953 ht_f_from) (vc_X12_next_15 h1952 h1953) vc_X12_prefixOut_14
  have h3206 : 1 ≤ f_code ∧ f_code ≤ 4 := (vc_X12_wrong_1 h1952 ht_f_code)
  refine mr_iconst (pc := 0) (z := 0) dX12_addressRead_0 ?_
  refine mr_istore_n (pc := 1) (lv' := [(1, iv 0), (0, .ref 106)]) dX12_addressRead_1 rfl (by decide) rfl ?_
  refine mr_iconst (pc := 2) (z := 0) dX12_addressRead_2 ?_
  refine mr_istore_n (pc := 3) (lv' := [(2, iv 0), (1, iv 0), (0, .ref 106)]) dX12_addressRead_3 rfl (by decide) rfl ?_
  have L3622 : ∀ (nL3622 : Nat) (z3620 z3619 : Int) (μ3621 : mM) (f_lc : Int) (f_la : Int) (f_lf : Int) (f_lt : Int) (f_ln : Int), mT w μ3621 → mF [106033, 106034, 106035, 106036, 106037, 106038] w μ μ3621 → μ3621 106 (37) = f_lc → μ3621 106 (33) = f_la → μ3621 106 (34) = f_lf → μ3621 106 (35) = f_lt → μ3621 106 (36) = f_ln → ((-2147483648) ≤ z3620 ∧ z3620 ≤ 2147483647) → (0 ≤ z3619 ∧ z3619 ≤ 4) → (f_lc = 0 → f_lf ≤ f_la) → (f_lc = 0 → f_lt = 0 ∨ f_lf + 1 ≤ f_la) → (f_lc = 0 → f_lt = 1 → f_lf + 2 ≤ f_la) → (f_lc = 0 → f_lt = 1 → f_ln = 0 ∨ f_ln = 4 ∨ f_ln = 5 ∨ f_lf + 3 ≤ f_la) → (f_lc = 0 → f_code = 0) → (f_lc = 0 → f_from + z3619 ≤ f_lf) → (f_code = 0 ∨ 1 ≤ f_lc) → (5 - z3619) < (nL3622 : Int) → sV (gG l D c H0 sa) mX12_addressRead (sRm 4 0 0) (sZ (gG l D c H0 sa) 0 0 (qI w [106033, 106034, 106035, 106036, 106037, 106038] μ (fun z μ1 => ∃ o_code o_at o_from o_type o_number : Int, μ1 106 37 = o_code ∧ μ1 106 33 = o_at ∧ μ1 106 34 = o_from ∧ μ1 106 35 = o_type ∧ μ1 106 36 = o_number ∧ ((-2147483648) ≤ z ∧ z ≤ 2147483647) ∧ (o_code = 0 → o_from ≤ o_at) ∧ (o_code = 0 → o_type = 0 ∨ o_from + 1 ≤ o_at) ∧ (o_code = 0 → o_type = 1 → o_from + 2 ≤ o_at) ∧ (o_code = 0 → o_type = 1 → o_number = 0 ∨ o_number = 4 ∨ o_number = 5 ∨ o_from + 3 ≤ o_at) ∧ (o_code = 0 → f_code = 0) ∧ (o_code = 0 → f_from + 4 ≤ o_from) ∧ (f_code = 0 ∨ 1 ≤ o_code) ∧ True))) 4 [(0, .ref 106), (1, iv z3620), (2, iv z3619)] [] (mk w μ3621) 0 0 := by
    intro nL3622
    induction nL3622 with
    | zero => intro z3620 z3619 μ3621 f_lc f_la f_lf f_lt f_ln T3625 F3626 q3636 q3637 q3638 q3639 q3640 h3623 h3624 h3628 h3629 h3630 h3631 h3632 h3633 h3634 h3635; exact ((vc_X3_putPrefix_2 h3635 h3624)).elim
    | succ nL3622 ih3641 =>
      intro z3620 z3619 μ3621 f_lc f_la f_lf f_lt f_ln T3625 F3626 q3636 q3637 q3638 q3639 q3640 h3623 h3624 h3628 h3629 h3630 h3631 h3632 h3633 h3634 h3635
      have h3642 : (0 ≤ f_lc ∧ f_lc ≤ 4) := by rw [← q3636]; exact T3625 106 106 (A_106 hw) (37)
      have h3643 : (0 ≤ f_la ∧ f_la ≤ 1000) := by rw [← q3637]; exact T3625 106 106 (A_106 hw) (33)
      have h3644 : (0 ≤ f_lf ∧ f_lf ≤ 1000) := by rw [← q3638]; exact T3625 106 106 (A_106 hw) (34)
      have h3645 : (0 ≤ f_lt ∧ f_lt ≤ 3) := by rw [← q3639]; exact T3625 106 106 (A_106 hw) (35)
      have h3646 : ((-2147483648) ≤ f_ln ∧ f_ln ≤ 2147483647) := by rw [← q3640]; exact T3625 106 106 (A_106 hw) (36)
      refine mr_iload_n (pc := 4) (z := z3619) dX12_addressRead_4 rfl rfl ?_
      by_cases h3647 : f_lc = 0
      · have h3648 : 0 ≤ f_lc ∧ f_lc ≤ 0 := (vc_X12_wrong_4 h3647 h3642)
        exact ((vc_X12_addressRead_116 h1952 h3647 (h3632 (vc_X12_sign_2 h3648)) h3206 h3648)).elim
      have h3649 : 1 ≤ f_lc ∧ f_lc ≤ 4 := (vc_X12_wrong_1 h3647 h3642)
      refine mr_iconst (pc := 5) (z := 4) dX12_addressRead_5 ?_
      refine mr_icmp_ge (pc := 6) (tgt := 40) dX12_addressRead_6 (by decide) (r32 h3624 rfl) (r32 (rR (x := 4)) rfl) (fun h3703 => ?_) (fun h3703 => ?_)
      · have h3704 : 4 ≤ z3619 ∧ z3619 ≤ 4 := (vc_X12_addressRead_74 h3703 h3624)
        refine mr_iload_n (pc := 40) (z := z3620) dX12_addressRead_40 rfl rfl ?_
        exact mr_iret dX12_addressRead_41 rfl (le_t rfl) (le_t rfl) T3625 (mF.call mF.refl F3626 rfl) ⟨f_lc, f_la, f_lf, f_lt, f_ln, q3636, q3637, q3638, q3639, q3640, h3623, (vc_X12_addressRead_118 h3647 (h3634.resolve_left (vc_X12_sign_27 h3206)) h3643 h3649 h3644), (vc_X12_addressRead_119 h3647 (h3634.resolve_left (vc_X12_sign_27 h3206)) h3643 h3649 h3644 h3645), (vc_X12_addressRead_120 h3647 (h3634.resolve_left (vc_X12_sign_27 h3206)) h3643 h3649 h3644 h3645), (vc_X12_addressRead_121 h3647 (h3634.resolve_left (vc_X12_sign_27 h3206)) h3643 h3649 h3644 h3646 h3645), (vc_X12_addressRead_122 h1952 h3647 (h3634.resolve_left (vc_X12_sign_27 h3206)) h3206 h3649), (vc_X12_addressRead_123 h3647 (h3634.resolve_left (vc_X12_sign_27 h3206)) ht_f_from h3649 h3644), (vc_X12_addressRead_124 h1952 h3647 (h3634.resolve_left (vc_X12_sign_27 h3206)) h3206 h3649), trivial⟩
      have h3705 : 0 ≤ z3619 ∧ z3619 ≤ 3 := (vc_X12_addressRead_82 h3703 h3624)
      refine mr_iload_n (pc := 9) (z := z3620) dX12_addressRead_9 rfl rfl ?_
      refine mr_bipush (pc := 10) (z := 8) dX12_addressRead_10 (by decide) ?_
      refine mr_ishl (pc := 12) (x := z3620) (y := 8) dX12_addressRead_12 ?_
      refine mr_gen (P := fun z => (-2147483648) ≤ z ∧ z ≤ 2147483647) (r32i _) fun z3706 q3707 h3708 => ?_
      refine sv_aload_n (pc := 13) dX12_addressRead_13 rfl rfl ?_
      refine mr_iconst (pc := 14) (z := 0) dX12_addressRead_14 ?_
      refine mr_sipush (pc := 15) (z := 255) dX12_addressRead_15 (by decide) ?_
      refine mr_cVI (pc := 18) (c_X12_within hw T3625 (rW (c := (-2147483648)) (d := 2147483647) (rR (x := 0)) rfl) (rW (c := (-2147483648)) (d := 2147483647) (rR (x := 255)) rfl) q3636 q3637 q3638 q3639 q3640 (vc_X12_addressRead_118 h3647 (h3634.resolve_left (vc_X12_sign_27 h3206)) h3643 h3649 h3644) (vc_X12_addressRead_119 h3647 (h3634.resolve_left (vc_X12_sign_27 h3206)) h3643 h3649 h3644 h3645) (vc_X12_addressRead_120 h3647 (h3634.resolve_left (vc_X12_sign_27 h3206)) h3643 h3649 h3644 h3645) (vc_X12_addressRead_121 h3647 (h3634.resolve_left (vc_X12_sign_27 h3206)) h3643 h3649 h3644 h3646 h3645)) (gOk _ _ _ _ _) dX12_addressRead_18 (tX12_within _ _ _ _ _) ⟨wV_X12_within, wL_X12_within⟩ wM_X12_314 (gCX12 _ _ _ _ _) rfl (A_106 hw) rfl ⟨le_t rfl, le_t rfl⟩ ⟨le_t rfl, le_t rfl⟩ rfl (le_t rfl) fun z3713 μ3709 T3710 F3711 h3712 => ?_
      obtain ⟨z3714, z3716, z3718, z3720, z3722, q3715, q3717, q3719, q3721, q3723, h3724⟩ := h3712
      have h3725 : (0 ≤ z3714 ∧ z3714 ≤ 4) := by rw [← q3715]; exact T3710 106 106 (A_106 hw) 37
      have h3726 : (0 ≤ z3716 ∧ z3716 ≤ 1000) := by rw [← q3717]; exact T3710 106 106 (A_106 hw) 33
      have h3727 : (0 ≤ z3718 ∧ z3718 ≤ 1000) := by rw [← q3719]; exact T3710 106 106 (A_106 hw) 34
      have h3728 : (0 ≤ z3720 ∧ z3720 ≤ 3) := by rw [← q3721]; exact T3710 106 106 (A_106 hw) 35
      have h3729 : ((-2147483648) ≤ z3722 ∧ z3722 ≤ 2147483647) := by rw [← q3723]; exact T3710 106 106 (A_106 hw) 36
      have h3730 : 1 ≤ z3714 ∧ z3714 ≤ 4 := (vc_X12_next_128 (h3724.2.2.2.2.2.2.2.1.resolve_left (vc_X12_sign_27 h3649)) h3725)
      refine mr_ior (pc := 21) (x := z3706) (y := z3713) dX12_addressRead_21 ?_
      refine mr_gen (P := fun z => (-2147483648) ≤ z ∧ z ≤ 2147483647) (r32i _) fun z3731 q3732 h3733 => ?_
      refine mr_istore_n (pc := 22) (lv' := [(1, iv z3731), (0, .ref 106), (2, iv z3619)]) dX12_addressRead_22 rfl (by decide) rfl ?_
      refine mr_iload_n (pc := 23) (z := z3619) dX12_addressRead_23 rfl rfl ?_
      refine mr_iconst (pc := 24) (z := 3) dX12_addressRead_24 ?_
      refine mr_icmp_ge (pc := 25) (tgt := 34) dX12_addressRead_25 (by decide) (r32 h3705 rfl) (r32 (rR (x := 3)) rfl) (fun h3757 => ?_) (fun h3757 => ?_)
      · have h3758 : 3 ≤ z3619 ∧ z3619 ≤ 3 := (vc_X12_addressRead_85 h3757 h3703 h3705)
        refine mr_iinc (pc := 34) (lv' := [(2, iv (z3619 + 1)), (1, iv z3731), (0, .ref 106)]) dX12_addressRead_34 rfl (by decide) rfl ?_
        refine sv_goto (pc := 37) (tgt := 4) dX12_addressRead_37 (by decide) ?_
        refine mr_lvS (lv' := [(0, .ref 106), (1, iv z3731), (2, iv (z3619 + 1))]) (List.forall_mem_cons.mpr ⟨rfl, List.forall_mem_cons.mpr ⟨rfl, List.forall_mem_cons.mpr ⟨rfl, fun _ h => absurd h List.not_mem_nil⟩⟩⟩) ?_
        exact ih3641 z3731 (z3619 + 1) μ3709 z3714 z3716 z3718 z3720 z3722 T3710 (mF.call (mF.call mF.refl F3626 rfl) F3711 rfl) q3715 q3717 q3719 q3721 q3723 h3733 (rW (c := 0) (d := 4) (rAdd (e := 4) (f := 4) h3758 (rR (x := 1)) rfl) rfl) (vc_X12_addressRead_86 (h3724.2.2.2.2.2.2.2.1.resolve_left (vc_X12_sign_27 h3649)) h3730 h3726 h3727) (vc_X12_addressRead_87 (h3724.2.2.2.2.2.2.2.1.resolve_left (vc_X12_sign_27 h3649)) h3730 h3726 h3727 h3728) (vc_X12_addressRead_88 (h3724.2.2.2.2.2.2.2.1.resolve_left (vc_X12_sign_27 h3649)) h3730 h3726 h3727 h3728) (vc_X12_addressRead_89 (h3724.2.2.2.2.2.2.2.1.resolve_left (vc_X12_sign_27 h3649)) h3730 h3726 h3727 h3728 h3729) (vc_X12_addressRead_132 h1952 (h3724.2.2.2.2.2.2.2.1.resolve_left (vc_X12_sign_27 h3649)) h3206 h3730) (vc_X12_addressRead_133 h3703 (h3724.2.2.2.2.2.2.2.1.resolve_left (vc_X12_sign_27 h3649)) h3757 ht_f_from h3758 h3730 h3727) (vc_X12_addressRead_134 h1952 (h3724.2.2.2.2.2.2.2.1.resolve_left (vc_X12_sign_27 h3649)) h3206 h3730) (vc_X12_addressRead_93 (nS h3635) h3703 h3757 h3758)
      have h3759 : 0 ≤ z3619 ∧ z3619 ≤ 2 := (vc_X12_addressRead_94 h3757 h3703 h3705)
      refine sv_aload_n (pc := 28) dX12_addressRead_28 rfl rfl ?_
      refine mr_bipush (pc := 29) (z := 46) dX12_addressRead_29 (by decide) ?_
      refine mr_cVV (pc := 31) (c_X12_sign hw T3710 (rW (c := (-2147483648)) (d := 2147483647) (rR (x := 46)) rfl) q3715 q3717 q3719 q3721 q3723 (vc_X12_addressRead_86 (h3724.2.2.2.2.2.2.2.1.resolve_left (vc_X12_sign_27 h3649)) h3730 h3726 h3727) (vc_X12_addressRead_87 (h3724.2.2.2.2.2.2.2.1.resolve_left (vc_X12_sign_27 h3649)) h3730 h3726 h3727 h3728) (vc_X12_addressRead_88 (h3724.2.2.2.2.2.2.2.1.resolve_left (vc_X12_sign_27 h3649)) h3730 h3726 h3727 h3728) (vc_X12_addressRead_89 (h3724.2.2.2.2.2.2.2.1.resolve_left (vc_X12_sign_27 h3649)) h3730 h3726 h3727 h3728 h3729)) (gOk _ _ _ _ _) dX12_addressRead_31 (tX12_sign _ _ _ _ _) ⟨wV_X12_sign, wL_X12_sign⟩ wM_X12_317 (gCX12 _ _ _ _ _) rfl (A_106 hw) rfl ⟨le_t rfl, le_t rfl⟩ ⟨le_t rfl, le_t rfl⟩ rfl (le_t rfl) fun μ3760 T3761 F3762 h3763 => ?_
      obtain ⟨z3764, z3766, z3768, z3770, z3772, q3765, q3767, q3769, q3771, q3773, h3774⟩ := h3763
      have h3775 : (0 ≤ z3764 ∧ z3764 ≤ 4) := by rw [← q3765]; exact T3761 106 106 (A_106 hw) 37
      have h3776 : (0 ≤ z3766 ∧ z3766 ≤ 1000) := by rw [← q3767]; exact T3761 106 106 (A_106 hw) 33
      have h3777 : (0 ≤ z3768 ∧ z3768 ≤ 1000) := by rw [← q3769]; exact T3761 106 106 (A_106 hw) 34
      have h3778 : (0 ≤ z3770 ∧ z3770 ≤ 3) := by rw [← q3771]; exact T3761 106 106 (A_106 hw) 35
      have h3779 : ((-2147483648) ≤ z3772 ∧ z3772 ≤ 2147483647) := by rw [← q3773]; exact T3761 106 106 (A_106 hw) 36
      have h3780 : 1 ≤ z3764 ∧ z3764 ≤ 4 := (vc_X12_next_128 (h3774.2.2.2.2.2.2.1.resolve_left (vc_X12_sign_27 h3730)) h3775)
      refine mr_iinc (pc := 34) (lv' := [(2, iv (z3619 + 1)), (1, iv z3731), (0, .ref 106)]) dX12_addressRead_34 rfl (by decide) rfl ?_
      refine sv_goto (pc := 37) (tgt := 4) dX12_addressRead_37 (by decide) ?_
      refine mr_lvS (lv' := [(0, .ref 106), (1, iv z3731), (2, iv (z3619 + 1))]) (List.forall_mem_cons.mpr ⟨rfl, List.forall_mem_cons.mpr ⟨rfl, List.forall_mem_cons.mpr ⟨rfl, fun _ h => absurd h List.not_mem_nil⟩⟩⟩) ?_
      exact ih3641 z3731 (z3619 + 1) μ3760 z3764 z3766 z3768 z3770 z3772 T3761 (mF.call (mF.call (mF.call mF.refl F3626 rfl) F3711 rfl) F3762 rfl) q3765 q3767 q3769 q3771 q3773 h3733 (rW (c := 0) (d := 4) (rAdd (e := 1) (f := 3) h3759 (rR (x := 1)) rfl) rfl) (vc_X12_addressRead_97 h3774.1 (h3774.2.2.2.2.2.2.1.resolve_left (vc_X12_sign_27 h3730)) (h3724.2.2.2.2.2.2.2.1.resolve_left (vc_X12_sign_27 h3649)) h3730 h3780 h3776 h3777) (vc_X12_addressRead_98 h3774.1 h3774.2.1 h3774.2.2.1 (h3774.2.2.2.2.2.2.1.resolve_left (vc_X12_sign_27 h3730)) (h3724.2.2.2.2.2.2.2.1.resolve_left (vc_X12_sign_27 h3649)) h3730 h3780 h3776 h3777 h3778) (vc_X12_addressRead_99 h3774.1 h3774.2.1 h3774.2.2.1 (h3774.2.2.2.2.2.2.1.resolve_left (vc_X12_sign_27 h3730)) (h3724.2.2.2.2.2.2.2.1.resolve_left (vc_X12_sign_27 h3649)) h3730 h3780 h3776 h3777 h3778) (vc_X12_addressRead_100 h3774.1 h3774.2.1 h3774.2.2.1 h3774.2.2.2.1 (h3774.2.2.2.2.2.2.1.resolve_left (vc_X12_sign_27 h3730)) (h3724.2.2.2.2.2.2.2.1.resolve_left (vc_X12_sign_27 h3649)) h3730 h3780 h3776 h3777 h3778 h3779) (vc_X12_sign_49 h1952 (h3774.2.2.2.2.2.2.1.resolve_left (vc_X12_sign_27 h3730)) (h3724.2.2.2.2.2.2.2.1.resolve_left (vc_X12_sign_27 h3649)) h3206 h3730 h3780) (vc_X12_addressRead_144 h3703 h3757 (h3774.2.2.2.2.2.2.1.resolve_left (vc_X12_sign_27 h3730)) (h3724.2.2.2.2.2.2.2.1.resolve_left (vc_X12_sign_27 h3649)) ht_f_from h3759 h3730 h3780 h3777) (vc_X12_sign_51 h1952 (h3774.2.2.2.2.2.2.1.resolve_left (vc_X12_sign_27 h3730)) (h3724.2.2.2.2.2.2.2.1.resolve_left (vc_X12_sign_27 h3649)) h3206 h3730 h3780) (vc_X12_addressRead_104 (nS h3635) h3703 h3757 h3759)
  refine mr_lvS (lv' := [(0, .ref 106), (1, iv 0), (2, iv 0)]) (List.forall_mem_cons.mpr ⟨rfl, List.forall_mem_cons.mpr ⟨rfl, List.forall_mem_cons.mpr ⟨rfl, fun _ h => absurd h List.not_mem_nil⟩⟩⟩) ?_
  exact L3622 6 0 0 μ f_code f_at f_from f_type f_number hT mF.refl q_f_code q_f_at q_f_from q_f_type q_f_number (rW (c := (-2147483648)) (d := 2147483647) (rR (x := 0)) rfl) (rW (c := 0) (d := 4) (rR (x := 0)) rfl) (vc_X12_next_485 h1952 ht_f_at h3206 ht_f_from) (vc_X12_next_486 h1952 ht_f_at h3206 ht_f_from ht_f_type) (vc_X12_next_487 h1952 ht_f_at h3206 ht_f_from ht_f_type) (vc_X12_addressRead_78 h1952 ht_f_at h3206 ht_f_from ht_f_number ht_f_type) (vc_X12_next_483 h1952 h3206) (vc_X12_addressRead_152 h1952 h3206 ht_f_from) (vc_X12_next_484 h1952 h3206) vc_X12_prefixOut_14
end
section
/-! no rows -/
end
section
/-! no rows -/
end
section
/-! no rows -/
end
section
/-! no rows -/
end
section
/-! Small facts for the class. -/
theorem wG_XI_265 : Cond.constant "java/lang/Integer" 265 1431655765 ∈ lw_ok := lw_i4 185 rfl rfl
theorem wG_XI_266 : Cond.constant "java/lang/Integer" 266 858993459 ∈ lw_ok := lw_i4 186 rfl rfl
theorem wG_XI_267 : Cond.constant "java/lang/Integer" 267 252645135 ∈ lw_ok := lw_i4 187 rfl rfl
theorem tieEnd {μ : mM} {z p : Int} {c : Nat} (h : z < 0 ∨ ∃ b : Nat, μ 11 z.toNat = (b : Int) ∧ (μ b 0 = p ∨ μ b 1 = p)) (hz : ¬ z < 0) (q : μ 11 z.toNat = (c : Int)) : μ c 0 = p ∨ μ c 1 = p := by
  obtain ⟨b, h1, h2⟩ := h.resolve_left hz
  have e : b = c := by rw [h1] at q; omega
  rw [← e]; exact h2
end
section
theorem dJ_bits_0 : decode cJ_bits 0 = .ok (.iload_n 0, 1) := dc0 dO_26 (by decide +kernel)
theorem dJ_bits_1 : decode cJ_bits 1 = .ok (.iload_n 0, 1) := dc0 dO_26 (by decide +kernel)
theorem dJ_bits_2 : decode cJ_bits 2 = .ok (.iconst 1, 1) := dc0 dO_4 (by decide +kernel)
theorem dJ_bits_3 : decode cJ_bits 3 = .ok (.iushr, 1) := dc0 dO_124 (by decide +kernel)
theorem dJ_bits_4 : decode cJ_bits 4 = .ok (.ldc_w 265, 3) := dcU2 dO_19 (by decide +kernel)
theorem dJ_bits_7 : decode cJ_bits 7 = .ok (.iand, 1) := dc0 dO_126 (by decide +kernel)
theorem dJ_bits_8 : decode cJ_bits 8 = .ok (.isub, 1) := dc0 dO_100 (by decide +kernel)
theorem dJ_bits_9 : decode cJ_bits 9 = .ok (.istore_n 0, 1) := dc0 dO_59 (by decide +kernel)
theorem dJ_bits_10 : decode cJ_bits 10 = .ok (.iload_n 0, 1) := dc0 dO_26 (by decide +kernel)
theorem dJ_bits_11 : decode cJ_bits 11 = .ok (.ldc_w 266, 3) := dcU2 dO_19 (by decide +kernel)
theorem dJ_bits_14 : decode cJ_bits 14 = .ok (.iand, 1) := dc0 dO_126 (by decide +kernel)
theorem dJ_bits_15 : decode cJ_bits 15 = .ok (.iload_n 0, 1) := dc0 dO_26 (by decide +kernel)
theorem dJ_bits_16 : decode cJ_bits 16 = .ok (.iconst 2, 1) := dc0 dO_5 (by decide +kernel)
theorem dJ_bits_17 : decode cJ_bits 17 = .ok (.iushr, 1) := dc0 dO_124 (by decide +kernel)
theorem dJ_bits_18 : decode cJ_bits 18 = .ok (.ldc_w 266, 3) := dcU2 dO_19 (by decide +kernel)
theorem dJ_bits_21 : decode cJ_bits 21 = .ok (.iand, 1) := dc0 dO_126 (by decide +kernel)
theorem dJ_bits_22 : decode cJ_bits 22 = .ok (.iadd, 1) := dc0 dO_96 (by decide +kernel)
theorem dJ_bits_23 : decode cJ_bits 23 = .ok (.istore_n 0, 1) := dc0 dO_59 (by decide +kernel)
theorem dJ_bits_24 : decode cJ_bits 24 = .ok (.iload_n 0, 1) := dc0 dO_26 (by decide +kernel)
theorem dJ_bits_25 : decode cJ_bits 25 = .ok (.iload_n 0, 1) := dc0 dO_26 (by decide +kernel)
theorem dJ_bits_26 : decode cJ_bits 26 = .ok (.iconst 4, 1) := dc0 dO_7 (by decide +kernel)
theorem dJ_bits_27 : decode cJ_bits 27 = .ok (.iushr, 1) := dc0 dO_124 (by decide +kernel)
theorem dJ_bits_28 : decode cJ_bits 28 = .ok (.iadd, 1) := dc0 dO_96 (by decide +kernel)
theorem dJ_bits_29 : decode cJ_bits 29 = .ok (.ldc_w 267, 3) := dcU2 dO_19 (by decide +kernel)
theorem dJ_bits_32 : decode cJ_bits 32 = .ok (.iand, 1) := dc0 dO_126 (by decide +kernel)
theorem dJ_bits_33 : decode cJ_bits 33 = .ok (.istore_n 0, 1) := dc0 dO_59 (by decide +kernel)
theorem dJ_bits_34 : decode cJ_bits 34 = .ok (.iload_n 0, 1) := dc0 dO_26 (by decide +kernel)
theorem dJ_bits_35 : decode cJ_bits 35 = .ok (.iload_n 0, 1) := dc0 dO_26 (by decide +kernel)
theorem dJ_bits_36 : decode cJ_bits 36 = .ok (.bipush 8, 2) := dcS1 dO_16 (by decide +kernel)
theorem dJ_bits_38 : decode cJ_bits 38 = .ok (.iushr, 1) := dc0 dO_124 (by decide +kernel)
theorem dJ_bits_39 : decode cJ_bits 39 = .ok (.iadd, 1) := dc0 dO_96 (by decide +kernel)
theorem dJ_bits_40 : decode cJ_bits 40 = .ok (.istore_n 0, 1) := dc0 dO_59 (by decide +kernel)
theorem dJ_bits_41 : decode cJ_bits 41 = .ok (.iload_n 0, 1) := dc0 dO_26 (by decide +kernel)
theorem dJ_bits_42 : decode cJ_bits 42 = .ok (.iload_n 0, 1) := dc0 dO_26 (by decide +kernel)
theorem dJ_bits_43 : decode cJ_bits 43 = .ok (.bipush 16, 2) := dcS1 dO_16 (by decide +kernel)
theorem dJ_bits_45 : decode cJ_bits 45 = .ok (.iushr, 1) := dc0 dO_124 (by decide +kernel)
theorem dJ_bits_46 : decode cJ_bits 46 = .ok (.iadd, 1) := dc0 dO_96 (by decide +kernel)
theorem dJ_bits_47 : decode cJ_bits 47 = .ok (.istore_n 0, 1) := dc0 dO_59 (by decide +kernel)
theorem dJ_bits_48 : decode cJ_bits 48 = .ok (.iload_n 0, 1) := dc0 dO_26 (by decide +kernel)
theorem dJ_bits_49 : decode cJ_bits 49 = .ok (.bipush 63, 2) := dcS1 dO_16 (by decide +kernel)
theorem dJ_bits_51 : decode cJ_bits 51 = .ok (.iand, 1) := dc0 dO_126 (by decide +kernel)
theorem dJ_bits_52 : decode cJ_bits 52 = .ok (.ireturn, 1) := dc0 dO_172 (by decide +kernel)
theorem dX11_cone_0 : decode cX11_cone 0 = .ok (.aload_n 0, 1) := dc0 dO_42 (by decide +kernel)
theorem dX11_cone_1 : decode cX11_cone 1 = .ok (.iload_n 1, 1) := dc0 dO_27 (by decide +kernel)
theorem dX11_cone_2 : decode cX11_cone 2 = .ok (.invokevirtual 105, 3) := dcU2 dO_182 (by decide +kernel)
theorem dX11_cone_5 : decode cX11_cone 5 = .ok (.ifCond .eq 16, 3) := dcS2 dO_153 (by decide +kernel)
theorem dX11_cone_8 : decode cX11_cone 8 = .ok (.iload_n 2, 1) := dc0 dO_28 (by decide +kernel)
theorem dX11_cone_9 : decode cX11_cone 9 = .ok (.iconst (-1), 1) := dc0 dO_2 (by decide +kernel)
theorem dX11_cone_10 : decode cX11_cone 10 = .ok (.if_icmp .eq 13, 3) := dcS2 dO_159 (by decide +kernel)
theorem dX11_cone_13 : decode cX11_cone 13 = .ok (.aload_n 0, 1) := dc0 dO_42 (by decide +kernel)
theorem dX11_cone_14 : decode cX11_cone 14 = .ok (.iload_n 2, 1) := dc0 dO_28 (by decide +kernel)
theorem dX11_cone_15 : decode cX11_cone 15 = .ok (.invokevirtual 105, 3) := dcU2 dO_182 (by decide +kernel)
theorem dX11_cone_18 : decode cX11_cone 18 = .ok (.ifCond .ne 5, 3) := dcS2 dO_154 (by decide +kernel)
theorem dX11_cone_21 : decode cX11_cone 21 = .ok (.iconst (-1), 1) := dc0 dO_2 (by decide +kernel)
theorem dX11_cone_22 : decode cX11_cone 22 = .ok (.ireturn, 1) := dc0 dO_172 (by decide +kernel)
theorem dX11_cone_23 : decode cX11_cone 23 = .ok (.aload_n 0, 1) := dc0 dO_42 (by decide +kernel)
theorem dX11_cone_24 : decode cX11_cone 24 = .ok (.getfield 26, 3) := dcU2 dO_180 (by decide +kernel)
theorem dX11_cone_27 : decode cX11_cone 27 = .ok (.iload_n 1, 1) := dc0 dO_27 (by decide +kernel)
theorem dX11_cone_28 : decode cX11_cone 28 = .ok (.invokevirtual 154, 3) := dcU2 dO_182 (by decide +kernel)
theorem dX11_cone_31 : decode cX11_cone 31 = .ok (.istore_n 3, 1) := dc0 dO_62 (by decide +kernel)
theorem dX11_cone_32 : decode cX11_cone 32 = .ok (.iload_n 2, 1) := dc0 dO_28 (by decide +kernel)
theorem dX11_cone_33 : decode cX11_cone 33 = .ok (.iconst (-1), 1) := dc0 dO_2 (by decide +kernel)
theorem dX11_cone_34 : decode cX11_cone 34 = .ok (.if_icmp .ne 10, 3) := dcS2 dO_160 (by decide +kernel)
theorem dX11_cone_37 : decode cX11_cone 37 = .ok (.iload_n 3, 1) := dc0 dO_29 (by decide +kernel)
theorem dX11_cone_38 : decode cX11_cone 38 = .ok (.invokestatic 157, 3) := dcU2 dO_184 (by decide +kernel)
theorem dX11_cone_41 : decode cX11_cone 41 = .ok (.goto 8, 3) := dcS2 dO_167 (by decide +kernel)
theorem dX11_cone_44 : decode cX11_cone 44 = .ok (.iload_n 3, 1) := dc0 dO_29 (by decide +kernel)
theorem dX11_cone_45 : decode cX11_cone 45 = .ok (.iload_n 2, 1) := dc0 dO_28 (by decide +kernel)
theorem dX11_cone_46 : decode cX11_cone 46 = .ok (.ishr, 1) := dc0 dO_122 (by decide +kernel)
theorem dX11_cone_47 : decode cX11_cone 47 = .ok (.iconst 1, 1) := dc0 dO_4 (by decide +kernel)
theorem dX11_cone_48 : decode cX11_cone 48 = .ok (.iand, 1) := dc0 dO_126 (by decide +kernel)
theorem dX11_cone_49 : decode cX11_cone 49 = .ok (.ireturn, 1) := dc0 dO_172 (by decide +kernel)
theorem dX11_judge_0 : decode cX11_judge 0 = .ok (.iload_n 1, 1) := dc0 dO_27 (by decide +kernel)
theorem dX11_judge_1 : decode cX11_judge 1 = .ok (.ifCond .lt 30, 3) := dcS2 dO_155 (by decide +kernel)
theorem dX11_judge_4 : decode cX11_judge 4 = .ok (.iload_n 1, 1) := dc0 dO_27 (by decide +kernel)
theorem dX11_judge_5 : decode cX11_judge 5 = .ok (.aload_n 0, 1) := dc0 dO_42 (by decide +kernel)
theorem dX11_judge_6 : decode cX11_judge 6 = .ok (.getfield 35, 3) := dcU2 dO_180 (by decide +kernel)
theorem dX11_judge_9 : decode cX11_judge 9 = .ok (.getfield 205, 3) := dcU2 dO_180 (by decide +kernel)
theorem dX11_judge_12 : decode cX11_judge 12 = .ok (.if_icmp .ge 19, 3) := dcS2 dO_162 (by decide +kernel)
theorem dX11_judge_15 : decode cX11_judge 15 = .ok (.aload_n 0, 1) := dc0 dO_42 (by decide +kernel)
theorem dX11_judge_16 : decode cX11_judge 16 = .ok (.iload_n 2, 1) := dc0 dO_28 (by decide +kernel)
theorem dX11_judge_17 : decode cX11_judge 17 = .ok (.invokevirtual 105, 3) := dcU2 dO_182 (by decide +kernel)
theorem dX11_judge_20 : decode cX11_judge 20 = .ok (.ifCond .eq 11, 3) := dcS2 dO_153 (by decide +kernel)
theorem dX11_judge_23 : decode cX11_judge 23 = .ok (.aload_n 0, 1) := dc0 dO_42 (by decide +kernel)
theorem dX11_judge_24 : decode cX11_judge 24 = .ok (.iload_n 3, 1) := dc0 dO_29 (by decide +kernel)
theorem dX11_judge_25 : decode cX11_judge 25 = .ok (.invokevirtual 105, 3) := dcU2 dO_182 (by decide +kernel)
theorem dX11_judge_28 : decode cX11_judge 28 = .ok (.ifCond .ne 5, 3) := dcS2 dO_154 (by decide +kernel)
theorem dX11_judge_31 : decode cX11_judge 31 = .ok (.iconst (-1), 1) := dc0 dO_2 (by decide +kernel)
theorem dX11_judge_32 : decode cX11_judge 32 = .ok (.ireturn, 1) := dc0 dO_172 (by decide +kernel)
theorem dX11_judge_33 : decode cX11_judge 33 = .ok (.aload_n 0, 1) := dc0 dO_42 (by decide +kernel)
theorem dX11_judge_34 : decode cX11_judge 34 = .ok (.getfield 26, 3) := dcU2 dO_180 (by decide +kernel)
theorem dX11_judge_37 : decode cX11_judge 37 = .ok (.iload_n 2, 1) := dc0 dO_28 (by decide +kernel)
theorem dX11_judge_38 : decode cX11_judge 38 = .ok (.iload_n 3, 1) := dc0 dO_29 (by decide +kernel)
theorem dX11_judge_39 : decode cX11_judge 39 = .ok (.invokevirtual 109, 3) := dcU2 dO_182 (by decide +kernel)
theorem dX11_judge_42 : decode cX11_judge 42 = .ok (.istore 4, 2) := dcU1 dO_54 (by decide +kernel)
theorem dX11_judge_44 : decode cX11_judge 44 = .ok (.iload 4, 2) := dcU1 dO_21 (by decide +kernel)
theorem dX11_judge_46 : decode cX11_judge 46 = .ok (.ifCond .ge 5, 3) := dcS2 dO_156 (by decide +kernel)
theorem dX11_judge_49 : decode cX11_judge 49 = .ok (.iconst (-1), 1) := dc0 dO_2 (by decide +kernel)
theorem dX11_judge_50 : decode cX11_judge 50 = .ok (.ireturn, 1) := dc0 dO_172 (by decide +kernel)
theorem dX11_judge_51 : decode cX11_judge 51 = .ok (.aload_n 0, 1) := dc0 dO_42 (by decide +kernel)
theorem dX11_judge_52 : decode cX11_judge 52 = .ok (.getfield 19, 3) := dcU2 dO_180 (by decide +kernel)
theorem dX11_judge_55 : decode cX11_judge 55 = .ok (.getfield 246, 3) := dcU2 dO_180 (by decide +kernel)
theorem dX11_judge_58 : decode cX11_judge 58 = .ok (.ifCond .ne 6, 3) := dcS2 dO_154 (by decide +kernel)
theorem dX11_judge_61 : decode cX11_judge 61 = .ok (.bipush (-2), 2) := dcS1 dO_16 (by decide +kernel)
theorem dX11_judge_63 : decode cX11_judge 63 = .ok (.ireturn, 1) := dc0 dO_172 (by decide +kernel)
theorem dX11_judge_64 : decode cX11_judge 64 = .ok (.aload_n 0, 1) := dc0 dO_42 (by decide +kernel)
theorem dX11_judge_65 : decode cX11_judge 65 = .ok (.getfield 26, 3) := dcU2 dO_180 (by decide +kernel)
theorem dX11_judge_68 : decode cX11_judge 68 = .ok (.getfield 122, 3) := dcU2 dO_180 (by decide +kernel)
theorem dX11_judge_71 : decode cX11_judge 71 = .ok (.iload 4, 2) := dcU1 dO_21 (by decide +kernel)
theorem dX11_judge_73 : decode cX11_judge 73 = .ok (.aaload, 1) := dc0 dO_50 (by decide +kernel)
theorem dX11_judge_74 : decode cX11_judge 74 = .ok (.astore 5, 2) := dcU1 dO_58 (by decide +kernel)
theorem dX11_judge_76 : decode cX11_judge 76 = .ok (.aload_n 0, 1) := dc0 dO_42 (by decide +kernel)
theorem dX11_judge_77 : decode cX11_judge 77 = .ok (.getfield 35, 3) := dcU2 dO_180 (by decide +kernel)
theorem dX11_judge_80 : decode cX11_judge 80 = .ok (.iload_n 1, 1) := dc0 dO_27 (by decide +kernel)
theorem dX11_judge_81 : decode cX11_judge 81 = .ok (.aload_n 0, 1) := dc0 dO_42 (by decide +kernel)
theorem dX11_judge_82 : decode cX11_judge 82 = .ok (.getfield 19, 3) := dcU2 dO_180 (by decide +kernel)
theorem dX11_judge_85 : decode cX11_judge 85 = .ok (.aload 5, 2) := dcU1 dO_25 (by decide +kernel)
theorem dX11_judge_87 : decode cX11_judge 87 = .ok (.aload 5, 2) := dcU1 dO_25 (by decide +kernel)
theorem dX11_judge_89 : decode cX11_judge 89 = .ok (.iload_n 2, 1) := dc0 dO_28 (by decide +kernel)
theorem dX11_judge_90 : decode cX11_judge 90 = .ok (.invokevirtual 249, 3) := dcU2 dO_182 (by decide +kernel)
theorem dX11_judge_93 : decode cX11_judge 93 = .ok (.invokevirtual 252, 3) := dcU2 dO_182 (by decide +kernel)
theorem dX11_judge_96 : decode cX11_judge 96 = .ok (.ifCond .eq 7, 3) := dcS2 dO_153 (by decide +kernel)
theorem dX11_judge_99 : decode cX11_judge 99 = .ok (.iconst 1, 1) := dc0 dO_4 (by decide +kernel)
theorem dX11_judge_100 : decode cX11_judge 100 = .ok (.goto 4, 3) := dcS2 dO_167 (by decide +kernel)
theorem dX11_judge_103 : decode cX11_judge 103 = .ok (.iconst 0, 1) := dc0 dO_3 (by decide +kernel)
theorem dX11_judge_104 : decode cX11_judge 104 = .ok (.ireturn, 1) := dc0 dO_172 (by decide +kernel)
theorem dX11_least_0 : decode cX11_least 0 = .ok (.aload_n 0, 1) := dc0 dO_42 (by decide +kernel)
theorem dX11_least_1 : decode cX11_least 1 = .ok (.iload_n 1, 1) := dc0 dO_27 (by decide +kernel)
theorem dX11_least_2 : decode cX11_least 2 = .ok (.invokevirtual 105, 3) := dcU2 dO_182 (by decide +kernel)
theorem dX11_least_5 : decode cX11_least 5 = .ok (.ifCond .eq 14, 3) := dcS2 dO_153 (by decide +kernel)
theorem dX11_least_8 : decode cX11_least 8 = .ok (.aload_n 0, 1) := dc0 dO_42 (by decide +kernel)
theorem dX11_least_9 : decode cX11_least 9 = .ok (.getfield 65, 3) := dcU2 dO_180 (by decide +kernel)
theorem dX11_least_12 : decode cX11_least 12 = .ok (.iload_n 1, 1) := dc0 dO_27 (by decide +kernel)
theorem dX11_least_13 : decode cX11_least 13 = .ok (.invokevirtual 385, 3) := dcU2 dO_182 (by decide +kernel)
theorem dX11_least_16 : decode cX11_least 16 = .ok (.goto 4, 3) := dcS2 dO_167 (by decide +kernel)
theorem dX11_least_19 : decode cX11_least 19 = .ok (.iconst (-1), 1) := dc0 dO_2 (by decide +kernel)
theorem dX11_least_20 : decode cX11_least 20 = .ok (.ireturn, 1) := dc0 dO_172 (by decide +kernel)
theorem dX11_message_0 : decode cX11_message 0 = .ok (.aload_n 0, 1) := dc0 dO_42 (by decide +kernel)
theorem dX11_message_1 : decode cX11_message 1 = .ok (.getfield 58, 3) := dcU2 dO_180 (by decide +kernel)
theorem dX11_message_4 : decode cX11_message 4 = .ok (.aload_n 0, 1) := dc0 dO_42 (by decide +kernel)
theorem dX11_message_5 : decode cX11_message 5 = .ok (.getfield 9, 3) := dcU2 dO_180 (by decide +kernel)
theorem dX11_message_8 : decode cX11_message 8 = .ok (.aload_n 0, 1) := dc0 dO_42 (by decide +kernel)
theorem dX11_message_9 : decode cX11_message 9 = .ok (.getfield 76, 3) := dcU2 dO_180 (by decide +kernel)
theorem dX11_message_12 : decode cX11_message 12 = .ok (.invokevirtual 339, 3) := dcU2 dO_182 (by decide +kernel)
theorem dX11_message_15 : decode cX11_message 15 = .ok (.istore_n 1, 1) := dc0 dO_60 (by decide +kernel)
theorem dX11_message_16 : decode cX11_message 16 = .ok (.aload_n 0, 1) := dc0 dO_42 (by decide +kernel)
theorem dX11_message_17 : decode cX11_message 17 = .ok (.iconst 0, 1) := dc0 dO_3 (by decide +kernel)
theorem dX11_message_18 : decode cX11_message 18 = .ok (.putfield 76, 3) := dcU2 dO_181 (by decide +kernel)
theorem dX11_message_21 : decode cX11_message 21 = .ok (.iload_n 1, 1) := dc0 dO_27 (by decide +kernel)
theorem dX11_message_22 : decode cX11_message 22 = .ok (.ireturn, 1) := dc0 dO_172 (by decide +kernel)
theorem dX2_leastBelow_0 : decode cX2_leastBelow 0 = .ok (.iload_n 3, 1) := dc0 dO_29 (by decide +kernel)
theorem dX2_leastBelow_1 : decode cX2_leastBelow 1 = .ok (.bipush 32, 2) := dcS1 dO_16 (by decide +kernel)
theorem dX2_leastBelow_3 : decode cX2_leastBelow 3 = .ok (.if_icmp .ge 13, 3) := dcS2 dO_162 (by decide +kernel)
theorem dX2_leastBelow_6 : decode cX2_leastBelow 6 = .ok (.aload_n 0, 1) := dc0 dO_42 (by decide +kernel)
theorem dX2_leastBelow_7 : decode cX2_leastBelow 7 = .ok (.iload_n 1, 1) := dc0 dO_27 (by decide +kernel)
theorem dX2_leastBelow_8 : decode cX2_leastBelow 8 = .ok (.iload_n 2, 1) := dc0 dO_28 (by decide +kernel)
theorem dX2_leastBelow_9 : decode cX2_leastBelow 9 = .ok (.iload_n 3, 1) := dc0 dO_29 (by decide +kernel)
theorem dX2_leastBelow_10 : decode cX2_leastBelow 10 = .ok (.invokevirtual 106, 3) := dcU2 dO_182 (by decide +kernel)
theorem dX2_leastBelow_13 : decode cX2_leastBelow 13 = .ok (.ifCond .ne 13, 3) := dcS2 dO_154 (by decide +kernel)
theorem dX2_leastBelow_16 : decode cX2_leastBelow 16 = .ok (.aload_n 0, 1) := dc0 dO_42 (by decide +kernel)
theorem dX2_leastBelow_17 : decode cX2_leastBelow 17 = .ok (.iload_n 1, 1) := dc0 dO_27 (by decide +kernel)
theorem dX2_leastBelow_18 : decode cX2_leastBelow 18 = .ok (.iload_n 2, 1) := dc0 dO_28 (by decide +kernel)
theorem dX2_leastBelow_19 : decode cX2_leastBelow 19 = .ok (.invokevirtual 60, 3) := dcU2 dO_182 (by decide +kernel)
theorem dX2_leastBelow_22 : decode cX2_leastBelow 22 = .ok (.invokestatic 110, 3) := dcU2 dO_184 (by decide +kernel)
theorem dX2_leastBelow_25 : decode cX2_leastBelow 25 = .ok (.ireturn, 1) := dc0 dO_172 (by decide +kernel)
theorem dX2_leastBelow_26 : decode cX2_leastBelow 26 = .ok (.aload_n 0, 1) := dc0 dO_42 (by decide +kernel)
theorem dX2_leastBelow_27 : decode cX2_leastBelow 27 = .ok (.iload_n 1, 1) := dc0 dO_27 (by decide +kernel)
theorem dX2_leastBelow_28 : decode cX2_leastBelow 28 = .ok (.iload_n 2, 1) := dc0 dO_28 (by decide +kernel)
theorem dX2_leastBelow_29 : decode cX2_leastBelow 29 = .ok (.iload_n 3, 1) := dc0 dO_29 (by decide +kernel)
theorem dX2_leastBelow_30 : decode cX2_leastBelow 30 = .ok (.iconst 1, 1) := dc0 dO_4 (by decide +kernel)
theorem dX2_leastBelow_31 : decode cX2_leastBelow 31 = .ok (.iadd, 1) := dc0 dO_96 (by decide +kernel)
theorem dX2_leastBelow_32 : decode cX2_leastBelow 32 = .ok (.invokevirtual 101, 3) := dcU2 dO_182 (by decide +kernel)
theorem dX2_leastBelow_35 : decode cX2_leastBelow 35 = .ok (.istore 4, 2) := dcU1 dO_54 (by decide +kernel)
theorem dX2_leastBelow_37 : decode cX2_leastBelow 37 = .ok (.aload_n 0, 1) := dc0 dO_42 (by decide +kernel)
theorem dX2_leastBelow_38 : decode cX2_leastBelow 38 = .ok (.iload_n 1, 1) := dc0 dO_27 (by decide +kernel)
theorem dX2_leastBelow_39 : decode cX2_leastBelow 39 = .ok (.iload_n 2, 1) := dc0 dO_28 (by decide +kernel)
theorem dX2_leastBelow_40 : decode cX2_leastBelow 40 = .ok (.iconst 1, 1) := dc0 dO_4 (by decide +kernel)
theorem dX2_leastBelow_41 : decode cX2_leastBelow 41 = .ok (.bipush 31, 2) := dcS1 dO_16 (by decide +kernel)
theorem dX2_leastBelow_43 : decode cX2_leastBelow 43 = .ok (.iload_n 3, 1) := dc0 dO_29 (by decide +kernel)
theorem dX2_leastBelow_44 : decode cX2_leastBelow 44 = .ok (.isub, 1) := dc0 dO_100 (by decide +kernel)
theorem dX2_leastBelow_45 : decode cX2_leastBelow 45 = .ok (.ishl, 1) := dc0 dO_120 (by decide +kernel)
theorem dX2_leastBelow_46 : decode cX2_leastBelow 46 = .ok (.ior, 1) := dc0 dO_128 (by decide +kernel)
theorem dX2_leastBelow_47 : decode cX2_leastBelow 47 = .ok (.iload_n 3, 1) := dc0 dO_29 (by decide +kernel)
theorem dX2_leastBelow_48 : decode cX2_leastBelow 48 = .ok (.iconst 1, 1) := dc0 dO_4 (by decide +kernel)
theorem dX2_leastBelow_49 : decode cX2_leastBelow 49 = .ok (.iadd, 1) := dc0 dO_96 (by decide +kernel)
theorem dX2_leastBelow_50 : decode cX2_leastBelow 50 = .ok (.invokevirtual 101, 3) := dcU2 dO_182 (by decide +kernel)
theorem dX2_leastBelow_53 : decode cX2_leastBelow 53 = .ok (.istore 5, 2) := dcU1 dO_54 (by decide +kernel)
theorem dX2_leastBelow_55 : decode cX2_leastBelow 55 = .ok (.iload 4, 2) := dcU1 dO_21 (by decide +kernel)
theorem dX2_leastBelow_57 : decode cX2_leastBelow 57 = .ok (.iload 5, 2) := dcU1 dO_21 (by decide +kernel)
theorem dX2_leastBelow_59 : decode cX2_leastBelow 59 = .ok (.iand, 1) := dc0 dO_126 (by decide +kernel)
theorem dX2_leastBelow_60 : decode cX2_leastBelow 60 = .ok (.ifCond .eq 9, 3) := dcS2 dO_153 (by decide +kernel)
theorem dX2_leastBelow_63 : decode cX2_leastBelow 63 = .ok (.iload 4, 2) := dcU1 dO_21 (by decide +kernel)
theorem dX2_leastBelow_65 : decode cX2_leastBelow 65 = .ok (.iload 5, 2) := dcU1 dO_21 (by decide +kernel)
theorem dX2_leastBelow_67 : decode cX2_leastBelow 67 = .ok (.iand, 1) := dc0 dO_126 (by decide +kernel)
theorem dX2_leastBelow_68 : decode cX2_leastBelow 68 = .ok (.ireturn, 1) := dc0 dO_172 (by decide +kernel)
theorem dX2_leastBelow_69 : decode cX2_leastBelow 69 = .ok (.aload_n 0, 1) := dc0 dO_42 (by decide +kernel)
theorem dX2_leastBelow_70 : decode cX2_leastBelow 70 = .ok (.dup, 1) := dc0 dO_89 (by decide +kernel)
theorem dX2_leastBelow_71 : decode cX2_leastBelow 71 = .ok (.getfield 98, 3) := dcU2 dO_180 (by decide +kernel)
theorem dX2_leastBelow_74 : decode cX2_leastBelow 74 = .ok (.iconst 1, 1) := dc0 dO_4 (by decide +kernel)
theorem dX2_leastBelow_75 : decode cX2_leastBelow 75 = .ok (.iadd, 1) := dc0 dO_96 (by decide +kernel)
theorem dX2_leastBelow_76 : decode cX2_leastBelow 76 = .ok (.putfield 98, 3) := dcU2 dO_181 (by decide +kernel)
theorem dX2_leastBelow_79 : decode cX2_leastBelow 79 = .ok (.iload 4, 2) := dcU1 dO_21 (by decide +kernel)
theorem dX2_leastBelow_81 : decode cX2_leastBelow 81 = .ok (.iload 5, 2) := dcU1 dO_21 (by decide +kernel)
theorem dX2_leastBelow_83 : decode cX2_leastBelow 83 = .ok (.ior, 1) := dc0 dO_128 (by decide +kernel)
theorem dX2_leastBelow_84 : decode cX2_leastBelow 84 = .ok (.ireturn, 1) := dc0 dO_172 (by decide +kernel)
theorem dX2_leastTable_0 : decode cX2_leastTable 0 = .ok (.aload_n 0, 1) := dc0 dO_42 (by decide +kernel)
theorem dX2_leastTable_1 : decode cX2_leastTable 1 = .ok (.iconst 0, 1) := dc0 dO_3 (by decide +kernel)
theorem dX2_leastTable_2 : decode cX2_leastTable 2 = .ok (.putfield 98, 3) := dcU2 dO_181 (by decide +kernel)
theorem dX2_leastTable_5 : decode cX2_leastTable 5 = .ok (.aload_n 0, 1) := dc0 dO_42 (by decide +kernel)
theorem dX2_leastTable_6 : decode cX2_leastTable 6 = .ok (.iload_n 1, 1) := dc0 dO_27 (by decide +kernel)
theorem dX2_leastTable_7 : decode cX2_leastTable 7 = .ok (.iconst 0, 1) := dc0 dO_3 (by decide +kernel)
theorem dX2_leastTable_8 : decode cX2_leastTable 8 = .ok (.iconst 0, 1) := dc0 dO_3 (by decide +kernel)
theorem dX2_leastTable_9 : decode cX2_leastTable 9 = .ok (.invokevirtual 101, 3) := dcU2 dO_182 (by decide +kernel)
theorem dX2_leastTable_12 : decode cX2_leastTable 12 = .ok (.istore_n 2, 1) := dc0 dO_61 (by decide +kernel)
theorem dX2_leastTable_13 : decode cX2_leastTable 13 = .ok (.iload_n 2, 1) := dc0 dO_28 (by decide +kernel)
theorem dX2_leastTable_14 : decode cX2_leastTable 14 = .ok (.ldc 105, 2) := dcU1 dO_18 (by decide +kernel)
theorem dX2_leastTable_16 : decode cX2_leastTable 16 = .ok (.iand, 1) := dc0 dO_126 (by decide +kernel)
theorem dX2_leastTable_17 : decode cX2_leastTable 17 = .ok (.ifCond .eq 10, 3) := dcS2 dO_153 (by decide +kernel)
theorem dX2_leastTable_20 : decode cX2_leastTable 20 = .ok (.aload_n 0, 1) := dc0 dO_42 (by decide +kernel)
theorem dX2_leastTable_21 : decode cX2_leastTable 21 = .ok (.getfield 98, 3) := dcU2 dO_180 (by decide +kernel)
theorem dX2_leastTable_24 : decode cX2_leastTable 24 = .ok (.goto 9, 3) := dcS2 dO_167 (by decide +kernel)
theorem dX2_leastTable_27 : decode cX2_leastTable 27 = .ok (.aload_n 0, 1) := dc0 dO_42 (by decide +kernel)
theorem dX2_leastTable_28 : decode cX2_leastTable 28 = .ok (.getfield 98, 3) := dcU2 dO_180 (by decide +kernel)
theorem dX2_leastTable_31 : decode cX2_leastTable 31 = .ok (.iconst 1, 1) := dc0 dO_4 (by decide +kernel)
theorem dX2_leastTable_32 : decode cX2_leastTable 32 = .ok (.iadd, 1) := dc0 dO_96 (by decide +kernel)
theorem dX2_leastTable_33 : decode cX2_leastTable 33 = .ok (.ireturn, 1) := dc0 dO_172 (by decide +kernel)
theorem dX3_carry_0 : decode cX3_carry 0 = .ok (.iload_n 1, 1) := dc0 dO_27 (by decide +kernel)
theorem dX3_carry_1 : decode cX3_carry 1 = .ok (.sipush 192, 3) := dcS2 dO_17 (by decide +kernel)
theorem dX3_carry_4 : decode cX3_carry 4 = .ok (.iand, 1) := dc0 dO_126 (by decide +kernel)
theorem dX3_carry_5 : decode cX3_carry 5 = .ok (.sipush 192, 3) := dcS2 dO_17 (by decide +kernel)
theorem dX3_carry_8 : decode cX3_carry 8 = .ok (.if_icmp .ne 23, 3) := dcS2 dO_160 (by decide +kernel)
theorem dX3_carry_11 : decode cX3_carry 11 = .ok (.aload_n 0, 1) := dc0 dO_42 (by decide +kernel)
theorem dX3_carry_12 : decode cX3_carry 12 = .ok (.getfield 15, 3) := dcU2 dO_180 (by decide +kernel)
theorem dX3_carry_15 : decode cX3_carry 15 = .ok (.aload_n 0, 1) := dc0 dO_42 (by decide +kernel)
theorem dX3_carry_16 : decode cX3_carry 16 = .ok (.getfield 79, 3) := dcU2 dO_180 (by decide +kernel)
theorem dX3_carry_19 : decode cX3_carry 19 = .ok (.iload_n 2, 1) := dc0 dO_28 (by decide +kernel)
theorem dX3_carry_20 : decode cX3_carry 20 = .ok (.iastore, 1) := dc0 dO_79 (by decide +kernel)
theorem dX3_carry_21 : decode cX3_carry 21 = .ok (.aload_n 0, 1) := dc0 dO_42 (by decide +kernel)
theorem dX3_carry_22 : decode cX3_carry 22 = .ok (.dup, 1) := dc0 dO_89 (by decide +kernel)
theorem dX3_carry_23 : decode cX3_carry 23 = .ok (.getfield 79, 3) := dcU2 dO_180 (by decide +kernel)
theorem dX3_carry_26 : decode cX3_carry 26 = .ok (.iconst 1, 1) := dc0 dO_4 (by decide +kernel)
theorem dX3_carry_27 : decode cX3_carry 27 = .ok (.iadd, 1) := dc0 dO_96 (by decide +kernel)
theorem dX3_carry_28 : decode cX3_carry 28 = .ok (.putfield 79, 3) := dcU2 dO_181 (by decide +kernel)
theorem dX3_carry_31 : decode cX3_carry 31 = .ok (.return_, 1) := dc0 dO_177 (by decide +kernel)
theorem dX3_read_0 : decode cX3_read 0 = .ok (.aload_n 0, 1) := dc0 dO_42 (by decide +kernel)
theorem dX3_read_1 : decode cX3_read 1 = .ok (.aload_n 1, 1) := dc0 dO_43 (by decide +kernel)
theorem dX3_read_2 : decode cX3_read 2 = .ok (.putfield 41, 3) := dcU2 dO_181 (by decide +kernel)
theorem dX3_read_5 : decode cX3_read 5 = .ok (.aload_n 0, 1) := dc0 dO_42 (by decide +kernel)
theorem dX3_read_6 : decode cX3_read 6 = .ok (.invokevirtual 44, 3) := dcU2 dO_182 (by decide +kernel)
theorem dX3_read_9 : decode cX3_read 9 = .ok (.aload_n 0, 1) := dc0 dO_42 (by decide +kernel)
theorem dX3_read_10 : decode cX3_read 10 = .ok (.iload_n 2, 1) := dc0 dO_28 (by decide +kernel)
theorem dX3_read_11 : decode cX3_read 11 = .ok (.invokevirtual 47, 3) := dcU2 dO_182 (by decide +kernel)
theorem dX3_read_14 : decode cX3_read 14 = .ok (.aload_n 0, 1) := dc0 dO_42 (by decide +kernel)
theorem dX3_read_15 : decode cX3_read 15 = .ok (.getfield 22, 3) := dcU2 dO_180 (by decide +kernel)
theorem dX3_read_18 : decode cX3_read 18 = .ok (.iconst 1, 1) := dc0 dO_4 (by decide +kernel)
theorem dX3_read_19 : decode cX3_read 19 = .ok (.iaload, 1) := dc0 dO_46 (by decide +kernel)
theorem dX3_read_20 : decode cX3_read 20 = .ok (.ldc 21, 2) := dcU1 dO_18 (by decide +kernel)
theorem dX3_read_22 : decode cX3_read 22 = .ok (.if_icmp .eq 5, 3) := dcS2 dO_159 (by decide +kernel)
theorem dX3_read_25 : decode cX3_read 25 = .ok (.iconst 1, 1) := dc0 dO_4 (by decide +kernel)
theorem dX3_read_26 : decode cX3_read 26 = .ok (.ireturn, 1) := dc0 dO_172 (by decide +kernel)
theorem dX3_read_27 : decode cX3_read 27 = .ok (.aload_n 0, 1) := dc0 dO_42 (by decide +kernel)
theorem dX3_read_28 : decode cX3_read 28 = .ok (.iconst 1, 1) := dc0 dO_4 (by decide +kernel)
theorem dX3_read_29 : decode cX3_read 29 = .ok (.putfield 51, 3) := dcU2 dO_181 (by decide +kernel)
theorem dX3_read_32 : decode cX3_read 32 = .ok (.aload_n 0, 1) := dc0 dO_42 (by decide +kernel)
theorem dX3_read_33 : decode cX3_read 33 = .ok (.getfield 28, 3) := dcU2 dO_180 (by decide +kernel)
theorem dX3_read_36 : decode cX3_read 36 = .ok (.iconst 0, 1) := dc0 dO_3 (by decide +kernel)
theorem dX3_read_37 : decode cX3_read 37 = .ok (.putfield 55, 3) := dcU2 dO_181 (by decide +kernel)
theorem dX3_read_40 : decode cX3_read 40 = .ok (.iconst 0, 1) := dc0 dO_3 (by decide +kernel)
theorem dX3_read_41 : decode cX3_read 41 = .ok (.istore_n 3, 1) := dc0 dO_62 (by decide +kernel)
theorem dX3_read_42 : decode cX3_read 42 = .ok (.iload_n 3, 1) := dc0 dO_29 (by decide +kernel)
theorem dX3_read_43 : decode cX3_read 43 = .ok (.aload_n 0, 1) := dc0 dO_42 (by decide +kernel)
theorem dX3_read_44 : decode cX3_read 44 = .ok (.getfield 59, 3) := dcU2 dO_180 (by decide +kernel)
theorem dX3_read_47 : decode cX3_read 47 = .ok (.if_icmp .ge 22, 3) := dcS2 dO_162 (by decide +kernel)
theorem dX3_read_50 : decode cX3_read 50 = .ok (.aload_n 0, 1) := dc0 dO_42 (by decide +kernel)
theorem dX3_read_51 : decode cX3_read 51 = .ok (.getfield 28, 3) := dcU2 dO_180 (by decide +kernel)
theorem dX3_read_54 : decode cX3_read 54 = .ok (.aload_n 0, 1) := dc0 dO_42 (by decide +kernel)
theorem dX3_read_55 : decode cX3_read 55 = .ok (.getfield 18, 3) := dcU2 dO_180 (by decide +kernel)
theorem dX3_read_58 : decode cX3_read 58 = .ok (.iload_n 3, 1) := dc0 dO_29 (by decide +kernel)
theorem dX3_read_59 : decode cX3_read 59 = .ok (.iaload, 1) := dc0 dO_46 (by decide +kernel)
theorem dX3_read_60 : decode cX3_read 60 = .ok (.invokevirtual 60, 3) := dcU2 dO_182 (by decide +kernel)
theorem dX3_read_63 : decode cX3_read 63 = .ok (.iinc 3 1, 3) := dcI dO_132 (by decide +kernel)
theorem dX3_read_66 : decode cX3_read 66 = .ok (.goto (-24), 3) := dcS2 dO_167 (by decide +kernel)
theorem dX3_read_69 : decode cX3_read 69 = .ok (.aload_n 0, 1) := dc0 dO_42 (by decide +kernel)
theorem dX3_read_70 : decode cX3_read 70 = .ok (.getfield 22, 3) := dcU2 dO_180 (by decide +kernel)
theorem dX3_read_73 : decode cX3_read 73 = .ok (.iconst 2, 1) := dc0 dO_5 (by decide +kernel)
theorem dX3_read_74 : decode cX3_read 74 = .ok (.iaload, 1) := dc0 dO_46 (by decide +kernel)
theorem dX3_read_75 : decode cX3_read 75 = .ok (.ldc 21, 2) := dcU1 dO_18 (by decide +kernel)
theorem dX3_read_77 : decode cX3_read 77 = .ok (.if_icmp .eq 23, 3) := dcS2 dO_159 (by decide +kernel)
theorem dX3_read_80 : decode cX3_read 80 = .ok (.aload_n 0, 1) := dc0 dO_42 (by decide +kernel)
theorem dX3_read_81 : decode cX3_read 81 = .ok (.dup, 1) := dc0 dO_89 (by decide +kernel)
theorem dX3_read_82 : decode cX3_read 82 = .ok (.getfield 63, 3) := dcU2 dO_180 (by decide +kernel)
theorem dX3_read_85 : decode cX3_read 85 = .ok (.aload_n 0, 1) := dc0 dO_42 (by decide +kernel)
theorem dX3_read_86 : decode cX3_read 86 = .ok (.getfield 66, 3) := dcU2 dO_180 (by decide +kernel)
theorem dX3_read_89 : decode cX3_read 89 = .ok (.iadd, 1) := dc0 dO_96 (by decide +kernel)
theorem dX3_read_90 : decode cX3_read 90 = .ok (.putfield 63, 3) := dcU2 dO_181 (by decide +kernel)
theorem dX3_read_93 : decode cX3_read 93 = .ok (.aload_n 0, 1) := dc0 dO_42 (by decide +kernel)
theorem dX3_read_94 : decode cX3_read 94 = .ok (.iconst 0, 1) := dc0 dO_3 (by decide +kernel)
theorem dX3_read_95 : decode cX3_read 95 = .ok (.putfield 66, 3) := dcU2 dO_181 (by decide +kernel)
theorem dX3_read_98 : decode cX3_read 98 = .ok (.iconst 2, 1) := dc0 dO_5 (by decide +kernel)
theorem dX3_read_99 : decode cX3_read 99 = .ok (.ireturn, 1) := dc0 dO_172 (by decide +kernel)
theorem dX3_read_100 : decode cX3_read 100 = .ok (.aload_n 0, 1) := dc0 dO_42 (by decide +kernel)
theorem dX3_read_101 : decode cX3_read 101 = .ok (.getfield 22, 3) := dcU2 dO_180 (by decide +kernel)
theorem dX3_read_104 : decode cX3_read 104 = .ok (.iconst 3, 1) := dc0 dO_6 (by decide +kernel)
theorem dX3_read_105 : decode cX3_read 105 = .ok (.iaload, 1) := dc0 dO_46 (by decide +kernel)
theorem dX3_read_106 : decode cX3_read 106 = .ok (.ldc 21, 2) := dcU1 dO_18 (by decide +kernel)
theorem dX3_read_108 : decode cX3_read 108 = .ok (.if_icmp .eq 7, 3) := dcS2 dO_159 (by decide +kernel)
theorem dX3_read_111 : decode cX3_read 111 = .ok (.iconst 3, 1) := dc0 dO_6 (by decide +kernel)
theorem dX3_read_112 : decode cX3_read 112 = .ok (.goto 4, 3) := dcS2 dO_167 (by decide +kernel)
theorem dX3_read_115 : decode cX3_read 115 = .ok (.iconst 0, 1) := dc0 dO_3 (by decide +kernel)
theorem dX3_read_116 : decode cX3_read 116 = .ok (.ireturn, 1) := dc0 dO_172 (by decide +kernel)
theorem dX3_readAttribute_0 : decode cX3_readAttribute 0 = .ok (.aload_n 0, 1) := dc0 dO_42 (by decide +kernel)
theorem dX3_readAttribute_1 : decode cX3_readAttribute 1 = .ok (.getfield 41, 3) := dcU2 dO_180 (by decide +kernel)
theorem dX3_readAttribute_4 : decode cX3_readAttribute 4 = .ok (.iload_n 1, 1) := dc0 dO_27 (by decide +kernel)
theorem dX3_readAttribute_5 : decode cX3_readAttribute 5 = .ok (.iaload, 1) := dc0 dO_46 (by decide +kernel)
theorem dX3_readAttribute_6 : decode cX3_readAttribute 6 = .ok (.istore 4, 2) := dcU1 dO_54 (by decide +kernel)
theorem dX3_readAttribute_8 : decode cX3_readAttribute 8 = .ok (.iload 4, 2) := dcU1 dO_21 (by decide +kernel)
theorem dX3_readAttribute_10 : decode cX3_readAttribute 10 = .ok (.sipush 207, 3) := dcS2 dO_17 (by decide +kernel)
theorem dX3_readAttribute_13 : decode cX3_readAttribute 13 = .ok (.iand, 1) := dc0 dO_126 (by decide +kernel)
theorem dX3_readAttribute_14 : decode cX3_readAttribute 14 = .ok (.istore 5, 2) := dcU1 dO_54 (by decide +kernel)
theorem dX3_readAttribute_16 : decode cX3_readAttribute 16 = .ok (.aload_n 0, 1) := dc0 dO_42 (by decide +kernel)
theorem dX3_readAttribute_17 : decode cX3_readAttribute 17 = .ok (.getfield 41, 3) := dcU2 dO_180 (by decide +kernel)
theorem dX3_readAttribute_20 : decode cX3_readAttribute 20 = .ok (.iload_n 1, 1) := dc0 dO_27 (by decide +kernel)
theorem dX3_readAttribute_21 : decode cX3_readAttribute 21 = .ok (.iconst 1, 1) := dc0 dO_4 (by decide +kernel)
theorem dX3_readAttribute_22 : decode cX3_readAttribute 22 = .ok (.iadd, 1) := dc0 dO_96 (by decide +kernel)
theorem dX3_readAttribute_23 : decode cX3_readAttribute 23 = .ok (.iaload, 1) := dc0 dO_46 (by decide +kernel)
theorem dX3_readAttribute_24 : decode cX3_readAttribute 24 = .ok (.istore 6, 2) := dcU1 dO_54 (by decide +kernel)
theorem dX3_readAttribute_26 : decode cX3_readAttribute 26 = .ok (.aload_n 0, 1) := dc0 dO_42 (by decide +kernel)
theorem dX3_readAttribute_27 : decode cX3_readAttribute 27 = .ok (.getfield 11, 3) := dcU2 dO_180 (by decide +kernel)
theorem dX3_readAttribute_30 : decode cX3_readAttribute 30 = .ok (.iload 6, 2) := dcU1 dO_21 (by decide +kernel)
theorem dX3_readAttribute_32 : decode cX3_readAttribute 32 = .ok (.iaload, 1) := dc0 dO_46 (by decide +kernel)
theorem dX3_readAttribute_33 : decode cX3_readAttribute 33 = .ok (.ifCond .eq 10, 3) := dcS2 dO_153 (by decide +kernel)
theorem dX3_readAttribute_36 : decode cX3_readAttribute 36 = .ok (.aload_n 0, 1) := dc0 dO_42 (by decide +kernel)
theorem dX3_readAttribute_37 : decode cX3_readAttribute 37 = .ok (.iconst 3, 1) := dc0 dO_6 (by decide +kernel)
theorem dX3_readAttribute_38 : decode cX3_readAttribute 38 = .ok (.iload_n 1, 1) := dc0 dO_27 (by decide +kernel)
theorem dX3_readAttribute_39 : decode cX3_readAttribute 39 = .ok (.invokevirtual 92, 3) := dcU2 dO_182 (by decide +kernel)
theorem dX3_readAttribute_42 : decode cX3_readAttribute 42 = .ok (.return_, 1) := dc0 dO_177 (by decide +kernel)
theorem dX3_readAttribute_43 : decode cX3_readAttribute 43 = .ok (.aload_n 0, 1) := dc0 dO_42 (by decide +kernel)
theorem dX3_readAttribute_44 : decode cX3_readAttribute 44 = .ok (.getfield 11, 3) := dcU2 dO_180 (by decide +kernel)
theorem dX3_readAttribute_47 : decode cX3_readAttribute 47 = .ok (.iload 6, 2) := dcU1 dO_21 (by decide +kernel)
theorem dX3_readAttribute_49 : decode cX3_readAttribute 49 = .ok (.iconst 1, 1) := dc0 dO_4 (by decide +kernel)
theorem dX3_readAttribute_50 : decode cX3_readAttribute 50 = .ok (.iastore, 1) := dc0 dO_79 (by decide +kernel)
theorem dX3_readAttribute_51 : decode cX3_readAttribute 51 = .ok (.iload 6, 2) := dcU1 dO_21 (by decide +kernel)
theorem dX3_readAttribute_53 : decode cX3_readAttribute 53 = .ok (.tableswitch 169 1 8 #[47, 81, 169, 115, 169, 169, 169, 142], 47) := by decide +kernel
theorem dX3_readAttribute_100 : decode cX3_readAttribute 100 = .ok (.aload_n 0, 1) := dc0 dO_42 (by decide +kernel)
theorem dX3_readAttribute_101 : decode cX3_readAttribute 101 = .ok (.iload 5, 2) := dcU1 dO_21 (by decide +kernel)
theorem dX3_readAttribute_103 : decode cX3_readAttribute 103 = .ok (.bipush 64, 2) := dcS1 dO_16 (by decide +kernel)
theorem dX3_readAttribute_105 : decode cX3_readAttribute 105 = .ok (.if_icmp .ne 16, 3) := dcS2 dO_160 (by decide +kernel)
theorem dX3_readAttribute_108 : decode cX3_readAttribute 108 = .ok (.aload_n 0, 1) := dc0 dO_42 (by decide +kernel)
theorem dX3_readAttribute_109 : decode cX3_readAttribute 109 = .ok (.iload_n 2, 1) := dc0 dO_28 (by decide +kernel)
theorem dX3_readAttribute_110 : decode cX3_readAttribute 110 = .ok (.iload_n 3, 1) := dc0 dO_29 (by decide +kernel)
theorem dX3_readAttribute_111 : decode cX3_readAttribute 111 = .ok (.invokevirtual 111, 3) := dcU2 dO_182 (by decide +kernel)
theorem dX3_readAttribute_114 : decode cX3_readAttribute 114 = .ok (.ifCond .eq 7, 3) := dcS2 dO_153 (by decide +kernel)
theorem dX3_readAttribute_117 : decode cX3_readAttribute 117 = .ok (.iconst 1, 1) := dc0 dO_4 (by decide +kernel)
theorem dX3_readAttribute_118 : decode cX3_readAttribute 118 = .ok (.goto 4, 3) := dcS2 dO_167 (by decide +kernel)
theorem dX3_readAttribute_121 : decode cX3_readAttribute 121 = .ok (.iconst 0, 1) := dc0 dO_3 (by decide +kernel)
theorem dX3_readAttribute_122 : decode cX3_readAttribute 122 = .ok (.putfield 82, 3) := dcU2 dO_181 (by decide +kernel)
theorem dX3_readAttribute_125 : decode cX3_readAttribute 125 = .ok (.aload_n 0, 1) := dc0 dO_42 (by decide +kernel)
theorem dX3_readAttribute_126 : decode cX3_readAttribute 126 = .ok (.getfield 82, 3) := dcU2 dO_180 (by decide +kernel)
theorem sfx_cX3_readAttribute_128 : (cX3_readAttribute.data.toList.drop 128).take 67 = [82, 54, 7, 167, 0, 115, 42, 21, 5, 16, 64, 160, 0, 16, 42, 28, 29, 182, 0, 115, 153, 0, 7, 4, 167, 0, 4, 3, 181, 0, 85, 42, 180, 0, 85, 54, 7, 167, 0, 81, 21, 5, 17, 0, 128, 160, 0, 16, 42, 28, 29, 182, 0, 118, 153, 0, 7, 4, 167, 0, 4, 3, 54, 7, 167, 0, 54] := by decide +kernel
theorem dX3_readAttribute_129 : decode cX3_readAttribute 129 = .ok (.istore 7, 2) := dcU1 dO_54 (rdU1.ch sfx_cX3_readAttribute_128 1 rfl (by decide +kernel))
theorem dX3_readAttribute_131 : decode cX3_readAttribute 131 = .ok (.goto 115, 3) := dcS2 dO_167 (rdS2.ch sfx_cX3_readAttribute_128 3 rfl (by decide +kernel))
theorem dX3_readAttribute_134 : decode cX3_readAttribute 134 = .ok (.aload_n 0, 1) := dc0 dO_42 (rdB.ch sfx_cX3_readAttribute_128 6 rfl (by decide +kernel))
theorem dX3_readAttribute_135 : decode cX3_readAttribute 135 = .ok (.iload 5, 2) := dcU1 dO_21 (rdU1.ch sfx_cX3_readAttribute_128 7 rfl (by decide +kernel))
theorem dX3_readAttribute_137 : decode cX3_readAttribute 137 = .ok (.bipush 64, 2) := dcS1 dO_16 (rdS1.ch sfx_cX3_readAttribute_128 9 rfl (by decide +kernel))
theorem dX3_readAttribute_139 : decode cX3_readAttribute 139 = .ok (.if_icmp .ne 16, 3) := dcS2 dO_160 (rdS2.ch sfx_cX3_readAttribute_128 11 rfl (by decide +kernel))
theorem dX3_readAttribute_142 : decode cX3_readAttribute 142 = .ok (.aload_n 0, 1) := dc0 dO_42 (rdB.ch sfx_cX3_readAttribute_128 14 rfl (by decide +kernel))
theorem dX3_readAttribute_143 : decode cX3_readAttribute 143 = .ok (.iload_n 2, 1) := dc0 dO_28 (rdB.ch sfx_cX3_readAttribute_128 15 rfl (by decide +kernel))
theorem dX3_readAttribute_144 : decode cX3_readAttribute 144 = .ok (.iload_n 3, 1) := dc0 dO_29 (rdB.ch sfx_cX3_readAttribute_128 16 rfl (by decide +kernel))
theorem dX3_readAttribute_145 : decode cX3_readAttribute 145 = .ok (.invokevirtual 115, 3) := dcU2 dO_182 (rdU2.ch sfx_cX3_readAttribute_128 17 rfl (by decide +kernel))
theorem dX3_readAttribute_148 : decode cX3_readAttribute 148 = .ok (.ifCond .eq 7, 3) := dcS2 dO_153 (rdS2.ch sfx_cX3_readAttribute_128 20 rfl (by decide +kernel))
theorem dX3_readAttribute_151 : decode cX3_readAttribute 151 = .ok (.iconst 1, 1) := dc0 dO_4 (rdB.ch sfx_cX3_readAttribute_128 23 rfl (by decide +kernel))
theorem dX3_readAttribute_152 : decode cX3_readAttribute 152 = .ok (.goto 4, 3) := dcS2 dO_167 (rdS2.ch sfx_cX3_readAttribute_128 24 rfl (by decide +kernel))
theorem dX3_readAttribute_155 : decode cX3_readAttribute 155 = .ok (.iconst 0, 1) := dc0 dO_3 (rdB.ch sfx_cX3_readAttribute_128 27 rfl (by decide +kernel))
theorem dX3_readAttribute_156 : decode cX3_readAttribute 156 = .ok (.putfield 85, 3) := dcU2 dO_181 (rdU2.ch sfx_cX3_readAttribute_128 28 rfl (by decide +kernel))
theorem dX3_readAttribute_159 : decode cX3_readAttribute 159 = .ok (.aload_n 0, 1) := dc0 dO_42 (rdB.ch sfx_cX3_readAttribute_128 31 rfl (by decide +kernel))
theorem dX3_readAttribute_160 : decode cX3_readAttribute 160 = .ok (.getfield 85, 3) := dcU2 dO_180 (rdU2.ch sfx_cX3_readAttribute_128 32 rfl (by decide +kernel))
theorem dX3_readAttribute_163 : decode cX3_readAttribute 163 = .ok (.istore 7, 2) := dcU1 dO_54 (rdU1.ch sfx_cX3_readAttribute_128 35 rfl (by decide +kernel))
theorem dX3_readAttribute_165 : decode cX3_readAttribute 165 = .ok (.goto 81, 3) := dcS2 dO_167 (rdS2.ch sfx_cX3_readAttribute_128 37 rfl (by decide +kernel))
theorem dX3_readAttribute_168 : decode cX3_readAttribute 168 = .ok (.iload 5, 2) := dcU1 dO_21 (rdU1.ch sfx_cX3_readAttribute_128 40 rfl (by decide +kernel))
theorem dX3_readAttribute_170 : decode cX3_readAttribute 170 = .ok (.sipush 128, 3) := dcS2 dO_17 (rdS2.ch sfx_cX3_readAttribute_128 42 rfl (by decide +kernel))
theorem dX3_readAttribute_173 : decode cX3_readAttribute 173 = .ok (.if_icmp .ne 16, 3) := dcS2 dO_160 (rdS2.ch sfx_cX3_readAttribute_128 45 rfl (by decide +kernel))
theorem dX3_readAttribute_176 : decode cX3_readAttribute 176 = .ok (.aload_n 0, 1) := dc0 dO_42 (rdB.ch sfx_cX3_readAttribute_128 48 rfl (by decide +kernel))
theorem dX3_readAttribute_177 : decode cX3_readAttribute 177 = .ok (.iload_n 2, 1) := dc0 dO_28 (rdB.ch sfx_cX3_readAttribute_128 49 rfl (by decide +kernel))
theorem dX3_readAttribute_178 : decode cX3_readAttribute 178 = .ok (.iload_n 3, 1) := dc0 dO_29 (rdB.ch sfx_cX3_readAttribute_128 50 rfl (by decide +kernel))
theorem dX3_readAttribute_179 : decode cX3_readAttribute 179 = .ok (.invokevirtual 118, 3) := dcU2 dO_182 (rdU2.ch sfx_cX3_readAttribute_128 51 rfl (by decide +kernel))
theorem dX3_readAttribute_182 : decode cX3_readAttribute 182 = .ok (.ifCond .eq 7, 3) := dcS2 dO_153 (rdS2.ch sfx_cX3_readAttribute_128 54 rfl (by decide +kernel))
theorem dX3_readAttribute_185 : decode cX3_readAttribute 185 = .ok (.iconst 1, 1) := dc0 dO_4 (rdB.ch sfx_cX3_readAttribute_128 57 rfl (by decide +kernel))
theorem dX3_readAttribute_186 : decode cX3_readAttribute 186 = .ok (.goto 4, 3) := dcS2 dO_167 (rdS2.ch sfx_cX3_readAttribute_128 58 rfl (by decide +kernel))
theorem dX3_readAttribute_189 : decode cX3_readAttribute 189 = .ok (.iconst 0, 1) := dc0 dO_3 (rdB.ch sfx_cX3_readAttribute_128 61 rfl (by decide +kernel))
theorem dX3_readAttribute_190 : decode cX3_readAttribute 190 = .ok (.istore 7, 2) := dcU1 dO_54 (rdU1.ch sfx_cX3_readAttribute_128 62 rfl (by decide +kernel))
theorem sfx_cX3_readAttribute_192 : (cX3_readAttribute.data.toList.drop 192).take 67 = [167, 0, 54, 21, 5, 17, 0, 192, 160, 0, 16, 42, 28, 29, 182, 0, 121, 153, 0, 7, 4, 167, 0, 4, 3, 54, 7, 167, 0, 27, 21, 4, 17, 0, 128, 126, 153, 0, 7, 4, 167, 0, 4, 3, 54, 7, 42, 21, 4, 21, 6, 182, 0, 124, 21, 7, 154, 0, 9, 42, 5, 27, 182, 0, 92, 177] := by decide +kernel
theorem dX3_readAttribute_192 : decode cX3_readAttribute 192 = .ok (.goto 54, 3) := dcS2 dO_167 (rdS2.ch sfx_cX3_readAttribute_192 0 rfl (by decide +kernel))
theorem dX3_readAttribute_195 : decode cX3_readAttribute 195 = .ok (.iload 5, 2) := dcU1 dO_21 (rdU1.ch sfx_cX3_readAttribute_192 3 rfl (by decide +kernel))
theorem dX3_readAttribute_197 : decode cX3_readAttribute 197 = .ok (.sipush 192, 3) := dcS2 dO_17 (rdS2.ch sfx_cX3_readAttribute_192 5 rfl (by decide +kernel))
theorem dX3_readAttribute_200 : decode cX3_readAttribute 200 = .ok (.if_icmp .ne 16, 3) := dcS2 dO_160 (rdS2.ch sfx_cX3_readAttribute_192 8 rfl (by decide +kernel))
theorem dX3_readAttribute_203 : decode cX3_readAttribute 203 = .ok (.aload_n 0, 1) := dc0 dO_42 (rdB.ch sfx_cX3_readAttribute_192 11 rfl (by decide +kernel))
theorem dX3_readAttribute_204 : decode cX3_readAttribute 204 = .ok (.iload_n 2, 1) := dc0 dO_28 (rdB.ch sfx_cX3_readAttribute_192 12 rfl (by decide +kernel))
theorem dX3_readAttribute_205 : decode cX3_readAttribute 205 = .ok (.iload_n 3, 1) := dc0 dO_29 (rdB.ch sfx_cX3_readAttribute_192 13 rfl (by decide +kernel))
theorem dX3_readAttribute_206 : decode cX3_readAttribute 206 = .ok (.invokevirtual 121, 3) := dcU2 dO_182 (rdU2.ch sfx_cX3_readAttribute_192 14 rfl (by decide +kernel))
theorem dX3_readAttribute_209 : decode cX3_readAttribute 209 = .ok (.ifCond .eq 7, 3) := dcS2 dO_153 (rdS2.ch sfx_cX3_readAttribute_192 17 rfl (by decide +kernel))
theorem dX3_readAttribute_212 : decode cX3_readAttribute 212 = .ok (.iconst 1, 1) := dc0 dO_4 (rdB.ch sfx_cX3_readAttribute_192 20 rfl (by decide +kernel))
theorem dX3_readAttribute_213 : decode cX3_readAttribute 213 = .ok (.goto 4, 3) := dcS2 dO_167 (rdS2.ch sfx_cX3_readAttribute_192 21 rfl (by decide +kernel))
theorem dX3_readAttribute_216 : decode cX3_readAttribute 216 = .ok (.iconst 0, 1) := dc0 dO_3 (rdB.ch sfx_cX3_readAttribute_192 24 rfl (by decide +kernel))
theorem dX3_readAttribute_217 : decode cX3_readAttribute 217 = .ok (.istore 7, 2) := dcU1 dO_54 (rdU1.ch sfx_cX3_readAttribute_192 25 rfl (by decide +kernel))
theorem dX3_readAttribute_219 : decode cX3_readAttribute 219 = .ok (.goto 27, 3) := dcS2 dO_167 (rdS2.ch sfx_cX3_readAttribute_192 27 rfl (by decide +kernel))
theorem dX3_readAttribute_222 : decode cX3_readAttribute 222 = .ok (.iload 4, 2) := dcU1 dO_21 (rdU1.ch sfx_cX3_readAttribute_192 30 rfl (by decide +kernel))
theorem dX3_readAttribute_224 : decode cX3_readAttribute 224 = .ok (.sipush 128, 3) := dcS2 dO_17 (rdS2.ch sfx_cX3_readAttribute_192 32 rfl (by decide +kernel))
theorem dX3_readAttribute_227 : decode cX3_readAttribute 227 = .ok (.iand, 1) := dc0 dO_126 (rdB.ch sfx_cX3_readAttribute_192 35 rfl (by decide +kernel))
theorem dX3_readAttribute_228 : decode cX3_readAttribute 228 = .ok (.ifCond .eq 7, 3) := dcS2 dO_153 (rdS2.ch sfx_cX3_readAttribute_192 36 rfl (by decide +kernel))
theorem dX3_readAttribute_231 : decode cX3_readAttribute 231 = .ok (.iconst 1, 1) := dc0 dO_4 (rdB.ch sfx_cX3_readAttribute_192 39 rfl (by decide +kernel))
theorem dX3_readAttribute_232 : decode cX3_readAttribute 232 = .ok (.goto 4, 3) := dcS2 dO_167 (rdS2.ch sfx_cX3_readAttribute_192 40 rfl (by decide +kernel))
theorem dX3_readAttribute_235 : decode cX3_readAttribute 235 = .ok (.iconst 0, 1) := dc0 dO_3 (rdB.ch sfx_cX3_readAttribute_192 43 rfl (by decide +kernel))
theorem dX3_readAttribute_236 : decode cX3_readAttribute 236 = .ok (.istore 7, 2) := dcU1 dO_54 (rdU1.ch sfx_cX3_readAttribute_192 44 rfl (by decide +kernel))
theorem dX3_readAttribute_238 : decode cX3_readAttribute 238 = .ok (.aload_n 0, 1) := dc0 dO_42 (rdB.ch sfx_cX3_readAttribute_192 46 rfl (by decide +kernel))
theorem dX3_readAttribute_239 : decode cX3_readAttribute 239 = .ok (.iload 4, 2) := dcU1 dO_21 (rdU1.ch sfx_cX3_readAttribute_192 47 rfl (by decide +kernel))
theorem dX3_readAttribute_241 : decode cX3_readAttribute 241 = .ok (.iload 6, 2) := dcU1 dO_21 (rdU1.ch sfx_cX3_readAttribute_192 49 rfl (by decide +kernel))
theorem dX3_readAttribute_243 : decode cX3_readAttribute 243 = .ok (.invokevirtual 124, 3) := dcU2 dO_182 (rdU2.ch sfx_cX3_readAttribute_192 51 rfl (by decide +kernel))
theorem dX3_readAttribute_246 : decode cX3_readAttribute 246 = .ok (.iload 7, 2) := dcU1 dO_21 (rdU1.ch sfx_cX3_readAttribute_192 54 rfl (by decide +kernel))
theorem dX3_readAttribute_248 : decode cX3_readAttribute 248 = .ok (.ifCond .ne 9, 3) := dcS2 dO_154 (rdS2.ch sfx_cX3_readAttribute_192 56 rfl (by decide +kernel))
theorem dX3_readAttribute_251 : decode cX3_readAttribute 251 = .ok (.aload_n 0, 1) := dc0 dO_42 (rdB.ch sfx_cX3_readAttribute_192 59 rfl (by decide +kernel))
theorem dX3_readAttribute_252 : decode cX3_readAttribute 252 = .ok (.iconst 2, 1) := dc0 dO_5 (rdB.ch sfx_cX3_readAttribute_192 60 rfl (by decide +kernel))
theorem dX3_readAttribute_253 : decode cX3_readAttribute 253 = .ok (.iload_n 1, 1) := dc0 dO_27 (rdB.ch sfx_cX3_readAttribute_192 61 rfl (by decide +kernel))
theorem dX3_readAttribute_254 : decode cX3_readAttribute 254 = .ok (.invokevirtual 92, 3) := dcU2 dO_182 (rdU2.ch sfx_cX3_readAttribute_192 62 rfl (by decide +kernel))
theorem sfx_cX3_readAttribute_256 : (cX3_readAttribute.data.toList.drop 256).take 67 = [92, 177] := by decide +kernel
theorem dX3_readAttribute_257 : decode cX3_readAttribute 257 = .ok (.return_, 1) := dc0 dO_177 (rdB.ch sfx_cX3_readAttribute_256 1 rfl (by decide +kernel))
theorem dX3_readAttributes_0 : decode cX3_readAttributes 0 = .ok (.iload_n 1, 1) := dc0 dO_27 (by decide +kernel)
theorem dX3_readAttributes_1 : decode cX3_readAttributes 1 = .ok (.istore_n 3, 1) := dc0 dO_62 (by decide +kernel)
theorem dX3_readAttributes_2 : decode cX3_readAttributes 2 = .ok (.iload_n 3, 1) := dc0 dO_29 (by decide +kernel)
theorem dX3_readAttributes_3 : decode cX3_readAttributes 3 = .ok (.iload_n 2, 1) := dc0 dO_28 (by decide +kernel)
theorem dX3_readAttributes_4 : decode cX3_readAttributes 4 = .ok (.if_icmp .ge 108, 3) := dcS2 dO_162 (by decide +kernel)
theorem dX3_readAttributes_7 : decode cX3_readAttributes 7 = .ok (.aload_n 0, 1) := dc0 dO_42 (by decide +kernel)
theorem dX3_readAttributes_8 : decode cX3_readAttributes 8 = .ok (.getfield 41, 3) := dcU2 dO_180 (by decide +kernel)
theorem dX3_readAttributes_11 : decode cX3_readAttributes 11 = .ok (.iload_n 3, 1) := dc0 dO_29 (by decide +kernel)
theorem dX3_readAttributes_12 : decode cX3_readAttributes 12 = .ok (.iaload, 1) := dc0 dO_46 (by decide +kernel)
theorem dX3_readAttributes_13 : decode cX3_readAttributes 13 = .ok (.bipush 16, 2) := dcS1 dO_16 (by decide +kernel)
theorem dX3_readAttributes_15 : decode cX3_readAttributes 15 = .ok (.iand, 1) := dc0 dO_126 (by decide +kernel)
theorem dX3_readAttributes_16 : decode cX3_readAttributes 16 = .ok (.ifCond .eq 7, 3) := dcS2 dO_153 (by decide +kernel)
theorem dX3_readAttributes_19 : decode cX3_readAttributes 19 = .ok (.iconst 1, 1) := dc0 dO_4 (by decide +kernel)
theorem dX3_readAttributes_20 : decode cX3_readAttributes 20 = .ok (.goto 4, 3) := dcS2 dO_167 (by decide +kernel)
theorem dX3_readAttributes_23 : decode cX3_readAttributes 23 = .ok (.iconst 0, 1) := dc0 dO_3 (by decide +kernel)
theorem dX3_readAttributes_24 : decode cX3_readAttributes 24 = .ok (.istore 4, 2) := dcU1 dO_54 (by decide +kernel)
theorem dX3_readAttributes_26 : decode cX3_readAttributes 26 = .ok (.iload_n 3, 1) := dc0 dO_29 (by decide +kernel)
theorem dX3_readAttributes_27 : decode cX3_readAttributes 27 = .ok (.iload 4, 2) := dcU1 dO_21 (by decide +kernel)
theorem dX3_readAttributes_29 : decode cX3_readAttributes 29 = .ok (.ifCond .eq 7, 3) := dcS2 dO_153 (by decide +kernel)
theorem dX3_readAttributes_32 : decode cX3_readAttributes 32 = .ok (.iconst 4, 1) := dc0 dO_7 (by decide +kernel)
theorem dX3_readAttributes_33 : decode cX3_readAttributes 33 = .ok (.goto 4, 3) := dcS2 dO_167 (by decide +kernel)
theorem dX3_readAttributes_36 : decode cX3_readAttributes 36 = .ok (.iconst 3, 1) := dc0 dO_6 (by decide +kernel)
theorem dX3_readAttributes_37 : decode cX3_readAttributes 37 = .ok (.iadd, 1) := dc0 dO_96 (by decide +kernel)
theorem dX3_readAttributes_38 : decode cX3_readAttributes 38 = .ok (.istore 5, 2) := dcU1 dO_54 (by decide +kernel)
theorem dX3_readAttributes_40 : decode cX3_readAttributes 40 = .ok (.iload 5, 2) := dcU1 dO_21 (by decide +kernel)
theorem dX3_readAttributes_42 : decode cX3_readAttributes 42 = .ok (.iload_n 2, 1) := dc0 dO_28 (by decide +kernel)
theorem dX3_readAttributes_43 : decode cX3_readAttributes 43 = .ok (.if_icmp .le 10, 3) := dcS2 dO_164 (by decide +kernel)
theorem dX3_readAttributes_46 : decode cX3_readAttributes 46 = .ok (.aload_n 0, 1) := dc0 dO_42 (by decide +kernel)
theorem dX3_readAttributes_47 : decode cX3_readAttributes 47 = .ok (.iconst 2, 1) := dc0 dO_5 (by decide +kernel)
theorem dX3_readAttributes_48 : decode cX3_readAttributes 48 = .ok (.iload_n 3, 1) := dc0 dO_29 (by decide +kernel)
theorem dX3_readAttributes_49 : decode cX3_readAttributes 49 = .ok (.invokevirtual 92, 3) := dcU2 dO_182 (by decide +kernel)
theorem dX3_readAttributes_52 : decode cX3_readAttributes 52 = .ok (.return_, 1) := dc0 dO_177 (by decide +kernel)
theorem dX3_readAttributes_53 : decode cX3_readAttributes 53 = .ok (.iload 4, 2) := dcU1 dO_21 (by decide +kernel)
theorem dX3_readAttributes_55 : decode cX3_readAttributes 55 = .ok (.ifCond .eq 13, 3) := dcS2 dO_153 (by decide +kernel)
theorem dX3_readAttributes_58 : decode cX3_readAttributes 58 = .ok (.aload_n 0, 1) := dc0 dO_42 (by decide +kernel)
theorem dX3_readAttributes_59 : decode cX3_readAttributes 59 = .ok (.iload_n 3, 1) := dc0 dO_29 (by decide +kernel)
theorem dX3_readAttributes_60 : decode cX3_readAttributes 60 = .ok (.iconst 2, 1) := dc0 dO_5 (by decide +kernel)
theorem dX3_readAttributes_61 : decode cX3_readAttributes 61 = .ok (.iadd, 1) := dc0 dO_96 (by decide +kernel)
theorem dX3_readAttributes_62 : decode cX3_readAttributes 62 = .ok (.invokevirtual 88, 3) := dcU2 dO_182 (by decide +kernel)
theorem dX3_readAttributes_65 : decode cX3_readAttributes 65 = .ok (.goto 11, 3) := dcS2 dO_167 (by decide +kernel)
theorem dX3_readAttributes_68 : decode cX3_readAttributes 68 = .ok (.aload_n 0, 1) := dc0 dO_42 (by decide +kernel)
theorem dX3_readAttributes_69 : decode cX3_readAttributes 69 = .ok (.getfield 41, 3) := dcU2 dO_180 (by decide +kernel)
theorem dX3_readAttributes_72 : decode cX3_readAttributes 72 = .ok (.iload_n 3, 1) := dc0 dO_29 (by decide +kernel)
theorem dX3_readAttributes_73 : decode cX3_readAttributes 73 = .ok (.iconst 2, 1) := dc0 dO_5 (by decide +kernel)
theorem dX3_readAttributes_74 : decode cX3_readAttributes 74 = .ok (.iadd, 1) := dc0 dO_96 (by decide +kernel)
theorem dX3_readAttributes_75 : decode cX3_readAttributes 75 = .ok (.iaload, 1) := dc0 dO_46 (by decide +kernel)
theorem dX3_readAttributes_76 : decode cX3_readAttributes 76 = .ok (.istore 6, 2) := dcU1 dO_54 (by decide +kernel)
theorem dX3_readAttributes_78 : decode cX3_readAttributes 78 = .ok (.iload 5, 2) := dcU1 dO_21 (by decide +kernel)
theorem dX3_readAttributes_80 : decode cX3_readAttributes 80 = .ok (.iload 6, 2) := dcU1 dO_21 (by decide +kernel)
theorem dX3_readAttributes_82 : decode cX3_readAttributes 82 = .ok (.iadd, 1) := dc0 dO_96 (by decide +kernel)
theorem dX3_readAttributes_83 : decode cX3_readAttributes 83 = .ok (.iload_n 2, 1) := dc0 dO_28 (by decide +kernel)
theorem dX3_readAttributes_84 : decode cX3_readAttributes 84 = .ok (.if_icmp .le 10, 3) := dcS2 dO_164 (by decide +kernel)
theorem dX3_readAttributes_87 : decode cX3_readAttributes 87 = .ok (.aload_n 0, 1) := dc0 dO_42 (by decide +kernel)
theorem dX3_readAttributes_88 : decode cX3_readAttributes 88 = .ok (.iconst 2, 1) := dc0 dO_5 (by decide +kernel)
theorem dX3_readAttributes_89 : decode cX3_readAttributes 89 = .ok (.iload_n 3, 1) := dc0 dO_29 (by decide +kernel)
theorem dX3_readAttributes_90 : decode cX3_readAttributes 90 = .ok (.invokevirtual 92, 3) := dcU2 dO_182 (by decide +kernel)
theorem dX3_readAttributes_93 : decode cX3_readAttributes 93 = .ok (.return_, 1) := dc0 dO_177 (by decide +kernel)
theorem dX3_readAttributes_94 : decode cX3_readAttributes 94 = .ok (.aload_n 0, 1) := dc0 dO_42 (by decide +kernel)
theorem dX3_readAttributes_95 : decode cX3_readAttributes 95 = .ok (.iload_n 3, 1) := dc0 dO_29 (by decide +kernel)
theorem dX3_readAttributes_96 : decode cX3_readAttributes 96 = .ok (.iload 5, 2) := dcU1 dO_21 (by decide +kernel)
theorem dX3_readAttributes_98 : decode cX3_readAttributes 98 = .ok (.iload 6, 2) := dcU1 dO_21 (by decide +kernel)
theorem dX3_readAttributes_100 : decode cX3_readAttributes 100 = .ok (.invokevirtual 107, 3) := dcU2 dO_182 (by decide +kernel)
theorem dX3_readAttributes_103 : decode cX3_readAttributes 103 = .ok (.iload 5, 2) := dcU1 dO_21 (by decide +kernel)
theorem dX3_readAttributes_105 : decode cX3_readAttributes 105 = .ok (.iload 6, 2) := dcU1 dO_21 (by decide +kernel)
theorem dX3_readAttributes_107 : decode cX3_readAttributes 107 = .ok (.iadd, 1) := dc0 dO_96 (by decide +kernel)
theorem dX3_readAttributes_108 : decode cX3_readAttributes 108 = .ok (.istore_n 3, 1) := dc0 dO_62 (by decide +kernel)
theorem dX3_readAttributes_109 : decode cX3_readAttributes 109 = .ok (.goto (-107), 3) := dcS2 dO_167 (by decide +kernel)
theorem dX3_readAttributes_112 : decode cX3_readAttributes 112 = .ok (.return_, 1) := dc0 dO_177 (by decide +kernel)
theorem dX3_readParts_0 : decode cX3_readParts 0 = .ok (.iconst 2, 1) := dc0 dO_5 (by decide +kernel)
theorem dX3_readParts_1 : decode cX3_readParts 1 = .ok (.istore_n 2, 1) := dc0 dO_61 (by decide +kernel)
theorem dX3_readParts_2 : decode cX3_readParts 2 = .ok (.iload_n 1, 1) := dc0 dO_27 (by decide +kernel)
theorem dX3_readParts_3 : decode cX3_readParts 3 = .ok (.iconst 2, 1) := dc0 dO_5 (by decide +kernel)
theorem dX3_readParts_4 : decode cX3_readParts 4 = .ok (.if_icmp .lt 11, 3) := dcS2 dO_161 (by decide +kernel)
theorem dX3_readParts_7 : decode cX3_readParts 7 = .ok (.iload_n 2, 1) := dc0 dO_28 (by decide +kernel)
theorem dX3_readParts_8 : decode cX3_readParts 8 = .ok (.aload_n 0, 1) := dc0 dO_42 (by decide +kernel)
theorem dX3_readParts_9 : decode cX3_readParts 9 = .ok (.iconst 0, 1) := dc0 dO_3 (by decide +kernel)
theorem dX3_readParts_10 : decode cX3_readParts 10 = .ok (.invokevirtual 88, 3) := dcU2 dO_182 (by decide +kernel)
theorem dX3_readParts_13 : decode cX3_readParts 13 = .ok (.iadd, 1) := dc0 dO_96 (by decide +kernel)
theorem dX3_readParts_14 : decode cX3_readParts 14 = .ok (.istore_n 2, 1) := dc0 dO_61 (by decide +kernel)
theorem dX3_readParts_15 : decode cX3_readParts 15 = .ok (.iload_n 2, 1) := dc0 dO_28 (by decide +kernel)
theorem dX3_readParts_16 : decode cX3_readParts 16 = .ok (.iload_n 1, 1) := dc0 dO_27 (by decide +kernel)
theorem dX3_readParts_17 : decode cX3_readParts 17 = .ok (.if_icmp .le 10, 3) := dcS2 dO_164 (by decide +kernel)
theorem dX3_readParts_20 : decode cX3_readParts 20 = .ok (.aload_n 0, 1) := dc0 dO_42 (by decide +kernel)
theorem dX3_readParts_21 : decode cX3_readParts 21 = .ok (.iconst 1, 1) := dc0 dO_4 (by decide +kernel)
theorem dX3_readParts_22 : decode cX3_readParts 22 = .ok (.iconst 0, 1) := dc0 dO_3 (by decide +kernel)
theorem dX3_readParts_23 : decode cX3_readParts 23 = .ok (.invokevirtual 92, 3) := dcU2 dO_182 (by decide +kernel)
theorem dX3_readParts_26 : decode cX3_readParts 26 = .ok (.return_, 1) := dc0 dO_177 (by decide +kernel)
theorem dX3_readParts_27 : decode cX3_readParts 27 = .ok (.aload_n 0, 1) := dc0 dO_42 (by decide +kernel)
theorem dX3_readParts_28 : decode cX3_readParts 28 = .ok (.aload_n 0, 1) := dc0 dO_42 (by decide +kernel)
theorem dX3_readParts_29 : decode cX3_readParts 29 = .ok (.iconst 2, 1) := dc0 dO_5 (by decide +kernel)
theorem dX3_readParts_30 : decode cX3_readParts 30 = .ok (.iload_n 2, 1) := dc0 dO_28 (by decide +kernel)
theorem dX3_readParts_31 : decode cX3_readParts 31 = .ok (.iconst 0, 1) := dc0 dO_3 (by decide +kernel)
theorem dX3_readParts_32 : decode cX3_readParts 32 = .ok (.invokevirtual 95, 3) := dcU2 dO_182 (by decide +kernel)
theorem dX3_readParts_35 : decode cX3_readParts 35 = .ok (.putfield 63, 3) := dcU2 dO_181 (by decide +kernel)
theorem dX3_readParts_38 : decode cX3_readParts 38 = .ok (.iload_n 2, 1) := dc0 dO_28 (by decide +kernel)
theorem dX3_readParts_39 : decode cX3_readParts 39 = .ok (.iconst 2, 1) := dc0 dO_5 (by decide +kernel)
theorem dX3_readParts_40 : decode cX3_readParts 40 = .ok (.iadd, 1) := dc0 dO_96 (by decide +kernel)
theorem dX3_readParts_41 : decode cX3_readParts 41 = .ok (.istore_n 3, 1) := dc0 dO_62 (by decide +kernel)
theorem dX3_readParts_42 : decode cX3_readParts 42 = .ok (.iload_n 3, 1) := dc0 dO_29 (by decide +kernel)
theorem dX3_readParts_43 : decode cX3_readParts 43 = .ok (.iload_n 1, 1) := dc0 dO_27 (by decide +kernel)
theorem dX3_readParts_44 : decode cX3_readParts 44 = .ok (.if_icmp .gt 11, 3) := dcS2 dO_163 (by decide +kernel)
theorem dX3_readParts_47 : decode cX3_readParts 47 = .ok (.iload_n 3, 1) := dc0 dO_29 (by decide +kernel)
theorem dX3_readParts_48 : decode cX3_readParts 48 = .ok (.aload_n 0, 1) := dc0 dO_42 (by decide +kernel)
theorem dX3_readParts_49 : decode cX3_readParts 49 = .ok (.iload_n 2, 1) := dc0 dO_28 (by decide +kernel)
theorem dX3_readParts_50 : decode cX3_readParts 50 = .ok (.invokevirtual 88, 3) := dcU2 dO_182 (by decide +kernel)
theorem dX3_readParts_53 : decode cX3_readParts 53 = .ok (.iadd, 1) := dc0 dO_96 (by decide +kernel)
theorem dX3_readParts_54 : decode cX3_readParts 54 = .ok (.istore_n 3, 1) := dc0 dO_62 (by decide +kernel)
theorem dX3_readParts_55 : decode cX3_readParts 55 = .ok (.iload_n 3, 1) := dc0 dO_29 (by decide +kernel)
theorem dX3_readParts_56 : decode cX3_readParts 56 = .ok (.iload_n 1, 1) := dc0 dO_27 (by decide +kernel)
theorem dX3_readParts_57 : decode cX3_readParts 57 = .ok (.if_icmp .le 10, 3) := dcS2 dO_164 (by decide +kernel)
theorem dX3_readParts_60 : decode cX3_readParts 60 = .ok (.aload_n 0, 1) := dc0 dO_42 (by decide +kernel)
theorem dX3_readParts_61 : decode cX3_readParts 61 = .ok (.iconst 1, 1) := dc0 dO_4 (by decide +kernel)
theorem dX3_readParts_62 : decode cX3_readParts 62 = .ok (.iload_n 2, 1) := dc0 dO_28 (by decide +kernel)
theorem dX3_readParts_63 : decode cX3_readParts 63 = .ok (.invokevirtual 92, 3) := dcU2 dO_182 (by decide +kernel)
theorem dX3_readParts_66 : decode cX3_readParts 66 = .ok (.return_, 1) := dc0 dO_177 (by decide +kernel)
theorem dX3_readParts_67 : decode cX3_readParts 67 = .ok (.aload_n 0, 1) := dc0 dO_42 (by decide +kernel)
theorem dX3_readParts_68 : decode cX3_readParts 68 = .ok (.iload_n 2, 1) := dc0 dO_28 (by decide +kernel)
theorem dX3_readParts_69 : decode cX3_readParts 69 = .ok (.iconst 2, 1) := dc0 dO_5 (by decide +kernel)
theorem dX3_readParts_70 : decode cX3_readParts 70 = .ok (.iadd, 1) := dc0 dO_96 (by decide +kernel)
theorem dX3_readParts_71 : decode cX3_readParts 71 = .ok (.iload_n 3, 1) := dc0 dO_29 (by decide +kernel)
theorem dX3_readParts_72 : decode cX3_readParts 72 = .ok (.invokevirtual 99, 3) := dcU2 dO_182 (by decide +kernel)
theorem dX3_readParts_75 : decode cX3_readParts 75 = .ok (.aload_n 0, 1) := dc0 dO_42 (by decide +kernel)
theorem dX3_readParts_76 : decode cX3_readParts 76 = .ok (.aload_n 0, 1) := dc0 dO_42 (by decide +kernel)
theorem dX3_readParts_77 : decode cX3_readParts 77 = .ok (.iload_n 3, 1) := dc0 dO_29 (by decide +kernel)
theorem dX3_readParts_78 : decode cX3_readParts 78 = .ok (.iload_n 1, 1) := dc0 dO_27 (by decide +kernel)
theorem dX3_readParts_79 : decode cX3_readParts 79 = .ok (.aload_n 0, 1) := dc0 dO_42 (by decide +kernel)
theorem dX3_readParts_80 : decode cX3_readParts 80 = .ok (.getfield 63, 3) := dcU2 dO_180 (by decide +kernel)
theorem dX3_readParts_83 : decode cX3_readParts 83 = .ok (.invokevirtual 95, 3) := dcU2 dO_182 (by decide +kernel)
theorem dX3_readParts_86 : decode cX3_readParts 86 = .ok (.putfield 66, 3) := dcU2 dO_181 (by decide +kernel)
theorem dX3_readParts_89 : decode cX3_readParts 89 = .ok (.aload_n 0, 1) := dc0 dO_42 (by decide +kernel)
theorem dX3_readParts_90 : decode cX3_readParts 90 = .ok (.getfield 66, 3) := dcU2 dO_180 (by decide +kernel)
theorem dX3_readParts_93 : decode cX3_readParts 93 = .ok (.ifCond .le 23, 3) := dcS2 dO_158 (by decide +kernel)
theorem dX3_readParts_96 : decode cX3_readParts 96 = .ok (.aload_n 0, 1) := dc0 dO_42 (by decide +kernel)
theorem dX3_readParts_97 : decode cX3_readParts 97 = .ok (.getfield 82, 3) := dcU2 dO_180 (by decide +kernel)
theorem dX3_readParts_100 : decode cX3_readParts 100 = .ok (.ifCond .eq 10, 3) := dcS2 dO_153 (by decide +kernel)
theorem dX3_readParts_103 : decode cX3_readParts 103 = .ok (.aload_n 0, 1) := dc0 dO_42 (by decide +kernel)
theorem dX3_readParts_104 : decode cX3_readParts 104 = .ok (.getfield 85, 3) := dcU2 dO_180 (by decide +kernel)
theorem dX3_readParts_107 : decode cX3_readParts 107 = .ok (.ifCond .ne 9, 3) := dcS2 dO_154 (by decide +kernel)
theorem dX3_readParts_110 : decode cX3_readParts 110 = .ok (.aload_n 0, 1) := dc0 dO_42 (by decide +kernel)
theorem dX3_readParts_111 : decode cX3_readParts 111 = .ok (.iconst 2, 1) := dc0 dO_5 (by decide +kernel)
theorem dX3_readParts_112 : decode cX3_readParts 112 = .ok (.iload_n 3, 1) := dc0 dO_29 (by decide +kernel)
theorem dX3_readParts_113 : decode cX3_readParts 113 = .ok (.invokevirtual 92, 3) := dcU2 dO_182 (by decide +kernel)
theorem dX3_readParts_116 : decode cX3_readParts 116 = .ok (.return_, 1) := dc0 dO_177 (by decide +kernel)
end
section
theorem vc_X3_carry_1 {f_cc : Int} (h0 : f_cc ≤ 255) (h1 : 0 ≤ f_cc ∧ f_cc ≤ 256) : 0 ≤ f_cc ∧ f_cc ≤ 255 := by omega
theorem vc_X3_carry_2 {z35 : Int} (h0 : ¬ z35 = 192) (h1 : 0 ≤ z35 ∧ z35 ≤ 192) : 0 ≤ z35 ∧ z35 ≤ 191 := by omega
theorem vc_X3_carry_3 {f_cc : Int} (h0 : f_cc ≤ 255) (h1 : 0 ≤ f_cc ∧ f_cc ≤ 255) : f_cc ≤ f_cc + 1 := by omega
theorem vc_X3_carry_4 {z35 : Int} (h0 : z35 = 192) (h1 : 0 ≤ z35 ∧ z35 ≤ 192) : 192 ≤ z35 ∧ z35 ≤ 192 := by omega
theorem vc_X3_carry_5 {f_cc : Int} (h0 : f_cc ≤ 255) (h1 : 0 ≤ f_cc ∧ f_cc ≤ 255) : (f_cc + 1) ≤ f_cc + 1 := by omega
set_option maxRecDepth 4000 in
set_option maxHeartbeats 4000000 in
theorem c_X3_carry {l : Launch} {D : va_G} {c : Nat → ClassId} {H0 : Heap} {sa : Nat × Nat × (Nat → Int32)} {w : mW} {μ : mM} (hw : mWF w) (hT : mT w μ) {p1 : Int} (hp1 : (-2147483648) ≤ p1 ∧ p1 ≤ 2147483647) {p2 : Int} (hp2 : (-2147483648) ≤ p2 ∧ p2 ≤ 2147483647) {f_cc : Int} (q_f_cc : μ 76 5 = f_cc) (hq0 : f_cc ≤ 255) : sC (gG l D c H0 sa) mX3_carry 1 0 0 [.ref 76, iv p1, iv p2] (mk w μ) (qV w [76005, 78999] μ (fun μ1 => ∃ o_cc : Int, μ1 76 5 = o_cc ∧ (o_cc ≤ f_cc + 1) ∧ True)) := by
  refine sC.of rfl (by decide) (le_t rfl) ?_
  have ht_f_cc : (0 ≤ f_cc ∧ f_cc ≤ 256) := by rw [← q_f_cc]; exact hT 76 76 (A_76 hw) 5
  have h1 : 0 ≤ f_cc ∧ f_cc ≤ 255 := (vc_X3_carry_1 hq0 ht_f_cc)
  refine mr_lvE (lv' := [(0, .ref 76), (1, iv p1), (2, iv p2)]) rfl ?_
  refine mr_iload_n (pc := 0) (z := p1) dX3_carry_0 rfl rfl ?_
  refine mr_sipush (pc := 1) (z := 192) dX3_carry_1 (by decide) ?_
  refine mr_iand (pc := 4) (x := p1) (y := 192) dX3_carry_4 ?_
  refine mr_gen (P := fun z => 0 ≤ z ∧ z ≤ 192) (rAndR (rR (x := 192)) rfl) fun z35 q36 h37 => ?_
  refine mr_sipush (pc := 5) (z := 192) dX3_carry_5 (by decide) ?_
  refine mr_icmp_ne (pc := 8) (tgt := 31) dX3_carry_8 (by decide) (r32 h37 rfl) (r32 (rR (x := 192)) rfl) (fun h46 => ?_) (fun h46 => ?_)
  · have h47 : 0 ≤ z35 ∧ z35 ≤ 191 := (vc_X3_carry_2 h46 h37)
    exact mr_vret dX3_carry_31 rfl (le_t rfl) (le_t rfl) hT mF.refl ⟨f_cc, q_f_cc, (vc_X3_carry_3 hq0 h1), trivial⟩
  have h48 : 192 ≤ z35 ∧ z35 ≤ 192 := (vc_X3_carry_4 h46 h37)
  refine sv_aload_n (pc := 11) dX3_carry_11 rfl rfl ?_
  refine gf_X3_1 (pc := 12) dX3_carry_12 wF_X3_15 (A_76 hw) hT ?_
  refine sv_aload_n (pc := 15) dX3_carry_15 rfl rfl ?_
  refine gk_X3_5 (pc := 16) dX3_carry_16 wF_X3_79 (A_76 hw) q_f_cc ?_
  refine mr_iload_n (pc := 19) (z := p2) dX3_carry_19 rfl rfl ?_
  refine ss_78 (pc := 20) dX3_carry_20 (A_78 hw) hT (rIx (n := 256) h1 rfl) hp2 fun μ49 u50 T51 => ?_
  refine sv_aload_n (pc := 21) dX3_carry_21 rfl rfl ?_
  refine sv_dup (pc := 22) dX3_carry_22 rfl ?_
  refine gk_X3_5 (pc := 23) dX3_carry_23 wF_X3_79 (A_76 hw) (u50.f (Or.inl (mAt.ne (A_78 hw) (A_76 hw) rfl)) q_f_cc) ?_
  refine mr_iconst (pc := 26) (z := 1) dX3_carry_26 ?_
  refine mr_iadd (pc := 27) (x := f_cc) (y := 1) dX3_carry_27 ?_
  refine pf_X3_5 (pc := 28) dX3_carry_28 wF_X3_79 (A_76 hw) T51 (rW (c := 0) (d := 256) (rAdd (e := 1) (f := 256) h1 (rR (x := 1)) rfl) rfl) fun μ52 u53 T54 => ?_
  exact mr_vret dX3_carry_31 rfl (le_t rfl) (le_t rfl) T54 (mF.up (mF.up mF.refl (A_78 hw) u50 rfl) (A_76 hw) u53 rfl) ⟨(f_cc + 1), u53.1, (vc_X3_carry_5 hq0 h1), trivial⟩
set_option maxRecDepth 4000 in
set_option maxHeartbeats 4000000 in
theorem c_J_bits {l : Launch} {D : va_G} {c : Nat → ClassId} {H0 : Heap} {sa : Nat × Nat × (Nat → Int32)} {w : mW} {μ : mM} (hw : mWF w) (hT : mT w μ) {p1 : Int} (hp1 : (-2147483648) ≤ p1 ∧ p1 ≤ 2147483647) : sC (gG l D c H0 sa) mJ_bits 1 0 0 [iv p1] (mk w μ) (qP w μ (fun z => ((-2147483648) ≤ z ∧ z ≤ 2147483647) ∧ True)) := by
  refine sC.of rfl (by decide) (le_t rfl) ?_
  refine mr_lvE (lv' := [(0, iv p1)]) rfl ?_
  refine mr_iload_n (pc := 0) (z := p1) dJ_bits_0 rfl rfl ?_
  refine mr_iload_n (pc := 1) (z := p1) dJ_bits_1 rfl rfl ?_
  refine mr_iconst (pc := 2) (z := 1) dJ_bits_2 ?_
  refine mr_iushr (pc := 3) (x := p1) (y := 1) dJ_bits_3 ?_
  refine mr_gen (P := fun z => (-2147483648) ≤ z ∧ z ≤ 2147483647) (r32i _) fun z1 q2 h3 => ?_
  refine mr_ldcw (pc := 4) (z := 1431655765) dJ_bits_4 wG_XI_265 (by decide) ?_
  refine mr_iand (pc := 7) (x := z1) (y := 1431655765) dJ_bits_7 ?_
  refine mr_gen (P := fun z => 0 ≤ z ∧ z ≤ 1431655765) (rAndR (rR (x := 1431655765)) rfl) fun z4 q5 h6 => ?_
  refine mr_isub (pc := 8) (x := p1) (y := z4) dJ_bits_8 ?_
  refine mr_wrap fun z7 h8 => ?_
  refine mr_istore_n (pc := 9) (lv' := [(0, iv z7)]) dJ_bits_9 rfl (by decide) rfl ?_
  refine mr_iload_n (pc := 10) (z := z7) dJ_bits_10 rfl rfl ?_
  refine mr_ldcw (pc := 11) (z := 858993459) dJ_bits_11 wG_XI_266 (by decide) ?_
  refine mr_iand (pc := 14) (x := z7) (y := 858993459) dJ_bits_14 ?_
  refine mr_gen (P := fun z => 0 ≤ z ∧ z ≤ 858993459) (rAndR (rR (x := 858993459)) rfl) fun z9 q10 h11 => ?_
  refine mr_iload_n (pc := 15) (z := z7) dJ_bits_15 rfl rfl ?_
  refine mr_iconst (pc := 16) (z := 2) dJ_bits_16 ?_
  refine mr_iushr (pc := 17) (x := z7) (y := 2) dJ_bits_17 ?_
  refine mr_gen (P := fun z => (-2147483648) ≤ z ∧ z ≤ 2147483647) (r32i _) fun z12 q13 h14 => ?_
  refine mr_ldcw (pc := 18) (z := 858993459) dJ_bits_18 wG_XI_266 (by decide) ?_
  refine mr_iand (pc := 21) (x := z12) (y := 858993459) dJ_bits_21 ?_
  refine mr_gen (P := fun z => 0 ≤ z ∧ z ≤ 858993459) (rAndR (rR (x := 858993459)) rfl) fun z15 q16 h17 => ?_
  refine mr_iadd (pc := 22) (x := z9) (y := z15) dJ_bits_22 ?_
  refine mr_istore_n (pc := 23) (lv' := [(0, iv (z9 + z15))]) dJ_bits_23 rfl (by decide) rfl ?_
  refine mr_iload_n (pc := 24) (z := (z9 + z15)) dJ_bits_24 rfl rfl ?_
  refine mr_iload_n (pc := 25) (z := (z9 + z15)) dJ_bits_25 rfl rfl ?_
  refine mr_iconst (pc := 26) (z := 4) dJ_bits_26 ?_
  refine mr_iushr (pc := 27) (x := (z9 + z15)) (y := 4) dJ_bits_27 ?_
  refine mr_gen (P := fun z => (-2147483648) ≤ z ∧ z ≤ 2147483647) (r32i _) fun z18 q19 h20 => ?_
  refine mr_iadd (pc := 28) (x := (z9 + z15)) (y := z18) dJ_bits_28 ?_
  refine mr_wrap fun z21 h22 => ?_
  refine mr_ldcw (pc := 29) (z := 252645135) dJ_bits_29 wG_XI_267 (by decide) ?_
  refine mr_iand (pc := 32) (x := z21) (y := 252645135) dJ_bits_32 ?_
  refine mr_gen (P := fun z => 0 ≤ z ∧ z ≤ 252645135) (rAndR (rR (x := 252645135)) rfl) fun z23 q24 h25 => ?_
  refine mr_istore_n (pc := 33) (lv' := [(0, iv z23)]) dJ_bits_33 rfl (by decide) rfl ?_
  refine mr_iload_n (pc := 34) (z := z23) dJ_bits_34 rfl rfl ?_
  refine mr_iload_n (pc := 35) (z := z23) dJ_bits_35 rfl rfl ?_
  refine mr_bipush (pc := 36) (z := 8) dJ_bits_36 (by decide) ?_
  refine mr_iushr (pc := 38) (x := z23) (y := 8) dJ_bits_38 ?_
  refine mr_gen (P := fun z => (-2147483648) ≤ z ∧ z ≤ 2147483647) (r32i _) fun z26 q27 h28 => ?_
  refine mr_iadd (pc := 39) (x := z23) (y := z26) dJ_bits_39 ?_
  refine mr_wrap fun z29 h30 => ?_
  refine mr_istore_n (pc := 40) (lv' := [(0, iv z29)]) dJ_bits_40 rfl (by decide) rfl ?_
  refine mr_iload_n (pc := 41) (z := z29) dJ_bits_41 rfl rfl ?_
  refine mr_iload_n (pc := 42) (z := z29) dJ_bits_42 rfl rfl ?_
  refine mr_bipush (pc := 43) (z := 16) dJ_bits_43 (by decide) ?_
  refine mr_iushr (pc := 45) (x := z29) (y := 16) dJ_bits_45 ?_
  refine mr_gen (P := fun z => (-2147483648) ≤ z ∧ z ≤ 2147483647) (r32i _) fun z31 q32 h33 => ?_
  refine mr_iadd (pc := 46) (x := z29) (y := z31) dJ_bits_46 ?_
  refine mr_wrap fun z34 h35 => ?_
  refine mr_istore_n (pc := 47) (lv' := [(0, iv z34)]) dJ_bits_47 rfl (by decide) rfl ?_
  refine mr_iload_n (pc := 48) (z := z34) dJ_bits_48 rfl rfl ?_
  refine mr_bipush (pc := 49) (z := 63) dJ_bits_49 (by decide) ?_
  refine mr_iand (pc := 51) (x := z34) (y := 63) dJ_bits_51 ?_
  refine mr_gen (P := fun z => 0 ≤ z ∧ z ≤ 63) (rAndR (rR (x := 63)) rfl) fun z36 q37 h38 => ?_
  exact mr_iretP dJ_bits_52 rfl (le_t rfl) (le_t rfl) ⟨(rW (c := (-2147483648)) (d := 2147483647) h38 rfl), trivial⟩
theorem vc_X11_cone_8 {p2 : Int} (h0 : ¬ p2 = (-1)) (h1 : (-1) ≤ p2 ∧ p2 ≤ (-1)) : False := by omega
theorem vc_X11_cone_10 {n0 p1 p2 z1 z32 z8 : Int} (h0 : (z32 = 1 → 0 ≤ p2 ∧ p2 < z1)) (h1 : (z32 = 0 → p2 < 0 ∨ z1 ≤ p2)) (h2 : ¬ z32 = 0) (h3 : z1 = n0) (h4 : (z8 = 1 → 0 ≤ p1 ∧ p1 < z1)) (h5 : (z8 = 0 → p1 < 0 ∨ z1 ≤ p1)) (h6 : 0 ≤ p1 ∧ p1 < z1) (h7 : ¬ p2 = (-1)) (h8 : 0 ≤ p1 ∧ p1 ≤ 9) (h9 : (-2147483648) ≤ p2 ∧ p2 ≤ 2147483647) (h10 : 1 ≤ z1 ∧ z1 ≤ 10) (h11 : 1 ≤ z32 ∧ z32 ≤ 1) (h12 : 1 ≤ z8 ∧ z8 ≤ 1) : z32 = 1 := by omega
theorem vc_X11_cone_11 {n0 p1 p2 z1 z32 z8 : Int} (h0 : 0 ≤ p2 ∧ p2 < z1) (h1 : z1 = n0) (h2 : (z8 = 1 → 0 ≤ p1 ∧ p1 < z1)) (h3 : (z8 = 0 → p1 < 0 ∨ z1 ≤ p1)) (h4 : 0 ≤ p1 ∧ p1 < z1) (h5 : ¬ p2 = (-1)) (h6 : (z32 = 1 → 0 ≤ p2 ∧ p2 < z1)) (h7 : (z32 = 0 → p2 < 0 ∨ z1 ≤ p2)) (h8 : 0 ≤ p1 ∧ p1 ≤ 9) (h9 : (-2147483648) ≤ p2 ∧ p2 ≤ 2147483647) (h10 : 1 ≤ z1 ∧ z1 ≤ 10) (h11 : 1 ≤ z32 ∧ z32 ≤ 1) (h12 : 1 ≤ z8 ∧ z8 ≤ 1) : 0 ≤ p2 ∧ p2 ≤ 9 := by omega
theorem vc_X11_cone_12 {p2 : Int} (h0 : p2 = (-1)) (h1 : 0 ≤ p2 ∧ p2 ≤ 9) : False := by omega
theorem vc_X11_cone_14 {n0 p1 p2 z1 z32 z8 : Int} (h0 : (z32 = 1 → 0 ≤ p2 ∧ p2 < z1)) (h1 : (z32 = 0 → p2 < 0 ∨ z1 ≤ p2)) (h2 : z32 = 0) (h3 : z1 = n0) (h4 : (z8 = 1 → 0 ≤ p1 ∧ p1 < z1)) (h5 : (z8 = 0 → p1 < 0 ∨ z1 ≤ p1)) (h6 : 0 ≤ p1 ∧ p1 < z1) (h7 : ¬ p2 = (-1)) (h8 : 0 ≤ p1 ∧ p1 ≤ 9) (h9 : (-2147483648) ≤ p2 ∧ p2 ≤ 2147483647) (h10 : 1 ≤ z1 ∧ z1 ≤ 10) (h11 : 0 ≤ z32 ∧ z32 ≤ 0) (h12 : 1 ≤ z8 ∧ z8 ≤ 1) : z32 = 0 := by omega
set_option maxRecDepth 4000 in
set_option maxHeartbeats 4000000 in
theorem c_X11_cone {l : Launch} {D : va_G} {c : Nat → ClassId} {H0 : Heap} {sa : Nat × Nat × (Nat → Int32)} {w : mW} {μ : mM} (hw : mWF w) (hT : mT w μ) {p1 : Int} (hp1 : (-2147483648) ≤ p1 ∧ p1 ≤ 2147483647) {p2 : Int} (hp2 : (-2147483648) ≤ p2 ∧ p2 ≤ 2147483647) : sC (gG l D c H0 sa) mX11_cone 2 0 0 [.ref 0, iv p1, iv p2] (mk w μ) (qP w μ (fun z => ((-2147483648) ≤ z ∧ z ≤ 2147483647) ∧ True)) := by
  refine sC.of rfl (by decide) (le_t rfl) ?_
  refine mr_lvE (lv' := [(0, .ref 0), (1, iv p1), (2, iv p2)]) rfl ?_
  refine sv_aload_n (pc := 0) dX11_cone_0 rfl rfl ?_
  refine mr_iload_n (pc := 1) (z := p1) dX11_cone_1 rfl rfl ?_
  obtain ⟨z1, q2⟩ : ∃ z, μ 6 15 = z := ⟨_, rfl⟩
  have h3 : (z1 = w.2.2.2 0 ∧ 0 ≤ z1 ∧ z1 ≤ 10) := by rw [← q2]; exact hT 6 6 (A_6 hw) 15
  refine mr_cVP (pc := 2) (c_X11_isDomain hw hT hp1 q2) (gOk _ _ _ _ _) dX11_cone_2 (tX11_isDomain _ _ _ _ _) ⟨wV_X11_isDomain, wL_X11_isDomain⟩ wM_X11_105 (gCX11 _ _ _ _ _) rfl (A_0 hw) rfl ⟨le_t rfl, le_t rfl⟩ ⟨le_t rfl, le_t rfl⟩ rfl (le_t rfl) fun z8 h7 => ?_
  refine mr_if_eq (pc := 5) (tgt := 21) dX11_cone_5 (by decide) (r32 h7.1 rfl) (fun h9 => ?_) (fun h9 => ?_)
  · have h10 : 0 ≤ z8 ∧ z8 ≤ 0 := (vc_X12_write_78 h9 h7.2.1 h7.2.2.1 hp1 h3.2 h7.1)
    have h11 : p1 < 0 ∨ z1 ≤ p1 := (h7.2.2.1 (vc_X11_picked_2 h7.2.1 h7.2.2.1 h9 h3.1 hp1 h3.2 h10))
    refine mr_iconst (pc := 21) (z := (-1)) dX11_cone_21 ?_
    exact mr_iretP dX11_cone_22 rfl (le_t rfl) (le_t rfl) ⟨(rW (c := (-2147483648)) (d := 2147483647) (rR (x := (-1))) rfl), trivial⟩
  have h12 : 1 ≤ z8 ∧ z8 ≤ 1 := (vc_X12_write_12 h9 h7.2.1 h7.2.2.1 hp1 h3.2 h7.1)
  have h13 : 0 ≤ p1 ∧ p1 < z1 := (h7.2.1 (vc_X11_picked_4 h7.2.1 h7.2.2.1 h9 h3.1 hp1 h3.2 h12))
  have h14 : 0 ≤ p1 ∧ p1 ≤ 9 := (vc_X11_picked_5 h13 h3.1 h7.2.1 h7.2.2.1 hp1 h3.2 h12)
  have h15 : 1 ≤ z1 ∧ z1 ≤ 10 := (vc_X11_picked_6 h13 h3.1 h7.2.1 h7.2.2.1 h14 h3.2 h12)
  refine mr_iload_n (pc := 8) (z := p2) dX11_cone_8 rfl rfl ?_
  refine mr_iconst (pc := 9) (z := (-1)) dX11_cone_9 ?_
  refine mr_icmp_eq (pc := 10) (tgt := 23) dX11_cone_10 (by decide) hp2 (r32 (rR (x := (-1))) rfl) (fun h16 => ?_) (fun h16 => ?_)
  · have h17 : (-1) ≤ p2 ∧ p2 ≤ (-1) := (vc_X10_verdictOn_17 h16 hp2)
    refine sv_aload_n (pc := 23) dX11_cone_23 rfl rfl ?_
    refine gf_X11_3 (pc := 24) dX11_cone_24 wF_X11_26 (A_0 hw) hT ?_
    refine mr_iload_n (pc := 27) (z := p1) dX11_cone_27 rfl rfl ?_
    refine mr_cVP (pc := 28) (c_X10_coneOf hw hT h14) (gOk _ _ _ _ _) dX11_cone_28 (tX10_coneOf _ _ _ _ _) ⟨wV_X10_coneOf, wL_X10_coneOf⟩ wM_X11_154 (gCX10 _ _ _ _ _) rfl (A_6 hw) rfl ⟨le_t rfl, le_t rfl⟩ ⟨le_t rfl, le_t rfl⟩ rfl (le_t rfl) fun z22 h21 => ?_
    refine mr_istore_n (pc := 31) (lv' := [(3, iv z22), (0, .ref 0), (1, iv p1), (2, iv p2)]) dX11_cone_31 rfl (by decide) rfl ?_
    refine mr_iload_n (pc := 32) (z := p2) dX11_cone_32 rfl rfl ?_
    refine mr_iconst (pc := 33) (z := (-1)) dX11_cone_33 ?_
    refine mr_icmp_ne (pc := 34) (tgt := 44) dX11_cone_34 (by decide) (r32 h17 rfl) (r32 (rR (x := (-1))) rfl) (fun h => ((vc_X11_cone_8 h h17)).elim) (fun _ => ?_)
    refine mr_iload_n (pc := 37) (z := z22) dX11_cone_37 rfl rfl ?_
    refine mr_cSP (pc := 38) (c_J_bits hw hT h21.1) (gOk _ _ _ _ _) dX11_cone_38 (tJ_bits _ _ _ _ _) wS_J_bits wM_X11_157 ⟨le_t rfl, le_t rfl⟩ ⟨le_t rfl, le_t rfl⟩ rfl (le_t rfl) fun z27 h26 => ?_
    refine sv_goto (pc := 41) (tgt := 49) dX11_cone_41 (by decide) ?_
    exact mr_iretP dX11_cone_49 rfl (le_t rfl) (le_t rfl) ⟨h26.1, trivial⟩
  refine sv_aload_n (pc := 13) dX11_cone_13 rfl rfl ?_
  refine mr_iload_n (pc := 14) (z := p2) dX11_cone_14 rfl rfl ?_
  refine mr_cVP (pc := 15) (c_X11_isDomain hw hT hp2 q2) (gOk _ _ _ _ _) dX11_cone_15 (tX11_isDomain _ _ _ _ _) ⟨wV_X11_isDomain, wL_X11_isDomain⟩ wM_X11_105 (gCX11 _ _ _ _ _) rfl (A_0 hw) rfl ⟨le_t rfl, le_t rfl⟩ ⟨le_t rfl, le_t rfl⟩ rfl (le_t rfl) fun z32 h31 => ?_
  refine mr_if_ne (pc := 18) (tgt := 23) dX11_cone_18 (by decide) (r32 h31.1 rfl) (fun h33 => ?_) (fun h33 => ?_)
  · have h34 : 1 ≤ z32 ∧ z32 ≤ 1 := (vc_X12_differ_7 h33 h31.2.1 h31.2.2.1 hp2 h15 h31.1)
    have h35 : 0 ≤ p2 ∧ p2 < z1 := (h31.2.1 (vc_X11_cone_10 h31.2.1 h31.2.2.1 h33 h3.1 h7.2.1 h7.2.2.1 h13 h16 h14 hp2 h15 h34 h12))
    have h36 : 0 ≤ p2 ∧ p2 ≤ 9 := (vc_X11_cone_11 h35 h3.1 h7.2.1 h7.2.2.1 h13 h16 h31.2.1 h31.2.2.1 h14 hp2 h15 h34 h12)
    refine sv_aload_n (pc := 23) dX11_cone_23 rfl rfl ?_
    refine gf_X11_3 (pc := 24) dX11_cone_24 wF_X11_26 (A_0 hw) hT ?_
    refine mr_iload_n (pc := 27) (z := p1) dX11_cone_27 rfl rfl ?_
    refine mr_cVP (pc := 28) (c_X10_coneOf hw hT h14) (gOk _ _ _ _ _) dX11_cone_28 (tX10_coneOf _ _ _ _ _) ⟨wV_X10_coneOf, wL_X10_coneOf⟩ wM_X11_154 (gCX10 _ _ _ _ _) rfl (A_6 hw) rfl ⟨le_t rfl, le_t rfl⟩ ⟨le_t rfl, le_t rfl⟩ rfl (le_t rfl) fun z41 h40 => ?_
    refine mr_istore_n (pc := 31) (lv' := [(3, iv z41), (0, .ref 0), (1, iv p1), (2, iv p2)]) dX11_cone_31 rfl (by decide) rfl ?_
    refine mr_iload_n (pc := 32) (z := p2) dX11_cone_32 rfl rfl ?_
    refine mr_iconst (pc := 33) (z := (-1)) dX11_cone_33 ?_
    refine mr_icmp_ne (pc := 34) (tgt := 44) dX11_cone_34 (by decide) (r32 h36 rfl) (r32 (rR (x := (-1))) rfl) (fun _ => ?_) (fun h => ((vc_X11_cone_12 h h36)).elim)
    refine mr_iload_n (pc := 44) (z := z41) dX11_cone_44 rfl rfl ?_
    refine mr_iload_n (pc := 45) (z := p2) dX11_cone_45 rfl rfl ?_
    refine mr_ishr (pc := 46) (x := z41) (y := p2) dX11_cone_46 ?_
    refine mr_gen (P := fun z => (-2147483648) ≤ z ∧ z ≤ 2147483647) (r32i _) fun z42 q43 h44 => ?_
    refine mr_iconst (pc := 47) (z := 1) dX11_cone_47 ?_
    refine mr_iand (pc := 48) (x := z42) (y := 1) dX11_cone_48 ?_
    refine mr_gen (P := fun z => 0 ≤ z ∧ z ≤ 1) (rAndR (rR (x := 1)) rfl) fun z45 q46 h47 => ?_
    exact mr_iretP dX11_cone_49 rfl (le_t rfl) (le_t rfl) ⟨(rW (c := (-2147483648)) (d := 2147483647) h47 rfl), trivial⟩
  have h48 : 0 ≤ z32 ∧ z32 ≤ 0 := (vc_X12_differ_44 h33 h31.2.1 h31.2.2.1 hp2 h15 h31.1)
  have h49 : p2 < 0 ∨ z1 ≤ p2 := (h31.2.2.1 (vc_X11_cone_14 h31.2.1 h31.2.2.1 h33 h3.1 h7.2.1 h7.2.2.1 h13 h16 h14 hp2 h15 h48 h12))
  refine mr_iconst (pc := 21) (z := (-1)) dX11_cone_21 ?_
  exact mr_iretP dX11_cone_22 rfl (le_t rfl) (le_t rfl) ⟨(rW (c := (-2147483648)) (d := 2147483647) (rR (x := (-1))) rfl), trivial⟩
theorem vc_X2_leastBelow_32_1 {p3 : Int} (h0 : p3 < 32) (h1 : 32 ≤ p3 ∧ p3 ≤ 32) : False := by omega
set_option maxRecDepth 4000 in
set_option maxHeartbeats 4000000 in
theorem c_X2_leastBelow_32 {l : Launch} {D : va_G} {c : Nat → ClassId} {H0 : Heap} {sa : Nat × Nat × (Nat → Int32)} {w : mW} {μ : mM} (hw : mWF w) (hT : mT w μ) {p1 : Int} (hp1 : 0 ≤ p1 ∧ p1 ≤ 9) {p2 : Int} (hp2 : (-2147483648) ≤ p2 ∧ p2 ≤ 2147483647) {p3 : Int} (hp3 : 32 ≤ p3 ∧ p3 ≤ 32) (hq0 : p1 < w.2.2.2 0) : sC (gG l D c H0 sa) mX2_leastBelow 3 0 0 [.ref 87, iv p1, iv p2, iv p3] (mk w μ) (qI w [87007] μ (fun z μ1 => ((-2147483648) ≤ z ∧ z ≤ 2147483647) ∧ True)) := by
  refine sC.of rfl (by decide) (le_t rfl) ?_
  refine mr_lvE (lv' := [(0, .ref 87), (1, iv p1), (2, iv p2), (3, iv p3)]) rfl ?_
  refine mr_iload_n (pc := 0) (z := p3) dX2_leastBelow_0 rfl rfl ?_
  refine mr_bipush (pc := 1) (z := 32) dX2_leastBelow_1 (by decide) ?_
  refine mr_icmp_ge (pc := 3) (tgt := 16) dX2_leastBelow_3 (by decide) (r32 hp3 rfl) (r32 (rR (x := 32)) rfl) (fun _ => ?_) (fun h => ((vc_X2_leastBelow_32_1 h hp3)).elim)
  refine sv_aload_n (pc := 16) dX2_leastBelow_16 rfl rfl ?_
  refine mr_iload_n (pc := 17) (z := p1) dX2_leastBelow_17 rfl rfl ?_
  refine mr_iload_n (pc := 18) (z := p2) dX2_leastBelow_18 rfl rfl ?_
  refine mr_cVP (pc := 19) (c_X2_tieFor hw hT hp1 hp2 (vc_X9_end_1 hq0 hp1)) (gOk _ _ _ _ _) dX2_leastBelow_19 (tX2_tieFor _ _ _ _ _) ⟨wV_X2_tieFor, wL_X2_tieFor⟩ wM_X2_60 (gCX2 _ _ _ _ _) rfl (A_87 hw) rfl ⟨le_t rfl, le_t rfl⟩ ⟨le_t rfl, le_t rfl⟩ rfl (le_t rfl) fun z5 h4 => ?_
  refine mr_cSP (pc := 22) (c_X2_aimBit hw hT h4.1) (gOk _ _ _ _ _) dX2_leastBelow_22 (tX2_aimBit _ _ _ _ _) wS_X2_aimBit wM_X2_110 ⟨le_t rfl, le_t rfl⟩ ⟨le_t rfl, le_t rfl⟩ rfl (le_t rfl) fun z10 h9 => ?_
  exact mr_iret dX2_leastBelow_25 rfl (le_t rfl) (le_t rfl) hT mF.refl ⟨h9.1, trivial⟩
theorem vc_X2_leastBelow_31_1 {p3 : Int} (h0 : 32 ≤ p3) (h1 : 31 ≤ p3 ∧ p3 ≤ 31) : False := by omega
set_option maxRecDepth 4000 in
set_option maxHeartbeats 4000000 in
theorem c_X2_leastBelow_31 {l : Launch} {D : va_G} {c : Nat → ClassId} {H0 : Heap} {sa : Nat × Nat × (Nat → Int32)} {w : mW} {μ : mM} (hw : mWF w) (hT : mT w μ) {p1 : Int} (hp1 : 0 ≤ p1 ∧ p1 ≤ 9) {p2 : Int} (hp2 : (-2147483648) ≤ p2 ∧ p2 ≤ 2147483647) {p3 : Int} (hp3 : 31 ≤ p3 ∧ p3 ≤ 31) (hq0 : p1 < w.2.2.2 0) : sC (gG l D c H0 sa) mX2_leastBelow 4 0 0 [.ref 87, iv p1, iv p2, iv p3] (mk w μ) (qI w [87007] μ (fun z μ1 => ((-2147483648) ≤ z ∧ z ≤ 2147483647) ∧ True)) := by
  refine sC.of rfl (by decide) (le_t rfl) ?_
  refine mr_lvE (lv' := [(0, .ref 87), (1, iv p1), (2, iv p2), (3, iv p3)]) rfl ?_
  refine mr_iload_n (pc := 0) (z := p3) dX2_leastBelow_0 rfl rfl ?_
  refine mr_bipush (pc := 1) (z := 32) dX2_leastBelow_1 (by decide) ?_
  refine mr_icmp_ge (pc := 3) (tgt := 16) dX2_leastBelow_3 (by decide) (r32 hp3 rfl) (r32 (rR (x := 32)) rfl) (fun h => ((vc_X2_leastBelow_31_1 h hp3)).elim) (fun _ => ?_)
  refine sv_aload_n (pc := 6) dX2_leastBelow_6 rfl rfl ?_
  refine mr_iload_n (pc := 7) (z := p1) dX2_leastBelow_7 rfl rfl ?_
  refine mr_iload_n (pc := 8) (z := p2) dX2_leastBelow_8 rfl rfl ?_
  refine mr_iload_n (pc := 9) (z := p3) dX2_leastBelow_9 rfl rfl ?_
  refine mr_cVP (pc := 10) (c_X2_isSplit hw hT hp1 hp2 (rW (c := (-2147483648)) (d := 2147483647) hp3 rfl) (vc_X9_end_1 hq0 hp1)) (gOk _ _ _ _ _) dX2_leastBelow_10 (tX2_isSplit _ _ _ _ _) ⟨wV_X2_isSplit, wL_X2_isSplit⟩ wM_X2_106 (gCX2 _ _ _ _ _) rfl (A_87 hw) rfl ⟨le_t rfl, le_t rfl⟩ ⟨le_t rfl, le_t rfl⟩ rfl (le_t rfl) fun z5 h4 => ?_
  refine mr_if_ne (pc := 13) (tgt := 26) dX2_leastBelow_13 (by decide) (r32 h4.1 rfl) (fun h6 => ?_) (fun h6 => ?_)
  · have h7 : 1 ≤ z5 ∧ z5 ≤ 1 := (vc_X12_ring_24 h6 h4.1)
    refine sv_aload_n (pc := 26) dX2_leastBelow_26 rfl rfl ?_
    refine mr_iload_n (pc := 27) (z := p1) dX2_leastBelow_27 rfl rfl ?_
    refine mr_iload_n (pc := 28) (z := p2) dX2_leastBelow_28 rfl rfl ?_
    refine mr_iload_n (pc := 29) (z := p3) dX2_leastBelow_29 rfl rfl ?_
    refine mr_iconst (pc := 30) (z := 1) dX2_leastBelow_30 ?_
    refine mr_iadd (pc := 31) (x := p3) (y := 1) dX2_leastBelow_31 ?_
    refine mr_cVI (pc := 32) (c_X2_leastBelow_32 hw hT hp1 hp2 (rAdd (e := 32) (f := 32) hp3 (rR (x := 1)) rfl) (vc_X9_end_1 hq0 hp1)) (gOk _ _ _ _ _) dX2_leastBelow_32 (tX2_leastBelow _ _ _ _ _) ⟨wV_X2_leastBelow, wL_X2_leastBelow⟩ wM_X2_101 (gCX2 _ _ _ _ _) rfl (A_87 hw) rfl ⟨le_t rfl, le_t rfl⟩ ⟨le_t rfl, le_t rfl⟩ rfl (le_t rfl) fun z12 μ8 T9 F10 h11 => ?_
    refine mr_istore (pc := 35) (lv' := [(4, iv z12), (0, .ref 87), (1, iv p1), (2, iv p2), (3, iv p3)]) dX2_leastBelow_35 (by decide) rfl ?_
    refine sv_aload_n (pc := 37) dX2_leastBelow_37 rfl rfl ?_
    refine mr_iload_n (pc := 38) (z := p1) dX2_leastBelow_38 rfl rfl ?_
    refine mr_iload_n (pc := 39) (z := p2) dX2_leastBelow_39 rfl rfl ?_
    refine mr_iconst (pc := 40) (z := 1) dX2_leastBelow_40 ?_
    refine mr_bipush (pc := 41) (z := 31) dX2_leastBelow_41 (by decide) ?_
    refine mr_iload_n (pc := 43) (z := p3) dX2_leastBelow_43 rfl rfl ?_
    refine mr_isub (pc := 44) (x := 31) (y := p3) dX2_leastBelow_44 ?_
    refine mr_ishl (pc := 45) (x := 1) (y := (31 - p3)) dX2_leastBelow_45 ?_
    refine mr_gen (P := fun z => (-2147483648) ≤ z ∧ z ≤ 2147483647) (r32i _) fun z13 q14 h15 => ?_
    refine mr_ior (pc := 46) (x := p2) (y := z13) dX2_leastBelow_46 ?_
    refine mr_gen (P := fun z => (-2147483648) ≤ z ∧ z ≤ 2147483647) (r32i _) fun z16 q17 h18 => ?_
    refine mr_iload_n (pc := 47) (z := p3) dX2_leastBelow_47 rfl rfl ?_
    refine mr_iconst (pc := 48) (z := 1) dX2_leastBelow_48 ?_
    refine mr_iadd (pc := 49) (x := p3) (y := 1) dX2_leastBelow_49 ?_
    refine mr_cVI (pc := 50) (c_X2_leastBelow_32 hw T9 hp1 h18 (rAdd (e := 32) (f := 32) hp3 (rR (x := 1)) rfl) (vc_X9_end_1 hq0 hp1)) (gOk _ _ _ _ _) dX2_leastBelow_50 (tX2_leastBelow _ _ _ _ _) ⟨wV_X2_leastBelow, wL_X2_leastBelow⟩ wM_X2_101 (gCX2 _ _ _ _ _) rfl (A_87 hw) rfl ⟨le_t rfl, le_t rfl⟩ ⟨le_t rfl, le_t rfl⟩ rfl (le_t rfl) fun z23 μ19 T20 F21 h22 => ?_
    refine mr_istore (pc := 53) (lv' := [(5, iv z23), (4, iv z12), (0, .ref 87), (1, iv p1), (2, iv p2), (3, iv p3)]) dX2_leastBelow_53 (by decide) rfl ?_
    refine mr_iload (pc := 55) (z := z12) dX2_leastBelow_55 rfl ?_
    refine mr_iload (pc := 57) (z := z23) dX2_leastBelow_57 rfl ?_
    refine mr_iand (pc := 59) (x := z12) (y := z23) dX2_leastBelow_59 ?_
    refine mr_gen (P := fun z => (-2147483648) ≤ z ∧ z ≤ 2147483647) (r32i _) fun z24 q25 h26 => ?_
    refine mr_if_eq (pc := 60) (tgt := 69) dX2_leastBelow_60 (by decide) h26 (fun h27 => ?_) (fun h27 => ?_)
    · have h28 : 0 ≤ z24 ∧ z24 ≤ 0 := (vc_X12_mask_1 h27 h26)
      refine sv_aload_n (pc := 69) dX2_leastBelow_69 rfl rfl ?_
      refine sv_dup (pc := 70) dX2_leastBelow_70 rfl ?_
      refine gf_X2_7 (pc := 71) dX2_leastBelow_71 wF_X2_98 (A_87 hw) T20 fun z29 q30 h31 => ?_
      refine mr_iconst (pc := 74) (z := 1) dX2_leastBelow_74 ?_
      refine mr_iadd (pc := 75) (x := z29) (y := 1) dX2_leastBelow_75 ?_
      refine mr_wrap fun z32 h33 => ?_
      refine pf_X2_7 (pc := 76) dX2_leastBelow_76 wF_X2_98 (A_87 hw) T20 h33 fun μ34 u35 T36 => ?_
      refine mr_iload (pc := 79) (z := z12) dX2_leastBelow_79 rfl ?_
      refine mr_iload (pc := 81) (z := z23) dX2_leastBelow_81 rfl ?_
      refine mr_ior (pc := 83) (x := z12) (y := z23) dX2_leastBelow_83 ?_
      refine mr_gen (P := fun z => (-2147483648) ≤ z ∧ z ≤ 2147483647) (r32i _) fun z37 q38 h39 => ?_
      exact mr_iret dX2_leastBelow_84 rfl (le_t rfl) (le_t rfl) T36 (mF.up (mF.call (mF.call mF.refl F10 rfl) F21 rfl) (A_87 hw) u35 rfl) ⟨h39, trivial⟩
    refine mr_iload (pc := 63) (z := z12) dX2_leastBelow_63 rfl ?_
    refine mr_iload (pc := 65) (z := z23) dX2_leastBelow_65 rfl ?_
    refine mr_iand (pc := 67) (x := z12) (y := z23) dX2_leastBelow_67 ?_
    refine mr_gen (P := fun z => (-2147483648) ≤ z ∧ z ≤ 2147483647) (r32i _) fun z40 q41 h42 => ?_
    exact mr_iret dX2_leastBelow_68 rfl (le_t rfl) (le_t rfl) T20 (mF.call (mF.call mF.refl F10 rfl) F21 rfl) ⟨h42, trivial⟩
  have h43 : 0 ≤ z5 ∧ z5 ≤ 0 := (vc_X12_ring_22 h6 h4.1)
  refine sv_aload_n (pc := 16) dX2_leastBelow_16 rfl rfl ?_
  refine mr_iload_n (pc := 17) (z := p1) dX2_leastBelow_17 rfl rfl ?_
  refine mr_iload_n (pc := 18) (z := p2) dX2_leastBelow_18 rfl rfl ?_
  refine mr_cVP (pc := 19) (c_X2_tieFor hw hT hp1 hp2 (vc_X9_end_1 hq0 hp1)) (gOk _ _ _ _ _) dX2_leastBelow_19 (tX2_tieFor _ _ _ _ _) ⟨wV_X2_tieFor, wL_X2_tieFor⟩ wM_X2_60 (gCX2 _ _ _ _ _) rfl (A_87 hw) rfl ⟨le_t rfl, le_t rfl⟩ ⟨le_t rfl, le_t rfl⟩ rfl (le_t rfl) fun z48 h47 => ?_
  refine mr_cSP (pc := 22) (c_X2_aimBit hw hT h47.1) (gOk _ _ _ _ _) dX2_leastBelow_22 (tX2_aimBit _ _ _ _ _) wS_X2_aimBit wM_X2_110 ⟨le_t rfl, le_t rfl⟩ ⟨le_t rfl, le_t rfl⟩ rfl (le_t rfl) fun z53 h52 => ?_
  exact mr_iret dX2_leastBelow_25 rfl (le_t rfl) (le_t rfl) hT mF.refl ⟨h52.1, trivial⟩
theorem vc_X2_leastBelow_30_1 {p3 : Int} (h0 : 32 ≤ p3) (h1 : 30 ≤ p3 ∧ p3 ≤ 30) : False := by omega
set_option maxRecDepth 4000 in
set_option maxHeartbeats 4000000 in
theorem c_X2_leastBelow_30 {l : Launch} {D : va_G} {c : Nat → ClassId} {H0 : Heap} {sa : Nat × Nat × (Nat → Int32)} {w : mW} {μ : mM} (hw : mWF w) (hT : mT w μ) {p1 : Int} (hp1 : 0 ≤ p1 ∧ p1 ≤ 9) {p2 : Int} (hp2 : (-2147483648) ≤ p2 ∧ p2 ≤ 2147483647) {p3 : Int} (hp3 : 30 ≤ p3 ∧ p3 ≤ 30) (hq0 : p1 < w.2.2.2 0) : sC (gG l D c H0 sa) mX2_leastBelow 5 0 0 [.ref 87, iv p1, iv p2, iv p3] (mk w μ) (qI w [87007] μ (fun z μ1 => ((-2147483648) ≤ z ∧ z ≤ 2147483647) ∧ True)) := by
  refine sC.of rfl (by decide) (le_t rfl) ?_
  refine mr_lvE (lv' := [(0, .ref 87), (1, iv p1), (2, iv p2), (3, iv p3)]) rfl ?_
  refine mr_iload_n (pc := 0) (z := p3) dX2_leastBelow_0 rfl rfl ?_
  refine mr_bipush (pc := 1) (z := 32) dX2_leastBelow_1 (by decide) ?_
  refine mr_icmp_ge (pc := 3) (tgt := 16) dX2_leastBelow_3 (by decide) (r32 hp3 rfl) (r32 (rR (x := 32)) rfl) (fun h => ((vc_X2_leastBelow_30_1 h hp3)).elim) (fun _ => ?_)
  refine sv_aload_n (pc := 6) dX2_leastBelow_6 rfl rfl ?_
  refine mr_iload_n (pc := 7) (z := p1) dX2_leastBelow_7 rfl rfl ?_
  refine mr_iload_n (pc := 8) (z := p2) dX2_leastBelow_8 rfl rfl ?_
  refine mr_iload_n (pc := 9) (z := p3) dX2_leastBelow_9 rfl rfl ?_
  refine mr_cVP (pc := 10) (c_X2_isSplit hw hT hp1 hp2 (rW (c := (-2147483648)) (d := 2147483647) hp3 rfl) (vc_X9_end_1 hq0 hp1)) (gOk _ _ _ _ _) dX2_leastBelow_10 (tX2_isSplit _ _ _ _ _) ⟨wV_X2_isSplit, wL_X2_isSplit⟩ wM_X2_106 (gCX2 _ _ _ _ _) rfl (A_87 hw) rfl ⟨le_t rfl, le_t rfl⟩ ⟨le_t rfl, le_t rfl⟩ rfl (le_t rfl) fun z5 h4 => ?_
  refine mr_if_ne (pc := 13) (tgt := 26) dX2_leastBelow_13 (by decide) (r32 h4.1 rfl) (fun h6 => ?_) (fun h6 => ?_)
  · have h7 : 1 ≤ z5 ∧ z5 ≤ 1 := (vc_X12_ring_24 h6 h4.1)
    refine sv_aload_n (pc := 26) dX2_leastBelow_26 rfl rfl ?_
    refine mr_iload_n (pc := 27) (z := p1) dX2_leastBelow_27 rfl rfl ?_
    refine mr_iload_n (pc := 28) (z := p2) dX2_leastBelow_28 rfl rfl ?_
    refine mr_iload_n (pc := 29) (z := p3) dX2_leastBelow_29 rfl rfl ?_
    refine mr_iconst (pc := 30) (z := 1) dX2_leastBelow_30 ?_
    refine mr_iadd (pc := 31) (x := p3) (y := 1) dX2_leastBelow_31 ?_
    refine mr_cVI (pc := 32) (c_X2_leastBelow_31 hw hT hp1 hp2 (rAdd (e := 31) (f := 31) hp3 (rR (x := 1)) rfl) (vc_X9_end_1 hq0 hp1)) (gOk _ _ _ _ _) dX2_leastBelow_32 (tX2_leastBelow _ _ _ _ _) ⟨wV_X2_leastBelow, wL_X2_leastBelow⟩ wM_X2_101 (gCX2 _ _ _ _ _) rfl (A_87 hw) rfl ⟨le_t rfl, le_t rfl⟩ ⟨le_t rfl, le_t rfl⟩ rfl (le_t rfl) fun z12 μ8 T9 F10 h11 => ?_
    refine mr_istore (pc := 35) (lv' := [(4, iv z12), (0, .ref 87), (1, iv p1), (2, iv p2), (3, iv p3)]) dX2_leastBelow_35 (by decide) rfl ?_
    refine sv_aload_n (pc := 37) dX2_leastBelow_37 rfl rfl ?_
    refine mr_iload_n (pc := 38) (z := p1) dX2_leastBelow_38 rfl rfl ?_
    refine mr_iload_n (pc := 39) (z := p2) dX2_leastBelow_39 rfl rfl ?_
    refine mr_iconst (pc := 40) (z := 1) dX2_leastBelow_40 ?_
    refine mr_bipush (pc := 41) (z := 31) dX2_leastBelow_41 (by decide) ?_
    refine mr_iload_n (pc := 43) (z := p3) dX2_leastBelow_43 rfl rfl ?_
    refine mr_isub (pc := 44) (x := 31) (y := p3) dX2_leastBelow_44 ?_
    refine mr_ishl (pc := 45) (x := 1) (y := (31 - p3)) dX2_leastBelow_45 ?_
    refine mr_gen (P := fun z => (-2147483648) ≤ z ∧ z ≤ 2147483647) (r32i _) fun z13 q14 h15 => ?_
    refine mr_ior (pc := 46) (x := p2) (y := z13) dX2_leastBelow_46 ?_
    refine mr_gen (P := fun z => (-2147483648) ≤ z ∧ z ≤ 2147483647) (r32i _) fun z16 q17 h18 => ?_
    refine mr_iload_n (pc := 47) (z := p3) dX2_leastBelow_47 rfl rfl ?_
    refine mr_iconst (pc := 48) (z := 1) dX2_leastBelow_48 ?_
    refine mr_iadd (pc := 49) (x := p3) (y := 1) dX2_leastBelow_49 ?_
    refine mr_cVI (pc := 50) (c_X2_leastBelow_31 hw T9 hp1 h18 (rAdd (e := 31) (f := 31) hp3 (rR (x := 1)) rfl) (vc_X9_end_1 hq0 hp1)) (gOk _ _ _ _ _) dX2_leastBelow_50 (tX2_leastBelow _ _ _ _ _) ⟨wV_X2_leastBelow, wL_X2_leastBelow⟩ wM_X2_101 (gCX2 _ _ _ _ _) rfl (A_87 hw) rfl ⟨le_t rfl, le_t rfl⟩ ⟨le_t rfl, le_t rfl⟩ rfl (le_t rfl) fun z23 μ19 T20 F21 h22 => ?_
    refine mr_istore (pc := 53) (lv' := [(5, iv z23), (4, iv z12), (0, .ref 87), (1, iv p1), (2, iv p2), (3, iv p3)]) dX2_leastBelow_53 (by decide) rfl ?_
    refine mr_iload (pc := 55) (z := z12) dX2_leastBelow_55 rfl ?_
    refine mr_iload (pc := 57) (z := z23) dX2_leastBelow_57 rfl ?_
    refine mr_iand (pc := 59) (x := z12) (y := z23) dX2_leastBelow_59 ?_
    refine mr_gen (P := fun z => (-2147483648) ≤ z ∧ z ≤ 2147483647) (r32i _) fun z24 q25 h26 => ?_
    refine mr_if_eq (pc := 60) (tgt := 69) dX2_leastBelow_60 (by decide) h26 (fun h27 => ?_) (fun h27 => ?_)
    · have h28 : 0 ≤ z24 ∧ z24 ≤ 0 := (vc_X12_mask_1 h27 h26)
      refine sv_aload_n (pc := 69) dX2_leastBelow_69 rfl rfl ?_
      refine sv_dup (pc := 70) dX2_leastBelow_70 rfl ?_
      refine gf_X2_7 (pc := 71) dX2_leastBelow_71 wF_X2_98 (A_87 hw) T20 fun z29 q30 h31 => ?_
      refine mr_iconst (pc := 74) (z := 1) dX2_leastBelow_74 ?_
      refine mr_iadd (pc := 75) (x := z29) (y := 1) dX2_leastBelow_75 ?_
      refine mr_wrap fun z32 h33 => ?_
      refine pf_X2_7 (pc := 76) dX2_leastBelow_76 wF_X2_98 (A_87 hw) T20 h33 fun μ34 u35 T36 => ?_
      refine mr_iload (pc := 79) (z := z12) dX2_leastBelow_79 rfl ?_
      refine mr_iload (pc := 81) (z := z23) dX2_leastBelow_81 rfl ?_
      refine mr_ior (pc := 83) (x := z12) (y := z23) dX2_leastBelow_83 ?_
      refine mr_gen (P := fun z => (-2147483648) ≤ z ∧ z ≤ 2147483647) (r32i _) fun z37 q38 h39 => ?_
      exact mr_iret dX2_leastBelow_84 rfl (le_t rfl) (le_t rfl) T36 (mF.up (mF.call (mF.call mF.refl F10 rfl) F21 rfl) (A_87 hw) u35 rfl) ⟨h39, trivial⟩
    refine mr_iload (pc := 63) (z := z12) dX2_leastBelow_63 rfl ?_
    refine mr_iload (pc := 65) (z := z23) dX2_leastBelow_65 rfl ?_
    refine mr_iand (pc := 67) (x := z12) (y := z23) dX2_leastBelow_67 ?_
    refine mr_gen (P := fun z => (-2147483648) ≤ z ∧ z ≤ 2147483647) (r32i _) fun z40 q41 h42 => ?_
    exact mr_iret dX2_leastBelow_68 rfl (le_t rfl) (le_t rfl) T20 (mF.call (mF.call mF.refl F10 rfl) F21 rfl) ⟨h42, trivial⟩
  have h43 : 0 ≤ z5 ∧ z5 ≤ 0 := (vc_X12_ring_22 h6 h4.1)
  refine sv_aload_n (pc := 16) dX2_leastBelow_16 rfl rfl ?_
  refine mr_iload_n (pc := 17) (z := p1) dX2_leastBelow_17 rfl rfl ?_
  refine mr_iload_n (pc := 18) (z := p2) dX2_leastBelow_18 rfl rfl ?_
  refine mr_cVP (pc := 19) (c_X2_tieFor hw hT hp1 hp2 (vc_X9_end_1 hq0 hp1)) (gOk _ _ _ _ _) dX2_leastBelow_19 (tX2_tieFor _ _ _ _ _) ⟨wV_X2_tieFor, wL_X2_tieFor⟩ wM_X2_60 (gCX2 _ _ _ _ _) rfl (A_87 hw) rfl ⟨le_t rfl, le_t rfl⟩ ⟨le_t rfl, le_t rfl⟩ rfl (le_t rfl) fun z48 h47 => ?_
  refine mr_cSP (pc := 22) (c_X2_aimBit hw hT h47.1) (gOk _ _ _ _ _) dX2_leastBelow_22 (tX2_aimBit _ _ _ _ _) wS_X2_aimBit wM_X2_110 ⟨le_t rfl, le_t rfl⟩ ⟨le_t rfl, le_t rfl⟩ rfl (le_t rfl) fun z53 h52 => ?_
  exact mr_iret dX2_leastBelow_25 rfl (le_t rfl) (le_t rfl) hT mF.refl ⟨h52.1, trivial⟩
theorem vc_X2_leastBelow_29_1 {p3 : Int} (h0 : 32 ≤ p3) (h1 : 29 ≤ p3 ∧ p3 ≤ 29) : False := by omega
set_option maxRecDepth 4000 in
set_option maxHeartbeats 4000000 in
theorem c_X2_leastBelow_29 {l : Launch} {D : va_G} {c : Nat → ClassId} {H0 : Heap} {sa : Nat × Nat × (Nat → Int32)} {w : mW} {μ : mM} (hw : mWF w) (hT : mT w μ) {p1 : Int} (hp1 : 0 ≤ p1 ∧ p1 ≤ 9) {p2 : Int} (hp2 : (-2147483648) ≤ p2 ∧ p2 ≤ 2147483647) {p3 : Int} (hp3 : 29 ≤ p3 ∧ p3 ≤ 29) (hq0 : p1 < w.2.2.2 0) : sC (gG l D c H0 sa) mX2_leastBelow 6 0 0 [.ref 87, iv p1, iv p2, iv p3] (mk w μ) (qI w [87007] μ (fun z μ1 => ((-2147483648) ≤ z ∧ z ≤ 2147483647) ∧ True)) := by
  refine sC.of rfl (by decide) (le_t rfl) ?_
  refine mr_lvE (lv' := [(0, .ref 87), (1, iv p1), (2, iv p2), (3, iv p3)]) rfl ?_
  refine mr_iload_n (pc := 0) (z := p3) dX2_leastBelow_0 rfl rfl ?_
  refine mr_bipush (pc := 1) (z := 32) dX2_leastBelow_1 (by decide) ?_
  refine mr_icmp_ge (pc := 3) (tgt := 16) dX2_leastBelow_3 (by decide) (r32 hp3 rfl) (r32 (rR (x := 32)) rfl) (fun h => ((vc_X2_leastBelow_29_1 h hp3)).elim) (fun _ => ?_)
  refine sv_aload_n (pc := 6) dX2_leastBelow_6 rfl rfl ?_
  refine mr_iload_n (pc := 7) (z := p1) dX2_leastBelow_7 rfl rfl ?_
  refine mr_iload_n (pc := 8) (z := p2) dX2_leastBelow_8 rfl rfl ?_
  refine mr_iload_n (pc := 9) (z := p3) dX2_leastBelow_9 rfl rfl ?_
  refine mr_cVP (pc := 10) (c_X2_isSplit hw hT hp1 hp2 (rW (c := (-2147483648)) (d := 2147483647) hp3 rfl) (vc_X9_end_1 hq0 hp1)) (gOk _ _ _ _ _) dX2_leastBelow_10 (tX2_isSplit _ _ _ _ _) ⟨wV_X2_isSplit, wL_X2_isSplit⟩ wM_X2_106 (gCX2 _ _ _ _ _) rfl (A_87 hw) rfl ⟨le_t rfl, le_t rfl⟩ ⟨le_t rfl, le_t rfl⟩ rfl (le_t rfl) fun z5 h4 => ?_
  refine mr_if_ne (pc := 13) (tgt := 26) dX2_leastBelow_13 (by decide) (r32 h4.1 rfl) (fun h6 => ?_) (fun h6 => ?_)
  · have h7 : 1 ≤ z5 ∧ z5 ≤ 1 := (vc_X12_ring_24 h6 h4.1)
    refine sv_aload_n (pc := 26) dX2_leastBelow_26 rfl rfl ?_
    refine mr_iload_n (pc := 27) (z := p1) dX2_leastBelow_27 rfl rfl ?_
    refine mr_iload_n (pc := 28) (z := p2) dX2_leastBelow_28 rfl rfl ?_
    refine mr_iload_n (pc := 29) (z := p3) dX2_leastBelow_29 rfl rfl ?_
    refine mr_iconst (pc := 30) (z := 1) dX2_leastBelow_30 ?_
    refine mr_iadd (pc := 31) (x := p3) (y := 1) dX2_leastBelow_31 ?_
    refine mr_cVI (pc := 32) (c_X2_leastBelow_30 hw hT hp1 hp2 (rAdd (e := 30) (f := 30) hp3 (rR (x := 1)) rfl) (vc_X9_end_1 hq0 hp1)) (gOk _ _ _ _ _) dX2_leastBelow_32 (tX2_leastBelow _ _ _ _ _) ⟨wV_X2_leastBelow, wL_X2_leastBelow⟩ wM_X2_101 (gCX2 _ _ _ _ _) rfl (A_87 hw) rfl ⟨le_t rfl, le_t rfl⟩ ⟨le_t rfl, le_t rfl⟩ rfl (le_t rfl) fun z12 μ8 T9 F10 h11 => ?_
    refine mr_istore (pc := 35) (lv' := [(4, iv z12), (0, .ref 87), (1, iv p1), (2, iv p2), (3, iv p3)]) dX2_leastBelow_35 (by decide) rfl ?_
    refine sv_aload_n (pc := 37) dX2_leastBelow_37 rfl rfl ?_
    refine mr_iload_n (pc := 38) (z := p1) dX2_leastBelow_38 rfl rfl ?_
    refine mr_iload_n (pc := 39) (z := p2) dX2_leastBelow_39 rfl rfl ?_
    refine mr_iconst (pc := 40) (z := 1) dX2_leastBelow_40 ?_
    refine mr_bipush (pc := 41) (z := 31) dX2_leastBelow_41 (by decide) ?_
    refine mr_iload_n (pc := 43) (z := p3) dX2_leastBelow_43 rfl rfl ?_
    refine mr_isub (pc := 44) (x := 31) (y := p3) dX2_leastBelow_44 ?_
    refine mr_ishl (pc := 45) (x := 1) (y := (31 - p3)) dX2_leastBelow_45 ?_
    refine mr_gen (P := fun z => (-2147483648) ≤ z ∧ z ≤ 2147483647) (r32i _) fun z13 q14 h15 => ?_
    refine mr_ior (pc := 46) (x := p2) (y := z13) dX2_leastBelow_46 ?_
    refine mr_gen (P := fun z => (-2147483648) ≤ z ∧ z ≤ 2147483647) (r32i _) fun z16 q17 h18 => ?_
    refine mr_iload_n (pc := 47) (z := p3) dX2_leastBelow_47 rfl rfl ?_
    refine mr_iconst (pc := 48) (z := 1) dX2_leastBelow_48 ?_
    refine mr_iadd (pc := 49) (x := p3) (y := 1) dX2_leastBelow_49 ?_
    refine mr_cVI (pc := 50) (c_X2_leastBelow_30 hw T9 hp1 h18 (rAdd (e := 30) (f := 30) hp3 (rR (x := 1)) rfl) (vc_X9_end_1 hq0 hp1)) (gOk _ _ _ _ _) dX2_leastBelow_50 (tX2_leastBelow _ _ _ _ _) ⟨wV_X2_leastBelow, wL_X2_leastBelow⟩ wM_X2_101 (gCX2 _ _ _ _ _) rfl (A_87 hw) rfl ⟨le_t rfl, le_t rfl⟩ ⟨le_t rfl, le_t rfl⟩ rfl (le_t rfl) fun z23 μ19 T20 F21 h22 => ?_
    refine mr_istore (pc := 53) (lv' := [(5, iv z23), (4, iv z12), (0, .ref 87), (1, iv p1), (2, iv p2), (3, iv p3)]) dX2_leastBelow_53 (by decide) rfl ?_
    refine mr_iload (pc := 55) (z := z12) dX2_leastBelow_55 rfl ?_
    refine mr_iload (pc := 57) (z := z23) dX2_leastBelow_57 rfl ?_
    refine mr_iand (pc := 59) (x := z12) (y := z23) dX2_leastBelow_59 ?_
    refine mr_gen (P := fun z => (-2147483648) ≤ z ∧ z ≤ 2147483647) (r32i _) fun z24 q25 h26 => ?_
    refine mr_if_eq (pc := 60) (tgt := 69) dX2_leastBelow_60 (by decide) h26 (fun h27 => ?_) (fun h27 => ?_)
    · have h28 : 0 ≤ z24 ∧ z24 ≤ 0 := (vc_X12_mask_1 h27 h26)
      refine sv_aload_n (pc := 69) dX2_leastBelow_69 rfl rfl ?_
      refine sv_dup (pc := 70) dX2_leastBelow_70 rfl ?_
      refine gf_X2_7 (pc := 71) dX2_leastBelow_71 wF_X2_98 (A_87 hw) T20 fun z29 q30 h31 => ?_
      refine mr_iconst (pc := 74) (z := 1) dX2_leastBelow_74 ?_
      refine mr_iadd (pc := 75) (x := z29) (y := 1) dX2_leastBelow_75 ?_
      refine mr_wrap fun z32 h33 => ?_
      refine pf_X2_7 (pc := 76) dX2_leastBelow_76 wF_X2_98 (A_87 hw) T20 h33 fun μ34 u35 T36 => ?_
      refine mr_iload (pc := 79) (z := z12) dX2_leastBelow_79 rfl ?_
      refine mr_iload (pc := 81) (z := z23) dX2_leastBelow_81 rfl ?_
      refine mr_ior (pc := 83) (x := z12) (y := z23) dX2_leastBelow_83 ?_
      refine mr_gen (P := fun z => (-2147483648) ≤ z ∧ z ≤ 2147483647) (r32i _) fun z37 q38 h39 => ?_
      exact mr_iret dX2_leastBelow_84 rfl (le_t rfl) (le_t rfl) T36 (mF.up (mF.call (mF.call mF.refl F10 rfl) F21 rfl) (A_87 hw) u35 rfl) ⟨h39, trivial⟩
    refine mr_iload (pc := 63) (z := z12) dX2_leastBelow_63 rfl ?_
    refine mr_iload (pc := 65) (z := z23) dX2_leastBelow_65 rfl ?_
    refine mr_iand (pc := 67) (x := z12) (y := z23) dX2_leastBelow_67 ?_
    refine mr_gen (P := fun z => (-2147483648) ≤ z ∧ z ≤ 2147483647) (r32i _) fun z40 q41 h42 => ?_
    exact mr_iret dX2_leastBelow_68 rfl (le_t rfl) (le_t rfl) T20 (mF.call (mF.call mF.refl F10 rfl) F21 rfl) ⟨h42, trivial⟩
  have h43 : 0 ≤ z5 ∧ z5 ≤ 0 := (vc_X12_ring_22 h6 h4.1)
  refine sv_aload_n (pc := 16) dX2_leastBelow_16 rfl rfl ?_
  refine mr_iload_n (pc := 17) (z := p1) dX2_leastBelow_17 rfl rfl ?_
  refine mr_iload_n (pc := 18) (z := p2) dX2_leastBelow_18 rfl rfl ?_
  refine mr_cVP (pc := 19) (c_X2_tieFor hw hT hp1 hp2 (vc_X9_end_1 hq0 hp1)) (gOk _ _ _ _ _) dX2_leastBelow_19 (tX2_tieFor _ _ _ _ _) ⟨wV_X2_tieFor, wL_X2_tieFor⟩ wM_X2_60 (gCX2 _ _ _ _ _) rfl (A_87 hw) rfl ⟨le_t rfl, le_t rfl⟩ ⟨le_t rfl, le_t rfl⟩ rfl (le_t rfl) fun z48 h47 => ?_
  refine mr_cSP (pc := 22) (c_X2_aimBit hw hT h47.1) (gOk _ _ _ _ _) dX2_leastBelow_22 (tX2_aimBit _ _ _ _ _) wS_X2_aimBit wM_X2_110 ⟨le_t rfl, le_t rfl⟩ ⟨le_t rfl, le_t rfl⟩ rfl (le_t rfl) fun z53 h52 => ?_
  exact mr_iret dX2_leastBelow_25 rfl (le_t rfl) (le_t rfl) hT mF.refl ⟨h52.1, trivial⟩
theorem vc_X2_leastBelow_28_1 {p3 : Int} (h0 : 32 ≤ p3) (h1 : 28 ≤ p3 ∧ p3 ≤ 28) : False := by omega
set_option maxRecDepth 4000 in
set_option maxHeartbeats 4000000 in
theorem c_X2_leastBelow_28 {l : Launch} {D : va_G} {c : Nat → ClassId} {H0 : Heap} {sa : Nat × Nat × (Nat → Int32)} {w : mW} {μ : mM} (hw : mWF w) (hT : mT w μ) {p1 : Int} (hp1 : 0 ≤ p1 ∧ p1 ≤ 9) {p2 : Int} (hp2 : (-2147483648) ≤ p2 ∧ p2 ≤ 2147483647) {p3 : Int} (hp3 : 28 ≤ p3 ∧ p3 ≤ 28) (hq0 : p1 < w.2.2.2 0) : sC (gG l D c H0 sa) mX2_leastBelow 7 0 0 [.ref 87, iv p1, iv p2, iv p3] (mk w μ) (qI w [87007] μ (fun z μ1 => ((-2147483648) ≤ z ∧ z ≤ 2147483647) ∧ True)) := by
  refine sC.of rfl (by decide) (le_t rfl) ?_
  refine mr_lvE (lv' := [(0, .ref 87), (1, iv p1), (2, iv p2), (3, iv p3)]) rfl ?_
  refine mr_iload_n (pc := 0) (z := p3) dX2_leastBelow_0 rfl rfl ?_
  refine mr_bipush (pc := 1) (z := 32) dX2_leastBelow_1 (by decide) ?_
  refine mr_icmp_ge (pc := 3) (tgt := 16) dX2_leastBelow_3 (by decide) (r32 hp3 rfl) (r32 (rR (x := 32)) rfl) (fun h => ((vc_X2_leastBelow_28_1 h hp3)).elim) (fun _ => ?_)
  refine sv_aload_n (pc := 6) dX2_leastBelow_6 rfl rfl ?_
  refine mr_iload_n (pc := 7) (z := p1) dX2_leastBelow_7 rfl rfl ?_
  refine mr_iload_n (pc := 8) (z := p2) dX2_leastBelow_8 rfl rfl ?_
  refine mr_iload_n (pc := 9) (z := p3) dX2_leastBelow_9 rfl rfl ?_
  refine mr_cVP (pc := 10) (c_X2_isSplit hw hT hp1 hp2 (rW (c := (-2147483648)) (d := 2147483647) hp3 rfl) (vc_X9_end_1 hq0 hp1)) (gOk _ _ _ _ _) dX2_leastBelow_10 (tX2_isSplit _ _ _ _ _) ⟨wV_X2_isSplit, wL_X2_isSplit⟩ wM_X2_106 (gCX2 _ _ _ _ _) rfl (A_87 hw) rfl ⟨le_t rfl, le_t rfl⟩ ⟨le_t rfl, le_t rfl⟩ rfl (le_t rfl) fun z5 h4 => ?_
  refine mr_if_ne (pc := 13) (tgt := 26) dX2_leastBelow_13 (by decide) (r32 h4.1 rfl) (fun h6 => ?_) (fun h6 => ?_)
  · have h7 : 1 ≤ z5 ∧ z5 ≤ 1 := (vc_X12_ring_24 h6 h4.1)
    refine sv_aload_n (pc := 26) dX2_leastBelow_26 rfl rfl ?_
    refine mr_iload_n (pc := 27) (z := p1) dX2_leastBelow_27 rfl rfl ?_
    refine mr_iload_n (pc := 28) (z := p2) dX2_leastBelow_28 rfl rfl ?_
    refine mr_iload_n (pc := 29) (z := p3) dX2_leastBelow_29 rfl rfl ?_
    refine mr_iconst (pc := 30) (z := 1) dX2_leastBelow_30 ?_
    refine mr_iadd (pc := 31) (x := p3) (y := 1) dX2_leastBelow_31 ?_
    refine mr_cVI (pc := 32) (c_X2_leastBelow_29 hw hT hp1 hp2 (rAdd (e := 29) (f := 29) hp3 (rR (x := 1)) rfl) (vc_X9_end_1 hq0 hp1)) (gOk _ _ _ _ _) dX2_leastBelow_32 (tX2_leastBelow _ _ _ _ _) ⟨wV_X2_leastBelow, wL_X2_leastBelow⟩ wM_X2_101 (gCX2 _ _ _ _ _) rfl (A_87 hw) rfl ⟨le_t rfl, le_t rfl⟩ ⟨le_t rfl, le_t rfl⟩ rfl (le_t rfl) fun z12 μ8 T9 F10 h11 => ?_
    refine mr_istore (pc := 35) (lv' := [(4, iv z12), (0, .ref 87), (1, iv p1), (2, iv p2), (3, iv p3)]) dX2_leastBelow_35 (by decide) rfl ?_
    refine sv_aload_n (pc := 37) dX2_leastBelow_37 rfl rfl ?_
    refine mr_iload_n (pc := 38) (z := p1) dX2_leastBelow_38 rfl rfl ?_
    refine mr_iload_n (pc := 39) (z := p2) dX2_leastBelow_39 rfl rfl ?_
    refine mr_iconst (pc := 40) (z := 1) dX2_leastBelow_40 ?_
    refine mr_bipush (pc := 41) (z := 31) dX2_leastBelow_41 (by decide) ?_
    refine mr_iload_n (pc := 43) (z := p3) dX2_leastBelow_43 rfl rfl ?_
    refine mr_isub (pc := 44) (x := 31) (y := p3) dX2_leastBelow_44 ?_
    refine mr_ishl (pc := 45) (x := 1) (y := (31 - p3)) dX2_leastBelow_45 ?_
    refine mr_gen (P := fun z => (-2147483648) ≤ z ∧ z ≤ 2147483647) (r32i _) fun z13 q14 h15 => ?_
    refine mr_ior (pc := 46) (x := p2) (y := z13) dX2_leastBelow_46 ?_
    refine mr_gen (P := fun z => (-2147483648) ≤ z ∧ z ≤ 2147483647) (r32i _) fun z16 q17 h18 => ?_
    refine mr_iload_n (pc := 47) (z := p3) dX2_leastBelow_47 rfl rfl ?_
    refine mr_iconst (pc := 48) (z := 1) dX2_leastBelow_48 ?_
    refine mr_iadd (pc := 49) (x := p3) (y := 1) dX2_leastBelow_49 ?_
    refine mr_cVI (pc := 50) (c_X2_leastBelow_29 hw T9 hp1 h18 (rAdd (e := 29) (f := 29) hp3 (rR (x := 1)) rfl) (vc_X9_end_1 hq0 hp1)) (gOk _ _ _ _ _) dX2_leastBelow_50 (tX2_leastBelow _ _ _ _ _) ⟨wV_X2_leastBelow, wL_X2_leastBelow⟩ wM_X2_101 (gCX2 _ _ _ _ _) rfl (A_87 hw) rfl ⟨le_t rfl, le_t rfl⟩ ⟨le_t rfl, le_t rfl⟩ rfl (le_t rfl) fun z23 μ19 T20 F21 h22 => ?_
    refine mr_istore (pc := 53) (lv' := [(5, iv z23), (4, iv z12), (0, .ref 87), (1, iv p1), (2, iv p2), (3, iv p3)]) dX2_leastBelow_53 (by decide) rfl ?_
    refine mr_iload (pc := 55) (z := z12) dX2_leastBelow_55 rfl ?_
    refine mr_iload (pc := 57) (z := z23) dX2_leastBelow_57 rfl ?_
    refine mr_iand (pc := 59) (x := z12) (y := z23) dX2_leastBelow_59 ?_
    refine mr_gen (P := fun z => (-2147483648) ≤ z ∧ z ≤ 2147483647) (r32i _) fun z24 q25 h26 => ?_
    refine mr_if_eq (pc := 60) (tgt := 69) dX2_leastBelow_60 (by decide) h26 (fun h27 => ?_) (fun h27 => ?_)
    · have h28 : 0 ≤ z24 ∧ z24 ≤ 0 := (vc_X12_mask_1 h27 h26)
      refine sv_aload_n (pc := 69) dX2_leastBelow_69 rfl rfl ?_
      refine sv_dup (pc := 70) dX2_leastBelow_70 rfl ?_
      refine gf_X2_7 (pc := 71) dX2_leastBelow_71 wF_X2_98 (A_87 hw) T20 fun z29 q30 h31 => ?_
      refine mr_iconst (pc := 74) (z := 1) dX2_leastBelow_74 ?_
      refine mr_iadd (pc := 75) (x := z29) (y := 1) dX2_leastBelow_75 ?_
      refine mr_wrap fun z32 h33 => ?_
      refine pf_X2_7 (pc := 76) dX2_leastBelow_76 wF_X2_98 (A_87 hw) T20 h33 fun μ34 u35 T36 => ?_
      refine mr_iload (pc := 79) (z := z12) dX2_leastBelow_79 rfl ?_
      refine mr_iload (pc := 81) (z := z23) dX2_leastBelow_81 rfl ?_
      refine mr_ior (pc := 83) (x := z12) (y := z23) dX2_leastBelow_83 ?_
      refine mr_gen (P := fun z => (-2147483648) ≤ z ∧ z ≤ 2147483647) (r32i _) fun z37 q38 h39 => ?_
      exact mr_iret dX2_leastBelow_84 rfl (le_t rfl) (le_t rfl) T36 (mF.up (mF.call (mF.call mF.refl F10 rfl) F21 rfl) (A_87 hw) u35 rfl) ⟨h39, trivial⟩
    refine mr_iload (pc := 63) (z := z12) dX2_leastBelow_63 rfl ?_
    refine mr_iload (pc := 65) (z := z23) dX2_leastBelow_65 rfl ?_
    refine mr_iand (pc := 67) (x := z12) (y := z23) dX2_leastBelow_67 ?_
    refine mr_gen (P := fun z => (-2147483648) ≤ z ∧ z ≤ 2147483647) (r32i _) fun z40 q41 h42 => ?_
    exact mr_iret dX2_leastBelow_68 rfl (le_t rfl) (le_t rfl) T20 (mF.call (mF.call mF.refl F10 rfl) F21 rfl) ⟨h42, trivial⟩
  have h43 : 0 ≤ z5 ∧ z5 ≤ 0 := (vc_X12_ring_22 h6 h4.1)
  refine sv_aload_n (pc := 16) dX2_leastBelow_16 rfl rfl ?_
  refine mr_iload_n (pc := 17) (z := p1) dX2_leastBelow_17 rfl rfl ?_
  refine mr_iload_n (pc := 18) (z := p2) dX2_leastBelow_18 rfl rfl ?_
  refine mr_cVP (pc := 19) (c_X2_tieFor hw hT hp1 hp2 (vc_X9_end_1 hq0 hp1)) (gOk _ _ _ _ _) dX2_leastBelow_19 (tX2_tieFor _ _ _ _ _) ⟨wV_X2_tieFor, wL_X2_tieFor⟩ wM_X2_60 (gCX2 _ _ _ _ _) rfl (A_87 hw) rfl ⟨le_t rfl, le_t rfl⟩ ⟨le_t rfl, le_t rfl⟩ rfl (le_t rfl) fun z48 h47 => ?_
  refine mr_cSP (pc := 22) (c_X2_aimBit hw hT h47.1) (gOk _ _ _ _ _) dX2_leastBelow_22 (tX2_aimBit _ _ _ _ _) wS_X2_aimBit wM_X2_110 ⟨le_t rfl, le_t rfl⟩ ⟨le_t rfl, le_t rfl⟩ rfl (le_t rfl) fun z53 h52 => ?_
  exact mr_iret dX2_leastBelow_25 rfl (le_t rfl) (le_t rfl) hT mF.refl ⟨h52.1, trivial⟩
theorem vc_X2_leastBelow_27_1 {p3 : Int} (h0 : 32 ≤ p3) (h1 : 27 ≤ p3 ∧ p3 ≤ 27) : False := by omega
set_option maxRecDepth 4000 in
set_option maxHeartbeats 4000000 in
theorem c_X2_leastBelow_27 {l : Launch} {D : va_G} {c : Nat → ClassId} {H0 : Heap} {sa : Nat × Nat × (Nat → Int32)} {w : mW} {μ : mM} (hw : mWF w) (hT : mT w μ) {p1 : Int} (hp1 : 0 ≤ p1 ∧ p1 ≤ 9) {p2 : Int} (hp2 : (-2147483648) ≤ p2 ∧ p2 ≤ 2147483647) {p3 : Int} (hp3 : 27 ≤ p3 ∧ p3 ≤ 27) (hq0 : p1 < w.2.2.2 0) : sC (gG l D c H0 sa) mX2_leastBelow 8 0 0 [.ref 87, iv p1, iv p2, iv p3] (mk w μ) (qI w [87007] μ (fun z μ1 => ((-2147483648) ≤ z ∧ z ≤ 2147483647) ∧ True)) := by
  refine sC.of rfl (by decide) (le_t rfl) ?_
  refine mr_lvE (lv' := [(0, .ref 87), (1, iv p1), (2, iv p2), (3, iv p3)]) rfl ?_
  refine mr_iload_n (pc := 0) (z := p3) dX2_leastBelow_0 rfl rfl ?_
  refine mr_bipush (pc := 1) (z := 32) dX2_leastBelow_1 (by decide) ?_
  refine mr_icmp_ge (pc := 3) (tgt := 16) dX2_leastBelow_3 (by decide) (r32 hp3 rfl) (r32 (rR (x := 32)) rfl) (fun h => ((vc_X2_leastBelow_27_1 h hp3)).elim) (fun _ => ?_)
  refine sv_aload_n (pc := 6) dX2_leastBelow_6 rfl rfl ?_
  refine mr_iload_n (pc := 7) (z := p1) dX2_leastBelow_7 rfl rfl ?_
  refine mr_iload_n (pc := 8) (z := p2) dX2_leastBelow_8 rfl rfl ?_
  refine mr_iload_n (pc := 9) (z := p3) dX2_leastBelow_9 rfl rfl ?_
  refine mr_cVP (pc := 10) (c_X2_isSplit hw hT hp1 hp2 (rW (c := (-2147483648)) (d := 2147483647) hp3 rfl) (vc_X9_end_1 hq0 hp1)) (gOk _ _ _ _ _) dX2_leastBelow_10 (tX2_isSplit _ _ _ _ _) ⟨wV_X2_isSplit, wL_X2_isSplit⟩ wM_X2_106 (gCX2 _ _ _ _ _) rfl (A_87 hw) rfl ⟨le_t rfl, le_t rfl⟩ ⟨le_t rfl, le_t rfl⟩ rfl (le_t rfl) fun z5 h4 => ?_
  refine mr_if_ne (pc := 13) (tgt := 26) dX2_leastBelow_13 (by decide) (r32 h4.1 rfl) (fun h6 => ?_) (fun h6 => ?_)
  · have h7 : 1 ≤ z5 ∧ z5 ≤ 1 := (vc_X12_ring_24 h6 h4.1)
    refine sv_aload_n (pc := 26) dX2_leastBelow_26 rfl rfl ?_
    refine mr_iload_n (pc := 27) (z := p1) dX2_leastBelow_27 rfl rfl ?_
    refine mr_iload_n (pc := 28) (z := p2) dX2_leastBelow_28 rfl rfl ?_
    refine mr_iload_n (pc := 29) (z := p3) dX2_leastBelow_29 rfl rfl ?_
    refine mr_iconst (pc := 30) (z := 1) dX2_leastBelow_30 ?_
    refine mr_iadd (pc := 31) (x := p3) (y := 1) dX2_leastBelow_31 ?_
    refine mr_cVI (pc := 32) (c_X2_leastBelow_28 hw hT hp1 hp2 (rAdd (e := 28) (f := 28) hp3 (rR (x := 1)) rfl) (vc_X9_end_1 hq0 hp1)) (gOk _ _ _ _ _) dX2_leastBelow_32 (tX2_leastBelow _ _ _ _ _) ⟨wV_X2_leastBelow, wL_X2_leastBelow⟩ wM_X2_101 (gCX2 _ _ _ _ _) rfl (A_87 hw) rfl ⟨le_t rfl, le_t rfl⟩ ⟨le_t rfl, le_t rfl⟩ rfl (le_t rfl) fun z12 μ8 T9 F10 h11 => ?_
    refine mr_istore (pc := 35) (lv' := [(4, iv z12), (0, .ref 87), (1, iv p1), (2, iv p2), (3, iv p3)]) dX2_leastBelow_35 (by decide) rfl ?_
    refine sv_aload_n (pc := 37) dX2_leastBelow_37 rfl rfl ?_
    refine mr_iload_n (pc := 38) (z := p1) dX2_leastBelow_38 rfl rfl ?_
    refine mr_iload_n (pc := 39) (z := p2) dX2_leastBelow_39 rfl rfl ?_
    refine mr_iconst (pc := 40) (z := 1) dX2_leastBelow_40 ?_
    refine mr_bipush (pc := 41) (z := 31) dX2_leastBelow_41 (by decide) ?_
    refine mr_iload_n (pc := 43) (z := p3) dX2_leastBelow_43 rfl rfl ?_
    refine mr_isub (pc := 44) (x := 31) (y := p3) dX2_leastBelow_44 ?_
    refine mr_ishl (pc := 45) (x := 1) (y := (31 - p3)) dX2_leastBelow_45 ?_
    refine mr_gen (P := fun z => (-2147483648) ≤ z ∧ z ≤ 2147483647) (r32i _) fun z13 q14 h15 => ?_
    refine mr_ior (pc := 46) (x := p2) (y := z13) dX2_leastBelow_46 ?_
    refine mr_gen (P := fun z => (-2147483648) ≤ z ∧ z ≤ 2147483647) (r32i _) fun z16 q17 h18 => ?_
    refine mr_iload_n (pc := 47) (z := p3) dX2_leastBelow_47 rfl rfl ?_
    refine mr_iconst (pc := 48) (z := 1) dX2_leastBelow_48 ?_
    refine mr_iadd (pc := 49) (x := p3) (y := 1) dX2_leastBelow_49 ?_
    refine mr_cVI (pc := 50) (c_X2_leastBelow_28 hw T9 hp1 h18 (rAdd (e := 28) (f := 28) hp3 (rR (x := 1)) rfl) (vc_X9_end_1 hq0 hp1)) (gOk _ _ _ _ _) dX2_leastBelow_50 (tX2_leastBelow _ _ _ _ _) ⟨wV_X2_leastBelow, wL_X2_leastBelow⟩ wM_X2_101 (gCX2 _ _ _ _ _) rfl (A_87 hw) rfl ⟨le_t rfl, le_t rfl⟩ ⟨le_t rfl, le_t rfl⟩ rfl (le_t rfl) fun z23 μ19 T20 F21 h22 => ?_
    refine mr_istore (pc := 53) (lv' := [(5, iv z23), (4, iv z12), (0, .ref 87), (1, iv p1), (2, iv p2), (3, iv p3)]) dX2_leastBelow_53 (by decide) rfl ?_
    refine mr_iload (pc := 55) (z := z12) dX2_leastBelow_55 rfl ?_
    refine mr_iload (pc := 57) (z := z23) dX2_leastBelow_57 rfl ?_
    refine mr_iand (pc := 59) (x := z12) (y := z23) dX2_leastBelow_59 ?_
    refine mr_gen (P := fun z => (-2147483648) ≤ z ∧ z ≤ 2147483647) (r32i _) fun z24 q25 h26 => ?_
    refine mr_if_eq (pc := 60) (tgt := 69) dX2_leastBelow_60 (by decide) h26 (fun h27 => ?_) (fun h27 => ?_)
    · have h28 : 0 ≤ z24 ∧ z24 ≤ 0 := (vc_X12_mask_1 h27 h26)
      refine sv_aload_n (pc := 69) dX2_leastBelow_69 rfl rfl ?_
      refine sv_dup (pc := 70) dX2_leastBelow_70 rfl ?_
      refine gf_X2_7 (pc := 71) dX2_leastBelow_71 wF_X2_98 (A_87 hw) T20 fun z29 q30 h31 => ?_
      refine mr_iconst (pc := 74) (z := 1) dX2_leastBelow_74 ?_
      refine mr_iadd (pc := 75) (x := z29) (y := 1) dX2_leastBelow_75 ?_
      refine mr_wrap fun z32 h33 => ?_
      refine pf_X2_7 (pc := 76) dX2_leastBelow_76 wF_X2_98 (A_87 hw) T20 h33 fun μ34 u35 T36 => ?_
      refine mr_iload (pc := 79) (z := z12) dX2_leastBelow_79 rfl ?_
      refine mr_iload (pc := 81) (z := z23) dX2_leastBelow_81 rfl ?_
      refine mr_ior (pc := 83) (x := z12) (y := z23) dX2_leastBelow_83 ?_
      refine mr_gen (P := fun z => (-2147483648) ≤ z ∧ z ≤ 2147483647) (r32i _) fun z37 q38 h39 => ?_
      exact mr_iret dX2_leastBelow_84 rfl (le_t rfl) (le_t rfl) T36 (mF.up (mF.call (mF.call mF.refl F10 rfl) F21 rfl) (A_87 hw) u35 rfl) ⟨h39, trivial⟩
    refine mr_iload (pc := 63) (z := z12) dX2_leastBelow_63 rfl ?_
    refine mr_iload (pc := 65) (z := z23) dX2_leastBelow_65 rfl ?_
    refine mr_iand (pc := 67) (x := z12) (y := z23) dX2_leastBelow_67 ?_
    refine mr_gen (P := fun z => (-2147483648) ≤ z ∧ z ≤ 2147483647) (r32i _) fun z40 q41 h42 => ?_
    exact mr_iret dX2_leastBelow_68 rfl (le_t rfl) (le_t rfl) T20 (mF.call (mF.call mF.refl F10 rfl) F21 rfl) ⟨h42, trivial⟩
  have h43 : 0 ≤ z5 ∧ z5 ≤ 0 := (vc_X12_ring_22 h6 h4.1)
  refine sv_aload_n (pc := 16) dX2_leastBelow_16 rfl rfl ?_
  refine mr_iload_n (pc := 17) (z := p1) dX2_leastBelow_17 rfl rfl ?_
  refine mr_iload_n (pc := 18) (z := p2) dX2_leastBelow_18 rfl rfl ?_
  refine mr_cVP (pc := 19) (c_X2_tieFor hw hT hp1 hp2 (vc_X9_end_1 hq0 hp1)) (gOk _ _ _ _ _) dX2_leastBelow_19 (tX2_tieFor _ _ _ _ _) ⟨wV_X2_tieFor, wL_X2_tieFor⟩ wM_X2_60 (gCX2 _ _ _ _ _) rfl (A_87 hw) rfl ⟨le_t rfl, le_t rfl⟩ ⟨le_t rfl, le_t rfl⟩ rfl (le_t rfl) fun z48 h47 => ?_
  refine mr_cSP (pc := 22) (c_X2_aimBit hw hT h47.1) (gOk _ _ _ _ _) dX2_leastBelow_22 (tX2_aimBit _ _ _ _ _) wS_X2_aimBit wM_X2_110 ⟨le_t rfl, le_t rfl⟩ ⟨le_t rfl, le_t rfl⟩ rfl (le_t rfl) fun z53 h52 => ?_
  exact mr_iret dX2_leastBelow_25 rfl (le_t rfl) (le_t rfl) hT mF.refl ⟨h52.1, trivial⟩
theorem vc_X2_leastBelow_26_1 {p3 : Int} (h0 : 32 ≤ p3) (h1 : 26 ≤ p3 ∧ p3 ≤ 26) : False := by omega
set_option maxRecDepth 4000 in
set_option maxHeartbeats 4000000 in
theorem c_X2_leastBelow_26 {l : Launch} {D : va_G} {c : Nat → ClassId} {H0 : Heap} {sa : Nat × Nat × (Nat → Int32)} {w : mW} {μ : mM} (hw : mWF w) (hT : mT w μ) {p1 : Int} (hp1 : 0 ≤ p1 ∧ p1 ≤ 9) {p2 : Int} (hp2 : (-2147483648) ≤ p2 ∧ p2 ≤ 2147483647) {p3 : Int} (hp3 : 26 ≤ p3 ∧ p3 ≤ 26) (hq0 : p1 < w.2.2.2 0) : sC (gG l D c H0 sa) mX2_leastBelow 9 0 0 [.ref 87, iv p1, iv p2, iv p3] (mk w μ) (qI w [87007] μ (fun z μ1 => ((-2147483648) ≤ z ∧ z ≤ 2147483647) ∧ True)) := by
  refine sC.of rfl (by decide) (le_t rfl) ?_
  refine mr_lvE (lv' := [(0, .ref 87), (1, iv p1), (2, iv p2), (3, iv p3)]) rfl ?_
  refine mr_iload_n (pc := 0) (z := p3) dX2_leastBelow_0 rfl rfl ?_
  refine mr_bipush (pc := 1) (z := 32) dX2_leastBelow_1 (by decide) ?_
  refine mr_icmp_ge (pc := 3) (tgt := 16) dX2_leastBelow_3 (by decide) (r32 hp3 rfl) (r32 (rR (x := 32)) rfl) (fun h => ((vc_X2_leastBelow_26_1 h hp3)).elim) (fun _ => ?_)
  refine sv_aload_n (pc := 6) dX2_leastBelow_6 rfl rfl ?_
  refine mr_iload_n (pc := 7) (z := p1) dX2_leastBelow_7 rfl rfl ?_
  refine mr_iload_n (pc := 8) (z := p2) dX2_leastBelow_8 rfl rfl ?_
  refine mr_iload_n (pc := 9) (z := p3) dX2_leastBelow_9 rfl rfl ?_
  refine mr_cVP (pc := 10) (c_X2_isSplit hw hT hp1 hp2 (rW (c := (-2147483648)) (d := 2147483647) hp3 rfl) (vc_X9_end_1 hq0 hp1)) (gOk _ _ _ _ _) dX2_leastBelow_10 (tX2_isSplit _ _ _ _ _) ⟨wV_X2_isSplit, wL_X2_isSplit⟩ wM_X2_106 (gCX2 _ _ _ _ _) rfl (A_87 hw) rfl ⟨le_t rfl, le_t rfl⟩ ⟨le_t rfl, le_t rfl⟩ rfl (le_t rfl) fun z5 h4 => ?_
  refine mr_if_ne (pc := 13) (tgt := 26) dX2_leastBelow_13 (by decide) (r32 h4.1 rfl) (fun h6 => ?_) (fun h6 => ?_)
  · have h7 : 1 ≤ z5 ∧ z5 ≤ 1 := (vc_X12_ring_24 h6 h4.1)
    refine sv_aload_n (pc := 26) dX2_leastBelow_26 rfl rfl ?_
    refine mr_iload_n (pc := 27) (z := p1) dX2_leastBelow_27 rfl rfl ?_
    refine mr_iload_n (pc := 28) (z := p2) dX2_leastBelow_28 rfl rfl ?_
    refine mr_iload_n (pc := 29) (z := p3) dX2_leastBelow_29 rfl rfl ?_
    refine mr_iconst (pc := 30) (z := 1) dX2_leastBelow_30 ?_
    refine mr_iadd (pc := 31) (x := p3) (y := 1) dX2_leastBelow_31 ?_
    refine mr_cVI (pc := 32) (c_X2_leastBelow_27 hw hT hp1 hp2 (rAdd (e := 27) (f := 27) hp3 (rR (x := 1)) rfl) (vc_X9_end_1 hq0 hp1)) (gOk _ _ _ _ _) dX2_leastBelow_32 (tX2_leastBelow _ _ _ _ _) ⟨wV_X2_leastBelow, wL_X2_leastBelow⟩ wM_X2_101 (gCX2 _ _ _ _ _) rfl (A_87 hw) rfl ⟨le_t rfl, le_t rfl⟩ ⟨le_t rfl, le_t rfl⟩ rfl (le_t rfl) fun z12 μ8 T9 F10 h11 => ?_
    refine mr_istore (pc := 35) (lv' := [(4, iv z12), (0, .ref 87), (1, iv p1), (2, iv p2), (3, iv p3)]) dX2_leastBelow_35 (by decide) rfl ?_
    refine sv_aload_n (pc := 37) dX2_leastBelow_37 rfl rfl ?_
    refine mr_iload_n (pc := 38) (z := p1) dX2_leastBelow_38 rfl rfl ?_
    refine mr_iload_n (pc := 39) (z := p2) dX2_leastBelow_39 rfl rfl ?_
    refine mr_iconst (pc := 40) (z := 1) dX2_leastBelow_40 ?_
    refine mr_bipush (pc := 41) (z := 31) dX2_leastBelow_41 (by decide) ?_
    refine mr_iload_n (pc := 43) (z := p3) dX2_leastBelow_43 rfl rfl ?_
    refine mr_isub (pc := 44) (x := 31) (y := p3) dX2_leastBelow_44 ?_
    refine mr_ishl (pc := 45) (x := 1) (y := (31 - p3)) dX2_leastBelow_45 ?_
    refine mr_gen (P := fun z => (-2147483648) ≤ z ∧ z ≤ 2147483647) (r32i _) fun z13 q14 h15 => ?_
    refine mr_ior (pc := 46) (x := p2) (y := z13) dX2_leastBelow_46 ?_
    refine mr_gen (P := fun z => (-2147483648) ≤ z ∧ z ≤ 2147483647) (r32i _) fun z16 q17 h18 => ?_
    refine mr_iload_n (pc := 47) (z := p3) dX2_leastBelow_47 rfl rfl ?_
    refine mr_iconst (pc := 48) (z := 1) dX2_leastBelow_48 ?_
    refine mr_iadd (pc := 49) (x := p3) (y := 1) dX2_leastBelow_49 ?_
    refine mr_cVI (pc := 50) (c_X2_leastBelow_27 hw T9 hp1 h18 (rAdd (e := 27) (f := 27) hp3 (rR (x := 1)) rfl) (vc_X9_end_1 hq0 hp1)) (gOk _ _ _ _ _) dX2_leastBelow_50 (tX2_leastBelow _ _ _ _ _) ⟨wV_X2_leastBelow, wL_X2_leastBelow⟩ wM_X2_101 (gCX2 _ _ _ _ _) rfl (A_87 hw) rfl ⟨le_t rfl, le_t rfl⟩ ⟨le_t rfl, le_t rfl⟩ rfl (le_t rfl) fun z23 μ19 T20 F21 h22 => ?_
    refine mr_istore (pc := 53) (lv' := [(5, iv z23), (4, iv z12), (0, .ref 87), (1, iv p1), (2, iv p2), (3, iv p3)]) dX2_leastBelow_53 (by decide) rfl ?_
    refine mr_iload (pc := 55) (z := z12) dX2_leastBelow_55 rfl ?_
    refine mr_iload (pc := 57) (z := z23) dX2_leastBelow_57 rfl ?_
    refine mr_iand (pc := 59) (x := z12) (y := z23) dX2_leastBelow_59 ?_
    refine mr_gen (P := fun z => (-2147483648) ≤ z ∧ z ≤ 2147483647) (r32i _) fun z24 q25 h26 => ?_
    refine mr_if_eq (pc := 60) (tgt := 69) dX2_leastBelow_60 (by decide) h26 (fun h27 => ?_) (fun h27 => ?_)
    · have h28 : 0 ≤ z24 ∧ z24 ≤ 0 := (vc_X12_mask_1 h27 h26)
      refine sv_aload_n (pc := 69) dX2_leastBelow_69 rfl rfl ?_
      refine sv_dup (pc := 70) dX2_leastBelow_70 rfl ?_
      refine gf_X2_7 (pc := 71) dX2_leastBelow_71 wF_X2_98 (A_87 hw) T20 fun z29 q30 h31 => ?_
      refine mr_iconst (pc := 74) (z := 1) dX2_leastBelow_74 ?_
      refine mr_iadd (pc := 75) (x := z29) (y := 1) dX2_leastBelow_75 ?_
      refine mr_wrap fun z32 h33 => ?_
      refine pf_X2_7 (pc := 76) dX2_leastBelow_76 wF_X2_98 (A_87 hw) T20 h33 fun μ34 u35 T36 => ?_
      refine mr_iload (pc := 79) (z := z12) dX2_leastBelow_79 rfl ?_
      refine mr_iload (pc := 81) (z := z23) dX2_leastBelow_81 rfl ?_
      refine mr_ior (pc := 83) (x := z12) (y := z23) dX2_leastBelow_83 ?_
      refine mr_gen (P := fun z => (-2147483648) ≤ z ∧ z ≤ 2147483647) (r32i _) fun z37 q38 h39 => ?_
      exact mr_iret dX2_leastBelow_84 rfl (le_t rfl) (le_t rfl) T36 (mF.up (mF.call (mF.call mF.refl F10 rfl) F21 rfl) (A_87 hw) u35 rfl) ⟨h39, trivial⟩
    refine mr_iload (pc := 63) (z := z12) dX2_leastBelow_63 rfl ?_
    refine mr_iload (pc := 65) (z := z23) dX2_leastBelow_65 rfl ?_
    refine mr_iand (pc := 67) (x := z12) (y := z23) dX2_leastBelow_67 ?_
    refine mr_gen (P := fun z => (-2147483648) ≤ z ∧ z ≤ 2147483647) (r32i _) fun z40 q41 h42 => ?_
    exact mr_iret dX2_leastBelow_68 rfl (le_t rfl) (le_t rfl) T20 (mF.call (mF.call mF.refl F10 rfl) F21 rfl) ⟨h42, trivial⟩
  have h43 : 0 ≤ z5 ∧ z5 ≤ 0 := (vc_X12_ring_22 h6 h4.1)
  refine sv_aload_n (pc := 16) dX2_leastBelow_16 rfl rfl ?_
  refine mr_iload_n (pc := 17) (z := p1) dX2_leastBelow_17 rfl rfl ?_
  refine mr_iload_n (pc := 18) (z := p2) dX2_leastBelow_18 rfl rfl ?_
  refine mr_cVP (pc := 19) (c_X2_tieFor hw hT hp1 hp2 (vc_X9_end_1 hq0 hp1)) (gOk _ _ _ _ _) dX2_leastBelow_19 (tX2_tieFor _ _ _ _ _) ⟨wV_X2_tieFor, wL_X2_tieFor⟩ wM_X2_60 (gCX2 _ _ _ _ _) rfl (A_87 hw) rfl ⟨le_t rfl, le_t rfl⟩ ⟨le_t rfl, le_t rfl⟩ rfl (le_t rfl) fun z48 h47 => ?_
  refine mr_cSP (pc := 22) (c_X2_aimBit hw hT h47.1) (gOk _ _ _ _ _) dX2_leastBelow_22 (tX2_aimBit _ _ _ _ _) wS_X2_aimBit wM_X2_110 ⟨le_t rfl, le_t rfl⟩ ⟨le_t rfl, le_t rfl⟩ rfl (le_t rfl) fun z53 h52 => ?_
  exact mr_iret dX2_leastBelow_25 rfl (le_t rfl) (le_t rfl) hT mF.refl ⟨h52.1, trivial⟩
end
section
theorem vc_X2_leastBelow_25_1 {p3 : Int} (h0 : 32 ≤ p3) (h1 : 25 ≤ p3 ∧ p3 ≤ 25) : False := by omega
set_option maxRecDepth 4000 in
set_option maxHeartbeats 4000000 in
theorem c_X2_leastBelow_25 {l : Launch} {D : va_G} {c : Nat → ClassId} {H0 : Heap} {sa : Nat × Nat × (Nat → Int32)} {w : mW} {μ : mM} (hw : mWF w) (hT : mT w μ) {p1 : Int} (hp1 : 0 ≤ p1 ∧ p1 ≤ 9) {p2 : Int} (hp2 : (-2147483648) ≤ p2 ∧ p2 ≤ 2147483647) {p3 : Int} (hp3 : 25 ≤ p3 ∧ p3 ≤ 25) (hq0 : p1 < w.2.2.2 0) : sC (gG l D c H0 sa) mX2_leastBelow 10 0 0 [.ref 87, iv p1, iv p2, iv p3] (mk w μ) (qI w [87007] μ (fun z μ1 => ((-2147483648) ≤ z ∧ z ≤ 2147483647) ∧ True)) := by
  refine sC.of rfl (by decide) (le_t rfl) ?_
  refine mr_lvE (lv' := [(0, .ref 87), (1, iv p1), (2, iv p2), (3, iv p3)]) rfl ?_
  refine mr_iload_n (pc := 0) (z := p3) dX2_leastBelow_0 rfl rfl ?_
  refine mr_bipush (pc := 1) (z := 32) dX2_leastBelow_1 (by decide) ?_
  refine mr_icmp_ge (pc := 3) (tgt := 16) dX2_leastBelow_3 (by decide) (r32 hp3 rfl) (r32 (rR (x := 32)) rfl) (fun h => ((vc_X2_leastBelow_25_1 h hp3)).elim) (fun _ => ?_)
  refine sv_aload_n (pc := 6) dX2_leastBelow_6 rfl rfl ?_
  refine mr_iload_n (pc := 7) (z := p1) dX2_leastBelow_7 rfl rfl ?_
  refine mr_iload_n (pc := 8) (z := p2) dX2_leastBelow_8 rfl rfl ?_
  refine mr_iload_n (pc := 9) (z := p3) dX2_leastBelow_9 rfl rfl ?_
  refine mr_cVP (pc := 10) (c_X2_isSplit hw hT hp1 hp2 (rW (c := (-2147483648)) (d := 2147483647) hp3 rfl) (vc_X9_end_1 hq0 hp1)) (gOk _ _ _ _ _) dX2_leastBelow_10 (tX2_isSplit _ _ _ _ _) ⟨wV_X2_isSplit, wL_X2_isSplit⟩ wM_X2_106 (gCX2 _ _ _ _ _) rfl (A_87 hw) rfl ⟨le_t rfl, le_t rfl⟩ ⟨le_t rfl, le_t rfl⟩ rfl (le_t rfl) fun z5 h4 => ?_
  refine mr_if_ne (pc := 13) (tgt := 26) dX2_leastBelow_13 (by decide) (r32 h4.1 rfl) (fun h6 => ?_) (fun h6 => ?_)
  · have h7 : 1 ≤ z5 ∧ z5 ≤ 1 := (vc_X12_ring_24 h6 h4.1)
    refine sv_aload_n (pc := 26) dX2_leastBelow_26 rfl rfl ?_
    refine mr_iload_n (pc := 27) (z := p1) dX2_leastBelow_27 rfl rfl ?_
    refine mr_iload_n (pc := 28) (z := p2) dX2_leastBelow_28 rfl rfl ?_
    refine mr_iload_n (pc := 29) (z := p3) dX2_leastBelow_29 rfl rfl ?_
    refine mr_iconst (pc := 30) (z := 1) dX2_leastBelow_30 ?_
    refine mr_iadd (pc := 31) (x := p3) (y := 1) dX2_leastBelow_31 ?_
    refine mr_cVI (pc := 32) (c_X2_leastBelow_26 hw hT hp1 hp2 (rAdd (e := 26) (f := 26) hp3 (rR (x := 1)) rfl) (vc_X9_end_1 hq0 hp1)) (gOk _ _ _ _ _) dX2_leastBelow_32 (tX2_leastBelow _ _ _ _ _) ⟨wV_X2_leastBelow, wL_X2_leastBelow⟩ wM_X2_101 (gCX2 _ _ _ _ _) rfl (A_87 hw) rfl ⟨le_t rfl, le_t rfl⟩ ⟨le_t rfl, le_t rfl⟩ rfl (le_t rfl) fun z12 μ8 T9 F10 h11 => ?_
    refine mr_istore (pc := 35) (lv' := [(4, iv z12), (0, .ref 87), (1, iv p1), (2, iv p2), (3, iv p3)]) dX2_leastBelow_35 (by decide) rfl ?_
    refine sv_aload_n (pc := 37) dX2_leastBelow_37 rfl rfl ?_
    refine mr_iload_n (pc := 38) (z := p1) dX2_leastBelow_38 rfl rfl ?_
    refine mr_iload_n (pc := 39) (z := p2) dX2_leastBelow_39 rfl rfl ?_
    refine mr_iconst (pc := 40) (z := 1) dX2_leastBelow_40 ?_
    refine mr_bipush (pc := 41) (z := 31) dX2_leastBelow_41 (by decide) ?_
    refine mr_iload_n (pc := 43) (z := p3) dX2_leastBelow_43 rfl rfl ?_
    refine mr_isub (pc := 44) (x := 31) (y := p3) dX2_leastBelow_44 ?_
    refine mr_ishl (pc := 45) (x := 1) (y := (31 - p3)) dX2_leastBelow_45 ?_
    refine mr_gen (P := fun z => (-2147483648) ≤ z ∧ z ≤ 2147483647) (r32i _) fun z13 q14 h15 => ?_
    refine mr_ior (pc := 46) (x := p2) (y := z13) dX2_leastBelow_46 ?_
    refine mr_gen (P := fun z => (-2147483648) ≤ z ∧ z ≤ 2147483647) (r32i _) fun z16 q17 h18 => ?_
    refine mr_iload_n (pc := 47) (z := p3) dX2_leastBelow_47 rfl rfl ?_
    refine mr_iconst (pc := 48) (z := 1) dX2_leastBelow_48 ?_
    refine mr_iadd (pc := 49) (x := p3) (y := 1) dX2_leastBelow_49 ?_
    refine mr_cVI (pc := 50) (c_X2_leastBelow_26 hw T9 hp1 h18 (rAdd (e := 26) (f := 26) hp3 (rR (x := 1)) rfl) (vc_X9_end_1 hq0 hp1)) (gOk _ _ _ _ _) dX2_leastBelow_50 (tX2_leastBelow _ _ _ _ _) ⟨wV_X2_leastBelow, wL_X2_leastBelow⟩ wM_X2_101 (gCX2 _ _ _ _ _) rfl (A_87 hw) rfl ⟨le_t rfl, le_t rfl⟩ ⟨le_t rfl, le_t rfl⟩ rfl (le_t rfl) fun z23 μ19 T20 F21 h22 => ?_
    refine mr_istore (pc := 53) (lv' := [(5, iv z23), (4, iv z12), (0, .ref 87), (1, iv p1), (2, iv p2), (3, iv p3)]) dX2_leastBelow_53 (by decide) rfl ?_
    refine mr_iload (pc := 55) (z := z12) dX2_leastBelow_55 rfl ?_
    refine mr_iload (pc := 57) (z := z23) dX2_leastBelow_57 rfl ?_
    refine mr_iand (pc := 59) (x := z12) (y := z23) dX2_leastBelow_59 ?_
    refine mr_gen (P := fun z => (-2147483648) ≤ z ∧ z ≤ 2147483647) (r32i _) fun z24 q25 h26 => ?_
    refine mr_if_eq (pc := 60) (tgt := 69) dX2_leastBelow_60 (by decide) h26 (fun h27 => ?_) (fun h27 => ?_)
    · have h28 : 0 ≤ z24 ∧ z24 ≤ 0 := (vc_X12_mask_1 h27 h26)
      refine sv_aload_n (pc := 69) dX2_leastBelow_69 rfl rfl ?_
      refine sv_dup (pc := 70) dX2_leastBelow_70 rfl ?_
      refine gf_X2_7 (pc := 71) dX2_leastBelow_71 wF_X2_98 (A_87 hw) T20 fun z29 q30 h31 => ?_
      refine mr_iconst (pc := 74) (z := 1) dX2_leastBelow_74 ?_
      refine mr_iadd (pc := 75) (x := z29) (y := 1) dX2_leastBelow_75 ?_
      refine mr_wrap fun z32 h33 => ?_
      refine pf_X2_7 (pc := 76) dX2_leastBelow_76 wF_X2_98 (A_87 hw) T20 h33 fun μ34 u35 T36 => ?_
      refine mr_iload (pc := 79) (z := z12) dX2_leastBelow_79 rfl ?_
      refine mr_iload (pc := 81) (z := z23) dX2_leastBelow_81 rfl ?_
      refine mr_ior (pc := 83) (x := z12) (y := z23) dX2_leastBelow_83 ?_
      refine mr_gen (P := fun z => (-2147483648) ≤ z ∧ z ≤ 2147483647) (r32i _) fun z37 q38 h39 => ?_
      exact mr_iret dX2_leastBelow_84 rfl (le_t rfl) (le_t rfl) T36 (mF.up (mF.call (mF.call mF.refl F10 rfl) F21 rfl) (A_87 hw) u35 rfl) ⟨h39, trivial⟩
    refine mr_iload (pc := 63) (z := z12) dX2_leastBelow_63 rfl ?_
    refine mr_iload (pc := 65) (z := z23) dX2_leastBelow_65 rfl ?_
    refine mr_iand (pc := 67) (x := z12) (y := z23) dX2_leastBelow_67 ?_
    refine mr_gen (P := fun z => (-2147483648) ≤ z ∧ z ≤ 2147483647) (r32i _) fun z40 q41 h42 => ?_
    exact mr_iret dX2_leastBelow_68 rfl (le_t rfl) (le_t rfl) T20 (mF.call (mF.call mF.refl F10 rfl) F21 rfl) ⟨h42, trivial⟩
  have h43 : 0 ≤ z5 ∧ z5 ≤ 0 := (vc_X12_ring_22 h6 h4.1)
  refine sv_aload_n (pc := 16) dX2_leastBelow_16 rfl rfl ?_
  refine mr_iload_n (pc := 17) (z := p1) dX2_leastBelow_17 rfl rfl ?_
  refine mr_iload_n (pc := 18) (z := p2) dX2_leastBelow_18 rfl rfl ?_
  refine mr_cVP (pc := 19) (c_X2_tieFor hw hT hp1 hp2 (vc_X9_end_1 hq0 hp1)) (gOk _ _ _ _ _) dX2_leastBelow_19 (tX2_tieFor _ _ _ _ _) ⟨wV_X2_tieFor, wL_X2_tieFor⟩ wM_X2_60 (gCX2 _ _ _ _ _) rfl (A_87 hw) rfl ⟨le_t rfl, le_t rfl⟩ ⟨le_t rfl, le_t rfl⟩ rfl (le_t rfl) fun z48 h47 => ?_
  refine mr_cSP (pc := 22) (c_X2_aimBit hw hT h47.1) (gOk _ _ _ _ _) dX2_leastBelow_22 (tX2_aimBit _ _ _ _ _) wS_X2_aimBit wM_X2_110 ⟨le_t rfl, le_t rfl⟩ ⟨le_t rfl, le_t rfl⟩ rfl (le_t rfl) fun z53 h52 => ?_
  exact mr_iret dX2_leastBelow_25 rfl (le_t rfl) (le_t rfl) hT mF.refl ⟨h52.1, trivial⟩
theorem vc_X2_leastBelow_24_1 {p3 : Int} (h0 : 32 ≤ p3) (h1 : 24 ≤ p3 ∧ p3 ≤ 24) : False := by omega
set_option maxRecDepth 4000 in
set_option maxHeartbeats 4000000 in
theorem c_X2_leastBelow_24 {l : Launch} {D : va_G} {c : Nat → ClassId} {H0 : Heap} {sa : Nat × Nat × (Nat → Int32)} {w : mW} {μ : mM} (hw : mWF w) (hT : mT w μ) {p1 : Int} (hp1 : 0 ≤ p1 ∧ p1 ≤ 9) {p2 : Int} (hp2 : (-2147483648) ≤ p2 ∧ p2 ≤ 2147483647) {p3 : Int} (hp3 : 24 ≤ p3 ∧ p3 ≤ 24) (hq0 : p1 < w.2.2.2 0) : sC (gG l D c H0 sa) mX2_leastBelow 11 0 0 [.ref 87, iv p1, iv p2, iv p3] (mk w μ) (qI w [87007] μ (fun z μ1 => ((-2147483648) ≤ z ∧ z ≤ 2147483647) ∧ True)) := by
  refine sC.of rfl (by decide) (le_t rfl) ?_
  refine mr_lvE (lv' := [(0, .ref 87), (1, iv p1), (2, iv p2), (3, iv p3)]) rfl ?_
  refine mr_iload_n (pc := 0) (z := p3) dX2_leastBelow_0 rfl rfl ?_
  refine mr_bipush (pc := 1) (z := 32) dX2_leastBelow_1 (by decide) ?_
  refine mr_icmp_ge (pc := 3) (tgt := 16) dX2_leastBelow_3 (by decide) (r32 hp3 rfl) (r32 (rR (x := 32)) rfl) (fun h => ((vc_X2_leastBelow_24_1 h hp3)).elim) (fun _ => ?_)
  refine sv_aload_n (pc := 6) dX2_leastBelow_6 rfl rfl ?_
  refine mr_iload_n (pc := 7) (z := p1) dX2_leastBelow_7 rfl rfl ?_
  refine mr_iload_n (pc := 8) (z := p2) dX2_leastBelow_8 rfl rfl ?_
  refine mr_iload_n (pc := 9) (z := p3) dX2_leastBelow_9 rfl rfl ?_
  refine mr_cVP (pc := 10) (c_X2_isSplit hw hT hp1 hp2 (rW (c := (-2147483648)) (d := 2147483647) hp3 rfl) (vc_X9_end_1 hq0 hp1)) (gOk _ _ _ _ _) dX2_leastBelow_10 (tX2_isSplit _ _ _ _ _) ⟨wV_X2_isSplit, wL_X2_isSplit⟩ wM_X2_106 (gCX2 _ _ _ _ _) rfl (A_87 hw) rfl ⟨le_t rfl, le_t rfl⟩ ⟨le_t rfl, le_t rfl⟩ rfl (le_t rfl) fun z5 h4 => ?_
  refine mr_if_ne (pc := 13) (tgt := 26) dX2_leastBelow_13 (by decide) (r32 h4.1 rfl) (fun h6 => ?_) (fun h6 => ?_)
  · have h7 : 1 ≤ z5 ∧ z5 ≤ 1 := (vc_X12_ring_24 h6 h4.1)
    refine sv_aload_n (pc := 26) dX2_leastBelow_26 rfl rfl ?_
    refine mr_iload_n (pc := 27) (z := p1) dX2_leastBelow_27 rfl rfl ?_
    refine mr_iload_n (pc := 28) (z := p2) dX2_leastBelow_28 rfl rfl ?_
    refine mr_iload_n (pc := 29) (z := p3) dX2_leastBelow_29 rfl rfl ?_
    refine mr_iconst (pc := 30) (z := 1) dX2_leastBelow_30 ?_
    refine mr_iadd (pc := 31) (x := p3) (y := 1) dX2_leastBelow_31 ?_
    refine mr_cVI (pc := 32) (c_X2_leastBelow_25 hw hT hp1 hp2 (rAdd (e := 25) (f := 25) hp3 (rR (x := 1)) rfl) (vc_X9_end_1 hq0 hp1)) (gOk _ _ _ _ _) dX2_leastBelow_32 (tX2_leastBelow _ _ _ _ _) ⟨wV_X2_leastBelow, wL_X2_leastBelow⟩ wM_X2_101 (gCX2 _ _ _ _ _) rfl (A_87 hw) rfl ⟨le_t rfl, le_t rfl⟩ ⟨le_t rfl, le_t rfl⟩ rfl (le_t rfl) fun z12 μ8 T9 F10 h11 => ?_
    refine mr_istore (pc := 35) (lv' := [(4, iv z12), (0, .ref 87), (1, iv p1), (2, iv p2), (3, iv p3)]) dX2_leastBelow_35 (by decide) rfl ?_
    refine sv_aload_n (pc := 37) dX2_leastBelow_37 rfl rfl ?_
    refine mr_iload_n (pc := 38) (z := p1) dX2_leastBelow_38 rfl rfl ?_
    refine mr_iload_n (pc := 39) (z := p2) dX2_leastBelow_39 rfl rfl ?_
    refine mr_iconst (pc := 40) (z := 1) dX2_leastBelow_40 ?_
    refine mr_bipush (pc := 41) (z := 31) dX2_leastBelow_41 (by decide) ?_
    refine mr_iload_n (pc := 43) (z := p3) dX2_leastBelow_43 rfl rfl ?_
    refine mr_isub (pc := 44) (x := 31) (y := p3) dX2_leastBelow_44 ?_
    refine mr_ishl (pc := 45) (x := 1) (y := (31 - p3)) dX2_leastBelow_45 ?_
    refine mr_gen (P := fun z => (-2147483648) ≤ z ∧ z ≤ 2147483647) (r32i _) fun z13 q14 h15 => ?_
    refine mr_ior (pc := 46) (x := p2) (y := z13) dX2_leastBelow_46 ?_
    refine mr_gen (P := fun z => (-2147483648) ≤ z ∧ z ≤ 2147483647) (r32i _) fun z16 q17 h18 => ?_
    refine mr_iload_n (pc := 47) (z := p3) dX2_leastBelow_47 rfl rfl ?_
    refine mr_iconst (pc := 48) (z := 1) dX2_leastBelow_48 ?_
    refine mr_iadd (pc := 49) (x := p3) (y := 1) dX2_leastBelow_49 ?_
    refine mr_cVI (pc := 50) (c_X2_leastBelow_25 hw T9 hp1 h18 (rAdd (e := 25) (f := 25) hp3 (rR (x := 1)) rfl) (vc_X9_end_1 hq0 hp1)) (gOk _ _ _ _ _) dX2_leastBelow_50 (tX2_leastBelow _ _ _ _ _) ⟨wV_X2_leastBelow, wL_X2_leastBelow⟩ wM_X2_101 (gCX2 _ _ _ _ _) rfl (A_87 hw) rfl ⟨le_t rfl, le_t rfl⟩ ⟨le_t rfl, le_t rfl⟩ rfl (le_t rfl) fun z23 μ19 T20 F21 h22 => ?_
    refine mr_istore (pc := 53) (lv' := [(5, iv z23), (4, iv z12), (0, .ref 87), (1, iv p1), (2, iv p2), (3, iv p3)]) dX2_leastBelow_53 (by decide) rfl ?_
    refine mr_iload (pc := 55) (z := z12) dX2_leastBelow_55 rfl ?_
    refine mr_iload (pc := 57) (z := z23) dX2_leastBelow_57 rfl ?_
    refine mr_iand (pc := 59) (x := z12) (y := z23) dX2_leastBelow_59 ?_
    refine mr_gen (P := fun z => (-2147483648) ≤ z ∧ z ≤ 2147483647) (r32i _) fun z24 q25 h26 => ?_
    refine mr_if_eq (pc := 60) (tgt := 69) dX2_leastBelow_60 (by decide) h26 (fun h27 => ?_) (fun h27 => ?_)
    · have h28 : 0 ≤ z24 ∧ z24 ≤ 0 := (vc_X12_mask_1 h27 h26)
      refine sv_aload_n (pc := 69) dX2_leastBelow_69 rfl rfl ?_
      refine sv_dup (pc := 70) dX2_leastBelow_70 rfl ?_
      refine gf_X2_7 (pc := 71) dX2_leastBelow_71 wF_X2_98 (A_87 hw) T20 fun z29 q30 h31 => ?_
      refine mr_iconst (pc := 74) (z := 1) dX2_leastBelow_74 ?_
      refine mr_iadd (pc := 75) (x := z29) (y := 1) dX2_leastBelow_75 ?_
      refine mr_wrap fun z32 h33 => ?_
      refine pf_X2_7 (pc := 76) dX2_leastBelow_76 wF_X2_98 (A_87 hw) T20 h33 fun μ34 u35 T36 => ?_
      refine mr_iload (pc := 79) (z := z12) dX2_leastBelow_79 rfl ?_
      refine mr_iload (pc := 81) (z := z23) dX2_leastBelow_81 rfl ?_
      refine mr_ior (pc := 83) (x := z12) (y := z23) dX2_leastBelow_83 ?_
      refine mr_gen (P := fun z => (-2147483648) ≤ z ∧ z ≤ 2147483647) (r32i _) fun z37 q38 h39 => ?_
      exact mr_iret dX2_leastBelow_84 rfl (le_t rfl) (le_t rfl) T36 (mF.up (mF.call (mF.call mF.refl F10 rfl) F21 rfl) (A_87 hw) u35 rfl) ⟨h39, trivial⟩
    refine mr_iload (pc := 63) (z := z12) dX2_leastBelow_63 rfl ?_
    refine mr_iload (pc := 65) (z := z23) dX2_leastBelow_65 rfl ?_
    refine mr_iand (pc := 67) (x := z12) (y := z23) dX2_leastBelow_67 ?_
    refine mr_gen (P := fun z => (-2147483648) ≤ z ∧ z ≤ 2147483647) (r32i _) fun z40 q41 h42 => ?_
    exact mr_iret dX2_leastBelow_68 rfl (le_t rfl) (le_t rfl) T20 (mF.call (mF.call mF.refl F10 rfl) F21 rfl) ⟨h42, trivial⟩
  have h43 : 0 ≤ z5 ∧ z5 ≤ 0 := (vc_X12_ring_22 h6 h4.1)
  refine sv_aload_n (pc := 16) dX2_leastBelow_16 rfl rfl ?_
  refine mr_iload_n (pc := 17) (z := p1) dX2_leastBelow_17 rfl rfl ?_
  refine mr_iload_n (pc := 18) (z := p2) dX2_leastBelow_18 rfl rfl ?_
  refine mr_cVP (pc := 19) (c_X2_tieFor hw hT hp1 hp2 (vc_X9_end_1 hq0 hp1)) (gOk _ _ _ _ _) dX2_leastBelow_19 (tX2_tieFor _ _ _ _ _) ⟨wV_X2_tieFor, wL_X2_tieFor⟩ wM_X2_60 (gCX2 _ _ _ _ _) rfl (A_87 hw) rfl ⟨le_t rfl, le_t rfl⟩ ⟨le_t rfl, le_t rfl⟩ rfl (le_t rfl) fun z48 h47 => ?_
  refine mr_cSP (pc := 22) (c_X2_aimBit hw hT h47.1) (gOk _ _ _ _ _) dX2_leastBelow_22 (tX2_aimBit _ _ _ _ _) wS_X2_aimBit wM_X2_110 ⟨le_t rfl, le_t rfl⟩ ⟨le_t rfl, le_t rfl⟩ rfl (le_t rfl) fun z53 h52 => ?_
  exact mr_iret dX2_leastBelow_25 rfl (le_t rfl) (le_t rfl) hT mF.refl ⟨h52.1, trivial⟩
theorem vc_X2_leastBelow_23_1 {p3 : Int} (h0 : 32 ≤ p3) (h1 : 23 ≤ p3 ∧ p3 ≤ 23) : False := by omega
set_option maxRecDepth 4000 in
set_option maxHeartbeats 4000000 in
theorem c_X2_leastBelow_23 {l : Launch} {D : va_G} {c : Nat → ClassId} {H0 : Heap} {sa : Nat × Nat × (Nat → Int32)} {w : mW} {μ : mM} (hw : mWF w) (hT : mT w μ) {p1 : Int} (hp1 : 0 ≤ p1 ∧ p1 ≤ 9) {p2 : Int} (hp2 : (-2147483648) ≤ p2 ∧ p2 ≤ 2147483647) {p3 : Int} (hp3 : 23 ≤ p3 ∧ p3 ≤ 23) (hq0 : p1 < w.2.2.2 0) : sC (gG l D c H0 sa) mX2_leastBelow 12 0 0 [.ref 87, iv p1, iv p2, iv p3] (mk w μ) (qI w [87007] μ (fun z μ1 => ((-2147483648) ≤ z ∧ z ≤ 2147483647) ∧ True)) := by
  refine sC.of rfl (by decide) (le_t rfl) ?_
  refine mr_lvE (lv' := [(0, .ref 87), (1, iv p1), (2, iv p2), (3, iv p3)]) rfl ?_
  refine mr_iload_n (pc := 0) (z := p3) dX2_leastBelow_0 rfl rfl ?_
  refine mr_bipush (pc := 1) (z := 32) dX2_leastBelow_1 (by decide) ?_
  refine mr_icmp_ge (pc := 3) (tgt := 16) dX2_leastBelow_3 (by decide) (r32 hp3 rfl) (r32 (rR (x := 32)) rfl) (fun h => ((vc_X2_leastBelow_23_1 h hp3)).elim) (fun _ => ?_)
  refine sv_aload_n (pc := 6) dX2_leastBelow_6 rfl rfl ?_
  refine mr_iload_n (pc := 7) (z := p1) dX2_leastBelow_7 rfl rfl ?_
  refine mr_iload_n (pc := 8) (z := p2) dX2_leastBelow_8 rfl rfl ?_
  refine mr_iload_n (pc := 9) (z := p3) dX2_leastBelow_9 rfl rfl ?_
  refine mr_cVP (pc := 10) (c_X2_isSplit hw hT hp1 hp2 (rW (c := (-2147483648)) (d := 2147483647) hp3 rfl) (vc_X9_end_1 hq0 hp1)) (gOk _ _ _ _ _) dX2_leastBelow_10 (tX2_isSplit _ _ _ _ _) ⟨wV_X2_isSplit, wL_X2_isSplit⟩ wM_X2_106 (gCX2 _ _ _ _ _) rfl (A_87 hw) rfl ⟨le_t rfl, le_t rfl⟩ ⟨le_t rfl, le_t rfl⟩ rfl (le_t rfl) fun z5 h4 => ?_
  refine mr_if_ne (pc := 13) (tgt := 26) dX2_leastBelow_13 (by decide) (r32 h4.1 rfl) (fun h6 => ?_) (fun h6 => ?_)
  · have h7 : 1 ≤ z5 ∧ z5 ≤ 1 := (vc_X12_ring_24 h6 h4.1)
    refine sv_aload_n (pc := 26) dX2_leastBelow_26 rfl rfl ?_
    refine mr_iload_n (pc := 27) (z := p1) dX2_leastBelow_27 rfl rfl ?_
    refine mr_iload_n (pc := 28) (z := p2) dX2_leastBelow_28 rfl rfl ?_
    refine mr_iload_n (pc := 29) (z := p3) dX2_leastBelow_29 rfl rfl ?_
    refine mr_iconst (pc := 30) (z := 1) dX2_leastBelow_30 ?_
    refine mr_iadd (pc := 31) (x := p3) (y := 1) dX2_leastBelow_31 ?_
    refine mr_cVI (pc := 32) (c_X2_leastBelow_24 hw hT hp1 hp2 (rAdd (e := 24) (f := 24) hp3 (rR (x := 1)) rfl) (vc_X9_end_1 hq0 hp1)) (gOk _ _ _ _ _) dX2_leastBelow_32 (tX2_leastBelow _ _ _ _ _) ⟨wV_X2_leastBelow, wL_X2_leastBelow⟩ wM_X2_101 (gCX2 _ _ _ _ _) rfl (A_87 hw) rfl ⟨le_t rfl, le_t rfl⟩ ⟨le_t rfl, le_t rfl⟩ rfl (le_t rfl) fun z12 μ8 T9 F10 h11 => ?_
    refine mr_istore (pc := 35) (lv' := [(4, iv z12), (0, .ref 87), (1, iv p1), (2, iv p2), (3, iv p3)]) dX2_leastBelow_35 (by decide) rfl ?_
    refine sv_aload_n (pc := 37) dX2_leastBelow_37 rfl rfl ?_
    refine mr_iload_n (pc := 38) (z := p1) dX2_leastBelow_38 rfl rfl ?_
    refine mr_iload_n (pc := 39) (z := p2) dX2_leastBelow_39 rfl rfl ?_
    refine mr_iconst (pc := 40) (z := 1) dX2_leastBelow_40 ?_
    refine mr_bipush (pc := 41) (z := 31) dX2_leastBelow_41 (by decide) ?_
    refine mr_iload_n (pc := 43) (z := p3) dX2_leastBelow_43 rfl rfl ?_
    refine mr_isub (pc := 44) (x := 31) (y := p3) dX2_leastBelow_44 ?_
    refine mr_ishl (pc := 45) (x := 1) (y := (31 - p3)) dX2_leastBelow_45 ?_
    refine mr_gen (P := fun z => (-2147483648) ≤ z ∧ z ≤ 2147483647) (r32i _) fun z13 q14 h15 => ?_
    refine mr_ior (pc := 46) (x := p2) (y := z13) dX2_leastBelow_46 ?_
    refine mr_gen (P := fun z => (-2147483648) ≤ z ∧ z ≤ 2147483647) (r32i _) fun z16 q17 h18 => ?_
    refine mr_iload_n (pc := 47) (z := p3) dX2_leastBelow_47 rfl rfl ?_
    refine mr_iconst (pc := 48) (z := 1) dX2_leastBelow_48 ?_
    refine mr_iadd (pc := 49) (x := p3) (y := 1) dX2_leastBelow_49 ?_
    refine mr_cVI (pc := 50) (c_X2_leastBelow_24 hw T9 hp1 h18 (rAdd (e := 24) (f := 24) hp3 (rR (x := 1)) rfl) (vc_X9_end_1 hq0 hp1)) (gOk _ _ _ _ _) dX2_leastBelow_50 (tX2_leastBelow _ _ _ _ _) ⟨wV_X2_leastBelow, wL_X2_leastBelow⟩ wM_X2_101 (gCX2 _ _ _ _ _) rfl (A_87 hw) rfl ⟨le_t rfl, le_t rfl⟩ ⟨le_t rfl, le_t rfl⟩ rfl (le_t rfl) fun z23 μ19 T20 F21 h22 => ?_
    refine mr_istore (pc := 53) (lv' := [(5, iv z23), (4, iv z12), (0, .ref 87), (1, iv p1), (2, iv p2), (3, iv p3)]) dX2_leastBelow_53 (by decide) rfl ?_
    refine mr_iload (pc := 55) (z := z12) dX2_leastBelow_55 rfl ?_
    refine mr_iload (pc := 57) (z := z23) dX2_leastBelow_57 rfl ?_
    refine mr_iand (pc := 59) (x := z12) (y := z23) dX2_leastBelow_59 ?_
    refine mr_gen (P := fun z => (-2147483648) ≤ z ∧ z ≤ 2147483647) (r32i _) fun z24 q25 h26 => ?_
    refine mr_if_eq (pc := 60) (tgt := 69) dX2_leastBelow_60 (by decide) h26 (fun h27 => ?_) (fun h27 => ?_)
    · have h28 : 0 ≤ z24 ∧ z24 ≤ 0 := (vc_X12_mask_1 h27 h26)
      refine sv_aload_n (pc := 69) dX2_leastBelow_69 rfl rfl ?_
      refine sv_dup (pc := 70) dX2_leastBelow_70 rfl ?_
      refine gf_X2_7 (pc := 71) dX2_leastBelow_71 wF_X2_98 (A_87 hw) T20 fun z29 q30 h31 => ?_
      refine mr_iconst (pc := 74) (z := 1) dX2_leastBelow_74 ?_
      refine mr_iadd (pc := 75) (x := z29) (y := 1) dX2_leastBelow_75 ?_
      refine mr_wrap fun z32 h33 => ?_
      refine pf_X2_7 (pc := 76) dX2_leastBelow_76 wF_X2_98 (A_87 hw) T20 h33 fun μ34 u35 T36 => ?_
      refine mr_iload (pc := 79) (z := z12) dX2_leastBelow_79 rfl ?_
      refine mr_iload (pc := 81) (z := z23) dX2_leastBelow_81 rfl ?_
      refine mr_ior (pc := 83) (x := z12) (y := z23) dX2_leastBelow_83 ?_
      refine mr_gen (P := fun z => (-2147483648) ≤ z ∧ z ≤ 2147483647) (r32i _) fun z37 q38 h39 => ?_
      exact mr_iret dX2_leastBelow_84 rfl (le_t rfl) (le_t rfl) T36 (mF.up (mF.call (mF.call mF.refl F10 rfl) F21 rfl) (A_87 hw) u35 rfl) ⟨h39, trivial⟩
    refine mr_iload (pc := 63) (z := z12) dX2_leastBelow_63 rfl ?_
    refine mr_iload (pc := 65) (z := z23) dX2_leastBelow_65 rfl ?_
    refine mr_iand (pc := 67) (x := z12) (y := z23) dX2_leastBelow_67 ?_
    refine mr_gen (P := fun z => (-2147483648) ≤ z ∧ z ≤ 2147483647) (r32i _) fun z40 q41 h42 => ?_
    exact mr_iret dX2_leastBelow_68 rfl (le_t rfl) (le_t rfl) T20 (mF.call (mF.call mF.refl F10 rfl) F21 rfl) ⟨h42, trivial⟩
  have h43 : 0 ≤ z5 ∧ z5 ≤ 0 := (vc_X12_ring_22 h6 h4.1)
  refine sv_aload_n (pc := 16) dX2_leastBelow_16 rfl rfl ?_
  refine mr_iload_n (pc := 17) (z := p1) dX2_leastBelow_17 rfl rfl ?_
  refine mr_iload_n (pc := 18) (z := p2) dX2_leastBelow_18 rfl rfl ?_
  refine mr_cVP (pc := 19) (c_X2_tieFor hw hT hp1 hp2 (vc_X9_end_1 hq0 hp1)) (gOk _ _ _ _ _) dX2_leastBelow_19 (tX2_tieFor _ _ _ _ _) ⟨wV_X2_tieFor, wL_X2_tieFor⟩ wM_X2_60 (gCX2 _ _ _ _ _) rfl (A_87 hw) rfl ⟨le_t rfl, le_t rfl⟩ ⟨le_t rfl, le_t rfl⟩ rfl (le_t rfl) fun z48 h47 => ?_
  refine mr_cSP (pc := 22) (c_X2_aimBit hw hT h47.1) (gOk _ _ _ _ _) dX2_leastBelow_22 (tX2_aimBit _ _ _ _ _) wS_X2_aimBit wM_X2_110 ⟨le_t rfl, le_t rfl⟩ ⟨le_t rfl, le_t rfl⟩ rfl (le_t rfl) fun z53 h52 => ?_
  exact mr_iret dX2_leastBelow_25 rfl (le_t rfl) (le_t rfl) hT mF.refl ⟨h52.1, trivial⟩
theorem vc_X2_leastBelow_22_1 {p3 : Int} (h0 : 32 ≤ p3) (h1 : 22 ≤ p3 ∧ p3 ≤ 22) : False := by omega
set_option maxRecDepth 4000 in
set_option maxHeartbeats 4000000 in
theorem c_X2_leastBelow_22 {l : Launch} {D : va_G} {c : Nat → ClassId} {H0 : Heap} {sa : Nat × Nat × (Nat → Int32)} {w : mW} {μ : mM} (hw : mWF w) (hT : mT w μ) {p1 : Int} (hp1 : 0 ≤ p1 ∧ p1 ≤ 9) {p2 : Int} (hp2 : (-2147483648) ≤ p2 ∧ p2 ≤ 2147483647) {p3 : Int} (hp3 : 22 ≤ p3 ∧ p3 ≤ 22) (hq0 : p1 < w.2.2.2 0) : sC (gG l D c H0 sa) mX2_leastBelow 13 0 0 [.ref 87, iv p1, iv p2, iv p3] (mk w μ) (qI w [87007] μ (fun z μ1 => ((-2147483648) ≤ z ∧ z ≤ 2147483647) ∧ True)) := by
  refine sC.of rfl (by decide) (le_t rfl) ?_
  refine mr_lvE (lv' := [(0, .ref 87), (1, iv p1), (2, iv p2), (3, iv p3)]) rfl ?_
  refine mr_iload_n (pc := 0) (z := p3) dX2_leastBelow_0 rfl rfl ?_
  refine mr_bipush (pc := 1) (z := 32) dX2_leastBelow_1 (by decide) ?_
  refine mr_icmp_ge (pc := 3) (tgt := 16) dX2_leastBelow_3 (by decide) (r32 hp3 rfl) (r32 (rR (x := 32)) rfl) (fun h => ((vc_X2_leastBelow_22_1 h hp3)).elim) (fun _ => ?_)
  refine sv_aload_n (pc := 6) dX2_leastBelow_6 rfl rfl ?_
  refine mr_iload_n (pc := 7) (z := p1) dX2_leastBelow_7 rfl rfl ?_
  refine mr_iload_n (pc := 8) (z := p2) dX2_leastBelow_8 rfl rfl ?_
  refine mr_iload_n (pc := 9) (z := p3) dX2_leastBelow_9 rfl rfl ?_
  refine mr_cVP (pc := 10) (c_X2_isSplit hw hT hp1 hp2 (rW (c := (-2147483648)) (d := 2147483647) hp3 rfl) (vc_X9_end_1 hq0 hp1)) (gOk _ _ _ _ _) dX2_leastBelow_10 (tX2_isSplit _ _ _ _ _) ⟨wV_X2_isSplit, wL_X2_isSplit⟩ wM_X2_106 (gCX2 _ _ _ _ _) rfl (A_87 hw) rfl ⟨le_t rfl, le_t rfl⟩ ⟨le_t rfl, le_t rfl⟩ rfl (le_t rfl) fun z5 h4 => ?_
  refine mr_if_ne (pc := 13) (tgt := 26) dX2_leastBelow_13 (by decide) (r32 h4.1 rfl) (fun h6 => ?_) (fun h6 => ?_)
  · have h7 : 1 ≤ z5 ∧ z5 ≤ 1 := (vc_X12_ring_24 h6 h4.1)
    refine sv_aload_n (pc := 26) dX2_leastBelow_26 rfl rfl ?_
    refine mr_iload_n (pc := 27) (z := p1) dX2_leastBelow_27 rfl rfl ?_
    refine mr_iload_n (pc := 28) (z := p2) dX2_leastBelow_28 rfl rfl ?_
    refine mr_iload_n (pc := 29) (z := p3) dX2_leastBelow_29 rfl rfl ?_
    refine mr_iconst (pc := 30) (z := 1) dX2_leastBelow_30 ?_
    refine mr_iadd (pc := 31) (x := p3) (y := 1) dX2_leastBelow_31 ?_
    refine mr_cVI (pc := 32) (c_X2_leastBelow_23 hw hT hp1 hp2 (rAdd (e := 23) (f := 23) hp3 (rR (x := 1)) rfl) (vc_X9_end_1 hq0 hp1)) (gOk _ _ _ _ _) dX2_leastBelow_32 (tX2_leastBelow _ _ _ _ _) ⟨wV_X2_leastBelow, wL_X2_leastBelow⟩ wM_X2_101 (gCX2 _ _ _ _ _) rfl (A_87 hw) rfl ⟨le_t rfl, le_t rfl⟩ ⟨le_t rfl, le_t rfl⟩ rfl (le_t rfl) fun z12 μ8 T9 F10 h11 => ?_
    refine mr_istore (pc := 35) (lv' := [(4, iv z12), (0, .ref 87), (1, iv p1), (2, iv p2), (3, iv p3)]) dX2_leastBelow_35 (by decide) rfl ?_
    refine sv_aload_n (pc := 37) dX2_leastBelow_37 rfl rfl ?_
    refine mr_iload_n (pc := 38) (z := p1) dX2_leastBelow_38 rfl rfl ?_
    refine mr_iload_n (pc := 39) (z := p2) dX2_leastBelow_39 rfl rfl ?_
    refine mr_iconst (pc := 40) (z := 1) dX2_leastBelow_40 ?_
    refine mr_bipush (pc := 41) (z := 31) dX2_leastBelow_41 (by decide) ?_
    refine mr_iload_n (pc := 43) (z := p3) dX2_leastBelow_43 rfl rfl ?_
    refine mr_isub (pc := 44) (x := 31) (y := p3) dX2_leastBelow_44 ?_
    refine mr_ishl (pc := 45) (x := 1) (y := (31 - p3)) dX2_leastBelow_45 ?_
    refine mr_gen (P := fun z => (-2147483648) ≤ z ∧ z ≤ 2147483647) (r32i _) fun z13 q14 h15 => ?_
    refine mr_ior (pc := 46) (x := p2) (y := z13) dX2_leastBelow_46 ?_
    refine mr_gen (P := fun z => (-2147483648) ≤ z ∧ z ≤ 2147483647) (r32i _) fun z16 q17 h18 => ?_
    refine mr_iload_n (pc := 47) (z := p3) dX2_leastBelow_47 rfl rfl ?_
    refine mr_iconst (pc := 48) (z := 1) dX2_leastBelow_48 ?_
    refine mr_iadd (pc := 49) (x := p3) (y := 1) dX2_leastBelow_49 ?_
    refine mr_cVI (pc := 50) (c_X2_leastBelow_23 hw T9 hp1 h18 (rAdd (e := 23) (f := 23) hp3 (rR (x := 1)) rfl) (vc_X9_end_1 hq0 hp1)) (gOk _ _ _ _ _) dX2_leastBelow_50 (tX2_leastBelow _ _ _ _ _) ⟨wV_X2_leastBelow, wL_X2_leastBelow⟩ wM_X2_101 (gCX2 _ _ _ _ _) rfl (A_87 hw) rfl ⟨le_t rfl, le_t rfl⟩ ⟨le_t rfl, le_t rfl⟩ rfl (le_t rfl) fun z23 μ19 T20 F21 h22 => ?_
    refine mr_istore (pc := 53) (lv' := [(5, iv z23), (4, iv z12), (0, .ref 87), (1, iv p1), (2, iv p2), (3, iv p3)]) dX2_leastBelow_53 (by decide) rfl ?_
    refine mr_iload (pc := 55) (z := z12) dX2_leastBelow_55 rfl ?_
    refine mr_iload (pc := 57) (z := z23) dX2_leastBelow_57 rfl ?_
    refine mr_iand (pc := 59) (x := z12) (y := z23) dX2_leastBelow_59 ?_
    refine mr_gen (P := fun z => (-2147483648) ≤ z ∧ z ≤ 2147483647) (r32i _) fun z24 q25 h26 => ?_
    refine mr_if_eq (pc := 60) (tgt := 69) dX2_leastBelow_60 (by decide) h26 (fun h27 => ?_) (fun h27 => ?_)
    · have h28 : 0 ≤ z24 ∧ z24 ≤ 0 := (vc_X12_mask_1 h27 h26)
      refine sv_aload_n (pc := 69) dX2_leastBelow_69 rfl rfl ?_
      refine sv_dup (pc := 70) dX2_leastBelow_70 rfl ?_
      refine gf_X2_7 (pc := 71) dX2_leastBelow_71 wF_X2_98 (A_87 hw) T20 fun z29 q30 h31 => ?_
      refine mr_iconst (pc := 74) (z := 1) dX2_leastBelow_74 ?_
      refine mr_iadd (pc := 75) (x := z29) (y := 1) dX2_leastBelow_75 ?_
      refine mr_wrap fun z32 h33 => ?_
      refine pf_X2_7 (pc := 76) dX2_leastBelow_76 wF_X2_98 (A_87 hw) T20 h33 fun μ34 u35 T36 => ?_
      refine mr_iload (pc := 79) (z := z12) dX2_leastBelow_79 rfl ?_
      refine mr_iload (pc := 81) (z := z23) dX2_leastBelow_81 rfl ?_
      refine mr_ior (pc := 83) (x := z12) (y := z23) dX2_leastBelow_83 ?_
      refine mr_gen (P := fun z => (-2147483648) ≤ z ∧ z ≤ 2147483647) (r32i _) fun z37 q38 h39 => ?_
      exact mr_iret dX2_leastBelow_84 rfl (le_t rfl) (le_t rfl) T36 (mF.up (mF.call (mF.call mF.refl F10 rfl) F21 rfl) (A_87 hw) u35 rfl) ⟨h39, trivial⟩
    refine mr_iload (pc := 63) (z := z12) dX2_leastBelow_63 rfl ?_
    refine mr_iload (pc := 65) (z := z23) dX2_leastBelow_65 rfl ?_
    refine mr_iand (pc := 67) (x := z12) (y := z23) dX2_leastBelow_67 ?_
    refine mr_gen (P := fun z => (-2147483648) ≤ z ∧ z ≤ 2147483647) (r32i _) fun z40 q41 h42 => ?_
    exact mr_iret dX2_leastBelow_68 rfl (le_t rfl) (le_t rfl) T20 (mF.call (mF.call mF.refl F10 rfl) F21 rfl) ⟨h42, trivial⟩
  have h43 : 0 ≤ z5 ∧ z5 ≤ 0 := (vc_X12_ring_22 h6 h4.1)
  refine sv_aload_n (pc := 16) dX2_leastBelow_16 rfl rfl ?_
  refine mr_iload_n (pc := 17) (z := p1) dX2_leastBelow_17 rfl rfl ?_
  refine mr_iload_n (pc := 18) (z := p2) dX2_leastBelow_18 rfl rfl ?_
  refine mr_cVP (pc := 19) (c_X2_tieFor hw hT hp1 hp2 (vc_X9_end_1 hq0 hp1)) (gOk _ _ _ _ _) dX2_leastBelow_19 (tX2_tieFor _ _ _ _ _) ⟨wV_X2_tieFor, wL_X2_tieFor⟩ wM_X2_60 (gCX2 _ _ _ _ _) rfl (A_87 hw) rfl ⟨le_t rfl, le_t rfl⟩ ⟨le_t rfl, le_t rfl⟩ rfl (le_t rfl) fun z48 h47 => ?_
  refine mr_cSP (pc := 22) (c_X2_aimBit hw hT h47.1) (gOk _ _ _ _ _) dX2_leastBelow_22 (tX2_aimBit _ _ _ _ _) wS_X2_aimBit wM_X2_110 ⟨le_t rfl, le_t rfl⟩ ⟨le_t rfl, le_t rfl⟩ rfl (le_t rfl) fun z53 h52 => ?_
  exact mr_iret dX2_leastBelow_25 rfl (le_t rfl) (le_t rfl) hT mF.refl ⟨h52.1, trivial⟩
theorem vc_X2_leastBelow_21_1 {p3 : Int} (h0 : 32 ≤ p3) (h1 : 21 ≤ p3 ∧ p3 ≤ 21) : False := by omega
set_option maxRecDepth 4000 in
set_option maxHeartbeats 4000000 in
theorem c_X2_leastBelow_21 {l : Launch} {D : va_G} {c : Nat → ClassId} {H0 : Heap} {sa : Nat × Nat × (Nat → Int32)} {w : mW} {μ : mM} (hw : mWF w) (hT : mT w μ) {p1 : Int} (hp1 : 0 ≤ p1 ∧ p1 ≤ 9) {p2 : Int} (hp2 : (-2147483648) ≤ p2 ∧ p2 ≤ 2147483647) {p3 : Int} (hp3 : 21 ≤ p3 ∧ p3 ≤ 21) (hq0 : p1 < w.2.2.2 0) : sC (gG l D c H0 sa) mX2_leastBelow 14 0 0 [.ref 87, iv p1, iv p2, iv p3] (mk w μ) (qI w [87007] μ (fun z μ1 => ((-2147483648) ≤ z ∧ z ≤ 2147483647) ∧ True)) := by
  refine sC.of rfl (by decide) (le_t rfl) ?_
  refine mr_lvE (lv' := [(0, .ref 87), (1, iv p1), (2, iv p2), (3, iv p3)]) rfl ?_
  refine mr_iload_n (pc := 0) (z := p3) dX2_leastBelow_0 rfl rfl ?_
  refine mr_bipush (pc := 1) (z := 32) dX2_leastBelow_1 (by decide) ?_
  refine mr_icmp_ge (pc := 3) (tgt := 16) dX2_leastBelow_3 (by decide) (r32 hp3 rfl) (r32 (rR (x := 32)) rfl) (fun h => ((vc_X2_leastBelow_21_1 h hp3)).elim) (fun _ => ?_)
  refine sv_aload_n (pc := 6) dX2_leastBelow_6 rfl rfl ?_
  refine mr_iload_n (pc := 7) (z := p1) dX2_leastBelow_7 rfl rfl ?_
  refine mr_iload_n (pc := 8) (z := p2) dX2_leastBelow_8 rfl rfl ?_
  refine mr_iload_n (pc := 9) (z := p3) dX2_leastBelow_9 rfl rfl ?_
  refine mr_cVP (pc := 10) (c_X2_isSplit hw hT hp1 hp2 (rW (c := (-2147483648)) (d := 2147483647) hp3 rfl) (vc_X9_end_1 hq0 hp1)) (gOk _ _ _ _ _) dX2_leastBelow_10 (tX2_isSplit _ _ _ _ _) ⟨wV_X2_isSplit, wL_X2_isSplit⟩ wM_X2_106 (gCX2 _ _ _ _ _) rfl (A_87 hw) rfl ⟨le_t rfl, le_t rfl⟩ ⟨le_t rfl, le_t rfl⟩ rfl (le_t rfl) fun z5 h4 => ?_
  refine mr_if_ne (pc := 13) (tgt := 26) dX2_leastBelow_13 (by decide) (r32 h4.1 rfl) (fun h6 => ?_) (fun h6 => ?_)
  · have h7 : 1 ≤ z5 ∧ z5 ≤ 1 := (vc_X12_ring_24 h6 h4.1)
    refine sv_aload_n (pc := 26) dX2_leastBelow_26 rfl rfl ?_
    refine mr_iload_n (pc := 27) (z := p1) dX2_leastBelow_27 rfl rfl ?_
    refine mr_iload_n (pc := 28) (z := p2) dX2_leastBelow_28 rfl rfl ?_
    refine mr_iload_n (pc := 29) (z := p3) dX2_leastBelow_29 rfl rfl ?_
    refine mr_iconst (pc := 30) (z := 1) dX2_leastBelow_30 ?_
    refine mr_iadd (pc := 31) (x := p3) (y := 1) dX2_leastBelow_31 ?_
    refine mr_cVI (pc := 32) (c_X2_leastBelow_22 hw hT hp1 hp2 (rAdd (e := 22) (f := 22) hp3 (rR (x := 1)) rfl) (vc_X9_end_1 hq0 hp1)) (gOk _ _ _ _ _) dX2_leastBelow_32 (tX2_leastBelow _ _ _ _ _) ⟨wV_X2_leastBelow, wL_X2_leastBelow⟩ wM_X2_101 (gCX2 _ _ _ _ _) rfl (A_87 hw) rfl ⟨le_t rfl, le_t rfl⟩ ⟨le_t rfl, le_t rfl⟩ rfl (le_t rfl) fun z12 μ8 T9 F10 h11 => ?_
    refine mr_istore (pc := 35) (lv' := [(4, iv z12), (0, .ref 87), (1, iv p1), (2, iv p2), (3, iv p3)]) dX2_leastBelow_35 (by decide) rfl ?_
    refine sv_aload_n (pc := 37) dX2_leastBelow_37 rfl rfl ?_
    refine mr_iload_n (pc := 38) (z := p1) dX2_leastBelow_38 rfl rfl ?_
    refine mr_iload_n (pc := 39) (z := p2) dX2_leastBelow_39 rfl rfl ?_
    refine mr_iconst (pc := 40) (z := 1) dX2_leastBelow_40 ?_
    refine mr_bipush (pc := 41) (z := 31) dX2_leastBelow_41 (by decide) ?_
    refine mr_iload_n (pc := 43) (z := p3) dX2_leastBelow_43 rfl rfl ?_
    refine mr_isub (pc := 44) (x := 31) (y := p3) dX2_leastBelow_44 ?_
    refine mr_ishl (pc := 45) (x := 1) (y := (31 - p3)) dX2_leastBelow_45 ?_
    refine mr_gen (P := fun z => (-2147483648) ≤ z ∧ z ≤ 2147483647) (r32i _) fun z13 q14 h15 => ?_
    refine mr_ior (pc := 46) (x := p2) (y := z13) dX2_leastBelow_46 ?_
    refine mr_gen (P := fun z => (-2147483648) ≤ z ∧ z ≤ 2147483647) (r32i _) fun z16 q17 h18 => ?_
    refine mr_iload_n (pc := 47) (z := p3) dX2_leastBelow_47 rfl rfl ?_
    refine mr_iconst (pc := 48) (z := 1) dX2_leastBelow_48 ?_
    refine mr_iadd (pc := 49) (x := p3) (y := 1) dX2_leastBelow_49 ?_
    refine mr_cVI (pc := 50) (c_X2_leastBelow_22 hw T9 hp1 h18 (rAdd (e := 22) (f := 22) hp3 (rR (x := 1)) rfl) (vc_X9_end_1 hq0 hp1)) (gOk _ _ _ _ _) dX2_leastBelow_50 (tX2_leastBelow _ _ _ _ _) ⟨wV_X2_leastBelow, wL_X2_leastBelow⟩ wM_X2_101 (gCX2 _ _ _ _ _) rfl (A_87 hw) rfl ⟨le_t rfl, le_t rfl⟩ ⟨le_t rfl, le_t rfl⟩ rfl (le_t rfl) fun z23 μ19 T20 F21 h22 => ?_
    refine mr_istore (pc := 53) (lv' := [(5, iv z23), (4, iv z12), (0, .ref 87), (1, iv p1), (2, iv p2), (3, iv p3)]) dX2_leastBelow_53 (by decide) rfl ?_
    refine mr_iload (pc := 55) (z := z12) dX2_leastBelow_55 rfl ?_
    refine mr_iload (pc := 57) (z := z23) dX2_leastBelow_57 rfl ?_
    refine mr_iand (pc := 59) (x := z12) (y := z23) dX2_leastBelow_59 ?_
    refine mr_gen (P := fun z => (-2147483648) ≤ z ∧ z ≤ 2147483647) (r32i _) fun z24 q25 h26 => ?_
    refine mr_if_eq (pc := 60) (tgt := 69) dX2_leastBelow_60 (by decide) h26 (fun h27 => ?_) (fun h27 => ?_)
    · have h28 : 0 ≤ z24 ∧ z24 ≤ 0 := (vc_X12_mask_1 h27 h26)
      refine sv_aload_n (pc := 69) dX2_leastBelow_69 rfl rfl ?_
      refine sv_dup (pc := 70) dX2_leastBelow_70 rfl ?_
      refine gf_X2_7 (pc := 71) dX2_leastBelow_71 wF_X2_98 (A_87 hw) T20 fun z29 q30 h31 => ?_
      refine mr_iconst (pc := 74) (z := 1) dX2_leastBelow_74 ?_
      refine mr_iadd (pc := 75) (x := z29) (y := 1) dX2_leastBelow_75 ?_
      refine mr_wrap fun z32 h33 => ?_
      refine pf_X2_7 (pc := 76) dX2_leastBelow_76 wF_X2_98 (A_87 hw) T20 h33 fun μ34 u35 T36 => ?_
      refine mr_iload (pc := 79) (z := z12) dX2_leastBelow_79 rfl ?_
      refine mr_iload (pc := 81) (z := z23) dX2_leastBelow_81 rfl ?_
      refine mr_ior (pc := 83) (x := z12) (y := z23) dX2_leastBelow_83 ?_
      refine mr_gen (P := fun z => (-2147483648) ≤ z ∧ z ≤ 2147483647) (r32i _) fun z37 q38 h39 => ?_
      exact mr_iret dX2_leastBelow_84 rfl (le_t rfl) (le_t rfl) T36 (mF.up (mF.call (mF.call mF.refl F10 rfl) F21 rfl) (A_87 hw) u35 rfl) ⟨h39, trivial⟩
    refine mr_iload (pc := 63) (z := z12) dX2_leastBelow_63 rfl ?_
    refine mr_iload (pc := 65) (z := z23) dX2_leastBelow_65 rfl ?_
    refine mr_iand (pc := 67) (x := z12) (y := z23) dX2_leastBelow_67 ?_
    refine mr_gen (P := fun z => (-2147483648) ≤ z ∧ z ≤ 2147483647) (r32i _) fun z40 q41 h42 => ?_
    exact mr_iret dX2_leastBelow_68 rfl (le_t rfl) (le_t rfl) T20 (mF.call (mF.call mF.refl F10 rfl) F21 rfl) ⟨h42, trivial⟩
  have h43 : 0 ≤ z5 ∧ z5 ≤ 0 := (vc_X12_ring_22 h6 h4.1)
  refine sv_aload_n (pc := 16) dX2_leastBelow_16 rfl rfl ?_
  refine mr_iload_n (pc := 17) (z := p1) dX2_leastBelow_17 rfl rfl ?_
  refine mr_iload_n (pc := 18) (z := p2) dX2_leastBelow_18 rfl rfl ?_
  refine mr_cVP (pc := 19) (c_X2_tieFor hw hT hp1 hp2 (vc_X9_end_1 hq0 hp1)) (gOk _ _ _ _ _) dX2_leastBelow_19 (tX2_tieFor _ _ _ _ _) ⟨wV_X2_tieFor, wL_X2_tieFor⟩ wM_X2_60 (gCX2 _ _ _ _ _) rfl (A_87 hw) rfl ⟨le_t rfl, le_t rfl⟩ ⟨le_t rfl, le_t rfl⟩ rfl (le_t rfl) fun z48 h47 => ?_
  refine mr_cSP (pc := 22) (c_X2_aimBit hw hT h47.1) (gOk _ _ _ _ _) dX2_leastBelow_22 (tX2_aimBit _ _ _ _ _) wS_X2_aimBit wM_X2_110 ⟨le_t rfl, le_t rfl⟩ ⟨le_t rfl, le_t rfl⟩ rfl (le_t rfl) fun z53 h52 => ?_
  exact mr_iret dX2_leastBelow_25 rfl (le_t rfl) (le_t rfl) hT mF.refl ⟨h52.1, trivial⟩
theorem vc_X2_leastBelow_20_1 {p3 : Int} (h0 : 32 ≤ p3) (h1 : 20 ≤ p3 ∧ p3 ≤ 20) : False := by omega
set_option maxRecDepth 4000 in
set_option maxHeartbeats 4000000 in
theorem c_X2_leastBelow_20 {l : Launch} {D : va_G} {c : Nat → ClassId} {H0 : Heap} {sa : Nat × Nat × (Nat → Int32)} {w : mW} {μ : mM} (hw : mWF w) (hT : mT w μ) {p1 : Int} (hp1 : 0 ≤ p1 ∧ p1 ≤ 9) {p2 : Int} (hp2 : (-2147483648) ≤ p2 ∧ p2 ≤ 2147483647) {p3 : Int} (hp3 : 20 ≤ p3 ∧ p3 ≤ 20) (hq0 : p1 < w.2.2.2 0) : sC (gG l D c H0 sa) mX2_leastBelow 15 0 0 [.ref 87, iv p1, iv p2, iv p3] (mk w μ) (qI w [87007] μ (fun z μ1 => ((-2147483648) ≤ z ∧ z ≤ 2147483647) ∧ True)) := by
  refine sC.of rfl (by decide) (le_t rfl) ?_
  refine mr_lvE (lv' := [(0, .ref 87), (1, iv p1), (2, iv p2), (3, iv p3)]) rfl ?_
  refine mr_iload_n (pc := 0) (z := p3) dX2_leastBelow_0 rfl rfl ?_
  refine mr_bipush (pc := 1) (z := 32) dX2_leastBelow_1 (by decide) ?_
  refine mr_icmp_ge (pc := 3) (tgt := 16) dX2_leastBelow_3 (by decide) (r32 hp3 rfl) (r32 (rR (x := 32)) rfl) (fun h => ((vc_X2_leastBelow_20_1 h hp3)).elim) (fun _ => ?_)
  refine sv_aload_n (pc := 6) dX2_leastBelow_6 rfl rfl ?_
  refine mr_iload_n (pc := 7) (z := p1) dX2_leastBelow_7 rfl rfl ?_
  refine mr_iload_n (pc := 8) (z := p2) dX2_leastBelow_8 rfl rfl ?_
  refine mr_iload_n (pc := 9) (z := p3) dX2_leastBelow_9 rfl rfl ?_
  refine mr_cVP (pc := 10) (c_X2_isSplit hw hT hp1 hp2 (rW (c := (-2147483648)) (d := 2147483647) hp3 rfl) (vc_X9_end_1 hq0 hp1)) (gOk _ _ _ _ _) dX2_leastBelow_10 (tX2_isSplit _ _ _ _ _) ⟨wV_X2_isSplit, wL_X2_isSplit⟩ wM_X2_106 (gCX2 _ _ _ _ _) rfl (A_87 hw) rfl ⟨le_t rfl, le_t rfl⟩ ⟨le_t rfl, le_t rfl⟩ rfl (le_t rfl) fun z5 h4 => ?_
  refine mr_if_ne (pc := 13) (tgt := 26) dX2_leastBelow_13 (by decide) (r32 h4.1 rfl) (fun h6 => ?_) (fun h6 => ?_)
  · have h7 : 1 ≤ z5 ∧ z5 ≤ 1 := (vc_X12_ring_24 h6 h4.1)
    refine sv_aload_n (pc := 26) dX2_leastBelow_26 rfl rfl ?_
    refine mr_iload_n (pc := 27) (z := p1) dX2_leastBelow_27 rfl rfl ?_
    refine mr_iload_n (pc := 28) (z := p2) dX2_leastBelow_28 rfl rfl ?_
    refine mr_iload_n (pc := 29) (z := p3) dX2_leastBelow_29 rfl rfl ?_
    refine mr_iconst (pc := 30) (z := 1) dX2_leastBelow_30 ?_
    refine mr_iadd (pc := 31) (x := p3) (y := 1) dX2_leastBelow_31 ?_
    refine mr_cVI (pc := 32) (c_X2_leastBelow_21 hw hT hp1 hp2 (rAdd (e := 21) (f := 21) hp3 (rR (x := 1)) rfl) (vc_X9_end_1 hq0 hp1)) (gOk _ _ _ _ _) dX2_leastBelow_32 (tX2_leastBelow _ _ _ _ _) ⟨wV_X2_leastBelow, wL_X2_leastBelow⟩ wM_X2_101 (gCX2 _ _ _ _ _) rfl (A_87 hw) rfl ⟨le_t rfl, le_t rfl⟩ ⟨le_t rfl, le_t rfl⟩ rfl (le_t rfl) fun z12 μ8 T9 F10 h11 => ?_
    refine mr_istore (pc := 35) (lv' := [(4, iv z12), (0, .ref 87), (1, iv p1), (2, iv p2), (3, iv p3)]) dX2_leastBelow_35 (by decide) rfl ?_
    refine sv_aload_n (pc := 37) dX2_leastBelow_37 rfl rfl ?_
    refine mr_iload_n (pc := 38) (z := p1) dX2_leastBelow_38 rfl rfl ?_
    refine mr_iload_n (pc := 39) (z := p2) dX2_leastBelow_39 rfl rfl ?_
    refine mr_iconst (pc := 40) (z := 1) dX2_leastBelow_40 ?_
    refine mr_bipush (pc := 41) (z := 31) dX2_leastBelow_41 (by decide) ?_
    refine mr_iload_n (pc := 43) (z := p3) dX2_leastBelow_43 rfl rfl ?_
    refine mr_isub (pc := 44) (x := 31) (y := p3) dX2_leastBelow_44 ?_
    refine mr_ishl (pc := 45) (x := 1) (y := (31 - p3)) dX2_leastBelow_45 ?_
    refine mr_gen (P := fun z => (-2147483648) ≤ z ∧ z ≤ 2147483647) (r32i _) fun z13 q14 h15 => ?_
    refine mr_ior (pc := 46) (x := p2) (y := z13) dX2_leastBelow_46 ?_
    refine mr_gen (P := fun z => (-2147483648) ≤ z ∧ z ≤ 2147483647) (r32i _) fun z16 q17 h18 => ?_
    refine mr_iload_n (pc := 47) (z := p3) dX2_leastBelow_47 rfl rfl ?_
    refine mr_iconst (pc := 48) (z := 1) dX2_leastBelow_48 ?_
    refine mr_iadd (pc := 49) (x := p3) (y := 1) dX2_leastBelow_49 ?_
    refine mr_cVI (pc := 50) (c_X2_leastBelow_21 hw T9 hp1 h18 (rAdd (e := 21) (f := 21) hp3 (rR (x := 1)) rfl) (vc_X9_end_1 hq0 hp1)) (gOk _ _ _ _ _) dX2_leastBelow_50 (tX2_leastBelow _ _ _ _ _) ⟨wV_X2_leastBelow, wL_X2_leastBelow⟩ wM_X2_101 (gCX2 _ _ _ _ _) rfl (A_87 hw) rfl ⟨le_t rfl, le_t rfl⟩ ⟨le_t rfl, le_t rfl⟩ rfl (le_t rfl) fun z23 μ19 T20 F21 h22 => ?_
    refine mr_istore (pc := 53) (lv' := [(5, iv z23), (4, iv z12), (0, .ref 87), (1, iv p1), (2, iv p2), (3, iv p3)]) dX2_leastBelow_53 (by decide) rfl ?_
    refine mr_iload (pc := 55) (z := z12) dX2_leastBelow_55 rfl ?_
    refine mr_iload (pc := 57) (z := z23) dX2_leastBelow_57 rfl ?_
    refine mr_iand (pc := 59) (x := z12) (y := z23) dX2_leastBelow_59 ?_
    refine mr_gen (P := fun z => (-2147483648) ≤ z ∧ z ≤ 2147483647) (r32i _) fun z24 q25 h26 => ?_
    refine mr_if_eq (pc := 60) (tgt := 69) dX2_leastBelow_60 (by decide) h26 (fun h27 => ?_) (fun h27 => ?_)
    · have h28 : 0 ≤ z24 ∧ z24 ≤ 0 := (vc_X12_mask_1 h27 h26)
      refine sv_aload_n (pc := 69) dX2_leastBelow_69 rfl rfl ?_
      refine sv_dup (pc := 70) dX2_leastBelow_70 rfl ?_
      refine gf_X2_7 (pc := 71) dX2_leastBelow_71 wF_X2_98 (A_87 hw) T20 fun z29 q30 h31 => ?_
      refine mr_iconst (pc := 74) (z := 1) dX2_leastBelow_74 ?_
      refine mr_iadd (pc := 75) (x := z29) (y := 1) dX2_leastBelow_75 ?_
      refine mr_wrap fun z32 h33 => ?_
      refine pf_X2_7 (pc := 76) dX2_leastBelow_76 wF_X2_98 (A_87 hw) T20 h33 fun μ34 u35 T36 => ?_
      refine mr_iload (pc := 79) (z := z12) dX2_leastBelow_79 rfl ?_
      refine mr_iload (pc := 81) (z := z23) dX2_leastBelow_81 rfl ?_
      refine mr_ior (pc := 83) (x := z12) (y := z23) dX2_leastBelow_83 ?_
      refine mr_gen (P := fun z => (-2147483648) ≤ z ∧ z ≤ 2147483647) (r32i _) fun z37 q38 h39 => ?_
      exact mr_iret dX2_leastBelow_84 rfl (le_t rfl) (le_t rfl) T36 (mF.up (mF.call (mF.call mF.refl F10 rfl) F21 rfl) (A_87 hw) u35 rfl) ⟨h39, trivial⟩
    refine mr_iload (pc := 63) (z := z12) dX2_leastBelow_63 rfl ?_
    refine mr_iload (pc := 65) (z := z23) dX2_leastBelow_65 rfl ?_
    refine mr_iand (pc := 67) (x := z12) (y := z23) dX2_leastBelow_67 ?_
    refine mr_gen (P := fun z => (-2147483648) ≤ z ∧ z ≤ 2147483647) (r32i _) fun z40 q41 h42 => ?_
    exact mr_iret dX2_leastBelow_68 rfl (le_t rfl) (le_t rfl) T20 (mF.call (mF.call mF.refl F10 rfl) F21 rfl) ⟨h42, trivial⟩
  have h43 : 0 ≤ z5 ∧ z5 ≤ 0 := (vc_X12_ring_22 h6 h4.1)
  refine sv_aload_n (pc := 16) dX2_leastBelow_16 rfl rfl ?_
  refine mr_iload_n (pc := 17) (z := p1) dX2_leastBelow_17 rfl rfl ?_
  refine mr_iload_n (pc := 18) (z := p2) dX2_leastBelow_18 rfl rfl ?_
  refine mr_cVP (pc := 19) (c_X2_tieFor hw hT hp1 hp2 (vc_X9_end_1 hq0 hp1)) (gOk _ _ _ _ _) dX2_leastBelow_19 (tX2_tieFor _ _ _ _ _) ⟨wV_X2_tieFor, wL_X2_tieFor⟩ wM_X2_60 (gCX2 _ _ _ _ _) rfl (A_87 hw) rfl ⟨le_t rfl, le_t rfl⟩ ⟨le_t rfl, le_t rfl⟩ rfl (le_t rfl) fun z48 h47 => ?_
  refine mr_cSP (pc := 22) (c_X2_aimBit hw hT h47.1) (gOk _ _ _ _ _) dX2_leastBelow_22 (tX2_aimBit _ _ _ _ _) wS_X2_aimBit wM_X2_110 ⟨le_t rfl, le_t rfl⟩ ⟨le_t rfl, le_t rfl⟩ rfl (le_t rfl) fun z53 h52 => ?_
  exact mr_iret dX2_leastBelow_25 rfl (le_t rfl) (le_t rfl) hT mF.refl ⟨h52.1, trivial⟩
theorem vc_X2_leastBelow_19_1 {p3 : Int} (h0 : 32 ≤ p3) (h1 : 19 ≤ p3 ∧ p3 ≤ 19) : False := by omega
set_option maxRecDepth 4000 in
set_option maxHeartbeats 4000000 in
theorem c_X2_leastBelow_19 {l : Launch} {D : va_G} {c : Nat → ClassId} {H0 : Heap} {sa : Nat × Nat × (Nat → Int32)} {w : mW} {μ : mM} (hw : mWF w) (hT : mT w μ) {p1 : Int} (hp1 : 0 ≤ p1 ∧ p1 ≤ 9) {p2 : Int} (hp2 : (-2147483648) ≤ p2 ∧ p2 ≤ 2147483647) {p3 : Int} (hp3 : 19 ≤ p3 ∧ p3 ≤ 19) (hq0 : p1 < w.2.2.2 0) : sC (gG l D c H0 sa) mX2_leastBelow 16 0 0 [.ref 87, iv p1, iv p2, iv p3] (mk w μ) (qI w [87007] μ (fun z μ1 => ((-2147483648) ≤ z ∧ z ≤ 2147483647) ∧ True)) := by
  refine sC.of rfl (by decide) (le_t rfl) ?_
  refine mr_lvE (lv' := [(0, .ref 87), (1, iv p1), (2, iv p2), (3, iv p3)]) rfl ?_
  refine mr_iload_n (pc := 0) (z := p3) dX2_leastBelow_0 rfl rfl ?_
  refine mr_bipush (pc := 1) (z := 32) dX2_leastBelow_1 (by decide) ?_
  refine mr_icmp_ge (pc := 3) (tgt := 16) dX2_leastBelow_3 (by decide) (r32 hp3 rfl) (r32 (rR (x := 32)) rfl) (fun h => ((vc_X2_leastBelow_19_1 h hp3)).elim) (fun _ => ?_)
  refine sv_aload_n (pc := 6) dX2_leastBelow_6 rfl rfl ?_
  refine mr_iload_n (pc := 7) (z := p1) dX2_leastBelow_7 rfl rfl ?_
  refine mr_iload_n (pc := 8) (z := p2) dX2_leastBelow_8 rfl rfl ?_
  refine mr_iload_n (pc := 9) (z := p3) dX2_leastBelow_9 rfl rfl ?_
  refine mr_cVP (pc := 10) (c_X2_isSplit hw hT hp1 hp2 (rW (c := (-2147483648)) (d := 2147483647) hp3 rfl) (vc_X9_end_1 hq0 hp1)) (gOk _ _ _ _ _) dX2_leastBelow_10 (tX2_isSplit _ _ _ _ _) ⟨wV_X2_isSplit, wL_X2_isSplit⟩ wM_X2_106 (gCX2 _ _ _ _ _) rfl (A_87 hw) rfl ⟨le_t rfl, le_t rfl⟩ ⟨le_t rfl, le_t rfl⟩ rfl (le_t rfl) fun z5 h4 => ?_
  refine mr_if_ne (pc := 13) (tgt := 26) dX2_leastBelow_13 (by decide) (r32 h4.1 rfl) (fun h6 => ?_) (fun h6 => ?_)
  · have h7 : 1 ≤ z5 ∧ z5 ≤ 1 := (vc_X12_ring_24 h6 h4.1)
    refine sv_aload_n (pc := 26) dX2_leastBelow_26 rfl rfl ?_
    refine mr_iload_n (pc := 27) (z := p1) dX2_leastBelow_27 rfl rfl ?_
    refine mr_iload_n (pc := 28) (z := p2) dX2_leastBelow_28 rfl rfl ?_
    refine mr_iload_n (pc := 29) (z := p3) dX2_leastBelow_29 rfl rfl ?_
    refine mr_iconst (pc := 30) (z := 1) dX2_leastBelow_30 ?_
    refine mr_iadd (pc := 31) (x := p3) (y := 1) dX2_leastBelow_31 ?_
    refine mr_cVI (pc := 32) (c_X2_leastBelow_20 hw hT hp1 hp2 (rAdd (e := 20) (f := 20) hp3 (rR (x := 1)) rfl) (vc_X9_end_1 hq0 hp1)) (gOk _ _ _ _ _) dX2_leastBelow_32 (tX2_leastBelow _ _ _ _ _) ⟨wV_X2_leastBelow, wL_X2_leastBelow⟩ wM_X2_101 (gCX2 _ _ _ _ _) rfl (A_87 hw) rfl ⟨le_t rfl, le_t rfl⟩ ⟨le_t rfl, le_t rfl⟩ rfl (le_t rfl) fun z12 μ8 T9 F10 h11 => ?_
    refine mr_istore (pc := 35) (lv' := [(4, iv z12), (0, .ref 87), (1, iv p1), (2, iv p2), (3, iv p3)]) dX2_leastBelow_35 (by decide) rfl ?_
    refine sv_aload_n (pc := 37) dX2_leastBelow_37 rfl rfl ?_
    refine mr_iload_n (pc := 38) (z := p1) dX2_leastBelow_38 rfl rfl ?_
    refine mr_iload_n (pc := 39) (z := p2) dX2_leastBelow_39 rfl rfl ?_
    refine mr_iconst (pc := 40) (z := 1) dX2_leastBelow_40 ?_
    refine mr_bipush (pc := 41) (z := 31) dX2_leastBelow_41 (by decide) ?_
    refine mr_iload_n (pc := 43) (z := p3) dX2_leastBelow_43 rfl rfl ?_
    refine mr_isub (pc := 44) (x := 31) (y := p3) dX2_leastBelow_44 ?_
    refine mr_ishl (pc := 45) (x := 1) (y := (31 - p3)) dX2_leastBelow_45 ?_
    refine mr_gen (P := fun z => (-2147483648) ≤ z ∧ z ≤ 2147483647) (r32i _) fun z13 q14 h15 => ?_
    refine mr_ior (pc := 46) (x := p2) (y := z13) dX2_leastBelow_46 ?_
    refine mr_gen (P := fun z => (-2147483648) ≤ z ∧ z ≤ 2147483647) (r32i _) fun z16 q17 h18 => ?_
    refine mr_iload_n (pc := 47) (z := p3) dX2_leastBelow_47 rfl rfl ?_
    refine mr_iconst (pc := 48) (z := 1) dX2_leastBelow_48 ?_
    refine mr_iadd (pc := 49) (x := p3) (y := 1) dX2_leastBelow_49 ?_
    refine mr_cVI (pc := 50) (c_X2_leastBelow_20 hw T9 hp1 h18 (rAdd (e := 20) (f := 20) hp3 (rR (x := 1)) rfl) (vc_X9_end_1 hq0 hp1)) (gOk _ _ _ _ _) dX2_leastBelow_50 (tX2_leastBelow _ _ _ _ _) ⟨wV_X2_leastBelow, wL_X2_leastBelow⟩ wM_X2_101 (gCX2 _ _ _ _ _) rfl (A_87 hw) rfl ⟨le_t rfl, le_t rfl⟩ ⟨le_t rfl, le_t rfl⟩ rfl (le_t rfl) fun z23 μ19 T20 F21 h22 => ?_
    refine mr_istore (pc := 53) (lv' := [(5, iv z23), (4, iv z12), (0, .ref 87), (1, iv p1), (2, iv p2), (3, iv p3)]) dX2_leastBelow_53 (by decide) rfl ?_
    refine mr_iload (pc := 55) (z := z12) dX2_leastBelow_55 rfl ?_
    refine mr_iload (pc := 57) (z := z23) dX2_leastBelow_57 rfl ?_
    refine mr_iand (pc := 59) (x := z12) (y := z23) dX2_leastBelow_59 ?_
    refine mr_gen (P := fun z => (-2147483648) ≤ z ∧ z ≤ 2147483647) (r32i _) fun z24 q25 h26 => ?_
    refine mr_if_eq (pc := 60) (tgt := 69) dX2_leastBelow_60 (by decide) h26 (fun h27 => ?_) (fun h27 => ?_)
    · have h28 : 0 ≤ z24 ∧ z24 ≤ 0 := (vc_X12_mask_1 h27 h26)
      refine sv_aload_n (pc := 69) dX2_leastBelow_69 rfl rfl ?_
      refine sv_dup (pc := 70) dX2_leastBelow_70 rfl ?_
      refine gf_X2_7 (pc := 71) dX2_leastBelow_71 wF_X2_98 (A_87 hw) T20 fun z29 q30 h31 => ?_
      refine mr_iconst (pc := 74) (z := 1) dX2_leastBelow_74 ?_
      refine mr_iadd (pc := 75) (x := z29) (y := 1) dX2_leastBelow_75 ?_
      refine mr_wrap fun z32 h33 => ?_
      refine pf_X2_7 (pc := 76) dX2_leastBelow_76 wF_X2_98 (A_87 hw) T20 h33 fun μ34 u35 T36 => ?_
      refine mr_iload (pc := 79) (z := z12) dX2_leastBelow_79 rfl ?_
      refine mr_iload (pc := 81) (z := z23) dX2_leastBelow_81 rfl ?_
      refine mr_ior (pc := 83) (x := z12) (y := z23) dX2_leastBelow_83 ?_
      refine mr_gen (P := fun z => (-2147483648) ≤ z ∧ z ≤ 2147483647) (r32i _) fun z37 q38 h39 => ?_
      exact mr_iret dX2_leastBelow_84 rfl (le_t rfl) (le_t rfl) T36 (mF.up (mF.call (mF.call mF.refl F10 rfl) F21 rfl) (A_87 hw) u35 rfl) ⟨h39, trivial⟩
    refine mr_iload (pc := 63) (z := z12) dX2_leastBelow_63 rfl ?_
    refine mr_iload (pc := 65) (z := z23) dX2_leastBelow_65 rfl ?_
    refine mr_iand (pc := 67) (x := z12) (y := z23) dX2_leastBelow_67 ?_
    refine mr_gen (P := fun z => (-2147483648) ≤ z ∧ z ≤ 2147483647) (r32i _) fun z40 q41 h42 => ?_
    exact mr_iret dX2_leastBelow_68 rfl (le_t rfl) (le_t rfl) T20 (mF.call (mF.call mF.refl F10 rfl) F21 rfl) ⟨h42, trivial⟩
  have h43 : 0 ≤ z5 ∧ z5 ≤ 0 := (vc_X12_ring_22 h6 h4.1)
  refine sv_aload_n (pc := 16) dX2_leastBelow_16 rfl rfl ?_
  refine mr_iload_n (pc := 17) (z := p1) dX2_leastBelow_17 rfl rfl ?_
  refine mr_iload_n (pc := 18) (z := p2) dX2_leastBelow_18 rfl rfl ?_
  refine mr_cVP (pc := 19) (c_X2_tieFor hw hT hp1 hp2 (vc_X9_end_1 hq0 hp1)) (gOk _ _ _ _ _) dX2_leastBelow_19 (tX2_tieFor _ _ _ _ _) ⟨wV_X2_tieFor, wL_X2_tieFor⟩ wM_X2_60 (gCX2 _ _ _ _ _) rfl (A_87 hw) rfl ⟨le_t rfl, le_t rfl⟩ ⟨le_t rfl, le_t rfl⟩ rfl (le_t rfl) fun z48 h47 => ?_
  refine mr_cSP (pc := 22) (c_X2_aimBit hw hT h47.1) (gOk _ _ _ _ _) dX2_leastBelow_22 (tX2_aimBit _ _ _ _ _) wS_X2_aimBit wM_X2_110 ⟨le_t rfl, le_t rfl⟩ ⟨le_t rfl, le_t rfl⟩ rfl (le_t rfl) fun z53 h52 => ?_
  exact mr_iret dX2_leastBelow_25 rfl (le_t rfl) (le_t rfl) hT mF.refl ⟨h52.1, trivial⟩
theorem vc_X2_leastBelow_18_1 {p3 : Int} (h0 : 32 ≤ p3) (h1 : 18 ≤ p3 ∧ p3 ≤ 18) : False := by omega
set_option maxRecDepth 4000 in
set_option maxHeartbeats 4000000 in
theorem c_X2_leastBelow_18 {l : Launch} {D : va_G} {c : Nat → ClassId} {H0 : Heap} {sa : Nat × Nat × (Nat → Int32)} {w : mW} {μ : mM} (hw : mWF w) (hT : mT w μ) {p1 : Int} (hp1 : 0 ≤ p1 ∧ p1 ≤ 9) {p2 : Int} (hp2 : (-2147483648) ≤ p2 ∧ p2 ≤ 2147483647) {p3 : Int} (hp3 : 18 ≤ p3 ∧ p3 ≤ 18) (hq0 : p1 < w.2.2.2 0) : sC (gG l D c H0 sa) mX2_leastBelow 17 0 0 [.ref 87, iv p1, iv p2, iv p3] (mk w μ) (qI w [87007] μ (fun z μ1 => ((-2147483648) ≤ z ∧ z ≤ 2147483647) ∧ True)) := by
  refine sC.of rfl (by decide) (le_t rfl) ?_
  refine mr_lvE (lv' := [(0, .ref 87), (1, iv p1), (2, iv p2), (3, iv p3)]) rfl ?_
  refine mr_iload_n (pc := 0) (z := p3) dX2_leastBelow_0 rfl rfl ?_
  refine mr_bipush (pc := 1) (z := 32) dX2_leastBelow_1 (by decide) ?_
  refine mr_icmp_ge (pc := 3) (tgt := 16) dX2_leastBelow_3 (by decide) (r32 hp3 rfl) (r32 (rR (x := 32)) rfl) (fun h => ((vc_X2_leastBelow_18_1 h hp3)).elim) (fun _ => ?_)
  refine sv_aload_n (pc := 6) dX2_leastBelow_6 rfl rfl ?_
  refine mr_iload_n (pc := 7) (z := p1) dX2_leastBelow_7 rfl rfl ?_
  refine mr_iload_n (pc := 8) (z := p2) dX2_leastBelow_8 rfl rfl ?_
  refine mr_iload_n (pc := 9) (z := p3) dX2_leastBelow_9 rfl rfl ?_
  refine mr_cVP (pc := 10) (c_X2_isSplit hw hT hp1 hp2 (rW (c := (-2147483648)) (d := 2147483647) hp3 rfl) (vc_X9_end_1 hq0 hp1)) (gOk _ _ _ _ _) dX2_leastBelow_10 (tX2_isSplit _ _ _ _ _) ⟨wV_X2_isSplit, wL_X2_isSplit⟩ wM_X2_106 (gCX2 _ _ _ _ _) rfl (A_87 hw) rfl ⟨le_t rfl, le_t rfl⟩ ⟨le_t rfl, le_t rfl⟩ rfl (le_t rfl) fun z5 h4 => ?_
  refine mr_if_ne (pc := 13) (tgt := 26) dX2_leastBelow_13 (by decide) (r32 h4.1 rfl) (fun h6 => ?_) (fun h6 => ?_)
  · have h7 : 1 ≤ z5 ∧ z5 ≤ 1 := (vc_X12_ring_24 h6 h4.1)
    refine sv_aload_n (pc := 26) dX2_leastBelow_26 rfl rfl ?_
    refine mr_iload_n (pc := 27) (z := p1) dX2_leastBelow_27 rfl rfl ?_
    refine mr_iload_n (pc := 28) (z := p2) dX2_leastBelow_28 rfl rfl ?_
    refine mr_iload_n (pc := 29) (z := p3) dX2_leastBelow_29 rfl rfl ?_
    refine mr_iconst (pc := 30) (z := 1) dX2_leastBelow_30 ?_
    refine mr_iadd (pc := 31) (x := p3) (y := 1) dX2_leastBelow_31 ?_
    refine mr_cVI (pc := 32) (c_X2_leastBelow_19 hw hT hp1 hp2 (rAdd (e := 19) (f := 19) hp3 (rR (x := 1)) rfl) (vc_X9_end_1 hq0 hp1)) (gOk _ _ _ _ _) dX2_leastBelow_32 (tX2_leastBelow _ _ _ _ _) ⟨wV_X2_leastBelow, wL_X2_leastBelow⟩ wM_X2_101 (gCX2 _ _ _ _ _) rfl (A_87 hw) rfl ⟨le_t rfl, le_t rfl⟩ ⟨le_t rfl, le_t rfl⟩ rfl (le_t rfl) fun z12 μ8 T9 F10 h11 => ?_
    refine mr_istore (pc := 35) (lv' := [(4, iv z12), (0, .ref 87), (1, iv p1), (2, iv p2), (3, iv p3)]) dX2_leastBelow_35 (by decide) rfl ?_
    refine sv_aload_n (pc := 37) dX2_leastBelow_37 rfl rfl ?_
    refine mr_iload_n (pc := 38) (z := p1) dX2_leastBelow_38 rfl rfl ?_
    refine mr_iload_n (pc := 39) (z := p2) dX2_leastBelow_39 rfl rfl ?_
    refine mr_iconst (pc := 40) (z := 1) dX2_leastBelow_40 ?_
    refine mr_bipush (pc := 41) (z := 31) dX2_leastBelow_41 (by decide) ?_
    refine mr_iload_n (pc := 43) (z := p3) dX2_leastBelow_43 rfl rfl ?_
    refine mr_isub (pc := 44) (x := 31) (y := p3) dX2_leastBelow_44 ?_
    refine mr_ishl (pc := 45) (x := 1) (y := (31 - p3)) dX2_leastBelow_45 ?_
    refine mr_gen (P := fun z => (-2147483648) ≤ z ∧ z ≤ 2147483647) (r32i _) fun z13 q14 h15 => ?_
    refine mr_ior (pc := 46) (x := p2) (y := z13) dX2_leastBelow_46 ?_
    refine mr_gen (P := fun z => (-2147483648) ≤ z ∧ z ≤ 2147483647) (r32i _) fun z16 q17 h18 => ?_
    refine mr_iload_n (pc := 47) (z := p3) dX2_leastBelow_47 rfl rfl ?_
    refine mr_iconst (pc := 48) (z := 1) dX2_leastBelow_48 ?_
    refine mr_iadd (pc := 49) (x := p3) (y := 1) dX2_leastBelow_49 ?_
    refine mr_cVI (pc := 50) (c_X2_leastBelow_19 hw T9 hp1 h18 (rAdd (e := 19) (f := 19) hp3 (rR (x := 1)) rfl) (vc_X9_end_1 hq0 hp1)) (gOk _ _ _ _ _) dX2_leastBelow_50 (tX2_leastBelow _ _ _ _ _) ⟨wV_X2_leastBelow, wL_X2_leastBelow⟩ wM_X2_101 (gCX2 _ _ _ _ _) rfl (A_87 hw) rfl ⟨le_t rfl, le_t rfl⟩ ⟨le_t rfl, le_t rfl⟩ rfl (le_t rfl) fun z23 μ19 T20 F21 h22 => ?_
    refine mr_istore (pc := 53) (lv' := [(5, iv z23), (4, iv z12), (0, .ref 87), (1, iv p1), (2, iv p2), (3, iv p3)]) dX2_leastBelow_53 (by decide) rfl ?_
    refine mr_iload (pc := 55) (z := z12) dX2_leastBelow_55 rfl ?_
    refine mr_iload (pc := 57) (z := z23) dX2_leastBelow_57 rfl ?_
    refine mr_iand (pc := 59) (x := z12) (y := z23) dX2_leastBelow_59 ?_
    refine mr_gen (P := fun z => (-2147483648) ≤ z ∧ z ≤ 2147483647) (r32i _) fun z24 q25 h26 => ?_
    refine mr_if_eq (pc := 60) (tgt := 69) dX2_leastBelow_60 (by decide) h26 (fun h27 => ?_) (fun h27 => ?_)
    · have h28 : 0 ≤ z24 ∧ z24 ≤ 0 := (vc_X12_mask_1 h27 h26)
      refine sv_aload_n (pc := 69) dX2_leastBelow_69 rfl rfl ?_
      refine sv_dup (pc := 70) dX2_leastBelow_70 rfl ?_
      refine gf_X2_7 (pc := 71) dX2_leastBelow_71 wF_X2_98 (A_87 hw) T20 fun z29 q30 h31 => ?_
      refine mr_iconst (pc := 74) (z := 1) dX2_leastBelow_74 ?_
      refine mr_iadd (pc := 75) (x := z29) (y := 1) dX2_leastBelow_75 ?_
      refine mr_wrap fun z32 h33 => ?_
      refine pf_X2_7 (pc := 76) dX2_leastBelow_76 wF_X2_98 (A_87 hw) T20 h33 fun μ34 u35 T36 => ?_
      refine mr_iload (pc := 79) (z := z12) dX2_leastBelow_79 rfl ?_
      refine mr_iload (pc := 81) (z := z23) dX2_leastBelow_81 rfl ?_
      refine mr_ior (pc := 83) (x := z12) (y := z23) dX2_leastBelow_83 ?_
      refine mr_gen (P := fun z => (-2147483648) ≤ z ∧ z ≤ 2147483647) (r32i _) fun z37 q38 h39 => ?_
      exact mr_iret dX2_leastBelow_84 rfl (le_t rfl) (le_t rfl) T36 (mF.up (mF.call (mF.call mF.refl F10 rfl) F21 rfl) (A_87 hw) u35 rfl) ⟨h39, trivial⟩
    refine mr_iload (pc := 63) (z := z12) dX2_leastBelow_63 rfl ?_
    refine mr_iload (pc := 65) (z := z23) dX2_leastBelow_65 rfl ?_
    refine mr_iand (pc := 67) (x := z12) (y := z23) dX2_leastBelow_67 ?_
    refine mr_gen (P := fun z => (-2147483648) ≤ z ∧ z ≤ 2147483647) (r32i _) fun z40 q41 h42 => ?_
    exact mr_iret dX2_leastBelow_68 rfl (le_t rfl) (le_t rfl) T20 (mF.call (mF.call mF.refl F10 rfl) F21 rfl) ⟨h42, trivial⟩
  have h43 : 0 ≤ z5 ∧ z5 ≤ 0 := (vc_X12_ring_22 h6 h4.1)
  refine sv_aload_n (pc := 16) dX2_leastBelow_16 rfl rfl ?_
  refine mr_iload_n (pc := 17) (z := p1) dX2_leastBelow_17 rfl rfl ?_
  refine mr_iload_n (pc := 18) (z := p2) dX2_leastBelow_18 rfl rfl ?_
  refine mr_cVP (pc := 19) (c_X2_tieFor hw hT hp1 hp2 (vc_X9_end_1 hq0 hp1)) (gOk _ _ _ _ _) dX2_leastBelow_19 (tX2_tieFor _ _ _ _ _) ⟨wV_X2_tieFor, wL_X2_tieFor⟩ wM_X2_60 (gCX2 _ _ _ _ _) rfl (A_87 hw) rfl ⟨le_t rfl, le_t rfl⟩ ⟨le_t rfl, le_t rfl⟩ rfl (le_t rfl) fun z48 h47 => ?_
  refine mr_cSP (pc := 22) (c_X2_aimBit hw hT h47.1) (gOk _ _ _ _ _) dX2_leastBelow_22 (tX2_aimBit _ _ _ _ _) wS_X2_aimBit wM_X2_110 ⟨le_t rfl, le_t rfl⟩ ⟨le_t rfl, le_t rfl⟩ rfl (le_t rfl) fun z53 h52 => ?_
  exact mr_iret dX2_leastBelow_25 rfl (le_t rfl) (le_t rfl) hT mF.refl ⟨h52.1, trivial⟩
theorem vc_X2_leastBelow_17_1 {p3 : Int} (h0 : 32 ≤ p3) (h1 : 17 ≤ p3 ∧ p3 ≤ 17) : False := by omega
set_option maxRecDepth 4000 in
set_option maxHeartbeats 4000000 in
theorem c_X2_leastBelow_17 {l : Launch} {D : va_G} {c : Nat → ClassId} {H0 : Heap} {sa : Nat × Nat × (Nat → Int32)} {w : mW} {μ : mM} (hw : mWF w) (hT : mT w μ) {p1 : Int} (hp1 : 0 ≤ p1 ∧ p1 ≤ 9) {p2 : Int} (hp2 : (-2147483648) ≤ p2 ∧ p2 ≤ 2147483647) {p3 : Int} (hp3 : 17 ≤ p3 ∧ p3 ≤ 17) (hq0 : p1 < w.2.2.2 0) : sC (gG l D c H0 sa) mX2_leastBelow 18 0 0 [.ref 87, iv p1, iv p2, iv p3] (mk w μ) (qI w [87007] μ (fun z μ1 => ((-2147483648) ≤ z ∧ z ≤ 2147483647) ∧ True)) := by
  refine sC.of rfl (by decide) (le_t rfl) ?_
  refine mr_lvE (lv' := [(0, .ref 87), (1, iv p1), (2, iv p2), (3, iv p3)]) rfl ?_
  refine mr_iload_n (pc := 0) (z := p3) dX2_leastBelow_0 rfl rfl ?_
  refine mr_bipush (pc := 1) (z := 32) dX2_leastBelow_1 (by decide) ?_
  refine mr_icmp_ge (pc := 3) (tgt := 16) dX2_leastBelow_3 (by decide) (r32 hp3 rfl) (r32 (rR (x := 32)) rfl) (fun h => ((vc_X2_leastBelow_17_1 h hp3)).elim) (fun _ => ?_)
  refine sv_aload_n (pc := 6) dX2_leastBelow_6 rfl rfl ?_
  refine mr_iload_n (pc := 7) (z := p1) dX2_leastBelow_7 rfl rfl ?_
  refine mr_iload_n (pc := 8) (z := p2) dX2_leastBelow_8 rfl rfl ?_
  refine mr_iload_n (pc := 9) (z := p3) dX2_leastBelow_9 rfl rfl ?_
  refine mr_cVP (pc := 10) (c_X2_isSplit hw hT hp1 hp2 (rW (c := (-2147483648)) (d := 2147483647) hp3 rfl) (vc_X9_end_1 hq0 hp1)) (gOk _ _ _ _ _) dX2_leastBelow_10 (tX2_isSplit _ _ _ _ _) ⟨wV_X2_isSplit, wL_X2_isSplit⟩ wM_X2_106 (gCX2 _ _ _ _ _) rfl (A_87 hw) rfl ⟨le_t rfl, le_t rfl⟩ ⟨le_t rfl, le_t rfl⟩ rfl (le_t rfl) fun z5 h4 => ?_
  refine mr_if_ne (pc := 13) (tgt := 26) dX2_leastBelow_13 (by decide) (r32 h4.1 rfl) (fun h6 => ?_) (fun h6 => ?_)
  · have h7 : 1 ≤ z5 ∧ z5 ≤ 1 := (vc_X12_ring_24 h6 h4.1)
    refine sv_aload_n (pc := 26) dX2_leastBelow_26 rfl rfl ?_
    refine mr_iload_n (pc := 27) (z := p1) dX2_leastBelow_27 rfl rfl ?_
    refine mr_iload_n (pc := 28) (z := p2) dX2_leastBelow_28 rfl rfl ?_
    refine mr_iload_n (pc := 29) (z := p3) dX2_leastBelow_29 rfl rfl ?_
    refine mr_iconst (pc := 30) (z := 1) dX2_leastBelow_30 ?_
    refine mr_iadd (pc := 31) (x := p3) (y := 1) dX2_leastBelow_31 ?_
    refine mr_cVI (pc := 32) (c_X2_leastBelow_18 hw hT hp1 hp2 (rAdd (e := 18) (f := 18) hp3 (rR (x := 1)) rfl) (vc_X9_end_1 hq0 hp1)) (gOk _ _ _ _ _) dX2_leastBelow_32 (tX2_leastBelow _ _ _ _ _) ⟨wV_X2_leastBelow, wL_X2_leastBelow⟩ wM_X2_101 (gCX2 _ _ _ _ _) rfl (A_87 hw) rfl ⟨le_t rfl, le_t rfl⟩ ⟨le_t rfl, le_t rfl⟩ rfl (le_t rfl) fun z12 μ8 T9 F10 h11 => ?_
    refine mr_istore (pc := 35) (lv' := [(4, iv z12), (0, .ref 87), (1, iv p1), (2, iv p2), (3, iv p3)]) dX2_leastBelow_35 (by decide) rfl ?_
    refine sv_aload_n (pc := 37) dX2_leastBelow_37 rfl rfl ?_
    refine mr_iload_n (pc := 38) (z := p1) dX2_leastBelow_38 rfl rfl ?_
    refine mr_iload_n (pc := 39) (z := p2) dX2_leastBelow_39 rfl rfl ?_
    refine mr_iconst (pc := 40) (z := 1) dX2_leastBelow_40 ?_
    refine mr_bipush (pc := 41) (z := 31) dX2_leastBelow_41 (by decide) ?_
    refine mr_iload_n (pc := 43) (z := p3) dX2_leastBelow_43 rfl rfl ?_
    refine mr_isub (pc := 44) (x := 31) (y := p3) dX2_leastBelow_44 ?_
    refine mr_ishl (pc := 45) (x := 1) (y := (31 - p3)) dX2_leastBelow_45 ?_
    refine mr_gen (P := fun z => (-2147483648) ≤ z ∧ z ≤ 2147483647) (r32i _) fun z13 q14 h15 => ?_
    refine mr_ior (pc := 46) (x := p2) (y := z13) dX2_leastBelow_46 ?_
    refine mr_gen (P := fun z => (-2147483648) ≤ z ∧ z ≤ 2147483647) (r32i _) fun z16 q17 h18 => ?_
    refine mr_iload_n (pc := 47) (z := p3) dX2_leastBelow_47 rfl rfl ?_
    refine mr_iconst (pc := 48) (z := 1) dX2_leastBelow_48 ?_
    refine mr_iadd (pc := 49) (x := p3) (y := 1) dX2_leastBelow_49 ?_
    refine mr_cVI (pc := 50) (c_X2_leastBelow_18 hw T9 hp1 h18 (rAdd (e := 18) (f := 18) hp3 (rR (x := 1)) rfl) (vc_X9_end_1 hq0 hp1)) (gOk _ _ _ _ _) dX2_leastBelow_50 (tX2_leastBelow _ _ _ _ _) ⟨wV_X2_leastBelow, wL_X2_leastBelow⟩ wM_X2_101 (gCX2 _ _ _ _ _) rfl (A_87 hw) rfl ⟨le_t rfl, le_t rfl⟩ ⟨le_t rfl, le_t rfl⟩ rfl (le_t rfl) fun z23 μ19 T20 F21 h22 => ?_
    refine mr_istore (pc := 53) (lv' := [(5, iv z23), (4, iv z12), (0, .ref 87), (1, iv p1), (2, iv p2), (3, iv p3)]) dX2_leastBelow_53 (by decide) rfl ?_
    refine mr_iload (pc := 55) (z := z12) dX2_leastBelow_55 rfl ?_
    refine mr_iload (pc := 57) (z := z23) dX2_leastBelow_57 rfl ?_
    refine mr_iand (pc := 59) (x := z12) (y := z23) dX2_leastBelow_59 ?_
    refine mr_gen (P := fun z => (-2147483648) ≤ z ∧ z ≤ 2147483647) (r32i _) fun z24 q25 h26 => ?_
    refine mr_if_eq (pc := 60) (tgt := 69) dX2_leastBelow_60 (by decide) h26 (fun h27 => ?_) (fun h27 => ?_)
    · have h28 : 0 ≤ z24 ∧ z24 ≤ 0 := (vc_X12_mask_1 h27 h26)
      refine sv_aload_n (pc := 69) dX2_leastBelow_69 rfl rfl ?_
      refine sv_dup (pc := 70) dX2_leastBelow_70 rfl ?_
      refine gf_X2_7 (pc := 71) dX2_leastBelow_71 wF_X2_98 (A_87 hw) T20 fun z29 q30 h31 => ?_
      refine mr_iconst (pc := 74) (z := 1) dX2_leastBelow_74 ?_
      refine mr_iadd (pc := 75) (x := z29) (y := 1) dX2_leastBelow_75 ?_
      refine mr_wrap fun z32 h33 => ?_
      refine pf_X2_7 (pc := 76) dX2_leastBelow_76 wF_X2_98 (A_87 hw) T20 h33 fun μ34 u35 T36 => ?_
      refine mr_iload (pc := 79) (z := z12) dX2_leastBelow_79 rfl ?_
      refine mr_iload (pc := 81) (z := z23) dX2_leastBelow_81 rfl ?_
      refine mr_ior (pc := 83) (x := z12) (y := z23) dX2_leastBelow_83 ?_
      refine mr_gen (P := fun z => (-2147483648) ≤ z ∧ z ≤ 2147483647) (r32i _) fun z37 q38 h39 => ?_
      exact mr_iret dX2_leastBelow_84 rfl (le_t rfl) (le_t rfl) T36 (mF.up (mF.call (mF.call mF.refl F10 rfl) F21 rfl) (A_87 hw) u35 rfl) ⟨h39, trivial⟩
    refine mr_iload (pc := 63) (z := z12) dX2_leastBelow_63 rfl ?_
    refine mr_iload (pc := 65) (z := z23) dX2_leastBelow_65 rfl ?_
    refine mr_iand (pc := 67) (x := z12) (y := z23) dX2_leastBelow_67 ?_
    refine mr_gen (P := fun z => (-2147483648) ≤ z ∧ z ≤ 2147483647) (r32i _) fun z40 q41 h42 => ?_
    exact mr_iret dX2_leastBelow_68 rfl (le_t rfl) (le_t rfl) T20 (mF.call (mF.call mF.refl F10 rfl) F21 rfl) ⟨h42, trivial⟩
  have h43 : 0 ≤ z5 ∧ z5 ≤ 0 := (vc_X12_ring_22 h6 h4.1)
  refine sv_aload_n (pc := 16) dX2_leastBelow_16 rfl rfl ?_
  refine mr_iload_n (pc := 17) (z := p1) dX2_leastBelow_17 rfl rfl ?_
  refine mr_iload_n (pc := 18) (z := p2) dX2_leastBelow_18 rfl rfl ?_
  refine mr_cVP (pc := 19) (c_X2_tieFor hw hT hp1 hp2 (vc_X9_end_1 hq0 hp1)) (gOk _ _ _ _ _) dX2_leastBelow_19 (tX2_tieFor _ _ _ _ _) ⟨wV_X2_tieFor, wL_X2_tieFor⟩ wM_X2_60 (gCX2 _ _ _ _ _) rfl (A_87 hw) rfl ⟨le_t rfl, le_t rfl⟩ ⟨le_t rfl, le_t rfl⟩ rfl (le_t rfl) fun z48 h47 => ?_
  refine mr_cSP (pc := 22) (c_X2_aimBit hw hT h47.1) (gOk _ _ _ _ _) dX2_leastBelow_22 (tX2_aimBit _ _ _ _ _) wS_X2_aimBit wM_X2_110 ⟨le_t rfl, le_t rfl⟩ ⟨le_t rfl, le_t rfl⟩ rfl (le_t rfl) fun z53 h52 => ?_
  exact mr_iret dX2_leastBelow_25 rfl (le_t rfl) (le_t rfl) hT mF.refl ⟨h52.1, trivial⟩
theorem vc_X2_leastBelow_16_1 {p3 : Int} (h0 : 32 ≤ p3) (h1 : 16 ≤ p3 ∧ p3 ≤ 16) : False := by omega
set_option maxRecDepth 4000 in
set_option maxHeartbeats 4000000 in
theorem c_X2_leastBelow_16 {l : Launch} {D : va_G} {c : Nat → ClassId} {H0 : Heap} {sa : Nat × Nat × (Nat → Int32)} {w : mW} {μ : mM} (hw : mWF w) (hT : mT w μ) {p1 : Int} (hp1 : 0 ≤ p1 ∧ p1 ≤ 9) {p2 : Int} (hp2 : (-2147483648) ≤ p2 ∧ p2 ≤ 2147483647) {p3 : Int} (hp3 : 16 ≤ p3 ∧ p3 ≤ 16) (hq0 : p1 < w.2.2.2 0) : sC (gG l D c H0 sa) mX2_leastBelow 19 0 0 [.ref 87, iv p1, iv p2, iv p3] (mk w μ) (qI w [87007] μ (fun z μ1 => ((-2147483648) ≤ z ∧ z ≤ 2147483647) ∧ True)) := by
  refine sC.of rfl (by decide) (le_t rfl) ?_
  refine mr_lvE (lv' := [(0, .ref 87), (1, iv p1), (2, iv p2), (3, iv p3)]) rfl ?_
  refine mr_iload_n (pc := 0) (z := p3) dX2_leastBelow_0 rfl rfl ?_
  refine mr_bipush (pc := 1) (z := 32) dX2_leastBelow_1 (by decide) ?_
  refine mr_icmp_ge (pc := 3) (tgt := 16) dX2_leastBelow_3 (by decide) (r32 hp3 rfl) (r32 (rR (x := 32)) rfl) (fun h => ((vc_X2_leastBelow_16_1 h hp3)).elim) (fun _ => ?_)
  refine sv_aload_n (pc := 6) dX2_leastBelow_6 rfl rfl ?_
  refine mr_iload_n (pc := 7) (z := p1) dX2_leastBelow_7 rfl rfl ?_
  refine mr_iload_n (pc := 8) (z := p2) dX2_leastBelow_8 rfl rfl ?_
  refine mr_iload_n (pc := 9) (z := p3) dX2_leastBelow_9 rfl rfl ?_
  refine mr_cVP (pc := 10) (c_X2_isSplit hw hT hp1 hp2 (rW (c := (-2147483648)) (d := 2147483647) hp3 rfl) (vc_X9_end_1 hq0 hp1)) (gOk _ _ _ _ _) dX2_leastBelow_10 (tX2_isSplit _ _ _ _ _) ⟨wV_X2_isSplit, wL_X2_isSplit⟩ wM_X2_106 (gCX2 _ _ _ _ _) rfl (A_87 hw) rfl ⟨le_t rfl, le_t rfl⟩ ⟨le_t rfl, le_t rfl⟩ rfl (le_t rfl) fun z5 h4 => ?_
  refine mr_if_ne (pc := 13) (tgt := 26) dX2_leastBelow_13 (by decide) (r32 h4.1 rfl) (fun h6 => ?_) (fun h6 => ?_)
  · have h7 : 1 ≤ z5 ∧ z5 ≤ 1 := (vc_X12_ring_24 h6 h4.1)
    refine sv_aload_n (pc := 26) dX2_leastBelow_26 rfl rfl ?_
    refine mr_iload_n (pc := 27) (z := p1) dX2_leastBelow_27 rfl rfl ?_
    refine mr_iload_n (pc := 28) (z := p2) dX2_leastBelow_28 rfl rfl ?_
    refine mr_iload_n (pc := 29) (z := p3) dX2_leastBelow_29 rfl rfl ?_
    refine mr_iconst (pc := 30) (z := 1) dX2_leastBelow_30 ?_
    refine mr_iadd (pc := 31) (x := p3) (y := 1) dX2_leastBelow_31 ?_
    refine mr_cVI (pc := 32) (c_X2_leastBelow_17 hw hT hp1 hp2 (rAdd (e := 17) (f := 17) hp3 (rR (x := 1)) rfl) (vc_X9_end_1 hq0 hp1)) (gOk _ _ _ _ _) dX2_leastBelow_32 (tX2_leastBelow _ _ _ _ _) ⟨wV_X2_leastBelow, wL_X2_leastBelow⟩ wM_X2_101 (gCX2 _ _ _ _ _) rfl (A_87 hw) rfl ⟨le_t rfl, le_t rfl⟩ ⟨le_t rfl, le_t rfl⟩ rfl (le_t rfl) fun z12 μ8 T9 F10 h11 => ?_
    refine mr_istore (pc := 35) (lv' := [(4, iv z12), (0, .ref 87), (1, iv p1), (2, iv p2), (3, iv p3)]) dX2_leastBelow_35 (by decide) rfl ?_
    refine sv_aload_n (pc := 37) dX2_leastBelow_37 rfl rfl ?_
    refine mr_iload_n (pc := 38) (z := p1) dX2_leastBelow_38 rfl rfl ?_
    refine mr_iload_n (pc := 39) (z := p2) dX2_leastBelow_39 rfl rfl ?_
    refine mr_iconst (pc := 40) (z := 1) dX2_leastBelow_40 ?_
    refine mr_bipush (pc := 41) (z := 31) dX2_leastBelow_41 (by decide) ?_
    refine mr_iload_n (pc := 43) (z := p3) dX2_leastBelow_43 rfl rfl ?_
    refine mr_isub (pc := 44) (x := 31) (y := p3) dX2_leastBelow_44 ?_
    refine mr_ishl (pc := 45) (x := 1) (y := (31 - p3)) dX2_leastBelow_45 ?_
    refine mr_gen (P := fun z => (-2147483648) ≤ z ∧ z ≤ 2147483647) (r32i _) fun z13 q14 h15 => ?_
    refine mr_ior (pc := 46) (x := p2) (y := z13) dX2_leastBelow_46 ?_
    refine mr_gen (P := fun z => (-2147483648) ≤ z ∧ z ≤ 2147483647) (r32i _) fun z16 q17 h18 => ?_
    refine mr_iload_n (pc := 47) (z := p3) dX2_leastBelow_47 rfl rfl ?_
    refine mr_iconst (pc := 48) (z := 1) dX2_leastBelow_48 ?_
    refine mr_iadd (pc := 49) (x := p3) (y := 1) dX2_leastBelow_49 ?_
    refine mr_cVI (pc := 50) (c_X2_leastBelow_17 hw T9 hp1 h18 (rAdd (e := 17) (f := 17) hp3 (rR (x := 1)) rfl) (vc_X9_end_1 hq0 hp1)) (gOk _ _ _ _ _) dX2_leastBelow_50 (tX2_leastBelow _ _ _ _ _) ⟨wV_X2_leastBelow, wL_X2_leastBelow⟩ wM_X2_101 (gCX2 _ _ _ _ _) rfl (A_87 hw) rfl ⟨le_t rfl, le_t rfl⟩ ⟨le_t rfl, le_t rfl⟩ rfl (le_t rfl) fun z23 μ19 T20 F21 h22 => ?_
    refine mr_istore (pc := 53) (lv' := [(5, iv z23), (4, iv z12), (0, .ref 87), (1, iv p1), (2, iv p2), (3, iv p3)]) dX2_leastBelow_53 (by decide) rfl ?_
    refine mr_iload (pc := 55) (z := z12) dX2_leastBelow_55 rfl ?_
    refine mr_iload (pc := 57) (z := z23) dX2_leastBelow_57 rfl ?_
    refine mr_iand (pc := 59) (x := z12) (y := z23) dX2_leastBelow_59 ?_
    refine mr_gen (P := fun z => (-2147483648) ≤ z ∧ z ≤ 2147483647) (r32i _) fun z24 q25 h26 => ?_
    refine mr_if_eq (pc := 60) (tgt := 69) dX2_leastBelow_60 (by decide) h26 (fun h27 => ?_) (fun h27 => ?_)
    · have h28 : 0 ≤ z24 ∧ z24 ≤ 0 := (vc_X12_mask_1 h27 h26)
      refine sv_aload_n (pc := 69) dX2_leastBelow_69 rfl rfl ?_
      refine sv_dup (pc := 70) dX2_leastBelow_70 rfl ?_
      refine gf_X2_7 (pc := 71) dX2_leastBelow_71 wF_X2_98 (A_87 hw) T20 fun z29 q30 h31 => ?_
      refine mr_iconst (pc := 74) (z := 1) dX2_leastBelow_74 ?_
      refine mr_iadd (pc := 75) (x := z29) (y := 1) dX2_leastBelow_75 ?_
      refine mr_wrap fun z32 h33 => ?_
      refine pf_X2_7 (pc := 76) dX2_leastBelow_76 wF_X2_98 (A_87 hw) T20 h33 fun μ34 u35 T36 => ?_
      refine mr_iload (pc := 79) (z := z12) dX2_leastBelow_79 rfl ?_
      refine mr_iload (pc := 81) (z := z23) dX2_leastBelow_81 rfl ?_
      refine mr_ior (pc := 83) (x := z12) (y := z23) dX2_leastBelow_83 ?_
      refine mr_gen (P := fun z => (-2147483648) ≤ z ∧ z ≤ 2147483647) (r32i _) fun z37 q38 h39 => ?_
      exact mr_iret dX2_leastBelow_84 rfl (le_t rfl) (le_t rfl) T36 (mF.up (mF.call (mF.call mF.refl F10 rfl) F21 rfl) (A_87 hw) u35 rfl) ⟨h39, trivial⟩
    refine mr_iload (pc := 63) (z := z12) dX2_leastBelow_63 rfl ?_
    refine mr_iload (pc := 65) (z := z23) dX2_leastBelow_65 rfl ?_
    refine mr_iand (pc := 67) (x := z12) (y := z23) dX2_leastBelow_67 ?_
    refine mr_gen (P := fun z => (-2147483648) ≤ z ∧ z ≤ 2147483647) (r32i _) fun z40 q41 h42 => ?_
    exact mr_iret dX2_leastBelow_68 rfl (le_t rfl) (le_t rfl) T20 (mF.call (mF.call mF.refl F10 rfl) F21 rfl) ⟨h42, trivial⟩
  have h43 : 0 ≤ z5 ∧ z5 ≤ 0 := (vc_X12_ring_22 h6 h4.1)
  refine sv_aload_n (pc := 16) dX2_leastBelow_16 rfl rfl ?_
  refine mr_iload_n (pc := 17) (z := p1) dX2_leastBelow_17 rfl rfl ?_
  refine mr_iload_n (pc := 18) (z := p2) dX2_leastBelow_18 rfl rfl ?_
  refine mr_cVP (pc := 19) (c_X2_tieFor hw hT hp1 hp2 (vc_X9_end_1 hq0 hp1)) (gOk _ _ _ _ _) dX2_leastBelow_19 (tX2_tieFor _ _ _ _ _) ⟨wV_X2_tieFor, wL_X2_tieFor⟩ wM_X2_60 (gCX2 _ _ _ _ _) rfl (A_87 hw) rfl ⟨le_t rfl, le_t rfl⟩ ⟨le_t rfl, le_t rfl⟩ rfl (le_t rfl) fun z48 h47 => ?_
  refine mr_cSP (pc := 22) (c_X2_aimBit hw hT h47.1) (gOk _ _ _ _ _) dX2_leastBelow_22 (tX2_aimBit _ _ _ _ _) wS_X2_aimBit wM_X2_110 ⟨le_t rfl, le_t rfl⟩ ⟨le_t rfl, le_t rfl⟩ rfl (le_t rfl) fun z53 h52 => ?_
  exact mr_iret dX2_leastBelow_25 rfl (le_t rfl) (le_t rfl) hT mF.refl ⟨h52.1, trivial⟩
theorem vc_X2_leastBelow_15_1 {p3 : Int} (h0 : 32 ≤ p3) (h1 : 15 ≤ p3 ∧ p3 ≤ 15) : False := by omega
set_option maxRecDepth 4000 in
set_option maxHeartbeats 4000000 in
theorem c_X2_leastBelow_15 {l : Launch} {D : va_G} {c : Nat → ClassId} {H0 : Heap} {sa : Nat × Nat × (Nat → Int32)} {w : mW} {μ : mM} (hw : mWF w) (hT : mT w μ) {p1 : Int} (hp1 : 0 ≤ p1 ∧ p1 ≤ 9) {p2 : Int} (hp2 : (-2147483648) ≤ p2 ∧ p2 ≤ 2147483647) {p3 : Int} (hp3 : 15 ≤ p3 ∧ p3 ≤ 15) (hq0 : p1 < w.2.2.2 0) : sC (gG l D c H0 sa) mX2_leastBelow 20 0 0 [.ref 87, iv p1, iv p2, iv p3] (mk w μ) (qI w [87007] μ (fun z μ1 => ((-2147483648) ≤ z ∧ z ≤ 2147483647) ∧ True)) := by
  refine sC.of rfl (by decide) (le_t rfl) ?_
  refine mr_lvE (lv' := [(0, .ref 87), (1, iv p1), (2, iv p2), (3, iv p3)]) rfl ?_
  refine mr_iload_n (pc := 0) (z := p3) dX2_leastBelow_0 rfl rfl ?_
  refine mr_bipush (pc := 1) (z := 32) dX2_leastBelow_1 (by decide) ?_
  refine mr_icmp_ge (pc := 3) (tgt := 16) dX2_leastBelow_3 (by decide) (r32 hp3 rfl) (r32 (rR (x := 32)) rfl) (fun h => ((vc_X2_leastBelow_15_1 h hp3)).elim) (fun _ => ?_)
  refine sv_aload_n (pc := 6) dX2_leastBelow_6 rfl rfl ?_
  refine mr_iload_n (pc := 7) (z := p1) dX2_leastBelow_7 rfl rfl ?_
  refine mr_iload_n (pc := 8) (z := p2) dX2_leastBelow_8 rfl rfl ?_
  refine mr_iload_n (pc := 9) (z := p3) dX2_leastBelow_9 rfl rfl ?_
  refine mr_cVP (pc := 10) (c_X2_isSplit hw hT hp1 hp2 (rW (c := (-2147483648)) (d := 2147483647) hp3 rfl) (vc_X9_end_1 hq0 hp1)) (gOk _ _ _ _ _) dX2_leastBelow_10 (tX2_isSplit _ _ _ _ _) ⟨wV_X2_isSplit, wL_X2_isSplit⟩ wM_X2_106 (gCX2 _ _ _ _ _) rfl (A_87 hw) rfl ⟨le_t rfl, le_t rfl⟩ ⟨le_t rfl, le_t rfl⟩ rfl (le_t rfl) fun z5 h4 => ?_
  refine mr_if_ne (pc := 13) (tgt := 26) dX2_leastBelow_13 (by decide) (r32 h4.1 rfl) (fun h6 => ?_) (fun h6 => ?_)
  · have h7 : 1 ≤ z5 ∧ z5 ≤ 1 := (vc_X12_ring_24 h6 h4.1)
    refine sv_aload_n (pc := 26) dX2_leastBelow_26 rfl rfl ?_
    refine mr_iload_n (pc := 27) (z := p1) dX2_leastBelow_27 rfl rfl ?_
    refine mr_iload_n (pc := 28) (z := p2) dX2_leastBelow_28 rfl rfl ?_
    refine mr_iload_n (pc := 29) (z := p3) dX2_leastBelow_29 rfl rfl ?_
    refine mr_iconst (pc := 30) (z := 1) dX2_leastBelow_30 ?_
    refine mr_iadd (pc := 31) (x := p3) (y := 1) dX2_leastBelow_31 ?_
    refine mr_cVI (pc := 32) (c_X2_leastBelow_16 hw hT hp1 hp2 (rAdd (e := 16) (f := 16) hp3 (rR (x := 1)) rfl) (vc_X9_end_1 hq0 hp1)) (gOk _ _ _ _ _) dX2_leastBelow_32 (tX2_leastBelow _ _ _ _ _) ⟨wV_X2_leastBelow, wL_X2_leastBelow⟩ wM_X2_101 (gCX2 _ _ _ _ _) rfl (A_87 hw) rfl ⟨le_t rfl, le_t rfl⟩ ⟨le_t rfl, le_t rfl⟩ rfl (le_t rfl) fun z12 μ8 T9 F10 h11 => ?_
    refine mr_istore (pc := 35) (lv' := [(4, iv z12), (0, .ref 87), (1, iv p1), (2, iv p2), (3, iv p3)]) dX2_leastBelow_35 (by decide) rfl ?_
    refine sv_aload_n (pc := 37) dX2_leastBelow_37 rfl rfl ?_
    refine mr_iload_n (pc := 38) (z := p1) dX2_leastBelow_38 rfl rfl ?_
    refine mr_iload_n (pc := 39) (z := p2) dX2_leastBelow_39 rfl rfl ?_
    refine mr_iconst (pc := 40) (z := 1) dX2_leastBelow_40 ?_
    refine mr_bipush (pc := 41) (z := 31) dX2_leastBelow_41 (by decide) ?_
    refine mr_iload_n (pc := 43) (z := p3) dX2_leastBelow_43 rfl rfl ?_
    refine mr_isub (pc := 44) (x := 31) (y := p3) dX2_leastBelow_44 ?_
    refine mr_ishl (pc := 45) (x := 1) (y := (31 - p3)) dX2_leastBelow_45 ?_
    refine mr_gen (P := fun z => (-2147483648) ≤ z ∧ z ≤ 2147483647) (r32i _) fun z13 q14 h15 => ?_
    refine mr_ior (pc := 46) (x := p2) (y := z13) dX2_leastBelow_46 ?_
    refine mr_gen (P := fun z => (-2147483648) ≤ z ∧ z ≤ 2147483647) (r32i _) fun z16 q17 h18 => ?_
    refine mr_iload_n (pc := 47) (z := p3) dX2_leastBelow_47 rfl rfl ?_
    refine mr_iconst (pc := 48) (z := 1) dX2_leastBelow_48 ?_
    refine mr_iadd (pc := 49) (x := p3) (y := 1) dX2_leastBelow_49 ?_
    refine mr_cVI (pc := 50) (c_X2_leastBelow_16 hw T9 hp1 h18 (rAdd (e := 16) (f := 16) hp3 (rR (x := 1)) rfl) (vc_X9_end_1 hq0 hp1)) (gOk _ _ _ _ _) dX2_leastBelow_50 (tX2_leastBelow _ _ _ _ _) ⟨wV_X2_leastBelow, wL_X2_leastBelow⟩ wM_X2_101 (gCX2 _ _ _ _ _) rfl (A_87 hw) rfl ⟨le_t rfl, le_t rfl⟩ ⟨le_t rfl, le_t rfl⟩ rfl (le_t rfl) fun z23 μ19 T20 F21 h22 => ?_
    refine mr_istore (pc := 53) (lv' := [(5, iv z23), (4, iv z12), (0, .ref 87), (1, iv p1), (2, iv p2), (3, iv p3)]) dX2_leastBelow_53 (by decide) rfl ?_
    refine mr_iload (pc := 55) (z := z12) dX2_leastBelow_55 rfl ?_
    refine mr_iload (pc := 57) (z := z23) dX2_leastBelow_57 rfl ?_
    refine mr_iand (pc := 59) (x := z12) (y := z23) dX2_leastBelow_59 ?_
    refine mr_gen (P := fun z => (-2147483648) ≤ z ∧ z ≤ 2147483647) (r32i _) fun z24 q25 h26 => ?_
    refine mr_if_eq (pc := 60) (tgt := 69) dX2_leastBelow_60 (by decide) h26 (fun h27 => ?_) (fun h27 => ?_)
    · have h28 : 0 ≤ z24 ∧ z24 ≤ 0 := (vc_X12_mask_1 h27 h26)
      refine sv_aload_n (pc := 69) dX2_leastBelow_69 rfl rfl ?_
      refine sv_dup (pc := 70) dX2_leastBelow_70 rfl ?_
      refine gf_X2_7 (pc := 71) dX2_leastBelow_71 wF_X2_98 (A_87 hw) T20 fun z29 q30 h31 => ?_
      refine mr_iconst (pc := 74) (z := 1) dX2_leastBelow_74 ?_
      refine mr_iadd (pc := 75) (x := z29) (y := 1) dX2_leastBelow_75 ?_
      refine mr_wrap fun z32 h33 => ?_
      refine pf_X2_7 (pc := 76) dX2_leastBelow_76 wF_X2_98 (A_87 hw) T20 h33 fun μ34 u35 T36 => ?_
      refine mr_iload (pc := 79) (z := z12) dX2_leastBelow_79 rfl ?_
      refine mr_iload (pc := 81) (z := z23) dX2_leastBelow_81 rfl ?_
      refine mr_ior (pc := 83) (x := z12) (y := z23) dX2_leastBelow_83 ?_
      refine mr_gen (P := fun z => (-2147483648) ≤ z ∧ z ≤ 2147483647) (r32i _) fun z37 q38 h39 => ?_
      exact mr_iret dX2_leastBelow_84 rfl (le_t rfl) (le_t rfl) T36 (mF.up (mF.call (mF.call mF.refl F10 rfl) F21 rfl) (A_87 hw) u35 rfl) ⟨h39, trivial⟩
    refine mr_iload (pc := 63) (z := z12) dX2_leastBelow_63 rfl ?_
    refine mr_iload (pc := 65) (z := z23) dX2_leastBelow_65 rfl ?_
    refine mr_iand (pc := 67) (x := z12) (y := z23) dX2_leastBelow_67 ?_
    refine mr_gen (P := fun z => (-2147483648) ≤ z ∧ z ≤ 2147483647) (r32i _) fun z40 q41 h42 => ?_
    exact mr_iret dX2_leastBelow_68 rfl (le_t rfl) (le_t rfl) T20 (mF.call (mF.call mF.refl F10 rfl) F21 rfl) ⟨h42, trivial⟩
  have h43 : 0 ≤ z5 ∧ z5 ≤ 0 := (vc_X12_ring_22 h6 h4.1)
  refine sv_aload_n (pc := 16) dX2_leastBelow_16 rfl rfl ?_
  refine mr_iload_n (pc := 17) (z := p1) dX2_leastBelow_17 rfl rfl ?_
  refine mr_iload_n (pc := 18) (z := p2) dX2_leastBelow_18 rfl rfl ?_
  refine mr_cVP (pc := 19) (c_X2_tieFor hw hT hp1 hp2 (vc_X9_end_1 hq0 hp1)) (gOk _ _ _ _ _) dX2_leastBelow_19 (tX2_tieFor _ _ _ _ _) ⟨wV_X2_tieFor, wL_X2_tieFor⟩ wM_X2_60 (gCX2 _ _ _ _ _) rfl (A_87 hw) rfl ⟨le_t rfl, le_t rfl⟩ ⟨le_t rfl, le_t rfl⟩ rfl (le_t rfl) fun z48 h47 => ?_
  refine mr_cSP (pc := 22) (c_X2_aimBit hw hT h47.1) (gOk _ _ _ _ _) dX2_leastBelow_22 (tX2_aimBit _ _ _ _ _) wS_X2_aimBit wM_X2_110 ⟨le_t rfl, le_t rfl⟩ ⟨le_t rfl, le_t rfl⟩ rfl (le_t rfl) fun z53 h52 => ?_
  exact mr_iret dX2_leastBelow_25 rfl (le_t rfl) (le_t rfl) hT mF.refl ⟨h52.1, trivial⟩
theorem vc_X2_leastBelow_14_1 {p3 : Int} (h0 : 32 ≤ p3) (h1 : 14 ≤ p3 ∧ p3 ≤ 14) : False := by omega
set_option maxRecDepth 4000 in
set_option maxHeartbeats 4000000 in
theorem c_X2_leastBelow_14 {l : Launch} {D : va_G} {c : Nat → ClassId} {H0 : Heap} {sa : Nat × Nat × (Nat → Int32)} {w : mW} {μ : mM} (hw : mWF w) (hT : mT w μ) {p1 : Int} (hp1 : 0 ≤ p1 ∧ p1 ≤ 9) {p2 : Int} (hp2 : (-2147483648) ≤ p2 ∧ p2 ≤ 2147483647) {p3 : Int} (hp3 : 14 ≤ p3 ∧ p3 ≤ 14) (hq0 : p1 < w.2.2.2 0) : sC (gG l D c H0 sa) mX2_leastBelow 21 0 0 [.ref 87, iv p1, iv p2, iv p3] (mk w μ) (qI w [87007] μ (fun z μ1 => ((-2147483648) ≤ z ∧ z ≤ 2147483647) ∧ True)) := by
  refine sC.of rfl (by decide) (le_t rfl) ?_
  refine mr_lvE (lv' := [(0, .ref 87), (1, iv p1), (2, iv p2), (3, iv p3)]) rfl ?_
  refine mr_iload_n (pc := 0) (z := p3) dX2_leastBelow_0 rfl rfl ?_
  refine mr_bipush (pc := 1) (z := 32) dX2_leastBelow_1 (by decide) ?_
  refine mr_icmp_ge (pc := 3) (tgt := 16) dX2_leastBelow_3 (by decide) (r32 hp3 rfl) (r32 (rR (x := 32)) rfl) (fun h => ((vc_X2_leastBelow_14_1 h hp3)).elim) (fun _ => ?_)
  refine sv_aload_n (pc := 6) dX2_leastBelow_6 rfl rfl ?_
  refine mr_iload_n (pc := 7) (z := p1) dX2_leastBelow_7 rfl rfl ?_
  refine mr_iload_n (pc := 8) (z := p2) dX2_leastBelow_8 rfl rfl ?_
  refine mr_iload_n (pc := 9) (z := p3) dX2_leastBelow_9 rfl rfl ?_
  refine mr_cVP (pc := 10) (c_X2_isSplit hw hT hp1 hp2 (rW (c := (-2147483648)) (d := 2147483647) hp3 rfl) (vc_X9_end_1 hq0 hp1)) (gOk _ _ _ _ _) dX2_leastBelow_10 (tX2_isSplit _ _ _ _ _) ⟨wV_X2_isSplit, wL_X2_isSplit⟩ wM_X2_106 (gCX2 _ _ _ _ _) rfl (A_87 hw) rfl ⟨le_t rfl, le_t rfl⟩ ⟨le_t rfl, le_t rfl⟩ rfl (le_t rfl) fun z5 h4 => ?_
  refine mr_if_ne (pc := 13) (tgt := 26) dX2_leastBelow_13 (by decide) (r32 h4.1 rfl) (fun h6 => ?_) (fun h6 => ?_)
  · have h7 : 1 ≤ z5 ∧ z5 ≤ 1 := (vc_X12_ring_24 h6 h4.1)
    refine sv_aload_n (pc := 26) dX2_leastBelow_26 rfl rfl ?_
    refine mr_iload_n (pc := 27) (z := p1) dX2_leastBelow_27 rfl rfl ?_
    refine mr_iload_n (pc := 28) (z := p2) dX2_leastBelow_28 rfl rfl ?_
    refine mr_iload_n (pc := 29) (z := p3) dX2_leastBelow_29 rfl rfl ?_
    refine mr_iconst (pc := 30) (z := 1) dX2_leastBelow_30 ?_
    refine mr_iadd (pc := 31) (x := p3) (y := 1) dX2_leastBelow_31 ?_
    refine mr_cVI (pc := 32) (c_X2_leastBelow_15 hw hT hp1 hp2 (rAdd (e := 15) (f := 15) hp3 (rR (x := 1)) rfl) (vc_X9_end_1 hq0 hp1)) (gOk _ _ _ _ _) dX2_leastBelow_32 (tX2_leastBelow _ _ _ _ _) ⟨wV_X2_leastBelow, wL_X2_leastBelow⟩ wM_X2_101 (gCX2 _ _ _ _ _) rfl (A_87 hw) rfl ⟨le_t rfl, le_t rfl⟩ ⟨le_t rfl, le_t rfl⟩ rfl (le_t rfl) fun z12 μ8 T9 F10 h11 => ?_
    refine mr_istore (pc := 35) (lv' := [(4, iv z12), (0, .ref 87), (1, iv p1), (2, iv p2), (3, iv p3)]) dX2_leastBelow_35 (by decide) rfl ?_
    refine sv_aload_n (pc := 37) dX2_leastBelow_37 rfl rfl ?_
    refine mr_iload_n (pc := 38) (z := p1) dX2_leastBelow_38 rfl rfl ?_
    refine mr_iload_n (pc := 39) (z := p2) dX2_leastBelow_39 rfl rfl ?_
    refine mr_iconst (pc := 40) (z := 1) dX2_leastBelow_40 ?_
    refine mr_bipush (pc := 41) (z := 31) dX2_leastBelow_41 (by decide) ?_
    refine mr_iload_n (pc := 43) (z := p3) dX2_leastBelow_43 rfl rfl ?_
    refine mr_isub (pc := 44) (x := 31) (y := p3) dX2_leastBelow_44 ?_
    refine mr_ishl (pc := 45) (x := 1) (y := (31 - p3)) dX2_leastBelow_45 ?_
    refine mr_gen (P := fun z => (-2147483648) ≤ z ∧ z ≤ 2147483647) (r32i _) fun z13 q14 h15 => ?_
    refine mr_ior (pc := 46) (x := p2) (y := z13) dX2_leastBelow_46 ?_
    refine mr_gen (P := fun z => (-2147483648) ≤ z ∧ z ≤ 2147483647) (r32i _) fun z16 q17 h18 => ?_
    refine mr_iload_n (pc := 47) (z := p3) dX2_leastBelow_47 rfl rfl ?_
    refine mr_iconst (pc := 48) (z := 1) dX2_leastBelow_48 ?_
    refine mr_iadd (pc := 49) (x := p3) (y := 1) dX2_leastBelow_49 ?_
    refine mr_cVI (pc := 50) (c_X2_leastBelow_15 hw T9 hp1 h18 (rAdd (e := 15) (f := 15) hp3 (rR (x := 1)) rfl) (vc_X9_end_1 hq0 hp1)) (gOk _ _ _ _ _) dX2_leastBelow_50 (tX2_leastBelow _ _ _ _ _) ⟨wV_X2_leastBelow, wL_X2_leastBelow⟩ wM_X2_101 (gCX2 _ _ _ _ _) rfl (A_87 hw) rfl ⟨le_t rfl, le_t rfl⟩ ⟨le_t rfl, le_t rfl⟩ rfl (le_t rfl) fun z23 μ19 T20 F21 h22 => ?_
    refine mr_istore (pc := 53) (lv' := [(5, iv z23), (4, iv z12), (0, .ref 87), (1, iv p1), (2, iv p2), (3, iv p3)]) dX2_leastBelow_53 (by decide) rfl ?_
    refine mr_iload (pc := 55) (z := z12) dX2_leastBelow_55 rfl ?_
    refine mr_iload (pc := 57) (z := z23) dX2_leastBelow_57 rfl ?_
    refine mr_iand (pc := 59) (x := z12) (y := z23) dX2_leastBelow_59 ?_
    refine mr_gen (P := fun z => (-2147483648) ≤ z ∧ z ≤ 2147483647) (r32i _) fun z24 q25 h26 => ?_
    refine mr_if_eq (pc := 60) (tgt := 69) dX2_leastBelow_60 (by decide) h26 (fun h27 => ?_) (fun h27 => ?_)
    · have h28 : 0 ≤ z24 ∧ z24 ≤ 0 := (vc_X12_mask_1 h27 h26)
      refine sv_aload_n (pc := 69) dX2_leastBelow_69 rfl rfl ?_
      refine sv_dup (pc := 70) dX2_leastBelow_70 rfl ?_
      refine gf_X2_7 (pc := 71) dX2_leastBelow_71 wF_X2_98 (A_87 hw) T20 fun z29 q30 h31 => ?_
      refine mr_iconst (pc := 74) (z := 1) dX2_leastBelow_74 ?_
      refine mr_iadd (pc := 75) (x := z29) (y := 1) dX2_leastBelow_75 ?_
      refine mr_wrap fun z32 h33 => ?_
      refine pf_X2_7 (pc := 76) dX2_leastBelow_76 wF_X2_98 (A_87 hw) T20 h33 fun μ34 u35 T36 => ?_
      refine mr_iload (pc := 79) (z := z12) dX2_leastBelow_79 rfl ?_
      refine mr_iload (pc := 81) (z := z23) dX2_leastBelow_81 rfl ?_
      refine mr_ior (pc := 83) (x := z12) (y := z23) dX2_leastBelow_83 ?_
      refine mr_gen (P := fun z => (-2147483648) ≤ z ∧ z ≤ 2147483647) (r32i _) fun z37 q38 h39 => ?_
      exact mr_iret dX2_leastBelow_84 rfl (le_t rfl) (le_t rfl) T36 (mF.up (mF.call (mF.call mF.refl F10 rfl) F21 rfl) (A_87 hw) u35 rfl) ⟨h39, trivial⟩
    refine mr_iload (pc := 63) (z := z12) dX2_leastBelow_63 rfl ?_
    refine mr_iload (pc := 65) (z := z23) dX2_leastBelow_65 rfl ?_
    refine mr_iand (pc := 67) (x := z12) (y := z23) dX2_leastBelow_67 ?_
    refine mr_gen (P := fun z => (-2147483648) ≤ z ∧ z ≤ 2147483647) (r32i _) fun z40 q41 h42 => ?_
    exact mr_iret dX2_leastBelow_68 rfl (le_t rfl) (le_t rfl) T20 (mF.call (mF.call mF.refl F10 rfl) F21 rfl) ⟨h42, trivial⟩
  have h43 : 0 ≤ z5 ∧ z5 ≤ 0 := (vc_X12_ring_22 h6 h4.1)
  refine sv_aload_n (pc := 16) dX2_leastBelow_16 rfl rfl ?_
  refine mr_iload_n (pc := 17) (z := p1) dX2_leastBelow_17 rfl rfl ?_
  refine mr_iload_n (pc := 18) (z := p2) dX2_leastBelow_18 rfl rfl ?_
  refine mr_cVP (pc := 19) (c_X2_tieFor hw hT hp1 hp2 (vc_X9_end_1 hq0 hp1)) (gOk _ _ _ _ _) dX2_leastBelow_19 (tX2_tieFor _ _ _ _ _) ⟨wV_X2_tieFor, wL_X2_tieFor⟩ wM_X2_60 (gCX2 _ _ _ _ _) rfl (A_87 hw) rfl ⟨le_t rfl, le_t rfl⟩ ⟨le_t rfl, le_t rfl⟩ rfl (le_t rfl) fun z48 h47 => ?_
  refine mr_cSP (pc := 22) (c_X2_aimBit hw hT h47.1) (gOk _ _ _ _ _) dX2_leastBelow_22 (tX2_aimBit _ _ _ _ _) wS_X2_aimBit wM_X2_110 ⟨le_t rfl, le_t rfl⟩ ⟨le_t rfl, le_t rfl⟩ rfl (le_t rfl) fun z53 h52 => ?_
  exact mr_iret dX2_leastBelow_25 rfl (le_t rfl) (le_t rfl) hT mF.refl ⟨h52.1, trivial⟩
theorem vc_X2_leastBelow_13_1 {p3 : Int} (h0 : 32 ≤ p3) (h1 : 13 ≤ p3 ∧ p3 ≤ 13) : False := by omega
set_option maxRecDepth 4000 in
set_option maxHeartbeats 4000000 in
theorem c_X2_leastBelow_13 {l : Launch} {D : va_G} {c : Nat → ClassId} {H0 : Heap} {sa : Nat × Nat × (Nat → Int32)} {w : mW} {μ : mM} (hw : mWF w) (hT : mT w μ) {p1 : Int} (hp1 : 0 ≤ p1 ∧ p1 ≤ 9) {p2 : Int} (hp2 : (-2147483648) ≤ p2 ∧ p2 ≤ 2147483647) {p3 : Int} (hp3 : 13 ≤ p3 ∧ p3 ≤ 13) (hq0 : p1 < w.2.2.2 0) : sC (gG l D c H0 sa) mX2_leastBelow 22 0 0 [.ref 87, iv p1, iv p2, iv p3] (mk w μ) (qI w [87007] μ (fun z μ1 => ((-2147483648) ≤ z ∧ z ≤ 2147483647) ∧ True)) := by
  refine sC.of rfl (by decide) (le_t rfl) ?_
  refine mr_lvE (lv' := [(0, .ref 87), (1, iv p1), (2, iv p2), (3, iv p3)]) rfl ?_
  refine mr_iload_n (pc := 0) (z := p3) dX2_leastBelow_0 rfl rfl ?_
  refine mr_bipush (pc := 1) (z := 32) dX2_leastBelow_1 (by decide) ?_
  refine mr_icmp_ge (pc := 3) (tgt := 16) dX2_leastBelow_3 (by decide) (r32 hp3 rfl) (r32 (rR (x := 32)) rfl) (fun h => ((vc_X2_leastBelow_13_1 h hp3)).elim) (fun _ => ?_)
  refine sv_aload_n (pc := 6) dX2_leastBelow_6 rfl rfl ?_
  refine mr_iload_n (pc := 7) (z := p1) dX2_leastBelow_7 rfl rfl ?_
  refine mr_iload_n (pc := 8) (z := p2) dX2_leastBelow_8 rfl rfl ?_
  refine mr_iload_n (pc := 9) (z := p3) dX2_leastBelow_9 rfl rfl ?_
  refine mr_cVP (pc := 10) (c_X2_isSplit hw hT hp1 hp2 (rW (c := (-2147483648)) (d := 2147483647) hp3 rfl) (vc_X9_end_1 hq0 hp1)) (gOk _ _ _ _ _) dX2_leastBelow_10 (tX2_isSplit _ _ _ _ _) ⟨wV_X2_isSplit, wL_X2_isSplit⟩ wM_X2_106 (gCX2 _ _ _ _ _) rfl (A_87 hw) rfl ⟨le_t rfl, le_t rfl⟩ ⟨le_t rfl, le_t rfl⟩ rfl (le_t rfl) fun z5 h4 => ?_
  refine mr_if_ne (pc := 13) (tgt := 26) dX2_leastBelow_13 (by decide) (r32 h4.1 rfl) (fun h6 => ?_) (fun h6 => ?_)
  · have h7 : 1 ≤ z5 ∧ z5 ≤ 1 := (vc_X12_ring_24 h6 h4.1)
    refine sv_aload_n (pc := 26) dX2_leastBelow_26 rfl rfl ?_
    refine mr_iload_n (pc := 27) (z := p1) dX2_leastBelow_27 rfl rfl ?_
    refine mr_iload_n (pc := 28) (z := p2) dX2_leastBelow_28 rfl rfl ?_
    refine mr_iload_n (pc := 29) (z := p3) dX2_leastBelow_29 rfl rfl ?_
    refine mr_iconst (pc := 30) (z := 1) dX2_leastBelow_30 ?_
    refine mr_iadd (pc := 31) (x := p3) (y := 1) dX2_leastBelow_31 ?_
    refine mr_cVI (pc := 32) (c_X2_leastBelow_14 hw hT hp1 hp2 (rAdd (e := 14) (f := 14) hp3 (rR (x := 1)) rfl) (vc_X9_end_1 hq0 hp1)) (gOk _ _ _ _ _) dX2_leastBelow_32 (tX2_leastBelow _ _ _ _ _) ⟨wV_X2_leastBelow, wL_X2_leastBelow⟩ wM_X2_101 (gCX2 _ _ _ _ _) rfl (A_87 hw) rfl ⟨le_t rfl, le_t rfl⟩ ⟨le_t rfl, le_t rfl⟩ rfl (le_t rfl) fun z12 μ8 T9 F10 h11 => ?_
    refine mr_istore (pc := 35) (lv' := [(4, iv z12), (0, .ref 87), (1, iv p1), (2, iv p2), (3, iv p3)]) dX2_leastBelow_35 (by decide) rfl ?_
    refine sv_aload_n (pc := 37) dX2_leastBelow_37 rfl rfl ?_
    refine mr_iload_n (pc := 38) (z := p1) dX2_leastBelow_38 rfl rfl ?_
    refine mr_iload_n (pc := 39) (z := p2) dX2_leastBelow_39 rfl rfl ?_
    refine mr_iconst (pc := 40) (z := 1) dX2_leastBelow_40 ?_
    refine mr_bipush (pc := 41) (z := 31) dX2_leastBelow_41 (by decide) ?_
    refine mr_iload_n (pc := 43) (z := p3) dX2_leastBelow_43 rfl rfl ?_
    refine mr_isub (pc := 44) (x := 31) (y := p3) dX2_leastBelow_44 ?_
    refine mr_ishl (pc := 45) (x := 1) (y := (31 - p3)) dX2_leastBelow_45 ?_
    refine mr_gen (P := fun z => (-2147483648) ≤ z ∧ z ≤ 2147483647) (r32i _) fun z13 q14 h15 => ?_
    refine mr_ior (pc := 46) (x := p2) (y := z13) dX2_leastBelow_46 ?_
    refine mr_gen (P := fun z => (-2147483648) ≤ z ∧ z ≤ 2147483647) (r32i _) fun z16 q17 h18 => ?_
    refine mr_iload_n (pc := 47) (z := p3) dX2_leastBelow_47 rfl rfl ?_
    refine mr_iconst (pc := 48) (z := 1) dX2_leastBelow_48 ?_
    refine mr_iadd (pc := 49) (x := p3) (y := 1) dX2_leastBelow_49 ?_
    refine mr_cVI (pc := 50) (c_X2_leastBelow_14 hw T9 hp1 h18 (rAdd (e := 14) (f := 14) hp3 (rR (x := 1)) rfl) (vc_X9_end_1 hq0 hp1)) (gOk _ _ _ _ _) dX2_leastBelow_50 (tX2_leastBelow _ _ _ _ _) ⟨wV_X2_leastBelow, wL_X2_leastBelow⟩ wM_X2_101 (gCX2 _ _ _ _ _) rfl (A_87 hw) rfl ⟨le_t rfl, le_t rfl⟩ ⟨le_t rfl, le_t rfl⟩ rfl (le_t rfl) fun z23 μ19 T20 F21 h22 => ?_
    refine mr_istore (pc := 53) (lv' := [(5, iv z23), (4, iv z12), (0, .ref 87), (1, iv p1), (2, iv p2), (3, iv p3)]) dX2_leastBelow_53 (by decide) rfl ?_
    refine mr_iload (pc := 55) (z := z12) dX2_leastBelow_55 rfl ?_
    refine mr_iload (pc := 57) (z := z23) dX2_leastBelow_57 rfl ?_
    refine mr_iand (pc := 59) (x := z12) (y := z23) dX2_leastBelow_59 ?_
    refine mr_gen (P := fun z => (-2147483648) ≤ z ∧ z ≤ 2147483647) (r32i _) fun z24 q25 h26 => ?_
    refine mr_if_eq (pc := 60) (tgt := 69) dX2_leastBelow_60 (by decide) h26 (fun h27 => ?_) (fun h27 => ?_)
    · have h28 : 0 ≤ z24 ∧ z24 ≤ 0 := (vc_X12_mask_1 h27 h26)
      refine sv_aload_n (pc := 69) dX2_leastBelow_69 rfl rfl ?_
      refine sv_dup (pc := 70) dX2_leastBelow_70 rfl ?_
      refine gf_X2_7 (pc := 71) dX2_leastBelow_71 wF_X2_98 (A_87 hw) T20 fun z29 q30 h31 => ?_
      refine mr_iconst (pc := 74) (z := 1) dX2_leastBelow_74 ?_
      refine mr_iadd (pc := 75) (x := z29) (y := 1) dX2_leastBelow_75 ?_
      refine mr_wrap fun z32 h33 => ?_
      refine pf_X2_7 (pc := 76) dX2_leastBelow_76 wF_X2_98 (A_87 hw) T20 h33 fun μ34 u35 T36 => ?_
      refine mr_iload (pc := 79) (z := z12) dX2_leastBelow_79 rfl ?_
      refine mr_iload (pc := 81) (z := z23) dX2_leastBelow_81 rfl ?_
      refine mr_ior (pc := 83) (x := z12) (y := z23) dX2_leastBelow_83 ?_
      refine mr_gen (P := fun z => (-2147483648) ≤ z ∧ z ≤ 2147483647) (r32i _) fun z37 q38 h39 => ?_
      exact mr_iret dX2_leastBelow_84 rfl (le_t rfl) (le_t rfl) T36 (mF.up (mF.call (mF.call mF.refl F10 rfl) F21 rfl) (A_87 hw) u35 rfl) ⟨h39, trivial⟩
    refine mr_iload (pc := 63) (z := z12) dX2_leastBelow_63 rfl ?_
    refine mr_iload (pc := 65) (z := z23) dX2_leastBelow_65 rfl ?_
    refine mr_iand (pc := 67) (x := z12) (y := z23) dX2_leastBelow_67 ?_
    refine mr_gen (P := fun z => (-2147483648) ≤ z ∧ z ≤ 2147483647) (r32i _) fun z40 q41 h42 => ?_
    exact mr_iret dX2_leastBelow_68 rfl (le_t rfl) (le_t rfl) T20 (mF.call (mF.call mF.refl F10 rfl) F21 rfl) ⟨h42, trivial⟩
  have h43 : 0 ≤ z5 ∧ z5 ≤ 0 := (vc_X12_ring_22 h6 h4.1)
  refine sv_aload_n (pc := 16) dX2_leastBelow_16 rfl rfl ?_
  refine mr_iload_n (pc := 17) (z := p1) dX2_leastBelow_17 rfl rfl ?_
  refine mr_iload_n (pc := 18) (z := p2) dX2_leastBelow_18 rfl rfl ?_
  refine mr_cVP (pc := 19) (c_X2_tieFor hw hT hp1 hp2 (vc_X9_end_1 hq0 hp1)) (gOk _ _ _ _ _) dX2_leastBelow_19 (tX2_tieFor _ _ _ _ _) ⟨wV_X2_tieFor, wL_X2_tieFor⟩ wM_X2_60 (gCX2 _ _ _ _ _) rfl (A_87 hw) rfl ⟨le_t rfl, le_t rfl⟩ ⟨le_t rfl, le_t rfl⟩ rfl (le_t rfl) fun z48 h47 => ?_
  refine mr_cSP (pc := 22) (c_X2_aimBit hw hT h47.1) (gOk _ _ _ _ _) dX2_leastBelow_22 (tX2_aimBit _ _ _ _ _) wS_X2_aimBit wM_X2_110 ⟨le_t rfl, le_t rfl⟩ ⟨le_t rfl, le_t rfl⟩ rfl (le_t rfl) fun z53 h52 => ?_
  exact mr_iret dX2_leastBelow_25 rfl (le_t rfl) (le_t rfl) hT mF.refl ⟨h52.1, trivial⟩
theorem vc_X2_leastBelow_12_1 {p3 : Int} (h0 : 32 ≤ p3) (h1 : 12 ≤ p3 ∧ p3 ≤ 12) : False := by omega
set_option maxRecDepth 4000 in
set_option maxHeartbeats 4000000 in
theorem c_X2_leastBelow_12 {l : Launch} {D : va_G} {c : Nat → ClassId} {H0 : Heap} {sa : Nat × Nat × (Nat → Int32)} {w : mW} {μ : mM} (hw : mWF w) (hT : mT w μ) {p1 : Int} (hp1 : 0 ≤ p1 ∧ p1 ≤ 9) {p2 : Int} (hp2 : (-2147483648) ≤ p2 ∧ p2 ≤ 2147483647) {p3 : Int} (hp3 : 12 ≤ p3 ∧ p3 ≤ 12) (hq0 : p1 < w.2.2.2 0) : sC (gG l D c H0 sa) mX2_leastBelow 23 0 0 [.ref 87, iv p1, iv p2, iv p3] (mk w μ) (qI w [87007] μ (fun z μ1 => ((-2147483648) ≤ z ∧ z ≤ 2147483647) ∧ True)) := by
  refine sC.of rfl (by decide) (le_t rfl) ?_
  refine mr_lvE (lv' := [(0, .ref 87), (1, iv p1), (2, iv p2), (3, iv p3)]) rfl ?_
  refine mr_iload_n (pc := 0) (z := p3) dX2_leastBelow_0 rfl rfl ?_
  refine mr_bipush (pc := 1) (z := 32) dX2_leastBelow_1 (by decide) ?_
  refine mr_icmp_ge (pc := 3) (tgt := 16) dX2_leastBelow_3 (by decide) (r32 hp3 rfl) (r32 (rR (x := 32)) rfl) (fun h => ((vc_X2_leastBelow_12_1 h hp3)).elim) (fun _ => ?_)
  refine sv_aload_n (pc := 6) dX2_leastBelow_6 rfl rfl ?_
  refine mr_iload_n (pc := 7) (z := p1) dX2_leastBelow_7 rfl rfl ?_
  refine mr_iload_n (pc := 8) (z := p2) dX2_leastBelow_8 rfl rfl ?_
  refine mr_iload_n (pc := 9) (z := p3) dX2_leastBelow_9 rfl rfl ?_
  refine mr_cVP (pc := 10) (c_X2_isSplit hw hT hp1 hp2 (rW (c := (-2147483648)) (d := 2147483647) hp3 rfl) (vc_X9_end_1 hq0 hp1)) (gOk _ _ _ _ _) dX2_leastBelow_10 (tX2_isSplit _ _ _ _ _) ⟨wV_X2_isSplit, wL_X2_isSplit⟩ wM_X2_106 (gCX2 _ _ _ _ _) rfl (A_87 hw) rfl ⟨le_t rfl, le_t rfl⟩ ⟨le_t rfl, le_t rfl⟩ rfl (le_t rfl) fun z5 h4 => ?_
  refine mr_if_ne (pc := 13) (tgt := 26) dX2_leastBelow_13 (by decide) (r32 h4.1 rfl) (fun h6 => ?_) (fun h6 => ?_)
  · have h7 : 1 ≤ z5 ∧ z5 ≤ 1 := (vc_X12_ring_24 h6 h4.1)
    refine sv_aload_n (pc := 26) dX2_leastBelow_26 rfl rfl ?_
    refine mr_iload_n (pc := 27) (z := p1) dX2_leastBelow_27 rfl rfl ?_
    refine mr_iload_n (pc := 28) (z := p2) dX2_leastBelow_28 rfl rfl ?_
    refine mr_iload_n (pc := 29) (z := p3) dX2_leastBelow_29 rfl rfl ?_
    refine mr_iconst (pc := 30) (z := 1) dX2_leastBelow_30 ?_
    refine mr_iadd (pc := 31) (x := p3) (y := 1) dX2_leastBelow_31 ?_
    refine mr_cVI (pc := 32) (c_X2_leastBelow_13 hw hT hp1 hp2 (rAdd (e := 13) (f := 13) hp3 (rR (x := 1)) rfl) (vc_X9_end_1 hq0 hp1)) (gOk _ _ _ _ _) dX2_leastBelow_32 (tX2_leastBelow _ _ _ _ _) ⟨wV_X2_leastBelow, wL_X2_leastBelow⟩ wM_X2_101 (gCX2 _ _ _ _ _) rfl (A_87 hw) rfl ⟨le_t rfl, le_t rfl⟩ ⟨le_t rfl, le_t rfl⟩ rfl (le_t rfl) fun z12 μ8 T9 F10 h11 => ?_
    refine mr_istore (pc := 35) (lv' := [(4, iv z12), (0, .ref 87), (1, iv p1), (2, iv p2), (3, iv p3)]) dX2_leastBelow_35 (by decide) rfl ?_
    refine sv_aload_n (pc := 37) dX2_leastBelow_37 rfl rfl ?_
    refine mr_iload_n (pc := 38) (z := p1) dX2_leastBelow_38 rfl rfl ?_
    refine mr_iload_n (pc := 39) (z := p2) dX2_leastBelow_39 rfl rfl ?_
    refine mr_iconst (pc := 40) (z := 1) dX2_leastBelow_40 ?_
    refine mr_bipush (pc := 41) (z := 31) dX2_leastBelow_41 (by decide) ?_
    refine mr_iload_n (pc := 43) (z := p3) dX2_leastBelow_43 rfl rfl ?_
    refine mr_isub (pc := 44) (x := 31) (y := p3) dX2_leastBelow_44 ?_
    refine mr_ishl (pc := 45) (x := 1) (y := (31 - p3)) dX2_leastBelow_45 ?_
    refine mr_gen (P := fun z => (-2147483648) ≤ z ∧ z ≤ 2147483647) (r32i _) fun z13 q14 h15 => ?_
    refine mr_ior (pc := 46) (x := p2) (y := z13) dX2_leastBelow_46 ?_
    refine mr_gen (P := fun z => (-2147483648) ≤ z ∧ z ≤ 2147483647) (r32i _) fun z16 q17 h18 => ?_
    refine mr_iload_n (pc := 47) (z := p3) dX2_leastBelow_47 rfl rfl ?_
    refine mr_iconst (pc := 48) (z := 1) dX2_leastBelow_48 ?_
    refine mr_iadd (pc := 49) (x := p3) (y := 1) dX2_leastBelow_49 ?_
    refine mr_cVI (pc := 50) (c_X2_leastBelow_13 hw T9 hp1 h18 (rAdd (e := 13) (f := 13) hp3 (rR (x := 1)) rfl) (vc_X9_end_1 hq0 hp1)) (gOk _ _ _ _ _) dX2_leastBelow_50 (tX2_leastBelow _ _ _ _ _) ⟨wV_X2_leastBelow, wL_X2_leastBelow⟩ wM_X2_101 (gCX2 _ _ _ _ _) rfl (A_87 hw) rfl ⟨le_t rfl, le_t rfl⟩ ⟨le_t rfl, le_t rfl⟩ rfl (le_t rfl) fun z23 μ19 T20 F21 h22 => ?_
    refine mr_istore (pc := 53) (lv' := [(5, iv z23), (4, iv z12), (0, .ref 87), (1, iv p1), (2, iv p2), (3, iv p3)]) dX2_leastBelow_53 (by decide) rfl ?_
    refine mr_iload (pc := 55) (z := z12) dX2_leastBelow_55 rfl ?_
    refine mr_iload (pc := 57) (z := z23) dX2_leastBelow_57 rfl ?_
    refine mr_iand (pc := 59) (x := z12) (y := z23) dX2_leastBelow_59 ?_
    refine mr_gen (P := fun z => (-2147483648) ≤ z ∧ z ≤ 2147483647) (r32i _) fun z24 q25 h26 => ?_
    refine mr_if_eq (pc := 60) (tgt := 69) dX2_leastBelow_60 (by decide) h26 (fun h27 => ?_) (fun h27 => ?_)
    · have h28 : 0 ≤ z24 ∧ z24 ≤ 0 := (vc_X12_mask_1 h27 h26)
      refine sv_aload_n (pc := 69) dX2_leastBelow_69 rfl rfl ?_
      refine sv_dup (pc := 70) dX2_leastBelow_70 rfl ?_
      refine gf_X2_7 (pc := 71) dX2_leastBelow_71 wF_X2_98 (A_87 hw) T20 fun z29 q30 h31 => ?_
      refine mr_iconst (pc := 74) (z := 1) dX2_leastBelow_74 ?_
      refine mr_iadd (pc := 75) (x := z29) (y := 1) dX2_leastBelow_75 ?_
      refine mr_wrap fun z32 h33 => ?_
      refine pf_X2_7 (pc := 76) dX2_leastBelow_76 wF_X2_98 (A_87 hw) T20 h33 fun μ34 u35 T36 => ?_
      refine mr_iload (pc := 79) (z := z12) dX2_leastBelow_79 rfl ?_
      refine mr_iload (pc := 81) (z := z23) dX2_leastBelow_81 rfl ?_
      refine mr_ior (pc := 83) (x := z12) (y := z23) dX2_leastBelow_83 ?_
      refine mr_gen (P := fun z => (-2147483648) ≤ z ∧ z ≤ 2147483647) (r32i _) fun z37 q38 h39 => ?_
      exact mr_iret dX2_leastBelow_84 rfl (le_t rfl) (le_t rfl) T36 (mF.up (mF.call (mF.call mF.refl F10 rfl) F21 rfl) (A_87 hw) u35 rfl) ⟨h39, trivial⟩
    refine mr_iload (pc := 63) (z := z12) dX2_leastBelow_63 rfl ?_
    refine mr_iload (pc := 65) (z := z23) dX2_leastBelow_65 rfl ?_
    refine mr_iand (pc := 67) (x := z12) (y := z23) dX2_leastBelow_67 ?_
    refine mr_gen (P := fun z => (-2147483648) ≤ z ∧ z ≤ 2147483647) (r32i _) fun z40 q41 h42 => ?_
    exact mr_iret dX2_leastBelow_68 rfl (le_t rfl) (le_t rfl) T20 (mF.call (mF.call mF.refl F10 rfl) F21 rfl) ⟨h42, trivial⟩
  have h43 : 0 ≤ z5 ∧ z5 ≤ 0 := (vc_X12_ring_22 h6 h4.1)
  refine sv_aload_n (pc := 16) dX2_leastBelow_16 rfl rfl ?_
  refine mr_iload_n (pc := 17) (z := p1) dX2_leastBelow_17 rfl rfl ?_
  refine mr_iload_n (pc := 18) (z := p2) dX2_leastBelow_18 rfl rfl ?_
  refine mr_cVP (pc := 19) (c_X2_tieFor hw hT hp1 hp2 (vc_X9_end_1 hq0 hp1)) (gOk _ _ _ _ _) dX2_leastBelow_19 (tX2_tieFor _ _ _ _ _) ⟨wV_X2_tieFor, wL_X2_tieFor⟩ wM_X2_60 (gCX2 _ _ _ _ _) rfl (A_87 hw) rfl ⟨le_t rfl, le_t rfl⟩ ⟨le_t rfl, le_t rfl⟩ rfl (le_t rfl) fun z48 h47 => ?_
  refine mr_cSP (pc := 22) (c_X2_aimBit hw hT h47.1) (gOk _ _ _ _ _) dX2_leastBelow_22 (tX2_aimBit _ _ _ _ _) wS_X2_aimBit wM_X2_110 ⟨le_t rfl, le_t rfl⟩ ⟨le_t rfl, le_t rfl⟩ rfl (le_t rfl) fun z53 h52 => ?_
  exact mr_iret dX2_leastBelow_25 rfl (le_t rfl) (le_t rfl) hT mF.refl ⟨h52.1, trivial⟩
theorem vc_X2_leastBelow_11_1 {p3 : Int} (h0 : 32 ≤ p3) (h1 : 11 ≤ p3 ∧ p3 ≤ 11) : False := by omega
set_option maxRecDepth 4000 in
set_option maxHeartbeats 4000000 in
theorem c_X2_leastBelow_11 {l : Launch} {D : va_G} {c : Nat → ClassId} {H0 : Heap} {sa : Nat × Nat × (Nat → Int32)} {w : mW} {μ : mM} (hw : mWF w) (hT : mT w μ) {p1 : Int} (hp1 : 0 ≤ p1 ∧ p1 ≤ 9) {p2 : Int} (hp2 : (-2147483648) ≤ p2 ∧ p2 ≤ 2147483647) {p3 : Int} (hp3 : 11 ≤ p3 ∧ p3 ≤ 11) (hq0 : p1 < w.2.2.2 0) : sC (gG l D c H0 sa) mX2_leastBelow 24 0 0 [.ref 87, iv p1, iv p2, iv p3] (mk w μ) (qI w [87007] μ (fun z μ1 => ((-2147483648) ≤ z ∧ z ≤ 2147483647) ∧ True)) := by
  refine sC.of rfl (by decide) (le_t rfl) ?_
  refine mr_lvE (lv' := [(0, .ref 87), (1, iv p1), (2, iv p2), (3, iv p3)]) rfl ?_
  refine mr_iload_n (pc := 0) (z := p3) dX2_leastBelow_0 rfl rfl ?_
  refine mr_bipush (pc := 1) (z := 32) dX2_leastBelow_1 (by decide) ?_
  refine mr_icmp_ge (pc := 3) (tgt := 16) dX2_leastBelow_3 (by decide) (r32 hp3 rfl) (r32 (rR (x := 32)) rfl) (fun h => ((vc_X2_leastBelow_11_1 h hp3)).elim) (fun _ => ?_)
  refine sv_aload_n (pc := 6) dX2_leastBelow_6 rfl rfl ?_
  refine mr_iload_n (pc := 7) (z := p1) dX2_leastBelow_7 rfl rfl ?_
  refine mr_iload_n (pc := 8) (z := p2) dX2_leastBelow_8 rfl rfl ?_
  refine mr_iload_n (pc := 9) (z := p3) dX2_leastBelow_9 rfl rfl ?_
  refine mr_cVP (pc := 10) (c_X2_isSplit hw hT hp1 hp2 (rW (c := (-2147483648)) (d := 2147483647) hp3 rfl) (vc_X9_end_1 hq0 hp1)) (gOk _ _ _ _ _) dX2_leastBelow_10 (tX2_isSplit _ _ _ _ _) ⟨wV_X2_isSplit, wL_X2_isSplit⟩ wM_X2_106 (gCX2 _ _ _ _ _) rfl (A_87 hw) rfl ⟨le_t rfl, le_t rfl⟩ ⟨le_t rfl, le_t rfl⟩ rfl (le_t rfl) fun z5 h4 => ?_
  refine mr_if_ne (pc := 13) (tgt := 26) dX2_leastBelow_13 (by decide) (r32 h4.1 rfl) (fun h6 => ?_) (fun h6 => ?_)
  · have h7 : 1 ≤ z5 ∧ z5 ≤ 1 := (vc_X12_ring_24 h6 h4.1)
    refine sv_aload_n (pc := 26) dX2_leastBelow_26 rfl rfl ?_
    refine mr_iload_n (pc := 27) (z := p1) dX2_leastBelow_27 rfl rfl ?_
    refine mr_iload_n (pc := 28) (z := p2) dX2_leastBelow_28 rfl rfl ?_
    refine mr_iload_n (pc := 29) (z := p3) dX2_leastBelow_29 rfl rfl ?_
    refine mr_iconst (pc := 30) (z := 1) dX2_leastBelow_30 ?_
    refine mr_iadd (pc := 31) (x := p3) (y := 1) dX2_leastBelow_31 ?_
    refine mr_cVI (pc := 32) (c_X2_leastBelow_12 hw hT hp1 hp2 (rAdd (e := 12) (f := 12) hp3 (rR (x := 1)) rfl) (vc_X9_end_1 hq0 hp1)) (gOk _ _ _ _ _) dX2_leastBelow_32 (tX2_leastBelow _ _ _ _ _) ⟨wV_X2_leastBelow, wL_X2_leastBelow⟩ wM_X2_101 (gCX2 _ _ _ _ _) rfl (A_87 hw) rfl ⟨le_t rfl, le_t rfl⟩ ⟨le_t rfl, le_t rfl⟩ rfl (le_t rfl) fun z12 μ8 T9 F10 h11 => ?_
    refine mr_istore (pc := 35) (lv' := [(4, iv z12), (0, .ref 87), (1, iv p1), (2, iv p2), (3, iv p3)]) dX2_leastBelow_35 (by decide) rfl ?_
    refine sv_aload_n (pc := 37) dX2_leastBelow_37 rfl rfl ?_
    refine mr_iload_n (pc := 38) (z := p1) dX2_leastBelow_38 rfl rfl ?_
    refine mr_iload_n (pc := 39) (z := p2) dX2_leastBelow_39 rfl rfl ?_
    refine mr_iconst (pc := 40) (z := 1) dX2_leastBelow_40 ?_
    refine mr_bipush (pc := 41) (z := 31) dX2_leastBelow_41 (by decide) ?_
    refine mr_iload_n (pc := 43) (z := p3) dX2_leastBelow_43 rfl rfl ?_
    refine mr_isub (pc := 44) (x := 31) (y := p3) dX2_leastBelow_44 ?_
    refine mr_ishl (pc := 45) (x := 1) (y := (31 - p3)) dX2_leastBelow_45 ?_
    refine mr_gen (P := fun z => (-2147483648) ≤ z ∧ z ≤ 2147483647) (r32i _) fun z13 q14 h15 => ?_
    refine mr_ior (pc := 46) (x := p2) (y := z13) dX2_leastBelow_46 ?_
    refine mr_gen (P := fun z => (-2147483648) ≤ z ∧ z ≤ 2147483647) (r32i _) fun z16 q17 h18 => ?_
    refine mr_iload_n (pc := 47) (z := p3) dX2_leastBelow_47 rfl rfl ?_
    refine mr_iconst (pc := 48) (z := 1) dX2_leastBelow_48 ?_
    refine mr_iadd (pc := 49) (x := p3) (y := 1) dX2_leastBelow_49 ?_
    refine mr_cVI (pc := 50) (c_X2_leastBelow_12 hw T9 hp1 h18 (rAdd (e := 12) (f := 12) hp3 (rR (x := 1)) rfl) (vc_X9_end_1 hq0 hp1)) (gOk _ _ _ _ _) dX2_leastBelow_50 (tX2_leastBelow _ _ _ _ _) ⟨wV_X2_leastBelow, wL_X2_leastBelow⟩ wM_X2_101 (gCX2 _ _ _ _ _) rfl (A_87 hw) rfl ⟨le_t rfl, le_t rfl⟩ ⟨le_t rfl, le_t rfl⟩ rfl (le_t rfl) fun z23 μ19 T20 F21 h22 => ?_
    refine mr_istore (pc := 53) (lv' := [(5, iv z23), (4, iv z12), (0, .ref 87), (1, iv p1), (2, iv p2), (3, iv p3)]) dX2_leastBelow_53 (by decide) rfl ?_
    refine mr_iload (pc := 55) (z := z12) dX2_leastBelow_55 rfl ?_
    refine mr_iload (pc := 57) (z := z23) dX2_leastBelow_57 rfl ?_
    refine mr_iand (pc := 59) (x := z12) (y := z23) dX2_leastBelow_59 ?_
    refine mr_gen (P := fun z => (-2147483648) ≤ z ∧ z ≤ 2147483647) (r32i _) fun z24 q25 h26 => ?_
    refine mr_if_eq (pc := 60) (tgt := 69) dX2_leastBelow_60 (by decide) h26 (fun h27 => ?_) (fun h27 => ?_)
    · have h28 : 0 ≤ z24 ∧ z24 ≤ 0 := (vc_X12_mask_1 h27 h26)
      refine sv_aload_n (pc := 69) dX2_leastBelow_69 rfl rfl ?_
      refine sv_dup (pc := 70) dX2_leastBelow_70 rfl ?_
      refine gf_X2_7 (pc := 71) dX2_leastBelow_71 wF_X2_98 (A_87 hw) T20 fun z29 q30 h31 => ?_
      refine mr_iconst (pc := 74) (z := 1) dX2_leastBelow_74 ?_
      refine mr_iadd (pc := 75) (x := z29) (y := 1) dX2_leastBelow_75 ?_
      refine mr_wrap fun z32 h33 => ?_
      refine pf_X2_7 (pc := 76) dX2_leastBelow_76 wF_X2_98 (A_87 hw) T20 h33 fun μ34 u35 T36 => ?_
      refine mr_iload (pc := 79) (z := z12) dX2_leastBelow_79 rfl ?_
      refine mr_iload (pc := 81) (z := z23) dX2_leastBelow_81 rfl ?_
      refine mr_ior (pc := 83) (x := z12) (y := z23) dX2_leastBelow_83 ?_
      refine mr_gen (P := fun z => (-2147483648) ≤ z ∧ z ≤ 2147483647) (r32i _) fun z37 q38 h39 => ?_
      exact mr_iret dX2_leastBelow_84 rfl (le_t rfl) (le_t rfl) T36 (mF.up (mF.call (mF.call mF.refl F10 rfl) F21 rfl) (A_87 hw) u35 rfl) ⟨h39, trivial⟩
    refine mr_iload (pc := 63) (z := z12) dX2_leastBelow_63 rfl ?_
    refine mr_iload (pc := 65) (z := z23) dX2_leastBelow_65 rfl ?_
    refine mr_iand (pc := 67) (x := z12) (y := z23) dX2_leastBelow_67 ?_
    refine mr_gen (P := fun z => (-2147483648) ≤ z ∧ z ≤ 2147483647) (r32i _) fun z40 q41 h42 => ?_
    exact mr_iret dX2_leastBelow_68 rfl (le_t rfl) (le_t rfl) T20 (mF.call (mF.call mF.refl F10 rfl) F21 rfl) ⟨h42, trivial⟩
  have h43 : 0 ≤ z5 ∧ z5 ≤ 0 := (vc_X12_ring_22 h6 h4.1)
  refine sv_aload_n (pc := 16) dX2_leastBelow_16 rfl rfl ?_
  refine mr_iload_n (pc := 17) (z := p1) dX2_leastBelow_17 rfl rfl ?_
  refine mr_iload_n (pc := 18) (z := p2) dX2_leastBelow_18 rfl rfl ?_
  refine mr_cVP (pc := 19) (c_X2_tieFor hw hT hp1 hp2 (vc_X9_end_1 hq0 hp1)) (gOk _ _ _ _ _) dX2_leastBelow_19 (tX2_tieFor _ _ _ _ _) ⟨wV_X2_tieFor, wL_X2_tieFor⟩ wM_X2_60 (gCX2 _ _ _ _ _) rfl (A_87 hw) rfl ⟨le_t rfl, le_t rfl⟩ ⟨le_t rfl, le_t rfl⟩ rfl (le_t rfl) fun z48 h47 => ?_
  refine mr_cSP (pc := 22) (c_X2_aimBit hw hT h47.1) (gOk _ _ _ _ _) dX2_leastBelow_22 (tX2_aimBit _ _ _ _ _) wS_X2_aimBit wM_X2_110 ⟨le_t rfl, le_t rfl⟩ ⟨le_t rfl, le_t rfl⟩ rfl (le_t rfl) fun z53 h52 => ?_
  exact mr_iret dX2_leastBelow_25 rfl (le_t rfl) (le_t rfl) hT mF.refl ⟨h52.1, trivial⟩
theorem vc_X2_leastBelow_10_1 {p3 : Int} (h0 : 32 ≤ p3) (h1 : 10 ≤ p3 ∧ p3 ≤ 10) : False := by omega
set_option maxRecDepth 4000 in
set_option maxHeartbeats 4000000 in
theorem c_X2_leastBelow_10 {l : Launch} {D : va_G} {c : Nat → ClassId} {H0 : Heap} {sa : Nat × Nat × (Nat → Int32)} {w : mW} {μ : mM} (hw : mWF w) (hT : mT w μ) {p1 : Int} (hp1 : 0 ≤ p1 ∧ p1 ≤ 9) {p2 : Int} (hp2 : (-2147483648) ≤ p2 ∧ p2 ≤ 2147483647) {p3 : Int} (hp3 : 10 ≤ p3 ∧ p3 ≤ 10) (hq0 : p1 < w.2.2.2 0) : sC (gG l D c H0 sa) mX2_leastBelow 25 0 0 [.ref 87, iv p1, iv p2, iv p3] (mk w μ) (qI w [87007] μ (fun z μ1 => ((-2147483648) ≤ z ∧ z ≤ 2147483647) ∧ True)) := by
  refine sC.of rfl (by decide) (le_t rfl) ?_
  refine mr_lvE (lv' := [(0, .ref 87), (1, iv p1), (2, iv p2), (3, iv p3)]) rfl ?_
  refine mr_iload_n (pc := 0) (z := p3) dX2_leastBelow_0 rfl rfl ?_
  refine mr_bipush (pc := 1) (z := 32) dX2_leastBelow_1 (by decide) ?_
  refine mr_icmp_ge (pc := 3) (tgt := 16) dX2_leastBelow_3 (by decide) (r32 hp3 rfl) (r32 (rR (x := 32)) rfl) (fun h => ((vc_X2_leastBelow_10_1 h hp3)).elim) (fun _ => ?_)
  refine sv_aload_n (pc := 6) dX2_leastBelow_6 rfl rfl ?_
  refine mr_iload_n (pc := 7) (z := p1) dX2_leastBelow_7 rfl rfl ?_
  refine mr_iload_n (pc := 8) (z := p2) dX2_leastBelow_8 rfl rfl ?_
  refine mr_iload_n (pc := 9) (z := p3) dX2_leastBelow_9 rfl rfl ?_
  refine mr_cVP (pc := 10) (c_X2_isSplit hw hT hp1 hp2 (rW (c := (-2147483648)) (d := 2147483647) hp3 rfl) (vc_X9_end_1 hq0 hp1)) (gOk _ _ _ _ _) dX2_leastBelow_10 (tX2_isSplit _ _ _ _ _) ⟨wV_X2_isSplit, wL_X2_isSplit⟩ wM_X2_106 (gCX2 _ _ _ _ _) rfl (A_87 hw) rfl ⟨le_t rfl, le_t rfl⟩ ⟨le_t rfl, le_t rfl⟩ rfl (le_t rfl) fun z5 h4 => ?_
  refine mr_if_ne (pc := 13) (tgt := 26) dX2_leastBelow_13 (by decide) (r32 h4.1 rfl) (fun h6 => ?_) (fun h6 => ?_)
  · have h7 : 1 ≤ z5 ∧ z5 ≤ 1 := (vc_X12_ring_24 h6 h4.1)
    refine sv_aload_n (pc := 26) dX2_leastBelow_26 rfl rfl ?_
    refine mr_iload_n (pc := 27) (z := p1) dX2_leastBelow_27 rfl rfl ?_
    refine mr_iload_n (pc := 28) (z := p2) dX2_leastBelow_28 rfl rfl ?_
    refine mr_iload_n (pc := 29) (z := p3) dX2_leastBelow_29 rfl rfl ?_
    refine mr_iconst (pc := 30) (z := 1) dX2_leastBelow_30 ?_
    refine mr_iadd (pc := 31) (x := p3) (y := 1) dX2_leastBelow_31 ?_
    refine mr_cVI (pc := 32) (c_X2_leastBelow_11 hw hT hp1 hp2 (rAdd (e := 11) (f := 11) hp3 (rR (x := 1)) rfl) (vc_X9_end_1 hq0 hp1)) (gOk _ _ _ _ _) dX2_leastBelow_32 (tX2_leastBelow _ _ _ _ _) ⟨wV_X2_leastBelow, wL_X2_leastBelow⟩ wM_X2_101 (gCX2 _ _ _ _ _) rfl (A_87 hw) rfl ⟨le_t rfl, le_t rfl⟩ ⟨le_t rfl, le_t rfl⟩ rfl (le_t rfl) fun z12 μ8 T9 F10 h11 => ?_
    refine mr_istore (pc := 35) (lv' := [(4, iv z12), (0, .ref 87), (1, iv p1), (2, iv p2), (3, iv p3)]) dX2_leastBelow_35 (by decide) rfl ?_
    refine sv_aload_n (pc := 37) dX2_leastBelow_37 rfl rfl ?_
    refine mr_iload_n (pc := 38) (z := p1) dX2_leastBelow_38 rfl rfl ?_
    refine mr_iload_n (pc := 39) (z := p2) dX2_leastBelow_39 rfl rfl ?_
    refine mr_iconst (pc := 40) (z := 1) dX2_leastBelow_40 ?_
    refine mr_bipush (pc := 41) (z := 31) dX2_leastBelow_41 (by decide) ?_
    refine mr_iload_n (pc := 43) (z := p3) dX2_leastBelow_43 rfl rfl ?_
    refine mr_isub (pc := 44) (x := 31) (y := p3) dX2_leastBelow_44 ?_
    refine mr_ishl (pc := 45) (x := 1) (y := (31 - p3)) dX2_leastBelow_45 ?_
    refine mr_gen (P := fun z => (-2147483648) ≤ z ∧ z ≤ 2147483647) (r32i _) fun z13 q14 h15 => ?_
    refine mr_ior (pc := 46) (x := p2) (y := z13) dX2_leastBelow_46 ?_
    refine mr_gen (P := fun z => (-2147483648) ≤ z ∧ z ≤ 2147483647) (r32i _) fun z16 q17 h18 => ?_
    refine mr_iload_n (pc := 47) (z := p3) dX2_leastBelow_47 rfl rfl ?_
    refine mr_iconst (pc := 48) (z := 1) dX2_leastBelow_48 ?_
    refine mr_iadd (pc := 49) (x := p3) (y := 1) dX2_leastBelow_49 ?_
    refine mr_cVI (pc := 50) (c_X2_leastBelow_11 hw T9 hp1 h18 (rAdd (e := 11) (f := 11) hp3 (rR (x := 1)) rfl) (vc_X9_end_1 hq0 hp1)) (gOk _ _ _ _ _) dX2_leastBelow_50 (tX2_leastBelow _ _ _ _ _) ⟨wV_X2_leastBelow, wL_X2_leastBelow⟩ wM_X2_101 (gCX2 _ _ _ _ _) rfl (A_87 hw) rfl ⟨le_t rfl, le_t rfl⟩ ⟨le_t rfl, le_t rfl⟩ rfl (le_t rfl) fun z23 μ19 T20 F21 h22 => ?_
    refine mr_istore (pc := 53) (lv' := [(5, iv z23), (4, iv z12), (0, .ref 87), (1, iv p1), (2, iv p2), (3, iv p3)]) dX2_leastBelow_53 (by decide) rfl ?_
    refine mr_iload (pc := 55) (z := z12) dX2_leastBelow_55 rfl ?_
    refine mr_iload (pc := 57) (z := z23) dX2_leastBelow_57 rfl ?_
    refine mr_iand (pc := 59) (x := z12) (y := z23) dX2_leastBelow_59 ?_
    refine mr_gen (P := fun z => (-2147483648) ≤ z ∧ z ≤ 2147483647) (r32i _) fun z24 q25 h26 => ?_
    refine mr_if_eq (pc := 60) (tgt := 69) dX2_leastBelow_60 (by decide) h26 (fun h27 => ?_) (fun h27 => ?_)
    · have h28 : 0 ≤ z24 ∧ z24 ≤ 0 := (vc_X12_mask_1 h27 h26)
      refine sv_aload_n (pc := 69) dX2_leastBelow_69 rfl rfl ?_
      refine sv_dup (pc := 70) dX2_leastBelow_70 rfl ?_
      refine gf_X2_7 (pc := 71) dX2_leastBelow_71 wF_X2_98 (A_87 hw) T20 fun z29 q30 h31 => ?_
      refine mr_iconst (pc := 74) (z := 1) dX2_leastBelow_74 ?_
      refine mr_iadd (pc := 75) (x := z29) (y := 1) dX2_leastBelow_75 ?_
      refine mr_wrap fun z32 h33 => ?_
      refine pf_X2_7 (pc := 76) dX2_leastBelow_76 wF_X2_98 (A_87 hw) T20 h33 fun μ34 u35 T36 => ?_
      refine mr_iload (pc := 79) (z := z12) dX2_leastBelow_79 rfl ?_
      refine mr_iload (pc := 81) (z := z23) dX2_leastBelow_81 rfl ?_
      refine mr_ior (pc := 83) (x := z12) (y := z23) dX2_leastBelow_83 ?_
      refine mr_gen (P := fun z => (-2147483648) ≤ z ∧ z ≤ 2147483647) (r32i _) fun z37 q38 h39 => ?_
      exact mr_iret dX2_leastBelow_84 rfl (le_t rfl) (le_t rfl) T36 (mF.up (mF.call (mF.call mF.refl F10 rfl) F21 rfl) (A_87 hw) u35 rfl) ⟨h39, trivial⟩
    refine mr_iload (pc := 63) (z := z12) dX2_leastBelow_63 rfl ?_
    refine mr_iload (pc := 65) (z := z23) dX2_leastBelow_65 rfl ?_
    refine mr_iand (pc := 67) (x := z12) (y := z23) dX2_leastBelow_67 ?_
    refine mr_gen (P := fun z => (-2147483648) ≤ z ∧ z ≤ 2147483647) (r32i _) fun z40 q41 h42 => ?_
    exact mr_iret dX2_leastBelow_68 rfl (le_t rfl) (le_t rfl) T20 (mF.call (mF.call mF.refl F10 rfl) F21 rfl) ⟨h42, trivial⟩
  have h43 : 0 ≤ z5 ∧ z5 ≤ 0 := (vc_X12_ring_22 h6 h4.1)
  refine sv_aload_n (pc := 16) dX2_leastBelow_16 rfl rfl ?_
  refine mr_iload_n (pc := 17) (z := p1) dX2_leastBelow_17 rfl rfl ?_
  refine mr_iload_n (pc := 18) (z := p2) dX2_leastBelow_18 rfl rfl ?_
  refine mr_cVP (pc := 19) (c_X2_tieFor hw hT hp1 hp2 (vc_X9_end_1 hq0 hp1)) (gOk _ _ _ _ _) dX2_leastBelow_19 (tX2_tieFor _ _ _ _ _) ⟨wV_X2_tieFor, wL_X2_tieFor⟩ wM_X2_60 (gCX2 _ _ _ _ _) rfl (A_87 hw) rfl ⟨le_t rfl, le_t rfl⟩ ⟨le_t rfl, le_t rfl⟩ rfl (le_t rfl) fun z48 h47 => ?_
  refine mr_cSP (pc := 22) (c_X2_aimBit hw hT h47.1) (gOk _ _ _ _ _) dX2_leastBelow_22 (tX2_aimBit _ _ _ _ _) wS_X2_aimBit wM_X2_110 ⟨le_t rfl, le_t rfl⟩ ⟨le_t rfl, le_t rfl⟩ rfl (le_t rfl) fun z53 h52 => ?_
  exact mr_iret dX2_leastBelow_25 rfl (le_t rfl) (le_t rfl) hT mF.refl ⟨h52.1, trivial⟩
theorem vc_X2_leastBelow_9_1 {p3 : Int} (h0 : 32 ≤ p3) (h1 : 9 ≤ p3 ∧ p3 ≤ 9) : False := by omega
set_option maxRecDepth 4000 in
set_option maxHeartbeats 4000000 in
theorem c_X2_leastBelow_9 {l : Launch} {D : va_G} {c : Nat → ClassId} {H0 : Heap} {sa : Nat × Nat × (Nat → Int32)} {w : mW} {μ : mM} (hw : mWF w) (hT : mT w μ) {p1 : Int} (hp1 : 0 ≤ p1 ∧ p1 ≤ 9) {p2 : Int} (hp2 : (-2147483648) ≤ p2 ∧ p2 ≤ 2147483647) {p3 : Int} (hp3 : 9 ≤ p3 ∧ p3 ≤ 9) (hq0 : p1 < w.2.2.2 0) : sC (gG l D c H0 sa) mX2_leastBelow 26 0 0 [.ref 87, iv p1, iv p2, iv p3] (mk w μ) (qI w [87007] μ (fun z μ1 => ((-2147483648) ≤ z ∧ z ≤ 2147483647) ∧ True)) := by
  refine sC.of rfl (by decide) (le_t rfl) ?_
  refine mr_lvE (lv' := [(0, .ref 87), (1, iv p1), (2, iv p2), (3, iv p3)]) rfl ?_
  refine mr_iload_n (pc := 0) (z := p3) dX2_leastBelow_0 rfl rfl ?_
  refine mr_bipush (pc := 1) (z := 32) dX2_leastBelow_1 (by decide) ?_
  refine mr_icmp_ge (pc := 3) (tgt := 16) dX2_leastBelow_3 (by decide) (r32 hp3 rfl) (r32 (rR (x := 32)) rfl) (fun h => ((vc_X2_leastBelow_9_1 h hp3)).elim) (fun _ => ?_)
  refine sv_aload_n (pc := 6) dX2_leastBelow_6 rfl rfl ?_
  refine mr_iload_n (pc := 7) (z := p1) dX2_leastBelow_7 rfl rfl ?_
  refine mr_iload_n (pc := 8) (z := p2) dX2_leastBelow_8 rfl rfl ?_
  refine mr_iload_n (pc := 9) (z := p3) dX2_leastBelow_9 rfl rfl ?_
  refine mr_cVP (pc := 10) (c_X2_isSplit hw hT hp1 hp2 (rW (c := (-2147483648)) (d := 2147483647) hp3 rfl) (vc_X9_end_1 hq0 hp1)) (gOk _ _ _ _ _) dX2_leastBelow_10 (tX2_isSplit _ _ _ _ _) ⟨wV_X2_isSplit, wL_X2_isSplit⟩ wM_X2_106 (gCX2 _ _ _ _ _) rfl (A_87 hw) rfl ⟨le_t rfl, le_t rfl⟩ ⟨le_t rfl, le_t rfl⟩ rfl (le_t rfl) fun z5 h4 => ?_
  refine mr_if_ne (pc := 13) (tgt := 26) dX2_leastBelow_13 (by decide) (r32 h4.1 rfl) (fun h6 => ?_) (fun h6 => ?_)
  · have h7 : 1 ≤ z5 ∧ z5 ≤ 1 := (vc_X12_ring_24 h6 h4.1)
    refine sv_aload_n (pc := 26) dX2_leastBelow_26 rfl rfl ?_
    refine mr_iload_n (pc := 27) (z := p1) dX2_leastBelow_27 rfl rfl ?_
    refine mr_iload_n (pc := 28) (z := p2) dX2_leastBelow_28 rfl rfl ?_
    refine mr_iload_n (pc := 29) (z := p3) dX2_leastBelow_29 rfl rfl ?_
    refine mr_iconst (pc := 30) (z := 1) dX2_leastBelow_30 ?_
    refine mr_iadd (pc := 31) (x := p3) (y := 1) dX2_leastBelow_31 ?_
    refine mr_cVI (pc := 32) (c_X2_leastBelow_10 hw hT hp1 hp2 (rAdd (e := 10) (f := 10) hp3 (rR (x := 1)) rfl) (vc_X9_end_1 hq0 hp1)) (gOk _ _ _ _ _) dX2_leastBelow_32 (tX2_leastBelow _ _ _ _ _) ⟨wV_X2_leastBelow, wL_X2_leastBelow⟩ wM_X2_101 (gCX2 _ _ _ _ _) rfl (A_87 hw) rfl ⟨le_t rfl, le_t rfl⟩ ⟨le_t rfl, le_t rfl⟩ rfl (le_t rfl) fun z12 μ8 T9 F10 h11 => ?_
    refine mr_istore (pc := 35) (lv' := [(4, iv z12), (0, .ref 87), (1, iv p1), (2, iv p2), (3, iv p3)]) dX2_leastBelow_35 (by decide) rfl ?_
    refine sv_aload_n (pc := 37) dX2_leastBelow_37 rfl rfl ?_
    refine mr_iload_n (pc := 38) (z := p1) dX2_leastBelow_38 rfl rfl ?_
    refine mr_iload_n (pc := 39) (z := p2) dX2_leastBelow_39 rfl rfl ?_
    refine mr_iconst (pc := 40) (z := 1) dX2_leastBelow_40 ?_
    refine mr_bipush (pc := 41) (z := 31) dX2_leastBelow_41 (by decide) ?_
    refine mr_iload_n (pc := 43) (z := p3) dX2_leastBelow_43 rfl rfl ?_
    refine mr_isub (pc := 44) (x := 31) (y := p3) dX2_leastBelow_44 ?_
    refine mr_ishl (pc := 45) (x := 1) (y := (31 - p3)) dX2_leastBelow_45 ?_
    refine mr_gen (P := fun z => (-2147483648) ≤ z ∧ z ≤ 2147483647) (r32i _) fun z13 q14 h15 => ?_
    refine mr_ior (pc := 46) (x := p2) (y := z13) dX2_leastBelow_46 ?_
    refine mr_gen (P := fun z => (-2147483648) ≤ z ∧ z ≤ 2147483647) (r32i _) fun z16 q17 h18 => ?_
    refine mr_iload_n (pc := 47) (z := p3) dX2_leastBelow_47 rfl rfl ?_
    refine mr_iconst (pc := 48) (z := 1) dX2_leastBelow_48 ?_
    refine mr_iadd (pc := 49) (x := p3) (y := 1) dX2_leastBelow_49 ?_
    refine mr_cVI (pc := 50) (c_X2_leastBelow_10 hw T9 hp1 h18 (rAdd (e := 10) (f := 10) hp3 (rR (x := 1)) rfl) (vc_X9_end_1 hq0 hp1)) (gOk _ _ _ _ _) dX2_leastBelow_50 (tX2_leastBelow _ _ _ _ _) ⟨wV_X2_leastBelow, wL_X2_leastBelow⟩ wM_X2_101 (gCX2 _ _ _ _ _) rfl (A_87 hw) rfl ⟨le_t rfl, le_t rfl⟩ ⟨le_t rfl, le_t rfl⟩ rfl (le_t rfl) fun z23 μ19 T20 F21 h22 => ?_
    refine mr_istore (pc := 53) (lv' := [(5, iv z23), (4, iv z12), (0, .ref 87), (1, iv p1), (2, iv p2), (3, iv p3)]) dX2_leastBelow_53 (by decide) rfl ?_
    refine mr_iload (pc := 55) (z := z12) dX2_leastBelow_55 rfl ?_
    refine mr_iload (pc := 57) (z := z23) dX2_leastBelow_57 rfl ?_
    refine mr_iand (pc := 59) (x := z12) (y := z23) dX2_leastBelow_59 ?_
    refine mr_gen (P := fun z => (-2147483648) ≤ z ∧ z ≤ 2147483647) (r32i _) fun z24 q25 h26 => ?_
    refine mr_if_eq (pc := 60) (tgt := 69) dX2_leastBelow_60 (by decide) h26 (fun h27 => ?_) (fun h27 => ?_)
    · have h28 : 0 ≤ z24 ∧ z24 ≤ 0 := (vc_X12_mask_1 h27 h26)
      refine sv_aload_n (pc := 69) dX2_leastBelow_69 rfl rfl ?_
      refine sv_dup (pc := 70) dX2_leastBelow_70 rfl ?_
      refine gf_X2_7 (pc := 71) dX2_leastBelow_71 wF_X2_98 (A_87 hw) T20 fun z29 q30 h31 => ?_
      refine mr_iconst (pc := 74) (z := 1) dX2_leastBelow_74 ?_
      refine mr_iadd (pc := 75) (x := z29) (y := 1) dX2_leastBelow_75 ?_
      refine mr_wrap fun z32 h33 => ?_
      refine pf_X2_7 (pc := 76) dX2_leastBelow_76 wF_X2_98 (A_87 hw) T20 h33 fun μ34 u35 T36 => ?_
      refine mr_iload (pc := 79) (z := z12) dX2_leastBelow_79 rfl ?_
      refine mr_iload (pc := 81) (z := z23) dX2_leastBelow_81 rfl ?_
      refine mr_ior (pc := 83) (x := z12) (y := z23) dX2_leastBelow_83 ?_
      refine mr_gen (P := fun z => (-2147483648) ≤ z ∧ z ≤ 2147483647) (r32i _) fun z37 q38 h39 => ?_
      exact mr_iret dX2_leastBelow_84 rfl (le_t rfl) (le_t rfl) T36 (mF.up (mF.call (mF.call mF.refl F10 rfl) F21 rfl) (A_87 hw) u35 rfl) ⟨h39, trivial⟩
    refine mr_iload (pc := 63) (z := z12) dX2_leastBelow_63 rfl ?_
    refine mr_iload (pc := 65) (z := z23) dX2_leastBelow_65 rfl ?_
    refine mr_iand (pc := 67) (x := z12) (y := z23) dX2_leastBelow_67 ?_
    refine mr_gen (P := fun z => (-2147483648) ≤ z ∧ z ≤ 2147483647) (r32i _) fun z40 q41 h42 => ?_
    exact mr_iret dX2_leastBelow_68 rfl (le_t rfl) (le_t rfl) T20 (mF.call (mF.call mF.refl F10 rfl) F21 rfl) ⟨h42, trivial⟩
  have h43 : 0 ≤ z5 ∧ z5 ≤ 0 := (vc_X12_ring_22 h6 h4.1)
  refine sv_aload_n (pc := 16) dX2_leastBelow_16 rfl rfl ?_
  refine mr_iload_n (pc := 17) (z := p1) dX2_leastBelow_17 rfl rfl ?_
  refine mr_iload_n (pc := 18) (z := p2) dX2_leastBelow_18 rfl rfl ?_
  refine mr_cVP (pc := 19) (c_X2_tieFor hw hT hp1 hp2 (vc_X9_end_1 hq0 hp1)) (gOk _ _ _ _ _) dX2_leastBelow_19 (tX2_tieFor _ _ _ _ _) ⟨wV_X2_tieFor, wL_X2_tieFor⟩ wM_X2_60 (gCX2 _ _ _ _ _) rfl (A_87 hw) rfl ⟨le_t rfl, le_t rfl⟩ ⟨le_t rfl, le_t rfl⟩ rfl (le_t rfl) fun z48 h47 => ?_
  refine mr_cSP (pc := 22) (c_X2_aimBit hw hT h47.1) (gOk _ _ _ _ _) dX2_leastBelow_22 (tX2_aimBit _ _ _ _ _) wS_X2_aimBit wM_X2_110 ⟨le_t rfl, le_t rfl⟩ ⟨le_t rfl, le_t rfl⟩ rfl (le_t rfl) fun z53 h52 => ?_
  exact mr_iret dX2_leastBelow_25 rfl (le_t rfl) (le_t rfl) hT mF.refl ⟨h52.1, trivial⟩
theorem vc_X2_leastBelow_8_1 {p3 : Int} (h0 : 32 ≤ p3) (h1 : 8 ≤ p3 ∧ p3 ≤ 8) : False := by omega
set_option maxRecDepth 4000 in
set_option maxHeartbeats 4000000 in
theorem c_X2_leastBelow_8 {l : Launch} {D : va_G} {c : Nat → ClassId} {H0 : Heap} {sa : Nat × Nat × (Nat → Int32)} {w : mW} {μ : mM} (hw : mWF w) (hT : mT w μ) {p1 : Int} (hp1 : 0 ≤ p1 ∧ p1 ≤ 9) {p2 : Int} (hp2 : (-2147483648) ≤ p2 ∧ p2 ≤ 2147483647) {p3 : Int} (hp3 : 8 ≤ p3 ∧ p3 ≤ 8) (hq0 : p1 < w.2.2.2 0) : sC (gG l D c H0 sa) mX2_leastBelow 27 0 0 [.ref 87, iv p1, iv p2, iv p3] (mk w μ) (qI w [87007] μ (fun z μ1 => ((-2147483648) ≤ z ∧ z ≤ 2147483647) ∧ True)) := by
  refine sC.of rfl (by decide) (le_t rfl) ?_
  refine mr_lvE (lv' := [(0, .ref 87), (1, iv p1), (2, iv p2), (3, iv p3)]) rfl ?_
  refine mr_iload_n (pc := 0) (z := p3) dX2_leastBelow_0 rfl rfl ?_
  refine mr_bipush (pc := 1) (z := 32) dX2_leastBelow_1 (by decide) ?_
  refine mr_icmp_ge (pc := 3) (tgt := 16) dX2_leastBelow_3 (by decide) (r32 hp3 rfl) (r32 (rR (x := 32)) rfl) (fun h => ((vc_X2_leastBelow_8_1 h hp3)).elim) (fun _ => ?_)
  refine sv_aload_n (pc := 6) dX2_leastBelow_6 rfl rfl ?_
  refine mr_iload_n (pc := 7) (z := p1) dX2_leastBelow_7 rfl rfl ?_
  refine mr_iload_n (pc := 8) (z := p2) dX2_leastBelow_8 rfl rfl ?_
  refine mr_iload_n (pc := 9) (z := p3) dX2_leastBelow_9 rfl rfl ?_
  refine mr_cVP (pc := 10) (c_X2_isSplit hw hT hp1 hp2 (rW (c := (-2147483648)) (d := 2147483647) hp3 rfl) (vc_X9_end_1 hq0 hp1)) (gOk _ _ _ _ _) dX2_leastBelow_10 (tX2_isSplit _ _ _ _ _) ⟨wV_X2_isSplit, wL_X2_isSplit⟩ wM_X2_106 (gCX2 _ _ _ _ _) rfl (A_87 hw) rfl ⟨le_t rfl, le_t rfl⟩ ⟨le_t rfl, le_t rfl⟩ rfl (le_t rfl) fun z5 h4 => ?_
  refine mr_if_ne (pc := 13) (tgt := 26) dX2_leastBelow_13 (by decide) (r32 h4.1 rfl) (fun h6 => ?_) (fun h6 => ?_)
  · have h7 : 1 ≤ z5 ∧ z5 ≤ 1 := (vc_X12_ring_24 h6 h4.1)
    refine sv_aload_n (pc := 26) dX2_leastBelow_26 rfl rfl ?_
    refine mr_iload_n (pc := 27) (z := p1) dX2_leastBelow_27 rfl rfl ?_
    refine mr_iload_n (pc := 28) (z := p2) dX2_leastBelow_28 rfl rfl ?_
    refine mr_iload_n (pc := 29) (z := p3) dX2_leastBelow_29 rfl rfl ?_
    refine mr_iconst (pc := 30) (z := 1) dX2_leastBelow_30 ?_
    refine mr_iadd (pc := 31) (x := p3) (y := 1) dX2_leastBelow_31 ?_
    refine mr_cVI (pc := 32) (c_X2_leastBelow_9 hw hT hp1 hp2 (rAdd (e := 9) (f := 9) hp3 (rR (x := 1)) rfl) (vc_X9_end_1 hq0 hp1)) (gOk _ _ _ _ _) dX2_leastBelow_32 (tX2_leastBelow _ _ _ _ _) ⟨wV_X2_leastBelow, wL_X2_leastBelow⟩ wM_X2_101 (gCX2 _ _ _ _ _) rfl (A_87 hw) rfl ⟨le_t rfl, le_t rfl⟩ ⟨le_t rfl, le_t rfl⟩ rfl (le_t rfl) fun z12 μ8 T9 F10 h11 => ?_
    refine mr_istore (pc := 35) (lv' := [(4, iv z12), (0, .ref 87), (1, iv p1), (2, iv p2), (3, iv p3)]) dX2_leastBelow_35 (by decide) rfl ?_
    refine sv_aload_n (pc := 37) dX2_leastBelow_37 rfl rfl ?_
    refine mr_iload_n (pc := 38) (z := p1) dX2_leastBelow_38 rfl rfl ?_
    refine mr_iload_n (pc := 39) (z := p2) dX2_leastBelow_39 rfl rfl ?_
    refine mr_iconst (pc := 40) (z := 1) dX2_leastBelow_40 ?_
    refine mr_bipush (pc := 41) (z := 31) dX2_leastBelow_41 (by decide) ?_
    refine mr_iload_n (pc := 43) (z := p3) dX2_leastBelow_43 rfl rfl ?_
    refine mr_isub (pc := 44) (x := 31) (y := p3) dX2_leastBelow_44 ?_
    refine mr_ishl (pc := 45) (x := 1) (y := (31 - p3)) dX2_leastBelow_45 ?_
    refine mr_gen (P := fun z => (-2147483648) ≤ z ∧ z ≤ 2147483647) (r32i _) fun z13 q14 h15 => ?_
    refine mr_ior (pc := 46) (x := p2) (y := z13) dX2_leastBelow_46 ?_
    refine mr_gen (P := fun z => (-2147483648) ≤ z ∧ z ≤ 2147483647) (r32i _) fun z16 q17 h18 => ?_
    refine mr_iload_n (pc := 47) (z := p3) dX2_leastBelow_47 rfl rfl ?_
    refine mr_iconst (pc := 48) (z := 1) dX2_leastBelow_48 ?_
    refine mr_iadd (pc := 49) (x := p3) (y := 1) dX2_leastBelow_49 ?_
    refine mr_cVI (pc := 50) (c_X2_leastBelow_9 hw T9 hp1 h18 (rAdd (e := 9) (f := 9) hp3 (rR (x := 1)) rfl) (vc_X9_end_1 hq0 hp1)) (gOk _ _ _ _ _) dX2_leastBelow_50 (tX2_leastBelow _ _ _ _ _) ⟨wV_X2_leastBelow, wL_X2_leastBelow⟩ wM_X2_101 (gCX2 _ _ _ _ _) rfl (A_87 hw) rfl ⟨le_t rfl, le_t rfl⟩ ⟨le_t rfl, le_t rfl⟩ rfl (le_t rfl) fun z23 μ19 T20 F21 h22 => ?_
    refine mr_istore (pc := 53) (lv' := [(5, iv z23), (4, iv z12), (0, .ref 87), (1, iv p1), (2, iv p2), (3, iv p3)]) dX2_leastBelow_53 (by decide) rfl ?_
    refine mr_iload (pc := 55) (z := z12) dX2_leastBelow_55 rfl ?_
    refine mr_iload (pc := 57) (z := z23) dX2_leastBelow_57 rfl ?_
    refine mr_iand (pc := 59) (x := z12) (y := z23) dX2_leastBelow_59 ?_
    refine mr_gen (P := fun z => (-2147483648) ≤ z ∧ z ≤ 2147483647) (r32i _) fun z24 q25 h26 => ?_
    refine mr_if_eq (pc := 60) (tgt := 69) dX2_leastBelow_60 (by decide) h26 (fun h27 => ?_) (fun h27 => ?_)
    · have h28 : 0 ≤ z24 ∧ z24 ≤ 0 := (vc_X12_mask_1 h27 h26)
      refine sv_aload_n (pc := 69) dX2_leastBelow_69 rfl rfl ?_
      refine sv_dup (pc := 70) dX2_leastBelow_70 rfl ?_
      refine gf_X2_7 (pc := 71) dX2_leastBelow_71 wF_X2_98 (A_87 hw) T20 fun z29 q30 h31 => ?_
      refine mr_iconst (pc := 74) (z := 1) dX2_leastBelow_74 ?_
      refine mr_iadd (pc := 75) (x := z29) (y := 1) dX2_leastBelow_75 ?_
      refine mr_wrap fun z32 h33 => ?_
      refine pf_X2_7 (pc := 76) dX2_leastBelow_76 wF_X2_98 (A_87 hw) T20 h33 fun μ34 u35 T36 => ?_
      refine mr_iload (pc := 79) (z := z12) dX2_leastBelow_79 rfl ?_
      refine mr_iload (pc := 81) (z := z23) dX2_leastBelow_81 rfl ?_
      refine mr_ior (pc := 83) (x := z12) (y := z23) dX2_leastBelow_83 ?_
      refine mr_gen (P := fun z => (-2147483648) ≤ z ∧ z ≤ 2147483647) (r32i _) fun z37 q38 h39 => ?_
      exact mr_iret dX2_leastBelow_84 rfl (le_t rfl) (le_t rfl) T36 (mF.up (mF.call (mF.call mF.refl F10 rfl) F21 rfl) (A_87 hw) u35 rfl) ⟨h39, trivial⟩
    refine mr_iload (pc := 63) (z := z12) dX2_leastBelow_63 rfl ?_
    refine mr_iload (pc := 65) (z := z23) dX2_leastBelow_65 rfl ?_
    refine mr_iand (pc := 67) (x := z12) (y := z23) dX2_leastBelow_67 ?_
    refine mr_gen (P := fun z => (-2147483648) ≤ z ∧ z ≤ 2147483647) (r32i _) fun z40 q41 h42 => ?_
    exact mr_iret dX2_leastBelow_68 rfl (le_t rfl) (le_t rfl) T20 (mF.call (mF.call mF.refl F10 rfl) F21 rfl) ⟨h42, trivial⟩
  have h43 : 0 ≤ z5 ∧ z5 ≤ 0 := (vc_X12_ring_22 h6 h4.1)
  refine sv_aload_n (pc := 16) dX2_leastBelow_16 rfl rfl ?_
  refine mr_iload_n (pc := 17) (z := p1) dX2_leastBelow_17 rfl rfl ?_
  refine mr_iload_n (pc := 18) (z := p2) dX2_leastBelow_18 rfl rfl ?_
  refine mr_cVP (pc := 19) (c_X2_tieFor hw hT hp1 hp2 (vc_X9_end_1 hq0 hp1)) (gOk _ _ _ _ _) dX2_leastBelow_19 (tX2_tieFor _ _ _ _ _) ⟨wV_X2_tieFor, wL_X2_tieFor⟩ wM_X2_60 (gCX2 _ _ _ _ _) rfl (A_87 hw) rfl ⟨le_t rfl, le_t rfl⟩ ⟨le_t rfl, le_t rfl⟩ rfl (le_t rfl) fun z48 h47 => ?_
  refine mr_cSP (pc := 22) (c_X2_aimBit hw hT h47.1) (gOk _ _ _ _ _) dX2_leastBelow_22 (tX2_aimBit _ _ _ _ _) wS_X2_aimBit wM_X2_110 ⟨le_t rfl, le_t rfl⟩ ⟨le_t rfl, le_t rfl⟩ rfl (le_t rfl) fun z53 h52 => ?_
  exact mr_iret dX2_leastBelow_25 rfl (le_t rfl) (le_t rfl) hT mF.refl ⟨h52.1, trivial⟩
theorem vc_X2_leastBelow_7_1 {p3 : Int} (h0 : 32 ≤ p3) (h1 : 7 ≤ p3 ∧ p3 ≤ 7) : False := by omega
set_option maxRecDepth 4000 in
set_option maxHeartbeats 4000000 in
theorem c_X2_leastBelow_7 {l : Launch} {D : va_G} {c : Nat → ClassId} {H0 : Heap} {sa : Nat × Nat × (Nat → Int32)} {w : mW} {μ : mM} (hw : mWF w) (hT : mT w μ) {p1 : Int} (hp1 : 0 ≤ p1 ∧ p1 ≤ 9) {p2 : Int} (hp2 : (-2147483648) ≤ p2 ∧ p2 ≤ 2147483647) {p3 : Int} (hp3 : 7 ≤ p3 ∧ p3 ≤ 7) (hq0 : p1 < w.2.2.2 0) : sC (gG l D c H0 sa) mX2_leastBelow 28 0 0 [.ref 87, iv p1, iv p2, iv p3] (mk w μ) (qI w [87007] μ (fun z μ1 => ((-2147483648) ≤ z ∧ z ≤ 2147483647) ∧ True)) := by
  refine sC.of rfl (by decide) (le_t rfl) ?_
  refine mr_lvE (lv' := [(0, .ref 87), (1, iv p1), (2, iv p2), (3, iv p3)]) rfl ?_
  refine mr_iload_n (pc := 0) (z := p3) dX2_leastBelow_0 rfl rfl ?_
  refine mr_bipush (pc := 1) (z := 32) dX2_leastBelow_1 (by decide) ?_
  refine mr_icmp_ge (pc := 3) (tgt := 16) dX2_leastBelow_3 (by decide) (r32 hp3 rfl) (r32 (rR (x := 32)) rfl) (fun h => ((vc_X2_leastBelow_7_1 h hp3)).elim) (fun _ => ?_)
  refine sv_aload_n (pc := 6) dX2_leastBelow_6 rfl rfl ?_
  refine mr_iload_n (pc := 7) (z := p1) dX2_leastBelow_7 rfl rfl ?_
  refine mr_iload_n (pc := 8) (z := p2) dX2_leastBelow_8 rfl rfl ?_
  refine mr_iload_n (pc := 9) (z := p3) dX2_leastBelow_9 rfl rfl ?_
  refine mr_cVP (pc := 10) (c_X2_isSplit hw hT hp1 hp2 (rW (c := (-2147483648)) (d := 2147483647) hp3 rfl) (vc_X9_end_1 hq0 hp1)) (gOk _ _ _ _ _) dX2_leastBelow_10 (tX2_isSplit _ _ _ _ _) ⟨wV_X2_isSplit, wL_X2_isSplit⟩ wM_X2_106 (gCX2 _ _ _ _ _) rfl (A_87 hw) rfl ⟨le_t rfl, le_t rfl⟩ ⟨le_t rfl, le_t rfl⟩ rfl (le_t rfl) fun z5 h4 => ?_
  refine mr_if_ne (pc := 13) (tgt := 26) dX2_leastBelow_13 (by decide) (r32 h4.1 rfl) (fun h6 => ?_) (fun h6 => ?_)
  · have h7 : 1 ≤ z5 ∧ z5 ≤ 1 := (vc_X12_ring_24 h6 h4.1)
    refine sv_aload_n (pc := 26) dX2_leastBelow_26 rfl rfl ?_
    refine mr_iload_n (pc := 27) (z := p1) dX2_leastBelow_27 rfl rfl ?_
    refine mr_iload_n (pc := 28) (z := p2) dX2_leastBelow_28 rfl rfl ?_
    refine mr_iload_n (pc := 29) (z := p3) dX2_leastBelow_29 rfl rfl ?_
    refine mr_iconst (pc := 30) (z := 1) dX2_leastBelow_30 ?_
    refine mr_iadd (pc := 31) (x := p3) (y := 1) dX2_leastBelow_31 ?_
    refine mr_cVI (pc := 32) (c_X2_leastBelow_8 hw hT hp1 hp2 (rAdd (e := 8) (f := 8) hp3 (rR (x := 1)) rfl) (vc_X9_end_1 hq0 hp1)) (gOk _ _ _ _ _) dX2_leastBelow_32 (tX2_leastBelow _ _ _ _ _) ⟨wV_X2_leastBelow, wL_X2_leastBelow⟩ wM_X2_101 (gCX2 _ _ _ _ _) rfl (A_87 hw) rfl ⟨le_t rfl, le_t rfl⟩ ⟨le_t rfl, le_t rfl⟩ rfl (le_t rfl) fun z12 μ8 T9 F10 h11 => ?_
    refine mr_istore (pc := 35) (lv' := [(4, iv z12), (0, .ref 87), (1, iv p1), (2, iv p2), (3, iv p3)]) dX2_leastBelow_35 (by decide) rfl ?_
    refine sv_aload_n (pc := 37) dX2_leastBelow_37 rfl rfl ?_
    refine mr_iload_n (pc := 38) (z := p1) dX2_leastBelow_38 rfl rfl ?_
    refine mr_iload_n (pc := 39) (z := p2) dX2_leastBelow_39 rfl rfl ?_
    refine mr_iconst (pc := 40) (z := 1) dX2_leastBelow_40 ?_
    refine mr_bipush (pc := 41) (z := 31) dX2_leastBelow_41 (by decide) ?_
    refine mr_iload_n (pc := 43) (z := p3) dX2_leastBelow_43 rfl rfl ?_
    refine mr_isub (pc := 44) (x := 31) (y := p3) dX2_leastBelow_44 ?_
    refine mr_ishl (pc := 45) (x := 1) (y := (31 - p3)) dX2_leastBelow_45 ?_
    refine mr_gen (P := fun z => (-2147483648) ≤ z ∧ z ≤ 2147483647) (r32i _) fun z13 q14 h15 => ?_
    refine mr_ior (pc := 46) (x := p2) (y := z13) dX2_leastBelow_46 ?_
    refine mr_gen (P := fun z => (-2147483648) ≤ z ∧ z ≤ 2147483647) (r32i _) fun z16 q17 h18 => ?_
    refine mr_iload_n (pc := 47) (z := p3) dX2_leastBelow_47 rfl rfl ?_
    refine mr_iconst (pc := 48) (z := 1) dX2_leastBelow_48 ?_
    refine mr_iadd (pc := 49) (x := p3) (y := 1) dX2_leastBelow_49 ?_
    refine mr_cVI (pc := 50) (c_X2_leastBelow_8 hw T9 hp1 h18 (rAdd (e := 8) (f := 8) hp3 (rR (x := 1)) rfl) (vc_X9_end_1 hq0 hp1)) (gOk _ _ _ _ _) dX2_leastBelow_50 (tX2_leastBelow _ _ _ _ _) ⟨wV_X2_leastBelow, wL_X2_leastBelow⟩ wM_X2_101 (gCX2 _ _ _ _ _) rfl (A_87 hw) rfl ⟨le_t rfl, le_t rfl⟩ ⟨le_t rfl, le_t rfl⟩ rfl (le_t rfl) fun z23 μ19 T20 F21 h22 => ?_
    refine mr_istore (pc := 53) (lv' := [(5, iv z23), (4, iv z12), (0, .ref 87), (1, iv p1), (2, iv p2), (3, iv p3)]) dX2_leastBelow_53 (by decide) rfl ?_
    refine mr_iload (pc := 55) (z := z12) dX2_leastBelow_55 rfl ?_
    refine mr_iload (pc := 57) (z := z23) dX2_leastBelow_57 rfl ?_
    refine mr_iand (pc := 59) (x := z12) (y := z23) dX2_leastBelow_59 ?_
    refine mr_gen (P := fun z => (-2147483648) ≤ z ∧ z ≤ 2147483647) (r32i _) fun z24 q25 h26 => ?_
    refine mr_if_eq (pc := 60) (tgt := 69) dX2_leastBelow_60 (by decide) h26 (fun h27 => ?_) (fun h27 => ?_)
    · have h28 : 0 ≤ z24 ∧ z24 ≤ 0 := (vc_X12_mask_1 h27 h26)
      refine sv_aload_n (pc := 69) dX2_leastBelow_69 rfl rfl ?_
      refine sv_dup (pc := 70) dX2_leastBelow_70 rfl ?_
      refine gf_X2_7 (pc := 71) dX2_leastBelow_71 wF_X2_98 (A_87 hw) T20 fun z29 q30 h31 => ?_
      refine mr_iconst (pc := 74) (z := 1) dX2_leastBelow_74 ?_
      refine mr_iadd (pc := 75) (x := z29) (y := 1) dX2_leastBelow_75 ?_
      refine mr_wrap fun z32 h33 => ?_
      refine pf_X2_7 (pc := 76) dX2_leastBelow_76 wF_X2_98 (A_87 hw) T20 h33 fun μ34 u35 T36 => ?_
      refine mr_iload (pc := 79) (z := z12) dX2_leastBelow_79 rfl ?_
      refine mr_iload (pc := 81) (z := z23) dX2_leastBelow_81 rfl ?_
      refine mr_ior (pc := 83) (x := z12) (y := z23) dX2_leastBelow_83 ?_
      refine mr_gen (P := fun z => (-2147483648) ≤ z ∧ z ≤ 2147483647) (r32i _) fun z37 q38 h39 => ?_
      exact mr_iret dX2_leastBelow_84 rfl (le_t rfl) (le_t rfl) T36 (mF.up (mF.call (mF.call mF.refl F10 rfl) F21 rfl) (A_87 hw) u35 rfl) ⟨h39, trivial⟩
    refine mr_iload (pc := 63) (z := z12) dX2_leastBelow_63 rfl ?_
    refine mr_iload (pc := 65) (z := z23) dX2_leastBelow_65 rfl ?_
    refine mr_iand (pc := 67) (x := z12) (y := z23) dX2_leastBelow_67 ?_
    refine mr_gen (P := fun z => (-2147483648) ≤ z ∧ z ≤ 2147483647) (r32i _) fun z40 q41 h42 => ?_
    exact mr_iret dX2_leastBelow_68 rfl (le_t rfl) (le_t rfl) T20 (mF.call (mF.call mF.refl F10 rfl) F21 rfl) ⟨h42, trivial⟩
  have h43 : 0 ≤ z5 ∧ z5 ≤ 0 := (vc_X12_ring_22 h6 h4.1)
  refine sv_aload_n (pc := 16) dX2_leastBelow_16 rfl rfl ?_
  refine mr_iload_n (pc := 17) (z := p1) dX2_leastBelow_17 rfl rfl ?_
  refine mr_iload_n (pc := 18) (z := p2) dX2_leastBelow_18 rfl rfl ?_
  refine mr_cVP (pc := 19) (c_X2_tieFor hw hT hp1 hp2 (vc_X9_end_1 hq0 hp1)) (gOk _ _ _ _ _) dX2_leastBelow_19 (tX2_tieFor _ _ _ _ _) ⟨wV_X2_tieFor, wL_X2_tieFor⟩ wM_X2_60 (gCX2 _ _ _ _ _) rfl (A_87 hw) rfl ⟨le_t rfl, le_t rfl⟩ ⟨le_t rfl, le_t rfl⟩ rfl (le_t rfl) fun z48 h47 => ?_
  refine mr_cSP (pc := 22) (c_X2_aimBit hw hT h47.1) (gOk _ _ _ _ _) dX2_leastBelow_22 (tX2_aimBit _ _ _ _ _) wS_X2_aimBit wM_X2_110 ⟨le_t rfl, le_t rfl⟩ ⟨le_t rfl, le_t rfl⟩ rfl (le_t rfl) fun z53 h52 => ?_
  exact mr_iret dX2_leastBelow_25 rfl (le_t rfl) (le_t rfl) hT mF.refl ⟨h52.1, trivial⟩
theorem vc_X2_leastBelow_6_1 {p3 : Int} (h0 : 32 ≤ p3) (h1 : 6 ≤ p3 ∧ p3 ≤ 6) : False := by omega
set_option maxRecDepth 4000 in
set_option maxHeartbeats 4000000 in
theorem c_X2_leastBelow_6 {l : Launch} {D : va_G} {c : Nat → ClassId} {H0 : Heap} {sa : Nat × Nat × (Nat → Int32)} {w : mW} {μ : mM} (hw : mWF w) (hT : mT w μ) {p1 : Int} (hp1 : 0 ≤ p1 ∧ p1 ≤ 9) {p2 : Int} (hp2 : (-2147483648) ≤ p2 ∧ p2 ≤ 2147483647) {p3 : Int} (hp3 : 6 ≤ p3 ∧ p3 ≤ 6) (hq0 : p1 < w.2.2.2 0) : sC (gG l D c H0 sa) mX2_leastBelow 29 0 0 [.ref 87, iv p1, iv p2, iv p3] (mk w μ) (qI w [87007] μ (fun z μ1 => ((-2147483648) ≤ z ∧ z ≤ 2147483647) ∧ True)) := by
  refine sC.of rfl (by decide) (le_t rfl) ?_
  refine mr_lvE (lv' := [(0, .ref 87), (1, iv p1), (2, iv p2), (3, iv p3)]) rfl ?_
  refine mr_iload_n (pc := 0) (z := p3) dX2_leastBelow_0 rfl rfl ?_
  refine mr_bipush (pc := 1) (z := 32) dX2_leastBelow_1 (by decide) ?_
  refine mr_icmp_ge (pc := 3) (tgt := 16) dX2_leastBelow_3 (by decide) (r32 hp3 rfl) (r32 (rR (x := 32)) rfl) (fun h => ((vc_X2_leastBelow_6_1 h hp3)).elim) (fun _ => ?_)
  refine sv_aload_n (pc := 6) dX2_leastBelow_6 rfl rfl ?_
  refine mr_iload_n (pc := 7) (z := p1) dX2_leastBelow_7 rfl rfl ?_
  refine mr_iload_n (pc := 8) (z := p2) dX2_leastBelow_8 rfl rfl ?_
  refine mr_iload_n (pc := 9) (z := p3) dX2_leastBelow_9 rfl rfl ?_
  refine mr_cVP (pc := 10) (c_X2_isSplit hw hT hp1 hp2 (rW (c := (-2147483648)) (d := 2147483647) hp3 rfl) (vc_X9_end_1 hq0 hp1)) (gOk _ _ _ _ _) dX2_leastBelow_10 (tX2_isSplit _ _ _ _ _) ⟨wV_X2_isSplit, wL_X2_isSplit⟩ wM_X2_106 (gCX2 _ _ _ _ _) rfl (A_87 hw) rfl ⟨le_t rfl, le_t rfl⟩ ⟨le_t rfl, le_t rfl⟩ rfl (le_t rfl) fun z5 h4 => ?_
  refine mr_if_ne (pc := 13) (tgt := 26) dX2_leastBelow_13 (by decide) (r32 h4.1 rfl) (fun h6 => ?_) (fun h6 => ?_)
  · have h7 : 1 ≤ z5 ∧ z5 ≤ 1 := (vc_X12_ring_24 h6 h4.1)
    refine sv_aload_n (pc := 26) dX2_leastBelow_26 rfl rfl ?_
    refine mr_iload_n (pc := 27) (z := p1) dX2_leastBelow_27 rfl rfl ?_
    refine mr_iload_n (pc := 28) (z := p2) dX2_leastBelow_28 rfl rfl ?_
    refine mr_iload_n (pc := 29) (z := p3) dX2_leastBelow_29 rfl rfl ?_
    refine mr_iconst (pc := 30) (z := 1) dX2_leastBelow_30 ?_
    refine mr_iadd (pc := 31) (x := p3) (y := 1) dX2_leastBelow_31 ?_
    refine mr_cVI (pc := 32) (c_X2_leastBelow_7 hw hT hp1 hp2 (rAdd (e := 7) (f := 7) hp3 (rR (x := 1)) rfl) (vc_X9_end_1 hq0 hp1)) (gOk _ _ _ _ _) dX2_leastBelow_32 (tX2_leastBelow _ _ _ _ _) ⟨wV_X2_leastBelow, wL_X2_leastBelow⟩ wM_X2_101 (gCX2 _ _ _ _ _) rfl (A_87 hw) rfl ⟨le_t rfl, le_t rfl⟩ ⟨le_t rfl, le_t rfl⟩ rfl (le_t rfl) fun z12 μ8 T9 F10 h11 => ?_
    refine mr_istore (pc := 35) (lv' := [(4, iv z12), (0, .ref 87), (1, iv p1), (2, iv p2), (3, iv p3)]) dX2_leastBelow_35 (by decide) rfl ?_
    refine sv_aload_n (pc := 37) dX2_leastBelow_37 rfl rfl ?_
    refine mr_iload_n (pc := 38) (z := p1) dX2_leastBelow_38 rfl rfl ?_
    refine mr_iload_n (pc := 39) (z := p2) dX2_leastBelow_39 rfl rfl ?_
    refine mr_iconst (pc := 40) (z := 1) dX2_leastBelow_40 ?_
    refine mr_bipush (pc := 41) (z := 31) dX2_leastBelow_41 (by decide) ?_
    refine mr_iload_n (pc := 43) (z := p3) dX2_leastBelow_43 rfl rfl ?_
    refine mr_isub (pc := 44) (x := 31) (y := p3) dX2_leastBelow_44 ?_
    refine mr_ishl (pc := 45) (x := 1) (y := (31 - p3)) dX2_leastBelow_45 ?_
    refine mr_gen (P := fun z => (-2147483648) ≤ z ∧ z ≤ 2147483647) (r32i _) fun z13 q14 h15 => ?_
    refine mr_ior (pc := 46) (x := p2) (y := z13) dX2_leastBelow_46 ?_
    refine mr_gen (P := fun z => (-2147483648) ≤ z ∧ z ≤ 2147483647) (r32i _) fun z16 q17 h18 => ?_
    refine mr_iload_n (pc := 47) (z := p3) dX2_leastBelow_47 rfl rfl ?_
    refine mr_iconst (pc := 48) (z := 1) dX2_leastBelow_48 ?_
    refine mr_iadd (pc := 49) (x := p3) (y := 1) dX2_leastBelow_49 ?_
    refine mr_cVI (pc := 50) (c_X2_leastBelow_7 hw T9 hp1 h18 (rAdd (e := 7) (f := 7) hp3 (rR (x := 1)) rfl) (vc_X9_end_1 hq0 hp1)) (gOk _ _ _ _ _) dX2_leastBelow_50 (tX2_leastBelow _ _ _ _ _) ⟨wV_X2_leastBelow, wL_X2_leastBelow⟩ wM_X2_101 (gCX2 _ _ _ _ _) rfl (A_87 hw) rfl ⟨le_t rfl, le_t rfl⟩ ⟨le_t rfl, le_t rfl⟩ rfl (le_t rfl) fun z23 μ19 T20 F21 h22 => ?_
    refine mr_istore (pc := 53) (lv' := [(5, iv z23), (4, iv z12), (0, .ref 87), (1, iv p1), (2, iv p2), (3, iv p3)]) dX2_leastBelow_53 (by decide) rfl ?_
    refine mr_iload (pc := 55) (z := z12) dX2_leastBelow_55 rfl ?_
    refine mr_iload (pc := 57) (z := z23) dX2_leastBelow_57 rfl ?_
    refine mr_iand (pc := 59) (x := z12) (y := z23) dX2_leastBelow_59 ?_
    refine mr_gen (P := fun z => (-2147483648) ≤ z ∧ z ≤ 2147483647) (r32i _) fun z24 q25 h26 => ?_
    refine mr_if_eq (pc := 60) (tgt := 69) dX2_leastBelow_60 (by decide) h26 (fun h27 => ?_) (fun h27 => ?_)
    · have h28 : 0 ≤ z24 ∧ z24 ≤ 0 := (vc_X12_mask_1 h27 h26)
      refine sv_aload_n (pc := 69) dX2_leastBelow_69 rfl rfl ?_
      refine sv_dup (pc := 70) dX2_leastBelow_70 rfl ?_
      refine gf_X2_7 (pc := 71) dX2_leastBelow_71 wF_X2_98 (A_87 hw) T20 fun z29 q30 h31 => ?_
      refine mr_iconst (pc := 74) (z := 1) dX2_leastBelow_74 ?_
      refine mr_iadd (pc := 75) (x := z29) (y := 1) dX2_leastBelow_75 ?_
      refine mr_wrap fun z32 h33 => ?_
      refine pf_X2_7 (pc := 76) dX2_leastBelow_76 wF_X2_98 (A_87 hw) T20 h33 fun μ34 u35 T36 => ?_
      refine mr_iload (pc := 79) (z := z12) dX2_leastBelow_79 rfl ?_
      refine mr_iload (pc := 81) (z := z23) dX2_leastBelow_81 rfl ?_
      refine mr_ior (pc := 83) (x := z12) (y := z23) dX2_leastBelow_83 ?_
      refine mr_gen (P := fun z => (-2147483648) ≤ z ∧ z ≤ 2147483647) (r32i _) fun z37 q38 h39 => ?_
      exact mr_iret dX2_leastBelow_84 rfl (le_t rfl) (le_t rfl) T36 (mF.up (mF.call (mF.call mF.refl F10 rfl) F21 rfl) (A_87 hw) u35 rfl) ⟨h39, trivial⟩
    refine mr_iload (pc := 63) (z := z12) dX2_leastBelow_63 rfl ?_
    refine mr_iload (pc := 65) (z := z23) dX2_leastBelow_65 rfl ?_
    refine mr_iand (pc := 67) (x := z12) (y := z23) dX2_leastBelow_67 ?_
    refine mr_gen (P := fun z => (-2147483648) ≤ z ∧ z ≤ 2147483647) (r32i _) fun z40 q41 h42 => ?_
    exact mr_iret dX2_leastBelow_68 rfl (le_t rfl) (le_t rfl) T20 (mF.call (mF.call mF.refl F10 rfl) F21 rfl) ⟨h42, trivial⟩
  have h43 : 0 ≤ z5 ∧ z5 ≤ 0 := (vc_X12_ring_22 h6 h4.1)
  refine sv_aload_n (pc := 16) dX2_leastBelow_16 rfl rfl ?_
  refine mr_iload_n (pc := 17) (z := p1) dX2_leastBelow_17 rfl rfl ?_
  refine mr_iload_n (pc := 18) (z := p2) dX2_leastBelow_18 rfl rfl ?_
  refine mr_cVP (pc := 19) (c_X2_tieFor hw hT hp1 hp2 (vc_X9_end_1 hq0 hp1)) (gOk _ _ _ _ _) dX2_leastBelow_19 (tX2_tieFor _ _ _ _ _) ⟨wV_X2_tieFor, wL_X2_tieFor⟩ wM_X2_60 (gCX2 _ _ _ _ _) rfl (A_87 hw) rfl ⟨le_t rfl, le_t rfl⟩ ⟨le_t rfl, le_t rfl⟩ rfl (le_t rfl) fun z48 h47 => ?_
  refine mr_cSP (pc := 22) (c_X2_aimBit hw hT h47.1) (gOk _ _ _ _ _) dX2_leastBelow_22 (tX2_aimBit _ _ _ _ _) wS_X2_aimBit wM_X2_110 ⟨le_t rfl, le_t rfl⟩ ⟨le_t rfl, le_t rfl⟩ rfl (le_t rfl) fun z53 h52 => ?_
  exact mr_iret dX2_leastBelow_25 rfl (le_t rfl) (le_t rfl) hT mF.refl ⟨h52.1, trivial⟩
theorem vc_X2_leastBelow_5_1 {p3 : Int} (h0 : 32 ≤ p3) (h1 : 5 ≤ p3 ∧ p3 ≤ 5) : False := by omega
set_option maxRecDepth 4000 in
set_option maxHeartbeats 4000000 in
theorem c_X2_leastBelow_5 {l : Launch} {D : va_G} {c : Nat → ClassId} {H0 : Heap} {sa : Nat × Nat × (Nat → Int32)} {w : mW} {μ : mM} (hw : mWF w) (hT : mT w μ) {p1 : Int} (hp1 : 0 ≤ p1 ∧ p1 ≤ 9) {p2 : Int} (hp2 : (-2147483648) ≤ p2 ∧ p2 ≤ 2147483647) {p3 : Int} (hp3 : 5 ≤ p3 ∧ p3 ≤ 5) (hq0 : p1 < w.2.2.2 0) : sC (gG l D c H0 sa) mX2_leastBelow 30 0 0 [.ref 87, iv p1, iv p2, iv p3] (mk w μ) (qI w [87007] μ (fun z μ1 => ((-2147483648) ≤ z ∧ z ≤ 2147483647) ∧ True)) := by
  refine sC.of rfl (by decide) (le_t rfl) ?_
  refine mr_lvE (lv' := [(0, .ref 87), (1, iv p1), (2, iv p2), (3, iv p3)]) rfl ?_
  refine mr_iload_n (pc := 0) (z := p3) dX2_leastBelow_0 rfl rfl ?_
  refine mr_bipush (pc := 1) (z := 32) dX2_leastBelow_1 (by decide) ?_
  refine mr_icmp_ge (pc := 3) (tgt := 16) dX2_leastBelow_3 (by decide) (r32 hp3 rfl) (r32 (rR (x := 32)) rfl) (fun h => ((vc_X2_leastBelow_5_1 h hp3)).elim) (fun _ => ?_)
  refine sv_aload_n (pc := 6) dX2_leastBelow_6 rfl rfl ?_
  refine mr_iload_n (pc := 7) (z := p1) dX2_leastBelow_7 rfl rfl ?_
  refine mr_iload_n (pc := 8) (z := p2) dX2_leastBelow_8 rfl rfl ?_
  refine mr_iload_n (pc := 9) (z := p3) dX2_leastBelow_9 rfl rfl ?_
  refine mr_cVP (pc := 10) (c_X2_isSplit hw hT hp1 hp2 (rW (c := (-2147483648)) (d := 2147483647) hp3 rfl) (vc_X9_end_1 hq0 hp1)) (gOk _ _ _ _ _) dX2_leastBelow_10 (tX2_isSplit _ _ _ _ _) ⟨wV_X2_isSplit, wL_X2_isSplit⟩ wM_X2_106 (gCX2 _ _ _ _ _) rfl (A_87 hw) rfl ⟨le_t rfl, le_t rfl⟩ ⟨le_t rfl, le_t rfl⟩ rfl (le_t rfl) fun z5 h4 => ?_
  refine mr_if_ne (pc := 13) (tgt := 26) dX2_leastBelow_13 (by decide) (r32 h4.1 rfl) (fun h6 => ?_) (fun h6 => ?_)
  · have h7 : 1 ≤ z5 ∧ z5 ≤ 1 := (vc_X12_ring_24 h6 h4.1)
    refine sv_aload_n (pc := 26) dX2_leastBelow_26 rfl rfl ?_
    refine mr_iload_n (pc := 27) (z := p1) dX2_leastBelow_27 rfl rfl ?_
    refine mr_iload_n (pc := 28) (z := p2) dX2_leastBelow_28 rfl rfl ?_
    refine mr_iload_n (pc := 29) (z := p3) dX2_leastBelow_29 rfl rfl ?_
    refine mr_iconst (pc := 30) (z := 1) dX2_leastBelow_30 ?_
    refine mr_iadd (pc := 31) (x := p3) (y := 1) dX2_leastBelow_31 ?_
    refine mr_cVI (pc := 32) (c_X2_leastBelow_6 hw hT hp1 hp2 (rAdd (e := 6) (f := 6) hp3 (rR (x := 1)) rfl) (vc_X9_end_1 hq0 hp1)) (gOk _ _ _ _ _) dX2_leastBelow_32 (tX2_leastBelow _ _ _ _ _) ⟨wV_X2_leastBelow, wL_X2_leastBelow⟩ wM_X2_101 (gCX2 _ _ _ _ _) rfl (A_87 hw) rfl ⟨le_t rfl, le_t rfl⟩ ⟨le_t rfl, le_t rfl⟩ rfl (le_t rfl) fun z12 μ8 T9 F10 h11 => ?_
    refine mr_istore (pc := 35) (lv' := [(4, iv z12), (0, .ref 87), (1, iv p1), (2, iv p2), (3, iv p3)]) dX2_leastBelow_35 (by decide) rfl ?_
    refine sv_aload_n (pc := 37) dX2_leastBelow_37 rfl rfl ?_
    refine mr_iload_n (pc := 38) (z := p1) dX2_leastBelow_38 rfl rfl ?_
    refine mr_iload_n (pc := 39) (z := p2) dX2_leastBelow_39 rfl rfl ?_
    refine mr_iconst (pc := 40) (z := 1) dX2_leastBelow_40 ?_
    refine mr_bipush (pc := 41) (z := 31) dX2_leastBelow_41 (by decide) ?_
    refine mr_iload_n (pc := 43) (z := p3) dX2_leastBelow_43 rfl rfl ?_
    refine mr_isub (pc := 44) (x := 31) (y := p3) dX2_leastBelow_44 ?_
    refine mr_ishl (pc := 45) (x := 1) (y := (31 - p3)) dX2_leastBelow_45 ?_
    refine mr_gen (P := fun z => (-2147483648) ≤ z ∧ z ≤ 2147483647) (r32i _) fun z13 q14 h15 => ?_
    refine mr_ior (pc := 46) (x := p2) (y := z13) dX2_leastBelow_46 ?_
    refine mr_gen (P := fun z => (-2147483648) ≤ z ∧ z ≤ 2147483647) (r32i _) fun z16 q17 h18 => ?_
    refine mr_iload_n (pc := 47) (z := p3) dX2_leastBelow_47 rfl rfl ?_
    refine mr_iconst (pc := 48) (z := 1) dX2_leastBelow_48 ?_
    refine mr_iadd (pc := 49) (x := p3) (y := 1) dX2_leastBelow_49 ?_
    refine mr_cVI (pc := 50) (c_X2_leastBelow_6 hw T9 hp1 h18 (rAdd (e := 6) (f := 6) hp3 (rR (x := 1)) rfl) (vc_X9_end_1 hq0 hp1)) (gOk _ _ _ _ _) dX2_leastBelow_50 (tX2_leastBelow _ _ _ _ _) ⟨wV_X2_leastBelow, wL_X2_leastBelow⟩ wM_X2_101 (gCX2 _ _ _ _ _) rfl (A_87 hw) rfl ⟨le_t rfl, le_t rfl⟩ ⟨le_t rfl, le_t rfl⟩ rfl (le_t rfl) fun z23 μ19 T20 F21 h22 => ?_
    refine mr_istore (pc := 53) (lv' := [(5, iv z23), (4, iv z12), (0, .ref 87), (1, iv p1), (2, iv p2), (3, iv p3)]) dX2_leastBelow_53 (by decide) rfl ?_
    refine mr_iload (pc := 55) (z := z12) dX2_leastBelow_55 rfl ?_
    refine mr_iload (pc := 57) (z := z23) dX2_leastBelow_57 rfl ?_
    refine mr_iand (pc := 59) (x := z12) (y := z23) dX2_leastBelow_59 ?_
    refine mr_gen (P := fun z => (-2147483648) ≤ z ∧ z ≤ 2147483647) (r32i _) fun z24 q25 h26 => ?_
    refine mr_if_eq (pc := 60) (tgt := 69) dX2_leastBelow_60 (by decide) h26 (fun h27 => ?_) (fun h27 => ?_)
    · have h28 : 0 ≤ z24 ∧ z24 ≤ 0 := (vc_X12_mask_1 h27 h26)
      refine sv_aload_n (pc := 69) dX2_leastBelow_69 rfl rfl ?_
      refine sv_dup (pc := 70) dX2_leastBelow_70 rfl ?_
      refine gf_X2_7 (pc := 71) dX2_leastBelow_71 wF_X2_98 (A_87 hw) T20 fun z29 q30 h31 => ?_
      refine mr_iconst (pc := 74) (z := 1) dX2_leastBelow_74 ?_
      refine mr_iadd (pc := 75) (x := z29) (y := 1) dX2_leastBelow_75 ?_
      refine mr_wrap fun z32 h33 => ?_
      refine pf_X2_7 (pc := 76) dX2_leastBelow_76 wF_X2_98 (A_87 hw) T20 h33 fun μ34 u35 T36 => ?_
      refine mr_iload (pc := 79) (z := z12) dX2_leastBelow_79 rfl ?_
      refine mr_iload (pc := 81) (z := z23) dX2_leastBelow_81 rfl ?_
      refine mr_ior (pc := 83) (x := z12) (y := z23) dX2_leastBelow_83 ?_
      refine mr_gen (P := fun z => (-2147483648) ≤ z ∧ z ≤ 2147483647) (r32i _) fun z37 q38 h39 => ?_
      exact mr_iret dX2_leastBelow_84 rfl (le_t rfl) (le_t rfl) T36 (mF.up (mF.call (mF.call mF.refl F10 rfl) F21 rfl) (A_87 hw) u35 rfl) ⟨h39, trivial⟩
    refine mr_iload (pc := 63) (z := z12) dX2_leastBelow_63 rfl ?_
    refine mr_iload (pc := 65) (z := z23) dX2_leastBelow_65 rfl ?_
    refine mr_iand (pc := 67) (x := z12) (y := z23) dX2_leastBelow_67 ?_
    refine mr_gen (P := fun z => (-2147483648) ≤ z ∧ z ≤ 2147483647) (r32i _) fun z40 q41 h42 => ?_
    exact mr_iret dX2_leastBelow_68 rfl (le_t rfl) (le_t rfl) T20 (mF.call (mF.call mF.refl F10 rfl) F21 rfl) ⟨h42, trivial⟩
  have h43 : 0 ≤ z5 ∧ z5 ≤ 0 := (vc_X12_ring_22 h6 h4.1)
  refine sv_aload_n (pc := 16) dX2_leastBelow_16 rfl rfl ?_
  refine mr_iload_n (pc := 17) (z := p1) dX2_leastBelow_17 rfl rfl ?_
  refine mr_iload_n (pc := 18) (z := p2) dX2_leastBelow_18 rfl rfl ?_
  refine mr_cVP (pc := 19) (c_X2_tieFor hw hT hp1 hp2 (vc_X9_end_1 hq0 hp1)) (gOk _ _ _ _ _) dX2_leastBelow_19 (tX2_tieFor _ _ _ _ _) ⟨wV_X2_tieFor, wL_X2_tieFor⟩ wM_X2_60 (gCX2 _ _ _ _ _) rfl (A_87 hw) rfl ⟨le_t rfl, le_t rfl⟩ ⟨le_t rfl, le_t rfl⟩ rfl (le_t rfl) fun z48 h47 => ?_
  refine mr_cSP (pc := 22) (c_X2_aimBit hw hT h47.1) (gOk _ _ _ _ _) dX2_leastBelow_22 (tX2_aimBit _ _ _ _ _) wS_X2_aimBit wM_X2_110 ⟨le_t rfl, le_t rfl⟩ ⟨le_t rfl, le_t rfl⟩ rfl (le_t rfl) fun z53 h52 => ?_
  exact mr_iret dX2_leastBelow_25 rfl (le_t rfl) (le_t rfl) hT mF.refl ⟨h52.1, trivial⟩
end
