section
theorem vc_X12_sign_2 {f_code : Int} (h0 : 0 ≤ f_code ∧ f_code ≤ 0) : f_code = 0 := by omega
theorem vc_X12_sign_5 {f_code f_number f_type p1 : Int} (h0 : f_code = 0 ∧ f_type = 3 ∧ f_number = p1) (h1 : f_code = 0) (h2 : 0 ≤ f_code ∧ f_code ≤ 0) (h3 : (-2147483648) ≤ f_number ∧ f_number ≤ 2147483647) (h4 : 0 ≤ f_type ∧ f_type ≤ 3) (h5 : (-2147483648) ≤ p1 ∧ p1 ≤ 2147483647) : 3 ≤ f_type ∧ f_type ≤ 3 := by omega
theorem vc_X12_sign_6 {f_type : Int} (h0 : 3 ≤ f_type ∧ f_type ≤ 3) : ¬ f_type = 0 := by omega
theorem vc_X12_sign_9 {f_at f_from z361 z363 z365 : Int} (h0 : z361 = 0) (h1 : f_at ≤ z365) (h2 : z365 ≤ z363) (h3 : f_from ≤ f_at) (h4 : f_from + 1 ≤ f_at) (h5 : 0 ≤ f_at ∧ f_at ≤ 1000) (h6 : 0 ≤ f_from ∧ f_from ≤ 1000) (h7 : 0 ≤ z361 ∧ z361 ≤ 0) (h8 : 0 ≤ z363 ∧ z363 ≤ 1000) (h9 : 0 ≤ z365 ∧ z365 ≤ 1000) : z361 = 0 → z365 ≤ z363 := by omega
theorem vc_X12_sign_10 {f_at f_from z361 z363 z365 z367 : Int} (h0 : z361 = 0) (h1 : f_at ≤ z365) (h2 : z365 ≤ z363) (h3 : z367 = 0 ∨ z365 + 1 ≤ z363) (h4 : z367 = 1 → z365 + 2 ≤ z363) (h5 : f_from ≤ f_at) (h6 : f_from + 1 ≤ f_at) (h7 : 0 ≤ f_at ∧ f_at ≤ 1000) (h8 : 0 ≤ f_from ∧ f_from ≤ 1000) (h9 : 0 ≤ z361 ∧ z361 ≤ 0) (h10 : 0 ≤ z363 ∧ z363 ≤ 1000) (h11 : 0 ≤ z365 ∧ z365 ≤ 1000) (h12 : 0 ≤ z367 ∧ z367 ≤ 3) : z361 = 0 → z367 = 0 ∨ z365 + 1 ≤ z363 := by omega
theorem vc_X12_sign_11 {f_at f_from z361 z363 z365 z367 : Int} (h0 : z361 = 0) (h1 : f_at ≤ z365) (h2 : z365 ≤ z363) (h3 : z367 = 0 ∨ z365 + 1 ≤ z363) (h4 : z367 = 1 → z365 + 2 ≤ z363) (h5 : f_from ≤ f_at) (h6 : f_from + 1 ≤ f_at) (h7 : 0 ≤ f_at ∧ f_at ≤ 1000) (h8 : 0 ≤ f_from ∧ f_from ≤ 1000) (h9 : 0 ≤ z361 ∧ z361 ≤ 0) (h10 : 0 ≤ z363 ∧ z363 ≤ 1000) (h11 : 0 ≤ z365 ∧ z365 ≤ 1000) (h12 : 0 ≤ z367 ∧ z367 ≤ 3) : z361 = 0 → z367 = 1 → z365 + 2 ≤ z363 := by omega
theorem vc_X12_sign_12 {f_at f_from z361 z363 z365 z367 z369 : Int} (h0 : z361 = 0) (h1 : f_at ≤ z365) (h2 : z365 ≤ z363) (h3 : z367 = 0 ∨ z365 + 1 ≤ z363) (h4 : z367 = 1 → z365 + 2 ≤ z363) (h5 : z367 = 1 → z369 = 0 ∨ z369 = 4 ∨ z369 = 5 ∨ z365 + 3 ≤ z363) (h6 : f_from ≤ f_at) (h7 : f_from + 1 ≤ f_at) (h8 : 0 ≤ f_at ∧ f_at ≤ 1000) (h9 : 0 ≤ f_from ∧ f_from ≤ 1000) (h10 : 0 ≤ z361 ∧ z361 ≤ 0) (h11 : 0 ≤ z363 ∧ z363 ≤ 1000) (h12 : 0 ≤ z365 ∧ z365 ≤ 1000) (h13 : 0 ≤ z367 ∧ z367 ≤ 3) (h14 : (-2147483648) ≤ z369 ∧ z369 ≤ 2147483647) : z361 = 0 → z367 = 1 → z369 = 0 ∨ z369 = 4 ∨ z369 = 5 ∨ z365 + 3 ≤ z363 := by omega
theorem vc_X12_sign_13 {f_code f_number f_type p1 z361 : Int} (h0 : f_code = 0) (h1 : f_code = 0 ∧ f_type = 3 ∧ f_number = p1) (h2 : z361 = 0) (h3 : 0 ≤ f_code ∧ f_code ≤ 0) (h4 : (-2147483648) ≤ f_number ∧ f_number ≤ 2147483647) (h5 : 3 ≤ f_type ∧ f_type ≤ 3) (h6 : (-2147483648) ≤ p1 ∧ p1 ≤ 2147483647) (h7 : 0 ≤ z361 ∧ z361 ≤ 0) : z361 = 0 → f_code = 0 := by omega
theorem vc_X12_sign_14 {f_at f_from z361 z363 z365 : Int} (h0 : f_from ≤ f_at) (h1 : f_from + 1 ≤ f_at) (h2 : z361 = 0) (h3 : f_at ≤ z365) (h4 : z365 ≤ z363) (h5 : 0 ≤ f_at ∧ f_at ≤ 1000) (h6 : 0 ≤ f_from ∧ f_from ≤ 1000) (h7 : 0 ≤ z361 ∧ z361 ≤ 0) (h8 : 0 ≤ z363 ∧ z363 ≤ 1000) (h9 : 0 ≤ z365 ∧ z365 ≤ 1000) : z361 = 0 → f_from + 1 ≤ z365 := by omega
theorem vc_X12_sign_15 {f_code f_number f_type p1 z361 : Int} (h0 : f_code = 0) (h1 : f_code = 0 ∧ f_type = 3 ∧ f_number = p1) (h2 : z361 = 0) (h3 : 0 ≤ f_code ∧ f_code ≤ 0) (h4 : (-2147483648) ≤ f_number ∧ f_number ≤ 2147483647) (h5 : 3 ≤ f_type ∧ f_type ≤ 3) (h6 : (-2147483648) ≤ p1 ∧ p1 ≤ 2147483647) (h7 : 0 ≤ z361 ∧ z361 ≤ 0) : f_code = 0 ∨ 1 ≤ z361 := by omega
theorem vc_X12_sign_17 {f_at f_from z361 z363 z365 : Int} (h0 : ¬ z361 = 0) (h1 : f_at ≤ z365) (h2 : f_from ≤ f_at) (h3 : f_from + 1 ≤ f_at) (h4 : 0 ≤ f_at ∧ f_at ≤ 1000) (h5 : 0 ≤ f_from ∧ f_from ≤ 1000) (h6 : 1 ≤ z361 ∧ z361 ≤ 4) (h7 : 0 ≤ z363 ∧ z363 ≤ 1000) (h8 : 0 ≤ z365 ∧ z365 ≤ 1000) : z361 = 0 → z365 ≤ z363 := by omega
theorem vc_X12_sign_18 {f_at f_from z361 z363 z365 z367 : Int} (h0 : ¬ z361 = 0) (h1 : f_at ≤ z365) (h2 : f_from ≤ f_at) (h3 : f_from + 1 ≤ f_at) (h4 : 0 ≤ f_at ∧ f_at ≤ 1000) (h5 : 0 ≤ f_from ∧ f_from ≤ 1000) (h6 : 1 ≤ z361 ∧ z361 ≤ 4) (h7 : 0 ≤ z363 ∧ z363 ≤ 1000) (h8 : 0 ≤ z365 ∧ z365 ≤ 1000) (h9 : 0 ≤ z367 ∧ z367 ≤ 3) : z361 = 0 → z367 = 0 ∨ z365 + 1 ≤ z363 := by omega
theorem vc_X12_sign_19 {f_at f_from z361 z363 z365 z367 : Int} (h0 : ¬ z361 = 0) (h1 : f_at ≤ z365) (h2 : f_from ≤ f_at) (h3 : f_from + 1 ≤ f_at) (h4 : 0 ≤ f_at ∧ f_at ≤ 1000) (h5 : 0 ≤ f_from ∧ f_from ≤ 1000) (h6 : 1 ≤ z361 ∧ z361 ≤ 4) (h7 : 0 ≤ z363 ∧ z363 ≤ 1000) (h8 : 0 ≤ z365 ∧ z365 ≤ 1000) (h9 : 0 ≤ z367 ∧ z367 ≤ 3) : z361 = 0 → z367 = 1 → z365 + 2 ≤ z363 := by omega
theorem vc_X12_sign_20 {f_at f_from z361 z363 z365 z367 z369 : Int} (h0 : ¬ z361 = 0) (h1 : f_at ≤ z365) (h2 : f_from ≤ f_at) (h3 : f_from + 1 ≤ f_at) (h4 : 0 ≤ f_at ∧ f_at ≤ 1000) (h5 : 0 ≤ f_from ∧ f_from ≤ 1000) (h6 : 1 ≤ z361 ∧ z361 ≤ 4) (h7 : 0 ≤ z363 ∧ z363 ≤ 1000) (h8 : 0 ≤ z365 ∧ z365 ≤ 1000) (h9 : 0 ≤ z367 ∧ z367 ≤ 3) (h10 : (-2147483648) ≤ z369 ∧ z369 ≤ 2147483647) : z361 = 0 → z367 = 1 → z369 = 0 ∨ z369 = 4 ∨ z369 = 5 ∨ z365 + 3 ≤ z363 := by omega
theorem vc_X12_sign_21 {f_code f_number f_type p1 z361 : Int} (h0 : f_code = 0) (h1 : f_code = 0 ∧ f_type = 3 ∧ f_number = p1) (h2 : ¬ z361 = 0) (h3 : 0 ≤ f_code ∧ f_code ≤ 0) (h4 : (-2147483648) ≤ f_number ∧ f_number ≤ 2147483647) (h5 : 3 ≤ f_type ∧ f_type ≤ 3) (h6 : (-2147483648) ≤ p1 ∧ p1 ≤ 2147483647) (h7 : 1 ≤ z361 ∧ z361 ≤ 4) : z361 = 0 → f_code = 0 := by omega
theorem vc_X12_sign_22 {f_at f_from z361 z365 : Int} (h0 : f_from ≤ f_at) (h1 : f_from + 1 ≤ f_at) (h2 : ¬ z361 = 0) (h3 : f_at ≤ z365) (h4 : 0 ≤ f_at ∧ f_at ≤ 1000) (h5 : 0 ≤ f_from ∧ f_from ≤ 1000) (h6 : 1 ≤ z361 ∧ z361 ≤ 4) (h7 : 0 ≤ z365 ∧ z365 ≤ 1000) : z361 = 0 → f_from + 1 ≤ z365 := by omega
theorem vc_X12_sign_23 {f_code f_number f_type p1 z361 : Int} (h0 : f_code = 0) (h1 : f_code = 0 ∧ f_type = 3 ∧ f_number = p1) (h2 : ¬ z361 = 0) (h3 : 0 ≤ f_code ∧ f_code ≤ 0) (h4 : (-2147483648) ≤ f_number ∧ f_number ≤ 2147483647) (h5 : 3 ≤ f_type ∧ f_type ≤ 3) (h6 : (-2147483648) ≤ p1 ∧ p1 ≤ 2147483647) (h7 : 1 ≤ z361 ∧ z361 ≤ 4) : f_code = 0 ∨ 1 ≤ z361 := by omega
theorem vc_X12_sign_27 {z386 : Int} (h0 : 1 ≤ z386 ∧ z386 ≤ 4) : ¬ z386 = 0 := by omega
theorem vc_X12_sign_29 {z386 z398 z400 z402 : Int} (h0 : 1 ≤ z398) (h1 : 1 ≤ z386) (h2 : 1 ≤ z386 ∧ z386 ≤ 4) (h3 : 1 ≤ z398 ∧ z398 ≤ 4) (h4 : 0 ≤ z400 ∧ z400 ≤ 1000) (h5 : 0 ≤ z402 ∧ z402 ≤ 1000) : z398 = 0 → z402 ≤ z400 := by omega
theorem vc_X12_sign_30 {z386 z398 z400 z402 z404 : Int} (h0 : 1 ≤ z398) (h1 : 1 ≤ z386) (h2 : 1 ≤ z386 ∧ z386 ≤ 4) (h3 : 1 ≤ z398 ∧ z398 ≤ 4) (h4 : 0 ≤ z400 ∧ z400 ≤ 1000) (h5 : 0 ≤ z402 ∧ z402 ≤ 1000) (h6 : 0 ≤ z404 ∧ z404 ≤ 3) : z398 = 0 → z404 = 0 ∨ z402 + 1 ≤ z400 := by omega
theorem vc_X12_sign_31 {z386 z398 z400 z402 z404 : Int} (h0 : 1 ≤ z398) (h1 : 1 ≤ z386) (h2 : 1 ≤ z386 ∧ z386 ≤ 4) (h3 : 1 ≤ z398 ∧ z398 ≤ 4) (h4 : 0 ≤ z400 ∧ z400 ≤ 1000) (h5 : 0 ≤ z402 ∧ z402 ≤ 1000) (h6 : 0 ≤ z404 ∧ z404 ≤ 3) : z398 = 0 → z404 = 1 → z402 + 2 ≤ z400 := by omega
theorem vc_X12_sign_32 {z386 z398 z400 z402 z404 z406 : Int} (h0 : 1 ≤ z398) (h1 : 1 ≤ z386) (h2 : 1 ≤ z386 ∧ z386 ≤ 4) (h3 : 1 ≤ z398 ∧ z398 ≤ 4) (h4 : 0 ≤ z400 ∧ z400 ≤ 1000) (h5 : 0 ≤ z402 ∧ z402 ≤ 1000) (h6 : 0 ≤ z404 ∧ z404 ≤ 3) (h7 : (-2147483648) ≤ z406 ∧ z406 ≤ 2147483647) : z398 = 0 → z404 = 1 → z406 = 0 ∨ z406 = 4 ∨ z406 = 5 ∨ z402 + 3 ≤ z400 := by omega
theorem vc_X12_sign_33 {f_code z386 z398 : Int} (h0 : f_code = 0) (h1 : 1 ≤ z398) (h2 : 1 ≤ z386) (h3 : 0 ≤ f_code ∧ f_code ≤ 0) (h4 : 1 ≤ z386 ∧ z386 ≤ 4) (h5 : 1 ≤ z398 ∧ z398 ≤ 4) : z398 = 0 → f_code = 0 := by omega
theorem vc_X12_sign_34 {f_at f_from z386 z398 z402 : Int} (h0 : f_from ≤ f_at) (h1 : 1 ≤ z398) (h2 : 1 ≤ z386) (h3 : 0 ≤ f_at ∧ f_at ≤ 1000) (h4 : 0 ≤ f_from ∧ f_from ≤ 1000) (h5 : 1 ≤ z386 ∧ z386 ≤ 4) (h6 : 1 ≤ z398 ∧ z398 ≤ 4) (h7 : 0 ≤ z402 ∧ z402 ≤ 1000) : z398 = 0 → f_from + 1 ≤ z402 := by omega
theorem vc_X12_sign_35 {f_code z386 z398 : Int} (h0 : f_code = 0) (h1 : 1 ≤ z398) (h2 : 1 ≤ z386) (h3 : 0 ≤ f_code ∧ f_code ≤ 0) (h4 : 1 ≤ z386 ∧ z386 ≤ 4) (h5 : 1 ≤ z398 ∧ z398 ≤ 4) : f_code = 0 ∨ 1 ≤ z398 := by omega
theorem vc_X12_sign_39 {f_code f_number f_type p1 z420 : Int} (h0 : ¬ z420 = 0) (h1 : (z420 = 1 → f_code = 0 ∧ f_type = 3 ∧ f_number = p1)) (h2 : (z420 = 0 → ¬ f_code = 0 ∨ ¬ f_type = 3 ∨ ¬ f_number = p1)) (h3 : ¬ f_code = 0) (h4 : 1 ≤ f_code ∧ f_code ≤ 4) (h5 : (-2147483648) ≤ f_number ∧ f_number ≤ 2147483647) (h6 : 0 ≤ f_type ∧ f_type ≤ 3) (h7 : (-2147483648) ≤ p1 ∧ p1 ≤ 2147483647) (h8 : 0 ≤ z420 ∧ z420 ≤ 1) : False := by omega
theorem vc_X12_sign_49 {f_code z443 z455 : Int} (h0 : ¬ f_code = 0) (h1 : 1 ≤ z455) (h2 : 1 ≤ z443) (h3 : 1 ≤ f_code ∧ f_code ≤ 4) (h4 : 1 ≤ z443 ∧ z443 ≤ 4) (h5 : 1 ≤ z455 ∧ z455 ≤ 4) : z455 = 0 → f_code = 0 := by omega
theorem vc_X12_sign_50 {f_from z443 z455 z459 : Int} (h0 : 1 ≤ z455) (h1 : 1 ≤ z443) (h2 : 0 ≤ f_from ∧ f_from ≤ 1000) (h3 : 1 ≤ z443 ∧ z443 ≤ 4) (h4 : 1 ≤ z455 ∧ z455 ≤ 4) (h5 : 0 ≤ z459 ∧ z459 ≤ 1000) : z455 = 0 → f_from + 1 ≤ z459 := by omega
theorem vc_X12_sign_51 {f_code z443 z455 : Int} (h0 : ¬ f_code = 0) (h1 : 1 ≤ z455) (h2 : 1 ≤ z443) (h3 : 1 ≤ f_code ∧ f_code ≤ 4) (h4 : 1 ≤ z443 ∧ z443 ≤ 4) (h5 : 1 ≤ z455 ∧ z455 ≤ 4) : f_code = 0 ∨ 1 ≤ z455 := by omega
set_option maxRecDepth 4000 in
set_option maxHeartbeats 4000000 in
theorem c_X12_sign {l : Launch} {D : va_G} {c : Nat → ClassId} {H0 : Heap} {sa : Nat × Nat × (Nat → Int32)} {w : mW} {μ : mM} (hw : mWF w) (hT : mT w μ) {p1 : Int} (hp1 : (-2147483648) ≤ p1 ∧ p1 ≤ 2147483647) {f_code : Int} (q_f_code : μ 106 37 = f_code) {f_at : Int} (q_f_at : μ 106 33 = f_at) {f_from : Int} (q_f_from : μ 106 34 = f_from) {f_type : Int} (q_f_type : μ 106 35 = f_type) {f_number : Int} (q_f_number : μ 106 36 = f_number) (hq0 : f_code = 0 → f_from ≤ f_at) (hq1 : f_code = 0 → f_type = 0 ∨ f_from + 1 ≤ f_at) (hq2 : f_code = 0 → f_type = 1 → f_from + 2 ≤ f_at) (hq3 : f_code = 0 → f_type = 1 → f_number = 0 ∨ f_number = 4 ∨ f_number = 5 ∨ f_from + 3 ≤ f_at) : sC (gG l D c H0 sa) mX12_sign 3 0 0 [.ref 106, iv p1] (mk w μ) (qV w [106033, 106034, 106035, 106036, 106037, 106038] μ (fun μ1 => ∃ o_code o_at o_from o_type o_number : Int, μ1 106 37 = o_code ∧ μ1 106 33 = o_at ∧ μ1 106 34 = o_from ∧ μ1 106 35 = o_type ∧ μ1 106 36 = o_number ∧ (o_code = 0 → o_from ≤ o_at) ∧ (o_code = 0 → o_type = 0 ∨ o_from + 1 ≤ o_at) ∧ (o_code = 0 → o_type = 1 → o_from + 2 ≤ o_at) ∧ (o_code = 0 → o_type = 1 → o_number = 0 ∨ o_number = 4 ∨ o_number = 5 ∨ o_from + 3 ≤ o_at) ∧ (o_code = 0 → f_code = 0) ∧ (o_code = 0 → f_from + 1 ≤ o_from) ∧ (f_code = 0 ∨ 1 ≤ o_code) ∧ True)) := by
  refine sC.of rfl (by decide) (le_t rfl) ?_
  have ht_f_code : (0 ≤ f_code ∧ f_code ≤ 4) := by rw [← q_f_code]; exact hT 106 106 (A_106 hw) 37
  have ht_f_at : (0 ≤ f_at ∧ f_at ≤ 1000) := by rw [← q_f_at]; exact hT 106 106 (A_106 hw) 33
  have ht_f_from : (0 ≤ f_from ∧ f_from ≤ 1000) := by rw [← q_f_from]; exact hT 106 106 (A_106 hw) 34
  have ht_f_type : (0 ≤ f_type ∧ f_type ≤ 3) := by rw [← q_f_type]; exact hT 106 106 (A_106 hw) 35
  have ht_f_number : ((-2147483648) ≤ f_number ∧ f_number ≤ 2147483647) := by rw [← q_f_number]; exact hT 106 106 (A_106 hw) 36
  refine mr_lvE (lv' := [(0, .ref 106), (1, iv p1)]) rfl ?_
  by_cases h343 : f_code = 0
  · have h344 : 0 ≤ f_code ∧ f_code ≤ 0 := (vc_X12_wrong_4 h343 ht_f_code)
    refine sv_aload_n (pc := 0) dX12_sign_0 rfl rfl ?_
    refine mr_iload_n (pc := 1) (z := p1) dX12_sign_1 rfl rfl ?_
    refine mr_cVP (pc := 2) (c_X12_isSign hw hT hp1 q_f_code q_f_type q_f_number) (gOk _ _ _ _ _) dX12_sign_2 (tX12_isSign _ _ _ _ _) ⟨wV_X12_isSign, wL_X12_isSign⟩ wM_X12_244 (gCX12 _ _ _ _ _) rfl (A_106 hw) rfl ⟨le_t rfl, le_t rfl⟩ ⟨le_t rfl, le_t rfl⟩ rfl (le_t rfl) fun z349 h348 => ?_
    refine mr_if_ne (pc := 5) (tgt := 13) dX12_sign_5 (by decide) (r32 h348.1 rfl) (fun h350 => ?_) (fun h350 => ?_)
    · have h351 : 1 ≤ z349 ∧ z349 ≤ 1 := (vc_X12_ring_24 h350 h348.1)
      have h352 : f_code = 0 ∧ f_type = 3 ∧ f_number = p1 := (h348.2.1 (vc_X12_best_l_18 h350 h351))
      have h353 : 3 ≤ f_type ∧ f_type ≤ 3 := (vc_X12_sign_5 h352 h343 h344 ht_f_number ht_f_type hp1)
      refine sv_aload_n (pc := 13) dX12_sign_13 rfl rfl ?_
      obtain ⟨z354, q355⟩ : ∃ z, μ 106 1 = z := ⟨_, rfl⟩
      have h356 : (0 ≤ z354 ∧ z354 ≤ 1000) := by rw [← q355]; exact hT 106 106 (A_106 hw) 1
      refine mr_cVV (pc := 14) (c_X12_next hw hT q_f_code q_f_at q355) (gOk _ _ _ _ _) dX12_sign_14 (tX12_next _ _ _ _ _) ⟨wV_X12_next, wL_X12_next⟩ wM_X12_247 (gCX12 _ _ _ _ _) rfl (A_106 hw) rfl ⟨le_t rfl, le_t rfl⟩ ⟨le_t rfl, le_t rfl⟩ rfl (le_t rfl) fun μ357 T358 F359 h360 => ?_
      obtain ⟨z361, z363, z365, z367, z369, q362, q364, q366, q368, q370, h371⟩ := h360
      have h372 : (0 ≤ z361 ∧ z361 ≤ 4) := by rw [← q362]; exact T358 106 106 (A_106 hw) 37
      have h373 : (0 ≤ z363 ∧ z363 ≤ 1000) := by rw [← q364]; exact T358 106 106 (A_106 hw) 33
      have h374 : (0 ≤ z365 ∧ z365 ≤ 1000) := by rw [← q366]; exact T358 106 106 (A_106 hw) 34
      have h375 : (0 ≤ z367 ∧ z367 ≤ 3) := by rw [← q368]; exact T358 106 106 (A_106 hw) 35
      have h376 : ((-2147483648) ≤ z369 ∧ z369 ≤ 2147483647) := by rw [← q370]; exact T358 106 106 (A_106 hw) 36
      by_cases h377 : z361 = 0
      · have h378 : 0 ≤ z361 ∧ z361 ≤ 0 := (vc_X12_wrong_4 h377 h372)
        exact mr_vret dX12_sign_17 rfl (le_t rfl) (le_t rfl) T358 (mF.call mF.refl F359 rfl) ⟨z361, z363, z365, z367, z369, q362, q364, q366, q368, q370, (vc_X12_sign_9 h377 (h371.1 (vc_X12_sign_2 h344)) (h371.2.2.2.1 (vc_X12_sign_2 h378)) (hq0 (vc_X12_sign_2 h344)) ((hq1 (vc_X12_sign_2 h344)).resolve_left (vc_X12_sign_6 h353)) ht_f_at ht_f_from h378 h373 h374), (vc_X12_sign_10 h377 (h371.1 (vc_X12_sign_2 h344)) (h371.2.2.2.1 (vc_X12_sign_2 h378)) (h371.2.2.2.2.1 (vc_X12_sign_2 h378)) (h371.2.2.2.2.2.1 (vc_X12_sign_2 h378)) (hq0 (vc_X12_sign_2 h344)) ((hq1 (vc_X12_sign_2 h344)).resolve_left (vc_X12_sign_6 h353)) ht_f_at ht_f_from h378 h373 h374 h375), (vc_X12_sign_11 h377 (h371.1 (vc_X12_sign_2 h344)) (h371.2.2.2.1 (vc_X12_sign_2 h378)) (h371.2.2.2.2.1 (vc_X12_sign_2 h378)) (h371.2.2.2.2.2.1 (vc_X12_sign_2 h378)) (hq0 (vc_X12_sign_2 h344)) ((hq1 (vc_X12_sign_2 h344)).resolve_left (vc_X12_sign_6 h353)) ht_f_at ht_f_from h378 h373 h374 h375), (vc_X12_sign_12 h377 (h371.1 (vc_X12_sign_2 h344)) (h371.2.2.2.1 (vc_X12_sign_2 h378)) (h371.2.2.2.2.1 (vc_X12_sign_2 h378)) (h371.2.2.2.2.2.1 (vc_X12_sign_2 h378)) (h371.2.2.2.2.2.2.1 (vc_X12_sign_2 h378)) (hq0 (vc_X12_sign_2 h344)) ((hq1 (vc_X12_sign_2 h344)).resolve_left (vc_X12_sign_6 h353)) ht_f_at ht_f_from h378 h373 h374 h375 h376), (vc_X12_sign_13 h343 h352 h377 h344 ht_f_number h353 hp1 h378), (vc_X12_sign_14 (hq0 (vc_X12_sign_2 h344)) ((hq1 (vc_X12_sign_2 h344)).resolve_left (vc_X12_sign_6 h353)) h377 (h371.1 (vc_X12_sign_2 h344)) (h371.2.2.2.1 (vc_X12_sign_2 h378)) ht_f_at ht_f_from h378 h373 h374), (vc_X12_sign_15 h343 h352 h377 h344 ht_f_number h353 hp1 h378), trivial⟩
      have h379 : 1 ≤ z361 ∧ z361 ≤ 4 := (vc_X12_wrong_1 h377 h372)
      exact mr_vret dX12_sign_17 rfl (le_t rfl) (le_t rfl) T358 (mF.call mF.refl F359 rfl) ⟨z361, z363, z365, z367, z369, q362, q364, q366, q368, q370, (vc_X12_sign_17 h377 (h371.1 (vc_X12_sign_2 h344)) (hq0 (vc_X12_sign_2 h344)) ((hq1 (vc_X12_sign_2 h344)).resolve_left (vc_X12_sign_6 h353)) ht_f_at ht_f_from h379 h373 h374), (vc_X12_sign_18 h377 (h371.1 (vc_X12_sign_2 h344)) (hq0 (vc_X12_sign_2 h344)) ((hq1 (vc_X12_sign_2 h344)).resolve_left (vc_X12_sign_6 h353)) ht_f_at ht_f_from h379 h373 h374 h375), (vc_X12_sign_19 h377 (h371.1 (vc_X12_sign_2 h344)) (hq0 (vc_X12_sign_2 h344)) ((hq1 (vc_X12_sign_2 h344)).resolve_left (vc_X12_sign_6 h353)) ht_f_at ht_f_from h379 h373 h374 h375), (vc_X12_sign_20 h377 (h371.1 (vc_X12_sign_2 h344)) (hq0 (vc_X12_sign_2 h344)) ((hq1 (vc_X12_sign_2 h344)).resolve_left (vc_X12_sign_6 h353)) ht_f_at ht_f_from h379 h373 h374 h375 h376), (vc_X12_sign_21 h343 h352 h377 h344 ht_f_number h353 hp1 h379), (vc_X12_sign_22 (hq0 (vc_X12_sign_2 h344)) ((hq1 (vc_X12_sign_2 h344)).resolve_left (vc_X12_sign_6 h353)) h377 (h371.1 (vc_X12_sign_2 h344)) ht_f_at ht_f_from h379 h374), (vc_X12_sign_23 h343 h352 h377 h344 ht_f_number h353 hp1 h379), trivial⟩
    have h380 : 0 ≤ z349 ∧ z349 ≤ 0 := (vc_X12_ring_22 h350 h348.1)
    have h381 : ¬ f_code = 0 ∨ ¬ f_type = 3 ∨ ¬ f_number = p1 := (h348.2.2.1 (vc_X12_goes_7 h350 h380))
    refine sv_aload_n (pc := 8) dX12_sign_8 rfl rfl ?_
    refine mr_iconst (pc := 9) (z := 2) dX12_sign_9 ?_
    refine mr_cVV (pc := 10) (c_X12_wrong hw hT (rW (c := 1) (d := 4) (rR (x := 2)) rfl) q_f_code) (gOk _ _ _ _ _) dX12_sign_10 (tX12_wrong _ _ _ _ _) ⟨wV_X12_wrong, wL_X12_wrong⟩ wM_X12_240 (gCX12 _ _ _ _ _) rfl (A_106 hw) rfl ⟨le_t rfl, le_t rfl⟩ ⟨le_t rfl, le_t rfl⟩ rfl (le_t rfl) fun μ382 T383 F384 h385 => ?_
    obtain ⟨z386, q387, h388⟩ := h385
    have h389 : (0 ≤ z386 ∧ z386 ≤ 4) := by rw [← q387]; exact T383 106 106 (A_106 hw) 37
    have h390 : 1 ≤ z386 ∧ z386 ≤ 4 := (vc_X12_next_128 h388.1 h389)
    refine sv_aload_n (pc := 13) dX12_sign_13 rfl rfl ?_
    obtain ⟨z391, q392⟩ : ∃ z, μ382 106 1 = z := ⟨_, rfl⟩
    have h393 : (0 ≤ z391 ∧ z391 ≤ 1000) := by rw [← q392]; exact T383 106 106 (A_106 hw) 1
    refine mr_cVV (pc := 14) (c_X12_next hw T383 q387 (F384.f (A_106 hw) rfl q_f_at) q392) (gOk _ _ _ _ _) dX12_sign_14 (tX12_next _ _ _ _ _) ⟨wV_X12_next, wL_X12_next⟩ wM_X12_247 (gCX12 _ _ _ _ _) rfl (A_106 hw) rfl ⟨le_t rfl, le_t rfl⟩ ⟨le_t rfl, le_t rfl⟩ rfl (le_t rfl) fun μ394 T395 F396 h397 => ?_
    obtain ⟨z398, z400, z402, z404, z406, q399, q401, q403, q405, q407, h408⟩ := h397
    have h409 : (0 ≤ z398 ∧ z398 ≤ 4) := by rw [← q399]; exact T395 106 106 (A_106 hw) 37
    have h410 : (0 ≤ z400 ∧ z400 ≤ 1000) := by rw [← q401]; exact T395 106 106 (A_106 hw) 33
    have h411 : (0 ≤ z402 ∧ z402 ≤ 1000) := by rw [← q403]; exact T395 106 106 (A_106 hw) 34
    have h412 : (0 ≤ z404 ∧ z404 ≤ 3) := by rw [← q405]; exact T395 106 106 (A_106 hw) 35
    have h413 : ((-2147483648) ≤ z406 ∧ z406 ≤ 2147483647) := by rw [← q407]; exact T395 106 106 (A_106 hw) 36
    have h414 : 1 ≤ z398 ∧ z398 ≤ 4 := (vc_X12_next_128 (h408.2.2.1.resolve_left (vc_X12_sign_27 h390)) h409)
    exact mr_vret dX12_sign_17 rfl (le_t rfl) (le_t rfl) T395 (mF.call (mF.call mF.refl F384 rfl) F396 rfl) ⟨z398, z400, z402, z404, z406, q399, q401, q403, q405, q407, (vc_X12_sign_29 (h408.2.2.1.resolve_left (vc_X12_sign_27 h390)) h388.1 h390 h414 h410 h411), (vc_X12_sign_30 (h408.2.2.1.resolve_left (vc_X12_sign_27 h390)) h388.1 h390 h414 h410 h411 h412), (vc_X12_sign_31 (h408.2.2.1.resolve_left (vc_X12_sign_27 h390)) h388.1 h390 h414 h410 h411 h412), (vc_X12_sign_32 (h408.2.2.1.resolve_left (vc_X12_sign_27 h390)) h388.1 h390 h414 h410 h411 h412 h413), (vc_X12_sign_33 h343 (h408.2.2.1.resolve_left (vc_X12_sign_27 h390)) h388.1 h344 h390 h414), (vc_X12_sign_34 (hq0 (vc_X12_sign_2 h344)) (h408.2.2.1.resolve_left (vc_X12_sign_27 h390)) h388.1 ht_f_at ht_f_from h390 h414 h411), (vc_X12_sign_35 h343 (h408.2.2.1.resolve_left (vc_X12_sign_27 h390)) h388.1 h344 h390 h414), trivial⟩
  have h415 : 1 ≤ f_code ∧ f_code ≤ 4 := (vc_X12_wrong_1 h343 ht_f_code)
  refine sv_aload_n (pc := 0) dX12_sign_0 rfl rfl ?_
  refine mr_iload_n (pc := 1) (z := p1) dX12_sign_1 rfl rfl ?_
  refine mr_cVP (pc := 2) (c_X12_isSign hw hT hp1 q_f_code q_f_type q_f_number) (gOk _ _ _ _ _) dX12_sign_2 (tX12_isSign _ _ _ _ _) ⟨wV_X12_isSign, wL_X12_isSign⟩ wM_X12_244 (gCX12 _ _ _ _ _) rfl (A_106 hw) rfl ⟨le_t rfl, le_t rfl⟩ ⟨le_t rfl, le_t rfl⟩ rfl (le_t rfl) fun z420 h419 => ?_
  refine mr_if_ne (pc := 5) (tgt := 13) dX12_sign_5 (by decide) (r32 h419.1 rfl) (fun h434 => ?_) (fun h434 => ?_)
  · exact ((vc_X12_sign_39 h434 h419.2.1 h419.2.2.1 h343 h415 ht_f_number ht_f_type hp1 h419.1)).elim
  have h437 : 0 ≤ z420 ∧ z420 ≤ 0 := (vc_X12_ring_22 h434 h419.1)
  have h438 : ¬ f_code = 0 ∨ ¬ f_type = 3 ∨ ¬ f_number = p1 := (h419.2.2.1 (vc_X12_goes_7 h434 h437))
  refine sv_aload_n (pc := 8) dX12_sign_8 rfl rfl ?_
  refine mr_iconst (pc := 9) (z := 2) dX12_sign_9 ?_
  refine mr_cVV (pc := 10) (c_X12_wrong hw hT (rW (c := 1) (d := 4) (rR (x := 2)) rfl) q_f_code) (gOk _ _ _ _ _) dX12_sign_10 (tX12_wrong _ _ _ _ _) ⟨wV_X12_wrong, wL_X12_wrong⟩ wM_X12_240 (gCX12 _ _ _ _ _) rfl (A_106 hw) rfl ⟨le_t rfl, le_t rfl⟩ ⟨le_t rfl, le_t rfl⟩ rfl (le_t rfl) fun μ439 T440 F441 h442 => ?_
  obtain ⟨z443, q444, h445⟩ := h442
  have h446 : (0 ≤ z443 ∧ z443 ≤ 4) := by rw [← q444]; exact T440 106 106 (A_106 hw) 37
  have h447 : 1 ≤ z443 ∧ z443 ≤ 4 := (vc_X12_next_128 h445.1 h446)
  refine sv_aload_n (pc := 13) dX12_sign_13 rfl rfl ?_
  obtain ⟨z448, q449⟩ : ∃ z, μ439 106 1 = z := ⟨_, rfl⟩
  have h450 : (0 ≤ z448 ∧ z448 ≤ 1000) := by rw [← q449]; exact T440 106 106 (A_106 hw) 1
  refine mr_cVV (pc := 14) (c_X12_next hw T440 q444 (F441.f (A_106 hw) rfl q_f_at) q449) (gOk _ _ _ _ _) dX12_sign_14 (tX12_next _ _ _ _ _) ⟨wV_X12_next, wL_X12_next⟩ wM_X12_247 (gCX12 _ _ _ _ _) rfl (A_106 hw) rfl ⟨le_t rfl, le_t rfl⟩ ⟨le_t rfl, le_t rfl⟩ rfl (le_t rfl) fun μ451 T452 F453 h454 => ?_
  obtain ⟨z455, z457, z459, z461, z463, q456, q458, q460, q462, q464, h465⟩ := h454
  have h466 : (0 ≤ z455 ∧ z455 ≤ 4) := by rw [← q456]; exact T452 106 106 (A_106 hw) 37
  have h467 : (0 ≤ z457 ∧ z457 ≤ 1000) := by rw [← q458]; exact T452 106 106 (A_106 hw) 33
  have h468 : (0 ≤ z459 ∧ z459 ≤ 1000) := by rw [← q460]; exact T452 106 106 (A_106 hw) 34
  have h469 : (0 ≤ z461 ∧ z461 ≤ 3) := by rw [← q462]; exact T452 106 106 (A_106 hw) 35
  have h470 : ((-2147483648) ≤ z463 ∧ z463 ≤ 2147483647) := by rw [← q464]; exact T452 106 106 (A_106 hw) 36
  have h471 : 1 ≤ z455 ∧ z455 ≤ 4 := (vc_X12_next_128 (h465.2.2.1.resolve_left (vc_X12_sign_27 h447)) h466)
  exact mr_vret dX12_sign_17 rfl (le_t rfl) (le_t rfl) T452 (mF.call (mF.call mF.refl F441 rfl) F453 rfl) ⟨z455, z457, z459, z461, z463, q456, q458, q460, q462, q464, (vc_X12_sign_29 (h465.2.2.1.resolve_left (vc_X12_sign_27 h447)) h445.1 h447 h471 h467 h468), (vc_X12_sign_30 (h465.2.2.1.resolve_left (vc_X12_sign_27 h447)) h445.1 h447 h471 h467 h468 h469), (vc_X12_sign_31 (h465.2.2.1.resolve_left (vc_X12_sign_27 h447)) h445.1 h447 h471 h467 h468 h469), (vc_X12_sign_32 (h465.2.2.1.resolve_left (vc_X12_sign_27 h447)) h445.1 h447 h471 h467 h468 h469 h470), (vc_X12_sign_49 h343 (h465.2.2.1.resolve_left (vc_X12_sign_27 h447)) h445.1 h415 h447 h471), (vc_X12_sign_50 (h465.2.2.1.resolve_left (vc_X12_sign_27 h447)) h445.1 ht_f_from h447 h471 h468), (vc_X12_sign_51 h343 (h465.2.2.1.resolve_left (vc_X12_sign_27 h447)) h445.1 h415 h447 h471), trivial⟩
theorem vc_X12_within_4 {f_type : Int} (h0 : 2 ≤ f_type ∧ f_type ≤ 2) : ¬ f_type = 0 := by omega
theorem vc_X12_within_13 {f_code z515 : Int} (h0 : f_code = 0) (h1 : z515 = 0) (h2 : 0 ≤ f_code ∧ f_code ≤ 0) (h3 : 0 ≤ z515 ∧ z515 ≤ 0) : z515 = 0 → f_code = 0 := by omega
theorem vc_X12_within_15 {f_code z515 : Int} (h0 : f_code = 0) (h1 : z515 = 0) (h2 : 0 ≤ f_code ∧ f_code ≤ 0) (h3 : 0 ≤ z515 ∧ z515 ≤ 0) : f_code = 0 ∨ 1 ≤ z515 := by omega
theorem vc_X12_within_16 {f_number p1 p2 z515 : Int} (h0 : p1 ≤ f_number ∧ f_number ≤ p2) (h1 : z515 = 0) (h2 : (-2147483648) ≤ f_number ∧ f_number ≤ 2147483647) (h3 : (-2147483648) ≤ p1 ∧ p1 ≤ 2147483647) (h4 : (-2147483648) ≤ p2 ∧ p2 ≤ 2147483647) (h5 : 0 ≤ z515 ∧ z515 ≤ 0) : z515 = 0 → p1 ≤ f_number ∧ f_number ≤ p2 := by omega
theorem vc_X12_within_22 {f_code z515 : Int} (h0 : f_code = 0) (h1 : ¬ z515 = 0) (h2 : 0 ≤ f_code ∧ f_code ≤ 0) (h3 : 1 ≤ z515 ∧ z515 ≤ 4) : z515 = 0 → f_code = 0 := by omega
theorem vc_X12_within_24 {f_code z515 : Int} (h0 : f_code = 0) (h1 : ¬ z515 = 0) (h2 : 0 ≤ f_code ∧ f_code ≤ 0) (h3 : 1 ≤ z515 ∧ z515 ≤ 4) : f_code = 0 ∨ 1 ≤ z515 := by omega
theorem vc_X12_within_25 {f_number p1 p2 z515 : Int} (h0 : p1 ≤ f_number ∧ f_number ≤ p2) (h1 : ¬ z515 = 0) (h2 : (-2147483648) ≤ f_number ∧ f_number ≤ 2147483647) (h3 : (-2147483648) ≤ p1 ∧ p1 ≤ 2147483647) (h4 : (-2147483648) ≤ p2 ∧ p2 ≤ 2147483647) (h5 : 1 ≤ z515 ∧ z515 ≤ 4) : z515 = 0 → p1 ≤ f_number ∧ f_number ≤ p2 := by omega
theorem vc_X12_within_36 {f_at f_from z540 z552 z556 : Int} (h0 : f_from ≤ f_at) (h1 : f_from + 1 ≤ f_at) (h2 : 1 ≤ z552) (h3 : 1 ≤ z540) (h4 : 0 ≤ f_at ∧ f_at ≤ 1000) (h5 : 0 ≤ f_from ∧ f_from ≤ 1000) (h6 : 1 ≤ z540 ∧ z540 ≤ 4) (h7 : 1 ≤ z552 ∧ z552 ≤ 4) (h8 : 0 ≤ z556 ∧ z556 ≤ 1000) : z552 = 0 → f_from + 1 ≤ z556 := by omega
theorem vc_X12_within_38 {f_number p1 p2 z540 z552 : Int} (h0 : f_number < p1 ∨ p2 < f_number) (h1 : 1 ≤ z552) (h2 : 1 ≤ z540) (h3 : (-2147483648) ≤ f_number ∧ f_number ≤ 2147483647) (h4 : (-2147483648) ≤ p1 ∧ p1 ≤ 2147483647) (h5 : (-2147483648) ≤ p2 ∧ p2 ≤ 2147483647) (h6 : 1 ≤ z540 ∧ z540 ≤ 4) (h7 : 1 ≤ z552 ∧ z552 ≤ 4) : z552 = 0 → p1 ≤ f_number ∧ f_number ≤ p2 := by omega
theorem vc_X12_within_47 {f_at f_from f_type z573 z585 z589 : Int} (h0 : f_from ≤ f_at) (h1 : 1 ≤ z585) (h2 : ¬ f_type = 2) (h3 : 1 ≤ z573) (h4 : 0 ≤ f_at ∧ f_at ≤ 1000) (h5 : 0 ≤ f_from ∧ f_from ≤ 1000) (h6 : 0 ≤ f_type ∧ f_type ≤ 3) (h7 : 1 ≤ z573 ∧ z573 ≤ 4) (h8 : 1 ≤ z585 ∧ z585 ≤ 4) (h9 : 0 ≤ z589 ∧ z589 ≤ 1000) : z585 = 0 → f_from + 1 ≤ z589 := by omega
theorem vc_X12_within_49 {f_at f_from f_number f_type p1 p2 z573 z585 : Int} (h0 : 1 ≤ z585) (h1 : f_from ≤ f_at) (h2 : ¬ f_type = 2) (h3 : 1 ≤ z573) (h4 : 0 ≤ f_at ∧ f_at ≤ 1000) (h5 : 0 ≤ f_from ∧ f_from ≤ 1000) (h6 : (-2147483648) ≤ f_number ∧ f_number ≤ 2147483647) (h7 : 0 ≤ f_type ∧ f_type ≤ 3) (h8 : (-2147483648) ≤ p1 ∧ p1 ≤ 2147483647) (h9 : (-2147483648) ≤ p2 ∧ p2 ≤ 2147483647) (h10 : 1 ≤ z573 ∧ z573 ≤ 4) (h11 : 1 ≤ z585 ∧ z585 ≤ 4) : z585 = 0 → p1 ≤ f_number ∧ f_number ≤ p2 := by omega
theorem vc_X12_within_61 {f_number p1 p2 z637 z649 : Int} (h0 : 1 ≤ z649) (h1 : 1 ≤ z637) (h2 : (-2147483648) ≤ f_number ∧ f_number ≤ 2147483647) (h3 : (-2147483648) ≤ p1 ∧ p1 ≤ 2147483647) (h4 : (-2147483648) ≤ p2 ∧ p2 ≤ 2147483647) (h5 : 1 ≤ z637 ∧ z637 ≤ 4) (h6 : 1 ≤ z649 ∧ z649 ≤ 4) : z649 = 0 → p1 ≤ f_number ∧ f_number ≤ p2 := by omega
theorem vc_X12_within_68 {f_code z682 : Int} (h0 : 1 ≤ z682) (h1 : ¬ f_code = 0) (h2 : 1 ≤ f_code ∧ f_code ≤ 4) (h3 : 1 ≤ z682 ∧ z682 ≤ 4) : 1 ≤ z682 := by omega
set_option maxRecDepth 4000 in
set_option maxHeartbeats 4000000 in
theorem c_X12_within {l : Launch} {D : va_G} {c : Nat → ClassId} {H0 : Heap} {sa : Nat × Nat × (Nat → Int32)} {w : mW} {μ : mM} (hw : mWF w) (hT : mT w μ) {p1 : Int} (hp1 : (-2147483648) ≤ p1 ∧ p1 ≤ 2147483647) {p2 : Int} (hp2 : (-2147483648) ≤ p2 ∧ p2 ≤ 2147483647) {f_code : Int} (q_f_code : μ 106 37 = f_code) {f_at : Int} (q_f_at : μ 106 33 = f_at) {f_from : Int} (q_f_from : μ 106 34 = f_from) {f_type : Int} (q_f_type : μ 106 35 = f_type) {f_number : Int} (q_f_number : μ 106 36 = f_number) (hq0 : f_code = 0 → f_from ≤ f_at) (hq1 : f_code = 0 → f_type = 0 ∨ f_from + 1 ≤ f_at) (hq2 : f_code = 0 → f_type = 1 → f_from + 2 ≤ f_at) (hq3 : f_code = 0 → f_type = 1 → f_number = 0 ∨ f_number = 4 ∨ f_number = 5 ∨ f_from + 3 ≤ f_at) : sC (gG l D c H0 sa) mX12_within 3 0 0 [.ref 106, iv p1, iv p2] (mk w μ) (qI w [106033, 106034, 106035, 106036, 106037, 106038] μ (fun z μ1 => ∃ o_code o_at o_from o_type o_number : Int, μ1 106 37 = o_code ∧ μ1 106 33 = o_at ∧ μ1 106 34 = o_from ∧ μ1 106 35 = o_type ∧ μ1 106 36 = o_number ∧ ((-2147483648) ≤ z ∧ z ≤ 2147483647) ∧ (o_code = 0 → o_from ≤ o_at) ∧ (o_code = 0 → o_type = 0 ∨ o_from + 1 ≤ o_at) ∧ (o_code = 0 → o_type = 1 → o_from + 2 ≤ o_at) ∧ (o_code = 0 → o_type = 1 → o_number = 0 ∨ o_number = 4 ∨ o_number = 5 ∨ o_from + 3 ≤ o_at) ∧ (o_code = 0 → f_code = 0) ∧ (o_code = 0 → f_from + 1 ≤ o_from) ∧ (f_code = 0 ∨ 1 ≤ o_code) ∧ (o_code = 0 → p1 ≤ z ∧ z ≤ p2) ∧ True)) := by
  refine sC.of rfl (by decide) (le_t rfl) ?_
  have ht_f_code : (0 ≤ f_code ∧ f_code ≤ 4) := by rw [← q_f_code]; exact hT 106 106 (A_106 hw) 37
  have ht_f_at : (0 ≤ f_at ∧ f_at ≤ 1000) := by rw [← q_f_at]; exact hT 106 106 (A_106 hw) 33
  have ht_f_from : (0 ≤ f_from ∧ f_from ≤ 1000) := by rw [← q_f_from]; exact hT 106 106 (A_106 hw) 34
  have ht_f_type : (0 ≤ f_type ∧ f_type ≤ 3) := by rw [← q_f_type]; exact hT 106 106 (A_106 hw) 35
  have ht_f_number : ((-2147483648) ≤ f_number ∧ f_number ≤ 2147483647) := by rw [← q_f_number]; exact hT 106 106 (A_106 hw) 36
  refine mr_lvE (lv' := [(0, .ref 106), (1, iv p1), (2, iv p2)]) rfl ?_
  by_cases h496 : f_code = 0
  · have h497 : 0 ≤ f_code ∧ f_code ≤ 0 := (vc_X12_wrong_4 h496 ht_f_code)
    refine sv_aload_n (pc := 0) dX12_within_0 rfl rfl ?_
    refine gk_X12_35 (pc := 1) dX12_within_1 wF_X12_230 (A_106 hw) q_f_type ?_
    refine mr_iconst (pc := 4) (z := 2) dX12_within_4 ?_
    refine mr_icmp_eq (pc := 5) (tgt := 16) dX12_within_5 (by decide) (r32 ht_f_type rfl) (r32 (rR (x := 2)) rfl) (fun h498 => ?_) (fun h498 => ?_)
    · have h499 : 2 ≤ f_type ∧ f_type ≤ 2 := (vc_X10_firstWrongStep_8 h498 ht_f_type)
      refine sv_aload_n (pc := 16) dX12_within_16 rfl rfl ?_
      refine gk_X12_36 (pc := 17) dX12_within_17 wF_X12_233 (A_106 hw) q_f_number ?_
      refine mr_iload_n (pc := 20) (z := p1) dX12_within_20 rfl rfl ?_
      refine mr_iload_n (pc := 21) (z := p2) dX12_within_21 rfl rfl ?_
      refine mr_cSP (pc := 22) (c_X12_in hw hT ht_f_number hp1 hp2) (gOk _ _ _ _ _) dX12_within_22 (tX12_in _ _ _ _ _) wS_X12_in wM_X12_18 ⟨le_t rfl, le_t rfl⟩ ⟨le_t rfl, le_t rfl⟩ rfl (le_t rfl) fun z504 h503 => ?_
      refine mr_if_ne (pc := 25) (tgt := 33) dX12_within_25 (by decide) (r32 h503.1 rfl) (fun h505 => ?_) (fun h505 => ?_)
      · have h506 : 1 ≤ z504 ∧ z504 ≤ 1 := (vc_X12_ring_24 h505 h503.1)
        have h507 : p1 ≤ f_number ∧ f_number ≤ p2 := (h503.2.1 (vc_X12_best_l_18 h505 h506))
        refine sv_aload_n (pc := 33) dX12_within_33 rfl rfl ?_
        refine gk_X12_36 (pc := 34) dX12_within_34 wF_X12_233 (A_106 hw) q_f_number ?_
        refine mr_istore_n (pc := 37) (lv' := [(3, iv f_number), (0, .ref 106), (1, iv p1), (2, iv p2)]) dX12_within_37 rfl (by decide) rfl ?_
        refine sv_aload_n (pc := 38) dX12_within_38 rfl rfl ?_
        obtain ⟨z508, q509⟩ : ∃ z, μ 106 1 = z := ⟨_, rfl⟩
        have h510 : (0 ≤ z508 ∧ z508 ≤ 1000) := by rw [← q509]; exact hT 106 106 (A_106 hw) 1
        refine mr_cVV (pc := 39) (c_X12_next hw hT q_f_code q_f_at q509) (gOk _ _ _ _ _) dX12_within_39 (tX12_next _ _ _ _ _) ⟨wV_X12_next, wL_X12_next⟩ wM_X12_247 (gCX12 _ _ _ _ _) rfl (A_106 hw) rfl ⟨le_t rfl, le_t rfl⟩ ⟨le_t rfl, le_t rfl⟩ rfl (le_t rfl) fun μ511 T512 F513 h514 => ?_
        obtain ⟨z515, z517, z519, z521, z523, q516, q518, q520, q522, q524, h525⟩ := h514
        have h526 : (0 ≤ z515 ∧ z515 ≤ 4) := by rw [← q516]; exact T512 106 106 (A_106 hw) 37
        have h527 : (0 ≤ z517 ∧ z517 ≤ 1000) := by rw [← q518]; exact T512 106 106 (A_106 hw) 33
        have h528 : (0 ≤ z519 ∧ z519 ≤ 1000) := by rw [← q520]; exact T512 106 106 (A_106 hw) 34
        have h529 : (0 ≤ z521 ∧ z521 ≤ 3) := by rw [← q522]; exact T512 106 106 (A_106 hw) 35
        have h530 : ((-2147483648) ≤ z523 ∧ z523 ≤ 2147483647) := by rw [← q524]; exact T512 106 106 (A_106 hw) 36
        by_cases h531 : z515 = 0
        · have h532 : 0 ≤ z515 ∧ z515 ≤ 0 := (vc_X12_wrong_4 h531 h526)
          refine mr_iload_n (pc := 42) (z := f_number) dX12_within_42 rfl rfl ?_
          exact mr_iret dX12_within_43 rfl (le_t rfl) (le_t rfl) T512 (mF.call mF.refl F513 rfl) ⟨z515, z517, z519, z521, z523, q516, q518, q520, q522, q524, ht_f_number, (vc_X12_sign_9 h531 (h525.1 (vc_X12_sign_2 h497)) (h525.2.2.2.1 (vc_X12_sign_2 h532)) (hq0 (vc_X12_sign_2 h497)) ((hq1 (vc_X12_sign_2 h497)).resolve_left (vc_X12_within_4 h499)) ht_f_at ht_f_from h532 h527 h528), (vc_X12_sign_10 h531 (h525.1 (vc_X12_sign_2 h497)) (h525.2.2.2.1 (vc_X12_sign_2 h532)) (h525.2.2.2.2.1 (vc_X12_sign_2 h532)) (h525.2.2.2.2.2.1 (vc_X12_sign_2 h532)) (hq0 (vc_X12_sign_2 h497)) ((hq1 (vc_X12_sign_2 h497)).resolve_left (vc_X12_within_4 h499)) ht_f_at ht_f_from h532 h527 h528 h529), (vc_X12_sign_11 h531 (h525.1 (vc_X12_sign_2 h497)) (h525.2.2.2.1 (vc_X12_sign_2 h532)) (h525.2.2.2.2.1 (vc_X12_sign_2 h532)) (h525.2.2.2.2.2.1 (vc_X12_sign_2 h532)) (hq0 (vc_X12_sign_2 h497)) ((hq1 (vc_X12_sign_2 h497)).resolve_left (vc_X12_within_4 h499)) ht_f_at ht_f_from h532 h527 h528 h529), (vc_X12_sign_12 h531 (h525.1 (vc_X12_sign_2 h497)) (h525.2.2.2.1 (vc_X12_sign_2 h532)) (h525.2.2.2.2.1 (vc_X12_sign_2 h532)) (h525.2.2.2.2.2.1 (vc_X12_sign_2 h532)) (h525.2.2.2.2.2.2.1 (vc_X12_sign_2 h532)) (hq0 (vc_X12_sign_2 h497)) ((hq1 (vc_X12_sign_2 h497)).resolve_left (vc_X12_within_4 h499)) ht_f_at ht_f_from h532 h527 h528 h529 h530), (vc_X12_within_13 h496 h531 h497 h532), (vc_X12_sign_14 (hq0 (vc_X12_sign_2 h497)) ((hq1 (vc_X12_sign_2 h497)).resolve_left (vc_X12_within_4 h499)) h531 (h525.1 (vc_X12_sign_2 h497)) (h525.2.2.2.1 (vc_X12_sign_2 h532)) ht_f_at ht_f_from h532 h527 h528), (vc_X12_within_15 h496 h531 h497 h532), (vc_X12_within_16 h507 h531 ht_f_number hp1 hp2 h532), trivial⟩
        have h533 : 1 ≤ z515 ∧ z515 ≤ 4 := (vc_X12_wrong_1 h531 h526)
        refine mr_iload_n (pc := 42) (z := f_number) dX12_within_42 rfl rfl ?_
        exact mr_iret dX12_within_43 rfl (le_t rfl) (le_t rfl) T512 (mF.call mF.refl F513 rfl) ⟨z515, z517, z519, z521, z523, q516, q518, q520, q522, q524, ht_f_number, (vc_X12_sign_17 h531 (h525.1 (vc_X12_sign_2 h497)) (hq0 (vc_X12_sign_2 h497)) ((hq1 (vc_X12_sign_2 h497)).resolve_left (vc_X12_within_4 h499)) ht_f_at ht_f_from h533 h527 h528), (vc_X12_sign_18 h531 (h525.1 (vc_X12_sign_2 h497)) (hq0 (vc_X12_sign_2 h497)) ((hq1 (vc_X12_sign_2 h497)).resolve_left (vc_X12_within_4 h499)) ht_f_at ht_f_from h533 h527 h528 h529), (vc_X12_sign_19 h531 (h525.1 (vc_X12_sign_2 h497)) (hq0 (vc_X12_sign_2 h497)) ((hq1 (vc_X12_sign_2 h497)).resolve_left (vc_X12_within_4 h499)) ht_f_at ht_f_from h533 h527 h528 h529), (vc_X12_sign_20 h531 (h525.1 (vc_X12_sign_2 h497)) (hq0 (vc_X12_sign_2 h497)) ((hq1 (vc_X12_sign_2 h497)).resolve_left (vc_X12_within_4 h499)) ht_f_at ht_f_from h533 h527 h528 h529 h530), (vc_X12_within_22 h496 h531 h497 h533), (vc_X12_sign_22 (hq0 (vc_X12_sign_2 h497)) ((hq1 (vc_X12_sign_2 h497)).resolve_left (vc_X12_within_4 h499)) h531 (h525.1 (vc_X12_sign_2 h497)) ht_f_at ht_f_from h533 h528), (vc_X12_within_24 h496 h531 h497 h533), (vc_X12_within_25 h507 h531 ht_f_number hp1 hp2 h533), trivial⟩
      have h534 : 0 ≤ z504 ∧ z504 ≤ 0 := (vc_X12_ring_22 h505 h503.1)
      have h535 : f_number < p1 ∨ p2 < f_number := (h503.2.2.1 (vc_X12_goes_7 h505 h534))
      refine sv_aload_n (pc := 28) dX12_within_28 rfl rfl ?_
      refine mr_iconst (pc := 29) (z := 3) dX12_within_29 ?_
      refine mr_cVV (pc := 30) (c_X12_wrong hw hT (rW (c := 1) (d := 4) (rR (x := 3)) rfl) q_f_code) (gOk _ _ _ _ _) dX12_within_30 (tX12_wrong _ _ _ _ _) ⟨wV_X12_wrong, wL_X12_wrong⟩ wM_X12_240 (gCX12 _ _ _ _ _) rfl (A_106 hw) rfl ⟨le_t rfl, le_t rfl⟩ ⟨le_t rfl, le_t rfl⟩ rfl (le_t rfl) fun μ536 T537 F538 h539 => ?_
      obtain ⟨z540, q541, h542⟩ := h539
      have h543 : (0 ≤ z540 ∧ z540 ≤ 4) := by rw [← q541]; exact T537 106 106 (A_106 hw) 37
      have h544 : 1 ≤ z540 ∧ z540 ≤ 4 := (vc_X12_next_128 h542.1 h543)
      refine sv_aload_n (pc := 33) dX12_within_33 rfl rfl ?_
      refine gk_X12_36 (pc := 34) dX12_within_34 wF_X12_233 (A_106 hw) (F538.f (A_106 hw) rfl q_f_number) ?_
      refine mr_istore_n (pc := 37) (lv' := [(3, iv f_number), (0, .ref 106), (1, iv p1), (2, iv p2)]) dX12_within_37 rfl (by decide) rfl ?_
      refine sv_aload_n (pc := 38) dX12_within_38 rfl rfl ?_
      obtain ⟨z545, q546⟩ : ∃ z, μ536 106 1 = z := ⟨_, rfl⟩
      have h547 : (0 ≤ z545 ∧ z545 ≤ 1000) := by rw [← q546]; exact T537 106 106 (A_106 hw) 1
      refine mr_cVV (pc := 39) (c_X12_next hw T537 q541 (F538.f (A_106 hw) rfl q_f_at) q546) (gOk _ _ _ _ _) dX12_within_39 (tX12_next _ _ _ _ _) ⟨wV_X12_next, wL_X12_next⟩ wM_X12_247 (gCX12 _ _ _ _ _) rfl (A_106 hw) rfl ⟨le_t rfl, le_t rfl⟩ ⟨le_t rfl, le_t rfl⟩ rfl (le_t rfl) fun μ548 T549 F550 h551 => ?_
      obtain ⟨z552, z554, z556, z558, z560, q553, q555, q557, q559, q561, h562⟩ := h551
      have h563 : (0 ≤ z552 ∧ z552 ≤ 4) := by rw [← q553]; exact T549 106 106 (A_106 hw) 37
      have h564 : (0 ≤ z554 ∧ z554 ≤ 1000) := by rw [← q555]; exact T549 106 106 (A_106 hw) 33
      have h565 : (0 ≤ z556 ∧ z556 ≤ 1000) := by rw [← q557]; exact T549 106 106 (A_106 hw) 34
      have h566 : (0 ≤ z558 ∧ z558 ≤ 3) := by rw [← q559]; exact T549 106 106 (A_106 hw) 35
      have h567 : ((-2147483648) ≤ z560 ∧ z560 ≤ 2147483647) := by rw [← q561]; exact T549 106 106 (A_106 hw) 36
      have h568 : 1 ≤ z552 ∧ z552 ≤ 4 := (vc_X12_next_128 (h562.2.2.1.resolve_left (vc_X12_sign_27 h544)) h563)
      refine mr_iload_n (pc := 42) (z := f_number) dX12_within_42 rfl rfl ?_
      exact mr_iret dX12_within_43 rfl (le_t rfl) (le_t rfl) T549 (mF.call (mF.call mF.refl F538 rfl) F550 rfl) ⟨z552, z554, z556, z558, z560, q553, q555, q557, q559, q561, ht_f_number, (vc_X12_sign_29 (h562.2.2.1.resolve_left (vc_X12_sign_27 h544)) h542.1 h544 h568 h564 h565), (vc_X12_sign_30 (h562.2.2.1.resolve_left (vc_X12_sign_27 h544)) h542.1 h544 h568 h564 h565 h566), (vc_X12_sign_31 (h562.2.2.1.resolve_left (vc_X12_sign_27 h544)) h542.1 h544 h568 h564 h565 h566), (vc_X12_sign_32 (h562.2.2.1.resolve_left (vc_X12_sign_27 h544)) h542.1 h544 h568 h564 h565 h566 h567), (vc_X12_sign_33 h496 (h562.2.2.1.resolve_left (vc_X12_sign_27 h544)) h542.1 h497 h544 h568), (vc_X12_within_36 (hq0 (vc_X12_sign_2 h497)) ((hq1 (vc_X12_sign_2 h497)).resolve_left (vc_X12_within_4 h499)) (h562.2.2.1.resolve_left (vc_X12_sign_27 h544)) h542.1 ht_f_at ht_f_from h544 h568 h565), (vc_X12_sign_35 h496 (h562.2.2.1.resolve_left (vc_X12_sign_27 h544)) h542.1 h497 h544 h568), (vc_X12_within_38 h535 (h562.2.2.1.resolve_left (vc_X12_sign_27 h544)) h542.1 ht_f_number hp1 hp2 h544 h568), trivial⟩
    refine sv_aload_n (pc := 8) dX12_within_8 rfl rfl ?_
    refine mr_iconst (pc := 9) (z := 2) dX12_within_9 ?_
    refine mr_cVV (pc := 10) (c_X12_wrong hw hT (rW (c := 1) (d := 4) (rR (x := 2)) rfl) q_f_code) (gOk _ _ _ _ _) dX12_within_10 (tX12_wrong _ _ _ _ _) ⟨wV_X12_wrong, wL_X12_wrong⟩ wM_X12_240 (gCX12 _ _ _ _ _) rfl (A_106 hw) rfl ⟨le_t rfl, le_t rfl⟩ ⟨le_t rfl, le_t rfl⟩ rfl (le_t rfl) fun μ569 T570 F571 h572 => ?_
    obtain ⟨z573, q574, h575⟩ := h572
    have h576 : (0 ≤ z573 ∧ z573 ≤ 4) := by rw [← q574]; exact T570 106 106 (A_106 hw) 37
    have h577 : 1 ≤ z573 ∧ z573 ≤ 4 := (vc_X12_next_128 h575.1 h576)
    refine sv_goto (pc := 13) (tgt := 33) dX12_within_13 (by decide) ?_
    refine sv_aload_n (pc := 33) dX12_within_33 rfl rfl ?_
    refine gk_X12_36 (pc := 34) dX12_within_34 wF_X12_233 (A_106 hw) (F571.f (A_106 hw) rfl q_f_number) ?_
    refine mr_istore_n (pc := 37) (lv' := [(3, iv f_number), (0, .ref 106), (1, iv p1), (2, iv p2)]) dX12_within_37 rfl (by decide) rfl ?_
    refine sv_aload_n (pc := 38) dX12_within_38 rfl rfl ?_
    obtain ⟨z578, q579⟩ : ∃ z, μ569 106 1 = z := ⟨_, rfl⟩
    have h580 : (0 ≤ z578 ∧ z578 ≤ 1000) := by rw [← q579]; exact T570 106 106 (A_106 hw) 1
    refine mr_cVV (pc := 39) (c_X12_next hw T570 q574 (F571.f (A_106 hw) rfl q_f_at) q579) (gOk _ _ _ _ _) dX12_within_39 (tX12_next _ _ _ _ _) ⟨wV_X12_next, wL_X12_next⟩ wM_X12_247 (gCX12 _ _ _ _ _) rfl (A_106 hw) rfl ⟨le_t rfl, le_t rfl⟩ ⟨le_t rfl, le_t rfl⟩ rfl (le_t rfl) fun μ581 T582 F583 h584 => ?_
    obtain ⟨z585, z587, z589, z591, z593, q586, q588, q590, q592, q594, h595⟩ := h584
    have h596 : (0 ≤ z585 ∧ z585 ≤ 4) := by rw [← q586]; exact T582 106 106 (A_106 hw) 37
    have h597 : (0 ≤ z587 ∧ z587 ≤ 1000) := by rw [← q588]; exact T582 106 106 (A_106 hw) 33
    have h598 : (0 ≤ z589 ∧ z589 ≤ 1000) := by rw [← q590]; exact T582 106 106 (A_106 hw) 34
    have h599 : (0 ≤ z591 ∧ z591 ≤ 3) := by rw [← q592]; exact T582 106 106 (A_106 hw) 35
    have h600 : ((-2147483648) ≤ z593 ∧ z593 ≤ 2147483647) := by rw [← q594]; exact T582 106 106 (A_106 hw) 36
    have h601 : 1 ≤ z585 ∧ z585 ≤ 4 := (vc_X12_next_128 (h595.2.2.1.resolve_left (vc_X12_sign_27 h577)) h596)
    refine mr_iload_n (pc := 42) (z := f_number) dX12_within_42 rfl rfl ?_
    exact mr_iret dX12_within_43 rfl (le_t rfl) (le_t rfl) T582 (mF.call (mF.call mF.refl F571 rfl) F583 rfl) ⟨z585, z587, z589, z591, z593, q586, q588, q590, q592, q594, ht_f_number, (vc_X12_sign_29 (h595.2.2.1.resolve_left (vc_X12_sign_27 h577)) h575.1 h577 h601 h597 h598), (vc_X12_sign_30 (h595.2.2.1.resolve_left (vc_X12_sign_27 h577)) h575.1 h577 h601 h597 h598 h599), (vc_X12_sign_31 (h595.2.2.1.resolve_left (vc_X12_sign_27 h577)) h575.1 h577 h601 h597 h598 h599), (vc_X12_sign_32 (h595.2.2.1.resolve_left (vc_X12_sign_27 h577)) h575.1 h577 h601 h597 h598 h599 h600), (vc_X12_sign_33 h496 (h595.2.2.1.resolve_left (vc_X12_sign_27 h577)) h575.1 h497 h577 h601), (vc_X12_within_47 (hq0 (vc_X12_sign_2 h497)) (h595.2.2.1.resolve_left (vc_X12_sign_27 h577)) h498 h575.1 ht_f_at ht_f_from ht_f_type h577 h601 h598), (vc_X12_sign_35 h496 (h595.2.2.1.resolve_left (vc_X12_sign_27 h577)) h575.1 h497 h577 h601), (vc_X12_within_49 (h595.2.2.1.resolve_left (vc_X12_sign_27 h577)) (hq0 (vc_X12_sign_2 h497)) h498 h575.1 ht_f_at ht_f_from ht_f_number ht_f_type hp1 hp2 h577 h601), trivial⟩
  have h602 : 1 ≤ f_code ∧ f_code ≤ 4 := (vc_X12_wrong_1 h496 ht_f_code)
  refine sv_aload_n (pc := 0) dX12_within_0 rfl rfl ?_
  refine gk_X12_35 (pc := 1) dX12_within_1 wF_X12_230 (A_106 hw) q_f_type ?_
  refine mr_iconst (pc := 4) (z := 2) dX12_within_4 ?_
  have J636 : ∀ (μ631 : mM), (mT w μ631) → (mF [106037, 106038] w μ μ631) → ((1 ≤ μ631 106 (37))) → sV (gG l D c H0 sa) mX12_within (sRm 3 0 0) (sZ (gG l D c H0 sa) 0 0 (qI w [106033, 106034, 106035, 106036, 106037, 106038] μ (fun z μ1 => ∃ o_code o_at o_from o_type o_number : Int, μ1 106 37 = o_code ∧ μ1 106 33 = o_at ∧ μ1 106 34 = o_from ∧ μ1 106 35 = o_type ∧ μ1 106 36 = o_number ∧ ((-2147483648) ≤ z ∧ z ≤ 2147483647) ∧ (o_code = 0 → o_from ≤ o_at) ∧ (o_code = 0 → o_type = 0 ∨ o_from + 1 ≤ o_at) ∧ (o_code = 0 → o_type = 1 → o_from + 2 ≤ o_at) ∧ (o_code = 0 → o_type = 1 → o_number = 0 ∨ o_number = 4 ∨ o_number = 5 ∨ o_from + 3 ≤ o_at) ∧ (o_code = 0 → f_code = 0) ∧ (o_code = 0 → f_from + 1 ≤ o_from) ∧ (f_code = 0 ∨ 1 ≤ o_code) ∧ (o_code = 0 → p1 ≤ z ∧ z ≤ p2) ∧ True))) 33 [(0, .ref 106)] [] (mk w μ631) 0 0 := by
    intro μ631 T632 F633 h635
    obtain ⟨z637, q638⟩ : ∃ z, μ631 106 37 = z := ⟨_, rfl⟩
    have h639 : (0 ≤ z637 ∧ z637 ≤ 4) := by rw [← q638]; exact T632 106 106 (A_106 hw) 37
    have h640 : 1 ≤ z637 := q638 ▸ h635
    have h641 : 1 ≤ z637 ∧ z637 ≤ 4 := (vc_X12_next_128 h640 h639)
    refine sv_aload_n (pc := 33) dX12_within_33 rfl rfl ?_
    refine gk_X12_36 (pc := 34) dX12_within_34 wF_X12_233 (A_106 hw) (F633.f (A_106 hw) rfl q_f_number) ?_
    refine mr_istore_n (pc := 37) (lv' := [(3, iv f_number), (0, .ref 106)]) dX12_within_37 rfl (by decide) rfl ?_
    refine sv_aload_n (pc := 38) dX12_within_38 rfl rfl ?_
    obtain ⟨z642, q643⟩ : ∃ z, μ631 106 1 = z := ⟨_, rfl⟩
    have h644 : (0 ≤ z642 ∧ z642 ≤ 1000) := by rw [← q643]; exact T632 106 106 (A_106 hw) 1
    refine mr_cVV (pc := 39) (c_X12_next hw T632 q638 (F633.f (A_106 hw) rfl q_f_at) q643) (gOk _ _ _ _ _) dX12_within_39 (tX12_next _ _ _ _ _) ⟨wV_X12_next, wL_X12_next⟩ wM_X12_247 (gCX12 _ _ _ _ _) rfl (A_106 hw) rfl ⟨le_t rfl, le_t rfl⟩ ⟨le_t rfl, le_t rfl⟩ rfl (le_t rfl) fun μ645 T646 F647 h648 => ?_
    obtain ⟨z649, z651, z653, z655, z657, q650, q652, q654, q656, q658, h659⟩ := h648
    have h660 : (0 ≤ z649 ∧ z649 ≤ 4) := by rw [← q650]; exact T646 106 106 (A_106 hw) 37
    have h661 : (0 ≤ z651 ∧ z651 ≤ 1000) := by rw [← q652]; exact T646 106 106 (A_106 hw) 33
    have h662 : (0 ≤ z653 ∧ z653 ≤ 1000) := by rw [← q654]; exact T646 106 106 (A_106 hw) 34
    have h663 : (0 ≤ z655 ∧ z655 ≤ 3) := by rw [← q656]; exact T646 106 106 (A_106 hw) 35
    have h664 : ((-2147483648) ≤ z657 ∧ z657 ≤ 2147483647) := by rw [← q658]; exact T646 106 106 (A_106 hw) 36
    have h665 : 1 ≤ z649 ∧ z649 ≤ 4 := (vc_X12_next_128 (h659.2.2.1.resolve_left (vc_X12_sign_27 h641)) h660)
    refine mr_iload_n (pc := 42) (z := f_number) dX12_within_42 rfl rfl ?_
    exact mr_iret dX12_within_43 rfl (le_t rfl) (le_t rfl) T646 (mF.call (mF.call mF.refl F633 rfl) F647 rfl) ⟨z649, z651, z653, z655, z657, q650, q652, q654, q656, q658, ht_f_number, (vc_X12_sign_29 (h659.2.2.1.resolve_left (vc_X12_sign_27 h641)) h640 h641 h665 h661 h662), (vc_X12_sign_30 (h659.2.2.1.resolve_left (vc_X12_sign_27 h641)) h640 h641 h665 h661 h662 h663), (vc_X12_sign_31 (h659.2.2.1.resolve_left (vc_X12_sign_27 h641)) h640 h641 h665 h661 h662 h663), (vc_X12_sign_32 (h659.2.2.1.resolve_left (vc_X12_sign_27 h641)) h640 h641 h665 h661 h662 h663 h664), (vc_X12_sign_49 h496 (h659.2.2.1.resolve_left (vc_X12_sign_27 h641)) h640 h602 h641 h665), (vc_X12_sign_50 (h659.2.2.1.resolve_left (vc_X12_sign_27 h641)) h640 ht_f_from h641 h665 h662), (vc_X12_sign_51 h496 (h659.2.2.1.resolve_left (vc_X12_sign_27 h641)) h640 h602 h641 h665), (vc_X12_within_61 (h659.2.2.1.resolve_left (vc_X12_sign_27 h641)) h640 ht_f_number hp1 hp2 h641 h665), trivial⟩
  refine mr_icmp_eq (pc := 5) (tgt := 16) dX12_within_5 (by decide) (r32 ht_f_type rfl) (r32 (rR (x := 2)) rfl) (fun h666 => ?_) (fun h666 => ?_)
  · have h667 : 2 ≤ f_type ∧ f_type ≤ 2 := (vc_X10_firstWrongStep_8 h666 ht_f_type)
    refine sv_aload_n (pc := 16) dX12_within_16 rfl rfl ?_
    refine gk_X12_36 (pc := 17) dX12_within_17 wF_X12_233 (A_106 hw) q_f_number ?_
    refine mr_iload_n (pc := 20) (z := p1) dX12_within_20 rfl rfl ?_
    refine mr_iload_n (pc := 21) (z := p2) dX12_within_21 rfl rfl ?_
    refine mr_cSP (pc := 22) (c_X12_in hw hT ht_f_number hp1 hp2) (gOk _ _ _ _ _) dX12_within_22 (tX12_in _ _ _ _ _) wS_X12_in wM_X12_18 ⟨le_t rfl, le_t rfl⟩ ⟨le_t rfl, le_t rfl⟩ rfl (le_t rfl) fun z672 h671 => ?_
    refine mr_if_ne (pc := 25) (tgt := 33) dX12_within_25 (by decide) (r32 h671.1 rfl) (fun h673 => ?_) (fun h673 => ?_)
    · have h674 : 1 ≤ z672 ∧ z672 ≤ 1 := (vc_X12_ring_24 h673 h671.1)
      have h675 : p1 ≤ f_number ∧ f_number ≤ p2 := (h671.2.1 (vc_X12_best_l_18 h673 h674))
      refine mr_lvS (lv' := [(0, .ref 106)]) (List.forall_mem_cons.mpr ⟨rfl, fun _ h => absurd h List.not_mem_nil⟩) ?_
      exact J636 μ hT mF.refl (by rw [q_f_code]; exact (vc_X12_wrong_2 h496 h602))
    have h676 : 0 ≤ z672 ∧ z672 ≤ 0 := (vc_X12_ring_22 h673 h671.1)
    have h677 : f_number < p1 ∨ p2 < f_number := (h671.2.2.1 (vc_X12_goes_7 h673 h676))
    refine sv_aload_n (pc := 28) dX12_within_28 rfl rfl ?_
    refine mr_iconst (pc := 29) (z := 3) dX12_within_29 ?_
    refine mr_cVV (pc := 30) (c_X12_wrong hw hT (rW (c := 1) (d := 4) (rR (x := 3)) rfl) q_f_code) (gOk _ _ _ _ _) dX12_within_30 (tX12_wrong _ _ _ _ _) ⟨wV_X12_wrong, wL_X12_wrong⟩ wM_X12_240 (gCX12 _ _ _ _ _) rfl (A_106 hw) rfl ⟨le_t rfl, le_t rfl⟩ ⟨le_t rfl, le_t rfl⟩ rfl (le_t rfl) fun μ678 T679 F680 h681 => ?_
    obtain ⟨z682, q683, h684⟩ := h681
    have h685 : (0 ≤ z682 ∧ z682 ≤ 4) := by rw [← q683]; exact T679 106 106 (A_106 hw) 37
    have h686 : 1 ≤ z682 ∧ z682 ≤ 4 := (vc_X12_next_128 h684.1 h685)
    refine mr_lvS (lv' := [(0, .ref 106)]) (List.forall_mem_cons.mpr ⟨rfl, fun _ h => absurd h List.not_mem_nil⟩) ?_
    exact J636 μ678 T679 (mF.call mF.refl F680 rfl) (by rw [q683]; exact (vc_X12_within_68 h684.1 h496 h602 h686))
  refine sv_aload_n (pc := 8) dX12_within_8 rfl rfl ?_
  refine mr_iconst (pc := 9) (z := 2) dX12_within_9 ?_
  refine mr_cVV (pc := 10) (c_X12_wrong hw hT (rW (c := 1) (d := 4) (rR (x := 2)) rfl) q_f_code) (gOk _ _ _ _ _) dX12_within_10 (tX12_wrong _ _ _ _ _) ⟨wV_X12_wrong, wL_X12_wrong⟩ wM_X12_240 (gCX12 _ _ _ _ _) rfl (A_106 hw) rfl ⟨le_t rfl, le_t rfl⟩ ⟨le_t rfl, le_t rfl⟩ rfl (le_t rfl) fun μ687 T688 F689 h690 => ?_
  obtain ⟨z691, q692, h693⟩ := h690
  have h694 : (0 ≤ z691 ∧ z691 ≤ 4) := by rw [← q692]; exact T688 106 106 (A_106 hw) 37
  have h695 : 1 ≤ z691 ∧ z691 ≤ 4 := (vc_X12_next_128 h693.1 h694)
  refine sv_goto (pc := 13) (tgt := 33) dX12_within_13 (by decide) ?_
  refine mr_lvS (lv' := [(0, .ref 106)]) (List.forall_mem_cons.mpr ⟨rfl, fun _ h => absurd h List.not_mem_nil⟩) ?_
  exact J636 μ687 T688 (mF.call mF.refl F689 rfl) (by rw [q692]; exact (vc_X12_within_68 h693.1 h496 h602 h695))
theorem vc_X12_addressRead_3 {f_at f_from z2850 : Int} (h0 : (5 - z2850) < ((0 : Nat) : Int)) (h1 : f_from ≤ f_at) (h2 : 0 ≤ f_at ∧ f_at ≤ 1000) (h3 : 0 ≤ f_from ∧ f_from ≤ 1000) (h4 : 0 ≤ z2850 ∧ z2850 ≤ 4) : False := by omega
theorem vc_X12_addressRead_6 {f_from f_lf z2850 : Int} (h0 : 4 ≤ z2850) (h1 : f_from + z2850 ≤ f_lf) (h2 : 0 ≤ f_from ∧ f_from ≤ 1000) (h3 : 0 ≤ f_lf ∧ f_lf ≤ 1000) (h4 : 0 ≤ z2850 ∧ z2850 ≤ 4) : 4 ≤ z2850 ∧ z2850 ≤ 4 := by omega
theorem vc_X12_addressRead_7 {f_at f_from f_la f_lc f_lf z2850 : Int} (h0 : f_lc = 0) (h1 : f_lf ≤ f_la) (h2 : f_from + z2850 ≤ f_lf) (h3 : f_from ≤ f_at) (h4 : 4 ≤ z2850) (h5 : 0 ≤ f_at ∧ f_at ≤ 1000) (h6 : 0 ≤ f_from ∧ f_from ≤ 1000) (h7 : 0 ≤ f_la ∧ f_la ≤ 1000) (h8 : 0 ≤ f_lc ∧ f_lc ≤ 0) (h9 : 0 ≤ f_lf ∧ f_lf ≤ 1000) (h10 : 4 ≤ z2850 ∧ z2850 ≤ 4) : f_lc = 0 → f_lf ≤ f_la := by omega
theorem vc_X12_addressRead_8 {f_at f_from f_la f_lc f_lf f_lt z2850 : Int} (h0 : f_lc = 0) (h1 : f_lf ≤ f_la) (h2 : f_lt = 0 ∨ f_lf + 1 ≤ f_la) (h3 : f_lt = 1 → f_lf + 2 ≤ f_la) (h4 : f_from + z2850 ≤ f_lf) (h5 : f_from ≤ f_at) (h6 : 4 ≤ z2850) (h7 : 0 ≤ f_at ∧ f_at ≤ 1000) (h8 : 0 ≤ f_from ∧ f_from ≤ 1000) (h9 : 0 ≤ f_la ∧ f_la ≤ 1000) (h10 : 0 ≤ f_lc ∧ f_lc ≤ 0) (h11 : 0 ≤ f_lf ∧ f_lf ≤ 1000) (h12 : 0 ≤ f_lt ∧ f_lt ≤ 3) (h13 : 4 ≤ z2850 ∧ z2850 ≤ 4) : f_lc = 0 → f_lt = 0 ∨ f_lf + 1 ≤ f_la := by omega
theorem vc_X12_addressRead_9 {f_at f_from f_la f_lc f_lf f_lt z2850 : Int} (h0 : f_lc = 0) (h1 : f_lf ≤ f_la) (h2 : f_lt = 0 ∨ f_lf + 1 ≤ f_la) (h3 : f_lt = 1 → f_lf + 2 ≤ f_la) (h4 : f_from + z2850 ≤ f_lf) (h5 : f_from ≤ f_at) (h6 : 4 ≤ z2850) (h7 : 0 ≤ f_at ∧ f_at ≤ 1000) (h8 : 0 ≤ f_from ∧ f_from ≤ 1000) (h9 : 0 ≤ f_la ∧ f_la ≤ 1000) (h10 : 0 ≤ f_lc ∧ f_lc ≤ 0) (h11 : 0 ≤ f_lf ∧ f_lf ≤ 1000) (h12 : 0 ≤ f_lt ∧ f_lt ≤ 3) (h13 : 4 ≤ z2850 ∧ z2850 ≤ 4) : f_lc = 0 → f_lt = 1 → f_lf + 2 ≤ f_la := by omega
theorem vc_X12_addressRead_10 {f_at f_from f_la f_lc f_lf f_ln f_lt z2850 : Int} (h0 : f_lc = 0) (h1 : f_lf ≤ f_la) (h2 : f_lt = 0 ∨ f_lf + 1 ≤ f_la) (h3 : f_lt = 1 → f_lf + 2 ≤ f_la) (h4 : f_lt = 1 → f_ln = 0 ∨ f_ln = 4 ∨ f_ln = 5 ∨ f_lf + 3 ≤ f_la) (h5 : f_from + z2850 ≤ f_lf) (h6 : f_from ≤ f_at) (h7 : 4 ≤ z2850) (h8 : 0 ≤ f_at ∧ f_at ≤ 1000) (h9 : 0 ≤ f_from ∧ f_from ≤ 1000) (h10 : 0 ≤ f_la ∧ f_la ≤ 1000) (h11 : 0 ≤ f_lc ∧ f_lc ≤ 0) (h12 : 0 ≤ f_lf ∧ f_lf ≤ 1000) (h13 : (-2147483648) ≤ f_ln ∧ f_ln ≤ 2147483647) (h14 : 0 ≤ f_lt ∧ f_lt ≤ 3) (h15 : 4 ≤ z2850 ∧ z2850 ≤ 4) : f_lc = 0 → f_lt = 1 → f_ln = 0 ∨ f_ln = 4 ∨ f_ln = 5 ∨ f_lf + 3 ≤ f_la := by omega
theorem vc_X12_addressRead_12 {f_at f_from f_la f_lc f_lf z2850 : Int} (h0 : f_from ≤ f_at) (h1 : f_lc = 0) (h2 : f_lf ≤ f_la) (h3 : f_from + z2850 ≤ f_lf) (h4 : 4 ≤ z2850) (h5 : 0 ≤ f_at ∧ f_at ≤ 1000) (h6 : 0 ≤ f_from ∧ f_from ≤ 1000) (h7 : 0 ≤ f_la ∧ f_la ≤ 1000) (h8 : 0 ≤ f_lc ∧ f_lc ≤ 0) (h9 : 0 ≤ f_lf ∧ f_lf ≤ 1000) (h10 : 4 ≤ z2850 ∧ z2850 ≤ 4) : f_lc = 0 → f_from + 4 ≤ f_lf := by omega
theorem vc_X12_addressRead_14 {f_from f_lf z2850 : Int} (h0 : z2850 < 4) (h1 : f_from + z2850 ≤ f_lf) (h2 : 0 ≤ f_from ∧ f_from ≤ 1000) (h3 : 0 ≤ f_lf ∧ f_lf ≤ 1000) (h4 : 0 ≤ z2850 ∧ z2850 ≤ 4) : 0 ≤ z2850 ∧ z2850 ≤ 3 := by omega
theorem vc_X12_addressRead_15 {f_at f_from f_la f_lc f_lf z2850 : Int} (h0 : f_lc = 0) (h1 : f_lf ≤ f_la) (h2 : f_from + z2850 ≤ f_lf) (h3 : f_from ≤ f_at) (h4 : z2850 < 4) (h5 : 0 ≤ f_at ∧ f_at ≤ 1000) (h6 : 0 ≤ f_from ∧ f_from ≤ 1000) (h7 : 0 ≤ f_la ∧ f_la ≤ 1000) (h8 : 0 ≤ f_lc ∧ f_lc ≤ 0) (h9 : 0 ≤ f_lf ∧ f_lf ≤ 1000) (h10 : 0 ≤ z2850 ∧ z2850 ≤ 3) : f_lc = 0 → f_lf ≤ f_la := by omega
theorem vc_X12_addressRead_16 {f_at f_from f_la f_lc f_lf f_lt z2850 : Int} (h0 : f_lc = 0) (h1 : f_lf ≤ f_la) (h2 : f_lt = 0 ∨ f_lf + 1 ≤ f_la) (h3 : f_lt = 1 → f_lf + 2 ≤ f_la) (h4 : f_from + z2850 ≤ f_lf) (h5 : f_from ≤ f_at) (h6 : z2850 < 4) (h7 : 0 ≤ f_at ∧ f_at ≤ 1000) (h8 : 0 ≤ f_from ∧ f_from ≤ 1000) (h9 : 0 ≤ f_la ∧ f_la ≤ 1000) (h10 : 0 ≤ f_lc ∧ f_lc ≤ 0) (h11 : 0 ≤ f_lf ∧ f_lf ≤ 1000) (h12 : 0 ≤ f_lt ∧ f_lt ≤ 3) (h13 : 0 ≤ z2850 ∧ z2850 ≤ 3) : f_lc = 0 → f_lt = 0 ∨ f_lf + 1 ≤ f_la := by omega
theorem vc_X12_addressRead_17 {f_at f_from f_la f_lc f_lf f_lt z2850 : Int} (h0 : f_lc = 0) (h1 : f_lf ≤ f_la) (h2 : f_lt = 0 ∨ f_lf + 1 ≤ f_la) (h3 : f_lt = 1 → f_lf + 2 ≤ f_la) (h4 : f_from + z2850 ≤ f_lf) (h5 : f_from ≤ f_at) (h6 : z2850 < 4) (h7 : 0 ≤ f_at ∧ f_at ≤ 1000) (h8 : 0 ≤ f_from ∧ f_from ≤ 1000) (h9 : 0 ≤ f_la ∧ f_la ≤ 1000) (h10 : 0 ≤ f_lc ∧ f_lc ≤ 0) (h11 : 0 ≤ f_lf ∧ f_lf ≤ 1000) (h12 : 0 ≤ f_lt ∧ f_lt ≤ 3) (h13 : 0 ≤ z2850 ∧ z2850 ≤ 3) : f_lc = 0 → f_lt = 1 → f_lf + 2 ≤ f_la := by omega
theorem vc_X12_addressRead_18 {f_at f_from f_la f_lc f_lf f_ln f_lt z2850 : Int} (h0 : f_lc = 0) (h1 : f_lf ≤ f_la) (h2 : f_lt = 0 ∨ f_lf + 1 ≤ f_la) (h3 : f_lt = 1 → f_lf + 2 ≤ f_la) (h4 : f_lt = 1 → f_ln = 0 ∨ f_ln = 4 ∨ f_ln = 5 ∨ f_lf + 3 ≤ f_la) (h5 : f_from + z2850 ≤ f_lf) (h6 : f_from ≤ f_at) (h7 : z2850 < 4) (h8 : 0 ≤ f_at ∧ f_at ≤ 1000) (h9 : 0 ≤ f_from ∧ f_from ≤ 1000) (h10 : 0 ≤ f_la ∧ f_la ≤ 1000) (h11 : 0 ≤ f_lc ∧ f_lc ≤ 0) (h12 : 0 ≤ f_lf ∧ f_lf ≤ 1000) (h13 : (-2147483648) ≤ f_ln ∧ f_ln ≤ 2147483647) (h14 : 0 ≤ f_lt ∧ f_lt ≤ 3) (h15 : 0 ≤ z2850 ∧ z2850 ≤ 3) : f_lc = 0 → f_lt = 1 → f_ln = 0 ∨ f_ln = 4 ∨ f_ln = 5 ∨ f_lf + 3 ≤ f_la := by omega
theorem vc_X12_addressRead_21 {z2974 : Int} (h0 : (0 : Int) ≤ z2974 ∧ z2974 ≤ (255 : Int)) (h1 : (-2147483648) ≤ z2974 ∧ z2974 ≤ 2147483647) : 0 ≤ z2974 ∧ z2974 ≤ 255 := by omega
theorem vc_X12_addressRead_22 {f_from f_lf z2850 : Int} (h0 : 3 ≤ z2850) (h1 : f_from + z2850 ≤ f_lf) (h2 : z2850 < 4) (h3 : 0 ≤ f_from ∧ f_from ≤ 1000) (h4 : 0 ≤ f_lf ∧ f_lf ≤ 1000) (h5 : 0 ≤ z2850 ∧ z2850 ≤ 3) : 3 ≤ z2850 ∧ z2850 ≤ 3 := by omega
theorem vc_X12_addressRead_23 {f_from f_la f_lf z2850 z2975 z2977 z2979 : Int} (h0 : z2975 = 0) (h1 : z2979 ≤ z2977) (h2 : f_lf + 1 ≤ z2979) (h3 : f_lf ≤ f_la) (h4 : f_from + z2850 ≤ f_lf) (h5 : 0 ≤ f_from ∧ f_from ≤ 1000) (h6 : 0 ≤ f_la ∧ f_la ≤ 1000) (h7 : 0 ≤ f_lf ∧ f_lf ≤ 1000) (h8 : 3 ≤ z2850 ∧ z2850 ≤ 3) (h9 : 0 ≤ z2975 ∧ z2975 ≤ 0) (h10 : 0 ≤ z2977 ∧ z2977 ≤ 1000) (h11 : 0 ≤ z2979 ∧ z2979 ≤ 1000) : z2975 = 0 → z2979 ≤ z2977 := by omega
theorem vc_X12_addressRead_24 {f_from f_la f_lf z2850 z2975 z2977 z2979 z2981 : Int} (h0 : z2975 = 0) (h1 : z2979 ≤ z2977) (h2 : z2981 = 0 ∨ z2979 + 1 ≤ z2977) (h3 : z2981 = 1 → z2979 + 2 ≤ z2977) (h4 : f_lf + 1 ≤ z2979) (h5 : f_lf ≤ f_la) (h6 : f_from + z2850 ≤ f_lf) (h7 : 0 ≤ f_from ∧ f_from ≤ 1000) (h8 : 0 ≤ f_la ∧ f_la ≤ 1000) (h9 : 0 ≤ f_lf ∧ f_lf ≤ 1000) (h10 : 3 ≤ z2850 ∧ z2850 ≤ 3) (h11 : 0 ≤ z2975 ∧ z2975 ≤ 0) (h12 : 0 ≤ z2977 ∧ z2977 ≤ 1000) (h13 : 0 ≤ z2979 ∧ z2979 ≤ 1000) (h14 : 0 ≤ z2981 ∧ z2981 ≤ 3) : z2975 = 0 → z2981 = 0 ∨ z2979 + 1 ≤ z2977 := by omega
theorem vc_X12_addressRead_25 {f_from f_la f_lf z2850 z2975 z2977 z2979 z2981 : Int} (h0 : z2975 = 0) (h1 : z2979 ≤ z2977) (h2 : z2981 = 0 ∨ z2979 + 1 ≤ z2977) (h3 : z2981 = 1 → z2979 + 2 ≤ z2977) (h4 : f_lf + 1 ≤ z2979) (h5 : f_lf ≤ f_la) (h6 : f_from + z2850 ≤ f_lf) (h7 : 0 ≤ f_from ∧ f_from ≤ 1000) (h8 : 0 ≤ f_la ∧ f_la ≤ 1000) (h9 : 0 ≤ f_lf ∧ f_lf ≤ 1000) (h10 : 3 ≤ z2850 ∧ z2850 ≤ 3) (h11 : 0 ≤ z2975 ∧ z2975 ≤ 0) (h12 : 0 ≤ z2977 ∧ z2977 ≤ 1000) (h13 : 0 ≤ z2979 ∧ z2979 ≤ 1000) (h14 : 0 ≤ z2981 ∧ z2981 ≤ 3) : z2975 = 0 → z2981 = 1 → z2979 + 2 ≤ z2977 := by omega
theorem vc_X12_addressRead_26 {f_from f_la f_lf z2850 z2975 z2977 z2979 z2981 z2983 : Int} (h0 : z2975 = 0) (h1 : z2979 ≤ z2977) (h2 : z2981 = 0 ∨ z2979 + 1 ≤ z2977) (h3 : z2981 = 1 → z2979 + 2 ≤ z2977) (h4 : z2981 = 1 → z2983 = 0 ∨ z2983 = 4 ∨ z2983 = 5 ∨ z2979 + 3 ≤ z2977) (h5 : f_lf + 1 ≤ z2979) (h6 : f_lf ≤ f_la) (h7 : f_from + z2850 ≤ f_lf) (h8 : 0 ≤ f_from ∧ f_from ≤ 1000) (h9 : 0 ≤ f_la ∧ f_la ≤ 1000) (h10 : 0 ≤ f_lf ∧ f_lf ≤ 1000) (h11 : 3 ≤ z2850 ∧ z2850 ≤ 3) (h12 : 0 ≤ z2975 ∧ z2975 ≤ 0) (h13 : 0 ≤ z2977 ∧ z2977 ≤ 1000) (h14 : 0 ≤ z2979 ∧ z2979 ≤ 1000) (h15 : 0 ≤ z2981 ∧ z2981 ≤ 3) (h16 : (-2147483648) ≤ z2983 ∧ z2983 ≤ 2147483647) : z2975 = 0 → z2981 = 1 → z2983 = 0 ∨ z2983 = 4 ∨ z2983 = 5 ∨ z2979 + 3 ≤ z2977 := by omega
theorem vc_X12_addressRead_28 {f_at f_from f_la f_lf z2850 z2975 z2977 z2979 : Int} (h0 : f_from ≤ f_at) (h1 : f_from + z2850 ≤ f_lf) (h2 : z2850 < 4) (h3 : z2975 = 0) (h4 : z2979 ≤ z2977) (h5 : f_lf + 1 ≤ z2979) (h6 : 3 ≤ z2850) (h7 : f_lf ≤ f_la) (h8 : 0 ≤ f_at ∧ f_at ≤ 1000) (h9 : 0 ≤ f_from ∧ f_from ≤ 1000) (h10 : 0 ≤ f_la ∧ f_la ≤ 1000) (h11 : 0 ≤ f_lf ∧ f_lf ≤ 1000) (h12 : 3 ≤ z2850 ∧ z2850 ≤ 3) (h13 : 0 ≤ z2975 ∧ z2975 ≤ 0) (h14 : 0 ≤ z2977 ∧ z2977 ≤ 1000) (h15 : 0 ≤ z2979 ∧ z2979 ≤ 1000) : z2975 = 0 → f_from + (z2850 + 1) ≤ z2979 := by omega
theorem vc_X12_addressRead_30 {N f_at f_from f_la f_lf z2850 z2979 : Int} (h0 : (5 - z2850) < N + 1) (h1 : f_from + z2850 ≤ f_lf) (h2 : z2850 < 4) (h3 : 3 ≤ z2850) (h4 : f_from ≤ f_at) (h5 : f_lf ≤ f_la) (h6 : f_lf + 1 ≤ z2979) (h7 : 0 ≤ f_at ∧ f_at ≤ 1000) (h8 : 0 ≤ f_from ∧ f_from ≤ 1000) (h9 : 0 ≤ f_la ∧ f_la ≤ 1000) (h10 : 0 ≤ f_lf ∧ f_lf ≤ 1000) (h11 : 3 ≤ z2850 ∧ z2850 ≤ 3) (h12 : 0 ≤ z2979 ∧ z2979 ≤ 1000) : (5 - (z2850 + 1)) < N := by omega
theorem vc_X12_addressRead_31 {f_from f_lf z2850 : Int} (h0 : z2850 < 3) (h1 : f_from + z2850 ≤ f_lf) (h2 : z2850 < 4) (h3 : 0 ≤ f_from ∧ f_from ≤ 1000) (h4 : 0 ≤ f_lf ∧ f_lf ≤ 1000) (h5 : 0 ≤ z2850 ∧ z2850 ≤ 3) : 0 ≤ z2850 ∧ z2850 ≤ 2 := by omega
theorem vc_X12_addressRead_32 {f_from f_la f_lf z2850 z2975 z2977 z2979 : Int} (h0 : z2975 = 0) (h1 : z2979 ≤ z2977) (h2 : f_lf + 1 ≤ z2979) (h3 : f_lf ≤ f_la) (h4 : f_from + z2850 ≤ f_lf) (h5 : 0 ≤ f_from ∧ f_from ≤ 1000) (h6 : 0 ≤ f_la ∧ f_la ≤ 1000) (h7 : 0 ≤ f_lf ∧ f_lf ≤ 1000) (h8 : 0 ≤ z2850 ∧ z2850 ≤ 2) (h9 : 0 ≤ z2975 ∧ z2975 ≤ 0) (h10 : 0 ≤ z2977 ∧ z2977 ≤ 1000) (h11 : 0 ≤ z2979 ∧ z2979 ≤ 1000) : z2975 = 0 → z2979 ≤ z2977 := by omega
theorem vc_X12_addressRead_33 {f_from f_la f_lf z2850 z2975 z2977 z2979 z2981 : Int} (h0 : z2975 = 0) (h1 : z2979 ≤ z2977) (h2 : z2981 = 0 ∨ z2979 + 1 ≤ z2977) (h3 : z2981 = 1 → z2979 + 2 ≤ z2977) (h4 : f_lf + 1 ≤ z2979) (h5 : f_lf ≤ f_la) (h6 : f_from + z2850 ≤ f_lf) (h7 : 0 ≤ f_from ∧ f_from ≤ 1000) (h8 : 0 ≤ f_la ∧ f_la ≤ 1000) (h9 : 0 ≤ f_lf ∧ f_lf ≤ 1000) (h10 : 0 ≤ z2850 ∧ z2850 ≤ 2) (h11 : 0 ≤ z2975 ∧ z2975 ≤ 0) (h12 : 0 ≤ z2977 ∧ z2977 ≤ 1000) (h13 : 0 ≤ z2979 ∧ z2979 ≤ 1000) (h14 : 0 ≤ z2981 ∧ z2981 ≤ 3) : z2975 = 0 → z2981 = 0 ∨ z2979 + 1 ≤ z2977 := by omega
theorem vc_X12_addressRead_34 {f_from f_la f_lf z2850 z2975 z2977 z2979 z2981 : Int} (h0 : z2975 = 0) (h1 : z2979 ≤ z2977) (h2 : z2981 = 0 ∨ z2979 + 1 ≤ z2977) (h3 : z2981 = 1 → z2979 + 2 ≤ z2977) (h4 : f_lf + 1 ≤ z2979) (h5 : f_lf ≤ f_la) (h6 : f_from + z2850 ≤ f_lf) (h7 : 0 ≤ f_from ∧ f_from ≤ 1000) (h8 : 0 ≤ f_la ∧ f_la ≤ 1000) (h9 : 0 ≤ f_lf ∧ f_lf ≤ 1000) (h10 : 0 ≤ z2850 ∧ z2850 ≤ 2) (h11 : 0 ≤ z2975 ∧ z2975 ≤ 0) (h12 : 0 ≤ z2977 ∧ z2977 ≤ 1000) (h13 : 0 ≤ z2979 ∧ z2979 ≤ 1000) (h14 : 0 ≤ z2981 ∧ z2981 ≤ 3) : z2975 = 0 → z2981 = 1 → z2979 + 2 ≤ z2977 := by omega
theorem vc_X12_addressRead_35 {f_from f_la f_lf z2850 z2975 z2977 z2979 z2981 z2983 : Int} (h0 : z2975 = 0) (h1 : z2979 ≤ z2977) (h2 : z2981 = 0 ∨ z2979 + 1 ≤ z2977) (h3 : z2981 = 1 → z2979 + 2 ≤ z2977) (h4 : z2981 = 1 → z2983 = 0 ∨ z2983 = 4 ∨ z2983 = 5 ∨ z2979 + 3 ≤ z2977) (h5 : f_lf + 1 ≤ z2979) (h6 : f_lf ≤ f_la) (h7 : f_from + z2850 ≤ f_lf) (h8 : 0 ≤ f_from ∧ f_from ≤ 1000) (h9 : 0 ≤ f_la ∧ f_la ≤ 1000) (h10 : 0 ≤ f_lf ∧ f_lf ≤ 1000) (h11 : 0 ≤ z2850 ∧ z2850 ≤ 2) (h12 : 0 ≤ z2975 ∧ z2975 ≤ 0) (h13 : 0 ≤ z2977 ∧ z2977 ≤ 1000) (h14 : 0 ≤ z2979 ∧ z2979 ≤ 1000) (h15 : 0 ≤ z2981 ∧ z2981 ≤ 3) (h16 : (-2147483648) ≤ z2983 ∧ z2983 ≤ 2147483647) : z2975 = 0 → z2981 = 1 → z2983 = 0 ∨ z2983 = 4 ∨ z2983 = 5 ∨ z2979 + 3 ≤ z2977 := by omega
theorem vc_X12_addressRead_38 {f_lf z2977 z2979 z3004 z3006 z3008 : Int} (h0 : z3004 = 0) (h1 : z3008 ≤ z3006) (h2 : z2979 + 1 ≤ z3008) (h3 : z2979 ≤ z2977) (h4 : f_lf + 1 ≤ z2979) (h5 : 0 ≤ f_lf ∧ f_lf ≤ 1000) (h6 : 0 ≤ z2977 ∧ z2977 ≤ 1000) (h7 : 0 ≤ z2979 ∧ z2979 ≤ 1000) (h8 : 0 ≤ z3004 ∧ z3004 ≤ 0) (h9 : 0 ≤ z3006 ∧ z3006 ≤ 1000) (h10 : 0 ≤ z3008 ∧ z3008 ≤ 1000) : z3004 = 0 → z3008 ≤ z3006 := by omega
theorem vc_X12_addressRead_39 {f_lf z2977 z2979 z3004 z3006 z3008 z3010 : Int} (h0 : z3004 = 0) (h1 : z3008 ≤ z3006) (h2 : z3010 = 0 ∨ z3008 + 1 ≤ z3006) (h3 : z3010 = 1 → z3008 + 2 ≤ z3006) (h4 : z2979 + 1 ≤ z3008) (h5 : z2979 ≤ z2977) (h6 : f_lf + 1 ≤ z2979) (h7 : 0 ≤ f_lf ∧ f_lf ≤ 1000) (h8 : 0 ≤ z2977 ∧ z2977 ≤ 1000) (h9 : 0 ≤ z2979 ∧ z2979 ≤ 1000) (h10 : 0 ≤ z3004 ∧ z3004 ≤ 0) (h11 : 0 ≤ z3006 ∧ z3006 ≤ 1000) (h12 : 0 ≤ z3008 ∧ z3008 ≤ 1000) (h13 : 0 ≤ z3010 ∧ z3010 ≤ 3) : z3004 = 0 → z3010 = 0 ∨ z3008 + 1 ≤ z3006 := by omega
theorem vc_X12_addressRead_40 {f_lf z2977 z2979 z3004 z3006 z3008 z3010 : Int} (h0 : z3004 = 0) (h1 : z3008 ≤ z3006) (h2 : z3010 = 0 ∨ z3008 + 1 ≤ z3006) (h3 : z3010 = 1 → z3008 + 2 ≤ z3006) (h4 : z2979 + 1 ≤ z3008) (h5 : z2979 ≤ z2977) (h6 : f_lf + 1 ≤ z2979) (h7 : 0 ≤ f_lf ∧ f_lf ≤ 1000) (h8 : 0 ≤ z2977 ∧ z2977 ≤ 1000) (h9 : 0 ≤ z2979 ∧ z2979 ≤ 1000) (h10 : 0 ≤ z3004 ∧ z3004 ≤ 0) (h11 : 0 ≤ z3006 ∧ z3006 ≤ 1000) (h12 : 0 ≤ z3008 ∧ z3008 ≤ 1000) (h13 : 0 ≤ z3010 ∧ z3010 ≤ 3) : z3004 = 0 → z3010 = 1 → z3008 + 2 ≤ z3006 := by omega
theorem vc_X12_addressRead_41 {f_lf z2977 z2979 z3004 z3006 z3008 z3010 z3012 : Int} (h0 : z3004 = 0) (h1 : z3008 ≤ z3006) (h2 : z3010 = 0 ∨ z3008 + 1 ≤ z3006) (h3 : z3010 = 1 → z3008 + 2 ≤ z3006) (h4 : z3010 = 1 → z3012 = 0 ∨ z3012 = 4 ∨ z3012 = 5 ∨ z3008 + 3 ≤ z3006) (h5 : z2979 + 1 ≤ z3008) (h6 : z2979 ≤ z2977) (h7 : f_lf + 1 ≤ z2979) (h8 : 0 ≤ f_lf ∧ f_lf ≤ 1000) (h9 : 0 ≤ z2977 ∧ z2977 ≤ 1000) (h10 : 0 ≤ z2979 ∧ z2979 ≤ 1000) (h11 : 0 ≤ z3004 ∧ z3004 ≤ 0) (h12 : 0 ≤ z3006 ∧ z3006 ≤ 1000) (h13 : 0 ≤ z3008 ∧ z3008 ≤ 1000) (h14 : 0 ≤ z3010 ∧ z3010 ≤ 3) (h15 : (-2147483648) ≤ z3012 ∧ z3012 ≤ 2147483647) : z3004 = 0 → z3010 = 1 → z3012 = 0 ∨ z3012 = 4 ∨ z3012 = 5 ∨ z3008 + 3 ≤ z3006 := by omega
theorem vc_X12_addressRead_43 {f_at f_from f_la f_lf z2850 z2977 z2979 z3004 z3006 z3008 : Int} (h0 : f_from ≤ f_at) (h1 : f_from + z2850 ≤ f_lf) (h2 : z2850 < 4) (h3 : z2850 < 3) (h4 : z3004 = 0) (h5 : z3008 ≤ z3006) (h6 : z2979 + 1 ≤ z3008) (h7 : f_lf ≤ f_la) (h8 : z2979 ≤ z2977) (h9 : f_lf + 1 ≤ z2979) (h10 : 0 ≤ f_at ∧ f_at ≤ 1000) (h11 : 0 ≤ f_from ∧ f_from ≤ 1000) (h12 : 0 ≤ f_la ∧ f_la ≤ 1000) (h13 : 0 ≤ f_lf ∧ f_lf ≤ 1000) (h14 : 0 ≤ z2850 ∧ z2850 ≤ 2) (h15 : 0 ≤ z2977 ∧ z2977 ≤ 1000) (h16 : 0 ≤ z2979 ∧ z2979 ≤ 1000) (h17 : 0 ≤ z3004 ∧ z3004 ≤ 0) (h18 : 0 ≤ z3006 ∧ z3006 ≤ 1000) (h19 : 0 ≤ z3008 ∧ z3008 ≤ 1000) : z3004 = 0 → f_from + (z2850 + 1) ≤ z3008 := by omega
theorem vc_X12_addressRead_45 {N f_at f_from f_la f_lf z2850 z2979 : Int} (h0 : (5 - z2850) < N + 1) (h1 : f_from + z2850 ≤ f_lf) (h2 : z2850 < 4) (h3 : z2850 < 3) (h4 : f_from ≤ f_at) (h5 : f_lf ≤ f_la) (h6 : f_lf + 1 ≤ z2979) (h7 : 0 ≤ f_at ∧ f_at ≤ 1000) (h8 : 0 ≤ f_from ∧ f_from ≤ 1000) (h9 : 0 ≤ f_la ∧ f_la ≤ 1000) (h10 : 0 ≤ f_lf ∧ f_lf ≤ 1000) (h11 : 0 ≤ z2850 ∧ z2850 ≤ 2) (h12 : 0 ≤ z2979 ∧ z2979 ≤ 1000) : (5 - (z2850 + 1)) < N := by omega
theorem vc_X12_addressRead_47 {z3004 z3006 z3008 : Int} (h0 : ¬ z3004 = 0) (h1 : 1 ≤ z3004 ∧ z3004 ≤ 4) (h2 : 0 ≤ z3006 ∧ z3006 ≤ 1000) (h3 : 0 ≤ z3008 ∧ z3008 ≤ 1000) : z3004 = 0 → z3008 ≤ z3006 := by omega
theorem vc_X12_addressRead_48 {z3004 z3006 z3008 z3010 : Int} (h0 : ¬ z3004 = 0) (h1 : 1 ≤ z3004 ∧ z3004 ≤ 4) (h2 : 0 ≤ z3006 ∧ z3006 ≤ 1000) (h3 : 0 ≤ z3008 ∧ z3008 ≤ 1000) (h4 : 0 ≤ z3010 ∧ z3010 ≤ 3) : z3004 = 0 → z3010 = 0 ∨ z3008 + 1 ≤ z3006 := by omega
theorem vc_X12_addressRead_49 {z3004 z3006 z3008 z3010 : Int} (h0 : ¬ z3004 = 0) (h1 : 1 ≤ z3004 ∧ z3004 ≤ 4) (h2 : 0 ≤ z3006 ∧ z3006 ≤ 1000) (h3 : 0 ≤ z3008 ∧ z3008 ≤ 1000) (h4 : 0 ≤ z3010 ∧ z3010 ≤ 3) : z3004 = 0 → z3010 = 1 → z3008 + 2 ≤ z3006 := by omega
theorem vc_X12_addressRead_50 {z3004 z3006 z3008 z3010 z3012 : Int} (h0 : ¬ z3004 = 0) (h1 : 1 ≤ z3004 ∧ z3004 ≤ 4) (h2 : 0 ≤ z3006 ∧ z3006 ≤ 1000) (h3 : 0 ≤ z3008 ∧ z3008 ≤ 1000) (h4 : 0 ≤ z3010 ∧ z3010 ≤ 3) (h5 : (-2147483648) ≤ z3012 ∧ z3012 ≤ 2147483647) : z3004 = 0 → z3010 = 1 → z3012 = 0 ∨ z3012 = 4 ∨ z3012 = 5 ∨ z3008 + 3 ≤ z3006 := by omega
theorem vc_X12_addressRead_52 {f_at f_from f_la f_lf z2850 z2979 z3004 z3008 : Int} (h0 : f_from ≤ f_at) (h1 : f_from + z2850 ≤ f_lf) (h2 : z2850 < 4) (h3 : z2850 < 3) (h4 : ¬ z3004 = 0) (h5 : f_lf ≤ f_la) (h6 : f_lf + 1 ≤ z2979) (h7 : 0 ≤ f_at ∧ f_at ≤ 1000) (h8 : 0 ≤ f_from ∧ f_from ≤ 1000) (h9 : 0 ≤ f_la ∧ f_la ≤ 1000) (h10 : 0 ≤ f_lf ∧ f_lf ≤ 1000) (h11 : 0 ≤ z2850 ∧ z2850 ≤ 2) (h12 : 0 ≤ z2979 ∧ z2979 ≤ 1000) (h13 : 1 ≤ z3004 ∧ z3004 ≤ 4) (h14 : 0 ≤ z3008 ∧ z3008 ≤ 1000) : z3004 = 0 → f_from + (z2850 + 1) ≤ z3008 := by omega
theorem vc_X12_addressRead_60 {f_at f_from f_la f_lf z2850 z2975 z2979 : Int} (h0 : f_from ≤ f_at) (h1 : f_from + z2850 ≤ f_lf) (h2 : z2850 < 4) (h3 : ¬ z2975 = 0) (h4 : 3 ≤ z2850) (h5 : f_lf ≤ f_la) (h6 : 0 ≤ f_at ∧ f_at ≤ 1000) (h7 : 0 ≤ f_from ∧ f_from ≤ 1000) (h8 : 0 ≤ f_la ∧ f_la ≤ 1000) (h9 : 0 ≤ f_lf ∧ f_lf ≤ 1000) (h10 : 3 ≤ z2850 ∧ z2850 ≤ 3) (h11 : 1 ≤ z2975 ∧ z2975 ≤ 4) (h12 : 0 ≤ z2979 ∧ z2979 ≤ 1000) : z2975 = 0 → f_from + (z2850 + 1) ≤ z2979 := by omega
theorem vc_X12_addressRead_62 {N f_at f_from f_la f_lf z2850 : Int} (h0 : (5 - z2850) < N + 1) (h1 : f_from + z2850 ≤ f_lf) (h2 : z2850 < 4) (h3 : 3 ≤ z2850) (h4 : f_from ≤ f_at) (h5 : f_lf ≤ f_la) (h6 : 0 ≤ f_at ∧ f_at ≤ 1000) (h7 : 0 ≤ f_from ∧ f_from ≤ 1000) (h8 : 0 ≤ f_la ∧ f_la ≤ 1000) (h9 : 0 ≤ f_lf ∧ f_lf ≤ 1000) (h10 : 3 ≤ z2850 ∧ z2850 ≤ 3) : (5 - (z2850 + 1)) < N := by omega
theorem vc_X12_addressRead_65 {z2975 z3057 z3059 z3061 : Int} (h0 : z3057 = 0 → z3061 ≤ z3059) (h1 : 1 ≤ z3057) (h2 : ¬ z2975 = 0) (h3 : 1 ≤ z2975 ∧ z2975 ≤ 4) (h4 : 1 ≤ z3057 ∧ z3057 ≤ 4) (h5 : 0 ≤ z3059 ∧ z3059 ≤ 1000) (h6 : 0 ≤ z3061 ∧ z3061 ≤ 1000) : z3057 = 0 → z3061 ≤ z3059 := by omega
theorem vc_X12_addressRead_66 {z2975 z3057 z3059 z3061 z3063 : Int} (h0 : z3057 = 0 → z3061 ≤ z3059) (h1 : z3057 = 0 → z3063 = 0 ∨ z3061 + 1 ≤ z3059) (h2 : z3057 = 0 → z3063 = 1 → z3061 + 2 ≤ z3059) (h3 : 1 ≤ z3057) (h4 : ¬ z2975 = 0) (h5 : 1 ≤ z2975 ∧ z2975 ≤ 4) (h6 : 1 ≤ z3057 ∧ z3057 ≤ 4) (h7 : 0 ≤ z3059 ∧ z3059 ≤ 1000) (h8 : 0 ≤ z3061 ∧ z3061 ≤ 1000) (h9 : 0 ≤ z3063 ∧ z3063 ≤ 3) : z3057 = 0 → z3063 = 0 ∨ z3061 + 1 ≤ z3059 := by omega
theorem vc_X12_addressRead_67 {z2975 z3057 z3059 z3061 z3063 : Int} (h0 : z3057 = 0 → z3061 ≤ z3059) (h1 : z3057 = 0 → z3063 = 0 ∨ z3061 + 1 ≤ z3059) (h2 : z3057 = 0 → z3063 = 1 → z3061 + 2 ≤ z3059) (h3 : 1 ≤ z3057) (h4 : ¬ z2975 = 0) (h5 : 1 ≤ z2975 ∧ z2975 ≤ 4) (h6 : 1 ≤ z3057 ∧ z3057 ≤ 4) (h7 : 0 ≤ z3059 ∧ z3059 ≤ 1000) (h8 : 0 ≤ z3061 ∧ z3061 ≤ 1000) (h9 : 0 ≤ z3063 ∧ z3063 ≤ 3) : z3057 = 0 → z3063 = 1 → z3061 + 2 ≤ z3059 := by omega
theorem vc_X12_addressRead_68 {z2975 z3057 z3059 z3061 z3063 z3065 : Int} (h0 : z3057 = 0 → z3061 ≤ z3059) (h1 : z3057 = 0 → z3063 = 0 ∨ z3061 + 1 ≤ z3059) (h2 : z3057 = 0 → z3063 = 1 → z3061 + 2 ≤ z3059) (h3 : z3057 = 0 → z3063 = 1 → z3065 = 0 ∨ z3065 = 4 ∨ z3065 = 5 ∨ z3061 + 3 ≤ z3059) (h4 : 1 ≤ z3057) (h5 : ¬ z2975 = 0) (h6 : 1 ≤ z2975 ∧ z2975 ≤ 4) (h7 : 1 ≤ z3057 ∧ z3057 ≤ 4) (h8 : 0 ≤ z3059 ∧ z3059 ≤ 1000) (h9 : 0 ≤ z3061 ∧ z3061 ≤ 1000) (h10 : 0 ≤ z3063 ∧ z3063 ≤ 3) (h11 : (-2147483648) ≤ z3065 ∧ z3065 ≤ 2147483647) : z3057 = 0 → z3063 = 1 → z3065 = 0 ∨ z3065 = 4 ∨ z3065 = 5 ∨ z3061 + 3 ≤ z3059 := by omega
theorem vc_X12_addressRead_69 {f_code z2975 z3057 : Int} (h0 : f_code = 0) (h1 : 1 ≤ z3057) (h2 : ¬ z2975 = 0) (h3 : 0 ≤ f_code ∧ f_code ≤ 0) (h4 : 1 ≤ z2975 ∧ z2975 ≤ 4) (h5 : 1 ≤ z3057 ∧ z3057 ≤ 4) : z3057 = 0 → f_code = 0 := by omega
theorem vc_X12_addressRead_70 {f_at f_from f_la f_lf z2850 z2975 z3057 z3061 : Int} (h0 : f_from ≤ f_at) (h1 : f_from + z2850 ≤ f_lf) (h2 : z2850 < 4) (h3 : z2850 < 3) (h4 : 1 ≤ z3057) (h5 : f_lf ≤ f_la) (h6 : ¬ z2975 = 0) (h7 : 0 ≤ f_at ∧ f_at ≤ 1000) (h8 : 0 ≤ f_from ∧ f_from ≤ 1000) (h9 : 0 ≤ f_la ∧ f_la ≤ 1000) (h10 : 0 ≤ f_lf ∧ f_lf ≤ 1000) (h11 : 0 ≤ z2850 ∧ z2850 ≤ 2) (h12 : 1 ≤ z2975 ∧ z2975 ≤ 4) (h13 : 1 ≤ z3057 ∧ z3057 ≤ 4) (h14 : 0 ≤ z3061 ∧ z3061 ≤ 1000) : z3057 = 0 → f_from + (z2850 + 1) ≤ z3061 := by omega
theorem vc_X12_addressRead_71 {f_code z2975 z3057 : Int} (h0 : f_code = 0) (h1 : 1 ≤ z3057) (h2 : ¬ z2975 = 0) (h3 : 0 ≤ f_code ∧ f_code ≤ 0) (h4 : 1 ≤ z2975 ∧ z2975 ≤ 4) (h5 : 1 ≤ z3057 ∧ z3057 ≤ 4) : f_code = 0 ∨ 1 ≤ z3057 := by omega
theorem vc_X12_addressRead_72 {N f_at f_from f_la f_lf z2850 : Int} (h0 : (5 - z2850) < N + 1) (h1 : f_from + z2850 ≤ f_lf) (h2 : z2850 < 4) (h3 : z2850 < 3) (h4 : f_from ≤ f_at) (h5 : f_lf ≤ f_la) (h6 : 0 ≤ f_at ∧ f_at ≤ 1000) (h7 : 0 ≤ f_from ∧ f_from ≤ 1000) (h8 : 0 ≤ f_la ∧ f_la ≤ 1000) (h9 : 0 ≤ f_lf ∧ f_lf ≤ 1000) (h10 : 0 ≤ z2850 ∧ z2850 ≤ 2) : (5 - (z2850 + 1)) < N := by omega
theorem vc_X12_addressRead_74 {z2850 : Int} (h0 : 4 ≤ z2850) (h1 : 0 ≤ z2850 ∧ z2850 ≤ 4) : 4 ≤ z2850 ∧ z2850 ≤ 4 := by omega
theorem vc_X12_addressRead_78 {f_la f_lc f_lf f_ln f_lt : Int} (h0 : ¬ f_lc = 0) (h1 : 0 ≤ f_la ∧ f_la ≤ 1000) (h2 : 1 ≤ f_lc ∧ f_lc ≤ 4) (h3 : 0 ≤ f_lf ∧ f_lf ≤ 1000) (h4 : (-2147483648) ≤ f_ln ∧ f_ln ≤ 2147483647) (h5 : 0 ≤ f_lt ∧ f_lt ≤ 3) : f_lc = 0 → f_lt = 1 → f_ln = 0 ∨ f_ln = 4 ∨ f_ln = 5 ∨ f_lf + 3 ≤ f_la := by omega
theorem vc_X12_addressRead_80 {f_at f_from f_lc f_lf : Int} (h0 : f_from ≤ f_at) (h1 : ¬ f_lc = 0) (h2 : 0 ≤ f_at ∧ f_at ≤ 1000) (h3 : 0 ≤ f_from ∧ f_from ≤ 1000) (h4 : 1 ≤ f_lc ∧ f_lc ≤ 4) (h5 : 0 ≤ f_lf ∧ f_lf ≤ 1000) : f_lc = 0 → f_from + 4 ≤ f_lf := by omega
theorem vc_X12_addressRead_82 {z2850 : Int} (h0 : z2850 < 4) (h1 : 0 ≤ z2850 ∧ z2850 ≤ 4) : 0 ≤ z2850 ∧ z2850 ≤ 3 := by omega
theorem vc_X12_addressRead_85 {z2850 : Int} (h0 : 3 ≤ z2850) (h1 : z2850 < 4) (h2 : 0 ≤ z2850 ∧ z2850 ≤ 3) : 3 ≤ z2850 ∧ z2850 ≤ 3 := by omega
theorem vc_X12_addressRead_86 {z3139 z3141 z3143 : Int} (h0 : 1 ≤ z3139) (h1 : 1 ≤ z3139 ∧ z3139 ≤ 4) (h2 : 0 ≤ z3141 ∧ z3141 ≤ 1000) (h3 : 0 ≤ z3143 ∧ z3143 ≤ 1000) : z3139 = 0 → z3143 ≤ z3141 := by omega
theorem vc_X12_addressRead_87 {z3139 z3141 z3143 z3145 : Int} (h0 : 1 ≤ z3139) (h1 : 1 ≤ z3139 ∧ z3139 ≤ 4) (h2 : 0 ≤ z3141 ∧ z3141 ≤ 1000) (h3 : 0 ≤ z3143 ∧ z3143 ≤ 1000) (h4 : 0 ≤ z3145 ∧ z3145 ≤ 3) : z3139 = 0 → z3145 = 0 ∨ z3143 + 1 ≤ z3141 := by omega
theorem vc_X12_addressRead_88 {z3139 z3141 z3143 z3145 : Int} (h0 : 1 ≤ z3139) (h1 : 1 ≤ z3139 ∧ z3139 ≤ 4) (h2 : 0 ≤ z3141 ∧ z3141 ≤ 1000) (h3 : 0 ≤ z3143 ∧ z3143 ≤ 1000) (h4 : 0 ≤ z3145 ∧ z3145 ≤ 3) : z3139 = 0 → z3145 = 1 → z3143 + 2 ≤ z3141 := by omega
theorem vc_X12_addressRead_89 {z3139 z3141 z3143 z3145 z3147 : Int} (h0 : 1 ≤ z3139) (h1 : 1 ≤ z3139 ∧ z3139 ≤ 4) (h2 : 0 ≤ z3141 ∧ z3141 ≤ 1000) (h3 : 0 ≤ z3143 ∧ z3143 ≤ 1000) (h4 : 0 ≤ z3145 ∧ z3145 ≤ 3) (h5 : (-2147483648) ≤ z3147 ∧ z3147 ≤ 2147483647) : z3139 = 0 → z3145 = 1 → z3147 = 0 ∨ z3147 = 4 ∨ z3147 = 5 ∨ z3143 + 3 ≤ z3141 := by omega
theorem vc_X12_addressRead_90 {f_code z3139 : Int} (h0 : f_code = 0) (h1 : 1 ≤ z3139) (h2 : 0 ≤ f_code ∧ f_code ≤ 0) (h3 : 1 ≤ z3139 ∧ z3139 ≤ 4) : z3139 = 0 → f_code = 0 := by omega
theorem vc_X12_addressRead_91 {f_at f_from z2850 z3139 z3143 : Int} (h0 : f_from ≤ f_at) (h1 : z2850 < 4) (h2 : 1 ≤ z3139) (h3 : 3 ≤ z2850) (h4 : 0 ≤ f_at ∧ f_at ≤ 1000) (h5 : 0 ≤ f_from ∧ f_from ≤ 1000) (h6 : 3 ≤ z2850 ∧ z2850 ≤ 3) (h7 : 1 ≤ z3139 ∧ z3139 ≤ 4) (h8 : 0 ≤ z3143 ∧ z3143 ≤ 1000) : z3139 = 0 → f_from + (z2850 + 1) ≤ z3143 := by omega
theorem vc_X12_addressRead_92 {f_code z3139 : Int} (h0 : f_code = 0) (h1 : 1 ≤ z3139) (h2 : 0 ≤ f_code ∧ f_code ≤ 0) (h3 : 1 ≤ z3139 ∧ z3139 ≤ 4) : f_code = 0 ∨ 1 ≤ z3139 := by omega
theorem vc_X12_addressRead_93 {N z2850 : Int} (h0 : (5 - z2850) < N + 1) (h1 : z2850 < 4) (h2 : 3 ≤ z2850) (h3 : 3 ≤ z2850 ∧ z2850 ≤ 3) : (5 - (z2850 + 1)) < N := by omega
theorem vc_X12_addressRead_94 {z2850 : Int} (h0 : z2850 < 3) (h1 : z2850 < 4) (h2 : 0 ≤ z2850 ∧ z2850 ≤ 3) : 0 ≤ z2850 ∧ z2850 ≤ 2 := by omega
theorem vc_X12_addressRead_97 {z3139 z3189 z3191 z3193 : Int} (h0 : z3189 = 0 → z3193 ≤ z3191) (h1 : 1 ≤ z3189) (h2 : 1 ≤ z3139) (h3 : 1 ≤ z3139 ∧ z3139 ≤ 4) (h4 : 1 ≤ z3189 ∧ z3189 ≤ 4) (h5 : 0 ≤ z3191 ∧ z3191 ≤ 1000) (h6 : 0 ≤ z3193 ∧ z3193 ≤ 1000) : z3189 = 0 → z3193 ≤ z3191 := by omega
theorem vc_X12_addressRead_98 {z3139 z3189 z3191 z3193 z3195 : Int} (h0 : z3189 = 0 → z3193 ≤ z3191) (h1 : z3189 = 0 → z3195 = 0 ∨ z3193 + 1 ≤ z3191) (h2 : z3189 = 0 → z3195 = 1 → z3193 + 2 ≤ z3191) (h3 : 1 ≤ z3189) (h4 : 1 ≤ z3139) (h5 : 1 ≤ z3139 ∧ z3139 ≤ 4) (h6 : 1 ≤ z3189 ∧ z3189 ≤ 4) (h7 : 0 ≤ z3191 ∧ z3191 ≤ 1000) (h8 : 0 ≤ z3193 ∧ z3193 ≤ 1000) (h9 : 0 ≤ z3195 ∧ z3195 ≤ 3) : z3189 = 0 → z3195 = 0 ∨ z3193 + 1 ≤ z3191 := by omega
theorem vc_X12_addressRead_99 {z3139 z3189 z3191 z3193 z3195 : Int} (h0 : z3189 = 0 → z3193 ≤ z3191) (h1 : z3189 = 0 → z3195 = 0 ∨ z3193 + 1 ≤ z3191) (h2 : z3189 = 0 → z3195 = 1 → z3193 + 2 ≤ z3191) (h3 : 1 ≤ z3189) (h4 : 1 ≤ z3139) (h5 : 1 ≤ z3139 ∧ z3139 ≤ 4) (h6 : 1 ≤ z3189 ∧ z3189 ≤ 4) (h7 : 0 ≤ z3191 ∧ z3191 ≤ 1000) (h8 : 0 ≤ z3193 ∧ z3193 ≤ 1000) (h9 : 0 ≤ z3195 ∧ z3195 ≤ 3) : z3189 = 0 → z3195 = 1 → z3193 + 2 ≤ z3191 := by omega
theorem vc_X12_addressRead_100 {z3139 z3189 z3191 z3193 z3195 z3197 : Int} (h0 : z3189 = 0 → z3193 ≤ z3191) (h1 : z3189 = 0 → z3195 = 0 ∨ z3193 + 1 ≤ z3191) (h2 : z3189 = 0 → z3195 = 1 → z3193 + 2 ≤ z3191) (h3 : z3189 = 0 → z3195 = 1 → z3197 = 0 ∨ z3197 = 4 ∨ z3197 = 5 ∨ z3193 + 3 ≤ z3191) (h4 : 1 ≤ z3189) (h5 : 1 ≤ z3139) (h6 : 1 ≤ z3139 ∧ z3139 ≤ 4) (h7 : 1 ≤ z3189 ∧ z3189 ≤ 4) (h8 : 0 ≤ z3191 ∧ z3191 ≤ 1000) (h9 : 0 ≤ z3193 ∧ z3193 ≤ 1000) (h10 : 0 ≤ z3195 ∧ z3195 ≤ 3) (h11 : (-2147483648) ≤ z3197 ∧ z3197 ≤ 2147483647) : z3189 = 0 → z3195 = 1 → z3197 = 0 ∨ z3197 = 4 ∨ z3197 = 5 ∨ z3193 + 3 ≤ z3191 := by omega
theorem vc_X12_addressRead_102 {f_at f_from z2850 z3139 z3189 z3193 : Int} (h0 : f_from ≤ f_at) (h1 : z2850 < 4) (h2 : z2850 < 3) (h3 : 1 ≤ z3189) (h4 : 1 ≤ z3139) (h5 : 0 ≤ f_at ∧ f_at ≤ 1000) (h6 : 0 ≤ f_from ∧ f_from ≤ 1000) (h7 : 0 ≤ z2850 ∧ z2850 ≤ 2) (h8 : 1 ≤ z3139 ∧ z3139 ≤ 4) (h9 : 1 ≤ z3189 ∧ z3189 ≤ 4) (h10 : 0 ≤ z3193 ∧ z3193 ≤ 1000) : z3189 = 0 → f_from + (z2850 + 1) ≤ z3193 := by omega
theorem vc_X12_addressRead_104 {N z2850 : Int} (h0 : (5 - z2850) < N + 1) (h1 : z2850 < 4) (h2 : z2850 < 3) (h3 : 0 ≤ z2850 ∧ z2850 ≤ 2) : (5 - (z2850 + 1)) < N := by omega
theorem vc_X12_addressRead_105 {f_at f_code f_from : Int} (h0 : f_code = 0) (h1 : f_from ≤ f_at) (h2 : 0 ≤ f_at ∧ f_at ≤ 1000) (h3 : 0 ≤ f_code ∧ f_code ≤ 0) (h4 : 0 ≤ f_from ∧ f_from ≤ 1000) : f_code = 0 → f_from ≤ f_at := by omega
theorem vc_X12_addressRead_106 {f_at f_code f_from f_type : Int} (h0 : f_code = 0) (h1 : f_from ≤ f_at) (h2 : f_type = 0 ∨ f_from + 1 ≤ f_at) (h3 : f_type = 1 → f_from + 2 ≤ f_at) (h4 : 0 ≤ f_at ∧ f_at ≤ 1000) (h5 : 0 ≤ f_code ∧ f_code ≤ 0) (h6 : 0 ≤ f_from ∧ f_from ≤ 1000) (h7 : 0 ≤ f_type ∧ f_type ≤ 3) : f_code = 0 → f_type = 0 ∨ f_from + 1 ≤ f_at := by omega
theorem vc_X12_addressRead_107 {f_at f_code f_from f_type : Int} (h0 : f_code = 0) (h1 : f_from ≤ f_at) (h2 : f_type = 0 ∨ f_from + 1 ≤ f_at) (h3 : f_type = 1 → f_from + 2 ≤ f_at) (h4 : 0 ≤ f_at ∧ f_at ≤ 1000) (h5 : 0 ≤ f_code ∧ f_code ≤ 0) (h6 : 0 ≤ f_from ∧ f_from ≤ 1000) (h7 : 0 ≤ f_type ∧ f_type ≤ 3) : f_code = 0 → f_type = 1 → f_from + 2 ≤ f_at := by omega
theorem vc_X12_addressRead_108 {f_at f_code f_from f_number f_type : Int} (h0 : f_code = 0) (h1 : f_from ≤ f_at) (h2 : f_type = 0 ∨ f_from + 1 ≤ f_at) (h3 : f_type = 1 → f_from + 2 ≤ f_at) (h4 : f_type = 1 → f_number = 0 ∨ f_number = 4 ∨ f_number = 5 ∨ f_from + 3 ≤ f_at) (h5 : 0 ≤ f_at ∧ f_at ≤ 1000) (h6 : 0 ≤ f_code ∧ f_code ≤ 0) (h7 : 0 ≤ f_from ∧ f_from ≤ 1000) (h8 : (-2147483648) ≤ f_number ∧ f_number ≤ 2147483647) (h9 : 0 ≤ f_type ∧ f_type ≤ 3) : f_code = 0 → f_type = 1 → f_number = 0 ∨ f_number = 4 ∨ f_number = 5 ∨ f_from + 3 ≤ f_at := by omega
theorem vc_X12_addressRead_110 {f_at f_code f_from : Int} (h0 : f_code = 0) (h1 : f_from ≤ f_at) (h2 : 0 ≤ f_at ∧ f_at ≤ 1000) (h3 : 0 ≤ f_code ∧ f_code ≤ 0) (h4 : 0 ≤ f_from ∧ f_from ≤ 1000) : f_code = 0 → f_from + (0 : Int) ≤ f_from := by omega
theorem vc_X12_addressRead_116 {f_code f_lc : Int} (h0 : ¬ f_code = 0) (h1 : f_lc = 0) (h2 : f_code = 0) (h3 : 1 ≤ f_code ∧ f_code ≤ 4) (h4 : 0 ≤ f_lc ∧ f_lc ≤ 0) : False := by omega
theorem vc_X12_addressRead_118 {f_la f_lc f_lf : Int} (h0 : ¬ f_lc = 0) (h1 : 1 ≤ f_lc) (h2 : 0 ≤ f_la ∧ f_la ≤ 1000) (h3 : 1 ≤ f_lc ∧ f_lc ≤ 4) (h4 : 0 ≤ f_lf ∧ f_lf ≤ 1000) : f_lc = 0 → f_lf ≤ f_la := by omega
theorem vc_X12_addressRead_119 {f_la f_lc f_lf f_lt : Int} (h0 : ¬ f_lc = 0) (h1 : 1 ≤ f_lc) (h2 : 0 ≤ f_la ∧ f_la ≤ 1000) (h3 : 1 ≤ f_lc ∧ f_lc ≤ 4) (h4 : 0 ≤ f_lf ∧ f_lf ≤ 1000) (h5 : 0 ≤ f_lt ∧ f_lt ≤ 3) : f_lc = 0 → f_lt = 0 ∨ f_lf + 1 ≤ f_la := by omega
theorem vc_X12_addressRead_120 {f_la f_lc f_lf f_lt : Int} (h0 : ¬ f_lc = 0) (h1 : 1 ≤ f_lc) (h2 : 0 ≤ f_la ∧ f_la ≤ 1000) (h3 : 1 ≤ f_lc ∧ f_lc ≤ 4) (h4 : 0 ≤ f_lf ∧ f_lf ≤ 1000) (h5 : 0 ≤ f_lt ∧ f_lt ≤ 3) : f_lc = 0 → f_lt = 1 → f_lf + 2 ≤ f_la := by omega
theorem vc_X12_addressRead_121 {f_la f_lc f_lf f_ln f_lt : Int} (h0 : ¬ f_lc = 0) (h1 : 1 ≤ f_lc) (h2 : 0 ≤ f_la ∧ f_la ≤ 1000) (h3 : 1 ≤ f_lc ∧ f_lc ≤ 4) (h4 : 0 ≤ f_lf ∧ f_lf ≤ 1000) (h5 : (-2147483648) ≤ f_ln ∧ f_ln ≤ 2147483647) (h6 : 0 ≤ f_lt ∧ f_lt ≤ 3) : f_lc = 0 → f_lt = 1 → f_ln = 0 ∨ f_ln = 4 ∨ f_ln = 5 ∨ f_lf + 3 ≤ f_la := by omega
theorem vc_X12_addressRead_122 {f_code f_lc : Int} (h0 : ¬ f_code = 0) (h1 : ¬ f_lc = 0) (h2 : 1 ≤ f_lc) (h3 : 1 ≤ f_code ∧ f_code ≤ 4) (h4 : 1 ≤ f_lc ∧ f_lc ≤ 4) : f_lc = 0 → f_code = 0 := by omega
theorem vc_X12_addressRead_123 {f_from f_lc f_lf : Int} (h0 : ¬ f_lc = 0) (h1 : 1 ≤ f_lc) (h2 : 0 ≤ f_from ∧ f_from ≤ 1000) (h3 : 1 ≤ f_lc ∧ f_lc ≤ 4) (h4 : 0 ≤ f_lf ∧ f_lf ≤ 1000) : f_lc = 0 → f_from + 4 ≤ f_lf := by omega
theorem vc_X12_addressRead_124 {f_code f_lc : Int} (h0 : ¬ f_code = 0) (h1 : ¬ f_lc = 0) (h2 : 1 ≤ f_lc) (h3 : 1 ≤ f_code ∧ f_code ≤ 4) (h4 : 1 ≤ f_lc ∧ f_lc ≤ 4) : f_code = 0 ∨ 1 ≤ f_lc := by omega
theorem vc_X12_addressRead_132 {f_code z3714 : Int} (h0 : ¬ f_code = 0) (h1 : 1 ≤ z3714) (h2 : 1 ≤ f_code ∧ f_code ≤ 4) (h3 : 1 ≤ z3714 ∧ z3714 ≤ 4) : z3714 = 0 → f_code = 0 := by omega
theorem vc_X12_addressRead_133 {f_from z3619 z3714 z3718 : Int} (h0 : z3619 < 4) (h1 : 1 ≤ z3714) (h2 : 3 ≤ z3619) (h3 : 0 ≤ f_from ∧ f_from ≤ 1000) (h4 : 3 ≤ z3619 ∧ z3619 ≤ 3) (h5 : 1 ≤ z3714 ∧ z3714 ≤ 4) (h6 : 0 ≤ z3718 ∧ z3718 ≤ 1000) : z3714 = 0 → f_from + (z3619 + 1) ≤ z3718 := by omega
theorem vc_X12_addressRead_134 {f_code z3714 : Int} (h0 : ¬ f_code = 0) (h1 : 1 ≤ z3714) (h2 : 1 ≤ f_code ∧ f_code ≤ 4) (h3 : 1 ≤ z3714 ∧ z3714 ≤ 4) : f_code = 0 ∨ 1 ≤ z3714 := by omega
theorem vc_X12_addressRead_144 {f_from z3619 z3714 z3764 z3768 : Int} (h0 : z3619 < 4) (h1 : z3619 < 3) (h2 : 1 ≤ z3764) (h3 : 1 ≤ z3714) (h4 : 0 ≤ f_from ∧ f_from ≤ 1000) (h5 : 0 ≤ z3619 ∧ z3619 ≤ 2) (h6 : 1 ≤ z3714 ∧ z3714 ≤ 4) (h7 : 1 ≤ z3764 ∧ z3764 ≤ 4) (h8 : 0 ≤ z3768 ∧ z3768 ≤ 1000) : z3764 = 0 → f_from + (z3619 + 1) ≤ z3768 := by omega
theorem vc_X12_addressRead_152 {f_code f_from : Int} (h0 : ¬ f_code = 0) (h1 : 1 ≤ f_code ∧ f_code ≤ 4) (h2 : 0 ≤ f_from ∧ f_from ≤ 1000) : f_code = 0 → f_from + (0 : Int) ≤ f_from := by omega
set_option maxRecDepth 4000 in
set_option maxHeartbeats 4000000 in
theorem c_X12_addressRead {l : Launch} {D : va_G} {c : Nat → ClassId} {H0 : Heap} {sa : Nat × Nat × (Nat → Int32)} {w : mW} {μ : mM} (hw : mWF w) (hT : mT w μ) {f_code : Int} (q_f_code : μ 106 37 = f_code) {f_at : Int} (q_f_at : μ 106 33 = f_at) {f_from : Int} (q_f_from : μ 106 34 = f_from) {f_type : Int} (q_f_type : μ 106 35 = f_type) {f_number : Int} (q_f_number : μ 106 36 = f_number) (hq0 : f_code = 0 → f_from ≤ f_at) (hq1 : f_code = 0 → f_type = 0 ∨ f_from + 1 ≤ f_at) (hq2 : f_code = 0 → f_type = 1 → f_from + 2 ≤ f_at) (hq3 : f_code = 0 → f_type = 1 → f_number = 0 ∨ f_number = 4 ∨ f_number = 5 ∨ f_from + 3 ≤ f_at) : sC (gG l D c H0 sa) mX12_addressRead 4 0 0 [.ref 106] (mk w μ) (qI w [106033, 106034, 106035, 106036, 106037, 106038] μ (fun z μ1 => ∃ o_code o_at o_from o_type o_number : Int, μ1 106 37 = o_code ∧ μ1 106 33 = o_at ∧ μ1 106 34 = o_from ∧ μ1 106 35 = o_type ∧ μ1 106 36 = o_number ∧ ((-2147483648) ≤ z ∧ z ≤ 2147483647) ∧ (o_code = 0 → o_from ≤ o_at) ∧ (o_code = 0 → o_type = 0 ∨ o_from + 1 ≤ o_at) ∧ (o_code = 0 → o_type = 1 → o_from + 2 ≤ o_at) ∧ (o_code = 0 → o_type = 1 → o_number = 0 ∨ o_number = 4 ∨ o_number = 5 ∨ o_from + 3 ≤ o_at) ∧ (o_code = 0 → f_code = 0) ∧ (o_code = 0 → f_from + 4 ≤ o_from) ∧ (f_code = 0 ∨ 1 ≤ o_code) ∧ True)) := by
  refine sC.of rfl (by decide) (le_t rfl) ?_
  have ht_f_code : (0 ≤ f_code ∧ f_code ≤ 4) := by rw [← q_f_code]; exact hT 106 106 (A_106 hw) 37
  have ht_f_at : (0 ≤ f_at ∧ f_at ≤ 1000) := by rw [← q_f_at]; exact hT 106 106 (A_106 hw) 33
  have ht_f_from : (0 ≤ f_from ∧ f_from ≤ 1000) := by rw [← q_f_from]; exact hT 106 106 (A_106 hw) 34
  have ht_f_type : (0 ≤ f_type ∧ f_type ≤ 3) := by rw [← q_f_type]; exact hT 106 106 (A_106 hw) 35
  have ht_f_number : ((-2147483648) ≤ f_number ∧ f_number ≤ 2147483647) := by rw [← q_f_number]; exact hT 106 106 (A_106 hw) 36
  refine mr_lvE (lv' := [(0, .ref 106)]) rfl ?_
  by_cases h1952 : f_code = 0
  · have h1953 : 0 ≤ f_code ∧ f_code ≤ 0 := (vc_X12_wrong_4 h1952 ht_f_code)
    refine mr_iconst (pc := 0) (z := 0) dX12_addressRead_0 ?_
    refine mr_istore_n (pc := 1) (lv' := [(1, iv 0), (0, .ref 106)]) dX12_addressRead_1 rfl (by decide) rfl ?_
    refine mr_iconst (pc := 2) (z := 0) dX12_addressRead_2 ?_
    refine mr_istore_n (pc := 3) (lv' := [(2, iv 0), (1, iv 0), (0, .ref 106)]) dX12_addressRead_3 rfl (by decide) rfl ?_
    have L2853 : ∀ (nL2853 : Nat) (z2851 z2850 : Int) (μ2852 : mM) (f_lc : Int) (f_la : Int) (f_lf : Int) (f_lt : Int) (f_ln : Int), mT w μ2852 → mF [106033, 106034, 106035, 106036, 106037, 106038] w μ μ2852 → μ2852 106 (37) = f_lc → μ2852 106 (33) = f_la → μ2852 106 (34) = f_lf → μ2852 106 (35) = f_lt → μ2852 106 (36) = f_ln → ((-2147483648) ≤ z2851 ∧ z2851 ≤ 2147483647) → (0 ≤ z2850 ∧ z2850 ≤ 4) → (f_lc = 0 → f_lf ≤ f_la) → (f_lc = 0 → f_lt = 0 ∨ f_lf + 1 ≤ f_la) → (f_lc = 0 → f_lt = 1 → f_lf + 2 ≤ f_la) → (f_lc = 0 → f_lt = 1 → f_ln = 0 ∨ f_ln = 4 ∨ f_ln = 5 ∨ f_lf + 3 ≤ f_la) → (f_lc = 0 → f_code = 0) → (f_lc = 0 → f_from + z2850 ≤ f_lf) → (f_code = 0 ∨ 1 ≤ f_lc) → (5 - z2850) < (nL2853 : Int) → sV (gG l D c H0 sa) mX12_addressRead (sRm 4 0 0) (sZ (gG l D c H0 sa) 0 0 (qI w [106033, 106034, 106035, 106036, 106037, 106038] μ (fun z μ1 => ∃ o_code o_at o_from o_type o_number : Int, μ1 106 37 = o_code ∧ μ1 106 33 = o_at ∧ μ1 106 34 = o_from ∧ μ1 106 35 = o_type ∧ μ1 106 36 = o_number ∧ ((-2147483648) ≤ z ∧ z ≤ 2147483647) ∧ (o_code = 0 → o_from ≤ o_at) ∧ (o_code = 0 → o_type = 0 ∨ o_from + 1 ≤ o_at) ∧ (o_code = 0 → o_type = 1 → o_from + 2 ≤ o_at) ∧ (o_code = 0 → o_type = 1 → o_number = 0 ∨ o_number = 4 ∨ o_number = 5 ∨ o_from + 3 ≤ o_at) ∧ (o_code = 0 → f_code = 0) ∧ (o_code = 0 → f_from + 4 ≤ o_from) ∧ (f_code = 0 ∨ 1 ≤ o_code) ∧ True))) 4 [(0, .ref 106), (1, iv z2851), (2, iv z2850)] [] (mk w μ2852) 0 0 := by
      intro nL2853
      induction nL2853 with
      | zero => intro z2851 z2850 μ2852 f_lc f_la f_lf f_lt f_ln T2856 F2857 q2867 q2868 q2869 q2870 q2871 h2854 h2855 h2859 h2860 h2861 h2862 h2863 h2864 h2865 h2866; exact ((vc_X12_addressRead_3 h2866 (hq0 (vc_X12_sign_2 h1953)) ht_f_at ht_f_from h2855)).elim
      | succ nL2853 ih2872 =>
        intro z2851 z2850 μ2852 f_lc f_la f_lf f_lt f_ln T2856 F2857 q2867 q2868 q2869 q2870 q2871 h2854 h2855 h2859 h2860 h2861 h2862 h2863 h2864 h2865 h2866
        have h2873 : (0 ≤ f_lc ∧ f_lc ≤ 4) := by rw [← q2867]; exact T2856 106 106 (A_106 hw) (37)
        have h2874 : (0 ≤ f_la ∧ f_la ≤ 1000) := by rw [← q2868]; exact T2856 106 106 (A_106 hw) (33)
        have h2875 : (0 ≤ f_lf ∧ f_lf ≤ 1000) := by rw [← q2869]; exact T2856 106 106 (A_106 hw) (34)
        have h2876 : (0 ≤ f_lt ∧ f_lt ≤ 3) := by rw [← q2870]; exact T2856 106 106 (A_106 hw) (35)
        have h2877 : ((-2147483648) ≤ f_ln ∧ f_ln ≤ 2147483647) := by rw [← q2871]; exact T2856 106 106 (A_106 hw) (36)
        refine mr_iload_n (pc := 4) (z := z2850) dX12_addressRead_4 rfl rfl ?_
        by_cases h2878 : f_lc = 0
        · have h2879 : 0 ≤ f_lc ∧ f_lc ≤ 0 := (vc_X12_wrong_4 h2878 h2873)
          refine mr_iconst (pc := 5) (z := 4) dX12_addressRead_5 ?_
          refine mr_icmp_ge (pc := 6) (tgt := 40) dX12_addressRead_6 (by decide) (r32 h2855 rfl) (r32 (rR (x := 4)) rfl) (fun h2964 => ?_) (fun h2964 => ?_)
          · have h2965 : 4 ≤ z2850 ∧ z2850 ≤ 4 := (vc_X12_addressRead_6 h2964 (h2864 (vc_X12_sign_2 h2879)) ht_f_from h2875 h2855)
            refine mr_iload_n (pc := 40) (z := z2851) dX12_addressRead_40 rfl rfl ?_
            exact mr_iret dX12_addressRead_41 rfl (le_t rfl) (le_t rfl) T2856 (mF.call mF.refl F2857 rfl) ⟨f_lc, f_la, f_lf, f_lt, f_ln, q2867, q2868, q2869, q2870, q2871, h2854, (vc_X12_addressRead_7 h2878 (h2859 (vc_X12_sign_2 h2879)) (h2864 (vc_X12_sign_2 h2879)) (hq0 (vc_X12_sign_2 h1953)) h2964 ht_f_at ht_f_from h2874 h2879 h2875 h2965), (vc_X12_addressRead_8 h2878 (h2859 (vc_X12_sign_2 h2879)) (h2860 (vc_X12_sign_2 h2879)) (h2861 (vc_X12_sign_2 h2879)) (h2864 (vc_X12_sign_2 h2879)) (hq0 (vc_X12_sign_2 h1953)) h2964 ht_f_at ht_f_from h2874 h2879 h2875 h2876 h2965), (vc_X12_addressRead_9 h2878 (h2859 (vc_X12_sign_2 h2879)) (h2860 (vc_X12_sign_2 h2879)) (h2861 (vc_X12_sign_2 h2879)) (h2864 (vc_X12_sign_2 h2879)) (hq0 (vc_X12_sign_2 h1953)) h2964 ht_f_at ht_f_from h2874 h2879 h2875 h2876 h2965), (vc_X12_addressRead_10 h2878 (h2859 (vc_X12_sign_2 h2879)) (h2860 (vc_X12_sign_2 h2879)) (h2861 (vc_X12_sign_2 h2879)) (h2862 (vc_X12_sign_2 h2879)) (h2864 (vc_X12_sign_2 h2879)) (hq0 (vc_X12_sign_2 h1953)) h2964 ht_f_at ht_f_from h2874 h2879 h2875 h2877 h2876 h2965), (vc_X12_within_13 h1952 h2878 h1953 h2879), (vc_X12_addressRead_12 (hq0 (vc_X12_sign_2 h1953)) h2878 (h2859 (vc_X12_sign_2 h2879)) (h2864 (vc_X12_sign_2 h2879)) h2964 ht_f_at ht_f_from h2874 h2879 h2875 h2965), (vc_X12_within_15 h1952 h2878 h1953 h2879), trivial⟩
          have h2966 : 0 ≤ z2850 ∧ z2850 ≤ 3 := (vc_X12_addressRead_14 h2964 (h2864 (vc_X12_sign_2 h2879)) ht_f_from h2875 h2855)
          refine mr_iload_n (pc := 9) (z := z2851) dX12_addressRead_9 rfl rfl ?_
          refine mr_bipush (pc := 10) (z := 8) dX12_addressRead_10 (by decide) ?_
          refine mr_ishl (pc := 12) (x := z2851) (y := 8) dX12_addressRead_12 ?_
          refine mr_gen (P := fun z => (-2147483648) ≤ z ∧ z ≤ 2147483647) (r32i _) fun z2967 q2968 h2969 => ?_
          refine sv_aload_n (pc := 13) dX12_addressRead_13 rfl rfl ?_
          refine mr_iconst (pc := 14) (z := 0) dX12_addressRead_14 ?_
          refine mr_sipush (pc := 15) (z := 255) dX12_addressRead_15 (by decide) ?_
          refine mr_cVI (pc := 18) (c_X12_within hw T2856 (rW (c := (-2147483648)) (d := 2147483647) (rR (x := 0)) rfl) (rW (c := (-2147483648)) (d := 2147483647) (rR (x := 255)) rfl) q2867 q2868 q2869 q2870 q2871 (vc_X12_addressRead_15 h2878 (h2859 (vc_X12_sign_2 h2879)) (h2864 (vc_X12_sign_2 h2879)) (hq0 (vc_X12_sign_2 h1953)) h2964 ht_f_at ht_f_from h2874 h2879 h2875 h2966) (vc_X12_addressRead_16 h2878 (h2859 (vc_X12_sign_2 h2879)) (h2860 (vc_X12_sign_2 h2879)) (h2861 (vc_X12_sign_2 h2879)) (h2864 (vc_X12_sign_2 h2879)) (hq0 (vc_X12_sign_2 h1953)) h2964 ht_f_at ht_f_from h2874 h2879 h2875 h2876 h2966) (vc_X12_addressRead_17 h2878 (h2859 (vc_X12_sign_2 h2879)) (h2860 (vc_X12_sign_2 h2879)) (h2861 (vc_X12_sign_2 h2879)) (h2864 (vc_X12_sign_2 h2879)) (hq0 (vc_X12_sign_2 h1953)) h2964 ht_f_at ht_f_from h2874 h2879 h2875 h2876 h2966) (vc_X12_addressRead_18 h2878 (h2859 (vc_X12_sign_2 h2879)) (h2860 (vc_X12_sign_2 h2879)) (h2861 (vc_X12_sign_2 h2879)) (h2862 (vc_X12_sign_2 h2879)) (h2864 (vc_X12_sign_2 h2879)) (hq0 (vc_X12_sign_2 h1953)) h2964 ht_f_at ht_f_from h2874 h2879 h2875 h2877 h2876 h2966)) (gOk _ _ _ _ _) dX12_addressRead_18 (tX12_within _ _ _ _ _) ⟨wV_X12_within, wL_X12_within⟩ wM_X12_314 (gCX12 _ _ _ _ _) rfl (A_106 hw) rfl ⟨le_t rfl, le_t rfl⟩ ⟨le_t rfl, le_t rfl⟩ rfl (le_t rfl) fun z2974 μ2970 T2971 F2972 h2973 => ?_
          obtain ⟨z2975, z2977, z2979, z2981, z2983, q2976, q2978, q2980, q2982, q2984, h2985⟩ := h2973
          have h2986 : (0 ≤ z2975 ∧ z2975 ≤ 4) := by rw [← q2976]; exact T2971 106 106 (A_106 hw) 37
          have h2987 : (0 ≤ z2977 ∧ z2977 ≤ 1000) := by rw [← q2978]; exact T2971 106 106 (A_106 hw) 33
          have h2988 : (0 ≤ z2979 ∧ z2979 ≤ 1000) := by rw [← q2980]; exact T2971 106 106 (A_106 hw) 34
          have h2989 : (0 ≤ z2981 ∧ z2981 ≤ 3) := by rw [← q2982]; exact T2971 106 106 (A_106 hw) 35
          have h2990 : ((-2147483648) ≤ z2983 ∧ z2983 ≤ 2147483647) := by rw [← q2984]; exact T2971 106 106 (A_106 hw) 36
          by_cases h2991 : z2975 = 0
          · have h2992 : 0 ≤ z2975 ∧ z2975 ≤ 0 := (vc_X12_wrong_4 h2991 h2986)
            have h2993 : 0 ≤ z2974 ∧ z2974 ≤ 255 := (vc_X12_addressRead_21 (h2985.2.2.2.2.2.2.2.2.1 (vc_X12_sign_2 h2992)) h2985.1)
            refine mr_ior (pc := 21) (x := z2967) (y := z2974) dX12_addressRead_21 ?_
            refine mr_gen (P := fun z => (-2147483648) ≤ z ∧ z ≤ 2147483647) (r32i _) fun z2994 q2995 h2996 => ?_
            refine mr_istore_n (pc := 22) (lv' := [(1, iv z2994), (0, .ref 106), (2, iv z2850)]) dX12_addressRead_22 rfl (by decide) rfl ?_
            refine mr_iload_n (pc := 23) (z := z2850) dX12_addressRead_23 rfl rfl ?_
            refine mr_iconst (pc := 24) (z := 3) dX12_addressRead_24 ?_
            refine mr_icmp_ge (pc := 25) (tgt := 34) dX12_addressRead_25 (by decide) (r32 h2966 rfl) (r32 (rR (x := 3)) rfl) (fun h2997 => ?_) (fun h2997 => ?_)
            · have h2998 : 3 ≤ z2850 ∧ z2850 ≤ 3 := (vc_X12_addressRead_22 h2997 (h2864 (vc_X12_sign_2 h2879)) h2964 ht_f_from h2875 h2966)
              refine mr_iinc (pc := 34) (lv' := [(2, iv (z2850 + 1)), (1, iv z2994), (0, .ref 106)]) dX12_addressRead_34 rfl (by decide) rfl ?_
              refine sv_goto (pc := 37) (tgt := 4) dX12_addressRead_37 (by decide) ?_
              refine mr_lvS (lv' := [(0, .ref 106), (1, iv z2994), (2, iv (z2850 + 1))]) (List.forall_mem_cons.mpr ⟨rfl, List.forall_mem_cons.mpr ⟨rfl, List.forall_mem_cons.mpr ⟨rfl, fun _ h => absurd h List.not_mem_nil⟩⟩⟩) ?_
              exact ih2872 z2994 (z2850 + 1) μ2970 z2975 z2977 z2979 z2981 z2983 T2971 (mF.call (mF.call mF.refl F2857 rfl) F2972 rfl) q2976 q2978 q2980 q2982 q2984 h2996 (rW (c := 0) (d := 4) (rAdd (e := 4) (f := 4) h2998 (rR (x := 1)) rfl) rfl) (vc_X12_addressRead_23 h2991 (h2985.2.1 (vc_X12_sign_2 h2992)) (h2985.2.2.2.2.2.2.1 (vc_X12_sign_2 h2992)) (h2859 (vc_X12_sign_2 h2879)) (h2864 (vc_X12_sign_2 h2879)) ht_f_from h2874 h2875 h2998 h2992 h2987 h2988) (vc_X12_addressRead_24 h2991 (h2985.2.1 (vc_X12_sign_2 h2992)) (h2985.2.2.1 (vc_X12_sign_2 h2992)) (h2985.2.2.2.1 (vc_X12_sign_2 h2992)) (h2985.2.2.2.2.2.2.1 (vc_X12_sign_2 h2992)) (h2859 (vc_X12_sign_2 h2879)) (h2864 (vc_X12_sign_2 h2879)) ht_f_from h2874 h2875 h2998 h2992 h2987 h2988 h2989) (vc_X12_addressRead_25 h2991 (h2985.2.1 (vc_X12_sign_2 h2992)) (h2985.2.2.1 (vc_X12_sign_2 h2992)) (h2985.2.2.2.1 (vc_X12_sign_2 h2992)) (h2985.2.2.2.2.2.2.1 (vc_X12_sign_2 h2992)) (h2859 (vc_X12_sign_2 h2879)) (h2864 (vc_X12_sign_2 h2879)) ht_f_from h2874 h2875 h2998 h2992 h2987 h2988 h2989) (vc_X12_addressRead_26 h2991 (h2985.2.1 (vc_X12_sign_2 h2992)) (h2985.2.2.1 (vc_X12_sign_2 h2992)) (h2985.2.2.2.1 (vc_X12_sign_2 h2992)) (h2985.2.2.2.2.1 (vc_X12_sign_2 h2992)) (h2985.2.2.2.2.2.2.1 (vc_X12_sign_2 h2992)) (h2859 (vc_X12_sign_2 h2879)) (h2864 (vc_X12_sign_2 h2879)) ht_f_from h2874 h2875 h2998 h2992 h2987 h2988 h2989 h2990) (vc_X12_within_13 h1952 h2991 h1953 h2992) (vc_X12_addressRead_28 (hq0 (vc_X12_sign_2 h1953)) (h2864 (vc_X12_sign_2 h2879)) h2964 h2991 (h2985.2.1 (vc_X12_sign_2 h2992)) (h2985.2.2.2.2.2.2.1 (vc_X12_sign_2 h2992)) h2997 (h2859 (vc_X12_sign_2 h2879)) ht_f_at ht_f_from h2874 h2875 h2998 h2992 h2987 h2988) (vc_X12_within_15 h1952 h2991 h1953 h2992) (vc_X12_addressRead_30 (nS h2866) (h2864 (vc_X12_sign_2 h2879)) h2964 h2997 (hq0 (vc_X12_sign_2 h1953)) (h2859 (vc_X12_sign_2 h2879)) (h2985.2.2.2.2.2.2.1 (vc_X12_sign_2 h2992)) ht_f_at ht_f_from h2874 h2875 h2998 h2988)
            have h2999 : 0 ≤ z2850 ∧ z2850 ≤ 2 := (vc_X12_addressRead_31 h2997 (h2864 (vc_X12_sign_2 h2879)) h2964 ht_f_from h2875 h2966)
            refine sv_aload_n (pc := 28) dX12_addressRead_28 rfl rfl ?_
            refine mr_bipush (pc := 29) (z := 46) dX12_addressRead_29 (by decide) ?_
            refine mr_cVV (pc := 31) (c_X12_sign hw T2971 (rW (c := (-2147483648)) (d := 2147483647) (rR (x := 46)) rfl) q2976 q2978 q2980 q2982 q2984 (vc_X12_addressRead_32 h2991 (h2985.2.1 (vc_X12_sign_2 h2992)) (h2985.2.2.2.2.2.2.1 (vc_X12_sign_2 h2992)) (h2859 (vc_X12_sign_2 h2879)) (h2864 (vc_X12_sign_2 h2879)) ht_f_from h2874 h2875 h2999 h2992 h2987 h2988) (vc_X12_addressRead_33 h2991 (h2985.2.1 (vc_X12_sign_2 h2992)) (h2985.2.2.1 (vc_X12_sign_2 h2992)) (h2985.2.2.2.1 (vc_X12_sign_2 h2992)) (h2985.2.2.2.2.2.2.1 (vc_X12_sign_2 h2992)) (h2859 (vc_X12_sign_2 h2879)) (h2864 (vc_X12_sign_2 h2879)) ht_f_from h2874 h2875 h2999 h2992 h2987 h2988 h2989) (vc_X12_addressRead_34 h2991 (h2985.2.1 (vc_X12_sign_2 h2992)) (h2985.2.2.1 (vc_X12_sign_2 h2992)) (h2985.2.2.2.1 (vc_X12_sign_2 h2992)) (h2985.2.2.2.2.2.2.1 (vc_X12_sign_2 h2992)) (h2859 (vc_X12_sign_2 h2879)) (h2864 (vc_X12_sign_2 h2879)) ht_f_from h2874 h2875 h2999 h2992 h2987 h2988 h2989) (vc_X12_addressRead_35 h2991 (h2985.2.1 (vc_X12_sign_2 h2992)) (h2985.2.2.1 (vc_X12_sign_2 h2992)) (h2985.2.2.2.1 (vc_X12_sign_2 h2992)) (h2985.2.2.2.2.1 (vc_X12_sign_2 h2992)) (h2985.2.2.2.2.2.2.1 (vc_X12_sign_2 h2992)) (h2859 (vc_X12_sign_2 h2879)) (h2864 (vc_X12_sign_2 h2879)) ht_f_from h2874 h2875 h2999 h2992 h2987 h2988 h2989 h2990)) (gOk _ _ _ _ _) dX12_addressRead_31 (tX12_sign _ _ _ _ _) ⟨wV_X12_sign, wL_X12_sign⟩ wM_X12_317 (gCX12 _ _ _ _ _) rfl (A_106 hw) rfl ⟨le_t rfl, le_t rfl⟩ ⟨le_t rfl, le_t rfl⟩ rfl (le_t rfl) fun μ3000 T3001 F3002 h3003 => ?_
            obtain ⟨z3004, z3006, z3008, z3010, z3012, q3005, q3007, q3009, q3011, q3013, h3014⟩ := h3003
            have h3015 : (0 ≤ z3004 ∧ z3004 ≤ 4) := by rw [← q3005]; exact T3001 106 106 (A_106 hw) 37
            have h3016 : (0 ≤ z3006 ∧ z3006 ≤ 1000) := by rw [← q3007]; exact T3001 106 106 (A_106 hw) 33
            have h3017 : (0 ≤ z3008 ∧ z3008 ≤ 1000) := by rw [← q3009]; exact T3001 106 106 (A_106 hw) 34
            have h3018 : (0 ≤ z3010 ∧ z3010 ≤ 3) := by rw [← q3011]; exact T3001 106 106 (A_106 hw) 35
            have h3019 : ((-2147483648) ≤ z3012 ∧ z3012 ≤ 2147483647) := by rw [← q3013]; exact T3001 106 106 (A_106 hw) 36
            by_cases h3020 : z3004 = 0
            · have h3021 : 0 ≤ z3004 ∧ z3004 ≤ 0 := (vc_X12_wrong_4 h3020 h3015)
              refine mr_iinc (pc := 34) (lv' := [(2, iv (z2850 + 1)), (1, iv z2994), (0, .ref 106)]) dX12_addressRead_34 rfl (by decide) rfl ?_
              refine sv_goto (pc := 37) (tgt := 4) dX12_addressRead_37 (by decide) ?_
              refine mr_lvS (lv' := [(0, .ref 106), (1, iv z2994), (2, iv (z2850 + 1))]) (List.forall_mem_cons.mpr ⟨rfl, List.forall_mem_cons.mpr ⟨rfl, List.forall_mem_cons.mpr ⟨rfl, fun _ h => absurd h List.not_mem_nil⟩⟩⟩) ?_
              exact ih2872 z2994 (z2850 + 1) μ3000 z3004 z3006 z3008 z3010 z3012 T3001 (mF.call (mF.call (mF.call mF.refl F2857 rfl) F2972 rfl) F3002 rfl) q3005 q3007 q3009 q3011 q3013 h2996 (rW (c := 0) (d := 4) (rAdd (e := 1) (f := 3) h2999 (rR (x := 1)) rfl) rfl) (vc_X12_addressRead_38 h3020 (h3014.1 (vc_X12_sign_2 h3021)) (h3014.2.2.2.2.2.1 (vc_X12_sign_2 h3021)) (h2985.2.1 (vc_X12_sign_2 h2992)) (h2985.2.2.2.2.2.2.1 (vc_X12_sign_2 h2992)) h2875 h2987 h2988 h3021 h3016 h3017) (vc_X12_addressRead_39 h3020 (h3014.1 (vc_X12_sign_2 h3021)) (h3014.2.1 (vc_X12_sign_2 h3021)) (h3014.2.2.1 (vc_X12_sign_2 h3021)) (h3014.2.2.2.2.2.1 (vc_X12_sign_2 h3021)) (h2985.2.1 (vc_X12_sign_2 h2992)) (h2985.2.2.2.2.2.2.1 (vc_X12_sign_2 h2992)) h2875 h2987 h2988 h3021 h3016 h3017 h3018) (vc_X12_addressRead_40 h3020 (h3014.1 (vc_X12_sign_2 h3021)) (h3014.2.1 (vc_X12_sign_2 h3021)) (h3014.2.2.1 (vc_X12_sign_2 h3021)) (h3014.2.2.2.2.2.1 (vc_X12_sign_2 h3021)) (h2985.2.1 (vc_X12_sign_2 h2992)) (h2985.2.2.2.2.2.2.1 (vc_X12_sign_2 h2992)) h2875 h2987 h2988 h3021 h3016 h3017 h3018) (vc_X12_addressRead_41 h3020 (h3014.1 (vc_X12_sign_2 h3021)) (h3014.2.1 (vc_X12_sign_2 h3021)) (h3014.2.2.1 (vc_X12_sign_2 h3021)) (h3014.2.2.2.1 (vc_X12_sign_2 h3021)) (h3014.2.2.2.2.2.1 (vc_X12_sign_2 h3021)) (h2985.2.1 (vc_X12_sign_2 h2992)) (h2985.2.2.2.2.2.2.1 (vc_X12_sign_2 h2992)) h2875 h2987 h2988 h3021 h3016 h3017 h3018 h3019) (vc_X12_within_13 h1952 h3020 h1953 h3021) (vc_X12_addressRead_43 (hq0 (vc_X12_sign_2 h1953)) (h2864 (vc_X12_sign_2 h2879)) h2964 h2997 h3020 (h3014.1 (vc_X12_sign_2 h3021)) (h3014.2.2.2.2.2.1 (vc_X12_sign_2 h3021)) (h2859 (vc_X12_sign_2 h2879)) (h2985.2.1 (vc_X12_sign_2 h2992)) (h2985.2.2.2.2.2.2.1 (vc_X12_sign_2 h2992)) ht_f_at ht_f_from h2874 h2875 h2999 h2987 h2988 h3021 h3016 h3017) (vc_X12_within_15 h1952 h3020 h1953 h3021) (vc_X12_addressRead_45 (nS h2866) (h2864 (vc_X12_sign_2 h2879)) h2964 h2997 (hq0 (vc_X12_sign_2 h1953)) (h2859 (vc_X12_sign_2 h2879)) (h2985.2.2.2.2.2.2.1 (vc_X12_sign_2 h2992)) ht_f_at ht_f_from h2874 h2875 h2999 h2988)
            have h3022 : 1 ≤ z3004 ∧ z3004 ≤ 4 := (vc_X12_wrong_1 h3020 h3015)
            refine mr_iinc (pc := 34) (lv' := [(2, iv (z2850 + 1)), (1, iv z2994), (0, .ref 106)]) dX12_addressRead_34 rfl (by decide) rfl ?_
            refine sv_goto (pc := 37) (tgt := 4) dX12_addressRead_37 (by decide) ?_
            refine mr_lvS (lv' := [(0, .ref 106), (1, iv z2994), (2, iv (z2850 + 1))]) (List.forall_mem_cons.mpr ⟨rfl, List.forall_mem_cons.mpr ⟨rfl, List.forall_mem_cons.mpr ⟨rfl, fun _ h => absurd h List.not_mem_nil⟩⟩⟩) ?_
            exact ih2872 z2994 (z2850 + 1) μ3000 z3004 z3006 z3008 z3010 z3012 T3001 (mF.call (mF.call (mF.call mF.refl F2857 rfl) F2972 rfl) F3002 rfl) q3005 q3007 q3009 q3011 q3013 h2996 (rW (c := 0) (d := 4) (rAdd (e := 1) (f := 3) h2999 (rR (x := 1)) rfl) rfl) (vc_X12_addressRead_47 h3020 h3022 h3016 h3017) (vc_X12_addressRead_48 h3020 h3022 h3016 h3017 h3018) (vc_X12_addressRead_49 h3020 h3022 h3016 h3017 h3018) (vc_X12_addressRead_50 h3020 h3022 h3016 h3017 h3018 h3019) (vc_X12_within_22 h1952 h3020 h1953 h3022) (vc_X12_addressRead_52 (hq0 (vc_X12_sign_2 h1953)) (h2864 (vc_X12_sign_2 h2879)) h2964 h2997 h3020 (h2859 (vc_X12_sign_2 h2879)) (h2985.2.2.2.2.2.2.1 (vc_X12_sign_2 h2992)) ht_f_at ht_f_from h2874 h2875 h2999 h2988 h3022 h3017) (vc_X12_within_24 h1952 h3020 h1953 h3022) (vc_X12_addressRead_45 (nS h2866) (h2864 (vc_X12_sign_2 h2879)) h2964 h2997 (hq0 (vc_X12_sign_2 h1953)) (h2859 (vc_X12_sign_2 h2879)) (h2985.2.2.2.2.2.2.1 (vc_X12_sign_2 h2992)) ht_f_at ht_f_from h2874 h2875 h2999 h2988)
          have h3023 : 1 ≤ z2975 ∧ z2975 ≤ 4 := (vc_X12_wrong_1 h2991 h2986)
          refine mr_ior (pc := 21) (x := z2967) (y := z2974) dX12_addressRead_21 ?_
          refine mr_gen (P := fun z => (-2147483648) ≤ z ∧ z ≤ 2147483647) (r32i _) fun z3024 q3025 h3026 => ?_
          refine mr_istore_n (pc := 22) (lv' := [(1, iv z3024), (0, .ref 106), (2, iv z2850)]) dX12_addressRead_22 rfl (by decide) rfl ?_
          refine mr_iload_n (pc := 23) (z := z2850) dX12_addressRead_23 rfl rfl ?_
          refine mr_iconst (pc := 24) (z := 3) dX12_addressRead_24 ?_
          refine mr_icmp_ge (pc := 25) (tgt := 34) dX12_addressRead_25 (by decide) (r32 h2966 rfl) (r32 (rR (x := 3)) rfl) (fun h3050 => ?_) (fun h3050 => ?_)
          · have h3051 : 3 ≤ z2850 ∧ z2850 ≤ 3 := (vc_X12_addressRead_22 h3050 (h2864 (vc_X12_sign_2 h2879)) h2964 ht_f_from h2875 h2966)
            refine mr_iinc (pc := 34) (lv' := [(2, iv (z2850 + 1)), (1, iv z3024), (0, .ref 106)]) dX12_addressRead_34 rfl (by decide) rfl ?_
            refine sv_goto (pc := 37) (tgt := 4) dX12_addressRead_37 (by decide) ?_
            refine mr_lvS (lv' := [(0, .ref 106), (1, iv z3024), (2, iv (z2850 + 1))]) (List.forall_mem_cons.mpr ⟨rfl, List.forall_mem_cons.mpr ⟨rfl, List.forall_mem_cons.mpr ⟨rfl, fun _ h => absurd h List.not_mem_nil⟩⟩⟩) ?_
            exact ih2872 z3024 (z2850 + 1) μ2970 z2975 z2977 z2979 z2981 z2983 T2971 (mF.call (mF.call mF.refl F2857 rfl) F2972 rfl) q2976 q2978 q2980 q2982 q2984 h3026 (rW (c := 0) (d := 4) (rAdd (e := 4) (f := 4) h3051 (rR (x := 1)) rfl) rfl) (vc_X12_addressRead_47 h2991 h3023 h2987 h2988) (vc_X12_addressRead_48 h2991 h3023 h2987 h2988 h2989) (vc_X12_addressRead_49 h2991 h3023 h2987 h2988 h2989) (vc_X12_addressRead_50 h2991 h3023 h2987 h2988 h2989 h2990) (vc_X12_within_22 h1952 h2991 h1953 h3023) (vc_X12_addressRead_60 (hq0 (vc_X12_sign_2 h1953)) (h2864 (vc_X12_sign_2 h2879)) h2964 h2991 h3050 (h2859 (vc_X12_sign_2 h2879)) ht_f_at ht_f_from h2874 h2875 h3051 h3023 h2988) (vc_X12_within_24 h1952 h2991 h1953 h3023) (vc_X12_addressRead_62 (nS h2866) (h2864 (vc_X12_sign_2 h2879)) h2964 h3050 (hq0 (vc_X12_sign_2 h1953)) (h2859 (vc_X12_sign_2 h2879)) ht_f_at ht_f_from h2874 h2875 h3051)
          have h3052 : 0 ≤ z2850 ∧ z2850 ≤ 2 := (vc_X12_addressRead_31 h3050 (h2864 (vc_X12_sign_2 h2879)) h2964 ht_f_from h2875 h2966)
          refine sv_aload_n (pc := 28) dX12_addressRead_28 rfl rfl ?_
          refine mr_bipush (pc := 29) (z := 46) dX12_addressRead_29 (by decide) ?_
          refine mr_cVV (pc := 31) (c_X12_sign hw T2971 (rW (c := (-2147483648)) (d := 2147483647) (rR (x := 46)) rfl) q2976 q2978 q2980 q2982 q2984 (vc_X12_addressRead_47 h2991 h3023 h2987 h2988) (vc_X12_addressRead_48 h2991 h3023 h2987 h2988 h2989) (vc_X12_addressRead_49 h2991 h3023 h2987 h2988 h2989) (vc_X12_addressRead_50 h2991 h3023 h2987 h2988 h2989 h2990)) (gOk _ _ _ _ _) dX12_addressRead_31 (tX12_sign _ _ _ _ _) ⟨wV_X12_sign, wL_X12_sign⟩ wM_X12_317 (gCX12 _ _ _ _ _) rfl (A_106 hw) rfl ⟨le_t rfl, le_t rfl⟩ ⟨le_t rfl, le_t rfl⟩ rfl (le_t rfl) fun μ3053 T3054 F3055 h3056 => ?_
          obtain ⟨z3057, z3059, z3061, z3063, z3065, q3058, q3060, q3062, q3064, q3066, h3067⟩ := h3056
          have h3068 : (0 ≤ z3057 ∧ z3057 ≤ 4) := by rw [← q3058]; exact T3054 106 106 (A_106 hw) 37
          have h3069 : (0 ≤ z3059 ∧ z3059 ≤ 1000) := by rw [← q3060]; exact T3054 106 106 (A_106 hw) 33
          have h3070 : (0 ≤ z3061 ∧ z3061 ≤ 1000) := by rw [← q3062]; exact T3054 106 106 (A_106 hw) 34
          have h3071 : (0 ≤ z3063 ∧ z3063 ≤ 3) := by rw [← q3064]; exact T3054 106 106 (A_106 hw) 35
          have h3072 : ((-2147483648) ≤ z3065 ∧ z3065 ≤ 2147483647) := by rw [← q3066]; exact T3054 106 106 (A_106 hw) 36
          have h3073 : 1 ≤ z3057 ∧ z3057 ≤ 4 := (vc_X12_next_128 (h3067.2.2.2.2.2.2.1.resolve_left (vc_X12_sign_27 h3023)) h3068)
          refine mr_iinc (pc := 34) (lv' := [(2, iv (z2850 + 1)), (1, iv z3024), (0, .ref 106)]) dX12_addressRead_34 rfl (by decide) rfl ?_
          refine sv_goto (pc := 37) (tgt := 4) dX12_addressRead_37 (by decide) ?_
          refine mr_lvS (lv' := [(0, .ref 106), (1, iv z3024), (2, iv (z2850 + 1))]) (List.forall_mem_cons.mpr ⟨rfl, List.forall_mem_cons.mpr ⟨rfl, List.forall_mem_cons.mpr ⟨rfl, fun _ h => absurd h List.not_mem_nil⟩⟩⟩) ?_
          exact ih2872 z3024 (z2850 + 1) μ3053 z3057 z3059 z3061 z3063 z3065 T3054 (mF.call (mF.call (mF.call mF.refl F2857 rfl) F2972 rfl) F3055 rfl) q3058 q3060 q3062 q3064 q3066 h3026 (rW (c := 0) (d := 4) (rAdd (e := 1) (f := 3) h3052 (rR (x := 1)) rfl) rfl) (vc_X12_addressRead_65 h3067.1 (h3067.2.2.2.2.2.2.1.resolve_left (vc_X12_sign_27 h3023)) h2991 h3023 h3073 h3069 h3070) (vc_X12_addressRead_66 h3067.1 h3067.2.1 h3067.2.2.1 (h3067.2.2.2.2.2.2.1.resolve_left (vc_X12_sign_27 h3023)) h2991 h3023 h3073 h3069 h3070 h3071) (vc_X12_addressRead_67 h3067.1 h3067.2.1 h3067.2.2.1 (h3067.2.2.2.2.2.2.1.resolve_left (vc_X12_sign_27 h3023)) h2991 h3023 h3073 h3069 h3070 h3071) (vc_X12_addressRead_68 h3067.1 h3067.2.1 h3067.2.2.1 h3067.2.2.2.1 (h3067.2.2.2.2.2.2.1.resolve_left (vc_X12_sign_27 h3023)) h2991 h3023 h3073 h3069 h3070 h3071 h3072) (vc_X12_addressRead_69 h1952 (h3067.2.2.2.2.2.2.1.resolve_left (vc_X12_sign_27 h3023)) h2991 h1953 h3023 h3073) (vc_X12_addressRead_70 (hq0 (vc_X12_sign_2 h1953)) (h2864 (vc_X12_sign_2 h2879)) h2964 h3050 (h3067.2.2.2.2.2.2.1.resolve_left (vc_X12_sign_27 h3023)) (h2859 (vc_X12_sign_2 h2879)) h2991 ht_f_at ht_f_from h2874 h2875 h3052 h3023 h3073 h3070) (vc_X12_addressRead_71 h1952 (h3067.2.2.2.2.2.2.1.resolve_left (vc_X12_sign_27 h3023)) h2991 h1953 h3023 h3073) (vc_X12_addressRead_72 (nS h2866) (h2864 (vc_X12_sign_2 h2879)) h2964 h3050 (hq0 (vc_X12_sign_2 h1953)) (h2859 (vc_X12_sign_2 h2879)) ht_f_at ht_f_from h2874 h2875 h3052)
        have h3074 : 1 ≤ f_lc ∧ f_lc ≤ 4 := (vc_X12_wrong_1 h2878 h2873)
        refine mr_iconst (pc := 5) (z := 4) dX12_addressRead_5 ?_
        refine mr_icmp_ge (pc := 6) (tgt := 40) dX12_addressRead_6 (by decide) (r32 h2855 rfl) (r32 (rR (x := 4)) rfl) (fun h3128 => ?_) (fun h3128 => ?_)
        · have h3129 : 4 ≤ z2850 ∧ z2850 ≤ 4 := (vc_X12_addressRead_74 h3128 h2855)
          refine mr_iload_n (pc := 40) (z := z2851) dX12_addressRead_40 rfl rfl ?_
          exact mr_iret dX12_addressRead_41 rfl (le_t rfl) (le_t rfl) T2856 (mF.call mF.refl F2857 rfl) ⟨f_lc, f_la, f_lf, f_lt, f_ln, q2867, q2868, q2869, q2870, q2871, h2854, (vc_X12_next_485 h2878 h2874 h3074 h2875), (vc_X12_next_486 h2878 h2874 h3074 h2875 h2876), (vc_X12_next_487 h2878 h2874 h3074 h2875 h2876), (vc_X12_addressRead_78 h2878 h2874 h3074 h2875 h2877 h2876), (vc_X12_within_22 h1952 h2878 h1953 h3074), (vc_X12_addressRead_80 (hq0 (vc_X12_sign_2 h1953)) h2878 ht_f_at ht_f_from h3074 h2875), (vc_X12_within_24 h1952 h2878 h1953 h3074), trivial⟩
        have h3130 : 0 ≤ z2850 ∧ z2850 ≤ 3 := (vc_X12_addressRead_82 h3128 h2855)
        refine mr_iload_n (pc := 9) (z := z2851) dX12_addressRead_9 rfl rfl ?_
        refine mr_bipush (pc := 10) (z := 8) dX12_addressRead_10 (by decide) ?_
        refine mr_ishl (pc := 12) (x := z2851) (y := 8) dX12_addressRead_12 ?_
        refine mr_gen (P := fun z => (-2147483648) ≤ z ∧ z ≤ 2147483647) (r32i _) fun z3131 q3132 h3133 => ?_
        refine sv_aload_n (pc := 13) dX12_addressRead_13 rfl rfl ?_
        refine mr_iconst (pc := 14) (z := 0) dX12_addressRead_14 ?_
        refine mr_sipush (pc := 15) (z := 255) dX12_addressRead_15 (by decide) ?_
        refine mr_cVI (pc := 18) (c_X12_within hw T2856 (rW (c := (-2147483648)) (d := 2147483647) (rR (x := 0)) rfl) (rW (c := (-2147483648)) (d := 2147483647) (rR (x := 255)) rfl) q2867 q2868 q2869 q2870 q2871 (vc_X12_next_485 h2878 h2874 h3074 h2875) (vc_X12_next_486 h2878 h2874 h3074 h2875 h2876) (vc_X12_next_487 h2878 h2874 h3074 h2875 h2876) (vc_X12_addressRead_78 h2878 h2874 h3074 h2875 h2877 h2876)) (gOk _ _ _ _ _) dX12_addressRead_18 (tX12_within _ _ _ _ _) ⟨wV_X12_within, wL_X12_within⟩ wM_X12_314 (gCX12 _ _ _ _ _) rfl (A_106 hw) rfl ⟨le_t rfl, le_t rfl⟩ ⟨le_t rfl, le_t rfl⟩ rfl (le_t rfl) fun z3138 μ3134 T3135 F3136 h3137 => ?_
        obtain ⟨z3139, z3141, z3143, z3145, z3147, q3140, q3142, q3144, q3146, q3148, h3149⟩ := h3137
        have h3150 : (0 ≤ z3139 ∧ z3139 ≤ 4) := by rw [← q3140]; exact T3135 106 106 (A_106 hw) 37
        have h3151 : (0 ≤ z3141 ∧ z3141 ≤ 1000) := by rw [← q3142]; exact T3135 106 106 (A_106 hw) 33
        have h3152 : (0 ≤ z3143 ∧ z3143 ≤ 1000) := by rw [← q3144]; exact T3135 106 106 (A_106 hw) 34
        have h3153 : (0 ≤ z3145 ∧ z3145 ≤ 3) := by rw [← q3146]; exact T3135 106 106 (A_106 hw) 35
        have h3154 : ((-2147483648) ≤ z3147 ∧ z3147 ≤ 2147483647) := by rw [← q3148]; exact T3135 106 106 (A_106 hw) 36
        have h3155 : 1 ≤ z3139 ∧ z3139 ≤ 4 := (vc_X12_next_128 (h3149.2.2.2.2.2.2.2.1.resolve_left (vc_X12_sign_27 h3074)) h3150)
        refine mr_ior (pc := 21) (x := z3131) (y := z3138) dX12_addressRead_21 ?_
        refine mr_gen (P := fun z => (-2147483648) ≤ z ∧ z ≤ 2147483647) (r32i _) fun z3156 q3157 h3158 => ?_
        refine mr_istore_n (pc := 22) (lv' := [(1, iv z3156), (0, .ref 106), (2, iv z2850)]) dX12_addressRead_22 rfl (by decide) rfl ?_
        refine mr_iload_n (pc := 23) (z := z2850) dX12_addressRead_23 rfl rfl ?_
        refine mr_iconst (pc := 24) (z := 3) dX12_addressRead_24 ?_
        refine mr_icmp_ge (pc := 25) (tgt := 34) dX12_addressRead_25 (by decide) (r32 h3130 rfl) (r32 (rR (x := 3)) rfl) (fun h3182 => ?_) (fun h3182 => ?_)
        · have h3183 : 3 ≤ z2850 ∧ z2850 ≤ 3 := (vc_X12_addressRead_85 h3182 h3128 h3130)
          refine mr_iinc (pc := 34) (lv' := [(2, iv (z2850 + 1)), (1, iv z3156), (0, .ref 106)]) dX12_addressRead_34 rfl (by decide) rfl ?_
          refine sv_goto (pc := 37) (tgt := 4) dX12_addressRead_37 (by decide) ?_
          refine mr_lvS (lv' := [(0, .ref 106), (1, iv z3156), (2, iv (z2850 + 1))]) (List.forall_mem_cons.mpr ⟨rfl, List.forall_mem_cons.mpr ⟨rfl, List.forall_mem_cons.mpr ⟨rfl, fun _ h => absurd h List.not_mem_nil⟩⟩⟩) ?_
          exact ih2872 z3156 (z2850 + 1) μ3134 z3139 z3141 z3143 z3145 z3147 T3135 (mF.call (mF.call mF.refl F2857 rfl) F3136 rfl) q3140 q3142 q3144 q3146 q3148 h3158 (rW (c := 0) (d := 4) (rAdd (e := 4) (f := 4) h3183 (rR (x := 1)) rfl) rfl) (vc_X12_addressRead_86 (h3149.2.2.2.2.2.2.2.1.resolve_left (vc_X12_sign_27 h3074)) h3155 h3151 h3152) (vc_X12_addressRead_87 (h3149.2.2.2.2.2.2.2.1.resolve_left (vc_X12_sign_27 h3074)) h3155 h3151 h3152 h3153) (vc_X12_addressRead_88 (h3149.2.2.2.2.2.2.2.1.resolve_left (vc_X12_sign_27 h3074)) h3155 h3151 h3152 h3153) (vc_X12_addressRead_89 (h3149.2.2.2.2.2.2.2.1.resolve_left (vc_X12_sign_27 h3074)) h3155 h3151 h3152 h3153 h3154) (vc_X12_addressRead_90 h1952 (h3149.2.2.2.2.2.2.2.1.resolve_left (vc_X12_sign_27 h3074)) h1953 h3155) (vc_X12_addressRead_91 (hq0 (vc_X12_sign_2 h1953)) h3128 (h3149.2.2.2.2.2.2.2.1.resolve_left (vc_X12_sign_27 h3074)) h3182 ht_f_at ht_f_from h3183 h3155 h3152) (vc_X12_addressRead_92 h1952 (h3149.2.2.2.2.2.2.2.1.resolve_left (vc_X12_sign_27 h3074)) h1953 h3155) (vc_X12_addressRead_93 (nS h2866) h3128 h3182 h3183)
        have h3184 : 0 ≤ z2850 ∧ z2850 ≤ 2 := (vc_X12_addressRead_94 h3182 h3128 h3130)
        refine sv_aload_n (pc := 28) dX12_addressRead_28 rfl rfl ?_
        refine mr_bipush (pc := 29) (z := 46) dX12_addressRead_29 (by decide) ?_
        refine mr_cVV (pc := 31) (c_X12_sign hw T3135 (rW (c := (-2147483648)) (d := 2147483647) (rR (x := 46)) rfl) q3140 q3142 q3144 q3146 q3148 (vc_X12_addressRead_86 (h3149.2.2.2.2.2.2.2.1.resolve_left (vc_X12_sign_27 h3074)) h3155 h3151 h3152) (vc_X12_addressRead_87 (h3149.2.2.2.2.2.2.2.1.resolve_left (vc_X12_sign_27 h3074)) h3155 h3151 h3152 h3153) (vc_X12_addressRead_88 (h3149.2.2.2.2.2.2.2.1.resolve_left (vc_X12_sign_27 h3074)) h3155 h3151 h3152 h3153) (vc_X12_addressRead_89 (h3149.2.2.2.2.2.2.2.1.resolve_left (vc_X12_sign_27 h3074)) h3155 h3151 h3152 h3153 h3154)) (gOk _ _ _ _ _) dX12_addressRead_31 (tX12_sign _ _ _ _ _) ⟨wV_X12_sign, wL_X12_sign⟩ wM_X12_317 (gCX12 _ _ _ _ _) rfl (A_106 hw) rfl ⟨le_t rfl, le_t rfl⟩ ⟨le_t rfl, le_t rfl⟩ rfl (le_t rfl) fun μ3185 T3186 F3187 h3188 => ?_
        obtain ⟨z3189, z3191, z3193, z3195, z3197, q3190, q3192, q3194, q3196, q3198, h3199⟩ := h3188
        have h3200 : (0 ≤ z3189 ∧ z3189 ≤ 4) := by rw [← q3190]; exact T3186 106 106 (A_106 hw) 37
        have h3201 : (0 ≤ z3191 ∧ z3191 ≤ 1000) := by rw [← q3192]; exact T3186 106 106 (A_106 hw) 33
        have h3202 : (0 ≤ z3193 ∧ z3193 ≤ 1000) := by rw [← q3194]; exact T3186 106 106 (A_106 hw) 34
        have h3203 : (0 ≤ z3195 ∧ z3195 ≤ 3) := by rw [← q3196]; exact T3186 106 106 (A_106 hw) 35
        have h3204 : ((-2147483648) ≤ z3197 ∧ z3197 ≤ 2147483647) := by rw [← q3198]; exact T3186 106 106 (A_106 hw) 36
        have h3205 : 1 ≤ z3189 ∧ z3189 ≤ 4 := (vc_X12_next_128 (h3199.2.2.2.2.2.2.1.resolve_left (vc_X12_sign_27 h3155)) h3200)
        refine mr_iinc (pc := 34) (lv' := [(2, iv (z2850 + 1)), (1, iv z3156), (0, .ref 106)]) dX12_addressRead_34 rfl (by decide) rfl ?_
        refine sv_goto (pc := 37) (tgt := 4) dX12_addressRead_37 (by decide) ?_
        refine mr_lvS (lv' := [(0, .ref 106), (1, iv z3156), (2, iv (z2850 + 1))]) (List.forall_mem_cons.mpr ⟨rfl, List.forall_mem_cons.mpr ⟨rfl, List.forall_mem_cons.mpr ⟨rfl, fun _ h => absurd h List.not_mem_nil⟩⟩⟩) ?_
        exact ih2872 z3156 (z2850 + 1) μ3185 z3189 z3191 z3193 z3195 z3197 T3186 (mF.call (mF.call (mF.call mF.refl F2857 rfl) F3136 rfl) F3187 rfl) q3190 q3192 q3194 q3196 q3198 h3158 (rW (c := 0) (d := 4) (rAdd (e := 1) (f := 3) h3184 (rR (x := 1)) rfl) rfl) (vc_X12_addressRead_97 h3199.1 (h3199.2.2.2.2.2.2.1.resolve_left (vc_X12_sign_27 h3155)) (h3149.2.2.2.2.2.2.2.1.resolve_left (vc_X12_sign_27 h3074)) h3155 h3205 h3201 h3202) (vc_X12_addressRead_98 h3199.1 h3199.2.1 h3199.2.2.1 (h3199.2.2.2.2.2.2.1.resolve_left (vc_X12_sign_27 h3155)) (h3149.2.2.2.2.2.2.2.1.resolve_left (vc_X12_sign_27 h3074)) h3155 h3205 h3201 h3202 h3203) (vc_X12_addressRead_99 h3199.1 h3199.2.1 h3199.2.2.1 (h3199.2.2.2.2.2.2.1.resolve_left (vc_X12_sign_27 h3155)) (h3149.2.2.2.2.2.2.2.1.resolve_left (vc_X12_sign_27 h3074)) h3155 h3205 h3201 h3202 h3203) (vc_X12_addressRead_100 h3199.1 h3199.2.1 h3199.2.2.1 h3199.2.2.2.1 (h3199.2.2.2.2.2.2.1.resolve_left (vc_X12_sign_27 h3155)) (h3149.2.2.2.2.2.2.2.1.resolve_left (vc_X12_sign_27 h3074)) h3155 h3205 h3201 h3202 h3203 h3204) (vc_X12_sign_33 h1952 (h3199.2.2.2.2.2.2.1.resolve_left (vc_X12_sign_27 h3155)) (h3149.2.2.2.2.2.2.2.1.resolve_left (vc_X12_sign_27 h3074)) h1953 h3155 h3205) (vc_X12_addressRead_102 (hq0 (vc_X12_sign_2 h1953)) h3128 h3182 (h3199.2.2.2.2.2.2.1.resolve_left (vc_X12_sign_27 h3155)) (h3149.2.2.2.2.2.2.2.1.resolve_left (vc_X12_sign_27 h3074)) ht_f_at ht_f_from h3184 h3155 h3205 h3202) (vc_X12_sign_35 h1952 (h3199.2.2.2.2.2.2.1.resolve_left (vc_X12_sign_27 h3155)) (h3149.2.2.2.2.2.2.2.1.resolve_left (vc_X12_sign_27 h3074)) h1953 h3155 h3205) (vc_X12_addressRead_104 (nS h2866) h3128 h3182 h3184)
    refine mr_lvS (lv' := [(0, .ref 106), (1, iv 0), (2, iv 0)]) (List.forall_mem_cons.mpr ⟨rfl, List.forall_mem_cons.mpr ⟨rfl, List.forall_mem_cons.mpr ⟨rfl, fun _ h => absurd h List.not_mem_nil⟩⟩⟩) ?_
    exact L2853 6 0 0 μ f_code f_at f_from f_type f_number hT mF.refl q_f_code q_f_at q_f_from q_f_type q_f_number (rW (c := (-2147483648)) (d := 2147483647) (rR (x := 0)) rfl) (rW (c := 0) (d := 4) (rR (x := 0)) rfl) (vc_X12_addressRead_105 h1952 (hq0 (vc_X12_sign_2 h1953)) ht_f_at h1953 ht_f_from) (vc_X12_addressRead_106 h1952 (hq0 (vc_X12_sign_2 h1953)) (hq1 (vc_X12_sign_2 h1953)) (hq2 (vc_X12_sign_2 h1953)) ht_f_at h1953 ht_f_from ht_f_type) (vc_X12_addressRead_107 h1952 (hq0 (vc_X12_sign_2 h1953)) (hq1 (vc_X12_sign_2 h1953)) (hq2 (vc_X12_sign_2 h1953)) ht_f_at h1953 ht_f_from ht_f_type) (vc_X12_addressRead_108 h1952 (hq0 (vc_X12_sign_2 h1953)) (hq1 (vc_X12_sign_2 h1953)) (hq2 (vc_X12_sign_2 h1953)) (hq3 (vc_X12_sign_2 h1953)) ht_f_at h1953 ht_f_from ht_f_number ht_f_type) (vc_X12_next_14 h1952 h1953) (vc_X12_addressRead_110 h1952 (hq0 (vc_X12_sign_2 h1953)) ht_f_at h1953 ht_f_from) (vc_X12_next_15 h1952 h1953) vc_X12_prefixOut_14
  have h3206 : 1 ≤ f_code ∧ f_code ≤ 4 := (vc_X12_wrong_1 h1952 ht_f_code)
  refine mr_iconst (pc := 0) (z := 0) dX12_addressRead_0 ?_
  refine mr_istore_n (pc := 1) (lv' := [(1, iv 0), (0, .ref 106)]) dX12_addressRead_1 rfl (by decide) rfl ?_
  refine mr_iconst (pc := 2) (z := 0) dX12_addressRead_2 ?_
  refine mr_istore_n (pc := 3) (lv' := [(2, iv 0), (1, iv 0), (0, .ref 106)]) dX12_addressRead_3 rfl (by decide) rfl ?_
  have L3622 : ∀ (nL3622 : Nat) (z3620 z3619 : Int) (μ3621 : mM) (f_lc : Int) (f_la : Int) (f_lf : Int) (f_lt : Int) (f_ln : Int), mT w μ3621 → mF [106033, 106034, 106035, 106036, 106037, 106038] w μ μ3621 → μ3621 106 (37) = f_lc → μ3621 106 (33) = f_la → μ3621 106 (34) = f_lf → μ3621 106 (35) = f_lt → μ3621 106 (36) = f_ln → ((-2147483648) ≤ z3620 ∧ z3620 ≤ 2147483647) → (0 ≤ z3619 ∧ z3619 ≤ 4) → (f_lc = 0 → f_lf ≤ f_la) → (f_lc = 0 → f_lt = 0 ∨ f_lf + 1 ≤ f_la) → (f_lc = 0 → f_lt = 1 → f_lf + 2 ≤ f_la) → (f_lc = 0 → f_lt = 1 → f_ln = 0 ∨ f_ln = 4 ∨ f_ln = 5 ∨ f_lf + 3 ≤ f_la) → (f_lc = 0 → f_code = 0) → (f_lc = 0 → f_from + z3619 ≤ f_lf) → (f_code = 0 ∨ 1 ≤ f_lc) → (5 - z3619) < (nL3622 : Int) → sV (gG l D c H0 sa) mX12_addressRead (sRm 4 0 0) (sZ (gG l D c H0 sa) 0 0 (qI w [106033, 106034, 106035, 106036, 106037, 106038] μ (fun z μ1 => ∃ o_code o_at o_from o_type o_number : Int, μ1 106 37 = o_code ∧ μ1 106 33 = o_at ∧ μ1 106 34 = o_from ∧ μ1 106 35 = o_type ∧ μ1 106 36 = o_number ∧ ((-2147483648) ≤ z ∧ z ≤ 2147483647) ∧ (o_code = 0 → o_from ≤ o_at) ∧ (o_code = 0 → o_type = 0 ∨ o_from + 1 ≤ o_at) ∧ (o_code = 0 → o_type = 1 → o_from + 2 ≤ o_at) ∧ (o_code = 0 → o_type = 1 → o_number = 0 ∨ o_number = 4 ∨ o_number = 5 ∨ o_from + 3 ≤ o_at) ∧ (o_code = 0 → f_code = 0) ∧ (o_code = 0 → f_from + 4 ≤ o_from) ∧ (f_code = 0 ∨ 1 ≤ o_code) ∧ True))) 4 [(0, .ref 106), (1, iv z3620), (2, iv z3619)] [] (mk w μ3621) 0 0 := by
    intro nL3622
    induction nL3622 with
    | zero => intro z3620 z3619 μ3621 f_lc f_la f_lf f_lt f_ln T3625 F3626 q3636 q3637 q3638 q3639 q3640 h3623 h3624 h3628 h3629 h3630 h3631 h3632 h3633 h3634 h3635; exact ((vc_X3_putPrefix_2 h3635 h3624)).elim
    | succ nL3622 ih3641 =>
      intro z3620 z3619 μ3621 f_lc f_la f_lf f_lt f_ln T3625 F3626 q3636 q3637 q3638 q3639 q3640 h3623 h3624 h3628 h3629 h3630 h3631 h3632 h3633 h3634 h3635
      have h3642 : (0 ≤ f_lc ∧ f_lc ≤ 4) := by rw [← q3636]; exact T3625 106 106 (A_106 hw) (37)
      have h3643 : (0 ≤ f_la ∧ f_la ≤ 1000) := by rw [← q3637]; exact T3625 106 106 (A_106 hw) (33)
      have h3644 : (0 ≤ f_lf ∧ f_lf ≤ 1000) := by rw [← q3638]; exact T3625 106 106 (A_106 hw) (34)
      have h3645 : (0 ≤ f_lt ∧ f_lt ≤ 3) := by rw [← q3639]; exact T3625 106 106 (A_106 hw) (35)
      have h3646 : ((-2147483648) ≤ f_ln ∧ f_ln ≤ 2147483647) := by rw [← q3640]; exact T3625 106 106 (A_106 hw) (36)
      refine mr_iload_n (pc := 4) (z := z3619) dX12_addressRead_4 rfl rfl ?_
      by_cases h3647 : f_lc = 0
      · have h3648 : 0 ≤ f_lc ∧ f_lc ≤ 0 := (vc_X12_wrong_4 h3647 h3642)
        exact ((vc_X12_addressRead_116 h1952 h3647 (h3632 (vc_X12_sign_2 h3648)) h3206 h3648)).elim
      have h3649 : 1 ≤ f_lc ∧ f_lc ≤ 4 := (vc_X12_wrong_1 h3647 h3642)
      refine mr_iconst (pc := 5) (z := 4) dX12_addressRead_5 ?_
      refine mr_icmp_ge (pc := 6) (tgt := 40) dX12_addressRead_6 (by decide) (r32 h3624 rfl) (r32 (rR (x := 4)) rfl) (fun h3703 => ?_) (fun h3703 => ?_)
      · have h3704 : 4 ≤ z3619 ∧ z3619 ≤ 4 := (vc_X12_addressRead_74 h3703 h3624)
        refine mr_iload_n (pc := 40) (z := z3620) dX12_addressRead_40 rfl rfl ?_
        exact mr_iret dX12_addressRead_41 rfl (le_t rfl) (le_t rfl) T3625 (mF.call mF.refl F3626 rfl) ⟨f_lc, f_la, f_lf, f_lt, f_ln, q3636, q3637, q3638, q3639, q3640, h3623, (vc_X12_addressRead_118 h3647 (h3634.resolve_left (vc_X12_sign_27 h3206)) h3643 h3649 h3644), (vc_X12_addressRead_119 h3647 (h3634.resolve_left (vc_X12_sign_27 h3206)) h3643 h3649 h3644 h3645), (vc_X12_addressRead_120 h3647 (h3634.resolve_left (vc_X12_sign_27 h3206)) h3643 h3649 h3644 h3645), (vc_X12_addressRead_121 h3647 (h3634.resolve_left (vc_X12_sign_27 h3206)) h3643 h3649 h3644 h3646 h3645), (vc_X12_addressRead_122 h1952 h3647 (h3634.resolve_left (vc_X12_sign_27 h3206)) h3206 h3649), (vc_X12_addressRead_123 h3647 (h3634.resolve_left (vc_X12_sign_27 h3206)) ht_f_from h3649 h3644), (vc_X12_addressRead_124 h1952 h3647 (h3634.resolve_left (vc_X12_sign_27 h3206)) h3206 h3649), trivial⟩
      have h3705 : 0 ≤ z3619 ∧ z3619 ≤ 3 := (vc_X12_addressRead_82 h3703 h3624)
      refine mr_iload_n (pc := 9) (z := z3620) dX12_addressRead_9 rfl rfl ?_
      refine mr_bipush (pc := 10) (z := 8) dX12_addressRead_10 (by decide) ?_
      refine mr_ishl (pc := 12) (x := z3620) (y := 8) dX12_addressRead_12 ?_
      refine mr_gen (P := fun z => (-2147483648) ≤ z ∧ z ≤ 2147483647) (r32i _) fun z3706 q3707 h3708 => ?_
      refine sv_aload_n (pc := 13) dX12_addressRead_13 rfl rfl ?_
      refine mr_iconst (pc := 14) (z := 0) dX12_addressRead_14 ?_
      refine mr_sipush (pc := 15) (z := 255) dX12_addressRead_15 (by decide) ?_
      refine mr_cVI (pc := 18) (c_X12_within hw T3625 (rW (c := (-2147483648)) (d := 2147483647) (rR (x := 0)) rfl) (rW (c := (-2147483648)) (d := 2147483647) (rR (x := 255)) rfl) q3636 q3637 q3638 q3639 q3640 (vc_X12_addressRead_118 h3647 (h3634.resolve_left (vc_X12_sign_27 h3206)) h3643 h3649 h3644) (vc_X12_addressRead_119 h3647 (h3634.resolve_left (vc_X12_sign_27 h3206)) h3643 h3649 h3644 h3645) (vc_X12_addressRead_120 h3647 (h3634.resolve_left (vc_X12_sign_27 h3206)) h3643 h3649 h3644 h3645) (vc_X12_addressRead_121 h3647 (h3634.resolve_left (vc_X12_sign_27 h3206)) h3643 h3649 h3644 h3646 h3645)) (gOk _ _ _ _ _) dX12_addressRead_18 (tX12_within _ _ _ _ _) ⟨wV_X12_within, wL_X12_within⟩ wM_X12_314 (gCX12 _ _ _ _ _) rfl (A_106 hw) rfl ⟨le_t rfl, le_t rfl⟩ ⟨le_t rfl, le_t rfl⟩ rfl (le_t rfl) fun z3713 μ3709 T3710 F3711 h3712 => ?_
      obtain ⟨z3714, z3716, z3718, z3720, z3722, q3715, q3717, q3719, q3721, q3723, h3724⟩ := h3712
      have h3725 : (0 ≤ z3714 ∧ z3714 ≤ 4) := by rw [← q3715]; exact T3710 106 106 (A_106 hw) 37
      have h3726 : (0 ≤ z3716 ∧ z3716 ≤ 1000) := by rw [← q3717]; exact T3710 106 106 (A_106 hw) 33
      have h3727 : (0 ≤ z3718 ∧ z3718 ≤ 1000) := by rw [← q3719]; exact T3710 106 106 (A_106 hw) 34
      have h3728 : (0 ≤ z3720 ∧ z3720 ≤ 3) := by rw [← q3721]; exact T3710 106 106 (A_106 hw) 35
      have h3729 : ((-2147483648) ≤ z3722 ∧ z3722 ≤ 2147483647) := by rw [← q3723]; exact T3710 106 106 (A_106 hw) 36
      have h3730 : 1 ≤ z3714 ∧ z3714 ≤ 4 := (vc_X12_next_128 (h3724.2.2.2.2.2.2.2.1.resolve_left (vc_X12_sign_27 h3649)) h3725)
      refine mr_ior (pc := 21) (x := z3706) (y := z3713) dX12_addressRead_21 ?_
      refine mr_gen (P := fun z => (-2147483648) ≤ z ∧ z ≤ 2147483647) (r32i _) fun z3731 q3732 h3733 => ?_
      refine mr_istore_n (pc := 22) (lv' := [(1, iv z3731), (0, .ref 106), (2, iv z3619)]) dX12_addressRead_22 rfl (by decide) rfl ?_
      refine mr_iload_n (pc := 23) (z := z3619) dX12_addressRead_23 rfl rfl ?_
      refine mr_iconst (pc := 24) (z := 3) dX12_addressRead_24 ?_
      refine mr_icmp_ge (pc := 25) (tgt := 34) dX12_addressRead_25 (by decide) (r32 h3705 rfl) (r32 (rR (x := 3)) rfl) (fun h3757 => ?_) (fun h3757 => ?_)
      · have h3758 : 3 ≤ z3619 ∧ z3619 ≤ 3 := (vc_X12_addressRead_85 h3757 h3703 h3705)
        refine mr_iinc (pc := 34) (lv' := [(2, iv (z3619 + 1)), (1, iv z3731), (0, .ref 106)]) dX12_addressRead_34 rfl (by decide) rfl ?_
        refine sv_goto (pc := 37) (tgt := 4) dX12_addressRead_37 (by decide) ?_
        refine mr_lvS (lv' := [(0, .ref 106), (1, iv z3731), (2, iv (z3619 + 1))]) (List.forall_mem_cons.mpr ⟨rfl, List.forall_mem_cons.mpr ⟨rfl, List.forall_mem_cons.mpr ⟨rfl, fun _ h => absurd h List.not_mem_nil⟩⟩⟩) ?_
        exact ih3641 z3731 (z3619 + 1) μ3709 z3714 z3716 z3718 z3720 z3722 T3710 (mF.call (mF.call mF.refl F3626 rfl) F3711 rfl) q3715 q3717 q3719 q3721 q3723 h3733 (rW (c := 0) (d := 4) (rAdd (e := 4) (f := 4) h3758 (rR (x := 1)) rfl) rfl) (vc_X12_addressRead_86 (h3724.2.2.2.2.2.2.2.1.resolve_left (vc_X12_sign_27 h3649)) h3730 h3726 h3727) (vc_X12_addressRead_87 (h3724.2.2.2.2.2.2.2.1.resolve_left (vc_X12_sign_27 h3649)) h3730 h3726 h3727 h3728) (vc_X12_addressRead_88 (h3724.2.2.2.2.2.2.2.1.resolve_left (vc_X12_sign_27 h3649)) h3730 h3726 h3727 h3728) (vc_X12_addressRead_89 (h3724.2.2.2.2.2.2.2.1.resolve_left (vc_X12_sign_27 h3649)) h3730 h3726 h3727 h3728 h3729) (vc_X12_addressRead_132 h1952 (h3724.2.2.2.2.2.2.2.1.resolve_left (vc_X12_sign_27 h3649)) h3206 h3730) (vc_X12_addressRead_133 h3703 (h3724.2.2.2.2.2.2.2.1.resolve_left (vc_X12_sign_27 h3649)) h3757 ht_f_from h3758 h3730 h3727) (vc_X12_addressRead_134 h1952 (h3724.2.2.2.2.2.2.2.1.resolve_left (vc_X12_sign_27 h3649)) h3206 h3730) (vc_X12_addressRead_93 (nS h3635) h3703 h3757 h3758)
      have h3759 : 0 ≤ z3619 ∧ z3619 ≤ 2 := (vc_X12_addressRead_94 h3757 h3703 h3705)
      refine sv_aload_n (pc := 28) dX12_addressRead_28 rfl rfl ?_
      refine mr_bipush (pc := 29) (z := 46) dX12_addressRead_29 (by decide) ?_
      refine mr_cVV (pc := 31) (c_X12_sign hw T3710 (rW (c := (-2147483648)) (d := 2147483647) (rR (x := 46)) rfl) q3715 q3717 q3719 q3721 q3723 (vc_X12_addressRead_86 (h3724.2.2.2.2.2.2.2.1.resolve_left (vc_X12_sign_27 h3649)) h3730 h3726 h3727) (vc_X12_addressRead_87 (h3724.2.2.2.2.2.2.2.1.resolve_left (vc_X12_sign_27 h3649)) h3730 h3726 h3727 h3728) (vc_X12_addressRead_88 (h3724.2.2.2.2.2.2.2.1.resolve_left (vc_X12_sign_27 h3649)) h3730 h3726 h3727 h3728) (vc_X12_addressRead_89 (h3724.2.2.2.2.2.2.2.1.resolve_left (vc_X12_sign_27 h3649)) h3730 h3726 h3727 h3728 h3729)) (gOk _ _ _ _ _) dX12_addressRead_31 (tX12_sign _ _ _ _ _) ⟨wV_X12_sign, wL_X12_sign⟩ wM_X12_317 (gCX12 _ _ _ _ _) rfl (A_106 hw) rfl ⟨le_t rfl, le_t rfl⟩ ⟨le_t rfl, le_t rfl⟩ rfl (le_t rfl) fun μ3760 T3761 F3762 h3763 => ?_
      obtain ⟨z3764, z3766, z3768, z3770, z3772, q3765, q3767, q3769, q3771, q3773, h3774⟩ := h3763
      have h3775 : (0 ≤ z3764 ∧ z3764 ≤ 4) := by rw [← q3765]; exact T3761 106 106 (A_106 hw) 37
      have h3776 : (0 ≤ z3766 ∧ z3766 ≤ 1000) := by rw [← q3767]; exact T3761 106 106 (A_106 hw) 33
      have h3777 : (0 ≤ z3768 ∧ z3768 ≤ 1000) := by rw [← q3769]; exact T3761 106 106 (A_106 hw) 34
      have h3778 : (0 ≤ z3770 ∧ z3770 ≤ 3) := by rw [← q3771]; exact T3761 106 106 (A_106 hw) 35
      have h3779 : ((-2147483648) ≤ z3772 ∧ z3772 ≤ 2147483647) := by rw [← q3773]; exact T3761 106 106 (A_106 hw) 36
      have h3780 : 1 ≤ z3764 ∧ z3764 ≤ 4 := (vc_X12_next_128 (h3774.2.2.2.2.2.2.1.resolve_left (vc_X12_sign_27 h3730)) h3775)
      refine mr_iinc (pc := 34) (lv' := [(2, iv (z3619 + 1)), (1, iv z3731), (0, .ref 106)]) dX12_addressRead_34 rfl (by decide) rfl ?_
      refine sv_goto (pc := 37) (tgt := 4) dX12_addressRead_37 (by decide) ?_
      refine mr_lvS (lv' := [(0, .ref 106), (1, iv z3731), (2, iv (z3619 + 1))]) (List.forall_mem_cons.mpr ⟨rfl, List.forall_mem_cons.mpr ⟨rfl, List.forall_mem_cons.mpr ⟨rfl, fun _ h => absurd h List.not_mem_nil⟩⟩⟩) ?_
      exact ih3641 z3731 (z3619 + 1) μ3760 z3764 z3766 z3768 z3770 z3772 T3761 (mF.call (mF.call (mF.call mF.refl F3626 rfl) F3711 rfl) F3762 rfl) q3765 q3767 q3769 q3771 q3773 h3733 (rW (c := 0) (d := 4) (rAdd (e := 1) (f := 3) h3759 (rR (x := 1)) rfl) rfl) (vc_X12_addressRead_97 h3774.1 (h3774.2.2.2.2.2.2.1.resolve_left (vc_X12_sign_27 h3730)) (h3724.2.2.2.2.2.2.2.1.resolve_left (vc_X12_sign_27 h3649)) h3730 h3780 h3776 h3777) (vc_X12_addressRead_98 h3774.1 h3774.2.1 h3774.2.2.1 (h3774.2.2.2.2.2.2.1.resolve_left (vc_X12_sign_27 h3730)) (h3724.2.2.2.2.2.2.2.1.resolve_left (vc_X12_sign_27 h3649)) h3730 h3780 h3776 h3777 h3778) (vc_X12_addressRead_99 h3774.1 h3774.2.1 h3774.2.2.1 (h3774.2.2.2.2.2.2.1.resolve_left (vc_X12_sign_27 h3730)) (h3724.2.2.2.2.2.2.2.1.resolve_left (vc_X12_sign_27 h3649)) h3730 h3780 h3776 h3777 h3778) (vc_X12_addressRead_100 h3774.1 h3774.2.1 h3774.2.2.1 h3774.2.2.2.1 (h3774.2.2.2.2.2.2.1.resolve_left (vc_X12_sign_27 h3730)) (h3724.2.2.2.2.2.2.2.1.resolve_left (vc_X12_sign_27 h3649)) h3730 h3780 h3776 h3777 h3778 h3779) (vc_X12_sign_49 h1952 (h3774.2.2.2.2.2.2.1.resolve_left (vc_X12_sign_27 h3730)) (h3724.2.2.2.2.2.2.2.1.resolve_left (vc_X12_sign_27 h3649)) h3206 h3730 h3780) (vc_X12_addressRead_144 h3703 h3757 (h3774.2.2.2.2.2.2.1.resolve_left (vc_X12_sign_27 h3730)) (h3724.2.2.2.2.2.2.2.1.resolve_left (vc_X12_sign_27 h3649)) ht_f_from h3759 h3730 h3780 h3777) (vc_X12_sign_51 h1952 (h3774.2.2.2.2.2.2.1.resolve_left (vc_X12_sign_27 h3730)) (h3724.2.2.2.2.2.2.2.1.resolve_left (vc_X12_sign_27 h3649)) h3206 h3730 h3780) (vc_X12_addressRead_104 (nS h3635) h3703 h3757 h3759)
  refine mr_lvS (lv' := [(0, .ref 106), (1, iv 0), (2, iv 0)]) (List.forall_mem_cons.mpr ⟨rfl, List.forall_mem_cons.mpr ⟨rfl, List.forall_mem_cons.mpr ⟨rfl, fun _ h => absurd h List.not_mem_nil⟩⟩⟩) ?_
  exact L3622 6 0 0 μ f_code f_at f_from f_type f_number hT mF.refl q_f_code q_f_at q_f_from q_f_type q_f_number (rW (c := (-2147483648)) (d := 2147483647) (rR (x := 0)) rfl) (rW (c := 0) (d := 4) (rR (x := 0)) rfl) (vc_X12_next_485 h1952 ht_f_at h3206 ht_f_from) (vc_X12_next_486 h1952 ht_f_at h3206 ht_f_from ht_f_type) (vc_X12_next_487 h1952 ht_f_at h3206 ht_f_from ht_f_type) (vc_X12_addressRead_78 h1952 ht_f_at h3206 ht_f_from ht_f_number ht_f_type) (vc_X12_next_483 h1952 h3206) (vc_X12_addressRead_152 h1952 h3206 ht_f_from) (vc_X12_next_484 h1952 h3206) vc_X12_prefixOut_14
end
section
/-! no rows -/
end
section
/-! no rows -/
end
section
/-! no rows -/
end
section
/-! no rows -/
end
section
/-! Small facts for the class. -/
theorem wG_XI_265 : Cond.constant "java/lang/Integer" 265 1431655765 ∈ lw_ok := lw_i4 185 rfl rfl
theorem wG_XI_266 : Cond.constant "java/lang/Integer" 266 858993459 ∈ lw_ok := lw_i4 186 rfl rfl
theorem wG_XI_267 : Cond.constant "java/lang/Integer" 267 252645135 ∈ lw_ok := lw_i4 187 rfl rfl
theorem tieEnd {μ : mM} {z p : Int} {c : Nat} (h : z < 0 ∨ ∃ b : Nat, μ 11 z.toNat = (b : Int) ∧ (μ b 0 = p ∨ μ b 1 = p)) (hz : ¬ z < 0) (q : μ 11 z.toNat = (c : Int)) : μ c 0 = p ∨ μ c 1 = p := by
  obtain ⟨b, h1, h2⟩ := h.resolve_left hz
  have e : b = c := by rw [h1] at q; omega
  rw [← e]; exact h2
end
section
theorem dJ_bits_0 : decode cJ_bits 0 = .ok (.iload_n 0, 1) := dc0 dO_26 (by decide +kernel)
theorem dJ_bits_1 : decode cJ_bits 1 = .ok (.iload_n 0, 1) := dc0 dO_26 (by decide +kernel)
theorem dJ_bits_2 : decode cJ_bits 2 = .ok (.iconst 1, 1) := dc0 dO_4 (by decide +kernel)
theorem dJ_bits_3 : decode cJ_bits 3 = .ok (.iushr, 1) := dc0 dO_124 (by decide +kernel)
theorem dJ_bits_4 : decode cJ_bits 4 = .ok (.ldc_w 265, 3) := dcU2 dO_19 (by decide +kernel)
theorem dJ_bits_7 : decode cJ_bits 7 = .ok (.iand, 1) := dc0 dO_126 (by decide +kernel)
theorem dJ_bits_8 : decode cJ_bits 8 = .ok (.isub, 1) := dc0 dO_100 (by decide +kernel)
theorem dJ_bits_9 : decode cJ_bits 9 = .ok (.istore_n 0, 1) := dc0 dO_59 (by decide +kernel)
theorem dJ_bits_10 : decode cJ_bits 10 = .ok (.iload_n 0, 1) := dc0 dO_26 (by decide +kernel)
theorem dJ_bits_11 : decode cJ_bits 11 = .ok (.ldc_w 266, 3) := dcU2 dO_19 (by decide +kernel)
theorem dJ_bits_14 : decode cJ_bits 14 = .ok (.iand, 1) := dc0 dO_126 (by decide +kernel)
theorem dJ_bits_15 : decode cJ_bits 15 = .ok (.iload_n 0, 1) := dc0 dO_26 (by decide +kernel)
theorem dJ_bits_16 : decode cJ_bits 16 = .ok (.iconst 2, 1) := dc0 dO_5 (by decide +kernel)
theorem dJ_bits_17 : decode cJ_bits 17 = .ok (.iushr, 1) := dc0 dO_124 (by decide +kernel)
theorem dJ_bits_18 : decode cJ_bits 18 = .ok (.ldc_w 266, 3) := dcU2 dO_19 (by decide +kernel)
theorem dJ_bits_21 : decode cJ_bits 21 = .ok (.iand, 1) := dc0 dO_126 (by decide +kernel)
theorem dJ_bits_22 : decode cJ_bits 22 = .ok (.iadd, 1) := dc0 dO_96 (by decide +kernel)
theorem dJ_bits_23 : decode cJ_bits 23 = .ok (.istore_n 0, 1) := dc0 dO_59 (by decide +kernel)
theorem dJ_bits_24 : decode cJ_bits 24 = .ok (.iload_n 0, 1) := dc0 dO_26 (by decide +kernel)
theorem dJ_bits_25 : decode cJ_bits 25 = .ok (.iload_n 0, 1) := dc0 dO_26 (by decide +kernel)
theorem dJ_bits_26 : decode cJ_bits 26 = .ok (.iconst 4, 1) := dc0 dO_7 (by decide +kernel)
theorem dJ_bits_27 : decode cJ_bits 27 = .ok (.iushr, 1) := dc0 dO_124 (by decide +kernel)
theorem dJ_bits_28 : decode cJ_bits 28 = .ok (.iadd, 1) := dc0 dO_96 (by decide +kernel)
theorem dJ_bits_29 : decode cJ_bits 29 = .ok (.ldc_w 267, 3) := dcU2 dO_19 (by decide +kernel)
theorem dJ_bits_32 : decode cJ_bits 32 = .ok (.iand, 1) := dc0 dO_126 (by decide +kernel)
theorem dJ_bits_33 : decode cJ_bits 33 = .ok (.istore_n 0, 1) := dc0 dO_59 (by decide +kernel)
theorem dJ_bits_34 : decode cJ_bits 34 = .ok (.iload_n 0, 1) := dc0 dO_26 (by decide +kernel)
theorem dJ_bits_35 : decode cJ_bits 35 = .ok (.iload_n 0, 1) := dc0 dO_26 (by decide +kernel)
theorem dJ_bits_36 : decode cJ_bits 36 = .ok (.bipush 8, 2) := dcS1 dO_16 (by decide +kernel)
theorem dJ_bits_38 : decode cJ_bits 38 = .ok (.iushr, 1) := dc0 dO_124 (by decide +kernel)
theorem dJ_bits_39 : decode cJ_bits 39 = .ok (.iadd, 1) := dc0 dO_96 (by decide +kernel)
theorem dJ_bits_40 : decode cJ_bits 40 = .ok (.istore_n 0, 1) := dc0 dO_59 (by decide +kernel)
theorem dJ_bits_41 : decode cJ_bits 41 = .ok (.iload_n 0, 1) := dc0 dO_26 (by decide +kernel)
theorem dJ_bits_42 : decode cJ_bits 42 = .ok (.iload_n 0, 1) := dc0 dO_26 (by decide +kernel)
theorem dJ_bits_43 : decode cJ_bits 43 = .ok (.bipush 16, 2) := dcS1 dO_16 (by decide +kernel)
theorem dJ_bits_45 : decode cJ_bits 45 = .ok (.iushr, 1) := dc0 dO_124 (by decide +kernel)
theorem dJ_bits_46 : decode cJ_bits 46 = .ok (.iadd, 1) := dc0 dO_96 (by decide +kernel)
theorem dJ_bits_47 : decode cJ_bits 47 = .ok (.istore_n 0, 1) := dc0 dO_59 (by decide +kernel)
theorem dJ_bits_48 : decode cJ_bits 48 = .ok (.iload_n 0, 1) := dc0 dO_26 (by decide +kernel)
theorem dJ_bits_49 : decode cJ_bits 49 = .ok (.bipush 63, 2) := dcS1 dO_16 (by decide +kernel)
theorem dJ_bits_51 : decode cJ_bits 51 = .ok (.iand, 1) := dc0 dO_126 (by decide +kernel)
theorem dJ_bits_52 : decode cJ_bits 52 = .ok (.ireturn, 1) := dc0 dO_172 (by decide +kernel)
theorem dX11_cone_0 : decode cX11_cone 0 = .ok (.aload_n 0, 1) := dc0 dO_42 (by decide +kernel)
theorem dX11_cone_1 : decode cX11_cone 1 = .ok (.iload_n 1, 1) := dc0 dO_27 (by decide +kernel)
theorem dX11_cone_2 : decode cX11_cone 2 = .ok (.invokevirtual 105, 3) := dcU2 dO_182 (by decide +kernel)
theorem dX11_cone_5 : decode cX11_cone 5 = .ok (.ifCond .eq 16, 3) := dcS2 dO_153 (by decide +kernel)
theorem dX11_cone_8 : decode cX11_cone 8 = .ok (.iload_n 2, 1) := dc0 dO_28 (by decide +kernel)
theorem dX11_cone_9 : decode cX11_cone 9 = .ok (.iconst (-1), 1) := dc0 dO_2 (by decide +kernel)
theorem dX11_cone_10 : decode cX11_cone 10 = .ok (.if_icmp .eq 13, 3) := dcS2 dO_159 (by decide +kernel)
theorem dX11_cone_13 : decode cX11_cone 13 = .ok (.aload_n 0, 1) := dc0 dO_42 (by decide +kernel)
theorem dX11_cone_14 : decode cX11_cone 14 = .ok (.iload_n 2, 1) := dc0 dO_28 (by decide +kernel)
theorem dX11_cone_15 : decode cX11_cone 15 = .ok (.invokevirtual 105, 3) := dcU2 dO_182 (by decide +kernel)
theorem dX11_cone_18 : decode cX11_cone 18 = .ok (.ifCond .ne 5, 3) := dcS2 dO_154 (by decide +kernel)
theorem dX11_cone_21 : decode cX11_cone 21 = .ok (.iconst (-1), 1) := dc0 dO_2 (by decide +kernel)
theorem dX11_cone_22 : decode cX11_cone 22 = .ok (.ireturn, 1) := dc0 dO_172 (by decide +kernel)
theorem dX11_cone_23 : decode cX11_cone 23 = .ok (.aload_n 0, 1) := dc0 dO_42 (by decide +kernel)
theorem dX11_cone_24 : decode cX11_cone 24 = .ok (.getfield 26, 3) := dcU2 dO_180 (by decide +kernel)
theorem dX11_cone_27 : decode cX11_cone 27 = .ok (.iload_n 1, 1) := dc0 dO_27 (by decide +kernel)
theorem dX11_cone_28 : decode cX11_cone 28 = .ok (.invokevirtual 154, 3) := dcU2 dO_182 (by decide +kernel)
theorem dX11_cone_31 : decode cX11_cone 31 = .ok (.istore_n 3, 1) := dc0 dO_62 (by decide +kernel)
theorem dX11_cone_32 : decode cX11_cone 32 = .ok (.iload_n 2, 1) := dc0 dO_28 (by decide +kernel)
theorem dX11_cone_33 : decode cX11_cone 33 = .ok (.iconst (-1), 1) := dc0 dO_2 (by decide +kernel)
theorem dX11_cone_34 : decode cX11_cone 34 = .ok (.if_icmp .ne 10, 3) := dcS2 dO_160 (by decide +kernel)
theorem dX11_cone_37 : decode cX11_cone 37 = .ok (.iload_n 3, 1) := dc0 dO_29 (by decide +kernel)
theorem dX11_cone_38 : decode cX11_cone 38 = .ok (.invokestatic 157, 3) := dcU2 dO_184 (by decide +kernel)
theorem dX11_cone_41 : decode cX11_cone 41 = .ok (.goto 8, 3) := dcS2 dO_167 (by decide +kernel)
theorem dX11_cone_44 : decode cX11_cone 44 = .ok (.iload_n 3, 1) := dc0 dO_29 (by decide +kernel)
theorem dX11_cone_45 : decode cX11_cone 45 = .ok (.iload_n 2, 1) := dc0 dO_28 (by decide +kernel)
theorem dX11_cone_46 : decode cX11_cone 46 = .ok (.ishr, 1) := dc0 dO_122 (by decide +kernel)
theorem dX11_cone_47 : decode cX11_cone 47 = .ok (.iconst 1, 1) := dc0 dO_4 (by decide +kernel)
theorem dX11_cone_48 : decode cX11_cone 48 = .ok (.iand, 1) := dc0 dO_126 (by decide +kernel)
theorem dX11_cone_49 : decode cX11_cone 49 = .ok (.ireturn, 1) := dc0 dO_172 (by decide +kernel)
theorem dX11_judge_0 : decode cX11_judge 0 = .ok (.iload_n 1, 1) := dc0 dO_27 (by decide +kernel)
theorem dX11_judge_1 : decode cX11_judge 1 = .ok (.ifCond .lt 30, 3) := dcS2 dO_155 (by decide +kernel)
theorem dX11_judge_4 : decode cX11_judge 4 = .ok (.iload_n 1, 1) := dc0 dO_27 (by decide +kernel)
theorem dX11_judge_5 : decode cX11_judge 5 = .ok (.aload_n 0, 1) := dc0 dO_42 (by decide +kernel)
theorem dX11_judge_6 : decode cX11_judge 6 = .ok (.getfield 35, 3) := dcU2 dO_180 (by decide +kernel)
theorem dX11_judge_9 : decode cX11_judge 9 = .ok (.getfield 205, 3) := dcU2 dO_180 (by decide +kernel)
theorem dX11_judge_12 : decode cX11_judge 12 = .ok (.if_icmp .ge 19, 3) := dcS2 dO_162 (by decide +kernel)
theorem dX11_judge_15 : decode cX11_judge 15 = .ok (.aload_n 0, 1) := dc0 dO_42 (by decide +kernel)
theorem dX11_judge_16 : decode cX11_judge 16 = .ok (.iload_n 2, 1) := dc0 dO_28 (by decide +kernel)
theorem dX11_judge_17 : decode cX11_judge 17 = .ok (.invokevirtual 105, 3) := dcU2 dO_182 (by decide +kernel)
theorem dX11_judge_20 : decode cX11_judge 20 = .ok (.ifCond .eq 11, 3) := dcS2 dO_153 (by decide +kernel)
theorem dX11_judge_23 : decode cX11_judge 23 = .ok (.aload_n 0, 1) := dc0 dO_42 (by decide +kernel)
theorem dX11_judge_24 : decode cX11_judge 24 = .ok (.iload_n 3, 1) := dc0 dO_29 (by decide +kernel)
theorem dX11_judge_25 : decode cX11_judge 25 = .ok (.invokevirtual 105, 3) := dcU2 dO_182 (by decide +kernel)
theorem dX11_judge_28 : decode cX11_judge 28 = .ok (.ifCond .ne 5, 3) := dcS2 dO_154 (by decide +kernel)
theorem dX11_judge_31 : decode cX11_judge 31 = .ok (.iconst (-1), 1) := dc0 dO_2 (by decide +kernel)
theorem dX11_judge_32 : decode cX11_judge 32 = .ok (.ireturn, 1) := dc0 dO_172 (by decide +kernel)
theorem dX11_judge_33 : decode cX11_judge 33 = .ok (.aload_n 0, 1) := dc0 dO_42 (by decide +kernel)
theorem dX11_judge_34 : decode cX11_judge 34 = .ok (.getfield 26, 3) := dcU2 dO_180 (by decide +kernel)
theorem dX11_judge_37 : decode cX11_judge 37 = .ok (.iload_n 2, 1) := dc0 dO_28 (by decide +kernel)
theorem dX11_judge_38 : decode cX11_judge 38 = .ok (.iload_n 3, 1) := dc0 dO_29 (by decide +kernel)
theorem dX11_judge_39 : decode cX11_judge 39 = .ok (.invokevirtual 109, 3) := dcU2 dO_182 (by decide +kernel)
theorem dX11_judge_42 : decode cX11_judge 42 = .ok (.istore 4, 2) := dcU1 dO_54 (by decide +kernel)
theorem dX11_judge_44 : decode cX11_judge 44 = .ok (.iload 4, 2) := dcU1 dO_21 (by decide +kernel)
theorem dX11_judge_46 : decode cX11_judge 46 = .ok (.ifCond .ge 5, 3) := dcS2 dO_156 (by decide +kernel)
theorem dX11_judge_49 : decode cX11_judge 49 = .ok (.iconst (-1), 1) := dc0 dO_2 (by decide +kernel)
theorem dX11_judge_50 : decode cX11_judge 50 = .ok (.ireturn, 1) := dc0 dO_172 (by decide +kernel)
theorem dX11_judge_51 : decode cX11_judge 51 = .ok (.aload_n 0, 1) := dc0 dO_42 (by decide +kernel)
theorem dX11_judge_52 : decode cX11_judge 52 = .ok (.getfield 19, 3) := dcU2 dO_180 (by decide +kernel)
theorem dX11_judge_55 : decode cX11_judge 55 = .ok (.getfield 246, 3) := dcU2 dO_180 (by decide +kernel)
theorem dX11_judge_58 : decode cX11_judge 58 = .ok (.ifCond .ne 6, 3) := dcS2 dO_154 (by decide +kernel)
theorem dX11_judge_61 : decode cX11_judge 61 = .ok (.bipush (-2), 2) := dcS1 dO_16 (by decide +kernel)
theorem dX11_judge_63 : decode cX11_judge 63 = .ok (.ireturn, 1) := dc0 dO_172 (by decide +kernel)
theorem dX11_judge_64 : decode cX11_judge 64 = .ok (.aload_n 0, 1) := dc0 dO_42 (by decide +kernel)
theorem dX11_judge_65 : decode cX11_judge 65 = .ok (.getfield 26, 3) := dcU2 dO_180 (by decide +kernel)
theorem dX11_judge_68 : decode cX11_judge 68 = .ok (.getfield 122, 3) := dcU2 dO_180 (by decide +kernel)
theorem dX11_judge_71 : decode cX11_judge 71 = .ok (.iload 4, 2) := dcU1 dO_21 (by decide +kernel)
theorem dX11_judge_73 : decode cX11_judge 73 = .ok (.aaload, 1) := dc0 dO_50 (by decide +kernel)
theorem dX11_judge_74 : decode cX11_judge 74 = .ok (.astore 5, 2) := dcU1 dO_58 (by decide +kernel)
theorem dX11_judge_76 : decode cX11_judge 76 = .ok (.aload_n 0, 1) := dc0 dO_42 (by decide +kernel)
theorem dX11_judge_77 : decode cX11_judge 77 = .ok (.getfield 35, 3) := dcU2 dO_180 (by decide +kernel)
theorem dX11_judge_80 : decode cX11_judge 80 = .ok (.iload_n 1, 1) := dc0 dO_27 (by decide +kernel)
theorem dX11_judge_81 : decode cX11_judge 81 = .ok (.aload_n 0, 1) := dc0 dO_42 (by decide +kernel)
theorem dX11_judge_82 : decode cX11_judge 82 = .ok (.getfield 19, 3) := dcU2 dO_180 (by decide +kernel)
theorem dX11_judge_85 : decode cX11_judge 85 = .ok (.aload 5, 2) := dcU1 dO_25 (by decide +kernel)
theorem dX11_judge_87 : decode cX11_judge 87 = .ok (.aload 5, 2) := dcU1 dO_25 (by decide +kernel)
theorem dX11_judge_89 : decode cX11_judge 89 = .ok (.iload_n 2, 1) := dc0 dO_28 (by decide +kernel)
theorem dX11_judge_90 : decode cX11_judge 90 = .ok (.invokevirtual 249, 3) := dcU2 dO_182 (by decide +kernel)
theorem dX11_judge_93 : decode cX11_judge 93 = .ok (.invokevirtual 252, 3) := dcU2 dO_182 (by decide +kernel)
theorem dX11_judge_96 : decode cX11_judge 96 = .ok (.ifCond .eq 7, 3) := dcS2 dO_153 (by decide +kernel)
theorem dX11_judge_99 : decode cX11_judge 99 = .ok (.iconst 1, 1) := dc0 dO_4 (by decide +kernel)
theorem dX11_judge_100 : decode cX11_judge 100 = .ok (.goto 4, 3) := dcS2 dO_167 (by decide +kernel)
theorem dX11_judge_103 : decode cX11_judge 103 = .ok (.iconst 0, 1) := dc0 dO_3 (by decide +kernel)
theorem dX11_judge_104 : decode cX11_judge 104 = .ok (.ireturn, 1) := dc0 dO_172 (by decide +kernel)
theorem dX11_least_0 : decode cX11_least 0 = .ok (.aload_n 0, 1) := dc0 dO_42 (by decide +kernel)
theorem dX11_least_1 : decode cX11_least 1 = .ok (.iload_n 1, 1) := dc0 dO_27 (by decide +kernel)
theorem dX11_least_2 : decode cX11_least 2 = .ok (.invokevirtual 105, 3) := dcU2 dO_182 (by decide +kernel)
theorem dX11_least_5 : decode cX11_least 5 = .ok (.ifCond .eq 14, 3) := dcS2 dO_153 (by decide +kernel)
theorem dX11_least_8 : decode cX11_least 8 = .ok (.aload_n 0, 1) := dc0 dO_42 (by decide +kernel)
theorem dX11_least_9 : decode cX11_least 9 = .ok (.getfield 65, 3) := dcU2 dO_180 (by decide +kernel)
theorem dX11_least_12 : decode cX11_least 12 = .ok (.iload_n 1, 1) := dc0 dO_27 (by decide +kernel)
theorem dX11_least_13 : decode cX11_least 13 = .ok (.invokevirtual 385, 3) := dcU2 dO_182 (by decide +kernel)
theorem dX11_least_16 : decode cX11_least 16 = .ok (.goto 4, 3) := dcS2 dO_167 (by decide +kernel)
theorem dX11_least_19 : decode cX11_least 19 = .ok (.iconst (-1), 1) := dc0 dO_2 (by decide +kernel)
theorem dX11_least_20 : decode cX11_least 20 = .ok (.ireturn, 1) := dc0 dO_172 (by decide +kernel)
theorem dX11_message_0 : decode cX11_message 0 = .ok (.aload_n 0, 1) := dc0 dO_42 (by decide +kernel)
theorem dX11_message_1 : decode cX11_message 1 = .ok (.getfield 58, 3) := dcU2 dO_180 (by decide +kernel)
theorem dX11_message_4 : decode cX11_message 4 = .ok (.aload_n 0, 1) := dc0 dO_42 (by decide +kernel)
theorem dX11_message_5 : decode cX11_message 5 = .ok (.getfield 9, 3) := dcU2 dO_180 (by decide +kernel)
theorem dX11_message_8 : decode cX11_message 8 = .ok (.aload_n 0, 1) := dc0 dO_42 (by decide +kernel)
theorem dX11_message_9 : decode cX11_message 9 = .ok (.getfield 76, 3) := dcU2 dO_180 (by decide +kernel)
theorem dX11_message_12 : decode cX11_message 12 = .ok (.invokevirtual 339, 3) := dcU2 dO_182 (by decide +kernel)
theorem dX11_message_15 : decode cX11_message 15 = .ok (.istore_n 1, 1) := dc0 dO_60 (by decide +kernel)
theorem dX11_message_16 : decode cX11_message 16 = .ok (.aload_n 0, 1) := dc0 dO_42 (by decide +kernel)
theorem dX11_message_17 : decode cX11_message 17 = .ok (.iconst 0, 1) := dc0 dO_3 (by decide +kernel)
theorem dX11_message_18 : decode cX11_message 18 = .ok (.putfield 76, 3) := dcU2 dO_181 (by decide +kernel)
theorem dX11_message_21 : decode cX11_message 21 = .ok (.iload_n 1, 1) := dc0 dO_27 (by decide +kernel)
theorem dX11_message_22 : decode cX11_message 22 = .ok (.ireturn, 1) := dc0 dO_172 (by decide +kernel)
theorem dX2_leastBelow_0 : decode cX2_leastBelow 0 = .ok (.iload_n 3, 1) := dc0 dO_29 (by decide +kernel)
theorem dX2_leastBelow_1 : decode cX2_leastBelow 1 = .ok (.bipush 32, 2) := dcS1 dO_16 (by decide +kernel)
theorem dX2_leastBelow_3 : decode cX2_leastBelow 3 = .ok (.if_icmp .ge 13, 3) := dcS2 dO_162 (by decide +kernel)
theorem dX2_leastBelow_6 : decode cX2_leastBelow 6 = .ok (.aload_n 0, 1) := dc0 dO_42 (by decide +kernel)
theorem dX2_leastBelow_7 : decode cX2_leastBelow 7 = .ok (.iload_n 1, 1) := dc0 dO_27 (by decide +kernel)
theorem dX2_leastBelow_8 : decode cX2_leastBelow 8 = .ok (.iload_n 2, 1) := dc0 dO_28 (by decide +kernel)
theorem dX2_leastBelow_9 : decode cX2_leastBelow 9 = .ok (.iload_n 3, 1) := dc0 dO_29 (by decide +kernel)
theorem dX2_leastBelow_10 : decode cX2_leastBelow 10 = .ok (.invokevirtual 106, 3) := dcU2 dO_182 (by decide +kernel)
theorem dX2_leastBelow_13 : decode cX2_leastBelow 13 = .ok (.ifCond .ne 13, 3) := dcS2 dO_154 (by decide +kernel)
theorem dX2_leastBelow_16 : decode cX2_leastBelow 16 = .ok (.aload_n 0, 1) := dc0 dO_42 (by decide +kernel)
theorem dX2_leastBelow_17 : decode cX2_leastBelow 17 = .ok (.iload_n 1, 1) := dc0 dO_27 (by decide +kernel)
theorem dX2_leastBelow_18 : decode cX2_leastBelow 18 = .ok (.iload_n 2, 1) := dc0 dO_28 (by decide +kernel)
theorem dX2_leastBelow_19 : decode cX2_leastBelow 19 = .ok (.invokevirtual 60, 3) := dcU2 dO_182 (by decide +kernel)
theorem dX2_leastBelow_22 : decode cX2_leastBelow 22 = .ok (.invokestatic 110, 3) := dcU2 dO_184 (by decide +kernel)
theorem dX2_leastBelow_25 : decode cX2_leastBelow 25 = .ok (.ireturn, 1) := dc0 dO_172 (by decide +kernel)
theorem dX2_leastBelow_26 : decode cX2_leastBelow 26 = .ok (.aload_n 0, 1) := dc0 dO_42 (by decide +kernel)
theorem dX2_leastBelow_27 : decode cX2_leastBelow 27 = .ok (.iload_n 1, 1) := dc0 dO_27 (by decide +kernel)
theorem dX2_leastBelow_28 : decode cX2_leastBelow 28 = .ok (.iload_n 2, 1) := dc0 dO_28 (by decide +kernel)
theorem dX2_leastBelow_29 : decode cX2_leastBelow 29 = .ok (.iload_n 3, 1) := dc0 dO_29 (by decide +kernel)
theorem dX2_leastBelow_30 : decode cX2_leastBelow 30 = .ok (.iconst 1, 1) := dc0 dO_4 (by decide +kernel)
theorem dX2_leastBelow_31 : decode cX2_leastBelow 31 = .ok (.iadd, 1) := dc0 dO_96 (by decide +kernel)
theorem dX2_leastBelow_32 : decode cX2_leastBelow 32 = .ok (.invokevirtual 101, 3) := dcU2 dO_182 (by decide +kernel)
theorem dX2_leastBelow_35 : decode cX2_leastBelow 35 = .ok (.istore 4, 2) := dcU1 dO_54 (by decide +kernel)
theorem dX2_leastBelow_37 : decode cX2_leastBelow 37 = .ok (.aload_n 0, 1) := dc0 dO_42 (by decide +kernel)
theorem dX2_leastBelow_38 : decode cX2_leastBelow 38 = .ok (.iload_n 1, 1) := dc0 dO_27 (by decide +kernel)
theorem dX2_leastBelow_39 : decode cX2_leastBelow 39 = .ok (.iload_n 2, 1) := dc0 dO_28 (by decide +kernel)
theorem dX2_leastBelow_40 : decode cX2_leastBelow 40 = .ok (.iconst 1, 1) := dc0 dO_4 (by decide +kernel)
theorem dX2_leastBelow_41 : decode cX2_leastBelow 41 = .ok (.bipush 31, 2) := dcS1 dO_16 (by decide +kernel)
theorem dX2_leastBelow_43 : decode cX2_leastBelow 43 = .ok (.iload_n 3, 1) := dc0 dO_29 (by decide +kernel)
theorem dX2_leastBelow_44 : decode cX2_leastBelow 44 = .ok (.isub, 1) := dc0 dO_100 (by decide +kernel)
theorem dX2_leastBelow_45 : decode cX2_leastBelow 45 = .ok (.ishl, 1) := dc0 dO_120 (by decide +kernel)
theorem dX2_leastBelow_46 : decode cX2_leastBelow 46 = .ok (.ior, 1) := dc0 dO_128 (by decide +kernel)
theorem dX2_leastBelow_47 : decode cX2_leastBelow 47 = .ok (.iload_n 3, 1) := dc0 dO_29 (by decide +kernel)
theorem dX2_leastBelow_48 : decode cX2_leastBelow 48 = .ok (.iconst 1, 1) := dc0 dO_4 (by decide +kernel)
theorem dX2_leastBelow_49 : decode cX2_leastBelow 49 = .ok (.iadd, 1) := dc0 dO_96 (by decide +kernel)
theorem dX2_leastBelow_50 : decode cX2_leastBelow 50 = .ok (.invokevirtual 101, 3) := dcU2 dO_182 (by decide +kernel)
theorem dX2_leastBelow_53 : decode cX2_leastBelow 53 = .ok (.istore 5, 2) := dcU1 dO_54 (by decide +kernel)
theorem dX2_leastBelow_55 : decode cX2_leastBelow 55 = .ok (.iload 4, 2) := dcU1 dO_21 (by decide +kernel)
theorem dX2_leastBelow_57 : decode cX2_leastBelow 57 = .ok (.iload 5, 2) := dcU1 dO_21 (by decide +kernel)
theorem dX2_leastBelow_59 : decode cX2_leastBelow 59 = .ok (.iand, 1) := dc0 dO_126 (by decide +kernel)
theorem dX2_leastBelow_60 : decode cX2_leastBelow 60 = .ok (.ifCond .eq 9, 3) := dcS2 dO_153 (by decide +kernel)
theorem dX2_leastBelow_63 : decode cX2_leastBelow 63 = .ok (.iload 4, 2) := dcU1 dO_21 (by decide +kernel)
theorem dX2_leastBelow_65 : decode cX2_leastBelow 65 = .ok (.iload 5, 2) := dcU1 dO_21 (by decide +kernel)
theorem dX2_leastBelow_67 : decode cX2_leastBelow 67 = .ok (.iand, 1) := dc0 dO_126 (by decide +kernel)
theorem dX2_leastBelow_68 : decode cX2_leastBelow 68 = .ok (.ireturn, 1) := dc0 dO_172 (by decide +kernel)
theorem dX2_leastBelow_69 : decode cX2_leastBelow 69 = .ok (.aload_n 0, 1) := dc0 dO_42 (by decide +kernel)
theorem dX2_leastBelow_70 : decode cX2_leastBelow 70 = .ok (.dup, 1) := dc0 dO_89 (by decide +kernel)
theorem dX2_leastBelow_71 : decode cX2_leastBelow 71 = .ok (.getfield 98, 3) := dcU2 dO_180 (by decide +kernel)
theorem dX2_leastBelow_74 : decode cX2_leastBelow 74 = .ok (.iconst 1, 1) := dc0 dO_4 (by decide +kernel)
theorem dX2_leastBelow_75 : decode cX2_leastBelow 75 = .ok (.iadd, 1) := dc0 dO_96 (by decide +kernel)
theorem dX2_leastBelow_76 : decode cX2_leastBelow 76 = .ok (.putfield 98, 3) := dcU2 dO_181 (by decide +kernel)
theorem dX2_leastBelow_79 : decode cX2_leastBelow 79 = .ok (.iload 4, 2) := dcU1 dO_21 (by decide +kernel)
theorem dX2_leastBelow_81 : decode cX2_leastBelow 81 = .ok (.iload 5, 2) := dcU1 dO_21 (by decide +kernel)
theorem dX2_leastBelow_83 : decode cX2_leastBelow 83 = .ok (.ior, 1) := dc0 dO_128 (by decide +kernel)
theorem dX2_leastBelow_84 : decode cX2_leastBelow 84 = .ok (.ireturn, 1) := dc0 dO_172 (by decide +kernel)
theorem dX2_leastTable_0 : decode cX2_leastTable 0 = .ok (.aload_n 0, 1) := dc0 dO_42 (by decide +kernel)
theorem dX2_leastTable_1 : decode cX2_leastTable 1 = .ok (.iconst 0, 1) := dc0 dO_3 (by decide +kernel)
theorem dX2_leastTable_2 : decode cX2_leastTable 2 = .ok (.putfield 98, 3) := dcU2 dO_181 (by decide +kernel)
theorem dX2_leastTable_5 : decode cX2_leastTable 5 = .ok (.aload_n 0, 1) := dc0 dO_42 (by decide +kernel)
theorem dX2_leastTable_6 : decode cX2_leastTable 6 = .ok (.iload_n 1, 1) := dc0 dO_27 (by decide +kernel)
theorem dX2_leastTable_7 : decode cX2_leastTable 7 = .ok (.iconst 0, 1) := dc0 dO_3 (by decide +kernel)
theorem dX2_leastTable_8 : decode cX2_leastTable 8 = .ok (.iconst 0, 1) := dc0 dO_3 (by decide +kernel)
theorem dX2_leastTable_9 : decode cX2_leastTable 9 = .ok (.invokevirtual 101, 3) := dcU2 dO_182 (by decide +kernel)
theorem dX2_leastTable_12 : decode cX2_leastTable 12 = .ok (.istore_n 2, 1) := dc0 dO_61 (by decide +kernel)
theorem dX2_leastTable_13 : decode cX2_leastTable 13 = .ok (.iload_n 2, 1) := dc0 dO_28 (by decide +kernel)
theorem dX2_leastTable_14 : decode cX2_leastTable 14 = .ok (.ldc 105, 2) := dcU1 dO_18 (by decide +kernel)
theorem dX2_leastTable_16 : decode cX2_leastTable 16 = .ok (.iand, 1) := dc0 dO_126 (by decide +kernel)
theorem dX2_leastTable_17 : decode cX2_leastTable 17 = .ok (.ifCond .eq 10, 3) := dcS2 dO_153 (by decide +kernel)
theorem dX2_leastTable_20 : decode cX2_leastTable 20 = .ok (.aload_n 0, 1) := dc0 dO_42 (by decide +kernel)
theorem dX2_leastTable_21 : decode cX2_leastTable 21 = .ok (.getfield 98, 3) := dcU2 dO_180 (by decide +kernel)
theorem dX2_leastTable_24 : decode cX2_leastTable 24 = .ok (.goto 9, 3) := dcS2 dO_167 (by decide +kernel)
theorem dX2_leastTable_27 : decode cX2_leastTable 27 = .ok (.aload_n 0, 1) := dc0 dO_42 (by decide +kernel)
theorem dX2_leastTable_28 : decode cX2_leastTable 28 = .ok (.getfield 98, 3) := dcU2 dO_180 (by decide +kernel)
theorem dX2_leastTable_31 : decode cX2_leastTable 31 = .ok (.iconst 1, 1) := dc0 dO_4 (by decide +kernel)
theorem dX2_leastTable_32 : decode cX2_leastTable 32 = .ok (.iadd, 1) := dc0 dO_96 (by decide +kernel)
theorem dX2_leastTable_33 : decode cX2_leastTable 33 = .ok (.ireturn, 1) := dc0 dO_172 (by decide +kernel)
theorem dX3_carry_0 : decode cX3_carry 0 = .ok (.iload_n 1, 1) := dc0 dO_27 (by decide +kernel)
theorem dX3_carry_1 : decode cX3_carry 1 = .ok (.sipush 192, 3) := dcS2 dO_17 (by decide +kernel)
theorem dX3_carry_4 : decode cX3_carry 4 = .ok (.iand, 1) := dc0 dO_126 (by decide +kernel)
theorem dX3_carry_5 : decode cX3_carry 5 = .ok (.sipush 192, 3) := dcS2 dO_17 (by decide +kernel)
theorem dX3_carry_8 : decode cX3_carry 8 = .ok (.if_icmp .ne 23, 3) := dcS2 dO_160 (by decide +kernel)
theorem dX3_carry_11 : decode cX3_carry 11 = .ok (.aload_n 0, 1) := dc0 dO_42 (by decide +kernel)
theorem dX3_carry_12 : decode cX3_carry 12 = .ok (.getfield 15, 3) := dcU2 dO_180 (by decide +kernel)
theorem dX3_carry_15 : decode cX3_carry 15 = .ok (.aload_n 0, 1) := dc0 dO_42 (by decide +kernel)
theorem dX3_carry_16 : decode cX3_carry 16 = .ok (.getfield 79, 3) := dcU2 dO_180 (by decide +kernel)
theorem dX3_carry_19 : decode cX3_carry 19 = .ok (.iload_n 2, 1) := dc0 dO_28 (by decide +kernel)
theorem dX3_carry_20 : decode cX3_carry 20 = .ok (.iastore, 1) := dc0 dO_79 (by decide +kernel)
theorem dX3_carry_21 : decode cX3_carry 21 = .ok (.aload_n 0, 1) := dc0 dO_42 (by decide +kernel)
theorem dX3_carry_22 : decode cX3_carry 22 = .ok (.dup, 1) := dc0 dO_89 (by decide +kernel)
theorem dX3_carry_23 : decode cX3_carry 23 = .ok (.getfield 79, 3) := dcU2 dO_180 (by decide +kernel)
theorem dX3_carry_26 : decode cX3_carry 26 = .ok (.iconst 1, 1) := dc0 dO_4 (by decide +kernel)
theorem dX3_carry_27 : decode cX3_carry 27 = .ok (.iadd, 1) := dc0 dO_96 (by decide +kernel)
theorem dX3_carry_28 : decode cX3_carry 28 = .ok (.putfield 79, 3) := dcU2 dO_181 (by decide +kernel)
theorem dX3_carry_31 : decode cX3_carry 31 = .ok (.return_, 1) := dc0 dO_177 (by decide +kernel)
theorem dX3_read_0 : decode cX3_read 0 = .ok (.aload_n 0, 1) := dc0 dO_42 (by decide +kernel)
theorem dX3_read_1 : decode cX3_read 1 = .ok (.aload_n 1, 1) := dc0 dO_43 (by decide +kernel)
theorem dX3_read_2 : decode cX3_read 2 = .ok (.putfield 41, 3) := dcU2 dO_181 (by decide +kernel)
theorem dX3_read_5 : decode cX3_read 5 = .ok (.aload_n 0, 1) := dc0 dO_42 (by decide +kernel)
theorem dX3_read_6 : decode cX3_read 6 = .ok (.invokevirtual 44, 3) := dcU2 dO_182 (by decide +kernel)
theorem dX3_read_9 : decode cX3_read 9 = .ok (.aload_n 0, 1) := dc0 dO_42 (by decide +kernel)
theorem dX3_read_10 : decode cX3_read 10 = .ok (.iload_n 2, 1) := dc0 dO_28 (by decide +kernel)
theorem dX3_read_11 : decode cX3_read 11 = .ok (.invokevirtual 47, 3) := dcU2 dO_182 (by decide +kernel)
theorem dX3_read_14 : decode cX3_read 14 = .ok (.aload_n 0, 1) := dc0 dO_42 (by decide +kernel)
theorem dX3_read_15 : decode cX3_read 15 = .ok (.getfield 22, 3) := dcU2 dO_180 (by decide +kernel)
theorem dX3_read_18 : decode cX3_read 18 = .ok (.iconst 1, 1) := dc0 dO_4 (by decide +kernel)
theorem dX3_read_19 : decode cX3_read 19 = .ok (.iaload, 1) := dc0 dO_46 (by decide +kernel)
theorem dX3_read_20 : decode cX3_read 20 = .ok (.ldc 21, 2) := dcU1 dO_18 (by decide +kernel)
theorem dX3_read_22 : decode cX3_read 22 = .ok (.if_icmp .eq 5, 3) := dcS2 dO_159 (by decide +kernel)
theorem dX3_read_25 : decode cX3_read 25 = .ok (.iconst 1, 1) := dc0 dO_4 (by decide +kernel)
theorem dX3_read_26 : decode cX3_read 26 = .ok (.ireturn, 1) := dc0 dO_172 (by decide +kernel)
theorem dX3_read_27 : decode cX3_read 27 = .ok (.aload_n 0, 1) := dc0 dO_42 (by decide +kernel)
theorem dX3_read_28 : decode cX3_read 28 = .ok (.iconst 1, 1) := dc0 dO_4 (by decide +kernel)
theorem dX3_read_29 : decode cX3_read 29 = .ok (.putfield 51, 3) := dcU2 dO_181 (by decide +kernel)
theorem dX3_read_32 : decode cX3_read 32 = .ok (.aload_n 0, 1) := dc0 dO_42 (by decide +kernel)
theorem dX3_read_33 : decode cX3_read 33 = .ok (.getfield 28, 3) := dcU2 dO_180 (by decide +kernel)
theorem dX3_read_36 : decode cX3_read 36 = .ok (.iconst 0, 1) := dc0 dO_3 (by decide +kernel)
theorem dX3_read_37 : decode cX3_read 37 = .ok (.putfield 55, 3) := dcU2 dO_181 (by decide +kernel)
theorem dX3_read_40 : decode cX3_read 40 = .ok (.iconst 0, 1) := dc0 dO_3 (by decide +kernel)
theorem dX3_read_41 : decode cX3_read 41 = .ok (.istore_n 3, 1) := dc0 dO_62 (by decide +kernel)
theorem dX3_read_42 : decode cX3_read 42 = .ok (.iload_n 3, 1) := dc0 dO_29 (by decide +kernel)
theorem dX3_read_43 : decode cX3_read 43 = .ok (.aload_n 0, 1) := dc0 dO_42 (by decide +kernel)
theorem dX3_read_44 : decode cX3_read 44 = .ok (.getfield 59, 3) := dcU2 dO_180 (by decide +kernel)
theorem dX3_read_47 : decode cX3_read 47 = .ok (.if_icmp .ge 22, 3) := dcS2 dO_162 (by decide +kernel)
theorem dX3_read_50 : decode cX3_read 50 = .ok (.aload_n 0, 1) := dc0 dO_42 (by decide +kernel)
theorem dX3_read_51 : decode cX3_read 51 = .ok (.getfield 28, 3) := dcU2 dO_180 (by decide +kernel)
theorem dX3_read_54 : decode cX3_read 54 = .ok (.aload_n 0, 1) := dc0 dO_42 (by decide +kernel)
theorem dX3_read_55 : decode cX3_read 55 = .ok (.getfield 18, 3) := dcU2 dO_180 (by decide +kernel)
theorem dX3_read_58 : decode cX3_read 58 = .ok (.iload_n 3, 1) := dc0 dO_29 (by decide +kernel)
theorem dX3_read_59 : decode cX3_read 59 = .ok (.iaload, 1) := dc0 dO_46 (by decide +kernel)
theorem dX3_read_60 : decode cX3_read 60 = .ok (.invokevirtual 60, 3) := dcU2 dO_182 (by decide +kernel)
theorem dX3_read_63 : decode cX3_read 63 = .ok (.iinc 3 1, 3) := dcI dO_132 (by decide +kernel)
theorem dX3_read_66 : decode cX3_read 66 = .ok (.goto (-24), 3) := dcS2 dO_167 (by decide +kernel)
theorem dX3_read_69 : decode cX3_read 69 = .ok (.aload_n 0, 1) := dc0 dO_42 (by decide +kernel)
theorem dX3_read_70 : decode cX3_read 70 = .ok (.getfield 22, 3) := dcU2 dO_180 (by decide +kernel)
theorem dX3_read_73 : decode cX3_read 73 = .ok (.iconst 2, 1) := dc0 dO_5 (by decide +kernel)
theorem dX3_read_74 : decode cX3_read 74 = .ok (.iaload, 1) := dc0 dO_46 (by decide +kernel)
theorem dX3_read_75 : decode cX3_read 75 = .ok (.ldc 21, 2) := dcU1 dO_18 (by decide +kernel)
theorem dX3_read_77 : decode cX3_read 77 = .ok (.if_icmp .eq 23, 3) := dcS2 dO_159 (by decide +kernel)
theorem dX3_read_80 : decode cX3_read 80 = .ok (.aload_n 0, 1) := dc0 dO_42 (by decide +kernel)
theorem dX3_read_81 : decode cX3_read 81 = .ok (.dup, 1) := dc0 dO_89 (by decide +kernel)
theorem dX3_read_82 : decode cX3_read 82 = .ok (.getfield 63, 3) := dcU2 dO_180 (by decide +kernel)
theorem dX3_read_85 : decode cX3_read 85 = .ok (.aload_n 0, 1) := dc0 dO_42 (by decide +kernel)
theorem dX3_read_86 : decode cX3_read 86 = .ok (.getfield 66, 3) := dcU2 dO_180 (by decide +kernel)
theorem dX3_read_89 : decode cX3_read 89 = .ok (.iadd, 1) := dc0 dO_96 (by decide +kernel)
theorem dX3_read_90 : decode cX3_read 90 = .ok (.putfield 63, 3) := dcU2 dO_181 (by decide +kernel)
theorem dX3_read_93 : decode cX3_read 93 = .ok (.aload_n 0, 1) := dc0 dO_42 (by decide +kernel)
theorem dX3_read_94 : decode cX3_read 94 = .ok (.iconst 0, 1) := dc0 dO_3 (by decide +kernel)
theorem dX3_read_95 : decode cX3_read 95 = .ok (.putfield 66, 3) := dcU2 dO_181 (by decide +kernel)
theorem dX3_read_98 : decode cX3_read 98 = .ok (.iconst 2, 1) := dc0 dO_5 (by decide +kernel)
theorem dX3_read_99 : decode cX3_read 99 = .ok (.ireturn, 1) := dc0 dO_172 (by decide +kernel)
theorem dX3_read_100 : decode cX3_read 100 = .ok (.aload_n 0, 1) := dc0 dO_42 (by decide +kernel)
theorem dX3_read_101 : decode cX3_read 101 = .ok (.getfield 22, 3) := dcU2 dO_180 (by decide +kernel)
theorem dX3_read_104 : decode cX3_read 104 = .ok (.iconst 3, 1) := dc0 dO_6 (by decide +kernel)
theorem dX3_read_105 : decode cX3_read 105 = .ok (.iaload, 1) := dc0 dO_46 (by decide +kernel)
theorem dX3_read_106 : decode cX3_read 106 = .ok (.ldc 21, 2) := dcU1 dO_18 (by decide +kernel)
theorem dX3_read_108 : decode cX3_read 108 = .ok (.if_icmp .eq 7, 3) := dcS2 dO_159 (by decide +kernel)
theorem dX3_read_111 : decode cX3_read 111 = .ok (.iconst 3, 1) := dc0 dO_6 (by decide +kernel)
theorem dX3_read_112 : decode cX3_read 112 = .ok (.goto 4, 3) := dcS2 dO_167 (by decide +kernel)
theorem dX3_read_115 : decode cX3_read 115 = .ok (.iconst 0, 1) := dc0 dO_3 (by decide +kernel)
theorem dX3_read_116 : decode cX3_read 116 = .ok (.ireturn, 1) := dc0 dO_172 (by decide +kernel)
theorem dX3_readAttribute_0 : decode cX3_readAttribute 0 = .ok (.aload_n 0, 1) := dc0 dO_42 (by decide +kernel)
theorem dX3_readAttribute_1 : decode cX3_readAttribute 1 = .ok (.getfield 41, 3) := dcU2 dO_180 (by decide +kernel)
theorem dX3_readAttribute_4 : decode cX3_readAttribute 4 = .ok (.iload_n 1, 1) := dc0 dO_27 (by decide +kernel)
theorem dX3_readAttribute_5 : decode cX3_readAttribute 5 = .ok (.iaload, 1) := dc0 dO_46 (by decide +kernel)
theorem dX3_readAttribute_6 : decode cX3_readAttribute 6 = .ok (.istore 4, 2) := dcU1 dO_54 (by decide +kernel)
theorem dX3_readAttribute_8 : decode cX3_readAttribute 8 = .ok (.iload 4, 2) := dcU1 dO_21 (by decide +kernel)
theorem dX3_readAttribute_10 : decode cX3_readAttribute 10 = .ok (.sipush 207, 3) := dcS2 dO_17 (by decide +kernel)
theorem dX3_readAttribute_13 : decode cX3_readAttribute 13 = .ok (.iand, 1) := dc0 dO_126 (by decide +kernel)
theorem dX3_readAttribute_14 : decode cX3_readAttribute 14 = .ok (.istore 5, 2) := dcU1 dO_54 (by decide +kernel)
theorem dX3_readAttribute_16 : decode cX3_readAttribute 16 = .ok (.aload_n 0, 1) := dc0 dO_42 (by decide +kernel)
theorem dX3_readAttribute_17 : decode cX3_readAttribute 17 = .ok (.getfield 41, 3) := dcU2 dO_180 (by decide +kernel)
theorem dX3_readAttribute_20 : decode cX3_readAttribute 20 = .ok (.iload_n 1, 1) := dc0 dO_27 (by decide +kernel)
theorem dX3_readAttribute_21 : decode cX3_readAttribute 21 = .ok (.iconst 1, 1) := dc0 dO_4 (by decide +kernel)
theorem dX3_readAttribute_22 : decode cX3_readAttribute 22 = .ok (.iadd, 1) := dc0 dO_96 (by decide +kernel)
theorem dX3_readAttribute_23 : decode cX3_readAttribute 23 = .ok (.iaload, 1) := dc0 dO_46 (by decide +kernel)
theorem dX3_readAttribute_24 : decode cX3_readAttribute 24 = .ok (.istore 6, 2) := dcU1 dO_54 (by decide +kernel)
theorem dX3_readAttribute_26 : decode cX3_readAttribute 26 = .ok (.aload_n 0, 1) := dc0 dO_42 (by decide +kernel)
theorem dX3_readAttribute_27 : decode cX3_readAttribute 27 = .ok (.getfield 11, 3) := dcU2 dO_180 (by decide +kernel)
theorem dX3_readAttribute_30 : decode cX3_readAttribute 30 = .ok (.iload 6, 2) := dcU1 dO_21 (by decide +kernel)
theorem dX3_readAttribute_32 : decode cX3_readAttribute 32 = .ok (.iaload, 1) := dc0 dO_46 (by decide +kernel)
theorem dX3_readAttribute_33 : decode cX3_readAttribute 33 = .ok (.ifCond .eq 10, 3) := dcS2 dO_153 (by decide +kernel)
theorem dX3_readAttribute_36 : decode cX3_readAttribute 36 = .ok (.aload_n 0, 1) := dc0 dO_42 (by decide +kernel)
theorem dX3_readAttribute_37 : decode cX3_readAttribute 37 = .ok (.iconst 3, 1) := dc0 dO_6 (by decide +kernel)
theorem dX3_readAttribute_38 : decode cX3_readAttribute 38 = .ok (.iload_n 1, 1) := dc0 dO_27 (by decide +kernel)
theorem dX3_readAttribute_39 : decode cX3_readAttribute 39 = .ok (.invokevirtual 92, 3) := dcU2 dO_182 (by decide +kernel)
theorem dX3_readAttribute_42 : decode cX3_readAttribute 42 = .ok (.return_, 1) := dc0 dO_177 (by decide +kernel)
theorem dX3_readAttribute_43 : decode cX3_readAttribute 43 = .ok (.aload_n 0, 1) := dc0 dO_42 (by decide +kernel)
theorem dX3_readAttribute_44 : decode cX3_readAttribute 44 = .ok (.getfield 11, 3) := dcU2 dO_180 (by decide +kernel)
theorem dX3_readAttribute_47 : decode cX3_readAttribute 47 = .ok (.iload 6, 2) := dcU1 dO_21 (by decide +kernel)
theorem dX3_readAttribute_49 : decode cX3_readAttribute 49 = .ok (.iconst 1, 1) := dc0 dO_4 (by decide +kernel)
theorem dX3_readAttribute_50 : decode cX3_readAttribute 50 = .ok (.iastore, 1) := dc0 dO_79 (by decide +kernel)
theorem dX3_readAttribute_51 : decode cX3_readAttribute 51 = .ok (.iload 6, 2) := dcU1 dO_21 (by decide +kernel)
theorem dX3_readAttribute_53 : decode cX3_readAttribute 53 = .ok (.tableswitch 169 1 8 #[47, 81, 169, 115, 169, 169, 169, 142], 47) := by decide +kernel
theorem dX3_readAttribute_100 : decode cX3_readAttribute 100 = .ok (.aload_n 0, 1) := dc0 dO_42 (by decide +kernel)
theorem dX3_readAttribute_101 : decode cX3_readAttribute 101 = .ok (.iload 5, 2) := dcU1 dO_21 (by decide +kernel)
theorem dX3_readAttribute_103 : decode cX3_readAttribute 103 = .ok (.bipush 64, 2) := dcS1 dO_16 (by decide +kernel)
theorem dX3_readAttribute_105 : decode cX3_readAttribute 105 = .ok (.if_icmp .ne 16, 3) := dcS2 dO_160 (by decide +kernel)
theorem dX3_readAttribute_108 : decode cX3_readAttribute 108 = .ok (.aload_n 0, 1) := dc0 dO_42 (by decide +kernel)
theorem dX3_readAttribute_109 : decode cX3_readAttribute 109 = .ok (.iload_n 2, 1) := dc0 dO_28 (by decide +kernel)
theorem dX3_readAttribute_110 : decode cX3_readAttribute 110 = .ok (.iload_n 3, 1) := dc0 dO_29 (by decide +kernel)
theorem dX3_readAttribute_111 : decode cX3_readAttribute 111 = .ok (.invokevirtual 111, 3) := dcU2 dO_182 (by decide +kernel)
theorem dX3_readAttribute_114 : decode cX3_readAttribute 114 = .ok (.ifCond .eq 7, 3) := dcS2 dO_153 (by decide +kernel)
theorem dX3_readAttribute_117 : decode cX3_readAttribute 117 = .ok (.iconst 1, 1) := dc0 dO_4 (by decide +kernel)
theorem dX3_readAttribute_118 : decode cX3_readAttribute 118 = .ok (.goto 4, 3) := dcS2 dO_167 (by decide +kernel)
theorem dX3_readAttribute_121 : decode cX3_readAttribute 121 = .ok (.iconst 0, 1) := dc0 dO_3 (by decide +kernel)
theorem dX3_readAttribute_122 : decode cX3_readAttribute 122 = .ok (.putfield 82, 3) := dcU2 dO_181 (by decide +kernel)
theorem dX3_readAttribute_125 : decode cX3_readAttribute 125 = .ok (.aload_n 0, 1) := dc0 dO_42 (by decide +kernel)
theorem dX3_readAttribute_126 : decode cX3_readAttribute 126 = .ok (.getfield 82, 3) := dcU2 dO_180 (by decide +kernel)
theorem sfx_cX3_readAttribute_128 : (cX3_readAttribute.data.toList.drop 128).take 67 = [82, 54, 7, 167, 0, 115, 42, 21, 5, 16, 64, 160, 0, 16, 42, 28, 29, 182, 0, 115, 153, 0, 7, 4, 167, 0, 4, 3, 181, 0, 85, 42, 180, 0, 85, 54, 7, 167, 0, 81, 21, 5, 17, 0, 128, 160, 0, 16, 42, 28, 29, 182, 0, 118, 153, 0, 7, 4, 167, 0, 4, 3, 54, 7, 167, 0, 54] := by decide +kernel
theorem dX3_readAttribute_129 : decode cX3_readAttribute 129 = .ok (.istore 7, 2) := dcU1 dO_54 (rdU1.ch sfx_cX3_readAttribute_128 1 rfl (by decide +kernel))
theorem dX3_readAttribute_131 : decode cX3_readAttribute 131 = .ok (.goto 115, 3) := dcS2 dO_167 (rdS2.ch sfx_cX3_readAttribute_128 3 rfl (by decide +kernel))
theorem dX3_readAttribute_134 : decode cX3_readAttribute 134 = .ok (.aload_n 0, 1) := dc0 dO_42 (rdB.ch sfx_cX3_readAttribute_128 6 rfl (by decide +kernel))
theorem dX3_readAttribute_135 : decode cX3_readAttribute 135 = .ok (.iload 5, 2) := dcU1 dO_21 (rdU1.ch sfx_cX3_readAttribute_128 7 rfl (by decide +kernel))
theorem dX3_readAttribute_137 : decode cX3_readAttribute 137 = .ok (.bipush 64, 2) := dcS1 dO_16 (rdS1.ch sfx_cX3_readAttribute_128 9 rfl (by decide +kernel))
theorem dX3_readAttribute_139 : decode cX3_readAttribute 139 = .ok (.if_icmp .ne 16, 3) := dcS2 dO_160 (rdS2.ch sfx_cX3_readAttribute_128 11 rfl (by decide +kernel))
theorem dX3_readAttribute_142 : decode cX3_readAttribute 142 = .ok (.aload_n 0, 1) := dc0 dO_42 (rdB.ch sfx_cX3_readAttribute_128 14 rfl (by decide +kernel))
theorem dX3_readAttribute_143 : decode cX3_readAttribute 143 = .ok (.iload_n 2, 1) := dc0 dO_28 (rdB.ch sfx_cX3_readAttribute_128 15 rfl (by decide +kernel))
theorem dX3_readAttribute_144 : decode cX3_readAttribute 144 = .ok (.iload_n 3, 1) := dc0 dO_29 (rdB.ch sfx_cX3_readAttribute_128 16 rfl (by decide +kernel))
theorem dX3_readAttribute_145 : decode cX3_readAttribute 145 = .ok (.invokevirtual 115, 3) := dcU2 dO_182 (rdU2.ch sfx_cX3_readAttribute_128 17 rfl (by decide +kernel))
theorem dX3_readAttribute_148 : decode cX3_readAttribute 148 = .ok (.ifCond .eq 7, 3) := dcS2 dO_153 (rdS2.ch sfx_cX3_readAttribute_128 20 rfl (by decide +kernel))
theorem dX3_readAttribute_151 : decode cX3_readAttribute 151 = .ok (.iconst 1, 1) := dc0 dO_4 (rdB.ch sfx_cX3_readAttribute_128 23 rfl (by decide +kernel))
theorem dX3_readAttribute_152 : decode cX3_readAttribute 152 = .ok (.goto 4, 3) := dcS2 dO_167 (rdS2.ch sfx_cX3_readAttribute_128 24 rfl (by decide +kernel))
theorem dX3_readAttribute_155 : decode cX3_readAttribute 155 = .ok (.iconst 0, 1) := dc0 dO_3 (rdB.ch sfx_cX3_readAttribute_128 27 rfl (by decide +kernel))
theorem dX3_readAttribute_156 : decode cX3_readAttribute 156 = .ok (.putfield 85, 3) := dcU2 dO_181 (rdU2.ch sfx_cX3_readAttribute_128 28 rfl (by decide +kernel))
theorem dX3_readAttribute_159 : decode cX3_readAttribute 159 = .ok (.aload_n 0, 1) := dc0 dO_42 (rdB.ch sfx_cX3_readAttribute_128 31 rfl (by decide +kernel))
theorem dX3_readAttribute_160 : decode cX3_readAttribute 160 = .ok (.getfield 85, 3) := dcU2 dO_180 (rdU2.ch sfx_cX3_readAttribute_128 32 rfl (by decide +kernel))
theorem dX3_readAttribute_163 : decode cX3_readAttribute 163 = .ok (.istore 7, 2) := dcU1 dO_54 (rdU1.ch sfx_cX3_readAttribute_128 35 rfl (by decide +kernel))
theorem dX3_readAttribute_165 : decode cX3_readAttribute 165 = .ok (.goto 81, 3) := dcS2 dO_167 (rdS2.ch sfx_cX3_readAttribute_128 37 rfl (by decide +kernel))
theorem dX3_readAttribute_168 : decode cX3_readAttribute 168 = .ok (.iload 5, 2) := dcU1 dO_21 (rdU1.ch sfx_cX3_readAttribute_128 40 rfl (by decide +kernel))
theorem dX3_readAttribute_170 : decode cX3_readAttribute 170 = .ok (.sipush 128, 3) := dcS2 dO_17 (rdS2.ch sfx_cX3_readAttribute_128 42 rfl (by decide +kernel))
theorem dX3_readAttribute_173 : decode cX3_readAttribute 173 = .ok (.if_icmp .ne 16, 3) := dcS2 dO_160 (rdS2.ch sfx_cX3_readAttribute_128 45 rfl (by decide +kernel))
theorem dX3_readAttribute_176 : decode cX3_readAttribute 176 = .ok (.aload_n 0, 1) := dc0 dO_42 (rdB.ch sfx_cX3_readAttribute_128 48 rfl (by decide +kernel))
theorem dX3_readAttribute_177 : decode cX3_readAttribute 177 = .ok (.iload_n 2, 1) := dc0 dO_28 (rdB.ch sfx_cX3_readAttribute_128 49 rfl (by decide +kernel))
theorem dX3_readAttribute_178 : decode cX3_readAttribute 178 = .ok (.iload_n 3, 1) := dc0 dO_29 (rdB.ch sfx_cX3_readAttribute_128 50 rfl (by decide +kernel))
theorem dX3_readAttribute_179 : decode cX3_readAttribute 179 = .ok (.invokevirtual 118, 3) := dcU2 dO_182 (rdU2.ch sfx_cX3_readAttribute_128 51 rfl (by decide +kernel))
theorem dX3_readAttribute_182 : decode cX3_readAttribute 182 = .ok (.ifCond .eq 7, 3) := dcS2 dO_153 (rdS2.ch sfx_cX3_readAttribute_128 54 rfl (by decide +kernel))
theorem dX3_readAttribute_185 : decode cX3_readAttribute 185 = .ok (.iconst 1, 1) := dc0 dO_4 (rdB.ch sfx_cX3_readAttribute_128 57 rfl (by decide +kernel))
theorem dX3_readAttribute_186 : decode cX3_readAttribute 186 = .ok (.goto 4, 3) := dcS2 dO_167 (rdS2.ch sfx_cX3_readAttribute_128 58 rfl (by decide +kernel))
theorem dX3_readAttribute_189 : decode cX3_readAttribute 189 = .ok (.iconst 0, 1) := dc0 dO_3 (rdB.ch sfx_cX3_readAttribute_128 61 rfl (by decide +kernel))
theorem dX3_readAttribute_190 : decode cX3_readAttribute 190 = .ok (.istore 7, 2) := dcU1 dO_54 (rdU1.ch sfx_cX3_readAttribute_128 62 rfl (by decide +kernel))
theorem sfx_cX3_readAttribute_192 : (cX3_readAttribute.data.toList.drop 192).take 67 = [167, 0, 54, 21, 5, 17, 0, 192, 160, 0, 16, 42, 28, 29, 182, 0, 121, 153, 0, 7, 4, 167, 0, 4, 3, 54, 7, 167, 0, 27, 21, 4, 17, 0, 128, 126, 153, 0, 7, 4, 167, 0, 4, 3, 54, 7, 42, 21, 4, 21, 6, 182, 0, 124, 21, 7, 154, 0, 9, 42, 5, 27, 182, 0, 92, 177] := by decide +kernel
theorem dX3_readAttribute_192 : decode cX3_readAttribute 192 = .ok (.goto 54, 3) := dcS2 dO_167 (rdS2.ch sfx_cX3_readAttribute_192 0 rfl (by decide +kernel))
theorem dX3_readAttribute_195 : decode cX3_readAttribute 195 = .ok (.iload 5, 2) := dcU1 dO_21 (rdU1.ch sfx_cX3_readAttribute_192 3 rfl (by decide +kernel))
theorem dX3_readAttribute_197 : decode cX3_readAttribute 197 = .ok (.sipush 192, 3) := dcS2 dO_17 (rdS2.ch sfx_cX3_readAttribute_192 5 rfl (by decide +kernel))
theorem dX3_readAttribute_200 : decode cX3_readAttribute 200 = .ok (.if_icmp .ne 16, 3) := dcS2 dO_160 (rdS2.ch sfx_cX3_readAttribute_192 8 rfl (by decide +kernel))
theorem dX3_readAttribute_203 : decode cX3_readAttribute 203 = .ok (.aload_n 0, 1) := dc0 dO_42 (rdB.ch sfx_cX3_readAttribute_192 11 rfl (by decide +kernel))
theorem dX3_readAttribute_204 : decode cX3_readAttribute 204 = .ok (.iload_n 2, 1) := dc0 dO_28 (rdB.ch sfx_cX3_readAttribute_192 12 rfl (by decide +kernel))
theorem dX3_readAttribute_205 : decode cX3_readAttribute 205 = .ok (.iload_n 3, 1) := dc0 dO_29 (rdB.ch sfx_cX3_readAttribute_192 13 rfl (by decide +kernel))
theorem dX3_readAttribute_206 : decode cX3_readAttribute 206 = .ok (.invokevirtual 121, 3) := dcU2 dO_182 (rdU2.ch sfx_cX3_readAttribute_192 14 rfl (by decide +kernel))
theorem dX3_readAttribute_209 : decode cX3_readAttribute 209 = .ok (.ifCond .eq 7, 3) := dcS2 dO_153 (rdS2.ch sfx_cX3_readAttribute_192 17 rfl (by decide +kernel))
theorem dX3_readAttribute_212 : decode cX3_readAttribute 212 = .ok (.iconst 1, 1) := dc0 dO_4 (rdB.ch sfx_cX3_readAttribute_192 20 rfl (by decide +kernel))
theorem dX3_readAttribute_213 : decode cX3_readAttribute 213 = .ok (.goto 4, 3) := dcS2 dO_167 (rdS2.ch sfx_cX3_readAttribute_192 21 rfl (by decide +kernel))
theorem dX3_readAttribute_216 : decode cX3_readAttribute 216 = .ok (.iconst 0, 1) := dc0 dO_3 (rdB.ch sfx_cX3_readAttribute_192 24 rfl (by decide +kernel))
theorem dX3_readAttribute_217 : decode cX3_readAttribute 217 = .ok (.istore 7, 2) := dcU1 dO_54 (rdU1.ch sfx_cX3_readAttribute_192 25 rfl (by decide +kernel))
theorem dX3_readAttribute_219 : decode cX3_readAttribute 219 = .ok (.goto 27, 3) := dcS2 dO_167 (rdS2.ch sfx_cX3_readAttribute_192 27 rfl (by decide +kernel))
theorem dX3_readAttribute_222 : decode cX3_readAttribute 222 = .ok (.iload 4, 2) := dcU1 dO_21 (rdU1.ch sfx_cX3_readAttribute_192 30 rfl (by decide +kernel))
theorem dX3_readAttribute_224 : decode cX3_readAttribute 224 = .ok (.sipush 128, 3) := dcS2 dO_17 (rdS2.ch sfx_cX3_readAttribute_192 32 rfl (by decide +kernel))
theorem dX3_readAttribute_227 : decode cX3_readAttribute 227 = .ok (.iand, 1) := dc0 dO_126 (rdB.ch sfx_cX3_readAttribute_192 35 rfl (by decide +kernel))
theorem dX3_readAttribute_228 : decode cX3_readAttribute 228 = .ok (.ifCond .eq 7, 3) := dcS2 dO_153 (rdS2.ch sfx_cX3_readAttribute_192 36 rfl (by decide +kernel))
theorem dX3_readAttribute_231 : decode cX3_readAttribute 231 = .ok (.iconst 1, 1) := dc0 dO_4 (rdB.ch sfx_cX3_readAttribute_192 39 rfl (by decide +kernel))
theorem dX3_readAttribute_232 : decode cX3_readAttribute 232 = .ok (.goto 4, 3) := dcS2 dO_167 (rdS2.ch sfx_cX3_readAttribute_192 40 rfl (by decide +kernel))
theorem dX3_readAttribute_235 : decode cX3_readAttribute 235 = .ok (.iconst 0, 1) := dc0 dO_3 (rdB.ch sfx_cX3_readAttribute_192 43 rfl (by decide +kernel))
theorem dX3_readAttribute_236 : decode cX3_readAttribute 236 = .ok (.istore 7, 2) := dcU1 dO_54 (rdU1.ch sfx_cX3_readAttribute_192 44 rfl (by decide +kernel))
theorem dX3_readAttribute_238 : decode cX3_readAttribute 238 = .ok (.aload_n 0, 1) := dc0 dO_42 (rdB.ch sfx_cX3_readAttribute_192 46 rfl (by decide +kernel))
theorem dX3_readAttribute_239 : decode cX3_readAttribute 239 = .ok (.iload 4, 2) := dcU1 dO_21 (rdU1.ch sfx_cX3_readAttribute_192 47 rfl (by decide +kernel))
theorem dX3_readAttribute_241 : decode cX3_readAttribute 241 = .ok (.iload 6, 2) := dcU1 dO_21 (rdU1.ch sfx_cX3_readAttribute_192 49 rfl (by decide +kernel))
theorem dX3_readAttribute_243 : decode cX3_readAttribute 243 = .ok (.invokevirtual 124, 3) := dcU2 dO_182 (rdU2.ch sfx_cX3_readAttribute_192 51 rfl (by decide +kernel))
theorem dX3_readAttribute_246 : decode cX3_readAttribute 246 = .ok (.iload 7, 2) := dcU1 dO_21 (rdU1.ch sfx_cX3_readAttribute_192 54 rfl (by decide +kernel))
theorem dX3_readAttribute_248 : decode cX3_readAttribute 248 = .ok (.ifCond .ne 9, 3) := dcS2 dO_154 (rdS2.ch sfx_cX3_readAttribute_192 56 rfl (by decide +kernel))
theorem dX3_readAttribute_251 : decode cX3_readAttribute 251 = .ok (.aload_n 0, 1) := dc0 dO_42 (rdB.ch sfx_cX3_readAttribute_192 59 rfl (by decide +kernel))
theorem dX3_readAttribute_252 : decode cX3_readAttribute 252 = .ok (.iconst 2, 1) := dc0 dO_5 (rdB.ch sfx_cX3_readAttribute_192 60 rfl (by decide +kernel))
theorem dX3_readAttribute_253 : decode cX3_readAttribute 253 = .ok (.iload_n 1, 1) := dc0 dO_27 (rdB.ch sfx_cX3_readAttribute_192 61 rfl (by decide +kernel))
theorem dX3_readAttribute_254 : decode cX3_readAttribute 254 = .ok (.invokevirtual 92, 3) := dcU2 dO_182 (rdU2.ch sfx_cX3_readAttribute_192 62 rfl (by decide +kernel))
theorem sfx_cX3_readAttribute_256 : (cX3_readAttribute.data.toList.drop 256).take 67 = [92, 177] := by decide +kernel
theorem dX3_readAttribute_257 : decode cX3_readAttribute 257 = .ok (.return_, 1) := dc0 dO_177 (rdB.ch sfx_cX3_readAttribute_256 1 rfl (by decide +kernel))
theorem dX3_readAttributes_0 : decode cX3_readAttributes 0 = .ok (.iload_n 1, 1) := dc0 dO_27 (by decide +kernel)
theorem dX3_readAttributes_1 : decode cX3_readAttributes 1 = .ok (.istore_n 3, 1) := dc0 dO_62 (by decide +kernel)
theorem dX3_readAttributes_2 : decode cX3_readAttributes 2 = .ok (.iload_n 3, 1) := dc0 dO_29 (by decide +kernel)
theorem dX3_readAttributes_3 : decode cX3_readAttributes 3 = .ok (.iload_n 2, 1) := dc0 dO_28 (by decide +kernel)
theorem dX3_readAttributes_4 : decode cX3_readAttributes 4 = .ok (.if_icmp .ge 108, 3) := dcS2 dO_162 (by decide +kernel)
theorem dX3_readAttributes_7 : decode cX3_readAttributes 7 = .ok (.aload_n 0, 1) := dc0 dO_42 (by decide +kernel)
theorem dX3_readAttributes_8 : decode cX3_readAttributes 8 = .ok (.getfield 41, 3) := dcU2 dO_180 (by decide +kernel)
theorem dX3_readAttributes_11 : decode cX3_readAttributes 11 = .ok (.iload_n 3, 1) := dc0 dO_29 (by decide +kernel)
theorem dX3_readAttributes_12 : decode cX3_readAttributes 12 = .ok (.iaload, 1) := dc0 dO_46 (by decide +kernel)
theorem dX3_readAttributes_13 : decode cX3_readAttributes 13 = .ok (.bipush 16, 2) := dcS1 dO_16 (by decide +kernel)
theorem dX3_readAttributes_15 : decode cX3_readAttributes 15 = .ok (.iand, 1) := dc0 dO_126 (by decide +kernel)
theorem dX3_readAttributes_16 : decode cX3_readAttributes 16 = .ok (.ifCond .eq 7, 3) := dcS2 dO_153 (by decide +kernel)
theorem dX3_readAttributes_19 : decode cX3_readAttributes 19 = .ok (.iconst 1, 1) := dc0 dO_4 (by decide +kernel)
theorem dX3_readAttributes_20 : decode cX3_readAttributes 20 = .ok (.goto 4, 3) := dcS2 dO_167 (by decide +kernel)
theorem dX3_readAttributes_23 : decode cX3_readAttributes 23 = .ok (.iconst 0, 1) := dc0 dO_3 (by decide +kernel)
theorem dX3_readAttributes_24 : decode cX3_readAttributes 24 = .ok (.istore 4, 2) := dcU1 dO_54 (by decide +kernel)
theorem dX3_readAttributes_26 : decode cX3_readAttributes 26 = .ok (.iload_n 3, 1) := dc0 dO_29 (by decide +kernel)
theorem dX3_readAttributes_27 : decode cX3_readAttributes 27 = .ok (.iload 4, 2) := dcU1 dO_21 (by decide +kernel)
theorem dX3_readAttributes_29 : decode cX3_readAttributes 29 = .ok (.ifCond .eq 7, 3) := dcS2 dO_153 (by decide +kernel)
theorem dX3_readAttributes_32 : decode cX3_readAttributes 32 = .ok (.iconst 4, 1) := dc0 dO_7 (by decide +kernel)
theorem dX3_readAttributes_33 : decode cX3_readAttributes 33 = .ok (.goto 4, 3) := dcS2 dO_167 (by decide +kernel)
theorem dX3_readAttributes_36 : decode cX3_readAttributes 36 = .ok (.iconst 3, 1) := dc0 dO_6 (by decide +kernel)
theorem dX3_readAttributes_37 : decode cX3_readAttributes 37 = .ok (.iadd, 1) := dc0 dO_96 (by decide +kernel)
theorem dX3_readAttributes_38 : decode cX3_readAttributes 38 = .ok (.istore 5, 2) := dcU1 dO_54 (by decide +kernel)
theorem dX3_readAttributes_40 : decode cX3_readAttributes 40 = .ok (.iload 5, 2) := dcU1 dO_21 (by decide +kernel)
theorem dX3_readAttributes_42 : decode cX3_readAttributes 42 = .ok (.iload_n 2, 1) := dc0 dO_28 (by decide +kernel)
theorem dX3_readAttributes_43 : decode cX3_readAttributes 43 = .ok (.if_icmp .le 10, 3) := dcS2 dO_164 (by decide +kernel)
theorem dX3_readAttributes_46 : decode cX3_readAttributes 46 = .ok (.aload_n 0, 1) := dc0 dO_42 (by decide +kernel)
theorem dX3_readAttributes_47 : decode cX3_readAttributes 47 = .ok (.iconst 2, 1) := dc0 dO_5 (by decide +kernel)
theorem dX3_readAttributes_48 : decode cX3_readAttributes 48 = .ok (.iload_n 3, 1) := dc0 dO_29 (by decide +kernel)
theorem dX3_readAttributes_49 : decode cX3_readAttributes 49 = .ok (.invokevirtual 92, 3) := dcU2 dO_182 (by decide +kernel)
theorem dX3_readAttributes_52 : decode cX3_readAttributes 52 = .ok (.return_, 1) := dc0 dO_177 (by decide +kernel)
theorem dX3_readAttributes_53 : decode cX3_readAttributes 53 = .ok (.iload 4, 2) := dcU1 dO_21 (by decide +kernel)
theorem dX3_readAttributes_55 : decode cX3_readAttributes 55 = .ok (.ifCond .eq 13, 3) := dcS2 dO_153 (by decide +kernel)
theorem dX3_readAttributes_58 : decode cX3_readAttributes 58 = .ok (.aload_n 0, 1) := dc0 dO_42 (by decide +kernel)
theorem dX3_readAttributes_59 : decode cX3_readAttributes 59 = .ok (.iload_n 3, 1) := dc0 dO_29 (by decide +kernel)
theorem dX3_readAttributes_60 : decode cX3_readAttributes 60 = .ok (.iconst 2, 1) := dc0 dO_5 (by decide +kernel)
theorem dX3_readAttributes_61 : decode cX3_readAttributes 61 = .ok (.iadd, 1) := dc0 dO_96 (by decide +kernel)
theorem dX3_readAttributes_62 : decode cX3_readAttributes 62 = .ok (.invokevirtual 88, 3) := dcU2 dO_182 (by decide +kernel)
theorem dX3_readAttributes_65 : decode cX3_readAttributes 65 = .ok (.goto 11, 3) := dcS2 dO_167 (by decide +kernel)
theorem dX3_readAttributes_68 : decode cX3_readAttributes 68 = .ok (.aload_n 0, 1) := dc0 dO_42 (by decide +kernel)
theorem dX3_readAttributes_69 : decode cX3_readAttributes 69 = .ok (.getfield 41, 3) := dcU2 dO_180 (by decide +kernel)
theorem dX3_readAttributes_72 : decode cX3_readAttributes 72 = .ok (.iload_n 3, 1) := dc0 dO_29 (by decide +kernel)
theorem dX3_readAttributes_73 : decode cX3_readAttributes 73 = .ok (.iconst 2, 1) := dc0 dO_5 (by decide +kernel)
theorem dX3_readAttributes_74 : decode cX3_readAttributes 74 = .ok (.iadd, 1) := dc0 dO_96 (by decide +kernel)
theorem dX3_readAttributes_75 : decode cX3_readAttributes 75 = .ok (.iaload, 1) := dc0 dO_46 (by decide +kernel)
theorem dX3_readAttributes_76 : decode cX3_readAttributes 76 = .ok (.istore 6, 2) := dcU1 dO_54 (by decide +kernel)
theorem dX3_readAttributes_78 : decode cX3_readAttributes 78 = .ok (.iload 5, 2) := dcU1 dO_21 (by decide +kernel)
theorem dX3_readAttributes_80 : decode cX3_readAttributes 80 = .ok (.iload 6, 2) := dcU1 dO_21 (by decide +kernel)
theorem dX3_readAttributes_82 : decode cX3_readAttributes 82 = .ok (.iadd, 1) := dc0 dO_96 (by decide +kernel)
theorem dX3_readAttributes_83 : decode cX3_readAttributes 83 = .ok (.iload_n 2, 1) := dc0 dO_28 (by decide +kernel)
theorem dX3_readAttributes_84 : decode cX3_readAttributes 84 = .ok (.if_icmp .le 10, 3) := dcS2 dO_164 (by decide +kernel)
theorem dX3_readAttributes_87 : decode cX3_readAttributes 87 = .ok (.aload_n 0, 1) := dc0 dO_42 (by decide +kernel)
theorem dX3_readAttributes_88 : decode cX3_readAttributes 88 = .ok (.iconst 2, 1) := dc0 dO_5 (by decide +kernel)
theorem dX3_readAttributes_89 : decode cX3_readAttributes 89 = .ok (.iload_n 3, 1) := dc0 dO_29 (by decide +kernel)
theorem dX3_readAttributes_90 : decode cX3_readAttributes 90 = .ok (.invokevirtual 92, 3) := dcU2 dO_182 (by decide +kernel)
theorem dX3_readAttributes_93 : decode cX3_readAttributes 93 = .ok (.return_, 1) := dc0 dO_177 (by decide +kernel)
theorem dX3_readAttributes_94 : decode cX3_readAttributes 94 = .ok (.aload_n 0, 1) := dc0 dO_42 (by decide +kernel)
theorem dX3_readAttributes_95 : decode cX3_readAttributes 95 = .ok (.iload_n 3, 1) := dc0 dO_29 (by decide +kernel)
theorem dX3_readAttributes_96 : decode cX3_readAttributes 96 = .ok (.iload 5, 2) := dcU1 dO_21 (by decide +kernel)
theorem dX3_readAttributes_98 : decode cX3_readAttributes 98 = .ok (.iload 6, 2) := dcU1 dO_21 (by decide +kernel)
theorem dX3_readAttributes_100 : decode cX3_readAttributes 100 = .ok (.invokevirtual 107, 3) := dcU2 dO_182 (by decide +kernel)
theorem dX3_readAttributes_103 : decode cX3_readAttributes 103 = .ok (.iload 5, 2) := dcU1 dO_21 (by decide +kernel)
theorem dX3_readAttributes_105 : decode cX3_readAttributes 105 = .ok (.iload 6, 2) := dcU1 dO_21 (by decide +kernel)
theorem dX3_readAttributes_107 : decode cX3_readAttributes 107 = .ok (.iadd, 1) := dc0 dO_96 (by decide +kernel)
theorem dX3_readAttributes_108 : decode cX3_readAttributes 108 = .ok (.istore_n 3, 1) := dc0 dO_62 (by decide +kernel)
theorem dX3_readAttributes_109 : decode cX3_readAttributes 109 = .ok (.goto (-107), 3) := dcS2 dO_167 (by decide +kernel)
theorem dX3_readAttributes_112 : decode cX3_readAttributes 112 = .ok (.return_, 1) := dc0 dO_177 (by decide +kernel)
theorem dX3_readParts_0 : decode cX3_readParts 0 = .ok (.iconst 2, 1) := dc0 dO_5 (by decide +kernel)
theorem dX3_readParts_1 : decode cX3_readParts 1 = .ok (.istore_n 2, 1) := dc0 dO_61 (by decide +kernel)
theorem dX3_readParts_2 : decode cX3_readParts 2 = .ok (.iload_n 1, 1) := dc0 dO_27 (by decide +kernel)
theorem dX3_readParts_3 : decode cX3_readParts 3 = .ok (.iconst 2, 1) := dc0 dO_5 (by decide +kernel)
theorem dX3_readParts_4 : decode cX3_readParts 4 = .ok (.if_icmp .lt 11, 3) := dcS2 dO_161 (by decide +kernel)
theorem dX3_readParts_7 : decode cX3_readParts 7 = .ok (.iload_n 2, 1) := dc0 dO_28 (by decide +kernel)
theorem dX3_readParts_8 : decode cX3_readParts 8 = .ok (.aload_n 0, 1) := dc0 dO_42 (by decide +kernel)
theorem dX3_readParts_9 : decode cX3_readParts 9 = .ok (.iconst 0, 1) := dc0 dO_3 (by decide +kernel)
theorem dX3_readParts_10 : decode cX3_readParts 10 = .ok (.invokevirtual 88, 3) := dcU2 dO_182 (by decide +kernel)
theorem dX3_readParts_13 : decode cX3_readParts 13 = .ok (.iadd, 1) := dc0 dO_96 (by decide +kernel)
theorem dX3_readParts_14 : decode cX3_readParts 14 = .ok (.istore_n 2, 1) := dc0 dO_61 (by decide +kernel)
theorem dX3_readParts_15 : decode cX3_readParts 15 = .ok (.iload_n 2, 1) := dc0 dO_28 (by decide +kernel)
theorem dX3_readParts_16 : decode cX3_readParts 16 = .ok (.iload_n 1, 1) := dc0 dO_27 (by decide +kernel)
theorem dX3_readParts_17 : decode cX3_readParts 17 = .ok (.if_icmp .le 10, 3) := dcS2 dO_164 (by decide +kernel)
theorem dX3_readParts_20 : decode cX3_readParts 20 = .ok (.aload_n 0, 1) := dc0 dO_42 (by decide +kernel)
theorem dX3_readParts_21 : decode cX3_readParts 21 = .ok (.iconst 1, 1) := dc0 dO_4 (by decide +kernel)
theorem dX3_readParts_22 : decode cX3_readParts 22 = .ok (.iconst 0, 1) := dc0 dO_3 (by decide +kernel)
theorem dX3_readParts_23 : decode cX3_readParts 23 = .ok (.invokevirtual 92, 3) := dcU2 dO_182 (by decide +kernel)
theorem dX3_readParts_26 : decode cX3_readParts 26 = .ok (.return_, 1) := dc0 dO_177 (by decide +kernel)
theorem dX3_readParts_27 : decode cX3_readParts 27 = .ok (.aload_n 0, 1) := dc0 dO_42 (by decide +kernel)
theorem dX3_readParts_28 : decode cX3_readParts 28 = .ok (.aload_n 0, 1) := dc0 dO_42 (by decide +kernel)
theorem dX3_readParts_29 : decode cX3_readParts 29 = .ok (.iconst 2, 1) := dc0 dO_5 (by decide +kernel)
theorem dX3_readParts_30 : decode cX3_readParts 30 = .ok (.iload_n 2, 1) := dc0 dO_28 (by decide +kernel)
theorem dX3_readParts_31 : decode cX3_readParts 31 = .ok (.iconst 0, 1) := dc0 dO_3 (by decide +kernel)
theorem dX3_readParts_32 : decode cX3_readParts 32 = .ok (.invokevirtual 95, 3) := dcU2 dO_182 (by decide +kernel)
theorem dX3_readParts_35 : decode cX3_readParts 35 = .ok (.putfield 63, 3) := dcU2 dO_181 (by decide +kernel)
theorem dX3_readParts_38 : decode cX3_readParts 38 = .ok (.iload_n 2, 1) := dc0 dO_28 (by decide +kernel)
theorem dX3_readParts_39 : decode cX3_readParts 39 = .ok (.iconst 2, 1) := dc0 dO_5 (by decide +kernel)
theorem dX3_readParts_40 : decode cX3_readParts 40 = .ok (.iadd, 1) := dc0 dO_96 (by decide +kernel)
theorem dX3_readParts_41 : decode cX3_readParts 41 = .ok (.istore_n 3, 1) := dc0 dO_62 (by decide +kernel)
theorem dX3_readParts_42 : decode cX3_readParts 42 = .ok (.iload_n 3, 1) := dc0 dO_29 (by decide +kernel)
theorem dX3_readParts_43 : decode cX3_readParts 43 = .ok (.iload_n 1, 1) := dc0 dO_27 (by decide +kernel)
theorem dX3_readParts_44 : decode cX3_readParts 44 = .ok (.if_icmp .gt 11, 3) := dcS2 dO_163 (by decide +kernel)
theorem dX3_readParts_47 : decode cX3_readParts 47 = .ok (.iload_n 3, 1) := dc0 dO_29 (by decide +kernel)
theorem dX3_readParts_48 : decode cX3_readParts 48 = .ok (.aload_n 0, 1) := dc0 dO_42 (by decide +kernel)
theorem dX3_readParts_49 : decode cX3_readParts 49 = .ok (.iload_n 2, 1) := dc0 dO_28 (by decide +kernel)
theorem dX3_readParts_50 : decode cX3_readParts 50 = .ok (.invokevirtual 88, 3) := dcU2 dO_182 (by decide +kernel)
theorem dX3_readParts_53 : decode cX3_readParts 53 = .ok (.iadd, 1) := dc0 dO_96 (by decide +kernel)
theorem dX3_readParts_54 : decode cX3_readParts 54 = .ok (.istore_n 3, 1) := dc0 dO_62 (by decide +kernel)
theorem dX3_readParts_55 : decode cX3_readParts 55 = .ok (.iload_n 3, 1) := dc0 dO_29 (by decide +kernel)
theorem dX3_readParts_56 : decode cX3_readParts 56 = .ok (.iload_n 1, 1) := dc0 dO_27 (by decide +kernel)
theorem dX3_readParts_57 : decode cX3_readParts 57 = .ok (.if_icmp .le 10, 3) := dcS2 dO_164 (by decide +kernel)
theorem dX3_readParts_60 : decode cX3_readParts 60 = .ok (.aload_n 0, 1) := dc0 dO_42 (by decide +kernel)
theorem dX3_readParts_61 : decode cX3_readParts 61 = .ok (.iconst 1, 1) := dc0 dO_4 (by decide +kernel)
theorem dX3_readParts_62 : decode cX3_readParts 62 = .ok (.iload_n 2, 1) := dc0 dO_28 (by decide +kernel)
theorem dX3_readParts_63 : decode cX3_readParts 63 = .ok (.invokevirtual 92, 3) := dcU2 dO_182 (by decide +kernel)
theorem dX3_readParts_66 : decode cX3_readParts 66 = .ok (.return_, 1) := dc0 dO_177 (by decide +kernel)
theorem dX3_readParts_67 : decode cX3_readParts 67 = .ok (.aload_n 0, 1) := dc0 dO_42 (by decide +kernel)
theorem dX3_readParts_68 : decode cX3_readParts 68 = .ok (.iload_n 2, 1) := dc0 dO_28 (by decide +kernel)
theorem dX3_readParts_69 : decode cX3_readParts 69 = .ok (.iconst 2, 1) := dc0 dO_5 (by decide +kernel)
theorem dX3_readParts_70 : decode cX3_readParts 70 = .ok (.iadd, 1) := dc0 dO_96 (by decide +kernel)
theorem dX3_readParts_71 : decode cX3_readParts 71 = .ok (.iload_n 3, 1) := dc0 dO_29 (by decide +kernel)
theorem dX3_readParts_72 : decode cX3_readParts 72 = .ok (.invokevirtual 99, 3) := dcU2 dO_182 (by decide +kernel)
theorem dX3_readParts_75 : decode cX3_readParts 75 = .ok (.aload_n 0, 1) := dc0 dO_42 (by decide +kernel)
theorem dX3_readParts_76 : decode cX3_readParts 76 = .ok (.aload_n 0, 1) := dc0 dO_42 (by decide +kernel)
theorem dX3_readParts_77 : decode cX3_readParts 77 = .ok (.iload_n 3, 1) := dc0 dO_29 (by decide +kernel)
theorem dX3_readParts_78 : decode cX3_readParts 78 = .ok (.iload_n 1, 1) := dc0 dO_27 (by decide +kernel)
theorem dX3_readParts_79 : decode cX3_readParts 79 = .ok (.aload_n 0, 1) := dc0 dO_42 (by decide +kernel)
theorem dX3_readParts_80 : decode cX3_readParts 80 = .ok (.getfield 63, 3) := dcU2 dO_180 (by decide +kernel)
theorem dX3_readParts_83 : decode cX3_readParts 83 = .ok (.invokevirtual 95, 3) := dcU2 dO_182 (by decide +kernel)
theorem dX3_readParts_86 : decode cX3_readParts 86 = .ok (.putfield 66, 3) := dcU2 dO_181 (by decide +kernel)
theorem dX3_readParts_89 : decode cX3_readParts 89 = .ok (.aload_n 0, 1) := dc0 dO_42 (by decide +kernel)
theorem dX3_readParts_90 : decode cX3_readParts 90 = .ok (.getfield 66, 3) := dcU2 dO_180 (by decide +kernel)
theorem dX3_readParts_93 : decode cX3_readParts 93 = .ok (.ifCond .le 23, 3) := dcS2 dO_158 (by decide +kernel)
theorem dX3_readParts_96 : decode cX3_readParts 96 = .ok (.aload_n 0, 1) := dc0 dO_42 (by decide +kernel)
theorem dX3_readParts_97 : decode cX3_readParts 97 = .ok (.getfield 82, 3) := dcU2 dO_180 (by decide +kernel)
theorem dX3_readParts_100 : decode cX3_readParts 100 = .ok (.ifCond .eq 10, 3) := dcS2 dO_153 (by decide +kernel)
theorem dX3_readParts_103 : decode cX3_readParts 103 = .ok (.aload_n 0, 1) := dc0 dO_42 (by decide +kernel)
theorem dX3_readParts_104 : decode cX3_readParts 104 = .ok (.getfield 85, 3) := dcU2 dO_180 (by decide +kernel)
theorem dX3_readParts_107 : decode cX3_readParts 107 = .ok (.ifCond .ne 9, 3) := dcS2 dO_154 (by decide +kernel)
theorem dX3_readParts_110 : decode cX3_readParts 110 = .ok (.aload_n 0, 1) := dc0 dO_42 (by decide +kernel)
theorem dX3_readParts_111 : decode cX3_readParts 111 = .ok (.iconst 2, 1) := dc0 dO_5 (by decide +kernel)
theorem dX3_readParts_112 : decode cX3_readParts 112 = .ok (.iload_n 3, 1) := dc0 dO_29 (by decide +kernel)
theorem dX3_readParts_113 : decode cX3_readParts 113 = .ok (.invokevirtual 92, 3) := dcU2 dO_182 (by decide +kernel)
theorem dX3_readParts_116 : decode cX3_readParts 116 = .ok (.return_, 1) := dc0 dO_177 (by decide +kernel)
end
section
theorem vc_X3_carry_1 {f_cc : Int} (h0 : f_cc ≤ 255) (h1 : 0 ≤ f_cc ∧ f_cc ≤ 256) : 0 ≤ f_cc ∧ f_cc ≤ 255 := by omega
theorem vc_X3_carry_2 {z35 : Int} (h0 : ¬ z35 = 192) (h1 : 0 ≤ z35 ∧ z35 ≤ 192) : 0 ≤ z35 ∧ z35 ≤ 191 := by omega
theorem vc_X3_carry_3 {f_cc : Int} (h0 : f_cc ≤ 255) (h1 : 0 ≤ f_cc ∧ f_cc ≤ 255) : f_cc ≤ f_cc + 1 := by omega
theorem vc_X3_carry_4 {z35 : Int} (h0 : z35 = 192) (h1 : 0 ≤ z35 ∧ z35 ≤ 192) : 192 ≤ z35 ∧ z35 ≤ 192 := by omega
theorem vc_X3_carry_5 {f_cc : Int} (h0 : f_cc ≤ 255) (h1 : 0 ≤ f_cc ∧ f_cc ≤ 255) : (f_cc + 1) ≤ f_cc + 1 := by omega
set_option maxRecDepth 4000 in
set_option maxHeartbeats 4000000 in
theorem c_X3_carry {l : Launch} {D : va_G} {c : Nat → ClassId} {H0 : Heap} {sa : Nat × Nat × (Nat → Int32)} {w : mW} {μ : mM} (hw : mWF w) (hT : mT w μ) {p1 : Int} (hp1 : (-2147483648) ≤ p1 ∧ p1 ≤ 2147483647) {p2 : Int} (hp2 : (-2147483648) ≤ p2 ∧ p2 ≤ 2147483647) {f_cc : Int} (q_f_cc : μ 76 5 = f_cc) (hq0 : f_cc ≤ 255) : sC (gG l D c H0 sa) mX3_carry 1 0 0 [.ref 76, iv p1, iv p2] (mk w μ) (qV w [76005, 78999] μ (fun μ1 => ∃ o_cc : Int, μ1 76 5 = o_cc ∧ (o_cc ≤ f_cc + 1) ∧ True)) := by
  refine sC.of rfl (by decide) (le_t rfl) ?_
  have ht_f_cc : (0 ≤ f_cc ∧ f_cc ≤ 256) := by rw [← q_f_cc]; exact hT 76 76 (A_76 hw) 5
  have h1 : 0 ≤ f_cc ∧ f_cc ≤ 255 := (vc_X3_carry_1 hq0 ht_f_cc)
  refine mr_lvE (lv' := [(0, .ref 76), (1, iv p1), (2, iv p2)]) rfl ?_
  refine mr_iload_n (pc := 0) (z := p1) dX3_carry_0 rfl rfl ?_
  refine mr_sipush (pc := 1) (z := 192) dX3_carry_1 (by decide) ?_
  refine mr_iand (pc := 4) (x := p1) (y := 192) dX3_carry_4 ?_
  refine mr_gen (P := fun z => 0 ≤ z ∧ z ≤ 192) (rAndR (rR (x := 192)) rfl) fun z35 q36 h37 => ?_
  refine mr_sipush (pc := 5) (z := 192) dX3_carry_5 (by decide) ?_
  refine mr_icmp_ne (pc := 8) (tgt := 31) dX3_carry_8 (by decide) (r32 h37 rfl) (r32 (rR (x := 192)) rfl) (fun h46 => ?_) (fun h46 => ?_)
  · have h47 : 0 ≤ z35 ∧ z35 ≤ 191 := (vc_X3_carry_2 h46 h37)
    exact mr_vret dX3_carry_31 rfl (le_t rfl) (le_t rfl) hT mF.refl ⟨f_cc, q_f_cc, (vc_X3_carry_3 hq0 h1), trivial⟩
  have h48 : 192 ≤ z35 ∧ z35 ≤ 192 := (vc_X3_carry_4 h46 h37)
  refine sv_aload_n (pc := 11) dX3_carry_11 rfl rfl ?_
  refine gf_X3_1 (pc := 12) dX3_carry_12 wF_X3_15 (A_76 hw) hT ?_
  refine sv_aload_n (pc := 15) dX3_carry_15 rfl rfl ?_
  refine gk_X3_5 (pc := 16) dX3_carry_16 wF_X3_79 (A_76 hw) q_f_cc ?_
  refine mr_iload_n (pc := 19) (z := p2) dX3_carry_19 rfl rfl ?_
  refine ss_78 (pc := 20) dX3_carry_20 (A_78 hw) hT (rIx (n := 256) h1 rfl) hp2 fun μ49 u50 T51 => ?_
  refine sv_aload_n (pc := 21) dX3_carry_21 rfl rfl ?_
  refine sv_dup (pc := 22) dX3_carry_22 rfl ?_
  refine gk_X3_5 (pc := 23) dX3_carry_23 wF_X3_79 (A_76 hw) (u50.f (Or.inl (mAt.ne (A_78 hw) (A_76 hw) rfl)) q_f_cc) ?_
  refine mr_iconst (pc := 26) (z := 1) dX3_carry_26 ?_
  refine mr_iadd (pc := 27) (x := f_cc) (y := 1) dX3_carry_27 ?_
  refine pf_X3_5 (pc := 28) dX3_carry_28 wF_X3_79 (A_76 hw) T51 (rW (c := 0) (d := 256) (rAdd (e := 1) (f := 256) h1 (rR (x := 1)) rfl) rfl) fun μ52 u53 T54 => ?_
  exact mr_vret dX3_carry_31 rfl (le_t rfl) (le_t rfl) T54 (mF.up (mF.up mF.refl (A_78 hw) u50 rfl) (A_76 hw) u53 rfl) ⟨(f_cc + 1), u53.1, (vc_X3_carry_5 hq0 h1), trivial⟩
theorem vc_X3_readAttribute_4 {f_cc f_s z721 : Int} (h0 : f_cc ≤ f_s) (h1 : z721 = 0) (h2 : ((f_s + 1) - z721) ≤ 256) (h3 : 0 ≤ f_cc ∧ f_cc ≤ 256) (h4 : 0 ≤ f_s ∧ f_s ≤ 256) (h5 : 0 ≤ z721 ∧ z721 ≤ 0) : f_cc ≤ ((f_s + 1) - z721) := by omega
theorem vc_X3_readAttribute_6 {z715 : Int} (h0 : z715 = 64) (h1 : 0 ≤ z715 ∧ z715 ≤ 207) : 64 ≤ z715 ∧ z715 ≤ 64 := by omega
theorem vc_X3_readAttribute_7 {p2 p3 : Int} (h0 : p2 + p3 ≤ 1000) (h1 : 0 ≤ p2 ∧ p2 ≤ 1000) (h2 : 0 ≤ p3 ∧ p3 ≤ 1000) : p2 + p3 ≤ 1000 := by omega
theorem vc_X3_readAttribute_10 {z718 : Int} (h0 : z718 = 2) (h1 : ¬ z718 = 1) (h2 : 0 ≤ z718 ∧ z718 ≤ 255) : 2 ≤ z718 ∧ z718 ≤ 2 := by omega
theorem vc_X3_readAttribute_15 {z718 : Int} (h0 : z718 = 3) (h1 : ¬ z718 = 1) (h2 : ¬ z718 = 2) (h3 : 0 ≤ z718 ∧ z718 ≤ 255) : 3 ≤ z718 ∧ z718 ≤ 3 := by omega
theorem vc_X3_readAttribute_16 {f_cc f_s z721 : Int} (h0 : f_cc ≤ f_s) (h1 : ((f_s + 1) - z721) ≤ 256) (h2 : 0 ≤ f_cc ∧ f_cc ≤ 256) (h3 : 0 ≤ f_s ∧ f_s ≤ 256) (h4 : 0 ≤ z721 ∧ z721 ≤ 0) : f_cc ≤ 255 := by omega
theorem vc_X3_readAttribute_18 {f_cc f_s z721 z832 : Int} (h0 : f_cc ≤ f_s) (h1 : z721 = 0) (h2 : ((f_s + 1) - z721) ≤ 256) (h3 : z832 ≤ f_cc + 1) (h4 : 0 ≤ f_cc ∧ f_cc ≤ 256) (h5 : 0 ≤ f_s ∧ f_s ≤ 256) (h6 : 0 ≤ z721 ∧ z721 ≤ 0) (h7 : 0 ≤ z832 ∧ z832 ≤ 256) : z832 ≤ ((f_s + 1) - z721) := by omega
theorem vc_X3_readAttribute_20 {z820 : Int} (h0 : z820 = 0) (h1 : 0 ≤ z820 ∧ z820 ≤ 128) : 0 ≤ z820 ∧ z820 ≤ 0 := by omega
theorem vc_X3_readAttribute_21 {z820 : Int} (h0 : ¬ z820 = 0) (h1 : 0 ≤ z820 ∧ z820 ≤ 128) : 1 ≤ z820 ∧ z820 ≤ 128 := by omega
theorem vc_X3_readAttribute_22 {z718 : Int} (h0 : z718 = 4) (h1 : ¬ z718 = 1) (h2 : ¬ z718 = 2) (h3 : ¬ z718 = 3) (h4 : 0 ≤ z718 ∧ z718 ≤ 255) : 4 ≤ z718 ∧ z718 ≤ 4 := by omega
theorem vc_X3_readAttribute_25 {z715 : Int} (h0 : z715 = 128) (h1 : 0 ≤ z715 ∧ z715 ≤ 207) : 128 ≤ z715 ∧ z715 ≤ 128 := by omega
theorem vc_X3_readAttribute_28 {z718 : Int} (h0 : z718 = 5) (h1 : ¬ z718 = 1) (h2 : ¬ z718 = 2) (h3 : ¬ z718 = 3) (h4 : ¬ z718 = 4) (h5 : 0 ≤ z718 ∧ z718 ≤ 255) : 5 ≤ z718 ∧ z718 ≤ 5 := by omega
theorem vc_X3_readAttribute_34 {z718 : Int} (h0 : z718 = 6) (h1 : ¬ z718 = 1) (h2 : ¬ z718 = 2) (h3 : ¬ z718 = 3) (h4 : ¬ z718 = 4) (h5 : ¬ z718 = 5) (h6 : 0 ≤ z718 ∧ z718 ≤ 255) : 6 ≤ z718 ∧ z718 ≤ 6 := by omega
theorem vc_X3_readAttribute_40 {z718 : Int} (h0 : z718 = 7) (h1 : ¬ z718 = 1) (h2 : ¬ z718 = 2) (h3 : ¬ z718 = 3) (h4 : ¬ z718 = 4) (h5 : ¬ z718 = 5) (h6 : ¬ z718 = 6) (h7 : 0 ≤ z718 ∧ z718 ≤ 255) : 7 ≤ z718 ∧ z718 ≤ 7 := by omega
theorem vc_X3_readAttribute_46 {z718 : Int} (h0 : z718 = 8) (h1 : ¬ z718 = 1) (h2 : ¬ z718 = 2) (h3 : ¬ z718 = 3) (h4 : ¬ z718 = 4) (h5 : ¬ z718 = 5) (h6 : ¬ z718 = 6) (h7 : ¬ z718 = 7) (h8 : 0 ≤ z718 ∧ z718 ≤ 255) : 8 ≤ z718 ∧ z718 ≤ 8 := by omega
theorem vc_X3_readAttribute_49 {z715 : Int} (h0 : z715 = 192) (h1 : 0 ≤ z715 ∧ z715 ≤ 207) : 192 ≤ z715 ∧ z715 ≤ 192 := by omega
theorem vc_X3_readAttribute_52 {z718 : Int} (h0 : ¬ z718 = 1) (h1 : ¬ z718 = 2) (h2 : ¬ z718 = 3) (h3 : ¬ z718 = 4) (h4 : ¬ z718 = 5) (h5 : ¬ z718 = 6) (h6 : ¬ z718 = 7) (h7 : ¬ z718 = 8) (h8 : 0 ≤ z718 ∧ z718 ≤ 255) : z718 < 1 ∨ 8 < z718 := by omega
theorem vc_X3_readAttribute_54 {f_cc f_s z1048 z721 : Int} (h0 : f_cc ≤ f_s) (h1 : z721 = 0) (h2 : ((f_s + 1) - z721) ≤ 256) (h3 : z1048 ≤ f_cc + 1) (h4 : 0 ≤ f_cc ∧ f_cc ≤ 256) (h5 : 0 ≤ f_s ∧ f_s ≤ 256) (h6 : 0 ≤ z1048 ∧ z1048 ≤ 256) (h7 : 0 ≤ z721 ∧ z721 ≤ 0) : z1048 ≤ ((f_s + 1) - z721) := by omega
theorem vc_X3_readAttribute_59 {f_cc f_s : Int} (h0 : f_cc ≤ f_s) (h1 : 0 ≤ f_cc ∧ f_cc ≤ 256) (h2 : 0 ≤ f_s ∧ f_s ≤ 256) : f_cc ≤ f_s := by omega
set_option maxRecDepth 4000 in
set_option maxHeartbeats 4000000 in
theorem c_X3_readAttribute {l : Launch} {D : va_G} {c : Nat → ClassId} {H0 : Heap} {sa : Nat × Nat × (Nat → Int32)} {w : mW} {μ : mM} (hw : mWF w) (hT : mT w μ) {p1 : Int} (hp1 : 0 ≤ p1 ∧ p1 ≤ 998) {p2 : Int} (hp2 : 0 ≤ p2 ∧ p2 ≤ 1000) {p3 : Int} (hp3 : 0 ≤ p3 ∧ p3 ≤ 1000) {f_cc : Int} (q_f_cc : μ 76 5 = f_cc) {f_s : Int} (q_f_s : cnt μ 77 256 = f_s) (hq0 : p2 + p3 ≤ 1000) (hq1 : f_cc ≤ f_s) (hIOC : OC μ) : sC (gG l D c H0 sa) mX3_readAttribute 4 0 0 [.ref 76, iv p1, iv p2, iv p3] (mk w μ) (qV w [76005, 76006, 76007, 76008, 77999, 78999, 79999, 80999, 200005, 200006, 200007, 201999] μ (fun μ1 => ∃ o_cc o_s : Int, μ1 76 5 = o_cc ∧ cnt μ1 77 256 = o_s ∧ (o_cc ≤ o_s) ∧ True)) := by
  refine sC.of rfl (by decide) (le_t rfl) ?_
  have ht_f_cc : (0 ≤ f_cc ∧ f_cc ≤ 256) := by rw [← q_f_cc]; exact hT 76 76 (A_76 hw) 5
  have ht_f_s : 0 ≤ f_s ∧ f_s ≤ 256 := by rw [← q_f_s]; exact cnt_rng (fun i => hT 77 77 (A_77 hw) i) 256
  refine mr_lvE (lv' := [(0, .ref 76), (1, iv p1), (2, iv p2), (3, iv p3)]) rfl ?_
  refine sv_aload_n (pc := 0) dX3_readAttribute_0 rfl rfl ?_
  refine gf_X3_4 (pc := 1) dX3_readAttribute_1 wF_X3_41 (A_76 hw) hT hIOC fun b709 q710 A711 => ?_
  refine mr_iload_n (pc := 4) (z := p1) dX3_readAttribute_4 rfl rfl ?_
  refine la_1 (pc := 5) dX3_readAttribute_5 A711 hT (rIx (n := 1000) hp1 rfl) fun z712 q713 h714 => ?_
  refine mr_istore (pc := 6) (lv' := [(4, iv z712), (0, .ref 76), (1, iv p1), (2, iv p2), (3, iv p3)]) dX3_readAttribute_6 (by decide) rfl ?_
  refine mr_iload (pc := 8) (z := z712) dX3_readAttribute_8 rfl ?_
  refine mr_sipush (pc := 10) (z := 207) dX3_readAttribute_10 (by decide) ?_
  refine mr_iand (pc := 13) (x := z712) (y := 207) dX3_readAttribute_13 ?_
  refine mr_gen (P := fun z => 0 ≤ z ∧ z ≤ 207) (rAndR (rR (x := 207)) rfl) fun z715 q716 h717 => ?_
  refine mr_istore (pc := 14) (lv' := [(5, iv z715), (4, iv z712), (0, .ref 76), (1, iv p1), (2, iv p2), (3, iv p3)]) dX3_readAttribute_14 (by decide) rfl ?_
  refine sv_aload_n (pc := 16) dX3_readAttribute_16 rfl rfl ?_
  refine gk_X3_4 (pc := 17) dX3_readAttribute_17 wF_X3_41 (A_76 hw) q710 ?_
  refine mr_iload_n (pc := 20) (z := p1) dX3_readAttribute_20 rfl rfl ?_
  refine mr_iconst (pc := 21) (z := 1) dX3_readAttribute_21 ?_
  refine mr_iadd (pc := 22) (x := p1) (y := 1) dX3_readAttribute_22 ?_
  refine la_1 (pc := 23) dX3_readAttribute_23 A711 hT (rIx (n := 1000) (rAdd (e := 1) (f := 999) hp1 (rR (x := 1)) rfl) rfl) fun z718 q719 h720 => ?_
  refine mr_istore (pc := 24) (lv' := [(6, iv z718), (5, iv z715), (4, iv z712), (0, .ref 76), (1, iv p1), (2, iv p2), (3, iv p3)]) dX3_readAttribute_24 (by decide) rfl ?_
  refine sv_aload_n (pc := 26) dX3_readAttribute_26 rfl rfl ?_
  refine gf_X3_0 (pc := 27) dX3_readAttribute_27 wF_X3_11 (A_76 hw) hT ?_
  refine mr_iload (pc := 30) (z := z718) dX3_readAttribute_30 rfl ?_
  refine la_77 (pc := 32) dX3_readAttribute_32 (A_77 hw) hT (rIx (n := 256) h720 rfl) fun z721 q722 h723 => ?_
  refine mr_if_eq (pc := 33) (tgt := 43) dX3_readAttribute_33 (by decide) (r32 h723 rfl) (fun h724 => ?_) (fun h724 => ?_)
  · have h725 : 0 ≤ z721 ∧ z721 ≤ 0 := (vc_X12_ring_22 h724 h723)
    refine sv_aload_n (pc := 43) dX3_readAttribute_43 rfl rfl ?_
    refine gf_X3_0 (pc := 44) dX3_readAttribute_44 wF_X3_11 (A_76 hw) hT ?_
    refine mr_iload (pc := 47) (z := z718) dX3_readAttribute_47 rfl ?_
    refine mr_iconst (pc := 49) (z := 1) dX3_readAttribute_49 ?_
    refine ss_77 (pc := 50) dX3_readAttribute_50 (A_77 hw) hT (rIx (n := 256) h720 rfl) (rW (c := 0) (d := 1) (rR (x := 1)) rfl) fun μ726 u727 T728 => ?_
    have h729 : ((f_s + 1) - z721) ≤ 256 := by have h := (cnt_rng (fun i => T728 77 77 (A_77 hw) i) 256 : 0 ≤ cnt μ726 77 256 ∧ cnt μ726 77 256 ≤ ((256 : Nat) : Int)).2; rw [(cntU u727 (rIx (n := 256) h720 rfl) rfl q_f_s q722)] at h; exact h
    refine mr_iload (pc := 51) (z := z718) dX3_readAttribute_51 rfl ?_
    by_cases h730 : z718 = 1
    · refine mr_tableIn (pc := 53) (v := 1) (tgt := 100) dX3_readAttribute_53 h730 rfl rfl (by decide) ?_
      have h731 : 1 ≤ z718 ∧ z718 ≤ 1 := (vc_X12_wayRight_28 h730 h720)
      refine sv_aload_n (pc := 100) dX3_readAttribute_100 rfl rfl ?_
      refine mr_iload (pc := 101) (z := z715) dX3_readAttribute_101 rfl ?_
      refine mr_bipush (pc := 103) (z := 64) dX3_readAttribute_103 (by decide) ?_
      have J747 : ∀ (z740 : Int) (μ742 : mM), (mT w μ742) → (mF [200005] w μ726 μ742) → ((0 ≤ z740 ∧ z740 ≤ 1)) → (OC μ742) → sV (gG l D c H0 sa) mX3_readAttribute (sRm 4 0 0) (sZ (gG l D c H0 sa) 0 0 (qV w [76005, 76006, 76007, 76008, 77999, 78999, 79999, 80999, 200005, 200006, 200007, 201999] μ (fun μ1 => ∃ o_cc o_s : Int, μ1 76 5 = o_cc ∧ cnt μ1 77 256 = o_s ∧ (o_cc ≤ o_s) ∧ True))) 122 [(0, .ref 76), (1, iv p1)] [iv z740, .ref 76] (mk w μ742) 0 0 := by
        intro z740 μ742 T743 F744 h741 I746
        refine pf_X3_7 (pc := 122) dX3_readAttribute_122 wF_X3_82 (A_76 hw) T743 h741 fun μ748 u749 T750 => ?_
        refine sv_aload_n (pc := 125) dX3_readAttribute_125 rfl rfl ?_
        refine gk_X3_7 (pc := 126) dX3_readAttribute_126 wF_X3_82 (A_76 hw) u749.1 ?_
        refine mr_istore (pc := 129) (lv' := [(7, iv z740), (0, .ref 76), (1, iv p1)]) dX3_readAttribute_129 (by decide) rfl ?_
        refine sv_goto (pc := 131) (tgt := 246) dX3_readAttribute_131 (by decide) ?_
        refine mr_iload (pc := 246) (z := z740) dX3_readAttribute_246 rfl ?_
        refine mr_if_ne (pc := 248) (tgt := 257) dX3_readAttribute_248 (by decide) (r32 h741 rfl) (fun h757 => ?_) (fun h757 => ?_)
        · have h758 : 1 ≤ z740 ∧ z740 ≤ 1 := (vc_X12_ring_24 h757 h741)
          exact mr_vret dX3_readAttribute_257 rfl (le_t rfl) (le_t rfl) T750 (mF.up (mF.call (mF.up mF.refl (A_77 hw) u727 rfl) F744 rfl) (A_76 hw) u749 rfl) ⟨f_cc, ((f_s + 1) - z721), (u749.f (Or.inr (by decide)) (F744.f (A_76 hw) rfl (u727.f (Or.inl (mAt.ne (A_77 hw) (A_76 hw) rfl)) q_f_cc))), (cntO u749 (by decide) (cntF F744 (A_77 hw) rfl rfl (cntU u727 (rIx (n := 256) h720 rfl) rfl q_f_s q722))), (vc_X3_readAttribute_4 hq1 h724 h729 ht_f_cc ht_f_s h725), trivial⟩
        have h759 : 0 ≤ z740 ∧ z740 ≤ 0 := (vc_X12_ring_22 h757 h741)
        refine sv_aload_n (pc := 251) dX3_readAttribute_251 rfl rfl ?_
        refine mr_iconst (pc := 252) (z := 2) dX3_readAttribute_252 ?_
        refine mr_iload_n (pc := 253) (z := p1) dX3_readAttribute_253 rfl rfl ?_
        refine mr_cVV (pc := 254) (c_X3_note hw T750 (rW (c := 0) (d := 3) (rR (x := 2)) rfl) (rW (c := (-2147483648)) (d := 2147483647) hp1 rfl)) (gOk _ _ _ _ _) dX3_readAttribute_254 (tX3_note _ _ _ _ _) ⟨wV_X3_note, wL_X3_note⟩ wM_X3_92 (gCX3 _ _ _ _ _) rfl (A_76 hw) rfl ⟨le_t rfl, le_t rfl⟩ ⟨le_t rfl, le_t rfl⟩ rfl (le_t rfl) fun μ760 T761 F762 h763 => ?_
        exact mr_vret dX3_readAttribute_257 rfl (le_t rfl) (le_t rfl) T761 (mF.call (mF.up (mF.call (mF.up mF.refl (A_77 hw) u727 rfl) F744 rfl) (A_76 hw) u749 rfl) F762 rfl) ⟨f_cc, ((f_s + 1) - z721), (F762.f (A_76 hw) rfl (u749.f (Or.inr (by decide)) (F744.f (A_76 hw) rfl (u727.f (Or.inl (mAt.ne (A_77 hw) (A_76 hw) rfl)) q_f_cc)))), (cntF F762 (A_77 hw) rfl rfl (cntO u749 (by decide) (cntF F744 (A_77 hw) rfl rfl (cntU u727 (rIx (n := 256) h720 rfl) rfl q_f_s q722)))), (vc_X3_readAttribute_4 hq1 h724 h729 ht_f_cc ht_f_s h725), trivial⟩
      refine mr_icmp_ne (pc := 105) (tgt := 121) dX3_readAttribute_105 (by decide) (r32 h717 rfl) (r32 (rR (x := 64)) rfl) (fun h764 => ?_) (fun h764 => ?_)
      · refine mr_iconst (pc := 121) (z := 0) dX3_readAttribute_121 ?_
        refine mr_lvS (lv' := [(0, .ref 76), (1, iv p1)]) (List.forall_mem_cons.mpr ⟨rfl, List.forall_mem_cons.mpr ⟨rfl, fun _ h => absurd h List.not_mem_nil⟩⟩) ?_
        exact J747 0 μ726 T728 mF.refl (rW (c := 0) (d := 1) (rR (x := 0)) rfl) (OC.keep hIOC hw ((mF.up mF.refl (A_77 hw) u727 rfl) : mF [77999] w μ μ726) rfl)
      have h765 : 64 ≤ z715 ∧ z715 ≤ 64 := (vc_X3_readAttribute_6 h764 h717)
      refine sv_aload_n (pc := 108) dX3_readAttribute_108 rfl rfl ?_
      refine mr_iload_n (pc := 109) (z := p2) dX3_readAttribute_109 rfl rfl ?_
      refine mr_iload_n (pc := 110) (z := p3) dX3_readAttribute_110 rfl rfl ?_
      refine mr_cVI (pc := 111) (c_X3_readOrigin hw T728 hp2 (rW (c := (-2147483648)) (d := 2147483647) hp3 rfl) (vc_X3_readAttribute_7 hq0 hp2 hp3) (OC.keep hIOC hw ((mF.up mF.refl (A_77 hw) u727 rfl) : mF [77999] w μ μ726) rfl)) (gOk _ _ _ _ _) dX3_readAttribute_111 (tX3_readOrigin _ _ _ _ _) ⟨wV_X3_readOrigin, wL_X3_readOrigin⟩ wM_X3_111 (gCX3 _ _ _ _ _) rfl (A_76 hw) rfl ⟨le_t rfl, le_t rfl⟩ ⟨le_t rfl, le_t rfl⟩ rfl (le_t rfl) fun z770 μ766 T767 F768 h769 => ?_
      refine mr_if_eq (pc := 114) (tgt := 121) dX3_readAttribute_114 (by decide) (r32 h769.1 rfl) (fun h771 => ?_) (fun h771 => ?_)
      · have h772 : 0 ≤ z770 ∧ z770 ≤ 0 := (vc_X12_ring_22 h771 h769.1)
        refine mr_iconst (pc := 121) (z := 0) dX3_readAttribute_121 ?_
        refine mr_lvS (lv' := [(0, .ref 76), (1, iv p1)]) (List.forall_mem_cons.mpr ⟨rfl, List.forall_mem_cons.mpr ⟨rfl, fun _ h => absurd h List.not_mem_nil⟩⟩) ?_
        exact J747 0 μ766 T767 (mF.call mF.refl F768 rfl) (rW (c := 0) (d := 1) (rR (x := 0)) rfl) (OC.keep hIOC hw ((mF.call (mF.up mF.refl (A_77 hw) u727 rfl) F768 rfl) : mF [77999, 200005] w μ μ766) rfl)
      have h773 : 1 ≤ z770 ∧ z770 ≤ 1 := (vc_X12_ring_24 h771 h769.1)
      refine mr_iconst (pc := 117) (z := 1) dX3_readAttribute_117 ?_
      refine sv_goto (pc := 118) (tgt := 122) dX3_readAttribute_118 (by decide) ?_
      refine mr_lvS (lv' := [(0, .ref 76), (1, iv p1)]) (List.forall_mem_cons.mpr ⟨rfl, List.forall_mem_cons.mpr ⟨rfl, fun _ h => absurd h List.not_mem_nil⟩⟩) ?_
      exact J747 1 μ766 T767 (mF.call mF.refl F768 rfl) (rW (c := 0) (d := 1) (rR (x := 1)) rfl) (OC.keep hIOC hw ((mF.call (mF.up mF.refl (A_77 hw) u727 rfl) F768 rfl) : mF [77999, 200005] w μ μ766) rfl)
    by_cases h774 : z718 = 2
    · refine mr_tableIn (pc := 53) (v := 2) (tgt := 134) dX3_readAttribute_53 h774 rfl rfl (by decide) ?_
      have h775 : 2 ≤ z718 ∧ z718 ≤ 2 := (vc_X3_readAttribute_10 h774 h730 h720)
      refine sv_aload_n (pc := 134) dX3_readAttribute_134 rfl rfl ?_
      refine mr_iload (pc := 135) (z := z715) dX3_readAttribute_135 rfl ?_
      refine mr_bipush (pc := 137) (z := 64) dX3_readAttribute_137 (by decide) ?_
      have J791 : ∀ (z784 : Int) (μ786 : mM), (mT w μ786) → (mF [200007, 201999] w μ726 μ786) → ((0 ≤ z784 ∧ z784 ≤ 1)) → (OC μ786) → sV (gG l D c H0 sa) mX3_readAttribute (sRm 4 0 0) (sZ (gG l D c H0 sa) 0 0 (qV w [76005, 76006, 76007, 76008, 77999, 78999, 79999, 80999, 200005, 200006, 200007, 201999] μ (fun μ1 => ∃ o_cc o_s : Int, μ1 76 5 = o_cc ∧ cnt μ1 77 256 = o_s ∧ (o_cc ≤ o_s) ∧ True))) 156 [(0, .ref 76), (1, iv p1)] [iv z784, .ref 76] (mk w μ786) 0 0 := by
        intro z784 μ786 T787 F788 h785 I790
        refine pf_X3_8 (pc := 156) dX3_readAttribute_156 wF_X3_85 (A_76 hw) T787 h785 fun μ792 u793 T794 => ?_
        refine sv_aload_n (pc := 159) dX3_readAttribute_159 rfl rfl ?_
        refine gk_X3_8 (pc := 160) dX3_readAttribute_160 wF_X3_85 (A_76 hw) u793.1 ?_
        refine mr_istore (pc := 163) (lv' := [(7, iv z784), (0, .ref 76), (1, iv p1)]) dX3_readAttribute_163 (by decide) rfl ?_
        refine sv_goto (pc := 165) (tgt := 246) dX3_readAttribute_165 (by decide) ?_
        refine mr_iload (pc := 246) (z := z784) dX3_readAttribute_246 rfl ?_
        refine mr_if_ne (pc := 248) (tgt := 257) dX3_readAttribute_248 (by decide) (r32 h785 rfl) (fun h801 => ?_) (fun h801 => ?_)
        · have h802 : 1 ≤ z784 ∧ z784 ≤ 1 := (vc_X12_ring_24 h801 h785)
          exact mr_vret dX3_readAttribute_257 rfl (le_t rfl) (le_t rfl) T794 (mF.up (mF.call (mF.up mF.refl (A_77 hw) u727 rfl) F788 rfl) (A_76 hw) u793 rfl) ⟨f_cc, ((f_s + 1) - z721), (u793.f (Or.inr (by decide)) (F788.f (A_76 hw) rfl (u727.f (Or.inl (mAt.ne (A_77 hw) (A_76 hw) rfl)) q_f_cc))), (cntO u793 (by decide) (cntF F788 (A_77 hw) rfl rfl (cntU u727 (rIx (n := 256) h720 rfl) rfl q_f_s q722))), (vc_X3_readAttribute_4 hq1 h724 h729 ht_f_cc ht_f_s h725), trivial⟩
        have h803 : 0 ≤ z784 ∧ z784 ≤ 0 := (vc_X12_ring_22 h801 h785)
        refine sv_aload_n (pc := 251) dX3_readAttribute_251 rfl rfl ?_
        refine mr_iconst (pc := 252) (z := 2) dX3_readAttribute_252 ?_
        refine mr_iload_n (pc := 253) (z := p1) dX3_readAttribute_253 rfl rfl ?_
        refine mr_cVV (pc := 254) (c_X3_note hw T794 (rW (c := 0) (d := 3) (rR (x := 2)) rfl) (rW (c := (-2147483648)) (d := 2147483647) hp1 rfl)) (gOk _ _ _ _ _) dX3_readAttribute_254 (tX3_note _ _ _ _ _) ⟨wV_X3_note, wL_X3_note⟩ wM_X3_92 (gCX3 _ _ _ _ _) rfl (A_76 hw) rfl ⟨le_t rfl, le_t rfl⟩ ⟨le_t rfl, le_t rfl⟩ rfl (le_t rfl) fun μ804 T805 F806 h807 => ?_
        exact mr_vret dX3_readAttribute_257 rfl (le_t rfl) (le_t rfl) T805 (mF.call (mF.up (mF.call (mF.up mF.refl (A_77 hw) u727 rfl) F788 rfl) (A_76 hw) u793 rfl) F806 rfl) ⟨f_cc, ((f_s + 1) - z721), (F806.f (A_76 hw) rfl (u793.f (Or.inr (by decide)) (F788.f (A_76 hw) rfl (u727.f (Or.inl (mAt.ne (A_77 hw) (A_76 hw) rfl)) q_f_cc)))), (cntF F806 (A_77 hw) rfl rfl (cntO u793 (by decide) (cntF F788 (A_77 hw) rfl rfl (cntU u727 (rIx (n := 256) h720 rfl) rfl q_f_s q722)))), (vc_X3_readAttribute_4 hq1 h724 h729 ht_f_cc ht_f_s h725), trivial⟩
      refine mr_icmp_ne (pc := 139) (tgt := 155) dX3_readAttribute_139 (by decide) (r32 h717 rfl) (r32 (rR (x := 64)) rfl) (fun h808 => ?_) (fun h808 => ?_)
      · refine mr_iconst (pc := 155) (z := 0) dX3_readAttribute_155 ?_
        refine mr_lvS (lv' := [(0, .ref 76), (1, iv p1)]) (List.forall_mem_cons.mpr ⟨rfl, List.forall_mem_cons.mpr ⟨rfl, fun _ h => absurd h List.not_mem_nil⟩⟩) ?_
        exact J791 0 μ726 T728 mF.refl (rW (c := 0) (d := 1) (rR (x := 0)) rfl) (OC.keep hIOC hw ((mF.up mF.refl (A_77 hw) u727 rfl) : mF [77999] w μ μ726) rfl)
      have h809 : 64 ≤ z715 ∧ z715 ≤ 64 := (vc_X3_readAttribute_6 h808 h717)
      refine sv_aload_n (pc := 142) dX3_readAttribute_142 rfl rfl ?_
      refine mr_iload_n (pc := 143) (z := p2) dX3_readAttribute_143 rfl rfl ?_
      refine mr_iload_n (pc := 144) (z := p3) dX3_readAttribute_144 rfl rfl ?_
      refine mr_cVI (pc := 145) (c_X3_readWay hw T728 hp2 hp3 (vc_X3_readAttribute_7 hq0 hp2 hp3) (OC.keep hIOC hw ((mF.up mF.refl (A_77 hw) u727 rfl) : mF [77999] w μ μ726) rfl)) (gOk _ _ _ _ _) dX3_readAttribute_145 (tX3_readWay _ _ _ _ _) ⟨wV_X3_readWay, wL_X3_readWay⟩ wM_X3_115 (gCX3 _ _ _ _ _) rfl (A_76 hw) rfl ⟨le_t rfl, le_t rfl⟩ ⟨le_t rfl, le_t rfl⟩ rfl (le_t rfl) fun z814 μ810 T811 F812 h813 => ?_
      refine mr_if_eq (pc := 148) (tgt := 155) dX3_readAttribute_148 (by decide) (r32 h813.1 rfl) (fun h815 => ?_) (fun h815 => ?_)
      · have h816 : 0 ≤ z814 ∧ z814 ≤ 0 := (vc_X12_ring_22 h815 h813.1)
        refine mr_iconst (pc := 155) (z := 0) dX3_readAttribute_155 ?_
        refine mr_lvS (lv' := [(0, .ref 76), (1, iv p1)]) (List.forall_mem_cons.mpr ⟨rfl, List.forall_mem_cons.mpr ⟨rfl, fun _ h => absurd h List.not_mem_nil⟩⟩) ?_
        exact J791 0 μ810 T811 (mF.call mF.refl F812 rfl) (rW (c := 0) (d := 1) (rR (x := 0)) rfl) (OC.keep hIOC hw ((mF.call (mF.up mF.refl (A_77 hw) u727 rfl) F812 rfl) : mF [77999, 200007, 201999] w μ μ810) rfl)
      have h817 : 1 ≤ z814 ∧ z814 ≤ 1 := (vc_X12_ring_24 h815 h813.1)
      refine mr_iconst (pc := 151) (z := 1) dX3_readAttribute_151 ?_
      refine sv_goto (pc := 152) (tgt := 156) dX3_readAttribute_152 (by decide) ?_
      refine mr_lvS (lv' := [(0, .ref 76), (1, iv p1)]) (List.forall_mem_cons.mpr ⟨rfl, List.forall_mem_cons.mpr ⟨rfl, fun _ h => absurd h List.not_mem_nil⟩⟩) ?_
      exact J791 1 μ810 T811 (mF.call mF.refl F812 rfl) (rW (c := 0) (d := 1) (rR (x := 1)) rfl) (OC.keep hIOC hw ((mF.call (mF.up mF.refl (A_77 hw) u727 rfl) F812 rfl) : mF [77999, 200007, 201999] w μ μ810) rfl)
    by_cases h818 : z718 = 3
    · refine mr_tableIn (pc := 53) (v := 3) (tgt := 222) dX3_readAttribute_53 h818 rfl rfl (by decide) ?_
      have h819 : 3 ≤ z718 ∧ z718 ≤ 3 := (vc_X3_readAttribute_15 h818 h730 h774 h720)
      refine mr_iload (pc := 222) (z := z712) dX3_readAttribute_222 rfl ?_
      refine mr_sipush (pc := 224) (z := 128) dX3_readAttribute_224 (by decide) ?_
      refine mr_iand (pc := 227) (x := z712) (y := 128) dX3_readAttribute_227 ?_
      refine mr_gen (P := fun z => 0 ≤ z ∧ z ≤ 128) (rAndR (rR (x := 128)) rfl) fun z820 q821 h822 => ?_
      have J827 : ∀ (z825 : Int), ((0 ≤ z825 ∧ z825 ≤ 1)) → sV (gG l D c H0 sa) mX3_readAttribute (sRm 4 0 0) (sZ (gG l D c H0 sa) 0 0 (qV w [76005, 76006, 76007, 76008, 77999, 78999, 79999, 80999, 200005, 200006, 200007, 201999] μ (fun μ1 => ∃ o_cc o_s : Int, μ1 76 5 = o_cc ∧ cnt μ1 77 256 = o_s ∧ (o_cc ≤ o_s) ∧ True))) 236 [(0, .ref 76), (1, iv p1), (4, iv z712), (6, iv z718)] [iv z825] (mk w μ726) 0 0 := by
        intro z825 h826
        refine mr_istore (pc := 236) (lv' := [(7, iv z825), (0, .ref 76), (1, iv p1), (4, iv z712), (6, iv z718)]) dX3_readAttribute_236 (by decide) rfl ?_
        refine sv_aload_n (pc := 238) dX3_readAttribute_238 rfl rfl ?_
        refine mr_iload (pc := 239) (z := z712) dX3_readAttribute_239 rfl ?_
        refine mr_iload (pc := 241) (z := z718) dX3_readAttribute_241 rfl ?_
        refine mr_cVV (pc := 243) (c_X3_carry hw T728 (rW (c := (-2147483648)) (d := 2147483647) h714 rfl) (rW (c := (-2147483648)) (d := 2147483647) h819 rfl) (u727.f (Or.inl (mAt.ne (A_77 hw) (A_76 hw) rfl)) q_f_cc) (vc_X3_readAttribute_16 hq1 h729 ht_f_cc ht_f_s h725)) (gOk _ _ _ _ _) dX3_readAttribute_243 (tX3_carry _ _ _ _ _) ⟨wV_X3_carry, wL_X3_carry⟩ wM_X3_124 (gCX3 _ _ _ _ _) rfl (A_76 hw) rfl ⟨le_t rfl, le_t rfl⟩ ⟨le_t rfl, le_t rfl⟩ rfl (le_t rfl) fun μ828 T829 F830 h831 => ?_
        obtain ⟨z832, q833, h834⟩ := h831
        have h835 : (0 ≤ z832 ∧ z832 ≤ 256) := by rw [← q833]; exact T829 76 76 (A_76 hw) 5
        refine mr_iload (pc := 246) (z := z825) dX3_readAttribute_246 rfl ?_
        refine mr_if_ne (pc := 248) (tgt := 257) dX3_readAttribute_248 (by decide) (r32 h826 rfl) (fun h842 => ?_) (fun h842 => ?_)
        · have h843 : 1 ≤ z825 ∧ z825 ≤ 1 := (vc_X12_ring_24 h842 h826)
          exact mr_vret dX3_readAttribute_257 rfl (le_t rfl) (le_t rfl) T829 (mF.call (mF.up mF.refl (A_77 hw) u727 rfl) F830 rfl) ⟨z832, ((f_s + 1) - z721), q833, (cntF F830 (A_77 hw) rfl rfl (cntU u727 (rIx (n := 256) h720 rfl) rfl q_f_s q722)), (vc_X3_readAttribute_18 hq1 h724 h729 h834.1 ht_f_cc ht_f_s h725 h835), trivial⟩
        have h844 : 0 ≤ z825 ∧ z825 ≤ 0 := (vc_X12_ring_22 h842 h826)
        refine sv_aload_n (pc := 251) dX3_readAttribute_251 rfl rfl ?_
        refine mr_iconst (pc := 252) (z := 2) dX3_readAttribute_252 ?_
        refine mr_iload_n (pc := 253) (z := p1) dX3_readAttribute_253 rfl rfl ?_
        refine mr_cVV (pc := 254) (c_X3_note hw T829 (rW (c := 0) (d := 3) (rR (x := 2)) rfl) (rW (c := (-2147483648)) (d := 2147483647) hp1 rfl)) (gOk _ _ _ _ _) dX3_readAttribute_254 (tX3_note _ _ _ _ _) ⟨wV_X3_note, wL_X3_note⟩ wM_X3_92 (gCX3 _ _ _ _ _) rfl (A_76 hw) rfl ⟨le_t rfl, le_t rfl⟩ ⟨le_t rfl, le_t rfl⟩ rfl (le_t rfl) fun μ845 T846 F847 h848 => ?_
        exact mr_vret dX3_readAttribute_257 rfl (le_t rfl) (le_t rfl) T846 (mF.call (mF.call (mF.up mF.refl (A_77 hw) u727 rfl) F830 rfl) F847 rfl) ⟨z832, ((f_s + 1) - z721), (F847.f (A_76 hw) rfl q833), (cntF F847 (A_77 hw) rfl rfl (cntF F830 (A_77 hw) rfl rfl (cntU u727 (rIx (n := 256) h720 rfl) rfl q_f_s q722))), (vc_X3_readAttribute_18 hq1 h724 h729 h834.1 ht_f_cc ht_f_s h725 h835), trivial⟩
      refine mr_if_eq (pc := 228) (tgt := 235) dX3_readAttribute_228 (by decide) (r32 h822 rfl) (fun h849 => ?_) (fun h849 => ?_)
      · have h850 : 0 ≤ z820 ∧ z820 ≤ 0 := (vc_X3_readAttribute_20 h849 h822)
        refine mr_iconst (pc := 235) (z := 0) dX3_readAttribute_235 ?_
        refine mr_lvS (lv' := [(0, .ref 76), (1, iv p1), (4, iv z712), (6, iv z718)]) (List.forall_mem_cons.mpr ⟨rfl, List.forall_mem_cons.mpr ⟨rfl, List.forall_mem_cons.mpr ⟨rfl, List.forall_mem_cons.mpr ⟨rfl, fun _ h => absurd h List.not_mem_nil⟩⟩⟩⟩) ?_
        exact J827 0 (rW (c := 0) (d := 1) (rR (x := 0)) rfl)
      have h851 : 1 ≤ z820 ∧ z820 ≤ 128 := (vc_X3_readAttribute_21 h849 h822)
      refine mr_iconst (pc := 231) (z := 1) dX3_readAttribute_231 ?_
      refine sv_goto (pc := 232) (tgt := 236) dX3_readAttribute_232 (by decide) ?_
      refine mr_lvS (lv' := [(0, .ref 76), (1, iv p1), (4, iv z712), (6, iv z718)]) (List.forall_mem_cons.mpr ⟨rfl, List.forall_mem_cons.mpr ⟨rfl, List.forall_mem_cons.mpr ⟨rfl, List.forall_mem_cons.mpr ⟨rfl, fun _ h => absurd h List.not_mem_nil⟩⟩⟩⟩) ?_
      exact J827 1 (rW (c := 0) (d := 1) (rR (x := 1)) rfl)
    by_cases h852 : z718 = 4
    · refine mr_tableIn (pc := 53) (v := 4) (tgt := 168) dX3_readAttribute_53 h852 rfl rfl (by decide) ?_
      have h853 : 4 ≤ z718 ∧ z718 ≤ 4 := (vc_X3_readAttribute_22 h852 h730 h774 h818 h720)
      refine mr_iload (pc := 168) (z := z715) dX3_readAttribute_168 rfl ?_
      refine mr_sipush (pc := 170) (z := 128) dX3_readAttribute_170 (by decide) ?_
      have J869 : ∀ (z862 : Int) (μ864 : mM), (mT w μ864) → (mF [200006] w μ726 μ864) → ((0 ≤ z862 ∧ z862 ≤ 1)) → (OC μ864) → sV (gG l D c H0 sa) mX3_readAttribute (sRm 4 0 0) (sZ (gG l D c H0 sa) 0 0 (qV w [76005, 76006, 76007, 76008, 77999, 78999, 79999, 80999, 200005, 200006, 200007, 201999] μ (fun μ1 => ∃ o_cc o_s : Int, μ1 76 5 = o_cc ∧ cnt μ1 77 256 = o_s ∧ (o_cc ≤ o_s) ∧ True))) 190 [(0, .ref 76), (1, iv p1)] [iv z862] (mk w μ864) 0 0 := by
        intro z862 μ864 T865 F866 h863 I868
        refine mr_istore (pc := 190) (lv' := [(7, iv z862), (0, .ref 76), (1, iv p1)]) dX3_readAttribute_190 (by decide) rfl ?_
        refine sv_goto (pc := 192) (tgt := 246) dX3_readAttribute_192 (by decide) ?_
        refine mr_iload (pc := 246) (z := z862) dX3_readAttribute_246 rfl ?_
        refine mr_if_ne (pc := 248) (tgt := 257) dX3_readAttribute_248 (by decide) (r32 h863 rfl) (fun h876 => ?_) (fun h876 => ?_)
        · have h877 : 1 ≤ z862 ∧ z862 ≤ 1 := (vc_X12_ring_24 h876 h863)
          exact mr_vret dX3_readAttribute_257 rfl (le_t rfl) (le_t rfl) T865 (mF.call (mF.up mF.refl (A_77 hw) u727 rfl) F866 rfl) ⟨f_cc, ((f_s + 1) - z721), (F866.f (A_76 hw) rfl (u727.f (Or.inl (mAt.ne (A_77 hw) (A_76 hw) rfl)) q_f_cc)), (cntF F866 (A_77 hw) rfl rfl (cntU u727 (rIx (n := 256) h720 rfl) rfl q_f_s q722)), (vc_X3_readAttribute_4 hq1 h724 h729 ht_f_cc ht_f_s h725), trivial⟩
        have h878 : 0 ≤ z862 ∧ z862 ≤ 0 := (vc_X12_ring_22 h876 h863)
        refine sv_aload_n (pc := 251) dX3_readAttribute_251 rfl rfl ?_
        refine mr_iconst (pc := 252) (z := 2) dX3_readAttribute_252 ?_
        refine mr_iload_n (pc := 253) (z := p1) dX3_readAttribute_253 rfl rfl ?_
        refine mr_cVV (pc := 254) (c_X3_note hw T865 (rW (c := 0) (d := 3) (rR (x := 2)) rfl) (rW (c := (-2147483648)) (d := 2147483647) hp1 rfl)) (gOk _ _ _ _ _) dX3_readAttribute_254 (tX3_note _ _ _ _ _) ⟨wV_X3_note, wL_X3_note⟩ wM_X3_92 (gCX3 _ _ _ _ _) rfl (A_76 hw) rfl ⟨le_t rfl, le_t rfl⟩ ⟨le_t rfl, le_t rfl⟩ rfl (le_t rfl) fun μ879 T880 F881 h882 => ?_
        exact mr_vret dX3_readAttribute_257 rfl (le_t rfl) (le_t rfl) T880 (mF.call (mF.call (mF.up mF.refl (A_77 hw) u727 rfl) F866 rfl) F881 rfl) ⟨f_cc, ((f_s + 1) - z721), (F881.f (A_76 hw) rfl (F866.f (A_76 hw) rfl (u727.f (Or.inl (mAt.ne (A_77 hw) (A_76 hw) rfl)) q_f_cc))), (cntF F881 (A_77 hw) rfl rfl (cntF F866 (A_77 hw) rfl rfl (cntU u727 (rIx (n := 256) h720 rfl) rfl q_f_s q722))), (vc_X3_readAttribute_4 hq1 h724 h729 ht_f_cc ht_f_s h725), trivial⟩
      refine mr_icmp_ne (pc := 173) (tgt := 189) dX3_readAttribute_173 (by decide) (r32 h717 rfl) (r32 (rR (x := 128)) rfl) (fun h883 => ?_) (fun h883 => ?_)
      · refine mr_iconst (pc := 189) (z := 0) dX3_readAttribute_189 ?_
        refine mr_lvS (lv' := [(0, .ref 76), (1, iv p1)]) (List.forall_mem_cons.mpr ⟨rfl, List.forall_mem_cons.mpr ⟨rfl, fun _ h => absurd h List.not_mem_nil⟩⟩) ?_
        exact J869 0 μ726 T728 mF.refl (rW (c := 0) (d := 1) (rR (x := 0)) rfl) (OC.keep hIOC hw ((mF.up mF.refl (A_77 hw) u727 rfl) : mF [77999] w μ μ726) rfl)
      have h884 : 128 ≤ z715 ∧ z715 ≤ 128 := (vc_X3_readAttribute_25 h883 h717)
      refine sv_aload_n (pc := 176) dX3_readAttribute_176 rfl rfl ?_
      refine mr_iload_n (pc := 177) (z := p2) dX3_readAttribute_177 rfl rfl ?_
      refine mr_iload_n (pc := 178) (z := p3) dX3_readAttribute_178 rfl rfl ?_
      refine mr_cVI (pc := 179) (c_X3_readCost hw T728 hp2 (rW (c := (-2147483648)) (d := 2147483647) hp3 rfl) (vc_X3_readAttribute_7 hq0 hp2 hp3) (OC.keep hIOC hw ((mF.up mF.refl (A_77 hw) u727 rfl) : mF [77999] w μ μ726) rfl)) (gOk _ _ _ _ _) dX3_readAttribute_179 (tX3_readCost _ _ _ _ _) ⟨wV_X3_readCost, wL_X3_readCost⟩ wM_X3_118 (gCX3 _ _ _ _ _) rfl (A_76 hw) rfl ⟨le_t rfl, le_t rfl⟩ ⟨le_t rfl, le_t rfl⟩ rfl (le_t rfl) fun z889 μ885 T886 F887 h888 => ?_
      refine mr_if_eq (pc := 182) (tgt := 189) dX3_readAttribute_182 (by decide) (r32 h888.1 rfl) (fun h890 => ?_) (fun h890 => ?_)
      · have h891 : 0 ≤ z889 ∧ z889 ≤ 0 := (vc_X12_ring_22 h890 h888.1)
        refine mr_iconst (pc := 189) (z := 0) dX3_readAttribute_189 ?_
        refine mr_lvS (lv' := [(0, .ref 76), (1, iv p1)]) (List.forall_mem_cons.mpr ⟨rfl, List.forall_mem_cons.mpr ⟨rfl, fun _ h => absurd h List.not_mem_nil⟩⟩) ?_
        exact J869 0 μ885 T886 (mF.call mF.refl F887 rfl) (rW (c := 0) (d := 1) (rR (x := 0)) rfl) (OC.keep hIOC hw ((mF.call (mF.up mF.refl (A_77 hw) u727 rfl) F887 rfl) : mF [77999, 200006] w μ μ885) rfl)
      have h892 : 1 ≤ z889 ∧ z889 ≤ 1 := (vc_X12_ring_24 h890 h888.1)
      refine mr_iconst (pc := 185) (z := 1) dX3_readAttribute_185 ?_
      refine sv_goto (pc := 186) (tgt := 190) dX3_readAttribute_186 (by decide) ?_
      refine mr_lvS (lv' := [(0, .ref 76), (1, iv p1)]) (List.forall_mem_cons.mpr ⟨rfl, List.forall_mem_cons.mpr ⟨rfl, fun _ h => absurd h List.not_mem_nil⟩⟩) ?_
      exact J869 1 μ885 T886 (mF.call mF.refl F887 rfl) (rW (c := 0) (d := 1) (rR (x := 1)) rfl) (OC.keep hIOC hw ((mF.call (mF.up mF.refl (A_77 hw) u727 rfl) F887 rfl) : mF [77999, 200006] w μ μ885) rfl)
    by_cases h893 : z718 = 5
    · refine mr_tableIn (pc := 53) (v := 5) (tgt := 222) dX3_readAttribute_53 h893 rfl rfl (by decide) ?_
      have h894 : 5 ≤ z718 ∧ z718 ≤ 5 := (vc_X3_readAttribute_28 h893 h730 h774 h818 h852 h720)
      refine mr_iload (pc := 222) (z := z712) dX3_readAttribute_222 rfl ?_
      refine mr_sipush (pc := 224) (z := 128) dX3_readAttribute_224 (by decide) ?_
      refine mr_iand (pc := 227) (x := z712) (y := 128) dX3_readAttribute_227 ?_
      refine mr_gen (P := fun z => 0 ≤ z ∧ z ≤ 128) (rAndR (rR (x := 128)) rfl) fun z895 q896 h897 => ?_
      have J902 : ∀ (z900 : Int), ((0 ≤ z900 ∧ z900 ≤ 1)) → sV (gG l D c H0 sa) mX3_readAttribute (sRm 4 0 0) (sZ (gG l D c H0 sa) 0 0 (qV w [76005, 76006, 76007, 76008, 77999, 78999, 79999, 80999, 200005, 200006, 200007, 201999] μ (fun μ1 => ∃ o_cc o_s : Int, μ1 76 5 = o_cc ∧ cnt μ1 77 256 = o_s ∧ (o_cc ≤ o_s) ∧ True))) 236 [(0, .ref 76), (1, iv p1), (4, iv z712), (6, iv z718)] [iv z900] (mk w μ726) 0 0 := by
        intro z900 h901
        refine mr_istore (pc := 236) (lv' := [(7, iv z900), (0, .ref 76), (1, iv p1), (4, iv z712), (6, iv z718)]) dX3_readAttribute_236 (by decide) rfl ?_
        refine sv_aload_n (pc := 238) dX3_readAttribute_238 rfl rfl ?_
        refine mr_iload (pc := 239) (z := z712) dX3_readAttribute_239 rfl ?_
        refine mr_iload (pc := 241) (z := z718) dX3_readAttribute_241 rfl ?_
        refine mr_cVV (pc := 243) (c_X3_carry hw T728 (rW (c := (-2147483648)) (d := 2147483647) h714 rfl) (rW (c := (-2147483648)) (d := 2147483647) h894 rfl) (u727.f (Or.inl (mAt.ne (A_77 hw) (A_76 hw) rfl)) q_f_cc) (vc_X3_readAttribute_16 hq1 h729 ht_f_cc ht_f_s h725)) (gOk _ _ _ _ _) dX3_readAttribute_243 (tX3_carry _ _ _ _ _) ⟨wV_X3_carry, wL_X3_carry⟩ wM_X3_124 (gCX3 _ _ _ _ _) rfl (A_76 hw) rfl ⟨le_t rfl, le_t rfl⟩ ⟨le_t rfl, le_t rfl⟩ rfl (le_t rfl) fun μ903 T904 F905 h906 => ?_
        obtain ⟨z907, q908, h909⟩ := h906
        have h910 : (0 ≤ z907 ∧ z907 ≤ 256) := by rw [← q908]; exact T904 76 76 (A_76 hw) 5
        refine mr_iload (pc := 246) (z := z900) dX3_readAttribute_246 rfl ?_
        refine mr_if_ne (pc := 248) (tgt := 257) dX3_readAttribute_248 (by decide) (r32 h901 rfl) (fun h917 => ?_) (fun h917 => ?_)
        · have h918 : 1 ≤ z900 ∧ z900 ≤ 1 := (vc_X12_ring_24 h917 h901)
          exact mr_vret dX3_readAttribute_257 rfl (le_t rfl) (le_t rfl) T904 (mF.call (mF.up mF.refl (A_77 hw) u727 rfl) F905 rfl) ⟨z907, ((f_s + 1) - z721), q908, (cntF F905 (A_77 hw) rfl rfl (cntU u727 (rIx (n := 256) h720 rfl) rfl q_f_s q722)), (vc_X3_readAttribute_18 hq1 h724 h729 h909.1 ht_f_cc ht_f_s h725 h910), trivial⟩
        have h919 : 0 ≤ z900 ∧ z900 ≤ 0 := (vc_X12_ring_22 h917 h901)
        refine sv_aload_n (pc := 251) dX3_readAttribute_251 rfl rfl ?_
        refine mr_iconst (pc := 252) (z := 2) dX3_readAttribute_252 ?_
        refine mr_iload_n (pc := 253) (z := p1) dX3_readAttribute_253 rfl rfl ?_
        refine mr_cVV (pc := 254) (c_X3_note hw T904 (rW (c := 0) (d := 3) (rR (x := 2)) rfl) (rW (c := (-2147483648)) (d := 2147483647) hp1 rfl)) (gOk _ _ _ _ _) dX3_readAttribute_254 (tX3_note _ _ _ _ _) ⟨wV_X3_note, wL_X3_note⟩ wM_X3_92 (gCX3 _ _ _ _ _) rfl (A_76 hw) rfl ⟨le_t rfl, le_t rfl⟩ ⟨le_t rfl, le_t rfl⟩ rfl (le_t rfl) fun μ920 T921 F922 h923 => ?_
        exact mr_vret dX3_readAttribute_257 rfl (le_t rfl) (le_t rfl) T921 (mF.call (mF.call (mF.up mF.refl (A_77 hw) u727 rfl) F905 rfl) F922 rfl) ⟨z907, ((f_s + 1) - z721), (F922.f (A_76 hw) rfl q908), (cntF F922 (A_77 hw) rfl rfl (cntF F905 (A_77 hw) rfl rfl (cntU u727 (rIx (n := 256) h720 rfl) rfl q_f_s q722))), (vc_X3_readAttribute_18 hq1 h724 h729 h909.1 ht_f_cc ht_f_s h725 h910), trivial⟩
      refine mr_if_eq (pc := 228) (tgt := 235) dX3_readAttribute_228 (by decide) (r32 h897 rfl) (fun h924 => ?_) (fun h924 => ?_)
      · have h925 : 0 ≤ z895 ∧ z895 ≤ 0 := (vc_X3_readAttribute_20 h924 h897)
        refine mr_iconst (pc := 235) (z := 0) dX3_readAttribute_235 ?_
        refine mr_lvS (lv' := [(0, .ref 76), (1, iv p1), (4, iv z712), (6, iv z718)]) (List.forall_mem_cons.mpr ⟨rfl, List.forall_mem_cons.mpr ⟨rfl, List.forall_mem_cons.mpr ⟨rfl, List.forall_mem_cons.mpr ⟨rfl, fun _ h => absurd h List.not_mem_nil⟩⟩⟩⟩) ?_
        exact J902 0 (rW (c := 0) (d := 1) (rR (x := 0)) rfl)
      have h926 : 1 ≤ z895 ∧ z895 ≤ 128 := (vc_X3_readAttribute_21 h924 h897)
      refine mr_iconst (pc := 231) (z := 1) dX3_readAttribute_231 ?_
      refine sv_goto (pc := 232) (tgt := 236) dX3_readAttribute_232 (by decide) ?_
      refine mr_lvS (lv' := [(0, .ref 76), (1, iv p1), (4, iv z712), (6, iv z718)]) (List.forall_mem_cons.mpr ⟨rfl, List.forall_mem_cons.mpr ⟨rfl, List.forall_mem_cons.mpr ⟨rfl, List.forall_mem_cons.mpr ⟨rfl, fun _ h => absurd h List.not_mem_nil⟩⟩⟩⟩) ?_
      exact J902 1 (rW (c := 0) (d := 1) (rR (x := 1)) rfl)
    by_cases h927 : z718 = 6
    · refine mr_tableIn (pc := 53) (v := 6) (tgt := 222) dX3_readAttribute_53 h927 rfl rfl (by decide) ?_
      have h928 : 6 ≤ z718 ∧ z718 ≤ 6 := (vc_X3_readAttribute_34 h927 h730 h774 h818 h852 h893 h720)
      refine mr_iload (pc := 222) (z := z712) dX3_readAttribute_222 rfl ?_
      refine mr_sipush (pc := 224) (z := 128) dX3_readAttribute_224 (by decide) ?_
      refine mr_iand (pc := 227) (x := z712) (y := 128) dX3_readAttribute_227 ?_
      refine mr_gen (P := fun z => 0 ≤ z ∧ z ≤ 128) (rAndR (rR (x := 128)) rfl) fun z929 q930 h931 => ?_
      have J936 : ∀ (z934 : Int), ((0 ≤ z934 ∧ z934 ≤ 1)) → sV (gG l D c H0 sa) mX3_readAttribute (sRm 4 0 0) (sZ (gG l D c H0 sa) 0 0 (qV w [76005, 76006, 76007, 76008, 77999, 78999, 79999, 80999, 200005, 200006, 200007, 201999] μ (fun μ1 => ∃ o_cc o_s : Int, μ1 76 5 = o_cc ∧ cnt μ1 77 256 = o_s ∧ (o_cc ≤ o_s) ∧ True))) 236 [(0, .ref 76), (1, iv p1), (4, iv z712), (6, iv z718)] [iv z934] (mk w μ726) 0 0 := by
        intro z934 h935
        refine mr_istore (pc := 236) (lv' := [(7, iv z934), (0, .ref 76), (1, iv p1), (4, iv z712), (6, iv z718)]) dX3_readAttribute_236 (by decide) rfl ?_
        refine sv_aload_n (pc := 238) dX3_readAttribute_238 rfl rfl ?_
        refine mr_iload (pc := 239) (z := z712) dX3_readAttribute_239 rfl ?_
        refine mr_iload (pc := 241) (z := z718) dX3_readAttribute_241 rfl ?_
        refine mr_cVV (pc := 243) (c_X3_carry hw T728 (rW (c := (-2147483648)) (d := 2147483647) h714 rfl) (rW (c := (-2147483648)) (d := 2147483647) h928 rfl) (u727.f (Or.inl (mAt.ne (A_77 hw) (A_76 hw) rfl)) q_f_cc) (vc_X3_readAttribute_16 hq1 h729 ht_f_cc ht_f_s h725)) (gOk _ _ _ _ _) dX3_readAttribute_243 (tX3_carry _ _ _ _ _) ⟨wV_X3_carry, wL_X3_carry⟩ wM_X3_124 (gCX3 _ _ _ _ _) rfl (A_76 hw) rfl ⟨le_t rfl, le_t rfl⟩ ⟨le_t rfl, le_t rfl⟩ rfl (le_t rfl) fun μ937 T938 F939 h940 => ?_
        obtain ⟨z941, q942, h943⟩ := h940
        have h944 : (0 ≤ z941 ∧ z941 ≤ 256) := by rw [← q942]; exact T938 76 76 (A_76 hw) 5
        refine mr_iload (pc := 246) (z := z934) dX3_readAttribute_246 rfl ?_
        refine mr_if_ne (pc := 248) (tgt := 257) dX3_readAttribute_248 (by decide) (r32 h935 rfl) (fun h951 => ?_) (fun h951 => ?_)
        · have h952 : 1 ≤ z934 ∧ z934 ≤ 1 := (vc_X12_ring_24 h951 h935)
          exact mr_vret dX3_readAttribute_257 rfl (le_t rfl) (le_t rfl) T938 (mF.call (mF.up mF.refl (A_77 hw) u727 rfl) F939 rfl) ⟨z941, ((f_s + 1) - z721), q942, (cntF F939 (A_77 hw) rfl rfl (cntU u727 (rIx (n := 256) h720 rfl) rfl q_f_s q722)), (vc_X3_readAttribute_18 hq1 h724 h729 h943.1 ht_f_cc ht_f_s h725 h944), trivial⟩
        have h953 : 0 ≤ z934 ∧ z934 ≤ 0 := (vc_X12_ring_22 h951 h935)
        refine sv_aload_n (pc := 251) dX3_readAttribute_251 rfl rfl ?_
        refine mr_iconst (pc := 252) (z := 2) dX3_readAttribute_252 ?_
        refine mr_iload_n (pc := 253) (z := p1) dX3_readAttribute_253 rfl rfl ?_
        refine mr_cVV (pc := 254) (c_X3_note hw T938 (rW (c := 0) (d := 3) (rR (x := 2)) rfl) (rW (c := (-2147483648)) (d := 2147483647) hp1 rfl)) (gOk _ _ _ _ _) dX3_readAttribute_254 (tX3_note _ _ _ _ _) ⟨wV_X3_note, wL_X3_note⟩ wM_X3_92 (gCX3 _ _ _ _ _) rfl (A_76 hw) rfl ⟨le_t rfl, le_t rfl⟩ ⟨le_t rfl, le_t rfl⟩ rfl (le_t rfl) fun μ954 T955 F956 h957 => ?_
        exact mr_vret dX3_readAttribute_257 rfl (le_t rfl) (le_t rfl) T955 (mF.call (mF.call (mF.up mF.refl (A_77 hw) u727 rfl) F939 rfl) F956 rfl) ⟨z941, ((f_s + 1) - z721), (F956.f (A_76 hw) rfl q942), (cntF F956 (A_77 hw) rfl rfl (cntF F939 (A_77 hw) rfl rfl (cntU u727 (rIx (n := 256) h720 rfl) rfl q_f_s q722))), (vc_X3_readAttribute_18 hq1 h724 h729 h943.1 ht_f_cc ht_f_s h725 h944), trivial⟩
      refine mr_if_eq (pc := 228) (tgt := 235) dX3_readAttribute_228 (by decide) (r32 h931 rfl) (fun h958 => ?_) (fun h958 => ?_)
      · have h959 : 0 ≤ z929 ∧ z929 ≤ 0 := (vc_X3_readAttribute_20 h958 h931)
        refine mr_iconst (pc := 235) (z := 0) dX3_readAttribute_235 ?_
        refine mr_lvS (lv' := [(0, .ref 76), (1, iv p1), (4, iv z712), (6, iv z718)]) (List.forall_mem_cons.mpr ⟨rfl, List.forall_mem_cons.mpr ⟨rfl, List.forall_mem_cons.mpr ⟨rfl, List.forall_mem_cons.mpr ⟨rfl, fun _ h => absurd h List.not_mem_nil⟩⟩⟩⟩) ?_
        exact J936 0 (rW (c := 0) (d := 1) (rR (x := 0)) rfl)
      have h960 : 1 ≤ z929 ∧ z929 ≤ 128 := (vc_X3_readAttribute_21 h958 h931)
      refine mr_iconst (pc := 231) (z := 1) dX3_readAttribute_231 ?_
      refine sv_goto (pc := 232) (tgt := 236) dX3_readAttribute_232 (by decide) ?_
      refine mr_lvS (lv' := [(0, .ref 76), (1, iv p1), (4, iv z712), (6, iv z718)]) (List.forall_mem_cons.mpr ⟨rfl, List.forall_mem_cons.mpr ⟨rfl, List.forall_mem_cons.mpr ⟨rfl, List.forall_mem_cons.mpr ⟨rfl, fun _ h => absurd h List.not_mem_nil⟩⟩⟩⟩) ?_
      exact J936 1 (rW (c := 0) (d := 1) (rR (x := 1)) rfl)
    by_cases h961 : z718 = 7
    · refine mr_tableIn (pc := 53) (v := 7) (tgt := 222) dX3_readAttribute_53 h961 rfl rfl (by decide) ?_
      have h962 : 7 ≤ z718 ∧ z718 ≤ 7 := (vc_X3_readAttribute_40 h961 h730 h774 h818 h852 h893 h927 h720)
      refine mr_iload (pc := 222) (z := z712) dX3_readAttribute_222 rfl ?_
      refine mr_sipush (pc := 224) (z := 128) dX3_readAttribute_224 (by decide) ?_
      refine mr_iand (pc := 227) (x := z712) (y := 128) dX3_readAttribute_227 ?_
      refine mr_gen (P := fun z => 0 ≤ z ∧ z ≤ 128) (rAndR (rR (x := 128)) rfl) fun z963 q964 h965 => ?_
      have J970 : ∀ (z968 : Int), ((0 ≤ z968 ∧ z968 ≤ 1)) → sV (gG l D c H0 sa) mX3_readAttribute (sRm 4 0 0) (sZ (gG l D c H0 sa) 0 0 (qV w [76005, 76006, 76007, 76008, 77999, 78999, 79999, 80999, 200005, 200006, 200007, 201999] μ (fun μ1 => ∃ o_cc o_s : Int, μ1 76 5 = o_cc ∧ cnt μ1 77 256 = o_s ∧ (o_cc ≤ o_s) ∧ True))) 236 [(0, .ref 76), (1, iv p1), (4, iv z712), (6, iv z718)] [iv z968] (mk w μ726) 0 0 := by
        intro z968 h969
        refine mr_istore (pc := 236) (lv' := [(7, iv z968), (0, .ref 76), (1, iv p1), (4, iv z712), (6, iv z718)]) dX3_readAttribute_236 (by decide) rfl ?_
        refine sv_aload_n (pc := 238) dX3_readAttribute_238 rfl rfl ?_
        refine mr_iload (pc := 239) (z := z712) dX3_readAttribute_239 rfl ?_
        refine mr_iload (pc := 241) (z := z718) dX3_readAttribute_241 rfl ?_
        refine mr_cVV (pc := 243) (c_X3_carry hw T728 (rW (c := (-2147483648)) (d := 2147483647) h714 rfl) (rW (c := (-2147483648)) (d := 2147483647) h962 rfl) (u727.f (Or.inl (mAt.ne (A_77 hw) (A_76 hw) rfl)) q_f_cc) (vc_X3_readAttribute_16 hq1 h729 ht_f_cc ht_f_s h725)) (gOk _ _ _ _ _) dX3_readAttribute_243 (tX3_carry _ _ _ _ _) ⟨wV_X3_carry, wL_X3_carry⟩ wM_X3_124 (gCX3 _ _ _ _ _) rfl (A_76 hw) rfl ⟨le_t rfl, le_t rfl⟩ ⟨le_t rfl, le_t rfl⟩ rfl (le_t rfl) fun μ971 T972 F973 h974 => ?_
        obtain ⟨z975, q976, h977⟩ := h974
        have h978 : (0 ≤ z975 ∧ z975 ≤ 256) := by rw [← q976]; exact T972 76 76 (A_76 hw) 5
        refine mr_iload (pc := 246) (z := z968) dX3_readAttribute_246 rfl ?_
        refine mr_if_ne (pc := 248) (tgt := 257) dX3_readAttribute_248 (by decide) (r32 h969 rfl) (fun h985 => ?_) (fun h985 => ?_)
        · have h986 : 1 ≤ z968 ∧ z968 ≤ 1 := (vc_X12_ring_24 h985 h969)
          exact mr_vret dX3_readAttribute_257 rfl (le_t rfl) (le_t rfl) T972 (mF.call (mF.up mF.refl (A_77 hw) u727 rfl) F973 rfl) ⟨z975, ((f_s + 1) - z721), q976, (cntF F973 (A_77 hw) rfl rfl (cntU u727 (rIx (n := 256) h720 rfl) rfl q_f_s q722)), (vc_X3_readAttribute_18 hq1 h724 h729 h977.1 ht_f_cc ht_f_s h725 h978), trivial⟩
        have h987 : 0 ≤ z968 ∧ z968 ≤ 0 := (vc_X12_ring_22 h985 h969)
        refine sv_aload_n (pc := 251) dX3_readAttribute_251 rfl rfl ?_
        refine mr_iconst (pc := 252) (z := 2) dX3_readAttribute_252 ?_
        refine mr_iload_n (pc := 253) (z := p1) dX3_readAttribute_253 rfl rfl ?_
        refine mr_cVV (pc := 254) (c_X3_note hw T972 (rW (c := 0) (d := 3) (rR (x := 2)) rfl) (rW (c := (-2147483648)) (d := 2147483647) hp1 rfl)) (gOk _ _ _ _ _) dX3_readAttribute_254 (tX3_note _ _ _ _ _) ⟨wV_X3_note, wL_X3_note⟩ wM_X3_92 (gCX3 _ _ _ _ _) rfl (A_76 hw) rfl ⟨le_t rfl, le_t rfl⟩ ⟨le_t rfl, le_t rfl⟩ rfl (le_t rfl) fun μ988 T989 F990 h991 => ?_
        exact mr_vret dX3_readAttribute_257 rfl (le_t rfl) (le_t rfl) T989 (mF.call (mF.call (mF.up mF.refl (A_77 hw) u727 rfl) F973 rfl) F990 rfl) ⟨z975, ((f_s + 1) - z721), (F990.f (A_76 hw) rfl q976), (cntF F990 (A_77 hw) rfl rfl (cntF F973 (A_77 hw) rfl rfl (cntU u727 (rIx (n := 256) h720 rfl) rfl q_f_s q722))), (vc_X3_readAttribute_18 hq1 h724 h729 h977.1 ht_f_cc ht_f_s h725 h978), trivial⟩
      refine mr_if_eq (pc := 228) (tgt := 235) dX3_readAttribute_228 (by decide) (r32 h965 rfl) (fun h992 => ?_) (fun h992 => ?_)
      · have h993 : 0 ≤ z963 ∧ z963 ≤ 0 := (vc_X3_readAttribute_20 h992 h965)
        refine mr_iconst (pc := 235) (z := 0) dX3_readAttribute_235 ?_
        refine mr_lvS (lv' := [(0, .ref 76), (1, iv p1), (4, iv z712), (6, iv z718)]) (List.forall_mem_cons.mpr ⟨rfl, List.forall_mem_cons.mpr ⟨rfl, List.forall_mem_cons.mpr ⟨rfl, List.forall_mem_cons.mpr ⟨rfl, fun _ h => absurd h List.not_mem_nil⟩⟩⟩⟩) ?_
        exact J970 0 (rW (c := 0) (d := 1) (rR (x := 0)) rfl)
      have h994 : 1 ≤ z963 ∧ z963 ≤ 128 := (vc_X3_readAttribute_21 h992 h965)
      refine mr_iconst (pc := 231) (z := 1) dX3_readAttribute_231 ?_
      refine sv_goto (pc := 232) (tgt := 236) dX3_readAttribute_232 (by decide) ?_
      refine mr_lvS (lv' := [(0, .ref 76), (1, iv p1), (4, iv z712), (6, iv z718)]) (List.forall_mem_cons.mpr ⟨rfl, List.forall_mem_cons.mpr ⟨rfl, List.forall_mem_cons.mpr ⟨rfl, List.forall_mem_cons.mpr ⟨rfl, fun _ h => absurd h List.not_mem_nil⟩⟩⟩⟩) ?_
      exact J970 1 (rW (c := 0) (d := 1) (rR (x := 1)) rfl)
    by_cases h995 : z718 = 8
    · refine mr_tableIn (pc := 53) (v := 8) (tgt := 195) dX3_readAttribute_53 h995 rfl rfl (by decide) ?_
      have h996 : 8 ≤ z718 ∧ z718 ≤ 8 := (vc_X3_readAttribute_46 h995 h730 h774 h818 h852 h893 h927 h961 h720)
      refine mr_iload (pc := 195) (z := z715) dX3_readAttribute_195 rfl ?_
      refine mr_sipush (pc := 197) (z := 192) dX3_readAttribute_197 (by decide) ?_
      have J1012 : ∀ (z1005 : Int) (μ1007 : mM), (mT w μ1007) → (mF [76006, 79999] w μ726 μ1007) → ((0 ≤ z1005 ∧ z1005 ≤ 1)) → (OC μ1007) → sV (gG l D c H0 sa) mX3_readAttribute (sRm 4 0 0) (sZ (gG l D c H0 sa) 0 0 (qV w [76005, 76006, 76007, 76008, 77999, 78999, 79999, 80999, 200005, 200006, 200007, 201999] μ (fun μ1 => ∃ o_cc o_s : Int, μ1 76 5 = o_cc ∧ cnt μ1 77 256 = o_s ∧ (o_cc ≤ o_s) ∧ True))) 217 [(0, .ref 76), (1, iv p1)] [iv z1005] (mk w μ1007) 0 0 := by
        intro z1005 μ1007 T1008 F1009 h1006 I1011
        refine mr_istore (pc := 217) (lv' := [(7, iv z1005), (0, .ref 76), (1, iv p1)]) dX3_readAttribute_217 (by decide) rfl ?_
        refine sv_goto (pc := 219) (tgt := 246) dX3_readAttribute_219 (by decide) ?_
        refine mr_iload (pc := 246) (z := z1005) dX3_readAttribute_246 rfl ?_
        refine mr_if_ne (pc := 248) (tgt := 257) dX3_readAttribute_248 (by decide) (r32 h1006 rfl) (fun h1019 => ?_) (fun h1019 => ?_)
        · have h1020 : 1 ≤ z1005 ∧ z1005 ≤ 1 := (vc_X12_ring_24 h1019 h1006)
          exact mr_vret dX3_readAttribute_257 rfl (le_t rfl) (le_t rfl) T1008 (mF.call (mF.up mF.refl (A_77 hw) u727 rfl) F1009 rfl) ⟨f_cc, ((f_s + 1) - z721), (F1009.f (A_76 hw) rfl (u727.f (Or.inl (mAt.ne (A_77 hw) (A_76 hw) rfl)) q_f_cc)), (cntF F1009 (A_77 hw) rfl rfl (cntU u727 (rIx (n := 256) h720 rfl) rfl q_f_s q722)), (vc_X3_readAttribute_4 hq1 h724 h729 ht_f_cc ht_f_s h725), trivial⟩
        have h1021 : 0 ≤ z1005 ∧ z1005 ≤ 0 := (vc_X12_ring_22 h1019 h1006)
        refine sv_aload_n (pc := 251) dX3_readAttribute_251 rfl rfl ?_
        refine mr_iconst (pc := 252) (z := 2) dX3_readAttribute_252 ?_
        refine mr_iload_n (pc := 253) (z := p1) dX3_readAttribute_253 rfl rfl ?_
        refine mr_cVV (pc := 254) (c_X3_note hw T1008 (rW (c := 0) (d := 3) (rR (x := 2)) rfl) (rW (c := (-2147483648)) (d := 2147483647) hp1 rfl)) (gOk _ _ _ _ _) dX3_readAttribute_254 (tX3_note _ _ _ _ _) ⟨wV_X3_note, wL_X3_note⟩ wM_X3_92 (gCX3 _ _ _ _ _) rfl (A_76 hw) rfl ⟨le_t rfl, le_t rfl⟩ ⟨le_t rfl, le_t rfl⟩ rfl (le_t rfl) fun μ1022 T1023 F1024 h1025 => ?_
        exact mr_vret dX3_readAttribute_257 rfl (le_t rfl) (le_t rfl) T1023 (mF.call (mF.call (mF.up mF.refl (A_77 hw) u727 rfl) F1009 rfl) F1024 rfl) ⟨f_cc, ((f_s + 1) - z721), (F1024.f (A_76 hw) rfl (F1009.f (A_76 hw) rfl (u727.f (Or.inl (mAt.ne (A_77 hw) (A_76 hw) rfl)) q_f_cc))), (cntF F1024 (A_77 hw) rfl rfl (cntF F1009 (A_77 hw) rfl rfl (cntU u727 (rIx (n := 256) h720 rfl) rfl q_f_s q722))), (vc_X3_readAttribute_4 hq1 h724 h729 ht_f_cc ht_f_s h725), trivial⟩
      refine mr_icmp_ne (pc := 200) (tgt := 216) dX3_readAttribute_200 (by decide) (r32 h717 rfl) (r32 (rR (x := 192)) rfl) (fun h1026 => ?_) (fun h1026 => ?_)
      · refine mr_iconst (pc := 216) (z := 0) dX3_readAttribute_216 ?_
        refine mr_lvS (lv' := [(0, .ref 76), (1, iv p1)]) (List.forall_mem_cons.mpr ⟨rfl, List.forall_mem_cons.mpr ⟨rfl, fun _ h => absurd h List.not_mem_nil⟩⟩) ?_
        exact J1012 0 μ726 T728 mF.refl (rW (c := 0) (d := 1) (rR (x := 0)) rfl) (OC.keep hIOC hw ((mF.up mF.refl (A_77 hw) u727 rfl) : mF [77999] w μ μ726) rfl)
      have h1027 : 192 ≤ z715 ∧ z715 ≤ 192 := (vc_X3_readAttribute_49 h1026 h717)
      refine sv_aload_n (pc := 203) dX3_readAttribute_203 rfl rfl ?_
      refine mr_iload_n (pc := 204) (z := p2) dX3_readAttribute_204 rfl rfl ?_
      refine mr_iload_n (pc := 205) (z := p3) dX3_readAttribute_205 rfl rfl ?_
      refine mr_cVI (pc := 206) (c_X3_readMarks hw T728 hp2 hp3 (vc_X3_readAttribute_7 hq0 hp2 hp3) (OC.keep hIOC hw ((mF.up mF.refl (A_77 hw) u727 rfl) : mF [77999] w μ μ726) rfl)) (gOk _ _ _ _ _) dX3_readAttribute_206 (tX3_readMarks _ _ _ _ _) ⟨wV_X3_readMarks, wL_X3_readMarks⟩ wM_X3_121 (gCX3 _ _ _ _ _) rfl (A_76 hw) rfl ⟨le_t rfl, le_t rfl⟩ ⟨le_t rfl, le_t rfl⟩ rfl (le_t rfl) fun z1032 μ1028 T1029 F1030 h1031 => ?_
      refine mr_if_eq (pc := 209) (tgt := 216) dX3_readAttribute_209 (by decide) (r32 h1031.1 rfl) (fun h1033 => ?_) (fun h1033 => ?_)
      · have h1034 : 0 ≤ z1032 ∧ z1032 ≤ 0 := (vc_X12_ring_22 h1033 h1031.1)
        refine mr_iconst (pc := 216) (z := 0) dX3_readAttribute_216 ?_
        refine mr_lvS (lv' := [(0, .ref 76), (1, iv p1)]) (List.forall_mem_cons.mpr ⟨rfl, List.forall_mem_cons.mpr ⟨rfl, fun _ h => absurd h List.not_mem_nil⟩⟩) ?_
        exact J1012 0 μ1028 T1029 (mF.call mF.refl F1030 rfl) (rW (c := 0) (d := 1) (rR (x := 0)) rfl) (OC.keep hIOC hw ((mF.call (mF.up mF.refl (A_77 hw) u727 rfl) F1030 rfl) : mF [76006, 77999, 79999] w μ μ1028) rfl)
      have h1035 : 1 ≤ z1032 ∧ z1032 ≤ 1 := (vc_X12_ring_24 h1033 h1031.1)
      refine mr_iconst (pc := 212) (z := 1) dX3_readAttribute_212 ?_
      refine sv_goto (pc := 213) (tgt := 217) dX3_readAttribute_213 (by decide) ?_
      refine mr_lvS (lv' := [(0, .ref 76), (1, iv p1)]) (List.forall_mem_cons.mpr ⟨rfl, List.forall_mem_cons.mpr ⟨rfl, fun _ h => absurd h List.not_mem_nil⟩⟩) ?_
      exact J1012 1 μ1028 T1029 (mF.call mF.refl F1030 rfl) (rW (c := 0) (d := 1) (rR (x := 1)) rfl) (OC.keep hIOC hw ((mF.call (mF.up mF.refl (A_77 hw) u727 rfl) F1030 rfl) : mF [76006, 77999, 79999] w μ μ1028) rfl)
    refine mr_tableOut (pc := 53) (tgt := 222) dX3_readAttribute_53 (r32 h720 rfl) (vc_X3_readAttribute_52 h730 h774 h818 h852 h893 h927 h961 h995 h720) (by decide) ?_
    refine mr_iload (pc := 222) (z := z712) dX3_readAttribute_222 rfl ?_
    refine mr_sipush (pc := 224) (z := 128) dX3_readAttribute_224 (by decide) ?_
    refine mr_iand (pc := 227) (x := z712) (y := 128) dX3_readAttribute_227 ?_
    refine mr_gen (P := fun z => 0 ≤ z ∧ z ≤ 128) (rAndR (rR (x := 128)) rfl) fun z1036 q1037 h1038 => ?_
    have J1043 : ∀ (z1041 : Int), ((0 ≤ z1041 ∧ z1041 ≤ 1)) → sV (gG l D c H0 sa) mX3_readAttribute (sRm 4 0 0) (sZ (gG l D c H0 sa) 0 0 (qV w [76005, 76006, 76007, 76008, 77999, 78999, 79999, 80999, 200005, 200006, 200007, 201999] μ (fun μ1 => ∃ o_cc o_s : Int, μ1 76 5 = o_cc ∧ cnt μ1 77 256 = o_s ∧ (o_cc ≤ o_s) ∧ True))) 236 [(0, .ref 76), (1, iv p1), (4, iv z712), (6, iv z718)] [iv z1041] (mk w μ726) 0 0 := by
      intro z1041 h1042
      refine mr_istore (pc := 236) (lv' := [(7, iv z1041), (0, .ref 76), (1, iv p1), (4, iv z712), (6, iv z718)]) dX3_readAttribute_236 (by decide) rfl ?_
      refine sv_aload_n (pc := 238) dX3_readAttribute_238 rfl rfl ?_
      refine mr_iload (pc := 239) (z := z712) dX3_readAttribute_239 rfl ?_
      refine mr_iload (pc := 241) (z := z718) dX3_readAttribute_241 rfl ?_
      refine mr_cVV (pc := 243) (c_X3_carry hw T728 (rW (c := (-2147483648)) (d := 2147483647) h714 rfl) (rW (c := (-2147483648)) (d := 2147483647) h720 rfl) (u727.f (Or.inl (mAt.ne (A_77 hw) (A_76 hw) rfl)) q_f_cc) (vc_X3_readAttribute_16 hq1 h729 ht_f_cc ht_f_s h725)) (gOk _ _ _ _ _) dX3_readAttribute_243 (tX3_carry _ _ _ _ _) ⟨wV_X3_carry, wL_X3_carry⟩ wM_X3_124 (gCX3 _ _ _ _ _) rfl (A_76 hw) rfl ⟨le_t rfl, le_t rfl⟩ ⟨le_t rfl, le_t rfl⟩ rfl (le_t rfl) fun μ1044 T1045 F1046 h1047 => ?_
      obtain ⟨z1048, q1049, h1050⟩ := h1047
      have h1051 : (0 ≤ z1048 ∧ z1048 ≤ 256) := by rw [← q1049]; exact T1045 76 76 (A_76 hw) 5
      refine mr_iload (pc := 246) (z := z1041) dX3_readAttribute_246 rfl ?_
      refine mr_if_ne (pc := 248) (tgt := 257) dX3_readAttribute_248 (by decide) (r32 h1042 rfl) (fun h1058 => ?_) (fun h1058 => ?_)
      · have h1059 : 1 ≤ z1041 ∧ z1041 ≤ 1 := (vc_X12_ring_24 h1058 h1042)
        exact mr_vret dX3_readAttribute_257 rfl (le_t rfl) (le_t rfl) T1045 (mF.call (mF.up mF.refl (A_77 hw) u727 rfl) F1046 rfl) ⟨z1048, ((f_s + 1) - z721), q1049, (cntF F1046 (A_77 hw) rfl rfl (cntU u727 (rIx (n := 256) h720 rfl) rfl q_f_s q722)), (vc_X3_readAttribute_54 hq1 h724 h729 h1050.1 ht_f_cc ht_f_s h1051 h725), trivial⟩
      have h1060 : 0 ≤ z1041 ∧ z1041 ≤ 0 := (vc_X12_ring_22 h1058 h1042)
      refine sv_aload_n (pc := 251) dX3_readAttribute_251 rfl rfl ?_
      refine mr_iconst (pc := 252) (z := 2) dX3_readAttribute_252 ?_
      refine mr_iload_n (pc := 253) (z := p1) dX3_readAttribute_253 rfl rfl ?_
      refine mr_cVV (pc := 254) (c_X3_note hw T1045 (rW (c := 0) (d := 3) (rR (x := 2)) rfl) (rW (c := (-2147483648)) (d := 2147483647) hp1 rfl)) (gOk _ _ _ _ _) dX3_readAttribute_254 (tX3_note _ _ _ _ _) ⟨wV_X3_note, wL_X3_note⟩ wM_X3_92 (gCX3 _ _ _ _ _) rfl (A_76 hw) rfl ⟨le_t rfl, le_t rfl⟩ ⟨le_t rfl, le_t rfl⟩ rfl (le_t rfl) fun μ1061 T1062 F1063 h1064 => ?_
      exact mr_vret dX3_readAttribute_257 rfl (le_t rfl) (le_t rfl) T1062 (mF.call (mF.call (mF.up mF.refl (A_77 hw) u727 rfl) F1046 rfl) F1063 rfl) ⟨z1048, ((f_s + 1) - z721), (F1063.f (A_76 hw) rfl q1049), (cntF F1063 (A_77 hw) rfl rfl (cntF F1046 (A_77 hw) rfl rfl (cntU u727 (rIx (n := 256) h720 rfl) rfl q_f_s q722))), (vc_X3_readAttribute_54 hq1 h724 h729 h1050.1 ht_f_cc ht_f_s h1051 h725), trivial⟩
    refine mr_if_eq (pc := 228) (tgt := 235) dX3_readAttribute_228 (by decide) (r32 h1038 rfl) (fun h1065 => ?_) (fun h1065 => ?_)
    · have h1066 : 0 ≤ z1036 ∧ z1036 ≤ 0 := (vc_X3_readAttribute_20 h1065 h1038)
      refine mr_iconst (pc := 235) (z := 0) dX3_readAttribute_235 ?_
      refine mr_lvS (lv' := [(0, .ref 76), (1, iv p1), (4, iv z712), (6, iv z718)]) (List.forall_mem_cons.mpr ⟨rfl, List.forall_mem_cons.mpr ⟨rfl, List.forall_mem_cons.mpr ⟨rfl, List.forall_mem_cons.mpr ⟨rfl, fun _ h => absurd h List.not_mem_nil⟩⟩⟩⟩) ?_
      exact J1043 0 (rW (c := 0) (d := 1) (rR (x := 0)) rfl)
    have h1067 : 1 ≤ z1036 ∧ z1036 ≤ 128 := (vc_X3_readAttribute_21 h1065 h1038)
    refine mr_iconst (pc := 231) (z := 1) dX3_readAttribute_231 ?_
    refine sv_goto (pc := 232) (tgt := 236) dX3_readAttribute_232 (by decide) ?_
    refine mr_lvS (lv' := [(0, .ref 76), (1, iv p1), (4, iv z712), (6, iv z718)]) (List.forall_mem_cons.mpr ⟨rfl, List.forall_mem_cons.mpr ⟨rfl, List.forall_mem_cons.mpr ⟨rfl, List.forall_mem_cons.mpr ⟨rfl, fun _ h => absurd h List.not_mem_nil⟩⟩⟩⟩) ?_
    exact J1043 1 (rW (c := 0) (d := 1) (rR (x := 1)) rfl)
  have h1068 : 1 ≤ z721 ∧ z721 ≤ 1 := (vc_X12_ring_24 h724 h723)
  refine sv_aload_n (pc := 36) dX3_readAttribute_36 rfl rfl ?_
  refine mr_iconst (pc := 37) (z := 3) dX3_readAttribute_37 ?_
  refine mr_iload_n (pc := 38) (z := p1) dX3_readAttribute_38 rfl rfl ?_
  refine mr_cVV (pc := 39) (c_X3_note hw hT (rW (c := 0) (d := 3) (rR (x := 3)) rfl) (rW (c := (-2147483648)) (d := 2147483647) hp1 rfl)) (gOk _ _ _ _ _) dX3_readAttribute_39 (tX3_note _ _ _ _ _) ⟨wV_X3_note, wL_X3_note⟩ wM_X3_92 (gCX3 _ _ _ _ _) rfl (A_76 hw) rfl ⟨le_t rfl, le_t rfl⟩ ⟨le_t rfl, le_t rfl⟩ rfl (le_t rfl) fun μ1069 T1070 F1071 h1072 => ?_
  exact mr_vret dX3_readAttribute_42 rfl (le_t rfl) (le_t rfl) T1070 (mF.call mF.refl F1071 rfl) ⟨f_cc, f_s, (F1071.f (A_76 hw) rfl q_f_cc), (cntF F1071 (A_77 hw) rfl rfl q_f_s), (vc_X3_readAttribute_59 hq1 ht_f_cc ht_f_s), trivial⟩
theorem vc_X3_readAttributes_1 {f_c2 f_s2 z553 : Int} (h0 : (1003 - z553) < ((0 : Nat) : Int)) (h1 : 0 ≤ f_s2 ∧ f_s2 ≤ 256) (h2 : f_c2 ≤ f_s2) (h3 : 0 ≤ z553 ∧ z553 ≤ 1002) : False := by omega
theorem vc_X3_readAttributes_3 {p2 z553 : Int} (h0 : z553 < p2) (h1 : 0 ≤ p2 ∧ p2 ≤ 1000) (h2 : 0 ≤ z553 ∧ z553 ≤ 1002) : 0 ≤ z553 ∧ z553 ≤ 999 := by omega
theorem vc_X3_readAttributes_5 {z577 : Int} (h0 : z577 = 0) (h1 : 0 ≤ z577 ∧ z577 ≤ 16) : 0 ≤ z577 ∧ z577 ≤ 0 := by omega
theorem vc_X3_readAttributes_7 {p2 z553 : Int} (h0 : (z553 + 3) ≤ p2) (h1 : z553 < p2) (h2 : 1 ≤ p2 ∧ p2 ≤ 1000) (h3 : 0 ≤ z553 ∧ z553 ≤ 999) : 0 ≤ z553 ∧ z553 ≤ 997 := by omega
theorem vc_X3_readAttributes_8 {p2 z553 : Int} (h0 : (z553 + 3) ≤ p2) (h1 : z553 < p2) (h2 : 1 ≤ p2 ∧ p2 ≤ 1000) (h3 : 0 ≤ z553 ∧ z553 ≤ 997) : 3 ≤ p2 ∧ p2 ≤ 1000 := by omega
theorem vc_X3_readAttributes_9 {p2 z553 z585 : Int} (h0 : z553 < p2) (h1 : (z553 + 3) ≤ p2) (h2 : ((z553 + 3) + z585) ≤ p2) (h3 : 3 ≤ p2 ∧ p2 ≤ 1000) (h4 : 0 ≤ z553 ∧ z553 ≤ 997) (h5 : 0 ≤ z585 ∧ z585 ≤ 255) : (z553 + 3) + z585 ≤ 1000 := by omega
theorem vc_X3_readAttributes_10 {p2 z553 z585 : Int} (h0 : z553 < p2) (h1 : (z553 + 3) ≤ p2) (h2 : ((z553 + 3) + z585) ≤ p2) (h3 : 3 ≤ p2 ∧ p2 ≤ 1000) (h4 : 0 ≤ z553 ∧ z553 ≤ 997) (h5 : 0 ≤ z585 ∧ z585 ≤ 255) : 0 ≤ ((z553 + 3) + z585) ∧ ((z553 + 3) + z585) ≤ 1002 := by omega
theorem vc_X3_readAttributes_12 {N p2 z553 z585 : Int} (h0 : (1003 - z553) < N + 1) (h1 : z553 < p2) (h2 : (z553 + 3) ≤ p2) (h3 : ((z553 + 3) + z585) ≤ p2) (h4 : 3 ≤ p2 ∧ p2 ≤ 1000) (h5 : 0 ≤ z553 ∧ z553 ≤ 997) (h6 : 0 ≤ z585 ∧ z585 ≤ 255) : (1003 - ((z553 + 3) + z585)) < N := by omega
theorem vc_X3_readAttributes_13 {z577 : Int} (h0 : ¬ z577 = 0) (h1 : 0 ≤ z577 ∧ z577 ≤ 16) : 1 ≤ z577 ∧ z577 ≤ 16 := by omega
theorem vc_X3_readAttributes_15 {p2 z553 : Int} (h0 : (z553 + 4) ≤ p2) (h1 : z553 < p2) (h2 : 1 ≤ p2 ∧ p2 ≤ 1000) (h3 : 0 ≤ z553 ∧ z553 ≤ 999) : 0 ≤ z553 ∧ z553 ≤ 996 := by omega
theorem vc_X3_readAttributes_16 {p2 z553 : Int} (h0 : (z553 + 4) ≤ p2) (h1 : z553 < p2) (h2 : 1 ≤ p2 ∧ p2 ≤ 1000) (h3 : 0 ≤ z553 ∧ z553 ≤ 996) : 4 ≤ p2 ∧ p2 ≤ 1000 := by omega
theorem vc_X3_readAttributes_17 {p2 z553 z616 : Int} (h0 : ((z553 + 4) + z616) ≤ p2) (h1 : z553 < p2) (h2 : (z553 + 4) ≤ p2) (h3 : 4 ≤ p2 ∧ p2 ≤ 1000) (h4 : 0 ≤ z553 ∧ z553 ≤ 996) (h5 : 0 ≤ z616 ∧ z616 ≤ 65535) : 0 ≤ z616 ∧ z616 ≤ 996 := by omega
theorem vc_X3_readAttributes_18 {p2 z553 z616 : Int} (h0 : z553 < p2) (h1 : (z553 + 4) ≤ p2) (h2 : ((z553 + 4) + z616) ≤ p2) (h3 : 4 ≤ p2 ∧ p2 ≤ 1000) (h4 : 0 ≤ z553 ∧ z553 ≤ 996) (h5 : 0 ≤ z616 ∧ z616 ≤ 996) : (z553 + 4) + z616 ≤ 1000 := by omega
theorem vc_X3_readAttributes_19 {p2 z553 z616 : Int} (h0 : z553 < p2) (h1 : (z553 + 4) ≤ p2) (h2 : ((z553 + 4) + z616) ≤ p2) (h3 : 4 ≤ p2 ∧ p2 ≤ 1000) (h4 : 0 ≤ z553 ∧ z553 ≤ 996) (h5 : 0 ≤ z616 ∧ z616 ≤ 996) : 0 ≤ ((z553 + 4) + z616) ∧ ((z553 + 4) + z616) ≤ 1002 := by omega
theorem vc_X3_readAttributes_21 {N p2 z553 z616 : Int} (h0 : (1003 - z553) < N + 1) (h1 : z553 < p2) (h2 : (z553 + 4) ≤ p2) (h3 : ((z553 + 4) + z616) ≤ p2) (h4 : 4 ≤ p2 ∧ p2 ≤ 1000) (h5 : 0 ≤ z553 ∧ z553 ≤ 996) (h6 : 0 ≤ z616 ∧ z616 ≤ 996) : (1003 - ((z553 + 4) + z616)) < N := by omega
theorem vc_X3_readAttributes_23 {p1 : Int} (h0 : 0 ≤ p1 ∧ p1 ≤ 1002) : (1003 - p1) < ((1004 : Nat) : Int) := by omega
set_option maxRecDepth 4000 in
set_option maxHeartbeats 4000000 in
theorem c_X3_readAttributes {l : Launch} {D : va_G} {c : Nat → ClassId} {H0 : Heap} {sa : Nat × Nat × (Nat → Int32)} {w : mW} {μ : mM} (hw : mWF w) (hT : mT w μ) {p1 : Int} (hp1 : 0 ≤ p1 ∧ p1 ≤ 1002) {p2 : Int} (hp2 : 0 ≤ p2 ∧ p2 ≤ 1000) {f_cc : Int} (q_f_cc : μ 76 5 = f_cc) {f_s : Int} (q_f_s : cnt μ 77 256 = f_s) (hq0 : f_cc ≤ f_s) (hIOC : OC μ) : sC (gG l D c H0 sa) mX3_readAttributes 5 0 0 [.ref 76, iv p1, iv p2] (mk w μ) (qV w [76005, 76006, 76007, 76008, 77999, 78999, 79999, 80999, 200005, 200006, 200007, 201999] μ (fun μ1 => ∃ o_cc o_s : Int, μ1 76 5 = o_cc ∧ cnt μ1 77 256 = o_s ∧ (o_cc ≤ o_s) ∧ True)) := by
  refine sC.of rfl (by decide) (le_t rfl) ?_
  have ht_f_cc : (0 ≤ f_cc ∧ f_cc ≤ 256) := by rw [← q_f_cc]; exact hT 76 76 (A_76 hw) 5
  have ht_f_s : 0 ≤ f_s ∧ f_s ≤ 256 := by rw [← q_f_s]; exact cnt_rng (fun i => hT 77 77 (A_77 hw) i) 256
  refine mr_lvE (lv' := [(0, .ref 76), (1, iv p1), (2, iv p2)]) rfl ?_
  refine mr_iload_n (pc := 0) (z := p1) dX3_readAttributes_0 rfl rfl ?_
  refine mr_istore_n (pc := 1) (lv' := [(3, iv p1), (0, .ref 76), (1, iv p1), (2, iv p2)]) dX3_readAttributes_1 rfl (by decide) rfl ?_
  have L555 : ∀ (nL555 : Nat) (z553 : Int) (μ554 : mM) (f_c2 : Int) (f_s2 : Int), mT w μ554 → mF [76005, 76006, 76007, 76008, 77999, 78999, 79999, 80999, 200005, 200006, 200007, 201999] w μ μ554 → μ554 76 (5) = f_c2 → cnt μ554 77 256 = f_s2 → (0 ≤ z553 ∧ z553 ≤ 1002) → (f_c2 ≤ f_s2) → OC μ554 → (1003 - z553) < (nL555 : Int) → sV (gG l D c H0 sa) mX3_readAttributes (sRm 5 0 0) (sZ (gG l D c H0 sa) 0 0 (qV w [76005, 76006, 76007, 76008, 77999, 78999, 79999, 80999, 200005, 200006, 200007, 201999] μ (fun μ1 => ∃ o_cc o_s : Int, μ1 76 5 = o_cc ∧ cnt μ1 77 256 = o_s ∧ (o_cc ≤ o_s) ∧ True))) 2 [(0, .ref 76), (2, iv p2), (3, iv z553)] [] (mk w μ554) 0 0 := by
    intro nL555
    induction nL555 with
    | zero => intro z553 μ554 f_c2 f_s2 T557 F558 q563 q564 h556 h560 I561 h562; exact ((vc_X3_readAttributes_1 h562 (by rw [← q564]; exact cnt_rng (fun i => T557 77 77 (A_77 hw) i) 256) h560 h556)).elim
    | succ nL555 ih565 =>
      intro z553 μ554 f_c2 f_s2 T557 F558 q563 q564 h556 h560 I561 h562
      have h566 : (0 ≤ f_c2 ∧ f_c2 ≤ 256) := by rw [← q563]; exact T557 76 76 (A_76 hw) (5)
      have h567 : 0 ≤ f_s2 ∧ f_s2 ≤ 256 := by rw [← q564]; exact cnt_rng (fun i => T557 77 77 (A_77 hw) i) 256
      refine mr_iload_n (pc := 2) (z := z553) dX3_readAttributes_2 rfl rfl ?_
      refine mr_iload_n (pc := 3) (z := p2) dX3_readAttributes_3 rfl rfl ?_
      refine mr_icmp_ge (pc := 4) (tgt := 112) dX3_readAttributes_4 (by decide) (r32 h556 rfl) (r32 hp2 rfl) (fun h568 => ?_) (fun h568 => ?_)
      · exact mr_vret dX3_readAttributes_112 rfl (le_t rfl) (le_t rfl) T557 (mF.call mF.refl F558 rfl) ⟨f_c2, f_s2, q563, q564, (vc_X3_readAttribute_59 h560 h566 h567), trivial⟩
      have h569 : 0 ≤ z553 ∧ z553 ≤ 999 := (vc_X3_readAttributes_3 h568 hp2 h556)
      have h570 : 1 ≤ p2 ∧ p2 ≤ 1000 := (vc_X12_byteAt_4 h568 hp2 h569)
      refine sv_aload_n (pc := 7) dX3_readAttributes_7 rfl rfl ?_
      refine gf_X3_4 (pc := 8) dX3_readAttributes_8 wF_X3_41 (A_76 hw) T557 I561 fun b571 q572 A573 => ?_
      refine mr_iload_n (pc := 11) (z := z553) dX3_readAttributes_11 rfl rfl ?_
      refine la_1 (pc := 12) dX3_readAttributes_12 A573 T557 (rIx (n := 1000) h569 rfl) fun z574 q575 h576 => ?_
      refine mr_bipush (pc := 13) (z := 16) dX3_readAttributes_13 (by decide) ?_
      refine mr_iand (pc := 15) (x := z574) (y := 16) dX3_readAttributes_15 ?_
      refine mr_gen (P := fun z => 0 ≤ z ∧ z ≤ 16) (rAndR (rR (x := 16)) rfl) fun z577 q578 h579 => ?_
      refine mr_if_eq (pc := 16) (tgt := 23) dX3_readAttributes_16 (by decide) (r32 h579 rfl) (fun h580 => ?_) (fun h580 => ?_)
      · have h581 : 0 ≤ z577 ∧ z577 ≤ 0 := (vc_X3_readAttributes_5 h580 h579)
        refine mr_iconst (pc := 23) (z := 0) dX3_readAttributes_23 ?_
        refine mr_istore (pc := 24) (lv' := [(4, iv 0), (0, .ref 76), (2, iv p2), (3, iv z553)]) dX3_readAttributes_24 (by decide) rfl ?_
        refine mr_iload_n (pc := 26) (z := z553) dX3_readAttributes_26 rfl rfl ?_
        refine mr_iload (pc := 27) (z := 0) dX3_readAttributes_27 rfl ?_
        refine mr_if_eq (pc := 29) (tgt := 36) dX3_readAttributes_29 (by decide) (r32 (rR (x := 0)) rfl) (fun _ => ?_) (fun h => ((vc_X12_next_469 h)).elim)
        refine mr_iconst (pc := 36) (z := 3) dX3_readAttributes_36 ?_
        refine mr_iadd (pc := 37) (x := z553) (y := 3) dX3_readAttributes_37 ?_
        refine mr_istore (pc := 38) (lv' := [(5, iv (z553 + 3)), (4, iv 0), (0, .ref 76), (2, iv p2), (3, iv z553)]) dX3_readAttributes_38 (by decide) rfl ?_
        refine mr_iload (pc := 40) (z := (z553 + 3)) dX3_readAttributes_40 rfl ?_
        refine mr_iload_n (pc := 42) (z := p2) dX3_readAttributes_42 rfl rfl ?_
        refine mr_icmp_le (pc := 43) (tgt := 53) dX3_readAttributes_43 (by decide) (r32 (rAdd (e := 3) (f := 1002) h569 (rR (x := 3)) rfl) rfl) (r32 h570 rfl) (fun h582 => ?_) (fun h582 => ?_)
        · have h583 : 0 ≤ z553 ∧ z553 ≤ 997 := (vc_X3_readAttributes_7 h582 h568 h570 h569)
          have h584 : 3 ≤ p2 ∧ p2 ≤ 1000 := (vc_X3_readAttributes_8 h582 h568 h570 h583)
          refine mr_iload (pc := 53) (z := 0) dX3_readAttributes_53 rfl ?_
          refine mr_if_eq (pc := 55) (tgt := 68) dX3_readAttributes_55 (by decide) (r32 (rR (x := 0)) rfl) (fun _ => ?_) (fun h => ((vc_X12_next_469 h)).elim)
          refine sv_aload_n (pc := 68) dX3_readAttributes_68 rfl rfl ?_
          refine gk_X3_4 (pc := 69) dX3_readAttributes_69 wF_X3_41 (A_76 hw) q572 ?_
          refine mr_iload_n (pc := 72) (z := z553) dX3_readAttributes_72 rfl rfl ?_
          refine mr_iconst (pc := 73) (z := 2) dX3_readAttributes_73 ?_
          refine mr_iadd (pc := 74) (x := z553) (y := 2) dX3_readAttributes_74 ?_
          refine la_1 (pc := 75) dX3_readAttributes_75 A573 T557 (rIx (n := 1000) (rAdd (e := 2) (f := 999) h583 (rR (x := 2)) rfl) rfl) fun z585 q586 h587 => ?_
          refine mr_istore (pc := 76) (lv' := [(6, iv z585), (5, iv (z553 + 3)), (4, iv 0), (0, .ref 76), (2, iv p2), (3, iv z553)]) dX3_readAttributes_76 (by decide) rfl ?_
          refine mr_iload (pc := 78) (z := (z553 + 3)) dX3_readAttributes_78 rfl ?_
          refine mr_iload (pc := 80) (z := z585) dX3_readAttributes_80 rfl ?_
          refine mr_iadd (pc := 82) (x := (z553 + 3)) (y := z585) dX3_readAttributes_82 ?_
          refine mr_iload_n (pc := 83) (z := p2) dX3_readAttributes_83 rfl rfl ?_
          refine mr_icmp_le (pc := 84) (tgt := 94) dX3_readAttributes_84 (by decide) (r32 (rAdd (e := 3) (f := 1255) (rAdd (e := 3) (f := 1000) h583 (rR (x := 3)) rfl) h587 rfl) rfl) (r32 h584 rfl) (fun h588 => ?_) (fun h588 => ?_)
          · refine sv_aload_n (pc := 94) dX3_readAttributes_94 rfl rfl ?_
            refine mr_iload_n (pc := 95) (z := z553) dX3_readAttributes_95 rfl rfl ?_
            refine mr_iload (pc := 96) (z := (z553 + 3)) dX3_readAttributes_96 rfl ?_
            refine mr_iload (pc := 98) (z := z585) dX3_readAttributes_98 rfl ?_
            refine mr_cVV (pc := 100) (c_X3_readAttribute hw T557 (rW (c := 0) (d := 998) h583 rfl) (rW (c := 0) (d := 1000) (rAdd (e := 3) (f := 1000) h583 (rR (x := 3)) rfl) rfl) (rW (c := 0) (d := 1000) h587 rfl) q563 q564 (vc_X3_readAttributes_9 h568 h582 h588 h584 h583 h587) (vc_X3_readAttribute_59 h560 h566 h567) I561) (gOk _ _ _ _ _) dX3_readAttributes_100 (tX3_readAttribute _ _ _ _ _) ⟨wV_X3_readAttribute, wL_X3_readAttribute⟩ wM_X3_107 (gCX3 _ _ _ _ _) rfl (A_76 hw) rfl ⟨le_t rfl, le_t rfl⟩ ⟨le_t rfl, le_t rfl⟩ rfl (le_t rfl) fun μ589 T590 F591 h592 => ?_
            obtain ⟨z593, z595, q594, q596, h597⟩ := h592
            have h598 : (0 ≤ z593 ∧ z593 ≤ 256) := by rw [← q594]; exact T590 76 76 (A_76 hw) 5
            have h599 : 0 ≤ z595 ∧ z595 ≤ 256 := by rw [← q596]; exact cnt_rng (fun i => T590 77 77 (A_77 hw) i) 256
            refine mr_iload (pc := 103) (z := (z553 + 3)) dX3_readAttributes_103 rfl ?_
            refine mr_iload (pc := 105) (z := z585) dX3_readAttributes_105 rfl ?_
            refine mr_iadd (pc := 107) (x := (z553 + 3)) (y := z585) dX3_readAttributes_107 ?_
            refine mr_istore_n (pc := 108) (lv' := [(3, iv ((z553 + 3) + z585)), (6, iv z585), (5, iv (z553 + 3)), (4, iv 0), (0, .ref 76), (2, iv p2)]) dX3_readAttributes_108 rfl (by decide) rfl ?_
            refine sv_goto (pc := 109) (tgt := 2) dX3_readAttributes_109 (by decide) ?_
            refine mr_lvS (lv' := [(0, .ref 76), (2, iv p2), (3, iv ((z553 + 3) + z585))]) (List.forall_mem_cons.mpr ⟨rfl, List.forall_mem_cons.mpr ⟨rfl, List.forall_mem_cons.mpr ⟨rfl, fun _ h => absurd h List.not_mem_nil⟩⟩⟩) ?_
            exact ih565 ((z553 + 3) + z585) μ589 z593 z595 T590 (mF.call (mF.call mF.refl F558 rfl) F591 rfl) q594 q596 (vc_X3_readAttributes_10 h568 h582 h588 h584 h583 h587) (vc_X3_readAttribute_59 h597.1 h598 h599) (OC.keep I561 hw ((mF.call mF.refl F591 rfl) : mF [76005, 76006, 76007, 76008, 77999, 78999, 79999, 80999, 200005, 200006, 200007, 201999] w μ554 μ589) rfl) (vc_X3_readAttributes_12 (nS h562) h568 h582 h588 h584 h583 h587)
          refine sv_aload_n (pc := 87) dX3_readAttributes_87 rfl rfl ?_
          refine mr_iconst (pc := 88) (z := 2) dX3_readAttributes_88 ?_
          refine mr_iload_n (pc := 89) (z := z553) dX3_readAttributes_89 rfl rfl ?_
          refine mr_cVV (pc := 90) (c_X3_note hw T557 (rW (c := 0) (d := 3) (rR (x := 2)) rfl) (rW (c := (-2147483648)) (d := 2147483647) h583 rfl)) (gOk _ _ _ _ _) dX3_readAttributes_90 (tX3_note _ _ _ _ _) ⟨wV_X3_note, wL_X3_note⟩ wM_X3_92 (gCX3 _ _ _ _ _) rfl (A_76 hw) rfl ⟨le_t rfl, le_t rfl⟩ ⟨le_t rfl, le_t rfl⟩ rfl (le_t rfl) fun μ600 T601 F602 h603 => ?_
          exact mr_vret dX3_readAttributes_93 rfl (le_t rfl) (le_t rfl) T601 (mF.call (mF.call mF.refl F558 rfl) F602 rfl) ⟨f_c2, f_s2, (F602.f (A_76 hw) rfl q563), (cntF F602 (A_77 hw) rfl rfl q564), (vc_X3_readAttribute_59 h560 h566 h567), trivial⟩
        refine sv_aload_n (pc := 46) dX3_readAttributes_46 rfl rfl ?_
        refine mr_iconst (pc := 47) (z := 2) dX3_readAttributes_47 ?_
        refine mr_iload_n (pc := 48) (z := z553) dX3_readAttributes_48 rfl rfl ?_
        refine mr_cVV (pc := 49) (c_X3_note hw T557 (rW (c := 0) (d := 3) (rR (x := 2)) rfl) (rW (c := (-2147483648)) (d := 2147483647) h569 rfl)) (gOk _ _ _ _ _) dX3_readAttributes_49 (tX3_note _ _ _ _ _) ⟨wV_X3_note, wL_X3_note⟩ wM_X3_92 (gCX3 _ _ _ _ _) rfl (A_76 hw) rfl ⟨le_t rfl, le_t rfl⟩ ⟨le_t rfl, le_t rfl⟩ rfl (le_t rfl) fun μ604 T605 F606 h607 => ?_
        exact mr_vret dX3_readAttributes_52 rfl (le_t rfl) (le_t rfl) T605 (mF.call (mF.call mF.refl F558 rfl) F606 rfl) ⟨f_c2, f_s2, (F606.f (A_76 hw) rfl q563), (cntF F606 (A_77 hw) rfl rfl q564), (vc_X3_readAttribute_59 h560 h566 h567), trivial⟩
      have h608 : 1 ≤ z577 ∧ z577 ≤ 16 := (vc_X3_readAttributes_13 h580 h579)
      refine mr_iconst (pc := 19) (z := 1) dX3_readAttributes_19 ?_
      refine sv_goto (pc := 20) (tgt := 24) dX3_readAttributes_20 (by decide) ?_
      refine mr_istore (pc := 24) (lv' := [(4, iv 1), (0, .ref 76), (2, iv p2), (3, iv z553)]) dX3_readAttributes_24 (by decide) rfl ?_
      refine mr_iload_n (pc := 26) (z := z553) dX3_readAttributes_26 rfl rfl ?_
      refine mr_iload (pc := 27) (z := 1) dX3_readAttributes_27 rfl ?_
      refine mr_if_eq (pc := 29) (tgt := 36) dX3_readAttributes_29 (by decide) (r32 (rR (x := 1)) rfl) (fun h => ((vc_X12_next_203 h)).elim) (fun _ => ?_)
      refine mr_iconst (pc := 32) (z := 4) dX3_readAttributes_32 ?_
      refine sv_goto (pc := 33) (tgt := 37) dX3_readAttributes_33 (by decide) ?_
      refine mr_iadd (pc := 37) (x := z553) (y := 4) dX3_readAttributes_37 ?_
      refine mr_istore (pc := 38) (lv' := [(5, iv (z553 + 4)), (4, iv 1), (0, .ref 76), (2, iv p2), (3, iv z553)]) dX3_readAttributes_38 (by decide) rfl ?_
      refine mr_iload (pc := 40) (z := (z553 + 4)) dX3_readAttributes_40 rfl ?_
      refine mr_iload_n (pc := 42) (z := p2) dX3_readAttributes_42 rfl rfl ?_
      refine mr_icmp_le (pc := 43) (tgt := 53) dX3_readAttributes_43 (by decide) (r32 (rAdd (e := 4) (f := 1003) h569 (rR (x := 4)) rfl) rfl) (r32 h570 rfl) (fun h609 => ?_) (fun h609 => ?_)
      · have h610 : 0 ≤ z553 ∧ z553 ≤ 996 := (vc_X3_readAttributes_15 h609 h568 h570 h569)
        have h611 : 4 ≤ p2 ∧ p2 ≤ 1000 := (vc_X3_readAttributes_16 h609 h568 h570 h610)
        refine mr_iload (pc := 53) (z := 1) dX3_readAttributes_53 rfl ?_
        refine mr_if_eq (pc := 55) (tgt := 68) dX3_readAttributes_55 (by decide) (r32 (rR (x := 1)) rfl) (fun h => ((vc_X12_next_203 h)).elim) (fun _ => ?_)
        refine sv_aload_n (pc := 58) dX3_readAttributes_58 rfl rfl ?_
        refine mr_iload_n (pc := 59) (z := z553) dX3_readAttributes_59 rfl rfl ?_
        refine mr_iconst (pc := 60) (z := 2) dX3_readAttributes_60 ?_
        refine mr_iadd (pc := 61) (x := z553) (y := 2) dX3_readAttributes_61 ?_
        refine mr_cVP (pc := 62) (c_X3_pairAt hw T557 (rW (c := 0) (d := 998) (rAdd (e := 2) (f := 998) h610 (rR (x := 2)) rfl) rfl) I561) (gOk _ _ _ _ _) dX3_readAttributes_62 (tX3_pairAt _ _ _ _ _) ⟨wV_X3_pairAt, wL_X3_pairAt⟩ wM_X3_88 (gCX3 _ _ _ _ _) rfl (A_76 hw) rfl ⟨le_t rfl, le_t rfl⟩ ⟨le_t rfl, le_t rfl⟩ rfl (le_t rfl) fun z616 h615 => ?_
        refine sv_goto (pc := 65) (tgt := 76) dX3_readAttributes_65 (by decide) ?_
        refine mr_istore (pc := 76) (lv' := [(6, iv z616), (5, iv (z553 + 4)), (4, iv 1), (0, .ref 76), (2, iv p2), (3, iv z553)]) dX3_readAttributes_76 (by decide) rfl ?_
        refine mr_iload (pc := 78) (z := (z553 + 4)) dX3_readAttributes_78 rfl ?_
        refine mr_iload (pc := 80) (z := z616) dX3_readAttributes_80 rfl ?_
        refine mr_iadd (pc := 82) (x := (z553 + 4)) (y := z616) dX3_readAttributes_82 ?_
        refine mr_iload_n (pc := 83) (z := p2) dX3_readAttributes_83 rfl rfl ?_
        refine mr_icmp_le (pc := 84) (tgt := 94) dX3_readAttributes_84 (by decide) (r32 (rAdd (e := 4) (f := 66535) (rAdd (e := 4) (f := 1000) h610 (rR (x := 4)) rfl) h615.1 rfl) rfl) (r32 h611 rfl) (fun h617 => ?_) (fun h617 => ?_)
        · have h618 : 0 ≤ z616 ∧ z616 ≤ 996 := (vc_X3_readAttributes_17 h617 h568 h609 h611 h610 h615.1)
          refine sv_aload_n (pc := 94) dX3_readAttributes_94 rfl rfl ?_
          refine mr_iload_n (pc := 95) (z := z553) dX3_readAttributes_95 rfl rfl ?_
          refine mr_iload (pc := 96) (z := (z553 + 4)) dX3_readAttributes_96 rfl ?_
          refine mr_iload (pc := 98) (z := z616) dX3_readAttributes_98 rfl ?_
          refine mr_cVV (pc := 100) (c_X3_readAttribute hw T557 (rW (c := 0) (d := 998) h610 rfl) (rW (c := 0) (d := 1000) (rAdd (e := 4) (f := 1000) h610 (rR (x := 4)) rfl) rfl) (rW (c := 0) (d := 1000) h618 rfl) q563 q564 (vc_X3_readAttributes_18 h568 h609 h617 h611 h610 h618) (vc_X3_readAttribute_59 h560 h566 h567) I561) (gOk _ _ _ _ _) dX3_readAttributes_100 (tX3_readAttribute _ _ _ _ _) ⟨wV_X3_readAttribute, wL_X3_readAttribute⟩ wM_X3_107 (gCX3 _ _ _ _ _) rfl (A_76 hw) rfl ⟨le_t rfl, le_t rfl⟩ ⟨le_t rfl, le_t rfl⟩ rfl (le_t rfl) fun μ619 T620 F621 h622 => ?_
          obtain ⟨z623, z625, q624, q626, h627⟩ := h622
          have h628 : (0 ≤ z623 ∧ z623 ≤ 256) := by rw [← q624]; exact T620 76 76 (A_76 hw) 5
          have h629 : 0 ≤ z625 ∧ z625 ≤ 256 := by rw [← q626]; exact cnt_rng (fun i => T620 77 77 (A_77 hw) i) 256
          refine mr_iload (pc := 103) (z := (z553 + 4)) dX3_readAttributes_103 rfl ?_
          refine mr_iload (pc := 105) (z := z616) dX3_readAttributes_105 rfl ?_
          refine mr_iadd (pc := 107) (x := (z553 + 4)) (y := z616) dX3_readAttributes_107 ?_
          refine mr_istore_n (pc := 108) (lv' := [(3, iv ((z553 + 4) + z616)), (6, iv z616), (5, iv (z553 + 4)), (4, iv 1), (0, .ref 76), (2, iv p2)]) dX3_readAttributes_108 rfl (by decide) rfl ?_
          refine sv_goto (pc := 109) (tgt := 2) dX3_readAttributes_109 (by decide) ?_
          refine mr_lvS (lv' := [(0, .ref 76), (2, iv p2), (3, iv ((z553 + 4) + z616))]) (List.forall_mem_cons.mpr ⟨rfl, List.forall_mem_cons.mpr ⟨rfl, List.forall_mem_cons.mpr ⟨rfl, fun _ h => absurd h List.not_mem_nil⟩⟩⟩) ?_
          exact ih565 ((z553 + 4) + z616) μ619 z623 z625 T620 (mF.call (mF.call mF.refl F558 rfl) F621 rfl) q624 q626 (vc_X3_readAttributes_19 h568 h609 h617 h611 h610 h618) (vc_X3_readAttribute_59 h627.1 h628 h629) (OC.keep I561 hw ((mF.call mF.refl F621 rfl) : mF [76005, 76006, 76007, 76008, 77999, 78999, 79999, 80999, 200005, 200006, 200007, 201999] w μ554 μ619) rfl) (vc_X3_readAttributes_21 (nS h562) h568 h609 h617 h611 h610 h618)
        refine sv_aload_n (pc := 87) dX3_readAttributes_87 rfl rfl ?_
        refine mr_iconst (pc := 88) (z := 2) dX3_readAttributes_88 ?_
        refine mr_iload_n (pc := 89) (z := z553) dX3_readAttributes_89 rfl rfl ?_
        refine mr_cVV (pc := 90) (c_X3_note hw T557 (rW (c := 0) (d := 3) (rR (x := 2)) rfl) (rW (c := (-2147483648)) (d := 2147483647) h610 rfl)) (gOk _ _ _ _ _) dX3_readAttributes_90 (tX3_note _ _ _ _ _) ⟨wV_X3_note, wL_X3_note⟩ wM_X3_92 (gCX3 _ _ _ _ _) rfl (A_76 hw) rfl ⟨le_t rfl, le_t rfl⟩ ⟨le_t rfl, le_t rfl⟩ rfl (le_t rfl) fun μ630 T631 F632 h633 => ?_
        exact mr_vret dX3_readAttributes_93 rfl (le_t rfl) (le_t rfl) T631 (mF.call (mF.call mF.refl F558 rfl) F632 rfl) ⟨f_c2, f_s2, (F632.f (A_76 hw) rfl q563), (cntF F632 (A_77 hw) rfl rfl q564), (vc_X3_readAttribute_59 h560 h566 h567), trivial⟩
      refine sv_aload_n (pc := 46) dX3_readAttributes_46 rfl rfl ?_
      refine mr_iconst (pc := 47) (z := 2) dX3_readAttributes_47 ?_
      refine mr_iload_n (pc := 48) (z := z553) dX3_readAttributes_48 rfl rfl ?_
      refine mr_cVV (pc := 49) (c_X3_note hw T557 (rW (c := 0) (d := 3) (rR (x := 2)) rfl) (rW (c := (-2147483648)) (d := 2147483647) h569 rfl)) (gOk _ _ _ _ _) dX3_readAttributes_49 (tX3_note _ _ _ _ _) ⟨wV_X3_note, wL_X3_note⟩ wM_X3_92 (gCX3 _ _ _ _ _) rfl (A_76 hw) rfl ⟨le_t rfl, le_t rfl⟩ ⟨le_t rfl, le_t rfl⟩ rfl (le_t rfl) fun μ634 T635 F636 h637 => ?_
      exact mr_vret dX3_readAttributes_52 rfl (le_t rfl) (le_t rfl) T635 (mF.call (mF.call mF.refl F558 rfl) F636 rfl) ⟨f_c2, f_s2, (F636.f (A_76 hw) rfl q563), (cntF F636 (A_77 hw) rfl rfl q564), (vc_X3_readAttribute_59 h560 h566 h567), trivial⟩
  refine mr_lvS (lv' := [(0, .ref 76), (2, iv p2), (3, iv p1)]) (List.forall_mem_cons.mpr ⟨rfl, List.forall_mem_cons.mpr ⟨rfl, List.forall_mem_cons.mpr ⟨rfl, fun _ h => absurd h List.not_mem_nil⟩⟩⟩) ?_
  exact L555 1004 p1 μ f_cc f_s hT mF.refl q_f_cc q_f_s hp1 (vc_X3_readAttribute_59 hq0 ht_f_cc ht_f_s) hIOC (vc_X3_readAttributes_23 hp1)
theorem vc_X3_readParts_1 {f_wd : Int} (h0 : f_wd = 0) (h1 : 0 ≤ f_wd ∧ f_wd ≤ 1000) : 0 ≤ f_wd ∧ f_wd ≤ 0 := by omega
theorem vc_X3_readParts_3 {p1 z241 : Int} (h0 : z241 ≤ p1) (h1 : 0 ≤ p1 ∧ p1 ≤ 1000) (h2 : 2 ≤ z241 ∧ z241 ≤ 65537) : 2 ≤ z241 ∧ z241 ≤ 1000 := by omega
theorem vc_X3_readParts_4 {p1 z241 : Int} (h0 : z241 ≤ p1) (h1 : 0 ≤ p1 ∧ p1 ≤ 1000) (h2 : 2 ≤ z241 ∧ z241 ≤ 1000) : 2 ≤ p1 ∧ p1 ≤ 1000 := by omega
theorem vc_X3_readParts_5 {p1 z241 z262 : Int} (h0 : z262 ≤ p1) (h1 : z241 ≤ p1) (h2 : 2 ≤ p1 ∧ p1 ≤ 1000) (h3 : 2 ≤ z241 ∧ z241 ≤ 1000) (h4 : 4 ≤ z262 ∧ z262 ≤ 66535) : 4 ≤ z262 ∧ z262 ≤ 1000 := by omega
theorem vc_X3_readParts_6 {p1 z241 z262 : Int} (h0 : z262 ≤ p1) (h1 : z241 ≤ p1) (h2 : 2 ≤ p1 ∧ p1 ≤ 1000) (h3 : 2 ≤ z241 ∧ z241 ≤ 1000) (h4 : 4 ≤ z262 ∧ z262 ≤ 1000) : 4 ≤ p1 ∧ p1 ≤ 1000 := by omega
theorem vc_X3_readParts_8 {z251 z283 : Int} (h0 : z283 ≤ 0) (h1 : z283 + z251 ≤ 1000) (h2 : 0 ≤ z251 ∧ z251 ≤ 1000) (h3 : 0 ≤ z283 ∧ z283 ≤ 1000) : 0 ≤ z283 ∧ z283 ≤ 0 := by omega
theorem vc_X3_readParts_9 {z251 z283 : Int} (h0 : z251 + (0 : Int) ≤ 1000) (h1 : z283 + z251 ≤ 1000) (h2 : z283 ≤ 0) (h3 : 0 ≤ z251 ∧ z251 ≤ 1000) (h4 : 0 ≤ z283 ∧ z283 ≤ 0) : z251 + z283 ≤ 1000 := by omega
theorem vc_X3_readParts_10 {z251 z283 : Int} (h0 : 0 < z283) (h1 : z283 + z251 ≤ 1000) (h2 : 0 ≤ z251 ∧ z251 ≤ 1000) (h3 : 0 ≤ z283 ∧ z283 ≤ 1000) : 1 ≤ z283 ∧ z283 ≤ 1000 := by omega
theorem vc_X3_readParts_12 {z251 z283 : Int} (h0 : z251 + (0 : Int) ≤ 1000) (h1 : z283 + z251 ≤ 1000) (h2 : 0 < z283) (h3 : 0 ≤ z251 ∧ z251 ≤ 1000) (h4 : 1 ≤ z283 ∧ z283 ≤ 1000) : z251 + z283 ≤ 1000 := by omega
theorem vc_X3_readParts_16 {f_an z251 : Int} (h0 : f_an = 0) (h1 : z251 + (0 : Int) ≤ 1000) (h2 : 0 ≤ f_an ∧ f_an ≤ 0) (h3 : 0 ≤ z251 ∧ z251 ≤ 1000) : z251 + f_an ≤ 1000 := by omega
theorem vc_X3_readParts_17 {p1 z241 : Int} (h0 : (z241 + 2) ≤ p1) (h1 : z241 ≤ p1) (h2 : 2 ≤ p1 ∧ p1 ≤ 1000) (h3 : 2 ≤ z241 ∧ z241 ≤ 1000) : 2 ≤ z241 ∧ z241 ≤ 998 := by omega
theorem vc_X3_readParts_18 {p1 z241 : Int} (h0 : (z241 + 2) ≤ p1) (h1 : z241 ≤ p1) (h2 : 2 ≤ p1 ∧ p1 ≤ 1000) (h3 : 2 ≤ z241 ∧ z241 ≤ 998) : 4 ≤ p1 ∧ p1 ≤ 1000 := by omega
theorem vc_X3_readParts_19 {f_an f_wd : Int} (h0 : f_wd = 0) (h1 : f_an = 0) (h2 : 0 ≤ f_an ∧ f_an ≤ 0) (h3 : 0 ≤ f_wd ∧ f_wd ≤ 0) : f_wd + f_an ≤ 1000 := by omega
theorem vc_X3_readParts_20 {p1 : Int} (h0 : p1 < 2) (h1 : 0 ≤ p1 ∧ p1 ≤ 1000) : 0 ≤ p1 ∧ p1 ≤ 1 := by omega
theorem vc_X3_readParts_21 {p1 : Int} (h0 : 2 ≤ p1) (h1 : 0 ≤ p1 ∧ p1 ≤ 1000) : 2 ≤ p1 ∧ p1 ≤ 1000 := by omega
set_option maxRecDepth 4000 in
set_option maxHeartbeats 4000000 in
theorem c_X3_readParts {l : Launch} {D : va_G} {c : Nat → ClassId} {H0 : Heap} {sa : Nat × Nat × (Nat → Int32)} {w : mW} {μ : mM} (hw : mWF w) (hT : mT w μ) {p1 : Int} (hp1 : 0 ≤ p1 ∧ p1 ≤ 1000) {f_cc : Int} (q_f_cc : μ 76 5 = f_cc) {f_s : Int} (q_f_s : cnt μ 77 256 = f_s) {f_wd : Int} (q_f_wd : μ 76 13 = f_wd) {f_an : Int} (q_f_an : μ 76 14 = f_an) (hq0 : f_cc ≤ f_s) (hq1 : f_wd = 0) (hq2 : f_an = 0) (hIOC : OC μ) : sC (gG l D c H0 sa) mX3_readParts 6 0 0 [.ref 76, iv p1] (mk w μ) (qV w [76005, 76006, 76007, 76008, 76013, 76014, 77999, 78999, 79999, 80999, 84999, 85999, 200005, 200006, 200007, 201999] μ (fun μ1 => ∃ o_wd o_an : Int, μ1 76 13 = o_wd ∧ μ1 76 14 = o_an ∧ (o_wd + o_an ≤ 1000) ∧ True)) := by
  refine sC.of rfl (by decide) (le_t rfl) ?_
  have ht_f_cc : (0 ≤ f_cc ∧ f_cc ≤ 256) := by rw [← q_f_cc]; exact hT 76 76 (A_76 hw) 5
  have ht_f_s : 0 ≤ f_s ∧ f_s ≤ 256 := by rw [← q_f_s]; exact cnt_rng (fun i => hT 77 77 (A_77 hw) i) 256
  have ht_f_wd : (0 ≤ f_wd ∧ f_wd ≤ 1000) := by rw [← q_f_wd]; exact hT 76 76 (A_76 hw) 13
  have ht_f_an : (0 ≤ f_an ∧ f_an ≤ 1000) := by rw [← q_f_an]; exact hT 76 76 (A_76 hw) 14
  have h1 : 0 ≤ f_wd ∧ f_wd ≤ 0 := (vc_X3_readParts_1 hq1 ht_f_wd)
  have h2 : 0 ≤ f_an ∧ f_an ≤ 0 := (vc_X3_readParts_1 hq2 ht_f_an)
  refine mr_lvE (lv' := [(0, .ref 76), (1, iv p1)]) rfl ?_
  refine mr_iconst (pc := 0) (z := 2) dX3_readParts_0 ?_
  refine mr_istore_n (pc := 1) (lv' := [(2, iv 2), (0, .ref 76), (1, iv p1)]) dX3_readParts_1 rfl (by decide) rfl ?_
  refine mr_iload_n (pc := 2) (z := p1) dX3_readParts_2 rfl rfl ?_
  refine mr_iconst (pc := 3) (z := 2) dX3_readParts_3 ?_
  have J243 : ∀ (z241 : Int), ((2 ≤ z241 ∧ z241 ≤ 65537)) → sV (gG l D c H0 sa) mX3_readParts (sRm 6 0 0) (sZ (gG l D c H0 sa) 0 0 (qV w [76005, 76006, 76007, 76008, 76013, 76014, 77999, 78999, 79999, 80999, 84999, 85999, 200005, 200006, 200007, 201999] μ (fun μ1 => ∃ o_wd o_an : Int, μ1 76 13 = o_wd ∧ μ1 76 14 = o_an ∧ (o_wd + o_an ≤ 1000) ∧ True))) 15 [(0, .ref 76), (1, iv p1), (2, iv z241)] [] (mk w μ) 0 0 := by
    intro z241 h242
    refine mr_iload_n (pc := 15) (z := z241) dX3_readParts_15 rfl rfl ?_
    refine mr_iload_n (pc := 16) (z := p1) dX3_readParts_16 rfl rfl ?_
    refine mr_icmp_le (pc := 17) (tgt := 27) dX3_readParts_17 (by decide) (r32 h242 rfl) (r32 hp1 rfl) (fun h244 => ?_) (fun h244 => ?_)
    · have h245 : 2 ≤ z241 ∧ z241 ≤ 1000 := (vc_X3_readParts_3 h244 hp1 h242)
      have h246 : 2 ≤ p1 ∧ p1 ≤ 1000 := (vc_X3_readParts_4 h244 hp1 h245)
      refine sv_aload_n (pc := 27) dX3_readParts_27 rfl rfl ?_
      refine sv_aload_n (pc := 28) dX3_readParts_28 rfl rfl ?_
      refine mr_iconst (pc := 29) (z := 2) dX3_readParts_29 ?_
      refine mr_iload_n (pc := 30) (z := z241) dX3_readParts_30 rfl rfl ?_
      refine mr_iconst (pc := 31) (z := 0) dX3_readParts_31 ?_
      refine mr_cVI (pc := 32) (c_X3_readPrefixes hw hT (rW (c := 0) (d := 1000) (rR (x := 2)) rfl) (rW (c := 0) (d := 1000) h245 rfl) (rW (c := 0) (d := 1000) (rR (x := 0)) rfl) hIOC) (gOk _ _ _ _ _) dX3_readParts_32 (tX3_readPrefixes _ _ _ _ _) ⟨wV_X3_readPrefixes, wL_X3_readPrefixes⟩ wM_X3_95 (gCX3 _ _ _ _ _) rfl (A_76 hw) rfl ⟨le_t rfl, le_t rfl⟩ ⟨le_t rfl, le_t rfl⟩ rfl (le_t rfl) fun z251 μ247 T248 F249 h250 => ?_
      refine pf_X3_13 (pc := 35) dX3_readParts_35 wF_X3_63 (A_76 hw) T248 h250.1 fun μ252 u253 T254 => ?_
      refine mr_iload_n (pc := 38) (z := z241) dX3_readParts_38 rfl rfl ?_
      refine mr_iconst (pc := 39) (z := 2) dX3_readParts_39 ?_
      refine mr_iadd (pc := 40) (x := z241) (y := 2) dX3_readParts_40 ?_
      refine mr_istore_n (pc := 41) (lv' := [(3, iv (z241 + 2)), (0, .ref 76), (1, iv p1), (2, iv z241)]) dX3_readParts_41 rfl (by decide) rfl ?_
      refine mr_iload_n (pc := 42) (z := (z241 + 2)) dX3_readParts_42 rfl rfl ?_
      refine mr_iload_n (pc := 43) (z := p1) dX3_readParts_43 rfl rfl ?_
      have J264 : ∀ (z262 : Int), ((4 ≤ z262 ∧ z262 ≤ 66535)) → sV (gG l D c H0 sa) mX3_readParts (sRm 6 0 0) (sZ (gG l D c H0 sa) 0 0 (qV w [76005, 76006, 76007, 76008, 76013, 76014, 77999, 78999, 79999, 80999, 84999, 85999, 200005, 200006, 200007, 201999] μ (fun μ1 => ∃ o_wd o_an : Int, μ1 76 13 = o_wd ∧ μ1 76 14 = o_an ∧ (o_wd + o_an ≤ 1000) ∧ True))) 55 [(0, .ref 76), (1, iv p1), (2, iv z241), (3, iv z262)] [] (mk w μ252) 0 0 := by
        intro z262 h263
        refine mr_iload_n (pc := 55) (z := z262) dX3_readParts_55 rfl rfl ?_
        refine mr_iload_n (pc := 56) (z := p1) dX3_readParts_56 rfl rfl ?_
        refine mr_icmp_le (pc := 57) (tgt := 67) dX3_readParts_57 (by decide) (r32 h263 rfl) (r32 h246 rfl) (fun h265 => ?_) (fun h265 => ?_)
        · have h266 : 4 ≤ z262 ∧ z262 ≤ 1000 := (vc_X3_readParts_5 h265 h244 h246 h245 h263)
          have h267 : 4 ≤ p1 ∧ p1 ≤ 1000 := (vc_X3_readParts_6 h265 h244 h246 h245 h266)
          refine sv_aload_n (pc := 67) dX3_readParts_67 rfl rfl ?_
          refine mr_iload_n (pc := 68) (z := z241) dX3_readParts_68 rfl rfl ?_
          refine mr_iconst (pc := 69) (z := 2) dX3_readParts_69 ?_
          refine mr_iadd (pc := 70) (x := z241) (y := 2) dX3_readParts_70 ?_
          refine mr_iload_n (pc := 71) (z := z262) dX3_readParts_71 rfl rfl ?_
          refine mr_cVV (pc := 72) (c_X3_readAttributes hw T254 (rW (c := 0) (d := 1002) (rAdd (e := 4) (f := 1002) h245 (rR (x := 2)) rfl) rfl) (rW (c := 0) (d := 1000) h266 rfl) (u253.f (Or.inr (by decide)) (F249.f (A_76 hw) rfl q_f_cc)) (cntO u253 (by decide) (cntF F249 (A_77 hw) rfl rfl q_f_s)) (vc_X3_readAttribute_59 hq0 ht_f_cc ht_f_s) (OC.keep hIOC hw ((mF.up (mF.call mF.refl F249 rfl) (A_76 hw) u253 rfl) : mF [76013, 80999, 84999, 85999] w μ μ252) rfl)) (gOk _ _ _ _ _) dX3_readParts_72 (tX3_readAttributes _ _ _ _ _) ⟨wV_X3_readAttributes, wL_X3_readAttributes⟩ wM_X3_99 (gCX3 _ _ _ _ _) rfl (A_76 hw) rfl ⟨le_t rfl, le_t rfl⟩ ⟨le_t rfl, le_t rfl⟩ rfl (le_t rfl) fun μ268 T269 F270 h271 => ?_
          obtain ⟨z272, z274, q273, q275, h276⟩ := h271
          have h277 : (0 ≤ z272 ∧ z272 ≤ 256) := by rw [← q273]; exact T269 76 76 (A_76 hw) 5
          have h278 : 0 ≤ z274 ∧ z274 ≤ 256 := by rw [← q275]; exact cnt_rng (fun i => T269 77 77 (A_77 hw) i) 256
          refine sv_aload_n (pc := 75) dX3_readParts_75 rfl rfl ?_
          refine sv_aload_n (pc := 76) dX3_readParts_76 rfl rfl ?_
          refine mr_iload_n (pc := 77) (z := z262) dX3_readParts_77 rfl rfl ?_
          refine mr_iload_n (pc := 78) (z := p1) dX3_readParts_78 rfl rfl ?_
          refine sv_aload_n (pc := 79) dX3_readParts_79 rfl rfl ?_
          refine gk_X3_13 (pc := 80) dX3_readParts_80 wF_X3_63 (A_76 hw) (F270.f (A_76 hw) rfl u253.1) ?_
          refine mr_cVI (pc := 83) (c_X3_readPrefixes hw T269 (rW (c := 0) (d := 1000) h266 rfl) (rW (c := 0) (d := 1000) h267 rfl) h250.1 (OC.keep hIOC hw ((mF.call (mF.up (mF.call mF.refl F249 rfl) (A_76 hw) u253 rfl) F270 rfl) : mF [76005, 76006, 76007, 76008, 76013, 77999, 78999, 79999, 80999, 84999, 85999, 200005, 200006, 200007, 201999] w μ μ268) rfl)) (gOk _ _ _ _ _) dX3_readParts_83 (tX3_readPrefixes _ _ _ _ _) ⟨wV_X3_readPrefixes, wL_X3_readPrefixes⟩ wM_X3_95 (gCX3 _ _ _ _ _) rfl (A_76 hw) rfl ⟨le_t rfl, le_t rfl⟩ ⟨le_t rfl, le_t rfl⟩ rfl (le_t rfl) fun z283 μ279 T280 F281 h282 => ?_
          refine pf_X3_14 (pc := 86) dX3_readParts_86 wF_X3_66 (A_76 hw) T280 h282.1 fun μ284 u285 T286 => ?_
          refine sv_aload_n (pc := 89) dX3_readParts_89 rfl rfl ?_
          refine gk_X3_14 (pc := 90) dX3_readParts_90 wF_X3_66 (A_76 hw) u285.1 ?_
          refine mr_if_le (pc := 93) (tgt := 116) dX3_readParts_93 (by decide) (r32 h282.1 rfl) (fun h307 => ?_) (fun h307 => ?_)
          · have h308 : 0 ≤ z283 ∧ z283 ≤ 0 := (vc_X3_readParts_8 h307 h282.2.1 h250.1 h282.1)
            exact mr_vret dX3_readParts_116 rfl (le_t rfl) (le_t rfl) T286 (mF.up (mF.call (mF.call (mF.up (mF.call mF.refl F249 rfl) (A_76 hw) u253 rfl) F270 rfl) F281 rfl) (A_76 hw) u285 rfl) ⟨z251, z283, (u285.f (Or.inr (by decide)) (F281.f (A_76 hw) rfl (F270.f (A_76 hw) rfl u253.1))), u285.1, (vc_X3_readParts_9 h250.2.1 h282.2.1 h307 h250.1 h308), trivial⟩
          have h309 : 1 ≤ z283 ∧ z283 ≤ 1000 := (vc_X3_readParts_10 h307 h282.2.1 h250.1 h282.1)
          refine sv_aload_n (pc := 96) dX3_readParts_96 rfl rfl ?_
          refine gf_X3_7 (pc := 97) dX3_readParts_97 wF_X3_82 (A_76 hw) T286 fun z310 q311 h312 => ?_
          refine mr_if_eq (pc := 100) (tgt := 110) dX3_readParts_100 (by decide) (r32 h312 rfl) (fun h328 => ?_) (fun h328 => ?_)
          · have h329 : 0 ≤ z310 ∧ z310 ≤ 0 := (vc_X12_ring_22 h328 h312)
            refine sv_aload_n (pc := 110) dX3_readParts_110 rfl rfl ?_
            refine mr_iconst (pc := 111) (z := 2) dX3_readParts_111 ?_
            refine mr_iload_n (pc := 112) (z := z262) dX3_readParts_112 rfl rfl ?_
            refine mr_cVV (pc := 113) (c_X3_note hw T286 (rW (c := 0) (d := 3) (rR (x := 2)) rfl) (rW (c := (-2147483648)) (d := 2147483647) h266 rfl)) (gOk _ _ _ _ _) dX3_readParts_113 (tX3_note _ _ _ _ _) ⟨wV_X3_note, wL_X3_note⟩ wM_X3_92 (gCX3 _ _ _ _ _) rfl (A_76 hw) rfl ⟨le_t rfl, le_t rfl⟩ ⟨le_t rfl, le_t rfl⟩ rfl (le_t rfl) fun μ330 T331 F332 h333 => ?_
            exact mr_vret dX3_readParts_116 rfl (le_t rfl) (le_t rfl) T331 (mF.call (mF.up (mF.call (mF.call (mF.up (mF.call mF.refl F249 rfl) (A_76 hw) u253 rfl) F270 rfl) F281 rfl) (A_76 hw) u285 rfl) F332 rfl) ⟨z251, z283, (F332.f (A_76 hw) rfl (u285.f (Or.inr (by decide)) (F281.f (A_76 hw) rfl (F270.f (A_76 hw) rfl u253.1)))), (F332.f (A_76 hw) rfl u285.1), (vc_X3_readParts_12 h250.2.1 h282.2.1 h307 h250.1 h309), trivial⟩
          have h334 : 1 ≤ z310 ∧ z310 ≤ 1 := (vc_X12_ring_24 h328 h312)
          refine sv_aload_n (pc := 103) dX3_readParts_103 rfl rfl ?_
          refine gf_X3_8 (pc := 104) dX3_readParts_104 wF_X3_85 (A_76 hw) T286 fun z335 q336 h337 => ?_
          refine mr_if_ne (pc := 107) (tgt := 116) dX3_readParts_107 (by decide) (r32 h337 rfl) (fun h344 => ?_) (fun h344 => ?_)
          · have h345 : 1 ≤ z335 ∧ z335 ≤ 1 := (vc_X12_ring_24 h344 h337)
            exact mr_vret dX3_readParts_116 rfl (le_t rfl) (le_t rfl) T286 (mF.up (mF.call (mF.call (mF.up (mF.call mF.refl F249 rfl) (A_76 hw) u253 rfl) F270 rfl) F281 rfl) (A_76 hw) u285 rfl) ⟨z251, z283, (u285.f (Or.inr (by decide)) (F281.f (A_76 hw) rfl (F270.f (A_76 hw) rfl u253.1))), u285.1, (vc_X3_readParts_12 h250.2.1 h282.2.1 h307 h250.1 h309), trivial⟩
          have h346 : 0 ≤ z335 ∧ z335 ≤ 0 := (vc_X12_ring_22 h344 h337)
          refine sv_aload_n (pc := 110) dX3_readParts_110 rfl rfl ?_
          refine mr_iconst (pc := 111) (z := 2) dX3_readParts_111 ?_
          refine mr_iload_n (pc := 112) (z := z262) dX3_readParts_112 rfl rfl ?_
          refine mr_cVV (pc := 113) (c_X3_note hw T286 (rW (c := 0) (d := 3) (rR (x := 2)) rfl) (rW (c := (-2147483648)) (d := 2147483647) h266 rfl)) (gOk _ _ _ _ _) dX3_readParts_113 (tX3_note _ _ _ _ _) ⟨wV_X3_note, wL_X3_note⟩ wM_X3_92 (gCX3 _ _ _ _ _) rfl (A_76 hw) rfl ⟨le_t rfl, le_t rfl⟩ ⟨le_t rfl, le_t rfl⟩ rfl (le_t rfl) fun μ347 T348 F349 h350 => ?_
          exact mr_vret dX3_readParts_116 rfl (le_t rfl) (le_t rfl) T348 (mF.call (mF.up (mF.call (mF.call (mF.up (mF.call mF.refl F249 rfl) (A_76 hw) u253 rfl) F270 rfl) F281 rfl) (A_76 hw) u285 rfl) F349 rfl) ⟨z251, z283, (F349.f (A_76 hw) rfl (u285.f (Or.inr (by decide)) (F281.f (A_76 hw) rfl (F270.f (A_76 hw) rfl u253.1)))), (F349.f (A_76 hw) rfl u285.1), (vc_X3_readParts_12 h250.2.1 h282.2.1 h307 h250.1 h309), trivial⟩
        refine sv_aload_n (pc := 60) dX3_readParts_60 rfl rfl ?_
        refine mr_iconst (pc := 61) (z := 1) dX3_readParts_61 ?_
        refine mr_iload_n (pc := 62) (z := z241) dX3_readParts_62 rfl rfl ?_
        refine mr_cVV (pc := 63) (c_X3_note hw T254 (rW (c := 0) (d := 3) (rR (x := 1)) rfl) (rW (c := (-2147483648)) (d := 2147483647) h245 rfl)) (gOk _ _ _ _ _) dX3_readParts_63 (tX3_note _ _ _ _ _) ⟨wV_X3_note, wL_X3_note⟩ wM_X3_92 (gCX3 _ _ _ _ _) rfl (A_76 hw) rfl ⟨le_t rfl, le_t rfl⟩ ⟨le_t rfl, le_t rfl⟩ rfl (le_t rfl) fun μ351 T352 F353 h354 => ?_
        exact mr_vret dX3_readParts_66 rfl (le_t rfl) (le_t rfl) T352 (mF.call (mF.up (mF.call mF.refl F249 rfl) (A_76 hw) u253 rfl) F353 rfl) ⟨z251, f_an, (F353.f (A_76 hw) rfl u253.1), (F353.f (A_76 hw) rfl (u253.f (Or.inr (by decide)) (F249.f (A_76 hw) rfl q_f_an))), (vc_X3_readParts_16 hq2 h250.2.1 h2 h250.1), trivial⟩
      refine mr_icmp_gt (pc := 44) (tgt := 55) dX3_readParts_44 (by decide) (r32 (rAdd (e := 4) (f := 1002) h245 (rR (x := 2)) rfl) rfl) (r32 h246 rfl) (fun h355 => ?_) (fun h355 => ?_)
      · refine mr_lvS (lv' := [(0, .ref 76), (1, iv p1), (2, iv z241), (3, iv (z241 + 2))]) (List.forall_mem_cons.mpr ⟨rfl, List.forall_mem_cons.mpr ⟨rfl, List.forall_mem_cons.mpr ⟨rfl, List.forall_mem_cons.mpr ⟨rfl, fun _ h => absurd h List.not_mem_nil⟩⟩⟩⟩) ?_
        exact J264 (z241 + 2) (rW (c := 4) (d := 66535) (rAdd (e := 4) (f := 1002) h245 (rR (x := 2)) rfl) rfl)
      have h356 : 2 ≤ z241 ∧ z241 ≤ 998 := (vc_X3_readParts_17 h355 h244 h246 h245)
      have h357 : 4 ≤ p1 ∧ p1 ≤ 1000 := (vc_X3_readParts_18 h355 h244 h246 h356)
      refine mr_iload_n (pc := 47) (z := (z241 + 2)) dX3_readParts_47 rfl rfl ?_
      refine sv_aload_n (pc := 48) dX3_readParts_48 rfl rfl ?_
      refine mr_iload_n (pc := 49) (z := z241) dX3_readParts_49 rfl rfl ?_
      refine mr_cVP (pc := 50) (c_X3_pairAt hw T254 (rW (c := 0) (d := 998) h356 rfl) (OC.keep hIOC hw ((mF.up (mF.call mF.refl F249 rfl) (A_76 hw) u253 rfl) : mF [76013, 80999, 84999, 85999] w μ μ252) rfl)) (gOk _ _ _ _ _) dX3_readParts_50 (tX3_pairAt _ _ _ _ _) ⟨wV_X3_pairAt, wL_X3_pairAt⟩ wM_X3_88 (gCX3 _ _ _ _ _) rfl (A_76 hw) rfl ⟨le_t rfl, le_t rfl⟩ ⟨le_t rfl, le_t rfl⟩ rfl (le_t rfl) fun z362 h361 => ?_
      refine mr_iadd (pc := 53) (x := (z241 + 2)) (y := z362) dX3_readParts_53 ?_
      refine mr_istore_n (pc := 54) (lv' := [(3, iv ((z241 + 2) + z362)), (0, .ref 76), (1, iv p1), (2, iv z241)]) dX3_readParts_54 rfl (by decide) rfl ?_
      refine mr_lvS (lv' := [(0, .ref 76), (1, iv p1), (2, iv z241), (3, iv ((z241 + 2) + z362))]) (List.forall_mem_cons.mpr ⟨rfl, List.forall_mem_cons.mpr ⟨rfl, List.forall_mem_cons.mpr ⟨rfl, List.forall_mem_cons.mpr ⟨rfl, fun _ h => absurd h List.not_mem_nil⟩⟩⟩⟩) ?_
      exact J264 ((z241 + 2) + z362) (rAdd (e := 4) (f := 66535) (rAdd (e := 4) (f := 1000) h356 (rR (x := 2)) rfl) h361.1 rfl)
    refine sv_aload_n (pc := 20) dX3_readParts_20 rfl rfl ?_
    refine mr_iconst (pc := 21) (z := 1) dX3_readParts_21 ?_
    refine mr_iconst (pc := 22) (z := 0) dX3_readParts_22 ?_
    refine mr_cVV (pc := 23) (c_X3_note hw hT (rW (c := 0) (d := 3) (rR (x := 1)) rfl) (rW (c := (-2147483648)) (d := 2147483647) (rR (x := 0)) rfl)) (gOk _ _ _ _ _) dX3_readParts_23 (tX3_note _ _ _ _ _) ⟨wV_X3_note, wL_X3_note⟩ wM_X3_92 (gCX3 _ _ _ _ _) rfl (A_76 hw) rfl ⟨le_t rfl, le_t rfl⟩ ⟨le_t rfl, le_t rfl⟩ rfl (le_t rfl) fun μ363 T364 F365 h366 => ?_
    exact mr_vret dX3_readParts_26 rfl (le_t rfl) (le_t rfl) T364 (mF.call mF.refl F365 rfl) ⟨f_wd, f_an, (F365.f (A_76 hw) rfl q_f_wd), (F365.f (A_76 hw) rfl q_f_an), (vc_X3_readParts_19 hq1 hq2 h2 h1), trivial⟩
  refine mr_icmp_lt (pc := 4) (tgt := 15) dX3_readParts_4 (by decide) (r32 hp1 rfl) (r32 (rR (x := 2)) rfl) (fun h367 => ?_) (fun h367 => ?_)
  · have h368 : 0 ≤ p1 ∧ p1 ≤ 1 := (vc_X3_readParts_20 h367 hp1)
    refine mr_lvS (lv' := [(0, .ref 76), (1, iv p1), (2, iv 2)]) (List.forall_mem_cons.mpr ⟨rfl, List.forall_mem_cons.mpr ⟨rfl, List.forall_mem_cons.mpr ⟨rfl, fun _ h => absurd h List.not_mem_nil⟩⟩⟩) ?_
    exact J243 2 (rW (c := 2) (d := 65537) (rR (x := 2)) rfl)
  have h369 : 2 ≤ p1 ∧ p1 ≤ 1000 := (vc_X3_readParts_21 h367 hp1)
  refine mr_iload_n (pc := 7) (z := 2) dX3_readParts_7 rfl rfl ?_
  refine sv_aload_n (pc := 8) dX3_readParts_8 rfl rfl ?_
  refine mr_iconst (pc := 9) (z := 0) dX3_readParts_9 ?_
  refine mr_cVP (pc := 10) (c_X3_pairAt hw hT (rW (c := 0) (d := 998) (rR (x := 0)) rfl) hIOC) (gOk _ _ _ _ _) dX3_readParts_10 (tX3_pairAt _ _ _ _ _) ⟨wV_X3_pairAt, wL_X3_pairAt⟩ wM_X3_88 (gCX3 _ _ _ _ _) rfl (A_76 hw) rfl ⟨le_t rfl, le_t rfl⟩ ⟨le_t rfl, le_t rfl⟩ rfl (le_t rfl) fun z374 h373 => ?_
  refine mr_iadd (pc := 13) (x := 2) (y := z374) dX3_readParts_13 ?_
  refine mr_istore_n (pc := 14) (lv' := [(2, iv (2 + z374)), (0, .ref 76), (1, iv p1)]) dX3_readParts_14 rfl (by decide) rfl ?_
  refine mr_lvS (lv' := [(0, .ref 76), (1, iv p1), (2, iv (2 + z374))]) (List.forall_mem_cons.mpr ⟨rfl, List.forall_mem_cons.mpr ⟨rfl, List.forall_mem_cons.mpr ⟨rfl, fun _ h => absurd h List.not_mem_nil⟩⟩⟩) ?_
  exact J243 (2 + z374) (rAdd (e := 2) (f := 65537) (rR (x := 2)) h373.1 rfl)
theorem vc_X3_forget_z_1  : ((0 : Int) : Int) = (0 : Int) := by omega
set_option maxRecDepth 4000 in
set_option maxHeartbeats 4000000 in
theorem c_X3_forget_z {l : Launch} {D : va_G} {c : Nat → ClassId} {H0 : Heap} {sa : Nat × Nat × (Nat → Int32)} {w : mW} {μ : mM} (hw : mWF w) (hT : mT w μ) : sC (gG l D c H0 sa) mX3_forget 3 0 0 [.ref 76] (mk w μ) (qV w [76005, 76006, 76007, 76008, 76013, 76014, 76016, 77999, 80999, 200002, 200003, 200004, 200005, 200006, 200007, 200008] μ (fun μ1 => ∃ o_cc o_wd o_an : Int, μ1 76 5 = o_cc ∧ μ1 76 13 = o_wd ∧ μ1 76 14 = o_an ∧ (o_cc = 0) ∧ (o_wd = 0) ∧ (o_an = 0) ∧ True)) := by
  refine sC.of rfl (by decide) (le_t rfl) ?_
  refine mr_lvE (lv' := [(0, .ref 76)]) rfl ?_
  refine sv_aload_n (pc := 0) dX3_forget_0 rfl rfl ?_
  refine gf_X3_3 (pc := 1) dX3_forget_1 wF_X3_22 (A_76 hw) hT ?_
  refine mr_ldc (pc := 4) (z := (-99999999)) dX3_forget_4 wG_X3_21 (by decide) ?_
  refine mr_fillI (pc := 6) dX3_forget_6 wM_X3_69 (A_80 hw) rfl ((A_80 hw).2.2.2 rfl) (lt_t rfl) hT (fun _ => (rW (c := (-2147483648)) (d := 2147483647) (rR (x := (-99999999))) rfl)) ⟨le_t rfl, le_t rfl⟩ ⟨le_t rfl, le_t rfl⟩ (le_t rfl) fun μ1 q2 T3 => ?_
  have F4 : mF [80999] w μ μ1 := mF.cell q2.1 (A_80 hw) rfl
  refine sv_aload_n (pc := 9) dX3_forget_9 rfl rfl ?_
  refine gf_X3_0 (pc := 10) dX3_forget_10 wF_X3_11 (A_76 hw) T3 ?_
  refine mr_iconst (pc := 13) (z := 0) dX3_forget_13 ?_
  refine mr_fillI (pc := 14) dX3_forget_14 wM_X3_69 (A_77 hw) rfl ((A_77 hw).2.2.2 rfl) (lt_t rfl) T3 (fun _ => (rW (c := 0) (d := 1) (rR (x := 0)) rfl)) ⟨le_t rfl, le_t rfl⟩ ⟨le_t rfl, le_t rfl⟩ (le_t rfl) fun μ5 q6 T7 => ?_
  have F8 : mF [77999] w μ1 μ5 := mF.cell q6.1 (A_77 hw) rfl
  refine sv_aload_n (pc := 17) dX3_forget_17 rfl rfl ?_
  refine gf_X3_9 (pc := 18) dX3_forget_18 wF_X3_28 (A_76 hw) T7 ?_
  refine mr_iconst (pc := 21) (z := 0) dX3_forget_21 ?_
  refine mr_iconst (pc := 22) (z := 0) dX3_forget_22 ?_
  refine mr_cVV (pc := 23) (c_X7_begin hw T7 (A_81 hw) (rW (c := 0) (d := 9) (rR (x := 0)) rfl) (rW (c := (-2147483648)) (d := 2147483647) (rR (x := 0)) rfl)) (gOk _ _ _ _ _) dX3_forget_23 (tX7_begin _ _ _ _ _) ⟨wV_X7_begin, wL_X7_begin⟩ wM_X3_75 (gCX7 _ _ _ _ _) rfl (A_81 hw) rfl ⟨le_t rfl, le_t rfl⟩ ⟨le_t rfl, le_t rfl⟩ rfl (le_t rfl) fun μ9 T10 F11 h12 => ?_
  refine sv_aload_n (pc := 26) dX3_forget_26 rfl rfl ?_
  refine mr_iconst (pc := 27) (z := 0) dX3_forget_27 ?_
  refine pf_X3_5 (pc := 28) dX3_forget_28 wF_X3_79 (A_76 hw) T10 (rW (c := 0) (d := 256) (rR (x := 0)) rfl) fun μ13 u14 T15 => ?_
  refine sv_aload_n (pc := 31) dX3_forget_31 rfl rfl ?_
  refine mr_iconst (pc := 32) (z := 0) dX3_forget_32 ?_
  refine pf_X3_6 (pc := 33) dX3_forget_33 wF_X3_59 (A_76 hw) T15 (rW (c := 0) (d := 8) (rR (x := 0)) rfl) fun μ16 u17 T18 => ?_
  refine sv_aload_n (pc := 36) dX3_forget_36 rfl rfl ?_
  refine mr_iconst (pc := 37) (z := 0) dX3_forget_37 ?_
  refine pf_X3_7 (pc := 38) dX3_forget_38 wF_X3_82 (A_76 hw) T18 (rW (c := 0) (d := 1) (rR (x := 0)) rfl) fun μ19 u20 T21 => ?_
  refine sv_aload_n (pc := 41) dX3_forget_41 rfl rfl ?_
  refine mr_iconst (pc := 42) (z := 0) dX3_forget_42 ?_
  refine pf_X3_8 (pc := 43) dX3_forget_43 wF_X3_85 (A_76 hw) T21 (rW (c := 0) (d := 1) (rR (x := 0)) rfl) fun μ22 u23 T24 => ?_
  refine sv_aload_n (pc := 46) dX3_forget_46 rfl rfl ?_
  refine mr_iconst (pc := 47) (z := 0) dX3_forget_47 ?_
  refine pf_X3_13 (pc := 48) dX3_forget_48 wF_X3_63 (A_76 hw) T24 (rW (c := 0) (d := 1000) (rR (x := 0)) rfl) fun μ25 u26 T27 => ?_
  refine sv_aload_n (pc := 51) dX3_forget_51 rfl rfl ?_
  refine mr_iconst (pc := 52) (z := 0) dX3_forget_52 ?_
  refine pf_X3_14 (pc := 53) dX3_forget_53 wF_X3_66 (A_76 hw) T27 (rW (c := 0) (d := 1000) (rR (x := 0)) rfl) fun μ28 u29 T30 => ?_
  refine sv_aload_n (pc := 56) dX3_forget_56 rfl rfl ?_
  refine mr_iconst (pc := 57) (z := 0) dX3_forget_57 ?_
  refine pf_X3_16 (pc := 58) dX3_forget_58 wF_X3_51 (A_76 hw) T30 (rW (c := 0) (d := 1) (rR (x := 0)) rfl) fun μ31 u32 T33 => ?_
  exact mr_vret dX3_forget_61 rfl (le_t rfl) (le_t rfl) T33 (mF.up (mF.up (mF.up (mF.up (mF.up (mF.up (mF.up (mF.call (mF.call (mF.call mF.refl F4 rfl) F8 rfl) F11 rfl) (A_76 hw) u14 rfl) (A_76 hw) u17 rfl) (A_76 hw) u20 rfl) (A_76 hw) u23 rfl) (A_76 hw) u26 rfl) (A_76 hw) u29 rfl) (A_76 hw) u32 rfl) ⟨0, 0, 0, (u32.f (Or.inr (by decide)) (u29.f (Or.inr (by decide)) (u26.f (Or.inr (by decide)) (u23.f (Or.inr (by decide)) (u20.f (Or.inr (by decide)) (u17.f (Or.inr (by decide)) u14.1)))))), (u32.f (Or.inr (by decide)) (u29.f (Or.inr (by decide)) u26.1)), (u32.f (Or.inr (by decide)) u29.1), vc_X3_forget_z_1, vc_X3_forget_z_1, vc_X3_forget_z_1, trivial⟩
theorem vc_X3_read_1 {z8 : Int} (h0 : z8 = 0) (h1 : 0 ≤ z8 ∧ z8 ≤ 256) : 0 ≤ z8 ∧ z8 ≤ 0 := by omega
theorem vc_X3_read_4 {z24 : Int} (h0 : 0 ≤ z24 ∧ z24 ≤ 256) : (0 : Int) ≤ z24 := by omega
theorem vc_X3_read_11 {z31 z33 : Int} (h0 : z31 + z33 ≤ 1000) (h1 : 0 ≤ z31 ∧ z31 ≤ 1000) (h2 : 0 ≤ z33 ∧ z33 ≤ 1000) : 0 ≤ (z31 + z33) ∧ (z31 + z33) ≤ 1000 := by omega
theorem vc_X3_read_12 {z31 z33 : Int} (h0 : z31 + z33 ≤ 1000) (h1 : 0 ≤ z31 ∧ z31 ≤ 1000) (h2 : 0 ≤ z33 ∧ z33 ≤ 1000) : (z31 + z33) + (0 : Int) ≤ 1000 := by omega
set_option maxRecDepth 4000 in
set_option maxHeartbeats 4000000 in
theorem c_X3_read {l : Launch} {D : va_G} {c : Nat → ClassId} {H0 : Heap} {sa : Nat × Nat × (Nat → Int32)} {w : mW} {μ : mM} (hw : mWF w) (hT : mT w μ) (hA1 : mAt w 1 1) {p2 : Int} (hp2 : 0 ≤ p2 ∧ p2 ≤ 1000) : sC (gG l D c H0 sa) mX3_read 7 0 0 [.ref 76, .ref 1, iv p2] (mk w μ) (qI w [76004, 76005, 76006, 76007, 76008, 76013, 76014, 76016, 77999, 78999, 79999, 80999, 84999, 85999, 200002, 200003, 200004, 200005, 200006, 200007, 200008, 201999, 202999] μ (fun z μ1 => ∃ o_wd o_an : Int, μ1 76 13 = o_wd ∧ μ1 76 14 = o_an ∧ ((-2147483648) ≤ z ∧ z ≤ 2147483647) ∧ (o_wd + o_an ≤ 1000) ∧ True)) := by
  refine sC.of rfl (by decide) (le_t rfl) ?_
  refine mr_lvE (lv' := [(0, .ref 76), (1, .ref 1), (2, iv p2)]) rfl ?_
  refine sv_aload_n (pc := 0) dX3_read_0 rfl rfl ?_
  refine sv_aload_n (pc := 1) dX3_read_1 rfl rfl ?_
  refine pf_X3_4 (pc := 2) dX3_read_2 wF_X3_41 (A_76 hw) hT (A_1 hw) fun μ1 u2 T3 => ?_
  refine sv_aload_n (pc := 5) dX3_read_5 rfl rfl ?_
  refine mr_cVV (pc := 6) (c_X3_forget_z hw T3) (gOk _ _ _ _ _) dX3_read_6 (tX3_forget _ _ _ _ _) ⟨wV_X3_forget, wL_X3_forget⟩ wM_X3_44 (gCX3 _ _ _ _ _) rfl (A_76 hw) rfl ⟨le_t rfl, le_t rfl⟩ ⟨le_t rfl, le_t rfl⟩ rfl (le_t rfl) fun μ4 T5 F6 h7 => ?_
  obtain ⟨z8, z10, z12, q9, q11, q13, h14⟩ := h7
  have h15 : (0 ≤ z8 ∧ z8 ≤ 256) := by rw [← q9]; exact T5 76 76 (A_76 hw) 5
  have h16 : (0 ≤ z10 ∧ z10 ≤ 1000) := by rw [← q11]; exact T5 76 76 (A_76 hw) 13
  have h17 : (0 ≤ z12 ∧ z12 ≤ 1000) := by rw [← q13]; exact T5 76 76 (A_76 hw) 14
  have q18 : μ4 76 5 = 0 := q9.trans h14.1
  have h19 : 0 ≤ z8 ∧ z8 ≤ 0 := (vc_X3_read_1 h14.1 h15)
  have q20 : μ4 76 13 = 0 := q11.trans h14.2.1
  have h21 : 0 ≤ z10 ∧ z10 ≤ 0 := (vc_X3_readParts_1 h14.2.1 h16)
  have q22 : μ4 76 14 = 0 := q13.trans h14.2.2.1
  have h23 : 0 ≤ z12 ∧ z12 ≤ 0 := (vc_X3_readParts_1 h14.2.2.1 h17)
  refine sv_aload_n (pc := 9) dX3_read_9 rfl rfl ?_
  refine mr_iload_n (pc := 10) (z := p2) dX3_read_10 rfl rfl ?_
  obtain ⟨z24, q25⟩ : ∃ z, cnt μ4 77 256 = z := ⟨_, rfl⟩
  have h26 : 0 ≤ z24 ∧ z24 ≤ 256 := by rw [← q25]; exact cnt_rng (fun i => T5 77 77 (A_77 hw) i) 256
  refine mr_cVV (pc := 11) (c_X3_readParts hw T5 hp2 q18 q25 q20 q22 (vc_X3_read_4 h26) vc_X3_forget_z_1 vc_X3_forget_z_1 (OC.keep (by show 0 ≤ μ1 76 4; rw [u2.1]; exact Int.natCast_nonneg _) hw ((mF.call mF.refl F6 rfl) : mF [76005, 76006, 76007, 76008, 76013, 76014, 76016, 77999, 80999, 200002, 200003, 200004, 200005, 200006, 200007, 200008] w μ1 μ4) rfl)) (gOk _ _ _ _ _) dX3_read_11 (tX3_readParts _ _ _ _ _) ⟨wV_X3_readParts, wL_X3_readParts⟩ wM_X3_47 (gCX3 _ _ _ _ _) rfl (A_76 hw) rfl ⟨le_t rfl, le_t rfl⟩ ⟨le_t rfl, le_t rfl⟩ rfl (le_t rfl) fun μ27 T28 F29 h30 => ?_
  obtain ⟨z31, z33, q32, q34, h35⟩ := h30
  have h36 : (0 ≤ z31 ∧ z31 ≤ 1000) := by rw [← q32]; exact T28 76 76 (A_76 hw) 13
  have h37 : (0 ≤ z33 ∧ z33 ≤ 1000) := by rw [← q34]; exact T28 76 76 (A_76 hw) 14
  refine sv_aload_n (pc := 14) dX3_read_14 rfl rfl ?_
  refine gf_X3_3 (pc := 15) dX3_read_15 wF_X3_22 (A_76 hw) T28 ?_
  refine mr_iconst (pc := 18) (z := 1) dX3_read_18 ?_
  refine la_80 (pc := 19) dX3_read_19 (A_80 hw) T28 (rIx (n := 4) (rR (x := 1)) rfl) fun z38 q39 h40 => ?_
  refine mr_ldc (pc := 20) (z := (-99999999)) dX3_read_20 wG_X3_21 (by decide) ?_
  refine mr_icmp_eq (pc := 22) (tgt := 27) dX3_read_22 (by decide) h40 (r32 (rR (x := (-99999999))) rfl) (fun h41 => ?_) (fun h41 => ?_)
  · have h42 : (-99999999) ≤ z38 ∧ z38 ≤ (-99999999) := (vc_X12_judgedAnew_21 h41 h40)
    refine sv_aload_n (pc := 27) dX3_read_27 rfl rfl ?_
    refine mr_iconst (pc := 28) (z := 1) dX3_read_28 ?_
    refine pf_X3_16 (pc := 29) dX3_read_29 wF_X3_51 (A_76 hw) T28 (rW (c := 0) (d := 1) (rR (x := 1)) rfl) fun μ43 u44 T45 => ?_
    refine sv_aload_n (pc := 32) dX3_read_32 rfl rfl ?_
    refine gf_X3_9 (pc := 33) dX3_read_33 wF_X3_28 (A_76 hw) T45 ?_
    refine mr_iconst (pc := 36) (z := 0) dX3_read_36 ?_
    refine pf_X7_8 (pc := 37) dX3_read_37 wF_X3_55 (A_81 hw) T45 (rW (c := 0) (d := 8) (rR (x := 0)) rfl) fun μ46 u47 T48 => ?_
    refine mr_iconst (pc := 40) (z := 0) dX3_read_40 ?_
    refine mr_istore_n (pc := 41) (lv' := [(3, iv 0), (0, .ref 76), (1, .ref 1), (2, iv p2)]) dX3_read_41 rfl (by decide) rfl ?_
    have L247 : ∀ (nL247 : Nat) (z245 : Int) (μ246 : mM), mT w μ246 → mF [200008, 202999] w μ46 μ246 → (0 ≤ z245 ∧ z245 ≤ 8) → OC μ246 → (9 - z245) < (nL247 : Int) → sV (gG l D c H0 sa) mX3_read (sRm 7 0 0) (sZ (gG l D c H0 sa) 0 0 (qI w [76004, 76005, 76006, 76007, 76008, 76013, 76014, 76016, 77999, 78999, 79999, 80999, 84999, 85999, 200002, 200003, 200004, 200005, 200006, 200007, 200008, 201999, 202999] μ (fun z μ1 => ∃ o_wd o_an : Int, μ1 76 13 = o_wd ∧ μ1 76 14 = o_an ∧ ((-2147483648) ≤ z ∧ z ≤ 2147483647) ∧ (o_wd + o_an ≤ 1000) ∧ True))) 42 [(0, .ref 76), (3, iv z245)] [] (mk w μ246) 0 0 := by
      intro nL247
      induction nL247 with
      | zero => intro z245 μ246 T249 F250 h248 I252 h253; exact ((vc_X12_same_17 h253 h248)).elim
      | succ nL247 ih254 =>
        intro z245 μ246 T249 F250 h248 I252 h253
        refine mr_iload_n (pc := 42) (z := z245) dX3_read_42 rfl rfl ?_
        refine sv_aload_n (pc := 43) dX3_read_43 rfl rfl ?_
        refine gf_X3_6 (pc := 44) dX3_read_44 wF_X3_59 (A_76 hw) T249 fun z255 q256 h257 => ?_
        refine mr_icmp_ge (pc := 47) (tgt := 69) dX3_read_47 (by decide) (r32 h248 rfl) (r32 h257 rfl) (fun h267 => ?_) (fun h267 => ?_)
        · refine sv_aload_n (pc := 69) dX3_read_69 rfl rfl ?_
          refine gf_X3_3 (pc := 70) dX3_read_70 wF_X3_22 (A_76 hw) T249 ?_
          refine mr_iconst (pc := 73) (z := 2) dX3_read_73 ?_
          refine la_80 (pc := 74) dX3_read_74 (A_80 hw) T249 (rIx (n := 4) (rR (x := 2)) rfl) fun z268 q269 h270 => ?_
          refine mr_ldc (pc := 75) (z := (-99999999)) dX3_read_75 wG_X3_21 (by decide) ?_
          refine mr_icmp_eq (pc := 77) (tgt := 100) dX3_read_77 (by decide) h270 (r32 (rR (x := (-99999999))) rfl) (fun h271 => ?_) (fun h271 => ?_)
          · have h272 : (-99999999) ≤ z268 ∧ z268 ≤ (-99999999) := (vc_X12_judgedAnew_21 h271 h270)
            refine sv_aload_n (pc := 100) dX3_read_100 rfl rfl ?_
            refine gf_X3_3 (pc := 101) dX3_read_101 wF_X3_22 (A_76 hw) T249 ?_
            refine mr_iconst (pc := 104) (z := 3) dX3_read_104 ?_
            refine la_80 (pc := 105) dX3_read_105 (A_80 hw) T249 (rIx (n := 4) (rR (x := 3)) rfl) fun z273 q274 h275 => ?_
            refine mr_ldc (pc := 106) (z := (-99999999)) dX3_read_106 wG_X3_21 (by decide) ?_
            refine mr_icmp_eq (pc := 108) (tgt := 115) dX3_read_108 (by decide) h275 (r32 (rR (x := (-99999999))) rfl) (fun h277 => ?_) (fun h277 => ?_)
            · have h278 : (-99999999) ≤ z273 ∧ z273 ≤ (-99999999) := (vc_X12_judgedAnew_21 h277 h275)
              refine mr_iconst (pc := 115) (z := 0) dX3_read_115 ?_
              exact mr_iret dX3_read_116 rfl (le_t rfl) (le_t rfl) T249 (mF.call (mF.up (mF.up (mF.call (mF.call (mF.up mF.refl (A_76 hw) u2 rfl) F6 rfl) F29 rfl) (A_76 hw) u44 rfl) (A_81 hw) u47 rfl) F250 rfl) ⟨z31, z33, (F250.f (A_76 hw) rfl (u47.f (Or.inl (mAt.ne (A_81 hw) (A_76 hw) rfl)) (u44.f (Or.inr (by decide)) q32))), (F250.f (A_76 hw) rfl (u47.f (Or.inl (mAt.ne (A_81 hw) (A_76 hw) rfl)) (u44.f (Or.inr (by decide)) q34))), (rW (c := (-2147483648)) (d := 2147483647) (rR (x := 0)) rfl), (vc_X3_readAttribute_7 h35.1 h36 h37), trivial⟩
            refine mr_iconst (pc := 111) (z := 3) dX3_read_111 ?_
            refine sv_goto (pc := 112) (tgt := 116) dX3_read_112 (by decide) ?_
            exact mr_iret dX3_read_116 rfl (le_t rfl) (le_t rfl) T249 (mF.call (mF.up (mF.up (mF.call (mF.call (mF.up mF.refl (A_76 hw) u2 rfl) F6 rfl) F29 rfl) (A_76 hw) u44 rfl) (A_81 hw) u47 rfl) F250 rfl) ⟨z31, z33, (F250.f (A_76 hw) rfl (u47.f (Or.inl (mAt.ne (A_81 hw) (A_76 hw) rfl)) (u44.f (Or.inr (by decide)) q32))), (F250.f (A_76 hw) rfl (u47.f (Or.inl (mAt.ne (A_81 hw) (A_76 hw) rfl)) (u44.f (Or.inr (by decide)) q34))), (rW (c := (-2147483648)) (d := 2147483647) (rR (x := 3)) rfl), (vc_X3_readAttribute_7 h35.1 h36 h37), trivial⟩
          refine sv_aload_n (pc := 80) dX3_read_80 rfl rfl ?_
          refine sv_dup (pc := 81) dX3_read_81 rfl ?_
          refine gk_X3_13 (pc := 82) dX3_read_82 wF_X3_63 (A_76 hw) (F250.f (A_76 hw) rfl (u47.f (Or.inl (mAt.ne (A_81 hw) (A_76 hw) rfl)) (u44.f (Or.inr (by decide)) q32))) ?_
          refine sv_aload_n (pc := 85) dX3_read_85 rfl rfl ?_
          refine gk_X3_14 (pc := 86) dX3_read_86 wF_X3_66 (A_76 hw) (F250.f (A_76 hw) rfl (u47.f (Or.inl (mAt.ne (A_81 hw) (A_76 hw) rfl)) (u44.f (Or.inr (by decide)) q34))) ?_
          refine mr_iadd (pc := 89) (x := z31) (y := z33) dX3_read_89 ?_
          refine pf_X3_13 (pc := 90) dX3_read_90 wF_X3_63 (A_76 hw) T249 (vc_X3_read_11 h35.1 h36 h37) fun μ279 u280 T281 => ?_
          refine sv_aload_n (pc := 93) dX3_read_93 rfl rfl ?_
          refine mr_iconst (pc := 94) (z := 0) dX3_read_94 ?_
          refine pf_X3_14 (pc := 95) dX3_read_95 wF_X3_66 (A_76 hw) T281 (rW (c := 0) (d := 1000) (rR (x := 0)) rfl) fun μ282 u283 T284 => ?_
          refine mr_iconst (pc := 98) (z := 2) dX3_read_98 ?_
          exact mr_iret dX3_read_99 rfl (le_t rfl) (le_t rfl) T284 (mF.up (mF.up (mF.call (mF.up (mF.up (mF.call (mF.call (mF.up mF.refl (A_76 hw) u2 rfl) F6 rfl) F29 rfl) (A_76 hw) u44 rfl) (A_81 hw) u47 rfl) F250 rfl) (A_76 hw) u280 rfl) (A_76 hw) u283 rfl) ⟨(z31 + z33), 0, (u283.f (Or.inr (by decide)) u280.1), u283.1, (rW (c := (-2147483648)) (d := 2147483647) (rR (x := 2)) rfl), (vc_X3_read_12 h35.1 h36 h37), trivial⟩
        have h285 : 0 ≤ z245 ∧ z245 ≤ 7 := (vc_X12_marked_3 h267 h248 h257)
        have h286 : 1 ≤ z255 ∧ z255 ≤ 8 := (vc_X12_marked_4 h267 h285 h257)
        refine sv_aload_n (pc := 50) dX3_read_50 rfl rfl ?_
        refine gf_X3_9 (pc := 51) dX3_read_51 wF_X3_28 (A_76 hw) T249 ?_
        refine sv_aload_n (pc := 54) dX3_read_54 rfl rfl ?_
        refine gf_X3_2 (pc := 55) dX3_read_55 wF_X3_18 (A_76 hw) T249 ?_
        refine mr_iload_n (pc := 58) (z := z245) dX3_read_58 rfl rfl ?_
        refine la_79 (pc := 59) dX3_read_59 (A_79 hw) T249 (rIx (n := 8) h285 rfl) fun z287 q288 h289 => ?_
        refine mr_cVV (pc := 60) (c_X7_addMark hw T249 (A_81 hw) h289) (gOk _ _ _ _ _) dX3_read_60 (tX7_addMark _ _ _ _ _) ⟨wV_X7_addMark, wL_X7_addMark⟩ wM_X3_60 (gCX7 _ _ _ _ _) rfl (A_81 hw) rfl ⟨le_t rfl, le_t rfl⟩ ⟨le_t rfl, le_t rfl⟩ rfl (le_t rfl) fun μ290 T291 F292 h293 => ?_
        refine mr_iinc (pc := 63) (lv' := [(3, iv (z245 + 1)), (0, .ref 76)]) dX3_read_63 rfl (by decide) rfl ?_
        refine sv_goto (pc := 66) (tgt := 42) dX3_read_66 (by decide) ?_
        refine mr_lvS (lv' := [(0, .ref 76), (3, iv (z245 + 1))]) (List.forall_mem_cons.mpr ⟨rfl, List.forall_mem_cons.mpr ⟨rfl, fun _ h => absurd h List.not_mem_nil⟩⟩) ?_
        exact ih254 (z245 + 1) μ290 T291 (mF.call (mF.call mF.refl F250 rfl) F292 rfl) (rW (c := 0) (d := 8) (rAdd (e := 1) (f := 8) h285 (rR (x := 1)) rfl) rfl) (OC.keep I252 hw ((mF.call mF.refl F292 rfl) : mF [200008, 202999] w μ246 μ290) rfl) (vc_X12_marked_6 (nS h253) h267 h285 h286)
    refine mr_lvS (lv' := [(0, .ref 76), (3, iv 0)]) (List.forall_mem_cons.mpr ⟨rfl, List.forall_mem_cons.mpr ⟨rfl, fun _ h => absurd h List.not_mem_nil⟩⟩) ?_
    exact L247 10 0 μ46 T48 mF.refl (rW (c := 0) (d := 8) (rR (x := 0)) rfl) (OC.keep (by show 0 ≤ μ1 76 4; rw [u2.1]; exact Int.natCast_nonneg _) hw ((mF.up (mF.up (mF.call (mF.call mF.refl F6 rfl) F29 rfl) (A_76 hw) u44 rfl) (A_81 hw) u47 rfl) : mF [76005, 76006, 76007, 76008, 76013, 76014, 76016, 77999, 78999, 79999, 80999, 84999, 85999, 200002, 200003, 200004, 200005, 200006, 200007, 200008, 201999] w μ1 μ46) rfl) vc_X12_same_28
  refine mr_iconst (pc := 25) (z := 1) dX3_read_25 ?_
  exact mr_iret dX3_read_26 rfl (le_t rfl) (le_t rfl) T28 (mF.call (mF.call (mF.up mF.refl (A_76 hw) u2 rfl) F6 rfl) F29 rfl) ⟨z31, z33, q32, q34, (rW (c := (-2147483648)) (d := 2147483647) (rR (x := 1)) rfl), (vc_X3_readAttribute_7 h35.1 h36 h37), trivial⟩
set_option maxRecDepth 4000 in
set_option maxHeartbeats 4000000 in
theorem c_X11_message {l : Launch} {D : va_G} {c : Nat → ClassId} {H0 : Heap} {sa : Nat × Nat × (Nat → Int32)} {w : mW} {μ : mM} (hw : mWF w) (hT : mT w μ) : sC (gG l D c H0 sa) mX11_message 8 0 0 [.ref 0] (mk w μ) (qI w [10, 76004, 76005, 76006, 76007, 76008, 76013, 76014, 76016, 77999, 78999, 79999, 80999, 84999, 85999, 200002, 200003, 200004, 200005, 200006, 200007, 200008, 201999, 202999] μ (fun z μ1 => ∃ o_wd o_an : Int, μ1 76 13 = o_wd ∧ μ1 76 14 = o_an ∧ ((-2147483648) ≤ z ∧ z ≤ 2147483647) ∧ (o_wd + o_an ≤ 1000) ∧ True)) := by
  refine sC.of rfl (by decide) (le_t rfl) ?_
  refine mr_lvE (lv' := [(0, .ref 0)]) rfl ?_
  refine sv_aload_n (pc := 0) dX11_message_0 rfl rfl ?_
  refine gf_X11_7 (pc := 1) dX11_message_1 wF_X11_58 (A_0 hw) hT ?_
  refine sv_aload_n (pc := 4) dX11_message_4 rfl rfl ?_
  refine gf_X11_0 (pc := 5) dX11_message_5 wF_X11_9 (A_0 hw) hT ?_
  refine sv_aload_n (pc := 8) dX11_message_8 rfl rfl ?_
  refine gf_X11_10 (pc := 9) dX11_message_9 wF_X11_76 (A_0 hw) hT fun z1 q2 h3 => ?_
  refine mr_cVI (pc := 12) (c_X3_read hw hT (A_1 hw) h3) (gOk _ _ _ _ _) dX11_message_12 (tX3_read _ _ _ _ _) ⟨wV_X3_read, wL_X3_read⟩ wM_X11_339 (gCX3 _ _ _ _ _) rfl (A_76 hw) rfl ⟨le_t rfl, le_t rfl⟩ ⟨le_t rfl, le_t rfl⟩ rfl (le_t rfl) fun z8 μ4 T5 F6 h7 => ?_
  obtain ⟨z9, z11, q10, q12, h13⟩ := h7
  have h14 : (0 ≤ z9 ∧ z9 ≤ 1000) := by rw [← q10]; exact T5 76 76 (A_76 hw) 13
  have h15 : (0 ≤ z11 ∧ z11 ≤ 1000) := by rw [← q12]; exact T5 76 76 (A_76 hw) 14
  refine mr_istore_n (pc := 15) (lv' := [(1, iv z8), (0, .ref 0)]) dX11_message_15 rfl (by decide) rfl ?_
  refine sv_aload_n (pc := 16) dX11_message_16 rfl rfl ?_
  refine mr_iconst (pc := 17) (z := 0) dX11_message_17 ?_
  refine pf_X11_10 (pc := 18) dX11_message_18 wF_X11_76 (A_0 hw) T5 (rW (c := 0) (d := 1000) (rR (x := 0)) rfl) fun μ16 u17 T18 => ?_
  refine mr_iload_n (pc := 21) (z := z8) dX11_message_21 rfl rfl ?_
  exact mr_iret dX11_message_22 rfl (le_t rfl) (le_t rfl) T18 (mF.up (mF.call mF.refl F6 rfl) (A_0 hw) u17 rfl) ⟨z9, z11, (u17.f (Or.inl (mAt.ne (A_0 hw) (A_76 hw) rfl)) q10), (u17.f (Or.inl (mAt.ne (A_0 hw) (A_76 hw) rfl)) q12), h13.1, (vc_X3_told_5 h13.2.1 h15 h14), trivial⟩
set_option maxRecDepth 4000 in
set_option maxHeartbeats 4000000 in
theorem c_J_bits {l : Launch} {D : va_G} {c : Nat → ClassId} {H0 : Heap} {sa : Nat × Nat × (Nat → Int32)} {w : mW} {μ : mM} (hw : mWF w) (hT : mT w μ) {p1 : Int} (hp1 : (-2147483648) ≤ p1 ∧ p1 ≤ 2147483647) : sC (gG l D c H0 sa) mJ_bits 1 0 0 [iv p1] (mk w μ) (qP w μ (fun z => ((-2147483648) ≤ z ∧ z ≤ 2147483647) ∧ True)) := by
  refine sC.of rfl (by decide) (le_t rfl) ?_
  refine mr_lvE (lv' := [(0, iv p1)]) rfl ?_
  refine mr_iload_n (pc := 0) (z := p1) dJ_bits_0 rfl rfl ?_
  refine mr_iload_n (pc := 1) (z := p1) dJ_bits_1 rfl rfl ?_
  refine mr_iconst (pc := 2) (z := 1) dJ_bits_2 ?_
  refine mr_iushr (pc := 3) (x := p1) (y := 1) dJ_bits_3 ?_
  refine mr_gen (P := fun z => (-2147483648) ≤ z ∧ z ≤ 2147483647) (r32i _) fun z1 q2 h3 => ?_
  refine mr_ldcw (pc := 4) (z := 1431655765) dJ_bits_4 wG_XI_265 (by decide) ?_
  refine mr_iand (pc := 7) (x := z1) (y := 1431655765) dJ_bits_7 ?_
  refine mr_gen (P := fun z => 0 ≤ z ∧ z ≤ 1431655765) (rAndR (rR (x := 1431655765)) rfl) fun z4 q5 h6 => ?_
  refine mr_isub (pc := 8) (x := p1) (y := z4) dJ_bits_8 ?_
  refine mr_wrap fun z7 h8 => ?_
  refine mr_istore_n (pc := 9) (lv' := [(0, iv z7)]) dJ_bits_9 rfl (by decide) rfl ?_
  refine mr_iload_n (pc := 10) (z := z7) dJ_bits_10 rfl rfl ?_
  refine mr_ldcw (pc := 11) (z := 858993459) dJ_bits_11 wG_XI_266 (by decide) ?_
  refine mr_iand (pc := 14) (x := z7) (y := 858993459) dJ_bits_14 ?_
  refine mr_gen (P := fun z => 0 ≤ z ∧ z ≤ 858993459) (rAndR (rR (x := 858993459)) rfl) fun z9 q10 h11 => ?_
  refine mr_iload_n (pc := 15) (z := z7) dJ_bits_15 rfl rfl ?_
  refine mr_iconst (pc := 16) (z := 2) dJ_bits_16 ?_
  refine mr_iushr (pc := 17) (x := z7) (y := 2) dJ_bits_17 ?_
  refine mr_gen (P := fun z => (-2147483648) ≤ z ∧ z ≤ 2147483647) (r32i _) fun z12 q13 h14 => ?_
  refine mr_ldcw (pc := 18) (z := 858993459) dJ_bits_18 wG_XI_266 (by decide) ?_
  refine mr_iand (pc := 21) (x := z12) (y := 858993459) dJ_bits_21 ?_
  refine mr_gen (P := fun z => 0 ≤ z ∧ z ≤ 858993459) (rAndR (rR (x := 858993459)) rfl) fun z15 q16 h17 => ?_
  refine mr_iadd (pc := 22) (x := z9) (y := z15) dJ_bits_22 ?_
  refine mr_istore_n (pc := 23) (lv' := [(0, iv (z9 + z15))]) dJ_bits_23 rfl (by decide) rfl ?_
  refine mr_iload_n (pc := 24) (z := (z9 + z15)) dJ_bits_24 rfl rfl ?_
  refine mr_iload_n (pc := 25) (z := (z9 + z15)) dJ_bits_25 rfl rfl ?_
  refine mr_iconst (pc := 26) (z := 4) dJ_bits_26 ?_
  refine mr_iushr (pc := 27) (x := (z9 + z15)) (y := 4) dJ_bits_27 ?_
  refine mr_gen (P := fun z => (-2147483648) ≤ z ∧ z ≤ 2147483647) (r32i _) fun z18 q19 h20 => ?_
  refine mr_iadd (pc := 28) (x := (z9 + z15)) (y := z18) dJ_bits_28 ?_
  refine mr_wrap fun z21 h22 => ?_
  refine mr_ldcw (pc := 29) (z := 252645135) dJ_bits_29 wG_XI_267 (by decide) ?_
  refine mr_iand (pc := 32) (x := z21) (y := 252645135) dJ_bits_32 ?_
  refine mr_gen (P := fun z => 0 ≤ z ∧ z ≤ 252645135) (rAndR (rR (x := 252645135)) rfl) fun z23 q24 h25 => ?_
  refine mr_istore_n (pc := 33) (lv' := [(0, iv z23)]) dJ_bits_33 rfl (by decide) rfl ?_
  refine mr_iload_n (pc := 34) (z := z23) dJ_bits_34 rfl rfl ?_
  refine mr_iload_n (pc := 35) (z := z23) dJ_bits_35 rfl rfl ?_
  refine mr_bipush (pc := 36) (z := 8) dJ_bits_36 (by decide) ?_
  refine mr_iushr (pc := 38) (x := z23) (y := 8) dJ_bits_38 ?_
  refine mr_gen (P := fun z => (-2147483648) ≤ z ∧ z ≤ 2147483647) (r32i _) fun z26 q27 h28 => ?_
  refine mr_iadd (pc := 39) (x := z23) (y := z26) dJ_bits_39 ?_
  refine mr_wrap fun z29 h30 => ?_
  refine mr_istore_n (pc := 40) (lv' := [(0, iv z29)]) dJ_bits_40 rfl (by decide) rfl ?_
  refine mr_iload_n (pc := 41) (z := z29) dJ_bits_41 rfl rfl ?_
  refine mr_iload_n (pc := 42) (z := z29) dJ_bits_42 rfl rfl ?_
  refine mr_bipush (pc := 43) (z := 16) dJ_bits_43 (by decide) ?_
  refine mr_iushr (pc := 45) (x := z29) (y := 16) dJ_bits_45 ?_
  refine mr_gen (P := fun z => (-2147483648) ≤ z ∧ z ≤ 2147483647) (r32i _) fun z31 q32 h33 => ?_
  refine mr_iadd (pc := 46) (x := z29) (y := z31) dJ_bits_46 ?_
  refine mr_wrap fun z34 h35 => ?_
  refine mr_istore_n (pc := 47) (lv' := [(0, iv z34)]) dJ_bits_47 rfl (by decide) rfl ?_
  refine mr_iload_n (pc := 48) (z := z34) dJ_bits_48 rfl rfl ?_
  refine mr_bipush (pc := 49) (z := 63) dJ_bits_49 (by decide) ?_
  refine mr_iand (pc := 51) (x := z34) (y := 63) dJ_bits_51 ?_
  refine mr_gen (P := fun z => 0 ≤ z ∧ z ≤ 63) (rAndR (rR (x := 63)) rfl) fun z36 q37 h38 => ?_
  exact mr_iretP dJ_bits_52 rfl (le_t rfl) (le_t rfl) ⟨(rW (c := (-2147483648)) (d := 2147483647) h38 rfl), trivial⟩
theorem vc_X11_cone_8 {p2 : Int} (h0 : ¬ p2 = (-1)) (h1 : (-1) ≤ p2 ∧ p2 ≤ (-1)) : False := by omega
theorem vc_X11_cone_10 {n0 p1 p2 z1 z32 z8 : Int} (h0 : (z32 = 1 → 0 ≤ p2 ∧ p2 < z1)) (h1 : (z32 = 0 → p2 < 0 ∨ z1 ≤ p2)) (h2 : ¬ z32 = 0) (h3 : z1 = n0) (h4 : (z8 = 1 → 0 ≤ p1 ∧ p1 < z1)) (h5 : (z8 = 0 → p1 < 0 ∨ z1 ≤ p1)) (h6 : 0 ≤ p1 ∧ p1 < z1) (h7 : ¬ p2 = (-1)) (h8 : 0 ≤ p1 ∧ p1 ≤ 9) (h9 : (-2147483648) ≤ p2 ∧ p2 ≤ 2147483647) (h10 : 1 ≤ z1 ∧ z1 ≤ 10) (h11 : 1 ≤ z32 ∧ z32 ≤ 1) (h12 : 1 ≤ z8 ∧ z8 ≤ 1) : z32 = 1 := by omega
theorem vc_X11_cone_11 {n0 p1 p2 z1 z32 z8 : Int} (h0 : 0 ≤ p2 ∧ p2 < z1) (h1 : z1 = n0) (h2 : (z8 = 1 → 0 ≤ p1 ∧ p1 < z1)) (h3 : (z8 = 0 → p1 < 0 ∨ z1 ≤ p1)) (h4 : 0 ≤ p1 ∧ p1 < z1) (h5 : ¬ p2 = (-1)) (h6 : (z32 = 1 → 0 ≤ p2 ∧ p2 < z1)) (h7 : (z32 = 0 → p2 < 0 ∨ z1 ≤ p2)) (h8 : 0 ≤ p1 ∧ p1 ≤ 9) (h9 : (-2147483648) ≤ p2 ∧ p2 ≤ 2147483647) (h10 : 1 ≤ z1 ∧ z1 ≤ 10) (h11 : 1 ≤ z32 ∧ z32 ≤ 1) (h12 : 1 ≤ z8 ∧ z8 ≤ 1) : 0 ≤ p2 ∧ p2 ≤ 9 := by omega
theorem vc_X11_cone_12 {p2 : Int} (h0 : p2 = (-1)) (h1 : 0 ≤ p2 ∧ p2 ≤ 9) : False := by omega
theorem vc_X11_cone_14 {n0 p1 p2 z1 z32 z8 : Int} (h0 : (z32 = 1 → 0 ≤ p2 ∧ p2 < z1)) (h1 : (z32 = 0 → p2 < 0 ∨ z1 ≤ p2)) (h2 : z32 = 0) (h3 : z1 = n0) (h4 : (z8 = 1 → 0 ≤ p1 ∧ p1 < z1)) (h5 : (z8 = 0 → p1 < 0 ∨ z1 ≤ p1)) (h6 : 0 ≤ p1 ∧ p1 < z1) (h7 : ¬ p2 = (-1)) (h8 : 0 ≤ p1 ∧ p1 ≤ 9) (h9 : (-2147483648) ≤ p2 ∧ p2 ≤ 2147483647) (h10 : 1 ≤ z1 ∧ z1 ≤ 10) (h11 : 0 ≤ z32 ∧ z32 ≤ 0) (h12 : 1 ≤ z8 ∧ z8 ≤ 1) : z32 = 0 := by omega
set_option maxRecDepth 4000 in
set_option maxHeartbeats 4000000 in
theorem c_X11_cone {l : Launch} {D : va_G} {c : Nat → ClassId} {H0 : Heap} {sa : Nat × Nat × (Nat → Int32)} {w : mW} {μ : mM} (hw : mWF w) (hT : mT w μ) {p1 : Int} (hp1 : (-2147483648) ≤ p1 ∧ p1 ≤ 2147483647) {p2 : Int} (hp2 : (-2147483648) ≤ p2 ∧ p2 ≤ 2147483647) : sC (gG l D c H0 sa) mX11_cone 2 0 0 [.ref 0, iv p1, iv p2] (mk w μ) (qP w μ (fun z => ((-2147483648) ≤ z ∧ z ≤ 2147483647) ∧ True)) := by
  refine sC.of rfl (by decide) (le_t rfl) ?_
  refine mr_lvE (lv' := [(0, .ref 0), (1, iv p1), (2, iv p2)]) rfl ?_
  refine sv_aload_n (pc := 0) dX11_cone_0 rfl rfl ?_
  refine mr_iload_n (pc := 1) (z := p1) dX11_cone_1 rfl rfl ?_
  obtain ⟨z1, q2⟩ : ∃ z, μ 6 15 = z := ⟨_, rfl⟩
  have h3 : (z1 = w.2.2.2 0 ∧ 0 ≤ z1 ∧ z1 ≤ 10) := by rw [← q2]; exact hT 6 6 (A_6 hw) 15
  refine mr_cVP (pc := 2) (c_X11_isDomain hw hT hp1 q2) (gOk _ _ _ _ _) dX11_cone_2 (tX11_isDomain _ _ _ _ _) ⟨wV_X11_isDomain, wL_X11_isDomain⟩ wM_X11_105 (gCX11 _ _ _ _ _) rfl (A_0 hw) rfl ⟨le_t rfl, le_t rfl⟩ ⟨le_t rfl, le_t rfl⟩ rfl (le_t rfl) fun z8 h7 => ?_
  refine mr_if_eq (pc := 5) (tgt := 21) dX11_cone_5 (by decide) (r32 h7.1 rfl) (fun h9 => ?_) (fun h9 => ?_)
  · have h10 : 0 ≤ z8 ∧ z8 ≤ 0 := (vc_X12_write_78 h9 h7.2.1 h7.2.2.1 hp1 h3.2 h7.1)
    have h11 : p1 < 0 ∨ z1 ≤ p1 := (h7.2.2.1 (vc_X11_picked_2 h7.2.1 h7.2.2.1 h9 h3.1 hp1 h3.2 h10))
    refine mr_iconst (pc := 21) (z := (-1)) dX11_cone_21 ?_
    exact mr_iretP dX11_cone_22 rfl (le_t rfl) (le_t rfl) ⟨(rW (c := (-2147483648)) (d := 2147483647) (rR (x := (-1))) rfl), trivial⟩
  have h12 : 1 ≤ z8 ∧ z8 ≤ 1 := (vc_X12_write_12 h9 h7.2.1 h7.2.2.1 hp1 h3.2 h7.1)
  have h13 : 0 ≤ p1 ∧ p1 < z1 := (h7.2.1 (vc_X11_picked_4 h7.2.1 h7.2.2.1 h9 h3.1 hp1 h3.2 h12))
  have h14 : 0 ≤ p1 ∧ p1 ≤ 9 := (vc_X11_picked_5 h13 h3.1 h7.2.1 h7.2.2.1 hp1 h3.2 h12)
  have h15 : 1 ≤ z1 ∧ z1 ≤ 10 := (vc_X11_picked_6 h13 h3.1 h7.2.1 h7.2.2.1 h14 h3.2 h12)
  refine mr_iload_n (pc := 8) (z := p2) dX11_cone_8 rfl rfl ?_
  refine mr_iconst (pc := 9) (z := (-1)) dX11_cone_9 ?_
  refine mr_icmp_eq (pc := 10) (tgt := 23) dX11_cone_10 (by decide) hp2 (r32 (rR (x := (-1))) rfl) (fun h16 => ?_) (fun h16 => ?_)
  · have h17 : (-1) ≤ p2 ∧ p2 ≤ (-1) := (vc_X10_verdictOn_17 h16 hp2)
    refine sv_aload_n (pc := 23) dX11_cone_23 rfl rfl ?_
    refine gf_X11_3 (pc := 24) dX11_cone_24 wF_X11_26 (A_0 hw) hT ?_
    refine mr_iload_n (pc := 27) (z := p1) dX11_cone_27 rfl rfl ?_
    refine mr_cVP (pc := 28) (c_X10_coneOf hw hT h14) (gOk _ _ _ _ _) dX11_cone_28 (tX10_coneOf _ _ _ _ _) ⟨wV_X10_coneOf, wL_X10_coneOf⟩ wM_X11_154 (gCX10 _ _ _ _ _) rfl (A_6 hw) rfl ⟨le_t rfl, le_t rfl⟩ ⟨le_t rfl, le_t rfl⟩ rfl (le_t rfl) fun z22 h21 => ?_
    refine mr_istore_n (pc := 31) (lv' := [(3, iv z22), (0, .ref 0), (1, iv p1), (2, iv p2)]) dX11_cone_31 rfl (by decide) rfl ?_
    refine mr_iload_n (pc := 32) (z := p2) dX11_cone_32 rfl rfl ?_
    refine mr_iconst (pc := 33) (z := (-1)) dX11_cone_33 ?_
    refine mr_icmp_ne (pc := 34) (tgt := 44) dX11_cone_34 (by decide) (r32 h17 rfl) (r32 (rR (x := (-1))) rfl) (fun h => ((vc_X11_cone_8 h h17)).elim) (fun _ => ?_)
    refine mr_iload_n (pc := 37) (z := z22) dX11_cone_37 rfl rfl ?_
    refine mr_cSP (pc := 38) (c_J_bits hw hT h21.1) (gOk _ _ _ _ _) dX11_cone_38 (tJ_bits _ _ _ _ _) wS_J_bits wM_X11_157 ⟨le_t rfl, le_t rfl⟩ ⟨le_t rfl, le_t rfl⟩ rfl (le_t rfl) fun z27 h26 => ?_
    refine sv_goto (pc := 41) (tgt := 49) dX11_cone_41 (by decide) ?_
    exact mr_iretP dX11_cone_49 rfl (le_t rfl) (le_t rfl) ⟨h26.1, trivial⟩
  refine sv_aload_n (pc := 13) dX11_cone_13 rfl rfl ?_
  refine mr_iload_n (pc := 14) (z := p2) dX11_cone_14 rfl rfl ?_
  refine mr_cVP (pc := 15) (c_X11_isDomain hw hT hp2 q2) (gOk _ _ _ _ _) dX11_cone_15 (tX11_isDomain _ _ _ _ _) ⟨wV_X11_isDomain, wL_X11_isDomain⟩ wM_X11_105 (gCX11 _ _ _ _ _) rfl (A_0 hw) rfl ⟨le_t rfl, le_t rfl⟩ ⟨le_t rfl, le_t rfl⟩ rfl (le_t rfl) fun z32 h31 => ?_
  refine mr_if_ne (pc := 18) (tgt := 23) dX11_cone_18 (by decide) (r32 h31.1 rfl) (fun h33 => ?_) (fun h33 => ?_)
  · have h34 : 1 ≤ z32 ∧ z32 ≤ 1 := (vc_X12_differ_7 h33 h31.2.1 h31.2.2.1 hp2 h15 h31.1)
    have h35 : 0 ≤ p2 ∧ p2 < z1 := (h31.2.1 (vc_X11_cone_10 h31.2.1 h31.2.2.1 h33 h3.1 h7.2.1 h7.2.2.1 h13 h16 h14 hp2 h15 h34 h12))
    have h36 : 0 ≤ p2 ∧ p2 ≤ 9 := (vc_X11_cone_11 h35 h3.1 h7.2.1 h7.2.2.1 h13 h16 h31.2.1 h31.2.2.1 h14 hp2 h15 h34 h12)
    refine sv_aload_n (pc := 23) dX11_cone_23 rfl rfl ?_
    refine gf_X11_3 (pc := 24) dX11_cone_24 wF_X11_26 (A_0 hw) hT ?_
    refine mr_iload_n (pc := 27) (z := p1) dX11_cone_27 rfl rfl ?_
    refine mr_cVP (pc := 28) (c_X10_coneOf hw hT h14) (gOk _ _ _ _ _) dX11_cone_28 (tX10_coneOf _ _ _ _ _) ⟨wV_X10_coneOf, wL_X10_coneOf⟩ wM_X11_154 (gCX10 _ _ _ _ _) rfl (A_6 hw) rfl ⟨le_t rfl, le_t rfl⟩ ⟨le_t rfl, le_t rfl⟩ rfl (le_t rfl) fun z41 h40 => ?_
    refine mr_istore_n (pc := 31) (lv' := [(3, iv z41), (0, .ref 0), (1, iv p1), (2, iv p2)]) dX11_cone_31 rfl (by decide) rfl ?_
    refine mr_iload_n (pc := 32) (z := p2) dX11_cone_32 rfl rfl ?_
    refine mr_iconst (pc := 33) (z := (-1)) dX11_cone_33 ?_
    refine mr_icmp_ne (pc := 34) (tgt := 44) dX11_cone_34 (by decide) (r32 h36 rfl) (r32 (rR (x := (-1))) rfl) (fun _ => ?_) (fun h => ((vc_X11_cone_12 h h36)).elim)
    refine mr_iload_n (pc := 44) (z := z41) dX11_cone_44 rfl rfl ?_
    refine mr_iload_n (pc := 45) (z := p2) dX11_cone_45 rfl rfl ?_
    refine mr_ishr (pc := 46) (x := z41) (y := p2) dX11_cone_46 ?_
    refine mr_gen (P := fun z => (-2147483648) ≤ z ∧ z ≤ 2147483647) (r32i _) fun z42 q43 h44 => ?_
    refine mr_iconst (pc := 47) (z := 1) dX11_cone_47 ?_
    refine mr_iand (pc := 48) (x := z42) (y := 1) dX11_cone_48 ?_
    refine mr_gen (P := fun z => 0 ≤ z ∧ z ≤ 1) (rAndR (rR (x := 1)) rfl) fun z45 q46 h47 => ?_
    exact mr_iretP dX11_cone_49 rfl (le_t rfl) (le_t rfl) ⟨(rW (c := (-2147483648)) (d := 2147483647) h47 rfl), trivial⟩
  have h48 : 0 ≤ z32 ∧ z32 ≤ 0 := (vc_X12_differ_44 h33 h31.2.1 h31.2.2.1 hp2 h15 h31.1)
  have h49 : p2 < 0 ∨ z1 ≤ p2 := (h31.2.2.1 (vc_X11_cone_14 h31.2.1 h31.2.2.1 h33 h3.1 h7.2.1 h7.2.2.1 h13 h16 h14 hp2 h15 h48 h12))
  refine mr_iconst (pc := 21) (z := (-1)) dX11_cone_21 ?_
  exact mr_iretP dX11_cone_22 rfl (le_t rfl) (le_t rfl) ⟨(rW (c := (-2147483648)) (d := 2147483647) (rR (x := (-1))) rfl), trivial⟩
theorem vc_X2_leastBelow_32_1 {p3 : Int} (h0 : p3 < 32) (h1 : 32 ≤ p3 ∧ p3 ≤ 32) : False := by omega
set_option maxRecDepth 4000 in
set_option maxHeartbeats 4000000 in
theorem c_X2_leastBelow_32 {l : Launch} {D : va_G} {c : Nat → ClassId} {H0 : Heap} {sa : Nat × Nat × (Nat → Int32)} {w : mW} {μ : mM} (hw : mWF w) (hT : mT w μ) {p1 : Int} (hp1 : 0 ≤ p1 ∧ p1 ≤ 9) {p2 : Int} (hp2 : (-2147483648) ≤ p2 ∧ p2 ≤ 2147483647) {p3 : Int} (hp3 : 32 ≤ p3 ∧ p3 ≤ 32) (hq0 : p1 < w.2.2.2 0) : sC (gG l D c H0 sa) mX2_leastBelow 3 0 0 [.ref 87, iv p1, iv p2, iv p3] (mk w μ) (qI w [87007] μ (fun z μ1 => ((-2147483648) ≤ z ∧ z ≤ 2147483647) ∧ True)) := by
  refine sC.of rfl (by decide) (le_t rfl) ?_
  refine mr_lvE (lv' := [(0, .ref 87), (1, iv p1), (2, iv p2), (3, iv p3)]) rfl ?_
  refine mr_iload_n (pc := 0) (z := p3) dX2_leastBelow_0 rfl rfl ?_
  refine mr_bipush (pc := 1) (z := 32) dX2_leastBelow_1 (by decide) ?_
  refine mr_icmp_ge (pc := 3) (tgt := 16) dX2_leastBelow_3 (by decide) (r32 hp3 rfl) (r32 (rR (x := 32)) rfl) (fun _ => ?_) (fun h => ((vc_X2_leastBelow_32_1 h hp3)).elim)
  refine sv_aload_n (pc := 16) dX2_leastBelow_16 rfl rfl ?_
  refine mr_iload_n (pc := 17) (z := p1) dX2_leastBelow_17 rfl rfl ?_
  refine mr_iload_n (pc := 18) (z := p2) dX2_leastBelow_18 rfl rfl ?_
  refine mr_cVP (pc := 19) (c_X2_tieFor hw hT hp1 hp2 (vc_X9_end_1 hq0 hp1)) (gOk _ _ _ _ _) dX2_leastBelow_19 (tX2_tieFor _ _ _ _ _) ⟨wV_X2_tieFor, wL_X2_tieFor⟩ wM_X2_60 (gCX2 _ _ _ _ _) rfl (A_87 hw) rfl ⟨le_t rfl, le_t rfl⟩ ⟨le_t rfl, le_t rfl⟩ rfl (le_t rfl) fun z5 h4 => ?_
  refine mr_cSP (pc := 22) (c_X2_aimBit hw hT h4.1) (gOk _ _ _ _ _) dX2_leastBelow_22 (tX2_aimBit _ _ _ _ _) wS_X2_aimBit wM_X2_110 ⟨le_t rfl, le_t rfl⟩ ⟨le_t rfl, le_t rfl⟩ rfl (le_t rfl) fun z10 h9 => ?_
  exact mr_iret dX2_leastBelow_25 rfl (le_t rfl) (le_t rfl) hT mF.refl ⟨h9.1, trivial⟩
theorem vc_X2_leastBelow_31_1 {p3 : Int} (h0 : 32 ≤ p3) (h1 : 31 ≤ p3 ∧ p3 ≤ 31) : False := by omega
set_option maxRecDepth 4000 in
set_option maxHeartbeats 4000000 in
theorem c_X2_leastBelow_31 {l : Launch} {D : va_G} {c : Nat → ClassId} {H0 : Heap} {sa : Nat × Nat × (Nat → Int32)} {w : mW} {μ : mM} (hw : mWF w) (hT : mT w μ) {p1 : Int} (hp1 : 0 ≤ p1 ∧ p1 ≤ 9) {p2 : Int} (hp2 : (-2147483648) ≤ p2 ∧ p2 ≤ 2147483647) {p3 : Int} (hp3 : 31 ≤ p3 ∧ p3 ≤ 31) (hq0 : p1 < w.2.2.2 0) : sC (gG l D c H0 sa) mX2_leastBelow 4 0 0 [.ref 87, iv p1, iv p2, iv p3] (mk w μ) (qI w [87007] μ (fun z μ1 => ((-2147483648) ≤ z ∧ z ≤ 2147483647) ∧ True)) := by
  refine sC.of rfl (by decide) (le_t rfl) ?_
  refine mr_lvE (lv' := [(0, .ref 87), (1, iv p1), (2, iv p2), (3, iv p3)]) rfl ?_
  refine mr_iload_n (pc := 0) (z := p3) dX2_leastBelow_0 rfl rfl ?_
  refine mr_bipush (pc := 1) (z := 32) dX2_leastBelow_1 (by decide) ?_
  refine mr_icmp_ge (pc := 3) (tgt := 16) dX2_leastBelow_3 (by decide) (r32 hp3 rfl) (r32 (rR (x := 32)) rfl) (fun h => ((vc_X2_leastBelow_31_1 h hp3)).elim) (fun _ => ?_)
  refine sv_aload_n (pc := 6) dX2_leastBelow_6 rfl rfl ?_
  refine mr_iload_n (pc := 7) (z := p1) dX2_leastBelow_7 rfl rfl ?_
  refine mr_iload_n (pc := 8) (z := p2) dX2_leastBelow_8 rfl rfl ?_
  refine mr_iload_n (pc := 9) (z := p3) dX2_leastBelow_9 rfl rfl ?_
  refine mr_cVP (pc := 10) (c_X2_isSplit hw hT hp1 hp2 (rW (c := (-2147483648)) (d := 2147483647) hp3 rfl) (vc_X9_end_1 hq0 hp1)) (gOk _ _ _ _ _) dX2_leastBelow_10 (tX2_isSplit _ _ _ _ _) ⟨wV_X2_isSplit, wL_X2_isSplit⟩ wM_X2_106 (gCX2 _ _ _ _ _) rfl (A_87 hw) rfl ⟨le_t rfl, le_t rfl⟩ ⟨le_t rfl, le_t rfl⟩ rfl (le_t rfl) fun z5 h4 => ?_
  refine mr_if_ne (pc := 13) (tgt := 26) dX2_leastBelow_13 (by decide) (r32 h4.1 rfl) (fun h6 => ?_) (fun h6 => ?_)
  · have h7 : 1 ≤ z5 ∧ z5 ≤ 1 := (vc_X12_ring_24 h6 h4.1)
    refine sv_aload_n (pc := 26) dX2_leastBelow_26 rfl rfl ?_
    refine mr_iload_n (pc := 27) (z := p1) dX2_leastBelow_27 rfl rfl ?_
    refine mr_iload_n (pc := 28) (z := p2) dX2_leastBelow_28 rfl rfl ?_
    refine mr_iload_n (pc := 29) (z := p3) dX2_leastBelow_29 rfl rfl ?_
    refine mr_iconst (pc := 30) (z := 1) dX2_leastBelow_30 ?_
    refine mr_iadd (pc := 31) (x := p3) (y := 1) dX2_leastBelow_31 ?_
    refine mr_cVI (pc := 32) (c_X2_leastBelow_32 hw hT hp1 hp2 (rAdd (e := 32) (f := 32) hp3 (rR (x := 1)) rfl) (vc_X9_end_1 hq0 hp1)) (gOk _ _ _ _ _) dX2_leastBelow_32 (tX2_leastBelow _ _ _ _ _) ⟨wV_X2_leastBelow, wL_X2_leastBelow⟩ wM_X2_101 (gCX2 _ _ _ _ _) rfl (A_87 hw) rfl ⟨le_t rfl, le_t rfl⟩ ⟨le_t rfl, le_t rfl⟩ rfl (le_t rfl) fun z12 μ8 T9 F10 h11 => ?_
    refine mr_istore (pc := 35) (lv' := [(4, iv z12), (0, .ref 87), (1, iv p1), (2, iv p2), (3, iv p3)]) dX2_leastBelow_35 (by decide) rfl ?_
    refine sv_aload_n (pc := 37) dX2_leastBelow_37 rfl rfl ?_
    refine mr_iload_n (pc := 38) (z := p1) dX2_leastBelow_38 rfl rfl ?_
    refine mr_iload_n (pc := 39) (z := p2) dX2_leastBelow_39 rfl rfl ?_
    refine mr_iconst (pc := 40) (z := 1) dX2_leastBelow_40 ?_
    refine mr_bipush (pc := 41) (z := 31) dX2_leastBelow_41 (by decide) ?_
    refine mr_iload_n (pc := 43) (z := p3) dX2_leastBelow_43 rfl rfl ?_
    refine mr_isub (pc := 44) (x := 31) (y := p3) dX2_leastBelow_44 ?_
    refine mr_ishl (pc := 45) (x := 1) (y := (31 - p3)) dX2_leastBelow_45 ?_
    refine mr_gen (P := fun z => (-2147483648) ≤ z ∧ z ≤ 2147483647) (r32i _) fun z13 q14 h15 => ?_
    refine mr_ior (pc := 46) (x := p2) (y := z13) dX2_leastBelow_46 ?_
    refine mr_gen (P := fun z => (-2147483648) ≤ z ∧ z ≤ 2147483647) (r32i _) fun z16 q17 h18 => ?_
    refine mr_iload_n (pc := 47) (z := p3) dX2_leastBelow_47 rfl rfl ?_
    refine mr_iconst (pc := 48) (z := 1) dX2_leastBelow_48 ?_
    refine mr_iadd (pc := 49) (x := p3) (y := 1) dX2_leastBelow_49 ?_
    refine mr_cVI (pc := 50) (c_X2_leastBelow_32 hw T9 hp1 h18 (rAdd (e := 32) (f := 32) hp3 (rR (x := 1)) rfl) (vc_X9_end_1 hq0 hp1)) (gOk _ _ _ _ _) dX2_leastBelow_50 (tX2_leastBelow _ _ _ _ _) ⟨wV_X2_leastBelow, wL_X2_leastBelow⟩ wM_X2_101 (gCX2 _ _ _ _ _) rfl (A_87 hw) rfl ⟨le_t rfl, le_t rfl⟩ ⟨le_t rfl, le_t rfl⟩ rfl (le_t rfl) fun z23 μ19 T20 F21 h22 => ?_
    refine mr_istore (pc := 53) (lv' := [(5, iv z23), (4, iv z12), (0, .ref 87), (1, iv p1), (2, iv p2), (3, iv p3)]) dX2_leastBelow_53 (by decide) rfl ?_
    refine mr_iload (pc := 55) (z := z12) dX2_leastBelow_55 rfl ?_
    refine mr_iload (pc := 57) (z := z23) dX2_leastBelow_57 rfl ?_
    refine mr_iand (pc := 59) (x := z12) (y := z23) dX2_leastBelow_59 ?_
    refine mr_gen (P := fun z => (-2147483648) ≤ z ∧ z ≤ 2147483647) (r32i _) fun z24 q25 h26 => ?_
    refine mr_if_eq (pc := 60) (tgt := 69) dX2_leastBelow_60 (by decide) h26 (fun h27 => ?_) (fun h27 => ?_)
    · have h28 : 0 ≤ z24 ∧ z24 ≤ 0 := (vc_X12_mask_1 h27 h26)
      refine sv_aload_n (pc := 69) dX2_leastBelow_69 rfl rfl ?_
      refine sv_dup (pc := 70) dX2_leastBelow_70 rfl ?_
      refine gf_X2_7 (pc := 71) dX2_leastBelow_71 wF_X2_98 (A_87 hw) T20 fun z29 q30 h31 => ?_
      refine mr_iconst (pc := 74) (z := 1) dX2_leastBelow_74 ?_
      refine mr_iadd (pc := 75) (x := z29) (y := 1) dX2_leastBelow_75 ?_
      refine mr_wrap fun z32 h33 => ?_
      refine pf_X2_7 (pc := 76) dX2_leastBelow_76 wF_X2_98 (A_87 hw) T20 h33 fun μ34 u35 T36 => ?_
      refine mr_iload (pc := 79) (z := z12) dX2_leastBelow_79 rfl ?_
      refine mr_iload (pc := 81) (z := z23) dX2_leastBelow_81 rfl ?_
      refine mr_ior (pc := 83) (x := z12) (y := z23) dX2_leastBelow_83 ?_
      refine mr_gen (P := fun z => (-2147483648) ≤ z ∧ z ≤ 2147483647) (r32i _) fun z37 q38 h39 => ?_
      exact mr_iret dX2_leastBelow_84 rfl (le_t rfl) (le_t rfl) T36 (mF.up (mF.call (mF.call mF.refl F10 rfl) F21 rfl) (A_87 hw) u35 rfl) ⟨h39, trivial⟩
    refine mr_iload (pc := 63) (z := z12) dX2_leastBelow_63 rfl ?_
    refine mr_iload (pc := 65) (z := z23) dX2_leastBelow_65 rfl ?_
    refine mr_iand (pc := 67) (x := z12) (y := z23) dX2_leastBelow_67 ?_
    refine mr_gen (P := fun z => (-2147483648) ≤ z ∧ z ≤ 2147483647) (r32i _) fun z40 q41 h42 => ?_
    exact mr_iret dX2_leastBelow_68 rfl (le_t rfl) (le_t rfl) T20 (mF.call (mF.call mF.refl F10 rfl) F21 rfl) ⟨h42, trivial⟩
  have h43 : 0 ≤ z5 ∧ z5 ≤ 0 := (vc_X12_ring_22 h6 h4.1)
  refine sv_aload_n (pc := 16) dX2_leastBelow_16 rfl rfl ?_
  refine mr_iload_n (pc := 17) (z := p1) dX2_leastBelow_17 rfl rfl ?_
  refine mr_iload_n (pc := 18) (z := p2) dX2_leastBelow_18 rfl rfl ?_
  refine mr_cVP (pc := 19) (c_X2_tieFor hw hT hp1 hp2 (vc_X9_end_1 hq0 hp1)) (gOk _ _ _ _ _) dX2_leastBelow_19 (tX2_tieFor _ _ _ _ _) ⟨wV_X2_tieFor, wL_X2_tieFor⟩ wM_X2_60 (gCX2 _ _ _ _ _) rfl (A_87 hw) rfl ⟨le_t rfl, le_t rfl⟩ ⟨le_t rfl, le_t rfl⟩ rfl (le_t rfl) fun z48 h47 => ?_
  refine mr_cSP (pc := 22) (c_X2_aimBit hw hT h47.1) (gOk _ _ _ _ _) dX2_leastBelow_22 (tX2_aimBit _ _ _ _ _) wS_X2_aimBit wM_X2_110 ⟨le_t rfl, le_t rfl⟩ ⟨le_t rfl, le_t rfl⟩ rfl (le_t rfl) fun z53 h52 => ?_
  exact mr_iret dX2_leastBelow_25 rfl (le_t rfl) (le_t rfl) hT mF.refl ⟨h52.1, trivial⟩
theorem vc_X2_leastBelow_30_1 {p3 : Int} (h0 : 32 ≤ p3) (h1 : 30 ≤ p3 ∧ p3 ≤ 30) : False := by omega
set_option maxRecDepth 4000 in
set_option maxHeartbeats 4000000 in
theorem c_X2_leastBelow_30 {l : Launch} {D : va_G} {c : Nat → ClassId} {H0 : Heap} {sa : Nat × Nat × (Nat → Int32)} {w : mW} {μ : mM} (hw : mWF w) (hT : mT w μ) {p1 : Int} (hp1 : 0 ≤ p1 ∧ p1 ≤ 9) {p2 : Int} (hp2 : (-2147483648) ≤ p2 ∧ p2 ≤ 2147483647) {p3 : Int} (hp3 : 30 ≤ p3 ∧ p3 ≤ 30) (hq0 : p1 < w.2.2.2 0) : sC (gG l D c H0 sa) mX2_leastBelow 5 0 0 [.ref 87, iv p1, iv p2, iv p3] (mk w μ) (qI w [87007] μ (fun z μ1 => ((-2147483648) ≤ z ∧ z ≤ 2147483647) ∧ True)) := by
  refine sC.of rfl (by decide) (le_t rfl) ?_
  refine mr_lvE (lv' := [(0, .ref 87), (1, iv p1), (2, iv p2), (3, iv p3)]) rfl ?_
  refine mr_iload_n (pc := 0) (z := p3) dX2_leastBelow_0 rfl rfl ?_
  refine mr_bipush (pc := 1) (z := 32) dX2_leastBelow_1 (by decide) ?_
  refine mr_icmp_ge (pc := 3) (tgt := 16) dX2_leastBelow_3 (by decide) (r32 hp3 rfl) (r32 (rR (x := 32)) rfl) (fun h => ((vc_X2_leastBelow_30_1 h hp3)).elim) (fun _ => ?_)
  refine sv_aload_n (pc := 6) dX2_leastBelow_6 rfl rfl ?_
  refine mr_iload_n (pc := 7) (z := p1) dX2_leastBelow_7 rfl rfl ?_
  refine mr_iload_n (pc := 8) (z := p2) dX2_leastBelow_8 rfl rfl ?_
  refine mr_iload_n (pc := 9) (z := p3) dX2_leastBelow_9 rfl rfl ?_
  refine mr_cVP (pc := 10) (c_X2_isSplit hw hT hp1 hp2 (rW (c := (-2147483648)) (d := 2147483647) hp3 rfl) (vc_X9_end_1 hq0 hp1)) (gOk _ _ _ _ _) dX2_leastBelow_10 (tX2_isSplit _ _ _ _ _) ⟨wV_X2_isSplit, wL_X2_isSplit⟩ wM_X2_106 (gCX2 _ _ _ _ _) rfl (A_87 hw) rfl ⟨le_t rfl, le_t rfl⟩ ⟨le_t rfl, le_t rfl⟩ rfl (le_t rfl) fun z5 h4 => ?_
  refine mr_if_ne (pc := 13) (tgt := 26) dX2_leastBelow_13 (by decide) (r32 h4.1 rfl) (fun h6 => ?_) (fun h6 => ?_)
  · have h7 : 1 ≤ z5 ∧ z5 ≤ 1 := (vc_X12_ring_24 h6 h4.1)
    refine sv_aload_n (pc := 26) dX2_leastBelow_26 rfl rfl ?_
    refine mr_iload_n (pc := 27) (z := p1) dX2_leastBelow_27 rfl rfl ?_
    refine mr_iload_n (pc := 28) (z := p2) dX2_leastBelow_28 rfl rfl ?_
    refine mr_iload_n (pc := 29) (z := p3) dX2_leastBelow_29 rfl rfl ?_
    refine mr_iconst (pc := 30) (z := 1) dX2_leastBelow_30 ?_
    refine mr_iadd (pc := 31) (x := p3) (y := 1) dX2_leastBelow_31 ?_
    refine mr_cVI (pc := 32) (c_X2_leastBelow_31 hw hT hp1 hp2 (rAdd (e := 31) (f := 31) hp3 (rR (x := 1)) rfl) (vc_X9_end_1 hq0 hp1)) (gOk _ _ _ _ _) dX2_leastBelow_32 (tX2_leastBelow _ _ _ _ _) ⟨wV_X2_leastBelow, wL_X2_leastBelow⟩ wM_X2_101 (gCX2 _ _ _ _ _) rfl (A_87 hw) rfl ⟨le_t rfl, le_t rfl⟩ ⟨le_t rfl, le_t rfl⟩ rfl (le_t rfl) fun z12 μ8 T9 F10 h11 => ?_
    refine mr_istore (pc := 35) (lv' := [(4, iv z12), (0, .ref 87), (1, iv p1), (2, iv p2), (3, iv p3)]) dX2_leastBelow_35 (by decide) rfl ?_
    refine sv_aload_n (pc := 37) dX2_leastBelow_37 rfl rfl ?_
    refine mr_iload_n (pc := 38) (z := p1) dX2_leastBelow_38 rfl rfl ?_
    refine mr_iload_n (pc := 39) (z := p2) dX2_leastBelow_39 rfl rfl ?_
    refine mr_iconst (pc := 40) (z := 1) dX2_leastBelow_40 ?_
    refine mr_bipush (pc := 41) (z := 31) dX2_leastBelow_41 (by decide) ?_
    refine mr_iload_n (pc := 43) (z := p3) dX2_leastBelow_43 rfl rfl ?_
    refine mr_isub (pc := 44) (x := 31) (y := p3) dX2_leastBelow_44 ?_
    refine mr_ishl (pc := 45) (x := 1) (y := (31 - p3)) dX2_leastBelow_45 ?_
    refine mr_gen (P := fun z => (-2147483648) ≤ z ∧ z ≤ 2147483647) (r32i _) fun z13 q14 h15 => ?_
    refine mr_ior (pc := 46) (x := p2) (y := z13) dX2_leastBelow_46 ?_
    refine mr_gen (P := fun z => (-2147483648) ≤ z ∧ z ≤ 2147483647) (r32i _) fun z16 q17 h18 => ?_
    refine mr_iload_n (pc := 47) (z := p3) dX2_leastBelow_47 rfl rfl ?_
    refine mr_iconst (pc := 48) (z := 1) dX2_leastBelow_48 ?_
    refine mr_iadd (pc := 49) (x := p3) (y := 1) dX2_leastBelow_49 ?_
    refine mr_cVI (pc := 50) (c_X2_leastBelow_31 hw T9 hp1 h18 (rAdd (e := 31) (f := 31) hp3 (rR (x := 1)) rfl) (vc_X9_end_1 hq0 hp1)) (gOk _ _ _ _ _) dX2_leastBelow_50 (tX2_leastBelow _ _ _ _ _) ⟨wV_X2_leastBelow, wL_X2_leastBelow⟩ wM_X2_101 (gCX2 _ _ _ _ _) rfl (A_87 hw) rfl ⟨le_t rfl, le_t rfl⟩ ⟨le_t rfl, le_t rfl⟩ rfl (le_t rfl) fun z23 μ19 T20 F21 h22 => ?_
    refine mr_istore (pc := 53) (lv' := [(5, iv z23), (4, iv z12), (0, .ref 87), (1, iv p1), (2, iv p2), (3, iv p3)]) dX2_leastBelow_53 (by decide) rfl ?_
    refine mr_iload (pc := 55) (z := z12) dX2_leastBelow_55 rfl ?_
    refine mr_iload (pc := 57) (z := z23) dX2_leastBelow_57 rfl ?_
    refine mr_iand (pc := 59) (x := z12) (y := z23) dX2_leastBelow_59 ?_
    refine mr_gen (P := fun z => (-2147483648) ≤ z ∧ z ≤ 2147483647) (r32i _) fun z24 q25 h26 => ?_
    refine mr_if_eq (pc := 60) (tgt := 69) dX2_leastBelow_60 (by decide) h26 (fun h27 => ?_) (fun h27 => ?_)
    · have h28 : 0 ≤ z24 ∧ z24 ≤ 0 := (vc_X12_mask_1 h27 h26)
      refine sv_aload_n (pc := 69) dX2_leastBelow_69 rfl rfl ?_
      refine sv_dup (pc := 70) dX2_leastBelow_70 rfl ?_
      refine gf_X2_7 (pc := 71) dX2_leastBelow_71 wF_X2_98 (A_87 hw) T20 fun z29 q30 h31 => ?_
      refine mr_iconst (pc := 74) (z := 1) dX2_leastBelow_74 ?_
      refine mr_iadd (pc := 75) (x := z29) (y := 1) dX2_leastBelow_75 ?_
      refine mr_wrap fun z32 h33 => ?_
      refine pf_X2_7 (pc := 76) dX2_leastBelow_76 wF_X2_98 (A_87 hw) T20 h33 fun μ34 u35 T36 => ?_
      refine mr_iload (pc := 79) (z := z12) dX2_leastBelow_79 rfl ?_
      refine mr_iload (pc := 81) (z := z23) dX2_leastBelow_81 rfl ?_
      refine mr_ior (pc := 83) (x := z12) (y := z23) dX2_leastBelow_83 ?_
      refine mr_gen (P := fun z => (-2147483648) ≤ z ∧ z ≤ 2147483647) (r32i _) fun z37 q38 h39 => ?_
      exact mr_iret dX2_leastBelow_84 rfl (le_t rfl) (le_t rfl) T36 (mF.up (mF.call (mF.call mF.refl F10 rfl) F21 rfl) (A_87 hw) u35 rfl) ⟨h39, trivial⟩
    refine mr_iload (pc := 63) (z := z12) dX2_leastBelow_63 rfl ?_
    refine mr_iload (pc := 65) (z := z23) dX2_leastBelow_65 rfl ?_
    refine mr_iand (pc := 67) (x := z12) (y := z23) dX2_leastBelow_67 ?_
    refine mr_gen (P := fun z => (-2147483648) ≤ z ∧ z ≤ 2147483647) (r32i _) fun z40 q41 h42 => ?_
    exact mr_iret dX2_leastBelow_68 rfl (le_t rfl) (le_t rfl) T20 (mF.call (mF.call mF.refl F10 rfl) F21 rfl) ⟨h42, trivial⟩
  have h43 : 0 ≤ z5 ∧ z5 ≤ 0 := (vc_X12_ring_22 h6 h4.1)
  refine sv_aload_n (pc := 16) dX2_leastBelow_16 rfl rfl ?_
  refine mr_iload_n (pc := 17) (z := p1) dX2_leastBelow_17 rfl rfl ?_
  refine mr_iload_n (pc := 18) (z := p2) dX2_leastBelow_18 rfl rfl ?_
  refine mr_cVP (pc := 19) (c_X2_tieFor hw hT hp1 hp2 (vc_X9_end_1 hq0 hp1)) (gOk _ _ _ _ _) dX2_leastBelow_19 (tX2_tieFor _ _ _ _ _) ⟨wV_X2_tieFor, wL_X2_tieFor⟩ wM_X2_60 (gCX2 _ _ _ _ _) rfl (A_87 hw) rfl ⟨le_t rfl, le_t rfl⟩ ⟨le_t rfl, le_t rfl⟩ rfl (le_t rfl) fun z48 h47 => ?_
  refine mr_cSP (pc := 22) (c_X2_aimBit hw hT h47.1) (gOk _ _ _ _ _) dX2_leastBelow_22 (tX2_aimBit _ _ _ _ _) wS_X2_aimBit wM_X2_110 ⟨le_t rfl, le_t rfl⟩ ⟨le_t rfl, le_t rfl⟩ rfl (le_t rfl) fun z53 h52 => ?_
  exact mr_iret dX2_leastBelow_25 rfl (le_t rfl) (le_t rfl) hT mF.refl ⟨h52.1, trivial⟩
theorem vc_X2_leastBelow_29_1 {p3 : Int} (h0 : 32 ≤ p3) (h1 : 29 ≤ p3 ∧ p3 ≤ 29) : False := by omega
set_option maxRecDepth 4000 in
set_option maxHeartbeats 4000000 in
theorem c_X2_leastBelow_29 {l : Launch} {D : va_G} {c : Nat → ClassId} {H0 : Heap} {sa : Nat × Nat × (Nat → Int32)} {w : mW} {μ : mM} (hw : mWF w) (hT : mT w μ) {p1 : Int} (hp1 : 0 ≤ p1 ∧ p1 ≤ 9) {p2 : Int} (hp2 : (-2147483648) ≤ p2 ∧ p2 ≤ 2147483647) {p3 : Int} (hp3 : 29 ≤ p3 ∧ p3 ≤ 29) (hq0 : p1 < w.2.2.2 0) : sC (gG l D c H0 sa) mX2_leastBelow 6 0 0 [.ref 87, iv p1, iv p2, iv p3] (mk w μ) (qI w [87007] μ (fun z μ1 => ((-2147483648) ≤ z ∧ z ≤ 2147483647) ∧ True)) := by
  refine sC.of rfl (by decide) (le_t rfl) ?_
  refine mr_lvE (lv' := [(0, .ref 87), (1, iv p1), (2, iv p2), (3, iv p3)]) rfl ?_
  refine mr_iload_n (pc := 0) (z := p3) dX2_leastBelow_0 rfl rfl ?_
  refine mr_bipush (pc := 1) (z := 32) dX2_leastBelow_1 (by decide) ?_
  refine mr_icmp_ge (pc := 3) (tgt := 16) dX2_leastBelow_3 (by decide) (r32 hp3 rfl) (r32 (rR (x := 32)) rfl) (fun h => ((vc_X2_leastBelow_29_1 h hp3)).elim) (fun _ => ?_)
  refine sv_aload_n (pc := 6) dX2_leastBelow_6 rfl rfl ?_
  refine mr_iload_n (pc := 7) (z := p1) dX2_leastBelow_7 rfl rfl ?_
  refine mr_iload_n (pc := 8) (z := p2) dX2_leastBelow_8 rfl rfl ?_
  refine mr_iload_n (pc := 9) (z := p3) dX2_leastBelow_9 rfl rfl ?_
  refine mr_cVP (pc := 10) (c_X2_isSplit hw hT hp1 hp2 (rW (c := (-2147483648)) (d := 2147483647) hp3 rfl) (vc_X9_end_1 hq0 hp1)) (gOk _ _ _ _ _) dX2_leastBelow_10 (tX2_isSplit _ _ _ _ _) ⟨wV_X2_isSplit, wL_X2_isSplit⟩ wM_X2_106 (gCX2 _ _ _ _ _) rfl (A_87 hw) rfl ⟨le_t rfl, le_t rfl⟩ ⟨le_t rfl, le_t rfl⟩ rfl (le_t rfl) fun z5 h4 => ?_
  refine mr_if_ne (pc := 13) (tgt := 26) dX2_leastBelow_13 (by decide) (r32 h4.1 rfl) (fun h6 => ?_) (fun h6 => ?_)
  · have h7 : 1 ≤ z5 ∧ z5 ≤ 1 := (vc_X12_ring_24 h6 h4.1)
    refine sv_aload_n (pc := 26) dX2_leastBelow_26 rfl rfl ?_
    refine mr_iload_n (pc := 27) (z := p1) dX2_leastBelow_27 rfl rfl ?_
    refine mr_iload_n (pc := 28) (z := p2) dX2_leastBelow_28 rfl rfl ?_
    refine mr_iload_n (pc := 29) (z := p3) dX2_leastBelow_29 rfl rfl ?_
    refine mr_iconst (pc := 30) (z := 1) dX2_leastBelow_30 ?_
    refine mr_iadd (pc := 31) (x := p3) (y := 1) dX2_leastBelow_31 ?_
    refine mr_cVI (pc := 32) (c_X2_leastBelow_30 hw hT hp1 hp2 (rAdd (e := 30) (f := 30) hp3 (rR (x := 1)) rfl) (vc_X9_end_1 hq0 hp1)) (gOk _ _ _ _ _) dX2_leastBelow_32 (tX2_leastBelow _ _ _ _ _) ⟨wV_X2_leastBelow, wL_X2_leastBelow⟩ wM_X2_101 (gCX2 _ _ _ _ _) rfl (A_87 hw) rfl ⟨le_t rfl, le_t rfl⟩ ⟨le_t rfl, le_t rfl⟩ rfl (le_t rfl) fun z12 μ8 T9 F10 h11 => ?_
    refine mr_istore (pc := 35) (lv' := [(4, iv z12), (0, .ref 87), (1, iv p1), (2, iv p2), (3, iv p3)]) dX2_leastBelow_35 (by decide) rfl ?_
    refine sv_aload_n (pc := 37) dX2_leastBelow_37 rfl rfl ?_
    refine mr_iload_n (pc := 38) (z := p1) dX2_leastBelow_38 rfl rfl ?_
    refine mr_iload_n (pc := 39) (z := p2) dX2_leastBelow_39 rfl rfl ?_
    refine mr_iconst (pc := 40) (z := 1) dX2_leastBelow_40 ?_
    refine mr_bipush (pc := 41) (z := 31) dX2_leastBelow_41 (by decide) ?_
    refine mr_iload_n (pc := 43) (z := p3) dX2_leastBelow_43 rfl rfl ?_
    refine mr_isub (pc := 44) (x := 31) (y := p3) dX2_leastBelow_44 ?_
    refine mr_ishl (pc := 45) (x := 1) (y := (31 - p3)) dX2_leastBelow_45 ?_
    refine mr_gen (P := fun z => (-2147483648) ≤ z ∧ z ≤ 2147483647) (r32i _) fun z13 q14 h15 => ?_
    refine mr_ior (pc := 46) (x := p2) (y := z13) dX2_leastBelow_46 ?_
    refine mr_gen (P := fun z => (-2147483648) ≤ z ∧ z ≤ 2147483647) (r32i _) fun z16 q17 h18 => ?_
    refine mr_iload_n (pc := 47) (z := p3) dX2_leastBelow_47 rfl rfl ?_
    refine mr_iconst (pc := 48) (z := 1) dX2_leastBelow_48 ?_
    refine mr_iadd (pc := 49) (x := p3) (y := 1) dX2_leastBelow_49 ?_
    refine mr_cVI (pc := 50) (c_X2_leastBelow_30 hw T9 hp1 h18 (rAdd (e := 30) (f := 30) hp3 (rR (x := 1)) rfl) (vc_X9_end_1 hq0 hp1)) (gOk _ _ _ _ _) dX2_leastBelow_50 (tX2_leastBelow _ _ _ _ _) ⟨wV_X2_leastBelow, wL_X2_leastBelow⟩ wM_X2_101 (gCX2 _ _ _ _ _) rfl (A_87 hw) rfl ⟨le_t rfl, le_t rfl⟩ ⟨le_t rfl, le_t rfl⟩ rfl (le_t rfl) fun z23 μ19 T20 F21 h22 => ?_
    refine mr_istore (pc := 53) (lv' := [(5, iv z23), (4, iv z12), (0, .ref 87), (1, iv p1), (2, iv p2), (3, iv p3)]) dX2_leastBelow_53 (by decide) rfl ?_
    refine mr_iload (pc := 55) (z := z12) dX2_leastBelow_55 rfl ?_
    refine mr_iload (pc := 57) (z := z23) dX2_leastBelow_57 rfl ?_
    refine mr_iand (pc := 59) (x := z12) (y := z23) dX2_leastBelow_59 ?_
    refine mr_gen (P := fun z => (-2147483648) ≤ z ∧ z ≤ 2147483647) (r32i _) fun z24 q25 h26 => ?_
    refine mr_if_eq (pc := 60) (tgt := 69) dX2_leastBelow_60 (by decide) h26 (fun h27 => ?_) (fun h27 => ?_)
    · have h28 : 0 ≤ z24 ∧ z24 ≤ 0 := (vc_X12_mask_1 h27 h26)
      refine sv_aload_n (pc := 69) dX2_leastBelow_69 rfl rfl ?_
      refine sv_dup (pc := 70) dX2_leastBelow_70 rfl ?_
      refine gf_X2_7 (pc := 71) dX2_leastBelow_71 wF_X2_98 (A_87 hw) T20 fun z29 q30 h31 => ?_
      refine mr_iconst (pc := 74) (z := 1) dX2_leastBelow_74 ?_
      refine mr_iadd (pc := 75) (x := z29) (y := 1) dX2_leastBelow_75 ?_
      refine mr_wrap fun z32 h33 => ?_
      refine pf_X2_7 (pc := 76) dX2_leastBelow_76 wF_X2_98 (A_87 hw) T20 h33 fun μ34 u35 T36 => ?_
      refine mr_iload (pc := 79) (z := z12) dX2_leastBelow_79 rfl ?_
      refine mr_iload (pc := 81) (z := z23) dX2_leastBelow_81 rfl ?_
      refine mr_ior (pc := 83) (x := z12) (y := z23) dX2_leastBelow_83 ?_
      refine mr_gen (P := fun z => (-2147483648) ≤ z ∧ z ≤ 2147483647) (r32i _) fun z37 q38 h39 => ?_
      exact mr_iret dX2_leastBelow_84 rfl (le_t rfl) (le_t rfl) T36 (mF.up (mF.call (mF.call mF.refl F10 rfl) F21 rfl) (A_87 hw) u35 rfl) ⟨h39, trivial⟩
    refine mr_iload (pc := 63) (z := z12) dX2_leastBelow_63 rfl ?_
    refine mr_iload (pc := 65) (z := z23) dX2_leastBelow_65 rfl ?_
    refine mr_iand (pc := 67) (x := z12) (y := z23) dX2_leastBelow_67 ?_
    refine mr_gen (P := fun z => (-2147483648) ≤ z ∧ z ≤ 2147483647) (r32i _) fun z40 q41 h42 => ?_
    exact mr_iret dX2_leastBelow_68 rfl (le_t rfl) (le_t rfl) T20 (mF.call (mF.call mF.refl F10 rfl) F21 rfl) ⟨h42, trivial⟩
  have h43 : 0 ≤ z5 ∧ z5 ≤ 0 := (vc_X12_ring_22 h6 h4.1)
  refine sv_aload_n (pc := 16) dX2_leastBelow_16 rfl rfl ?_
  refine mr_iload_n (pc := 17) (z := p1) dX2_leastBelow_17 rfl rfl ?_
  refine mr_iload_n (pc := 18) (z := p2) dX2_leastBelow_18 rfl rfl ?_
  refine mr_cVP (pc := 19) (c_X2_tieFor hw hT hp1 hp2 (vc_X9_end_1 hq0 hp1)) (gOk _ _ _ _ _) dX2_leastBelow_19 (tX2_tieFor _ _ _ _ _) ⟨wV_X2_tieFor, wL_X2_tieFor⟩ wM_X2_60 (gCX2 _ _ _ _ _) rfl (A_87 hw) rfl ⟨le_t rfl, le_t rfl⟩ ⟨le_t rfl, le_t rfl⟩ rfl (le_t rfl) fun z48 h47 => ?_
  refine mr_cSP (pc := 22) (c_X2_aimBit hw hT h47.1) (gOk _ _ _ _ _) dX2_leastBelow_22 (tX2_aimBit _ _ _ _ _) wS_X2_aimBit wM_X2_110 ⟨le_t rfl, le_t rfl⟩ ⟨le_t rfl, le_t rfl⟩ rfl (le_t rfl) fun z53 h52 => ?_
  exact mr_iret dX2_leastBelow_25 rfl (le_t rfl) (le_t rfl) hT mF.refl ⟨h52.1, trivial⟩
theorem vc_X2_leastBelow_28_1 {p3 : Int} (h0 : 32 ≤ p3) (h1 : 28 ≤ p3 ∧ p3 ≤ 28) : False := by omega
set_option maxRecDepth 4000 in
set_option maxHeartbeats 4000000 in
theorem c_X2_leastBelow_28 {l : Launch} {D : va_G} {c : Nat → ClassId} {H0 : Heap} {sa : Nat × Nat × (Nat → Int32)} {w : mW} {μ : mM} (hw : mWF w) (hT : mT w μ) {p1 : Int} (hp1 : 0 ≤ p1 ∧ p1 ≤ 9) {p2 : Int} (hp2 : (-2147483648) ≤ p2 ∧ p2 ≤ 2147483647) {p3 : Int} (hp3 : 28 ≤ p3 ∧ p3 ≤ 28) (hq0 : p1 < w.2.2.2 0) : sC (gG l D c H0 sa) mX2_leastBelow 7 0 0 [.ref 87, iv p1, iv p2, iv p3] (mk w μ) (qI w [87007] μ (fun z μ1 => ((-2147483648) ≤ z ∧ z ≤ 2147483647) ∧ True)) := by
  refine sC.of rfl (by decide) (le_t rfl) ?_
  refine mr_lvE (lv' := [(0, .ref 87), (1, iv p1), (2, iv p2), (3, iv p3)]) rfl ?_
  refine mr_iload_n (pc := 0) (z := p3) dX2_leastBelow_0 rfl rfl ?_
  refine mr_bipush (pc := 1) (z := 32) dX2_leastBelow_1 (by decide) ?_
  refine mr_icmp_ge (pc := 3) (tgt := 16) dX2_leastBelow_3 (by decide) (r32 hp3 rfl) (r32 (rR (x := 32)) rfl) (fun h => ((vc_X2_leastBelow_28_1 h hp3)).elim) (fun _ => ?_)
  refine sv_aload_n (pc := 6) dX2_leastBelow_6 rfl rfl ?_
  refine mr_iload_n (pc := 7) (z := p1) dX2_leastBelow_7 rfl rfl ?_
  refine mr_iload_n (pc := 8) (z := p2) dX2_leastBelow_8 rfl rfl ?_
  refine mr_iload_n (pc := 9) (z := p3) dX2_leastBelow_9 rfl rfl ?_
  refine mr_cVP (pc := 10) (c_X2_isSplit hw hT hp1 hp2 (rW (c := (-2147483648)) (d := 2147483647) hp3 rfl) (vc_X9_end_1 hq0 hp1)) (gOk _ _ _ _ _) dX2_leastBelow_10 (tX2_isSplit _ _ _ _ _) ⟨wV_X2_isSplit, wL_X2_isSplit⟩ wM_X2_106 (gCX2 _ _ _ _ _) rfl (A_87 hw) rfl ⟨le_t rfl, le_t rfl⟩ ⟨le_t rfl, le_t rfl⟩ rfl (le_t rfl) fun z5 h4 => ?_
  refine mr_if_ne (pc := 13) (tgt := 26) dX2_leastBelow_13 (by decide) (r32 h4.1 rfl) (fun h6 => ?_) (fun h6 => ?_)
  · have h7 : 1 ≤ z5 ∧ z5 ≤ 1 := (vc_X12_ring_24 h6 h4.1)
    refine sv_aload_n (pc := 26) dX2_leastBelow_26 rfl rfl ?_
    refine mr_iload_n (pc := 27) (z := p1) dX2_leastBelow_27 rfl rfl ?_
    refine mr_iload_n (pc := 28) (z := p2) dX2_leastBelow_28 rfl rfl ?_
    refine mr_iload_n (pc := 29) (z := p3) dX2_leastBelow_29 rfl rfl ?_
    refine mr_iconst (pc := 30) (z := 1) dX2_leastBelow_30 ?_
    refine mr_iadd (pc := 31) (x := p3) (y := 1) dX2_leastBelow_31 ?_
    refine mr_cVI (pc := 32) (c_X2_leastBelow_29 hw hT hp1 hp2 (rAdd (e := 29) (f := 29) hp3 (rR (x := 1)) rfl) (vc_X9_end_1 hq0 hp1)) (gOk _ _ _ _ _) dX2_leastBelow_32 (tX2_leastBelow _ _ _ _ _) ⟨wV_X2_leastBelow, wL_X2_leastBelow⟩ wM_X2_101 (gCX2 _ _ _ _ _) rfl (A_87 hw) rfl ⟨le_t rfl, le_t rfl⟩ ⟨le_t rfl, le_t rfl⟩ rfl (le_t rfl) fun z12 μ8 T9 F10 h11 => ?_
    refine mr_istore (pc := 35) (lv' := [(4, iv z12), (0, .ref 87), (1, iv p1), (2, iv p2), (3, iv p3)]) dX2_leastBelow_35 (by decide) rfl ?_
    refine sv_aload_n (pc := 37) dX2_leastBelow_37 rfl rfl ?_
    refine mr_iload_n (pc := 38) (z := p1) dX2_leastBelow_38 rfl rfl ?_
    refine mr_iload_n (pc := 39) (z := p2) dX2_leastBelow_39 rfl rfl ?_
    refine mr_iconst (pc := 40) (z := 1) dX2_leastBelow_40 ?_
    refine mr_bipush (pc := 41) (z := 31) dX2_leastBelow_41 (by decide) ?_
    refine mr_iload_n (pc := 43) (z := p3) dX2_leastBelow_43 rfl rfl ?_
    refine mr_isub (pc := 44) (x := 31) (y := p3) dX2_leastBelow_44 ?_
    refine mr_ishl (pc := 45) (x := 1) (y := (31 - p3)) dX2_leastBelow_45 ?_
    refine mr_gen (P := fun z => (-2147483648) ≤ z ∧ z ≤ 2147483647) (r32i _) fun z13 q14 h15 => ?_
    refine mr_ior (pc := 46) (x := p2) (y := z13) dX2_leastBelow_46 ?_
    refine mr_gen (P := fun z => (-2147483648) ≤ z ∧ z ≤ 2147483647) (r32i _) fun z16 q17 h18 => ?_
    refine mr_iload_n (pc := 47) (z := p3) dX2_leastBelow_47 rfl rfl ?_
    refine mr_iconst (pc := 48) (z := 1) dX2_leastBelow_48 ?_
    refine mr_iadd (pc := 49) (x := p3) (y := 1) dX2_leastBelow_49 ?_
    refine mr_cVI (pc := 50) (c_X2_leastBelow_29 hw T9 hp1 h18 (rAdd (e := 29) (f := 29) hp3 (rR (x := 1)) rfl) (vc_X9_end_1 hq0 hp1)) (gOk _ _ _ _ _) dX2_leastBelow_50 (tX2_leastBelow _ _ _ _ _) ⟨wV_X2_leastBelow, wL_X2_leastBelow⟩ wM_X2_101 (gCX2 _ _ _ _ _) rfl (A_87 hw) rfl ⟨le_t rfl, le_t rfl⟩ ⟨le_t rfl, le_t rfl⟩ rfl (le_t rfl) fun z23 μ19 T20 F21 h22 => ?_
    refine mr_istore (pc := 53) (lv' := [(5, iv z23), (4, iv z12), (0, .ref 87), (1, iv p1), (2, iv p2), (3, iv p3)]) dX2_leastBelow_53 (by decide) rfl ?_
    refine mr_iload (pc := 55) (z := z12) dX2_leastBelow_55 rfl ?_
    refine mr_iload (pc := 57) (z := z23) dX2_leastBelow_57 rfl ?_
    refine mr_iand (pc := 59) (x := z12) (y := z23) dX2_leastBelow_59 ?_
    refine mr_gen (P := fun z => (-2147483648) ≤ z ∧ z ≤ 2147483647) (r32i _) fun z24 q25 h26 => ?_
    refine mr_if_eq (pc := 60) (tgt := 69) dX2_leastBelow_60 (by decide) h26 (fun h27 => ?_) (fun h27 => ?_)
    · have h28 : 0 ≤ z24 ∧ z24 ≤ 0 := (vc_X12_mask_1 h27 h26)
      refine sv_aload_n (pc := 69) dX2_leastBelow_69 rfl rfl ?_
      refine sv_dup (pc := 70) dX2_leastBelow_70 rfl ?_
      refine gf_X2_7 (pc := 71) dX2_leastBelow_71 wF_X2_98 (A_87 hw) T20 fun z29 q30 h31 => ?_
      refine mr_iconst (pc := 74) (z := 1) dX2_leastBelow_74 ?_
      refine mr_iadd (pc := 75) (x := z29) (y := 1) dX2_leastBelow_75 ?_
      refine mr_wrap fun z32 h33 => ?_
      refine pf_X2_7 (pc := 76) dX2_leastBelow_76 wF_X2_98 (A_87 hw) T20 h33 fun μ34 u35 T36 => ?_
      refine mr_iload (pc := 79) (z := z12) dX2_leastBelow_79 rfl ?_
      refine mr_iload (pc := 81) (z := z23) dX2_leastBelow_81 rfl ?_
      refine mr_ior (pc := 83) (x := z12) (y := z23) dX2_leastBelow_83 ?_
      refine mr_gen (P := fun z => (-2147483648) ≤ z ∧ z ≤ 2147483647) (r32i _) fun z37 q38 h39 => ?_
      exact mr_iret dX2_leastBelow_84 rfl (le_t rfl) (le_t rfl) T36 (mF.up (mF.call (mF.call mF.refl F10 rfl) F21 rfl) (A_87 hw) u35 rfl) ⟨h39, trivial⟩
    refine mr_iload (pc := 63) (z := z12) dX2_leastBelow_63 rfl ?_
    refine mr_iload (pc := 65) (z := z23) dX2_leastBelow_65 rfl ?_
    refine mr_iand (pc := 67) (x := z12) (y := z23) dX2_leastBelow_67 ?_
    refine mr_gen (P := fun z => (-2147483648) ≤ z ∧ z ≤ 2147483647) (r32i _) fun z40 q41 h42 => ?_
    exact mr_iret dX2_leastBelow_68 rfl (le_t rfl) (le_t rfl) T20 (mF.call (mF.call mF.refl F10 rfl) F21 rfl) ⟨h42, trivial⟩
  have h43 : 0 ≤ z5 ∧ z5 ≤ 0 := (vc_X12_ring_22 h6 h4.1)
  refine sv_aload_n (pc := 16) dX2_leastBelow_16 rfl rfl ?_
  refine mr_iload_n (pc := 17) (z := p1) dX2_leastBelow_17 rfl rfl ?_
  refine mr_iload_n (pc := 18) (z := p2) dX2_leastBelow_18 rfl rfl ?_
  refine mr_cVP (pc := 19) (c_X2_tieFor hw hT hp1 hp2 (vc_X9_end_1 hq0 hp1)) (gOk _ _ _ _ _) dX2_leastBelow_19 (tX2_tieFor _ _ _ _ _) ⟨wV_X2_tieFor, wL_X2_tieFor⟩ wM_X2_60 (gCX2 _ _ _ _ _) rfl (A_87 hw) rfl ⟨le_t rfl, le_t rfl⟩ ⟨le_t rfl, le_t rfl⟩ rfl (le_t rfl) fun z48 h47 => ?_
  refine mr_cSP (pc := 22) (c_X2_aimBit hw hT h47.1) (gOk _ _ _ _ _) dX2_leastBelow_22 (tX2_aimBit _ _ _ _ _) wS_X2_aimBit wM_X2_110 ⟨le_t rfl, le_t rfl⟩ ⟨le_t rfl, le_t rfl⟩ rfl (le_t rfl) fun z53 h52 => ?_
  exact mr_iret dX2_leastBelow_25 rfl (le_t rfl) (le_t rfl) hT mF.refl ⟨h52.1, trivial⟩
theorem vc_X2_leastBelow_27_1 {p3 : Int} (h0 : 32 ≤ p3) (h1 : 27 ≤ p3 ∧ p3 ≤ 27) : False := by omega
set_option maxRecDepth 4000 in
set_option maxHeartbeats 4000000 in
theorem c_X2_leastBelow_27 {l : Launch} {D : va_G} {c : Nat → ClassId} {H0 : Heap} {sa : Nat × Nat × (Nat → Int32)} {w : mW} {μ : mM} (hw : mWF w) (hT : mT w μ) {p1 : Int} (hp1 : 0 ≤ p1 ∧ p1 ≤ 9) {p2 : Int} (hp2 : (-2147483648) ≤ p2 ∧ p2 ≤ 2147483647) {p3 : Int} (hp3 : 27 ≤ p3 ∧ p3 ≤ 27) (hq0 : p1 < w.2.2.2 0) : sC (gG l D c H0 sa) mX2_leastBelow 8 0 0 [.ref 87, iv p1, iv p2, iv p3] (mk w μ) (qI w [87007] μ (fun z μ1 => ((-2147483648) ≤ z ∧ z ≤ 2147483647) ∧ True)) := by
  refine sC.of rfl (by decide) (le_t rfl) ?_
  refine mr_lvE (lv' := [(0, .ref 87), (1, iv p1), (2, iv p2), (3, iv p3)]) rfl ?_
  refine mr_iload_n (pc := 0) (z := p3) dX2_leastBelow_0 rfl rfl ?_
  refine mr_bipush (pc := 1) (z := 32) dX2_leastBelow_1 (by decide) ?_
  refine mr_icmp_ge (pc := 3) (tgt := 16) dX2_leastBelow_3 (by decide) (r32 hp3 rfl) (r32 (rR (x := 32)) rfl) (fun h => ((vc_X2_leastBelow_27_1 h hp3)).elim) (fun _ => ?_)
  refine sv_aload_n (pc := 6) dX2_leastBelow_6 rfl rfl ?_
  refine mr_iload_n (pc := 7) (z := p1) dX2_leastBelow_7 rfl rfl ?_
  refine mr_iload_n (pc := 8) (z := p2) dX2_leastBelow_8 rfl rfl ?_
  refine mr_iload_n (pc := 9) (z := p3) dX2_leastBelow_9 rfl rfl ?_
  refine mr_cVP (pc := 10) (c_X2_isSplit hw hT hp1 hp2 (rW (c := (-2147483648)) (d := 2147483647) hp3 rfl) (vc_X9_end_1 hq0 hp1)) (gOk _ _ _ _ _) dX2_leastBelow_10 (tX2_isSplit _ _ _ _ _) ⟨wV_X2_isSplit, wL_X2_isSplit⟩ wM_X2_106 (gCX2 _ _ _ _ _) rfl (A_87 hw) rfl ⟨le_t rfl, le_t rfl⟩ ⟨le_t rfl, le_t rfl⟩ rfl (le_t rfl) fun z5 h4 => ?_
  refine mr_if_ne (pc := 13) (tgt := 26) dX2_leastBelow_13 (by decide) (r32 h4.1 rfl) (fun h6 => ?_) (fun h6 => ?_)
  · have h7 : 1 ≤ z5 ∧ z5 ≤ 1 := (vc_X12_ring_24 h6 h4.1)
    refine sv_aload_n (pc := 26) dX2_leastBelow_26 rfl rfl ?_
    refine mr_iload_n (pc := 27) (z := p1) dX2_leastBelow_27 rfl rfl ?_
    refine mr_iload_n (pc := 28) (z := p2) dX2_leastBelow_28 rfl rfl ?_
    refine mr_iload_n (pc := 29) (z := p3) dX2_leastBelow_29 rfl rfl ?_
    refine mr_iconst (pc := 30) (z := 1) dX2_leastBelow_30 ?_
    refine mr_iadd (pc := 31) (x := p3) (y := 1) dX2_leastBelow_31 ?_
    refine mr_cVI (pc := 32) (c_X2_leastBelow_28 hw hT hp1 hp2 (rAdd (e := 28) (f := 28) hp3 (rR (x := 1)) rfl) (vc_X9_end_1 hq0 hp1)) (gOk _ _ _ _ _) dX2_leastBelow_32 (tX2_leastBelow _ _ _ _ _) ⟨wV_X2_leastBelow, wL_X2_leastBelow⟩ wM_X2_101 (gCX2 _ _ _ _ _) rfl (A_87 hw) rfl ⟨le_t rfl, le_t rfl⟩ ⟨le_t rfl, le_t rfl⟩ rfl (le_t rfl) fun z12 μ8 T9 F10 h11 => ?_
    refine mr_istore (pc := 35) (lv' := [(4, iv z12), (0, .ref 87), (1, iv p1), (2, iv p2), (3, iv p3)]) dX2_leastBelow_35 (by decide) rfl ?_
    refine sv_aload_n (pc := 37) dX2_leastBelow_37 rfl rfl ?_
    refine mr_iload_n (pc := 38) (z := p1) dX2_leastBelow_38 rfl rfl ?_
    refine mr_iload_n (pc := 39) (z := p2) dX2_leastBelow_39 rfl rfl ?_
    refine mr_iconst (pc := 40) (z := 1) dX2_leastBelow_40 ?_
    refine mr_bipush (pc := 41) (z := 31) dX2_leastBelow_41 (by decide) ?_
    refine mr_iload_n (pc := 43) (z := p3) dX2_leastBelow_43 rfl rfl ?_
    refine mr_isub (pc := 44) (x := 31) (y := p3) dX2_leastBelow_44 ?_
    refine mr_ishl (pc := 45) (x := 1) (y := (31 - p3)) dX2_leastBelow_45 ?_
    refine mr_gen (P := fun z => (-2147483648) ≤ z ∧ z ≤ 2147483647) (r32i _) fun z13 q14 h15 => ?_
    refine mr_ior (pc := 46) (x := p2) (y := z13) dX2_leastBelow_46 ?_
    refine mr_gen (P := fun z => (-2147483648) ≤ z ∧ z ≤ 2147483647) (r32i _) fun z16 q17 h18 => ?_
    refine mr_iload_n (pc := 47) (z := p3) dX2_leastBelow_47 rfl rfl ?_
    refine mr_iconst (pc := 48) (z := 1) dX2_leastBelow_48 ?_
    refine mr_iadd (pc := 49) (x := p3) (y := 1) dX2_leastBelow_49 ?_
    refine mr_cVI (pc := 50) (c_X2_leastBelow_28 hw T9 hp1 h18 (rAdd (e := 28) (f := 28) hp3 (rR (x := 1)) rfl) (vc_X9_end_1 hq0 hp1)) (gOk _ _ _ _ _) dX2_leastBelow_50 (tX2_leastBelow _ _ _ _ _) ⟨wV_X2_leastBelow, wL_X2_leastBelow⟩ wM_X2_101 (gCX2 _ _ _ _ _) rfl (A_87 hw) rfl ⟨le_t rfl, le_t rfl⟩ ⟨le_t rfl, le_t rfl⟩ rfl (le_t rfl) fun z23 μ19 T20 F21 h22 => ?_
    refine mr_istore (pc := 53) (lv' := [(5, iv z23), (4, iv z12), (0, .ref 87), (1, iv p1), (2, iv p2), (3, iv p3)]) dX2_leastBelow_53 (by decide) rfl ?_
    refine mr_iload (pc := 55) (z := z12) dX2_leastBelow_55 rfl ?_
    refine mr_iload (pc := 57) (z := z23) dX2_leastBelow_57 rfl ?_
    refine mr_iand (pc := 59) (x := z12) (y := z23) dX2_leastBelow_59 ?_
    refine mr_gen (P := fun z => (-2147483648) ≤ z ∧ z ≤ 2147483647) (r32i _) fun z24 q25 h26 => ?_
    refine mr_if_eq (pc := 60) (tgt := 69) dX2_leastBelow_60 (by decide) h26 (fun h27 => ?_) (fun h27 => ?_)
    · have h28 : 0 ≤ z24 ∧ z24 ≤ 0 := (vc_X12_mask_1 h27 h26)
      refine sv_aload_n (pc := 69) dX2_leastBelow_69 rfl rfl ?_
      refine sv_dup (pc := 70) dX2_leastBelow_70 rfl ?_
      refine gf_X2_7 (pc := 71) dX2_leastBelow_71 wF_X2_98 (A_87 hw) T20 fun z29 q30 h31 => ?_
      refine mr_iconst (pc := 74) (z := 1) dX2_leastBelow_74 ?_
      refine mr_iadd (pc := 75) (x := z29) (y := 1) dX2_leastBelow_75 ?_
      refine mr_wrap fun z32 h33 => ?_
      refine pf_X2_7 (pc := 76) dX2_leastBelow_76 wF_X2_98 (A_87 hw) T20 h33 fun μ34 u35 T36 => ?_
      refine mr_iload (pc := 79) (z := z12) dX2_leastBelow_79 rfl ?_
      refine mr_iload (pc := 81) (z := z23) dX2_leastBelow_81 rfl ?_
      refine mr_ior (pc := 83) (x := z12) (y := z23) dX2_leastBelow_83 ?_
      refine mr_gen (P := fun z => (-2147483648) ≤ z ∧ z ≤ 2147483647) (r32i _) fun z37 q38 h39 => ?_
      exact mr_iret dX2_leastBelow_84 rfl (le_t rfl) (le_t rfl) T36 (mF.up (mF.call (mF.call mF.refl F10 rfl) F21 rfl) (A_87 hw) u35 rfl) ⟨h39, trivial⟩
    refine mr_iload (pc := 63) (z := z12) dX2_leastBelow_63 rfl ?_
    refine mr_iload (pc := 65) (z := z23) dX2_leastBelow_65 rfl ?_
    refine mr_iand (pc := 67) (x := z12) (y := z23) dX2_leastBelow_67 ?_
    refine mr_gen (P := fun z => (-2147483648) ≤ z ∧ z ≤ 2147483647) (r32i _) fun z40 q41 h42 => ?_
    exact mr_iret dX2_leastBelow_68 rfl (le_t rfl) (le_t rfl) T20 (mF.call (mF.call mF.refl F10 rfl) F21 rfl) ⟨h42, trivial⟩
  have h43 : 0 ≤ z5 ∧ z5 ≤ 0 := (vc_X12_ring_22 h6 h4.1)
  refine sv_aload_n (pc := 16) dX2_leastBelow_16 rfl rfl ?_
  refine mr_iload_n (pc := 17) (z := p1) dX2_leastBelow_17 rfl rfl ?_
  refine mr_iload_n (pc := 18) (z := p2) dX2_leastBelow_18 rfl rfl ?_
  refine mr_cVP (pc := 19) (c_X2_tieFor hw hT hp1 hp2 (vc_X9_end_1 hq0 hp1)) (gOk _ _ _ _ _) dX2_leastBelow_19 (tX2_tieFor _ _ _ _ _) ⟨wV_X2_tieFor, wL_X2_tieFor⟩ wM_X2_60 (gCX2 _ _ _ _ _) rfl (A_87 hw) rfl ⟨le_t rfl, le_t rfl⟩ ⟨le_t rfl, le_t rfl⟩ rfl (le_t rfl) fun z48 h47 => ?_
  refine mr_cSP (pc := 22) (c_X2_aimBit hw hT h47.1) (gOk _ _ _ _ _) dX2_leastBelow_22 (tX2_aimBit _ _ _ _ _) wS_X2_aimBit wM_X2_110 ⟨le_t rfl, le_t rfl⟩ ⟨le_t rfl, le_t rfl⟩ rfl (le_t rfl) fun z53 h52 => ?_
  exact mr_iret dX2_leastBelow_25 rfl (le_t rfl) (le_t rfl) hT mF.refl ⟨h52.1, trivial⟩
theorem vc_X2_leastBelow_26_1 {p3 : Int} (h0 : 32 ≤ p3) (h1 : 26 ≤ p3 ∧ p3 ≤ 26) : False := by omega
set_option maxRecDepth 4000 in
set_option maxHeartbeats 4000000 in
theorem c_X2_leastBelow_26 {l : Launch} {D : va_G} {c : Nat → ClassId} {H0 : Heap} {sa : Nat × Nat × (Nat → Int32)} {w : mW} {μ : mM} (hw : mWF w) (hT : mT w μ) {p1 : Int} (hp1 : 0 ≤ p1 ∧ p1 ≤ 9) {p2 : Int} (hp2 : (-2147483648) ≤ p2 ∧ p2 ≤ 2147483647) {p3 : Int} (hp3 : 26 ≤ p3 ∧ p3 ≤ 26) (hq0 : p1 < w.2.2.2 0) : sC (gG l D c H0 sa) mX2_leastBelow 9 0 0 [.ref 87, iv p1, iv p2, iv p3] (mk w μ) (qI w [87007] μ (fun z μ1 => ((-2147483648) ≤ z ∧ z ≤ 2147483647) ∧ True)) := by
  refine sC.of rfl (by decide) (le_t rfl) ?_
  refine mr_lvE (lv' := [(0, .ref 87), (1, iv p1), (2, iv p2), (3, iv p3)]) rfl ?_
  refine mr_iload_n (pc := 0) (z := p3) dX2_leastBelow_0 rfl rfl ?_
  refine mr_bipush (pc := 1) (z := 32) dX2_leastBelow_1 (by decide) ?_
  refine mr_icmp_ge (pc := 3) (tgt := 16) dX2_leastBelow_3 (by decide) (r32 hp3 rfl) (r32 (rR (x := 32)) rfl) (fun h => ((vc_X2_leastBelow_26_1 h hp3)).elim) (fun _ => ?_)
  refine sv_aload_n (pc := 6) dX2_leastBelow_6 rfl rfl ?_
  refine mr_iload_n (pc := 7) (z := p1) dX2_leastBelow_7 rfl rfl ?_
  refine mr_iload_n (pc := 8) (z := p2) dX2_leastBelow_8 rfl rfl ?_
  refine mr_iload_n (pc := 9) (z := p3) dX2_leastBelow_9 rfl rfl ?_
  refine mr_cVP (pc := 10) (c_X2_isSplit hw hT hp1 hp2 (rW (c := (-2147483648)) (d := 2147483647) hp3 rfl) (vc_X9_end_1 hq0 hp1)) (gOk _ _ _ _ _) dX2_leastBelow_10 (tX2_isSplit _ _ _ _ _) ⟨wV_X2_isSplit, wL_X2_isSplit⟩ wM_X2_106 (gCX2 _ _ _ _ _) rfl (A_87 hw) rfl ⟨le_t rfl, le_t rfl⟩ ⟨le_t rfl, le_t rfl⟩ rfl (le_t rfl) fun z5 h4 => ?_
  refine mr_if_ne (pc := 13) (tgt := 26) dX2_leastBelow_13 (by decide) (r32 h4.1 rfl) (fun h6 => ?_) (fun h6 => ?_)
  · have h7 : 1 ≤ z5 ∧ z5 ≤ 1 := (vc_X12_ring_24 h6 h4.1)
    refine sv_aload_n (pc := 26) dX2_leastBelow_26 rfl rfl ?_
    refine mr_iload_n (pc := 27) (z := p1) dX2_leastBelow_27 rfl rfl ?_
    refine mr_iload_n (pc := 28) (z := p2) dX2_leastBelow_28 rfl rfl ?_
    refine mr_iload_n (pc := 29) (z := p3) dX2_leastBelow_29 rfl rfl ?_
    refine mr_iconst (pc := 30) (z := 1) dX2_leastBelow_30 ?_
    refine mr_iadd (pc := 31) (x := p3) (y := 1) dX2_leastBelow_31 ?_
    refine mr_cVI (pc := 32) (c_X2_leastBelow_27 hw hT hp1 hp2 (rAdd (e := 27) (f := 27) hp3 (rR (x := 1)) rfl) (vc_X9_end_1 hq0 hp1)) (gOk _ _ _ _ _) dX2_leastBelow_32 (tX2_leastBelow _ _ _ _ _) ⟨wV_X2_leastBelow, wL_X2_leastBelow⟩ wM_X2_101 (gCX2 _ _ _ _ _) rfl (A_87 hw) rfl ⟨le_t rfl, le_t rfl⟩ ⟨le_t rfl, le_t rfl⟩ rfl (le_t rfl) fun z12 μ8 T9 F10 h11 => ?_
    refine mr_istore (pc := 35) (lv' := [(4, iv z12), (0, .ref 87), (1, iv p1), (2, iv p2), (3, iv p3)]) dX2_leastBelow_35 (by decide) rfl ?_
    refine sv_aload_n (pc := 37) dX2_leastBelow_37 rfl rfl ?_
    refine mr_iload_n (pc := 38) (z := p1) dX2_leastBelow_38 rfl rfl ?_
    refine mr_iload_n (pc := 39) (z := p2) dX2_leastBelow_39 rfl rfl ?_
    refine mr_iconst (pc := 40) (z := 1) dX2_leastBelow_40 ?_
    refine mr_bipush (pc := 41) (z := 31) dX2_leastBelow_41 (by decide) ?_
    refine mr_iload_n (pc := 43) (z := p3) dX2_leastBelow_43 rfl rfl ?_
    refine mr_isub (pc := 44) (x := 31) (y := p3) dX2_leastBelow_44 ?_
    refine mr_ishl (pc := 45) (x := 1) (y := (31 - p3)) dX2_leastBelow_45 ?_
    refine mr_gen (P := fun z => (-2147483648) ≤ z ∧ z ≤ 2147483647) (r32i _) fun z13 q14 h15 => ?_
    refine mr_ior (pc := 46) (x := p2) (y := z13) dX2_leastBelow_46 ?_
    refine mr_gen (P := fun z => (-2147483648) ≤ z ∧ z ≤ 2147483647) (r32i _) fun z16 q17 h18 => ?_
    refine mr_iload_n (pc := 47) (z := p3) dX2_leastBelow_47 rfl rfl ?_
    refine mr_iconst (pc := 48) (z := 1) dX2_leastBelow_48 ?_
    refine mr_iadd (pc := 49) (x := p3) (y := 1) dX2_leastBelow_49 ?_
    refine mr_cVI (pc := 50) (c_X2_leastBelow_27 hw T9 hp1 h18 (rAdd (e := 27) (f := 27) hp3 (rR (x := 1)) rfl) (vc_X9_end_1 hq0 hp1)) (gOk _ _ _ _ _) dX2_leastBelow_50 (tX2_leastBelow _ _ _ _ _) ⟨wV_X2_leastBelow, wL_X2_leastBelow⟩ wM_X2_101 (gCX2 _ _ _ _ _) rfl (A_87 hw) rfl ⟨le_t rfl, le_t rfl⟩ ⟨le_t rfl, le_t rfl⟩ rfl (le_t rfl) fun z23 μ19 T20 F21 h22 => ?_
    refine mr_istore (pc := 53) (lv' := [(5, iv z23), (4, iv z12), (0, .ref 87), (1, iv p1), (2, iv p2), (3, iv p3)]) dX2_leastBelow_53 (by decide) rfl ?_
    refine mr_iload (pc := 55) (z := z12) dX2_leastBelow_55 rfl ?_
    refine mr_iload (pc := 57) (z := z23) dX2_leastBelow_57 rfl ?_
    refine mr_iand (pc := 59) (x := z12) (y := z23) dX2_leastBelow_59 ?_
    refine mr_gen (P := fun z => (-2147483648) ≤ z ∧ z ≤ 2147483647) (r32i _) fun z24 q25 h26 => ?_
    refine mr_if_eq (pc := 60) (tgt := 69) dX2_leastBelow_60 (by decide) h26 (fun h27 => ?_) (fun h27 => ?_)
    · have h28 : 0 ≤ z24 ∧ z24 ≤ 0 := (vc_X12_mask_1 h27 h26)
      refine sv_aload_n (pc := 69) dX2_leastBelow_69 rfl rfl ?_
      refine sv_dup (pc := 70) dX2_leastBelow_70 rfl ?_
      refine gf_X2_7 (pc := 71) dX2_leastBelow_71 wF_X2_98 (A_87 hw) T20 fun z29 q30 h31 => ?_
      refine mr_iconst (pc := 74) (z := 1) dX2_leastBelow_74 ?_
      refine mr_iadd (pc := 75) (x := z29) (y := 1) dX2_leastBelow_75 ?_
      refine mr_wrap fun z32 h33 => ?_
      refine pf_X2_7 (pc := 76) dX2_leastBelow_76 wF_X2_98 (A_87 hw) T20 h33 fun μ34 u35 T36 => ?_
      refine mr_iload (pc := 79) (z := z12) dX2_leastBelow_79 rfl ?_
      refine mr_iload (pc := 81) (z := z23) dX2_leastBelow_81 rfl ?_
      refine mr_ior (pc := 83) (x := z12) (y := z23) dX2_leastBelow_83 ?_
      refine mr_gen (P := fun z => (-2147483648) ≤ z ∧ z ≤ 2147483647) (r32i _) fun z37 q38 h39 => ?_
      exact mr_iret dX2_leastBelow_84 rfl (le_t rfl) (le_t rfl) T36 (mF.up (mF.call (mF.call mF.refl F10 rfl) F21 rfl) (A_87 hw) u35 rfl) ⟨h39, trivial⟩
    refine mr_iload (pc := 63) (z := z12) dX2_leastBelow_63 rfl ?_
    refine mr_iload (pc := 65) (z := z23) dX2_leastBelow_65 rfl ?_
    refine mr_iand (pc := 67) (x := z12) (y := z23) dX2_leastBelow_67 ?_
    refine mr_gen (P := fun z => (-2147483648) ≤ z ∧ z ≤ 2147483647) (r32i _) fun z40 q41 h42 => ?_
    exact mr_iret dX2_leastBelow_68 rfl (le_t rfl) (le_t rfl) T20 (mF.call (mF.call mF.refl F10 rfl) F21 rfl) ⟨h42, trivial⟩
  have h43 : 0 ≤ z5 ∧ z5 ≤ 0 := (vc_X12_ring_22 h6 h4.1)
  refine sv_aload_n (pc := 16) dX2_leastBelow_16 rfl rfl ?_
  refine mr_iload_n (pc := 17) (z := p1) dX2_leastBelow_17 rfl rfl ?_
  refine mr_iload_n (pc := 18) (z := p2) dX2_leastBelow_18 rfl rfl ?_
  refine mr_cVP (pc := 19) (c_X2_tieFor hw hT hp1 hp2 (vc_X9_end_1 hq0 hp1)) (gOk _ _ _ _ _) dX2_leastBelow_19 (tX2_tieFor _ _ _ _ _) ⟨wV_X2_tieFor, wL_X2_tieFor⟩ wM_X2_60 (gCX2 _ _ _ _ _) rfl (A_87 hw) rfl ⟨le_t rfl, le_t rfl⟩ ⟨le_t rfl, le_t rfl⟩ rfl (le_t rfl) fun z48 h47 => ?_
  refine mr_cSP (pc := 22) (c_X2_aimBit hw hT h47.1) (gOk _ _ _ _ _) dX2_leastBelow_22 (tX2_aimBit _ _ _ _ _) wS_X2_aimBit wM_X2_110 ⟨le_t rfl, le_t rfl⟩ ⟨le_t rfl, le_t rfl⟩ rfl (le_t rfl) fun z53 h52 => ?_
  exact mr_iret dX2_leastBelow_25 rfl (le_t rfl) (le_t rfl) hT mF.refl ⟨h52.1, trivial⟩
end
