theorem vc_X4_leadBack_1 {f_st : Int} (h0 : 1 ≤ f_st) (h1 : 0 ≤ f_st ∧ f_st ≤ 46656) : 1 ≤ f_st ∧ f_st ≤ 46656 := by omega
theorem vc_X4_leadBack_2 {z1860 : Int} (h0 : 1 ≤ z1860) (h1 : 0 ≤ z1860 ∧ z1860 ≤ 46656) : 1 ≤ z1860 ∧ z1860 ≤ 46656 := by omega
theorem vc_X4_leadBack_3 {z1865 : Int} (h0 : 1 ≤ z1865) (h1 : 0 ≤ z1865 ∧ z1865 ≤ 46656) : 1 ≤ z1865 ∧ z1865 ≤ 46656 := by omega
theorem vc_X4_leadBack_4 {z1870 : Int} (h0 : 1 ≤ z1870) (h1 : 0 ≤ z1870 ∧ z1870 ≤ 46656) : 1 ≤ z1870 ∧ z1870 ≤ 46656 := by omega
theorem vc_X4_leadBack_5 {z1875 : Int} (h0 : 1 ≤ z1875) (h1 : 0 ≤ z1875 ∧ z1875 ≤ 46656) : 1 ≤ z1875 ∧ z1875 ≤ 46656 := by omega
theorem vc_X4_leadBack_6 {z1880 : Int} (h0 : 1 ≤ z1880) (h1 : 0 ≤ z1880 ∧ z1880 ≤ 46656) : 1 ≤ z1880 ∧ z1880 ≤ 46656 := by omega
theorem vc_X4_leadBack_7 {z1885 : Int} (h0 : 1 ≤ z1885) (h1 : 0 ≤ z1885 ∧ z1885 ≤ 46656) : 1 ≤ z1885 ∧ z1885 ≤ 46656 := by omega
theorem vc_X4_leadBack_8 {f_st n_1852 n_1856 z2918 z2919 : Int} (h0 : (46657 - z2918) < ((0 : Nat) : Int)) (h1 : z2919 ≤ z2918) (h2 : z2918 ≤ f_st) (h3 : 1 ≤ f_st) (h4 : f_st ≤ n_1852) (h5 : f_st ≤ n_1856) (h6 : 1 ≤ f_st ∧ f_st ≤ 46656) (h7 : 0 ≤ n_1852 ∧ n_1852 ≤ 93312) (h8 : 0 ≤ n_1856 ∧ n_1856 ≤ 93312) (h9 : 0 ≤ z2918 ∧ z2918 ≤ 46656) (h10 : 0 ≤ z2919 ∧ z2919 ≤ 46656) : False := by omega
theorem vc_X4_leadBack_9 {f_st n_1852 n_1856 z2918 z2919 : Int} (h0 : f_st ≤ z2918) (h1 : 1 ≤ f_st) (h2 : f_st ≤ n_1852) (h3 : f_st ≤ n_1856) (h4 : z2919 ≤ z2918) (h5 : z2918 ≤ f_st) (h6 : 1 ≤ f_st ∧ f_st ≤ 46656) (h7 : 0 ≤ n_1852 ∧ n_1852 ≤ 93312) (h8 : 0 ≤ n_1856 ∧ n_1856 ≤ 93312) (h9 : 0 ≤ z2918 ∧ z2918 ≤ 46656) (h10 : 0 ≤ z2919 ∧ z2919 ≤ 46656) : 1 ≤ z2918 ∧ z2918 ≤ 46656 := by omega
theorem vc_X4_leadBack_10 {f_st n_1852 n_1856 z2918 z2919 : Int} (h0 : 1 ≤ f_st) (h1 : f_st ≤ n_1852) (h2 : f_st ≤ n_1856) (h3 : z2919 ≤ z2918) (h4 : z2918 ≤ f_st) (h5 : f_st ≤ z2918) (h6 : 1 ≤ f_st ∧ f_st ≤ 46656) (h7 : 0 ≤ n_1852 ∧ n_1852 ≤ 93312) (h8 : 0 ≤ n_1856 ∧ n_1856 ≤ 93312) (h9 : 1 ≤ z2918 ∧ z2918 ≤ 46656) (h10 : 0 ≤ z2919 ∧ z2919 ≤ 46656) : z2918 ≤ f_st := by omega
theorem vc_X4_leadBack_11 {z3391 z3392 : Int} (h0 : (46657 - z3391) < ((0 : Nat) : Int)) (h1 : z3391 ≤ z3392) (h2 : 0 ≤ z3391 ∧ z3391 ≤ 46656) (h3 : 0 ≤ z3392 ∧ z3392 ≤ 46656) : False := by omega
theorem vc_X4_leadBack_12 {f_st n_1852 n_1856 z2918 z2919 : Int} (h0 : 1 ≤ f_st) (h1 : f_st ≤ n_1852) (h2 : f_st ≤ n_1856) (h3 : z2918 ≤ f_st) (h4 : f_st ≤ z2918) (h5 : z2919 ≤ z2918) (h6 : 1 ≤ f_st ∧ f_st ≤ 46656) (h7 : 0 ≤ n_1852 ∧ n_1852 ≤ 93312) (h8 : 0 ≤ n_1856 ∧ n_1856 ≤ 93312) (h9 : 1 ≤ z2918 ∧ z2918 ≤ 46656) (h10 : 0 ≤ z2919 ∧ z2919 ≤ 46656) : 0 ≤ f_st := by omega
theorem vc_X4_leadBack_13 {f_st z3391 z3392 : Int} (h0 : z3391 < z3392) (h1 : z3391 ≤ z3392) (h2 : z3392 ≤ f_st) (h3 : 1 ≤ f_st ∧ f_st ≤ 46656) (h4 : 0 ≤ z3391 ∧ z3391 ≤ 46656) (h5 : 0 ≤ z3392 ∧ z3392 ≤ 46656) : 0 ≤ z3391 ∧ z3391 ≤ 46655 := by omega
theorem vc_X4_leadBack_14 {f_st z3391 z3392 : Int} (h0 : z3391 < z3392) (h1 : z3391 ≤ z3392) (h2 : z3392 ≤ f_st) (h3 : 1 ≤ f_st ∧ f_st ≤ 46656) (h4 : 0 ≤ z3391 ∧ z3391 ≤ 46655) (h5 : 0 ≤ z3392 ∧ z3392 ≤ 46656) : 1 ≤ z3392 ∧ z3392 ≤ 46656 := by omega
theorem vc_X4_leadBack_15 {f_st n_1852 n_1856 z2918 z3391 z3392 : Int} (h0 : f_st ≤ n_1852) (h1 : z3391 ≤ z3392) (h2 : z3391 < z3392) (h3 : 1 ≤ f_st) (h4 : f_st ≤ n_1856) (h5 : z2918 ≤ f_st) (h6 : f_st ≤ z2918) (h7 : z3392 ≤ f_st) (h8 : 1 ≤ f_st ∧ f_st ≤ 46656) (h9 : 0 ≤ n_1852 ∧ n_1852 ≤ 93312) (h10 : 0 ≤ n_1856 ∧ n_1856 ≤ 93312) (h11 : 1 ≤ z2918 ∧ z2918 ≤ 46656) (h12 : 0 ≤ z3391 ∧ z3391 ≤ 46655) (h13 : 1 ≤ z3392 ∧ z3392 ≤ 46656) : 0 ≤ z3391 ∧ z3391 < n_1852 := by omega
theorem vc_X4_leadBack_16 {f_st z3391 z3392 : Int} (h0 : z3391 ≤ z3392) (h1 : z3391 < z3392) (h2 : z3392 ≤ f_st) (h3 : 1 ≤ f_st ∧ f_st ≤ 46656) (h4 : 0 ≤ z3391 ∧ z3391 ≤ 46655) (h5 : 1 ≤ z3392 ∧ z3392 ≤ 46656) : 0 ≤ z3391 := by omega
theorem vc_X4_leadBack_17 {f_st n_1852 n_1856 z2918 z3391 z3392 : Int} (h0 : z3391 ≤ z3392) (h1 : z3392 ≤ f_st) (h2 : z3391 < z3392) (h3 : 1 ≤ f_st) (h4 : f_st ≤ n_1852) (h5 : f_st ≤ n_1856) (h6 : z2918 ≤ f_st) (h7 : f_st ≤ z2918) (h8 : 1 ≤ f_st ∧ f_st ≤ 46656) (h9 : 0 ≤ n_1852 ∧ n_1852 ≤ 93312) (h10 : 0 ≤ n_1856 ∧ n_1856 ≤ 93312) (h11 : 1 ≤ z2918 ∧ z2918 ≤ 46656) (h12 : 0 ≤ z3391 ∧ z3391 ≤ 46655) (h13 : 1 ≤ z3392 ∧ z3392 ≤ 46656) : z3391 < z3392 := by omega
theorem vc_X4_leadBack_18 {z1860 : Int} (h0 : 1 ≤ z1860) (h1 : 1 ≤ z1860 ∧ z1860 ≤ 46656) : 1 ≤ z1860 := by omega
theorem vc_X4_leadBack_19 {z1865 : Int} (h0 : 1 ≤ z1865) (h1 : 1 ≤ z1865 ∧ z1865 ≤ 46656) : 1 ≤ z1865 := by omega
theorem vc_X4_leadBack_20 {z1870 : Int} (h0 : 1 ≤ z1870) (h1 : 1 ≤ z1870 ∧ z1870 ≤ 46656) : 1 ≤ z1870 := by omega
theorem vc_X4_leadBack_21 {z1875 : Int} (h0 : 1 ≤ z1875) (h1 : 1 ≤ z1875 ∧ z1875 ≤ 46656) : 1 ≤ z1875 := by omega
theorem vc_X4_leadBack_22 {z1880 : Int} (h0 : 1 ≤ z1880) (h1 : 1 ≤ z1880 ∧ z1880 ≤ 46656) : 1 ≤ z1880 := by omega
theorem vc_X4_leadBack_23 {z1885 : Int} (h0 : 1 ≤ z1885) (h1 : 1 ≤ z1885 ∧ z1885 ≤ 46656) : 1 ≤ z1885 := by omega
theorem vc_X4_leadBack_24 {f_st n_1852 n_1856 z2918 z3391 z3392 z3441 : Int} (h0 : f_st ≤ n_1852) (h1 : z3391 ≤ z3392) (h2 : z3391 < z3392) (h3 : 1 ≤ f_st) (h4 : f_st ≤ n_1856) (h5 : z2918 ≤ f_st) (h6 : f_st ≤ z2918) (h7 : z3392 ≤ f_st) (h8 : 0 ≤ z3441 ∧ z3441 < f_st) (h9 : 1 ≤ f_st ∧ f_st ≤ 46656) (h10 : 0 ≤ n_1852 ∧ n_1852 ≤ 93312) (h11 : 0 ≤ n_1856 ∧ n_1856 ≤ 93312) (h12 : 1 ≤ z2918 ∧ z2918 ≤ 46656) (h13 : 0 ≤ z3391 ∧ z3391 ≤ 46655) (h14 : 1 ≤ z3392 ∧ z3392 ≤ 46656) (h15 : 0 ≤ z3441 ∧ z3441 ≤ 46655) : 0 ≤ z3391 ∧ z3391 < n_1852 := by omega
theorem vc_X4_leadBack_25 {f_st n_1852 n_1856 z2918 z3391 z3392 z3441 : Int} (h0 : z3391 ≤ z3392) (h1 : z3392 ≤ f_st) (h2 : z3391 < z3392) (h3 : 1 ≤ f_st) (h4 : f_st ≤ n_1852) (h5 : f_st ≤ n_1856) (h6 : z2918 ≤ f_st) (h7 : f_st ≤ z2918) (h8 : 0 ≤ z3441 ∧ z3441 < f_st) (h9 : 1 ≤ f_st ∧ f_st ≤ 46656) (h10 : 0 ≤ n_1852 ∧ n_1852 ≤ 93312) (h11 : 0 ≤ n_1856 ∧ n_1856 ≤ 93312) (h12 : 1 ≤ z2918 ∧ z2918 ≤ 46656) (h13 : 0 ≤ z3391 ∧ z3391 ≤ 46655) (h14 : 1 ≤ z3392 ∧ z3392 ≤ 46656) (h15 : 0 ≤ z3441 ∧ z3441 ≤ 46655) : z3391 < z3392 := by omega
theorem vc_X4_leadBack_26 {f_st n_1852 n_1856 z2918 z2919 z3391 z3392 z3441 : Int} (h0 : 1 ≤ f_st) (h1 : f_st ≤ n_1852) (h2 : f_st ≤ n_1856) (h3 : z2918 ≤ f_st) (h4 : f_st ≤ z2918) (h5 : z3392 ≤ f_st) (h6 : 0 ≤ z3441 ∧ z3441 < f_st) (h7 : z2919 ≤ z2918) (h8 : z3391 ≤ z3392) (h9 : z3391 < z3392) (h10 : 1 ≤ f_st ∧ f_st ≤ 46656) (h11 : 0 ≤ n_1852 ∧ n_1852 ≤ 93312) (h12 : 0 ≤ n_1856 ∧ n_1856 ≤ 93312) (h13 : 1 ≤ z2918 ∧ z2918 ≤ 46656) (h14 : 0 ≤ z2919 ∧ z2919 ≤ 46656) (h15 : 0 ≤ z3391 ∧ z3391 ≤ 46655) (h16 : 1 ≤ z3392 ∧ z3392 ≤ 46656) (h17 : 0 ≤ z3441 ∧ z3441 ≤ 46655) : z3441 < f_st := by omega
theorem vc_X4_leadBack_27 {f_st n_1852 n_1856 z2918 z2919 z3391 z3392 z3441 : Int} (h0 : 1 ≤ f_st) (h1 : f_st ≤ n_1852) (h2 : f_st ≤ n_1856) (h3 : z2918 ≤ f_st) (h4 : f_st ≤ z2918) (h5 : z3392 ≤ f_st) (h6 : 0 ≤ z3441 ∧ z3441 < f_st) (h7 : z2919 ≤ z2918) (h8 : z3391 ≤ z3392) (h9 : z3391 < z3392) (h10 : 1 ≤ f_st ∧ f_st ≤ 46656) (h11 : 0 ≤ n_1852 ∧ n_1852 ≤ 93312) (h12 : 0 ≤ n_1856 ∧ n_1856 ≤ 93312) (h13 : 1 ≤ z2918 ∧ z2918 ≤ 46656) (h14 : 0 ≤ z2919 ∧ z2919 ≤ 46656) (h15 : 0 ≤ z3391 ∧ z3391 ≤ 46655) (h16 : 1 ≤ z3392 ∧ z3392 ≤ 46656) (h17 : 0 ≤ z3441 ∧ z3441 ≤ 46655) : f_st ≤ n_1852 := by omega
theorem vc_X4_leadBack_28 {f_st n_1852 n_1856 z2918 z2919 z3391 z3392 z3441 : Int} (h0 : 1 ≤ f_st) (h1 : f_st ≤ n_1852) (h2 : f_st ≤ n_1856) (h3 : z2918 ≤ f_st) (h4 : f_st ≤ z2918) (h5 : z3392 ≤ f_st) (h6 : 0 ≤ z3441 ∧ z3441 < f_st) (h7 : z2919 ≤ z2918) (h8 : z3391 ≤ z3392) (h9 : z3391 < z3392) (h10 : 1 ≤ f_st ∧ f_st ≤ 46656) (h11 : 0 ≤ n_1852 ∧ n_1852 ≤ 93312) (h12 : 0 ≤ n_1856 ∧ n_1856 ≤ 93312) (h13 : 1 ≤ z2918 ∧ z2918 ≤ 46656) (h14 : 0 ≤ z2919 ∧ z2919 ≤ 46656) (h15 : 0 ≤ z3391 ∧ z3391 ≤ 46655) (h16 : 1 ≤ z3392 ∧ z3392 ≤ 46656) (h17 : 0 ≤ z3441 ∧ z3441 ≤ 46655) : f_st ≤ n_1856 := by omega
theorem vc_X4_leadBack_29 {f_st z3391 z3392 z3472 : Int} (h0 : z3392 ≤ z3472) (h1 : z3391 ≤ z3392) (h2 : z3392 ≤ f_st) (h3 : z3391 < z3392) (h4 : 1 ≤ f_st ∧ f_st ≤ 46656) (h5 : 0 ≤ z3391 ∧ z3391 ≤ 46655) (h6 : 1 ≤ z3392 ∧ z3392 ≤ 46656) (h7 : 0 ≤ z3472 ∧ z3472 ≤ 46656) : 1 ≤ z3472 ∧ z3472 ≤ 46656 := by omega
theorem vc_X4_leadBack_30 {f_st z3391 z3392 z3472 : Int} (h0 : z3391 ≤ z3392) (h1 : z3391 < z3392) (h2 : z3392 ≤ z3472) (h3 : z3392 ≤ f_st) (h4 : 1 ≤ f_st ∧ f_st ≤ 46656) (h5 : 0 ≤ z3391 ∧ z3391 ≤ 46655) (h6 : 1 ≤ z3392 ∧ z3392 ≤ 46656) (h7 : 1 ≤ z3472 ∧ z3472 ≤ 46656) : (z3391 + 1) ≤ z3472 := by omega
theorem vc_X4_leadBack_31 {N f_st z3391 z3392 z3472 : Int} (h0 : (46657 - z3391) < N + 1) (h1 : z3391 ≤ z3392) (h2 : z3391 < z3392) (h3 : z3392 ≤ f_st) (h4 : z3392 ≤ z3472) (h5 : 1 ≤ f_st ∧ f_st ≤ 46656) (h6 : 0 ≤ z3391 ∧ z3391 ≤ 46655) (h7 : 1 ≤ z3392 ∧ z3392 ≤ 46656) (h8 : 1 ≤ z3472 ∧ z3472 ≤ 46656) : (46657 - (z3391 + 1)) < N := by omega
theorem vc_X4_leadBack_32 {f_st z2918 z2919 : Int} (h0 : z2919 ≤ z2918) (h1 : z2918 ≤ f_st) (h2 : f_st ≤ z2918) (h3 : 1 ≤ f_st ∧ f_st ≤ 46656) (h4 : 1 ≤ z2918 ∧ z2918 ≤ 46656) (h5 : 0 ≤ z2919 ∧ z2919 ≤ 46656) : (0 : Int) ≤ z2919 := by omega
theorem vc_X4_leadBack_33  : (46657 - 0) < ((46658 : Nat) : Int) := by omega
theorem vc_X4_leadBack_34 {f_st n_1852 n_1856 z2918 z2919 : Int} (h0 : z2918 < f_st) (h1 : 1 ≤ f_st) (h2 : f_st ≤ n_1852) (h3 : f_st ≤ n_1856) (h4 : z2919 ≤ z2918) (h5 : z2918 ≤ f_st) (h6 : 1 ≤ f_st ∧ f_st ≤ 46656) (h7 : 0 ≤ n_1852 ∧ n_1852 ≤ 93312) (h8 : 0 ≤ n_1856 ∧ n_1856 ≤ 93312) (h9 : 0 ≤ z2918 ∧ z2918 ≤ 46656) (h10 : 0 ≤ z2919 ∧ z2919 ≤ 46656) : 0 ≤ z2918 ∧ z2918 ≤ 46655 := by omega
theorem vc_X4_leadBack_35 {f_st n_1852 n_1856 z2918 z2919 : Int} (h0 : f_st ≤ n_1856) (h1 : z2919 ≤ z2918) (h2 : z2918 ≤ f_st) (h3 : z2918 < f_st) (h4 : 1 ≤ f_st) (h5 : f_st ≤ n_1852) (h6 : 1 ≤ f_st ∧ f_st ≤ 46656) (h7 : 0 ≤ n_1852 ∧ n_1852 ≤ 93312) (h8 : 0 ≤ n_1856 ∧ n_1856 ≤ 93312) (h9 : 0 ≤ z2918 ∧ z2918 ≤ 46655) (h10 : 0 ≤ z2919 ∧ z2919 ≤ 46656) : 0 ≤ z2918 ∧ z2918 < n_1856 := by omega
theorem vc_X4_leadBack_36 {z3478 : Int} (h0 : z3478 = 0) (h1 : 0 ≤ z3478 ∧ z3478 ≤ 2) : 0 ≤ z3478 ∧ z3478 ≤ 0 := by omega
theorem vc_X4_leadBack_37 {f_st n_1852 n_1856 z2918 z2919 : Int} (h0 : z2919 ≤ z2918) (h1 : z2918 ≤ f_st) (h2 : z2918 < f_st) (h3 : 1 ≤ f_st) (h4 : f_st ≤ n_1852) (h5 : f_st ≤ n_1856) (h6 : 1 ≤ f_st ∧ f_st ≤ 46656) (h7 : 0 ≤ n_1852 ∧ n_1852 ≤ 93312) (h8 : 0 ≤ n_1856 ∧ n_1856 ≤ 93312) (h9 : 0 ≤ z2918 ∧ z2918 ≤ 46655) (h10 : 0 ≤ z2919 ∧ z2919 ≤ 46656) : z2919 ≤ (z2918 + 1) := by omega
theorem vc_X4_leadBack_38 {f_st n_1852 n_1856 z2918 z2919 : Int} (h0 : 1 ≤ f_st) (h1 : f_st ≤ n_1852) (h2 : f_st ≤ n_1856) (h3 : z2919 ≤ z2918) (h4 : z2918 ≤ f_st) (h5 : z2918 < f_st) (h6 : 1 ≤ f_st ∧ f_st ≤ 46656) (h7 : 0 ≤ n_1852 ∧ n_1852 ≤ 93312) (h8 : 0 ≤ n_1856 ∧ n_1856 ≤ 93312) (h9 : 0 ≤ z2918 ∧ z2918 ≤ 46655) (h10 : 0 ≤ z2919 ∧ z2919 ≤ 46656) : (z2918 + 1) ≤ f_st := by omega
theorem vc_X4_leadBack_39 {N f_st n_1852 n_1856 z2918 z2919 : Int} (h0 : (46657 - z2918) < N + 1) (h1 : z2919 ≤ z2918) (h2 : z2918 ≤ f_st) (h3 : z2918 < f_st) (h4 : 1 ≤ f_st) (h5 : f_st ≤ n_1852) (h6 : f_st ≤ n_1856) (h7 : 1 ≤ f_st ∧ f_st ≤ 46656) (h8 : 0 ≤ n_1852 ∧ n_1852 ≤ 93312) (h9 : 0 ≤ n_1856 ∧ n_1856 ≤ 93312) (h10 : 0 ≤ z2918 ∧ z2918 ≤ 46655) (h11 : 0 ≤ z2919 ∧ z2919 ≤ 46656) : (46657 - (z2918 + 1)) < N := by omega
theorem vc_X4_leadBack_40 {f_st n_1852 n_1856 z2918 z2919 : Int} (h0 : z2919 ≤ z2918) (h1 : z2918 ≤ f_st) (h2 : z2918 < f_st) (h3 : 1 ≤ f_st) (h4 : f_st ≤ n_1852) (h5 : f_st ≤ n_1856) (h6 : 1 ≤ f_st ∧ f_st ≤ 46656) (h7 : 0 ≤ n_1852 ∧ n_1852 ≤ 93312) (h8 : 0 ≤ n_1856 ∧ n_1856 ≤ 93312) (h9 : 0 ≤ z2918 ∧ z2918 ≤ 46655) (h10 : 0 ≤ z2919 ∧ z2919 ≤ 46656) : z2918 ≤ z2918 + 1 := by omega
theorem vc_X4_leadBack_41 {z3478 : Int} (h0 : ¬ z3478 = 0) (h1 : 0 ≤ z3478 ∧ z3478 ≤ 2) : 1 ≤ z3478 ∧ z3478 ≤ 2 := by omega
theorem vc_X4_leadBack_42 {z3478 : Int} (h0 : ¬ z3478 = 0) (h1 : 1 ≤ z3478 ∧ z3478 ≤ 2) : ¬ z3478 = 0 := by omega
theorem vc_X4_leadBack_43 {f_st n_1852 n_1856 z2918 z2919 : Int} (h0 : f_st ≤ n_1852) (h1 : z2919 ≤ z2918) (h2 : 1 ≤ f_st) (h3 : f_st ≤ n_1856) (h4 : z2918 ≤ f_st) (h5 : z2918 < f_st) (h6 : 1 ≤ f_st ∧ f_st ≤ 46656) (h7 : 0 ≤ n_1852 ∧ n_1852 ≤ 93312) (h8 : 0 ≤ n_1856 ∧ n_1856 ≤ 93312) (h9 : 0 ≤ z2918 ∧ z2918 ≤ 46655) (h10 : 0 ≤ z2919 ∧ z2919 ≤ 46656) : 0 ≤ z2919 ∧ z2919 < n_1852 := by omega
theorem vc_X4_leadBack_44 {f_st z2918 z2919 : Int} (h0 : z2919 ≤ z2918) (h1 : z2918 ≤ f_st) (h2 : z2918 < f_st) (h3 : 1 ≤ f_st ∧ f_st ≤ 46656) (h4 : 0 ≤ z2918 ∧ z2918 ≤ 46655) (h5 : 0 ≤ z2919 ∧ z2919 ≤ 46656) : 0 ≤ z2919 := by omega
theorem vc_X4_leadBack_45 {f_st n_1852 n_1856 z2918 z2919 : Int} (h0 : z2919 ≤ z2918) (h1 : z2918 ≤ f_st) (h2 : z2918 < f_st) (h3 : 1 ≤ f_st) (h4 : f_st ≤ n_1852) (h5 : f_st ≤ n_1856) (h6 : 1 ≤ f_st ∧ f_st ≤ 46656) (h7 : 0 ≤ n_1852 ∧ n_1852 ≤ 93312) (h8 : 0 ≤ n_1856 ∧ n_1856 ≤ 93312) (h9 : 0 ≤ z2918 ∧ z2918 ≤ 46655) (h10 : 0 ≤ z2919 ∧ z2919 ≤ 46656) : 0 ≤ z2918 := by omega
theorem vc_X4_leadBack_46 {f_st z2918 z2919 : Int} (h0 : z2919 ≤ z2918) (h1 : z2918 ≤ f_st) (h2 : z2918 < f_st) (h3 : 1 ≤ f_st ∧ f_st ≤ 46656) (h4 : 0 ≤ z2918 ∧ z2918 ≤ 46655) (h5 : 0 ≤ z2919 ∧ z2919 ≤ 46656) : 0 ≤ (z2919 + 1) ∧ (z2919 + 1) ≤ 46656 := by omega
theorem vc_X4_leadBack_47 {f_st n_1852 n_1856 z2918 z2919 : Int} (h0 : z2919 ≤ z2918) (h1 : z2918 ≤ f_st) (h2 : z2918 < f_st) (h3 : 1 ≤ f_st) (h4 : f_st ≤ n_1852) (h5 : f_st ≤ n_1856) (h6 : 1 ≤ f_st ∧ f_st ≤ 46656) (h7 : 0 ≤ n_1852 ∧ n_1852 ≤ 93312) (h8 : 0 ≤ n_1856 ∧ n_1856 ≤ 93312) (h9 : 0 ≤ z2918 ∧ z2918 ≤ 46655) (h10 : 0 ≤ z2919 ∧ z2919 ≤ 46656) : (z2919 + 1) ≤ (z2918 + 1) := by omega
theorem vc_X4_leadBack_48  : ((0 : Int) : Int) ≤ ((0 : Int) : Int) := by omega
theorem vc_X4_leadBack_49 {f_st n_1852 n_1856 : Int} (h0 : 1 ≤ f_st) (h1 : f_st ≤ n_1852) (h2 : f_st ≤ n_1856) (h3 : 1 ≤ f_st ∧ f_st ≤ 46656) (h4 : 0 ≤ n_1852 ∧ n_1852 ≤ 93312) (h5 : 0 ≤ n_1856 ∧ n_1856 ≤ 93312) : (0 : Int) ≤ f_st := by omega
set_option maxRecDepth 4000 in
set_option maxHeartbeats 4000000 in
theorem c_X4_leadBack {l : Launch} {D : va_G} {c : Nat → ClassId} {H0 : Heap} {sa : Nat × Nat × (Nat → Int32)} {w : mW} {μ : mM} (hw : mWF w) (hT : mT w μ) {f_st : Int} (q_f_st : μ 94 9 = f_st) {bq : Nat} (q_bq : μ 94 6 = (bq : Int)) (hA_bq : mAt w bq 102) {bf : Nat} (q_bf : μ 94 8 = (bf : Int)) (hA_bf : mAt w bf 104) (hq0 : 1 ≤ f_st) (hlq : μ 94 9 ≤ (w.2.2.1 bq : Int)) (hlf : μ 94 9 ≤ (w.2.2.1 bf : Int)) (hrx : radix μ 100 95 f_st) : sC (gG l D c H0 sa) mX4_leadBack 3 0 0 [.ref 94] (mk w μ) (qI w [101999, 102999, 104999] μ (fun z μ1 => (0 ≤ z ∧ z ≤ 46656) ∧ True)) := by
  refine sC.of rfl (by decide) (le_t rfl) ?_
  have ht_f_st : (0 ≤ f_st ∧ f_st ≤ 46656) := by rw [← q_f_st]; exact hT 94 94 (A_94 hw) 9
  have h1 : 1 ≤ f_st ∧ f_st ≤ 46656 := (vc_X4_leadBack_1 hq0 ht_f_st)
  refine mr_lvE (lv' := [(0, .ref 94)]) rfl ?_
  obtain ⟨n_1852, q1853⟩ : ∃ n : Int, (w.2.2.1 bq : Int) = n := ⟨_, rfl⟩
  have h1854 : 0 ≤ n_1852 ∧ n_1852 ≤ 93312 := lnR (m := 93312) q1853 hA_bq rfl
  have h1855 : f_st ≤ n_1852 := lenLe hlq q_f_st q1853
  obtain ⟨n_1856, q1857⟩ : ∃ n : Int, (w.2.2.1 bf : Int) = n := ⟨_, rfl⟩
  have h1858 : 0 ≤ n_1856 ∧ n_1856 ≤ 93312 := lnR (m := 93312) q1857 hA_bf rfl
  have h1859 : f_st ≤ n_1856 := lenLe hlf q_f_st q1857
  obtain ⟨z1860, q1861⟩ : ∃ z, μ 100 ((1 : Int).toNat) = z := ⟨_, rfl⟩
  have h1862 : (0 ≤ z1860 ∧ z1860 ≤ 46656) := by rw [← q1861]; exact hT 100 100 (A_100 hw) ((1 : Int).toNat)
  have h1863 : 1 ≤ z1860 := by have h : 0 < μ 100 ((1 : Int).toNat) := hrx.1.1; rw [q1861] at h; omega
  have h1864 : 1 ≤ z1860 ∧ z1860 ≤ 46656 := (vc_X4_leadBack_2 h1863 h1862)
  obtain ⟨z1865, q1866⟩ : ∃ z, μ 100 ((2 : Int).toNat) = z := ⟨_, rfl⟩
  have h1867 : (0 ≤ z1865 ∧ z1865 ≤ 46656) := by rw [← q1866]; exact hT 100 100 (A_100 hw) ((2 : Int).toNat)
  have h1868 : 1 ≤ z1865 := by have h : 0 < μ 100 ((2 : Int).toNat) := hrx.2.1.1; rw [q1866] at h; omega
  have h1869 : 1 ≤ z1865 ∧ z1865 ≤ 46656 := (vc_X4_leadBack_3 h1868 h1867)
  obtain ⟨z1870, q1871⟩ : ∃ z, μ 100 ((3 : Int).toNat) = z := ⟨_, rfl⟩
  have h1872 : (0 ≤ z1870 ∧ z1870 ≤ 46656) := by rw [← q1871]; exact hT 100 100 (A_100 hw) ((3 : Int).toNat)
  have h1873 : 1 ≤ z1870 := by have h : 0 < μ 100 ((3 : Int).toNat) := hrx.2.2.1.1; rw [q1871] at h; omega
  have h1874 : 1 ≤ z1870 ∧ z1870 ≤ 46656 := (vc_X4_leadBack_4 h1873 h1872)
  obtain ⟨z1875, q1876⟩ : ∃ z, μ 100 ((4 : Int).toNat) = z := ⟨_, rfl⟩
  have h1877 : (0 ≤ z1875 ∧ z1875 ≤ 46656) := by rw [← q1876]; exact hT 100 100 (A_100 hw) ((4 : Int).toNat)
  have h1878 : 1 ≤ z1875 := by have h : 0 < μ 100 ((4 : Int).toNat) := hrx.2.2.2.1.1; rw [q1876] at h; omega
  have h1879 : 1 ≤ z1875 ∧ z1875 ≤ 46656 := (vc_X4_leadBack_5 h1878 h1877)
  obtain ⟨z1880, q1881⟩ : ∃ z, μ 100 ((5 : Int).toNat) = z := ⟨_, rfl⟩
  have h1882 : (0 ≤ z1880 ∧ z1880 ≤ 46656) := by rw [← q1881]; exact hT 100 100 (A_100 hw) ((5 : Int).toNat)
  have h1883 : 1 ≤ z1880 := by have h : 0 < μ 100 ((5 : Int).toNat) := hrx.2.2.2.2.1.1; rw [q1881] at h; omega
  have h1884 : 1 ≤ z1880 ∧ z1880 ≤ 46656 := (vc_X4_leadBack_6 h1883 h1882)
  obtain ⟨z1885, q1886⟩ : ∃ z, μ 100 ((6 : Int).toNat) = z := ⟨_, rfl⟩
  have h1887 : (0 ≤ z1885 ∧ z1885 ≤ 46656) := by rw [← q1886]; exact hT 100 100 (A_100 hw) ((6 : Int).toNat)
  have h1888 : 1 ≤ z1885 := by have h : 0 < μ 100 ((6 : Int).toNat) := hrx.2.2.2.2.2.1; rw [q1886] at h; omega
  have h1889 : 1 ≤ z1885 ∧ z1885 ≤ 46656 := (vc_X4_leadBack_7 h1888 h1887)
  refine mr_iconst (pc := 0) (z := 0) dX4_leadBack_0 ?_
  refine mr_istore_n (pc := 1) (lv' := [(1, iv 0), (0, .ref 94)]) dX4_leadBack_1 rfl (by decide) rfl ?_
  refine mr_iconst (pc := 2) (z := 0) dX4_leadBack_2 ?_
  refine mr_istore_n (pc := 3) (lv' := [(2, iv 0), (1, iv 0), (0, .ref 94)]) dX4_leadBack_3 rfl (by decide) rfl ?_
  have L2921 : ∀ (nL2921 : Nat) (z2919 z2918 : Int) (μ2920 : mM), mT w μ2920 → mF [102999] w μ μ2920 → (0 ≤ z2919 ∧ z2919 ≤ 46656) → (0 ≤ z2918 ∧ z2918 ≤ 46656) → (z2919 ≤ z2918) → (z2918 ≤ f_st) → quC μ2920 bq bf z2919 z2918 1 → (46657 - z2918) < (nL2921 : Int) → sV (gG l D c H0 sa) mX4_leadBack (sRm 3 0 0) (sZ (gG l D c H0 sa) 0 0 (qI w [101999, 102999, 104999] μ (fun z μ1 => (0 ≤ z ∧ z ≤ 46656) ∧ True))) 4 [(0, .ref 94), (1, iv z2919), (2, iv z2918)] [] (mk w μ2920) 0 0 := by
    intro nL2921
    induction nL2921 with
    | zero => intro z2919 z2918 μ2920 T2924 F2925 h2922 h2923 h2927 h2928 R2929 h2930; exact ((vc_X4_leadBack_8 h2930 h2927 h2928 hq0 h1855 h1859 h1 h1854 h1858 h2923 h2922)).elim
    | succ nL2921 ih2931 =>
      intro z2919 z2918 μ2920 T2924 F2925 h2922 h2923 h2927 h2928 R2929 h2930
      refine mr_iload_n (pc := 4) (z := z2918) dX4_leadBack_4 rfl rfl ?_
      refine sv_aload_n (pc := 5) dX4_leadBack_5 rfl rfl ?_
      refine gk_X4_9 (pc := 6) dX4_leadBack_6 wF_X4_59 (A_94 hw) (F2925.f (A_94 hw) rfl q_f_st) ?_
      refine mr_icmp_ge (pc := 9) (tgt := 39) dX4_leadBack_9 (by decide) (r32 h2923 rfl) (r32 h1 rfl) (fun h2945 => ?_) (fun h2945 => ?_)
      · have h2946 : 1 ≤ z2918 ∧ z2918 ≤ 46656 := (vc_X4_leadBack_9 h2945 hq0 h1855 h1859 h2927 h2928 h1 h1854 h1858 h2923 h2922)
        refine mr_iconst (pc := 39) (z := 0) dX4_leadBack_39 ?_
        refine mr_istore_n (pc := 40) (lv' := [(2, iv 0), (0, .ref 94), (1, iv z2919)]) dX4_leadBack_40 rfl (by decide) rfl ?_
        have L3394 : ∀ (nL3394 : Nat) (z3392 z3391 : Int) (μ3393 : mM), mT w μ3393 → mF [101999, 102999, 104999] w μ2920 μ3393 → (0 ≤ z3392 ∧ z3392 ≤ 46656) → (0 ≤ z3391 ∧ z3391 ≤ 46656) → (z3391 ≤ z3392) → quC μ3393 bq bf z3392 f_st 1 → (46657 - z3391) < (nL3394 : Int) → sV (gG l D c H0 sa) mX4_leadBack (sRm 3 0 0) (sZ (gG l D c H0 sa) 0 0 (qI w [101999, 102999, 104999] μ (fun z μ1 => (0 ≤ z ∧ z ≤ 46656) ∧ True))) 41 [(0, .ref 94), (1, iv z3392), (2, iv z3391)] [] (mk w μ3393) 0 0 := by
          intro nL3394
          induction nL3394 with
          | zero => intro z3392 z3391 μ3393 T3397 F3398 h3395 h3396 h3400 R3401 h3402; exact ((vc_X4_leadBack_11 h3402 h3400 h3396 h3395)).elim
          | succ nL3394 ih3403 =>
            intro z3392 z3391 μ3393 T3397 F3398 h3395 h3396 h3400 R3401 h3402
            refine mr_iload_n (pc := 41) (z := z3391) dX4_leadBack_41 rfl rfl ?_
            have h3404 : z3392 ≤ f_st := quC.pig R3401 (vc_X4_leadBack_12 hq0 h1855 h1859 h2928 h2945 h2927 h1 h1854 h1858 h2946 h2922)
            refine mr_iload_n (pc := 42) (z := z3392) dX4_leadBack_42 rfl rfl ?_
            refine mr_icmp_ge (pc := 43) (tgt := 74) dX4_leadBack_43 (by decide) (r32 h3396 rfl) (r32 h3395 rfl) (fun h3438 => ?_) (fun h3438 => ?_)
            · refine mr_iload_n (pc := 74) (z := z3392) dX4_leadBack_74 rfl rfl ?_
              exact mr_iret dX4_leadBack_75 rfl (le_t rfl) (le_t rfl) T3397 (mF.call (mF.call mF.refl F2925 rfl) F3398 rfl) ⟨h3395, trivial⟩
            have h3439 : 0 ≤ z3391 ∧ z3391 ≤ 46655 := (vc_X4_leadBack_13 h3438 h3400 h3404 h1 h3396 h3395)
            have h3440 : 1 ≤ z3392 ∧ z3392 ≤ 46656 := (vc_X4_leadBack_14 h3438 h3400 h3404 h1 h3439 h3395)
            refine sv_aload_n (pc := 46) dX4_leadBack_46 rfl rfl ?_
            refine sv_aload_n (pc := 47) dX4_leadBack_47 rfl rfl ?_
            refine gk_X4_6 (pc := 48) dX4_leadBack_48 wF_X4_33 (A_94 hw) (F3398.f (A_94 hw) rfl (F2925.f (A_94 hw) rfl q_bq)) ?_
            refine mr_iload_n (pc := 51) (z := z3391) dX4_leadBack_51 rfl rfl ?_
            refine la_102 (pc := 52) dX4_leadBack_52 hA_bq T3397 (lnC q1853 (vc_X4_leadBack_15 h1855 h3400 h3438 hq0 h1859 h2928 h2945 h3404 h1 h1854 h1858 h2946 h3439 h3440)) fun z3441 q3442 h3443 => ?_
            have h3444 : 0 ≤ z3441 ∧ z3441 < f_st := quC.st R3401 (vc_X4_leadBack_16 h3400 h3438 h3404 h1 h3439 h3440) (vc_X4_leadBack_17 h3400 h3404 h3438 hq0 h1855 h1859 h2928 h2945 h1 h1854 h1858 h2946 h3439 h3440) q3442
            obtain ⟨z3445, q3446⟩ : ∃ z, μ3393 95 ((1 : Int).toNat) = z := ⟨_, rfl⟩
            have h3447 : (0 ≤ z3445 ∧ z3445 ≤ 5) := by rw [← q3446]; exact T3397 95 95 (A_95 hw) ((1 : Int).toNat)
            obtain ⟨z3448, q3449⟩ : ∃ z, μ3393 95 ((2 : Int).toNat) = z := ⟨_, rfl⟩
            have h3450 : (0 ≤ z3448 ∧ z3448 ≤ 5) := by rw [← q3449]; exact T3397 95 95 (A_95 hw) ((2 : Int).toNat)
            obtain ⟨z3451, q3452⟩ : ∃ z, μ3393 95 ((3 : Int).toNat) = z := ⟨_, rfl⟩
            have h3453 : (0 ≤ z3451 ∧ z3451 ≤ 5) := by rw [← q3452]; exact T3397 95 95 (A_95 hw) ((3 : Int).toNat)
            obtain ⟨z3454, q3455⟩ : ∃ z, μ3393 95 ((4 : Int).toNat) = z := ⟨_, rfl⟩
            have h3456 : (0 ≤ z3454 ∧ z3454 ≤ 5) := by rw [← q3455]; exact T3397 95 95 (A_95 hw) ((4 : Int).toNat)
            obtain ⟨z3457, q3458⟩ : ∃ z, μ3393 95 ((5 : Int).toNat) = z := ⟨_, rfl⟩
            have h3459 : (0 ≤ z3457 ∧ z3457 ≤ 5) := by rw [← q3458]; exact T3397 95 95 (A_95 hw) ((5 : Int).toNat)
            obtain ⟨z3460, q3461⟩ : ∃ z, μ3393 95 ((6 : Int).toNat) = z := ⟨_, rfl⟩
            have h3462 : (0 ≤ z3460 ∧ z3460 ≤ 5) := by rw [← q3461]; exact T3397 95 95 (A_95 hw) ((6 : Int).toNat)
            refine mr_cVV (pc := 53) (c_X4_unfold_r hw T3397 h3443 (F3398.f (A_100 hw) rfl (F2925.f (A_100 hw) rfl q1861)) (F3398.f (A_100 hw) rfl (F2925.f (A_100 hw) rfl q1866)) (F3398.f (A_100 hw) rfl (F2925.f (A_100 hw) rfl q1871)) (F3398.f (A_100 hw) rfl (F2925.f (A_100 hw) rfl q1876)) (F3398.f (A_100 hw) rfl (F2925.f (A_100 hw) rfl q1881)) (F3398.f (A_100 hw) rfl (F2925.f (A_100 hw) rfl q1886)) q3446 q3449 q3452 q3455 q3458 q3461 (vc_X4_leadBack_18 h1863 h1864) (vc_X4_leadBack_19 h1868 h1869) (vc_X4_leadBack_20 h1873 h1874) (vc_X4_leadBack_21 h1878 h1879) (vc_X4_leadBack_22 h1883 h1884) (vc_X4_leadBack_23 h1888 h1889)) (gOk _ _ _ _ _) dX4_leadBack_53 (tX4_unfold _ _ _ _ _) ⟨wV_X4_unfold, wL_X4_unfold⟩ wM_X4_85 (gCX4 _ _ _ _ _) rfl (A_94 hw) rfl ⟨le_t rfl, le_t rfl⟩ ⟨le_t rfl, le_t rfl⟩ rfl (le_t rfl) fun μ3463 T3464 F3465 h3466 => ?_
            refine sv_aload_n (pc := 56) dX4_leadBack_56 rfl rfl ?_
            refine sv_aload_n (pc := 57) dX4_leadBack_57 rfl rfl ?_
            refine gk_X4_6 (pc := 58) dX4_leadBack_58 wF_X4_33 (A_94 hw) (F3465.f (A_94 hw) rfl (F3398.f (A_94 hw) rfl (F2925.f (A_94 hw) rfl q_bq))) ?_
            refine mr_iload_n (pc := 61) (z := z3391) dX4_leadBack_61 rfl rfl ?_
            refine lk_102 (pc := 62) dX4_leadBack_62 hA_bq (lnC q1853 (vc_X4_leadBack_24 h1855 h3400 h3438 hq0 h1859 h2928 h2945 h3404 h3444 h1 h1854 h1858 h2946 h3439 h3440 h3443)) (F3465.f hA_bq rfl q3442) ?_
            have h3467 : 0 ≤ z3441 ∧ z3441 < f_st := quC.st (quC.keep R3401 ((mF.call mF.refl F3465 rfl) : mF [101999] w μ3393 μ3463) hA_bq hA_bf (fun _ => rfl) (fun _ => rfl)) (vc_X4_leadBack_16 h3400 h3438 h3404 h1 h3439 h3440) (vc_X4_leadBack_25 h3400 h3404 h3438 hq0 h1855 h1859 h2928 h2945 h3444 h1 h1854 h1858 h2946 h3439 h3440 h3443) (F3465.f hA_bq rfl q3442)
            refine mr_iload_n (pc := 63) (z := z3392) dX4_leadBack_63 rfl rfl ?_
            refine mr_cVI (pc := 64) (c_X4_addSources hw T3464 h3443 (rW (c := 0) (d := 46656) h3440 rfl) (F3465.f (A_94 hw) rfl (F3398.f (A_94 hw) rfl (F2925.f (A_94 hw) rfl q_f_st))) (F3465.f (A_94 hw) rfl (F3398.f (A_94 hw) rfl (F2925.f (A_94 hw) rfl q_bq))) hA_bq (F3465.f (A_94 hw) rfl (F3398.f (A_94 hw) rfl (F2925.f (A_94 hw) rfl q_bf))) hA_bf (vc_X4_leadBack_26 hq0 h1855 h1859 h2928 h2945 h3404 h3444 h2927 h3400 h3438 h1 h1854 h1858 h2946 h2922 h3439 h3440 h3443) (lenGe (F3465.f (A_94 hw) rfl (F3398.f (A_94 hw) rfl (F2925.f (A_94 hw) rfl q_f_st))) q1853 (vc_X4_leadBack_27 hq0 h1855 h1859 h2928 h2945 h3404 h3444 h2927 h3400 h3438 h1 h1854 h1858 h2946 h2922 h3439 h3440 h3443)) (lenGe (F3465.f (A_94 hw) rfl (F3398.f (A_94 hw) rfl (F2925.f (A_94 hw) rfl q_f_st))) q1857 (vc_X4_leadBack_28 hq0 h1855 h1859 h2928 h2945 h3404 h3444 h2927 h3400 h3438 h1 h1854 h1858 h2946 h2922 h3439 h3440 h3443)) (radix.keep hrx ((mF.call (mF.call (mF.call mF.refl F2925 rfl) F3398 rfl) F3465 rfl) : mF [101999, 102999, 104999] w μ μ3463) (A_100 hw) (A_95 hw) (fun _ => rfl) (fun _ => rfl)) h3466.1 (quC.keep R3401 ((mF.call mF.refl F3465 rfl) : mF [101999] w μ3393 μ3463) hA_bq hA_bf (fun _ => rfl) (fun _ => rfl))) (gOk _ _ _ _ _) dX4_leadBack_64 (tX4_addSources _ _ _ _ _) ⟨wV_X4_addSources, wL_X4_addSources⟩ wM_X4_127 (gCX4 _ _ _ _ _) rfl (A_94 hw) rfl ⟨le_t rfl, le_t rfl⟩ ⟨le_t rfl, le_t rfl⟩ rfl (le_t rfl) fun z3472 μ3468 T3469 F3470 h3471 => ?_
            have h3473 : 1 ≤ z3472 ∧ z3472 ≤ 46656 := (vc_X4_leadBack_29 h3471.2.1 h3400 h3404 h3438 h1 h3439 h3440 h3471.1)
            refine mr_istore_n (pc := 67) (lv' := [(1, iv z3472), (0, .ref 94), (2, iv z3391)]) dX4_leadBack_67 rfl (by decide) rfl ?_
            refine mr_iinc (pc := 68) (lv' := [(2, iv (z3391 + 1)), (1, iv z3472), (0, .ref 94)]) dX4_leadBack_68 rfl (by decide) rfl ?_
            refine sv_goto (pc := 71) (tgt := 41) dX4_leadBack_71 (by decide) ?_
            refine mr_lvS (lv' := [(0, .ref 94), (1, iv z3472), (2, iv (z3391 + 1))]) (List.forall_mem_cons.mpr ⟨rfl, List.forall_mem_cons.mpr ⟨rfl, List.forall_mem_cons.mpr ⟨rfl, fun _ h => absurd h List.not_mem_nil⟩⟩⟩) ?_
            exact ih3403 z3472 (z3391 + 1) μ3468 T3469 (mF.call (mF.call (mF.call mF.refl F3398 rfl) F3465 rfl) F3470 rfl) (rW (c := 0) (d := 46656) h3473 rfl) (rW (c := 0) (d := 46656) (rAdd (e := 1) (f := 46656) h3439 (rR (x := 1)) rfl) rfl) (vc_X4_leadBack_30 h3400 h3438 h3471.2.1 h3404 h1 h3439 h3440 h3473) h3471.2.2.1 (vc_X4_leadBack_31 (nS h3402) h3400 h3438 h3404 h3471.2.1 h1 h3439 h3440 h3473)
        refine mr_lvS (lv' := [(0, .ref 94), (1, iv z2919), (2, iv 0)]) (List.forall_mem_cons.mpr ⟨rfl, List.forall_mem_cons.mpr ⟨rfl, List.forall_mem_cons.mpr ⟨rfl, fun _ h => absurd h List.not_mem_nil⟩⟩⟩) ?_
        exact L3394 46658 z2919 0 μ2920 T2924 mF.refl h2922 (rW (c := 0) (d := 46656) (rR (x := 0)) rfl) (vc_X4_leadBack_32 h2927 h2928 h2945 h1 h2946 h2922) (quC.up R2929 (vc_X4_leadBack_10 hq0 h1855 h1859 h2927 h2928 h2945 h1 h1854 h1858 h2946 h2922)) vc_X4_leadBack_33
      have h3474 : 0 ≤ z2918 ∧ z2918 ≤ 46655 := (vc_X4_leadBack_34 h2945 hq0 h1855 h1859 h2927 h2928 h1 h1854 h1858 h2923 h2922)
      refine sv_aload_n (pc := 12) dX4_leadBack_12 rfl rfl ?_
      refine gk_X4_8 (pc := 13) dX4_leadBack_13 wF_X4_39 (A_94 hw) (F2925.f (A_94 hw) rfl q_bf) ?_
      refine mr_iload_n (pc := 16) (z := z2918) dX4_leadBack_16 rfl rfl ?_
      refine la_104 (pc := 17) dX4_leadBack_17 hA_bf T2924 (lnC q1857 (vc_X4_leadBack_35 h1859 h2927 h2928 h2945 hq0 h1855 h1 h1854 h1858 h3474 h2922)) fun z3475 q3476 h3477 => ?_
      refine mr_iconst (pc := 18) (z := 2) dX4_leadBack_18 ?_
      refine mr_iand (pc := 19) (x := z3475) (y := 2) dX4_leadBack_19 ?_
      refine mr_gen (P := fun z => 0 ≤ z ∧ z ≤ 2) (rAndR (rR (x := 2)) rfl) fun z3478 q3479 h3480 => ?_
      refine mr_if_eq (pc := 20) (tgt := 33) dX4_leadBack_20 (by decide) (r32 h3480 rfl) (fun h3481 => ?_) (fun h3481 => ?_)
      · have h3482 : 0 ≤ z3478 ∧ z3478 ≤ 0 := (vc_X4_leadBack_36 h3481 h3480)
        refine mr_iinc (pc := 33) (lv' := [(2, iv (z2918 + 1)), (0, .ref 94), (1, iv z2919)]) dX4_leadBack_33 rfl (by decide) rfl ?_
        refine sv_goto (pc := 36) (tgt := 4) dX4_leadBack_36 (by decide) ?_
        refine mr_lvS (lv' := [(0, .ref 94), (1, iv z2919), (2, iv (z2918 + 1))]) (List.forall_mem_cons.mpr ⟨rfl, List.forall_mem_cons.mpr ⟨rfl, List.forall_mem_cons.mpr ⟨rfl, fun _ h => absurd h List.not_mem_nil⟩⟩⟩) ?_
        exact ih2931 z2919 (z2918 + 1) μ2920 T2924 (mF.call mF.refl F2925 rfl) h2922 (rW (c := 0) (d := 46656) (rAdd (e := 1) (f := 46656) h3474 (rR (x := 1)) rfl) rfl) (vc_X4_leadBack_37 h2927 h2928 h2945 hq0 h1855 h1859 h1 h1854 h1858 h3474 h2922) (vc_X4_leadBack_38 hq0 h1855 h1859 h2927 h2928 h2945 h1 h1854 h1858 h3474 h2922) (quC.up R2929 (vc_X4_leadBack_40 h2927 h2928 h2945 hq0 h1855 h1859 h1 h1854 h1858 h3474 h2922)) (vc_X4_leadBack_39 (nS h2930) h2927 h2928 h2945 hq0 h1855 h1859 h1 h1854 h1858 h3474 h2922)
      have h3483 : 1 ≤ z3478 ∧ z3478 ≤ 2 := (vc_X4_leadBack_41 h3481 h3480)
      refine sv_aload_n (pc := 23) dX4_leadBack_23 rfl rfl ?_
      refine gk_X4_6 (pc := 24) dX4_leadBack_24 wF_X4_33 (A_94 hw) (F2925.f (A_94 hw) rfl q_bq) ?_
      refine mr_iload_n (pc := 27) (z := z2919) dX4_leadBack_27 rfl rfl ?_
      refine mr_iload_n (pc := 28) (z := z2918) dX4_leadBack_28 rfl rfl ?_
      refine ss_102 (pc := 29) dX4_leadBack_29 hA_bq T2924 (lnC q1853 (vc_X4_leadBack_43 h1855 h2927 hq0 h1859 h2928 h2945 h1 h1854 h1858 h3474 h2922)) h3474 fun μ3484 u3485 T3486 => ?_
      have Q3487 := quA.add R2929 (mAt.ne hA_bq hA_bf rfl) (vc_X4_leadBack_44 h2927 h2928 h2945 h1 h3474 h2922) (vc_X4_leadBack_45 h2927 h2928 h2945 hq0 h1855 h1859 h1 h1854 h1858 h3474 h2922) q3476 (flagA q3479 (vc_X4_leadBack_42 h3481 h3483)) u3485
      refine mr_iinc (pc := 30) (lv' := [(1, iv (z2919 + 1)), (0, .ref 94), (2, iv z2918)]) dX4_leadBack_30 rfl (by decide) rfl ?_
      refine mr_iinc (pc := 33) (lv' := [(2, iv (z2918 + 1)), (1, iv (z2919 + 1)), (0, .ref 94)]) dX4_leadBack_33 rfl (by decide) rfl ?_
      refine sv_goto (pc := 36) (tgt := 4) dX4_leadBack_36 (by decide) ?_
      refine mr_lvS (lv' := [(0, .ref 94), (1, iv (z2919 + 1)), (2, iv (z2918 + 1))]) (List.forall_mem_cons.mpr ⟨rfl, List.forall_mem_cons.mpr ⟨rfl, List.forall_mem_cons.mpr ⟨rfl, fun _ h => absurd h List.not_mem_nil⟩⟩⟩) ?_
      exact ih2931 (z2919 + 1) (z2918 + 1) μ3484 T3486 (mF.up (mF.call mF.refl F2925 rfl) hA_bq u3485 rfl) (vc_X4_leadBack_46 h2927 h2928 h2945 h1 h3474 h2922) (rW (c := 0) (d := 46656) (rAdd (e := 1) (f := 46656) h3474 (rR (x := 1)) rfl) rfl) (vc_X4_leadBack_47 h2927 h2928 h2945 hq0 h1855 h1859 h1 h1854 h1858 h3474 h2922) (vc_X4_leadBack_38 hq0 h1855 h1859 h2927 h2928 h2945 h1 h1854 h1858 h3474 h2922) Q3487 (vc_X4_leadBack_39 (nS h2930) h2927 h2928 h2945 hq0 h1855 h1859 h1 h1854 h1858 h3474 h2922)
  refine mr_lvS (lv' := [(0, .ref 94), (1, iv 0), (2, iv 0)]) (List.forall_mem_cons.mpr ⟨rfl, List.forall_mem_cons.mpr ⟨rfl, List.forall_mem_cons.mpr ⟨rfl, fun _ h => absurd h List.not_mem_nil⟩⟩⟩) ?_
  exact L2921 46658 0 0 μ hT mF.refl (rW (c := 0) (d := 46656) (rR (x := 0)) rfl) (rW (c := 0) (d := 46656) (rR (x := 0)) rfl) vc_X4_leadBack_48 (vc_X4_leadBack_49 hq0 h1855 h1859 h1 h1854 h1858) quC.zero vc_X4_leadBack_33
theorem vc_X4_wayInRest_1 {n_1 p1 : Int} (h0 : p1 < n_1) (h1 : 0 ≤ n_1 ∧ n_1 ≤ 93312) (h2 : 0 ≤ p1 ∧ p1 ≤ 46655) : 0 ≤ p1 ∧ p1 < n_1 := by omega
set_option maxRecDepth 4000 in
set_option maxHeartbeats 4000000 in
theorem c_X4_wayInRest {l : Launch} {D : va_G} {c : Nat → ClassId} {H0 : Heap} {sa : Nat × Nat × (Nat → Int32)} {w : mW} {μ : mM} (hw : mWF w) (hT : mT w μ) {p1 : Int} (hp1 : 0 ≤ p1 ∧ p1 ≤ 46655) {p2 : Int} (hp2 : 1 ≤ p2 ∧ p2 ≤ 6) {br : Nat} (q_br : μ 94 7 = (br : Int)) (hA_br : mAt w br 103) (hix : p1 < (w.2.2.1 br : Int)) : sC (gG l D c H0 sa) mX4_wayInRest 2 0 0 [.ref 94, iv p1, iv p2] (mk w μ) (qP w μ (fun z => ((-2147483648) ≤ z ∧ z ≤ 2147483647) ∧ True)) := by
  refine sC.of rfl (by decide) (le_t rfl) ?_
  refine mr_lvE (lv' := [(0, .ref 94), (1, iv p1), (2, iv p2)]) rfl ?_
  obtain ⟨n_1, q2⟩ : ∃ n : Int, (w.2.2.1 br : Int) = n := ⟨_, rfl⟩
  have h3 : 0 ≤ n_1 ∧ n_1 ≤ 93312 := lnR (m := 93312) q2 hA_br rfl
  have h4 : p1 < n_1 := by rw [← q2]; exact hix
  refine sv_aload_n (pc := 0) dX4_wayInRest_0 rfl rfl ?_
  refine sv_aload_n (pc := 1) dX4_wayInRest_1 rfl rfl ?_
  refine gk_X4_7 (pc := 2) dX4_wayInRest_2 wF_X4_36 (A_94 hw) q_br ?_
  refine mr_iload_n (pc := 5) (z := p1) dX4_wayInRest_5 rfl rfl ?_
  refine la_103 (pc := 6) dX4_wayInRest_6 hA_br hT (lnC q2 (vc_X4_wayInRest_1 h4 h3 hp1)) fun z5 q6 h7 => ?_
  refine mr_iload_n (pc := 7) (z := p2) dX4_wayInRest_7 rfl rfl ?_
  refine mr_cVP (pc := 8) (c_X4_figure hw hT h7 hp2) (gOk _ _ _ _ _) dX4_wayInRest_8 (tX4_figure _ _ _ _ _) ⟨wV_X4_figure, wL_X4_figure⟩ wM_X4_75 (gCX4 _ _ _ _ _) rfl (A_94 hw) rfl ⟨le_t rfl, le_t rfl⟩ ⟨le_t rfl, le_t rfl⟩ rfl (le_t rfl) fun z12 h11 => ?_
  refine mr_istore_n (pc := 11) (lv' := [(3, iv z12), (0, .ref 94), (1, iv p1), (2, iv p2)]) dX4_wayInRest_11 rfl (by decide) rfl ?_
  refine mr_iload_n (pc := 12) (z := z12) dX4_wayInRest_12 rfl rfl ?_
  refine sv_aload_n (pc := 13) dX4_wayInRest_13 rfl rfl ?_
  refine gf_X4_12 (pc := 14) dX4_wayInRest_14 wF_X4_11 (A_94 hw) hT ?_
  refine mr_iload_n (pc := 17) (z := p2) dX4_wayInRest_17 rfl rfl ?_
  refine la_95 (pc := 18) dX4_wayInRest_18 (A_95 hw) hT (rIx (n := 7) hp2 rfl) fun z13 q14 h15 => ?_
  refine mr_icmp_ne (pc := 19) (tgt := 27) dX4_wayInRest_19 (by decide) (r32 h11.1 rfl) (r32 h15 rfl) (fun h16 => ?_) (fun h16 => ?_)
  · refine mr_iload_n (pc := 27) (z := z12) dX4_wayInRest_27 rfl rfl ?_
    exact mr_iretP dX4_wayInRest_28 rfl (le_t rfl) (le_t rfl) ⟨(rW (c := (-2147483648)) (d := 2147483647) h11.1 rfl), trivial⟩
  refine mr_bipush (pc := 22) (z := (-4)) dX4_wayInRest_22 (by decide) ?_
  refine sv_goto (pc := 24) (tgt := 28) dX4_wayInRest_24 (by decide) ?_
  exact mr_iretP dX4_wayInRest_28 rfl (le_t rfl) (le_t rfl) ⟨(rW (c := (-2147483648)) (d := 2147483647) (rR (x := (-4))) rfl), trivial⟩
