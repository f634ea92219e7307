def WP_X11_write_W (w : mW) (μ : mM) (p1 : Int) (p2 : Int) (p3 : Int) (Q : Int → mM → Prop) : Prop := ∀ z1 : Int, μ 6 16 = z1 → (z1 = w.2.2.2 1 ∧ 0 ≤ z1 ∧ z1 ≤ 20) → WP_X11_isTie_W w μ p1 (fun z8 _ => (0 ≤ z8 ∧ z8 ≤ 1) → ((z8 = 0) → Q ((-1) : Int) μ) ∧ ((¬ z8 = 0) → WP_X11_isEither_W w μ p2 (fun z20 _ => (0 ≤ z20 ∧ z20 ≤ 1) → ((z20 = 0) → Q ((-1) : Int) μ) ∧ ((¬ z20 = 0) → ∀ z27 : Int, μ 6 14 = z27 → (0 ≤ z27 ∧ z27 ≤ 10) → WP_X11_isPrefix_W w μ p3 (fun z34 _ => (0 ≤ z34 ∧ z34 ≤ 1) → ((¬ z34 = 0) → ∀ b40 : Nat, μ 11 (p1.toNat) = (b40 : Int) → mAt w b40 220 → WP_X9_placeOf_W w μ p2 p3 (fun z48 _ => (0 ≤ z48 ∧ z48 ≤ 19) → ∀ b49 : Nat, μ (b40 + 3) (z48.toNat) = (b49 : Int) → mAt w b49 200 → ∀ z52 : Int, μ 7 (p3.toNat) = z52 → ((-2147483648) ≤ z52 ∧ z52 ≤ 2147483647) → ∀ z55 : Int, μ 8 (p3.toNat) = z55 → (0 ≤ z55 ∧ z55 ≤ 32) → WP_X3_putDown_W w μ b49 z52 z55 (fun z62 μ58 => mT w μ58 → mF [76015, 86999] w μ μ58 → ((-2147483648) ≤ z62 ∧ z62 ≤ 2147483647) → Q z62 μ58))) ∧ ((z34 = 0) → Q ((-1) : Int) μ))))))
def WP_X12_octet1_W (w : mW) (μ : mM) (p1 : Int) (Q : mM → Prop) : Prop := ∀ f_w : Int, μ 106 104 = f_w → (0 ≤ f_w ∧ f_w ≤ 300) → ∀ z29 : Int, bAnd p1 (255 : Int) = z29 → ∀ μ32 : mM, mU μ 174 (f_w.toNat) z29 μ32 → mT w μ32 → ∀ μ35 : mM, mU μ32 106 (104) (f_w + 1) μ35 → mT w μ35 → Q μ35
def WL_X12_prefixOut_W_1 (w : mW) (p1 : Int) (Q : mM → Prop) (z263 : Int) (μ266 : mM) (rec1 : (Int × mM) → Prop) (s : (Int × mM)) : Prop := ∀ z400 : Int, ∀ μ401 : mM, s = (z400, μ401) → (0 ≤ z400 ∧ z400 ≤ 4) → mT w μ401 → mF [106104, 174999] w μ266 μ401 → ∀ f_w : Int, μ401 106 (104) = f_w → (0 ≤ f_w ∧ f_w ≤ 300) → ∀ z414 : Int, (z263 + 7) / 8 = z414 → ((z414 ≤ z400) → Q μ401) ∧ ((z400 < z414) → ∀ z437 : Int, μ401 108 (p1.toNat) = z437 → ((-2147483648) ≤ z437 ∧ z437 ≤ 2147483647) → ∀ z440 : Int, bShr z437 (24 - (8 * z400)) = z440 → WP_X12_octet1_W w μ401 z440 (fun μ443 => mT w μ443 → mF [106104, 174999] w μ401 μ443 → ∀ z448 : Int, μ443 106 104 = z448 → rec1 ((z400 + 1), μ443)))
def WP_X12_prefixOut_W (w : mW) (μ : mM) (p1 : Int) (Q : mM → Prop) : Prop := ∀ f_w0 : Int, μ 106 104 = f_w0 → (0 ≤ f_w0 ∧ f_w0 ≤ 300) → ∀ z263 : Int, μ 109 (p1.toNat) = z263 → (0 ≤ z263 ∧ z263 ≤ 32) → WP_X12_octet1_W w μ z263 (fun μ266 => mT w μ266 → mF [106104, 174999] w μ μ266 → ∀ z270 : Int, μ266 106 104 = z270 → loopF (WL_X12_prefixOut_W_1 w p1 Q z263 μ266) False 6 ((0 : Int), μ266))
def WL_X12_octet4_W_1 (w : mW) (μ : mM) (p1 : Int) (Q : mM → Prop) (rec1 : (Int × mM) → Prop) (s : (Int × mM)) : Prop := ∀ z310 : Int, ∀ μ311 : mM, s = (z310, μ311) → ((-8) ≤ z310 ∧ z310 ≤ 24) → mT w μ311 → mF [106104, 174999] w μ μ311 → ∀ f_w : Int, μ311 106 (104) = f_w → (0 ≤ f_w ∧ f_w ≤ 300) → ((z310 < 0) → Q μ311) ∧ ((0 ≤ z310) → ∀ z340 : Int, bShr p1 z310 = z340 → WP_X12_octet1_W w μ311 z340 (fun μ343 => mT w μ343 → mF [106104, 174999] w μ311 μ343 → ∀ z347 : Int, μ343 106 104 = z347 → rec1 ((z310 + (-8)), μ343)))
def WP_X12_octet4_W (w : mW) (μ : mM) (p1 : Int) (Q : mM → Prop) : Prop := ∀ f_w0 : Int, μ 106 104 = f_w0 → (0 ≤ f_w0 ∧ f_w0 ≤ 300) → loopF (WL_X12_octet4_W_1 w μ p1 Q) False 34 ((24 : Int), μ)
def WL_X12_write_W_6 (w : mW) (p3 : Int) (Q : Int → mM → Prop) (z44 : Int) (z59 : Int) (μ401 : mM) (rec6 : (Int × mM) → Prop) (s : (Int × mM)) : Prop := ∀ z660 : Int, ∀ μ661 : mM, s = (z660, μ661) → (0 ≤ z660 ∧ z660 ≤ 8) → mT w μ661 → mF [106104, 174999] w μ401 μ661 → ∀ f_w : Int, μ661 106 (104) = f_w → (0 ≤ f_w ∧ f_w ≤ 300) → ((z59 ≤ z660) → WP_X12_prefixOut_W w μ661 p3 (fun μ689 => mT w μ689 → mF [106104, 174999] w μ661 μ689 → ∀ z693 : Int, μ689 106 104 = z693 → Q z693 μ689)) ∧ ((z660 < z59) → ∀ z698 : Int, μ661 126 ((((40 * (530 + z44)) + 26) + z660).toNat) = z698 → ((-2147483648 ≤ z698 ∧ z698 ≤ 2147483647) ∧ ((((40 * (530 + z44)) + 26) + z660) % 40 = 0 → -1 ≤ z698 ∧ z698 ≤ 9) ∧ ((((40 * (530 + z44)) + 26) + z660) % 40 = 4 → 0 ≤ z698 ∧ z698 ≤ 20) ∧ ((((40 * (530 + z44)) + 26) + z660) % 40 = 5 → 0 ≤ z698 ∧ z698 ≤ 8)) → WP_X12_octet4_W w μ661 z698 (fun μ701 => mT w μ701 → mF [106104, 174999] w μ661 μ701 → ∀ z705 : Int, μ701 106 104 = z705 → rec6 ((z660 + 1), μ701)))
def WJ_X12_write_W_5 (w : mW) (p3 : Int) (Q : Int → mM → Prop) (z44 : Int) (z59 : Int) (μ245 : mM) (μ295 : mM) : Prop := mT w μ295 → mF [106104, 174999] w μ245 μ295 → ∀ z302 : Int, μ295 106 104 = z302 → (0 ≤ z302 ∧ z302 ≤ 300) → ((z59 ≤ 0) → WP_X12_prefixOut_W w μ295 p3 (fun μ374 => mT w μ374 → mF [106104, 174999] w μ295 μ374 → ∀ z378 : Int, μ374 106 104 = z378 → Q z378 μ374)) ∧ ((0 < z59) → WP_X12_octet1_W w μ295 (192) (fun μ383 => mT w μ383 → mF [106104, 174999] w μ295 μ383 → ∀ z387 : Int, μ383 106 104 = z387 → WP_X12_octet1_W w μ383 (8) (fun μ392 => mT w μ392 → mF [106104, 174999] w μ383 μ392 → ∀ z396 : Int, μ392 106 104 = z396 → WP_X12_octet1_W w μ392 (4 * z59) (fun μ401 => mT w μ401 → mF [106104, 174999] w μ392 μ401 → ∀ z405 : Int, μ401 106 104 = z405 → loopF (WL_X12_write_W_6 w p3 Q z44 z59 μ401) False 10 ((0 : Int), μ401)))))
def WJ_X12_write_W_4 (w : mW) (p3 : Int) (Q : Int → mM → Prop) (z44 : Int) (z59 : Int) (z69 : Int) (μ180 : mM) (μ245 : mM) : Prop := mT w μ245 → mF [106104, 174999] w μ180 μ245 → ∀ z252 : Int, μ245 106 104 = z252 → (0 ≤ z252 ∧ z252 ≤ 300) → ((z69 ≤ 0) → (WJ_X12_write_W_5 w p3 Q z44 z59 μ245) μ245) ∧ ((0 < z69) → WP_X12_octet1_W w μ245 (128) (fun μ713 => mT w μ713 → mF [106104, 174999] w μ245 μ713 → ∀ z717 : Int, μ713 106 104 = z717 → WP_X12_octet1_W w μ713 (4) (fun μ722 => mT w μ722 → mF [106104, 174999] w μ713 μ722 → ∀ z726 : Int, μ722 106 104 = z726 → WP_X12_octet1_W w μ722 (4) (fun μ731 => mT w μ731 → mF [106104, 174999] w μ722 μ731 → ∀ z735 : Int, μ731 106 104 = z735 → WP_X12_octet4_W w μ731 z69 (fun μ740 => mT w μ740 → mF [106104, 174999] w μ731 μ740 → ∀ z744 : Int, μ740 106 104 = z744 → (WJ_X12_write_W_5 w p3 Q z44 z59 μ245) μ740)))))
def WL_X12_write_W_7 (w : mW) (p3 : Int) (Q : Int → mM → Prop) (z44 : Int) (z55 : Int) (z59 : Int) (z69 : Int) (μ180 : mM) (μ761 : mM) (rec7 : (Int × mM) → Prop) (s : (Int × mM)) : Prop := ∀ z1020 : Int, ∀ μ1021 : mM, s = (z1020, μ1021) → (0 ≤ z1020 ∧ z1020 ≤ 20) → mT w μ1021 → mF [106104, 174999] w μ761 μ1021 → ∀ f_w : Int, μ1021 106 (104) = f_w → (0 ≤ f_w ∧ f_w ≤ 300) → ((z55 ≤ z1020) → (WJ_X12_write_W_4 w p3 Q z44 z59 z69 μ180) μ1021) ∧ ((z1020 < z55) → ∀ z1036 : Int, μ1021 126 ((((40 * (530 + z44)) + 6) + z1020).toNat) = z1036 → ((-2147483648 ≤ z1036 ∧ z1036 ≤ 2147483647) ∧ ((((40 * (530 + z44)) + 6) + z1020) % 40 = 0 → -1 ≤ z1036 ∧ z1036 ≤ 9) ∧ ((((40 * (530 + z44)) + 6) + z1020) % 40 = 4 → 0 ≤ z1036 ∧ z1036 ≤ 20) ∧ ((((40 * (530 + z44)) + 6) + z1020) % 40 = 5 → 0 ≤ z1036 ∧ z1036 ≤ 8)) → WP_X12_octet4_W w μ1021 z1036 (fun μ1039 => mT w μ1039 → mF [106104, 174999] w μ1021 μ1039 → ∀ z1043 : Int, μ1039 106 104 = z1043 → rec7 ((z1020 + 1), μ1039)))
def WJ_X12_write_W_3 (w : mW) (p3 : Int) (Q : Int → mM → Prop) (z44 : Int) (μ46 : mM) (z55 : Int) (z59 : Int) (z65 : Int) (z69 : Int) (z74 : Int) (z80 : Int) : Prop := (0 ≤ z80 ∧ z80 ≤ 35) → WP_X12_octet1_W w μ46 (0) (fun μ84 => mT w μ84 → mF [106104, 174999] w μ46 μ84 → ∀ z88 : Int, μ84 106 104 = z88 → WP_X12_octet1_W w μ84 (0) (fun μ93 => mT w μ93 → mF [106104, 174999] w μ84 μ93 → ∀ z97 : Int, μ93 106 104 = z97 → ∀ z102 : Int, bShr (((7 + z65) + z74) + z80) (8 : Int) = z102 → WP_X12_octet1_W w μ93 z102 (fun μ105 => mT w μ105 → mF [106104, 174999] w μ93 μ105 → ∀ z109 : Int, μ105 106 104 = z109 → WP_X12_octet1_W w μ105 (((7 + z65) + z74) + z80) (fun μ114 => mT w μ114 → mF [106104, 174999] w μ105 μ114 → ∀ z118 : Int, μ114 106 104 = z118 → WP_X12_octet1_W w μ114 (64) (fun μ123 => mT w μ123 → mF [106104, 174999] w μ114 μ123 → ∀ z127 : Int, μ123 106 104 = z127 → WP_X12_octet1_W w μ123 (1) (fun μ132 => mT w μ132 → mF [106104, 174999] w μ123 μ132 → ∀ z136 : Int, μ132 106 104 = z136 → WP_X12_octet1_W w μ132 (1) (fun μ141 => mT w μ141 → mF [106104, 174999] w μ132 μ141 → ∀ z145 : Int, μ141 106 104 = z145 → ∀ z150 : Int, μ141 126 (((40 * (530 + z44)) + 2).toNat) = z150 → ((-2147483648 ≤ z150 ∧ z150 ≤ 2147483647) ∧ (((40 * (530 + z44)) + 2) % 40 = 0 → -1 ≤ z150 ∧ z150 ≤ 9) ∧ (((40 * (530 + z44)) + 2) % 40 = 4 → 0 ≤ z150 ∧ z150 ≤ 20) ∧ (((40 * (530 + z44)) + 2) % 40 = 5 → 0 ≤ z150 ∧ z150 ≤ 8)) → WP_X12_octet1_W w μ141 z150 (fun μ153 => mT w μ153 → mF [106104, 174999] w μ141 μ153 → ∀ z157 : Int, μ153 106 104 = z157 → WP_X12_octet1_W w μ153 (64) (fun μ162 => mT w μ162 → mF [106104, 174999] w μ153 μ162 → ∀ z166 : Int, μ162 106 104 = z166 → WP_X12_octet1_W w μ162 (2) (fun μ171 => mT w μ171 → mF [106104, 174999] w μ162 μ171 → ∀ z175 : Int, μ171 106 104 = z175 → WP_X12_octet1_W w μ171 z65 (fun μ180 => mT w μ180 → mF [106104, 174999] w μ171 μ180 → ∀ z184 : Int, μ180 106 104 = z184 → ((z55 ≤ 0) → (WJ_X12_write_W_4 w p3 Q z44 z59 z69 μ180) μ180) ∧ ((0 < z55) → WP_X12_octet1_W w μ180 (2) (fun μ752 => mT w μ752 → mF [106104, 174999] w μ180 μ752 → ∀ z756 : Int, μ752 106 104 = z756 → WP_X12_octet1_W w μ752 z55 (fun μ761 => mT w μ761 → mF [106104, 174999] w μ752 μ761 → ∀ z765 : Int, μ761 106 104 = z765 → loopF (WL_X12_write_W_7 w p3 Q z44 z55 z59 z69 μ180 μ761) False 22 ((0 : Int), μ761)))))))))))))))
def WJ_X12_write_W_2 (w : mW) (p3 : Int) (Q : Int → mM → Prop) (z44 : Int) (μ46 : mM) (z55 : Int) (z59 : Int) (z65 : Int) (z69 : Int) (z74 : Int) : Prop := (0 ≤ z74 ∧ z74 ≤ 7) → ((z59 ≤ 0) → (WJ_X12_write_W_3 w p3 Q z44 μ46 z55 z59 z65 z69 z74) (0 : Int)) ∧ ((0 < z59) → (WJ_X12_write_W_3 w p3 Q z44 μ46 z55 z59 z65 z69 z74) (3 + (4 * z59)))
def WJ_X12_write_W_1 (w : mW) (p3 : Int) (Q : Int → mM → Prop) (z44 : Int) (μ46 : mM) (z55 : Int) (z59 : Int) (z65 : Int) : Prop := (0 ≤ z65 ∧ z65 ≤ 82) → ∀ z69 : Int, μ46 126 (((40 * (530 + z44)) + 3).toNat) = z69 → ((-2147483648 ≤ z69 ∧ z69 ≤ 2147483647) ∧ (((40 * (530 + z44)) + 3) % 40 = 0 → -1 ≤ z69 ∧ z69 ≤ 9) ∧ (((40 * (530 + z44)) + 3) % 40 = 4 → 0 ≤ z69 ∧ z69 ≤ 20) ∧ (((40 * (530 + z44)) + 3) % 40 = 5 → 0 ≤ z69 ∧ z69 ≤ 8)) → ((z69 ≤ 0) → (WJ_X12_write_W_2 w p3 Q z44 μ46 z55 z59 z65 z69) (0 : Int)) ∧ ((0 < z69) → (WJ_X12_write_W_2 w p3 Q z44 μ46 z55 z59 z65 z69) (7 : Int))
def WP_X12_write_W (w : mW) (μ : mM) (p1 : Int) (p2 : Int) (p3 : Int) (Q : Int → mM → Prop) : Prop := ∀ z1 : Int, μ 106 6 = z1 → (0 ≤ z1 ∧ z1 ≤ 20) → WP_X12_isTie_W w μ p1 (fun z8 _ => (0 ≤ z8 ∧ z8 ≤ 1) → ((z8 = 0) → Q ((-1) : Int) μ) ∧ ((¬ z8 = 0) → WP_X12_in_W w μ p2 (0) (1) (fun z20 _ => (0 ≤ z20 ∧ z20 ≤ 1) → ((z20 = 0) → Q ((-1) : Int) μ) ∧ ((¬ z20 = 0) → ∀ z27 : Int, μ 106 2 = z27 → (0 ≤ z27 ∧ z27 ≤ 10) → WP_X12_isPrefix_W w μ p3 (fun z34 _ => (0 ≤ z34 ∧ z34 ≤ 1) → ((¬ z34 = 0) → WP_X12_slot_W w μ p1 p2 p3 (fun z44 _ => (0 ≤ z44 ∧ z44 ≤ 449) → ∀ μ46 : mM, mU μ 106 (104) (0 : Int) μ46 → mT w μ46 → ∀ z49 : Int, μ46 126 ((40 * (530 + z44)).toNat) = z49 → ((-2147483648 ≤ z49 ∧ z49 ≤ 2147483647) ∧ ((40 * (530 + z44)) % 40 = 0 → -1 ≤ z49 ∧ z49 ≤ 9) ∧ ((40 * (530 + z44)) % 40 = 4 → 0 ≤ z49 ∧ z49 ≤ 20) ∧ ((40 * (530 + z44)) % 40 = 5 → 0 ≤ z49 ∧ z49 ≤ 8)) → ((0 ≤ z49) → ∀ z55 : Int, μ46 126 (((40 * (530 + z44)) + 4).toNat) = z55 → ((-2147483648 ≤ z55 ∧ z55 ≤ 2147483647) ∧ (((40 * (530 + z44)) + 4) % 40 = 0 → -1 ≤ z55 ∧ z55 ≤ 9) ∧ (((40 * (530 + z44)) + 4) % 40 = 4 → 0 ≤ z55 ∧ z55 ≤ 20) ∧ (((40 * (530 + z44)) + 4) % 40 = 5 → 0 ≤ z55 ∧ z55 ≤ 8)) → ∀ z59 : Int, μ46 126 (((40 * (530 + z44)) + 5).toNat) = z59 → ((-2147483648 ≤ z59 ∧ z59 ≤ 2147483647) ∧ (((40 * (530 + z44)) + 5) % 40 = 0 → -1 ≤ z59 ∧ z59 ≤ 9) ∧ (((40 * (530 + z44)) + 5) % 40 = 4 → 0 ≤ z59 ∧ z59 ≤ 20) ∧ (((40 * (530 + z44)) + 5) % 40 = 5 → 0 ≤ z59 ∧ z59 ≤ 8)) → ((¬ z55 = 0) → (WJ_X12_write_W_1 w p3 Q z44 μ46 z55 z59) (2 + (4 * z55))) ∧ ((z55 = 0) → (WJ_X12_write_W_1 w p3 Q z44 μ46 z55 z59) (0 : Int))) ∧ ((z49 < 0) → WP_X12_octet1_W w μ46 (0) (fun μ1058 => mT w μ1058 → mF [106104, 174999] w μ46 μ1058 → ∀ z1062 : Int, μ1058 106 104 = z1062 → ∀ z1067 : Int, μ1058 109 (p3.toNat) = z1067 → (0 ≤ z1067 ∧ z1067 ≤ 32) → ∀ z1070 : Int, (z1067 + 7) / 8 = z1070 → WP_X12_octet1_W w μ1058 (1 + z1070) (fun μ1073 => mT w μ1073 → mF [106104, 174999] w μ1058 μ1073 → ∀ z1077 : Int, μ1073 106 104 = z1077 → WP_X12_prefixOut_W w μ1073 p3 (fun μ1082 => mT w μ1082 → mF [106104, 174999] w μ1073 μ1082 → ∀ z1086 : Int, μ1082 106 104 = z1086 → WP_X12_octet1_W w μ1082 (0) (fun μ1090 => mT w μ1090 → mF [106104, 174999] w μ1082 μ1090 → ∀ z1094 : Int, μ1090 106 104 = z1094 → WP_X12_octet1_W w μ1090 (0) (fun μ1099 => mT w μ1099 → mF [106104, 174999] w μ1090 μ1099 → ∀ z1103 : Int, μ1099 106 104 = z1103 → Q ((z1086 + 1) + 1) μ1099)))))))) ∧ ((z34 = 0) → Q ((-1) : Int) μ))))))
def WP_X11_octet_W (w : mW) (μ : mM) (p1 : Int) (Q : Int → mM → Prop) : Prop := ((p1 < 0) → Q ((-99999999) : Int) μ) ∧ ((0 ≤ p1) → ∀ z14 : Int, μ 76 15 = z14 → (0 ≤ z14 ∧ z14 ≤ 256) → ((p1 < z14) → ∀ z25 : Int, μ 86 (p1.toNat) = z25 → ((-2147483648) ≤ z25 ∧ z25 ≤ 2147483647) → Q z25 μ) ∧ ((z14 ≤ p1) → Q ((-99999999) : Int) μ))
def WP_X12_octet_W (w : mW) (μ : mM) (p1 : Int) (Q : Int → mM → Prop) : Prop := ∀ z1 : Int, μ 106 104 = z1 → (0 ≤ z1 ∧ z1 ≤ 300) → WP_X12_in_W w μ p1 (0) (z1 - 1) (fun z8 _ => (0 ≤ z8 ∧ z8 ≤ 1) → ((z8 = 0) → Q ((-99999999) : Int) μ) ∧ ((¬ z8 = 0) → ∀ z23 : Int, μ 174 (p1.toNat) = z23 → ((-2147483648) ≤ z23 ∧ z23 ≤ 2147483647) → Q z23 μ))
def WL_X2_insertBorder_W_1 (w : mW) (μ : mM) (p1 : Int) (Q : mM → Prop) (rec1 : (Int × mM) → Prop) (s : (Int × mM)) : Prop := ∀ z43 : Int, ∀ μ44 : mM, s = (z43, μ44) → (0 ≤ z43 ∧ z43 ≤ 19) → mT w μ44 → mF [93999] w μ μ44 → ((z43 ≤ 0) → ∀ μ68 : mM, mU μ44 93 (z43.toNat) p1 μ68 → mT w μ68 → Q μ68) ∧ ((0 < z43) → ∀ z72 : Int, μ44 93 ((z43 - 1).toNat) = z72 → ((-9223372036854775808) ≤ z72 ∧ z72 ≤ 9223372036854775807) → ∀ z75 : Int, lCmp z72 p1 = z75 → ((z75 ≤ 0) → ∀ μ85 : mM, mU μ44 93 (z43.toNat) p1 μ85 → mT w μ85 → Q μ85) ∧ ((0 < z75) → ∀ μ89 : mM, mU μ44 93 (z43.toNat) z72 μ89 → mT w μ89 → rec1 ((z43 + (-1)), μ89)))
def WP_X2_insertBorder_W (w : mW) (μ : mM) (p1 : Int) (p2 : Int) (Q : mM → Prop) : Prop := loopF (WL_X2_insertBorder_W_1 w μ p1 Q) False 21 (p2, μ)
def WL_X2_layBorders_W_1 (w : mW) (μ : mM) (Q : Int → mM → Prop) (rec1 : (Int × Int × mM) → Prop) (s : (Int × Int × mM)) : Prop := ∀ z247 : Int, ∀ z246 : Int, ∀ μ248 : mM, s = (z247, z246, μ248) → (0 ≤ z247 ∧ z247 ≤ 20) → (0 ≤ z246 ∧ z246 ≤ 10) → mT w μ248 → mF [93999] w μ μ248 → ∀ z259 : Int, μ248 6 14 = z259 → (0 ≤ z259 ∧ z259 ≤ 10) → ((z259 ≤ z246) → Q z247 μ248) ∧ ((z246 < z259) → ∀ z293 : Int, μ248 7 (z246.toNat) = z293 → ((-2147483648) ≤ z293 ∧ z293 ≤ 2147483647) → ∀ z296 : Int, z293 = z296 → ∀ z299 : Int, lAnd z296 (4294967295 : Int) = z299 → WP_X2_insertBorder_W w μ248 z299 z247 (fun μ302 => mT w μ302 → mF [93999] w μ248 μ302 → ∀ z307 : Int, μ302 8 (z246.toNat) = z307 → (0 ≤ z307 ∧ z307 ≤ 32) → ∀ z310 : Int, lShl (1 : Int) (32 - z307) = z310 → ∀ z313 : Int, lAdd z299 z310 = z313 → WP_X2_insertBorder_W w μ302 z313 (z247 + 1) (fun μ316 => mT w μ316 → mF [93999] w μ302 μ316 → rec1 ((z247 + 2), (z246 + 1), μ316))))
def WP_X2_layBorders_W (w : mW) (μ : mM) (Q : Int → mM → Prop) : Prop := loopF (WL_X2_layBorders_W_1 w μ Q) False 22 ((0 : Int), (0 : Int), μ)
def WL_X2_unlikeAddresses_W_1 (w : mW) (p1 : Int) (p2 : Int) (Q : Int → mM → Prop) (z5 : Int) (μ1 : mM) (rec1 : (Int × Int) → Prop) (s : (Int × Int)) : Prop := ∀ z239 : Int, ∀ z238 : Int, s = (z239, z238) → ((-9223372036854775808) ≤ z239 ∧ z239 ≤ 9223372036854775807) → (0 ≤ z238 ∧ z238 ≤ 19) → ((z5 ≤ (z238 + 1)) → Q z239 μ1) ∧ (((z238 + 1) < z5) → ∀ z279 : Int, μ1 93 (z238.toNat) = z279 → ((-9223372036854775808) ≤ z279 ∧ z279 ≤ 9223372036854775807) → ∀ z282 : Int, lInt z279 = z282 → WP_X2_partnerFor_W w μ1 p1 z282 (fun z289 _ => ((-99999999) ≤ z289 ∧ z289 ≤ 9) → WP_X2_partnerFor_W w μ1 p2 z282 (fun z294 _ => ((-99999999) ≤ z294 ∧ z294 ≤ 9) → ((z289 = z294) → rec1 (z239, (z238 + 1))) ∧ ((¬ z289 = z294) → ∀ z305 : Int, μ1 93 ((z238 + 1).toNat) = z305 → ((-9223372036854775808) ≤ z305 ∧ z305 ≤ 9223372036854775807) → ∀ z308 : Int, lSub z305 z279 = z308 → ∀ z311 : Int, lAdd z239 z308 = z311 → rec1 (z311, (z238 + 1))))))
def WP_X2_unlikeAddresses_W (w : mW) (μ : mM) (p1 : Int) (p2 : Int) (Q : Int → mM → Prop) : Prop := WP_X2_layBorders_W w μ  (fun z5 μ1 => mT w μ1 → mF [93999] w μ μ1 → (0 ≤ z5 ∧ z5 ≤ 20) → loopF (WL_X2_unlikeAddresses_W_1 w p1 p2 Q z5 μ1) False 21 ((0 : Int), (0 : Int)))
def WP_X11_differ_W (w : mW) (μ : mM) (p1 : Int) (p2 : Int) (Q : Int → mM → Prop) : Prop := ∀ z1 : Int, μ 6 15 = z1 → (z1 = w.2.2.2 0 ∧ 0 ≤ z1 ∧ z1 ≤ 10) → WP_X11_isDomain_W w μ p1 (fun z8 _ => (0 ≤ z8 ∧ z8 ≤ 1) → ((z8 = 0) → Q ((-1) : Int) μ) ∧ ((¬ z8 = 0) → WP_X11_isDomain_W w μ p2 (fun z41 _ => (0 ≤ z41 ∧ z41 ≤ 1) → ((z41 = 0) → Q ((-1) : Int) μ) ∧ ((¬ z41 = 0) → WP_X2_unlikeAddresses_W w μ p1 p2 (fun z62 μ58 => mT w μ58 → mF [93999] w μ μ58 → ((-9223372036854775808) ≤ z62 ∧ z62 ≤ 9223372036854775807) → Q z62 μ58)))))
def WJ_X12_differ_W_4 (rec3 : (Int × Int) → Prop) (z7712 : Int) (z7711 : Int) (z7778 : Int) (z7781 : Int) (z7862 : Int) : Prop := (0 ≤ z7862 ∧ z7862 ≤ 1) → ((¬ z7862 = 0) → rec3 (z7712, (z7711 + 1))) ∧ ((z7862 = 0) → ∀ z7877 : Int, lSub z7781 z7778 = z7877 → ∀ z7880 : Int, lAdd z7712 z7877 = z7880 → rec3 (z7880, (z7711 + 1)))
def WL_X12_differ_W_3 (w : mW) (p1 : Int) (p2 : Int) (Q : Int → mM → Prop) (z5067 : Int) (μ7053 : mM) (rec3 : (Int × Int) → Prop) (s : (Int × Int)) : Prop := ∀ z7712 : Int, ∀ z7711 : Int, s = (z7712, z7711) → ((-9223372036854775808) ≤ z7712 ∧ z7712 ≤ 9223372036854775807) → (0 ≤ z7711 ∧ z7711 ≤ 21) → ((z5067 ≤ (z7711 + 1)) → Q z7712 μ7053) ∧ (((z7711 + 1) < z5067) → ∀ z7778 : Int, μ7053 183 (z7711.toNat) = z7778 → ((-9223372036854775808) ≤ z7778 ∧ z7778 ≤ 9223372036854775807) → ∀ z7781 : Int, μ7053 183 ((z7711 + 1).toNat) = z7781 → ((-9223372036854775808) ≤ z7781 ∧ z7781 ≤ 9223372036854775807) → ∀ z7784 : Int, lCmp z7778 z7781 = z7784 → ((¬ z7784 = 0) → ∀ z7830 : Int, lInt z7778 = z7830 → WP_X12_sends_W w μ7053 p1 z7830 (fun z7837 _ => ((-99999999) ≤ z7837 ∧ z7837 ≤ 19) → ∀ z7839 : Int, lInt z7778 = z7839 → WP_X12_sends_W w μ7053 p2 z7839 (fun z7846 _ => ((-99999999) ≤ z7846 ∧ z7846 ≤ 19) → ((z7837 < 0) → ((¬ z7837 = z7846) → (WJ_X12_differ_W_4 rec3 z7712 z7711 z7778 z7781) (0 : Int)) ∧ ((z7837 = z7846) → (WJ_X12_differ_W_4 rec3 z7712 z7711 z7778 z7781) (1 : Int))) ∧ ((0 ≤ z7837) → ((0 ≤ z7846) → WP_X12_partnerOf_W w μ7053 z7837 p1 (fun z7894 _ => (0 ≤ z7894 ∧ z7894 ≤ 9) → WP_X12_partnerOf_W w μ7053 z7846 p2 (fun z7899 _ => (0 ≤ z7899 ∧ z7899 ≤ 9) → ((¬ z7894 = z7899) → (WJ_X12_differ_W_4 rec3 z7712 z7711 z7778 z7781) (0 : Int)) ∧ ((z7894 = z7899) → (WJ_X12_differ_W_4 rec3 z7712 z7711 z7778 z7781) (1 : Int))))) ∧ ((z7846 < 0) → (WJ_X12_differ_W_4 rec3 z7712 z7711 z7778 z7781) (0 : Int)))))) ∧ ((z7784 = 0) → rec3 (z7712, (z7711 + 1))))
def WL_X12_differ_W_5 (w : mW) (rec2 : (Int × mM) → Prop) (z7052 : Int) (μ7053 : mM) (rec5 : (Int × mM) → Prop) (s : (Int × mM)) : Prop := ∀ z7965 : Int, ∀ μ7966 : mM, s = (z7965, μ7966) → (0 ≤ z7965 ∧ z7965 ≤ 21) → mT w μ7966 → mF [183999] w μ7053 μ7966 → ((z7965 ≤ 0) → rec2 ((z7052 + 1), μ7966)) ∧ ((0 < z7965) → ∀ z7997 : Int, μ7966 183 (z7965.toNat) = z7997 → ((-9223372036854775808) ≤ z7997 ∧ z7997 ≤ 9223372036854775807) → ∀ z8000 : Int, μ7966 183 ((z7965 - 1).toNat) = z8000 → ((-9223372036854775808) ≤ z8000 ∧ z8000 ≤ 9223372036854775807) → ∀ z8003 : Int, lCmp z7997 z8000 = z8003 → ((0 ≤ z8003) → rec2 ((z7052 + 1), μ7966)) ∧ ((z8003 < 0) → ∀ μ8017 : mM, mU μ7966 183 (z7965.toNat) z8000 μ8017 → mT w μ8017 → ∀ μ8020 : mM, mU μ8017 183 ((z7965 - 1).toNat) z7997 μ8020 → mT w μ8020 → rec5 ((z7965 + (-1)), μ8020)))
def WL_X12_differ_W_2 (w : mW) (p1 : Int) (p2 : Int) (Q : Int → mM → Prop) (z5067 : Int) (μ5068 : mM) (rec2 : (Int × mM) → Prop) (s : (Int × mM)) : Prop := ∀ z7052 : Int, ∀ μ7053 : mM, s = (z7052, μ7053) → (1 ≤ z7052 ∧ z7052 ≤ 22) → mT w μ7053 → mF [183999] w μ5068 μ7053 → ((z5067 ≤ z7052) → loopF (WL_X12_differ_W_3 w p1 p2 Q z5067 μ7053) False 23 ((0 : Int), (0 : Int))) ∧ ((z7052 < z5067) → loopF (WL_X12_differ_W_5 w rec2 z7052 μ7053) False 23 (z7052, μ7053))
def WL_X12_differ_W_1 (w : mW) (p1 : Int) (p2 : Int) (Q : Int → mM → Prop) (μ28 : mM) (rec1 : (Int × Int × mM) → Prop) (s : (Int × Int × mM)) : Prop := ∀ z5067 : Int, ∀ z5066 : Int, ∀ μ5068 : mM, s = (z5067, z5066, μ5068) → (2 ≤ z5067 ∧ z5067 ≤ 22) → (0 ≤ z5066 ∧ z5066 ≤ 10) → mT w μ5068 → mF [183999] w μ28 μ5068 → ∀ z5079 : Int, μ5068 106 2 = z5079 → (0 ≤ z5079 ∧ z5079 ≤ 10) → ((z5079 ≤ z5066) → loopF (WL_X12_differ_W_2 w p1 p2 Q z5067 μ5068) False 23 ((1 : Int), μ5068)) ∧ ((z5066 < z5079) → ∀ z8025 : Int, μ5068 108 (z5066.toNat) = z8025 → ((-2147483648) ≤ z8025 ∧ z8025 ≤ 2147483647) → ∀ z8028 : Int, z8025 = z8028 → ∀ z8031 : Int, lAnd z8028 (4294967295 : Int) = z8031 → ∀ μ8034 : mM, mU μ5068 183 (z5067.toNat) z8031 μ8034 → mT w μ8034 → ∀ z8037 : Int, μ8034 109 (z5066.toNat) = z8037 → (0 ≤ z8037 ∧ z8037 ≤ 32) → ∀ z8040 : Int, lShl (1 : Int) (32 - z8037) = z8040 → ∀ z8043 : Int, lAdd z8031 z8040 = z8043 → ∀ μ8046 : mM, mU μ8034 183 ((z5067 + 1).toNat) z8043 μ8046 → mT w μ8046 → rec1 (((z5067 + 1) + 1), (z5066 + 1), μ8046))
def WP_X12_differ_W (w : mW) (μ : mM) (p1 : Int) (p2 : Int) (Q : Int → mM → Prop) : Prop := ∀ z1 : Int, μ 106 5 = z1 → (0 ≤ z1 ∧ z1 ≤ 10) → WP_X12_isDomain_W w μ p1 (fun z8 _ => (0 ≤ z8 ∧ z8 ≤ 1) → ((z8 = 0) → Q ((-1) : Int) μ) ∧ ((¬ z8 = 0) → WP_X12_isDomain_W w μ p2 (fun z20 _ => (0 ≤ z20 ∧ z20 ≤ 1) → ((¬ z20 = 0) → ∀ μ25 : mM, mU μ 183 ((0 : Int).toNat) (0 : Int) μ25 → mT w μ25 → ∀ μ28 : mM, mU μ25 183 ((1 : Int).toNat) (4294967296 : Int) μ28 → mT w μ28 → loopF (WL_X12_differ_W_1 w p1 p2 Q μ28) False 22 ((2 : Int), (0 : Int), μ28)) ∧ ((z20 = 0) → Q ((-1) : Int) μ))))
def WJ_X2_isSplit_W_2 (w : mW) (μ : mM) (p1 : Int) (Q : Int → mM → Prop) (rec1 : (Int) → Prop) (z223 : Int) (z249 : Int) : Prop := (0 ≤ z249 ∧ z249 ≤ 1) → ((z249 = 0) → rec1 ((z223 + 1))) ∧ ((¬ z249 = 0) → ∀ b256 : Nat, μ 10 (p1.toNat) = (b256 : Int) → mAt w b256 210 → ∀ z260 : Int, μ (b256 + 3) (z223.toNat) = z260 → ((z260 = -99999999 ∨ z260 = -4 ∨ (0 ≤ z260 ∧ z260 ≤ 19)) ∧ (0 ≤ z260 → z260 < w.2.2.2 1)) → ((z260 = (-99999999)) → rec1 ((z223 + 1))) ∧ ((¬ z260 = (-99999999)) → Q (1 : Int) μ))
def WL_X2_isSplit_W_1 (w : mW) (μ : mM) (p1 : Int) (p2 : Int) (p3 : Int) (Q : Int → mM → Prop) (z5 : Int) (rec1 : (Int) → Prop) (s : (Int)) : Prop := ∀ z223 : Int, s = (z223) → (0 ≤ z223 ∧ z223 ≤ 10) → ∀ z232 : Int, μ 6 14 = z232 → (0 ≤ z232 ∧ z232 ≤ 10) → ((z232 ≤ z223) → Q (0 : Int) μ) ∧ ((z223 < z232) → ∀ z238 : Int, μ 8 (z223.toNat) = z238 → (0 ≤ z238 ∧ z238 ≤ 32) → ((z238 ≤ p3) → (WJ_X2_isSplit_W_2 w μ p1 Q rec1 z223) (0 : Int)) ∧ ((p3 < z238) → ∀ z270 : Int, μ 7 (z223.toNat) = z270 → ((-2147483648) ≤ z270 ∧ z270 ≤ 2147483647) → ∀ z273 : Int, bAnd z270 z5 = z273 → ((¬ z273 = p2) → (WJ_X2_isSplit_W_2 w μ p1 Q rec1 z223) (0 : Int)) ∧ ((z273 = p2) → (WJ_X2_isSplit_W_2 w μ p1 Q rec1 z223) (1 : Int))))
def WP_X2_isSplit_W (w : mW) (μ : mM) (p1 : Int) (p2 : Int) (p3 : Int) (Q : Int → mM → Prop) : Prop := WP_X10_maskOf_W w μ p3 (fun z5 _ => ((-2147483648) ≤ z5 ∧ z5 ≤ 2147483647) → loopF (WL_X2_isSplit_W_1 w μ p1 p2 p3 Q z5) False 12 ((0 : Int)))
set_option maxRecDepth 4000 in
set_option maxHeartbeats 4000000 in
theorem c_X2_isSplit_W {l : Launch} {D : va_G} {c : Nat → ClassId} {H0 : Heap} {sa : Nat × Nat × (Nat → Int32)} {w : mW} {μ : mM} (hw : mWF w) (hT : mT w μ) {p1 : Int} (hp1 : 0 ≤ p1 ∧ p1 ≤ 9) {p2 : Int} (hp2 : (-2147483648) ≤ p2 ∧ p2 ≤ 2147483647) {p3 : Int} (hp3 : (-2147483648) ≤ p3 ∧ p3 ≤ 2147483647) (hq0 : p1 < w.2.2.2 0) {Q : Int → mM → Prop} (hQ : WP_X2_isSplit_W w μ p1 p2 p3 Q) : sC (gG l D c H0 sa) mX2_isSplit 2 0 0 [.ref 87, iv p1, iv p2, iv p3] (mk w μ) (qP w μ (fun z => (0 ≤ z ∧ z ≤ 1) ∧ Q z μ ∧ True)) := by
  refine sC.of rfl (by decide) (le_t rfl) ?_
  refine mr_lvE (lv' := [(0, .ref 87), (1, iv p1), (2, iv p2), (3, iv p3)]) rfl ?_
  refine mr_iload_n (pc := 0) (z := p3) dX2_isSplit_0 rfl rfl ?_
  refine mr_cSP (pc := 1) (c_X10_maskOf_W hw hT hp3 hQ) (gOk _ _ _ _ _) dX2_isSplit_1 (tX10_maskOf _ _ _ _ _) wS_X10_maskOf wM_X2_113 ⟨le_t rfl, le_t rfl⟩ ⟨le_t rfl, le_t rfl⟩ rfl (le_t rfl) fun z5 h4 => ?_
  refine mr_istore (pc := 4) (lv' := [(4, iv z5), (0, .ref 87), (1, iv p1), (2, iv p2), (3, iv p3)]) dX2_isSplit_4 (by decide) rfl ?_
  refine mr_iconst (pc := 6) (z := 0) dX2_isSplit_6 ?_
  refine mr_istore (pc := 7) (lv' := [(5, iv 0), (4, iv z5), (0, .ref 87), (1, iv p1), (2, iv p2), (3, iv p3)]) dX2_isSplit_7 (by decide) rfl ?_
  have L224 : ∀ (nL224 : Nat) (z223 : Int), True → (0 ≤ z223 ∧ z223 ≤ 10) → (11 - z223) < (nL224 : Int) → loopF (WL_X2_isSplit_W_1 w μ p1 p2 p3 Q z5) False nL224 (z223) → sV (gG l D c H0 sa) mX2_isSplit (sRm 2 0 0) (sZ (gG l D c H0 sa) 0 0 (qP w μ (fun z => (0 ≤ z ∧ z ≤ 1) ∧ Q z μ ∧ True))) 9 [(0, .ref 87), (1, iv p1), (2, iv p2), (3, iv p3), (4, iv z5), (5, iv z223)] [] (mk w μ) 0 0 := by
    intro nL224
    induction nL224 with
    | zero => intro z223 _ h225 h229 W230; exact ((vc_X12_ring_2 h229 h225)).elim
    | succ nL224 ih231 =>
      intro z223 _ h225 h229 W230
      refine mr_iload (pc := 9) (z := z223) dX2_isSplit_9 rfl ?_
      refine sv_aload_n (pc := 11) dX2_isSplit_11 rfl rfl ?_
      refine gf_X2_0 (pc := 12) dX2_isSplit_12 wF_X2_9 (A_87 hw) hT ?_
      refine gf_X10_14 (pc := 15) dX2_isSplit_15 wF_X2_42 (A_6 hw) hT fun z232 q233 h234 => ?_
      refine mr_icmp_ge (pc := 18) (tgt := 92) dX2_isSplit_18 (by decide) (r32 h225 rfl) (r32 h234 rfl) (fun h235 => ?_) (fun h235 => ?_)
      · refine mr_iconst (pc := 92) (z := 0) dX2_isSplit_92 ?_
        exact mr_zretP dX2_isSplit_93 rfl (rW (c := 0) (d := 1) (rR (x := 0)) rfl) (le_t rfl) (le_t rfl) ⟨(rW (c := 0) (d := 1) (rR (x := 0)) rfl), (((W230 z223 rfl h225) z232 q233 h234).1 h235), trivial⟩
      have h236 : 0 ≤ z223 ∧ z223 ≤ 9 := (vc_X12_ring_3 h235 h225 h234)
      have h237 : 1 ≤ z232 ∧ z232 ≤ 10 := (vc_X12_ring_4 h235 h236 h234)
      refine sv_aload_n (pc := 21) dX2_isSplit_21 rfl rfl ?_
      refine gf_X2_0 (pc := 22) dX2_isSplit_22 wF_X2_9 (A_87 hw) hT ?_
      refine gf_X10_1 (pc := 25) dX2_isSplit_25 wF_X2_57 (A_6 hw) hT ?_
      refine mr_iload (pc := 28) (z := z223) dX2_isSplit_28 rfl ?_
      refine la_8 (pc := 30) dX2_isSplit_30 (A_8 hw) hT (rIx (n := 10) h236 rfl) fun z238 q239 h240 => ?_
      refine mr_iload_n (pc := 31) (z := p3) dX2_isSplit_31 rfl rfl ?_
      have J251 : ∀ (z249 : Int), ((0 ≤ z249 ∧ z249 ≤ 1)) → ((WJ_X2_isSplit_W_2 w μ p1 Q (loopF (WL_X2_isSplit_W_1 w μ p1 p2 p3 Q z5) False nL224) z223) z249) → sV (gG l D c H0 sa) mX2_isSplit (sRm 2 0 0) (sZ (gG l D c H0 sa) 0 0 (qP w μ (fun z => (0 ≤ z ∧ z ≤ 1) ∧ Q z μ ∧ True))) 57 [(0, .ref 87), (1, iv p1), (2, iv p2), (3, iv p3), (4, iv z5), (5, iv z223)] [iv z249] (mk w μ) 0 0 := by
        intro z249 h250 W252
        refine mr_istore (pc := 57) (lv' := [(6, iv z249), (0, .ref 87), (1, iv p1), (2, iv p2), (3, iv p3), (4, iv z5), (5, iv z223)]) dX2_isSplit_57 (by decide) rfl ?_
        refine mr_iload (pc := 59) (z := z249) dX2_isSplit_59 rfl ?_
        refine mr_if_eq (pc := 61) (tgt := 86) dX2_isSplit_61 (by decide) (r32 h250 rfl) (fun h253 => ?_) (fun h253 => ?_)
        · have h254 : 0 ≤ z249 ∧ z249 ≤ 0 := (vc_X12_ring_22 h253 h250)
          refine mr_iinc (pc := 86) (lv' := [(5, iv (z223 + 1)), (6, iv z249), (0, .ref 87), (1, iv p1), (2, iv p2), (3, iv p3), (4, iv z5)]) dX2_isSplit_86 rfl (by decide) rfl ?_
          refine sv_goto (pc := 89) (tgt := 9) dX2_isSplit_89 (by decide) ?_
          refine mr_lvS (lv' := [(0, .ref 87), (1, iv p1), (2, iv p2), (3, iv p3), (4, iv z5), (5, iv (z223 + 1))]) (List.forall_mem_cons.mpr ⟨rfl, List.forall_mem_cons.mpr ⟨rfl, List.forall_mem_cons.mpr ⟨rfl, List.forall_mem_cons.mpr ⟨rfl, List.forall_mem_cons.mpr ⟨rfl, List.forall_mem_cons.mpr ⟨rfl, fun _ h => absurd h List.not_mem_nil⟩⟩⟩⟩⟩⟩) ?_
          exact ih231 (z223 + 1) trivial (rW (c := 0) (d := 10) (rAdd (e := 1) (f := 10) h236 (rR (x := 1)) rfl) rfl) (vc_X12_sends_11 (nS h229) h235 h236 h237) ((W252 h250).1 h253)
        have h255 : 1 ≤ z249 ∧ z249 ≤ 1 := (vc_X12_ring_24 h253 h250)
        refine sv_aload_n (pc := 64) dX2_isSplit_64 rfl rfl ?_
        refine gf_X2_0 (pc := 65) dX2_isSplit_65 wF_X2_9 (A_87 hw) hT ?_
        refine gf_X10_3 (pc := 68) dX2_isSplit_68 wF_X2_35 (A_6 hw) hT ?_
        refine mr_iload_n (pc := 71) (z := p1) dX2_isSplit_71 rfl rfl ?_
        refine la_10 (pc := 72) dX2_isSplit_72 (A_10 hw) hT (rIx (n := 10) hp1 rfl) (vc_X9_end_1 hq0 hp1) fun b256 q257 A258 => ?_
        refine gf_X0_2 (pc := 73) dX2_isSplit_73 wF_X2_52 A258 hT fun A259 => ?_
        refine mr_iload (pc := 76) (z := z223) dX2_isSplit_76 rfl ?_
        refine la_213 (pc := 78) dX2_isSplit_78 A259 hT (rIx (n := 10) h236 rfl) fun z260 q261 h262 => ?_
        have h263 : (-99999999) ≤ z260 ∧ z260 ≤ 19 := (vc_X12_sends_3 h262.1)
        refine mr_ldc (pc := 79) (z := (-99999999)) dX2_isSplit_79 wG_X2_41 (by decide) ?_
        refine mr_icmp_eq (pc := 81) (tgt := 86) dX2_isSplit_81 (by decide) (r32 h263 rfl) (r32 (rR (x := (-99999999))) rfl) (fun h264 => ?_) (fun h264 => ?_)
        · have h265 : (-99999999) ≤ z260 ∧ z260 ≤ (-99999999) := (vc_X2_tieFor_12 h264 h262.2 h263 h262.1)
          refine mr_iinc (pc := 86) (lv' := [(5, iv (z223 + 1)), (6, iv z249), (0, .ref 87), (1, iv p1), (2, iv p2), (3, iv p3), (4, iv z5)]) dX2_isSplit_86 rfl (by decide) rfl ?_
          refine sv_goto (pc := 89) (tgt := 9) dX2_isSplit_89 (by decide) ?_
          refine mr_lvS (lv' := [(0, .ref 87), (1, iv p1), (2, iv p2), (3, iv p3), (4, iv z5), (5, iv (z223 + 1))]) (List.forall_mem_cons.mpr ⟨rfl, List.forall_mem_cons.mpr ⟨rfl, List.forall_mem_cons.mpr ⟨rfl, List.forall_mem_cons.mpr ⟨rfl, List.forall_mem_cons.mpr ⟨rfl, List.forall_mem_cons.mpr ⟨rfl, fun _ h => absurd h List.not_mem_nil⟩⟩⟩⟩⟩⟩) ?_
          exact ih231 (z223 + 1) trivial (rW (c := 0) (d := 10) (rAdd (e := 1) (f := 10) h236 (rR (x := 1)) rfl) rfl) (vc_X12_sends_11 (nS h229) h235 h236 h237) (((((W252 h250).2 h253) b256 q257 A258) z260 q261 h262).1 h264)
        have h266 : (-4) ≤ z260 ∧ z260 ≤ 19 := (vc_X2_tieFor_15 h264 h262.2 h263 h262.1)
        refine mr_iconst (pc := 84) (z := 1) dX2_isSplit_84 ?_
        exact mr_zretP dX2_isSplit_85 rfl (rW (c := 0) (d := 1) (rR (x := 1)) rfl) (le_t rfl) (le_t rfl) ⟨(rW (c := 0) (d := 1) (rR (x := 1)) rfl), (((((W252 h250).2 h253) b256 q257 A258) z260 q261 h262).2 h264), trivial⟩
      refine mr_icmp_le (pc := 32) (tgt := 56) dX2_isSplit_32 (by decide) (r32 h240 rfl) hp3 (fun h267 => ?_) (fun h267 => ?_)
      · have h268 : 0 ≤ p3 ∧ p3 ≤ 2147483647 := (vc_X11_right_W_13 h267 hp3 h240)
        refine mr_iconst (pc := 56) (z := 0) dX2_isSplit_56 ?_
        exact J251 0 (rW (c := 0) (d := 1) (rR (x := 0)) rfl) (((((W230 z223 rfl h225) z232 q233 h234).2 h235) z238 q239 h240).1 h267)
      have h269 : (-2147483648) ≤ p3 ∧ p3 ≤ 31 := (vc_X11_right_W_12 h267 hp3 h240)
      refine sv_aload_n (pc := 35) dX2_isSplit_35 rfl rfl ?_
      refine gf_X2_0 (pc := 36) dX2_isSplit_36 wF_X2_9 (A_87 hw) hT ?_
      refine gf_X10_0 (pc := 39) dX2_isSplit_39 wF_X2_49 (A_6 hw) hT ?_
      refine mr_iload (pc := 42) (z := z223) dX2_isSplit_42 rfl ?_
      refine la_7 (pc := 44) dX2_isSplit_44 (A_7 hw) hT (rIx (n := 10) h236 rfl) fun z270 q271 h272 => ?_
      refine mr_iload (pc := 45) (z := z5) dX2_isSplit_45 rfl ?_
      refine mr_iand (pc := 47) (x := z270) (y := z5) dX2_isSplit_47 ?_
      refine mr_gen (P := fun z => (-2147483648) ≤ z ∧ z ≤ 2147483647) (r32i _) fun z273 q274 h275 => ?_
      refine mr_iload_n (pc := 48) (z := p2) dX2_isSplit_48 rfl rfl ?_
      refine mr_icmp_ne (pc := 49) (tgt := 56) dX2_isSplit_49 (by decide) h275 hp2 (fun h276 => ?_) (fun h276 => ?_)
      · refine mr_iconst (pc := 56) (z := 0) dX2_isSplit_56 ?_
        exact J251 0 (rW (c := 0) (d := 1) (rR (x := 0)) rfl) ((((((((W230 z223 rfl h225) z232 q233 h234).2 h235) z238 q239 h240).2 h267) z270 q271 h272) z273 q274).1 h276)
      refine mr_iconst (pc := 52) (z := 1) dX2_isSplit_52 ?_
      refine sv_goto (pc := 53) (tgt := 57) dX2_isSplit_53 (by decide) ?_
      exact J251 1 (rW (c := 0) (d := 1) (rR (x := 1)) rfl) ((((((((W230 z223 rfl h225) z232 q233 h234).2 h235) z238 q239 h240).2 h267) z270 q271 h272) z273 q274).2 h276)
  refine mr_lvS (lv' := [(0, .ref 87), (1, iv p1), (2, iv p2), (3, iv p3), (4, iv z5), (5, iv 0)]) (List.forall_mem_cons.mpr ⟨rfl, List.forall_mem_cons.mpr ⟨rfl, List.forall_mem_cons.mpr ⟨rfl, List.forall_mem_cons.mpr ⟨rfl, List.forall_mem_cons.mpr ⟨rfl, List.forall_mem_cons.mpr ⟨rfl, fun _ h => absurd h List.not_mem_nil⟩⟩⟩⟩⟩⟩) ?_
  exact L224 12 0 trivial (rW (c := 0) (d := 10) (rR (x := 0)) rfl) vc_X12_ring_27 (h4.2.1 h4.1)
def WP_X2_aimBit_W (w : mW) (μ : mM) (p1 : Int) (Q : Int → mM → Prop) : Prop := ((¬ p1 = (-4)) → ((0 ≤ p1) → ∀ z9 : Int, bShl (1 : Int) p1 = z9 → Q z9 μ) ∧ ((p1 < 0) → Q (2097152 : Int) μ)) ∧ ((p1 = (-4)) → Q (1048576 : Int) μ)
theorem vc_X2_aimBit_W_1 {p1 : Int} (h0 : 0 ≤ p1) (h1 : ¬ p1 = (-4)) (h2 : (-99999999) ≤ p1 ∧ p1 ≤ 19) : 0 ≤ p1 ∧ p1 ≤ 19 := by omega
theorem vc_X2_aimBit_W_2 {p1 : Int} (h0 : p1 < 0) (h1 : ¬ p1 = (-4)) (h2 : (-99999999) ≤ p1 ∧ p1 ≤ 19) : (-99999999) ≤ p1 ∧ p1 ≤ (-1) := by omega
theorem vc_X2_aimBit_W_3 {p1 : Int} (h0 : p1 = (-4)) (h1 : (-99999999) ≤ p1 ∧ p1 ≤ 19) : (-4) ≤ p1 ∧ p1 ≤ (-4) := by omega
set_option maxRecDepth 4000 in
set_option maxHeartbeats 4000000 in
theorem c_X2_aimBit_W {l : Launch} {D : va_G} {c : Nat → ClassId} {H0 : Heap} {sa : Nat × Nat × (Nat → Int32)} {w : mW} {μ : mM} (hw : mWF w) (hT : mT w μ) {p1 : Int} (hp1 : (-99999999) ≤ p1 ∧ p1 ≤ 19) {Q : Int → mM → Prop} (hQ : WP_X2_aimBit_W w μ p1 Q) : sC (gG l D c H0 sa) mX2_aimBit 1 0 0 [iv p1] (mk w μ) (qP w μ (fun z => ((-2147483648) ≤ z ∧ z ≤ 2147483647) ∧ Q z μ ∧ True)) := by
  refine sC.of rfl (by decide) (le_t rfl) ?_
  refine mr_lvE (lv' := [(0, iv p1)]) rfl ?_
  refine mr_iload_n (pc := 0) (z := p1) dX2_aimBit_0 rfl rfl ?_
  refine mr_bipush (pc := 1) (z := (-4)) dX2_aimBit_1 (by decide) ?_
  refine mr_icmp_ne (pc := 3) (tgt := 9) dX2_aimBit_3 (by decide) (r32 hp1 rfl) (r32 (rR (x := (-4))) rfl) (fun h1 => ?_) (fun h1 => ?_)
  · refine mr_iload_n (pc := 9) (z := p1) dX2_aimBit_9 rfl rfl ?_
    refine mr_if_ge (pc := 10) (tgt := 18) dX2_aimBit_10 (by decide) (r32 hp1 rfl) (fun h7 => ?_) (fun h7 => ?_)
    · have h8 : 0 ≤ p1 ∧ p1 ≤ 19 := (vc_X2_aimBit_W_1 h7 h1 hp1)
      refine mr_iconst (pc := 18) (z := 1) dX2_aimBit_18 ?_
      refine mr_iload_n (pc := 19) (z := p1) dX2_aimBit_19 rfl rfl ?_
      refine mr_ishl (pc := 20) (x := 1) (y := p1) dX2_aimBit_20 ?_
      refine mr_gen (P := fun z => (-2147483648) ≤ z ∧ z ≤ 2147483647) (r32i _) fun z9 q10 h11 => ?_
      exact mr_iretP dX2_aimBit_21 rfl (le_t rfl) (le_t rfl) ⟨h11, (((hQ.1 h1).1 h7) z9 q10), trivial⟩
    have h12 : (-99999999) ≤ p1 ∧ p1 ≤ (-1) := (vc_X2_aimBit_W_2 h7 h1 hp1)
    refine mr_ldc (pc := 13) (z := 2097152) dX2_aimBit_13 wG_X2_105 (by decide) ?_
    refine sv_goto (pc := 15) (tgt := 21) dX2_aimBit_15 (by decide) ?_
    exact mr_iretP dX2_aimBit_21 rfl (le_t rfl) (le_t rfl) ⟨(rW (c := (-2147483648)) (d := 2147483647) (rR (x := 2097152)) rfl), ((hQ.1 h1).2 h7), trivial⟩
  have h13 : (-4) ≤ p1 ∧ p1 ≤ (-4) := (vc_X2_aimBit_W_3 h1 hp1)
  refine mr_ldc (pc := 6) (z := 1048576) dX2_aimBit_6 wG_X2_116 (by decide) ?_
  exact mr_iretP dX2_aimBit_8 rfl (le_t rfl) (le_t rfl) ⟨(rW (c := (-2147483648)) (d := 2147483647) (rR (x := 1048576)) rfl), (hQ.2 h1), trivial⟩
def WP_X2_leastBelow_W32 (w : mW) (μ : mM) (p1 : Int) (p2 : Int) (p3 : Int) (Q : Int → mM → Prop) : Prop := WP_X2_tieFor_W w μ p1 p2 (fun z5 _ => ((-99999999) ≤ z5 ∧ z5 ≤ 19) → WP_X2_aimBit_W w μ z5 (fun z10 _ => ((-2147483648) ≤ z10 ∧ z10 ≤ 2147483647) → Q z10 μ))
theorem vc_X2_leastBelow_W32_1 {p3 : Int} (h0 : p3 < 32) (h1 : 32 ≤ p3 ∧ p3 ≤ 32) : False := by omega
set_option maxRecDepth 4000 in
set_option maxHeartbeats 4000000 in
theorem c_X2_leastBelow_W32 {l : Launch} {D : va_G} {c : Nat → ClassId} {H0 : Heap} {sa : Nat × Nat × (Nat → Int32)} {w : mW} {μ : mM} (hw : mWF w) (hT : mT w μ) {p1 : Int} (hp1 : 0 ≤ p1 ∧ p1 ≤ 9) {p2 : Int} (hp2 : (-2147483648) ≤ p2 ∧ p2 ≤ 2147483647) {p3 : Int} (hp3 : 32 ≤ p3 ∧ p3 ≤ 32) (hq0 : p1 < w.2.2.2 0) {Q : Int → mM → Prop} (hQ : WP_X2_leastBelow_W32 w μ p1 p2 p3 Q) : sC (gG l D c H0 sa) mX2_leastBelow 3 0 0 [.ref 87, iv p1, iv p2, iv p3] (mk w μ) (qI w [87007] μ (fun z μ1 => ((-2147483648) ≤ z ∧ z ≤ 2147483647) ∧ Q z μ1 ∧ True)) := by
  refine sC.of rfl (by decide) (le_t rfl) ?_
  refine mr_lvE (lv' := [(0, .ref 87), (1, iv p1), (2, iv p2), (3, iv p3)]) rfl ?_
  refine mr_iload_n (pc := 0) (z := p3) dX2_leastBelow_0 rfl rfl ?_
  refine mr_bipush (pc := 1) (z := 32) dX2_leastBelow_1 (by decide) ?_
  refine mr_icmp_ge (pc := 3) (tgt := 16) dX2_leastBelow_3 (by decide) (r32 hp3 rfl) (r32 (rR (x := 32)) rfl) (fun _ => ?_) (fun h => ((vc_X2_leastBelow_W32_1 h hp3)).elim)
  refine sv_aload_n (pc := 16) dX2_leastBelow_16 rfl rfl ?_
  refine mr_iload_n (pc := 17) (z := p1) dX2_leastBelow_17 rfl rfl ?_
  refine mr_iload_n (pc := 18) (z := p2) dX2_leastBelow_18 rfl rfl ?_
  refine mr_cVP (pc := 19) (c_X2_tieFor_W hw hT hp1 hp2 (vc_X9_end_1 hq0 hp1) hQ) (gOk _ _ _ _ _) dX2_leastBelow_19 (tX2_tieFor _ _ _ _ _) ⟨wV_X2_tieFor, wL_X2_tieFor⟩ wM_X2_60 (gCX2 _ _ _ _ _) rfl (A_87 hw) rfl ⟨le_t rfl, le_t rfl⟩ ⟨le_t rfl, le_t rfl⟩ rfl (le_t rfl) fun z5 h4 => ?_
  refine mr_cSP (pc := 22) (c_X2_aimBit_W hw hT h4.1 (h4.2.2.2.1 h4.1)) (gOk _ _ _ _ _) dX2_leastBelow_22 (tX2_aimBit _ _ _ _ _) wS_X2_aimBit wM_X2_110 ⟨le_t rfl, le_t rfl⟩ ⟨le_t rfl, le_t rfl⟩ rfl (le_t rfl) fun z10 h9 => ?_
  exact mr_iret dX2_leastBelow_25 rfl (le_t rfl) (le_t rfl) hT mF.refl ⟨h9.1, (h9.2.1 h9.1), trivial⟩
def WP_X2_leastBelow_W31 (w : mW) (μ : mM) (p1 : Int) (p2 : Int) (p3 : Int) (Q : Int → mM → Prop) : Prop := WP_X2_isSplit_W w μ p1 p2 p3 (fun z5 _ => (0 ≤ z5 ∧ z5 ≤ 1) → ((¬ z5 = 0) → WP_X2_leastBelow_W32 w μ p1 p2 (p3 + 1) (fun z12 μ8 => mT w μ8 → mF [87007] w μ μ8 → ((-2147483648) ≤ z12 ∧ z12 ≤ 2147483647) → ∀ z13 : Int, bShl (1 : Int) (31 - p3) = z13 → ∀ z16 : Int, bOr p2 z13 = z16 → WP_X2_leastBelow_W32 w μ8 p1 z16 (p3 + 1) (fun z23 μ19 => mT w μ19 → mF [87007] w μ8 μ19 → ((-2147483648) ≤ z23 ∧ z23 ≤ 2147483647) → ∀ z24 : Int, bAnd z12 z23 = z24 → ((z24 = 0) → ∀ z29 : Int, μ19 87 7 = z29 → ((-2147483648) ≤ z29 ∧ z29 ≤ 2147483647) → ∀ z32 : Int, (-2147483648 ≤ z32 ∧ z32 ≤ 2147483647) → (z32 - (z29 + 1)) % 4294967296 = 0 → ∀ μ35 : mM, mU μ19 87 (7) z32 μ35 → mT w μ35 → ∀ z38 : Int, bOr z12 z23 = z38 → Q z38 μ35) ∧ ((¬ z24 = 0) → ∀ z41 : Int, bAnd z12 z23 = z41 → Q z41 μ19)))) ∧ ((z5 = 0) → WP_X2_tieFor_W w μ p1 p2 (fun z49 _ => ((-99999999) ≤ z49 ∧ z49 ≤ 19) → WP_X2_aimBit_W w μ z49 (fun z54 _ => ((-2147483648) ≤ z54 ∧ z54 ≤ 2147483647) → Q z54 μ))))
theorem vc_X2_leastBelow_W31_1 {p3 : Int} (h0 : 32 ≤ p3) (h1 : 31 ≤ p3 ∧ p3 ≤ 31) : False := by omega
set_option maxRecDepth 4000 in
set_option maxHeartbeats 4000000 in
theorem c_X2_leastBelow_W31 {l : Launch} {D : va_G} {c : Nat → ClassId} {H0 : Heap} {sa : Nat × Nat × (Nat → Int32)} {w : mW} {μ : mM} (hw : mWF w) (hT : mT w μ) {p1 : Int} (hp1 : 0 ≤ p1 ∧ p1 ≤ 9) {p2 : Int} (hp2 : (-2147483648) ≤ p2 ∧ p2 ≤ 2147483647) {p3 : Int} (hp3 : 31 ≤ p3 ∧ p3 ≤ 31) (hq0 : p1 < w.2.2.2 0) {Q : Int → mM → Prop} (hQ : WP_X2_leastBelow_W31 w μ p1 p2 p3 Q) : sC (gG l D c H0 sa) mX2_leastBelow 4 0 0 [.ref 87, iv p1, iv p2, iv p3] (mk w μ) (qI w [87007] μ (fun z μ1 => ((-2147483648) ≤ z ∧ z ≤ 2147483647) ∧ Q z μ1 ∧ True)) := by
  refine sC.of rfl (by decide) (le_t rfl) ?_
  refine mr_lvE (lv' := [(0, .ref 87), (1, iv p1), (2, iv p2), (3, iv p3)]) rfl ?_
  refine mr_iload_n (pc := 0) (z := p3) dX2_leastBelow_0 rfl rfl ?_
  refine mr_bipush (pc := 1) (z := 32) dX2_leastBelow_1 (by decide) ?_
  refine mr_icmp_ge (pc := 3) (tgt := 16) dX2_leastBelow_3 (by decide) (r32 hp3 rfl) (r32 (rR (x := 32)) rfl) (fun h => ((vc_X2_leastBelow_W31_1 h hp3)).elim) (fun _ => ?_)
  refine sv_aload_n (pc := 6) dX2_leastBelow_6 rfl rfl ?_
  refine mr_iload_n (pc := 7) (z := p1) dX2_leastBelow_7 rfl rfl ?_
  refine mr_iload_n (pc := 8) (z := p2) dX2_leastBelow_8 rfl rfl ?_
  refine mr_iload_n (pc := 9) (z := p3) dX2_leastBelow_9 rfl rfl ?_
  refine mr_cVP (pc := 10) (c_X2_isSplit_W hw hT hp1 hp2 (rW (c := (-2147483648)) (d := 2147483647) hp3 rfl) (vc_X9_end_1 hq0 hp1) hQ) (gOk _ _ _ _ _) dX2_leastBelow_10 (tX2_isSplit _ _ _ _ _) ⟨wV_X2_isSplit, wL_X2_isSplit⟩ wM_X2_106 (gCX2 _ _ _ _ _) rfl (A_87 hw) rfl ⟨le_t rfl, le_t rfl⟩ ⟨le_t rfl, le_t rfl⟩ rfl (le_t rfl) fun z5 h4 => ?_
  refine mr_if_ne (pc := 13) (tgt := 26) dX2_leastBelow_13 (by decide) (r32 h4.1 rfl) (fun h6 => ?_) (fun h6 => ?_)
  · have h7 : 1 ≤ z5 ∧ z5 ≤ 1 := (vc_X12_ring_24 h6 h4.1)
    refine sv_aload_n (pc := 26) dX2_leastBelow_26 rfl rfl ?_
    refine mr_iload_n (pc := 27) (z := p1) dX2_leastBelow_27 rfl rfl ?_
    refine mr_iload_n (pc := 28) (z := p2) dX2_leastBelow_28 rfl rfl ?_
    refine mr_iload_n (pc := 29) (z := p3) dX2_leastBelow_29 rfl rfl ?_
    refine mr_iconst (pc := 30) (z := 1) dX2_leastBelow_30 ?_
    refine mr_iadd (pc := 31) (x := p3) (y := 1) dX2_leastBelow_31 ?_
    refine mr_cVI (pc := 32) (c_X2_leastBelow_W32 hw hT hp1 hp2 (rAdd (e := 32) (f := 32) hp3 (rR (x := 1)) rfl) (vc_X9_end_1 hq0 hp1) ((h4.2.1 h4.1).1 h6)) (gOk _ _ _ _ _) dX2_leastBelow_32 (tX2_leastBelow _ _ _ _ _) ⟨wV_X2_leastBelow, wL_X2_leastBelow⟩ wM_X2_101 (gCX2 _ _ _ _ _) rfl (A_87 hw) rfl ⟨le_t rfl, le_t rfl⟩ ⟨le_t rfl, le_t rfl⟩ rfl (le_t rfl) fun z12 μ8 T9 F10 h11 => ?_
    refine mr_istore (pc := 35) (lv' := [(4, iv z12), (0, .ref 87), (1, iv p1), (2, iv p2), (3, iv p3)]) dX2_leastBelow_35 (by decide) rfl ?_
    refine sv_aload_n (pc := 37) dX2_leastBelow_37 rfl rfl ?_
    refine mr_iload_n (pc := 38) (z := p1) dX2_leastBelow_38 rfl rfl ?_
    refine mr_iload_n (pc := 39) (z := p2) dX2_leastBelow_39 rfl rfl ?_
    refine mr_iconst (pc := 40) (z := 1) dX2_leastBelow_40 ?_
    refine mr_bipush (pc := 41) (z := 31) dX2_leastBelow_41 (by decide) ?_
    refine mr_iload_n (pc := 43) (z := p3) dX2_leastBelow_43 rfl rfl ?_
    refine mr_isub (pc := 44) (x := 31) (y := p3) dX2_leastBelow_44 ?_
    refine mr_ishl (pc := 45) (x := 1) (y := (31 - p3)) dX2_leastBelow_45 ?_
    refine mr_gen (P := fun z => (-2147483648) ≤ z ∧ z ≤ 2147483647) (r32i _) fun z13 q14 h15 => ?_
    refine mr_ior (pc := 46) (x := p2) (y := z13) dX2_leastBelow_46 ?_
    refine mr_gen (P := fun z => (-2147483648) ≤ z ∧ z ≤ 2147483647) (r32i _) fun z16 q17 h18 => ?_
    refine mr_iload_n (pc := 47) (z := p3) dX2_leastBelow_47 rfl rfl ?_
    refine mr_iconst (pc := 48) (z := 1) dX2_leastBelow_48 ?_
    refine mr_iadd (pc := 49) (x := p3) (y := 1) dX2_leastBelow_49 ?_
    refine mr_cVI (pc := 50) (c_X2_leastBelow_W32 hw T9 hp1 h18 (rAdd (e := 32) (f := 32) hp3 (rR (x := 1)) rfl) (vc_X9_end_1 hq0 hp1) ((((h11.2.1 T9 F10) h11.1) z13 q14) z16 q17)) (gOk _ _ _ _ _) dX2_leastBelow_50 (tX2_leastBelow _ _ _ _ _) ⟨wV_X2_leastBelow, wL_X2_leastBelow⟩ wM_X2_101 (gCX2 _ _ _ _ _) rfl (A_87 hw) rfl ⟨le_t rfl, le_t rfl⟩ ⟨le_t rfl, le_t rfl⟩ rfl (le_t rfl) fun z23 μ19 T20 F21 h22 => ?_
    refine mr_istore (pc := 53) (lv' := [(5, iv z23), (4, iv z12), (0, .ref 87), (1, iv p1), (2, iv p2), (3, iv p3)]) dX2_leastBelow_53 (by decide) rfl ?_
    refine mr_iload (pc := 55) (z := z12) dX2_leastBelow_55 rfl ?_
    refine mr_iload (pc := 57) (z := z23) dX2_leastBelow_57 rfl ?_
    refine mr_iand (pc := 59) (x := z12) (y := z23) dX2_leastBelow_59 ?_
    refine mr_gen (P := fun z => (-2147483648) ≤ z ∧ z ≤ 2147483647) (r32i _) fun z24 q25 h26 => ?_
    refine mr_if_eq (pc := 60) (tgt := 69) dX2_leastBelow_60 (by decide) h26 (fun h27 => ?_) (fun h27 => ?_)
    · have h28 : 0 ≤ z24 ∧ z24 ≤ 0 := (vc_X12_mask_1 h27 h26)
      refine sv_aload_n (pc := 69) dX2_leastBelow_69 rfl rfl ?_
      refine sv_dup (pc := 70) dX2_leastBelow_70 rfl ?_
      refine gf_X2_7 (pc := 71) dX2_leastBelow_71 wF_X2_98 (A_87 hw) T20 fun z29 q30 h31 => ?_
      refine mr_iconst (pc := 74) (z := 1) dX2_leastBelow_74 ?_
      refine mr_iadd (pc := 75) (x := z29) (y := 1) dX2_leastBelow_75 ?_
      refine mr_wrapF fun z32 h33 h34 => ?_
      refine pf_X2_7 (pc := 76) dX2_leastBelow_76 wF_X2_98 (A_87 hw) T20 h33 fun μ35 u36 T37 => ?_
      refine mr_iload (pc := 79) (z := z12) dX2_leastBelow_79 rfl ?_
      refine mr_iload (pc := 81) (z := z23) dX2_leastBelow_81 rfl ?_
      refine mr_ior (pc := 83) (x := z12) (y := z23) dX2_leastBelow_83 ?_
      refine mr_gen (P := fun z => (-2147483648) ≤ z ∧ z ≤ 2147483647) (r32i _) fun z38 q39 h40 => ?_
      exact mr_iret dX2_leastBelow_84 rfl (le_t rfl) (le_t rfl) T37 (mF.up (mF.call (mF.call mF.refl F10 rfl) F21 rfl) (A_87 hw) u36 rfl) ⟨h40, ((((((((h22.2.1 T20 F21) h22.1) z24 q25).1 h27) z29 q30 h31) z32 h33 h34) μ35 u36 T37) z38 q39), trivial⟩
    refine mr_iload (pc := 63) (z := z12) dX2_leastBelow_63 rfl ?_
    refine mr_iload (pc := 65) (z := z23) dX2_leastBelow_65 rfl ?_
    refine mr_iand (pc := 67) (x := z12) (y := z23) dX2_leastBelow_67 ?_
    refine mr_gen (P := fun z => (-2147483648) ≤ z ∧ z ≤ 2147483647) (r32i _) fun z41 q42 h43 => ?_
    exact mr_iret dX2_leastBelow_68 rfl (le_t rfl) (le_t rfl) T20 (mF.call (mF.call mF.refl F10 rfl) F21 rfl) ⟨h43, (((((h22.2.1 T20 F21) h22.1) z24 q25).2 h27) z41 q42), trivial⟩
  have h44 : 0 ≤ z5 ∧ z5 ≤ 0 := (vc_X12_ring_22 h6 h4.1)
  refine sv_aload_n (pc := 16) dX2_leastBelow_16 rfl rfl ?_
  refine mr_iload_n (pc := 17) (z := p1) dX2_leastBelow_17 rfl rfl ?_
  refine mr_iload_n (pc := 18) (z := p2) dX2_leastBelow_18 rfl rfl ?_
  refine mr_cVP (pc := 19) (c_X2_tieFor_W hw hT hp1 hp2 (vc_X9_end_1 hq0 hp1) ((h4.2.1 h4.1).2 h6)) (gOk _ _ _ _ _) dX2_leastBelow_19 (tX2_tieFor _ _ _ _ _) ⟨wV_X2_tieFor, wL_X2_tieFor⟩ wM_X2_60 (gCX2 _ _ _ _ _) rfl (A_87 hw) rfl ⟨le_t rfl, le_t rfl⟩ ⟨le_t rfl, le_t rfl⟩ rfl (le_t rfl) fun z49 h48 => ?_
  refine mr_cSP (pc := 22) (c_X2_aimBit_W hw hT h48.1 (h48.2.2.2.1 h48.1)) (gOk _ _ _ _ _) dX2_leastBelow_22 (tX2_aimBit _ _ _ _ _) wS_X2_aimBit wM_X2_110 ⟨le_t rfl, le_t rfl⟩ ⟨le_t rfl, le_t rfl⟩ rfl (le_t rfl) fun z54 h53 => ?_
  exact mr_iret dX2_leastBelow_25 rfl (le_t rfl) (le_t rfl) hT mF.refl ⟨h53.1, (h53.2.1 h53.1), trivial⟩
def WP_X2_leastBelow_W30 (w : mW) (μ : mM) (p1 : Int) (p2 : Int) (p3 : Int) (Q : Int → mM → Prop) : Prop := WP_X2_isSplit_W w μ p1 p2 p3 (fun z5 _ => (0 ≤ z5 ∧ z5 ≤ 1) → ((¬ z5 = 0) → WP_X2_leastBelow_W31 w μ p1 p2 (p3 + 1) (fun z12 μ8 => mT w μ8 → mF [87007] w μ μ8 → ((-2147483648) ≤ z12 ∧ z12 ≤ 2147483647) → ∀ z13 : Int, bShl (1 : Int) (31 - p3) = z13 → ∀ z16 : Int, bOr p2 z13 = z16 → WP_X2_leastBelow_W31 w μ8 p1 z16 (p3 + 1) (fun z23 μ19 => mT w μ19 → mF [87007] w μ8 μ19 → ((-2147483648) ≤ z23 ∧ z23 ≤ 2147483647) → ∀ z24 : Int, bAnd z12 z23 = z24 → ((z24 = 0) → ∀ z29 : Int, μ19 87 7 = z29 → ((-2147483648) ≤ z29 ∧ z29 ≤ 2147483647) → ∀ z32 : Int, (-2147483648 ≤ z32 ∧ z32 ≤ 2147483647) → (z32 - (z29 + 1)) % 4294967296 = 0 → ∀ μ35 : mM, mU μ19 87 (7) z32 μ35 → mT w μ35 → ∀ z38 : Int, bOr z12 z23 = z38 → Q z38 μ35) ∧ ((¬ z24 = 0) → ∀ z41 : Int, bAnd z12 z23 = z41 → Q z41 μ19)))) ∧ ((z5 = 0) → WP_X2_tieFor_W w μ p1 p2 (fun z49 _ => ((-99999999) ≤ z49 ∧ z49 ≤ 19) → WP_X2_aimBit_W w μ z49 (fun z54 _ => ((-2147483648) ≤ z54 ∧ z54 ≤ 2147483647) → Q z54 μ))))
theorem vc_X2_leastBelow_W30_1 {p3 : Int} (h0 : 32 ≤ p3) (h1 : 30 ≤ p3 ∧ p3 ≤ 30) : False := by omega
set_option maxRecDepth 4000 in
set_option maxHeartbeats 4000000 in
theorem c_X2_leastBelow_W30 {l : Launch} {D : va_G} {c : Nat → ClassId} {H0 : Heap} {sa : Nat × Nat × (Nat → Int32)} {w : mW} {μ : mM} (hw : mWF w) (hT : mT w μ) {p1 : Int} (hp1 : 0 ≤ p1 ∧ p1 ≤ 9) {p2 : Int} (hp2 : (-2147483648) ≤ p2 ∧ p2 ≤ 2147483647) {p3 : Int} (hp3 : 30 ≤ p3 ∧ p3 ≤ 30) (hq0 : p1 < w.2.2.2 0) {Q : Int → mM → Prop} (hQ : WP_X2_leastBelow_W30 w μ p1 p2 p3 Q) : sC (gG l D c H0 sa) mX2_leastBelow 5 0 0 [.ref 87, iv p1, iv p2, iv p3] (mk w μ) (qI w [87007] μ (fun z μ1 => ((-2147483648) ≤ z ∧ z ≤ 2147483647) ∧ Q z μ1 ∧ True)) := by
  refine sC.of rfl (by decide) (le_t rfl) ?_
  refine mr_lvE (lv' := [(0, .ref 87), (1, iv p1), (2, iv p2), (3, iv p3)]) rfl ?_
  refine mr_iload_n (pc := 0) (z := p3) dX2_leastBelow_0 rfl rfl ?_
  refine mr_bipush (pc := 1) (z := 32) dX2_leastBelow_1 (by decide) ?_
  refine mr_icmp_ge (pc := 3) (tgt := 16) dX2_leastBelow_3 (by decide) (r32 hp3 rfl) (r32 (rR (x := 32)) rfl) (fun h => ((vc_X2_leastBelow_W30_1 h hp3)).elim) (fun _ => ?_)
  refine sv_aload_n (pc := 6) dX2_leastBelow_6 rfl rfl ?_
  refine mr_iload_n (pc := 7) (z := p1) dX2_leastBelow_7 rfl rfl ?_
  refine mr_iload_n (pc := 8) (z := p2) dX2_leastBelow_8 rfl rfl ?_
  refine mr_iload_n (pc := 9) (z := p3) dX2_leastBelow_9 rfl rfl ?_
  refine mr_cVP (pc := 10) (c_X2_isSplit_W hw hT hp1 hp2 (rW (c := (-2147483648)) (d := 2147483647) hp3 rfl) (vc_X9_end_1 hq0 hp1) hQ) (gOk _ _ _ _ _) dX2_leastBelow_10 (tX2_isSplit _ _ _ _ _) ⟨wV_X2_isSplit, wL_X2_isSplit⟩ wM_X2_106 (gCX2 _ _ _ _ _) rfl (A_87 hw) rfl ⟨le_t rfl, le_t rfl⟩ ⟨le_t rfl, le_t rfl⟩ rfl (le_t rfl) fun z5 h4 => ?_
  refine mr_if_ne (pc := 13) (tgt := 26) dX2_leastBelow_13 (by decide) (r32 h4.1 rfl) (fun h6 => ?_) (fun h6 => ?_)
  · have h7 : 1 ≤ z5 ∧ z5 ≤ 1 := (vc_X12_ring_24 h6 h4.1)
    refine sv_aload_n (pc := 26) dX2_leastBelow_26 rfl rfl ?_
    refine mr_iload_n (pc := 27) (z := p1) dX2_leastBelow_27 rfl rfl ?_
    refine mr_iload_n (pc := 28) (z := p2) dX2_leastBelow_28 rfl rfl ?_
    refine mr_iload_n (pc := 29) (z := p3) dX2_leastBelow_29 rfl rfl ?_
    refine mr_iconst (pc := 30) (z := 1) dX2_leastBelow_30 ?_
    refine mr_iadd (pc := 31) (x := p3) (y := 1) dX2_leastBelow_31 ?_
    refine mr_cVI (pc := 32) (c_X2_leastBelow_W31 hw hT hp1 hp2 (rAdd (e := 31) (f := 31) hp3 (rR (x := 1)) rfl) (vc_X9_end_1 hq0 hp1) ((h4.2.1 h4.1).1 h6)) (gOk _ _ _ _ _) dX2_leastBelow_32 (tX2_leastBelow _ _ _ _ _) ⟨wV_X2_leastBelow, wL_X2_leastBelow⟩ wM_X2_101 (gCX2 _ _ _ _ _) rfl (A_87 hw) rfl ⟨le_t rfl, le_t rfl⟩ ⟨le_t rfl, le_t rfl⟩ rfl (le_t rfl) fun z12 μ8 T9 F10 h11 => ?_
    refine mr_istore (pc := 35) (lv' := [(4, iv z12), (0, .ref 87), (1, iv p1), (2, iv p2), (3, iv p3)]) dX2_leastBelow_35 (by decide) rfl ?_
    refine sv_aload_n (pc := 37) dX2_leastBelow_37 rfl rfl ?_
    refine mr_iload_n (pc := 38) (z := p1) dX2_leastBelow_38 rfl rfl ?_
    refine mr_iload_n (pc := 39) (z := p2) dX2_leastBelow_39 rfl rfl ?_
    refine mr_iconst (pc := 40) (z := 1) dX2_leastBelow_40 ?_
    refine mr_bipush (pc := 41) (z := 31) dX2_leastBelow_41 (by decide) ?_
    refine mr_iload_n (pc := 43) (z := p3) dX2_leastBelow_43 rfl rfl ?_
    refine mr_isub (pc := 44) (x := 31) (y := p3) dX2_leastBelow_44 ?_
    refine mr_ishl (pc := 45) (x := 1) (y := (31 - p3)) dX2_leastBelow_45 ?_
    refine mr_gen (P := fun z => (-2147483648) ≤ z ∧ z ≤ 2147483647) (r32i _) fun z13 q14 h15 => ?_
    refine mr_ior (pc := 46) (x := p2) (y := z13) dX2_leastBelow_46 ?_
    refine mr_gen (P := fun z => (-2147483648) ≤ z ∧ z ≤ 2147483647) (r32i _) fun z16 q17 h18 => ?_
    refine mr_iload_n (pc := 47) (z := p3) dX2_leastBelow_47 rfl rfl ?_
    refine mr_iconst (pc := 48) (z := 1) dX2_leastBelow_48 ?_
    refine mr_iadd (pc := 49) (x := p3) (y := 1) dX2_leastBelow_49 ?_
    refine mr_cVI (pc := 50) (c_X2_leastBelow_W31 hw T9 hp1 h18 (rAdd (e := 31) (f := 31) hp3 (rR (x := 1)) rfl) (vc_X9_end_1 hq0 hp1) ((((h11.2.1 T9 F10) h11.1) z13 q14) z16 q17)) (gOk _ _ _ _ _) dX2_leastBelow_50 (tX2_leastBelow _ _ _ _ _) ⟨wV_X2_leastBelow, wL_X2_leastBelow⟩ wM_X2_101 (gCX2 _ _ _ _ _) rfl (A_87 hw) rfl ⟨le_t rfl, le_t rfl⟩ ⟨le_t rfl, le_t rfl⟩ rfl (le_t rfl) fun z23 μ19 T20 F21 h22 => ?_
    refine mr_istore (pc := 53) (lv' := [(5, iv z23), (4, iv z12), (0, .ref 87), (1, iv p1), (2, iv p2), (3, iv p3)]) dX2_leastBelow_53 (by decide) rfl ?_
    refine mr_iload (pc := 55) (z := z12) dX2_leastBelow_55 rfl ?_
    refine mr_iload (pc := 57) (z := z23) dX2_leastBelow_57 rfl ?_
    refine mr_iand (pc := 59) (x := z12) (y := z23) dX2_leastBelow_59 ?_
    refine mr_gen (P := fun z => (-2147483648) ≤ z ∧ z ≤ 2147483647) (r32i _) fun z24 q25 h26 => ?_
    refine mr_if_eq (pc := 60) (tgt := 69) dX2_leastBelow_60 (by decide) h26 (fun h27 => ?_) (fun h27 => ?_)
    · have h28 : 0 ≤ z24 ∧ z24 ≤ 0 := (vc_X12_mask_1 h27 h26)
      refine sv_aload_n (pc := 69) dX2_leastBelow_69 rfl rfl ?_
      refine sv_dup (pc := 70) dX2_leastBelow_70 rfl ?_
      refine gf_X2_7 (pc := 71) dX2_leastBelow_71 wF_X2_98 (A_87 hw) T20 fun z29 q30 h31 => ?_
      refine mr_iconst (pc := 74) (z := 1) dX2_leastBelow_74 ?_
      refine mr_iadd (pc := 75) (x := z29) (y := 1) dX2_leastBelow_75 ?_
      refine mr_wrapF fun z32 h33 h34 => ?_
      refine pf_X2_7 (pc := 76) dX2_leastBelow_76 wF_X2_98 (A_87 hw) T20 h33 fun μ35 u36 T37 => ?_
      refine mr_iload (pc := 79) (z := z12) dX2_leastBelow_79 rfl ?_
      refine mr_iload (pc := 81) (z := z23) dX2_leastBelow_81 rfl ?_
      refine mr_ior (pc := 83) (x := z12) (y := z23) dX2_leastBelow_83 ?_
      refine mr_gen (P := fun z => (-2147483648) ≤ z ∧ z ≤ 2147483647) (r32i _) fun z38 q39 h40 => ?_
      exact mr_iret dX2_leastBelow_84 rfl (le_t rfl) (le_t rfl) T37 (mF.up (mF.call (mF.call mF.refl F10 rfl) F21 rfl) (A_87 hw) u36 rfl) ⟨h40, ((((((((h22.2.1 T20 F21) h22.1) z24 q25).1 h27) z29 q30 h31) z32 h33 h34) μ35 u36 T37) z38 q39), trivial⟩
    refine mr_iload (pc := 63) (z := z12) dX2_leastBelow_63 rfl ?_
    refine mr_iload (pc := 65) (z := z23) dX2_leastBelow_65 rfl ?_
    refine mr_iand (pc := 67) (x := z12) (y := z23) dX2_leastBelow_67 ?_
    refine mr_gen (P := fun z => (-2147483648) ≤ z ∧ z ≤ 2147483647) (r32i _) fun z41 q42 h43 => ?_
    exact mr_iret dX2_leastBelow_68 rfl (le_t rfl) (le_t rfl) T20 (mF.call (mF.call mF.refl F10 rfl) F21 rfl) ⟨h43, (((((h22.2.1 T20 F21) h22.1) z24 q25).2 h27) z41 q42), trivial⟩
  have h44 : 0 ≤ z5 ∧ z5 ≤ 0 := (vc_X12_ring_22 h6 h4.1)
  refine sv_aload_n (pc := 16) dX2_leastBelow_16 rfl rfl ?_
  refine mr_iload_n (pc := 17) (z := p1) dX2_leastBelow_17 rfl rfl ?_
  refine mr_iload_n (pc := 18) (z := p2) dX2_leastBelow_18 rfl rfl ?_
  refine mr_cVP (pc := 19) (c_X2_tieFor_W hw hT hp1 hp2 (vc_X9_end_1 hq0 hp1) ((h4.2.1 h4.1).2 h6)) (gOk _ _ _ _ _) dX2_leastBelow_19 (tX2_tieFor _ _ _ _ _) ⟨wV_X2_tieFor, wL_X2_tieFor⟩ wM_X2_60 (gCX2 _ _ _ _ _) rfl (A_87 hw) rfl ⟨le_t rfl, le_t rfl⟩ ⟨le_t rfl, le_t rfl⟩ rfl (le_t rfl) fun z49 h48 => ?_
  refine mr_cSP (pc := 22) (c_X2_aimBit_W hw hT h48.1 (h48.2.2.2.1 h48.1)) (gOk _ _ _ _ _) dX2_leastBelow_22 (tX2_aimBit _ _ _ _ _) wS_X2_aimBit wM_X2_110 ⟨le_t rfl, le_t rfl⟩ ⟨le_t rfl, le_t rfl⟩ rfl (le_t rfl) fun z54 h53 => ?_
  exact mr_iret dX2_leastBelow_25 rfl (le_t rfl) (le_t rfl) hT mF.refl ⟨h53.1, (h53.2.1 h53.1), trivial⟩
def WP_X2_leastBelow_W29 (w : mW) (μ : mM) (p1 : Int) (p2 : Int) (p3 : Int) (Q : Int → mM → Prop) : Prop := WP_X2_isSplit_W w μ p1 p2 p3 (fun z5 _ => (0 ≤ z5 ∧ z5 ≤ 1) → ((¬ z5 = 0) → WP_X2_leastBelow_W30 w μ p1 p2 (p3 + 1) (fun z12 μ8 => mT w μ8 → mF [87007] w μ μ8 → ((-2147483648) ≤ z12 ∧ z12 ≤ 2147483647) → ∀ z13 : Int, bShl (1 : Int) (31 - p3) = z13 → ∀ z16 : Int, bOr p2 z13 = z16 → WP_X2_leastBelow_W30 w μ8 p1 z16 (p3 + 1) (fun z23 μ19 => mT w μ19 → mF [87007] w μ8 μ19 → ((-2147483648) ≤ z23 ∧ z23 ≤ 2147483647) → ∀ z24 : Int, bAnd z12 z23 = z24 → ((z24 = 0) → ∀ z29 : Int, μ19 87 7 = z29 → ((-2147483648) ≤ z29 ∧ z29 ≤ 2147483647) → ∀ z32 : Int, (-2147483648 ≤ z32 ∧ z32 ≤ 2147483647) → (z32 - (z29 + 1)) % 4294967296 = 0 → ∀ μ35 : mM, mU μ19 87 (7) z32 μ35 → mT w μ35 → ∀ z38 : Int, bOr z12 z23 = z38 → Q z38 μ35) ∧ ((¬ z24 = 0) → ∀ z41 : Int, bAnd z12 z23 = z41 → Q z41 μ19)))) ∧ ((z5 = 0) → WP_X2_tieFor_W w μ p1 p2 (fun z49 _ => ((-99999999) ≤ z49 ∧ z49 ≤ 19) → WP_X2_aimBit_W w μ z49 (fun z54 _ => ((-2147483648) ≤ z54 ∧ z54 ≤ 2147483647) → Q z54 μ))))
theorem vc_X2_leastBelow_W29_1 {p3 : Int} (h0 : 32 ≤ p3) (h1 : 29 ≤ p3 ∧ p3 ≤ 29) : False := by omega
set_option maxRecDepth 4000 in
set_option maxHeartbeats 4000000 in
theorem c_X2_leastBelow_W29 {l : Launch} {D : va_G} {c : Nat → ClassId} {H0 : Heap} {sa : Nat × Nat × (Nat → Int32)} {w : mW} {μ : mM} (hw : mWF w) (hT : mT w μ) {p1 : Int} (hp1 : 0 ≤ p1 ∧ p1 ≤ 9) {p2 : Int} (hp2 : (-2147483648) ≤ p2 ∧ p2 ≤ 2147483647) {p3 : Int} (hp3 : 29 ≤ p3 ∧ p3 ≤ 29) (hq0 : p1 < w.2.2.2 0) {Q : Int → mM → Prop} (hQ : WP_X2_leastBelow_W29 w μ p1 p2 p3 Q) : sC (gG l D c H0 sa) mX2_leastBelow 6 0 0 [.ref 87, iv p1, iv p2, iv p3] (mk w μ) (qI w [87007] μ (fun z μ1 => ((-2147483648) ≤ z ∧ z ≤ 2147483647) ∧ Q z μ1 ∧ True)) := by
  refine sC.of rfl (by decide) (le_t rfl) ?_
  refine mr_lvE (lv' := [(0, .ref 87), (1, iv p1), (2, iv p2), (3, iv p3)]) rfl ?_
  refine mr_iload_n (pc := 0) (z := p3) dX2_leastBelow_0 rfl rfl ?_
  refine mr_bipush (pc := 1) (z := 32) dX2_leastBelow_1 (by decide) ?_
  refine mr_icmp_ge (pc := 3) (tgt := 16) dX2_leastBelow_3 (by decide) (r32 hp3 rfl) (r32 (rR (x := 32)) rfl) (fun h => ((vc_X2_leastBelow_W29_1 h hp3)).elim) (fun _ => ?_)
  refine sv_aload_n (pc := 6) dX2_leastBelow_6 rfl rfl ?_
  refine mr_iload_n (pc := 7) (z := p1) dX2_leastBelow_7 rfl rfl ?_
  refine mr_iload_n (pc := 8) (z := p2) dX2_leastBelow_8 rfl rfl ?_
  refine mr_iload_n (pc := 9) (z := p3) dX2_leastBelow_9 rfl rfl ?_
  refine mr_cVP (pc := 10) (c_X2_isSplit_W hw hT hp1 hp2 (rW (c := (-2147483648)) (d := 2147483647) hp3 rfl) (vc_X9_end_1 hq0 hp1) hQ) (gOk _ _ _ _ _) dX2_leastBelow_10 (tX2_isSplit _ _ _ _ _) ⟨wV_X2_isSplit, wL_X2_isSplit⟩ wM_X2_106 (gCX2 _ _ _ _ _) rfl (A_87 hw) rfl ⟨le_t rfl, le_t rfl⟩ ⟨le_t rfl, le_t rfl⟩ rfl (le_t rfl) fun z5 h4 => ?_
  refine mr_if_ne (pc := 13) (tgt := 26) dX2_leastBelow_13 (by decide) (r32 h4.1 rfl) (fun h6 => ?_) (fun h6 => ?_)
  · have h7 : 1 ≤ z5 ∧ z5 ≤ 1 := (vc_X12_ring_24 h6 h4.1)
    refine sv_aload_n (pc := 26) dX2_leastBelow_26 rfl rfl ?_
    refine mr_iload_n (pc := 27) (z := p1) dX2_leastBelow_27 rfl rfl ?_
    refine mr_iload_n (pc := 28) (z := p2) dX2_leastBelow_28 rfl rfl ?_
    refine mr_iload_n (pc := 29) (z := p3) dX2_leastBelow_29 rfl rfl ?_
    refine mr_iconst (pc := 30) (z := 1) dX2_leastBelow_30 ?_
    refine mr_iadd (pc := 31) (x := p3) (y := 1) dX2_leastBelow_31 ?_
    refine mr_cVI (pc := 32) (c_X2_leastBelow_W30 hw hT hp1 hp2 (rAdd (e := 30) (f := 30) hp3 (rR (x := 1)) rfl) (vc_X9_end_1 hq0 hp1) ((h4.2.1 h4.1).1 h6)) (gOk _ _ _ _ _) dX2_leastBelow_32 (tX2_leastBelow _ _ _ _ _) ⟨wV_X2_leastBelow, wL_X2_leastBelow⟩ wM_X2_101 (gCX2 _ _ _ _ _) rfl (A_87 hw) rfl ⟨le_t rfl, le_t rfl⟩ ⟨le_t rfl, le_t rfl⟩ rfl (le_t rfl) fun z12 μ8 T9 F10 h11 => ?_
    refine mr_istore (pc := 35) (lv' := [(4, iv z12), (0, .ref 87), (1, iv p1), (2, iv p2), (3, iv p3)]) dX2_leastBelow_35 (by decide) rfl ?_
    refine sv_aload_n (pc := 37) dX2_leastBelow_37 rfl rfl ?_
    refine mr_iload_n (pc := 38) (z := p1) dX2_leastBelow_38 rfl rfl ?_
    refine mr_iload_n (pc := 39) (z := p2) dX2_leastBelow_39 rfl rfl ?_
    refine mr_iconst (pc := 40) (z := 1) dX2_leastBelow_40 ?_
    refine mr_bipush (pc := 41) (z := 31) dX2_leastBelow_41 (by decide) ?_
    refine mr_iload_n (pc := 43) (z := p3) dX2_leastBelow_43 rfl rfl ?_
    refine mr_isub (pc := 44) (x := 31) (y := p3) dX2_leastBelow_44 ?_
    refine mr_ishl (pc := 45) (x := 1) (y := (31 - p3)) dX2_leastBelow_45 ?_
    refine mr_gen (P := fun z => (-2147483648) ≤ z ∧ z ≤ 2147483647) (r32i _) fun z13 q14 h15 => ?_
    refine mr_ior (pc := 46) (x := p2) (y := z13) dX2_leastBelow_46 ?_
    refine mr_gen (P := fun z => (-2147483648) ≤ z ∧ z ≤ 2147483647) (r32i _) fun z16 q17 h18 => ?_
    refine mr_iload_n (pc := 47) (z := p3) dX2_leastBelow_47 rfl rfl ?_
    refine mr_iconst (pc := 48) (z := 1) dX2_leastBelow_48 ?_
    refine mr_iadd (pc := 49) (x := p3) (y := 1) dX2_leastBelow_49 ?_
    refine mr_cVI (pc := 50) (c_X2_leastBelow_W30 hw T9 hp1 h18 (rAdd (e := 30) (f := 30) hp3 (rR (x := 1)) rfl) (vc_X9_end_1 hq0 hp1) ((((h11.2.1 T9 F10) h11.1) z13 q14) z16 q17)) (gOk _ _ _ _ _) dX2_leastBelow_50 (tX2_leastBelow _ _ _ _ _) ⟨wV_X2_leastBelow, wL_X2_leastBelow⟩ wM_X2_101 (gCX2 _ _ _ _ _) rfl (A_87 hw) rfl ⟨le_t rfl, le_t rfl⟩ ⟨le_t rfl, le_t rfl⟩ rfl (le_t rfl) fun z23 μ19 T20 F21 h22 => ?_
    refine mr_istore (pc := 53) (lv' := [(5, iv z23), (4, iv z12), (0, .ref 87), (1, iv p1), (2, iv p2), (3, iv p3)]) dX2_leastBelow_53 (by decide) rfl ?_
    refine mr_iload (pc := 55) (z := z12) dX2_leastBelow_55 rfl ?_
    refine mr_iload (pc := 57) (z := z23) dX2_leastBelow_57 rfl ?_
    refine mr_iand (pc := 59) (x := z12) (y := z23) dX2_leastBelow_59 ?_
    refine mr_gen (P := fun z => (-2147483648) ≤ z ∧ z ≤ 2147483647) (r32i _) fun z24 q25 h26 => ?_
    refine mr_if_eq (pc := 60) (tgt := 69) dX2_leastBelow_60 (by decide) h26 (fun h27 => ?_) (fun h27 => ?_)
    · have h28 : 0 ≤ z24 ∧ z24 ≤ 0 := (vc_X12_mask_1 h27 h26)
      refine sv_aload_n (pc := 69) dX2_leastBelow_69 rfl rfl ?_
      refine sv_dup (pc := 70) dX2_leastBelow_70 rfl ?_
      refine gf_X2_7 (pc := 71) dX2_leastBelow_71 wF_X2_98 (A_87 hw) T20 fun z29 q30 h31 => ?_
      refine mr_iconst (pc := 74) (z := 1) dX2_leastBelow_74 ?_
      refine mr_iadd (pc := 75) (x := z29) (y := 1) dX2_leastBelow_75 ?_
      refine mr_wrapF fun z32 h33 h34 => ?_
      refine pf_X2_7 (pc := 76) dX2_leastBelow_76 wF_X2_98 (A_87 hw) T20 h33 fun μ35 u36 T37 => ?_
      refine mr_iload (pc := 79) (z := z12) dX2_leastBelow_79 rfl ?_
      refine mr_iload (pc := 81) (z := z23) dX2_leastBelow_81 rfl ?_
      refine mr_ior (pc := 83) (x := z12) (y := z23) dX2_leastBelow_83 ?_
      refine mr_gen (P := fun z => (-2147483648) ≤ z ∧ z ≤ 2147483647) (r32i _) fun z38 q39 h40 => ?_
      exact mr_iret dX2_leastBelow_84 rfl (le_t rfl) (le_t rfl) T37 (mF.up (mF.call (mF.call mF.refl F10 rfl) F21 rfl) (A_87 hw) u36 rfl) ⟨h40, ((((((((h22.2.1 T20 F21) h22.1) z24 q25).1 h27) z29 q30 h31) z32 h33 h34) μ35 u36 T37) z38 q39), trivial⟩
    refine mr_iload (pc := 63) (z := z12) dX2_leastBelow_63 rfl ?_
    refine mr_iload (pc := 65) (z := z23) dX2_leastBelow_65 rfl ?_
    refine mr_iand (pc := 67) (x := z12) (y := z23) dX2_leastBelow_67 ?_
    refine mr_gen (P := fun z => (-2147483648) ≤ z ∧ z ≤ 2147483647) (r32i _) fun z41 q42 h43 => ?_
    exact mr_iret dX2_leastBelow_68 rfl (le_t rfl) (le_t rfl) T20 (mF.call (mF.call mF.refl F10 rfl) F21 rfl) ⟨h43, (((((h22.2.1 T20 F21) h22.1) z24 q25).2 h27) z41 q42), trivial⟩
  have h44 : 0 ≤ z5 ∧ z5 ≤ 0 := (vc_X12_ring_22 h6 h4.1)
  refine sv_aload_n (pc := 16) dX2_leastBelow_16 rfl rfl ?_
  refine mr_iload_n (pc := 17) (z := p1) dX2_leastBelow_17 rfl rfl ?_
  refine mr_iload_n (pc := 18) (z := p2) dX2_leastBelow_18 rfl rfl ?_
  refine mr_cVP (pc := 19) (c_X2_tieFor_W hw hT hp1 hp2 (vc_X9_end_1 hq0 hp1) ((h4.2.1 h4.1).2 h6)) (gOk _ _ _ _ _) dX2_leastBelow_19 (tX2_tieFor _ _ _ _ _) ⟨wV_X2_tieFor, wL_X2_tieFor⟩ wM_X2_60 (gCX2 _ _ _ _ _) rfl (A_87 hw) rfl ⟨le_t rfl, le_t rfl⟩ ⟨le_t rfl, le_t rfl⟩ rfl (le_t rfl) fun z49 h48 => ?_
  refine mr_cSP (pc := 22) (c_X2_aimBit_W hw hT h48.1 (h48.2.2.2.1 h48.1)) (gOk _ _ _ _ _) dX2_leastBelow_22 (tX2_aimBit _ _ _ _ _) wS_X2_aimBit wM_X2_110 ⟨le_t rfl, le_t rfl⟩ ⟨le_t rfl, le_t rfl⟩ rfl (le_t rfl) fun z54 h53 => ?_
  exact mr_iret dX2_leastBelow_25 rfl (le_t rfl) (le_t rfl) hT mF.refl ⟨h53.1, (h53.2.1 h53.1), trivial⟩
def WP_X2_leastBelow_W28 (w : mW) (μ : mM) (p1 : Int) (p2 : Int) (p3 : Int) (Q : Int → mM → Prop) : Prop := WP_X2_isSplit_W w μ p1 p2 p3 (fun z5 _ => (0 ≤ z5 ∧ z5 ≤ 1) → ((¬ z5 = 0) → WP_X2_leastBelow_W29 w μ p1 p2 (p3 + 1) (fun z12 μ8 => mT w μ8 → mF [87007] w μ μ8 → ((-2147483648) ≤ z12 ∧ z12 ≤ 2147483647) → ∀ z13 : Int, bShl (1 : Int) (31 - p3) = z13 → ∀ z16 : Int, bOr p2 z13 = z16 → WP_X2_leastBelow_W29 w μ8 p1 z16 (p3 + 1) (fun z23 μ19 => mT w μ19 → mF [87007] w μ8 μ19 → ((-2147483648) ≤ z23 ∧ z23 ≤ 2147483647) → ∀ z24 : Int, bAnd z12 z23 = z24 → ((z24 = 0) → ∀ z29 : Int, μ19 87 7 = z29 → ((-2147483648) ≤ z29 ∧ z29 ≤ 2147483647) → ∀ z32 : Int, (-2147483648 ≤ z32 ∧ z32 ≤ 2147483647) → (z32 - (z29 + 1)) % 4294967296 = 0 → ∀ μ35 : mM, mU μ19 87 (7) z32 μ35 → mT w μ35 → ∀ z38 : Int, bOr z12 z23 = z38 → Q z38 μ35) ∧ ((¬ z24 = 0) → ∀ z41 : Int, bAnd z12 z23 = z41 → Q z41 μ19)))) ∧ ((z5 = 0) → WP_X2_tieFor_W w μ p1 p2 (fun z49 _ => ((-99999999) ≤ z49 ∧ z49 ≤ 19) → WP_X2_aimBit_W w μ z49 (fun z54 _ => ((-2147483648) ≤ z54 ∧ z54 ≤ 2147483647) → Q z54 μ))))
theorem vc_X2_leastBelow_W28_1 {p3 : Int} (h0 : 32 ≤ p3) (h1 : 28 ≤ p3 ∧ p3 ≤ 28) : False := by omega
set_option maxRecDepth 4000 in
set_option maxHeartbeats 4000000 in
theorem c_X2_leastBelow_W28 {l : Launch} {D : va_G} {c : Nat → ClassId} {H0 : Heap} {sa : Nat × Nat × (Nat → Int32)} {w : mW} {μ : mM} (hw : mWF w) (hT : mT w μ) {p1 : Int} (hp1 : 0 ≤ p1 ∧ p1 ≤ 9) {p2 : Int} (hp2 : (-2147483648) ≤ p2 ∧ p2 ≤ 2147483647) {p3 : Int} (hp3 : 28 ≤ p3 ∧ p3 ≤ 28) (hq0 : p1 < w.2.2.2 0) {Q : Int → mM → Prop} (hQ : WP_X2_leastBelow_W28 w μ p1 p2 p3 Q) : sC (gG l D c H0 sa) mX2_leastBelow 7 0 0 [.ref 87, iv p1, iv p2, iv p3] (mk w μ) (qI w [87007] μ (fun z μ1 => ((-2147483648) ≤ z ∧ z ≤ 2147483647) ∧ Q z μ1 ∧ True)) := by
  refine sC.of rfl (by decide) (le_t rfl) ?_
  refine mr_lvE (lv' := [(0, .ref 87), (1, iv p1), (2, iv p2), (3, iv p3)]) rfl ?_
  refine mr_iload_n (pc := 0) (z := p3) dX2_leastBelow_0 rfl rfl ?_
  refine mr_bipush (pc := 1) (z := 32) dX2_leastBelow_1 (by decide) ?_
  refine mr_icmp_ge (pc := 3) (tgt := 16) dX2_leastBelow_3 (by decide) (r32 hp3 rfl) (r32 (rR (x := 32)) rfl) (fun h => ((vc_X2_leastBelow_W28_1 h hp3)).elim) (fun _ => ?_)
  refine sv_aload_n (pc := 6) dX2_leastBelow_6 rfl rfl ?_
  refine mr_iload_n (pc := 7) (z := p1) dX2_leastBelow_7 rfl rfl ?_
  refine mr_iload_n (pc := 8) (z := p2) dX2_leastBelow_8 rfl rfl ?_
  refine mr_iload_n (pc := 9) (z := p3) dX2_leastBelow_9 rfl rfl ?_
  refine mr_cVP (pc := 10) (c_X2_isSplit_W hw hT hp1 hp2 (rW (c := (-2147483648)) (d := 2147483647) hp3 rfl) (vc_X9_end_1 hq0 hp1) hQ) (gOk _ _ _ _ _) dX2_leastBelow_10 (tX2_isSplit _ _ _ _ _) ⟨wV_X2_isSplit, wL_X2_isSplit⟩ wM_X2_106 (gCX2 _ _ _ _ _) rfl (A_87 hw) rfl ⟨le_t rfl, le_t rfl⟩ ⟨le_t rfl, le_t rfl⟩ rfl (le_t rfl) fun z5 h4 => ?_
  refine mr_if_ne (pc := 13) (tgt := 26) dX2_leastBelow_13 (by decide) (r32 h4.1 rfl) (fun h6 => ?_) (fun h6 => ?_)
  · have h7 : 1 ≤ z5 ∧ z5 ≤ 1 := (vc_X12_ring_24 h6 h4.1)
    refine sv_aload_n (pc := 26) dX2_leastBelow_26 rfl rfl ?_
    refine mr_iload_n (pc := 27) (z := p1) dX2_leastBelow_27 rfl rfl ?_
    refine mr_iload_n (pc := 28) (z := p2) dX2_leastBelow_28 rfl rfl ?_
    refine mr_iload_n (pc := 29) (z := p3) dX2_leastBelow_29 rfl rfl ?_
    refine mr_iconst (pc := 30) (z := 1) dX2_leastBelow_30 ?_
    refine mr_iadd (pc := 31) (x := p3) (y := 1) dX2_leastBelow_31 ?_
    refine mr_cVI (pc := 32) (c_X2_leastBelow_W29 hw hT hp1 hp2 (rAdd (e := 29) (f := 29) hp3 (rR (x := 1)) rfl) (vc_X9_end_1 hq0 hp1) ((h4.2.1 h4.1).1 h6)) (gOk _ _ _ _ _) dX2_leastBelow_32 (tX2_leastBelow _ _ _ _ _) ⟨wV_X2_leastBelow, wL_X2_leastBelow⟩ wM_X2_101 (gCX2 _ _ _ _ _) rfl (A_87 hw) rfl ⟨le_t rfl, le_t rfl⟩ ⟨le_t rfl, le_t rfl⟩ rfl (le_t rfl) fun z12 μ8 T9 F10 h11 => ?_
    refine mr_istore (pc := 35) (lv' := [(4, iv z12), (0, .ref 87), (1, iv p1), (2, iv p2), (3, iv p3)]) dX2_leastBelow_35 (by decide) rfl ?_
    refine sv_aload_n (pc := 37) dX2_leastBelow_37 rfl rfl ?_
    refine mr_iload_n (pc := 38) (z := p1) dX2_leastBelow_38 rfl rfl ?_
    refine mr_iload_n (pc := 39) (z := p2) dX2_leastBelow_39 rfl rfl ?_
    refine mr_iconst (pc := 40) (z := 1) dX2_leastBelow_40 ?_
    refine mr_bipush (pc := 41) (z := 31) dX2_leastBelow_41 (by decide) ?_
    refine mr_iload_n (pc := 43) (z := p3) dX2_leastBelow_43 rfl rfl ?_
    refine mr_isub (pc := 44) (x := 31) (y := p3) dX2_leastBelow_44 ?_
    refine mr_ishl (pc := 45) (x := 1) (y := (31 - p3)) dX2_leastBelow_45 ?_
    refine mr_gen (P := fun z => (-2147483648) ≤ z ∧ z ≤ 2147483647) (r32i _) fun z13 q14 h15 => ?_
    refine mr_ior (pc := 46) (x := p2) (y := z13) dX2_leastBelow_46 ?_
    refine mr_gen (P := fun z => (-2147483648) ≤ z ∧ z ≤ 2147483647) (r32i _) fun z16 q17 h18 => ?_
    refine mr_iload_n (pc := 47) (z := p3) dX2_leastBelow_47 rfl rfl ?_
    refine mr_iconst (pc := 48) (z := 1) dX2_leastBelow_48 ?_
    refine mr_iadd (pc := 49) (x := p3) (y := 1) dX2_leastBelow_49 ?_
    refine mr_cVI (pc := 50) (c_X2_leastBelow_W29 hw T9 hp1 h18 (rAdd (e := 29) (f := 29) hp3 (rR (x := 1)) rfl) (vc_X9_end_1 hq0 hp1) ((((h11.2.1 T9 F10) h11.1) z13 q14) z16 q17)) (gOk _ _ _ _ _) dX2_leastBelow_50 (tX2_leastBelow _ _ _ _ _) ⟨wV_X2_leastBelow, wL_X2_leastBelow⟩ wM_X2_101 (gCX2 _ _ _ _ _) rfl (A_87 hw) rfl ⟨le_t rfl, le_t rfl⟩ ⟨le_t rfl, le_t rfl⟩ rfl (le_t rfl) fun z23 μ19 T20 F21 h22 => ?_
    refine mr_istore (pc := 53) (lv' := [(5, iv z23), (4, iv z12), (0, .ref 87), (1, iv p1), (2, iv p2), (3, iv p3)]) dX2_leastBelow_53 (by decide) rfl ?_
    refine mr_iload (pc := 55) (z := z12) dX2_leastBelow_55 rfl ?_
    refine mr_iload (pc := 57) (z := z23) dX2_leastBelow_57 rfl ?_
    refine mr_iand (pc := 59) (x := z12) (y := z23) dX2_leastBelow_59 ?_
    refine mr_gen (P := fun z => (-2147483648) ≤ z ∧ z ≤ 2147483647) (r32i _) fun z24 q25 h26 => ?_
    refine mr_if_eq (pc := 60) (tgt := 69) dX2_leastBelow_60 (by decide) h26 (fun h27 => ?_) (fun h27 => ?_)
    · have h28 : 0 ≤ z24 ∧ z24 ≤ 0 := (vc_X12_mask_1 h27 h26)
      refine sv_aload_n (pc := 69) dX2_leastBelow_69 rfl rfl ?_
      refine sv_dup (pc := 70) dX2_leastBelow_70 rfl ?_
      refine gf_X2_7 (pc := 71) dX2_leastBelow_71 wF_X2_98 (A_87 hw) T20 fun z29 q30 h31 => ?_
      refine mr_iconst (pc := 74) (z := 1) dX2_leastBelow_74 ?_
      refine mr_iadd (pc := 75) (x := z29) (y := 1) dX2_leastBelow_75 ?_
      refine mr_wrapF fun z32 h33 h34 => ?_
      refine pf_X2_7 (pc := 76) dX2_leastBelow_76 wF_X2_98 (A_87 hw) T20 h33 fun μ35 u36 T37 => ?_
      refine mr_iload (pc := 79) (z := z12) dX2_leastBelow_79 rfl ?_
      refine mr_iload (pc := 81) (z := z23) dX2_leastBelow_81 rfl ?_
      refine mr_ior (pc := 83) (x := z12) (y := z23) dX2_leastBelow_83 ?_
      refine mr_gen (P := fun z => (-2147483648) ≤ z ∧ z ≤ 2147483647) (r32i _) fun z38 q39 h40 => ?_
      exact mr_iret dX2_leastBelow_84 rfl (le_t rfl) (le_t rfl) T37 (mF.up (mF.call (mF.call mF.refl F10 rfl) F21 rfl) (A_87 hw) u36 rfl) ⟨h40, ((((((((h22.2.1 T20 F21) h22.1) z24 q25).1 h27) z29 q30 h31) z32 h33 h34) μ35 u36 T37) z38 q39), trivial⟩
    refine mr_iload (pc := 63) (z := z12) dX2_leastBelow_63 rfl ?_
    refine mr_iload (pc := 65) (z := z23) dX2_leastBelow_65 rfl ?_
    refine mr_iand (pc := 67) (x := z12) (y := z23) dX2_leastBelow_67 ?_
    refine mr_gen (P := fun z => (-2147483648) ≤ z ∧ z ≤ 2147483647) (r32i _) fun z41 q42 h43 => ?_
    exact mr_iret dX2_leastBelow_68 rfl (le_t rfl) (le_t rfl) T20 (mF.call (mF.call mF.refl F10 rfl) F21 rfl) ⟨h43, (((((h22.2.1 T20 F21) h22.1) z24 q25).2 h27) z41 q42), trivial⟩
  have h44 : 0 ≤ z5 ∧ z5 ≤ 0 := (vc_X12_ring_22 h6 h4.1)
  refine sv_aload_n (pc := 16) dX2_leastBelow_16 rfl rfl ?_
  refine mr_iload_n (pc := 17) (z := p1) dX2_leastBelow_17 rfl rfl ?_
  refine mr_iload_n (pc := 18) (z := p2) dX2_leastBelow_18 rfl rfl ?_
  refine mr_cVP (pc := 19) (c_X2_tieFor_W hw hT hp1 hp2 (vc_X9_end_1 hq0 hp1) ((h4.2.1 h4.1).2 h6)) (gOk _ _ _ _ _) dX2_leastBelow_19 (tX2_tieFor _ _ _ _ _) ⟨wV_X2_tieFor, wL_X2_tieFor⟩ wM_X2_60 (gCX2 _ _ _ _ _) rfl (A_87 hw) rfl ⟨le_t rfl, le_t rfl⟩ ⟨le_t rfl, le_t rfl⟩ rfl (le_t rfl) fun z49 h48 => ?_
  refine mr_cSP (pc := 22) (c_X2_aimBit_W hw hT h48.1 (h48.2.2.2.1 h48.1)) (gOk _ _ _ _ _) dX2_leastBelow_22 (tX2_aimBit _ _ _ _ _) wS_X2_aimBit wM_X2_110 ⟨le_t rfl, le_t rfl⟩ ⟨le_t rfl, le_t rfl⟩ rfl (le_t rfl) fun z54 h53 => ?_
  exact mr_iret dX2_leastBelow_25 rfl (le_t rfl) (le_t rfl) hT mF.refl ⟨h53.1, (h53.2.1 h53.1), trivial⟩
def WP_X2_leastBelow_W27 (w : mW) (μ : mM) (p1 : Int) (p2 : Int) (p3 : Int) (Q : Int → mM → Prop) : Prop := WP_X2_isSplit_W w μ p1 p2 p3 (fun z5 _ => (0 ≤ z5 ∧ z5 ≤ 1) → ((¬ z5 = 0) → WP_X2_leastBelow_W28 w μ p1 p2 (p3 + 1) (fun z12 μ8 => mT w μ8 → mF [87007] w μ μ8 → ((-2147483648) ≤ z12 ∧ z12 ≤ 2147483647) → ∀ z13 : Int, bShl (1 : Int) (31 - p3) = z13 → ∀ z16 : Int, bOr p2 z13 = z16 → WP_X2_leastBelow_W28 w μ8 p1 z16 (p3 + 1) (fun z23 μ19 => mT w μ19 → mF [87007] w μ8 μ19 → ((-2147483648) ≤ z23 ∧ z23 ≤ 2147483647) → ∀ z24 : Int, bAnd z12 z23 = z24 → ((z24 = 0) → ∀ z29 : Int, μ19 87 7 = z29 → ((-2147483648) ≤ z29 ∧ z29 ≤ 2147483647) → ∀ z32 : Int, (-2147483648 ≤ z32 ∧ z32 ≤ 2147483647) → (z32 - (z29 + 1)) % 4294967296 = 0 → ∀ μ35 : mM, mU μ19 87 (7) z32 μ35 → mT w μ35 → ∀ z38 : Int, bOr z12 z23 = z38 → Q z38 μ35) ∧ ((¬ z24 = 0) → ∀ z41 : Int, bAnd z12 z23 = z41 → Q z41 μ19)))) ∧ ((z5 = 0) → WP_X2_tieFor_W w μ p1 p2 (fun z49 _ => ((-99999999) ≤ z49 ∧ z49 ≤ 19) → WP_X2_aimBit_W w μ z49 (fun z54 _ => ((-2147483648) ≤ z54 ∧ z54 ≤ 2147483647) → Q z54 μ))))
theorem vc_X2_leastBelow_W27_1 {p3 : Int} (h0 : 32 ≤ p3) (h1 : 27 ≤ p3 ∧ p3 ≤ 27) : False := by omega
set_option maxRecDepth 4000 in
set_option maxHeartbeats 4000000 in
theorem c_X2_leastBelow_W27 {l : Launch} {D : va_G} {c : Nat → ClassId} {H0 : Heap} {sa : Nat × Nat × (Nat → Int32)} {w : mW} {μ : mM} (hw : mWF w) (hT : mT w μ) {p1 : Int} (hp1 : 0 ≤ p1 ∧ p1 ≤ 9) {p2 : Int} (hp2 : (-2147483648) ≤ p2 ∧ p2 ≤ 2147483647) {p3 : Int} (hp3 : 27 ≤ p3 ∧ p3 ≤ 27) (hq0 : p1 < w.2.2.2 0) {Q : Int → mM → Prop} (hQ : WP_X2_leastBelow_W27 w μ p1 p2 p3 Q) : sC (gG l D c H0 sa) mX2_leastBelow 8 0 0 [.ref 87, iv p1, iv p2, iv p3] (mk w μ) (qI w [87007] μ (fun z μ1 => ((-2147483648) ≤ z ∧ z ≤ 2147483647) ∧ Q z μ1 ∧ True)) := by
  refine sC.of rfl (by decide) (le_t rfl) ?_
  refine mr_lvE (lv' := [(0, .ref 87), (1, iv p1), (2, iv p2), (3, iv p3)]) rfl ?_
  refine mr_iload_n (pc := 0) (z := p3) dX2_leastBelow_0 rfl rfl ?_
  refine mr_bipush (pc := 1) (z := 32) dX2_leastBelow_1 (by decide) ?_
  refine mr_icmp_ge (pc := 3) (tgt := 16) dX2_leastBelow_3 (by decide) (r32 hp3 rfl) (r32 (rR (x := 32)) rfl) (fun h => ((vc_X2_leastBelow_W27_1 h hp3)).elim) (fun _ => ?_)
  refine sv_aload_n (pc := 6) dX2_leastBelow_6 rfl rfl ?_
  refine mr_iload_n (pc := 7) (z := p1) dX2_leastBelow_7 rfl rfl ?_
  refine mr_iload_n (pc := 8) (z := p2) dX2_leastBelow_8 rfl rfl ?_
  refine mr_iload_n (pc := 9) (z := p3) dX2_leastBelow_9 rfl rfl ?_
  refine mr_cVP (pc := 10) (c_X2_isSplit_W hw hT hp1 hp2 (rW (c := (-2147483648)) (d := 2147483647) hp3 rfl) (vc_X9_end_1 hq0 hp1) hQ) (gOk _ _ _ _ _) dX2_leastBelow_10 (tX2_isSplit _ _ _ _ _) ⟨wV_X2_isSplit, wL_X2_isSplit⟩ wM_X2_106 (gCX2 _ _ _ _ _) rfl (A_87 hw) rfl ⟨le_t rfl, le_t rfl⟩ ⟨le_t rfl, le_t rfl⟩ rfl (le_t rfl) fun z5 h4 => ?_
  refine mr_if_ne (pc := 13) (tgt := 26) dX2_leastBelow_13 (by decide) (r32 h4.1 rfl) (fun h6 => ?_) (fun h6 => ?_)
  · have h7 : 1 ≤ z5 ∧ z5 ≤ 1 := (vc_X12_ring_24 h6 h4.1)
    refine sv_aload_n (pc := 26) dX2_leastBelow_26 rfl rfl ?_
    refine mr_iload_n (pc := 27) (z := p1) dX2_leastBelow_27 rfl rfl ?_
    refine mr_iload_n (pc := 28) (z := p2) dX2_leastBelow_28 rfl rfl ?_
    refine mr_iload_n (pc := 29) (z := p3) dX2_leastBelow_29 rfl rfl ?_
    refine mr_iconst (pc := 30) (z := 1) dX2_leastBelow_30 ?_
    refine mr_iadd (pc := 31) (x := p3) (y := 1) dX2_leastBelow_31 ?_
    refine mr_cVI (pc := 32) (c_X2_leastBelow_W28 hw hT hp1 hp2 (rAdd (e := 28) (f := 28) hp3 (rR (x := 1)) rfl) (vc_X9_end_1 hq0 hp1) ((h4.2.1 h4.1).1 h6)) (gOk _ _ _ _ _) dX2_leastBelow_32 (tX2_leastBelow _ _ _ _ _) ⟨wV_X2_leastBelow, wL_X2_leastBelow⟩ wM_X2_101 (gCX2 _ _ _ _ _) rfl (A_87 hw) rfl ⟨le_t rfl, le_t rfl⟩ ⟨le_t rfl, le_t rfl⟩ rfl (le_t rfl) fun z12 μ8 T9 F10 h11 => ?_
    refine mr_istore (pc := 35) (lv' := [(4, iv z12), (0, .ref 87), (1, iv p1), (2, iv p2), (3, iv p3)]) dX2_leastBelow_35 (by decide) rfl ?_
    refine sv_aload_n (pc := 37) dX2_leastBelow_37 rfl rfl ?_
    refine mr_iload_n (pc := 38) (z := p1) dX2_leastBelow_38 rfl rfl ?_
    refine mr_iload_n (pc := 39) (z := p2) dX2_leastBelow_39 rfl rfl ?_
    refine mr_iconst (pc := 40) (z := 1) dX2_leastBelow_40 ?_
    refine mr_bipush (pc := 41) (z := 31) dX2_leastBelow_41 (by decide) ?_
    refine mr_iload_n (pc := 43) (z := p3) dX2_leastBelow_43 rfl rfl ?_
    refine mr_isub (pc := 44) (x := 31) (y := p3) dX2_leastBelow_44 ?_
    refine mr_ishl (pc := 45) (x := 1) (y := (31 - p3)) dX2_leastBelow_45 ?_
    refine mr_gen (P := fun z => (-2147483648) ≤ z ∧ z ≤ 2147483647) (r32i _) fun z13 q14 h15 => ?_
    refine mr_ior (pc := 46) (x := p2) (y := z13) dX2_leastBelow_46 ?_
    refine mr_gen (P := fun z => (-2147483648) ≤ z ∧ z ≤ 2147483647) (r32i _) fun z16 q17 h18 => ?_
    refine mr_iload_n (pc := 47) (z := p3) dX2_leastBelow_47 rfl rfl ?_
    refine mr_iconst (pc := 48) (z := 1) dX2_leastBelow_48 ?_
    refine mr_iadd (pc := 49) (x := p3) (y := 1) dX2_leastBelow_49 ?_
    refine mr_cVI (pc := 50) (c_X2_leastBelow_W28 hw T9 hp1 h18 (rAdd (e := 28) (f := 28) hp3 (rR (x := 1)) rfl) (vc_X9_end_1 hq0 hp1) ((((h11.2.1 T9 F10) h11.1) z13 q14) z16 q17)) (gOk _ _ _ _ _) dX2_leastBelow_50 (tX2_leastBelow _ _ _ _ _) ⟨wV_X2_leastBelow, wL_X2_leastBelow⟩ wM_X2_101 (gCX2 _ _ _ _ _) rfl (A_87 hw) rfl ⟨le_t rfl, le_t rfl⟩ ⟨le_t rfl, le_t rfl⟩ rfl (le_t rfl) fun z23 μ19 T20 F21 h22 => ?_
    refine mr_istore (pc := 53) (lv' := [(5, iv z23), (4, iv z12), (0, .ref 87), (1, iv p1), (2, iv p2), (3, iv p3)]) dX2_leastBelow_53 (by decide) rfl ?_
    refine mr_iload (pc := 55) (z := z12) dX2_leastBelow_55 rfl ?_
    refine mr_iload (pc := 57) (z := z23) dX2_leastBelow_57 rfl ?_
    refine mr_iand (pc := 59) (x := z12) (y := z23) dX2_leastBelow_59 ?_
    refine mr_gen (P := fun z => (-2147483648) ≤ z ∧ z ≤ 2147483647) (r32i _) fun z24 q25 h26 => ?_
    refine mr_if_eq (pc := 60) (tgt := 69) dX2_leastBelow_60 (by decide) h26 (fun h27 => ?_) (fun h27 => ?_)
    · have h28 : 0 ≤ z24 ∧ z24 ≤ 0 := (vc_X12_mask_1 h27 h26)
      refine sv_aload_n (pc := 69) dX2_leastBelow_69 rfl rfl ?_
      refine sv_dup (pc := 70) dX2_leastBelow_70 rfl ?_
      refine gf_X2_7 (pc := 71) dX2_leastBelow_71 wF_X2_98 (A_87 hw) T20 fun z29 q30 h31 => ?_
      refine mr_iconst (pc := 74) (z := 1) dX2_leastBelow_74 ?_
      refine mr_iadd (pc := 75) (x := z29) (y := 1) dX2_leastBelow_75 ?_
      refine mr_wrapF fun z32 h33 h34 => ?_
      refine pf_X2_7 (pc := 76) dX2_leastBelow_76 wF_X2_98 (A_87 hw) T20 h33 fun μ35 u36 T37 => ?_
      refine mr_iload (pc := 79) (z := z12) dX2_leastBelow_79 rfl ?_
      refine mr_iload (pc := 81) (z := z23) dX2_leastBelow_81 rfl ?_
      refine mr_ior (pc := 83) (x := z12) (y := z23) dX2_leastBelow_83 ?_
      refine mr_gen (P := fun z => (-2147483648) ≤ z ∧ z ≤ 2147483647) (r32i _) fun z38 q39 h40 => ?_
      exact mr_iret dX2_leastBelow_84 rfl (le_t rfl) (le_t rfl) T37 (mF.up (mF.call (mF.call mF.refl F10 rfl) F21 rfl) (A_87 hw) u36 rfl) ⟨h40, ((((((((h22.2.1 T20 F21) h22.1) z24 q25).1 h27) z29 q30 h31) z32 h33 h34) μ35 u36 T37) z38 q39), trivial⟩
    refine mr_iload (pc := 63) (z := z12) dX2_leastBelow_63 rfl ?_
    refine mr_iload (pc := 65) (z := z23) dX2_leastBelow_65 rfl ?_
    refine mr_iand (pc := 67) (x := z12) (y := z23) dX2_leastBelow_67 ?_
    refine mr_gen (P := fun z => (-2147483648) ≤ z ∧ z ≤ 2147483647) (r32i _) fun z41 q42 h43 => ?_
    exact mr_iret dX2_leastBelow_68 rfl (le_t rfl) (le_t rfl) T20 (mF.call (mF.call mF.refl F10 rfl) F21 rfl) ⟨h43, (((((h22.2.1 T20 F21) h22.1) z24 q25).2 h27) z41 q42), trivial⟩
  have h44 : 0 ≤ z5 ∧ z5 ≤ 0 := (vc_X12_ring_22 h6 h4.1)
  refine sv_aload_n (pc := 16) dX2_leastBelow_16 rfl rfl ?_
  refine mr_iload_n (pc := 17) (z := p1) dX2_leastBelow_17 rfl rfl ?_
  refine mr_iload_n (pc := 18) (z := p2) dX2_leastBelow_18 rfl rfl ?_
  refine mr_cVP (pc := 19) (c_X2_tieFor_W hw hT hp1 hp2 (vc_X9_end_1 hq0 hp1) ((h4.2.1 h4.1).2 h6)) (gOk _ _ _ _ _) dX2_leastBelow_19 (tX2_tieFor _ _ _ _ _) ⟨wV_X2_tieFor, wL_X2_tieFor⟩ wM_X2_60 (gCX2 _ _ _ _ _) rfl (A_87 hw) rfl ⟨le_t rfl, le_t rfl⟩ ⟨le_t rfl, le_t rfl⟩ rfl (le_t rfl) fun z49 h48 => ?_
  refine mr_cSP (pc := 22) (c_X2_aimBit_W hw hT h48.1 (h48.2.2.2.1 h48.1)) (gOk _ _ _ _ _) dX2_leastBelow_22 (tX2_aimBit _ _ _ _ _) wS_X2_aimBit wM_X2_110 ⟨le_t rfl, le_t rfl⟩ ⟨le_t rfl, le_t rfl⟩ rfl (le_t rfl) fun z54 h53 => ?_
  exact mr_iret dX2_leastBelow_25 rfl (le_t rfl) (le_t rfl) hT mF.refl ⟨h53.1, (h53.2.1 h53.1), trivial⟩
def WP_X2_leastBelow_W26 (w : mW) (μ : mM) (p1 : Int) (p2 : Int) (p3 : Int) (Q : Int → mM → Prop) : Prop := WP_X2_isSplit_W w μ p1 p2 p3 (fun z5 _ => (0 ≤ z5 ∧ z5 ≤ 1) → ((¬ z5 = 0) → WP_X2_leastBelow_W27 w μ p1 p2 (p3 + 1) (fun z12 μ8 => mT w μ8 → mF [87007] w μ μ8 → ((-2147483648) ≤ z12 ∧ z12 ≤ 2147483647) → ∀ z13 : Int, bShl (1 : Int) (31 - p3) = z13 → ∀ z16 : Int, bOr p2 z13 = z16 → WP_X2_leastBelow_W27 w μ8 p1 z16 (p3 + 1) (fun z23 μ19 => mT w μ19 → mF [87007] w μ8 μ19 → ((-2147483648) ≤ z23 ∧ z23 ≤ 2147483647) → ∀ z24 : Int, bAnd z12 z23 = z24 → ((z24 = 0) → ∀ z29 : Int, μ19 87 7 = z29 → ((-2147483648) ≤ z29 ∧ z29 ≤ 2147483647) → ∀ z32 : Int, (-2147483648 ≤ z32 ∧ z32 ≤ 2147483647) → (z32 - (z29 + 1)) % 4294967296 = 0 → ∀ μ35 : mM, mU μ19 87 (7) z32 μ35 → mT w μ35 → ∀ z38 : Int, bOr z12 z23 = z38 → Q z38 μ35) ∧ ((¬ z24 = 0) → ∀ z41 : Int, bAnd z12 z23 = z41 → Q z41 μ19)))) ∧ ((z5 = 0) → WP_X2_tieFor_W w μ p1 p2 (fun z49 _ => ((-99999999) ≤ z49 ∧ z49 ≤ 19) → WP_X2_aimBit_W w μ z49 (fun z54 _ => ((-2147483648) ≤ z54 ∧ z54 ≤ 2147483647) → Q z54 μ))))
theorem vc_X2_leastBelow_W26_1 {p3 : Int} (h0 : 32 ≤ p3) (h1 : 26 ≤ p3 ∧ p3 ≤ 26) : False := by omega
set_option maxRecDepth 4000 in
set_option maxHeartbeats 4000000 in
theorem c_X2_leastBelow_W26 {l : Launch} {D : va_G} {c : Nat → ClassId} {H0 : Heap} {sa : Nat × Nat × (Nat → Int32)} {w : mW} {μ : mM} (hw : mWF w) (hT : mT w μ) {p1 : Int} (hp1 : 0 ≤ p1 ∧ p1 ≤ 9) {p2 : Int} (hp2 : (-2147483648) ≤ p2 ∧ p2 ≤ 2147483647) {p3 : Int} (hp3 : 26 ≤ p3 ∧ p3 ≤ 26) (hq0 : p1 < w.2.2.2 0) {Q : Int → mM → Prop} (hQ : WP_X2_leastBelow_W26 w μ p1 p2 p3 Q) : sC (gG l D c H0 sa) mX2_leastBelow 9 0 0 [.ref 87, iv p1, iv p2, iv p3] (mk w μ) (qI w [87007] μ (fun z μ1 => ((-2147483648) ≤ z ∧ z ≤ 2147483647) ∧ Q z μ1 ∧ True)) := by
  refine sC.of rfl (by decide) (le_t rfl) ?_
  refine mr_lvE (lv' := [(0, .ref 87), (1, iv p1), (2, iv p2), (3, iv p3)]) rfl ?_
  refine mr_iload_n (pc := 0) (z := p3) dX2_leastBelow_0 rfl rfl ?_
  refine mr_bipush (pc := 1) (z := 32) dX2_leastBelow_1 (by decide) ?_
  refine mr_icmp_ge (pc := 3) (tgt := 16) dX2_leastBelow_3 (by decide) (r32 hp3 rfl) (r32 (rR (x := 32)) rfl) (fun h => ((vc_X2_leastBelow_W26_1 h hp3)).elim) (fun _ => ?_)
  refine sv_aload_n (pc := 6) dX2_leastBelow_6 rfl rfl ?_
  refine mr_iload_n (pc := 7) (z := p1) dX2_leastBelow_7 rfl rfl ?_
  refine mr_iload_n (pc := 8) (z := p2) dX2_leastBelow_8 rfl rfl ?_
  refine mr_iload_n (pc := 9) (z := p3) dX2_leastBelow_9 rfl rfl ?_
  refine mr_cVP (pc := 10) (c_X2_isSplit_W hw hT hp1 hp2 (rW (c := (-2147483648)) (d := 2147483647) hp3 rfl) (vc_X9_end_1 hq0 hp1) hQ) (gOk _ _ _ _ _) dX2_leastBelow_10 (tX2_isSplit _ _ _ _ _) ⟨wV_X2_isSplit, wL_X2_isSplit⟩ wM_X2_106 (gCX2 _ _ _ _ _) rfl (A_87 hw) rfl ⟨le_t rfl, le_t rfl⟩ ⟨le_t rfl, le_t rfl⟩ rfl (le_t rfl) fun z5 h4 => ?_
  refine mr_if_ne (pc := 13) (tgt := 26) dX2_leastBelow_13 (by decide) (r32 h4.1 rfl) (fun h6 => ?_) (fun h6 => ?_)
  · have h7 : 1 ≤ z5 ∧ z5 ≤ 1 := (vc_X12_ring_24 h6 h4.1)
    refine sv_aload_n (pc := 26) dX2_leastBelow_26 rfl rfl ?_
    refine mr_iload_n (pc := 27) (z := p1) dX2_leastBelow_27 rfl rfl ?_
    refine mr_iload_n (pc := 28) (z := p2) dX2_leastBelow_28 rfl rfl ?_
    refine mr_iload_n (pc := 29) (z := p3) dX2_leastBelow_29 rfl rfl ?_
    refine mr_iconst (pc := 30) (z := 1) dX2_leastBelow_30 ?_
    refine mr_iadd (pc := 31) (x := p3) (y := 1) dX2_leastBelow_31 ?_
    refine mr_cVI (pc := 32) (c_X2_leastBelow_W27 hw hT hp1 hp2 (rAdd (e := 27) (f := 27) hp3 (rR (x := 1)) rfl) (vc_X9_end_1 hq0 hp1) ((h4.2.1 h4.1).1 h6)) (gOk _ _ _ _ _) dX2_leastBelow_32 (tX2_leastBelow _ _ _ _ _) ⟨wV_X2_leastBelow, wL_X2_leastBelow⟩ wM_X2_101 (gCX2 _ _ _ _ _) rfl (A_87 hw) rfl ⟨le_t rfl, le_t rfl⟩ ⟨le_t rfl, le_t rfl⟩ rfl (le_t rfl) fun z12 μ8 T9 F10 h11 => ?_
    refine mr_istore (pc := 35) (lv' := [(4, iv z12), (0, .ref 87), (1, iv p1), (2, iv p2), (3, iv p3)]) dX2_leastBelow_35 (by decide) rfl ?_
    refine sv_aload_n (pc := 37) dX2_leastBelow_37 rfl rfl ?_
    refine mr_iload_n (pc := 38) (z := p1) dX2_leastBelow_38 rfl rfl ?_
    refine mr_iload_n (pc := 39) (z := p2) dX2_leastBelow_39 rfl rfl ?_
    refine mr_iconst (pc := 40) (z := 1) dX2_leastBelow_40 ?_
    refine mr_bipush (pc := 41) (z := 31) dX2_leastBelow_41 (by decide) ?_
    refine mr_iload_n (pc := 43) (z := p3) dX2_leastBelow_43 rfl rfl ?_
    refine mr_isub (pc := 44) (x := 31) (y := p3) dX2_leastBelow_44 ?_
    refine mr_ishl (pc := 45) (x := 1) (y := (31 - p3)) dX2_leastBelow_45 ?_
    refine mr_gen (P := fun z => (-2147483648) ≤ z ∧ z ≤ 2147483647) (r32i _) fun z13 q14 h15 => ?_
    refine mr_ior (pc := 46) (x := p2) (y := z13) dX2_leastBelow_46 ?_
    refine mr_gen (P := fun z => (-2147483648) ≤ z ∧ z ≤ 2147483647) (r32i _) fun z16 q17 h18 => ?_
    refine mr_iload_n (pc := 47) (z := p3) dX2_leastBelow_47 rfl rfl ?_
    refine mr_iconst (pc := 48) (z := 1) dX2_leastBelow_48 ?_
    refine mr_iadd (pc := 49) (x := p3) (y := 1) dX2_leastBelow_49 ?_
    refine mr_cVI (pc := 50) (c_X2_leastBelow_W27 hw T9 hp1 h18 (rAdd (e := 27) (f := 27) hp3 (rR (x := 1)) rfl) (vc_X9_end_1 hq0 hp1) ((((h11.2.1 T9 F10) h11.1) z13 q14) z16 q17)) (gOk _ _ _ _ _) dX2_leastBelow_50 (tX2_leastBelow _ _ _ _ _) ⟨wV_X2_leastBelow, wL_X2_leastBelow⟩ wM_X2_101 (gCX2 _ _ _ _ _) rfl (A_87 hw) rfl ⟨le_t rfl, le_t rfl⟩ ⟨le_t rfl, le_t rfl⟩ rfl (le_t rfl) fun z23 μ19 T20 F21 h22 => ?_
    refine mr_istore (pc := 53) (lv' := [(5, iv z23), (4, iv z12), (0, .ref 87), (1, iv p1), (2, iv p2), (3, iv p3)]) dX2_leastBelow_53 (by decide) rfl ?_
    refine mr_iload (pc := 55) (z := z12) dX2_leastBelow_55 rfl ?_
    refine mr_iload (pc := 57) (z := z23) dX2_leastBelow_57 rfl ?_
    refine mr_iand (pc := 59) (x := z12) (y := z23) dX2_leastBelow_59 ?_
    refine mr_gen (P := fun z => (-2147483648) ≤ z ∧ z ≤ 2147483647) (r32i _) fun z24 q25 h26 => ?_
    refine mr_if_eq (pc := 60) (tgt := 69) dX2_leastBelow_60 (by decide) h26 (fun h27 => ?_) (fun h27 => ?_)
    · have h28 : 0 ≤ z24 ∧ z24 ≤ 0 := (vc_X12_mask_1 h27 h26)
      refine sv_aload_n (pc := 69) dX2_leastBelow_69 rfl rfl ?_
      refine sv_dup (pc := 70) dX2_leastBelow_70 rfl ?_
      refine gf_X2_7 (pc := 71) dX2_leastBelow_71 wF_X2_98 (A_87 hw) T20 fun z29 q30 h31 => ?_
      refine mr_iconst (pc := 74) (z := 1) dX2_leastBelow_74 ?_
      refine mr_iadd (pc := 75) (x := z29) (y := 1) dX2_leastBelow_75 ?_
      refine mr_wrapF fun z32 h33 h34 => ?_
      refine pf_X2_7 (pc := 76) dX2_leastBelow_76 wF_X2_98 (A_87 hw) T20 h33 fun μ35 u36 T37 => ?_
      refine mr_iload (pc := 79) (z := z12) dX2_leastBelow_79 rfl ?_
      refine mr_iload (pc := 81) (z := z23) dX2_leastBelow_81 rfl ?_
      refine mr_ior (pc := 83) (x := z12) (y := z23) dX2_leastBelow_83 ?_
      refine mr_gen (P := fun z => (-2147483648) ≤ z ∧ z ≤ 2147483647) (r32i _) fun z38 q39 h40 => ?_
      exact mr_iret dX2_leastBelow_84 rfl (le_t rfl) (le_t rfl) T37 (mF.up (mF.call (mF.call mF.refl F10 rfl) F21 rfl) (A_87 hw) u36 rfl) ⟨h40, ((((((((h22.2.1 T20 F21) h22.1) z24 q25).1 h27) z29 q30 h31) z32 h33 h34) μ35 u36 T37) z38 q39), trivial⟩
    refine mr_iload (pc := 63) (z := z12) dX2_leastBelow_63 rfl ?_
    refine mr_iload (pc := 65) (z := z23) dX2_leastBelow_65 rfl ?_
    refine mr_iand (pc := 67) (x := z12) (y := z23) dX2_leastBelow_67 ?_
    refine mr_gen (P := fun z => (-2147483648) ≤ z ∧ z ≤ 2147483647) (r32i _) fun z41 q42 h43 => ?_
    exact mr_iret dX2_leastBelow_68 rfl (le_t rfl) (le_t rfl) T20 (mF.call (mF.call mF.refl F10 rfl) F21 rfl) ⟨h43, (((((h22.2.1 T20 F21) h22.1) z24 q25).2 h27) z41 q42), trivial⟩
  have h44 : 0 ≤ z5 ∧ z5 ≤ 0 := (vc_X12_ring_22 h6 h4.1)
  refine sv_aload_n (pc := 16) dX2_leastBelow_16 rfl rfl ?_
  refine mr_iload_n (pc := 17) (z := p1) dX2_leastBelow_17 rfl rfl ?_
  refine mr_iload_n (pc := 18) (z := p2) dX2_leastBelow_18 rfl rfl ?_
  refine mr_cVP (pc := 19) (c_X2_tieFor_W hw hT hp1 hp2 (vc_X9_end_1 hq0 hp1) ((h4.2.1 h4.1).2 h6)) (gOk _ _ _ _ _) dX2_leastBelow_19 (tX2_tieFor _ _ _ _ _) ⟨wV_X2_tieFor, wL_X2_tieFor⟩ wM_X2_60 (gCX2 _ _ _ _ _) rfl (A_87 hw) rfl ⟨le_t rfl, le_t rfl⟩ ⟨le_t rfl, le_t rfl⟩ rfl (le_t rfl) fun z49 h48 => ?_
  refine mr_cSP (pc := 22) (c_X2_aimBit_W hw hT h48.1 (h48.2.2.2.1 h48.1)) (gOk _ _ _ _ _) dX2_leastBelow_22 (tX2_aimBit _ _ _ _ _) wS_X2_aimBit wM_X2_110 ⟨le_t rfl, le_t rfl⟩ ⟨le_t rfl, le_t rfl⟩ rfl (le_t rfl) fun z54 h53 => ?_
  exact mr_iret dX2_leastBelow_25 rfl (le_t rfl) (le_t rfl) hT mF.refl ⟨h53.1, (h53.2.1 h53.1), trivial⟩
def WP_X2_leastBelow_W25 (w : mW) (μ : mM) (p1 : Int) (p2 : Int) (p3 : Int) (Q : Int → mM → Prop) : Prop := WP_X2_isSplit_W w μ p1 p2 p3 (fun z5 _ => (0 ≤ z5 ∧ z5 ≤ 1) → ((¬ z5 = 0) → WP_X2_leastBelow_W26 w μ p1 p2 (p3 + 1) (fun z12 μ8 => mT w μ8 → mF [87007] w μ μ8 → ((-2147483648) ≤ z12 ∧ z12 ≤ 2147483647) → ∀ z13 : Int, bShl (1 : Int) (31 - p3) = z13 → ∀ z16 : Int, bOr p2 z13 = z16 → WP_X2_leastBelow_W26 w μ8 p1 z16 (p3 + 1) (fun z23 μ19 => mT w μ19 → mF [87007] w μ8 μ19 → ((-2147483648) ≤ z23 ∧ z23 ≤ 2147483647) → ∀ z24 : Int, bAnd z12 z23 = z24 → ((z24 = 0) → ∀ z29 : Int, μ19 87 7 = z29 → ((-2147483648) ≤ z29 ∧ z29 ≤ 2147483647) → ∀ z32 : Int, (-2147483648 ≤ z32 ∧ z32 ≤ 2147483647) → (z32 - (z29 + 1)) % 4294967296 = 0 → ∀ μ35 : mM, mU μ19 87 (7) z32 μ35 → mT w μ35 → ∀ z38 : Int, bOr z12 z23 = z38 → Q z38 μ35) ∧ ((¬ z24 = 0) → ∀ z41 : Int, bAnd z12 z23 = z41 → Q z41 μ19)))) ∧ ((z5 = 0) → WP_X2_tieFor_W w μ p1 p2 (fun z49 _ => ((-99999999) ≤ z49 ∧ z49 ≤ 19) → WP_X2_aimBit_W w μ z49 (fun z54 _ => ((-2147483648) ≤ z54 ∧ z54 ≤ 2147483647) → Q z54 μ))))
theorem vc_X2_leastBelow_W25_1 {p3 : Int} (h0 : 32 ≤ p3) (h1 : 25 ≤ p3 ∧ p3 ≤ 25) : False := by omega
set_option maxRecDepth 4000 in
set_option maxHeartbeats 4000000 in
theorem c_X2_leastBelow_W25 {l : Launch} {D : va_G} {c : Nat → ClassId} {H0 : Heap} {sa : Nat × Nat × (Nat → Int32)} {w : mW} {μ : mM} (hw : mWF w) (hT : mT w μ) {p1 : Int} (hp1 : 0 ≤ p1 ∧ p1 ≤ 9) {p2 : Int} (hp2 : (-2147483648) ≤ p2 ∧ p2 ≤ 2147483647) {p3 : Int} (hp3 : 25 ≤ p3 ∧ p3 ≤ 25) (hq0 : p1 < w.2.2.2 0) {Q : Int → mM → Prop} (hQ : WP_X2_leastBelow_W25 w μ p1 p2 p3 Q) : sC (gG l D c H0 sa) mX2_leastBelow 10 0 0 [.ref 87, iv p1, iv p2, iv p3] (mk w μ) (qI w [87007] μ (fun z μ1 => ((-2147483648) ≤ z ∧ z ≤ 2147483647) ∧ Q z μ1 ∧ True)) := by
  refine sC.of rfl (by decide) (le_t rfl) ?_
  refine mr_lvE (lv' := [(0, .ref 87), (1, iv p1), (2, iv p2), (3, iv p3)]) rfl ?_
  refine mr_iload_n (pc := 0) (z := p3) dX2_leastBelow_0 rfl rfl ?_
  refine mr_bipush (pc := 1) (z := 32) dX2_leastBelow_1 (by decide) ?_
  refine mr_icmp_ge (pc := 3) (tgt := 16) dX2_leastBelow_3 (by decide) (r32 hp3 rfl) (r32 (rR (x := 32)) rfl) (fun h => ((vc_X2_leastBelow_W25_1 h hp3)).elim) (fun _ => ?_)
  refine sv_aload_n (pc := 6) dX2_leastBelow_6 rfl rfl ?_
  refine mr_iload_n (pc := 7) (z := p1) dX2_leastBelow_7 rfl rfl ?_
  refine mr_iload_n (pc := 8) (z := p2) dX2_leastBelow_8 rfl rfl ?_
  refine mr_iload_n (pc := 9) (z := p3) dX2_leastBelow_9 rfl rfl ?_
  refine mr_cVP (pc := 10) (c_X2_isSplit_W hw hT hp1 hp2 (rW (c := (-2147483648)) (d := 2147483647) hp3 rfl) (vc_X9_end_1 hq0 hp1) hQ) (gOk _ _ _ _ _) dX2_leastBelow_10 (tX2_isSplit _ _ _ _ _) ⟨wV_X2_isSplit, wL_X2_isSplit⟩ wM_X2_106 (gCX2 _ _ _ _ _) rfl (A_87 hw) rfl ⟨le_t rfl, le_t rfl⟩ ⟨le_t rfl, le_t rfl⟩ rfl (le_t rfl) fun z5 h4 => ?_
  refine mr_if_ne (pc := 13) (tgt := 26) dX2_leastBelow_13 (by decide) (r32 h4.1 rfl) (fun h6 => ?_) (fun h6 => ?_)
  · have h7 : 1 ≤ z5 ∧ z5 ≤ 1 := (vc_X12_ring_24 h6 h4.1)
    refine sv_aload_n (pc := 26) dX2_leastBelow_26 rfl rfl ?_
    refine mr_iload_n (pc := 27) (z := p1) dX2_leastBelow_27 rfl rfl ?_
    refine mr_iload_n (pc := 28) (z := p2) dX2_leastBelow_28 rfl rfl ?_
    refine mr_iload_n (pc := 29) (z := p3) dX2_leastBelow_29 rfl rfl ?_
    refine mr_iconst (pc := 30) (z := 1) dX2_leastBelow_30 ?_
    refine mr_iadd (pc := 31) (x := p3) (y := 1) dX2_leastBelow_31 ?_
    refine mr_cVI (pc := 32) (c_X2_leastBelow_W26 hw hT hp1 hp2 (rAdd (e := 26) (f := 26) hp3 (rR (x := 1)) rfl) (vc_X9_end_1 hq0 hp1) ((h4.2.1 h4.1).1 h6)) (gOk _ _ _ _ _) dX2_leastBelow_32 (tX2_leastBelow _ _ _ _ _) ⟨wV_X2_leastBelow, wL_X2_leastBelow⟩ wM_X2_101 (gCX2 _ _ _ _ _) rfl (A_87 hw) rfl ⟨le_t rfl, le_t rfl⟩ ⟨le_t rfl, le_t rfl⟩ rfl (le_t rfl) fun z12 μ8 T9 F10 h11 => ?_
    refine mr_istore (pc := 35) (lv' := [(4, iv z12), (0, .ref 87), (1, iv p1), (2, iv p2), (3, iv p3)]) dX2_leastBelow_35 (by decide) rfl ?_
    refine sv_aload_n (pc := 37) dX2_leastBelow_37 rfl rfl ?_
    refine mr_iload_n (pc := 38) (z := p1) dX2_leastBelow_38 rfl rfl ?_
    refine mr_iload_n (pc := 39) (z := p2) dX2_leastBelow_39 rfl rfl ?_
    refine mr_iconst (pc := 40) (z := 1) dX2_leastBelow_40 ?_
    refine mr_bipush (pc := 41) (z := 31) dX2_leastBelow_41 (by decide) ?_
    refine mr_iload_n (pc := 43) (z := p3) dX2_leastBelow_43 rfl rfl ?_
    refine mr_isub (pc := 44) (x := 31) (y := p3) dX2_leastBelow_44 ?_
    refine mr_ishl (pc := 45) (x := 1) (y := (31 - p3)) dX2_leastBelow_45 ?_
    refine mr_gen (P := fun z => (-2147483648) ≤ z ∧ z ≤ 2147483647) (r32i _) fun z13 q14 h15 => ?_
    refine mr_ior (pc := 46) (x := p2) (y := z13) dX2_leastBelow_46 ?_
    refine mr_gen (P := fun z => (-2147483648) ≤ z ∧ z ≤ 2147483647) (r32i _) fun z16 q17 h18 => ?_
    refine mr_iload_n (pc := 47) (z := p3) dX2_leastBelow_47 rfl rfl ?_
    refine mr_iconst (pc := 48) (z := 1) dX2_leastBelow_48 ?_
    refine mr_iadd (pc := 49) (x := p3) (y := 1) dX2_leastBelow_49 ?_
    refine mr_cVI (pc := 50) (c_X2_leastBelow_W26 hw T9 hp1 h18 (rAdd (e := 26) (f := 26) hp3 (rR (x := 1)) rfl) (vc_X9_end_1 hq0 hp1) ((((h11.2.1 T9 F10) h11.1) z13 q14) z16 q17)) (gOk _ _ _ _ _) dX2_leastBelow_50 (tX2_leastBelow _ _ _ _ _) ⟨wV_X2_leastBelow, wL_X2_leastBelow⟩ wM_X2_101 (gCX2 _ _ _ _ _) rfl (A_87 hw) rfl ⟨le_t rfl, le_t rfl⟩ ⟨le_t rfl, le_t rfl⟩ rfl (le_t rfl) fun z23 μ19 T20 F21 h22 => ?_
    refine mr_istore (pc := 53) (lv' := [(5, iv z23), (4, iv z12), (0, .ref 87), (1, iv p1), (2, iv p2), (3, iv p3)]) dX2_leastBelow_53 (by decide) rfl ?_
    refine mr_iload (pc := 55) (z := z12) dX2_leastBelow_55 rfl ?_
    refine mr_iload (pc := 57) (z := z23) dX2_leastBelow_57 rfl ?_
    refine mr_iand (pc := 59) (x := z12) (y := z23) dX2_leastBelow_59 ?_
    refine mr_gen (P := fun z => (-2147483648) ≤ z ∧ z ≤ 2147483647) (r32i _) fun z24 q25 h26 => ?_
    refine mr_if_eq (pc := 60) (tgt := 69) dX2_leastBelow_60 (by decide) h26 (fun h27 => ?_) (fun h27 => ?_)
    · have h28 : 0 ≤ z24 ∧ z24 ≤ 0 := (vc_X12_mask_1 h27 h26)
      refine sv_aload_n (pc := 69) dX2_leastBelow_69 rfl rfl ?_
      refine sv_dup (pc := 70) dX2_leastBelow_70 rfl ?_
      refine gf_X2_7 (pc := 71) dX2_leastBelow_71 wF_X2_98 (A_87 hw) T20 fun z29 q30 h31 => ?_
      refine mr_iconst (pc := 74) (z := 1) dX2_leastBelow_74 ?_
      refine mr_iadd (pc := 75) (x := z29) (y := 1) dX2_leastBelow_75 ?_
      refine mr_wrapF fun z32 h33 h34 => ?_
      refine pf_X2_7 (pc := 76) dX2_leastBelow_76 wF_X2_98 (A_87 hw) T20 h33 fun μ35 u36 T37 => ?_
      refine mr_iload (pc := 79) (z := z12) dX2_leastBelow_79 rfl ?_
      refine mr_iload (pc := 81) (z := z23) dX2_leastBelow_81 rfl ?_
      refine mr_ior (pc := 83) (x := z12) (y := z23) dX2_leastBelow_83 ?_
      refine mr_gen (P := fun z => (-2147483648) ≤ z ∧ z ≤ 2147483647) (r32i _) fun z38 q39 h40 => ?_
      exact mr_iret dX2_leastBelow_84 rfl (le_t rfl) (le_t rfl) T37 (mF.up (mF.call (mF.call mF.refl F10 rfl) F21 rfl) (A_87 hw) u36 rfl) ⟨h40, ((((((((h22.2.1 T20 F21) h22.1) z24 q25).1 h27) z29 q30 h31) z32 h33 h34) μ35 u36 T37) z38 q39), trivial⟩
    refine mr_iload (pc := 63) (z := z12) dX2_leastBelow_63 rfl ?_
    refine mr_iload (pc := 65) (z := z23) dX2_leastBelow_65 rfl ?_
    refine mr_iand (pc := 67) (x := z12) (y := z23) dX2_leastBelow_67 ?_
    refine mr_gen (P := fun z => (-2147483648) ≤ z ∧ z ≤ 2147483647) (r32i _) fun z41 q42 h43 => ?_
    exact mr_iret dX2_leastBelow_68 rfl (le_t rfl) (le_t rfl) T20 (mF.call (mF.call mF.refl F10 rfl) F21 rfl) ⟨h43, (((((h22.2.1 T20 F21) h22.1) z24 q25).2 h27) z41 q42), trivial⟩
  have h44 : 0 ≤ z5 ∧ z5 ≤ 0 := (vc_X12_ring_22 h6 h4.1)
  refine sv_aload_n (pc := 16) dX2_leastBelow_16 rfl rfl ?_
  refine mr_iload_n (pc := 17) (z := p1) dX2_leastBelow_17 rfl rfl ?_
  refine mr_iload_n (pc := 18) (z := p2) dX2_leastBelow_18 rfl rfl ?_
  refine mr_cVP (pc := 19) (c_X2_tieFor_W hw hT hp1 hp2 (vc_X9_end_1 hq0 hp1) ((h4.2.1 h4.1).2 h6)) (gOk _ _ _ _ _) dX2_leastBelow_19 (tX2_tieFor _ _ _ _ _) ⟨wV_X2_tieFor, wL_X2_tieFor⟩ wM_X2_60 (gCX2 _ _ _ _ _) rfl (A_87 hw) rfl ⟨le_t rfl, le_t rfl⟩ ⟨le_t rfl, le_t rfl⟩ rfl (le_t rfl) fun z49 h48 => ?_
  refine mr_cSP (pc := 22) (c_X2_aimBit_W hw hT h48.1 (h48.2.2.2.1 h48.1)) (gOk _ _ _ _ _) dX2_leastBelow_22 (tX2_aimBit _ _ _ _ _) wS_X2_aimBit wM_X2_110 ⟨le_t rfl, le_t rfl⟩ ⟨le_t rfl, le_t rfl⟩ rfl (le_t rfl) fun z54 h53 => ?_
  exact mr_iret dX2_leastBelow_25 rfl (le_t rfl) (le_t rfl) hT mF.refl ⟨h53.1, (h53.2.1 h53.1), trivial⟩
def WP_X2_leastBelow_W24 (w : mW) (μ : mM) (p1 : Int) (p2 : Int) (p3 : Int) (Q : Int → mM → Prop) : Prop := WP_X2_isSplit_W w μ p1 p2 p3 (fun z5 _ => (0 ≤ z5 ∧ z5 ≤ 1) → ((¬ z5 = 0) → WP_X2_leastBelow_W25 w μ p1 p2 (p3 + 1) (fun z12 μ8 => mT w μ8 → mF [87007] w μ μ8 → ((-2147483648) ≤ z12 ∧ z12 ≤ 2147483647) → ∀ z13 : Int, bShl (1 : Int) (31 - p3) = z13 → ∀ z16 : Int, bOr p2 z13 = z16 → WP_X2_leastBelow_W25 w μ8 p1 z16 (p3 + 1) (fun z23 μ19 => mT w μ19 → mF [87007] w μ8 μ19 → ((-2147483648) ≤ z23 ∧ z23 ≤ 2147483647) → ∀ z24 : Int, bAnd z12 z23 = z24 → ((z24 = 0) → ∀ z29 : Int, μ19 87 7 = z29 → ((-2147483648) ≤ z29 ∧ z29 ≤ 2147483647) → ∀ z32 : Int, (-2147483648 ≤ z32 ∧ z32 ≤ 2147483647) → (z32 - (z29 + 1)) % 4294967296 = 0 → ∀ μ35 : mM, mU μ19 87 (7) z32 μ35 → mT w μ35 → ∀ z38 : Int, bOr z12 z23 = z38 → Q z38 μ35) ∧ ((¬ z24 = 0) → ∀ z41 : Int, bAnd z12 z23 = z41 → Q z41 μ19)))) ∧ ((z5 = 0) → WP_X2_tieFor_W w μ p1 p2 (fun z49 _ => ((-99999999) ≤ z49 ∧ z49 ≤ 19) → WP_X2_aimBit_W w μ z49 (fun z54 _ => ((-2147483648) ≤ z54 ∧ z54 ≤ 2147483647) → Q z54 μ))))
theorem vc_X2_leastBelow_W24_1 {p3 : Int} (h0 : 32 ≤ p3) (h1 : 24 ≤ p3 ∧ p3 ≤ 24) : False := by omega
set_option maxRecDepth 4000 in
set_option maxHeartbeats 4000000 in
theorem c_X2_leastBelow_W24 {l : Launch} {D : va_G} {c : Nat → ClassId} {H0 : Heap} {sa : Nat × Nat × (Nat → Int32)} {w : mW} {μ : mM} (hw : mWF w) (hT : mT w μ) {p1 : Int} (hp1 : 0 ≤ p1 ∧ p1 ≤ 9) {p2 : Int} (hp2 : (-2147483648) ≤ p2 ∧ p2 ≤ 2147483647) {p3 : Int} (hp3 : 24 ≤ p3 ∧ p3 ≤ 24) (hq0 : p1 < w.2.2.2 0) {Q : Int → mM → Prop} (hQ : WP_X2_leastBelow_W24 w μ p1 p2 p3 Q) : sC (gG l D c H0 sa) mX2_leastBelow 11 0 0 [.ref 87, iv p1, iv p2, iv p3] (mk w μ) (qI w [87007] μ (fun z μ1 => ((-2147483648) ≤ z ∧ z ≤ 2147483647) ∧ Q z μ1 ∧ True)) := by
  refine sC.of rfl (by decide) (le_t rfl) ?_
  refine mr_lvE (lv' := [(0, .ref 87), (1, iv p1), (2, iv p2), (3, iv p3)]) rfl ?_
  refine mr_iload_n (pc := 0) (z := p3) dX2_leastBelow_0 rfl rfl ?_
  refine mr_bipush (pc := 1) (z := 32) dX2_leastBelow_1 (by decide) ?_
  refine mr_icmp_ge (pc := 3) (tgt := 16) dX2_leastBelow_3 (by decide) (r32 hp3 rfl) (r32 (rR (x := 32)) rfl) (fun h => ((vc_X2_leastBelow_W24_1 h hp3)).elim) (fun _ => ?_)
  refine sv_aload_n (pc := 6) dX2_leastBelow_6 rfl rfl ?_
  refine mr_iload_n (pc := 7) (z := p1) dX2_leastBelow_7 rfl rfl ?_
  refine mr_iload_n (pc := 8) (z := p2) dX2_leastBelow_8 rfl rfl ?_
  refine mr_iload_n (pc := 9) (z := p3) dX2_leastBelow_9 rfl rfl ?_
  refine mr_cVP (pc := 10) (c_X2_isSplit_W hw hT hp1 hp2 (rW (c := (-2147483648)) (d := 2147483647) hp3 rfl) (vc_X9_end_1 hq0 hp1) hQ) (gOk _ _ _ _ _) dX2_leastBelow_10 (tX2_isSplit _ _ _ _ _) ⟨wV_X2_isSplit, wL_X2_isSplit⟩ wM_X2_106 (gCX2 _ _ _ _ _) rfl (A_87 hw) rfl ⟨le_t rfl, le_t rfl⟩ ⟨le_t rfl, le_t rfl⟩ rfl (le_t rfl) fun z5 h4 => ?_
  refine mr_if_ne (pc := 13) (tgt := 26) dX2_leastBelow_13 (by decide) (r32 h4.1 rfl) (fun h6 => ?_) (fun h6 => ?_)
  · have h7 : 1 ≤ z5 ∧ z5 ≤ 1 := (vc_X12_ring_24 h6 h4.1)
    refine sv_aload_n (pc := 26) dX2_leastBelow_26 rfl rfl ?_
    refine mr_iload_n (pc := 27) (z := p1) dX2_leastBelow_27 rfl rfl ?_
    refine mr_iload_n (pc := 28) (z := p2) dX2_leastBelow_28 rfl rfl ?_
    refine mr_iload_n (pc := 29) (z := p3) dX2_leastBelow_29 rfl rfl ?_
    refine mr_iconst (pc := 30) (z := 1) dX2_leastBelow_30 ?_
    refine mr_iadd (pc := 31) (x := p3) (y := 1) dX2_leastBelow_31 ?_
    refine mr_cVI (pc := 32) (c_X2_leastBelow_W25 hw hT hp1 hp2 (rAdd (e := 25) (f := 25) hp3 (rR (x := 1)) rfl) (vc_X9_end_1 hq0 hp1) ((h4.2.1 h4.1).1 h6)) (gOk _ _ _ _ _) dX2_leastBelow_32 (tX2_leastBelow _ _ _ _ _) ⟨wV_X2_leastBelow, wL_X2_leastBelow⟩ wM_X2_101 (gCX2 _ _ _ _ _) rfl (A_87 hw) rfl ⟨le_t rfl, le_t rfl⟩ ⟨le_t rfl, le_t rfl⟩ rfl (le_t rfl) fun z12 μ8 T9 F10 h11 => ?_
    refine mr_istore (pc := 35) (lv' := [(4, iv z12), (0, .ref 87), (1, iv p1), (2, iv p2), (3, iv p3)]) dX2_leastBelow_35 (by decide) rfl ?_
    refine sv_aload_n (pc := 37) dX2_leastBelow_37 rfl rfl ?_
    refine mr_iload_n (pc := 38) (z := p1) dX2_leastBelow_38 rfl rfl ?_
    refine mr_iload_n (pc := 39) (z := p2) dX2_leastBelow_39 rfl rfl ?_
    refine mr_iconst (pc := 40) (z := 1) dX2_leastBelow_40 ?_
    refine mr_bipush (pc := 41) (z := 31) dX2_leastBelow_41 (by decide) ?_
    refine mr_iload_n (pc := 43) (z := p3) dX2_leastBelow_43 rfl rfl ?_
    refine mr_isub (pc := 44) (x := 31) (y := p3) dX2_leastBelow_44 ?_
    refine mr_ishl (pc := 45) (x := 1) (y := (31 - p3)) dX2_leastBelow_45 ?_
    refine mr_gen (P := fun z => (-2147483648) ≤ z ∧ z ≤ 2147483647) (r32i _) fun z13 q14 h15 => ?_
    refine mr_ior (pc := 46) (x := p2) (y := z13) dX2_leastBelow_46 ?_
    refine mr_gen (P := fun z => (-2147483648) ≤ z ∧ z ≤ 2147483647) (r32i _) fun z16 q17 h18 => ?_
    refine mr_iload_n (pc := 47) (z := p3) dX2_leastBelow_47 rfl rfl ?_
    refine mr_iconst (pc := 48) (z := 1) dX2_leastBelow_48 ?_
    refine mr_iadd (pc := 49) (x := p3) (y := 1) dX2_leastBelow_49 ?_
    refine mr_cVI (pc := 50) (c_X2_leastBelow_W25 hw T9 hp1 h18 (rAdd (e := 25) (f := 25) hp3 (rR (x := 1)) rfl) (vc_X9_end_1 hq0 hp1) ((((h11.2.1 T9 F10) h11.1) z13 q14) z16 q17)) (gOk _ _ _ _ _) dX2_leastBelow_50 (tX2_leastBelow _ _ _ _ _) ⟨wV_X2_leastBelow, wL_X2_leastBelow⟩ wM_X2_101 (gCX2 _ _ _ _ _) rfl (A_87 hw) rfl ⟨le_t rfl, le_t rfl⟩ ⟨le_t rfl, le_t rfl⟩ rfl (le_t rfl) fun z23 μ19 T20 F21 h22 => ?_
    refine mr_istore (pc := 53) (lv' := [(5, iv z23), (4, iv z12), (0, .ref 87), (1, iv p1), (2, iv p2), (3, iv p3)]) dX2_leastBelow_53 (by decide) rfl ?_
    refine mr_iload (pc := 55) (z := z12) dX2_leastBelow_55 rfl ?_
    refine mr_iload (pc := 57) (z := z23) dX2_leastBelow_57 rfl ?_
    refine mr_iand (pc := 59) (x := z12) (y := z23) dX2_leastBelow_59 ?_
    refine mr_gen (P := fun z => (-2147483648) ≤ z ∧ z ≤ 2147483647) (r32i _) fun z24 q25 h26 => ?_
    refine mr_if_eq (pc := 60) (tgt := 69) dX2_leastBelow_60 (by decide) h26 (fun h27 => ?_) (fun h27 => ?_)
    · have h28 : 0 ≤ z24 ∧ z24 ≤ 0 := (vc_X12_mask_1 h27 h26)
      refine sv_aload_n (pc := 69) dX2_leastBelow_69 rfl rfl ?_
      refine sv_dup (pc := 70) dX2_leastBelow_70 rfl ?_
      refine gf_X2_7 (pc := 71) dX2_leastBelow_71 wF_X2_98 (A_87 hw) T20 fun z29 q30 h31 => ?_
      refine mr_iconst (pc := 74) (z := 1) dX2_leastBelow_74 ?_
      refine mr_iadd (pc := 75) (x := z29) (y := 1) dX2_leastBelow_75 ?_
      refine mr_wrapF fun z32 h33 h34 => ?_
      refine pf_X2_7 (pc := 76) dX2_leastBelow_76 wF_X2_98 (A_87 hw) T20 h33 fun μ35 u36 T37 => ?_
      refine mr_iload (pc := 79) (z := z12) dX2_leastBelow_79 rfl ?_
      refine mr_iload (pc := 81) (z := z23) dX2_leastBelow_81 rfl ?_
      refine mr_ior (pc := 83) (x := z12) (y := z23) dX2_leastBelow_83 ?_
      refine mr_gen (P := fun z => (-2147483648) ≤ z ∧ z ≤ 2147483647) (r32i _) fun z38 q39 h40 => ?_
      exact mr_iret dX2_leastBelow_84 rfl (le_t rfl) (le_t rfl) T37 (mF.up (mF.call (mF.call mF.refl F10 rfl) F21 rfl) (A_87 hw) u36 rfl) ⟨h40, ((((((((h22.2.1 T20 F21) h22.1) z24 q25).1 h27) z29 q30 h31) z32 h33 h34) μ35 u36 T37) z38 q39), trivial⟩
    refine mr_iload (pc := 63) (z := z12) dX2_leastBelow_63 rfl ?_
    refine mr_iload (pc := 65) (z := z23) dX2_leastBelow_65 rfl ?_
    refine mr_iand (pc := 67) (x := z12) (y := z23) dX2_leastBelow_67 ?_
    refine mr_gen (P := fun z => (-2147483648) ≤ z ∧ z ≤ 2147483647) (r32i _) fun z41 q42 h43 => ?_
    exact mr_iret dX2_leastBelow_68 rfl (le_t rfl) (le_t rfl) T20 (mF.call (mF.call mF.refl F10 rfl) F21 rfl) ⟨h43, (((((h22.2.1 T20 F21) h22.1) z24 q25).2 h27) z41 q42), trivial⟩
  have h44 : 0 ≤ z5 ∧ z5 ≤ 0 := (vc_X12_ring_22 h6 h4.1)
  refine sv_aload_n (pc := 16) dX2_leastBelow_16 rfl rfl ?_
  refine mr_iload_n (pc := 17) (z := p1) dX2_leastBelow_17 rfl rfl ?_
  refine mr_iload_n (pc := 18) (z := p2) dX2_leastBelow_18 rfl rfl ?_
  refine mr_cVP (pc := 19) (c_X2_tieFor_W hw hT hp1 hp2 (vc_X9_end_1 hq0 hp1) ((h4.2.1 h4.1).2 h6)) (gOk _ _ _ _ _) dX2_leastBelow_19 (tX2_tieFor _ _ _ _ _) ⟨wV_X2_tieFor, wL_X2_tieFor⟩ wM_X2_60 (gCX2 _ _ _ _ _) rfl (A_87 hw) rfl ⟨le_t rfl, le_t rfl⟩ ⟨le_t rfl, le_t rfl⟩ rfl (le_t rfl) fun z49 h48 => ?_
  refine mr_cSP (pc := 22) (c_X2_aimBit_W hw hT h48.1 (h48.2.2.2.1 h48.1)) (gOk _ _ _ _ _) dX2_leastBelow_22 (tX2_aimBit _ _ _ _ _) wS_X2_aimBit wM_X2_110 ⟨le_t rfl, le_t rfl⟩ ⟨le_t rfl, le_t rfl⟩ rfl (le_t rfl) fun z54 h53 => ?_
  exact mr_iret dX2_leastBelow_25 rfl (le_t rfl) (le_t rfl) hT mF.refl ⟨h53.1, (h53.2.1 h53.1), trivial⟩
def WP_X2_leastBelow_W23 (w : mW) (μ : mM) (p1 : Int) (p2 : Int) (p3 : Int) (Q : Int → mM → Prop) : Prop := WP_X2_isSplit_W w μ p1 p2 p3 (fun z5 _ => (0 ≤ z5 ∧ z5 ≤ 1) → ((¬ z5 = 0) → WP_X2_leastBelow_W24 w μ p1 p2 (p3 + 1) (fun z12 μ8 => mT w μ8 → mF [87007] w μ μ8 → ((-2147483648) ≤ z12 ∧ z12 ≤ 2147483647) → ∀ z13 : Int, bShl (1 : Int) (31 - p3) = z13 → ∀ z16 : Int, bOr p2 z13 = z16 → WP_X2_leastBelow_W24 w μ8 p1 z16 (p3 + 1) (fun z23 μ19 => mT w μ19 → mF [87007] w μ8 μ19 → ((-2147483648) ≤ z23 ∧ z23 ≤ 2147483647) → ∀ z24 : Int, bAnd z12 z23 = z24 → ((z24 = 0) → ∀ z29 : Int, μ19 87 7 = z29 → ((-2147483648) ≤ z29 ∧ z29 ≤ 2147483647) → ∀ z32 : Int, (-2147483648 ≤ z32 ∧ z32 ≤ 2147483647) → (z32 - (z29 + 1)) % 4294967296 = 0 → ∀ μ35 : mM, mU μ19 87 (7) z32 μ35 → mT w μ35 → ∀ z38 : Int, bOr z12 z23 = z38 → Q z38 μ35) ∧ ((¬ z24 = 0) → ∀ z41 : Int, bAnd z12 z23 = z41 → Q z41 μ19)))) ∧ ((z5 = 0) → WP_X2_tieFor_W w μ p1 p2 (fun z49 _ => ((-99999999) ≤ z49 ∧ z49 ≤ 19) → WP_X2_aimBit_W w μ z49 (fun z54 _ => ((-2147483648) ≤ z54 ∧ z54 ≤ 2147483647) → Q z54 μ))))
theorem vc_X2_leastBelow_W23_1 {p3 : Int} (h0 : 32 ≤ p3) (h1 : 23 ≤ p3 ∧ p3 ≤ 23) : False := by omega
set_option maxRecDepth 4000 in
set_option maxHeartbeats 4000000 in
theorem c_X2_leastBelow_W23 {l : Launch} {D : va_G} {c : Nat → ClassId} {H0 : Heap} {sa : Nat × Nat × (Nat → Int32)} {w : mW} {μ : mM} (hw : mWF w) (hT : mT w μ) {p1 : Int} (hp1 : 0 ≤ p1 ∧ p1 ≤ 9) {p2 : Int} (hp2 : (-2147483648) ≤ p2 ∧ p2 ≤ 2147483647) {p3 : Int} (hp3 : 23 ≤ p3 ∧ p3 ≤ 23) (hq0 : p1 < w.2.2.2 0) {Q : Int → mM → Prop} (hQ : WP_X2_leastBelow_W23 w μ p1 p2 p3 Q) : sC (gG l D c H0 sa) mX2_leastBelow 12 0 0 [.ref 87, iv p1, iv p2, iv p3] (mk w μ) (qI w [87007] μ (fun z μ1 => ((-2147483648) ≤ z ∧ z ≤ 2147483647) ∧ Q z μ1 ∧ True)) := by
  refine sC.of rfl (by decide) (le_t rfl) ?_
  refine mr_lvE (lv' := [(0, .ref 87), (1, iv p1), (2, iv p2), (3, iv p3)]) rfl ?_
  refine mr_iload_n (pc := 0) (z := p3) dX2_leastBelow_0 rfl rfl ?_
  refine mr_bipush (pc := 1) (z := 32) dX2_leastBelow_1 (by decide) ?_
  refine mr_icmp_ge (pc := 3) (tgt := 16) dX2_leastBelow_3 (by decide) (r32 hp3 rfl) (r32 (rR (x := 32)) rfl) (fun h => ((vc_X2_leastBelow_W23_1 h hp3)).elim) (fun _ => ?_)
  refine sv_aload_n (pc := 6) dX2_leastBelow_6 rfl rfl ?_
  refine mr_iload_n (pc := 7) (z := p1) dX2_leastBelow_7 rfl rfl ?_
  refine mr_iload_n (pc := 8) (z := p2) dX2_leastBelow_8 rfl rfl ?_
  refine mr_iload_n (pc := 9) (z := p3) dX2_leastBelow_9 rfl rfl ?_
  refine mr_cVP (pc := 10) (c_X2_isSplit_W hw hT hp1 hp2 (rW (c := (-2147483648)) (d := 2147483647) hp3 rfl) (vc_X9_end_1 hq0 hp1) hQ) (gOk _ _ _ _ _) dX2_leastBelow_10 (tX2_isSplit _ _ _ _ _) ⟨wV_X2_isSplit, wL_X2_isSplit⟩ wM_X2_106 (gCX2 _ _ _ _ _) rfl (A_87 hw) rfl ⟨le_t rfl, le_t rfl⟩ ⟨le_t rfl, le_t rfl⟩ rfl (le_t rfl) fun z5 h4 => ?_
  refine mr_if_ne (pc := 13) (tgt := 26) dX2_leastBelow_13 (by decide) (r32 h4.1 rfl) (fun h6 => ?_) (fun h6 => ?_)
  · have h7 : 1 ≤ z5 ∧ z5 ≤ 1 := (vc_X12_ring_24 h6 h4.1)
    refine sv_aload_n (pc := 26) dX2_leastBelow_26 rfl rfl ?_
    refine mr_iload_n (pc := 27) (z := p1) dX2_leastBelow_27 rfl rfl ?_
    refine mr_iload_n (pc := 28) (z := p2) dX2_leastBelow_28 rfl rfl ?_
    refine mr_iload_n (pc := 29) (z := p3) dX2_leastBelow_29 rfl rfl ?_
    refine mr_iconst (pc := 30) (z := 1) dX2_leastBelow_30 ?_
    refine mr_iadd (pc := 31) (x := p3) (y := 1) dX2_leastBelow_31 ?_
    refine mr_cVI (pc := 32) (c_X2_leastBelow_W24 hw hT hp1 hp2 (rAdd (e := 24) (f := 24) hp3 (rR (x := 1)) rfl) (vc_X9_end_1 hq0 hp1) ((h4.2.1 h4.1).1 h6)) (gOk _ _ _ _ _) dX2_leastBelow_32 (tX2_leastBelow _ _ _ _ _) ⟨wV_X2_leastBelow, wL_X2_leastBelow⟩ wM_X2_101 (gCX2 _ _ _ _ _) rfl (A_87 hw) rfl ⟨le_t rfl, le_t rfl⟩ ⟨le_t rfl, le_t rfl⟩ rfl (le_t rfl) fun z12 μ8 T9 F10 h11 => ?_
    refine mr_istore (pc := 35) (lv' := [(4, iv z12), (0, .ref 87), (1, iv p1), (2, iv p2), (3, iv p3)]) dX2_leastBelow_35 (by decide) rfl ?_
    refine sv_aload_n (pc := 37) dX2_leastBelow_37 rfl rfl ?_
    refine mr_iload_n (pc := 38) (z := p1) dX2_leastBelow_38 rfl rfl ?_
    refine mr_iload_n (pc := 39) (z := p2) dX2_leastBelow_39 rfl rfl ?_
    refine mr_iconst (pc := 40) (z := 1) dX2_leastBelow_40 ?_
    refine mr_bipush (pc := 41) (z := 31) dX2_leastBelow_41 (by decide) ?_
    refine mr_iload_n (pc := 43) (z := p3) dX2_leastBelow_43 rfl rfl ?_
    refine mr_isub (pc := 44) (x := 31) (y := p3) dX2_leastBelow_44 ?_
    refine mr_ishl (pc := 45) (x := 1) (y := (31 - p3)) dX2_leastBelow_45 ?_
    refine mr_gen (P := fun z => (-2147483648) ≤ z ∧ z ≤ 2147483647) (r32i _) fun z13 q14 h15 => ?_
    refine mr_ior (pc := 46) (x := p2) (y := z13) dX2_leastBelow_46 ?_
    refine mr_gen (P := fun z => (-2147483648) ≤ z ∧ z ≤ 2147483647) (r32i _) fun z16 q17 h18 => ?_
    refine mr_iload_n (pc := 47) (z := p3) dX2_leastBelow_47 rfl rfl ?_
    refine mr_iconst (pc := 48) (z := 1) dX2_leastBelow_48 ?_
    refine mr_iadd (pc := 49) (x := p3) (y := 1) dX2_leastBelow_49 ?_
    refine mr_cVI (pc := 50) (c_X2_leastBelow_W24 hw T9 hp1 h18 (rAdd (e := 24) (f := 24) hp3 (rR (x := 1)) rfl) (vc_X9_end_1 hq0 hp1) ((((h11.2.1 T9 F10) h11.1) z13 q14) z16 q17)) (gOk _ _ _ _ _) dX2_leastBelow_50 (tX2_leastBelow _ _ _ _ _) ⟨wV_X2_leastBelow, wL_X2_leastBelow⟩ wM_X2_101 (gCX2 _ _ _ _ _) rfl (A_87 hw) rfl ⟨le_t rfl, le_t rfl⟩ ⟨le_t rfl, le_t rfl⟩ rfl (le_t rfl) fun z23 μ19 T20 F21 h22 => ?_
    refine mr_istore (pc := 53) (lv' := [(5, iv z23), (4, iv z12), (0, .ref 87), (1, iv p1), (2, iv p2), (3, iv p3)]) dX2_leastBelow_53 (by decide) rfl ?_
    refine mr_iload (pc := 55) (z := z12) dX2_leastBelow_55 rfl ?_
    refine mr_iload (pc := 57) (z := z23) dX2_leastBelow_57 rfl ?_
    refine mr_iand (pc := 59) (x := z12) (y := z23) dX2_leastBelow_59 ?_
    refine mr_gen (P := fun z => (-2147483648) ≤ z ∧ z ≤ 2147483647) (r32i _) fun z24 q25 h26 => ?_
    refine mr_if_eq (pc := 60) (tgt := 69) dX2_leastBelow_60 (by decide) h26 (fun h27 => ?_) (fun h27 => ?_)
    · have h28 : 0 ≤ z24 ∧ z24 ≤ 0 := (vc_X12_mask_1 h27 h26)
      refine sv_aload_n (pc := 69) dX2_leastBelow_69 rfl rfl ?_
      refine sv_dup (pc := 70) dX2_leastBelow_70 rfl ?_
      refine gf_X2_7 (pc := 71) dX2_leastBelow_71 wF_X2_98 (A_87 hw) T20 fun z29 q30 h31 => ?_
      refine mr_iconst (pc := 74) (z := 1) dX2_leastBelow_74 ?_
      refine mr_iadd (pc := 75) (x := z29) (y := 1) dX2_leastBelow_75 ?_
      refine mr_wrapF fun z32 h33 h34 => ?_
      refine pf_X2_7 (pc := 76) dX2_leastBelow_76 wF_X2_98 (A_87 hw) T20 h33 fun μ35 u36 T37 => ?_
      refine mr_iload (pc := 79) (z := z12) dX2_leastBelow_79 rfl ?_
      refine mr_iload (pc := 81) (z := z23) dX2_leastBelow_81 rfl ?_
      refine mr_ior (pc := 83) (x := z12) (y := z23) dX2_leastBelow_83 ?_
      refine mr_gen (P := fun z => (-2147483648) ≤ z ∧ z ≤ 2147483647) (r32i _) fun z38 q39 h40 => ?_
      exact mr_iret dX2_leastBelow_84 rfl (le_t rfl) (le_t rfl) T37 (mF.up (mF.call (mF.call mF.refl F10 rfl) F21 rfl) (A_87 hw) u36 rfl) ⟨h40, ((((((((h22.2.1 T20 F21) h22.1) z24 q25).1 h27) z29 q30 h31) z32 h33 h34) μ35 u36 T37) z38 q39), trivial⟩
    refine mr_iload (pc := 63) (z := z12) dX2_leastBelow_63 rfl ?_
    refine mr_iload (pc := 65) (z := z23) dX2_leastBelow_65 rfl ?_
    refine mr_iand (pc := 67) (x := z12) (y := z23) dX2_leastBelow_67 ?_
    refine mr_gen (P := fun z => (-2147483648) ≤ z ∧ z ≤ 2147483647) (r32i _) fun z41 q42 h43 => ?_
    exact mr_iret dX2_leastBelow_68 rfl (le_t rfl) (le_t rfl) T20 (mF.call (mF.call mF.refl F10 rfl) F21 rfl) ⟨h43, (((((h22.2.1 T20 F21) h22.1) z24 q25).2 h27) z41 q42), trivial⟩
  have h44 : 0 ≤ z5 ∧ z5 ≤ 0 := (vc_X12_ring_22 h6 h4.1)
  refine sv_aload_n (pc := 16) dX2_leastBelow_16 rfl rfl ?_
  refine mr_iload_n (pc := 17) (z := p1) dX2_leastBelow_17 rfl rfl ?_
  refine mr_iload_n (pc := 18) (z := p2) dX2_leastBelow_18 rfl rfl ?_
  refine mr_cVP (pc := 19) (c_X2_tieFor_W hw hT hp1 hp2 (vc_X9_end_1 hq0 hp1) ((h4.2.1 h4.1).2 h6)) (gOk _ _ _ _ _) dX2_leastBelow_19 (tX2_tieFor _ _ _ _ _) ⟨wV_X2_tieFor, wL_X2_tieFor⟩ wM_X2_60 (gCX2 _ _ _ _ _) rfl (A_87 hw) rfl ⟨le_t rfl, le_t rfl⟩ ⟨le_t rfl, le_t rfl⟩ rfl (le_t rfl) fun z49 h48 => ?_
  refine mr_cSP (pc := 22) (c_X2_aimBit_W hw hT h48.1 (h48.2.2.2.1 h48.1)) (gOk _ _ _ _ _) dX2_leastBelow_22 (tX2_aimBit _ _ _ _ _) wS_X2_aimBit wM_X2_110 ⟨le_t rfl, le_t rfl⟩ ⟨le_t rfl, le_t rfl⟩ rfl (le_t rfl) fun z54 h53 => ?_
  exact mr_iret dX2_leastBelow_25 rfl (le_t rfl) (le_t rfl) hT mF.refl ⟨h53.1, (h53.2.1 h53.1), trivial⟩
def WP_X2_leastBelow_W22 (w : mW) (μ : mM) (p1 : Int) (p2 : Int) (p3 : Int) (Q : Int → mM → Prop) : Prop := WP_X2_isSplit_W w μ p1 p2 p3 (fun z5 _ => (0 ≤ z5 ∧ z5 ≤ 1) → ((¬ z5 = 0) → WP_X2_leastBelow_W23 w μ p1 p2 (p3 + 1) (fun z12 μ8 => mT w μ8 → mF [87007] w μ μ8 → ((-2147483648) ≤ z12 ∧ z12 ≤ 2147483647) → ∀ z13 : Int, bShl (1 : Int) (31 - p3) = z13 → ∀ z16 : Int, bOr p2 z13 = z16 → WP_X2_leastBelow_W23 w μ8 p1 z16 (p3 + 1) (fun z23 μ19 => mT w μ19 → mF [87007] w μ8 μ19 → ((-2147483648) ≤ z23 ∧ z23 ≤ 2147483647) → ∀ z24 : Int, bAnd z12 z23 = z24 → ((z24 = 0) → ∀ z29 : Int, μ19 87 7 = z29 → ((-2147483648) ≤ z29 ∧ z29 ≤ 2147483647) → ∀ z32 : Int, (-2147483648 ≤ z32 ∧ z32 ≤ 2147483647) → (z32 - (z29 + 1)) % 4294967296 = 0 → ∀ μ35 : mM, mU μ19 87 (7) z32 μ35 → mT w μ35 → ∀ z38 : Int, bOr z12 z23 = z38 → Q z38 μ35) ∧ ((¬ z24 = 0) → ∀ z41 : Int, bAnd z12 z23 = z41 → Q z41 μ19)))) ∧ ((z5 = 0) → WP_X2_tieFor_W w μ p1 p2 (fun z49 _ => ((-99999999) ≤ z49 ∧ z49 ≤ 19) → WP_X2_aimBit_W w μ z49 (fun z54 _ => ((-2147483648) ≤ z54 ∧ z54 ≤ 2147483647) → Q z54 μ))))
theorem vc_X2_leastBelow_W22_1 {p3 : Int} (h0 : 32 ≤ p3) (h1 : 22 ≤ p3 ∧ p3 ≤ 22) : False := by omega
set_option maxRecDepth 4000 in
set_option maxHeartbeats 4000000 in
theorem c_X2_leastBelow_W22 {l : Launch} {D : va_G} {c : Nat → ClassId} {H0 : Heap} {sa : Nat × Nat × (Nat → Int32)} {w : mW} {μ : mM} (hw : mWF w) (hT : mT w μ) {p1 : Int} (hp1 : 0 ≤ p1 ∧ p1 ≤ 9) {p2 : Int} (hp2 : (-2147483648) ≤ p2 ∧ p2 ≤ 2147483647) {p3 : Int} (hp3 : 22 ≤ p3 ∧ p3 ≤ 22) (hq0 : p1 < w.2.2.2 0) {Q : Int → mM → Prop} (hQ : WP_X2_leastBelow_W22 w μ p1 p2 p3 Q) : sC (gG l D c H0 sa) mX2_leastBelow 13 0 0 [.ref 87, iv p1, iv p2, iv p3] (mk w μ) (qI w [87007] μ (fun z μ1 => ((-2147483648) ≤ z ∧ z ≤ 2147483647) ∧ Q z μ1 ∧ True)) := by
  refine sC.of rfl (by decide) (le_t rfl) ?_
  refine mr_lvE (lv' := [(0, .ref 87), (1, iv p1), (2, iv p2), (3, iv p3)]) rfl ?_
  refine mr_iload_n (pc := 0) (z := p3) dX2_leastBelow_0 rfl rfl ?_
  refine mr_bipush (pc := 1) (z := 32) dX2_leastBelow_1 (by decide) ?_
  refine mr_icmp_ge (pc := 3) (tgt := 16) dX2_leastBelow_3 (by decide) (r32 hp3 rfl) (r32 (rR (x := 32)) rfl) (fun h => ((vc_X2_leastBelow_W22_1 h hp3)).elim) (fun _ => ?_)
  refine sv_aload_n (pc := 6) dX2_leastBelow_6 rfl rfl ?_
  refine mr_iload_n (pc := 7) (z := p1) dX2_leastBelow_7 rfl rfl ?_
  refine mr_iload_n (pc := 8) (z := p2) dX2_leastBelow_8 rfl rfl ?_
  refine mr_iload_n (pc := 9) (z := p3) dX2_leastBelow_9 rfl rfl ?_
  refine mr_cVP (pc := 10) (c_X2_isSplit_W hw hT hp1 hp2 (rW (c := (-2147483648)) (d := 2147483647) hp3 rfl) (vc_X9_end_1 hq0 hp1) hQ) (gOk _ _ _ _ _) dX2_leastBelow_10 (tX2_isSplit _ _ _ _ _) ⟨wV_X2_isSplit, wL_X2_isSplit⟩ wM_X2_106 (gCX2 _ _ _ _ _) rfl (A_87 hw) rfl ⟨le_t rfl, le_t rfl⟩ ⟨le_t rfl, le_t rfl⟩ rfl (le_t rfl) fun z5 h4 => ?_
  refine mr_if_ne (pc := 13) (tgt := 26) dX2_leastBelow_13 (by decide) (r32 h4.1 rfl) (fun h6 => ?_) (fun h6 => ?_)
  · have h7 : 1 ≤ z5 ∧ z5 ≤ 1 := (vc_X12_ring_24 h6 h4.1)
    refine sv_aload_n (pc := 26) dX2_leastBelow_26 rfl rfl ?_
    refine mr_iload_n (pc := 27) (z := p1) dX2_leastBelow_27 rfl rfl ?_
    refine mr_iload_n (pc := 28) (z := p2) dX2_leastBelow_28 rfl rfl ?_
    refine mr_iload_n (pc := 29) (z := p3) dX2_leastBelow_29 rfl rfl ?_
    refine mr_iconst (pc := 30) (z := 1) dX2_leastBelow_30 ?_
    refine mr_iadd (pc := 31) (x := p3) (y := 1) dX2_leastBelow_31 ?_
    refine mr_cVI (pc := 32) (c_X2_leastBelow_W23 hw hT hp1 hp2 (rAdd (e := 23) (f := 23) hp3 (rR (x := 1)) rfl) (vc_X9_end_1 hq0 hp1) ((h4.2.1 h4.1).1 h6)) (gOk _ _ _ _ _) dX2_leastBelow_32 (tX2_leastBelow _ _ _ _ _) ⟨wV_X2_leastBelow, wL_X2_leastBelow⟩ wM_X2_101 (gCX2 _ _ _ _ _) rfl (A_87 hw) rfl ⟨le_t rfl, le_t rfl⟩ ⟨le_t rfl, le_t rfl⟩ rfl (le_t rfl) fun z12 μ8 T9 F10 h11 => ?_
    refine mr_istore (pc := 35) (lv' := [(4, iv z12), (0, .ref 87), (1, iv p1), (2, iv p2), (3, iv p3)]) dX2_leastBelow_35 (by decide) rfl ?_
    refine sv_aload_n (pc := 37) dX2_leastBelow_37 rfl rfl ?_
    refine mr_iload_n (pc := 38) (z := p1) dX2_leastBelow_38 rfl rfl ?_
    refine mr_iload_n (pc := 39) (z := p2) dX2_leastBelow_39 rfl rfl ?_
    refine mr_iconst (pc := 40) (z := 1) dX2_leastBelow_40 ?_
    refine mr_bipush (pc := 41) (z := 31) dX2_leastBelow_41 (by decide) ?_
    refine mr_iload_n (pc := 43) (z := p3) dX2_leastBelow_43 rfl rfl ?_
    refine mr_isub (pc := 44) (x := 31) (y := p3) dX2_leastBelow_44 ?_
    refine mr_ishl (pc := 45) (x := 1) (y := (31 - p3)) dX2_leastBelow_45 ?_
    refine mr_gen (P := fun z => (-2147483648) ≤ z ∧ z ≤ 2147483647) (r32i _) fun z13 q14 h15 => ?_
    refine mr_ior (pc := 46) (x := p2) (y := z13) dX2_leastBelow_46 ?_
    refine mr_gen (P := fun z => (-2147483648) ≤ z ∧ z ≤ 2147483647) (r32i _) fun z16 q17 h18 => ?_
    refine mr_iload_n (pc := 47) (z := p3) dX2_leastBelow_47 rfl rfl ?_
    refine mr_iconst (pc := 48) (z := 1) dX2_leastBelow_48 ?_
    refine mr_iadd (pc := 49) (x := p3) (y := 1) dX2_leastBelow_49 ?_
    refine mr_cVI (pc := 50) (c_X2_leastBelow_W23 hw T9 hp1 h18 (rAdd (e := 23) (f := 23) hp3 (rR (x := 1)) rfl) (vc_X9_end_1 hq0 hp1) ((((h11.2.1 T9 F10) h11.1) z13 q14) z16 q17)) (gOk _ _ _ _ _) dX2_leastBelow_50 (tX2_leastBelow _ _ _ _ _) ⟨wV_X2_leastBelow, wL_X2_leastBelow⟩ wM_X2_101 (gCX2 _ _ _ _ _) rfl (A_87 hw) rfl ⟨le_t rfl, le_t rfl⟩ ⟨le_t rfl, le_t rfl⟩ rfl (le_t rfl) fun z23 μ19 T20 F21 h22 => ?_
    refine mr_istore (pc := 53) (lv' := [(5, iv z23), (4, iv z12), (0, .ref 87), (1, iv p1), (2, iv p2), (3, iv p3)]) dX2_leastBelow_53 (by decide) rfl ?_
    refine mr_iload (pc := 55) (z := z12) dX2_leastBelow_55 rfl ?_
    refine mr_iload (pc := 57) (z := z23) dX2_leastBelow_57 rfl ?_
    refine mr_iand (pc := 59) (x := z12) (y := z23) dX2_leastBelow_59 ?_
    refine mr_gen (P := fun z => (-2147483648) ≤ z ∧ z ≤ 2147483647) (r32i _) fun z24 q25 h26 => ?_
    refine mr_if_eq (pc := 60) (tgt := 69) dX2_leastBelow_60 (by decide) h26 (fun h27 => ?_) (fun h27 => ?_)
    · have h28 : 0 ≤ z24 ∧ z24 ≤ 0 := (vc_X12_mask_1 h27 h26)
      refine sv_aload_n (pc := 69) dX2_leastBelow_69 rfl rfl ?_
      refine sv_dup (pc := 70) dX2_leastBelow_70 rfl ?_
      refine gf_X2_7 (pc := 71) dX2_leastBelow_71 wF_X2_98 (A_87 hw) T20 fun z29 q30 h31 => ?_
      refine mr_iconst (pc := 74) (z := 1) dX2_leastBelow_74 ?_
      refine mr_iadd (pc := 75) (x := z29) (y := 1) dX2_leastBelow_75 ?_
      refine mr_wrapF fun z32 h33 h34 => ?_
      refine pf_X2_7 (pc := 76) dX2_leastBelow_76 wF_X2_98 (A_87 hw) T20 h33 fun μ35 u36 T37 => ?_
      refine mr_iload (pc := 79) (z := z12) dX2_leastBelow_79 rfl ?_
      refine mr_iload (pc := 81) (z := z23) dX2_leastBelow_81 rfl ?_
      refine mr_ior (pc := 83) (x := z12) (y := z23) dX2_leastBelow_83 ?_
      refine mr_gen (P := fun z => (-2147483648) ≤ z ∧ z ≤ 2147483647) (r32i _) fun z38 q39 h40 => ?_
      exact mr_iret dX2_leastBelow_84 rfl (le_t rfl) (le_t rfl) T37 (mF.up (mF.call (mF.call mF.refl F10 rfl) F21 rfl) (A_87 hw) u36 rfl) ⟨h40, ((((((((h22.2.1 T20 F21) h22.1) z24 q25).1 h27) z29 q30 h31) z32 h33 h34) μ35 u36 T37) z38 q39), trivial⟩
    refine mr_iload (pc := 63) (z := z12) dX2_leastBelow_63 rfl ?_
    refine mr_iload (pc := 65) (z := z23) dX2_leastBelow_65 rfl ?_
    refine mr_iand (pc := 67) (x := z12) (y := z23) dX2_leastBelow_67 ?_
    refine mr_gen (P := fun z => (-2147483648) ≤ z ∧ z ≤ 2147483647) (r32i _) fun z41 q42 h43 => ?_
    exact mr_iret dX2_leastBelow_68 rfl (le_t rfl) (le_t rfl) T20 (mF.call (mF.call mF.refl F10 rfl) F21 rfl) ⟨h43, (((((h22.2.1 T20 F21) h22.1) z24 q25).2 h27) z41 q42), trivial⟩
  have h44 : 0 ≤ z5 ∧ z5 ≤ 0 := (vc_X12_ring_22 h6 h4.1)
  refine sv_aload_n (pc := 16) dX2_leastBelow_16 rfl rfl ?_
  refine mr_iload_n (pc := 17) (z := p1) dX2_leastBelow_17 rfl rfl ?_
  refine mr_iload_n (pc := 18) (z := p2) dX2_leastBelow_18 rfl rfl ?_
  refine mr_cVP (pc := 19) (c_X2_tieFor_W hw hT hp1 hp2 (vc_X9_end_1 hq0 hp1) ((h4.2.1 h4.1).2 h6)) (gOk _ _ _ _ _) dX2_leastBelow_19 (tX2_tieFor _ _ _ _ _) ⟨wV_X2_tieFor, wL_X2_tieFor⟩ wM_X2_60 (gCX2 _ _ _ _ _) rfl (A_87 hw) rfl ⟨le_t rfl, le_t rfl⟩ ⟨le_t rfl, le_t rfl⟩ rfl (le_t rfl) fun z49 h48 => ?_
  refine mr_cSP (pc := 22) (c_X2_aimBit_W hw hT h48.1 (h48.2.2.2.1 h48.1)) (gOk _ _ _ _ _) dX2_leastBelow_22 (tX2_aimBit _ _ _ _ _) wS_X2_aimBit wM_X2_110 ⟨le_t rfl, le_t rfl⟩ ⟨le_t rfl, le_t rfl⟩ rfl (le_t rfl) fun z54 h53 => ?_
  exact mr_iret dX2_leastBelow_25 rfl (le_t rfl) (le_t rfl) hT mF.refl ⟨h53.1, (h53.2.1 h53.1), trivial⟩
def WP_X2_leastBelow_W21 (w : mW) (μ : mM) (p1 : Int) (p2 : Int) (p3 : Int) (Q : Int → mM → Prop) : Prop := WP_X2_isSplit_W w μ p1 p2 p3 (fun z5 _ => (0 ≤ z5 ∧ z5 ≤ 1) → ((¬ z5 = 0) → WP_X2_leastBelow_W22 w μ p1 p2 (p3 + 1) (fun z12 μ8 => mT w μ8 → mF [87007] w μ μ8 → ((-2147483648) ≤ z12 ∧ z12 ≤ 2147483647) → ∀ z13 : Int, bShl (1 : Int) (31 - p3) = z13 → ∀ z16 : Int, bOr p2 z13 = z16 → WP_X2_leastBelow_W22 w μ8 p1 z16 (p3 + 1) (fun z23 μ19 => mT w μ19 → mF [87007] w μ8 μ19 → ((-2147483648) ≤ z23 ∧ z23 ≤ 2147483647) → ∀ z24 : Int, bAnd z12 z23 = z24 → ((z24 = 0) → ∀ z29 : Int, μ19 87 7 = z29 → ((-2147483648) ≤ z29 ∧ z29 ≤ 2147483647) → ∀ z32 : Int, (-2147483648 ≤ z32 ∧ z32 ≤ 2147483647) → (z32 - (z29 + 1)) % 4294967296 = 0 → ∀ μ35 : mM, mU μ19 87 (7) z32 μ35 → mT w μ35 → ∀ z38 : Int, bOr z12 z23 = z38 → Q z38 μ35) ∧ ((¬ z24 = 0) → ∀ z41 : Int, bAnd z12 z23 = z41 → Q z41 μ19)))) ∧ ((z5 = 0) → WP_X2_tieFor_W w μ p1 p2 (fun z49 _ => ((-99999999) ≤ z49 ∧ z49 ≤ 19) → WP_X2_aimBit_W w μ z49 (fun z54 _ => ((-2147483648) ≤ z54 ∧ z54 ≤ 2147483647) → Q z54 μ))))
theorem vc_X2_leastBelow_W21_1 {p3 : Int} (h0 : 32 ≤ p3) (h1 : 21 ≤ p3 ∧ p3 ≤ 21) : False := by omega
set_option maxRecDepth 4000 in
set_option maxHeartbeats 4000000 in
theorem c_X2_leastBelow_W21 {l : Launch} {D : va_G} {c : Nat → ClassId} {H0 : Heap} {sa : Nat × Nat × (Nat → Int32)} {w : mW} {μ : mM} (hw : mWF w) (hT : mT w μ) {p1 : Int} (hp1 : 0 ≤ p1 ∧ p1 ≤ 9) {p2 : Int} (hp2 : (-2147483648) ≤ p2 ∧ p2 ≤ 2147483647) {p3 : Int} (hp3 : 21 ≤ p3 ∧ p3 ≤ 21) (hq0 : p1 < w.2.2.2 0) {Q : Int → mM → Prop} (hQ : WP_X2_leastBelow_W21 w μ p1 p2 p3 Q) : sC (gG l D c H0 sa) mX2_leastBelow 14 0 0 [.ref 87, iv p1, iv p2, iv p3] (mk w μ) (qI w [87007] μ (fun z μ1 => ((-2147483648) ≤ z ∧ z ≤ 2147483647) ∧ Q z μ1 ∧ True)) := by
  refine sC.of rfl (by decide) (le_t rfl) ?_
  refine mr_lvE (lv' := [(0, .ref 87), (1, iv p1), (2, iv p2), (3, iv p3)]) rfl ?_
  refine mr_iload_n (pc := 0) (z := p3) dX2_leastBelow_0 rfl rfl ?_
  refine mr_bipush (pc := 1) (z := 32) dX2_leastBelow_1 (by decide) ?_
  refine mr_icmp_ge (pc := 3) (tgt := 16) dX2_leastBelow_3 (by decide) (r32 hp3 rfl) (r32 (rR (x := 32)) rfl) (fun h => ((vc_X2_leastBelow_W21_1 h hp3)).elim) (fun _ => ?_)
  refine sv_aload_n (pc := 6) dX2_leastBelow_6 rfl rfl ?_
  refine mr_iload_n (pc := 7) (z := p1) dX2_leastBelow_7 rfl rfl ?_
  refine mr_iload_n (pc := 8) (z := p2) dX2_leastBelow_8 rfl rfl ?_
  refine mr_iload_n (pc := 9) (z := p3) dX2_leastBelow_9 rfl rfl ?_
  refine mr_cVP (pc := 10) (c_X2_isSplit_W hw hT hp1 hp2 (rW (c := (-2147483648)) (d := 2147483647) hp3 rfl) (vc_X9_end_1 hq0 hp1) hQ) (gOk _ _ _ _ _) dX2_leastBelow_10 (tX2_isSplit _ _ _ _ _) ⟨wV_X2_isSplit, wL_X2_isSplit⟩ wM_X2_106 (gCX2 _ _ _ _ _) rfl (A_87 hw) rfl ⟨le_t rfl, le_t rfl⟩ ⟨le_t rfl, le_t rfl⟩ rfl (le_t rfl) fun z5 h4 => ?_
  refine mr_if_ne (pc := 13) (tgt := 26) dX2_leastBelow_13 (by decide) (r32 h4.1 rfl) (fun h6 => ?_) (fun h6 => ?_)
  · have h7 : 1 ≤ z5 ∧ z5 ≤ 1 := (vc_X12_ring_24 h6 h4.1)
    refine sv_aload_n (pc := 26) dX2_leastBelow_26 rfl rfl ?_
    refine mr_iload_n (pc := 27) (z := p1) dX2_leastBelow_27 rfl rfl ?_
    refine mr_iload_n (pc := 28) (z := p2) dX2_leastBelow_28 rfl rfl ?_
    refine mr_iload_n (pc := 29) (z := p3) dX2_leastBelow_29 rfl rfl ?_
    refine mr_iconst (pc := 30) (z := 1) dX2_leastBelow_30 ?_
    refine mr_iadd (pc := 31) (x := p3) (y := 1) dX2_leastBelow_31 ?_
    refine mr_cVI (pc := 32) (c_X2_leastBelow_W22 hw hT hp1 hp2 (rAdd (e := 22) (f := 22) hp3 (rR (x := 1)) rfl) (vc_X9_end_1 hq0 hp1) ((h4.2.1 h4.1).1 h6)) (gOk _ _ _ _ _) dX2_leastBelow_32 (tX2_leastBelow _ _ _ _ _) ⟨wV_X2_leastBelow, wL_X2_leastBelow⟩ wM_X2_101 (gCX2 _ _ _ _ _) rfl (A_87 hw) rfl ⟨le_t rfl, le_t rfl⟩ ⟨le_t rfl, le_t rfl⟩ rfl (le_t rfl) fun z12 μ8 T9 F10 h11 => ?_
    refine mr_istore (pc := 35) (lv' := [(4, iv z12), (0, .ref 87), (1, iv p1), (2, iv p2), (3, iv p3)]) dX2_leastBelow_35 (by decide) rfl ?_
    refine sv_aload_n (pc := 37) dX2_leastBelow_37 rfl rfl ?_
    refine mr_iload_n (pc := 38) (z := p1) dX2_leastBelow_38 rfl rfl ?_
    refine mr_iload_n (pc := 39) (z := p2) dX2_leastBelow_39 rfl rfl ?_
    refine mr_iconst (pc := 40) (z := 1) dX2_leastBelow_40 ?_
    refine mr_bipush (pc := 41) (z := 31) dX2_leastBelow_41 (by decide) ?_
    refine mr_iload_n (pc := 43) (z := p3) dX2_leastBelow_43 rfl rfl ?_
    refine mr_isub (pc := 44) (x := 31) (y := p3) dX2_leastBelow_44 ?_
    refine mr_ishl (pc := 45) (x := 1) (y := (31 - p3)) dX2_leastBelow_45 ?_
    refine mr_gen (P := fun z => (-2147483648) ≤ z ∧ z ≤ 2147483647) (r32i _) fun z13 q14 h15 => ?_
    refine mr_ior (pc := 46) (x := p2) (y := z13) dX2_leastBelow_46 ?_
    refine mr_gen (P := fun z => (-2147483648) ≤ z ∧ z ≤ 2147483647) (r32i _) fun z16 q17 h18 => ?_
    refine mr_iload_n (pc := 47) (z := p3) dX2_leastBelow_47 rfl rfl ?_
    refine mr_iconst (pc := 48) (z := 1) dX2_leastBelow_48 ?_
    refine mr_iadd (pc := 49) (x := p3) (y := 1) dX2_leastBelow_49 ?_
    refine mr_cVI (pc := 50) (c_X2_leastBelow_W22 hw T9 hp1 h18 (rAdd (e := 22) (f := 22) hp3 (rR (x := 1)) rfl) (vc_X9_end_1 hq0 hp1) ((((h11.2.1 T9 F10) h11.1) z13 q14) z16 q17)) (gOk _ _ _ _ _) dX2_leastBelow_50 (tX2_leastBelow _ _ _ _ _) ⟨wV_X2_leastBelow, wL_X2_leastBelow⟩ wM_X2_101 (gCX2 _ _ _ _ _) rfl (A_87 hw) rfl ⟨le_t rfl, le_t rfl⟩ ⟨le_t rfl, le_t rfl⟩ rfl (le_t rfl) fun z23 μ19 T20 F21 h22 => ?_
    refine mr_istore (pc := 53) (lv' := [(5, iv z23), (4, iv z12), (0, .ref 87), (1, iv p1), (2, iv p2), (3, iv p3)]) dX2_leastBelow_53 (by decide) rfl ?_
    refine mr_iload (pc := 55) (z := z12) dX2_leastBelow_55 rfl ?_
    refine mr_iload (pc := 57) (z := z23) dX2_leastBelow_57 rfl ?_
    refine mr_iand (pc := 59) (x := z12) (y := z23) dX2_leastBelow_59 ?_
    refine mr_gen (P := fun z => (-2147483648) ≤ z ∧ z ≤ 2147483647) (r32i _) fun z24 q25 h26 => ?_
    refine mr_if_eq (pc := 60) (tgt := 69) dX2_leastBelow_60 (by decide) h26 (fun h27 => ?_) (fun h27 => ?_)
    · have h28 : 0 ≤ z24 ∧ z24 ≤ 0 := (vc_X12_mask_1 h27 h26)
      refine sv_aload_n (pc := 69) dX2_leastBelow_69 rfl rfl ?_
      refine sv_dup (pc := 70) dX2_leastBelow_70 rfl ?_
      refine gf_X2_7 (pc := 71) dX2_leastBelow_71 wF_X2_98 (A_87 hw) T20 fun z29 q30 h31 => ?_
      refine mr_iconst (pc := 74) (z := 1) dX2_leastBelow_74 ?_
      refine mr_iadd (pc := 75) (x := z29) (y := 1) dX2_leastBelow_75 ?_
      refine mr_wrapF fun z32 h33 h34 => ?_
      refine pf_X2_7 (pc := 76) dX2_leastBelow_76 wF_X2_98 (A_87 hw) T20 h33 fun μ35 u36 T37 => ?_
      refine mr_iload (pc := 79) (z := z12) dX2_leastBelow_79 rfl ?_
      refine mr_iload (pc := 81) (z := z23) dX2_leastBelow_81 rfl ?_
      refine mr_ior (pc := 83) (x := z12) (y := z23) dX2_leastBelow_83 ?_
      refine mr_gen (P := fun z => (-2147483648) ≤ z ∧ z ≤ 2147483647) (r32i _) fun z38 q39 h40 => ?_
      exact mr_iret dX2_leastBelow_84 rfl (le_t rfl) (le_t rfl) T37 (mF.up (mF.call (mF.call mF.refl F10 rfl) F21 rfl) (A_87 hw) u36 rfl) ⟨h40, ((((((((h22.2.1 T20 F21) h22.1) z24 q25).1 h27) z29 q30 h31) z32 h33 h34) μ35 u36 T37) z38 q39), trivial⟩
    refine mr_iload (pc := 63) (z := z12) dX2_leastBelow_63 rfl ?_
    refine mr_iload (pc := 65) (z := z23) dX2_leastBelow_65 rfl ?_
    refine mr_iand (pc := 67) (x := z12) (y := z23) dX2_leastBelow_67 ?_
    refine mr_gen (P := fun z => (-2147483648) ≤ z ∧ z ≤ 2147483647) (r32i _) fun z41 q42 h43 => ?_
    exact mr_iret dX2_leastBelow_68 rfl (le_t rfl) (le_t rfl) T20 (mF.call (mF.call mF.refl F10 rfl) F21 rfl) ⟨h43, (((((h22.2.1 T20 F21) h22.1) z24 q25).2 h27) z41 q42), trivial⟩
  have h44 : 0 ≤ z5 ∧ z5 ≤ 0 := (vc_X12_ring_22 h6 h4.1)
  refine sv_aload_n (pc := 16) dX2_leastBelow_16 rfl rfl ?_
  refine mr_iload_n (pc := 17) (z := p1) dX2_leastBelow_17 rfl rfl ?_
  refine mr_iload_n (pc := 18) (z := p2) dX2_leastBelow_18 rfl rfl ?_
  refine mr_cVP (pc := 19) (c_X2_tieFor_W hw hT hp1 hp2 (vc_X9_end_1 hq0 hp1) ((h4.2.1 h4.1).2 h6)) (gOk _ _ _ _ _) dX2_leastBelow_19 (tX2_tieFor _ _ _ _ _) ⟨wV_X2_tieFor, wL_X2_tieFor⟩ wM_X2_60 (gCX2 _ _ _ _ _) rfl (A_87 hw) rfl ⟨le_t rfl, le_t rfl⟩ ⟨le_t rfl, le_t rfl⟩ rfl (le_t rfl) fun z49 h48 => ?_
  refine mr_cSP (pc := 22) (c_X2_aimBit_W hw hT h48.1 (h48.2.2.2.1 h48.1)) (gOk _ _ _ _ _) dX2_leastBelow_22 (tX2_aimBit _ _ _ _ _) wS_X2_aimBit wM_X2_110 ⟨le_t rfl, le_t rfl⟩ ⟨le_t rfl, le_t rfl⟩ rfl (le_t rfl) fun z54 h53 => ?_
  exact mr_iret dX2_leastBelow_25 rfl (le_t rfl) (le_t rfl) hT mF.refl ⟨h53.1, (h53.2.1 h53.1), trivial⟩
def WP_X2_leastBelow_W20 (w : mW) (μ : mM) (p1 : Int) (p2 : Int) (p3 : Int) (Q : Int → mM → Prop) : Prop := WP_X2_isSplit_W w μ p1 p2 p3 (fun z5 _ => (0 ≤ z5 ∧ z5 ≤ 1) → ((¬ z5 = 0) → WP_X2_leastBelow_W21 w μ p1 p2 (p3 + 1) (fun z12 μ8 => mT w μ8 → mF [87007] w μ μ8 → ((-2147483648) ≤ z12 ∧ z12 ≤ 2147483647) → ∀ z13 : Int, bShl (1 : Int) (31 - p3) = z13 → ∀ z16 : Int, bOr p2 z13 = z16 → WP_X2_leastBelow_W21 w μ8 p1 z16 (p3 + 1) (fun z23 μ19 => mT w μ19 → mF [87007] w μ8 μ19 → ((-2147483648) ≤ z23 ∧ z23 ≤ 2147483647) → ∀ z24 : Int, bAnd z12 z23 = z24 → ((z24 = 0) → ∀ z29 : Int, μ19 87 7 = z29 → ((-2147483648) ≤ z29 ∧ z29 ≤ 2147483647) → ∀ z32 : Int, (-2147483648 ≤ z32 ∧ z32 ≤ 2147483647) → (z32 - (z29 + 1)) % 4294967296 = 0 → ∀ μ35 : mM, mU μ19 87 (7) z32 μ35 → mT w μ35 → ∀ z38 : Int, bOr z12 z23 = z38 → Q z38 μ35) ∧ ((¬ z24 = 0) → ∀ z41 : Int, bAnd z12 z23 = z41 → Q z41 μ19)))) ∧ ((z5 = 0) → WP_X2_tieFor_W w μ p1 p2 (fun z49 _ => ((-99999999) ≤ z49 ∧ z49 ≤ 19) → WP_X2_aimBit_W w μ z49 (fun z54 _ => ((-2147483648) ≤ z54 ∧ z54 ≤ 2147483647) → Q z54 μ))))
theorem vc_X2_leastBelow_W20_1 {p3 : Int} (h0 : 32 ≤ p3) (h1 : 20 ≤ p3 ∧ p3 ≤ 20) : False := by omega
set_option maxRecDepth 4000 in
set_option maxHeartbeats 4000000 in
theorem c_X2_leastBelow_W20 {l : Launch} {D : va_G} {c : Nat → ClassId} {H0 : Heap} {sa : Nat × Nat × (Nat → Int32)} {w : mW} {μ : mM} (hw : mWF w) (hT : mT w μ) {p1 : Int} (hp1 : 0 ≤ p1 ∧ p1 ≤ 9) {p2 : Int} (hp2 : (-2147483648) ≤ p2 ∧ p2 ≤ 2147483647) {p3 : Int} (hp3 : 20 ≤ p3 ∧ p3 ≤ 20) (hq0 : p1 < w.2.2.2 0) {Q : Int → mM → Prop} (hQ : WP_X2_leastBelow_W20 w μ p1 p2 p3 Q) : sC (gG l D c H0 sa) mX2_leastBelow 15 0 0 [.ref 87, iv p1, iv p2, iv p3] (mk w μ) (qI w [87007] μ (fun z μ1 => ((-2147483648) ≤ z ∧ z ≤ 2147483647) ∧ Q z μ1 ∧ True)) := by
  refine sC.of rfl (by decide) (le_t rfl) ?_
  refine mr_lvE (lv' := [(0, .ref 87), (1, iv p1), (2, iv p2), (3, iv p3)]) rfl ?_
  refine mr_iload_n (pc := 0) (z := p3) dX2_leastBelow_0 rfl rfl ?_
  refine mr_bipush (pc := 1) (z := 32) dX2_leastBelow_1 (by decide) ?_
  refine mr_icmp_ge (pc := 3) (tgt := 16) dX2_leastBelow_3 (by decide) (r32 hp3 rfl) (r32 (rR (x := 32)) rfl) (fun h => ((vc_X2_leastBelow_W20_1 h hp3)).elim) (fun _ => ?_)
  refine sv_aload_n (pc := 6) dX2_leastBelow_6 rfl rfl ?_
  refine mr_iload_n (pc := 7) (z := p1) dX2_leastBelow_7 rfl rfl ?_
  refine mr_iload_n (pc := 8) (z := p2) dX2_leastBelow_8 rfl rfl ?_
  refine mr_iload_n (pc := 9) (z := p3) dX2_leastBelow_9 rfl rfl ?_
  refine mr_cVP (pc := 10) (c_X2_isSplit_W hw hT hp1 hp2 (rW (c := (-2147483648)) (d := 2147483647) hp3 rfl) (vc_X9_end_1 hq0 hp1) hQ) (gOk _ _ _ _ _) dX2_leastBelow_10 (tX2_isSplit _ _ _ _ _) ⟨wV_X2_isSplit, wL_X2_isSplit⟩ wM_X2_106 (gCX2 _ _ _ _ _) rfl (A_87 hw) rfl ⟨le_t rfl, le_t rfl⟩ ⟨le_t rfl, le_t rfl⟩ rfl (le_t rfl) fun z5 h4 => ?_
  refine mr_if_ne (pc := 13) (tgt := 26) dX2_leastBelow_13 (by decide) (r32 h4.1 rfl) (fun h6 => ?_) (fun h6 => ?_)
  · have h7 : 1 ≤ z5 ∧ z5 ≤ 1 := (vc_X12_ring_24 h6 h4.1)
    refine sv_aload_n (pc := 26) dX2_leastBelow_26 rfl rfl ?_
    refine mr_iload_n (pc := 27) (z := p1) dX2_leastBelow_27 rfl rfl ?_
    refine mr_iload_n (pc := 28) (z := p2) dX2_leastBelow_28 rfl rfl ?_
    refine mr_iload_n (pc := 29) (z := p3) dX2_leastBelow_29 rfl rfl ?_
    refine mr_iconst (pc := 30) (z := 1) dX2_leastBelow_30 ?_
    refine mr_iadd (pc := 31) (x := p3) (y := 1) dX2_leastBelow_31 ?_
    refine mr_cVI (pc := 32) (c_X2_leastBelow_W21 hw hT hp1 hp2 (rAdd (e := 21) (f := 21) hp3 (rR (x := 1)) rfl) (vc_X9_end_1 hq0 hp1) ((h4.2.1 h4.1).1 h6)) (gOk _ _ _ _ _) dX2_leastBelow_32 (tX2_leastBelow _ _ _ _ _) ⟨wV_X2_leastBelow, wL_X2_leastBelow⟩ wM_X2_101 (gCX2 _ _ _ _ _) rfl (A_87 hw) rfl ⟨le_t rfl, le_t rfl⟩ ⟨le_t rfl, le_t rfl⟩ rfl (le_t rfl) fun z12 μ8 T9 F10 h11 => ?_
    refine mr_istore (pc := 35) (lv' := [(4, iv z12), (0, .ref 87), (1, iv p1), (2, iv p2), (3, iv p3)]) dX2_leastBelow_35 (by decide) rfl ?_
    refine sv_aload_n (pc := 37) dX2_leastBelow_37 rfl rfl ?_
    refine mr_iload_n (pc := 38) (z := p1) dX2_leastBelow_38 rfl rfl ?_
    refine mr_iload_n (pc := 39) (z := p2) dX2_leastBelow_39 rfl rfl ?_
    refine mr_iconst (pc := 40) (z := 1) dX2_leastBelow_40 ?_
    refine mr_bipush (pc := 41) (z := 31) dX2_leastBelow_41 (by decide) ?_
    refine mr_iload_n (pc := 43) (z := p3) dX2_leastBelow_43 rfl rfl ?_
    refine mr_isub (pc := 44) (x := 31) (y := p3) dX2_leastBelow_44 ?_
    refine mr_ishl (pc := 45) (x := 1) (y := (31 - p3)) dX2_leastBelow_45 ?_
    refine mr_gen (P := fun z => (-2147483648) ≤ z ∧ z ≤ 2147483647) (r32i _) fun z13 q14 h15 => ?_
    refine mr_ior (pc := 46) (x := p2) (y := z13) dX2_leastBelow_46 ?_
    refine mr_gen (P := fun z => (-2147483648) ≤ z ∧ z ≤ 2147483647) (r32i _) fun z16 q17 h18 => ?_
    refine mr_iload_n (pc := 47) (z := p3) dX2_leastBelow_47 rfl rfl ?_
    refine mr_iconst (pc := 48) (z := 1) dX2_leastBelow_48 ?_
    refine mr_iadd (pc := 49) (x := p3) (y := 1) dX2_leastBelow_49 ?_
    refine mr_cVI (pc := 50) (c_X2_leastBelow_W21 hw T9 hp1 h18 (rAdd (e := 21) (f := 21) hp3 (rR (x := 1)) rfl) (vc_X9_end_1 hq0 hp1) ((((h11.2.1 T9 F10) h11.1) z13 q14) z16 q17)) (gOk _ _ _ _ _) dX2_leastBelow_50 (tX2_leastBelow _ _ _ _ _) ⟨wV_X2_leastBelow, wL_X2_leastBelow⟩ wM_X2_101 (gCX2 _ _ _ _ _) rfl (A_87 hw) rfl ⟨le_t rfl, le_t rfl⟩ ⟨le_t rfl, le_t rfl⟩ rfl (le_t rfl) fun z23 μ19 T20 F21 h22 => ?_
    refine mr_istore (pc := 53) (lv' := [(5, iv z23), (4, iv z12), (0, .ref 87), (1, iv p1), (2, iv p2), (3, iv p3)]) dX2_leastBelow_53 (by decide) rfl ?_
    refine mr_iload (pc := 55) (z := z12) dX2_leastBelow_55 rfl ?_
    refine mr_iload (pc := 57) (z := z23) dX2_leastBelow_57 rfl ?_
    refine mr_iand (pc := 59) (x := z12) (y := z23) dX2_leastBelow_59 ?_
    refine mr_gen (P := fun z => (-2147483648) ≤ z ∧ z ≤ 2147483647) (r32i _) fun z24 q25 h26 => ?_
    refine mr_if_eq (pc := 60) (tgt := 69) dX2_leastBelow_60 (by decide) h26 (fun h27 => ?_) (fun h27 => ?_)
    · have h28 : 0 ≤ z24 ∧ z24 ≤ 0 := (vc_X12_mask_1 h27 h26)
      refine sv_aload_n (pc := 69) dX2_leastBelow_69 rfl rfl ?_
      refine sv_dup (pc := 70) dX2_leastBelow_70 rfl ?_
      refine gf_X2_7 (pc := 71) dX2_leastBelow_71 wF_X2_98 (A_87 hw) T20 fun z29 q30 h31 => ?_
      refine mr_iconst (pc := 74) (z := 1) dX2_leastBelow_74 ?_
      refine mr_iadd (pc := 75) (x := z29) (y := 1) dX2_leastBelow_75 ?_
      refine mr_wrapF fun z32 h33 h34 => ?_
      refine pf_X2_7 (pc := 76) dX2_leastBelow_76 wF_X2_98 (A_87 hw) T20 h33 fun μ35 u36 T37 => ?_
      refine mr_iload (pc := 79) (z := z12) dX2_leastBelow_79 rfl ?_
      refine mr_iload (pc := 81) (z := z23) dX2_leastBelow_81 rfl ?_
      refine mr_ior (pc := 83) (x := z12) (y := z23) dX2_leastBelow_83 ?_
      refine mr_gen (P := fun z => (-2147483648) ≤ z ∧ z ≤ 2147483647) (r32i _) fun z38 q39 h40 => ?_
      exact mr_iret dX2_leastBelow_84 rfl (le_t rfl) (le_t rfl) T37 (mF.up (mF.call (mF.call mF.refl F10 rfl) F21 rfl) (A_87 hw) u36 rfl) ⟨h40, ((((((((h22.2.1 T20 F21) h22.1) z24 q25).1 h27) z29 q30 h31) z32 h33 h34) μ35 u36 T37) z38 q39), trivial⟩
    refine mr_iload (pc := 63) (z := z12) dX2_leastBelow_63 rfl ?_
    refine mr_iload (pc := 65) (z := z23) dX2_leastBelow_65 rfl ?_
    refine mr_iand (pc := 67) (x := z12) (y := z23) dX2_leastBelow_67 ?_
    refine mr_gen (P := fun z => (-2147483648) ≤ z ∧ z ≤ 2147483647) (r32i _) fun z41 q42 h43 => ?_
    exact mr_iret dX2_leastBelow_68 rfl (le_t rfl) (le_t rfl) T20 (mF.call (mF.call mF.refl F10 rfl) F21 rfl) ⟨h43, (((((h22.2.1 T20 F21) h22.1) z24 q25).2 h27) z41 q42), trivial⟩
  have h44 : 0 ≤ z5 ∧ z5 ≤ 0 := (vc_X12_ring_22 h6 h4.1)
  refine sv_aload_n (pc := 16) dX2_leastBelow_16 rfl rfl ?_
  refine mr_iload_n (pc := 17) (z := p1) dX2_leastBelow_17 rfl rfl ?_
  refine mr_iload_n (pc := 18) (z := p2) dX2_leastBelow_18 rfl rfl ?_
  refine mr_cVP (pc := 19) (c_X2_tieFor_W hw hT hp1 hp2 (vc_X9_end_1 hq0 hp1) ((h4.2.1 h4.1).2 h6)) (gOk _ _ _ _ _) dX2_leastBelow_19 (tX2_tieFor _ _ _ _ _) ⟨wV_X2_tieFor, wL_X2_tieFor⟩ wM_X2_60 (gCX2 _ _ _ _ _) rfl (A_87 hw) rfl ⟨le_t rfl, le_t rfl⟩ ⟨le_t rfl, le_t rfl⟩ rfl (le_t rfl) fun z49 h48 => ?_
  refine mr_cSP (pc := 22) (c_X2_aimBit_W hw hT h48.1 (h48.2.2.2.1 h48.1)) (gOk _ _ _ _ _) dX2_leastBelow_22 (tX2_aimBit _ _ _ _ _) wS_X2_aimBit wM_X2_110 ⟨le_t rfl, le_t rfl⟩ ⟨le_t rfl, le_t rfl⟩ rfl (le_t rfl) fun z54 h53 => ?_
  exact mr_iret dX2_leastBelow_25 rfl (le_t rfl) (le_t rfl) hT mF.refl ⟨h53.1, (h53.2.1 h53.1), trivial⟩
