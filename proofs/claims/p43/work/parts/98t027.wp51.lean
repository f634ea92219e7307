def WP_X11_write_W (w : mW) (μ : mM) (p1 : Int) (p2 : Int) (p3 : Int) (Q : Int → mM → Prop) : Prop := ∀ z1 : Int, μ 6 16 = z1 → (z1 = w.2.2.2 1 ∧ 0 ≤ z1 ∧ z1 ≤ 20) → WP_X11_isTie_W w μ p1 (fun z8 _ => (0 ≤ z8 ∧ z8 ≤ 1) → ((z8 = 0) → Q ((-1) : Int) μ) ∧ ((¬ z8 = 0) → WP_X11_isEither_W w μ p2 (fun z20 _ => (0 ≤ z20 ∧ z20 ≤ 1) → ((z20 = 0) → Q ((-1) : Int) μ) ∧ ((¬ z20 = 0) → ∀ z27 : Int, μ 6 14 = z27 → (0 ≤ z27 ∧ z27 ≤ 10) → WP_X11_isPrefix_W w μ p3 (fun z34 _ => (0 ≤ z34 ∧ z34 ≤ 1) → ((¬ z34 = 0) → ∀ b40 : Nat, μ 11 (p1.toNat) = (b40 : Int) → mAt w b40 220 → WP_X9_placeOf_W w μ p2 p3 (fun z48 _ => (0 ≤ z48 ∧ z48 ≤ 19) → ∀ b49 : Nat, μ (b40 + 3) (z48.toNat) = (b49 : Int) → mAt w b49 200 → ∀ z52 : Int, μ 7 (p3.toNat) = z52 → ((-2147483648) ≤ z52 ∧ z52 ≤ 2147483647) → ∀ z55 : Int, μ 8 (p3.toNat) = z55 → (0 ≤ z55 ∧ z55 ≤ 32) → WP_X3_putDown_W w μ b49 z52 z55 (fun z62 μ58 => mT w μ58 → mF [76015, 86999] w μ μ58 → ((-2147483648) ≤ z62 ∧ z62 ≤ 2147483647) → Q z62 μ58))) ∧ ((z34 = 0) → Q ((-1) : Int) μ))))))
def WP_X12_octet1_W (w : mW) (μ : mM) (p1 : Int) (Q : mM → Prop) : Prop := ∀ f_w : Int, μ 106 104 = f_w → (0 ≤ f_w ∧ f_w ≤ 300) → ∀ z29 : Int, bAnd p1 (255 : Int) = z29 → ∀ μ32 : mM, mU μ 174 (f_w.toNat) z29 μ32 → mT w μ32 → ∀ μ35 : mM, mU μ32 106 (104) (f_w + 1) μ35 → mT w μ35 → Q μ35
def WL_X12_prefixOut_W_1 (w : mW) (p1 : Int) (Q : mM → Prop) (z263 : Int) (μ266 : mM) (rec1 : (Int × mM) → Prop) (s : (Int × mM)) : Prop := ∀ z400 : Int, ∀ μ401 : mM, s = (z400, μ401) → (0 ≤ z400 ∧ z400 ≤ 4) → mT w μ401 → mF [106104, 174999] w μ266 μ401 → ∀ f_w : Int, μ401 106 (104) = f_w → (0 ≤ f_w ∧ f_w ≤ 300) → ∀ z414 : Int, (z263 + 7) / 8 = z414 → ((z414 ≤ z400) → Q μ401) ∧ ((z400 < z414) → ∀ z437 : Int, μ401 108 (p1.toNat) = z437 → ((-2147483648) ≤ z437 ∧ z437 ≤ 2147483647) → ∀ z440 : Int, bShr z437 (24 - (8 * z400)) = z440 → WP_X12_octet1_W w μ401 z440 (fun μ443 => mT w μ443 → mF [106104, 174999] w μ401 μ443 → ∀ z448 : Int, μ443 106 104 = z448 → rec1 ((z400 + 1), μ443)))
def WP_X12_prefixOut_W (w : mW) (μ : mM) (p1 : Int) (Q : mM → Prop) : Prop := ∀ f_w0 : Int, μ 106 104 = f_w0 → (0 ≤ f_w0 ∧ f_w0 ≤ 300) → ∀ z263 : Int, μ 109 (p1.toNat) = z263 → (0 ≤ z263 ∧ z263 ≤ 32) → WP_X12_octet1_W w μ z263 (fun μ266 => mT w μ266 → mF [106104, 174999] w μ μ266 → ∀ z270 : Int, μ266 106 104 = z270 → loopF (WL_X12_prefixOut_W_1 w p1 Q z263 μ266) False 6 ((0 : Int), μ266))
def WL_X12_octet4_W_1 (w : mW) (μ : mM) (p1 : Int) (Q : mM → Prop) (rec1 : (Int × mM) → Prop) (s : (Int × mM)) : Prop := ∀ z310 : Int, ∀ μ311 : mM, s = (z310, μ311) → ((-8) ≤ z310 ∧ z310 ≤ 24) → mT w μ311 → mF [106104, 174999] w μ μ311 → ∀ f_w : Int, μ311 106 (104) = f_w → (0 ≤ f_w ∧ f_w ≤ 300) → ((z310 < 0) → Q μ311) ∧ ((0 ≤ z310) → ∀ z340 : Int, bShr p1 z310 = z340 → WP_X12_octet1_W w μ311 z340 (fun μ343 => mT w μ343 → mF [106104, 174999] w μ311 μ343 → ∀ z347 : Int, μ343 106 104 = z347 → rec1 ((z310 + (-8)), μ343)))
def WP_X12_octet4_W (w : mW) (μ : mM) (p1 : Int) (Q : mM → Prop) : Prop := ∀ f_w0 : Int, μ 106 104 = f_w0 → (0 ≤ f_w0 ∧ f_w0 ≤ 300) → loopF (WL_X12_octet4_W_1 w μ p1 Q) False 34 ((24 : Int), μ)
def WL_X12_write_W_6 (w : mW) (p3 : Int) (Q : Int → mM → Prop) (z44 : Int) (z59 : Int) (μ401 : mM) (rec6 : (Int × mM) → Prop) (s : (Int × mM)) : Prop := ∀ z660 : Int, ∀ μ661 : mM, s = (z660, μ661) → (0 ≤ z660 ∧ z660 ≤ 8) → mT w μ661 → mF [106104, 174999] w μ401 μ661 → ∀ f_w : Int, μ661 106 (104) = f_w → (0 ≤ f_w ∧ f_w ≤ 300) → ((z59 ≤ z660) → WP_X12_prefixOut_W w μ661 p3 (fun μ689 => mT w μ689 → mF [106104, 174999] w μ661 μ689 → ∀ z693 : Int, μ689 106 104 = z693 → Q z693 μ689)) ∧ ((z660 < z59) → ∀ z698 : Int, μ661 126 ((((40 * (530 + z44)) + 26) + z660).toNat) = z698 → ((-2147483648 ≤ z698 ∧ z698 ≤ 2147483647) ∧ ((((40 * (530 + z44)) + 26) + z660) % 40 = 0 → -1 ≤ z698 ∧ z698 ≤ 9) ∧ ((((40 * (530 + z44)) + 26) + z660) % 40 = 4 → 0 ≤ z698 ∧ z698 ≤ 20) ∧ ((((40 * (530 + z44)) + 26) + z660) % 40 = 5 → 0 ≤ z698 ∧ z698 ≤ 8)) → WP_X12_octet4_W w μ661 z698 (fun μ701 => mT w μ701 → mF [106104, 174999] w μ661 μ701 → ∀ z705 : Int, μ701 106 104 = z705 → rec6 ((z660 + 1), μ701)))
def WJ_X12_write_W_5 (w : mW) (p3 : Int) (Q : Int → mM → Prop) (z44 : Int) (z59 : Int) (μ245 : mM) (μ295 : mM) : Prop := mT w μ295 → mF [106104, 174999] w μ245 μ295 → ∀ z302 : Int, μ295 106 104 = z302 → (0 ≤ z302 ∧ z302 ≤ 300) → ((z59 ≤ 0) → WP_X12_prefixOut_W w μ295 p3 (fun μ374 => mT w μ374 → mF [106104, 174999] w μ295 μ374 → ∀ z378 : Int, μ374 106 104 = z378 → Q z378 μ374)) ∧ ((0 < z59) → WP_X12_octet1_W w μ295 (192) (fun μ383 => mT w μ383 → mF [106104, 174999] w μ295 μ383 → ∀ z387 : Int, μ383 106 104 = z387 → WP_X12_octet1_W w μ383 (8) (fun μ392 => mT w μ392 → mF [106104, 174999] w μ383 μ392 → ∀ z396 : Int, μ392 106 104 = z396 → WP_X12_octet1_W w μ392 (4 * z59) (fun μ401 => mT w μ401 → mF [106104, 174999] w μ392 μ401 → ∀ z405 : Int, μ401 106 104 = z405 → loopF (WL_X12_write_W_6 w p3 Q z44 z59 μ401) False 10 ((0 : Int), μ401)))))
def WJ_X12_write_W_4 (w : mW) (p3 : Int) (Q : Int → mM → Prop) (z44 : Int) (z59 : Int) (z69 : Int) (μ180 : mM) (μ245 : mM) : Prop := mT w μ245 → mF [106104, 174999] w μ180 μ245 → ∀ z252 : Int, μ245 106 104 = z252 → (0 ≤ z252 ∧ z252 ≤ 300) → ((z69 ≤ 0) → (WJ_X12_write_W_5 w p3 Q z44 z59 μ245) μ245) ∧ ((0 < z69) → WP_X12_octet1_W w μ245 (128) (fun μ713 => mT w μ713 → mF [106104, 174999] w μ245 μ713 → ∀ z717 : Int, μ713 106 104 = z717 → WP_X12_octet1_W w μ713 (4) (fun μ722 => mT w μ722 → mF [106104, 174999] w μ713 μ722 → ∀ z726 : Int, μ722 106 104 = z726 → WP_X12_octet1_W w μ722 (4) (fun μ731 => mT w μ731 → mF [106104, 174999] w μ722 μ731 → ∀ z735 : Int, μ731 106 104 = z735 → WP_X12_octet4_W w μ731 z69 (fun μ740 => mT w μ740 → mF [106104, 174999] w μ731 μ740 → ∀ z744 : Int, μ740 106 104 = z744 → (WJ_X12_write_W_5 w p3 Q z44 z59 μ245) μ740)))))
def WL_X12_write_W_7 (w : mW) (p3 : Int) (Q : Int → mM → Prop) (z44 : Int) (z55 : Int) (z59 : Int) (z69 : Int) (μ180 : mM) (μ761 : mM) (rec7 : (Int × mM) → Prop) (s : (Int × mM)) : Prop := ∀ z1020 : Int, ∀ μ1021 : mM, s = (z1020, μ1021) → (0 ≤ z1020 ∧ z1020 ≤ 20) → mT w μ1021 → mF [106104, 174999] w μ761 μ1021 → ∀ f_w : Int, μ1021 106 (104) = f_w → (0 ≤ f_w ∧ f_w ≤ 300) → ((z55 ≤ z1020) → (WJ_X12_write_W_4 w p3 Q z44 z59 z69 μ180) μ1021) ∧ ((z1020 < z55) → ∀ z1036 : Int, μ1021 126 ((((40 * (530 + z44)) + 6) + z1020).toNat) = z1036 → ((-2147483648 ≤ z1036 ∧ z1036 ≤ 2147483647) ∧ ((((40 * (530 + z44)) + 6) + z1020) % 40 = 0 → -1 ≤ z1036 ∧ z1036 ≤ 9) ∧ ((((40 * (530 + z44)) + 6) + z1020) % 40 = 4 → 0 ≤ z1036 ∧ z1036 ≤ 20) ∧ ((((40 * (530 + z44)) + 6) + z1020) % 40 = 5 → 0 ≤ z1036 ∧ z1036 ≤ 8)) → WP_X12_octet4_W w μ1021 z1036 (fun μ1039 => mT w μ1039 → mF [106104, 174999] w μ1021 μ1039 → ∀ z1043 : Int, μ1039 106 104 = z1043 → rec7 ((z1020 + 1), μ1039)))
def WJ_X12_write_W_3 (w : mW) (p3 : Int) (Q : Int → mM → Prop) (z44 : Int) (μ46 : mM) (z55 : Int) (z59 : Int) (z65 : Int) (z69 : Int) (z74 : Int) (z80 : Int) : Prop := (0 ≤ z80 ∧ z80 ≤ 35) → WP_X12_octet1_W w μ46 (0) (fun μ84 => mT w μ84 → mF [106104, 174999] w μ46 μ84 → ∀ z88 : Int, μ84 106 104 = z88 → WP_X12_octet1_W w μ84 (0) (fun μ93 => mT w μ93 → mF [106104, 174999] w μ84 μ93 → ∀ z97 : Int, μ93 106 104 = z97 → ∀ z102 : Int, bShr (((7 + z65) + z74) + z80) (8 : Int) = z102 → WP_X12_octet1_W w μ93 z102 (fun μ105 => mT w μ105 → mF [106104, 174999] w μ93 μ105 → ∀ z109 : Int, μ105 106 104 = z109 → WP_X12_octet1_W w μ105 (((7 + z65) + z74) + z80) (fun μ114 => mT w μ114 → mF [106104, 174999] w μ105 μ114 → ∀ z118 : Int, μ114 106 104 = z118 → WP_X12_octet1_W w μ114 (64) (fun μ123 => mT w μ123 → mF [106104, 174999] w μ114 μ123 → ∀ z127 : Int, μ123 106 104 = z127 → WP_X12_octet1_W w μ123 (1) (fun μ132 => mT w μ132 → mF [106104, 174999] w μ123 μ132 → ∀ z136 : Int, μ132 106 104 = z136 → WP_X12_octet1_W w μ132 (1) (fun μ141 => mT w μ141 → mF [106104, 174999] w μ132 μ141 → ∀ z145 : Int, μ141 106 104 = z145 → ∀ z150 : Int, μ141 126 (((40 * (530 + z44)) + 2).toNat) = z150 → ((-2147483648 ≤ z150 ∧ z150 ≤ 2147483647) ∧ (((40 * (530 + z44)) + 2) % 40 = 0 → -1 ≤ z150 ∧ z150 ≤ 9) ∧ (((40 * (530 + z44)) + 2) % 40 = 4 → 0 ≤ z150 ∧ z150 ≤ 20) ∧ (((40 * (530 + z44)) + 2) % 40 = 5 → 0 ≤ z150 ∧ z150 ≤ 8)) → WP_X12_octet1_W w μ141 z150 (fun μ153 => mT w μ153 → mF [106104, 174999] w μ141 μ153 → ∀ z157 : Int, μ153 106 104 = z157 → WP_X12_octet1_W w μ153 (64) (fun μ162 => mT w μ162 → mF [106104, 174999] w μ153 μ162 → ∀ z166 : Int, μ162 106 104 = z166 → WP_X12_octet1_W w μ162 (2) (fun μ171 => mT w μ171 → mF [106104, 174999] w μ162 μ171 → ∀ z175 : Int, μ171 106 104 = z175 → WP_X12_octet1_W w μ171 z65 (fun μ180 => mT w μ180 → mF [106104, 174999] w μ171 μ180 → ∀ z184 : Int, μ180 106 104 = z184 → ((z55 ≤ 0) → (WJ_X12_write_W_4 w p3 Q z44 z59 z69 μ180) μ180) ∧ ((0 < z55) → WP_X12_octet1_W w μ180 (2) (fun μ752 => mT w μ752 → mF [106104, 174999] w μ180 μ752 → ∀ z756 : Int, μ752 106 104 = z756 → WP_X12_octet1_W w μ752 z55 (fun μ761 => mT w μ761 → mF [106104, 174999] w μ752 μ761 → ∀ z765 : Int, μ761 106 104 = z765 → loopF (WL_X12_write_W_7 w p3 Q z44 z55 z59 z69 μ180 μ761) False 22 ((0 : Int), μ761)))))))))))))))
def WJ_X12_write_W_2 (w : mW) (p3 : Int) (Q : Int → mM → Prop) (z44 : Int) (μ46 : mM) (z55 : Int) (z59 : Int) (z65 : Int) (z69 : Int) (z74 : Int) : Prop := (0 ≤ z74 ∧ z74 ≤ 7) → ((z59 ≤ 0) → (WJ_X12_write_W_3 w p3 Q z44 μ46 z55 z59 z65 z69 z74) (0 : Int)) ∧ ((0 < z59) → (WJ_X12_write_W_3 w p3 Q z44 μ46 z55 z59 z65 z69 z74) (3 + (4 * z59)))
def WJ_X12_write_W_1 (w : mW) (p3 : Int) (Q : Int → mM → Prop) (z44 : Int) (μ46 : mM) (z55 : Int) (z59 : Int) (z65 : Int) : Prop := (0 ≤ z65 ∧ z65 ≤ 82) → ∀ z69 : Int, μ46 126 (((40 * (530 + z44)) + 3).toNat) = z69 → ((-2147483648 ≤ z69 ∧ z69 ≤ 2147483647) ∧ (((40 * (530 + z44)) + 3) % 40 = 0 → -1 ≤ z69 ∧ z69 ≤ 9) ∧ (((40 * (530 + z44)) + 3) % 40 = 4 → 0 ≤ z69 ∧ z69 ≤ 20) ∧ (((40 * (530 + z44)) + 3) % 40 = 5 → 0 ≤ z69 ∧ z69 ≤ 8)) → ((z69 ≤ 0) → (WJ_X12_write_W_2 w p3 Q z44 μ46 z55 z59 z65 z69) (0 : Int)) ∧ ((0 < z69) → (WJ_X12_write_W_2 w p3 Q z44 μ46 z55 z59 z65 z69) (7 : Int))
def WP_X12_write_W (w : mW) (μ : mM) (p1 : Int) (p2 : Int) (p3 : Int) (Q : Int → mM → Prop) : Prop := ∀ z1 : Int, μ 106 6 = z1 → (0 ≤ z1 ∧ z1 ≤ 20) → WP_X12_isTie_W w μ p1 (fun z8 _ => (0 ≤ z8 ∧ z8 ≤ 1) → ((z8 = 0) → Q ((-1) : Int) μ) ∧ ((¬ z8 = 0) → WP_X12_in_W w μ p2 (0) (1) (fun z20 _ => (0 ≤ z20 ∧ z20 ≤ 1) → ((z20 = 0) → Q ((-1) : Int) μ) ∧ ((¬ z20 = 0) → ∀ z27 : Int, μ 106 2 = z27 → (0 ≤ z27 ∧ z27 ≤ 10) → WP_X12_isPrefix_W w μ p3 (fun z34 _ => (0 ≤ z34 ∧ z34 ≤ 1) → ((¬ z34 = 0) → WP_X12_slot_W w μ p1 p2 p3 (fun z44 _ => (0 ≤ z44 ∧ z44 ≤ 449) → ∀ μ46 : mM, mU μ 106 (104) (0 : Int) μ46 → mT w μ46 → ∀ z49 : Int, μ46 126 ((40 * (530 + z44)).toNat) = z49 → ((-2147483648 ≤ z49 ∧ z49 ≤ 2147483647) ∧ ((40 * (530 + z44)) % 40 = 0 → -1 ≤ z49 ∧ z49 ≤ 9) ∧ ((40 * (530 + z44)) % 40 = 4 → 0 ≤ z49 ∧ z49 ≤ 20) ∧ ((40 * (530 + z44)) % 40 = 5 → 0 ≤ z49 ∧ z49 ≤ 8)) → ((0 ≤ z49) → ∀ z55 : Int, μ46 126 (((40 * (530 + z44)) + 4).toNat) = z55 → ((-2147483648 ≤ z55 ∧ z55 ≤ 2147483647) ∧ (((40 * (530 + z44)) + 4) % 40 = 0 → -1 ≤ z55 ∧ z55 ≤ 9) ∧ (((40 * (530 + z44)) + 4) % 40 = 4 → 0 ≤ z55 ∧ z55 ≤ 20) ∧ (((40 * (530 + z44)) + 4) % 40 = 5 → 0 ≤ z55 ∧ z55 ≤ 8)) → ∀ z59 : Int, μ46 126 (((40 * (530 + z44)) + 5).toNat) = z59 → ((-2147483648 ≤ z59 ∧ z59 ≤ 2147483647) ∧ (((40 * (530 + z44)) + 5) % 40 = 0 → -1 ≤ z59 ∧ z59 ≤ 9) ∧ (((40 * (530 + z44)) + 5) % 40 = 4 → 0 ≤ z59 ∧ z59 ≤ 20) ∧ (((40 * (530 + z44)) + 5) % 40 = 5 → 0 ≤ z59 ∧ z59 ≤ 8)) → ((¬ z55 = 0) → (WJ_X12_write_W_1 w p3 Q z44 μ46 z55 z59) (2 + (4 * z55))) ∧ ((z55 = 0) → (WJ_X12_write_W_1 w p3 Q z44 μ46 z55 z59) (0 : Int))) ∧ ((z49 < 0) → WP_X12_octet1_W w μ46 (0) (fun μ1058 => mT w μ1058 → mF [106104, 174999] w μ46 μ1058 → ∀ z1062 : Int, μ1058 106 104 = z1062 → ∀ z1067 : Int, μ1058 109 (p3.toNat) = z1067 → (0 ≤ z1067 ∧ z1067 ≤ 32) → ∀ z1070 : Int, (z1067 + 7) / 8 = z1070 → WP_X12_octet1_W w μ1058 (1 + z1070) (fun μ1073 => mT w μ1073 → mF [106104, 174999] w μ1058 μ1073 → ∀ z1077 : Int, μ1073 106 104 = z1077 → WP_X12_prefixOut_W w μ1073 p3 (fun μ1082 => mT w μ1082 → mF [106104, 174999] w μ1073 μ1082 → ∀ z1086 : Int, μ1082 106 104 = z1086 → WP_X12_octet1_W w μ1082 (0) (fun μ1090 => mT w μ1090 → mF [106104, 174999] w μ1082 μ1090 → ∀ z1094 : Int, μ1090 106 104 = z1094 → WP_X12_octet1_W w μ1090 (0) (fun μ1099 => mT w μ1099 → mF [106104, 174999] w μ1090 μ1099 → ∀ z1103 : Int, μ1099 106 104 = z1103 → Q ((z1086 + 1) + 1) μ1099)))))))) ∧ ((z34 = 0) → Q ((-1) : Int) μ))))))
def WP_X11_octet_W (w : mW) (μ : mM) (p1 : Int) (Q : Int → mM → Prop) : Prop := ((p1 < 0) → Q ((-99999999) : Int) μ) ∧ ((0 ≤ p1) → ∀ z14 : Int, μ 76 15 = z14 → (0 ≤ z14 ∧ z14 ≤ 256) → ((p1 < z14) → ∀ z25 : Int, μ 86 (p1.toNat) = z25 → ((-2147483648) ≤ z25 ∧ z25 ≤ 2147483647) → Q z25 μ) ∧ ((z14 ≤ p1) → Q ((-99999999) : Int) μ))
def WP_X12_octet_W (w : mW) (μ : mM) (p1 : Int) (Q : Int → mM → Prop) : Prop := ∀ z1 : Int, μ 106 104 = z1 → (0 ≤ z1 ∧ z1 ≤ 300) → WP_X12_in_W w μ p1 (0) (z1 - 1) (fun z8 _ => (0 ≤ z8 ∧ z8 ≤ 1) → ((z8 = 0) → Q ((-99999999) : Int) μ) ∧ ((¬ z8 = 0) → ∀ z23 : Int, μ 174 (p1.toNat) = z23 → ((-2147483648) ≤ z23 ∧ z23 ≤ 2147483647) → Q z23 μ))
def WL_X2_insertBorder_W_1 (w : mW) (μ : mM) (p1 : Int) (Q : mM → Prop) (rec1 : (Int × mM) → Prop) (s : (Int × mM)) : Prop := ∀ z43 : Int, ∀ μ44 : mM, s = (z43, μ44) → (0 ≤ z43 ∧ z43 ≤ 19) → mT w μ44 → mF [93999] w μ μ44 → ((z43 ≤ 0) → ∀ μ68 : mM, mU μ44 93 (z43.toNat) p1 μ68 → mT w μ68 → Q μ68) ∧ ((0 < z43) → ∀ z72 : Int, μ44 93 ((z43 - 1).toNat) = z72 → ((-9223372036854775808) ≤ z72 ∧ z72 ≤ 9223372036854775807) → ∀ z75 : Int, lCmp z72 p1 = z75 → ((z75 ≤ 0) → ∀ μ85 : mM, mU μ44 93 (z43.toNat) p1 μ85 → mT w μ85 → Q μ85) ∧ ((0 < z75) → ∀ μ89 : mM, mU μ44 93 (z43.toNat) z72 μ89 → mT w μ89 → rec1 ((z43 + (-1)), μ89)))
def WP_X2_insertBorder_W (w : mW) (μ : mM) (p1 : Int) (p2 : Int) (Q : mM → Prop) : Prop := loopF (WL_X2_insertBorder_W_1 w μ p1 Q) False 21 (p2, μ)
theorem vc_X2_insertBorder_W_6 {N z43 : Int} (h0 : (z43 - (-1)) < N + 1) (h1 : 0 < z43) (h2 : 1 ≤ z43 ∧ z43 ≤ 19) : ((z43 + (-1)) - (-1)) < N := by omega
theorem vc_X2_insertBorder_W_7 {p2 : Int} (h0 : 0 ≤ p2 ∧ p2 ≤ 19) : (p2 - (-1)) < ((21 : Nat) : Int) := by omega
set_option maxRecDepth 4000 in
set_option maxHeartbeats 4000000 in
theorem c_X2_insertBorder_W {l : Launch} {D : va_G} {c : Nat → ClassId} {H0 : Heap} {sa : Nat × Nat × (Nat → Int32)} {w : mW} {μ : mM} (hw : mWF w) (hT : mT w μ) {p1 : Int} (hp1 : (-9223372036854775808) ≤ p1 ∧ p1 ≤ 9223372036854775807) {p2 : Int} (hp2 : 0 ≤ p2 ∧ p2 ≤ 19) {Q : mM → Prop} (hQ : WP_X2_insertBorder_W w μ p1 p2 Q) : sC (gG l D c H0 sa) mX2_insertBorder 1 0 0 [.ref 87, jv p1, iv p2] (mk w μ) (qV w [93999] μ (fun μ1 => Q μ1 ∧ True)) := by
  refine sC.of rfl (by decide) (le_t rfl) ?_
  refine mr_lvE (lv' := [(0, .ref 87), (1, jv p1), (3, iv p2)]) rfl ?_
  refine mr_iload_n (pc := 0) (z := p2) dX2_insertBorder_0 rfl rfl ?_
  refine mr_istore (pc := 1) (lv' := [(4, iv p2), (0, .ref 87), (1, jv p1), (3, iv p2)]) dX2_insertBorder_1 (by decide) rfl ?_
  have L45 : ∀ (nL45 : Nat) (z43 : Int) (μ44 : mM), mT w μ44 → mF [93999] w μ μ44 → (0 ≤ z43 ∧ z43 ≤ 19) → (z43 - (-1)) < (nL45 : Int) → loopF (WL_X2_insertBorder_W_1 w μ p1 Q) False nL45 (z43, μ44) → sV (gG l D c H0 sa) mX2_insertBorder (sRm 1 0 0) (sZ (gG l D c H0 sa) 0 0 (qV w [93999] μ (fun μ1 => Q μ1 ∧ True))) 3 [(0, .ref 87), (1, jv p1), (4, iv z43)] [] (mk w μ44) 0 0 := by
    intro nL45
    induction nL45 with
    | zero => intro z43 μ44 T47 F48 h46 h50 W51; exact ((vc_X12_front_3 h50 h46)).elim
    | succ nL45 ih52 =>
      intro z43 μ44 T47 F48 h46 h50 W51
      refine mr_iload (pc := 3) (z := z43) dX2_insertBorder_3 rfl ?_
      refine mr_if_le (pc := 5) (tgt := 44) dX2_insertBorder_5 (by decide) (r32 h46 rfl) (fun h66 => ?_) (fun h66 => ?_)
      · have h67 : 0 ≤ z43 ∧ z43 ≤ 0 := (vc_X12_front_5 h66 h46)
        refine sv_aload_n (pc := 44) dX2_insertBorder_44 rfl rfl ?_
        refine gf_X2_5 (pc := 45) dX2_insertBorder_45 wF_X2_31 (A_87 hw) T47 ?_
        refine mr_iload (pc := 48) (z := z43) dX2_insertBorder_48 rfl ?_
        refine mr_lload_n (pc := 50) (z := p1) dX2_insertBorder_50 rfl rfl ?_
        refine ss_93 (pc := 51) dX2_insertBorder_51 (A_93 hw) T47 (rIx (n := 20) h67 rfl) hp1 fun μ68 u69 T70 => ?_
        exact mr_vret dX2_insertBorder_52 rfl (le_t rfl) (le_t rfl) T70 (mF.up (mF.call mF.refl F48 rfl) (A_93 hw) u69 rfl) ⟨(((W51 z43 μ44 rfl h46 T47 F48).1 h66) μ68 u69 T70), trivial⟩
      have h71 : 1 ≤ z43 ∧ z43 ≤ 19 := (vc_X12_front_12 h66 h46)
      refine sv_aload_n (pc := 8) dX2_insertBorder_8 rfl rfl ?_
      refine gf_X2_5 (pc := 9) dX2_insertBorder_9 wF_X2_31 (A_87 hw) T47 ?_
      refine mr_iload (pc := 12) (z := z43) dX2_insertBorder_12 rfl ?_
      refine mr_iconst (pc := 14) (z := 1) dX2_insertBorder_14 ?_
      refine mr_isub (pc := 15) (x := z43) (y := 1) dX2_insertBorder_15 ?_
      refine la_93 (pc := 16) dX2_insertBorder_16 (A_93 hw) T47 (rIx (n := 20) (rSub (e := 0) (f := 18) h71 (rR (x := 1)) rfl) rfl) fun z72 q73 h74 => ?_
      refine mr_lload_n (pc := 17) (z := p1) dX2_insertBorder_17 rfl rfl ?_
      refine mr_lcmp (pc := 18) dX2_insertBorder_18 ?_
      refine mr_gen (P := fun z => (-1) ≤ z ∧ z ≤ 1) (lg_cmp_r _ _) fun z75 q76 h77 => ?_
      refine mr_if_le (pc := 19) (tgt := 44) dX2_insertBorder_19 (by decide) (r32 h77 rfl) (fun h83 => ?_) (fun h83 => ?_)
      · have h84 : (-1) ≤ z75 ∧ z75 ≤ 0 := (vc_X8_insertWinner_W_4 h83 h77)
        refine sv_aload_n (pc := 44) dX2_insertBorder_44 rfl rfl ?_
        refine gf_X2_5 (pc := 45) dX2_insertBorder_45 wF_X2_31 (A_87 hw) T47 ?_
        refine mr_iload (pc := 48) (z := z43) dX2_insertBorder_48 rfl ?_
        refine mr_lload_n (pc := 50) (z := p1) dX2_insertBorder_50 rfl rfl ?_
        refine ss_93 (pc := 51) dX2_insertBorder_51 (A_93 hw) T47 (rIx (n := 20) h71 rfl) hp1 fun μ85 u86 T87 => ?_
        exact mr_vret dX2_insertBorder_52 rfl (le_t rfl) (le_t rfl) T87 (mF.up (mF.call mF.refl F48 rfl) (A_93 hw) u86 rfl) ⟨((((((W51 z43 μ44 rfl h46 T47 F48).2 h66) z72 q73 h74) z75 q76).1 h83) μ85 u86 T87), trivial⟩
      have h88 : 1 ≤ z75 ∧ z75 ≤ 1 := (vc_X8_insertWinner_W_5 h83 h77)
      refine sv_aload_n (pc := 22) dX2_insertBorder_22 rfl rfl ?_
      refine gf_X2_5 (pc := 23) dX2_insertBorder_23 wF_X2_31 (A_87 hw) T47 ?_
      refine mr_iload (pc := 26) (z := z43) dX2_insertBorder_26 rfl ?_
      refine sv_aload_n (pc := 28) dX2_insertBorder_28 rfl rfl ?_
      refine gf_X2_5 (pc := 29) dX2_insertBorder_29 wF_X2_31 (A_87 hw) T47 ?_
      refine mr_iload (pc := 32) (z := z43) dX2_insertBorder_32 rfl ?_
      refine mr_iconst (pc := 34) (z := 1) dX2_insertBorder_34 ?_
      refine mr_isub (pc := 35) (x := z43) (y := 1) dX2_insertBorder_35 ?_
      refine lk_93 (pc := 36) dX2_insertBorder_36 (A_93 hw) (rIx (n := 20) (rSub (e := 0) (f := 18) h71 (rR (x := 1)) rfl) rfl) q73 ?_
      refine ss_93 (pc := 37) dX2_insertBorder_37 (A_93 hw) T47 (rIx (n := 20) h71 rfl) h74 fun μ89 u90 T91 => ?_
      refine mr_iinc (pc := 38) (lv' := [(4, iv (z43 + (-1))), (0, .ref 87), (1, jv p1)]) dX2_insertBorder_38 rfl (by decide) rfl ?_
      refine sv_goto (pc := 41) (tgt := 3) dX2_insertBorder_41 (by decide) ?_
      refine mr_lvS (lv' := [(0, .ref 87), (1, jv p1), (4, iv (z43 + (-1)))]) (List.forall_mem_cons.mpr ⟨rfl, List.forall_mem_cons.mpr ⟨rfl, List.forall_mem_cons.mpr ⟨rfl, fun _ h => absurd h List.not_mem_nil⟩⟩⟩) ?_
      exact ih52 (z43 + (-1)) μ89 T91 (mF.up (mF.call mF.refl F48 rfl) (A_93 hw) u90 rfl) (rW (c := 0) (d := 19) (rAdd (e := 0) (f := 18) h71 (rR (x := (-1))) rfl) rfl) (vc_X2_insertBorder_W_6 (nS h50) h66 h71) ((((((W51 z43 μ44 rfl h46 T47 F48).2 h66) z72 q73 h74) z75 q76).2 h83) μ89 u90 T91)
  refine mr_lvS (lv' := [(0, .ref 87), (1, jv p1), (4, iv p2)]) (List.forall_mem_cons.mpr ⟨rfl, List.forall_mem_cons.mpr ⟨rfl, List.forall_mem_cons.mpr ⟨rfl, fun _ h => absurd h List.not_mem_nil⟩⟩⟩) ?_
  exact L45 21 p2 μ hT mF.refl hp2 (vc_X2_insertBorder_W_7 hp2) hQ
def WL_X2_layBorders_W_1 (w : mW) (μ : mM) (Q : Int → mM → Prop) (rec1 : (Int × Int × mM) → Prop) (s : (Int × Int × mM)) : Prop := ∀ z247 : Int, ∀ z246 : Int, ∀ μ248 : mM, s = (z247, z246, μ248) → (0 ≤ z247 ∧ z247 ≤ 20) → (0 ≤ z246 ∧ z246 ≤ 10) → mT w μ248 → mF [93999] w μ μ248 → ∀ z259 : Int, μ248 6 14 = z259 → (0 ≤ z259 ∧ z259 ≤ 10) → ((z259 ≤ z246) → Q z247 μ248) ∧ ((z246 < z259) → ∀ z293 : Int, μ248 7 (z246.toNat) = z293 → ((-2147483648) ≤ z293 ∧ z293 ≤ 2147483647) → ∀ z296 : Int, z293 = z296 → ∀ z299 : Int, lAnd z296 (4294967295 : Int) = z299 → WP_X2_insertBorder_W w μ248 z299 z247 (fun μ302 => mT w μ302 → mF [93999] w μ248 μ302 → ∀ z307 : Int, μ302 8 (z246.toNat) = z307 → (0 ≤ z307 ∧ z307 ≤ 32) → ∀ z310 : Int, lShl (1 : Int) (32 - z307) = z310 → ∀ z313 : Int, lAdd z299 z310 = z313 → WP_X2_insertBorder_W w μ302 z313 (z247 + 1) (fun μ316 => mT w μ316 → mF [93999] w μ302 μ316 → rec1 ((z247 + 2), (z246 + 1), μ316))))
def WP_X2_layBorders_W (w : mW) (μ : mM) (Q : Int → mM → Prop) : Prop := loopF (WL_X2_layBorders_W_1 w μ Q) False 22 ((0 : Int), (0 : Int), μ)
theorem vc_X2_layBorders_W_1 {z246 z247 : Int} (h0 : (21 - z247) < ((0 : Nat) : Int)) (h1 : z247 = 2 * z246) (h2 : 0 ≤ z246 ∧ z246 ≤ 10) (h3 : 0 ≤ z247 ∧ z247 ≤ 20) : False := by omega
theorem vc_X2_layBorders_W_2 {z246 z247 z259 : Int} (h0 : z246 < z259) (h1 : z247 = 2 * z246) (h2 : 0 ≤ z246 ∧ z246 ≤ 10) (h3 : 0 ≤ z247 ∧ z247 ≤ 20) (h4 : 0 ≤ z259 ∧ z259 ≤ 10) : 0 ≤ z246 ∧ z246 ≤ 9 := by omega
theorem vc_X2_layBorders_W_3 {z246 z247 z259 : Int} (h0 : z246 < z259) (h1 : z247 = 2 * z246) (h2 : 0 ≤ z246 ∧ z246 ≤ 9) (h3 : 0 ≤ z247 ∧ z247 ≤ 20) (h4 : 0 ≤ z259 ∧ z259 ≤ 10) : 1 ≤ z259 ∧ z259 ≤ 10 := by omega
theorem vc_X2_layBorders_W_4 {z246 z247 z259 : Int} (h0 : z247 = 2 * z246) (h1 : z246 < z259) (h2 : 0 ≤ z246 ∧ z246 ≤ 9) (h3 : 0 ≤ z247 ∧ z247 ≤ 20) (h4 : 1 ≤ z259 ∧ z259 ≤ 10) : 0 ≤ z247 ∧ z247 ≤ 19 := by omega
theorem vc_X2_layBorders_W_5 {z246 z247 z259 : Int} (h0 : z247 = 2 * z246) (h1 : z246 < z259) (h2 : 0 ≤ z246 ∧ z246 ≤ 9) (h3 : 0 ≤ z247 ∧ z247 ≤ 20) (h4 : 1 ≤ z259 ∧ z259 ≤ 10) : 0 ≤ (z247 + 1) ∧ (z247 + 1) ≤ 19 := by omega
theorem vc_X2_layBorders_W_6 {z246 z247 z259 : Int} (h0 : z247 = 2 * z246) (h1 : z246 < z259) (h2 : 0 ≤ z246 ∧ z246 ≤ 9) (h3 : 0 ≤ z247 ∧ z247 ≤ 20) (h4 : 1 ≤ z259 ∧ z259 ≤ 10) : 0 ≤ (z247 + 2) ∧ (z247 + 2) ≤ 20 := by omega
theorem vc_X2_layBorders_W_7 {z246 z247 z259 : Int} (h0 : z247 = 2 * z246) (h1 : z246 < z259) (h2 : 0 ≤ z246 ∧ z246 ≤ 9) (h3 : 0 ≤ z247 ∧ z247 ≤ 20) (h4 : 1 ≤ z259 ∧ z259 ≤ 10) : (z247 + 2) = 2 * (z246 + 1) := by omega
theorem vc_X2_layBorders_W_8 {N z246 z247 z259 : Int} (h0 : (21 - z247) < N + 1) (h1 : z247 = 2 * z246) (h2 : z246 < z259) (h3 : 0 ≤ z246 ∧ z246 ≤ 9) (h4 : 0 ≤ z247 ∧ z247 ≤ 20) (h5 : 1 ≤ z259 ∧ z259 ≤ 10) : (21 - (z247 + 2)) < N := by omega
theorem vc_X2_layBorders_W_9  : ((0 : Int) : Int) = (2 : Int) * ((0 : Int) : Int) := by omega
set_option maxRecDepth 4000 in
set_option maxHeartbeats 4000000 in
theorem c_X2_layBorders_W {l : Launch} {D : va_G} {c : Nat → ClassId} {H0 : Heap} {sa : Nat × Nat × (Nat → Int32)} {w : mW} {μ : mM} (hw : mWF w) (hT : mT w μ) {Q : Int → mM → Prop} (hQ : WP_X2_layBorders_W w μ  Q) : sC (gG l D c H0 sa) mX2_layBorders 2 0 0 [.ref 87] (mk w μ) (qI w [93999] μ (fun z μ1 => (0 ≤ z ∧ z ≤ 20) ∧ Q z μ1 ∧ True)) := by
  refine sC.of rfl (by decide) (le_t rfl) ?_
  refine mr_lvE (lv' := [(0, .ref 87)]) rfl ?_
  refine mr_iconst (pc := 0) (z := 0) dX2_layBorders_0 ?_
  refine mr_istore_n (pc := 1) (lv' := [(1, iv 0), (0, .ref 87)]) dX2_layBorders_1 rfl (by decide) rfl ?_
  refine mr_iconst (pc := 2) (z := 0) dX2_layBorders_2 ?_
  refine mr_istore_n (pc := 3) (lv' := [(2, iv 0), (1, iv 0), (0, .ref 87)]) dX2_layBorders_3 rfl (by decide) rfl ?_
  have L249 : ∀ (nL249 : Nat) (z247 z246 : Int) (μ248 : mM), mT w μ248 → mF [93999] w μ μ248 → (0 ≤ z247 ∧ z247 ≤ 20) → (0 ≤ z246 ∧ z246 ≤ 10) → (z247 = 2 * z246) → (21 - z247) < (nL249 : Int) → loopF (WL_X2_layBorders_W_1 w μ Q) False nL249 (z247, z246, μ248) → sV (gG l D c H0 sa) mX2_layBorders (sRm 2 0 0) (sZ (gG l D c H0 sa) 0 0 (qI w [93999] μ (fun z μ1 => (0 ≤ z ∧ z ≤ 20) ∧ Q z μ1 ∧ True))) 4 [(0, .ref 87), (1, iv z247), (2, iv z246)] [] (mk w μ248) 0 0 := by
    intro nL249
    induction nL249 with
    | zero => intro z247 z246 μ248 T252 F253 h250 h251 h255 h256 W257; exact ((vc_X2_layBorders_W_1 h256 h255 h251 h250)).elim
    | succ nL249 ih258 =>
      intro z247 z246 μ248 T252 F253 h250 h251 h255 h256 W257
      refine mr_iload_n (pc := 4) (z := z246) dX2_layBorders_4 rfl rfl ?_
      refine sv_aload_n (pc := 5) dX2_layBorders_5 rfl rfl ?_
      refine gf_X2_0 (pc := 6) dX2_layBorders_6 wF_X2_9 (A_87 hw) T252 ?_
      refine gf_X10_14 (pc := 9) dX2_layBorders_9 wF_X2_42 (A_6 hw) T252 fun z259 q260 h261 => ?_
      refine mr_icmp_ge (pc := 12) (tgt := 68) dX2_layBorders_12 (by decide) (r32 h251 rfl) (r32 h261 rfl) (fun h290 => ?_) (fun h290 => ?_)
      · refine mr_iload_n (pc := 68) (z := z247) dX2_layBorders_68 rfl rfl ?_
        exact mr_iret dX2_layBorders_69 rfl (le_t rfl) (le_t rfl) T252 (mF.call mF.refl F253 rfl) ⟨h250, (((W257 z247 z246 μ248 rfl h250 h251 T252 F253) z259 q260 h261).1 h290), trivial⟩
      have h291 : 0 ≤ z246 ∧ z246 ≤ 9 := (vc_X2_layBorders_W_2 h290 h255 h251 h250 h261)
      have h292 : 1 ≤ z259 ∧ z259 ≤ 10 := (vc_X2_layBorders_W_3 h290 h255 h291 h250 h261)
      refine sv_aload_n (pc := 15) dX2_layBorders_15 rfl rfl ?_
      refine gf_X2_0 (pc := 16) dX2_layBorders_16 wF_X2_9 (A_87 hw) T252 ?_
      refine gf_X10_0 (pc := 19) dX2_layBorders_19 wF_X2_49 (A_6 hw) T252 ?_
      refine mr_iload_n (pc := 22) (z := z246) dX2_layBorders_22 rfl rfl ?_
      refine la_7 (pc := 23) dX2_layBorders_23 (A_7 hw) T252 (rIx (n := 10) h291 rfl) fun z293 q294 h295 => ?_
      refine mr_i2l (pc := 24) dX2_layBorders_24 h295 ?_
      refine mr_genL (r3264 h295) fun z296 q297 h298 => ?_
      refine mr_ldc2 (pc := 25) (z := 4294967295) dX2_layBorders_25 wH_X2_121 (by decide) ?_
      refine mr_land (pc := 28) dX2_layBorders_28 ?_
      refine mr_genL (r64i _) fun z299 q300 h301 => ?_
      refine mr_lstore_n (pc := 29) (lv' := [(3, jv z299), (0, .ref 87), (1, iv z247), (2, iv z246)]) dX2_layBorders_29 rfl (by decide) rfl ?_
      refine sv_aload_n (pc := 30) dX2_layBorders_30 rfl rfl ?_
      refine mr_lload_n (pc := 31) (z := z299) dX2_layBorders_31 rfl rfl ?_
      refine mr_iload_n (pc := 32) (z := z247) dX2_layBorders_32 rfl rfl ?_
      have W306 := ((((((W257 z247 z246 μ248 rfl h250 h251 T252 F253) z259 q260 h261).2 h290) z293 q294 h295) z296 q297) z299 q300)
      refine mr_cVV (pc := 33) (c_X2_insertBorder_W hw T252 h301 (vc_X2_layBorders_W_4 h255 h290 h291 h250 h292) W306) (gOk _ _ _ _ _) dX2_layBorders_33 (tX2_insertBorder _ _ _ _ _) ⟨wV_X2_insertBorder, wL_X2_insertBorder⟩ wM_X2_123 (gCX2 _ _ _ _ _) rfl (A_87 hw) rfl ⟨le_t rfl, le_t rfl⟩ ⟨le_t rfl, le_t rfl⟩ rfl (le_t rfl) fun μ302 T303 F304 h305 => ?_
      refine sv_aload_n (pc := 36) dX2_layBorders_36 rfl rfl ?_
      refine mr_lload_n (pc := 37) (z := z299) dX2_layBorders_37 rfl rfl ?_
      refine mr_lconst (pc := 38) (z := 1) dX2_layBorders_38 (by decide) ?_
      refine mr_bipush (pc := 39) (z := 32) dX2_layBorders_39 (by decide) ?_
      refine sv_aload_n (pc := 41) dX2_layBorders_41 rfl rfl ?_
      refine gf_X2_0 (pc := 42) dX2_layBorders_42 wF_X2_9 (A_87 hw) T303 ?_
      refine gf_X10_1 (pc := 45) dX2_layBorders_45 wF_X2_57 (A_6 hw) T303 ?_
      refine mr_iload_n (pc := 48) (z := z246) dX2_layBorders_48 rfl rfl ?_
      refine la_8 (pc := 49) dX2_layBorders_49 (A_8 hw) T303 (rIx (n := 10) h291 rfl) fun z307 q308 h309 => ?_
      refine mr_isub (pc := 50) (x := 32) (y := z307) dX2_layBorders_50 ?_
      refine mr_lshl (pc := 51) dX2_layBorders_51 ?_
      refine mr_genL (r64i _) fun z310 q311 h312 => ?_
      refine mr_ladd (pc := 52) dX2_layBorders_52 ?_
      refine mr_genL (r64i _) fun z313 q314 h315 => ?_
      refine mr_iload_n (pc := 53) (z := z247) dX2_layBorders_53 rfl rfl ?_
      refine mr_iconst (pc := 54) (z := 1) dX2_layBorders_54 ?_
      refine mr_iadd (pc := 55) (x := z247) (y := 1) dX2_layBorders_55 ?_
      refine mr_cVV (pc := 56) (c_X2_insertBorder_W hw T303 h315 (vc_X2_layBorders_W_5 h255 h290 h291 h250 h292) ((((h305.1 T303 F304) z307 q308 h309) z310 q311) z313 q314)) (gOk _ _ _ _ _) dX2_layBorders_56 (tX2_insertBorder _ _ _ _ _) ⟨wV_X2_insertBorder, wL_X2_insertBorder⟩ wM_X2_123 (gCX2 _ _ _ _ _) rfl (A_87 hw) rfl ⟨le_t rfl, le_t rfl⟩ ⟨le_t rfl, le_t rfl⟩ rfl (le_t rfl) fun μ316 T317 F318 h319 => ?_
      refine mr_iinc (pc := 59) (lv' := [(1, iv (z247 + 2)), (3, jv z299), (0, .ref 87), (2, iv z246)]) dX2_layBorders_59 rfl (by decide) rfl ?_
      refine mr_iinc (pc := 62) (lv' := [(2, iv (z246 + 1)), (1, iv (z247 + 2)), (3, jv z299), (0, .ref 87)]) dX2_layBorders_62 rfl (by decide) rfl ?_
      refine sv_goto (pc := 65) (tgt := 4) dX2_layBorders_65 (by decide) ?_
      refine mr_lvS (lv' := [(0, .ref 87), (1, iv (z247 + 2)), (2, iv (z246 + 1))]) (List.forall_mem_cons.mpr ⟨rfl, List.forall_mem_cons.mpr ⟨rfl, List.forall_mem_cons.mpr ⟨rfl, fun _ h => absurd h List.not_mem_nil⟩⟩⟩) ?_
      exact ih258 (z247 + 2) (z246 + 1) μ316 T317 (mF.call (mF.call (mF.call mF.refl F253 rfl) F304 rfl) F318 rfl) (vc_X2_layBorders_W_6 h255 h290 h291 h250 h292) (rW (c := 0) (d := 10) (rAdd (e := 1) (f := 10) h291 (rR (x := 1)) rfl) rfl) (vc_X2_layBorders_W_7 h255 h290 h291 h250 h292) (vc_X2_layBorders_W_8 (nS h256) h255 h290 h291 h250 h292) (h319.1 T317 F318)
  refine mr_lvS (lv' := [(0, .ref 87), (1, iv 0), (2, iv 0)]) (List.forall_mem_cons.mpr ⟨rfl, List.forall_mem_cons.mpr ⟨rfl, List.forall_mem_cons.mpr ⟨rfl, fun _ h => absurd h List.not_mem_nil⟩⟩⟩) ?_
  exact L249 22 0 0 μ hT mF.refl (rW (c := 0) (d := 20) (rR (x := 0)) rfl) (rW (c := 0) (d := 10) (rR (x := 0)) rfl) vc_X2_layBorders_W_9 vc_X12_tieOf_12 hQ
def WL_X2_unlikeAddresses_W_1 (w : mW) (p1 : Int) (p2 : Int) (Q : Int → mM → Prop) (z5 : Int) (μ1 : mM) (rec1 : (Int × Int) → Prop) (s : (Int × Int)) : Prop := ∀ z239 : Int, ∀ z238 : Int, s = (z239, z238) → ((-9223372036854775808) ≤ z239 ∧ z239 ≤ 9223372036854775807) → (0 ≤ z238 ∧ z238 ≤ 19) → ((z5 ≤ (z238 + 1)) → Q z239 μ1) ∧ (((z238 + 1) < z5) → ∀ z279 : Int, μ1 93 (z238.toNat) = z279 → ((-9223372036854775808) ≤ z279 ∧ z279 ≤ 9223372036854775807) → ∀ z282 : Int, lInt z279 = z282 → WP_X2_partnerFor_W w μ1 p1 z282 (fun z289 _ => ((-99999999) ≤ z289 ∧ z289 ≤ 9) → WP_X2_partnerFor_W w μ1 p2 z282 (fun z294 _ => ((-99999999) ≤ z294 ∧ z294 ≤ 9) → ((z289 = z294) → rec1 (z239, (z238 + 1))) ∧ ((¬ z289 = z294) → ∀ z305 : Int, μ1 93 ((z238 + 1).toNat) = z305 → ((-9223372036854775808) ≤ z305 ∧ z305 ≤ 9223372036854775807) → ∀ z308 : Int, lSub z305 z279 = z308 → ∀ z311 : Int, lAdd z239 z308 = z311 → rec1 (z311, (z238 + 1))))))
def WP_X2_unlikeAddresses_W (w : mW) (μ : mM) (p1 : Int) (p2 : Int) (Q : Int → mM → Prop) : Prop := WP_X2_layBorders_W w μ  (fun z5 μ1 => mT w μ1 → mF [93999] w μ μ1 → (0 ≤ z5 ∧ z5 ≤ 20) → loopF (WL_X2_unlikeAddresses_W_1 w p1 p2 Q z5 μ1) False 21 ((0 : Int), (0 : Int)))
theorem vc_X2_unlikeAddresses_W_4 {n0 p1 p2 : Int} (h0 : p1 < n0) (h1 : p2 < n0) (h2 : 0 ≤ p1 ∧ p1 ≤ 9) (h3 : 0 ≤ p2 ∧ p2 ≤ 9) : p1 < n0 := by omega
theorem vc_X2_unlikeAddresses_W_5 {n0 p1 p2 z289 : Int} (h0 : p1 < n0) (h1 : p2 < n0) (h2 : z289 < n0) (h3 : z289 = -99999999 ∨ z289 = -4 ∨ (0 ≤ z289 ∧ z289 ≤ 9)) (h4 : 0 ≤ p1 ∧ p1 ≤ 9) (h5 : 0 ≤ p2 ∧ p2 ≤ 9) (h6 : (-99999999) ≤ z289 ∧ z289 ≤ 9) : p2 < n0 := by omega
set_option maxRecDepth 4000 in
set_option maxHeartbeats 4000000 in
theorem c_X2_unlikeAddresses_W {l : Launch} {D : va_G} {c : Nat → ClassId} {H0 : Heap} {sa : Nat × Nat × (Nat → Int32)} {w : mW} {μ : mM} (hw : mWF w) (hT : mT w μ) {p1 : Int} (hp1 : 0 ≤ p1 ∧ p1 ≤ 9) {p2 : Int} (hp2 : 0 ≤ p2 ∧ p2 ≤ 9) (hq0 : p1 < w.2.2.2 0) (hq1 : p2 < w.2.2.2 0) {Q : Int → mM → Prop} (hQ : WP_X2_unlikeAddresses_W w μ p1 p2 Q) : sC (gG l D c H0 sa) mX2_unlikeAddresses 3 0 0 [.ref 87, iv p1, iv p2] (mk w μ) (qJ w [93999] μ (fun z μ1 => ((-9223372036854775808) ≤ z ∧ z ≤ 9223372036854775807) ∧ Q z μ1 ∧ True)) := by
  refine sC.of rfl (by decide) (le_t rfl) ?_
  refine mr_lvE (lv' := [(0, .ref 87), (1, iv p1), (2, iv p2)]) rfl ?_
  refine sv_aload_n (pc := 0) dX2_unlikeAddresses_0 rfl rfl ?_
  refine mr_cVI (pc := 1) (c_X2_layBorders_W hw hT hQ) (gOk _ _ _ _ _) dX2_unlikeAddresses_1 (tX2_layBorders _ _ _ _ _) ⟨wV_X2_layBorders, wL_X2_layBorders⟩ wM_X2_117 (gCX2 _ _ _ _ _) rfl (A_87 hw) rfl ⟨le_t rfl, le_t rfl⟩ ⟨le_t rfl, le_t rfl⟩ rfl (le_t rfl) fun z5 μ1 T2 F3 h4 => ?_
  refine mr_istore_n (pc := 4) (lv' := [(3, iv z5), (0, .ref 87), (1, iv p1), (2, iv p2)]) dX2_unlikeAddresses_4 rfl (by decide) rfl ?_
  refine mr_lconst (pc := 5) (z := 0) dX2_unlikeAddresses_5 (by decide) ?_
  refine mr_lstore (pc := 6) (lv' := [(4, jv 0), (3, iv z5), (0, .ref 87), (1, iv p1), (2, iv p2)]) dX2_unlikeAddresses_6 (by decide) rfl ?_
  refine mr_iconst (pc := 8) (z := 0) dX2_unlikeAddresses_8 ?_
  refine mr_istore (pc := 9) (lv' := [(6, iv 0), (4, jv 0), (3, iv z5), (0, .ref 87), (1, iv p1), (2, iv p2)]) dX2_unlikeAddresses_9 (by decide) rfl ?_
  have L240 : ∀ (nL240 : Nat) (z239 z238 : Int), True → ((-9223372036854775808) ≤ z239 ∧ z239 ≤ 9223372036854775807) → (0 ≤ z238 ∧ z238 ≤ 19) → (20 - z238) < (nL240 : Int) → loopF (WL_X2_unlikeAddresses_W_1 w p1 p2 Q z5 μ1) False nL240 (z239, z238) → sV (gG l D c H0 sa) mX2_unlikeAddresses (sRm 3 0 0) (sZ (gG l D c H0 sa) 0 0 (qJ w [93999] μ (fun z μ1 => ((-9223372036854775808) ≤ z ∧ z ≤ 9223372036854775807) ∧ Q z μ1 ∧ True))) 11 [(0, .ref 87), (1, iv p1), (2, iv p2), (3, iv z5), (4, jv z239), (6, iv z238)] [] (mk w μ1) 0 0 := by
    intro nL240
    induction nL240 with
    | zero => intro z239 z238 _ h241 h242 h246 W247; exact ((vc_X12_letWay_1 h246 h242)).elim
    | succ nL240 ih248 =>
      intro z239 z238 _ h241 h242 h246 W247
      refine mr_iload (pc := 11) (z := z238) dX2_unlikeAddresses_11 rfl ?_
      refine mr_iconst (pc := 13) (z := 1) dX2_unlikeAddresses_13 ?_
      refine mr_iadd (pc := 14) (x := z238) (y := 1) dX2_unlikeAddresses_14 ?_
      refine mr_iload_n (pc := 15) (z := z5) dX2_unlikeAddresses_15 rfl rfl ?_
      refine mr_icmp_ge (pc := 16) (tgt := 74) dX2_unlikeAddresses_16 (by decide) (r32 (rAdd (e := 1) (f := 20) h242 (rR (x := 1)) rfl) rfl) (r32 h4.1 rfl) (fun h276 => ?_) (fun h276 => ?_)
      · refine mr_lload (pc := 74) (z := z239) dX2_unlikeAddresses_74 rfl ?_
        exact mr_lret dX2_unlikeAddresses_76 rfl (le_t rfl) (le_t rfl) T2 (mF.call mF.refl F3 rfl) ⟨h241, ((W247 z239 z238 rfl h241 h242).1 h276), trivial⟩
      have h277 : 0 ≤ z238 ∧ z238 ≤ 18 := (vc_X12_letWay_2 h276 h242 h4.1)
      have h278 : 2 ≤ z5 ∧ z5 ≤ 20 := (vc_X12_letWay_3 h276 h277 h4.1)
      refine sv_aload_n (pc := 19) dX2_unlikeAddresses_19 rfl rfl ?_
      refine gf_X2_5 (pc := 20) dX2_unlikeAddresses_20 wF_X2_31 (A_87 hw) T2 ?_
      refine mr_iload (pc := 23) (z := z238) dX2_unlikeAddresses_23 rfl ?_
      refine la_93 (pc := 25) dX2_unlikeAddresses_25 (A_93 hw) T2 (rIx (n := 20) h277 rfl) fun z279 q280 h281 => ?_
      refine mr_l2i (pc := 26) dX2_unlikeAddresses_26 ?_
      refine mr_gen (P := fun z => (-2147483648) ≤ z ∧ z ≤ 2147483647) (r32i _) fun z282 q283 h284 => ?_
      refine mr_istore (pc := 27) (lv' := [(7, iv z282), (0, .ref 87), (1, iv p1), (2, iv p2), (3, iv z5), (4, jv z239), (6, iv z238)]) dX2_unlikeAddresses_27 (by decide) rfl ?_
      refine sv_aload_n (pc := 29) dX2_unlikeAddresses_29 rfl rfl ?_
      refine mr_iload_n (pc := 30) (z := p1) dX2_unlikeAddresses_30 rfl rfl ?_
      refine mr_iload (pc := 31) (z := z282) dX2_unlikeAddresses_31 rfl ?_
      refine mr_cVP (pc := 33) (c_X2_partnerFor_W hw T2 hp1 h284 (vc_X2_unlikeAddresses_W_4 hq0 hq1 hp1 hp2) ((((W247 z239 z238 rfl h241 h242).2 h276) z279 q280 h281) z282 q283)) (gOk _ _ _ _ _) dX2_unlikeAddresses_33 (tX2_partnerFor _ _ _ _ _) ⟨wV_X2_partnerFor, wL_X2_partnerFor⟩ wM_X2_80 (gCX2 _ _ _ _ _) rfl (A_87 hw) rfl ⟨le_t rfl, le_t rfl⟩ ⟨le_t rfl, le_t rfl⟩ rfl (le_t rfl) fun z289 h288 => ?_
      refine sv_aload_n (pc := 36) dX2_unlikeAddresses_36 rfl rfl ?_
      refine mr_iload_n (pc := 37) (z := p2) dX2_unlikeAddresses_37 rfl rfl ?_
      refine mr_iload (pc := 38) (z := z282) dX2_unlikeAddresses_38 rfl ?_
      refine mr_cVP (pc := 40) (c_X2_partnerFor_W hw T2 hp2 h284 (vc_X2_unlikeAddresses_W_5 hq0 hq1 h288.2.2.1 h288.2.1 hp1 hp2 h288.1) (h288.2.2.2.1 h288.1)) (gOk _ _ _ _ _) dX2_unlikeAddresses_40 (tX2_partnerFor _ _ _ _ _) ⟨wV_X2_partnerFor, wL_X2_partnerFor⟩ wM_X2_80 (gCX2 _ _ _ _ _) rfl (A_87 hw) rfl ⟨le_t rfl, le_t rfl⟩ ⟨le_t rfl, le_t rfl⟩ rfl (le_t rfl) fun z294 h293 => ?_
      refine mr_icmp_eq (pc := 43) (tgt := 68) dX2_unlikeAddresses_43 (by decide) (r32 h288.1 rfl) (r32 h293.1 rfl) (fun h304 => ?_) (fun h304 => ?_)
      · refine mr_iinc (pc := 68) (lv' := [(6, iv (z238 + 1)), (7, iv z282), (0, .ref 87), (1, iv p1), (2, iv p2), (3, iv z5), (4, jv z239)]) dX2_unlikeAddresses_68 rfl (by decide) rfl ?_
        refine sv_goto (pc := 71) (tgt := 11) dX2_unlikeAddresses_71 (by decide) ?_
        refine mr_lvS (lv' := [(0, .ref 87), (1, iv p1), (2, iv p2), (3, iv z5), (4, jv z239), (6, iv (z238 + 1))]) (List.forall_mem_cons.mpr ⟨rfl, List.forall_mem_cons.mpr ⟨rfl, List.forall_mem_cons.mpr ⟨rfl, List.forall_mem_cons.mpr ⟨rfl, List.forall_mem_cons.mpr ⟨rfl, List.forall_mem_cons.mpr ⟨rfl, fun _ h => absurd h List.not_mem_nil⟩⟩⟩⟩⟩⟩) ?_
        exact ih248 z239 (z238 + 1) trivial h241 (rW (c := 0) (d := 19) (rAdd (e := 1) (f := 19) h277 (rR (x := 1)) rfl) rfl) (vc_X12_letWay_8 (nS h246) h276 h277 h278) ((h293.2.2.2.1 h293.1).1 h304)
      refine mr_lload (pc := 46) (z := z239) dX2_unlikeAddresses_46 rfl ?_
      refine sv_aload_n (pc := 48) dX2_unlikeAddresses_48 rfl rfl ?_
      refine gf_X2_5 (pc := 49) dX2_unlikeAddresses_49 wF_X2_31 (A_87 hw) T2 ?_
      refine mr_iload (pc := 52) (z := z238) dX2_unlikeAddresses_52 rfl ?_
      refine mr_iconst (pc := 54) (z := 1) dX2_unlikeAddresses_54 ?_
      refine mr_iadd (pc := 55) (x := z238) (y := 1) dX2_unlikeAddresses_55 ?_
      refine la_93 (pc := 56) dX2_unlikeAddresses_56 (A_93 hw) T2 (rIx (n := 20) (rAdd (e := 1) (f := 19) h277 (rR (x := 1)) rfl) rfl) fun z305 q306 h307 => ?_
      refine sv_aload_n (pc := 57) dX2_unlikeAddresses_57 rfl rfl ?_
      refine gf_X2_5 (pc := 58) dX2_unlikeAddresses_58 wF_X2_31 (A_87 hw) T2 ?_
      refine mr_iload (pc := 61) (z := z238) dX2_unlikeAddresses_61 rfl ?_
      refine lk_93 (pc := 63) dX2_unlikeAddresses_63 (A_93 hw) (rIx (n := 20) h277 rfl) q280 ?_
      refine mr_lsub (pc := 64) dX2_unlikeAddresses_64 ?_
      refine mr_genL (r64i _) fun z308 q309 h310 => ?_
      refine mr_ladd (pc := 65) dX2_unlikeAddresses_65 ?_
      refine mr_genL (r64i _) fun z311 q312 h313 => ?_
      refine mr_lstore (pc := 66) (lv' := [(4, jv z311), (7, iv z282), (0, .ref 87), (1, iv p1), (2, iv p2), (3, iv z5), (6, iv z238)]) dX2_unlikeAddresses_66 (by decide) rfl ?_
      refine mr_iinc (pc := 68) (lv' := [(6, iv (z238 + 1)), (4, jv z311), (7, iv z282), (0, .ref 87), (1, iv p1), (2, iv p2), (3, iv z5)]) dX2_unlikeAddresses_68 rfl (by decide) rfl ?_
      refine sv_goto (pc := 71) (tgt := 11) dX2_unlikeAddresses_71 (by decide) ?_
      refine mr_lvS (lv' := [(0, .ref 87), (1, iv p1), (2, iv p2), (3, iv z5), (4, jv z311), (6, iv (z238 + 1))]) (List.forall_mem_cons.mpr ⟨rfl, List.forall_mem_cons.mpr ⟨rfl, List.forall_mem_cons.mpr ⟨rfl, List.forall_mem_cons.mpr ⟨rfl, List.forall_mem_cons.mpr ⟨rfl, List.forall_mem_cons.mpr ⟨rfl, fun _ h => absurd h List.not_mem_nil⟩⟩⟩⟩⟩⟩) ?_
      exact ih248 z311 (z238 + 1) trivial h313 (rW (c := 0) (d := 19) (rAdd (e := 1) (f := 19) h277 (rR (x := 1)) rfl) rfl) (vc_X12_letWay_8 (nS h246) h276 h277 h278) (((((h293.2.2.2.1 h293.1).2 h304) z305 q306 h307) z308 q309) z311 q312)
  refine mr_lvS (lv' := [(0, .ref 87), (1, iv p1), (2, iv p2), (3, iv z5), (4, jv 0), (6, iv 0)]) (List.forall_mem_cons.mpr ⟨rfl, List.forall_mem_cons.mpr ⟨rfl, List.forall_mem_cons.mpr ⟨rfl, List.forall_mem_cons.mpr ⟨rfl, List.forall_mem_cons.mpr ⟨rfl, List.forall_mem_cons.mpr ⟨rfl, fun _ h => absurd h List.not_mem_nil⟩⟩⟩⟩⟩⟩) ?_
  exact L240 21 0 0 trivial (rW (c := -9223372036854775808) (d := 9223372036854775807) (rR (x := 0)) rfl) (rW (c := 0) (d := 19) (rR (x := 0)) rfl) vc_X12_letWay_18 ((h4.2.1 T2 F3) h4.1)
def WP_X11_differ_W (w : mW) (μ : mM) (p1 : Int) (p2 : Int) (Q : Int → mM → Prop) : Prop := ∀ z1 : Int, μ 6 15 = z1 → (z1 = w.2.2.2 0 ∧ 0 ≤ z1 ∧ z1 ≤ 10) → WP_X11_isDomain_W w μ p1 (fun z8 _ => (0 ≤ z8 ∧ z8 ≤ 1) → ((z8 = 0) → Q ((-1) : Int) μ) ∧ ((¬ z8 = 0) → WP_X11_isDomain_W w μ p2 (fun z41 _ => (0 ≤ z41 ∧ z41 ≤ 1) → ((z41 = 0) → Q ((-1) : Int) μ) ∧ ((¬ z41 = 0) → WP_X2_unlikeAddresses_W w μ p1 p2 (fun z62 μ58 => mT w μ58 → mF [93999] w μ μ58 → ((-9223372036854775808) ≤ z62 ∧ z62 ≤ 9223372036854775807) → Q z62 μ58)))))
theorem vc_X11_differ_W_8 {n0 p1 p2 z1 z41 z8 : Int} (h0 : (z41 = 1 → 0 ≤ p2 ∧ p2 < z1)) (h1 : (z41 = 0 → p2 < 0 ∨ z1 ≤ p2)) (h2 : z41 = 0) (h3 : z1 = n0) (h4 : (z8 = 1 → 0 ≤ p1 ∧ p1 < z1)) (h5 : (z8 = 0 → p1 < 0 ∨ z1 ≤ p1)) (h6 : 0 ≤ p1 ∧ p1 < z1) (h7 : 0 ≤ p1 ∧ p1 ≤ 9) (h8 : (-2147483648) ≤ p2 ∧ p2 ≤ 2147483647) (h9 : 1 ≤ z1 ∧ z1 ≤ 10) (h10 : 0 ≤ z41 ∧ z41 ≤ 0) (h11 : 1 ≤ z8 ∧ z8 ≤ 1) : z41 = 0 := by omega
theorem vc_X11_differ_W_10 {n0 p1 p2 z1 z41 z8 : Int} (h0 : (z41 = 1 → 0 ≤ p2 ∧ p2 < z1)) (h1 : (z41 = 0 → p2 < 0 ∨ z1 ≤ p2)) (h2 : ¬ z41 = 0) (h3 : z1 = n0) (h4 : (z8 = 1 → 0 ≤ p1 ∧ p1 < z1)) (h5 : (z8 = 0 → p1 < 0 ∨ z1 ≤ p1)) (h6 : 0 ≤ p1 ∧ p1 < z1) (h7 : 0 ≤ p1 ∧ p1 ≤ 9) (h8 : (-2147483648) ≤ p2 ∧ p2 ≤ 2147483647) (h9 : 1 ≤ z1 ∧ z1 ≤ 10) (h10 : 1 ≤ z41 ∧ z41 ≤ 1) (h11 : 1 ≤ z8 ∧ z8 ≤ 1) : z41 = 1 := by omega
theorem vc_X11_differ_W_11 {n0 p1 p2 z1 z41 z8 : Int} (h0 : 0 ≤ p2 ∧ p2 < z1) (h1 : z1 = n0) (h2 : (z8 = 1 → 0 ≤ p1 ∧ p1 < z1)) (h3 : (z8 = 0 → p1 < 0 ∨ z1 ≤ p1)) (h4 : 0 ≤ p1 ∧ p1 < z1) (h5 : (z41 = 1 → 0 ≤ p2 ∧ p2 < z1)) (h6 : (z41 = 0 → p2 < 0 ∨ z1 ≤ p2)) (h7 : 0 ≤ p1 ∧ p1 ≤ 9) (h8 : (-2147483648) ≤ p2 ∧ p2 ≤ 2147483647) (h9 : 1 ≤ z1 ∧ z1 ≤ 10) (h10 : 1 ≤ z41 ∧ z41 ≤ 1) (h11 : 1 ≤ z8 ∧ z8 ≤ 1) : 0 ≤ p2 ∧ p2 ≤ 9 := by omega
theorem vc_X11_differ_W_12 {n0 p1 p2 z1 z41 z8 : Int} (h0 : z1 = n0) (h1 : (z8 = 1 → 0 ≤ p1 ∧ p1 < z1)) (h2 : (z8 = 0 → p1 < 0 ∨ z1 ≤ p1)) (h3 : 0 ≤ p1 ∧ p1 < z1) (h4 : ¬ z8 = 0) (h5 : (z41 = 1 → 0 ≤ p2 ∧ p2 < z1)) (h6 : (z41 = 0 → p2 < 0 ∨ z1 ≤ p2)) (h7 : 0 ≤ p2 ∧ p2 < z1) (h8 : 0 ≤ p1 ∧ p1 ≤ 9) (h9 : 0 ≤ p2 ∧ p2 ≤ 9) (h10 : 1 ≤ z1 ∧ z1 ≤ 10) (h11 : 1 ≤ z41 ∧ z41 ≤ 1) (h12 : 1 ≤ z8 ∧ z8 ≤ 1) : p1 < n0 := by omega
theorem vc_X11_differ_W_13 {n0 p1 p2 z1 z41 z8 : Int} (h0 : z1 = n0) (h1 : (z41 = 1 → 0 ≤ p2 ∧ p2 < z1)) (h2 : (z41 = 0 → p2 < 0 ∨ z1 ≤ p2)) (h3 : 0 ≤ p2 ∧ p2 < z1) (h4 : (z8 = 1 → 0 ≤ p1 ∧ p1 < z1)) (h5 : (z8 = 0 → p1 < 0 ∨ z1 ≤ p1)) (h6 : 0 ≤ p1 ∧ p1 < z1) (h7 : ¬ z41 = 0) (h8 : 0 ≤ p1 ∧ p1 ≤ 9) (h9 : 0 ≤ p2 ∧ p2 ≤ 9) (h10 : 1 ≤ z1 ∧ z1 ≤ 10) (h11 : 1 ≤ z41 ∧ z41 ≤ 1) (h12 : 1 ≤ z8 ∧ z8 ≤ 1) : p2 < n0 := by omega
set_option maxRecDepth 4000 in
set_option maxHeartbeats 4000000 in
theorem c_X11_differ_W {l : Launch} {D : va_G} {c : Nat → ClassId} {H0 : Heap} {sa : Nat × Nat × (Nat → Int32)} {w : mW} {μ : mM} (hw : mWF w) (hT : mT w μ) {p1 : Int} (hp1 : (-2147483648) ≤ p1 ∧ p1 ≤ 2147483647) {p2 : Int} (hp2 : (-2147483648) ≤ p2 ∧ p2 ≤ 2147483647) {Q : Int → mM → Prop} (hQ : WP_X11_differ_W w μ p1 p2 Q) : sC (gG l D c H0 sa) mX11_differ 4 0 0 [.ref 0, iv p1, iv p2] (mk w μ) (qJ w [93999] μ (fun z μ1 => ((-9223372036854775808) ≤ z ∧ z ≤ 9223372036854775807) ∧ Q z μ1 ∧ True)) := by
  refine sC.of rfl (by decide) (le_t rfl) ?_
  refine mr_lvE (lv' := [(0, .ref 0), (1, iv p1), (2, iv p2)]) rfl ?_
  refine sv_aload_n (pc := 0) dX11_differ_0 rfl rfl ?_
  refine mr_iload_n (pc := 1) (z := p1) dX11_differ_1 rfl rfl ?_
  obtain ⟨z1, q2⟩ : ∃ z, μ 6 15 = z := ⟨_, rfl⟩
  have h3 : (z1 = w.2.2.2 0 ∧ 0 ≤ z1 ∧ z1 ≤ 10) := by rw [← q2]; exact hT 6 6 (A_6 hw) 15
  refine mr_cVP (pc := 2) (c_X11_isDomain_W hw hT hp1 q2 (hQ z1 q2 h3)) (gOk _ _ _ _ _) dX11_differ_2 (tX11_isDomain _ _ _ _ _) ⟨wV_X11_isDomain, wL_X11_isDomain⟩ wM_X11_105 (gCX11 _ _ _ _ _) rfl (A_0 hw) rfl ⟨le_t rfl, le_t rfl⟩ ⟨le_t rfl, le_t rfl⟩ rfl (le_t rfl) fun z8 h7 => ?_
  refine mr_if_eq (pc := 5) (tgt := 28) dX11_differ_5 (by decide) (r32 h7.1 rfl) (fun h30 => ?_) (fun h30 => ?_)
  · have h31 : 0 ≤ z8 ∧ z8 ≤ 0 := (vc_X12_write_78 h30 h7.2.1 h7.2.2.1 hp1 h3.2 h7.1)
    have h32 : p1 < 0 ∨ z1 ≤ p1 := (h7.2.2.1 (vc_X11_letter_2 h7.2.1 h7.2.2.1 h30 h3.1 hp1 h3.2 h31))
    refine mr_ldc2 (pc := 28) (z := (-1)) dX11_differ_28 wH_X11_392 (by decide) ?_
    exact mr_lret dX11_differ_31 rfl (le_t rfl) (le_t rfl) hT mF.refl ⟨(rW (c := -9223372036854775808) (d := 9223372036854775807) (rR (x := (-1))) rfl), ((h7.2.2.2.1 h7.1).1 h30), trivial⟩
  have h33 : 1 ≤ z8 ∧ z8 ≤ 1 := (vc_X12_write_12 h30 h7.2.1 h7.2.2.1 hp1 h3.2 h7.1)
  have h34 : 0 ≤ p1 ∧ p1 < z1 := (h7.2.1 (vc_X11_letter_4 h7.2.1 h7.2.2.1 h30 h3.1 hp1 h3.2 h33))
  have h35 : 0 ≤ p1 ∧ p1 ≤ 9 := (vc_X11_letter_5 h34 h3.1 h7.2.1 h7.2.2.1 hp1 h3.2 h33)
  have h36 : 1 ≤ z1 ∧ z1 ≤ 10 := (vc_X11_letter_6 h34 h3.1 h7.2.1 h7.2.2.1 h35 h3.2 h33)
  refine sv_aload_n (pc := 8) dX11_differ_8 rfl rfl ?_
  refine mr_iload_n (pc := 9) (z := p2) dX11_differ_9 rfl rfl ?_
  refine mr_cVP (pc := 10) (c_X11_isDomain_W hw hT hp2 q2 ((h7.2.2.2.1 h7.1).2 h30)) (gOk _ _ _ _ _) dX11_differ_10 (tX11_isDomain _ _ _ _ _) ⟨wV_X11_isDomain, wL_X11_isDomain⟩ wM_X11_105 (gCX11 _ _ _ _ _) rfl (A_0 hw) rfl ⟨le_t rfl, le_t rfl⟩ ⟨le_t rfl, le_t rfl⟩ rfl (le_t rfl) fun z41 h40 => ?_
  refine mr_if_eq (pc := 13) (tgt := 28) dX11_differ_13 (by decide) (r32 h40.1 rfl) (fun h52 => ?_) (fun h52 => ?_)
  · have h53 : 0 ≤ z41 ∧ z41 ≤ 0 := (vc_X12_cone_79 h52 h40.2.1 h40.2.2.1 hp2 h36 h40.1)
    have h54 : p2 < 0 ∨ z1 ≤ p2 := (h40.2.2.1 (vc_X11_differ_W_8 h40.2.1 h40.2.2.1 h52 h3.1 h7.2.1 h7.2.2.1 h34 h35 hp2 h36 h53 h33))
    refine mr_ldc2 (pc := 28) (z := (-1)) dX11_differ_28 wH_X11_392 (by decide) ?_
    exact mr_lret dX11_differ_31 rfl (le_t rfl) (le_t rfl) hT mF.refl ⟨(rW (c := -9223372036854775808) (d := 9223372036854775807) (rR (x := (-1))) rfl), ((h40.2.2.2.1 h40.1).1 h52), trivial⟩
  have h55 : 1 ≤ z41 ∧ z41 ≤ 1 := (vc_X12_cone_43 h52 h40.2.1 h40.2.2.1 hp2 h36 h40.1)
  have h56 : 0 ≤ p2 ∧ p2 < z1 := (h40.2.1 (vc_X11_differ_W_10 h40.2.1 h40.2.2.1 h52 h3.1 h7.2.1 h7.2.2.1 h34 h35 hp2 h36 h55 h33))
  have h57 : 0 ≤ p2 ∧ p2 ≤ 9 := (vc_X11_differ_W_11 h56 h3.1 h7.2.1 h7.2.2.1 h34 h40.2.1 h40.2.2.1 h35 hp2 h36 h55 h33)
  refine sv_aload_n (pc := 16) dX11_differ_16 rfl rfl ?_
  refine gf_X11_8 (pc := 17) dX11_differ_17 wF_X11_65 (A_0 hw) hT ?_
  refine mr_iload_n (pc := 20) (z := p1) dX11_differ_20 rfl rfl ?_
  refine mr_iload_n (pc := 21) (z := p2) dX11_differ_21 rfl rfl ?_
  refine mr_cVJ (pc := 22) (c_X2_unlikeAddresses_W hw hT h35 h57 (vc_X11_differ_W_12 h3.1 h7.2.1 h7.2.2.1 h34 h30 h40.2.1 h40.2.2.1 h56 h35 h57 h36 h55 h33) (vc_X11_differ_W_13 h3.1 h40.2.1 h40.2.2.1 h56 h7.2.1 h7.2.2.1 h34 h52 h35 h57 h36 h55 h33) ((h40.2.2.2.1 h40.1).2 h52)) (gOk _ _ _ _ _) dX11_differ_22 (tX2_unlikeAddresses _ _ _ _ _) ⟨wV_X2_unlikeAddresses, wL_X2_unlikeAddresses⟩ wM_X11_388 (gCX2 _ _ _ _ _) rfl (A_87 hw) rfl ⟨le_t rfl, le_t rfl⟩ ⟨le_t rfl, le_t rfl⟩ rfl (le_t rfl) fun z62 μ58 T59 F60 h61 => ?_
  refine sv_goto (pc := 25) (tgt := 31) dX11_differ_25 (by decide) ?_
  exact mr_lret dX11_differ_31 rfl (le_t rfl) (le_t rfl) T59 (mF.call mF.refl F60 rfl) ⟨h61.1, ((h61.2.1 T59 F60) h61.1), trivial⟩
def WJ_X12_differ_W_4 (rec3 : (Int × Int) → Prop) (z7712 : Int) (z7711 : Int) (z7778 : Int) (z7781 : Int) (z7862 : Int) : Prop := (0 ≤ z7862 ∧ z7862 ≤ 1) → ((¬ z7862 = 0) → rec3 (z7712, (z7711 + 1))) ∧ ((z7862 = 0) → ∀ z7877 : Int, lSub z7781 z7778 = z7877 → ∀ z7880 : Int, lAdd z7712 z7877 = z7880 → rec3 (z7880, (z7711 + 1)))
def WL_X12_differ_W_3 (w : mW) (p1 : Int) (p2 : Int) (Q : Int → mM → Prop) (z5067 : Int) (μ7053 : mM) (rec3 : (Int × Int) → Prop) (s : (Int × Int)) : Prop := ∀ z7712 : Int, ∀ z7711 : Int, s = (z7712, z7711) → ((-9223372036854775808) ≤ z7712 ∧ z7712 ≤ 9223372036854775807) → (0 ≤ z7711 ∧ z7711 ≤ 21) → ((z5067 ≤ (z7711 + 1)) → Q z7712 μ7053) ∧ (((z7711 + 1) < z5067) → ∀ z7778 : Int, μ7053 183 (z7711.toNat) = z7778 → ((-9223372036854775808) ≤ z7778 ∧ z7778 ≤ 9223372036854775807) → ∀ z7781 : Int, μ7053 183 ((z7711 + 1).toNat) = z7781 → ((-9223372036854775808) ≤ z7781 ∧ z7781 ≤ 9223372036854775807) → ∀ z7784 : Int, lCmp z7778 z7781 = z7784 → ((¬ z7784 = 0) → ∀ z7830 : Int, lInt z7778 = z7830 → WP_X12_sends_W w μ7053 p1 z7830 (fun z7837 _ => ((-99999999) ≤ z7837 ∧ z7837 ≤ 19) → ∀ z7839 : Int, lInt z7778 = z7839 → WP_X12_sends_W w μ7053 p2 z7839 (fun z7846 _ => ((-99999999) ≤ z7846 ∧ z7846 ≤ 19) → ((z7837 < 0) → ((¬ z7837 = z7846) → (WJ_X12_differ_W_4 rec3 z7712 z7711 z7778 z7781) (0 : Int)) ∧ ((z7837 = z7846) → (WJ_X12_differ_W_4 rec3 z7712 z7711 z7778 z7781) (1 : Int))) ∧ ((0 ≤ z7837) → ((0 ≤ z7846) → WP_X12_partnerOf_W w μ7053 z7837 p1 (fun z7894 _ => (0 ≤ z7894 ∧ z7894 ≤ 9) → WP_X12_partnerOf_W w μ7053 z7846 p2 (fun z7899 _ => (0 ≤ z7899 ∧ z7899 ≤ 9) → ((¬ z7894 = z7899) → (WJ_X12_differ_W_4 rec3 z7712 z7711 z7778 z7781) (0 : Int)) ∧ ((z7894 = z7899) → (WJ_X12_differ_W_4 rec3 z7712 z7711 z7778 z7781) (1 : Int))))) ∧ ((z7846 < 0) → (WJ_X12_differ_W_4 rec3 z7712 z7711 z7778 z7781) (0 : Int)))))) ∧ ((z7784 = 0) → rec3 (z7712, (z7711 + 1))))
def WL_X12_differ_W_5 (w : mW) (rec2 : (Int × mM) → Prop) (z7052 : Int) (μ7053 : mM) (rec5 : (Int × mM) → Prop) (s : (Int × mM)) : Prop := ∀ z7965 : Int, ∀ μ7966 : mM, s = (z7965, μ7966) → (0 ≤ z7965 ∧ z7965 ≤ 21) → mT w μ7966 → mF [183999] w μ7053 μ7966 → ((z7965 ≤ 0) → rec2 ((z7052 + 1), μ7966)) ∧ ((0 < z7965) → ∀ z7997 : Int, μ7966 183 (z7965.toNat) = z7997 → ((-9223372036854775808) ≤ z7997 ∧ z7997 ≤ 9223372036854775807) → ∀ z8000 : Int, μ7966 183 ((z7965 - 1).toNat) = z8000 → ((-9223372036854775808) ≤ z8000 ∧ z8000 ≤ 9223372036854775807) → ∀ z8003 : Int, lCmp z7997 z8000 = z8003 → ((0 ≤ z8003) → rec2 ((z7052 + 1), μ7966)) ∧ ((z8003 < 0) → ∀ μ8017 : mM, mU μ7966 183 (z7965.toNat) z8000 μ8017 → mT w μ8017 → ∀ μ8020 : mM, mU μ8017 183 ((z7965 - 1).toNat) z7997 μ8020 → mT w μ8020 → rec5 ((z7965 + (-1)), μ8020)))
def WL_X12_differ_W_2 (w : mW) (p1 : Int) (p2 : Int) (Q : Int → mM → Prop) (z5067 : Int) (μ5068 : mM) (rec2 : (Int × mM) → Prop) (s : (Int × mM)) : Prop := ∀ z7052 : Int, ∀ μ7053 : mM, s = (z7052, μ7053) → (1 ≤ z7052 ∧ z7052 ≤ 22) → mT w μ7053 → mF [183999] w μ5068 μ7053 → ((z5067 ≤ z7052) → loopF (WL_X12_differ_W_3 w p1 p2 Q z5067 μ7053) False 23 ((0 : Int), (0 : Int))) ∧ ((z7052 < z5067) → loopF (WL_X12_differ_W_5 w rec2 z7052 μ7053) False 23 (z7052, μ7053))
def WL_X12_differ_W_1 (w : mW) (p1 : Int) (p2 : Int) (Q : Int → mM → Prop) (μ28 : mM) (rec1 : (Int × Int × mM) → Prop) (s : (Int × Int × mM)) : Prop := ∀ z5067 : Int, ∀ z5066 : Int, ∀ μ5068 : mM, s = (z5067, z5066, μ5068) → (2 ≤ z5067 ∧ z5067 ≤ 22) → (0 ≤ z5066 ∧ z5066 ≤ 10) → mT w μ5068 → mF [183999] w μ28 μ5068 → ∀ z5079 : Int, μ5068 106 2 = z5079 → (0 ≤ z5079 ∧ z5079 ≤ 10) → ((z5079 ≤ z5066) → loopF (WL_X12_differ_W_2 w p1 p2 Q z5067 μ5068) False 23 ((1 : Int), μ5068)) ∧ ((z5066 < z5079) → ∀ z8025 : Int, μ5068 108 (z5066.toNat) = z8025 → ((-2147483648) ≤ z8025 ∧ z8025 ≤ 2147483647) → ∀ z8028 : Int, z8025 = z8028 → ∀ z8031 : Int, lAnd z8028 (4294967295 : Int) = z8031 → ∀ μ8034 : mM, mU μ5068 183 (z5067.toNat) z8031 μ8034 → mT w μ8034 → ∀ z8037 : Int, μ8034 109 (z5066.toNat) = z8037 → (0 ≤ z8037 ∧ z8037 ≤ 32) → ∀ z8040 : Int, lShl (1 : Int) (32 - z8037) = z8040 → ∀ z8043 : Int, lAdd z8031 z8040 = z8043 → ∀ μ8046 : mM, mU μ8034 183 ((z5067 + 1).toNat) z8043 μ8046 → mT w μ8046 → rec1 (((z5067 + 1) + 1), (z5066 + 1), μ8046))
def WP_X12_differ_W (w : mW) (μ : mM) (p1 : Int) (p2 : Int) (Q : Int → mM → Prop) : Prop := ∀ z1 : Int, μ 106 5 = z1 → (0 ≤ z1 ∧ z1 ≤ 10) → WP_X12_isDomain_W w μ p1 (fun z8 _ => (0 ≤ z8 ∧ z8 ≤ 1) → ((z8 = 0) → Q ((-1) : Int) μ) ∧ ((¬ z8 = 0) → WP_X12_isDomain_W w μ p2 (fun z20 _ => (0 ≤ z20 ∧ z20 ≤ 1) → ((¬ z20 = 0) → ∀ μ25 : mM, mU μ 183 ((0 : Int).toNat) (0 : Int) μ25 → mT w μ25 → ∀ μ28 : mM, mU μ25 183 ((1 : Int).toNat) (4294967296 : Int) μ28 → mT w μ28 → loopF (WL_X12_differ_W_1 w p1 p2 Q μ28) False 22 ((2 : Int), (0 : Int), μ28)) ∧ ((z20 = 0) → Q ((-1) : Int) μ))))
theorem vc_X12_differ_W_10 {z5066 z5067 : Int} (h0 : (23 - z5067) < ((0 : Nat) : Int)) (h1 : z5067 = 2 * z5066 + 2) (h2 : 0 ≤ z5066 ∧ z5066 ≤ 10) (h3 : 2 ≤ z5067 ∧ z5067 ≤ 22) : False := by omega
theorem vc_X12_differ_W_11 {z7052 : Int} (h0 : (23 - z7052) < ((0 : Nat) : Int)) (h1 : 1 ≤ z7052 ∧ z7052 ≤ 22) : False := by omega
theorem vc_X12_differ_W_12 {z5066 z5067 z7052 : Int} (h0 : z5067 ≤ z7052) (h1 : z5067 = 2 * z5066 + 2) (h2 : 0 ≤ z5066 ∧ z5066 ≤ 10) (h3 : 2 ≤ z5067 ∧ z5067 ≤ 22) (h4 : 1 ≤ z7052 ∧ z7052 ≤ 22) : 2 ≤ z7052 ∧ z7052 ≤ 22 := by omega
theorem vc_X12_differ_W_13 {z7711 : Int} (h0 : (22 - z7711) < ((0 : Nat) : Int)) (h1 : 0 ≤ z7711 ∧ z7711 ≤ 21) : False := by omega
theorem vc_X12_differ_W_14 {z5066 z5067 z7052 z7711 : Int} (h0 : z5067 ≤ (z7711 + 1)) (h1 : z5067 = 2 * z5066 + 2) (h2 : z5067 ≤ z7052) (h3 : 0 ≤ z5066 ∧ z5066 ≤ 10) (h4 : 2 ≤ z5067 ∧ z5067 ≤ 22) (h5 : 2 ≤ z7052 ∧ z7052 ≤ 22) (h6 : 0 ≤ z7711 ∧ z7711 ≤ 21) : 1 ≤ z7711 ∧ z7711 ≤ 21 := by omega
theorem vc_X12_differ_W_15 {z5066 z5067 z7052 z7711 : Int} (h0 : (z7711 + 1) < z5067) (h1 : z5067 = 2 * z5066 + 2) (h2 : z5067 ≤ z7052) (h3 : 0 ≤ z5066 ∧ z5066 ≤ 10) (h4 : 2 ≤ z5067 ∧ z5067 ≤ 22) (h5 : 2 ≤ z7052 ∧ z7052 ≤ 22) (h6 : 0 ≤ z7711 ∧ z7711 ≤ 21) : 0 ≤ z7711 ∧ z7711 ≤ 20 := by omega
theorem vc_X12_differ_W_17 {N z5066 z5067 z7052 z7711 : Int} (h0 : (22 - z7711) < N + 1) (h1 : (z7711 + 1) < z5067) (h2 : z5067 = 2 * z5066 + 2) (h3 : z5067 ≤ z7052) (h4 : 0 ≤ z5066 ∧ z5066 ≤ 10) (h5 : 2 ≤ z5067 ∧ z5067 ≤ 22) (h6 : 2 ≤ z7052 ∧ z7052 ≤ 22) (h7 : 0 ≤ z7711 ∧ z7711 ≤ 20) : (22 - (z7711 + 1)) < N := by omega
theorem vc_X12_differ_W_19 {z7837 : Int} (h0 : z7837 < 0) (h1 : z7837 = -99999999 ∨ z7837 = -4 ∨ (0 ≤ z7837 ∧ z7837 ≤ 19)) (h2 : (-99999999) ≤ z7837 ∧ z7837 ≤ 19) : (-99999999) ≤ z7837 ∧ z7837 ≤ (-4) := by omega
theorem vc_X12_differ_W_20 {z7837 z7846 : Int} (h0 : z7837 = z7846) (h1 : z7837 = -99999999 ∨ z7837 = -4 ∨ (0 ≤ z7837 ∧ z7837 ≤ 19)) (h2 : z7846 = -99999999 ∨ z7846 = -4 ∨ (0 ≤ z7846 ∧ z7846 ≤ 19)) (h3 : z7837 < 0) (h4 : (-99999999) ≤ z7837 ∧ z7837 ≤ (-4)) (h5 : (-99999999) ≤ z7846 ∧ z7846 ≤ 19) : (-99999999) ≤ z7846 ∧ z7846 ≤ (-4) := by omega
theorem vc_X12_differ_W_21 {z7837 : Int} (h0 : 0 ≤ z7837) (h1 : z7837 = -99999999 ∨ z7837 = -4 ∨ (0 ≤ z7837 ∧ z7837 ≤ 19)) (h2 : (-99999999) ≤ z7837 ∧ z7837 ≤ 19) : 0 ≤ z7837 ∧ z7837 ≤ 19 := by omega
theorem vc_X12_differ_W_24 {z7837 z7846 : Int} (h0 : z7837 = z7846) (h1 : 0 ≤ z7837 ∧ z7837 ≤ 19) (h2 : z7837 = -99999999 ∨ z7837 = -4 ∨ (0 ≤ z7837 ∧ z7837 ≤ 19)) (h3 : (-99999999) ≤ z7846 ∧ z7846 ≤ (-4)) (h4 : z7846 = -99999999 ∨ z7846 = -4 ∨ (0 ≤ z7846 ∧ z7846 ≤ 19)) : False := by omega
theorem vc_X12_differ_W_26  : (22 - 0) < ((23 : Nat) : Int) := by omega
theorem vc_X12_differ_W_27 {z5066 z5067 z7052 : Int} (h0 : z7052 < z5067) (h1 : z5067 = 2 * z5066 + 2) (h2 : 0 ≤ z5066 ∧ z5066 ≤ 10) (h3 : 2 ≤ z5067 ∧ z5067 ≤ 22) (h4 : 1 ≤ z7052 ∧ z7052 ≤ 22) : 1 ≤ z7052 ∧ z7052 ≤ 21 := by omega
theorem vc_X12_differ_W_28 {z7965 : Int} (h0 : (z7965 - (-1)) < ((0 : Nat) : Int)) (h1 : 0 ≤ z7965 ∧ z7965 ≤ 21) : False := by omega
theorem vc_X12_differ_W_29 {z7965 : Int} (h0 : z7965 ≤ 0) (h1 : 0 ≤ z7965 ∧ z7965 ≤ 21) : 0 ≤ z7965 ∧ z7965 ≤ 0 := by omega
theorem vc_X12_differ_W_30 {N z5066 z5067 z7052 : Int} (h0 : (23 - z7052) < N + 1) (h1 : z7052 < z5067) (h2 : z5067 = 2 * z5066 + 2) (h3 : 0 ≤ z5066 ∧ z5066 ≤ 10) (h4 : 2 ≤ z5067 ∧ z5067 ≤ 22) (h5 : 1 ≤ z7052 ∧ z7052 ≤ 21) : (23 - (z7052 + 1)) < N := by omega
theorem vc_X12_differ_W_31 {z7965 : Int} (h0 : 0 < z7965) (h1 : 0 ≤ z7965 ∧ z7965 ≤ 21) : 1 ≤ z7965 ∧ z7965 ≤ 21 := by omega
theorem vc_X12_differ_W_34 {N z7965 : Int} (h0 : (z7965 - (-1)) < N + 1) (h1 : 0 < z7965) (h2 : 1 ≤ z7965 ∧ z7965 ≤ 21) : ((z7965 + (-1)) - (-1)) < N := by omega
theorem vc_X12_differ_W_35 {z5066 z5067 z7052 : Int} (h0 : z7052 < z5067) (h1 : z5067 = 2 * z5066 + 2) (h2 : 0 ≤ z5066 ∧ z5066 ≤ 10) (h3 : 2 ≤ z5067 ∧ z5067 ≤ 22) (h4 : 1 ≤ z7052 ∧ z7052 ≤ 21) : (z7052 - (-1)) < ((23 : Nat) : Int) := by omega
theorem vc_X12_differ_W_36  : (23 - 1) < ((23 : Nat) : Int) := by omega
theorem vc_X12_differ_W_37 {z5066 z5067 z5079 : Int} (h0 : z5066 < z5079) (h1 : z5067 = 2 * z5066 + 2) (h2 : 0 ≤ z5066 ∧ z5066 ≤ 10) (h3 : 2 ≤ z5067 ∧ z5067 ≤ 22) (h4 : 0 ≤ z5079 ∧ z5079 ≤ 10) : 0 ≤ z5066 ∧ z5066 ≤ 9 := by omega
theorem vc_X12_differ_W_38 {z5066 z5067 z5079 : Int} (h0 : z5066 < z5079) (h1 : z5067 = 2 * z5066 + 2) (h2 : 0 ≤ z5066 ∧ z5066 ≤ 9) (h3 : 2 ≤ z5067 ∧ z5067 ≤ 22) (h4 : 0 ≤ z5079 ∧ z5079 ≤ 10) : 1 ≤ z5079 ∧ z5079 ≤ 10 := by omega
theorem vc_X12_differ_W_39 {z5066 z5067 z5079 : Int} (h0 : z5067 = 2 * z5066 + 2) (h1 : z5066 < z5079) (h2 : 0 ≤ z5066 ∧ z5066 ≤ 9) (h3 : 2 ≤ z5067 ∧ z5067 ≤ 22) (h4 : 1 ≤ z5079 ∧ z5079 ≤ 10) : 2 ≤ ((z5067 + 1) + 1) ∧ ((z5067 + 1) + 1) ≤ 22 := by omega
theorem vc_X12_differ_W_40 {z5066 z5067 z5079 : Int} (h0 : z5067 = 2 * z5066 + 2) (h1 : z5066 < z5079) (h2 : 0 ≤ z5066 ∧ z5066 ≤ 9) (h3 : 2 ≤ z5067 ∧ z5067 ≤ 22) (h4 : 1 ≤ z5079 ∧ z5079 ≤ 10) : ((z5067 + 1) + 1) = 2 * (z5066 + 1) + 2 := by omega
theorem vc_X12_differ_W_41 {N z5066 z5067 z5079 : Int} (h0 : (23 - z5067) < N + 1) (h1 : z5067 = 2 * z5066 + 2) (h2 : z5066 < z5079) (h3 : 0 ≤ z5066 ∧ z5066 ≤ 9) (h4 : 2 ≤ z5067 ∧ z5067 ≤ 22) (h5 : 1 ≤ z5079 ∧ z5079 ≤ 10) : (23 - ((z5067 + 1) + 1)) < N := by omega
theorem vc_X12_differ_W_42  : ((2 : Int) : Int) = (2 : Int) * ((0 : Int) : Int) + (2 : Int) := by omega
theorem vc_X12_differ_W_43  : (23 - 2) < ((22 : Nat) : Int) := by omega
set_option maxRecDepth 4000 in
set_option maxHeartbeats 4000000 in
theorem c_X12_differ_W {l : Launch} {D : va_G} {c : Nat → ClassId} {H0 : Heap} {sa : Nat × Nat × (Nat → Int32)} {w : mW} {μ : mM} (hw : mWF w) (hT : mT w μ) {p1 : Int} (hp1 : (-2147483648) ≤ p1 ∧ p1 ≤ 2147483647) {p2 : Int} (hp2 : (-2147483648) ≤ p2 ∧ p2 ≤ 2147483647) {Q : Int → mM → Prop} (hQ : WP_X12_differ_W w μ p1 p2 Q) : sC (gG l D c H0 sa) mX12_differ 4 0 0 [.ref 106, iv p1, iv p2] (mk w μ) (qJ w [183999] μ (fun z μ1 => ((-9223372036854775808) ≤ z ∧ z ≤ 9223372036854775807) ∧ Q z μ1 ∧ True)) := by
  refine sC.of rfl (by decide) (le_t rfl) ?_
  refine mr_lvE (lv' := [(0, .ref 106), (1, iv p1), (2, iv p2)]) rfl ?_
  refine sv_aload_n (pc := 0) dX12_differ_0 rfl rfl ?_
  refine mr_iload_n (pc := 1) (z := p1) dX12_differ_1 rfl rfl ?_
  obtain ⟨z1, q2⟩ : ∃ z, μ 106 5 = z := ⟨_, rfl⟩
  have h3 : (0 ≤ z1 ∧ z1 ≤ 10) := by rw [← q2]; exact hT 106 106 (A_106 hw) 5
  refine mr_cVP (pc := 2) (c_X12_isDomain_W hw hT hp1 q2 (hQ z1 q2 h3)) (gOk _ _ _ _ _) dX12_differ_2 (tX12_isDomain _ _ _ _ _) ⟨wV_X12_isDomain, wL_X12_isDomain⟩ wM_X12_49 (gCX12 _ _ _ _ _) rfl (A_106 hw) rfl ⟨le_t rfl, le_t rfl⟩ ⟨le_t rfl, le_t rfl⟩ rfl (le_t rfl) fun z8 h7 => ?_
  refine mr_if_eq (pc := 5) (tgt := 16) dX12_differ_5 (by decide) (r32 h7.1 rfl) (fun h9 => ?_) (fun h9 => ?_)
  · have h10 : 0 ≤ z8 ∧ z8 ≤ 0 := (vc_X12_write_78 h9 h7.2.1 h7.2.2.1 hp1 h3 h7.1)
    have h11 : p1 < 0 ∨ z1 ≤ p1 := (h7.2.2.1 (vc_X12_write_79 h7.2.1 h7.2.2.1 h9 hp1 h3 h10))
    refine mr_ldc2 (pc := 16) (z := (-1)) dX12_differ_16 wH_X12_710 (by decide) ?_
    exact mr_lret dX12_differ_19 rfl (le_t rfl) (le_t rfl) hT mF.refl ⟨(rW (c := -9223372036854775808) (d := 9223372036854775807) (rR (x := (-1))) rfl), ((h7.2.2.2.1 h7.1).1 h9), trivial⟩
  have h12 : 1 ≤ z8 ∧ z8 ≤ 1 := (vc_X12_write_12 h9 h7.2.1 h7.2.2.1 hp1 h3 h7.1)
  have h13 : 0 ≤ p1 ∧ p1 < z1 := (h7.2.1 (vc_X12_write_13 h7.2.1 h7.2.2.1 h9 hp1 h3 h12))
  have h14 : 0 ≤ p1 ∧ p1 ≤ 9 := (vc_X12_write_14 h13 h7.2.1 h7.2.2.1 hp1 h3 h12)
  have h15 : 1 ≤ z1 ∧ z1 ≤ 10 := (vc_X12_write_15 h13 h7.2.1 h7.2.2.1 h14 h3 h12)
  refine sv_aload_n (pc := 8) dX12_differ_8 rfl rfl ?_
  refine mr_iload_n (pc := 9) (z := p2) dX12_differ_9 rfl rfl ?_
  refine mr_cVP (pc := 10) (c_X12_isDomain_W hw hT hp2 q2 ((h7.2.2.2.1 h7.1).2 h9)) (gOk _ _ _ _ _) dX12_differ_10 (tX12_isDomain _ _ _ _ _) ⟨wV_X12_isDomain, wL_X12_isDomain⟩ wM_X12_49 (gCX12 _ _ _ _ _) rfl (A_106 hw) rfl ⟨le_t rfl, le_t rfl⟩ ⟨le_t rfl, le_t rfl⟩ rfl (le_t rfl) fun z20 h19 => ?_
  refine mr_if_ne (pc := 13) (tgt := 20) dX12_differ_13 (by decide) (r32 h19.1 rfl) (fun h21 => ?_) (fun h21 => ?_)
  · have h22 : 1 ≤ z20 ∧ z20 ≤ 1 := (vc_X12_cone_43 h21 h19.2.1 h19.2.2.1 hp2 h15 h19.1)
    have h23 : 0 ≤ p2 ∧ p2 < z1 := (h19.2.1 (vc_X12_tie_W_10 h19.2.1 h19.2.2.1 h21 h7.2.1 h7.2.2.1 h13 h14 hp2 h15 h22 h12))
    have h24 : 0 ≤ p2 ∧ p2 ≤ 9 := (vc_X12_tie_W_11 h23 h7.2.1 h7.2.2.1 h13 h19.2.1 h19.2.2.1 h14 hp2 h15 h22 h12)
    refine mr_iconst (pc := 20) (z := 0) dX12_differ_20 ?_
    refine mr_istore_n (pc := 21) (lv' := [(3, iv 0), (0, .ref 106), (1, iv p1), (2, iv p2)]) dX12_differ_21 rfl (by decide) rfl ?_
    refine sv_aload_n (pc := 22) dX12_differ_22 rfl rfl ?_
    refine gf_X12_117 (pc := 23) dX12_differ_23 wF_X12_511 (A_106 hw) hT ?_
    refine mr_iload_n (pc := 26) (z := 0) dX12_differ_26 rfl rfl ?_
    refine mr_iinc (pc := 27) (lv' := [(3, iv 1), (0, .ref 106), (1, iv p1), (2, iv p2)]) dX12_differ_27 rfl (by decide) rfl ?_
    refine mr_lconst (pc := 30) (z := 0) dX12_differ_30 (by decide) ?_
    refine ss_183 (pc := 31) dX12_differ_31 (A_183 hw) hT (rIx (n := 24) (rR (x := 0)) rfl) (rW (c := -9223372036854775808) (d := 9223372036854775807) (rR (x := 0)) rfl) fun μ25 u26 T27 => ?_
    refine sv_aload_n (pc := 32) dX12_differ_32 rfl rfl ?_
    refine gf_X12_117 (pc := 33) dX12_differ_33 wF_X12_511 (A_106 hw) T27 ?_
    refine mr_iload_n (pc := 36) (z := 1) dX12_differ_36 rfl rfl ?_
    refine mr_iinc (pc := 37) (lv' := [(3, iv 2), (0, .ref 106), (1, iv p1), (2, iv p2)]) dX12_differ_37 rfl (by decide) rfl ?_
    refine mr_ldc2 (pc := 40) (z := 4294967296) dX12_differ_40 wH_X12_712 (by decide) ?_
    refine ss_183 (pc := 43) dX12_differ_43 (A_183 hw) T27 (rIx (n := 24) (rR (x := 1)) rfl) (rW (c := -9223372036854775808) (d := 9223372036854775807) (rR (x := 4294967296)) rfl) fun μ28 u29 T30 => ?_
    refine mr_iconst (pc := 44) (z := 0) dX12_differ_44 ?_
    refine mr_istore (pc := 45) (lv' := [(4, iv 0), (3, iv 2), (0, .ref 106), (1, iv p1), (2, iv p2)]) dX12_differ_45 (by decide) rfl ?_
    have L5069 : ∀ (nL5069 : Nat) (z5067 z5066 : Int) (μ5068 : mM), mT w μ5068 → mF [183999] w μ28 μ5068 → (2 ≤ z5067 ∧ z5067 ≤ 22) → (0 ≤ z5066 ∧ z5066 ≤ 10) → (z5067 = 2 * z5066 + 2) → (23 - z5067) < (nL5069 : Int) → loopF (WL_X12_differ_W_1 w p1 p2 Q μ28) False nL5069 (z5067, z5066, μ5068) → sV (gG l D c H0 sa) mX12_differ (sRm 4 0 0) (sZ (gG l D c H0 sa) 0 0 (qJ w [183999] μ (fun z μ1 => ((-9223372036854775808) ≤ z ∧ z ≤ 9223372036854775807) ∧ Q z μ1 ∧ True))) 47 [(0, .ref 106), (1, iv p1), (2, iv p2), (3, iv z5067), (4, iv z5066)] [] (mk w μ5068) 0 0 := by
      intro nL5069
      induction nL5069 with
      | zero => intro z5067 z5066 μ5068 T5072 F5073 h5070 h5071 h5075 h5076 W5077; exact ((vc_X12_differ_W_10 h5076 h5075 h5071 h5070)).elim
      | succ nL5069 ih5078 =>
        intro z5067 z5066 μ5068 T5072 F5073 h5070 h5071 h5075 h5076 W5077
        refine mr_iload (pc := 47) (z := z5066) dX12_differ_47 rfl ?_
        refine sv_aload_n (pc := 49) dX12_differ_49 rfl rfl ?_
        refine gf_X12_2 (pc := 50) dX12_differ_50 wF_X12_15 (A_106 hw) T5072 fun z5079 q5080 h5081 => ?_
        refine mr_icmp_ge (pc := 53) (tgt := 111) dX12_differ_53 (by decide) (r32 h5071 rfl) (r32 h5081 rfl) (fun h5108 => ?_) (fun h5108 => ?_)
        · refine mr_iconst (pc := 111) (z := 1) dX12_differ_111 ?_
          refine mr_istore (pc := 112) (lv' := [(4, iv 1), (0, .ref 106), (1, iv p1), (2, iv p2), (3, iv z5067)]) dX12_differ_112 (by decide) rfl ?_
          have L7054 : ∀ (nL7054 : Nat) (z7052 : Int) (μ7053 : mM), mT w μ7053 → mF [183999] w μ5068 μ7053 → (1 ≤ z7052 ∧ z7052 ≤ 22) → (23 - z7052) < (nL7054 : Int) → loopF (WL_X12_differ_W_2 w p1 p2 Q z5067 μ5068) False nL7054 (z7052, μ7053) → sV (gG l D c H0 sa) mX12_differ (sRm 4 0 0) (sZ (gG l D c H0 sa) 0 0 (qJ w [183999] μ (fun z μ1 => ((-9223372036854775808) ≤ z ∧ z ≤ 9223372036854775807) ∧ Q z μ1 ∧ True))) 114 [(0, .ref 106), (1, iv p1), (2, iv p2), (3, iv z5067), (4, iv z7052)] [] (mk w μ7053) 0 0 := by
            intro nL7054
            induction nL7054 with
            | zero => intro z7052 μ7053 T7056 F7057 h7055 h7059 W7060; exact ((vc_X12_differ_W_11 h7059 h7055)).elim
            | succ nL7054 ih7061 =>
              intro z7052 μ7053 T7056 F7057 h7055 h7059 W7060
              refine mr_iload (pc := 114) (z := z7052) dX12_differ_114 rfl ?_
              refine mr_iload_n (pc := 116) (z := z5067) dX12_differ_116 rfl rfl ?_
              refine mr_icmp_ge (pc := 117) (tgt := 197) dX12_differ_117 (by decide) (r32 h7055 rfl) (r32 h5070 rfl) (fun h7106 => ?_) (fun h7106 => ?_)
              · have h7107 : 2 ≤ z7052 ∧ z7052 ≤ 22 := (vc_X12_differ_W_12 h7106 h5075 h5071 h5070 h7055)
                refine mr_lconst (pc := 197) (z := 0) dX12_differ_197 (by decide) ?_
                refine mr_lstore (pc := 198) (lv' := [(4, jv 0), (0, .ref 106), (1, iv p1), (2, iv p2), (3, iv z5067)]) dX12_differ_198 (by decide) rfl ?_
                refine mr_iconst (pc := 200) (z := 0) dX12_differ_200 ?_
                refine mr_istore (pc := 201) (lv' := [(6, iv 0), (4, jv 0), (0, .ref 106), (1, iv p1), (2, iv p2), (3, iv z5067)]) dX12_differ_201 (by decide) rfl ?_
                have L7713 : ∀ (nL7713 : Nat) (z7712 z7711 : Int), True → ((-9223372036854775808) ≤ z7712 ∧ z7712 ≤ 9223372036854775807) → (0 ≤ z7711 ∧ z7711 ≤ 21) → (22 - z7711) < (nL7713 : Int) → loopF (WL_X12_differ_W_3 w p1 p2 Q z5067 μ7053) False nL7713 (z7712, z7711) → sV (gG l D c H0 sa) mX12_differ (sRm 4 0 0) (sZ (gG l D c H0 sa) 0 0 (qJ w [183999] μ (fun z μ1 => ((-9223372036854775808) ≤ z ∧ z ≤ 9223372036854775807) ∧ Q z μ1 ∧ True))) 203 [(0, .ref 106), (1, iv p1), (2, iv p2), (3, iv z5067), (4, jv z7712), (6, iv z7711)] [] (mk w μ7053) 0 0 := by
                  intro nL7713
                  induction nL7713 with
                  | zero => intro z7712 z7711 _ h7714 h7715 h7719 W7720; exact ((vc_X12_differ_W_13 h7719 h7715)).elim
                  | succ nL7713 ih7721 =>
                    intro z7712 z7711 _ h7714 h7715 h7719 W7720
                    refine mr_iload (pc := 203) (z := z7711) dX12_differ_203 rfl ?_
                    refine mr_iconst (pc := 205) (z := 1) dX12_differ_205 ?_
                    refine mr_iadd (pc := 206) (x := z7711) (y := 1) dX12_differ_206 ?_
                    refine mr_iload_n (pc := 207) (z := z5067) dX12_differ_207 rfl rfl ?_
                    refine mr_icmp_ge (pc := 208) (tgt := 346) dX12_differ_208 (by decide) (r32 (rAdd (e := 1) (f := 22) h7715 (rR (x := 1)) rfl) rfl) (r32 h5070 rfl) (fun h7775 => ?_) (fun h7775 => ?_)
                    · have h7776 : 1 ≤ z7711 ∧ z7711 ≤ 21 := (vc_X12_differ_W_14 h7775 h5075 h7106 h5071 h5070 h7107 h7715)
                      refine mr_lload (pc := 346) (z := z7712) dX12_differ_346 rfl ?_
                      exact mr_lret dX12_differ_348 rfl (le_t rfl) (le_t rfl) T7056 (mF.call (mF.call (mF.up (mF.up mF.refl (A_183 hw) u26 rfl) (A_183 hw) u29 rfl) F5073 rfl) F7057 rfl) ⟨h7714, ((W7720 z7712 z7711 rfl h7714 h7715).1 h7775), trivial⟩
                    have h7777 : 0 ≤ z7711 ∧ z7711 ≤ 20 := (vc_X12_differ_W_15 h7775 h5075 h7106 h5071 h5070 h7107 h7715)
                    refine sv_aload_n (pc := 211) dX12_differ_211 rfl rfl ?_
                    refine gf_X12_117 (pc := 212) dX12_differ_212 wF_X12_511 (A_106 hw) T7056 ?_
                    refine mr_iload (pc := 215) (z := z7711) dX12_differ_215 rfl ?_
                    refine la_183 (pc := 217) dX12_differ_217 (A_183 hw) T7056 (rIx (n := 24) h7777 rfl) fun z7778 q7779 h7780 => ?_
                    refine sv_aload_n (pc := 218) dX12_differ_218 rfl rfl ?_
                    refine gf_X12_117 (pc := 219) dX12_differ_219 wF_X12_511 (A_106 hw) T7056 ?_
                    refine mr_iload (pc := 222) (z := z7711) dX12_differ_222 rfl ?_
                    refine mr_iconst (pc := 224) (z := 1) dX12_differ_224 ?_
                    refine mr_iadd (pc := 225) (x := z7711) (y := 1) dX12_differ_225 ?_
                    refine la_183 (pc := 226) dX12_differ_226 (A_183 hw) T7056 (rIx (n := 24) (rAdd (e := 1) (f := 21) h7777 (rR (x := 1)) rfl) rfl) fun z7781 q7782 h7783 => ?_
                    refine mr_lcmp (pc := 227) dX12_differ_227 ?_
                    refine mr_gen (P := fun z => (-1) ≤ z ∧ z ≤ 1) (lg_cmp_r _ _) fun z7784 q7785 h7786 => ?_
                    refine mr_if_ne (pc := 228) (tgt := 234) dX12_differ_228 (by decide) (r32 h7786 rfl) (fun h7829 => ?_) (fun h7829 => ?_)
                    · refine sv_aload_n (pc := 234) dX12_differ_234 rfl rfl ?_
                      refine mr_iload_n (pc := 235) (z := p1) dX12_differ_235 rfl rfl ?_
                      refine sv_aload_n (pc := 236) dX12_differ_236 rfl rfl ?_
                      refine gf_X12_117 (pc := 237) dX12_differ_237 wF_X12_511 (A_106 hw) T7056 ?_
                      refine mr_iload (pc := 240) (z := z7711) dX12_differ_240 rfl ?_
                      refine lk_183 (pc := 242) dX12_differ_242 (A_183 hw) (rIx (n := 24) h7777 rfl) q7779 ?_
                      refine mr_l2i (pc := 243) dX12_differ_243 ?_
                      refine mr_gen (P := fun z => (-2147483648) ≤ z ∧ z ≤ 2147483647) (r32i _) fun z7830 q7831 h7832 => ?_
                      have W7838 := (((((((W7720 z7712 z7711 rfl h7714 h7715).2 h7775) z7778 q7779 h7780) z7781 q7782 h7783) z7784 q7785).1 h7829) z7830 q7831)
                      refine mr_cVP (pc := 244) (c_X12_sends_W hw T7056 h14 h7832 W7838) (gOk _ _ _ _ _) dX12_differ_244 (tX12_sends _ _ _ _ _) ⟨wV_X12_sends, wL_X12_sends⟩ wM_X12_686 (gCX12 _ _ _ _ _) rfl (A_106 hw) rfl ⟨le_t rfl, le_t rfl⟩ ⟨le_t rfl, le_t rfl⟩ rfl (le_t rfl) fun z7837 h7836 => ?_
                      refine mr_istore (pc := 247) (lv' := [(7, iv z7837), (0, .ref 106), (1, iv p1), (2, iv p2), (3, iv z5067), (4, jv z7712), (6, iv z7711)]) dX12_differ_247 (by decide) rfl ?_
                      refine sv_aload_n (pc := 249) dX12_differ_249 rfl rfl ?_
                      refine mr_iload_n (pc := 250) (z := p2) dX12_differ_250 rfl rfl ?_
                      refine sv_aload_n (pc := 251) dX12_differ_251 rfl rfl ?_
                      refine gf_X12_117 (pc := 252) dX12_differ_252 wF_X12_511 (A_106 hw) T7056 ?_
                      refine mr_iload (pc := 255) (z := z7711) dX12_differ_255 rfl ?_
                      refine lk_183 (pc := 257) dX12_differ_257 (A_183 hw) (rIx (n := 24) h7777 rfl) q7779 ?_
                      refine mr_l2i (pc := 258) dX12_differ_258 ?_
                      refine mr_gen (P := fun z => (-2147483648) ≤ z ∧ z ≤ 2147483647) (r32i _) fun z7839 q7840 h7841 => ?_
                      refine mr_cVP (pc := 259) (c_X12_sends_W hw T7056 h24 h7841 ((h7836.2.2.1 h7836.1) z7839 q7840)) (gOk _ _ _ _ _) dX12_differ_259 (tX12_sends _ _ _ _ _) ⟨wV_X12_sends, wL_X12_sends⟩ wM_X12_686 (gCX12 _ _ _ _ _) rfl (A_106 hw) rfl ⟨le_t rfl, le_t rfl⟩ ⟨le_t rfl, le_t rfl⟩ rfl (le_t rfl) fun z7846 h7845 => ?_
                      refine mr_istore (pc := 262) (lv' := [(8, iv z7846), (7, iv z7837), (0, .ref 106), (1, iv p1), (2, iv p2), (3, iv z5067), (4, jv z7712), (6, iv z7711)]) dX12_differ_262 (by decide) rfl ?_
                      refine mr_iload (pc := 264) (z := z7837) dX12_differ_264 rfl ?_
                      have J7864 : ∀ (z7862 : Int), ((0 ≤ z7862 ∧ z7862 ≤ 1)) → ((WJ_X12_differ_W_4 (loopF (WL_X12_differ_W_3 w p1 p2 Q z5067 μ7053) False nL7713) z7712 z7711 z7778 z7781) z7862) → sV (gG l D c H0 sa) mX12_differ (sRm 4 0 0) (sZ (gG l D c H0 sa) 0 0 (qJ w [183999] μ (fun z μ1 => ((-9223372036854775808) ≤ z ∧ z ≤ 9223372036854775807) ∧ Q z μ1 ∧ True))) 311 [(0, .ref 106), (1, iv p1), (2, iv p2), (3, iv z5067), (4, jv z7712), (6, iv z7711)] [iv z7862] (mk w μ7053) 0 0 := by
                        intro z7862 h7863 W7865
                        refine mr_istore (pc := 311) (lv' := [(9, iv z7862), (0, .ref 106), (1, iv p1), (2, iv p2), (3, iv z5067), (4, jv z7712), (6, iv z7711)]) dX12_differ_311 (by decide) rfl ?_
                        refine mr_iload (pc := 313) (z := z7862) dX12_differ_313 rfl ?_
                        refine mr_if_ne (pc := 315) (tgt := 340) dX12_differ_315 (by decide) (r32 h7863 rfl) (fun h7874 => ?_) (fun h7874 => ?_)
                        · have h7875 : 1 ≤ z7862 ∧ z7862 ≤ 1 := (vc_X12_ring_24 h7874 h7863)
                          refine mr_iinc (pc := 340) (lv' := [(6, iv (z7711 + 1)), (9, iv z7862), (0, .ref 106), (1, iv p1), (2, iv p2), (3, iv z5067), (4, jv z7712)]) dX12_differ_340 rfl (by decide) rfl ?_
                          refine sv_goto (pc := 343) (tgt := 203) dX12_differ_343 (by decide) ?_
                          refine mr_lvS (lv' := [(0, .ref 106), (1, iv p1), (2, iv p2), (3, iv z5067), (4, jv z7712), (6, iv (z7711 + 1))]) (List.forall_mem_cons.mpr ⟨rfl, List.forall_mem_cons.mpr ⟨rfl, List.forall_mem_cons.mpr ⟨rfl, List.forall_mem_cons.mpr ⟨rfl, List.forall_mem_cons.mpr ⟨rfl, List.forall_mem_cons.mpr ⟨rfl, fun _ h => absurd h List.not_mem_nil⟩⟩⟩⟩⟩⟩) ?_
                          exact ih7721 z7712 (z7711 + 1) trivial h7714 (rW (c := 0) (d := 21) (rAdd (e := 1) (f := 21) h7777 (rR (x := 1)) rfl) rfl) (vc_X12_differ_W_17 (nS h7719) h7775 h5075 h7106 h5071 h5070 h7107 h7777) ((W7865 h7863).1 h7874)
                        have h7876 : 0 ≤ z7862 ∧ z7862 ≤ 0 := (vc_X12_ring_22 h7874 h7863)
                        refine mr_lload (pc := 318) (z := z7712) dX12_differ_318 rfl ?_
                        refine sv_aload_n (pc := 320) dX12_differ_320 rfl rfl ?_
                        refine gf_X12_117 (pc := 321) dX12_differ_321 wF_X12_511 (A_106 hw) T7056 ?_
                        refine mr_iload (pc := 324) (z := z7711) dX12_differ_324 rfl ?_
                        refine mr_iconst (pc := 326) (z := 1) dX12_differ_326 ?_
                        refine mr_iadd (pc := 327) (x := z7711) (y := 1) dX12_differ_327 ?_
                        refine lk_183 (pc := 328) dX12_differ_328 (A_183 hw) (rIx (n := 24) (rAdd (e := 1) (f := 21) h7777 (rR (x := 1)) rfl) rfl) q7782 ?_
                        refine sv_aload_n (pc := 329) dX12_differ_329 rfl rfl ?_
                        refine gf_X12_117 (pc := 330) dX12_differ_330 wF_X12_511 (A_106 hw) T7056 ?_
                        refine mr_iload (pc := 333) (z := z7711) dX12_differ_333 rfl ?_
                        refine lk_183 (pc := 335) dX12_differ_335 (A_183 hw) (rIx (n := 24) h7777 rfl) q7779 ?_
                        refine mr_lsub (pc := 336) dX12_differ_336 ?_
                        refine mr_genL (r64i _) fun z7877 q7878 h7879 => ?_
                        refine mr_ladd (pc := 337) dX12_differ_337 ?_
                        refine mr_genL (r64i _) fun z7880 q7881 h7882 => ?_
                        refine mr_lstore (pc := 338) (lv' := [(4, jv z7880), (9, iv z7862), (0, .ref 106), (1, iv p1), (2, iv p2), (3, iv z5067), (6, iv z7711)]) dX12_differ_338 (by decide) rfl ?_
                        refine mr_iinc (pc := 340) (lv' := [(6, iv (z7711 + 1)), (4, jv z7880), (9, iv z7862), (0, .ref 106), (1, iv p1), (2, iv p2), (3, iv z5067)]) dX12_differ_340 rfl (by decide) rfl ?_
                        refine sv_goto (pc := 343) (tgt := 203) dX12_differ_343 (by decide) ?_
                        refine mr_lvS (lv' := [(0, .ref 106), (1, iv p1), (2, iv p2), (3, iv z5067), (4, jv z7880), (6, iv (z7711 + 1))]) (List.forall_mem_cons.mpr ⟨rfl, List.forall_mem_cons.mpr ⟨rfl, List.forall_mem_cons.mpr ⟨rfl, List.forall_mem_cons.mpr ⟨rfl, List.forall_mem_cons.mpr ⟨rfl, List.forall_mem_cons.mpr ⟨rfl, fun _ h => absurd h List.not_mem_nil⟩⟩⟩⟩⟩⟩) ?_
                        exact ih7721 z7880 (z7711 + 1) trivial h7882 (rW (c := 0) (d := 21) (rAdd (e := 1) (f := 21) h7777 (rR (x := 1)) rfl) rfl) (vc_X12_differ_W_17 (nS h7719) h7775 h5075 h7106 h5071 h5070 h7107 h7777) ((((W7865 h7863).2 h7874) z7877 q7878) z7880 q7881)
                      refine mr_if_lt (pc := 266) (tgt := 274) dX12_differ_266 (by decide) (r32 h7836.1 rfl) (fun h7883 => ?_) (fun h7883 => ?_)
                      · have h7884 : (-99999999) ≤ z7837 ∧ z7837 ≤ (-4) := (vc_X12_differ_W_19 h7883 h7836.2.1 h7836.1)
                        refine mr_iload (pc := 274) (z := z7837) dX12_differ_274 rfl ?_
                        refine mr_iload (pc := 276) (z := z7846) dX12_differ_276 rfl ?_
                        refine mr_icmp_ne (pc := 278) (tgt := 285) dX12_differ_278 (by decide) (r32 h7884 rfl) (r32 h7845.1 rfl) (fun h7885 => ?_) (fun h7885 => ?_)
                        · refine mr_iconst (pc := 285) (z := 0) dX12_differ_285 ?_
                          refine sv_goto (pc := 286) (tgt := 311) dX12_differ_286 (by decide) ?_
                          refine mr_lvS (lv' := [(0, .ref 106), (1, iv p1), (2, iv p2), (3, iv z5067), (4, jv z7712), (6, iv z7711)]) (List.forall_mem_cons.mpr ⟨rfl, List.forall_mem_cons.mpr ⟨rfl, List.forall_mem_cons.mpr ⟨rfl, List.forall_mem_cons.mpr ⟨rfl, List.forall_mem_cons.mpr ⟨rfl, List.forall_mem_cons.mpr ⟨rfl, fun _ h => absurd h List.not_mem_nil⟩⟩⟩⟩⟩⟩) ?_
                          exact J7864 0 (rW (c := 0) (d := 1) (rR (x := 0)) rfl) (((h7845.2.2.1 h7845.1).1 h7883).1 h7885)
                        have h7886 : (-99999999) ≤ z7846 ∧ z7846 ≤ (-4) := (vc_X12_differ_W_20 h7885 h7836.2.1 h7845.2.1 h7883 h7884 h7845.1)
                        refine mr_iconst (pc := 281) (z := 1) dX12_differ_281 ?_
                        refine sv_goto (pc := 282) (tgt := 311) dX12_differ_282 (by decide) ?_
                        refine mr_lvS (lv' := [(0, .ref 106), (1, iv p1), (2, iv p2), (3, iv z5067), (4, jv z7712), (6, iv z7711)]) (List.forall_mem_cons.mpr ⟨rfl, List.forall_mem_cons.mpr ⟨rfl, List.forall_mem_cons.mpr ⟨rfl, List.forall_mem_cons.mpr ⟨rfl, List.forall_mem_cons.mpr ⟨rfl, List.forall_mem_cons.mpr ⟨rfl, fun _ h => absurd h List.not_mem_nil⟩⟩⟩⟩⟩⟩) ?_
                        exact J7864 1 (rW (c := 0) (d := 1) (rR (x := 1)) rfl) (((h7845.2.2.1 h7845.1).1 h7883).2 h7885)
                      have h7887 : 0 ≤ z7837 ∧ z7837 ≤ 19 := (vc_X12_differ_W_21 h7883 h7836.2.1 h7836.1)
                      refine mr_iload (pc := 269) (z := z7846) dX12_differ_269 rfl ?_
                      refine mr_if_ge (pc := 271) (tgt := 289) dX12_differ_271 (by decide) (r32 h7845.1 rfl) (fun h7888 => ?_) (fun h7888 => ?_)
                      · have h7889 : 0 ≤ z7846 ∧ z7846 ≤ 19 := (vc_X12_differ_W_21 h7888 h7845.2.1 h7845.1)
                        refine sv_aload_n (pc := 289) dX12_differ_289 rfl rfl ?_
                        refine mr_iload (pc := 290) (z := z7837) dX12_differ_290 rfl ?_
                        refine mr_iload_n (pc := 292) (z := p1) dX12_differ_292 rfl rfl ?_
                        refine mr_cVP (pc := 293) (c_X12_partnerOf_W hw T7056 h7887 (rW (c := (-2147483648)) (d := 2147483647) h14 rfl) (((h7845.2.2.1 h7845.1).2 h7883).1 h7888)) (gOk _ _ _ _ _) dX12_differ_293 (tX12_partnerOf _ _ _ _ _) ⟨wV_X12_partnerOf, wL_X12_partnerOf⟩ wM_X12_553 (gCX12 _ _ _ _ _) rfl (A_106 hw) rfl ⟨le_t rfl, le_t rfl⟩ ⟨le_t rfl, le_t rfl⟩ rfl (le_t rfl) fun z7894 h7893 => ?_
                        refine sv_aload_n (pc := 296) dX12_differ_296 rfl rfl ?_
                        refine mr_iload (pc := 297) (z := z7846) dX12_differ_297 rfl ?_
                        refine mr_iload_n (pc := 299) (z := p2) dX12_differ_299 rfl rfl ?_
                        refine mr_cVP (pc := 300) (c_X12_partnerOf_W hw T7056 h7889 (rW (c := (-2147483648)) (d := 2147483647) h24 rfl) (h7893.2.1 h7893.1)) (gOk _ _ _ _ _) dX12_differ_300 (tX12_partnerOf _ _ _ _ _) ⟨wV_X12_partnerOf, wL_X12_partnerOf⟩ wM_X12_553 (gCX12 _ _ _ _ _) rfl (A_106 hw) rfl ⟨le_t rfl, le_t rfl⟩ ⟨le_t rfl, le_t rfl⟩ rfl (le_t rfl) fun z7899 h7898 => ?_
                        refine mr_icmp_ne (pc := 303) (tgt := 310) dX12_differ_303 (by decide) (r32 h7893.1 rfl) (r32 h7898.1 rfl) (fun h7900 => ?_) (fun h7900 => ?_)
                        · refine mr_iconst (pc := 310) (z := 0) dX12_differ_310 ?_
                          refine mr_lvS (lv' := [(0, .ref 106), (1, iv p1), (2, iv p2), (3, iv z5067), (4, jv z7712), (6, iv z7711)]) (List.forall_mem_cons.mpr ⟨rfl, List.forall_mem_cons.mpr ⟨rfl, List.forall_mem_cons.mpr ⟨rfl, List.forall_mem_cons.mpr ⟨rfl, List.forall_mem_cons.mpr ⟨rfl, List.forall_mem_cons.mpr ⟨rfl, fun _ h => absurd h List.not_mem_nil⟩⟩⟩⟩⟩⟩) ?_
                          exact J7864 0 (rW (c := 0) (d := 1) (rR (x := 0)) rfl) ((h7898.2.1 h7898.1).1 h7900)
                        refine mr_iconst (pc := 306) (z := 1) dX12_differ_306 ?_
                        refine sv_goto (pc := 307) (tgt := 311) dX12_differ_307 (by decide) ?_
                        refine mr_lvS (lv' := [(0, .ref 106), (1, iv p1), (2, iv p2), (3, iv z5067), (4, jv z7712), (6, iv z7711)]) (List.forall_mem_cons.mpr ⟨rfl, List.forall_mem_cons.mpr ⟨rfl, List.forall_mem_cons.mpr ⟨rfl, List.forall_mem_cons.mpr ⟨rfl, List.forall_mem_cons.mpr ⟨rfl, List.forall_mem_cons.mpr ⟨rfl, fun _ h => absurd h List.not_mem_nil⟩⟩⟩⟩⟩⟩) ?_
                        exact J7864 1 (rW (c := 0) (d := 1) (rR (x := 1)) rfl) ((h7898.2.1 h7898.1).2 h7900)
                      have h7901 : (-99999999) ≤ z7846 ∧ z7846 ≤ (-4) := (vc_X12_differ_W_19 h7888 h7845.2.1 h7845.1)
                      refine mr_iload (pc := 274) (z := z7837) dX12_differ_274 rfl ?_
                      refine mr_iload (pc := 276) (z := z7846) dX12_differ_276 rfl ?_
                      refine mr_icmp_ne (pc := 278) (tgt := 285) dX12_differ_278 (by decide) (r32 h7887 rfl) (r32 h7901 rfl) (fun _ => ?_) (fun h => ((vc_X12_differ_W_24 h h7887 h7836.2.1 h7901 h7845.2.1)).elim)
                      refine mr_iconst (pc := 285) (z := 0) dX12_differ_285 ?_
                      refine sv_goto (pc := 286) (tgt := 311) dX12_differ_286 (by decide) ?_
                      refine mr_lvS (lv' := [(0, .ref 106), (1, iv p1), (2, iv p2), (3, iv z5067), (4, jv z7712), (6, iv z7711)]) (List.forall_mem_cons.mpr ⟨rfl, List.forall_mem_cons.mpr ⟨rfl, List.forall_mem_cons.mpr ⟨rfl, List.forall_mem_cons.mpr ⟨rfl, List.forall_mem_cons.mpr ⟨rfl, List.forall_mem_cons.mpr ⟨rfl, fun _ h => absurd h List.not_mem_nil⟩⟩⟩⟩⟩⟩) ?_
                      exact J7864 0 (rW (c := 0) (d := 1) (rR (x := 0)) rfl) (((h7845.2.2.1 h7845.1).2 h7883).2 h7888)
                    have h7902 : 0 ≤ z7784 ∧ z7784 ≤ 0 := (vc_X12_waysMatch_5 h7829 h7786)
                    refine sv_goto (pc := 231) (tgt := 340) dX12_differ_231 (by decide) ?_
                    refine mr_iinc (pc := 340) (lv' := [(6, iv (z7711 + 1)), (0, .ref 106), (1, iv p1), (2, iv p2), (3, iv z5067), (4, jv z7712)]) dX12_differ_340 rfl (by decide) rfl ?_
                    refine sv_goto (pc := 343) (tgt := 203) dX12_differ_343 (by decide) ?_
                    refine mr_lvS (lv' := [(0, .ref 106), (1, iv p1), (2, iv p2), (3, iv z5067), (4, jv z7712), (6, iv (z7711 + 1))]) (List.forall_mem_cons.mpr ⟨rfl, List.forall_mem_cons.mpr ⟨rfl, List.forall_mem_cons.mpr ⟨rfl, List.forall_mem_cons.mpr ⟨rfl, List.forall_mem_cons.mpr ⟨rfl, List.forall_mem_cons.mpr ⟨rfl, fun _ h => absurd h List.not_mem_nil⟩⟩⟩⟩⟩⟩) ?_
                    exact ih7721 z7712 (z7711 + 1) trivial h7714 (rW (c := 0) (d := 21) (rAdd (e := 1) (f := 21) h7777 (rR (x := 1)) rfl) rfl) (vc_X12_differ_W_17 (nS h7719) h7775 h5075 h7106 h5071 h5070 h7107 h7777) ((((((W7720 z7712 z7711 rfl h7714 h7715).2 h7775) z7778 q7779 h7780) z7781 q7782 h7783) z7784 q7785).2 h7829)
                refine mr_lvS (lv' := [(0, .ref 106), (1, iv p1), (2, iv p2), (3, iv z5067), (4, jv 0), (6, iv 0)]) (List.forall_mem_cons.mpr ⟨rfl, List.forall_mem_cons.mpr ⟨rfl, List.forall_mem_cons.mpr ⟨rfl, List.forall_mem_cons.mpr ⟨rfl, List.forall_mem_cons.mpr ⟨rfl, List.forall_mem_cons.mpr ⟨rfl, fun _ h => absurd h List.not_mem_nil⟩⟩⟩⟩⟩⟩) ?_
                exact L7713 23 0 0 trivial (rW (c := -9223372036854775808) (d := 9223372036854775807) (rR (x := 0)) rfl) (rW (c := 0) (d := 21) (rR (x := 0)) rfl) vc_X12_differ_W_26 ((W7060 z7052 μ7053 rfl h7055 T7056 F7057).1 h7106)
              have h7903 : 1 ≤ z7052 ∧ z7052 ≤ 21 := (vc_X12_differ_W_27 h7106 h5075 h5071 h5070 h7055)
              refine mr_iload (pc := 120) (z := z7052) dX12_differ_120 rfl ?_
              refine mr_istore (pc := 122) (lv' := [(5, iv z7052), (0, .ref 106), (1, iv p1), (2, iv p2), (3, iv z5067), (4, iv z7052)]) dX12_differ_122 (by decide) rfl ?_
              have L7967 : ∀ (nL7967 : Nat) (z7965 : Int) (μ7966 : mM), mT w μ7966 → mF [183999] w μ7053 μ7966 → (0 ≤ z7965 ∧ z7965 ≤ 21) → (z7965 - (-1)) < (nL7967 : Int) → loopF (WL_X12_differ_W_5 w (loopF (WL_X12_differ_W_2 w p1 p2 Q z5067 μ5068) False nL7054) z7052 μ7053) False nL7967 (z7965, μ7966) → sV (gG l D c H0 sa) mX12_differ (sRm 4 0 0) (sZ (gG l D c H0 sa) 0 0 (qJ w [183999] μ (fun z μ1 => ((-9223372036854775808) ≤ z ∧ z ≤ 9223372036854775807) ∧ Q z μ1 ∧ True))) 124 [(0, .ref 106), (1, iv p1), (2, iv p2), (3, iv z5067), (4, iv z7052), (5, iv z7965)] [] (mk w μ7966) 0 0 := by
                intro nL7967
                induction nL7967 with
                | zero => intro z7965 μ7966 T7969 F7970 h7968 h7972 W7973; exact ((vc_X12_differ_W_28 h7972 h7968)).elim
                | succ nL7967 ih7974 =>
                  intro z7965 μ7966 T7969 F7970 h7968 h7972 W7973
                  refine mr_iload (pc := 124) (z := z7965) dX12_differ_124 rfl ?_
                  refine mr_if_le (pc := 126) (tgt := 191) dX12_differ_126 (by decide) (r32 h7968 rfl) (fun h7994 => ?_) (fun h7994 => ?_)
                  · have h7995 : 0 ≤ z7965 ∧ z7965 ≤ 0 := (vc_X12_differ_W_29 h7994 h7968)
                    refine mr_iinc (pc := 191) (lv' := [(4, iv (z7052 + 1)), (0, .ref 106), (1, iv p1), (2, iv p2), (3, iv z5067), (5, iv z7965)]) dX12_differ_191 rfl (by decide) rfl ?_
                    refine sv_goto (pc := 194) (tgt := 114) dX12_differ_194 (by decide) ?_
                    refine mr_lvS (lv' := [(0, .ref 106), (1, iv p1), (2, iv p2), (3, iv z5067), (4, iv (z7052 + 1))]) (List.forall_mem_cons.mpr ⟨rfl, List.forall_mem_cons.mpr ⟨rfl, List.forall_mem_cons.mpr ⟨rfl, List.forall_mem_cons.mpr ⟨rfl, List.forall_mem_cons.mpr ⟨rfl, fun _ h => absurd h List.not_mem_nil⟩⟩⟩⟩⟩) ?_
                    exact ih7061 (z7052 + 1) μ7966 T7969 (mF.call (mF.call mF.refl F7057 rfl) F7970 rfl) (rW (c := 1) (d := 22) (rAdd (e := 2) (f := 22) h7903 (rR (x := 1)) rfl) rfl) (vc_X12_differ_W_30 (nS h7059) h7106 h5075 h5071 h5070 h7903) ((W7973 z7965 μ7966 rfl h7968 T7969 F7970).1 h7994)
                  have h7996 : 1 ≤ z7965 ∧ z7965 ≤ 21 := (vc_X12_differ_W_31 h7994 h7968)
                  refine sv_aload_n (pc := 129) dX12_differ_129 rfl rfl ?_
                  refine gf_X12_117 (pc := 130) dX12_differ_130 wF_X12_511 (A_106 hw) T7969 ?_
                  refine mr_iload (pc := 133) (z := z7965) dX12_differ_133 rfl ?_
                  refine la_183 (pc := 135) dX12_differ_135 (A_183 hw) T7969 (rIx (n := 24) h7996 rfl) fun z7997 q7998 h7999 => ?_
                  refine sv_aload_n (pc := 136) dX12_differ_136 rfl rfl ?_
                  refine gf_X12_117 (pc := 137) dX12_differ_137 wF_X12_511 (A_106 hw) T7969 ?_
                  refine mr_iload (pc := 140) (z := z7965) dX12_differ_140 rfl ?_
                  refine mr_iconst (pc := 142) (z := 1) dX12_differ_142 ?_
                  refine mr_isub (pc := 143) (x := z7965) (y := 1) dX12_differ_143 ?_
                  refine la_183 (pc := 144) dX12_differ_144 (A_183 hw) T7969 (rIx (n := 24) (rSub (e := 0) (f := 20) h7996 (rR (x := 1)) rfl) rfl) fun z8000 q8001 h8002 => ?_
                  refine mr_lcmp (pc := 145) dX12_differ_145 ?_
                  refine mr_gen (P := fun z => (-1) ≤ z ∧ z ≤ 1) (lg_cmp_r _ _) fun z8003 q8004 h8005 => ?_
                  refine mr_if_ge (pc := 146) (tgt := 191) dX12_differ_146 (by decide) (r32 h8005 rfl) (fun h8014 => ?_) (fun h8014 => ?_)
                  · have h8015 : 0 ≤ z8003 ∧ z8003 ≤ 1 := (vc_X8_gather_W_8 h8014 h8005)
                    refine mr_iinc (pc := 191) (lv' := [(4, iv (z7052 + 1)), (0, .ref 106), (1, iv p1), (2, iv p2), (3, iv z5067), (5, iv z7965)]) dX12_differ_191 rfl (by decide) rfl ?_
                    refine sv_goto (pc := 194) (tgt := 114) dX12_differ_194 (by decide) ?_
                    refine mr_lvS (lv' := [(0, .ref 106), (1, iv p1), (2, iv p2), (3, iv z5067), (4, iv (z7052 + 1))]) (List.forall_mem_cons.mpr ⟨rfl, List.forall_mem_cons.mpr ⟨rfl, List.forall_mem_cons.mpr ⟨rfl, List.forall_mem_cons.mpr ⟨rfl, List.forall_mem_cons.mpr ⟨rfl, fun _ h => absurd h List.not_mem_nil⟩⟩⟩⟩⟩) ?_
                    exact ih7061 (z7052 + 1) μ7966 T7969 (mF.call (mF.call mF.refl F7057 rfl) F7970 rfl) (rW (c := 1) (d := 22) (rAdd (e := 2) (f := 22) h7903 (rR (x := 1)) rfl) rfl) (vc_X12_differ_W_30 (nS h7059) h7106 h5075 h5071 h5070 h7903) ((((((W7973 z7965 μ7966 rfl h7968 T7969 F7970).2 h7994) z7997 q7998 h7999) z8000 q8001 h8002) z8003 q8004).1 h8014)
                  have h8016 : (-1) ≤ z8003 ∧ z8003 ≤ (-1) := (vc_X8_gather_W_7 h8014 h8005)
                  refine sv_aload_n (pc := 149) dX12_differ_149 rfl rfl ?_
                  refine gf_X12_117 (pc := 150) dX12_differ_150 wF_X12_511 (A_106 hw) T7969 ?_
                  refine mr_iload (pc := 153) (z := z7965) dX12_differ_153 rfl ?_
                  refine lk_183 (pc := 155) dX12_differ_155 (A_183 hw) (rIx (n := 24) h7996 rfl) q7998 ?_
                  refine mr_lstore (pc := 156) (lv' := [(6, jv z7997), (0, .ref 106), (1, iv p1), (2, iv p2), (3, iv z5067), (4, iv z7052), (5, iv z7965)]) dX12_differ_156 (by decide) rfl ?_
                  refine sv_aload_n (pc := 158) dX12_differ_158 rfl rfl ?_
                  refine gf_X12_117 (pc := 159) dX12_differ_159 wF_X12_511 (A_106 hw) T7969 ?_
                  refine mr_iload (pc := 162) (z := z7965) dX12_differ_162 rfl ?_
                  refine sv_aload_n (pc := 164) dX12_differ_164 rfl rfl ?_
                  refine gf_X12_117 (pc := 165) dX12_differ_165 wF_X12_511 (A_106 hw) T7969 ?_
                  refine mr_iload (pc := 168) (z := z7965) dX12_differ_168 rfl ?_
                  refine mr_iconst (pc := 170) (z := 1) dX12_differ_170 ?_
                  refine mr_isub (pc := 171) (x := z7965) (y := 1) dX12_differ_171 ?_
                  refine lk_183 (pc := 172) dX12_differ_172 (A_183 hw) (rIx (n := 24) (rSub (e := 0) (f := 20) h7996 (rR (x := 1)) rfl) rfl) q8001 ?_
                  refine ss_183 (pc := 173) dX12_differ_173 (A_183 hw) T7969 (rIx (n := 24) h7996 rfl) h8002 fun μ8017 u8018 T8019 => ?_
                  refine sv_aload_n (pc := 174) dX12_differ_174 rfl rfl ?_
                  refine gf_X12_117 (pc := 175) dX12_differ_175 wF_X12_511 (A_106 hw) T8019 ?_
                  refine mr_iload (pc := 178) (z := z7965) dX12_differ_178 rfl ?_
                  refine mr_iconst (pc := 180) (z := 1) dX12_differ_180 ?_
                  refine mr_isub (pc := 181) (x := z7965) (y := 1) dX12_differ_181 ?_
                  refine mr_lload (pc := 182) (z := z7997) dX12_differ_182 rfl ?_
                  refine ss_183 (pc := 184) dX12_differ_184 (A_183 hw) T8019 (rIx (n := 24) (rSub (e := 0) (f := 20) h7996 (rR (x := 1)) rfl) rfl) h7999 fun μ8020 u8021 T8022 => ?_
                  refine mr_iinc (pc := 185) (lv' := [(5, iv (z7965 + (-1))), (6, jv z7997), (0, .ref 106), (1, iv p1), (2, iv p2), (3, iv z5067), (4, iv z7052)]) dX12_differ_185 rfl (by decide) rfl ?_
                  refine sv_goto (pc := 188) (tgt := 124) dX12_differ_188 (by decide) ?_
                  refine mr_lvS (lv' := [(0, .ref 106), (1, iv p1), (2, iv p2), (3, iv z5067), (4, iv z7052), (5, iv (z7965 + (-1)))]) (List.forall_mem_cons.mpr ⟨rfl, List.forall_mem_cons.mpr ⟨rfl, List.forall_mem_cons.mpr ⟨rfl, List.forall_mem_cons.mpr ⟨rfl, List.forall_mem_cons.mpr ⟨rfl, List.forall_mem_cons.mpr ⟨rfl, fun _ h => absurd h List.not_mem_nil⟩⟩⟩⟩⟩⟩) ?_
                  exact ih7974 (z7965 + (-1)) μ8020 T8022 (mF.up (mF.up (mF.call mF.refl F7970 rfl) (A_183 hw) u8018 rfl) (A_183 hw) u8021 rfl) (rW (c := 0) (d := 21) (rAdd (e := 0) (f := 20) h7996 (rR (x := (-1))) rfl) rfl) (vc_X12_differ_W_34 (nS h7972) h7994 h7996) ((((((((W7973 z7965 μ7966 rfl h7968 T7969 F7970).2 h7994) z7997 q7998 h7999) z8000 q8001 h8002) z8003 q8004).2 h8014) μ8017 u8018 T8019) μ8020 u8021 T8022)
              refine mr_lvS (lv' := [(0, .ref 106), (1, iv p1), (2, iv p2), (3, iv z5067), (4, iv z7052), (5, iv z7052)]) (List.forall_mem_cons.mpr ⟨rfl, List.forall_mem_cons.mpr ⟨rfl, List.forall_mem_cons.mpr ⟨rfl, List.forall_mem_cons.mpr ⟨rfl, List.forall_mem_cons.mpr ⟨rfl, List.forall_mem_cons.mpr ⟨rfl, fun _ h => absurd h List.not_mem_nil⟩⟩⟩⟩⟩⟩) ?_
              exact L7967 23 z7052 μ7053 T7056 mF.refl (rW (c := 0) (d := 21) h7903 rfl) (vc_X12_differ_W_35 h7106 h5075 h5071 h5070 h7903) ((W7060 z7052 μ7053 rfl h7055 T7056 F7057).2 h7106)
          refine mr_lvS (lv' := [(0, .ref 106), (1, iv p1), (2, iv p2), (3, iv z5067), (4, iv 1)]) (List.forall_mem_cons.mpr ⟨rfl, List.forall_mem_cons.mpr ⟨rfl, List.forall_mem_cons.mpr ⟨rfl, List.forall_mem_cons.mpr ⟨rfl, List.forall_mem_cons.mpr ⟨rfl, fun _ h => absurd h List.not_mem_nil⟩⟩⟩⟩⟩) ?_
          exact L7054 23 1 μ5068 T5072 mF.refl (rW (c := 1) (d := 22) (rR (x := 1)) rfl) vc_X12_differ_W_36 (((W5077 z5067 z5066 μ5068 rfl h5070 h5071 T5072 F5073) z5079 q5080 h5081).1 h5108)
        have h8023 : 0 ≤ z5066 ∧ z5066 ≤ 9 := (vc_X12_differ_W_37 h5108 h5075 h5071 h5070 h5081)
        have h8024 : 1 ≤ z5079 ∧ z5079 ≤ 10 := (vc_X12_differ_W_38 h5108 h5075 h8023 h5070 h5081)
        refine sv_aload_n (pc := 56) dX12_differ_56 rfl rfl ?_
        refine gf_X12_3 (pc := 57) dX12_differ_57 wF_X12_22 (A_106 hw) T5072 ?_
        refine mr_iload (pc := 60) (z := z5066) dX12_differ_60 rfl ?_
        refine la_108 (pc := 62) dX12_differ_62 (A_108 hw) T5072 (rIx (n := 10) h8023 rfl) fun z8025 q8026 h8027 => ?_
        refine mr_i2l (pc := 63) dX12_differ_63 h8027 ?_
        refine mr_genL (r3264 h8027) fun z8028 q8029 h8030 => ?_
        refine mr_ldc2 (pc := 64) (z := 4294967295) dX12_differ_64 wH_X12_714 (by decide) ?_
        refine mr_land (pc := 67) dX12_differ_67 ?_
        refine mr_genL (r64i _) fun z8031 q8032 h8033 => ?_
        refine mr_lstore (pc := 68) (lv' := [(5, jv z8031), (0, .ref 106), (1, iv p1), (2, iv p2), (3, iv z5067), (4, iv z5066)]) dX12_differ_68 (by decide) rfl ?_
        refine sv_aload_n (pc := 70) dX12_differ_70 rfl rfl ?_
        refine gf_X12_117 (pc := 71) dX12_differ_71 wF_X12_511 (A_106 hw) T5072 ?_
        refine mr_iload_n (pc := 74) (z := z5067) dX12_differ_74 rfl rfl ?_
        refine mr_iinc (pc := 75) (lv' := [(3, iv (z5067 + 1)), (5, jv z8031), (0, .ref 106), (1, iv p1), (2, iv p2), (4, iv z5066)]) dX12_differ_75 rfl (by decide) rfl ?_
        refine mr_lload (pc := 78) (z := z8031) dX12_differ_78 rfl ?_
        refine ss_183 (pc := 80) dX12_differ_80 (A_183 hw) T5072 (rIx (n := 24) h5070 rfl) h8033 fun μ8034 u8035 T8036 => ?_
        refine sv_aload_n (pc := 81) dX12_differ_81 rfl rfl ?_
        refine gf_X12_117 (pc := 82) dX12_differ_82 wF_X12_511 (A_106 hw) T8036 ?_
        refine mr_iload_n (pc := 85) (z := (z5067 + 1)) dX12_differ_85 rfl rfl ?_
        refine mr_iinc (pc := 86) (lv' := [(3, iv ((z5067 + 1) + 1)), (5, jv z8031), (0, .ref 106), (1, iv p1), (2, iv p2), (4, iv z5066)]) dX12_differ_86 rfl (by decide) rfl ?_
        refine mr_lload (pc := 89) (z := z8031) dX12_differ_89 rfl ?_
        refine mr_lconst (pc := 91) (z := 1) dX12_differ_91 (by decide) ?_
        refine mr_bipush (pc := 92) (z := 32) dX12_differ_92 (by decide) ?_
        refine sv_aload_n (pc := 94) dX12_differ_94 rfl rfl ?_
        refine gf_X12_4 (pc := 95) dX12_differ_95 wF_X12_26 (A_106 hw) T8036 ?_
        refine mr_iload (pc := 98) (z := z5066) dX12_differ_98 rfl ?_
        refine la_109 (pc := 100) dX12_differ_100 (A_109 hw) T8036 (rIx (n := 10) h8023 rfl) fun z8037 q8038 h8039 => ?_
        refine mr_isub (pc := 101) (x := 32) (y := z8037) dX12_differ_101 ?_
        refine mr_lshl (pc := 102) dX12_differ_102 ?_
        refine mr_genL (r64i _) fun z8040 q8041 h8042 => ?_
        refine mr_ladd (pc := 103) dX12_differ_103 ?_
        refine mr_genL (r64i _) fun z8043 q8044 h8045 => ?_
        refine ss_183 (pc := 104) dX12_differ_104 (A_183 hw) T8036 (rIx (n := 24) (rAdd (e := 3) (f := 23) h5070 (rR (x := 1)) rfl) rfl) h8045 fun μ8046 u8047 T8048 => ?_
        refine mr_iinc (pc := 105) (lv' := [(4, iv (z5066 + 1)), (3, iv ((z5067 + 1) + 1)), (5, jv z8031), (0, .ref 106), (1, iv p1), (2, iv p2)]) dX12_differ_105 rfl (by decide) rfl ?_
        refine sv_goto (pc := 108) (tgt := 47) dX12_differ_108 (by decide) ?_
        refine mr_lvS (lv' := [(0, .ref 106), (1, iv p1), (2, iv p2), (3, iv ((z5067 + 1) + 1)), (4, iv (z5066 + 1))]) (List.forall_mem_cons.mpr ⟨rfl, List.forall_mem_cons.mpr ⟨rfl, List.forall_mem_cons.mpr ⟨rfl, List.forall_mem_cons.mpr ⟨rfl, List.forall_mem_cons.mpr ⟨rfl, fun _ h => absurd h List.not_mem_nil⟩⟩⟩⟩⟩) ?_
        exact ih5078 ((z5067 + 1) + 1) (z5066 + 1) μ8046 T8048 (mF.up (mF.up (mF.call mF.refl F5073 rfl) (A_183 hw) u8035 rfl) (A_183 hw) u8047 rfl) (vc_X12_differ_W_39 h5075 h5108 h8023 h5070 h8024) (rW (c := 0) (d := 10) (rAdd (e := 1) (f := 10) h8023 (rR (x := 1)) rfl) rfl) (vc_X12_differ_W_40 h5075 h5108 h8023 h5070 h8024) (vc_X12_differ_W_41 (nS h5076) h5075 h5108 h8023 h5070 h8024) (((((((((((W5077 z5067 z5066 μ5068 rfl h5070 h5071 T5072 F5073) z5079 q5080 h5081).2 h5108) z8025 q8026 h8027) z8028 q8029) z8031 q8032) μ8034 u8035 T8036) z8037 q8038 h8039) z8040 q8041) z8043 q8044) μ8046 u8047 T8048)
    refine mr_lvS (lv' := [(0, .ref 106), (1, iv p1), (2, iv p2), (3, iv 2), (4, iv 0)]) (List.forall_mem_cons.mpr ⟨rfl, List.forall_mem_cons.mpr ⟨rfl, List.forall_mem_cons.mpr ⟨rfl, List.forall_mem_cons.mpr ⟨rfl, List.forall_mem_cons.mpr ⟨rfl, fun _ h => absurd h List.not_mem_nil⟩⟩⟩⟩⟩) ?_
    exact L5069 22 2 0 μ28 T30 mF.refl (rW (c := 2) (d := 22) (rR (x := 2)) rfl) (rW (c := 0) (d := 10) (rR (x := 0)) rfl) vc_X12_differ_W_42 vc_X12_differ_W_43 ((((h19.2.2.2.1 h19.1).1 h21) μ25 u26 T27) μ28 u29 T30)
  have h8049 : 0 ≤ z20 ∧ z20 ≤ 0 := (vc_X12_cone_79 h21 h19.2.1 h19.2.2.1 hp2 h15 h19.1)
  have h8050 : p2 < 0 ∨ z1 ≤ p2 := (h19.2.2.1 (vc_X12_tie_W_8 h19.2.1 h19.2.2.1 h21 h7.2.1 h7.2.2.1 h13 h14 hp2 h15 h8049 h12))
  refine mr_ldc2 (pc := 16) (z := (-1)) dX12_differ_16 wH_X12_710 (by decide) ?_
  exact mr_lret dX12_differ_19 rfl (le_t rfl) (le_t rfl) hT mF.refl ⟨(rW (c := -9223372036854775808) (d := 9223372036854775807) (rR (x := (-1))) rfl), ((h19.2.2.2.1 h19.1).2 h21), trivial⟩
def WJ_X2_isSplit_W_2 (w : mW) (μ : mM) (p1 : Int) (Q : Int → mM → Prop) (rec1 : (Int) → Prop) (z223 : Int) (z249 : Int) : Prop := (0 ≤ z249 ∧ z249 ≤ 1) → ((z249 = 0) → rec1 ((z223 + 1))) ∧ ((¬ z249 = 0) → ∀ b256 : Nat, μ 10 (p1.toNat) = (b256 : Int) → mAt w b256 210 → ∀ z260 : Int, μ (b256 + 3) (z223.toNat) = z260 → ((z260 = -99999999 ∨ z260 = -4 ∨ (0 ≤ z260 ∧ z260 ≤ 19)) ∧ (0 ≤ z260 → z260 < w.2.2.2 1)) → ((z260 = (-99999999)) → rec1 ((z223 + 1))) ∧ ((¬ z260 = (-99999999)) → Q (1 : Int) μ))
def WL_X2_isSplit_W_1 (w : mW) (μ : mM) (p1 : Int) (p2 : Int) (p3 : Int) (Q : Int → mM → Prop) (z5 : Int) (rec1 : (Int) → Prop) (s : (Int)) : Prop := ∀ z223 : Int, s = (z223) → (0 ≤ z223 ∧ z223 ≤ 10) → ∀ z232 : Int, μ 6 14 = z232 → (0 ≤ z232 ∧ z232 ≤ 10) → ((z232 ≤ z223) → Q (0 : Int) μ) ∧ ((z223 < z232) → ∀ z238 : Int, μ 8 (z223.toNat) = z238 → (0 ≤ z238 ∧ z238 ≤ 32) → ((z238 ≤ p3) → (WJ_X2_isSplit_W_2 w μ p1 Q rec1 z223) (0 : Int)) ∧ ((p3 < z238) → ∀ z270 : Int, μ 7 (z223.toNat) = z270 → ((-2147483648) ≤ z270 ∧ z270 ≤ 2147483647) → ∀ z273 : Int, bAnd z270 z5 = z273 → ((¬ z273 = p2) → (WJ_X2_isSplit_W_2 w μ p1 Q rec1 z223) (0 : Int)) ∧ ((z273 = p2) → (WJ_X2_isSplit_W_2 w μ p1 Q rec1 z223) (1 : Int))))
def WP_X2_isSplit_W (w : mW) (μ : mM) (p1 : Int) (p2 : Int) (p3 : Int) (Q : Int → mM → Prop) : Prop := WP_X10_maskOf_W w μ p3 (fun z5 _ => ((-2147483648) ≤ z5 ∧ z5 ≤ 2147483647) → loopF (WL_X2_isSplit_W_1 w μ p1 p2 p3 Q z5) False 12 ((0 : Int)))
def WP_X2_aimBit_W (w : mW) (μ : mM) (p1 : Int) (Q : Int → mM → Prop) : Prop := ((¬ p1 = (-4)) → ((0 ≤ p1) → ∀ z9 : Int, bShl (1 : Int) p1 = z9 → Q z9 μ) ∧ ((p1 < 0) → Q (2097152 : Int) μ)) ∧ ((p1 = (-4)) → Q (1048576 : Int) μ)
def WP_X2_leastBelow_W32 (w : mW) (μ : mM) (p1 : Int) (p2 : Int) (p3 : Int) (Q : Int → mM → Prop) : Prop := WP_X2_tieFor_W w μ p1 p2 (fun z5 _ => ((-99999999) ≤ z5 ∧ z5 ≤ 19) → WP_X2_aimBit_W w μ z5 (fun z10 _ => ((-2147483648) ≤ z10 ∧ z10 ≤ 2147483647) → Q z10 μ))
def WP_X2_leastBelow_W31 (w : mW) (μ : mM) (p1 : Int) (p2 : Int) (p3 : Int) (Q : Int → mM → Prop) : Prop := WP_X2_isSplit_W w μ p1 p2 p3 (fun z5 _ => (0 ≤ z5 ∧ z5 ≤ 1) → ((¬ z5 = 0) → WP_X2_leastBelow_W32 w μ p1 p2 (p3 + 1) (fun z12 μ8 => mT w μ8 → mF [87007] w μ μ8 → ((-2147483648) ≤ z12 ∧ z12 ≤ 2147483647) → ∀ z13 : Int, bShl (1 : Int) (31 - p3) = z13 → ∀ z16 : Int, bOr p2 z13 = z16 → WP_X2_leastBelow_W32 w μ8 p1 z16 (p3 + 1) (fun z23 μ19 => mT w μ19 → mF [87007] w μ8 μ19 → ((-2147483648) ≤ z23 ∧ z23 ≤ 2147483647) → ∀ z24 : Int, bAnd z12 z23 = z24 → ((z24 = 0) → ∀ z29 : Int, μ19 87 7 = z29 → ((-2147483648) ≤ z29 ∧ z29 ≤ 2147483647) → ∀ z32 : Int, (-2147483648 ≤ z32 ∧ z32 ≤ 2147483647) → (z32 - (z29 + 1)) % 4294967296 = 0 → ∀ μ35 : mM, mU μ19 87 (7) z32 μ35 → mT w μ35 → ∀ z38 : Int, bOr z12 z23 = z38 → Q z38 μ35) ∧ ((¬ z24 = 0) → ∀ z41 : Int, bAnd z12 z23 = z41 → Q z41 μ19)))) ∧ ((z5 = 0) → WP_X2_tieFor_W w μ p1 p2 (fun z49 _ => ((-99999999) ≤ z49 ∧ z49 ≤ 19) → WP_X2_aimBit_W w μ z49 (fun z54 _ => ((-2147483648) ≤ z54 ∧ z54 ≤ 2147483647) → Q z54 μ))))
def WP_X2_leastBelow_W30 (w : mW) (μ : mM) (p1 : Int) (p2 : Int) (p3 : Int) (Q : Int → mM → Prop) : Prop := WP_X2_isSplit_W w μ p1 p2 p3 (fun z5 _ => (0 ≤ z5 ∧ z5 ≤ 1) → ((¬ z5 = 0) → WP_X2_leastBelow_W31 w μ p1 p2 (p3 + 1) (fun z12 μ8 => mT w μ8 → mF [87007] w μ μ8 → ((-2147483648) ≤ z12 ∧ z12 ≤ 2147483647) → ∀ z13 : Int, bShl (1 : Int) (31 - p3) = z13 → ∀ z16 : Int, bOr p2 z13 = z16 → WP_X2_leastBelow_W31 w μ8 p1 z16 (p3 + 1) (fun z23 μ19 => mT w μ19 → mF [87007] w μ8 μ19 → ((-2147483648) ≤ z23 ∧ z23 ≤ 2147483647) → ∀ z24 : Int, bAnd z12 z23 = z24 → ((z24 = 0) → ∀ z29 : Int, μ19 87 7 = z29 → ((-2147483648) ≤ z29 ∧ z29 ≤ 2147483647) → ∀ z32 : Int, (-2147483648 ≤ z32 ∧ z32 ≤ 2147483647) → (z32 - (z29 + 1)) % 4294967296 = 0 → ∀ μ35 : mM, mU μ19 87 (7) z32 μ35 → mT w μ35 → ∀ z38 : Int, bOr z12 z23 = z38 → Q z38 μ35) ∧ ((¬ z24 = 0) → ∀ z41 : Int, bAnd z12 z23 = z41 → Q z41 μ19)))) ∧ ((z5 = 0) → WP_X2_tieFor_W w μ p1 p2 (fun z49 _ => ((-99999999) ≤ z49 ∧ z49 ≤ 19) → WP_X2_aimBit_W w μ z49 (fun z54 _ => ((-2147483648) ≤ z54 ∧ z54 ≤ 2147483647) → Q z54 μ))))
def WP_X2_leastBelow_W29 (w : mW) (μ : mM) (p1 : Int) (p2 : Int) (p3 : Int) (Q : Int → mM → Prop) : Prop := WP_X2_isSplit_W w μ p1 p2 p3 (fun z5 _ => (0 ≤ z5 ∧ z5 ≤ 1) → ((¬ z5 = 0) → WP_X2_leastBelow_W30 w μ p1 p2 (p3 + 1) (fun z12 μ8 => mT w μ8 → mF [87007] w μ μ8 → ((-2147483648) ≤ z12 ∧ z12 ≤ 2147483647) → ∀ z13 : Int, bShl (1 : Int) (31 - p3) = z13 → ∀ z16 : Int, bOr p2 z13 = z16 → WP_X2_leastBelow_W30 w μ8 p1 z16 (p3 + 1) (fun z23 μ19 => mT w μ19 → mF [87007] w μ8 μ19 → ((-2147483648) ≤ z23 ∧ z23 ≤ 2147483647) → ∀ z24 : Int, bAnd z12 z23 = z24 → ((z24 = 0) → ∀ z29 : Int, μ19 87 7 = z29 → ((-2147483648) ≤ z29 ∧ z29 ≤ 2147483647) → ∀ z32 : Int, (-2147483648 ≤ z32 ∧ z32 ≤ 2147483647) → (z32 - (z29 + 1)) % 4294967296 = 0 → ∀ μ35 : mM, mU μ19 87 (7) z32 μ35 → mT w μ35 → ∀ z38 : Int, bOr z12 z23 = z38 → Q z38 μ35) ∧ ((¬ z24 = 0) → ∀ z41 : Int, bAnd z12 z23 = z41 → Q z41 μ19)))) ∧ ((z5 = 0) → WP_X2_tieFor_W w μ p1 p2 (fun z49 _ => ((-99999999) ≤ z49 ∧ z49 ≤ 19) → WP_X2_aimBit_W w μ z49 (fun z54 _ => ((-2147483648) ≤ z54 ∧ z54 ≤ 2147483647) → Q z54 μ))))
def WP_X2_leastBelow_W28 (w : mW) (μ : mM) (p1 : Int) (p2 : Int) (p3 : Int) (Q : Int → mM → Prop) : Prop := WP_X2_isSplit_W w μ p1 p2 p3 (fun z5 _ => (0 ≤ z5 ∧ z5 ≤ 1) → ((¬ z5 = 0) → WP_X2_leastBelow_W29 w μ p1 p2 (p3 + 1) (fun z12 μ8 => mT w μ8 → mF [87007] w μ μ8 → ((-2147483648) ≤ z12 ∧ z12 ≤ 2147483647) → ∀ z13 : Int, bShl (1 : Int) (31 - p3) = z13 → ∀ z16 : Int, bOr p2 z13 = z16 → WP_X2_leastBelow_W29 w μ8 p1 z16 (p3 + 1) (fun z23 μ19 => mT w μ19 → mF [87007] w μ8 μ19 → ((-2147483648) ≤ z23 ∧ z23 ≤ 2147483647) → ∀ z24 : Int, bAnd z12 z23 = z24 → ((z24 = 0) → ∀ z29 : Int, μ19 87 7 = z29 → ((-2147483648) ≤ z29 ∧ z29 ≤ 2147483647) → ∀ z32 : Int, (-2147483648 ≤ z32 ∧ z32 ≤ 2147483647) → (z32 - (z29 + 1)) % 4294967296 = 0 → ∀ μ35 : mM, mU μ19 87 (7) z32 μ35 → mT w μ35 → ∀ z38 : Int, bOr z12 z23 = z38 → Q z38 μ35) ∧ ((¬ z24 = 0) → ∀ z41 : Int, bAnd z12 z23 = z41 → Q z41 μ19)))) ∧ ((z5 = 0) → WP_X2_tieFor_W w μ p1 p2 (fun z49 _ => ((-99999999) ≤ z49 ∧ z49 ≤ 19) → WP_X2_aimBit_W w μ z49 (fun z54 _ => ((-2147483648) ≤ z54 ∧ z54 ≤ 2147483647) → Q z54 μ))))
def WP_X2_leastBelow_W27 (w : mW) (μ : mM) (p1 : Int) (p2 : Int) (p3 : Int) (Q : Int → mM → Prop) : Prop := WP_X2_isSplit_W w μ p1 p2 p3 (fun z5 _ => (0 ≤ z5 ∧ z5 ≤ 1) → ((¬ z5 = 0) → WP_X2_leastBelow_W28 w μ p1 p2 (p3 + 1) (fun z12 μ8 => mT w μ8 → mF [87007] w μ μ8 → ((-2147483648) ≤ z12 ∧ z12 ≤ 2147483647) → ∀ z13 : Int, bShl (1 : Int) (31 - p3) = z13 → ∀ z16 : Int, bOr p2 z13 = z16 → WP_X2_leastBelow_W28 w μ8 p1 z16 (p3 + 1) (fun z23 μ19 => mT w μ19 → mF [87007] w μ8 μ19 → ((-2147483648) ≤ z23 ∧ z23 ≤ 2147483647) → ∀ z24 : Int, bAnd z12 z23 = z24 → ((z24 = 0) → ∀ z29 : Int, μ19 87 7 = z29 → ((-2147483648) ≤ z29 ∧ z29 ≤ 2147483647) → ∀ z32 : Int, (-2147483648 ≤ z32 ∧ z32 ≤ 2147483647) → (z32 - (z29 + 1)) % 4294967296 = 0 → ∀ μ35 : mM, mU μ19 87 (7) z32 μ35 → mT w μ35 → ∀ z38 : Int, bOr z12 z23 = z38 → Q z38 μ35) ∧ ((¬ z24 = 0) → ∀ z41 : Int, bAnd z12 z23 = z41 → Q z41 μ19)))) ∧ ((z5 = 0) → WP_X2_tieFor_W w μ p1 p2 (fun z49 _ => ((-99999999) ≤ z49 ∧ z49 ≤ 19) → WP_X2_aimBit_W w μ z49 (fun z54 _ => ((-2147483648) ≤ z54 ∧ z54 ≤ 2147483647) → Q z54 μ))))
def WP_X2_leastBelow_W26 (w : mW) (μ : mM) (p1 : Int) (p2 : Int) (p3 : Int) (Q : Int → mM → Prop) : Prop := WP_X2_isSplit_W w μ p1 p2 p3 (fun z5 _ => (0 ≤ z5 ∧ z5 ≤ 1) → ((¬ z5 = 0) → WP_X2_leastBelow_W27 w μ p1 p2 (p3 + 1) (fun z12 μ8 => mT w μ8 → mF [87007] w μ μ8 → ((-2147483648) ≤ z12 ∧ z12 ≤ 2147483647) → ∀ z13 : Int, bShl (1 : Int) (31 - p3) = z13 → ∀ z16 : Int, bOr p2 z13 = z16 → WP_X2_leastBelow_W27 w μ8 p1 z16 (p3 + 1) (fun z23 μ19 => mT w μ19 → mF [87007] w μ8 μ19 → ((-2147483648) ≤ z23 ∧ z23 ≤ 2147483647) → ∀ z24 : Int, bAnd z12 z23 = z24 → ((z24 = 0) → ∀ z29 : Int, μ19 87 7 = z29 → ((-2147483648) ≤ z29 ∧ z29 ≤ 2147483647) → ∀ z32 : Int, (-2147483648 ≤ z32 ∧ z32 ≤ 2147483647) → (z32 - (z29 + 1)) % 4294967296 = 0 → ∀ μ35 : mM, mU μ19 87 (7) z32 μ35 → mT w μ35 → ∀ z38 : Int, bOr z12 z23 = z38 → Q z38 μ35) ∧ ((¬ z24 = 0) → ∀ z41 : Int, bAnd z12 z23 = z41 → Q z41 μ19)))) ∧ ((z5 = 0) → WP_X2_tieFor_W w μ p1 p2 (fun z49 _ => ((-99999999) ≤ z49 ∧ z49 ≤ 19) → WP_X2_aimBit_W w μ z49 (fun z54 _ => ((-2147483648) ≤ z54 ∧ z54 ≤ 2147483647) → Q z54 μ))))
def WP_X2_leastBelow_W25 (w : mW) (μ : mM) (p1 : Int) (p2 : Int) (p3 : Int) (Q : Int → mM → Prop) : Prop := WP_X2_isSplit_W w μ p1 p2 p3 (fun z5 _ => (0 ≤ z5 ∧ z5 ≤ 1) → ((¬ z5 = 0) → WP_X2_leastBelow_W26 w μ p1 p2 (p3 + 1) (fun z12 μ8 => mT w μ8 → mF [87007] w μ μ8 → ((-2147483648) ≤ z12 ∧ z12 ≤ 2147483647) → ∀ z13 : Int, bShl (1 : Int) (31 - p3) = z13 → ∀ z16 : Int, bOr p2 z13 = z16 → WP_X2_leastBelow_W26 w μ8 p1 z16 (p3 + 1) (fun z23 μ19 => mT w μ19 → mF [87007] w μ8 μ19 → ((-2147483648) ≤ z23 ∧ z23 ≤ 2147483647) → ∀ z24 : Int, bAnd z12 z23 = z24 → ((z24 = 0) → ∀ z29 : Int, μ19 87 7 = z29 → ((-2147483648) ≤ z29 ∧ z29 ≤ 2147483647) → ∀ z32 : Int, (-2147483648 ≤ z32 ∧ z32 ≤ 2147483647) → (z32 - (z29 + 1)) % 4294967296 = 0 → ∀ μ35 : mM, mU μ19 87 (7) z32 μ35 → mT w μ35 → ∀ z38 : Int, bOr z12 z23 = z38 → Q z38 μ35) ∧ ((¬ z24 = 0) → ∀ z41 : Int, bAnd z12 z23 = z41 → Q z41 μ19)))) ∧ ((z5 = 0) → WP_X2_tieFor_W w μ p1 p2 (fun z49 _ => ((-99999999) ≤ z49 ∧ z49 ≤ 19) → WP_X2_aimBit_W w μ z49 (fun z54 _ => ((-2147483648) ≤ z54 ∧ z54 ≤ 2147483647) → Q z54 μ))))
def WP_X2_leastBelow_W24 (w : mW) (μ : mM) (p1 : Int) (p2 : Int) (p3 : Int) (Q : Int → mM → Prop) : Prop := WP_X2_isSplit_W w μ p1 p2 p3 (fun z5 _ => (0 ≤ z5 ∧ z5 ≤ 1) → ((¬ z5 = 0) → WP_X2_leastBelow_W25 w μ p1 p2 (p3 + 1) (fun z12 μ8 => mT w μ8 → mF [87007] w μ μ8 → ((-2147483648) ≤ z12 ∧ z12 ≤ 2147483647) → ∀ z13 : Int, bShl (1 : Int) (31 - p3) = z13 → ∀ z16 : Int, bOr p2 z13 = z16 → WP_X2_leastBelow_W25 w μ8 p1 z16 (p3 + 1) (fun z23 μ19 => mT w μ19 → mF [87007] w μ8 μ19 → ((-2147483648) ≤ z23 ∧ z23 ≤ 2147483647) → ∀ z24 : Int, bAnd z12 z23 = z24 → ((z24 = 0) → ∀ z29 : Int, μ19 87 7 = z29 → ((-2147483648) ≤ z29 ∧ z29 ≤ 2147483647) → ∀ z32 : Int, (-2147483648 ≤ z32 ∧ z32 ≤ 2147483647) → (z32 - (z29 + 1)) % 4294967296 = 0 → ∀ μ35 : mM, mU μ19 87 (7) z32 μ35 → mT w μ35 → ∀ z38 : Int, bOr z12 z23 = z38 → Q z38 μ35) ∧ ((¬ z24 = 0) → ∀ z41 : Int, bAnd z12 z23 = z41 → Q z41 μ19)))) ∧ ((z5 = 0) → WP_X2_tieFor_W w μ p1 p2 (fun z49 _ => ((-99999999) ≤ z49 ∧ z49 ≤ 19) → WP_X2_aimBit_W w μ z49 (fun z54 _ => ((-2147483648) ≤ z54 ∧ z54 ≤ 2147483647) → Q z54 μ))))
def WP_X2_leastBelow_W23 (w : mW) (μ : mM) (p1 : Int) (p2 : Int) (p3 : Int) (Q : Int → mM → Prop) : Prop := WP_X2_isSplit_W w μ p1 p2 p3 (fun z5 _ => (0 ≤ z5 ∧ z5 ≤ 1) → ((¬ z5 = 0) → WP_X2_leastBelow_W24 w μ p1 p2 (p3 + 1) (fun z12 μ8 => mT w μ8 → mF [87007] w μ μ8 → ((-2147483648) ≤ z12 ∧ z12 ≤ 2147483647) → ∀ z13 : Int, bShl (1 : Int) (31 - p3) = z13 → ∀ z16 : Int, bOr p2 z13 = z16 → WP_X2_leastBelow_W24 w μ8 p1 z16 (p3 + 1) (fun z23 μ19 => mT w μ19 → mF [87007] w μ8 μ19 → ((-2147483648) ≤ z23 ∧ z23 ≤ 2147483647) → ∀ z24 : Int, bAnd z12 z23 = z24 → ((z24 = 0) → ∀ z29 : Int, μ19 87 7 = z29 → ((-2147483648) ≤ z29 ∧ z29 ≤ 2147483647) → ∀ z32 : Int, (-2147483648 ≤ z32 ∧ z32 ≤ 2147483647) → (z32 - (z29 + 1)) % 4294967296 = 0 → ∀ μ35 : mM, mU μ19 87 (7) z32 μ35 → mT w μ35 → ∀ z38 : Int, bOr z12 z23 = z38 → Q z38 μ35) ∧ ((¬ z24 = 0) → ∀ z41 : Int, bAnd z12 z23 = z41 → Q z41 μ19)))) ∧ ((z5 = 0) → WP_X2_tieFor_W w μ p1 p2 (fun z49 _ => ((-99999999) ≤ z49 ∧ z49 ≤ 19) → WP_X2_aimBit_W w μ z49 (fun z54 _ => ((-2147483648) ≤ z54 ∧ z54 ≤ 2147483647) → Q z54 μ))))
def WP_X2_leastBelow_W22 (w : mW) (μ : mM) (p1 : Int) (p2 : Int) (p3 : Int) (Q : Int → mM → Prop) : Prop := WP_X2_isSplit_W w μ p1 p2 p3 (fun z5 _ => (0 ≤ z5 ∧ z5 ≤ 1) → ((¬ z5 = 0) → WP_X2_leastBelow_W23 w μ p1 p2 (p3 + 1) (fun z12 μ8 => mT w μ8 → mF [87007] w μ μ8 → ((-2147483648) ≤ z12 ∧ z12 ≤ 2147483647) → ∀ z13 : Int, bShl (1 : Int) (31 - p3) = z13 → ∀ z16 : Int, bOr p2 z13 = z16 → WP_X2_leastBelow_W23 w μ8 p1 z16 (p3 + 1) (fun z23 μ19 => mT w μ19 → mF [87007] w μ8 μ19 → ((-2147483648) ≤ z23 ∧ z23 ≤ 2147483647) → ∀ z24 : Int, bAnd z12 z23 = z24 → ((z24 = 0) → ∀ z29 : Int, μ19 87 7 = z29 → ((-2147483648) ≤ z29 ∧ z29 ≤ 2147483647) → ∀ z32 : Int, (-2147483648 ≤ z32 ∧ z32 ≤ 2147483647) → (z32 - (z29 + 1)) % 4294967296 = 0 → ∀ μ35 : mM, mU μ19 87 (7) z32 μ35 → mT w μ35 → ∀ z38 : Int, bOr z12 z23 = z38 → Q z38 μ35) ∧ ((¬ z24 = 0) → ∀ z41 : Int, bAnd z12 z23 = z41 → Q z41 μ19)))) ∧ ((z5 = 0) → WP_X2_tieFor_W w μ p1 p2 (fun z49 _ => ((-99999999) ≤ z49 ∧ z49 ≤ 19) → WP_X2_aimBit_W w μ z49 (fun z54 _ => ((-2147483648) ≤ z54 ∧ z54 ≤ 2147483647) → Q z54 μ))))
def WP_X2_leastBelow_W21 (w : mW) (μ : mM) (p1 : Int) (p2 : Int) (p3 : Int) (Q : Int → mM → Prop) : Prop := WP_X2_isSplit_W w μ p1 p2 p3 (fun z5 _ => (0 ≤ z5 ∧ z5 ≤ 1) → ((¬ z5 = 0) → WP_X2_leastBelow_W22 w μ p1 p2 (p3 + 1) (fun z12 μ8 => mT w μ8 → mF [87007] w μ μ8 → ((-2147483648) ≤ z12 ∧ z12 ≤ 2147483647) → ∀ z13 : Int, bShl (1 : Int) (31 - p3) = z13 → ∀ z16 : Int, bOr p2 z13 = z16 → WP_X2_leastBelow_W22 w μ8 p1 z16 (p3 + 1) (fun z23 μ19 => mT w μ19 → mF [87007] w μ8 μ19 → ((-2147483648) ≤ z23 ∧ z23 ≤ 2147483647) → ∀ z24 : Int, bAnd z12 z23 = z24 → ((z24 = 0) → ∀ z29 : Int, μ19 87 7 = z29 → ((-2147483648) ≤ z29 ∧ z29 ≤ 2147483647) → ∀ z32 : Int, (-2147483648 ≤ z32 ∧ z32 ≤ 2147483647) → (z32 - (z29 + 1)) % 4294967296 = 0 → ∀ μ35 : mM, mU μ19 87 (7) z32 μ35 → mT w μ35 → ∀ z38 : Int, bOr z12 z23 = z38 → Q z38 μ35) ∧ ((¬ z24 = 0) → ∀ z41 : Int, bAnd z12 z23 = z41 → Q z41 μ19)))) ∧ ((z5 = 0) → WP_X2_tieFor_W w μ p1 p2 (fun z49 _ => ((-99999999) ≤ z49 ∧ z49 ≤ 19) → WP_X2_aimBit_W w μ z49 (fun z54 _ => ((-2147483648) ≤ z54 ∧ z54 ≤ 2147483647) → Q z54 μ))))
def WP_X2_leastBelow_W20 (w : mW) (μ : mM) (p1 : Int) (p2 : Int) (p3 : Int) (Q : Int → mM → Prop) : Prop := WP_X2_isSplit_W w μ p1 p2 p3 (fun z5 _ => (0 ≤ z5 ∧ z5 ≤ 1) → ((¬ z5 = 0) → WP_X2_leastBelow_W21 w μ p1 p2 (p3 + 1) (fun z12 μ8 => mT w μ8 → mF [87007] w μ μ8 → ((-2147483648) ≤ z12 ∧ z12 ≤ 2147483647) → ∀ z13 : Int, bShl (1 : Int) (31 - p3) = z13 → ∀ z16 : Int, bOr p2 z13 = z16 → WP_X2_leastBelow_W21 w μ8 p1 z16 (p3 + 1) (fun z23 μ19 => mT w μ19 → mF [87007] w μ8 μ19 → ((-2147483648) ≤ z23 ∧ z23 ≤ 2147483647) → ∀ z24 : Int, bAnd z12 z23 = z24 → ((z24 = 0) → ∀ z29 : Int, μ19 87 7 = z29 → ((-2147483648) ≤ z29 ∧ z29 ≤ 2147483647) → ∀ z32 : Int, (-2147483648 ≤ z32 ∧ z32 ≤ 2147483647) → (z32 - (z29 + 1)) % 4294967296 = 0 → ∀ μ35 : mM, mU μ19 87 (7) z32 μ35 → mT w μ35 → ∀ z38 : Int, bOr z12 z23 = z38 → Q z38 μ35) ∧ ((¬ z24 = 0) → ∀ z41 : Int, bAnd z12 z23 = z41 → Q z41 μ19)))) ∧ ((z5 = 0) → WP_X2_tieFor_W w μ p1 p2 (fun z49 _ => ((-99999999) ≤ z49 ∧ z49 ≤ 19) → WP_X2_aimBit_W w μ z49 (fun z54 _ => ((-2147483648) ≤ z54 ∧ z54 ≤ 2147483647) → Q z54 μ))))
