def WJ_X8_takeIn_Wc_2 (w : mW) (p3 : Int) (b865 : Nat) (rec1 : (Int × Int × mM) → Prop) (z1512 : Int) (z1511 : Int) (μ1513 : mM) (z1586 : Int) (b1633 : Nat) (b1638 : Nat) : Prop := mAt w b1638 200 → WP_X7_become_W w μ1513 b1633 b1638 (fun μ1642 => mT w μ1642 → mF [200002, 200003, 200004, 200005, 200006, 200007, 200008, 201999, 202999] w μ1513 μ1642 → ∀ μ1646 : mM, mU μ1642 b1633 (3) z1586 μ1646 → mT w μ1646 → ∀ z1649 : Int, μ1646 32 11 = z1649 → ((-1) ≤ z1649 ∧ z1649 ≤ 2000000000) → ∀ μ1652 : mM, mU μ1646 b1633 (9) z1649 μ1652 → mT w μ1652 → WP_X9_end_W w μ1652 b865 p3 (fun z1659 _ => (0 ≤ z1659 ∧ z1659 ≤ 9) → WP_X8_look_W w μ1652 z1659 z1586 (fun μ1660 => mT w μ1660 → mF [21002, 21003, 21004, 21005, 21006, 21007, 32009, 32010, 33999, 34999, 66999, 200002, 200003, 200004, 200005, 200006, 200007, 200008, 200009, 200010, 200011, 201999, 202999, 213999] w μ1652 μ1660 → rec1 ((z1512 + 1), (z1511 + 1), μ1660))))
def WL_X8_takeIn_Wc_1 (w : mW) (μ : mM) (p3 : Int) (Q : Int → mM → Prop) (f_wd : Int) (f_an : Int) (b865 : Nat) (rec1 : (Int × Int × mM) → Prop) (s : (Int × Int × mM)) : Prop := ∀ z1512 : Int, ∀ z1511 : Int, ∀ μ1513 : mM, s = (z1512, z1511, μ1513) → (0 ≤ z1512 ∧ z1512 ≤ 2000) → (0 ≤ z1511 ∧ z1511 ≤ 2000) → mT w μ1513 → mF [21002, 21003, 21004, 21005, 21006, 21007, 32009, 32010, 33999, 34999, 66999, 200002, 200003, 200004, 200005, 200006, 200007, 200008, 200009, 200010, 200011, 201999, 202999, 213999] w μ μ1513 → (((f_wd + f_an) ≤ z1511) → Q z1512 μ1513) ∧ ((z1511 < (f_wd + f_an)) → ∀ z1576 : Int, μ1513 84 (z1511.toNat) = z1576 → ((-2147483648) ≤ z1576 ∧ z1576 ≤ 2147483647) → ∀ z1579 : Int, μ1513 85 (z1511.toNat) = z1579 → ((-2147483648) ≤ z1579 ∧ z1579 ≤ 2147483647) → WP_X10_findPrefix_W w μ1513 z1576 z1579 (fun z1586 _ => ((-1) ≤ z1586 ∧ z1586 ≤ 9) → ((0 ≤ z1586) → WP_X9_placeOf_W w μ1513 p3 z1586 (fun z1632 _ => (0 ≤ z1632 ∧ z1632 ≤ 19) → ∀ b1633 : Nat, μ1513 (b865 + 2) (z1632.toNat) = (b1633 : Int) → mAt w b1633 200 → ((f_wd ≤ z1511) → (WJ_X8_takeIn_Wc_2 w p3 b865 rec1 z1512 z1511 μ1513 z1586 b1633) 81) ∧ ((z1511 < f_wd) → (WJ_X8_takeIn_Wc_2 w p3 b865 rec1 z1512 z1511 μ1513 z1586 b1633) 70))) ∧ ((z1586 < 0) → rec1 (z1512, (z1511 + 1), μ1513))))
def WP_X8_takeIn_Wc (w : mW) (μ : mM) (p2 : Int) (p3 : Int) (Q : Int → mM → Prop) : Prop := ∀ f_wd : Int, μ 76 13 = f_wd → (0 ≤ f_wd ∧ f_wd ≤ 1000) → ∀ f_an : Int, μ 76 14 = f_an → (0 ≤ f_an ∧ f_an ≤ 1000) → ∀ b865 : Nat, μ 11 (p2.toNat) = (b865 : Int) → mAt w b865 220 → loopF (WL_X8_takeIn_Wc_1 w μ p3 Q f_wd f_an b865) False 2002 ((0 : Int), (0 : Int), μ)
def WP_X11_hear_Wc (w : mW) (μ : mM) (p1 : Int) (p2 : Int) (Q : Int → mM → Prop) : Prop := ∀ f_wd : Int, μ 76 13 = f_wd → (0 ≤ f_wd ∧ f_wd ≤ 1000) → ∀ f_an : Int, μ 76 14 = f_an → (0 ≤ f_an ∧ f_an ≤ 1000) → ∀ z125 : Int, μ 6 16 = z125 → (z125 = w.2.2.2 1 ∧ 0 ≤ z125 ∧ z125 ≤ 20) → WP_X11_isTie_W w μ p1 (fun z132 _ => (0 ≤ z132 ∧ z132 ≤ 1) → ((z132 = 0) → Q ((-1) : Int) μ) ∧ ((¬ z132 = 0) → WP_X11_isEither_W w μ p2 (fun z143 _ => (0 ≤ z143 ∧ z143 ≤ 1) → ((¬ z143 = 0) → ∀ z148 : Int, μ 76 16 = z148 → (0 ≤ z148 ∧ z148 ≤ 1) → ((z148 = 0) → Q ((-2) : Int) μ) ∧ ((¬ z148 = 0) → ∀ b154 : Nat, μ 11 (p1.toNat) = (b154 : Int) → mAt w b154 220 → ∀ z157 : Int, μ b154 6 = z157 → (0 ≤ z157 ∧ z157 ≤ 1) → ((¬ z157 = 0) → WP_X8_takeIn_Wc w μ p1 p2 (fun z166 μ162 => mT w μ162 → mF [21002, 21003, 21004, 21005, 21006, 21007, 32009, 32010, 33999, 34999, 66999, 200002, 200003, 200004, 200005, 200006, 200007, 200008, 200009, 200010, 200011, 201999, 202999, 213999] w μ μ162 → ((-2147483648) ≤ z166 ∧ z166 ≤ 2147483647) → Q z166 μ162)) ∧ ((z157 = 0) → Q ((-2) : Int) μ))) ∧ ((z143 = 0) → Q ((-1) : Int) μ))))
def WJ_X12_hear_Wc_3 (w : mW) (p1 : Int) (p2 : Int) (rec1 : (Int × Int × mM) → Prop) (z2172 : Int) (z2171 : Int) (μ2173 : mM) (z2305 : Int) (z2374 : Int) (μ2406 : mM) : Prop := mT w μ2406 → mF [126999] w μ2173 μ2406 → ∀ z2415 : Int, μ2406 106 71 = z2415 → (0 ≤ z2415 ∧ z2415 ≤ 2000000000) → ∀ μ2418 : mM, mU μ2406 154 (z2374.toNat) z2415 μ2418 → mT w μ2418 → ∀ z2421 : Int, μ2418 110 (((2 * p1) + p2).toNat) = z2421 → (0 ≤ z2421 ∧ z2421 ≤ 9) → WP_X12_look_W w μ2418 z2421 z2305 (fun μ2424 => mT w μ2424 → mF [106026, 106027, 106028, 106029, 106030, 106031, 106072, 126999, 151999, 152999, 153999, 155999, 156999, 157999, 158999, 159999, 160999, 161999, 165999] w μ2418 μ2424 → rec1 ((z2172 + 1), (z2171 + 1), μ2424))
def WJ_X12_hear_Wc_2 (w : mW) (p1 : Int) (p2 : Int) (rec1 : (Int × Int × mM) → Prop) (z2172 : Int) (z2171 : Int) (μ2173 : mM) (z2187 : Int) (z2305 : Int) : Prop := ((-99999999) ≤ z2305 ∧ z2305 ≤ 9) → ((¬ z2305 = (-99999999)) → WP_X12_slot_W w μ2173 p1 p2 z2305 (fun z2374 _ => (0 ≤ z2374 ∧ z2374 ≤ 449) → ((z2187 ≤ z2171) → ∀ z2429 : Int, μ2173 126 (((40 * 24) : Int).toNat) = z2429 → ((-2147483648 ≤ z2429 ∧ z2429 ≤ 2147483647) ∧ (((40 * 24) : Int) % 40 = 0 → -1 ≤ z2429 ∧ z2429 ≤ 9) ∧ (((40 * 24) : Int) % 40 = 4 → 0 ≤ z2429 ∧ z2429 ≤ 20) ∧ (((40 * 24) : Int) % 40 = 5 → 0 ≤ z2429 ∧ z2429 ≤ 8)) → WP_X12_copy_W w μ2173 (24) (130 + z2374) (fun μ2433 => mT w μ2433 → mF [126999] w μ2173 μ2433 → ∀ z2437 : Int, μ2433 126 ((40 * (130 + z2374)).toNat) = z2437 → ∀ μ2443 : mM, mU μ2433 126 ((40 * (130 + z2374)).toNat) z2305 μ2443 → mT w μ2443 → (WJ_X12_hear_Wc_3 w p1 p2 rec1 z2172 z2171 μ2173 z2305 z2374) μ2443)) ∧ ((z2171 < z2187) → WP_X12_nothing_W w μ2173 (130 + z2374) (fun μ2448 => mT w μ2448 → mF [126999] w μ2173 μ2448 → ∀ z2452 : Int, μ2448 126 ((40 * (130 + z2374)).toNat) = z2452 → (WJ_X12_hear_Wc_3 w p1 p2 rec1 z2172 z2171 μ2173 z2305 z2374) μ2448)))) ∧ ((z2305 = (-99999999)) → rec1 (z2172, (z2171 + 1), μ2173))
def WL_X12_hear_Wc_1 (w : mW) (μ : mM) (p1 : Int) (p2 : Int) (Q : Int → mM → Prop) (rec1 : (Int × Int × mM) → Prop) (s : (Int × Int × mM)) : Prop := ∀ z2172 : Int, ∀ z2171 : Int, ∀ μ2173 : mM, s = (z2172, z2171, μ2173) → (0 ≤ z2172 ∧ z2172 ≤ 2000) → (0 ≤ z2171 ∧ z2171 ≤ 2000) → mT w μ2173 → mF [106026, 106027, 106028, 106029, 106030, 106031, 106072, 126999, 151999, 152999, 153999, 154999, 155999, 156999, 157999, 158999, 159999, 160999, 161999, 165999] w μ μ2173 → ∀ z2187 : Int, μ2173 106 88 = z2187 → (0 ≤ z2187 ∧ z2187 ≤ 1000) → ∀ z2190 : Int, μ2173 106 91 = z2190 → (0 ≤ z2190 ∧ z2190 ≤ 1000) → (((z2187 + z2190) ≤ z2171) → Q z2172 μ2173) ∧ ((z2171 < (z2187 + z2190)) → ((z2187 ≤ z2171) → ∀ z2461 : Int, μ2173 168 ((z2171 - z2187).toNat) = z2461 → ((-2147483648) ≤ z2461 ∧ z2461 ≤ 2147483647) → ∀ z2464 : Int, μ2173 169 ((z2171 - z2187).toNat) = z2464 → ((-2147483648) ≤ z2464 ∧ z2464 ≤ 2147483647) → WP_X12_prefixOf_W w μ2173 z2461 z2464 (fun z2471 _ => ((-99999999) ≤ z2471 ∧ z2471 ≤ 9) → (WJ_X12_hear_Wc_2 w p1 p2 rec1 z2172 z2171 μ2173 z2187) z2471)) ∧ ((z2171 < z2187) → ∀ z2475 : Int, μ2173 166 (z2171.toNat) = z2475 → ((-2147483648) ≤ z2475 ∧ z2475 ≤ 2147483647) → ∀ z2478 : Int, μ2173 167 (z2171.toNat) = z2478 → ((-2147483648) ≤ z2478 ∧ z2478 ≤ 2147483647) → WP_X12_prefixOf_W w μ2173 z2475 z2478 (fun z2485 _ => ((-99999999) ≤ z2485 ∧ z2485 ≤ 9) → (WJ_X12_hear_Wc_2 w p1 p2 rec1 z2172 z2171 μ2173 z2187) z2485)))
def WP_X12_hear_Wc (w : mW) (μ : mM) (p1 : Int) (p2 : Int) (Q : Int → mM → Prop) : Prop := ∀ z1 : Int, μ 106 6 = z1 → (0 ≤ z1 ∧ z1 ≤ 20) → WP_X12_isTie_W w μ p1 (fun z8 _ => (0 ≤ z8 ∧ z8 ≤ 1) → ((z8 = 0) → Q ((-1) : Int) μ) ∧ ((¬ z8 = 0) → WP_X12_in_W w μ p2 (0) (1) (fun z20 _ => (0 ≤ z20 ∧ z20 ≤ 1) → ((¬ z20 = 0) → ∀ z25 : Int, μ 106 96 = z25 → (0 ≤ z25 ∧ z25 ≤ 1) → ((z25 = 0) → Q ((-2) : Int) μ) ∧ ((¬ z25 = 0) → ∀ z31 : Int, μ 106 97 = z31 → (0 ≤ z31 ∧ z31 ≤ 1) → ((¬ z31 = 0) → Q ((-2) : Int) μ) ∧ ((z31 = 0) → ∀ z37 : Int, μ 112 (p1.toNat) = z37 → (0 ≤ z37 ∧ z37 ≤ 1) → ((¬ z37 = 0) → loopF (WL_X12_hear_Wc_1 w μ p1 p2 Q) False 2002 ((0 : Int), (0 : Int), μ)) ∧ ((z37 = 0) → Q ((-2) : Int) μ)))) ∧ ((z20 = 0) → Q ((-1) : Int) μ))))
def WJ_X2_tieFor_W_2 (w : mW) (μ : mM) (b1 : Nat) (rec1 : (Int × Int × Int) → Prop) (z249 : Int) (z248 : Int) (z247 : Int) (z305 : Int) : Prop := (0 ≤ z305 ∧ z305 ≤ 1) → ((z305 = 0) → rec1 (z249, z248, (z247 + 1))) ∧ ((¬ z305 = 0) → ∀ z328 : Int, μ (b1 + 3) (z247.toNat) = z328 → ((z328 = -99999999 ∨ z328 = -4 ∨ (0 ≤ z328 ∧ z328 ≤ 19)) ∧ (0 ≤ z328 → z328 < w.2.2.2 1)) → ((z328 = (-99999999)) → rec1 (z249, z248, (z247 + 1))) ∧ ((¬ z328 = (-99999999)) → ∀ z343 : Int, μ 8 (z247.toNat) = z343 → (0 ≤ z343 ∧ z343 ≤ 32) → ((z343 ≤ z249) → rec1 (z249, z248, (z247 + 1))) ∧ ((z249 < z343) → rec1 (z343, z328, (z247 + 1)))))
def WL_X2_tieFor_W_1 (w : mW) (μ : mM) (p2 : Int) (Q : Int → mM → Prop) (b1 : Nat) (rec1 : (Int × Int × Int) → Prop) (s : (Int × Int × Int)) : Prop := ∀ z249 : Int, ∀ z248 : Int, ∀ z247 : Int, s = (z249, z248, z247) → ((-1) ≤ z249 ∧ z249 ≤ 32) → ((-99999999) ≤ z248 ∧ z248 ≤ 19) → (0 ≤ z247 ∧ z247 ≤ 10) → ∀ z262 : Int, μ 6 14 = z262 → (0 ≤ z262 ∧ z262 ≤ 10) → ((z262 ≤ z247) → Q z248 μ) ∧ ((z247 < z262) → ∀ z296 : Int, μ 9 (z247.toNat) = z296 → ((-2147483648) ≤ z296 ∧ z296 ≤ 2147483647) → ∀ z299 : Int, bAnd p2 z296 = z299 → ∀ z302 : Int, μ 7 (z247.toNat) = z302 → ((-2147483648) ≤ z302 ∧ z302 ≤ 2147483647) → ((¬ z299 = z302) → (WJ_X2_tieFor_W_2 w μ b1 rec1 z249 z248 z247) (0 : Int)) ∧ ((z299 = z302) → (WJ_X2_tieFor_W_2 w μ b1 rec1 z249 z248 z247) (1 : Int)))
def WP_X2_tieFor_W (w : mW) (μ : mM) (p1 : Int) (p2 : Int) (Q : Int → mM → Prop) : Prop := ∀ b1 : Nat, μ 10 (p1.toNat) = (b1 : Int) → mAt w b1 210 → loopF (WL_X2_tieFor_W_1 w μ p2 Q b1) False 12 (((-1) : Int), ((-99999999) : Int), (0 : Int))
def WP_X2_partnerFor_W (w : mW) (μ : mM) (p1 : Int) (p2 : Int) (Q : Int → mM → Prop) : Prop := WP_X2_tieFor_W w μ p1 p2 (fun z5 _ => ((-99999999) ≤ z5 ∧ z5 ≤ 19) → ((0 ≤ z5) → ∀ b8 : Nat, μ 11 (z5.toNat) = (b8 : Int) → mAt w b8 220 → WP_X9_sideOf_W w μ b8 p1 (fun z15 _ => ((-1) ≤ z15 ∧ z15 ≤ 1) → WP_X9_end_W w μ b8 (1 - z15) (fun z20 _ => (0 ≤ z20 ∧ z20 ≤ 9) → Q z20 μ))) ∧ ((z5 < 0) → Q z5 μ))
def WL_X2_travel_W_1 (w : mW) (p2 : Int) (Q : Int → mM → Prop) (μ4 : mM) (rec1 : (Int × Int × mM) → Prop) (s : (Int × Int × mM)) : Prop := ∀ z319 : Int, ∀ z318 : Int, ∀ μ320 : mM, s = (z319, z318, μ320) → ((-2147483648) ≤ z319 ∧ z319 ≤ 2147483647) → (0 ≤ z318 ∧ z318 ≤ 10) → mT w μ320 → mF [87006, 88999] w μ4 μ320 → ∀ f_s : Int, μ320 87 (6) = f_s → (0 ≤ f_s ∧ f_s ≤ 11) → ((10 ≤ z318) → Q (2 : Int) μ320) ∧ ((z318 < 10) → ∀ z336 : Int, μ320 88 (z318.toNat) = z336 → (0 ≤ z336 ∧ z336 ≤ 9 ∧ (z336 = 0 ∨ z336 < w.2.2.2 0)) → WP_X2_partnerFor_W w μ320 z336 p2 (fun z344 _ => ((-99999999) ≤ z344 ∧ z344 ≤ 9) → ((0 ≤ z344) → ∀ μ347 : mM, mU μ320 88 (f_s.toNat) z344 μ347 → mT w μ347 → ∀ μ350 : mM, mU μ347 87 (6) (f_s + 1) μ350 → mT w μ350 → ∀ z353 : Int, bShr z319 z344 = z353 → ∀ z356 : Int, bAnd z353 (1 : Int) = z356 → ((z356 = 0) → ∀ z361 : Int, bShl (1 : Int) z344 = z361 → ∀ z364 : Int, bOr z319 z361 = z364 → rec1 (z364, (z318 + 1), μ350)) ∧ ((¬ z356 = 0) → Q (2 : Int) μ350)) ∧ ((z344 < 0) → ((¬ z344 = (-4)) → Q (1 : Int) μ320) ∧ ((z344 = (-4)) → Q (0 : Int) μ320))))
def WP_X2_travel_W (w : mW) (μ : mM) (p1 : Int) (p2 : Int) (Q : Int → mM → Prop) : Prop := ∀ μ1 : mM, mU μ 88 ((0 : Int).toNat) p1 μ1 → mT w μ1 → ∀ μ4 : mM, mU μ1 87 (6) (1 : Int) μ4 → mT w μ4 → ∀ z7 : Int, bShl (1 : Int) p1 = z7 → loopF (WL_X2_travel_W_1 w p2 Q μ4) False 12 (z7, (0 : Int), μ4)
def WP_X2_send_W (w : mW) (μ : mM) (p1 : Int) (p2 : Int) (Q : Int → mM → Prop) : Prop := WP_X2_travel_W w μ p1 p2 (fun z5 μ1 => mT w μ1 → mF [87006, 88999] w μ μ1 → ((-2147483648) ≤ z5 ∧ z5 ≤ 2147483647) → ∀ z6 : Int, μ1 87 6 = z6 → (0 ≤ z6 ∧ z6 ≤ 11) → ∀ μ9 : mM, mQ μ1 88 89 (0 : Int) (0 : Int) z6 μ9 → mT w μ9 → ∀ μ13 : mM, mU μ9 87 (9) z6 μ13 → mT w μ13 → Q z5 μ13)
def WP_X11_letter_W (w : mW) (μ : mM) (p1 : Int) (p2 : Int) (Q : Int → mM → Prop) : Prop := ∀ z1 : Int, μ 6 15 = z1 → (z1 = w.2.2.2 0 ∧ 0 ≤ z1 ∧ z1 ≤ 10) → WP_X11_isDomain_W w μ p1 (fun z8 _ => (0 ≤ z8 ∧ z8 ≤ 1) → ((z8 = 0) → Q ((-1) : Int) μ) ∧ ((¬ z8 = 0) → WP_X2_send_W w μ p1 p2 (fun z31 μ27 => mT w μ27 → mF [87006, 87009, 88999, 89999] w μ μ27 → ((-2147483648) ≤ z31 ∧ z31 ≤ 2147483647) → Q z31 μ27)))
def WL_X12_sends_W_1 (w : mW) (μ : mM) (p1 : Int) (p2 : Int) (Q : Int → mM → Prop) (rec1 : (Int × Int) → Prop) (s : (Int × Int)) : Prop := ∀ z223 : Int, ∀ z222 : Int, s = (z223, z222) → ((-99999999) ≤ z223 ∧ z223 ≤ 9) → (0 ≤ z222 ∧ z222 ≤ 10) → ∀ z234 : Int, μ 106 2 = z234 → (0 ≤ z234 ∧ z234 ≤ 10) → ((z234 ≤ z222) → ((¬ z223 = (-99999999)) → ∀ z274 : Int, μ 161 (((10 * p1) + z223).toNat) = z274 → (z274 = -99999999 ∨ z274 = -4 ∨ (0 ≤ z274 ∧ z274 ≤ 19)) → Q z274 μ) ∧ ((z223 = (-99999999)) → Q ((-99999999) : Int) μ)) ∧ ((z222 < z234) → ∀ z281 : Int, μ 161 (((10 * p1) + z222).toNat) = z281 → (z281 = -99999999 ∨ z281 = -4 ∨ (0 ≤ z281 ∧ z281 ≤ 19)) → ((z281 = (-99999999)) → rec1 (z223, (z222 + 1))) ∧ ((¬ z281 = (-99999999)) → ∀ z310 : Int, μ 108 (z222.toNat) = z310 → ((-2147483648) ≤ z310 ∧ z310 ≤ 2147483647) → ∀ z313 : Int, μ 109 (z222.toNat) = z313 → (0 ≤ z313 ∧ z313 ≤ 32) → WP_X12_holds_W w μ z310 z313 p2 (fun z320 _ => (0 ≤ z320 ∧ z320 ≤ 1) → ((¬ z320 = 0) → ((z223 = (-99999999)) → rec1 (z222, (z222 + 1))) ∧ ((¬ z223 = (-99999999)) → ∀ z343 : Int, μ 109 (z223.toNat) = z343 → (0 ≤ z343 ∧ z343 ≤ 32) → ((z313 ≤ z343) → rec1 (z223, (z222 + 1))) ∧ ((z343 < z313) → rec1 (z222, (z222 + 1))))) ∧ ((z320 = 0) → rec1 (z223, (z222 + 1))))))
def WP_X12_sends_W (w : mW) (μ : mM) (p1 : Int) (p2 : Int) (Q : Int → mM → Prop) : Prop := loopF (WL_X12_sends_W_1 w μ p1 p2 Q) False 12 (((-99999999) : Int), (0 : Int))
def WL_X12_goes_W_2 (w : mW) (p2 : Int) (Q : Int → mM → Prop) (rec1 : (Int × mM) → Prop) (z136 : Int) (μ137 : mM) (f_m : Int) (rec2 : (Int × Int) → Prop) (s : (Int × Int)) : Prop := ∀ z396 : Int, ∀ z395 : Int, s = (z396, z395) → (0 ≤ z396 ∧ z396 ≤ 1) → (0 ≤ z395 ∧ z395 ≤ 10) → ((f_m ≤ z395) → ∀ μ416 : mM, mU μ137 175 (f_m.toNat) z136 μ416 → mT w μ416 → ∀ μ419 : mM, mU μ416 106 (106) (f_m + 1) μ419 → mT w μ419 → ((z396 = 0) → WP_X12_sends_W w μ419 z136 p2 (fun z428 _ => ((-99999999) ≤ z428 ∧ z428 ≤ 19) → ((¬ z428 = (-4)) → ((¬ z428 = (-99999999)) → WP_X12_partnerOf_W w μ419 z428 z136 (fun z436 _ => (0 ≤ z436 ∧ z436 ≤ 9) → rec1 (z436, μ419))) ∧ ((z428 = (-99999999)) → Q (1 : Int) μ419)) ∧ ((z428 = (-4)) → Q (0 : Int) μ419))) ∧ ((¬ z396 = 0) → Q (2 : Int) μ419)) ∧ ((z395 < f_m) → ((¬ z396 = 0) → rec2 ((1 : Int), (z395 + 1))) ∧ ((z396 = 0) → ∀ z445 : Int, μ137 175 (z395.toNat) = z445 → (0 ≤ z445 ∧ z445 ≤ 9) → ((¬ z445 = z136) → rec2 ((0 : Int), (z395 + 1))) ∧ ((z445 = z136) → rec2 ((1 : Int), (z395 + 1)))))
def WL_X12_goes_W_1 (w : mW) (p2 : Int) (Q : Int → mM → Prop) (μ1 : mM) (rec1 : (Int × mM) → Prop) (s : (Int × mM)) : Prop := ∀ z136 : Int, ∀ μ137 : mM, s = (z136, μ137) → (0 ≤ z136 ∧ z136 ≤ 9) → mT w μ137 → mF [106106, 175999] w μ1 μ137 → ∀ f_m : Int, μ137 106 (106) = f_m → (0 ≤ f_m ∧ f_m ≤ 12) → loopF (WL_X12_goes_W_2 w p2 Q rec1 z136 μ137 f_m) False 12 ((0 : Int), (0 : Int))
def WP_X12_goes_W (w : mW) (μ : mM) (p1 : Int) (p2 : Int) (Q : Int → mM → Prop) : Prop := ∀ μ1 : mM, mU μ 106 (106) (0 : Int) μ1 → mT w μ1 → loopF (WL_X12_goes_W_1 w p2 Q μ1) False 13 (p1, μ1)
def WL_X12_letter_W_1 (w : mW) (Q : Int → mM → Prop) (z18 : Int) (z19 : Int) (μ22 : mM) (rec1 : (Int × mM) → Prop) (s : (Int × mM)) : Prop := ∀ z95 : Int, ∀ μ96 : mM, s = (z95, μ96) → (0 ≤ z95 ∧ z95 ≤ 12) → mT w μ96 → mF [176999] w μ22 μ96 → ((z19 ≤ z95) → Q z18 μ96) ∧ ((z95 < z19) → ∀ z116 : Int, μ96 175 (z95.toNat) = z116 → (0 ≤ z116 ∧ z116 ≤ 9) → ∀ μ119 : mM, mU μ96 176 (z95.toNat) z116 μ119 → mT w μ119 → rec1 ((z95 + 1), μ119))
def WP_X12_letter_W (w : mW) (μ : mM) (p1 : Int) (p2 : Int) (Q : Int → mM → Prop) : Prop := ∀ z1 : Int, μ 106 5 = z1 → (0 ≤ z1 ∧ z1 ≤ 10) → WP_X12_isDomain_W w μ p1 (fun z8 _ => (0 ≤ z8 ∧ z8 ≤ 1) → ((¬ z8 = 0) → WP_X12_goes_W w μ p1 p2 (fun z18 μ14 => mT w μ14 → mF [106106, 175999] w μ μ14 → (0 ≤ z18 ∧ z18 ≤ 2) → ∀ z19 : Int, μ14 106 106 = z19 → (0 ≤ z19 ∧ z19 ≤ 12) → ∀ μ22 : mM, mU μ14 106 (108) z19 μ22 → mT w μ22 → loopF (WL_X12_letter_W_1 w Q z18 z19 μ22) False 14 ((0 : Int), μ22))) ∧ ((z8 = 0) → Q ((-1) : Int) μ))
def WP_X11_led_W (w : mW) (μ : mM) (p1 : Int) (Q : Int → mM → Prop) : Prop := ((p1 < 0) → Q ((-99999999) : Int) μ) ∧ ((0 ≤ p1) → ∀ z14 : Int, μ 87 9 = z14 → (0 ≤ z14 ∧ z14 ≤ 11) → ((p1 < z14) → ∀ z25 : Int, μ 89 (p1.toNat) = z25 → ((-2147483648) ≤ z25 ∧ z25 ≤ 2147483647) → Q z25 μ) ∧ ((z14 ≤ p1) → Q ((-99999999) : Int) μ))
def WP_X12_led_W (w : mW) (μ : mM) (p1 : Int) (Q : Int → mM → Prop) : Prop := ∀ z1 : Int, μ 106 108 = z1 → (0 ≤ z1 ∧ z1 ≤ 12) → WP_X12_in_W w μ p1 (0) (z1 - 1) (fun z8 _ => (0 ≤ z8 ∧ z8 ≤ 1) → ((z8 = 0) → Q ((-99999999) : Int) μ) ∧ ((¬ z8 = 0) → ∀ z23 : Int, μ 176 (p1.toNat) = z23 → ((-2147483648) ≤ z23 ∧ z23 ≤ 2147483647) → Q z23 μ))
def WL_X2_unitsOver_W_2 (w : mW) (p1 : Int) (p2 : Int) (rec1 : (Int × Int × mM) → Prop) (z671 : Int) (μ757 : mM) (rec2 : (Int × Int) → Prop) (s : (Int × Int)) : Prop := ∀ z925 : Int, ∀ z924 : Int, s = (z925, z924) → ((-2147483648) ≤ z925 ∧ z925 ≤ 2147483647) → (0 ≤ z924 ∧ z924 ≤ 10) → ∀ z935 : Int, μ757 87 6 = z935 → (0 ≤ z935 ∧ z935 ≤ 11) → ((z935 ≤ (z924 + 1)) → rec1 (z925, (z671 + 1), μ757)) ∧ (((z924 + 1) < z935) → ∀ z959 : Int, μ757 88 (z924.toNat) = z959 → (0 ≤ z959 ∧ z959 ≤ 9 ∧ (z959 = 0 ∨ z959 < w.2.2.2 0)) → ((¬ z959 = p1) → rec2 (z925, (z924 + 1))) ∧ ((z959 = p1) → ∀ z977 : Int, μ757 88 ((z924 + 1).toNat) = z977 → (0 ≤ z977 ∧ z977 ≤ 9 ∧ (z977 = 0 ∨ z977 < w.2.2.2 0)) → ((¬ z977 = p2) → rec2 (z925, (z924 + 1))) ∧ ((z977 = p2) → ∀ z990 : Int, μ757 92 (z671.toNat) = z990 → ((-2147483648) ≤ z990 ∧ z990 ≤ 2147483647) → ∀ z993 : Int, (-2147483648 ≤ z993 ∧ z993 ≤ 2147483647) → (z993 - (z925 + z990)) % 4294967296 = 0 → rec2 (z993, (z924 + 1)))))
def WL_X2_unitsOver_W_1 (w : mW) (μ : mM) (p1 : Int) (p2 : Int) (Q : Int → mM → Prop) (rec1 : (Int × Int × mM) → Prop) (s : (Int × Int × mM)) : Prop := ∀ z672 : Int, ∀ z671 : Int, ∀ μ673 : mM, s = (z672, z671, μ673) → ((-2147483648) ≤ z672 ∧ z672 ≤ 2147483647) → (0 ≤ z671 ∧ z671 ≤ 16) → mT w μ673 → mF [87006, 88999] w μ μ673 → ∀ z683 : Int, μ673 87 10 = z683 → (0 ≤ z683 ∧ z683 ≤ 16 ∧ (z683 = 0 ∨ 0 < w.2.2.2 0)) → ((z683 ≤ z671) → Q z672 μ673) ∧ ((z671 < z683) → ∀ z750 : Int, μ673 90 (z671.toNat) = z750 → (0 ≤ z750 ∧ z750 ≤ 9 ∧ (z750 = 0 ∨ z750 < w.2.2.2 0)) → ∀ z754 : Int, μ673 91 (z671.toNat) = z754 → ((-2147483648) ≤ z754 ∧ z754 ≤ 2147483647) → WP_X2_travel_W w μ673 z750 z754 (fun z761 μ757 => mT w μ757 → mF [87006, 88999] w μ673 μ757 → ((-2147483648) ≤ z761 ∧ z761 ≤ 2147483647) → loopF (WL_X2_unitsOver_W_2 w p1 p2 rec1 z671 μ757) False 12 (z672, (0 : Int))))
def WP_X2_unitsOver_W (w : mW) (μ : mM) (p1 : Int) (p2 : Int) (Q : Int → mM → Prop) : Prop := loopF (WL_X2_unitsOver_W_1 w μ p1 p2 Q) False 18 ((0 : Int), (0 : Int), μ)
def WP_X11_load_W (w : mW) (μ : mM) (p1 : Int) (p2 : Int) (Q : Int → mM → Prop) : Prop := ∀ z1 : Int, μ 6 16 = z1 → (z1 = w.2.2.2 1 ∧ 0 ≤ z1 ∧ z1 ≤ 20) → WP_X11_isTie_W w μ p1 (fun z8 _ => (0 ≤ z8 ∧ z8 ≤ 1) → ((z8 = 0) → Q ((-1) : Int) μ) ∧ ((¬ z8 = 0) → WP_X11_isEither_W w μ p2 (fun z20 _ => (0 ≤ z20 ∧ z20 ≤ 1) → ((¬ z20 = 0) → ∀ b25 : Nat, μ 11 (p1.toNat) = (b25 : Int) → mAt w b25 220 → WP_X9_end_W w μ b25 p2 (fun z32 _ => (0 ≤ z32 ∧ z32 ≤ 9) → WP_X9_end_W w μ b25 (1 - p2) (fun z37 _ => (0 ≤ z37 ∧ z37 ≤ 9) → WP_X2_unitsOver_W w μ z32 z37 (fun z42 μ38 => mT w μ38 → mF [87006, 88999] w μ μ38 → ((-2147483648) ≤ z42 ∧ z42 ≤ 2147483647) → Q z42 μ38)))) ∧ ((z20 = 0) → Q ((-1) : Int) μ))))
def WL_X12_load_W_2 (p1 : Int) (p2 : Int) (rec1 : (Int × Int × mM) → Prop) (z715 : Int) (μ802 : mM) (rec2 : (Int × Int) → Prop) (s : (Int × Int)) : Prop := ∀ z1059 : Int, ∀ z1058 : Int, s = (z1059, z1058) → ((-2147483648) ≤ z1059 ∧ z1059 ≤ 2147483647) → (0 ≤ z1058 ∧ z1058 ≤ 11) → ∀ z1069 : Int, μ802 106 106 = z1069 → (0 ≤ z1069 ∧ z1069 ≤ 12) → ((z1069 ≤ (z1058 + 1)) → rec1 (z1059, (z715 + 1), μ802)) ∧ (((z1058 + 1) < z1069) → ∀ z1095 : Int, μ802 175 (z1058.toNat) = z1095 → (0 ≤ z1095 ∧ z1095 ≤ 9) → ∀ z1098 : Int, μ802 110 (((2 * p1) + p2).toNat) = z1098 → (0 ≤ z1098 ∧ z1098 ≤ 9) → ((¬ z1095 = z1098) → rec2 (z1059, (z1058 + 1))) ∧ ((z1095 = z1098) → ∀ z1114 : Int, μ802 175 ((z1058 + 1).toNat) = z1114 → (0 ≤ z1114 ∧ z1114 ≤ 9) → ∀ z1117 : Int, μ802 110 ((((2 * p1) + 1) - p2).toNat) = z1117 → (0 ≤ z1117 ∧ z1117 ≤ 9) → ((¬ z1114 = z1117) → rec2 (z1059, (z1058 + 1))) ∧ ((z1114 = z1117) → ∀ z1127 : Int, μ802 179 (z715.toNat) = z1127 → ((-2147483648) ≤ z1127 ∧ z1127 ≤ 2147483647) → ∀ z1130 : Int, (-2147483648 ≤ z1130 ∧ z1130 ≤ 2147483647) → (z1130 - (z1059 + z1127)) % 4294967296 = 0 → rec2 (z1130, (z1058 + 1)))))
def WL_X12_load_W_1 (w : mW) (μ : mM) (p1 : Int) (p2 : Int) (Q : Int → mM → Prop) (rec1 : (Int × Int × mM) → Prop) (s : (Int × Int × mM)) : Prop := ∀ z716 : Int, ∀ z715 : Int, ∀ μ717 : mM, s = (z716, z715, μ717) → ((-2147483648) ≤ z716 ∧ z716 ≤ 2147483647) → (0 ≤ z715 ∧ z715 ≤ 16) → mT w μ717 → mF [106106, 175999] w μ μ717 → ∀ z727 : Int, μ717 106 109 = z727 → (0 ≤ z727 ∧ z727 ≤ 16) → ((z727 ≤ z715) → Q z716 μ717) ∧ ((z715 < z727) → ∀ z796 : Int, μ717 177 (z715.toNat) = z796 → (0 ≤ z796 ∧ z796 ≤ 9) → ∀ z799 : Int, μ717 178 (z715.toNat) = z799 → ((-2147483648) ≤ z799 ∧ z799 ≤ 2147483647) → WP_X12_goes_W w μ717 z796 z799 (fun z806 μ802 => mT w μ802 → mF [106106, 175999] w μ717 μ802 → (0 ≤ z806 ∧ z806 ≤ 2) → loopF (WL_X12_load_W_2 p1 p2 rec1 z715 μ802) False 13 (z716, (0 : Int))))
def WP_X12_load_W (w : mW) (μ : mM) (p1 : Int) (p2 : Int) (Q : Int → mM → Prop) : Prop := ∀ z1 : Int, μ 106 6 = z1 → (0 ≤ z1 ∧ z1 ≤ 20) → WP_X12_isTie_W w μ p1 (fun z8 _ => (0 ≤ z8 ∧ z8 ≤ 1) → ((z8 = 0) → Q ((-1) : Int) μ) ∧ ((¬ z8 = 0) → WP_X12_in_W w μ p2 (0) (1) (fun z20 _ => (0 ≤ z20 ∧ z20 ≤ 1) → ((¬ z20 = 0) → loopF (WL_X12_load_W_1 w μ p1 p2 Q) False 18 ((0 : Int), (0 : Int), μ)) ∧ ((z20 = 0) → Q ((-1) : Int) μ))))
def WL_X2_unitsThat_W_1 (w : mW) (μ : mM) (p1 : Int) (Q : Int → mM → Prop) (rec1 : (Int × Int × mM) → Prop) (s : (Int × Int × mM)) : Prop := ∀ z215 : Int, ∀ z214 : Int, ∀ μ216 : mM, s = (z215, z214, μ216) → ((-2147483648) ≤ z215 ∧ z215 ≤ 2147483647) → (0 ≤ z214 ∧ z214 ≤ 16) → mT w μ216 → mF [87006, 88999] w μ μ216 → ∀ z226 : Int, μ216 87 10 = z226 → (0 ≤ z226 ∧ z226 ≤ 16 ∧ (z226 = 0 ∨ 0 < w.2.2.2 0)) → ((z226 ≤ z214) → Q z215 μ216) ∧ ((z214 < z226) → ∀ z253 : Int, μ216 90 (z214.toNat) = z253 → (0 ≤ z253 ∧ z253 ≤ 9 ∧ (z253 = 0 ∨ z253 < w.2.2.2 0)) → ∀ z257 : Int, μ216 91 (z214.toNat) = z257 → ((-2147483648) ≤ z257 ∧ z257 ≤ 2147483647) → WP_X2_travel_W w μ216 z253 z257 (fun z264 μ260 => mT w μ260 → mF [87006, 88999] w μ216 μ260 → ((-2147483648) ≤ z264 ∧ z264 ≤ 2147483647) → ((¬ z264 = p1) → rec1 (z215, (z214 + 1), μ260)) ∧ ((z264 = p1) → ∀ z273 : Int, μ260 92 (z214.toNat) = z273 → ((-2147483648) ≤ z273 ∧ z273 ≤ 2147483647) → ∀ z276 : Int, (-2147483648 ≤ z276 ∧ z276 ≤ 2147483647) → (z276 - (z215 + z273)) % 4294967296 = 0 → rec1 (z276, (z214 + 1), μ260))))
def WP_X2_unitsThat_W (w : mW) (μ : mM) (p1 : Int) (Q : Int → mM → Prop) : Prop := loopF (WL_X2_unitsThat_W_1 w μ p1 Q) False 18 ((0 : Int), (0 : Int), μ)
def WP_X11_units_W (w : mW) (μ : mM) (p1 : Int) (Q : Int → mM → Prop) : Prop := ((p1 < 0) → Q ((-1) : Int) μ) ∧ ((0 ≤ p1) → ((p1 ≤ 2) → WP_X2_unitsThat_W w μ p1 (fun z26 μ22 => mT w μ22 → mF [87006, 88999] w μ μ22 → ((-2147483648) ≤ z26 ∧ z26 ≤ 2147483647) → Q z26 μ22)) ∧ ((2 < p1) → Q ((-1) : Int) μ))
def WL_X12_units_W_1 (w : mW) (μ : mM) (p1 : Int) (Q : Int → mM → Prop) (rec1 : (Int × Int × mM) → Prop) (s : (Int × Int × mM)) : Prop := ∀ z233 : Int, ∀ z232 : Int, ∀ μ234 : mM, s = (z233, z232, μ234) → ((-2147483648) ≤ z233 ∧ z233 ≤ 2147483647) → (0 ≤ z232 ∧ z232 ≤ 16) → mT w μ234 → mF [106106, 175999] w μ μ234 → ∀ z244 : Int, μ234 106 109 = z244 → (0 ≤ z244 ∧ z244 ≤ 16) → ((z244 ≤ z232) → Q z233 μ234) ∧ ((z232 < z244) → ∀ z269 : Int, μ234 177 (z232.toNat) = z269 → (0 ≤ z269 ∧ z269 ≤ 9) → ∀ z272 : Int, μ234 178 (z232.toNat) = z272 → ((-2147483648) ≤ z272 ∧ z272 ≤ 2147483647) → WP_X12_goes_W w μ234 z269 z272 (fun z279 μ275 => mT w μ275 → mF [106106, 175999] w μ234 μ275 → (0 ≤ z279 ∧ z279 ≤ 2) → ((¬ z279 = p1) → rec1 ((z233 + 0), (z232 + 1), μ275)) ∧ ((z279 = p1) → ∀ z285 : Int, μ275 179 (z232.toNat) = z285 → ((-2147483648) ≤ z285 ∧ z285 ≤ 2147483647) → ∀ z288 : Int, (-2147483648 ≤ z288 ∧ z288 ≤ 2147483647) → (z288 - (z233 + z285)) % 4294967296 = 0 → rec1 (z288, (z232 + 1), μ275))))
def WP_X12_units_W (w : mW) (μ : mM) (p1 : Int) (Q : Int → mM → Prop) : Prop := WP_X12_in_W w μ p1 (0) (2) (fun z5 _ => (0 ≤ z5 ∧ z5 ≤ 1) → ((¬ z5 = 0) → loopF (WL_X12_units_W_1 w μ p1 Q) False 18 ((0 : Int), (0 : Int), μ)) ∧ ((z5 = 0) → Q ((-1) : Int) μ))
def WP_X11_count_W (w : mW) (μ : mM) (p1 : Int) (Q : Int → mM → Prop) : Prop := (p1 = 0 → ∀ z3 : Int, μ 6 14 = z3 → (0 ≤ z3 ∧ z3 ≤ 10) → Q z3 μ) ∧ (¬ p1 = 0 → (p1 = 1 → ∀ z8 : Int, μ 6 15 = z8 → (z8 = w.2.2.2 0 ∧ 0 ≤ z8 ∧ z8 ≤ 10) → Q z8 μ) ∧ (¬ p1 = 1 → (p1 = 2 → ∀ z13 : Int, μ 6 16 = z13 → (z13 = w.2.2.2 1 ∧ 0 ≤ z13 ∧ z13 ≤ 20) → Q z13 μ) ∧ (¬ p1 = 2 → (p1 = 3 → ∀ z18 : Int, μ 6 17 = z18 → (0 ≤ z18 ∧ z18 ≤ 30) → Q z18 μ) ∧ (¬ p1 = 3 → (p1 = 4 → ∀ z23 : Int, μ 21 8 = z23 → (z23 = w.2.2.2 2 ∧ 0 ≤ z23 ∧ z23 ≤ 12) → Q z23 μ) ∧ (¬ p1 = 4 → (p1 = 5 → ∀ z28 : Int, μ 87 10 = z28 → (0 ≤ z28 ∧ z28 ≤ 16 ∧ (z28 = 0 ∨ 0 < w.2.2.2 0)) → Q z28 μ) ∧ (¬ p1 = 5 → (p1 = 6 → ∀ z34 : Int, μ 0 10 = z34 → (0 ≤ z34 ∧ z34 ≤ 1000) → Q z34 μ) ∧ (¬ p1 = 6 → (p1 = 7 → ∀ z39 : Int, μ 32 11 = z39 → ((-1) ≤ z39 ∧ z39 ≤ 2000000000) → Q z39 μ) ∧ (¬ p1 = 7 → (p1 = 8 → ∀ z45 : Int, μ 32 10 = z45 → (0 ≤ z45 ∧ z45 ≤ 800 ∧ (z45 = 0 ∨ 0 < w.2.2.2 1)) → Q z45 μ) ∧ (¬ p1 = 8 → (p1 = 9 → ∀ z51 : Int, μ 32 12 = z51 → ((-2147483648) ≤ z51 ∧ z51 ≤ 2147483647) → Q z51 μ) ∧ (¬ p1 = 9 → (p1 = 10 → ∀ z56 : Int, μ 0 11 = z56 → (0 ≤ z56 ∧ z56 ≤ 20) → Q z56 μ) ∧ (¬ p1 = 10 → (p1 = 11 → ∀ z61 : Int, μ 6 18 = z61 → (0 ≤ z61 ∧ z61 ≤ 2147483647) → Q z61 μ) ∧ (¬ p1 = 11 → Q ((-1) : Int) μ))))))))))))
def WJ_X12_count_W_2 (μ : mM) (rec1 : (Int × Int) → Prop) (z421 : Int) (z420 : Int) (z518 : Int) : Prop := (0 ≤ z518 ∧ z518 ≤ 1) → ∀ z522 : Int, μ 159 (z420.toNat) = z522 → ((-1) ≤ z522 ∧ z522 ≤ 2000001000) → ((z522 < 0) → ∀ z529 : Int, (-2147483648 ≤ z529 ∧ z529 ≤ 2147483647) → (z529 - (z421 + (z518 + 0))) % 4294967296 = 0 → rec1 (z529, (z420 + 1))) ∧ ((0 ≤ z522) → ∀ z533 : Int, (-2147483648 ≤ z533 ∧ z533 ≤ 2147483647) → (z533 - (z421 + (z518 + 1))) % 4294967296 = 0 → rec1 (z533, (z420 + 1)))
def WL_X12_count_W_1 (μ : mM) (p1 : Int) (Q : Int → mM → Prop) (rec1 : (Int × Int) → Prop) (s : (Int × Int)) : Prop := ∀ z421 : Int, ∀ z420 : Int, s = (z421, z420) → ((-2147483648) ≤ z421 ∧ z421 ≤ 2147483647) → (0 ≤ z420 ∧ z420 ≤ 400) → ((400 ≤ z420) → (p1 = 0 → ∀ z455 : Int, μ 106 2 = z455 → (0 ≤ z455 ∧ z455 ≤ 10) → Q z455 μ) ∧ (¬ p1 = 0 → (p1 = 1 → ∀ z460 : Int, μ 106 5 = z460 → (0 ≤ z460 ∧ z460 ≤ 10) → Q z460 μ) ∧ (¬ p1 = 1 → (p1 = 2 → ∀ z465 : Int, μ 106 6 = z465 → (0 ≤ z465 ∧ z465 ≤ 20) → Q z465 μ) ∧ (¬ p1 = 2 → (p1 = 3 → ∀ z471 : Int, μ 106 18 = z471 → (0 ≤ z471 ∧ z471 ≤ 30) → Q z471 μ) ∧ (¬ p1 = 3 → (p1 = 4 → ∀ z476 : Int, μ 106 39 = z476 → (0 ≤ z476 ∧ z476 ≤ 12) → Q z476 μ) ∧ (¬ p1 = 4 → (p1 = 5 → ∀ z481 : Int, μ 106 109 = z481 → (0 ≤ z481 ∧ z481 ≤ 16) → Q z481 μ) ∧ (¬ p1 = 5 → (p1 = 6 → ∀ z486 : Int, μ 106 1 = z486 → (0 ≤ z486 ∧ z486 ≤ 1000) → Q z486 μ) ∧ (¬ p1 = 6 → (p1 = 7 → ∀ z491 : Int, μ 106 71 = z491 → (0 ≤ z491 ∧ z491 ≤ 2000000000) → Q z491 μ) ∧ (¬ p1 = 7 → (p1 = 8 → Q z421 μ) ∧ (¬ p1 = 8 → (p1 = 9 → ∀ z498 : Int, μ 106 73 = z498 → ((-2147483648) ≤ z498 ∧ z498 ≤ 2147483647) → Q z498 μ) ∧ (¬ p1 = 9 → (p1 = 10 → ∀ z504 : Int, μ 106 15 = z504 → (0 ≤ z504 ∧ z504 ≤ 20) → Q z504 μ) ∧ (¬ p1 = 10 → (p1 = 11 → ∀ z509 : Int, μ 106 17 = z509 → (0 ≤ z509 ∧ z509 ≤ 2147483647) → Q z509 μ) ∧ (¬ p1 = 11 → Q ((-1) : Int) μ))))))))))))) ∧ ((z420 < 400) → ∀ z513 : Int, μ 157 (z420.toNat) = z513 → ((-1) ≤ z513 ∧ z513 ≤ 2000001000) → ((z513 < 0) → (WJ_X12_count_W_2 μ rec1 z421 z420) (0 : Int)) ∧ ((0 ≤ z513) → (WJ_X12_count_W_2 μ rec1 z421 z420) (1 : Int)))
def WP_X12_count_W (w : mW) (μ : mM) (p1 : Int) (Q : Int → mM → Prop) : Prop := loopF (WL_X12_count_W_1 μ p1 Q) False 402 ((0 : Int), (0 : Int))
def WP_X2_addDemand_W (w : mW) (μ : mM) (p1 : Int) (p2 : Int) (p3 : Int) (Q : Int → mM → Prop) : Prop := ∀ f_d : Int, μ 87 10 = f_d → (0 ≤ f_d ∧ f_d ≤ 16 ∧ (f_d = 0 ∨ 0 < w.2.2.2 0)) → ∀ μ39 : mM, mU μ 90 (f_d.toNat) p1 μ39 → mT w μ39 → ∀ μ42 : mM, mU μ39 91 (f_d.toNat) p2 μ42 → mT w μ42 → ∀ μ45 : mM, mU μ42 92 (f_d.toNat) p3 μ45 → mT w μ45 → ∀ μ48 : mM, mU μ45 87 (10) (f_d + 1) μ48 → mT w μ48 → Q ((f_d + 1) - 1) μ48
def WP_X11_demand_W (w : mW) (μ : mM) (p1 : Int) (p2 : Int) (p3 : Int) (Q : Int → mM → Prop) : Prop := ∀ z1 : Int, μ 6 15 = z1 → (z1 = w.2.2.2 0 ∧ 0 ≤ z1 ∧ z1 ≤ 10) → WP_X11_isDomain_W w μ p1 (fun z8 _ => (0 ≤ z8 ∧ z8 ≤ 1) → ((z8 = 0) → Q ((-1) : Int) μ) ∧ ((¬ z8 = 0) → ((p3 < 1) → Q ((-1) : Int) μ) ∧ ((1 ≤ p3) → ((p3 ≤ 1000000) → ∀ z21 : Int, μ 87 10 = z21 → (0 ≤ z21 ∧ z21 ≤ 16 ∧ (z21 = 0 ∨ 0 < w.2.2.2 0)) → ((z21 < 16) → WP_X2_addDemand_W w μ p1 p2 p3 (fun z31 μ27 => mT w μ27 → mF [87010, 90999, 91999, 92999] w μ μ27 → ((-2147483648) ≤ z31 ∧ z31 ≤ 2147483647) → Q z31 μ27)) ∧ ((16 ≤ z21) → Q ((-3) : Int) μ)) ∧ ((1000000 < p3) → Q ((-1) : Int) μ))))
def WP_X12_demand_W (w : mW) (μ : mM) (p1 : Int) (p2 : Int) (p3 : Int) (Q : Int → mM → Prop) : Prop := ∀ z1 : Int, μ 106 5 = z1 → (0 ≤ z1 ∧ z1 ≤ 10) → WP_X12_isDomain_W w μ p1 (fun z8 _ => (0 ≤ z8 ∧ z8 ≤ 1) → ((z8 = 0) → Q ((-1) : Int) μ) ∧ ((¬ z8 = 0) → WP_X12_in_W w μ p3 (1) (1000000) (fun z20 _ => (0 ≤ z20 ∧ z20 ≤ 1) → ((¬ z20 = 0) → ∀ z25 : Int, μ 106 109 = z25 → (0 ≤ z25 ∧ z25 ≤ 16) → ((¬ z25 = 16) → ∀ μ30 : mM, mU μ 177 (z25.toNat) p1 μ30 → mT w μ30 → ∀ μ33 : mM, mU μ30 178 (z25.toNat) p2 μ33 → mT w μ33 → ∀ μ36 : mM, mU μ33 179 (z25.toNat) p3 μ36 → mT w μ36 → ∀ μ39 : mM, mU μ36 106 (109) (z25 + 1) μ39 → mT w μ39 → Q ((z25 + 1) - 1) μ39) ∧ ((z25 = 16) → Q ((-3) : Int) μ)) ∧ ((z20 = 0) → Q ((-1) : Int) μ))))
def WL_X3_putNumber_W_1 (w : mW) (μ : mM) (p1 : Int) (Q : mM → Prop) (rec1 : (Int × mM) → Prop) (s : (Int × mM)) : Prop := ∀ z43 : Int, ∀ μ44 : mM, s = (z43, μ44) → ((-1) ≤ z43 ∧ z43 ≤ 3) → mT w μ44 → mF [76015, 86999] w μ μ44 → ((z43 < 0) → Q μ44) ∧ ((0 ≤ z43) → ∀ z75 : Int, μ44 76 15 = z75 → (0 ≤ z75 ∧ z75 ≤ 256) → ((256 ≤ z75) → Q μ44) ∧ ((z75 < 256) → ∀ z95 : Int, bUsh p1 (8 * z43) = z95 → ∀ z98 : Int, bAnd z95 (255 : Int) = z98 → ∀ μ101 : mM, mU μ44 86 (z75.toNat) z98 μ101 → mT w μ101 → ∀ μ104 : mM, mU μ101 76 (15) (z75 + 1) μ104 → mT w μ104 → rec1 ((z43 + (-1)), μ104)))
def WP_X3_putNumber_W (w : mW) (μ : mM) (p1 : Int) (p2 : Int) (Q : mM → Prop) : Prop := loopF (WL_X3_putNumber_W_1 w μ p1 Q) False 6 ((p2 - 1), μ)
theorem vc_X3_putNumber_W_1 {z43 : Int} (h0 : (z43 - (-2)) < ((0 : Nat) : Int)) (h1 : (-1) ≤ z43 ∧ z43 ≤ 3) : False := by omega
theorem vc_X3_putNumber_W_2 {z43 : Int} (h0 : z43 < 0) (h1 : (-1) ≤ z43 ∧ z43 ≤ 3) : (-1) ≤ z43 ∧ z43 ≤ (-1) := by omega
theorem vc_X3_putNumber_W_3 {z43 : Int} (h0 : 0 ≤ z43) (h1 : (-1) ≤ z43 ∧ z43 ≤ 3) : 0 ≤ z43 ∧ z43 ≤ 3 := by omega
theorem vc_X3_putNumber_W_6 {N z43 : Int} (h0 : (z43 - (-2)) < N + 1) (h1 : 0 ≤ z43) (h2 : 0 ≤ z43 ∧ z43 ≤ 3) : ((z43 + (-1)) - (-2)) < N := by omega
theorem vc_X3_putNumber_W_7 {p2 : Int} (h0 : 0 ≤ p2 ∧ p2 ≤ 4) : ((p2 - 1) - (-2)) < ((6 : Nat) : Int) := by omega
set_option maxRecDepth 4000 in
set_option maxHeartbeats 4000000 in
theorem c_X3_putNumber_W {l : Launch} {D : va_G} {c : Nat → ClassId} {H0 : Heap} {sa : Nat × Nat × (Nat → Int32)} {w : mW} {μ : mM} (hw : mWF w) (hT : mT w μ) {p1 : Int} (hp1 : (-2147483648) ≤ p1 ∧ p1 ≤ 2147483647) {p2 : Int} (hp2 : 0 ≤ p2 ∧ p2 ≤ 4) {Q : mM → Prop} (hQ : WP_X3_putNumber_W w μ p1 p2 Q) : sC (gG l D c H0 sa) mX3_putNumber 1 0 0 [.ref 76, iv p1, iv p2] (mk w μ) (qV w [76015, 86999] μ (fun μ1 => Q μ1 ∧ True)) := by
  refine sC.of rfl (by decide) (le_t rfl) ?_
  refine mr_lvE (lv' := [(0, .ref 76), (1, iv p1), (2, iv p2)]) rfl ?_
  refine mr_iload_n (pc := 0) (z := p2) dX3_putNumber_0 rfl rfl ?_
  refine mr_iconst (pc := 1) (z := 1) dX3_putNumber_1 ?_
  refine mr_isub (pc := 2) (x := p2) (y := 1) dX3_putNumber_2 ?_
  refine mr_istore_n (pc := 3) (lv' := [(3, iv (p2 - 1)), (0, .ref 76), (1, iv p1), (2, iv p2)]) dX3_putNumber_3 rfl (by decide) rfl ?_
  have L45 : ∀ (nL45 : Nat) (z43 : Int) (μ44 : mM), mT w μ44 → mF [76015, 86999] w μ μ44 → ((-1) ≤ z43 ∧ z43 ≤ 3) → (z43 - (-2)) < (nL45 : Int) → loopF (WL_X3_putNumber_W_1 w μ p1 Q) False nL45 (z43, μ44) → sV (gG l D c H0 sa) mX3_putNumber (sRm 1 0 0) (sZ (gG l D c H0 sa) 0 0 (qV w [76015, 86999] μ (fun μ1 => Q μ1 ∧ True))) 4 [(0, .ref 76), (1, iv p1), (3, iv z43)] [] (mk w μ44) 0 0 := by
    intro nL45
    induction nL45 with
    | zero => intro z43 μ44 T47 F48 h46 h50 W51; exact ((vc_X3_putNumber_W_1 h50 h46)).elim
    | succ nL45 ih52 =>
      intro z43 μ44 T47 F48 h46 h50 W51
      refine mr_iload_n (pc := 4) (z := z43) dX3_putNumber_4 rfl rfl ?_
      refine mr_if_lt (pc := 5) (tgt := 53) dX3_putNumber_5 (by decide) (r32 h46 rfl) (fun h72 => ?_) (fun h72 => ?_)
      · have h73 : (-1) ≤ z43 ∧ z43 ≤ (-1) := (vc_X3_putNumber_W_2 h72 h46)
        exact mr_vret dX3_putNumber_53 rfl (le_t rfl) (le_t rfl) T47 (mF.call mF.refl F48 rfl) ⟨((W51 z43 μ44 rfl h46 T47 F48).1 h72), trivial⟩
      have h74 : 0 ≤ z43 ∧ z43 ≤ 3 := (vc_X3_putNumber_W_3 h72 h46)
      refine sv_aload_n (pc := 8) dX3_putNumber_8 rfl rfl ?_
      refine gf_X3_15 (pc := 9) dX3_putNumber_9 wF_X3_163 (A_76 hw) T47 fun z75 q76 h77 => ?_
      refine mr_sipush (pc := 12) (z := 256) dX3_putNumber_12 (by decide) ?_
      refine mr_icmp_ge (pc := 15) (tgt := 53) dX3_putNumber_15 (by decide) (r32 h77 rfl) (r32 (rR (x := 256)) rfl) (fun h92 => ?_) (fun h92 => ?_)
      · have h93 : 256 ≤ z75 ∧ z75 ≤ 256 := (vc_X12_message_W_4 h92 h77)
        exact mr_vret dX3_putNumber_53 rfl (le_t rfl) (le_t rfl) T47 (mF.call mF.refl F48 rfl) ⟨((((W51 z43 μ44 rfl h46 T47 F48).2 h72) z75 q76 h77).1 h92), trivial⟩
      have h94 : 0 ≤ z75 ∧ z75 ≤ 255 := (vc_X12_message_W_70 h92 h77)
      refine sv_aload_n (pc := 18) dX3_putNumber_18 rfl rfl ?_
      refine gf_X3_12 (pc := 19) dX3_putNumber_19 wF_X3_38 (A_76 hw) T47 ?_
      refine sv_aload_n (pc := 22) dX3_putNumber_22 rfl rfl ?_
      refine gk_X3_15 (pc := 23) dX3_putNumber_23 wF_X3_163 (A_76 hw) q76 ?_
      refine mr_iload_n (pc := 26) (z := p1) dX3_putNumber_26 rfl rfl ?_
      refine mr_bipush (pc := 27) (z := 8) dX3_putNumber_27 (by decide) ?_
      refine mr_iload_n (pc := 29) (z := z43) dX3_putNumber_29 rfl rfl ?_
      refine mr_imul (pc := 30) (x := 8) (y := z43) dX3_putNumber_30 ?_
      refine mr_iushr (pc := 31) (x := p1) (y := (8 * z43)) dX3_putNumber_31 ?_
      refine mr_gen (P := fun z => (-2147483648) ≤ z ∧ z ≤ 2147483647) (r32i _) fun z95 q96 h97 => ?_
      refine mr_sipush (pc := 32) (z := 255) dX3_putNumber_32 (by decide) ?_
      refine mr_iand (pc := 35) (x := z95) (y := 255) dX3_putNumber_35 ?_
      refine mr_gen (P := fun z => 0 ≤ z ∧ z ≤ 255) (rAndR (rR (x := 255)) rfl) fun z98 q99 h100 => ?_
      refine ss_86 (pc := 36) dX3_putNumber_36 (A_86 hw) T47 (rIx (n := 256) h94 rfl) (rW (c := (-2147483648)) (d := 2147483647) h100 rfl) fun μ101 u102 T103 => ?_
      refine sv_aload_n (pc := 37) dX3_putNumber_37 rfl rfl ?_
      refine sv_dup (pc := 38) dX3_putNumber_38 rfl ?_
      refine gk_X3_15 (pc := 39) dX3_putNumber_39 wF_X3_163 (A_76 hw) (u102.f (Or.inl (mAt.ne (A_86 hw) (A_76 hw) rfl)) q76) ?_
      refine mr_iconst (pc := 42) (z := 1) dX3_putNumber_42 ?_
      refine mr_iadd (pc := 43) (x := z75) (y := 1) dX3_putNumber_43 ?_
      refine pf_X3_15 (pc := 44) dX3_putNumber_44 wF_X3_163 (A_76 hw) T103 (rW (c := 0) (d := 256) (rAdd (e := 1) (f := 256) h94 (rR (x := 1)) rfl) rfl) fun μ104 u105 T106 => ?_
      refine mr_iinc (pc := 47) (lv' := [(3, iv (z43 + (-1))), (0, .ref 76), (1, iv p1)]) dX3_putNumber_47 rfl (by decide) rfl ?_
      refine sv_goto (pc := 50) (tgt := 4) dX3_putNumber_50 (by decide) ?_
      refine mr_lvS (lv' := [(0, .ref 76), (1, iv p1), (3, iv (z43 + (-1)))]) (List.forall_mem_cons.mpr ⟨rfl, List.forall_mem_cons.mpr ⟨rfl, List.forall_mem_cons.mpr ⟨rfl, fun _ h => absurd h List.not_mem_nil⟩⟩⟩) ?_
      exact ih52 (z43 + (-1)) μ104 T106 (mF.up (mF.up (mF.call mF.refl F48 rfl) (A_86 hw) u102 rfl) (A_76 hw) u105 rfl) (rW (c := (-1)) (d := 3) (rAdd (e := (-1)) (f := 2) h74 (rR (x := (-1))) rfl) rfl) (vc_X3_putNumber_W_6 (nS h50) h72 h74) ((((((((W51 z43 μ44 rfl h46 T47 F48).2 h72) z75 q76 h77).2 h92) z95 q96) z98 q99) μ101 u102 T103) μ104 u105 T106)
  refine mr_lvS (lv' := [(0, .ref 76), (1, iv p1), (3, iv (p2 - 1))]) (List.forall_mem_cons.mpr ⟨rfl, List.forall_mem_cons.mpr ⟨rfl, List.forall_mem_cons.mpr ⟨rfl, fun _ h => absurd h List.not_mem_nil⟩⟩⟩) ?_
  exact L45 6 (p2 - 1) μ hT mF.refl (rSub (e := (-1)) (f := 3) hp2 (rR (x := 1)) rfl) (vc_X3_putNumber_W_7 hp2) hQ
def WL_X3_putPrefix_W_1 (w : mW) (p1 : Int) (Q : mM → Prop) (μ1 : mM) (z5 : Int) (rec1 : (Int × mM) → Prop) (s : (Int × mM)) : Prop := ∀ z74 : Int, ∀ μ75 : mM, s = (z74, μ75) → (0 ≤ z74 ∧ z74 ≤ 4) → mT w μ75 → mF [76015, 86999] w μ1 μ75 → ((z5 ≤ z74) → Q μ75) ∧ ((z74 < z5) → ∀ z96 : Int, bUsh p1 (24 - (8 * z74)) = z96 → WP_X3_putNumber_W w μ75 z96 (1) (fun μ99 => mT w μ99 → mF [76015, 86999] w μ75 μ99 → rec1 ((z74 + 1), μ99)))
def WP_X3_putPrefix_W (w : mW) (μ : mM) (p1 : Int) (p2 : Int) (Q : mM → Prop) : Prop := WP_X3_putNumber_W w μ p2 (1) (fun μ1 => mT w μ1 → mF [76015, 86999] w μ μ1 → ∀ z5 : Int, (p2 + 7) / 8 = z5 → loopF (WL_X3_putPrefix_W_1 w p1 Q μ1 z5) False 6 ((0 : Int), μ1))
theorem vc_X3_putPrefix_W_3 {p2 z5 z74 : Int} (h0 : z74 < z5) (h1 : (p2 + 7) / 8 = z5) (h2 : 0 ≤ p2 ∧ p2 ≤ 32) (h3 : 0 ≤ z5 ∧ z5 ≤ 4) (h4 : 0 ≤ z74 ∧ z74 ≤ 4) : 0 ≤ z74 ∧ z74 ≤ 3 := by omega
theorem vc_X3_putPrefix_W_4 {p2 z5 z74 : Int} (h0 : z74 < z5) (h1 : (p2 + 7) / 8 = z5) (h2 : 0 ≤ p2 ∧ p2 ≤ 32) (h3 : 0 ≤ z5 ∧ z5 ≤ 4) (h4 : 0 ≤ z74 ∧ z74 ≤ 3) : 1 ≤ z5 ∧ z5 ≤ 4 := by omega
theorem vc_X3_putPrefix_W_5 {N p2 z5 z74 : Int} (h0 : (5 - z74) < N + 1) (h1 : z74 < z5) (h2 : (p2 + 7) / 8 = z5) (h3 : 0 ≤ p2 ∧ p2 ≤ 32) (h4 : 1 ≤ z5 ∧ z5 ≤ 4) (h5 : 0 ≤ z74 ∧ z74 ≤ 3) : (5 - (z74 + 1)) < N := by omega
set_option maxRecDepth 4000 in
set_option maxHeartbeats 4000000 in
theorem c_X3_putPrefix_W {l : Launch} {D : va_G} {c : Nat → ClassId} {H0 : Heap} {sa : Nat × Nat × (Nat → Int32)} {w : mW} {μ : mM} (hw : mWF w) (hT : mT w μ) {p1 : Int} (hp1 : (-2147483648) ≤ p1 ∧ p1 ≤ 2147483647) {p2 : Int} (hp2 : 0 ≤ p2 ∧ p2 ≤ 32) {Q : mM → Prop} (hQ : WP_X3_putPrefix_W w μ p1 p2 Q) : sC (gG l D c H0 sa) mX3_putPrefix 2 0 0 [.ref 76, iv p1, iv p2] (mk w μ) (qV w [76015, 86999] μ (fun μ1 => Q μ1 ∧ True)) := by
  refine sC.of rfl (by decide) (le_t rfl) ?_
  refine mr_lvE (lv' := [(0, .ref 76), (1, iv p1), (2, iv p2)]) rfl ?_
  refine sv_aload_n (pc := 0) dX3_putPrefix_0 rfl rfl ?_
  refine mr_iload_n (pc := 1) (z := p2) dX3_putPrefix_1 rfl rfl ?_
  refine mr_iconst (pc := 2) (z := 1) dX3_putPrefix_2 ?_
  refine mr_cVV (pc := 3) (c_X3_putNumber_W hw hT (rW (c := (-2147483648)) (d := 2147483647) hp2 rfl) (rW (c := 0) (d := 4) (rR (x := 1)) rfl) hQ) (gOk _ _ _ _ _) dX3_putPrefix_3 (tX3_putNumber _ _ _ _ _) ⟨wV_X3_putNumber, wL_X3_putNumber⟩ wM_X3_169 (gCX3 _ _ _ _ _) rfl (A_76 hw) rfl ⟨le_t rfl, le_t rfl⟩ ⟨le_t rfl, le_t rfl⟩ rfl (le_t rfl) fun μ1 T2 F3 h4 => ?_
  refine mr_iload_n (pc := 6) (z := p2) dX3_putPrefix_6 rfl rfl ?_
  refine mr_bipush (pc := 7) (z := 7) dX3_putPrefix_7 (by decide) ?_
  refine mr_iadd (pc := 9) (x := p2) (y := 7) dX3_putPrefix_9 ?_
  refine mr_bipush (pc := 10) (z := 8) dX3_putPrefix_10 (by decide) ?_
  refine mr_idiv (pc := 12) (x := (p2 + 7)) (y := 8) dX3_putPrefix_12 (rW (c := 0) (d := 2147483647) (rAdd (e := 7) (f := 39) hp2 (rR (x := 7)) rfl) rfl) vc_X3_readPrefixes_W_5 ?_
  refine mr_gen (P := fun z => 0 ≤ z ∧ z ≤ 4) (rDiv (rAdd (e := 7) (f := 39) hp2 (rR (x := 7)) rfl) rfl) fun z5 q6 h7 => ?_
  refine mr_istore_n (pc := 13) (lv' := [(3, iv z5), (0, .ref 76), (1, iv p1), (2, iv p2)]) dX3_putPrefix_13 rfl (by decide) rfl ?_
  refine mr_iconst (pc := 14) (z := 0) dX3_putPrefix_14 ?_
  refine mr_istore (pc := 15) (lv' := [(4, iv 0), (3, iv z5), (0, .ref 76), (1, iv p1), (2, iv p2)]) dX3_putPrefix_15 (by decide) rfl ?_
  have L76 : ∀ (nL76 : Nat) (z74 : Int) (μ75 : mM), mT w μ75 → mF [76015, 86999] w μ1 μ75 → (0 ≤ z74 ∧ z74 ≤ 4) → (5 - z74) < (nL76 : Int) → loopF (WL_X3_putPrefix_W_1 w p1 Q μ1 z5) False nL76 (z74, μ75) → sV (gG l D c H0 sa) mX3_putPrefix (sRm 2 0 0) (sZ (gG l D c H0 sa) 0 0 (qV w [76015, 86999] μ (fun μ1 => Q μ1 ∧ True))) 17 [(0, .ref 76), (1, iv p1), (3, iv z5), (4, iv z74)] [] (mk w μ75) 0 0 := by
    intro nL76
    induction nL76 with
    | zero => intro z74 μ75 T78 F79 h77 h81 W82; exact ((vc_X12_message_W_1 h81 h77)).elim
    | succ nL76 ih83 =>
      intro z74 μ75 T78 F79 h77 h81 W82
      refine mr_iload (pc := 17) (z := z74) dX3_putPrefix_17 rfl ?_
      refine mr_iload_n (pc := 19) (z := z5) dX3_putPrefix_19 rfl rfl ?_
      refine mr_icmp_ge (pc := 20) (tgt := 44) dX3_putPrefix_20 (by decide) (r32 h77 rfl) (r32 h7 rfl) (fun h93 => ?_) (fun h93 => ?_)
      · exact mr_vret dX3_putPrefix_44 rfl (le_t rfl) (le_t rfl) T78 (mF.call (mF.call mF.refl F3 rfl) F79 rfl) ⟨((W82 z74 μ75 rfl h77 T78 F79).1 h93), trivial⟩
      have h94 : 0 ≤ z74 ∧ z74 ≤ 3 := (vc_X3_putPrefix_W_3 h93 q6 hp2 h7 h77)
      have h95 : 1 ≤ z5 ∧ z5 ≤ 4 := (vc_X3_putPrefix_W_4 h93 q6 hp2 h7 h94)
      refine sv_aload_n (pc := 23) dX3_putPrefix_23 rfl rfl ?_
      refine mr_iload_n (pc := 24) (z := p1) dX3_putPrefix_24 rfl rfl ?_
      refine mr_bipush (pc := 25) (z := 24) dX3_putPrefix_25 (by decide) ?_
      refine mr_bipush (pc := 27) (z := 8) dX3_putPrefix_27 (by decide) ?_
      refine mr_iload (pc := 29) (z := z74) dX3_putPrefix_29 rfl ?_
      refine mr_imul (pc := 31) (x := 8) (y := z74) dX3_putPrefix_31 ?_
      refine mr_isub (pc := 32) (x := 24) (y := (8 * z74)) dX3_putPrefix_32 ?_
      refine mr_iushr (pc := 33) (x := p1) (y := (24 - (8 * z74))) dX3_putPrefix_33 ?_
      refine mr_gen (P := fun z => (-2147483648) ≤ z ∧ z ≤ 2147483647) (r32i _) fun z96 q97 h98 => ?_
      refine mr_iconst (pc := 34) (z := 1) dX3_putPrefix_34 ?_
      refine mr_cVV (pc := 35) (c_X3_putNumber_W hw T78 h98 (rW (c := 0) (d := 4) (rR (x := 1)) rfl) (((W82 z74 μ75 rfl h77 T78 F79).2 h93) z96 q97)) (gOk _ _ _ _ _) dX3_putPrefix_35 (tX3_putNumber _ _ _ _ _) ⟨wV_X3_putNumber, wL_X3_putNumber⟩ wM_X3_169 (gCX3 _ _ _ _ _) rfl (A_76 hw) rfl ⟨le_t rfl, le_t rfl⟩ ⟨le_t rfl, le_t rfl⟩ rfl (le_t rfl) fun μ99 T100 F101 h102 => ?_
      refine mr_iinc (pc := 38) (lv' := [(4, iv (z74 + 1)), (0, .ref 76), (1, iv p1), (3, iv z5)]) dX3_putPrefix_38 rfl (by decide) rfl ?_
      refine sv_goto (pc := 41) (tgt := 17) dX3_putPrefix_41 (by decide) ?_
      refine mr_lvS (lv' := [(0, .ref 76), (1, iv p1), (3, iv z5), (4, iv (z74 + 1))]) (List.forall_mem_cons.mpr ⟨rfl, List.forall_mem_cons.mpr ⟨rfl, List.forall_mem_cons.mpr ⟨rfl, List.forall_mem_cons.mpr ⟨rfl, fun _ h => absurd h List.not_mem_nil⟩⟩⟩⟩) ?_
      exact ih83 (z74 + 1) μ99 T100 (mF.call (mF.call mF.refl F79 rfl) F101 rfl) (rW (c := 0) (d := 4) (rAdd (e := 1) (f := 4) h94 (rR (x := 1)) rfl) rfl) (vc_X3_putPrefix_W_5 (nS h81) h93 q6 hp2 h95 h94) (h102.1 T100 F101)
  refine mr_lvS (lv' := [(0, .ref 76), (1, iv p1), (3, iv z5), (4, iv 0)]) (List.forall_mem_cons.mpr ⟨rfl, List.forall_mem_cons.mpr ⟨rfl, List.forall_mem_cons.mpr ⟨rfl, List.forall_mem_cons.mpr ⟨rfl, fun _ h => absurd h List.not_mem_nil⟩⟩⟩⟩) ?_
  exact L76 6 0 μ1 T2 mF.refl (rW (c := 0) (d := 4) (rR (x := 0)) rfl) vc_X12_message_W_75 ((h4.1 T2 F3) z5 q6)
def WP_X3_putHead_W (w : mW) (μ : mM) (p1 : Int) (p2 : Int) (p3 : Int) (Q : mM → Prop) : Prop := WP_X3_putNumber_W w μ p1 (1) (fun μ1 => mT w μ1 → mF [76015, 86999] w μ μ1 → WP_X3_putNumber_W w μ1 p2 (1) (fun μ5 => mT w μ5 → mF [76015, 86999] w μ1 μ5 → WP_X3_putNumber_W w μ5 p3 (1) (fun μ9 => mT w μ9 → mF [76015, 86999] w μ5 μ9 → Q μ9)))
set_option maxRecDepth 4000 in
set_option maxHeartbeats 4000000 in
theorem c_X3_putHead_W {l : Launch} {D : va_G} {c : Nat → ClassId} {H0 : Heap} {sa : Nat × Nat × (Nat → Int32)} {w : mW} {μ : mM} (hw : mWF w) (hT : mT w μ) {p1 : Int} (hp1 : (-2147483648) ≤ p1 ∧ p1 ≤ 2147483647) {p2 : Int} (hp2 : (-2147483648) ≤ p2 ∧ p2 ≤ 2147483647) {p3 : Int} (hp3 : (-2147483648) ≤ p3 ∧ p3 ≤ 2147483647) {Q : mM → Prop} (hQ : WP_X3_putHead_W w μ p1 p2 p3 Q) : sC (gG l D c H0 sa) mX3_putHead 2 0 0 [.ref 76, iv p1, iv p2, iv p3] (mk w μ) (qV w [76015, 86999] μ (fun μ1 => Q μ1 ∧ True)) := by
  refine sC.of rfl (by decide) (le_t rfl) ?_
  refine mr_lvE (lv' := [(0, .ref 76), (1, iv p1), (2, iv p2), (3, iv p3)]) rfl ?_
  refine sv_aload_n (pc := 0) dX3_putHead_0 rfl rfl ?_
  refine mr_iload_n (pc := 1) (z := p1) dX3_putHead_1 rfl rfl ?_
  refine mr_iconst (pc := 2) (z := 1) dX3_putHead_2 ?_
  refine mr_cVV (pc := 3) (c_X3_putNumber_W hw hT hp1 (rW (c := 0) (d := 4) (rR (x := 1)) rfl) hQ) (gOk _ _ _ _ _) dX3_putHead_3 (tX3_putNumber _ _ _ _ _) ⟨wV_X3_putNumber, wL_X3_putNumber⟩ wM_X3_169 (gCX3 _ _ _ _ _) rfl (A_76 hw) rfl ⟨le_t rfl, le_t rfl⟩ ⟨le_t rfl, le_t rfl⟩ rfl (le_t rfl) fun μ1 T2 F3 h4 => ?_
  refine sv_aload_n (pc := 6) dX3_putHead_6 rfl rfl ?_
  refine mr_iload_n (pc := 7) (z := p2) dX3_putHead_7 rfl rfl ?_
  refine mr_iconst (pc := 8) (z := 1) dX3_putHead_8 ?_
  refine mr_cVV (pc := 9) (c_X3_putNumber_W hw T2 hp2 (rW (c := 0) (d := 4) (rR (x := 1)) rfl) (h4.1 T2 F3)) (gOk _ _ _ _ _) dX3_putHead_9 (tX3_putNumber _ _ _ _ _) ⟨wV_X3_putNumber, wL_X3_putNumber⟩ wM_X3_169 (gCX3 _ _ _ _ _) rfl (A_76 hw) rfl ⟨le_t rfl, le_t rfl⟩ ⟨le_t rfl, le_t rfl⟩ rfl (le_t rfl) fun μ5 T6 F7 h8 => ?_
  refine sv_aload_n (pc := 12) dX3_putHead_12 rfl rfl ?_
  refine mr_iload_n (pc := 13) (z := p3) dX3_putHead_13 rfl rfl ?_
  refine mr_iconst (pc := 14) (z := 1) dX3_putHead_14 ?_
  refine mr_cVV (pc := 15) (c_X3_putNumber_W hw T6 hp3 (rW (c := 0) (d := 4) (rR (x := 1)) rfl) (h8.1 T6 F7)) (gOk _ _ _ _ _) dX3_putHead_15 (tX3_putNumber _ _ _ _ _) ⟨wV_X3_putNumber, wL_X3_putNumber⟩ wM_X3_169 (gCX3 _ _ _ _ _) rfl (A_76 hw) rfl ⟨le_t rfl, le_t rfl⟩ ⟨le_t rfl, le_t rfl⟩ rfl (le_t rfl) fun μ9 T10 F11 h12 => ?_
  exact mr_vret dX3_putHead_18 rfl (le_t rfl) (le_t rfl) T10 (mF.call (mF.call (mF.call mF.refl F3 rfl) F7 rfl) F11 rfl) ⟨(h12.1 T10 F11), trivial⟩
def WL_X3_putAttributes_W_4 (w : mW) (a1 : Nat) (Q : mM → Prop) (z911 : Int) (μ920 : mM) (rec4 : (Int × mM) → Prop) (s : (Int × mM)) : Prop := ∀ z1034 : Int, ∀ μ1035 : mM, s = (z1034, μ1035) → (0 ≤ z1034 ∧ z1034 ≤ 8) → mT w μ1035 → mF [76015, 86999] w μ920 μ1035 → ((z911 ≤ z1034) → Q μ1035) ∧ ((z1034 < z911) → ∀ z1058 : Int, μ1035 (a1 + 2) (z1034.toNat) = z1058 → ((-2147483648) ≤ z1058 ∧ z1058 ≤ 2147483647) → WP_X3_putNumber_W w μ1035 z1058 (4) (fun μ1061 => mT w μ1061 → mF [76015, 86999] w μ1035 μ1061 → rec4 ((z1034 + 1), μ1061)))
def WJ_X3_putAttributes_W_3 (w : mW) (a1 : Nat) (Q : mM → Prop) (μ905 : mM) (z911 : Int) (μ920 : mM) : Prop := mT w μ920 → mF [76015, 86999] w μ905 μ920 → loopF (WL_X3_putAttributes_W_4 w a1 Q z911 μ920) False 10 ((0 : Int), μ920)
def WJ_X3_putAttributes_W_2 (w : mW) (a1 : Nat) (Q : mM → Prop) (μ873 : mM) (μ905 : mM) : Prop := mT w μ905 → mF [76015, 86999] w μ873 μ905 → ∀ z911 : Int, μ905 a1 8 = z911 → (0 ≤ z911 ∧ z911 ≤ 8) → ((z911 ≤ 0) → (WJ_X3_putAttributes_W_3 w a1 Q μ905 z911) μ905) ∧ ((0 < z911) → WP_X3_putHead_W w μ905 (192) (8) (4 * z911) (fun μ1068 => mT w μ1068 → mF [76015, 86999] w μ905 μ1068 → (WJ_X3_putAttributes_W_3 w a1 Q μ905 z911) μ1068))
def WL_X3_putAttributes_W_1 (w : mW) (a1 : Nat) (Q : mM → Prop) (z12 : Int) (μ23 : mM) (rec1 : (Int × mM) → Prop) (s : (Int × mM)) : Prop := ∀ z872 : Int, ∀ μ873 : mM, s = (z872, μ873) → (0 ≤ z872 ∧ z872 ≤ 20) → mT w μ873 → mF [76015, 86999] w μ23 μ873 → ((z12 ≤ z872) → ∀ z893 : Int, μ873 a1 6 = z893 → ((-2147483648) ≤ z893 ∧ z893 ≤ 2147483647) → ((z893 = 0) → (WJ_X3_putAttributes_W_2 w a1 Q μ873) μ873) ∧ ((¬ z893 = 0) → WP_X3_putHead_W w μ873 (128) (4) (4) (fun μ1074 => mT w μ1074 → mF [76015, 86999] w μ873 μ1074 → WP_X3_putNumber_W w μ1074 z893 (4) (fun μ1078 => mT w μ1078 → mF [76015, 86999] w μ1074 μ1078 → (WJ_X3_putAttributes_W_2 w a1 Q μ873) μ1078)))) ∧ ((z872 < z12) → ∀ z1085 : Int, μ873 (a1 + 1) (z872.toNat) = z1085 → ((-2147483648) ≤ z1085 ∧ z1085 ≤ 2147483647) → WP_X3_putNumber_W w μ873 z1085 (4) (fun μ1088 => mT w μ1088 → mF [76015, 86999] w μ873 μ1088 → rec1 ((z872 + 1), μ1088)))
def WP_X3_putAttributes_W (w : mW) (μ : mM) (a1 : Nat) (Q : mM → Prop) : Prop := WP_X3_putHead_W w μ (64) (1) (1) (fun μ1 => mT w μ1 → mF [76015, 86999] w μ μ1 → ∀ z5 : Int, μ1 a1 5 = z5 → ((-2147483648) ≤ z5 ∧ z5 ≤ 2147483647) → WP_X3_putNumber_W w μ1 z5 (1) (fun μ8 => mT w μ8 → mF [76015, 86999] w μ1 μ8 → ∀ z12 : Int, μ8 a1 7 = z12 → (0 ≤ z12 ∧ z12 ≤ 20) → WP_X3_putHead_W w μ8 (64) (2) (2 + (4 * z12)) (fun μ15 => mT w μ15 → mF [76015, 86999] w μ8 μ15 → WP_X3_putNumber_W w μ15 (2) (1) (fun μ19 => mT w μ19 → mF [76015, 86999] w μ15 μ19 → WP_X3_putNumber_W w μ19 z12 (1) (fun μ23 => mT w μ23 → mF [76015, 86999] w μ19 μ23 → loopF (WL_X3_putAttributes_W_1 w a1 Q z12 μ23) False 22 ((0 : Int), μ23))))))
theorem vc_X3_putAttributes_W_7 {z911 : Int} (h0 : z911 ≤ 0) (h1 : 0 ≤ z911 ∧ z911 ≤ 8) : 0 ≤ z911 ∧ z911 ≤ 0 := by omega
theorem vc_X3_putAttributes_W_8 {z911 : Int} (h0 : 0 < z911) (h1 : 0 ≤ z911 ∧ z911 ≤ 8) : 1 ≤ z911 ∧ z911 ≤ 8 := by omega
set_option maxRecDepth 4000 in
set_option maxHeartbeats 4000000 in
theorem c_X3_putAttributes_W {l : Launch} {D : va_G} {c : Nat → ClassId} {H0 : Heap} {sa : Nat × Nat × (Nat → Int32)} {w : mW} {μ : mM} (hw : mWF w) (hT : mT w μ) {a1 : Nat} (hA1 : mAt w a1 200) {Q : mM → Prop} (hQ : WP_X3_putAttributes_W w μ a1 Q) : sC (gG l D c H0 sa) mX3_putAttributes 3 0 0 [.ref 76, .ref a1] (mk w μ) (qV w [76015, 86999] μ (fun μ1 => Q μ1 ∧ True)) := by
  refine sC.of rfl (by decide) (le_t rfl) ?_
  refine mr_lvE (lv' := [(0, .ref 76), (1, .ref a1)]) rfl ?_
  refine sv_aload_n (pc := 0) dX3_putAttributes_0 rfl rfl ?_
  refine mr_bipush (pc := 1) (z := 64) dX3_putAttributes_1 (by decide) ?_
  refine mr_iconst (pc := 3) (z := 1) dX3_putAttributes_3 ?_
  refine mr_iconst (pc := 4) (z := 1) dX3_putAttributes_4 ?_
  refine mr_cVV (pc := 5) (c_X3_putHead_W hw hT (rW (c := (-2147483648)) (d := 2147483647) (rR (x := 64)) rfl) (rW (c := (-2147483648)) (d := 2147483647) (rR (x := 1)) rfl) (rW (c := (-2147483648)) (d := 2147483647) (rR (x := 1)) rfl) hQ) (gOk _ _ _ _ _) dX3_putAttributes_5 (tX3_putHead _ _ _ _ _) ⟨wV_X3_putHead, wL_X3_putHead⟩ wM_X3_179 (gCX3 _ _ _ _ _) rfl (A_76 hw) rfl ⟨le_t rfl, le_t rfl⟩ ⟨le_t rfl, le_t rfl⟩ rfl (le_t rfl) fun μ1 T2 F3 h4 => ?_
  refine sv_aload_n (pc := 8) dX3_putAttributes_8 rfl rfl ?_
  refine sv_aload_n (pc := 9) dX3_putAttributes_9 rfl rfl ?_
  refine gf_X7_5 (pc := 10) dX3_putAttributes_10 wF_X3_127 hA1 T2 fun z5 q6 h7 => ?_
  refine mr_iconst (pc := 13) (z := 1) dX3_putAttributes_13 ?_
  refine mr_cVV (pc := 14) (c_X3_putNumber_W hw T2 h7 (rW (c := 0) (d := 4) (rR (x := 1)) rfl) ((h4.1 T2 F3) z5 q6 h7)) (gOk _ _ _ _ _) dX3_putAttributes_14 (tX3_putNumber _ _ _ _ _) ⟨wV_X3_putNumber, wL_X3_putNumber⟩ wM_X3_169 (gCX3 _ _ _ _ _) rfl (A_76 hw) rfl ⟨le_t rfl, le_t rfl⟩ ⟨le_t rfl, le_t rfl⟩ rfl (le_t rfl) fun μ8 T9 F10 h11 => ?_
  refine sv_aload_n (pc := 17) dX3_putAttributes_17 rfl rfl ?_
  refine mr_bipush (pc := 18) (z := 64) dX3_putAttributes_18 (by decide) ?_
  refine mr_iconst (pc := 20) (z := 2) dX3_putAttributes_20 ?_
  refine mr_iconst (pc := 21) (z := 2) dX3_putAttributes_21 ?_
  refine mr_iconst (pc := 22) (z := 4) dX3_putAttributes_22 ?_
  refine sv_aload_n (pc := 23) dX3_putAttributes_23 rfl rfl ?_
  refine gf_X7_7 (pc := 24) dX3_putAttributes_24 wF_X3_147 hA1 T9 fun z12 q13 h14 => ?_
  refine mr_imul (pc := 27) (x := 4) (y := z12) dX3_putAttributes_27 ?_
  refine mr_iadd (pc := 28) (x := 2) (y := (4 * z12)) dX3_putAttributes_28 ?_
  refine mr_cVV (pc := 29) (c_X3_putHead_W hw T9 (rW (c := (-2147483648)) (d := 2147483647) (rR (x := 64)) rfl) (rW (c := (-2147483648)) (d := 2147483647) (rR (x := 2)) rfl) (rW (c := (-2147483648)) (d := 2147483647) (rAdd (e := 2) (f := 82) (rR (x := 2)) (rMulL (n := 4) (e := 0) (f := 80) h14 rfl) rfl) rfl) ((h11.1 T9 F10) z12 q13 h14)) (gOk _ _ _ _ _) dX3_putAttributes_29 (tX3_putHead _ _ _ _ _) ⟨wV_X3_putHead, wL_X3_putHead⟩ wM_X3_179 (gCX3 _ _ _ _ _) rfl (A_76 hw) rfl ⟨le_t rfl, le_t rfl⟩ ⟨le_t rfl, le_t rfl⟩ rfl (le_t rfl) fun μ15 T16 F17 h18 => ?_
  refine sv_aload_n (pc := 32) dX3_putAttributes_32 rfl rfl ?_
  refine mr_iconst (pc := 33) (z := 2) dX3_putAttributes_33 ?_
  refine mr_iconst (pc := 34) (z := 1) dX3_putAttributes_34 ?_
  refine mr_cVV (pc := 35) (c_X3_putNumber_W hw T16 (rW (c := (-2147483648)) (d := 2147483647) (rR (x := 2)) rfl) (rW (c := 0) (d := 4) (rR (x := 1)) rfl) (h18.1 T16 F17)) (gOk _ _ _ _ _) dX3_putAttributes_35 (tX3_putNumber _ _ _ _ _) ⟨wV_X3_putNumber, wL_X3_putNumber⟩ wM_X3_169 (gCX3 _ _ _ _ _) rfl (A_76 hw) rfl ⟨le_t rfl, le_t rfl⟩ ⟨le_t rfl, le_t rfl⟩ rfl (le_t rfl) fun μ19 T20 F21 h22 => ?_
  refine sv_aload_n (pc := 38) dX3_putAttributes_38 rfl rfl ?_
  refine sv_aload_n (pc := 39) dX3_putAttributes_39 rfl rfl ?_
  refine gk_X7_7 (pc := 40) dX3_putAttributes_40 wF_X3_147 hA1 (F21.f hA1 rfl (F17.f hA1 rfl q13)) ?_
  refine mr_iconst (pc := 43) (z := 1) dX3_putAttributes_43 ?_
  refine mr_cVV (pc := 44) (c_X3_putNumber_W hw T20 (rW (c := (-2147483648)) (d := 2147483647) h14 rfl) (rW (c := 0) (d := 4) (rR (x := 1)) rfl) (h22.1 T20 F21)) (gOk _ _ _ _ _) dX3_putAttributes_44 (tX3_putNumber _ _ _ _ _) ⟨wV_X3_putNumber, wL_X3_putNumber⟩ wM_X3_169 (gCX3 _ _ _ _ _) rfl (A_76 hw) rfl ⟨le_t rfl, le_t rfl⟩ ⟨le_t rfl, le_t rfl⟩ rfl (le_t rfl) fun μ23 T24 F25 h26 => ?_
  refine mr_iconst (pc := 47) (z := 0) dX3_putAttributes_47 ?_
  refine mr_istore_n (pc := 48) (lv' := [(2, iv 0), (0, .ref 76), (1, .ref a1)]) dX3_putAttributes_48 rfl (by decide) rfl ?_
  have L874 : ∀ (nL874 : Nat) (z872 : Int) (μ873 : mM), mT w μ873 → mF [76015, 86999] w μ23 μ873 → (0 ≤ z872 ∧ z872 ≤ 20) → (21 - z872) < (nL874 : Int) → loopF (WL_X3_putAttributes_W_1 w a1 Q z12 μ23) False nL874 (z872, μ873) → sV (gG l D c H0 sa) mX3_putAttributes (sRm 3 0 0) (sZ (gG l D c H0 sa) 0 0 (qV w [76015, 86999] μ (fun μ1 => Q μ1 ∧ True))) 49 [(0, .ref 76), (1, .ref a1), (2, iv z872)] [] (mk w μ873) 0 0 := by
    intro nL874
    induction nL874 with
    | zero => intro z872 μ873 T876 F877 h875 h879 W880; exact ((vc_X12_tieOf_1 h879 h875)).elim
    | succ nL874 ih881 =>
      intro z872 μ873 T876 F877 h875 h879 W880
      refine mr_iload_n (pc := 49) (z := z872) dX3_putAttributes_49 rfl rfl ?_
      refine sv_aload_n (pc := 50) dX3_putAttributes_50 rfl rfl ?_
      refine gk_X7_7 (pc := 51) dX3_putAttributes_51 wF_X3_147 hA1 (F877.f hA1 rfl (F25.f hA1 rfl (F21.f hA1 rfl (F17.f hA1 rfl q13)))) ?_
      refine mr_icmp_ge (pc := 54) (tgt := 74) dX3_putAttributes_54 (by decide) (r32 h875 rfl) (r32 h14 rfl) (fun h892 => ?_) (fun h892 => ?_)
      · refine sv_aload_n (pc := 74) dX3_putAttributes_74 rfl rfl ?_
        refine gf_X7_6 (pc := 75) dX3_putAttributes_75 wF_X3_134 hA1 T876 fun z893 q894 h895 => ?_
        have J909 : ∀ (μ905 : mM), (mT w μ905) → (mF [76015, 86999] w μ873 μ905) → ((WJ_X3_putAttributes_W_2 w a1 Q μ873) μ905) → sV (gG l D c H0 sa) mX3_putAttributes (sRm 3 0 0) (sZ (gG l D c H0 sa) 0 0 (qV w [76015, 86999] μ (fun μ1 => Q μ1 ∧ True))) 99 [(0, .ref 76), (1, .ref a1)] [] (mk w μ905) 0 0 := by
          intro μ905 T906 F907 W910
          refine sv_aload_n (pc := 99) dX3_putAttributes_99 rfl rfl ?_
          refine gf_X7_8 (pc := 100) dX3_putAttributes_100 wF_X3_55 hA1 T906 fun z911 q912 h913 => ?_
          have J924 : ∀ (μ920 : mM), (mT w μ920) → (mF [76015, 86999] w μ905 μ920) → ((WJ_X3_putAttributes_W_3 w a1 Q μ905 z911) μ920) → sV (gG l D c H0 sa) mX3_putAttributes (sRm 3 0 0) (sZ (gG l D c H0 sa) 0 0 (qV w [76015, 86999] μ (fun μ1 => Q μ1 ∧ True))) 121 [(0, .ref 76), (1, .ref a1)] [] (mk w μ920) 0 0 := by
            intro μ920 T921 F922 W925
            refine mr_iconst (pc := 121) (z := 0) dX3_putAttributes_121 ?_
            refine mr_istore_n (pc := 122) (lv' := [(2, iv 0), (0, .ref 76), (1, .ref a1)]) dX3_putAttributes_122 rfl (by decide) rfl ?_
            have L1036 : ∀ (nL1036 : Nat) (z1034 : Int) (μ1035 : mM), mT w μ1035 → mF [76015, 86999] w μ920 μ1035 → (0 ≤ z1034 ∧ z1034 ≤ 8) → (9 - z1034) < (nL1036 : Int) → loopF (WL_X3_putAttributes_W_4 w a1 Q z911 μ920) False nL1036 (z1034, μ1035) → sV (gG l D c H0 sa) mX3_putAttributes (sRm 3 0 0) (sZ (gG l D c H0 sa) 0 0 (qV w [76015, 86999] μ (fun μ1 => Q μ1 ∧ True))) 123 [(0, .ref 76), (1, .ref a1), (2, iv z1034)] [] (mk w μ1035) 0 0 := by
              intro nL1036
              induction nL1036 with
              | zero => intro z1034 μ1035 T1038 F1039 h1037 h1041 W1042; exact ((vc_X12_marked_1 h1041 h1037)).elim
              | succ nL1036 ih1043 =>
                intro z1034 μ1035 T1038 F1039 h1037 h1041 W1042
                refine mr_iload_n (pc := 123) (z := z1034) dX3_putAttributes_123 rfl rfl ?_
                refine sv_aload_n (pc := 124) dX3_putAttributes_124 rfl rfl ?_
                refine gk_X7_8 (pc := 125) dX3_putAttributes_125 wF_X3_55 hA1 (F1039.f hA1 rfl (F922.f hA1 rfl q912)) ?_
                refine mr_icmp_ge (pc := 128) (tgt := 148) dX3_putAttributes_128 (by decide) (r32 h1037 rfl) (r32 h913 rfl) (fun h1054 => ?_) (fun h1054 => ?_)
                · exact mr_vret dX3_putAttributes_148 rfl (le_t rfl) (le_t rfl) T1038 (mF.call (mF.call (mF.call (mF.call (mF.call (mF.call (mF.call (mF.call (mF.call mF.refl F3 rfl) F10 rfl) F17 rfl) F21 rfl) F25 rfl) F877 rfl) F907 rfl) F922 rfl) F1039 rfl) ⟨((W1042 z1034 μ1035 rfl h1037 T1038 F1039).1 h1054), trivial⟩
                have h1055 : 0 ≤ z1034 ∧ z1034 ≤ 7 := (vc_X12_marked_3 h1054 h1037 h913)
                have h1056 : 1 ≤ z911 ∧ z911 ≤ 8 := (vc_X12_marked_4 h1054 h1055 h913)
                refine sv_aload_n (pc := 131) dX3_putAttributes_131 rfl rfl ?_
                refine sv_aload_n (pc := 132) dX3_putAttributes_132 rfl rfl ?_
                refine gf_X7_1 (pc := 133) dX3_putAttributes_133 wF_X3_182 hA1 T1038 fun A1057 => ?_
                refine mr_iload_n (pc := 136) (z := z1034) dX3_putAttributes_136 rfl rfl ?_
                refine la_202 (pc := 137) dX3_putAttributes_137 A1057 T1038 (rIx (n := 8) h1055 rfl) fun z1058 q1059 h1060 => ?_
                refine mr_iconst (pc := 138) (z := 4) dX3_putAttributes_138 ?_
                refine mr_cVV (pc := 139) (c_X3_putNumber_W hw T1038 h1060 (rW (c := 0) (d := 4) (rR (x := 4)) rfl) (((W1042 z1034 μ1035 rfl h1037 T1038 F1039).2 h1054) z1058 q1059 h1060)) (gOk _ _ _ _ _) dX3_putAttributes_139 (tX3_putNumber _ _ _ _ _) ⟨wV_X3_putNumber, wL_X3_putNumber⟩ wM_X3_169 (gCX3 _ _ _ _ _) rfl (A_76 hw) rfl ⟨le_t rfl, le_t rfl⟩ ⟨le_t rfl, le_t rfl⟩ rfl (le_t rfl) fun μ1061 T1062 F1063 h1064 => ?_
                refine mr_iinc (pc := 142) (lv' := [(2, iv (z1034 + 1)), (0, .ref 76), (1, .ref a1)]) dX3_putAttributes_142 rfl (by decide) rfl ?_
                refine sv_goto (pc := 145) (tgt := 123) dX3_putAttributes_145 (by decide) ?_
                refine mr_lvS (lv' := [(0, .ref 76), (1, .ref a1), (2, iv (z1034 + 1))]) (List.forall_mem_cons.mpr ⟨rfl, List.forall_mem_cons.mpr ⟨rfl, List.forall_mem_cons.mpr ⟨rfl, fun _ h => absurd h List.not_mem_nil⟩⟩⟩) ?_
                exact ih1043 (z1034 + 1) μ1061 T1062 (mF.call (mF.call mF.refl F1039 rfl) F1063 rfl) (rW (c := 0) (d := 8) (rAdd (e := 1) (f := 8) h1055 (rR (x := 1)) rfl) rfl) (vc_X12_marked_6 (nS h1041) h1054 h1055 h1056) (h1064.1 T1062 F1063)
            refine mr_lvS (lv' := [(0, .ref 76), (1, .ref a1), (2, iv 0)]) (List.forall_mem_cons.mpr ⟨rfl, List.forall_mem_cons.mpr ⟨rfl, List.forall_mem_cons.mpr ⟨rfl, fun _ h => absurd h List.not_mem_nil⟩⟩⟩) ?_
            exact L1036 10 0 μ920 T921 mF.refl (rW (c := 0) (d := 8) (rR (x := 0)) rfl) vc_X12_marked_10 (W925 T921 F922)
          refine mr_if_le (pc := 103) (tgt := 121) dX3_putAttributes_103 (by decide) (r32 h913 rfl) (fun h1065 => ?_) (fun h1065 => ?_)
          · have h1066 : 0 ≤ z911 ∧ z911 ≤ 0 := (vc_X3_putAttributes_W_7 h1065 h913)
            exact J924 μ905 T906 mF.refl (((W910 T906 F907) z911 q912 h913).1 h1065)
          have h1067 : 1 ≤ z911 ∧ z911 ≤ 8 := (vc_X3_putAttributes_W_8 h1065 h913)
          refine sv_aload_n (pc := 106) dX3_putAttributes_106 rfl rfl ?_
          refine mr_sipush (pc := 107) (z := 192) dX3_putAttributes_107 (by decide) ?_
          refine mr_bipush (pc := 110) (z := 8) dX3_putAttributes_110 (by decide) ?_
          refine mr_iconst (pc := 112) (z := 4) dX3_putAttributes_112 ?_
          refine sv_aload_n (pc := 113) dX3_putAttributes_113 rfl rfl ?_
          refine gk_X7_8 (pc := 114) dX3_putAttributes_114 wF_X3_55 hA1 q912 ?_
          refine mr_imul (pc := 117) (x := 4) (y := z911) dX3_putAttributes_117 ?_
          refine mr_cVV (pc := 118) (c_X3_putHead_W hw T906 (rW (c := (-2147483648)) (d := 2147483647) (rR (x := 192)) rfl) (rW (c := (-2147483648)) (d := 2147483647) (rR (x := 8)) rfl) (rW (c := (-2147483648)) (d := 2147483647) (rMulL (n := 4) (e := 4) (f := 32) h1067 rfl) rfl) (((W910 T906 F907) z911 q912 h913).2 h1065)) (gOk _ _ _ _ _) dX3_putAttributes_118 (tX3_putHead _ _ _ _ _) ⟨wV_X3_putHead, wL_X3_putHead⟩ wM_X3_179 (gCX3 _ _ _ _ _) rfl (A_76 hw) rfl ⟨le_t rfl, le_t rfl⟩ ⟨le_t rfl, le_t rfl⟩ rfl (le_t rfl) fun μ1068 T1069 F1070 h1071 => ?_
          exact J924 μ1068 T1069 (mF.call mF.refl F1070 rfl) (h1071.1 T1069 F1070)
        refine mr_if_eq (pc := 78) (tgt := 99) dX3_putAttributes_78 (by decide) h895 (fun h1072 => ?_) (fun h1072 => ?_)
        · have h1073 : 0 ≤ z893 ∧ z893 ≤ 0 := (vc_X12_mask_1 h1072 h895)
          refine mr_lvS (lv' := [(0, .ref 76), (1, .ref a1)]) (List.forall_mem_cons.mpr ⟨rfl, List.forall_mem_cons.mpr ⟨rfl, fun _ h => absurd h List.not_mem_nil⟩⟩) ?_
          exact J909 μ873 T876 mF.refl ((((W880 z872 μ873 rfl h875 T876 F877).1 h892) z893 q894 h895).1 h1072)
        refine sv_aload_n (pc := 81) dX3_putAttributes_81 rfl rfl ?_
        refine mr_sipush (pc := 82) (z := 128) dX3_putAttributes_82 (by decide) ?_
        refine mr_iconst (pc := 85) (z := 4) dX3_putAttributes_85 ?_
        refine mr_iconst (pc := 86) (z := 4) dX3_putAttributes_86 ?_
        refine mr_cVV (pc := 87) (c_X3_putHead_W hw T876 (rW (c := (-2147483648)) (d := 2147483647) (rR (x := 128)) rfl) (rW (c := (-2147483648)) (d := 2147483647) (rR (x := 4)) rfl) (rW (c := (-2147483648)) (d := 2147483647) (rR (x := 4)) rfl) ((((W880 z872 μ873 rfl h875 T876 F877).1 h892) z893 q894 h895).2 h1072)) (gOk _ _ _ _ _) dX3_putAttributes_87 (tX3_putHead _ _ _ _ _) ⟨wV_X3_putHead, wL_X3_putHead⟩ wM_X3_179 (gCX3 _ _ _ _ _) rfl (A_76 hw) rfl ⟨le_t rfl, le_t rfl⟩ ⟨le_t rfl, le_t rfl⟩ rfl (le_t rfl) fun μ1074 T1075 F1076 h1077 => ?_
        refine sv_aload_n (pc := 90) dX3_putAttributes_90 rfl rfl ?_
        refine sv_aload_n (pc := 91) dX3_putAttributes_91 rfl rfl ?_
        refine gk_X7_6 (pc := 92) dX3_putAttributes_92 wF_X3_134 hA1 (F1076.f hA1 rfl q894) ?_
        refine mr_iconst (pc := 95) (z := 4) dX3_putAttributes_95 ?_
        refine mr_cVV (pc := 96) (c_X3_putNumber_W hw T1075 h895 (rW (c := 0) (d := 4) (rR (x := 4)) rfl) (h1077.1 T1075 F1076)) (gOk _ _ _ _ _) dX3_putAttributes_96 (tX3_putNumber _ _ _ _ _) ⟨wV_X3_putNumber, wL_X3_putNumber⟩ wM_X3_169 (gCX3 _ _ _ _ _) rfl (A_76 hw) rfl ⟨le_t rfl, le_t rfl⟩ ⟨le_t rfl, le_t rfl⟩ rfl (le_t rfl) fun μ1078 T1079 F1080 h1081 => ?_
        refine mr_lvS (lv' := [(0, .ref 76), (1, .ref a1)]) (List.forall_mem_cons.mpr ⟨rfl, List.forall_mem_cons.mpr ⟨rfl, fun _ h => absurd h List.not_mem_nil⟩⟩) ?_
        exact J909 μ1078 T1079 (mF.call (mF.call mF.refl F1076 rfl) F1080 rfl) (h1081.1 T1079 F1080)
      have h1082 : 0 ≤ z872 ∧ z872 ≤ 19 := (vc_X7_passes_W_2 h892 h14 h875)
      have h1083 : 1 ≤ z12 ∧ z12 ≤ 20 := (vc_X12_tieOf_hit_1 h892 h14 h1082)
      refine sv_aload_n (pc := 57) dX3_putAttributes_57 rfl rfl ?_
      refine sv_aload_n (pc := 58) dX3_putAttributes_58 rfl rfl ?_
      refine gf_X7_0 (pc := 59) dX3_putAttributes_59 wF_X3_140 hA1 T876 fun A1084 => ?_
      refine mr_iload_n (pc := 62) (z := z872) dX3_putAttributes_62 rfl rfl ?_
      refine la_201 (pc := 63) dX3_putAttributes_63 A1084 T876 (rIx (n := 20) h1082 rfl) fun z1085 q1086 h1087 => ?_
      refine mr_iconst (pc := 64) (z := 4) dX3_putAttributes_64 ?_
      refine mr_cVV (pc := 65) (c_X3_putNumber_W hw T876 h1087 (rW (c := 0) (d := 4) (rR (x := 4)) rfl) (((W880 z872 μ873 rfl h875 T876 F877).2 h892) z1085 q1086 h1087)) (gOk _ _ _ _ _) dX3_putAttributes_65 (tX3_putNumber _ _ _ _ _) ⟨wV_X3_putNumber, wL_X3_putNumber⟩ wM_X3_169 (gCX3 _ _ _ _ _) rfl (A_76 hw) rfl ⟨le_t rfl, le_t rfl⟩ ⟨le_t rfl, le_t rfl⟩ rfl (le_t rfl) fun μ1088 T1089 F1090 h1091 => ?_
      refine mr_iinc (pc := 68) (lv' := [(2, iv (z872 + 1)), (0, .ref 76), (1, .ref a1)]) dX3_putAttributes_68 rfl (by decide) rfl ?_
      refine sv_goto (pc := 71) (tgt := 49) dX3_putAttributes_71 (by decide) ?_
      refine mr_lvS (lv' := [(0, .ref 76), (1, .ref a1), (2, iv (z872 + 1))]) (List.forall_mem_cons.mpr ⟨rfl, List.forall_mem_cons.mpr ⟨rfl, List.forall_mem_cons.mpr ⟨rfl, fun _ h => absurd h List.not_mem_nil⟩⟩⟩) ?_
      exact ih881 (z872 + 1) μ1088 T1089 (mF.call (mF.call mF.refl F877 rfl) F1090 rfl) (rW (c := 0) (d := 20) (rAdd (e := 1) (f := 20) h1082 (rR (x := 1)) rfl) rfl) (vc_X7_passes_W_4 (nS h879) h892 h1083 h1082) (h1091.1 T1089 F1090)
  refine mr_lvS (lv' := [(0, .ref 76), (1, .ref a1), (2, iv 0)]) (List.forall_mem_cons.mpr ⟨rfl, List.forall_mem_cons.mpr ⟨rfl, List.forall_mem_cons.mpr ⟨rfl, fun _ h => absurd h List.not_mem_nil⟩⟩⟩) ?_
  exact L874 22 0 μ23 T24 mF.refl (rW (c := 0) (d := 20) (rR (x := 0)) rfl) vc_X12_tieOf_12 (h26.1 T24 F25)
def WP_X3_putDown_W (w : mW) (μ : mM) (a1 : Nat) (p2 : Int) (p3 : Int) (Q : Int → mM → Prop) : Prop := ∀ μ1 : mM, mU μ 76 (15) (0 : Int) μ1 → mT w μ1 → ∀ z4 : Int, (p3 + 7) / 8 = z4 → ∀ z7 : Int, μ1 a1 2 = z7 → (0 ≤ z7 ∧ z7 ≤ 1) → ((¬ z7 = 0) → WP_X3_putNumber_W w μ1 (0) (4) (fun μ12 => mT w μ12 → mF [76015, 86999] w μ1 μ12 → WP_X3_putAttributes_W w μ12 a1 (fun μ16 => mT w μ16 → mF [76015, 86999] w μ12 μ16 → ∀ z20 : Int, μ16 76 15 = z20 → (0 ≤ z20 ∧ z20 ≤ 256) → ∀ z23 : Int, bShr (z20 - 4) (8 : Int) = z23 → ∀ μ26 : mM, mU μ16 86 ((2 : Int).toNat) z23 μ26 → mT w μ26 → ∀ z29 : Int, bAnd (z20 - 4) (255 : Int) = z29 → ∀ μ32 : mM, mU μ26 86 ((3 : Int).toNat) z29 μ32 → mT w μ32 → WP_X3_putPrefix_W w μ32 p2 p3 (fun μ35 => mT w μ35 → mF [76015, 86999] w μ32 μ35 → ∀ z39 : Int, μ35 76 15 = z39 → (0 ≤ z39 ∧ z39 ≤ 256) → Q z39 μ35)))) ∧ ((z7 = 0) → WP_X3_putNumber_W w μ1 (1 + z4) (2) (fun μ43 => mT w μ43 → mF [76015, 86999] w μ1 μ43 → WP_X3_putPrefix_W w μ43 p2 p3 (fun μ47 => mT w μ47 → mF [76015, 86999] w μ43 μ47 → WP_X3_putNumber_W w μ47 (0) (2) (fun μ51 => mT w μ51 → mF [76015, 86999] w μ47 μ51 → ∀ z55 : Int, μ51 76 15 = z55 → (0 ≤ z55 ∧ z55 ≤ 256) → Q z55 μ51))))
set_option maxRecDepth 4000 in
set_option maxHeartbeats 4000000 in
theorem c_X3_putDown_W {l : Launch} {D : va_G} {c : Nat → ClassId} {H0 : Heap} {sa : Nat × Nat × (Nat → Int32)} {w : mW} {μ : mM} (hw : mWF w) (hT : mT w μ) {a1 : Nat} (hA1 : mAt w a1 200) {p2 : Int} (hp2 : (-2147483648) ≤ p2 ∧ p2 ≤ 2147483647) {p3 : Int} (hp3 : 0 ≤ p3 ∧ p3 ≤ 32) {Q : Int → mM → Prop} (hQ : WP_X3_putDown_W w μ a1 p2 p3 Q) : sC (gG l D c H0 sa) mX3_putDown 4 0 0 [.ref 76, .ref a1, iv p2, iv p3] (mk w μ) (qI w [76015, 86999] μ (fun z μ1 => ((-2147483648) ≤ z ∧ z ≤ 2147483647) ∧ Q z μ1 ∧ True)) := by
  refine sC.of rfl (by decide) (le_t rfl) ?_
  refine mr_lvE (lv' := [(0, .ref 76), (1, .ref a1), (2, iv p2), (3, iv p3)]) rfl ?_
  refine sv_aload_n (pc := 0) dX3_putDown_0 rfl rfl ?_
  refine mr_iconst (pc := 1) (z := 0) dX3_putDown_1 ?_
  refine pf_X3_15 (pc := 2) dX3_putDown_2 wF_X3_163 (A_76 hw) hT (rW (c := 0) (d := 256) (rR (x := 0)) rfl) fun μ1 u2 T3 => ?_
  refine mr_iconst (pc := 5) (z := 1) dX3_putDown_5 ?_
  refine mr_iload_n (pc := 6) (z := p3) dX3_putDown_6 rfl rfl ?_
  refine mr_bipush (pc := 7) (z := 7) dX3_putDown_7 (by decide) ?_
  refine mr_iadd (pc := 9) (x := p3) (y := 7) dX3_putDown_9 ?_
  refine mr_bipush (pc := 10) (z := 8) dX3_putDown_10 (by decide) ?_
  refine mr_idiv (pc := 12) (x := (p3 + 7)) (y := 8) dX3_putDown_12 (rW (c := 0) (d := 2147483647) (rAdd (e := 7) (f := 39) hp3 (rR (x := 7)) rfl) rfl) vc_X3_readPrefixes_W_5 ?_
  refine mr_gen (P := fun z => 0 ≤ z ∧ z ≤ 4) (rDiv (rAdd (e := 7) (f := 39) hp3 (rR (x := 7)) rfl) rfl) fun z4 q5 h6 => ?_
  refine mr_iadd (pc := 13) (x := 1) (y := z4) dX3_putDown_13 ?_
  refine mr_istore (pc := 14) (lv' := [(4, iv (1 + z4)), (0, .ref 76), (1, .ref a1), (2, iv p2), (3, iv p3)]) dX3_putDown_14 (by decide) rfl ?_
  refine sv_aload_n (pc := 16) dX3_putDown_16 rfl rfl ?_
  refine gf_X7_2 (pc := 17) dX3_putDown_17 wF_X3_166 hA1 T3 fun z7 q8 h9 => ?_
  refine mr_if_ne (pc := 20) (tgt := 47) dX3_putDown_20 (by decide) (r32 h9 rfl) (fun h10 => ?_) (fun h10 => ?_)
  · have h11 : 1 ≤ z7 ∧ z7 ≤ 1 := (vc_X12_ring_24 h10 h9)
    refine sv_aload_n (pc := 47) dX3_putDown_47 rfl rfl ?_
    refine mr_iconst (pc := 48) (z := 0) dX3_putDown_48 ?_
    refine mr_iconst (pc := 49) (z := 4) dX3_putDown_49 ?_
    refine mr_cVV (pc := 50) (c_X3_putNumber_W hw T3 (rW (c := (-2147483648)) (d := 2147483647) (rR (x := 0)) rfl) (rW (c := 0) (d := 4) (rR (x := 4)) rfl) ((((hQ μ1 u2 T3) z4 q5) z7 q8 h9).1 h10)) (gOk _ _ _ _ _) dX3_putDown_50 (tX3_putNumber _ _ _ _ _) ⟨wV_X3_putNumber, wL_X3_putNumber⟩ wM_X3_169 (gCX3 _ _ _ _ _) rfl (A_76 hw) rfl ⟨le_t rfl, le_t rfl⟩ ⟨le_t rfl, le_t rfl⟩ rfl (le_t rfl) fun μ12 T13 F14 h15 => ?_
    refine sv_aload_n (pc := 53) dX3_putDown_53 rfl rfl ?_
    refine sv_aload_n (pc := 54) dX3_putDown_54 rfl rfl ?_
    refine mr_cVV (pc := 55) (c_X3_putAttributes_W hw T13 hA1 (h15.1 T13 F14)) (gOk _ _ _ _ _) dX3_putDown_55 (tX3_putAttributes _ _ _ _ _) ⟨wV_X3_putAttributes, wL_X3_putAttributes⟩ wM_X3_175 (gCX3 _ _ _ _ _) rfl (A_76 hw) rfl ⟨le_t rfl, le_t rfl⟩ ⟨le_t rfl, le_t rfl⟩ rfl (le_t rfl) fun μ16 T17 F18 h19 => ?_
    refine sv_aload_n (pc := 58) dX3_putDown_58 rfl rfl ?_
    refine gf_X3_15 (pc := 59) dX3_putDown_59 wF_X3_163 (A_76 hw) T17 fun z20 q21 h22 => ?_
    refine mr_iconst (pc := 62) (z := 4) dX3_putDown_62 ?_
    refine mr_isub (pc := 63) (x := z20) (y := 4) dX3_putDown_63 ?_
    refine mr_istore (pc := 64) (lv' := [(5, iv (z20 - 4)), (4, iv (1 + z4)), (0, .ref 76), (1, .ref a1), (2, iv p2), (3, iv p3)]) dX3_putDown_64 (by decide) rfl ?_
    refine sv_aload_n (pc := 66) dX3_putDown_66 rfl rfl ?_
    refine gf_X3_12 (pc := 67) dX3_putDown_67 wF_X3_38 (A_76 hw) T17 ?_
    refine mr_iconst (pc := 70) (z := 2) dX3_putDown_70 ?_
    refine mr_iload (pc := 71) (z := (z20 - 4)) dX3_putDown_71 rfl ?_
    refine mr_bipush (pc := 73) (z := 8) dX3_putDown_73 (by decide) ?_
    refine mr_ishr (pc := 75) (x := (z20 - 4)) (y := 8) dX3_putDown_75 ?_
    refine mr_gen (P := fun z => (-2147483648) ≤ z ∧ z ≤ 2147483647) (r32i _) fun z23 q24 h25 => ?_
    refine ss_86 (pc := 76) dX3_putDown_76 (A_86 hw) T17 (rIx (n := 256) (rR (x := 2)) rfl) h25 fun μ26 u27 T28 => ?_
    refine sv_aload_n (pc := 77) dX3_putDown_77 rfl rfl ?_
    refine gf_X3_12 (pc := 78) dX3_putDown_78 wF_X3_38 (A_76 hw) T28 ?_
    refine mr_iconst (pc := 81) (z := 3) dX3_putDown_81 ?_
    refine mr_iload (pc := 82) (z := (z20 - 4)) dX3_putDown_82 rfl ?_
    refine mr_sipush (pc := 84) (z := 255) dX3_putDown_84 (by decide) ?_
    refine mr_iand (pc := 87) (x := (z20 - 4)) (y := 255) dX3_putDown_87 ?_
    refine mr_gen (P := fun z => 0 ≤ z ∧ z ≤ 255) (rAndR (rR (x := 255)) rfl) fun z29 q30 h31 => ?_
    refine ss_86 (pc := 88) dX3_putDown_88 (A_86 hw) T28 (rIx (n := 256) (rR (x := 3)) rfl) (rW (c := (-2147483648)) (d := 2147483647) h31 rfl) fun μ32 u33 T34 => ?_
    refine sv_aload_n (pc := 89) dX3_putDown_89 rfl rfl ?_
    refine mr_iload_n (pc := 90) (z := p2) dX3_putDown_90 rfl rfl ?_
    refine mr_iload_n (pc := 91) (z := p3) dX3_putDown_91 rfl rfl ?_
    refine mr_cVV (pc := 92) (c_X3_putPrefix_W hw T34 hp2 hp3 ((((((h19.1 T17 F18) z20 q21 h22) z23 q24) μ26 u27 T28) z29 q30) μ32 u33 T34)) (gOk _ _ _ _ _) dX3_putDown_92 (tX3_putPrefix _ _ _ _ _) ⟨wV_X3_putPrefix, wL_X3_putPrefix⟩ wM_X3_172 (gCX3 _ _ _ _ _) rfl (A_76 hw) rfl ⟨le_t rfl, le_t rfl⟩ ⟨le_t rfl, le_t rfl⟩ rfl (le_t rfl) fun μ35 T36 F37 h38 => ?_
    refine sv_aload_n (pc := 95) dX3_putDown_95 rfl rfl ?_
    refine gf_X3_15 (pc := 96) dX3_putDown_96 wF_X3_163 (A_76 hw) T36 fun z39 q40 h41 => ?_
    exact mr_iret dX3_putDown_99 rfl (le_t rfl) (le_t rfl) T36 (mF.call (mF.up (mF.up (mF.call (mF.call (mF.up mF.refl (A_76 hw) u2 rfl) F14 rfl) F18 rfl) (A_86 hw) u27 rfl) (A_86 hw) u33 rfl) F37 rfl) ⟨(rW (c := (-2147483648)) (d := 2147483647) h41 rfl), ((h38.1 T36 F37) z39 q40 h41), trivial⟩
  have h42 : 0 ≤ z7 ∧ z7 ≤ 0 := (vc_X12_ring_22 h10 h9)
  refine sv_aload_n (pc := 23) dX3_putDown_23 rfl rfl ?_
  refine mr_iload (pc := 24) (z := (1 + z4)) dX3_putDown_24 rfl ?_
  refine mr_iconst (pc := 26) (z := 2) dX3_putDown_26 ?_
  refine mr_cVV (pc := 27) (c_X3_putNumber_W hw T3 (rW (c := (-2147483648)) (d := 2147483647) (rAdd (e := 1) (f := 5) (rR (x := 1)) h6 rfl) rfl) (rW (c := 0) (d := 4) (rR (x := 2)) rfl) ((((hQ μ1 u2 T3) z4 q5) z7 q8 h9).2 h10)) (gOk _ _ _ _ _) dX3_putDown_27 (tX3_putNumber _ _ _ _ _) ⟨wV_X3_putNumber, wL_X3_putNumber⟩ wM_X3_169 (gCX3 _ _ _ _ _) rfl (A_76 hw) rfl ⟨le_t rfl, le_t rfl⟩ ⟨le_t rfl, le_t rfl⟩ rfl (le_t rfl) fun μ43 T44 F45 h46 => ?_
  refine sv_aload_n (pc := 30) dX3_putDown_30 rfl rfl ?_
  refine mr_iload_n (pc := 31) (z := p2) dX3_putDown_31 rfl rfl ?_
  refine mr_iload_n (pc := 32) (z := p3) dX3_putDown_32 rfl rfl ?_
  refine mr_cVV (pc := 33) (c_X3_putPrefix_W hw T44 hp2 hp3 (h46.1 T44 F45)) (gOk _ _ _ _ _) dX3_putDown_33 (tX3_putPrefix _ _ _ _ _) ⟨wV_X3_putPrefix, wL_X3_putPrefix⟩ wM_X3_172 (gCX3 _ _ _ _ _) rfl (A_76 hw) rfl ⟨le_t rfl, le_t rfl⟩ ⟨le_t rfl, le_t rfl⟩ rfl (le_t rfl) fun μ47 T48 F49 h50 => ?_
  refine sv_aload_n (pc := 36) dX3_putDown_36 rfl rfl ?_
  refine mr_iconst (pc := 37) (z := 0) dX3_putDown_37 ?_
  refine mr_iconst (pc := 38) (z := 2) dX3_putDown_38 ?_
  refine mr_cVV (pc := 39) (c_X3_putNumber_W hw T48 (rW (c := (-2147483648)) (d := 2147483647) (rR (x := 0)) rfl) (rW (c := 0) (d := 4) (rR (x := 2)) rfl) (h50.1 T48 F49)) (gOk _ _ _ _ _) dX3_putDown_39 (tX3_putNumber _ _ _ _ _) ⟨wV_X3_putNumber, wL_X3_putNumber⟩ wM_X3_169 (gCX3 _ _ _ _ _) rfl (A_76 hw) rfl ⟨le_t rfl, le_t rfl⟩ ⟨le_t rfl, le_t rfl⟩ rfl (le_t rfl) fun μ51 T52 F53 h54 => ?_
  refine sv_aload_n (pc := 42) dX3_putDown_42 rfl rfl ?_
  refine gf_X3_15 (pc := 43) dX3_putDown_43 wF_X3_163 (A_76 hw) T52 fun z55 q56 h57 => ?_
  exact mr_iret dX3_putDown_46 rfl (le_t rfl) (le_t rfl) T52 (mF.call (mF.call (mF.call (mF.up mF.refl (A_76 hw) u2 rfl) F45 rfl) F49 rfl) F53 rfl) ⟨(rW (c := (-2147483648)) (d := 2147483647) h57 rfl), ((h54.1 T52 F53) z55 q56 h57), trivial⟩
