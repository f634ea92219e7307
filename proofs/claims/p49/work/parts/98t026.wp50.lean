def WJ_X8_takeIn_Wc_2 (w : mW) (p3 : Int) (b865 : Nat) (rec1 : (Int × Int × mM) → Prop) (z1512 : Int) (z1511 : Int) (μ1513 : mM) (z1586 : Int) (b1633 : Nat) (b1638 : Nat) : Prop := mAt w b1638 200 → WP_X7_become_W w μ1513 b1633 b1638 (fun μ1642 => mT w μ1642 → mF [200002, 200003, 200004, 200005, 200006, 200007, 200008, 201999, 202999] w μ1513 μ1642 → ∀ μ1646 : mM, mU μ1642 b1633 (3) z1586 μ1646 → mT w μ1646 → ∀ z1649 : Int, μ1646 32 11 = z1649 → ((-1) ≤ z1649 ∧ z1649 ≤ 2000000000) → ∀ μ1652 : mM, mU μ1646 b1633 (9) z1649 μ1652 → mT w μ1652 → WP_X9_end_W w μ1652 b865 p3 (fun z1659 _ => (0 ≤ z1659 ∧ z1659 ≤ 9) → WP_X8_look_W w μ1652 z1659 z1586 (fun μ1660 => mT w μ1660 → mF [21002, 21003, 21004, 21005, 21006, 21007, 32009, 32010, 33999, 34999, 66999, 200002, 200003, 200004, 200005, 200006, 200007, 200008, 200009, 200010, 200011, 201999, 202999, 213999] w μ1652 μ1660 → rec1 ((z1512 + 1), (z1511 + 1), μ1660))))
def WL_X8_takeIn_Wc_1 (w : mW) (μ : mM) (p3 : Int) (Q : Int → mM → Prop) (f_wd : Int) (f_an : Int) (b865 : Nat) (rec1 : (Int × Int × mM) → Prop) (s : (Int × Int × mM)) : Prop := ∀ z1512 : Int, ∀ z1511 : Int, ∀ μ1513 : mM, s = (z1512, z1511, μ1513) → (0 ≤ z1512 ∧ z1512 ≤ 2000) → (0 ≤ z1511 ∧ z1511 ≤ 2000) → mT w μ1513 → mF [21002, 21003, 21004, 21005, 21006, 21007, 32009, 32010, 33999, 34999, 66999, 200002, 200003, 200004, 200005, 200006, 200007, 200008, 200009, 200010, 200011, 201999, 202999, 213999] w μ μ1513 → (((f_wd + f_an) ≤ z1511) → Q z1512 μ1513) ∧ ((z1511 < (f_wd + f_an)) → ∀ z1576 : Int, μ1513 84 (z1511.toNat) = z1576 → ((-2147483648) ≤ z1576 ∧ z1576 ≤ 2147483647) → ∀ z1579 : Int, μ1513 85 (z1511.toNat) = z1579 → ((-2147483648) ≤ z1579 ∧ z1579 ≤ 2147483647) → WP_X10_findPrefix_W w μ1513 z1576 z1579 (fun z1586 _ => ((-1) ≤ z1586 ∧ z1586 ≤ 9) → ((0 ≤ z1586) → WP_X9_placeOf_W w μ1513 p3 z1586 (fun z1632 _ => (0 ≤ z1632 ∧ z1632 ≤ 19) → ∀ b1633 : Nat, μ1513 (b865 + 2) (z1632.toNat) = (b1633 : Int) → mAt w b1633 200 → ((f_wd ≤ z1511) → (WJ_X8_takeIn_Wc_2 w p3 b865 rec1 z1512 z1511 μ1513 z1586 b1633) 81) ∧ ((z1511 < f_wd) → (WJ_X8_takeIn_Wc_2 w p3 b865 rec1 z1512 z1511 μ1513 z1586 b1633) 70))) ∧ ((z1586 < 0) → rec1 (z1512, (z1511 + 1), μ1513))))
def WP_X8_takeIn_Wc (w : mW) (μ : mM) (p2 : Int) (p3 : Int) (Q : Int → mM → Prop) : Prop := ∀ f_wd : Int, μ 76 13 = f_wd → (0 ≤ f_wd ∧ f_wd ≤ 1000) → ∀ f_an : Int, μ 76 14 = f_an → (0 ≤ f_an ∧ f_an ≤ 1000) → ∀ b865 : Nat, μ 11 (p2.toNat) = (b865 : Int) → mAt w b865 220 → loopF (WL_X8_takeIn_Wc_1 w μ p3 Q f_wd f_an b865) False 2002 ((0 : Int), (0 : Int), μ)
def WP_X11_hear_Wc (w : mW) (μ : mM) (p1 : Int) (p2 : Int) (Q : Int → mM → Prop) : Prop := ∀ f_wd : Int, μ 76 13 = f_wd → (0 ≤ f_wd ∧ f_wd ≤ 1000) → ∀ f_an : Int, μ 76 14 = f_an → (0 ≤ f_an ∧ f_an ≤ 1000) → ∀ z125 : Int, μ 6 16 = z125 → (z125 = w.2.2.2 1 ∧ 0 ≤ z125 ∧ z125 ≤ 20) → WP_X11_isTie_W w μ p1 (fun z132 _ => (0 ≤ z132 ∧ z132 ≤ 1) → ((z132 = 0) → Q ((-1) : Int) μ) ∧ ((¬ z132 = 0) → WP_X11_isEither_W w μ p2 (fun z143 _ => (0 ≤ z143 ∧ z143 ≤ 1) → ((¬ z143 = 0) → ∀ z148 : Int, μ 76 16 = z148 → (0 ≤ z148 ∧ z148 ≤ 1) → ((z148 = 0) → Q ((-2) : Int) μ) ∧ ((¬ z148 = 0) → ∀ b154 : Nat, μ 11 (p1.toNat) = (b154 : Int) → mAt w b154 220 → ∀ z157 : Int, μ b154 6 = z157 → (0 ≤ z157 ∧ z157 ≤ 1) → ((¬ z157 = 0) → WP_X8_takeIn_Wc w μ p1 p2 (fun z166 μ162 => mT w μ162 → mF [21002, 21003, 21004, 21005, 21006, 21007, 32009, 32010, 33999, 34999, 66999, 200002, 200003, 200004, 200005, 200006, 200007, 200008, 200009, 200010, 200011, 201999, 202999, 213999] w μ μ162 → ((-2147483648) ≤ z166 ∧ z166 ≤ 2147483647) → Q z166 μ162)) ∧ ((z157 = 0) → Q ((-2) : Int) μ))) ∧ ((z143 = 0) → Q ((-1) : Int) μ))))
def WJ_X12_hear_Wc_3 (w : mW) (p1 : Int) (p2 : Int) (rec1 : (Int × Int × mM) → Prop) (z2172 : Int) (z2171 : Int) (μ2173 : mM) (z2305 : Int) (z2374 : Int) (μ2406 : mM) : Prop := mT w μ2406 → mF [126999] w μ2173 μ2406 → ∀ z2415 : Int, μ2406 106 71 = z2415 → (0 ≤ z2415 ∧ z2415 ≤ 2000000000) → ∀ μ2418 : mM, mU μ2406 154 (z2374.toNat) z2415 μ2418 → mT w μ2418 → ∀ z2421 : Int, μ2418 110 (((2 * p1) + p2).toNat) = z2421 → (0 ≤ z2421 ∧ z2421 ≤ 9) → WP_X12_look_W w μ2418 z2421 z2305 (fun μ2424 => mT w μ2424 → mF [106026, 106027, 106028, 106029, 106030, 106031, 106072, 126999, 151999, 152999, 153999, 155999, 156999, 157999, 158999, 159999, 160999, 161999, 165999] w μ2418 μ2424 → rec1 ((z2172 + 1), (z2171 + 1), μ2424))
def WJ_X12_hear_Wc_2 (w : mW) (p1 : Int) (p2 : Int) (rec1 : (Int × Int × mM) → Prop) (z2172 : Int) (z2171 : Int) (μ2173 : mM) (z2187 : Int) (z2305 : Int) : Prop := ((-99999999) ≤ z2305 ∧ z2305 ≤ 9) → ((¬ z2305 = (-99999999)) → WP_X12_slot_W w μ2173 p1 p2 z2305 (fun z2374 _ => (0 ≤ z2374 ∧ z2374 ≤ 449) → ((z2187 ≤ z2171) → ∀ z2429 : Int, μ2173 126 (((40 * 24) : Int).toNat) = z2429 → ((-2147483648 ≤ z2429 ∧ z2429 ≤ 2147483647) ∧ (((40 * 24) : Int) % 40 = 0 → -1 ≤ z2429 ∧ z2429 ≤ 9) ∧ (((40 * 24) : Int) % 40 = 4 → 0 ≤ z2429 ∧ z2429 ≤ 20) ∧ (((40 * 24) : Int) % 40 = 5 → 0 ≤ z2429 ∧ z2429 ≤ 8)) → WP_X12_copy_W w μ2173 (24) (130 + z2374) (fun μ2433 => mT w μ2433 → mF [126999] w μ2173 μ2433 → ∀ z2437 : Int, μ2433 126 ((40 * (130 + z2374)).toNat) = z2437 → ∀ μ2443 : mM, mU μ2433 126 ((40 * (130 + z2374)).toNat) z2305 μ2443 → mT w μ2443 → (WJ_X12_hear_Wc_3 w p1 p2 rec1 z2172 z2171 μ2173 z2305 z2374) μ2443)) ∧ ((z2171 < z2187) → WP_X12_nothing_W w μ2173 (130 + z2374) (fun μ2448 => mT w μ2448 → mF [126999] w μ2173 μ2448 → ∀ z2452 : Int, μ2448 126 ((40 * (130 + z2374)).toNat) = z2452 → (WJ_X12_hear_Wc_3 w p1 p2 rec1 z2172 z2171 μ2173 z2305 z2374) μ2448)))) ∧ ((z2305 = (-99999999)) → rec1 (z2172, (z2171 + 1), μ2173))
def WL_X12_hear_Wc_1 (w : mW) (μ : mM) (p1 : Int) (p2 : Int) (Q : Int → mM → Prop) (rec1 : (Int × Int × mM) → Prop) (s : (Int × Int × mM)) : Prop := ∀ z2172 : Int, ∀ z2171 : Int, ∀ μ2173 : mM, s = (z2172, z2171, μ2173) → (0 ≤ z2172 ∧ z2172 ≤ 2000) → (0 ≤ z2171 ∧ z2171 ≤ 2000) → mT w μ2173 → mF [106026, 106027, 106028, 106029, 106030, 106031, 106072, 126999, 151999, 152999, 153999, 154999, 155999, 156999, 157999, 158999, 159999, 160999, 161999, 165999] w μ μ2173 → ∀ z2187 : Int, μ2173 106 88 = z2187 → (0 ≤ z2187 ∧ z2187 ≤ 1000) → ∀ z2190 : Int, μ2173 106 91 = z2190 → (0 ≤ z2190 ∧ z2190 ≤ 1000) → (((z2187 + z2190) ≤ z2171) → Q z2172 μ2173) ∧ ((z2171 < (z2187 + z2190)) → ((z2187 ≤ z2171) → ∀ z2461 : Int, μ2173 168 ((z2171 - z2187).toNat) = z2461 → ((-2147483648) ≤ z2461 ∧ z2461 ≤ 2147483647) → ∀ z2464 : Int, μ2173 169 ((z2171 - z2187).toNat) = z2464 → ((-2147483648) ≤ z2464 ∧ z2464 ≤ 2147483647) → WP_X12_prefixOf_W w μ2173 z2461 z2464 (fun z2471 _ => ((-99999999) ≤ z2471 ∧ z2471 ≤ 9) → (WJ_X12_hear_Wc_2 w p1 p2 rec1 z2172 z2171 μ2173 z2187) z2471)) ∧ ((z2171 < z2187) → ∀ z2475 : Int, μ2173 166 (z2171.toNat) = z2475 → ((-2147483648) ≤ z2475 ∧ z2475 ≤ 2147483647) → ∀ z2478 : Int, μ2173 167 (z2171.toNat) = z2478 → ((-2147483648) ≤ z2478 ∧ z2478 ≤ 2147483647) → WP_X12_prefixOf_W w μ2173 z2475 z2478 (fun z2485 _ => ((-99999999) ≤ z2485 ∧ z2485 ≤ 9) → (WJ_X12_hear_Wc_2 w p1 p2 rec1 z2172 z2171 μ2173 z2187) z2485)))
def WP_X12_hear_Wc (w : mW) (μ : mM) (p1 : Int) (p2 : Int) (Q : Int → mM → Prop) : Prop := ∀ z1 : Int, μ 106 6 = z1 → (0 ≤ z1 ∧ z1 ≤ 20) → WP_X12_isTie_W w μ p1 (fun z8 _ => (0 ≤ z8 ∧ z8 ≤ 1) → ((z8 = 0) → Q ((-1) : Int) μ) ∧ ((¬ z8 = 0) → WP_X12_in_W w μ p2 (0) (1) (fun z20 _ => (0 ≤ z20 ∧ z20 ≤ 1) → ((¬ z20 = 0) → ∀ z25 : Int, μ 106 96 = z25 → (0 ≤ z25 ∧ z25 ≤ 1) → ((z25 = 0) → Q ((-2) : Int) μ) ∧ ((¬ z25 = 0) → ∀ z31 : Int, μ 106 97 = z31 → (0 ≤ z31 ∧ z31 ≤ 1) → ((¬ z31 = 0) → Q ((-2) : Int) μ) ∧ ((z31 = 0) → ∀ z37 : Int, μ 112 (p1.toNat) = z37 → (0 ≤ z37 ∧ z37 ≤ 1) → ((¬ z37 = 0) → loopF (WL_X12_hear_Wc_1 w μ p1 p2 Q) False 2002 ((0 : Int), (0 : Int), μ)) ∧ ((z37 = 0) → Q ((-2) : Int) μ)))) ∧ ((z20 = 0) → Q ((-1) : Int) μ))))
def WJ_X2_tieFor_W_2 (w : mW) (μ : mM) (b1 : Nat) (rec1 : (Int × Int × Int) → Prop) (z249 : Int) (z248 : Int) (z247 : Int) (z305 : Int) : Prop := (0 ≤ z305 ∧ z305 ≤ 1) → ((z305 = 0) → rec1 (z249, z248, (z247 + 1))) ∧ ((¬ z305 = 0) → ∀ z328 : Int, μ (b1 + 3) (z247.toNat) = z328 → ((z328 = -99999999 ∨ z328 = -4 ∨ (0 ≤ z328 ∧ z328 ≤ 19)) ∧ (0 ≤ z328 → z328 < w.2.2.2 1)) → ((z328 = (-99999999)) → rec1 (z249, z248, (z247 + 1))) ∧ ((¬ z328 = (-99999999)) → ∀ z343 : Int, μ 8 (z247.toNat) = z343 → (0 ≤ z343 ∧ z343 ≤ 32) → ((z343 ≤ z249) → rec1 (z249, z248, (z247 + 1))) ∧ ((z249 < z343) → rec1 (z343, z328, (z247 + 1)))))
def WL_X2_tieFor_W_1 (w : mW) (μ : mM) (p2 : Int) (Q : Int → mM → Prop) (b1 : Nat) (rec1 : (Int × Int × Int) → Prop) (s : (Int × Int × Int)) : Prop := ∀ z249 : Int, ∀ z248 : Int, ∀ z247 : Int, s = (z249, z248, z247) → ((-1) ≤ z249 ∧ z249 ≤ 32) → ((-99999999) ≤ z248 ∧ z248 ≤ 19) → (0 ≤ z247 ∧ z247 ≤ 10) → ∀ z262 : Int, μ 6 14 = z262 → (0 ≤ z262 ∧ z262 ≤ 10) → ((z262 ≤ z247) → Q z248 μ) ∧ ((z247 < z262) → ∀ z296 : Int, μ 9 (z247.toNat) = z296 → ((-2147483648) ≤ z296 ∧ z296 ≤ 2147483647) → ∀ z299 : Int, bAnd p2 z296 = z299 → ∀ z302 : Int, μ 7 (z247.toNat) = z302 → ((-2147483648) ≤ z302 ∧ z302 ≤ 2147483647) → ((¬ z299 = z302) → (WJ_X2_tieFor_W_2 w μ b1 rec1 z249 z248 z247) (0 : Int)) ∧ ((z299 = z302) → (WJ_X2_tieFor_W_2 w μ b1 rec1 z249 z248 z247) (1 : Int)))
def WP_X2_tieFor_W (w : mW) (μ : mM) (p1 : Int) (p2 : Int) (Q : Int → mM → Prop) : Prop := ∀ b1 : Nat, μ 10 (p1.toNat) = (b1 : Int) → mAt w b1 210 → loopF (WL_X2_tieFor_W_1 w μ p2 Q b1) False 12 (((-1) : Int), ((-99999999) : Int), (0 : Int))
def WP_X2_partnerFor_W (w : mW) (μ : mM) (p1 : Int) (p2 : Int) (Q : Int → mM → Prop) : Prop := WP_X2_tieFor_W w μ p1 p2 (fun z5 _ => ((-99999999) ≤ z5 ∧ z5 ≤ 19) → ((0 ≤ z5) → ∀ b8 : Nat, μ 11 (z5.toNat) = (b8 : Int) → mAt w b8 220 → WP_X9_sideOf_W w μ b8 p1 (fun z15 _ => ((-1) ≤ z15 ∧ z15 ≤ 1) → WP_X9_end_W w μ b8 (1 - z15) (fun z20 _ => (0 ≤ z20 ∧ z20 ≤ 9) → Q z20 μ))) ∧ ((z5 < 0) → Q z5 μ))
def WL_X2_travel_W_1 (w : mW) (p2 : Int) (Q : Int → mM → Prop) (μ4 : mM) (rec1 : (Int × Int × mM) → Prop) (s : (Int × Int × mM)) : Prop := ∀ z319 : Int, ∀ z318 : Int, ∀ μ320 : mM, s = (z319, z318, μ320) → ((-2147483648) ≤ z319 ∧ z319 ≤ 2147483647) → (0 ≤ z318 ∧ z318 ≤ 10) → mT w μ320 → mF [87006, 88999] w μ4 μ320 → ∀ f_s : Int, μ320 87 (6) = f_s → (0 ≤ f_s ∧ f_s ≤ 11) → ((10 ≤ z318) → Q (2 : Int) μ320) ∧ ((z318 < 10) → ∀ z336 : Int, μ320 88 (z318.toNat) = z336 → (0 ≤ z336 ∧ z336 ≤ 9 ∧ (z336 = 0 ∨ z336 < w.2.2.2 0)) → WP_X2_partnerFor_W w μ320 z336 p2 (fun z344 _ => ((-99999999) ≤ z344 ∧ z344 ≤ 9) → ((0 ≤ z344) → ∀ μ347 : mM, mU μ320 88 (f_s.toNat) z344 μ347 → mT w μ347 → ∀ μ350 : mM, mU μ347 87 (6) (f_s + 1) μ350 → mT w μ350 → ∀ z353 : Int, bShr z319 z344 = z353 → ∀ z356 : Int, bAnd z353 (1 : Int) = z356 → ((z356 = 0) → ∀ z361 : Int, bShl (1 : Int) z344 = z361 → ∀ z364 : Int, bOr z319 z361 = z364 → rec1 (z364, (z318 + 1), μ350)) ∧ ((¬ z356 = 0) → Q (2 : Int) μ350)) ∧ ((z344 < 0) → ((¬ z344 = (-4)) → Q (1 : Int) μ320) ∧ ((z344 = (-4)) → Q (0 : Int) μ320))))
def WP_X2_travel_W (w : mW) (μ : mM) (p1 : Int) (p2 : Int) (Q : Int → mM → Prop) : Prop := ∀ μ1 : mM, mU μ 88 ((0 : Int).toNat) p1 μ1 → mT w μ1 → ∀ μ4 : mM, mU μ1 87 (6) (1 : Int) μ4 → mT w μ4 → ∀ z7 : Int, bShl (1 : Int) p1 = z7 → loopF (WL_X2_travel_W_1 w p2 Q μ4) False 12 (z7, (0 : Int), μ4)
def WP_X2_send_W (w : mW) (μ : mM) (p1 : Int) (p2 : Int) (Q : Int → mM → Prop) : Prop := WP_X2_travel_W w μ p1 p2 (fun z5 μ1 => mT w μ1 → mF [87006, 88999] w μ μ1 → ((-2147483648) ≤ z5 ∧ z5 ≤ 2147483647) → ∀ z6 : Int, μ1 87 6 = z6 → (0 ≤ z6 ∧ z6 ≤ 11) → ∀ μ9 : mM, mQ μ1 88 89 (0 : Int) (0 : Int) z6 μ9 → mT w μ9 → ∀ μ13 : mM, mU μ9 87 (9) z6 μ13 → mT w μ13 → Q z5 μ13)
def WP_X11_letter_W (w : mW) (μ : mM) (p1 : Int) (p2 : Int) (Q : Int → mM → Prop) : Prop := ∀ z1 : Int, μ 6 15 = z1 → (z1 = w.2.2.2 0 ∧ 0 ≤ z1 ∧ z1 ≤ 10) → WP_X11_isDomain_W w μ p1 (fun z8 _ => (0 ≤ z8 ∧ z8 ≤ 1) → ((z8 = 0) → Q ((-1) : Int) μ) ∧ ((¬ z8 = 0) → WP_X2_send_W w μ p1 p2 (fun z31 μ27 => mT w μ27 → mF [87006, 87009, 88999, 89999] w μ μ27 → ((-2147483648) ≤ z31 ∧ z31 ≤ 2147483647) → Q z31 μ27)))
def WL_X12_sends_W_1 (w : mW) (μ : mM) (p1 : Int) (p2 : Int) (Q : Int → mM → Prop) (rec1 : (Int × Int) → Prop) (s : (Int × Int)) : Prop := ∀ z223 : Int, ∀ z222 : Int, s = (z223, z222) → ((-99999999) ≤ z223 ∧ z223 ≤ 9) → (0 ≤ z222 ∧ z222 ≤ 10) → ∀ z234 : Int, μ 106 2 = z234 → (0 ≤ z234 ∧ z234 ≤ 10) → ((z234 ≤ z222) → ((¬ z223 = (-99999999)) → ∀ z274 : Int, μ 161 (((10 * p1) + z223).toNat) = z274 → (z274 = -99999999 ∨ z274 = -4 ∨ (0 ≤ z274 ∧ z274 ≤ 19)) → Q z274 μ) ∧ ((z223 = (-99999999)) → Q ((-99999999) : Int) μ)) ∧ ((z222 < z234) → ∀ z281 : Int, μ 161 (((10 * p1) + z222).toNat) = z281 → (z281 = -99999999 ∨ z281 = -4 ∨ (0 ≤ z281 ∧ z281 ≤ 19)) → ((z281 = (-99999999)) → rec1 (z223, (z222 + 1))) ∧ ((¬ z281 = (-99999999)) → ∀ z310 : Int, μ 108 (z222.toNat) = z310 → ((-2147483648) ≤ z310 ∧ z310 ≤ 2147483647) → ∀ z313 : Int, μ 109 (z222.toNat) = z313 → (0 ≤ z313 ∧ z313 ≤ 32) → WP_X12_holds_W w μ z310 z313 p2 (fun z320 _ => (0 ≤ z320 ∧ z320 ≤ 1) → ((¬ z320 = 0) → ((z223 = (-99999999)) → rec1 (z222, (z222 + 1))) ∧ ((¬ z223 = (-99999999)) → ∀ z343 : Int, μ 109 (z223.toNat) = z343 → (0 ≤ z343 ∧ z343 ≤ 32) → ((z313 ≤ z343) → rec1 (z223, (z222 + 1))) ∧ ((z343 < z313) → rec1 (z222, (z222 + 1))))) ∧ ((z320 = 0) → rec1 (z223, (z222 + 1))))))
def WP_X12_sends_W (w : mW) (μ : mM) (p1 : Int) (p2 : Int) (Q : Int → mM → Prop) : Prop := loopF (WL_X12_sends_W_1 w μ p1 p2 Q) False 12 (((-99999999) : Int), (0 : Int))
def WL_X12_goes_W_2 (w : mW) (p2 : Int) (Q : Int → mM → Prop) (rec1 : (Int × mM) → Prop) (z136 : Int) (μ137 : mM) (f_m : Int) (rec2 : (Int × Int) → Prop) (s : (Int × Int)) : Prop := ∀ z396 : Int, ∀ z395 : Int, s = (z396, z395) → (0 ≤ z396 ∧ z396 ≤ 1) → (0 ≤ z395 ∧ z395 ≤ 10) → ((f_m ≤ z395) → ∀ μ416 : mM, mU μ137 175 (f_m.toNat) z136 μ416 → mT w μ416 → ∀ μ419 : mM, mU μ416 106 (106) (f_m + 1) μ419 → mT w μ419 → ((z396 = 0) → WP_X12_sends_W w μ419 z136 p2 (fun z428 _ => ((-99999999) ≤ z428 ∧ z428 ≤ 19) → ((¬ z428 = (-4)) → ((¬ z428 = (-99999999)) → WP_X12_partnerOf_W w μ419 z428 z136 (fun z436 _ => (0 ≤ z436 ∧ z436 ≤ 9) → rec1 (z436, μ419))) ∧ ((z428 = (-99999999)) → Q (1 : Int) μ419)) ∧ ((z428 = (-4)) → Q (0 : Int) μ419))) ∧ ((¬ z396 = 0) → Q (2 : Int) μ419)) ∧ ((z395 < f_m) → ((¬ z396 = 0) → rec2 ((1 : Int), (z395 + 1))) ∧ ((z396 = 0) → ∀ z445 : Int, μ137 175 (z395.toNat) = z445 → (0 ≤ z445 ∧ z445 ≤ 9) → ((¬ z445 = z136) → rec2 ((0 : Int), (z395 + 1))) ∧ ((z445 = z136) → rec2 ((1 : Int), (z395 + 1)))))
def WL_X12_goes_W_1 (w : mW) (p2 : Int) (Q : Int → mM → Prop) (μ1 : mM) (rec1 : (Int × mM) → Prop) (s : (Int × mM)) : Prop := ∀ z136 : Int, ∀ μ137 : mM, s = (z136, μ137) → (0 ≤ z136 ∧ z136 ≤ 9) → mT w μ137 → mF [106106, 175999] w μ1 μ137 → ∀ f_m : Int, μ137 106 (106) = f_m → (0 ≤ f_m ∧ f_m ≤ 12) → loopF (WL_X12_goes_W_2 w p2 Q rec1 z136 μ137 f_m) False 12 ((0 : Int), (0 : Int))
def WP_X12_goes_W (w : mW) (μ : mM) (p1 : Int) (p2 : Int) (Q : Int → mM → Prop) : Prop := ∀ μ1 : mM, mU μ 106 (106) (0 : Int) μ1 → mT w μ1 → loopF (WL_X12_goes_W_1 w p2 Q μ1) False 13 (p1, μ1)
def WL_X12_letter_W_1 (w : mW) (Q : Int → mM → Prop) (z18 : Int) (z19 : Int) (μ22 : mM) (rec1 : (Int × mM) → Prop) (s : (Int × mM)) : Prop := ∀ z95 : Int, ∀ μ96 : mM, s = (z95, μ96) → (0 ≤ z95 ∧ z95 ≤ 12) → mT w μ96 → mF [176999] w μ22 μ96 → ((z19 ≤ z95) → Q z18 μ96) ∧ ((z95 < z19) → ∀ z116 : Int, μ96 175 (z95.toNat) = z116 → (0 ≤ z116 ∧ z116 ≤ 9) → ∀ μ119 : mM, mU μ96 176 (z95.toNat) z116 μ119 → mT w μ119 → rec1 ((z95 + 1), μ119))
def WP_X12_letter_W (w : mW) (μ : mM) (p1 : Int) (p2 : Int) (Q : Int → mM → Prop) : Prop := ∀ z1 : Int, μ 106 5 = z1 → (0 ≤ z1 ∧ z1 ≤ 10) → WP_X12_isDomain_W w μ p1 (fun z8 _ => (0 ≤ z8 ∧ z8 ≤ 1) → ((¬ z8 = 0) → WP_X12_goes_W w μ p1 p2 (fun z18 μ14 => mT w μ14 → mF [106106, 175999] w μ μ14 → (0 ≤ z18 ∧ z18 ≤ 2) → ∀ z19 : Int, μ14 106 106 = z19 → (0 ≤ z19 ∧ z19 ≤ 12) → ∀ μ22 : mM, mU μ14 106 (108) z19 μ22 → mT w μ22 → loopF (WL_X12_letter_W_1 w Q z18 z19 μ22) False 14 ((0 : Int), μ22))) ∧ ((z8 = 0) → Q ((-1) : Int) μ))
def WP_X11_led_W (w : mW) (μ : mM) (p1 : Int) (Q : Int → mM → Prop) : Prop := ((p1 < 0) → Q ((-99999999) : Int) μ) ∧ ((0 ≤ p1) → ∀ z14 : Int, μ 87 9 = z14 → (0 ≤ z14 ∧ z14 ≤ 11) → ((p1 < z14) → ∀ z25 : Int, μ 89 (p1.toNat) = z25 → ((-2147483648) ≤ z25 ∧ z25 ≤ 2147483647) → Q z25 μ) ∧ ((z14 ≤ p1) → Q ((-99999999) : Int) μ))
def WP_X12_led_W (w : mW) (μ : mM) (p1 : Int) (Q : Int → mM → Prop) : Prop := ∀ z1 : Int, μ 106 108 = z1 → (0 ≤ z1 ∧ z1 ≤ 12) → WP_X12_in_W w μ p1 (0) (z1 - 1) (fun z8 _ => (0 ≤ z8 ∧ z8 ≤ 1) → ((z8 = 0) → Q ((-99999999) : Int) μ) ∧ ((¬ z8 = 0) → ∀ z23 : Int, μ 176 (p1.toNat) = z23 → ((-2147483648) ≤ z23 ∧ z23 ≤ 2147483647) → Q z23 μ))
def WL_X2_unitsOver_W_2 (w : mW) (p1 : Int) (p2 : Int) (rec1 : (Int × Int × mM) → Prop) (z671 : Int) (μ757 : mM) (rec2 : (Int × Int) → Prop) (s : (Int × Int)) : Prop := ∀ z925 : Int, ∀ z924 : Int, s = (z925, z924) → ((-2147483648) ≤ z925 ∧ z925 ≤ 2147483647) → (0 ≤ z924 ∧ z924 ≤ 10) → ∀ z935 : Int, μ757 87 6 = z935 → (0 ≤ z935 ∧ z935 ≤ 11) → ((z935 ≤ (z924 + 1)) → rec1 (z925, (z671 + 1), μ757)) ∧ (((z924 + 1) < z935) → ∀ z959 : Int, μ757 88 (z924.toNat) = z959 → (0 ≤ z959 ∧ z959 ≤ 9 ∧ (z959 = 0 ∨ z959 < w.2.2.2 0)) → ((¬ z959 = p1) → rec2 (z925, (z924 + 1))) ∧ ((z959 = p1) → ∀ z977 : Int, μ757 88 ((z924 + 1).toNat) = z977 → (0 ≤ z977 ∧ z977 ≤ 9 ∧ (z977 = 0 ∨ z977 < w.2.2.2 0)) → ((¬ z977 = p2) → rec2 (z925, (z924 + 1))) ∧ ((z977 = p2) → ∀ z990 : Int, μ757 92 (z671.toNat) = z990 → ((-2147483648) ≤ z990 ∧ z990 ≤ 2147483647) → ∀ z993 : Int, (-2147483648 ≤ z993 ∧ z993 ≤ 2147483647) → (z993 - (z925 + z990)) % 4294967296 = 0 → rec2 (z993, (z924 + 1)))))
def WL_X2_unitsOver_W_1 (w : mW) (μ : mM) (p1 : Int) (p2 : Int) (Q : Int → mM → Prop) (rec1 : (Int × Int × mM) → Prop) (s : (Int × Int × mM)) : Prop := ∀ z672 : Int, ∀ z671 : Int, ∀ μ673 : mM, s = (z672, z671, μ673) → ((-2147483648) ≤ z672 ∧ z672 ≤ 2147483647) → (0 ≤ z671 ∧ z671 ≤ 16) → mT w μ673 → mF [87006, 88999] w μ μ673 → ∀ z683 : Int, μ673 87 10 = z683 → (0 ≤ z683 ∧ z683 ≤ 16 ∧ (z683 = 0 ∨ 0 < w.2.2.2 0)) → ((z683 ≤ z671) → Q z672 μ673) ∧ ((z671 < z683) → ∀ z750 : Int, μ673 90 (z671.toNat) = z750 → (0 ≤ z750 ∧ z750 ≤ 9 ∧ (z750 = 0 ∨ z750 < w.2.2.2 0)) → ∀ z754 : Int, μ673 91 (z671.toNat) = z754 → ((-2147483648) ≤ z754 ∧ z754 ≤ 2147483647) → WP_X2_travel_W w μ673 z750 z754 (fun z761 μ757 => mT w μ757 → mF [87006, 88999] w μ673 μ757 → ((-2147483648) ≤ z761 ∧ z761 ≤ 2147483647) → loopF (WL_X2_unitsOver_W_2 w p1 p2 rec1 z671 μ757) False 12 (z672, (0 : Int))))
def WP_X2_unitsOver_W (w : mW) (μ : mM) (p1 : Int) (p2 : Int) (Q : Int → mM → Prop) : Prop := loopF (WL_X2_unitsOver_W_1 w μ p1 p2 Q) False 18 ((0 : Int), (0 : Int), μ)
def WP_X11_load_W (w : mW) (μ : mM) (p1 : Int) (p2 : Int) (Q : Int → mM → Prop) : Prop := ∀ z1 : Int, μ 6 16 = z1 → (z1 = w.2.2.2 1 ∧ 0 ≤ z1 ∧ z1 ≤ 20) → WP_X11_isTie_W w μ p1 (fun z8 _ => (0 ≤ z8 ∧ z8 ≤ 1) → ((z8 = 0) → Q ((-1) : Int) μ) ∧ ((¬ z8 = 0) → WP_X11_isEither_W w μ p2 (fun z20 _ => (0 ≤ z20 ∧ z20 ≤ 1) → ((¬ z20 = 0) → ∀ b25 : Nat, μ 11 (p1.toNat) = (b25 : Int) → mAt w b25 220 → WP_X9_end_W w μ b25 p2 (fun z32 _ => (0 ≤ z32 ∧ z32 ≤ 9) → WP_X9_end_W w μ b25 (1 - p2) (fun z37 _ => (0 ≤ z37 ∧ z37 ≤ 9) → WP_X2_unitsOver_W w μ z32 z37 (fun z42 μ38 => mT w μ38 → mF [87006, 88999] w μ μ38 → ((-2147483648) ≤ z42 ∧ z42 ≤ 2147483647) → Q z42 μ38)))) ∧ ((z20 = 0) → Q ((-1) : Int) μ))))
def WL_X12_load_W_2 (p1 : Int) (p2 : Int) (rec1 : (Int × Int × mM) → Prop) (z715 : Int) (μ802 : mM) (rec2 : (Int × Int) → Prop) (s : (Int × Int)) : Prop := ∀ z1059 : Int, ∀ z1058 : Int, s = (z1059, z1058) → ((-2147483648) ≤ z1059 ∧ z1059 ≤ 2147483647) → (0 ≤ z1058 ∧ z1058 ≤ 11) → ∀ z1069 : Int, μ802 106 106 = z1069 → (0 ≤ z1069 ∧ z1069 ≤ 12) → ((z1069 ≤ (z1058 + 1)) → rec1 (z1059, (z715 + 1), μ802)) ∧ (((z1058 + 1) < z1069) → ∀ z1095 : Int, μ802 175 (z1058.toNat) = z1095 → (0 ≤ z1095 ∧ z1095 ≤ 9) → ∀ z1098 : Int, μ802 110 (((2 * p1) + p2).toNat) = z1098 → (0 ≤ z1098 ∧ z1098 ≤ 9) → ((¬ z1095 = z1098) → rec2 (z1059, (z1058 + 1))) ∧ ((z1095 = z1098) → ∀ z1114 : Int, μ802 175 ((z1058 + 1).toNat) = z1114 → (0 ≤ z1114 ∧ z1114 ≤ 9) → ∀ z1117 : Int, μ802 110 ((((2 * p1) + 1) - p2).toNat) = z1117 → (0 ≤ z1117 ∧ z1117 ≤ 9) → ((¬ z1114 = z1117) → rec2 (z1059, (z1058 + 1))) ∧ ((z1114 = z1117) → ∀ z1127 : Int, μ802 179 (z715.toNat) = z1127 → ((-2147483648) ≤ z1127 ∧ z1127 ≤ 2147483647) → ∀ z1130 : Int, (-2147483648 ≤ z1130 ∧ z1130 ≤ 2147483647) → (z1130 - (z1059 + z1127)) % 4294967296 = 0 → rec2 (z1130, (z1058 + 1)))))
def WL_X12_load_W_1 (w : mW) (μ : mM) (p1 : Int) (p2 : Int) (Q : Int → mM → Prop) (rec1 : (Int × Int × mM) → Prop) (s : (Int × Int × mM)) : Prop := ∀ z716 : Int, ∀ z715 : Int, ∀ μ717 : mM, s = (z716, z715, μ717) → ((-2147483648) ≤ z716 ∧ z716 ≤ 2147483647) → (0 ≤ z715 ∧ z715 ≤ 16) → mT w μ717 → mF [106106, 175999] w μ μ717 → ∀ z727 : Int, μ717 106 109 = z727 → (0 ≤ z727 ∧ z727 ≤ 16) → ((z727 ≤ z715) → Q z716 μ717) ∧ ((z715 < z727) → ∀ z796 : Int, μ717 177 (z715.toNat) = z796 → (0 ≤ z796 ∧ z796 ≤ 9) → ∀ z799 : Int, μ717 178 (z715.toNat) = z799 → ((-2147483648) ≤ z799 ∧ z799 ≤ 2147483647) → WP_X12_goes_W w μ717 z796 z799 (fun z806 μ802 => mT w μ802 → mF [106106, 175999] w μ717 μ802 → (0 ≤ z806 ∧ z806 ≤ 2) → loopF (WL_X12_load_W_2 p1 p2 rec1 z715 μ802) False 13 (z716, (0 : Int))))
def WP_X12_load_W (w : mW) (μ : mM) (p1 : Int) (p2 : Int) (Q : Int → mM → Prop) : Prop := ∀ z1 : Int, μ 106 6 = z1 → (0 ≤ z1 ∧ z1 ≤ 20) → WP_X12_isTie_W w μ p1 (fun z8 _ => (0 ≤ z8 ∧ z8 ≤ 1) → ((z8 = 0) → Q ((-1) : Int) μ) ∧ ((¬ z8 = 0) → WP_X12_in_W w μ p2 (0) (1) (fun z20 _ => (0 ≤ z20 ∧ z20 ≤ 1) → ((¬ z20 = 0) → loopF (WL_X12_load_W_1 w μ p1 p2 Q) False 18 ((0 : Int), (0 : Int), μ)) ∧ ((z20 = 0) → Q ((-1) : Int) μ))))
def WL_X2_unitsThat_W_1 (w : mW) (μ : mM) (p1 : Int) (Q : Int → mM → Prop) (rec1 : (Int × Int × mM) → Prop) (s : (Int × Int × mM)) : Prop := ∀ z215 : Int, ∀ z214 : Int, ∀ μ216 : mM, s = (z215, z214, μ216) → ((-2147483648) ≤ z215 ∧ z215 ≤ 2147483647) → (0 ≤ z214 ∧ z214 ≤ 16) → mT w μ216 → mF [87006, 88999] w μ μ216 → ∀ z226 : Int, μ216 87 10 = z226 → (0 ≤ z226 ∧ z226 ≤ 16 ∧ (z226 = 0 ∨ 0 < w.2.2.2 0)) → ((z226 ≤ z214) → Q z215 μ216) ∧ ((z214 < z226) → ∀ z253 : Int, μ216 90 (z214.toNat) = z253 → (0 ≤ z253 ∧ z253 ≤ 9 ∧ (z253 = 0 ∨ z253 < w.2.2.2 0)) → ∀ z257 : Int, μ216 91 (z214.toNat) = z257 → ((-2147483648) ≤ z257 ∧ z257 ≤ 2147483647) → WP_X2_travel_W w μ216 z253 z257 (fun z264 μ260 => mT w μ260 → mF [87006, 88999] w μ216 μ260 → ((-2147483648) ≤ z264 ∧ z264 ≤ 2147483647) → ((¬ z264 = p1) → rec1 (z215, (z214 + 1), μ260)) ∧ ((z264 = p1) → ∀ z273 : Int, μ260 92 (z214.toNat) = z273 → ((-2147483648) ≤ z273 ∧ z273 ≤ 2147483647) → ∀ z276 : Int, (-2147483648 ≤ z276 ∧ z276 ≤ 2147483647) → (z276 - (z215 + z273)) % 4294967296 = 0 → rec1 (z276, (z214 + 1), μ260))))
def WP_X2_unitsThat_W (w : mW) (μ : mM) (p1 : Int) (Q : Int → mM → Prop) : Prop := loopF (WL_X2_unitsThat_W_1 w μ p1 Q) False 18 ((0 : Int), (0 : Int), μ)
def WP_X11_units_W (w : mW) (μ : mM) (p1 : Int) (Q : Int → mM → Prop) : Prop := ((p1 < 0) → Q ((-1) : Int) μ) ∧ ((0 ≤ p1) → ((p1 ≤ 2) → WP_X2_unitsThat_W w μ p1 (fun z26 μ22 => mT w μ22 → mF [87006, 88999] w μ μ22 → ((-2147483648) ≤ z26 ∧ z26 ≤ 2147483647) → Q z26 μ22)) ∧ ((2 < p1) → Q ((-1) : Int) μ))
def WL_X12_units_W_1 (w : mW) (μ : mM) (p1 : Int) (Q : Int → mM → Prop) (rec1 : (Int × Int × mM) → Prop) (s : (Int × Int × mM)) : Prop := ∀ z233 : Int, ∀ z232 : Int, ∀ μ234 : mM, s = (z233, z232, μ234) → ((-2147483648) ≤ z233 ∧ z233 ≤ 2147483647) → (0 ≤ z232 ∧ z232 ≤ 16) → mT w μ234 → mF [106106, 175999] w μ μ234 → ∀ z244 : Int, μ234 106 109 = z244 → (0 ≤ z244 ∧ z244 ≤ 16) → ((z244 ≤ z232) → Q z233 μ234) ∧ ((z232 < z244) → ∀ z269 : Int, μ234 177 (z232.toNat) = z269 → (0 ≤ z269 ∧ z269 ≤ 9) → ∀ z272 : Int, μ234 178 (z232.toNat) = z272 → ((-2147483648) ≤ z272 ∧ z272 ≤ 2147483647) → WP_X12_goes_W w μ234 z269 z272 (fun z279 μ275 => mT w μ275 → mF [106106, 175999] w μ234 μ275 → (0 ≤ z279 ∧ z279 ≤ 2) → ((¬ z279 = p1) → rec1 ((z233 + 0), (z232 + 1), μ275)) ∧ ((z279 = p1) → ∀ z285 : Int, μ275 179 (z232.toNat) = z285 → ((-2147483648) ≤ z285 ∧ z285 ≤ 2147483647) → ∀ z288 : Int, (-2147483648 ≤ z288 ∧ z288 ≤ 2147483647) → (z288 - (z233 + z285)) % 4294967296 = 0 → rec1 (z288, (z232 + 1), μ275))))
def WP_X12_units_W (w : mW) (μ : mM) (p1 : Int) (Q : Int → mM → Prop) : Prop := WP_X12_in_W w μ p1 (0) (2) (fun z5 _ => (0 ≤ z5 ∧ z5 ≤ 1) → ((¬ z5 = 0) → loopF (WL_X12_units_W_1 w μ p1 Q) False 18 ((0 : Int), (0 : Int), μ)) ∧ ((z5 = 0) → Q ((-1) : Int) μ))
def WP_X11_count_W (w : mW) (μ : mM) (p1 : Int) (Q : Int → mM → Prop) : Prop := (p1 = 0 → ∀ z3 : Int, μ 6 14 = z3 → (0 ≤ z3 ∧ z3 ≤ 10) → Q z3 μ) ∧ (¬ p1 = 0 → (p1 = 1 → ∀ z8 : Int, μ 6 15 = z8 → (z8 = w.2.2.2 0 ∧ 0 ≤ z8 ∧ z8 ≤ 10) → Q z8 μ) ∧ (¬ p1 = 1 → (p1 = 2 → ∀ z13 : Int, μ 6 16 = z13 → (z13 = w.2.2.2 1 ∧ 0 ≤ z13 ∧ z13 ≤ 20) → Q z13 μ) ∧ (¬ p1 = 2 → (p1 = 3 → ∀ z18 : Int, μ 6 17 = z18 → (0 ≤ z18 ∧ z18 ≤ 30) → Q z18 μ) ∧ (¬ p1 = 3 → (p1 = 4 → ∀ z23 : Int, μ 21 8 = z23 → (z23 = w.2.2.2 2 ∧ 0 ≤ z23 ∧ z23 ≤ 12) → Q z23 μ) ∧ (¬ p1 = 4 → (p1 = 5 → ∀ z28 : Int, μ 87 10 = z28 → (0 ≤ z28 ∧ z28 ≤ 16 ∧ (z28 = 0 ∨ 0 < w.2.2.2 0)) → Q z28 μ) ∧ (¬ p1 = 5 → (p1 = 6 → ∀ z34 : Int, μ 0 10 = z34 → (0 ≤ z34 ∧ z34 ≤ 1000) → Q z34 μ) ∧ (¬ p1 = 6 → (p1 = 7 → ∀ z39 : Int, μ 32 11 = z39 → ((-1) ≤ z39 ∧ z39 ≤ 2000000000) → Q z39 μ) ∧ (¬ p1 = 7 → (p1 = 8 → ∀ z45 : Int, μ 32 10 = z45 → (0 ≤ z45 ∧ z45 ≤ 800 ∧ (z45 = 0 ∨ 0 < w.2.2.2 1)) → Q z45 μ) ∧ (¬ p1 = 8 → (p1 = 9 → ∀ z51 : Int, μ 32 12 = z51 → ((-2147483648) ≤ z51 ∧ z51 ≤ 2147483647) → Q z51 μ) ∧ (¬ p1 = 9 → (p1 = 10 → ∀ z56 : Int, μ 0 11 = z56 → (0 ≤ z56 ∧ z56 ≤ 20) → Q z56 μ) ∧ (¬ p1 = 10 → (p1 = 11 → ∀ z61 : Int, μ 6 18 = z61 → (0 ≤ z61 ∧ z61 ≤ 2147483647) → Q z61 μ) ∧ (¬ p1 = 11 → Q ((-1) : Int) μ))))))))))))
theorem vc_X11_count_W_7 {p1 : Int} (h0 : p1 = 6) (h1 : ¬ p1 = 0) (h2 : ¬ p1 = 1) (h3 : ¬ p1 = 2) (h4 : ¬ p1 = 3) (h5 : ¬ p1 = 4) (h6 : ¬ p1 = 5) (h7 : (-2147483648) ≤ p1 ∧ p1 ≤ 2147483647) : 6 ≤ p1 ∧ p1 ≤ 6 := by omega
theorem vc_X11_count_W_8 {p1 : Int} (h0 : p1 = 7) (h1 : ¬ p1 = 0) (h2 : ¬ p1 = 1) (h3 : ¬ p1 = 2) (h4 : ¬ p1 = 3) (h5 : ¬ p1 = 4) (h6 : ¬ p1 = 5) (h7 : ¬ p1 = 6) (h8 : (-2147483648) ≤ p1 ∧ p1 ≤ 2147483647) : 7 ≤ p1 ∧ p1 ≤ 7 := by omega
theorem vc_X11_count_W_9 {p1 : Int} (h0 : p1 = 8) (h1 : ¬ p1 = 1) (h2 : ¬ p1 = 2) (h3 : ¬ p1 = 3) (h4 : ¬ p1 = 4) (h5 : ¬ p1 = 5) (h6 : ¬ p1 = 6) (h7 : ¬ p1 = 7) (h8 : (-2147483648) ≤ p1 ∧ p1 ≤ 2147483647) : 8 ≤ p1 ∧ p1 ≤ 8 := by omega
theorem vc_X11_count_W_10 {p1 : Int} (h0 : p1 = 9) (h1 : ¬ p1 = 2) (h2 : ¬ p1 = 3) (h3 : ¬ p1 = 4) (h4 : ¬ p1 = 5) (h5 : ¬ p1 = 6) (h6 : ¬ p1 = 7) (h7 : ¬ p1 = 8) (h8 : (-2147483648) ≤ p1 ∧ p1 ≤ 2147483647) : 9 ≤ p1 ∧ p1 ≤ 9 := by omega
theorem vc_X11_count_W_11 {p1 : Int} (h0 : p1 = 10) (h1 : ¬ p1 = 3) (h2 : ¬ p1 = 4) (h3 : ¬ p1 = 5) (h4 : ¬ p1 = 6) (h5 : ¬ p1 = 7) (h6 : ¬ p1 = 8) (h7 : ¬ p1 = 9) (h8 : (-2147483648) ≤ p1 ∧ p1 ≤ 2147483647) : 10 ≤ p1 ∧ p1 ≤ 10 := by omega
theorem vc_X11_count_W_13 {p1 : Int} (h0 : ¬ p1 = 0) (h1 : ¬ p1 = 1) (h2 : ¬ p1 = 2) (h3 : ¬ p1 = 3) (h4 : ¬ p1 = 4) (h5 : ¬ p1 = 5) (h6 : ¬ p1 = 6) (h7 : ¬ p1 = 7) (h8 : ¬ p1 = 8) (h9 : ¬ p1 = 9) (h10 : ¬ p1 = 10) (h11 : ¬ p1 = 11) (h12 : (-2147483648) ≤ p1 ∧ p1 ≤ 2147483647) : p1 < 0 ∨ 11 < p1 := by omega
set_option maxRecDepth 4000 in
set_option maxHeartbeats 4000000 in
theorem c_X11_count_W {l : Launch} {D : va_G} {c : Nat → ClassId} {H0 : Heap} {sa : Nat × Nat × (Nat → Int32)} {w : mW} {μ : mM} (hw : mWF w) (hT : mT w μ) {p1 : Int} (hp1 : (-2147483648) ≤ p1 ∧ p1 ≤ 2147483647) {Q : Int → mM → Prop} (hQ : WP_X11_count_W w μ p1 Q) : sC (gG l D c H0 sa) mX11_count 1 0 0 [.ref 0, iv p1] (mk w μ) (qP w μ (fun z => ((-2147483648) ≤ z ∧ z ≤ 2147483647) ∧ Q z μ ∧ True)) := by
  refine sC.of rfl (by decide) (le_t rfl) ?_
  refine mr_lvE (lv' := [(0, .ref 0), (1, iv p1)]) rfl ?_
  refine mr_iload_n (pc := 0) (z := p1) dX11_count_0 rfl rfl ?_
  by_cases h1 : p1 = 0
  · refine mr_tableIn (pc := 1) (v := 0) (tgt := 64) dX11_count_1 h1 rfl rfl (by decide) ?_
    have h2 : 0 ≤ p1 ∧ p1 ≤ 0 := (vc_X12_mask_1 h1 hp1)
    refine sv_aload_n (pc := 64) dX11_count_64 rfl rfl ?_
    refine gf_X11_3 (pc := 65) dX11_count_65 wF_X11_26 (A_0 hw) hT ?_
    refine gf_X10_14 (pc := 68) dX11_count_68 wF_X11_92 (A_6 hw) hT fun z3 q4 h5 => ?_
    exact mr_iretP dX11_count_71 rfl (le_t rfl) (le_t rfl) ⟨(rW (c := (-2147483648)) (d := 2147483647) h5 rfl), ((hQ.1 h1) z3 q4 h5), trivial⟩
  by_cases h6 : p1 = 1
  · refine mr_tableIn (pc := 1) (v := 1) (tgt := 72) dX11_count_1 h6 rfl rfl (by decide) ?_
    have h7 : 1 ≤ p1 ∧ p1 ≤ 1 := (vc_X11_isEither_6 h6 h1 hp1)
    refine sv_aload_n (pc := 72) dX11_count_72 rfl rfl ?_
    refine gf_X11_3 (pc := 73) dX11_count_73 wF_X11_26 (A_0 hw) hT ?_
    refine gf_X10_15 (pc := 76) dX11_count_76 wF_X11_98 (A_6 hw) hT fun z8 q9 h10 => ?_
    exact mr_iretP dX11_count_79 rfl (le_t rfl) (le_t rfl) ⟨(rW (c := (-2147483648)) (d := 2147483647) h10.2 rfl), (((hQ.2 h1).1 h6) z8 q9 h10), trivial⟩
  by_cases h11 : p1 = 2
  · refine mr_tableIn (pc := 1) (v := 2) (tgt := 80) dX11_count_1 h11 rfl rfl (by decide) ?_
    have h12 : 2 ≤ p1 ∧ p1 ≤ 2 := (vc_X11_hand_4 h11 h1 h6 hp1)
    refine sv_aload_n (pc := 80) dX11_count_80 rfl rfl ?_
    refine gf_X11_3 (pc := 81) dX11_count_81 wF_X11_26 (A_0 hw) hT ?_
    refine gf_X10_16 (pc := 84) dX11_count_84 wF_X11_112 (A_6 hw) hT fun z13 q14 h15 => ?_
    exact mr_iretP dX11_count_87 rfl (le_t rfl) (le_t rfl) ⟨(rW (c := (-2147483648)) (d := 2147483647) h15.2 rfl), ((((hQ.2 h1).2 h6).1 h11) z13 q14 h15), trivial⟩
  by_cases h16 : p1 = 3
  · refine mr_tableIn (pc := 1) (v := 3) (tgt := 88) dX11_count_1 h16 rfl rfl (by decide) ?_
    have h17 : 3 ≤ p1 ∧ p1 ≤ 3 := (vc_X11_hand_5 h16 h1 h6 h11 hp1)
    refine sv_aload_n (pc := 88) dX11_count_88 rfl rfl ?_
    refine gf_X11_3 (pc := 89) dX11_count_89 wF_X11_26 (A_0 hw) hT ?_
    refine gf_X10_17 (pc := 92) dX11_count_92 wF_X11_188 (A_6 hw) hT fun z18 q19 h20 => ?_
    exact mr_iretP dX11_count_95 rfl (le_t rfl) (le_t rfl) ⟨(rW (c := (-2147483648)) (d := 2147483647) h20 rfl), (((((hQ.2 h1).2 h6).2 h11).1 h16) z18 q19 h20), trivial⟩
  by_cases h21 : p1 = 4
  · refine mr_tableIn (pc := 1) (v := 4) (tgt := 96) dX11_count_1 h21 rfl rfl (by decide) ?_
    have h22 : 4 ≤ p1 ∧ p1 ≤ 4 := (vc_X11_hand_6 h21 h1 h6 h11 h16 hp1)
    refine sv_aload_n (pc := 96) dX11_count_96 rfl rfl ?_
    refine gf_X11_4 (pc := 97) dX11_count_97 wF_X11_35 (A_0 hw) hT ?_
    refine gf_X1_8 (pc := 100) dX11_count_100 wF_X11_205 (A_21 hw) hT fun z23 q24 h25 => ?_
    exact mr_iretP dX11_count_103 rfl (le_t rfl) (le_t rfl) ⟨(rW (c := (-2147483648)) (d := 2147483647) h25.2 rfl), ((((((hQ.2 h1).2 h6).2 h11).2 h16).1 h21) z23 q24 h25), trivial⟩
  by_cases h26 : p1 = 5
  · refine mr_tableIn (pc := 1) (v := 5) (tgt := 104) dX11_count_1 h26 rfl rfl (by decide) ?_
    have h27 : 5 ≤ p1 ∧ p1 ≤ 5 := (vc_X11_hand_7 h26 h1 h6 h11 h16 h21 hp1)
    refine sv_aload_n (pc := 104) dX11_count_104 rfl rfl ?_
    refine gf_X11_8 (pc := 105) dX11_count_105 wF_X11_65 (A_0 hw) hT ?_
    refine gf_X2_10 (pc := 108) dX11_count_108 wF_X11_373 (A_87 hw) hT fun z28 q29 h30 => ?_
    have h31 : 0 ≤ z28 ∧ z28 ≤ 16 := ⟨h30.1, h30.2.1⟩
    exact mr_iretP dX11_count_111 rfl (le_t rfl) (le_t rfl) ⟨(rW (c := (-2147483648)) (d := 2147483647) h31 rfl), (((((((hQ.2 h1).2 h6).2 h11).2 h16).2 h21).1 h26) z28 q29 h30), trivial⟩
  by_cases h32 : p1 = 6
  · refine mr_tableIn (pc := 1) (v := 6) (tgt := 112) dX11_count_1 h32 rfl rfl (by decide) ?_
    have h33 : 6 ≤ p1 ∧ p1 ≤ 6 := (vc_X11_count_W_7 h32 h1 h6 h11 h16 h21 h26 hp1)
    refine sv_aload_n (pc := 112) dX11_count_112 rfl rfl ?_
    refine gf_X11_10 (pc := 113) dX11_count_113 wF_X11_76 (A_0 hw) hT fun z34 q35 h36 => ?_
    exact mr_iretP dX11_count_116 rfl (le_t rfl) (le_t rfl) ⟨(rW (c := (-2147483648)) (d := 2147483647) h36 rfl), ((((((((hQ.2 h1).2 h6).2 h11).2 h16).2 h21).2 h26).1 h32) z34 q35 h36), trivial⟩
  by_cases h37 : p1 = 7
  · refine mr_tableIn (pc := 1) (v := 7) (tgt := 117) dX11_count_1 h37 rfl rfl (by decide) ?_
    have h38 : 7 ≤ p1 ∧ p1 ≤ 7 := (vc_X11_count_W_8 h37 h1 h6 h11 h16 h21 h26 h32 hp1)
    refine sv_aload_n (pc := 117) dX11_count_117 rfl rfl ?_
    refine gf_X11_6 (pc := 118) dX11_count_118 wF_X11_51 (A_0 hw) hT ?_
    refine gf_X8_11 (pc := 121) dX11_count_121 wF_X11_303 (A_32 hw) hT fun z39 q40 h41 => ?_
    exact mr_iretP dX11_count_124 rfl (le_t rfl) (le_t rfl) ⟨(rW (c := (-2147483648)) (d := 2147483647) h41 rfl), (((((((((hQ.2 h1).2 h6).2 h11).2 h16).2 h21).2 h26).2 h32).1 h37) z39 q40 h41), trivial⟩
  have W43 := ((((((((hQ.2 h1).2 h6).2 h11).2 h16).2 h21).2 h26).2 h32).2 h37)
  by_cases h42 : p1 = 8
  · refine mr_tableIn (pc := 1) (v := 8) (tgt := 125) dX11_count_1 h42 rfl rfl (by decide) ?_
    have h44 : 8 ≤ p1 ∧ p1 ≤ 8 := (vc_X11_count_W_9 h42 h6 h11 h16 h21 h26 h32 h37 hp1)
    refine sv_aload_n (pc := 125) dX11_count_125 rfl rfl ?_
    refine gf_X11_6 (pc := 126) dX11_count_126 wF_X11_51 (A_0 hw) hT ?_
    refine gf_X8_10 (pc := 129) dX11_count_129 wF_X11_426 (A_32 hw) hT fun z45 q46 h47 => ?_
    have h48 : 0 ≤ z45 ∧ z45 ≤ 800 := ⟨h47.1, h47.2.1⟩
    exact mr_iretP dX11_count_132 rfl (le_t rfl) (le_t rfl) ⟨(rW (c := (-2147483648)) (d := 2147483647) h48 rfl), ((W43.1 h42) z45 q46 h47), trivial⟩
  by_cases h49 : p1 = 9
  · refine mr_tableIn (pc := 1) (v := 9) (tgt := 133) dX11_count_1 h49 rfl rfl (by decide) ?_
    have h50 : 9 ≤ p1 ∧ p1 ≤ 9 := (vc_X11_count_W_10 h49 h11 h16 h21 h26 h32 h37 h42 hp1)
    refine sv_aload_n (pc := 133) dX11_count_133 rfl rfl ?_
    refine gf_X11_6 (pc := 134) dX11_count_134 wF_X11_51 (A_0 hw) hT ?_
    refine gf_X8_12 (pc := 137) dX11_count_137 wF_X11_429 (A_32 hw) hT fun z51 q52 h53 => ?_
    exact mr_iretP dX11_count_140 rfl (le_t rfl) (le_t rfl) ⟨h53, (((W43.2 h42).1 h49) z51 q52 h53), trivial⟩
  by_cases h54 : p1 = 10
  · refine mr_tableIn (pc := 1) (v := 10) (tgt := 141) dX11_count_1 h54 rfl rfl (by decide) ?_
    have h55 : 10 ≤ p1 ∧ p1 ≤ 10 := (vc_X11_count_W_11 h54 h16 h21 h26 h32 h37 h42 h49 hp1)
    refine sv_aload_n (pc := 141) dX11_count_141 rfl rfl ?_
    refine gf_X11_11 (pc := 142) dX11_count_142 wF_X11_169 (A_0 hw) hT fun z56 q57 h58 => ?_
    exact mr_iretP dX11_count_145 rfl (le_t rfl) (le_t rfl) ⟨(rW (c := (-2147483648)) (d := 2147483647) h58 rfl), ((((W43.2 h42).2 h49).1 h54) z56 q57 h58), trivial⟩
  by_cases h59 : p1 = 11
  · refine mr_tableIn (pc := 1) (v := 11) (tgt := 146) dX11_count_1 h59 rfl rfl (by decide) ?_
    have h60 : 11 ≤ p1 ∧ p1 ≤ 11 := (vc_X1_isSo_W_17 h59 h21 h26 h32 h37 h42 h49 h54 hp1)
    refine sv_aload_n (pc := 146) dX11_count_146 rfl rfl ?_
    refine gf_X11_3 (pc := 147) dX11_count_147 wF_X11_26 (A_0 hw) hT ?_
    refine gf_X10_18 (pc := 150) dX11_count_150 wF_X11_176 (A_6 hw) hT fun z61 q62 h63 => ?_
    exact mr_iretP dX11_count_153 rfl (le_t rfl) (le_t rfl) ⟨(rW (c := (-2147483648)) (d := 2147483647) h63 rfl), (((((W43.2 h42).2 h49).2 h54).1 h59) z61 q62 h63), trivial⟩
  refine mr_tableOut (pc := 1) (tgt := 154) dX11_count_1 hp1 (vc_X11_count_W_13 h1 h6 h11 h16 h21 h26 h32 h37 h42 h49 h54 h59 hp1) (by decide) ?_
  refine mr_iconst (pc := 154) (z := (-1)) dX11_count_154 ?_
  exact mr_iretP dX11_count_155 rfl (le_t rfl) (le_t rfl) ⟨(rW (c := (-2147483648)) (d := 2147483647) (rR (x := (-1))) rfl), ((((W43.2 h42).2 h49).2 h54).2 h59), trivial⟩
def WJ_X12_count_W_2 (μ : mM) (rec1 : (Int × Int) → Prop) (z421 : Int) (z420 : Int) (z518 : Int) : Prop := (0 ≤ z518 ∧ z518 ≤ 1) → ∀ z522 : Int, μ 159 (z420.toNat) = z522 → ((-1) ≤ z522 ∧ z522 ≤ 2000001000) → ((z522 < 0) → ∀ z529 : Int, (-2147483648 ≤ z529 ∧ z529 ≤ 2147483647) → (z529 - (z421 + (z518 + 0))) % 4294967296 = 0 → rec1 (z529, (z420 + 1))) ∧ ((0 ≤ z522) → ∀ z533 : Int, (-2147483648 ≤ z533 ∧ z533 ≤ 2147483647) → (z533 - (z421 + (z518 + 1))) % 4294967296 = 0 → rec1 (z533, (z420 + 1)))
def WL_X12_count_W_1 (μ : mM) (p1 : Int) (Q : Int → mM → Prop) (rec1 : (Int × Int) → Prop) (s : (Int × Int)) : Prop := ∀ z421 : Int, ∀ z420 : Int, s = (z421, z420) → ((-2147483648) ≤ z421 ∧ z421 ≤ 2147483647) → (0 ≤ z420 ∧ z420 ≤ 400) → ((400 ≤ z420) → (p1 = 0 → ∀ z455 : Int, μ 106 2 = z455 → (0 ≤ z455 ∧ z455 ≤ 10) → Q z455 μ) ∧ (¬ p1 = 0 → (p1 = 1 → ∀ z460 : Int, μ 106 5 = z460 → (0 ≤ z460 ∧ z460 ≤ 10) → Q z460 μ) ∧ (¬ p1 = 1 → (p1 = 2 → ∀ z465 : Int, μ 106 6 = z465 → (0 ≤ z465 ∧ z465 ≤ 20) → Q z465 μ) ∧ (¬ p1 = 2 → (p1 = 3 → ∀ z471 : Int, μ 106 18 = z471 → (0 ≤ z471 ∧ z471 ≤ 30) → Q z471 μ) ∧ (¬ p1 = 3 → (p1 = 4 → ∀ z476 : Int, μ 106 39 = z476 → (0 ≤ z476 ∧ z476 ≤ 12) → Q z476 μ) ∧ (¬ p1 = 4 → (p1 = 5 → ∀ z481 : Int, μ 106 109 = z481 → (0 ≤ z481 ∧ z481 ≤ 16) → Q z481 μ) ∧ (¬ p1 = 5 → (p1 = 6 → ∀ z486 : Int, μ 106 1 = z486 → (0 ≤ z486 ∧ z486 ≤ 1000) → Q z486 μ) ∧ (¬ p1 = 6 → (p1 = 7 → ∀ z491 : Int, μ 106 71 = z491 → (0 ≤ z491 ∧ z491 ≤ 2000000000) → Q z491 μ) ∧ (¬ p1 = 7 → (p1 = 8 → Q z421 μ) ∧ (¬ p1 = 8 → (p1 = 9 → ∀ z498 : Int, μ 106 73 = z498 → ((-2147483648) ≤ z498 ∧ z498 ≤ 2147483647) → Q z498 μ) ∧ (¬ p1 = 9 → (p1 = 10 → ∀ z504 : Int, μ 106 15 = z504 → (0 ≤ z504 ∧ z504 ≤ 20) → Q z504 μ) ∧ (¬ p1 = 10 → (p1 = 11 → ∀ z509 : Int, μ 106 17 = z509 → (0 ≤ z509 ∧ z509 ≤ 2147483647) → Q z509 μ) ∧ (¬ p1 = 11 → Q ((-1) : Int) μ))))))))))))) ∧ ((z420 < 400) → ∀ z513 : Int, μ 157 (z420.toNat) = z513 → ((-1) ≤ z513 ∧ z513 ≤ 2000001000) → ((z513 < 0) → (WJ_X12_count_W_2 μ rec1 z421 z420) (0 : Int)) ∧ ((0 ≤ z513) → (WJ_X12_count_W_2 μ rec1 z421 z420) (1 : Int)))
def WP_X12_count_W (w : mW) (μ : mM) (p1 : Int) (Q : Int → mM → Prop) : Prop := loopF (WL_X12_count_W_1 μ p1 Q) False 402 ((0 : Int), (0 : Int))
theorem vc_X12_count_W_2 {z420 : Int} (h0 : 400 ≤ z420) (h1 : 0 ≤ z420 ∧ z420 ≤ 400) : 400 ≤ z420 ∧ z420 ≤ 400 := by omega
theorem vc_X12_count_W_16 {z420 : Int} (h0 : z420 < 400) (h1 : 0 ≤ z420 ∧ z420 ≤ 400) : 0 ≤ z420 ∧ z420 ≤ 399 := by omega
theorem vc_X12_count_W_18 {N z420 : Int} (h0 : (401 - z420) < N + 1) (h1 : z420 < 400) (h2 : 0 ≤ z420 ∧ z420 ≤ 399) : (401 - (z420 + 1)) < N := by omega
set_option maxRecDepth 4000 in
set_option maxHeartbeats 4000000 in
theorem c_X12_count_W {l : Launch} {D : va_G} {c : Nat → ClassId} {H0 : Heap} {sa : Nat × Nat × (Nat → Int32)} {w : mW} {μ : mM} (hw : mWF w) (hT : mT w μ) {p1 : Int} (hp1 : (-2147483648) ≤ p1 ∧ p1 ≤ 2147483647) {Q : Int → mM → Prop} (hQ : WP_X12_count_W w μ p1 Q) : sC (gG l D c H0 sa) mX12_count 1 0 0 [.ref 106, iv p1] (mk w μ) (qP w μ (fun z => ((-2147483648) ≤ z ∧ z ≤ 2147483647) ∧ Q z μ ∧ True)) := by
  refine sC.of rfl (by decide) (le_t rfl) ?_
  refine mr_lvE (lv' := [(0, .ref 106), (1, iv p1)]) rfl ?_
  refine mr_iconst (pc := 0) (z := 0) dX12_count_0 ?_
  refine mr_istore_n (pc := 1) (lv' := [(2, iv 0), (0, .ref 106), (1, iv p1)]) dX12_count_1 rfl (by decide) rfl ?_
  refine mr_iconst (pc := 2) (z := 0) dX12_count_2 ?_
  refine mr_istore_n (pc := 3) (lv' := [(3, iv 0), (2, iv 0), (0, .ref 106), (1, iv p1)]) dX12_count_3 rfl (by decide) rfl ?_
  have L422 : ∀ (nL422 : Nat) (z421 z420 : Int), True → ((-2147483648) ≤ z421 ∧ z421 ≤ 2147483647) → (0 ≤ z420 ∧ z420 ≤ 400) → (401 - z420) < (nL422 : Int) → loopF (WL_X12_count_W_1 μ p1 Q) False nL422 (z421, z420) → sV (gG l D c H0 sa) mX12_count (sRm 1 0 0) (sZ (gG l D c H0 sa) 0 0 (qP w μ (fun z => ((-2147483648) ≤ z ∧ z ≤ 2147483647) ∧ Q z μ ∧ True))) 4 [(0, .ref 106), (1, iv p1), (2, iv z421), (3, iv z420)] [] (mk w μ) 0 0 := by
    intro nL422
    induction nL422 with
    | zero => intro z421 z420 _ h423 h424 h428 W429; exact ((vc_X12_nodeOf_1 h428 h424)).elim
    | succ nL422 ih430 =>
      intro z421 z420 _ h423 h424 h428 W429
      refine mr_iload_n (pc := 4) (z := z420) dX12_count_4 rfl rfl ?_
      refine mr_sipush (pc := 5) (z := 400) dX12_count_5 (by decide) ?_
      refine mr_icmp_ge (pc := 8) (tgt := 49) dX12_count_8 (by decide) (r32 h424 rfl) (r32 (rR (x := 400)) rfl) (fun h451 => ?_) (fun h451 => ?_)
      · have h452 : 400 ≤ z420 ∧ z420 ≤ 400 := (vc_X12_count_W_2 h451 h424)
        refine mr_iload_n (pc := 49) (z := p1) dX12_count_49 rfl rfl ?_
        by_cases h453 : p1 = 0
        · refine mr_tableIn (pc := 50) (v := 0) (tgt := 112) dX12_count_50 h453 rfl rfl (by decide) ?_
          have h454 : 0 ≤ p1 ∧ p1 ≤ 0 := (vc_X12_mask_1 h453 hp1)
          refine sv_aload_n (pc := 112) dX12_count_112 rfl rfl ?_
          refine gf_X12_2 (pc := 113) dX12_count_113 wF_X12_15 (A_106 hw) hT fun z455 q456 h457 => ?_
          exact mr_iretP dX12_count_116 rfl (le_t rfl) (le_t rfl) ⟨(rW (c := (-2147483648)) (d := 2147483647) h457 rfl), ((((W429 z421 z420 rfl h423 h424).1 h451).1 h453) z455 q456 h457), trivial⟩
        by_cases h458 : p1 = 1
        · refine mr_tableIn (pc := 50) (v := 1) (tgt := 117) dX12_count_50 h458 rfl rfl (by decide) ?_
          have h459 : 1 ≤ p1 ∧ p1 ≤ 1 := (vc_X11_isEither_6 h458 h453 hp1)
          refine sv_aload_n (pc := 117) dX12_count_117 rfl rfl ?_
          refine gf_X12_5 (pc := 118) dX12_count_118 wF_X12_34 (A_106 hw) hT fun z460 q461 h462 => ?_
          exact mr_iretP dX12_count_121 rfl (le_t rfl) (le_t rfl) ⟨(rW (c := (-2147483648)) (d := 2147483647) h462 rfl), (((((W429 z421 z420 rfl h423 h424).1 h451).2 h453).1 h458) z460 q461 h462), trivial⟩
        by_cases h463 : p1 = 2
        · refine mr_tableIn (pc := 50) (v := 2) (tgt := 122) dX12_count_50 h463 rfl rfl (by decide) ?_
          have h464 : 2 ≤ p1 ∧ p1 ≤ 2 := (vc_X11_hand_4 h463 h453 h458 hp1)
          refine sv_aload_n (pc := 122) dX12_count_122 rfl rfl ?_
          refine gf_X12_6 (pc := 123) dX12_count_123 wF_X12_37 (A_106 hw) hT fun z465 q466 h467 => ?_
          exact mr_iretP dX12_count_126 rfl (le_t rfl) (le_t rfl) ⟨(rW (c := (-2147483648)) (d := 2147483647) h467 rfl), ((((((W429 z421 z420 rfl h423 h424).1 h451).2 h453).2 h458).1 h463) z465 q466 h467), trivial⟩
        have W469 := (((((W429 z421 z420 rfl h423 h424).1 h451).2 h453).2 h458).2 h463)
        by_cases h468 : p1 = 3
        · refine mr_tableIn (pc := 50) (v := 3) (tgt := 127) dX12_count_50 h468 rfl rfl (by decide) ?_
          have h470 : 3 ≤ p1 ∧ p1 ≤ 3 := (vc_X11_hand_5 h468 h453 h458 h463 hp1)
          refine sv_aload_n (pc := 127) dX12_count_127 rfl rfl ?_
          refine gf_X12_18 (pc := 128) dX12_count_128 wF_X12_95 (A_106 hw) hT fun z471 q472 h473 => ?_
          exact mr_iretP dX12_count_131 rfl (le_t rfl) (le_t rfl) ⟨(rW (c := (-2147483648)) (d := 2147483647) h473 rfl), ((W469.1 h468) z471 q472 h473), trivial⟩
        by_cases h474 : p1 = 4
        · refine mr_tableIn (pc := 50) (v := 4) (tgt := 132) dX12_count_50 h474 rfl rfl (by decide) ?_
          have h475 : 4 ≤ p1 ∧ p1 ≤ 4 := (vc_X11_hand_6 h474 h453 h458 h463 h468 hp1)
          refine sv_aload_n (pc := 132) dX12_count_132 rfl rfl ?_
          refine gf_X12_39 (pc := 133) dX12_count_133 wF_X12_355 (A_106 hw) hT fun z476 q477 h478 => ?_
          exact mr_iretP dX12_count_136 rfl (le_t rfl) (le_t rfl) ⟨(rW (c := (-2147483648)) (d := 2147483647) h478 rfl), (((W469.2 h468).1 h474) z476 q477 h478), trivial⟩
        by_cases h479 : p1 = 5
        · refine mr_tableIn (pc := 50) (v := 5) (tgt := 137) dX12_count_50 h479 rfl rfl (by decide) ?_
          have h480 : 5 ≤ p1 ∧ p1 ≤ 5 := (vc_X11_hand_7 h479 h453 h458 h463 h468 h474 hp1)
          refine sv_aload_n (pc := 137) dX12_count_137 rfl rfl ?_
          refine gf_X12_109 (pc := 138) dX12_count_138 wF_X12_695 (A_106 hw) hT fun z481 q482 h483 => ?_
          exact mr_iretP dX12_count_141 rfl (le_t rfl) (le_t rfl) ⟨(rW (c := (-2147483648)) (d := 2147483647) h483 rfl), ((((W469.2 h468).2 h474).1 h479) z481 q482 h483), trivial⟩
        by_cases h484 : p1 = 6
        · refine mr_tableIn (pc := 50) (v := 6) (tgt := 142) dX12_count_50 h484 rfl rfl (by decide) ?_
          have h485 : 6 ≤ p1 ∧ p1 ≤ 6 := (vc_X11_count_W_7 h484 h453 h458 h463 h468 h474 h479 hp1)
          refine sv_aload_n (pc := 142) dX12_count_142 rfl rfl ?_
          refine gf_X12_1 (pc := 143) dX12_count_143 wF_X12_1 (A_106 hw) hT fun z486 q487 h488 => ?_
          exact mr_iretP dX12_count_146 rfl (le_t rfl) (le_t rfl) ⟨(rW (c := (-2147483648)) (d := 2147483647) h488 rfl), (((((W469.2 h468).2 h474).2 h479).1 h484) z486 q487 h488), trivial⟩
        by_cases h489 : p1 = 7
        · refine mr_tableIn (pc := 50) (v := 7) (tgt := 147) dX12_count_50 h489 rfl rfl (by decide) ?_
          have h490 : 7 ≤ p1 ∧ p1 ≤ 7 := (vc_X11_count_W_8 h489 h453 h458 h463 h468 h474 h479 h484 hp1)
          refine sv_aload_n (pc := 147) dX12_count_147 rfl rfl ?_
          refine gf_X12_71 (pc := 148) dX12_count_148 wF_X12_591 (A_106 hw) hT fun z491 q492 h493 => ?_
          exact mr_iretP dX12_count_151 rfl (le_t rfl) (le_t rfl) ⟨(rW (c := (-2147483648)) (d := 2147483647) h493 rfl), ((((((W469.2 h468).2 h474).2 h479).2 h484).1 h489) z491 q492 h493), trivial⟩
        by_cases h494 : p1 = 8
        · refine mr_tableIn (pc := 50) (v := 8) (tgt := 152) dX12_count_50 h494 rfl rfl (by decide) ?_
          have h495 : 8 ≤ p1 ∧ p1 ≤ 8 := (vc_X11_count_W_9 h494 h458 h463 h468 h474 h479 h484 h489 hp1)
          refine mr_iload_n (pc := 152) (z := z421) dX12_count_152 rfl rfl ?_
          exact mr_iretP dX12_count_153 rfl (le_t rfl) (le_t rfl) ⟨h423, ((((((W469.2 h468).2 h474).2 h479).2 h484).2 h489).1 h494), trivial⟩
        by_cases h496 : p1 = 9
        · refine mr_tableIn (pc := 50) (v := 9) (tgt := 154) dX12_count_50 h496 rfl rfl (by decide) ?_
          have h497 : 9 ≤ p1 ∧ p1 ≤ 9 := (vc_X11_count_W_10 h496 h463 h468 h474 h479 h484 h489 h494 hp1)
          refine sv_aload_n (pc := 154) dX12_count_154 rfl rfl ?_
          refine gf_X12_73 (pc := 155) dX12_count_155 wF_X12_610 (A_106 hw) hT fun z498 q499 h500 => ?_
          exact mr_iretP dX12_count_158 rfl (le_t rfl) (le_t rfl) ⟨h500, ((((((((W469.2 h468).2 h474).2 h479).2 h484).2 h489).2 h494).1 h496) z498 q499 h500), trivial⟩
        have W502 := (((((((W469.2 h468).2 h474).2 h479).2 h484).2 h489).2 h494).2 h496)
        by_cases h501 : p1 = 10
        · refine mr_tableIn (pc := 50) (v := 10) (tgt := 159) dX12_count_50 h501 rfl rfl (by decide) ?_
          have h503 : 10 ≤ p1 ∧ p1 ≤ 10 := (vc_X11_count_W_11 h501 h468 h474 h479 h484 h489 h494 h496 hp1)
          refine sv_aload_n (pc := 159) dX12_count_159 rfl rfl ?_
          refine gf_X12_15 (pc := 160) dX12_count_160 wF_X12_79 (A_106 hw) hT fun z504 q505 h506 => ?_
          exact mr_iretP dX12_count_163 rfl (le_t rfl) (le_t rfl) ⟨(rW (c := (-2147483648)) (d := 2147483647) h506 rfl), ((W502.1 h501) z504 q505 h506), trivial⟩
        by_cases h507 : p1 = 11
        · refine mr_tableIn (pc := 50) (v := 11) (tgt := 164) dX12_count_50 h507 rfl rfl (by decide) ?_
          have h508 : 11 ≤ p1 ∧ p1 ≤ 11 := (vc_X1_isSo_W_17 h507 h474 h479 h484 h489 h494 h496 h501 hp1)
          refine sv_aload_n (pc := 164) dX12_count_164 rfl rfl ?_
          refine gf_X12_17 (pc := 165) dX12_count_165 wF_X12_85 (A_106 hw) hT fun z509 q510 h511 => ?_
          exact mr_iretP dX12_count_168 rfl (le_t rfl) (le_t rfl) ⟨(rW (c := (-2147483648)) (d := 2147483647) h511 rfl), (((W502.2 h501).1 h507) z509 q510 h511), trivial⟩
        refine mr_tableOut (pc := 50) (tgt := 169) dX12_count_50 hp1 (vc_X11_count_W_13 h453 h458 h463 h468 h474 h479 h484 h489 h494 h496 h501 h507 hp1) (by decide) ?_
        refine mr_iconst (pc := 169) (z := (-1)) dX12_count_169 ?_
        exact mr_iretP dX12_count_170 rfl (le_t rfl) (le_t rfl) ⟨(rW (c := (-2147483648)) (d := 2147483647) (rR (x := (-1))) rfl), ((W502.2 h501).2 h507), trivial⟩
      have h512 : 0 ≤ z420 ∧ z420 ≤ 399 := (vc_X12_count_W_16 h451 h424)
      refine mr_iload_n (pc := 11) (z := z421) dX12_count_11 rfl rfl ?_
      refine sv_aload_n (pc := 12) dX12_count_12 rfl rfl ?_
      refine gf_X12_77 (pc := 13) dX12_count_13 wF_X12_433 (A_106 hw) hT ?_
      refine mr_iload_n (pc := 16) (z := z420) dX12_count_16 rfl rfl ?_
      refine la_157 (pc := 17) dX12_count_17 (A_157 hw) hT (rIx (n := 400) h512 rfl) fun z513 q514 h515 => ?_
      have J520 : ∀ (z518 : Int), ((0 ≤ z518 ∧ z518 ≤ 1)) → ((WJ_X12_count_W_2 μ (loopF (WL_X12_count_W_1 μ p1 Q) False nL422) z421 z420) z518) → sV (gG l D c H0 sa) mX12_count (sRm 1 0 0) (sZ (gG l D c H0 sa) 0 0 (qP w μ (fun z => ((-2147483648) ≤ z ∧ z ≤ 2147483647) ∧ Q z μ ∧ True))) 26 [(0, .ref 106), (1, iv p1), (3, iv z420)] [iv z518, iv z421] (mk w μ) 0 0 := by
        intro z518 h519 W521
        refine sv_aload_n (pc := 26) dX12_count_26 rfl rfl ?_
        refine gf_X12_79 (pc := 27) dX12_count_27 wF_X12_439 (A_106 hw) hT ?_
        refine mr_iload_n (pc := 30) (z := z420) dX12_count_30 rfl rfl ?_
        refine la_159 (pc := 31) dX12_count_31 (A_159 hw) hT (rIx (n := 400) h512 rfl) fun z522 q523 h524 => ?_
        refine mr_if_lt (pc := 32) (tgt := 39) dX12_count_32 (by decide) (r32 h524 rfl) (fun h527 => ?_) (fun h527 => ?_)
        · have h528 : (-1) ≤ z522 ∧ z522 ≤ (-1) := (vc_X12_say_W_35 h527 h524)
          refine mr_iconst (pc := 39) (z := 0) dX12_count_39 ?_
          refine mr_iadd (pc := 40) (x := z518) (y := 0) dX12_count_40 ?_
          refine mr_iadd (pc := 41) (x := z421) (y := (z518 + 0)) dX12_count_41 ?_
          refine mr_wrapF fun z529 h530 h531 => ?_
          refine mr_istore_n (pc := 42) (lv' := [(2, iv z529), (0, .ref 106), (1, iv p1), (3, iv z420)]) dX12_count_42 rfl (by decide) rfl ?_
          refine mr_iinc (pc := 43) (lv' := [(3, iv (z420 + 1)), (2, iv z529), (0, .ref 106), (1, iv p1)]) dX12_count_43 rfl (by decide) rfl ?_
          refine sv_goto (pc := 46) (tgt := 4) dX12_count_46 (by decide) ?_
          refine mr_lvS (lv' := [(0, .ref 106), (1, iv p1), (2, iv z529), (3, iv (z420 + 1))]) (List.forall_mem_cons.mpr ⟨rfl, List.forall_mem_cons.mpr ⟨rfl, List.forall_mem_cons.mpr ⟨rfl, List.forall_mem_cons.mpr ⟨rfl, fun _ h => absurd h List.not_mem_nil⟩⟩⟩⟩) ?_
          exact ih430 z529 (z420 + 1) trivial h530 (rW (c := 0) (d := 400) (rAdd (e := 1) (f := 400) h512 (rR (x := 1)) rfl) rfl) (vc_X12_count_W_18 (nS h428) h451 h512) ((((W521 h519) z522 q523 h524).1 h527) z529 h530 h531)
        have h532 : 0 ≤ z522 ∧ z522 ≤ 2000001000 := (vc_X12_say_W_34 h527 h524)
        refine mr_iconst (pc := 35) (z := 1) dX12_count_35 ?_
        refine sv_goto (pc := 36) (tgt := 40) dX12_count_36 (by decide) ?_
        refine mr_iadd (pc := 40) (x := z518) (y := 1) dX12_count_40 ?_
        refine mr_iadd (pc := 41) (x := z421) (y := (z518 + 1)) dX12_count_41 ?_
        refine mr_wrapF fun z533 h534 h535 => ?_
        refine mr_istore_n (pc := 42) (lv' := [(2, iv z533), (0, .ref 106), (1, iv p1), (3, iv z420)]) dX12_count_42 rfl (by decide) rfl ?_
        refine mr_iinc (pc := 43) (lv' := [(3, iv (z420 + 1)), (2, iv z533), (0, .ref 106), (1, iv p1)]) dX12_count_43 rfl (by decide) rfl ?_
        refine sv_goto (pc := 46) (tgt := 4) dX12_count_46 (by decide) ?_
        refine mr_lvS (lv' := [(0, .ref 106), (1, iv p1), (2, iv z533), (3, iv (z420 + 1))]) (List.forall_mem_cons.mpr ⟨rfl, List.forall_mem_cons.mpr ⟨rfl, List.forall_mem_cons.mpr ⟨rfl, List.forall_mem_cons.mpr ⟨rfl, fun _ h => absurd h List.not_mem_nil⟩⟩⟩⟩) ?_
        exact ih430 z533 (z420 + 1) trivial h534 (rW (c := 0) (d := 400) (rAdd (e := 1) (f := 400) h512 (rR (x := 1)) rfl) rfl) (vc_X12_count_W_18 (nS h428) h451 h512) ((((W521 h519) z522 q523 h524).2 h527) z533 h534 h535)
      refine mr_if_lt (pc := 18) (tgt := 25) dX12_count_18 (by decide) (r32 h515 rfl) (fun h536 => ?_) (fun h536 => ?_)
      · have h537 : (-1) ≤ z513 ∧ z513 ≤ (-1) := (vc_X12_say_W_35 h536 h515)
        refine mr_iconst (pc := 25) (z := 0) dX12_count_25 ?_
        refine mr_lvS (lv' := [(0, .ref 106), (1, iv p1), (3, iv z420)]) (List.forall_mem_cons.mpr ⟨rfl, List.forall_mem_cons.mpr ⟨rfl, List.forall_mem_cons.mpr ⟨rfl, fun _ h => absurd h List.not_mem_nil⟩⟩⟩) ?_
        exact J520 0 (rW (c := 0) (d := 1) (rR (x := 0)) rfl) ((((W429 z421 z420 rfl h423 h424).2 h451) z513 q514 h515).1 h536)
      have h538 : 0 ≤ z513 ∧ z513 ≤ 2000001000 := (vc_X12_say_W_34 h536 h515)
      refine mr_iconst (pc := 21) (z := 1) dX12_count_21 ?_
      refine sv_goto (pc := 22) (tgt := 26) dX12_count_22 (by decide) ?_
      refine mr_lvS (lv' := [(0, .ref 106), (1, iv p1), (3, iv z420)]) (List.forall_mem_cons.mpr ⟨rfl, List.forall_mem_cons.mpr ⟨rfl, List.forall_mem_cons.mpr ⟨rfl, fun _ h => absurd h List.not_mem_nil⟩⟩⟩) ?_
      exact J520 1 (rW (c := 0) (d := 1) (rR (x := 1)) rfl) ((((W429 z421 z420 rfl h423 h424).2 h451) z513 q514 h515).2 h536)
  refine mr_lvS (lv' := [(0, .ref 106), (1, iv p1), (2, iv 0), (3, iv 0)]) (List.forall_mem_cons.mpr ⟨rfl, List.forall_mem_cons.mpr ⟨rfl, List.forall_mem_cons.mpr ⟨rfl, List.forall_mem_cons.mpr ⟨rfl, fun _ h => absurd h List.not_mem_nil⟩⟩⟩⟩) ?_
  exact L422 402 0 0 trivial (rW (c := (-2147483648)) (d := 2147483647) (rR (x := 0)) rfl) (rW (c := 0) (d := 400) (rR (x := 0)) rfl) vc_X12_nodeOf_7 hQ
def WP_X2_addDemand_W (w : mW) (μ : mM) (p1 : Int) (p2 : Int) (p3 : Int) (Q : Int → mM → Prop) : Prop := ∀ f_d : Int, μ 87 10 = f_d → (0 ≤ f_d ∧ f_d ≤ 16 ∧ (f_d = 0 ∨ 0 < w.2.2.2 0)) → ∀ μ39 : mM, mU μ 90 (f_d.toNat) p1 μ39 → mT w μ39 → ∀ μ42 : mM, mU μ39 91 (f_d.toNat) p2 μ42 → mT w μ42 → ∀ μ45 : mM, mU μ42 92 (f_d.toNat) p3 μ45 → mT w μ45 → ∀ μ48 : mM, mU μ45 87 (10) (f_d + 1) μ48 → mT w μ48 → Q ((f_d + 1) - 1) μ48
theorem vc_X2_addDemand_W_1 {f_d n0 : Int} (h0 : f_d ≤ 15) (h1 : (f_d = 0 ∨ 0 < n0)) (h2 : 0 ≤ f_d ∧ f_d ≤ 16) : 0 ≤ f_d ∧ f_d ≤ 15 := by omega
theorem vc_X2_addDemand_W_2 {f_d n0 p1 : Int} (h0 : (f_d = 0 ∨ 0 < n0)) (h1 : p1 < n0) (h2 : f_d ≤ 15) (h3 : 0 ≤ f_d ∧ f_d ≤ 15) (h4 : 0 ≤ p1 ∧ p1 ≤ 9) : 0 ≤ p1 ∧ p1 ≤ 9 ∧ (p1 = 0 ∨ p1 < n0) := by omega
theorem vc_X2_addDemand_W_3 {f_d n0 p1 : Int} (h0 : (f_d = 0 ∨ 0 < n0)) (h1 : p1 < n0) (h2 : f_d ≤ 15) (h3 : 0 ≤ f_d ∧ f_d ≤ 15) (h4 : 0 ≤ p1 ∧ p1 ≤ 9) : 0 ≤ (f_d + 1) ∧ (f_d + 1) ≤ 16 ∧ ((f_d + 1) = 0 ∨ 0 < n0) := by omega
set_option maxRecDepth 4000 in
set_option maxHeartbeats 4000000 in
theorem c_X2_addDemand_W {l : Launch} {D : va_G} {c : Nat → ClassId} {H0 : Heap} {sa : Nat × Nat × (Nat → Int32)} {w : mW} {μ : mM} (hw : mWF w) (hT : mT w μ) {p1 : Int} (hp1 : 0 ≤ p1 ∧ p1 ≤ 9) {p2 : Int} (hp2 : (-2147483648) ≤ p2 ∧ p2 ≤ 2147483647) {p3 : Int} (hp3 : (-2147483648) ≤ p3 ∧ p3 ≤ 2147483647) {f_d : Int} (q_f_d : μ 87 10 = f_d) (hq0 : p1 < w.2.2.2 0) (hq1 : f_d ≤ 15) {Q : Int → mM → Prop} (hQ : WP_X2_addDemand_W w μ p1 p2 p3 Q) : sC (gG l D c H0 sa) mX2_addDemand 1 0 0 [.ref 87, iv p1, iv p2, iv p3] (mk w μ) (qI w [87010, 90999, 91999, 92999] μ (fun z μ1 => ((-2147483648) ≤ z ∧ z ≤ 2147483647) ∧ Q z μ1 ∧ True)) := by
  refine sC.of rfl (by decide) (le_t rfl) ?_
  have ht_f_d : (0 ≤ f_d ∧ f_d ≤ 16 ∧ (f_d = 0 ∨ 0 < w.2.2.2 0)) := by rw [← q_f_d]; exact hT 87 87 (A_87 hw) 10
  have h1 : 0 ≤ f_d ∧ f_d ≤ 16 := ⟨ht_f_d.1, ht_f_d.2.1⟩
  have h2 : 0 ≤ f_d ∧ f_d ≤ 15 := (vc_X2_addDemand_W_1 hq1 ht_f_d.2.2 h1)
  refine mr_lvE (lv' := [(0, .ref 87), (1, iv p1), (2, iv p2), (3, iv p3)]) rfl ?_
  refine sv_aload_n (pc := 0) dX2_addDemand_0 rfl rfl ?_
  refine gf_X2_2 (pc := 1) dX2_addDemand_1 wF_X2_22 (A_87 hw) hT ?_
  refine sv_aload_n (pc := 4) dX2_addDemand_4 rfl rfl ?_
  refine gk_X2_10 (pc := 5) dX2_addDemand_5 wF_X2_95 (A_87 hw) q_f_d ?_
  refine mr_iload_n (pc := 8) (z := p1) dX2_addDemand_8 rfl rfl ?_
  refine ss_90 (pc := 9) dX2_addDemand_9 (A_90 hw) hT (rIx (n := 16) h2 rfl) (vc_X2_addDemand_W_2 ht_f_d.2.2 hq0 hq1 h2 hp1) fun μ39 u40 T41 => ?_
  refine sv_aload_n (pc := 10) dX2_addDemand_10 rfl rfl ?_
  refine gf_X2_3 (pc := 11) dX2_addDemand_11 wF_X2_25 (A_87 hw) T41 ?_
  refine sv_aload_n (pc := 14) dX2_addDemand_14 rfl rfl ?_
  refine gk_X2_10 (pc := 15) dX2_addDemand_15 wF_X2_95 (A_87 hw) (u40.f (Or.inl (mAt.ne (A_90 hw) (A_87 hw) rfl)) q_f_d) ?_
  refine mr_iload_n (pc := 18) (z := p2) dX2_addDemand_18 rfl rfl ?_
  refine ss_91 (pc := 19) dX2_addDemand_19 (A_91 hw) T41 (rIx (n := 16) h2 rfl) hp2 fun μ42 u43 T44 => ?_
  refine sv_aload_n (pc := 20) dX2_addDemand_20 rfl rfl ?_
  refine gf_X2_4 (pc := 21) dX2_addDemand_21 wF_X2_28 (A_87 hw) T44 ?_
  refine sv_aload_n (pc := 24) dX2_addDemand_24 rfl rfl ?_
  refine gk_X2_10 (pc := 25) dX2_addDemand_25 wF_X2_95 (A_87 hw) (u43.f (Or.inl (mAt.ne (A_91 hw) (A_87 hw) rfl)) (u40.f (Or.inl (mAt.ne (A_90 hw) (A_87 hw) rfl)) q_f_d)) ?_
  refine mr_iload_n (pc := 28) (z := p3) dX2_addDemand_28 rfl rfl ?_
  refine ss_92 (pc := 29) dX2_addDemand_29 (A_92 hw) T44 (rIx (n := 16) h2 rfl) hp3 fun μ45 u46 T47 => ?_
  refine sv_aload_n (pc := 30) dX2_addDemand_30 rfl rfl ?_
  refine sv_dup (pc := 31) dX2_addDemand_31 rfl ?_
  refine gk_X2_10 (pc := 32) dX2_addDemand_32 wF_X2_95 (A_87 hw) (u46.f (Or.inl (mAt.ne (A_92 hw) (A_87 hw) rfl)) (u43.f (Or.inl (mAt.ne (A_91 hw) (A_87 hw) rfl)) (u40.f (Or.inl (mAt.ne (A_90 hw) (A_87 hw) rfl)) q_f_d))) ?_
  refine mr_iconst (pc := 35) (z := 1) dX2_addDemand_35 ?_
  refine mr_iadd (pc := 36) (x := f_d) (y := 1) dX2_addDemand_36 ?_
  refine pf_X2_10 (pc := 37) dX2_addDemand_37 wF_X2_95 (A_87 hw) T47 (vc_X2_addDemand_W_3 ht_f_d.2.2 hq0 hq1 h2 hp1) fun μ48 u49 T50 => ?_
  refine sv_aload_n (pc := 40) dX2_addDemand_40 rfl rfl ?_
  refine gk_X2_10 (pc := 41) dX2_addDemand_41 wF_X2_95 (A_87 hw) u49.1 ?_
  refine mr_iconst (pc := 44) (z := 1) dX2_addDemand_44 ?_
  refine mr_isub (pc := 45) (x := (f_d + 1)) (y := 1) dX2_addDemand_45 ?_
  exact mr_iret dX2_addDemand_46 rfl (le_t rfl) (le_t rfl) T50 (mF.up (mF.up (mF.up (mF.up mF.refl (A_90 hw) u40 rfl) (A_91 hw) u43 rfl) (A_92 hw) u46 rfl) (A_87 hw) u49 rfl) ⟨(rW (c := (-2147483648)) (d := 2147483647) (rSub (e := 0) (f := 15) (rAdd (e := 1) (f := 16) h2 (rR (x := 1)) rfl) (rR (x := 1)) rfl) rfl), (((((hQ f_d q_f_d ht_f_d) μ39 u40 T41) μ42 u43 T44) μ45 u46 T47) μ48 u49 T50), trivial⟩
def WP_X11_demand_W (w : mW) (μ : mM) (p1 : Int) (p2 : Int) (p3 : Int) (Q : Int → mM → Prop) : Prop := ∀ z1 : Int, μ 6 15 = z1 → (z1 = w.2.2.2 0 ∧ 0 ≤ z1 ∧ z1 ≤ 10) → WP_X11_isDomain_W w μ p1 (fun z8 _ => (0 ≤ z8 ∧ z8 ≤ 1) → ((z8 = 0) → Q ((-1) : Int) μ) ∧ ((¬ z8 = 0) → ((p3 < 1) → Q ((-1) : Int) μ) ∧ ((1 ≤ p3) → ((p3 ≤ 1000000) → ∀ z21 : Int, μ 87 10 = z21 → (0 ≤ z21 ∧ z21 ≤ 16 ∧ (z21 = 0 ∨ 0 < w.2.2.2 0)) → ((z21 < 16) → WP_X2_addDemand_W w μ p1 p2 p3 (fun z31 μ27 => mT w μ27 → mF [87010, 90999, 91999, 92999] w μ μ27 → ((-2147483648) ≤ z31 ∧ z31 ≤ 2147483647) → Q z31 μ27)) ∧ ((16 ≤ z21) → Q ((-3) : Int) μ)) ∧ ((1000000 < p3) → Q ((-1) : Int) μ))))
theorem vc_X11_demand_W_9 {p3 : Int} (h0 : p3 ≤ 1000000) (h1 : 1 ≤ p3) (h2 : 1 ≤ p3 ∧ p3 ≤ 2147483647) : 1 ≤ p3 ∧ p3 ≤ 1000000 := by omega
theorem vc_X11_demand_W_10 {n0 z21 : Int} (h0 : z21 < 16) (h1 : (z21 = 0 ∨ 0 < n0)) (h2 : 0 ≤ z21 ∧ z21 ≤ 16) : 0 ≤ z21 ∧ z21 ≤ 15 := by omega
theorem vc_X11_demand_W_11 {n0 p1 z1 z21 z8 : Int} (h0 : z1 = n0) (h1 : (z8 = 1 → 0 ≤ p1 ∧ p1 < z1)) (h2 : (z8 = 0 → p1 < 0 ∨ z1 ≤ p1)) (h3 : 0 ≤ p1 ∧ p1 < z1) (h4 : (z21 = 0 ∨ 0 < n0)) (h5 : ¬ z8 = 0) (h6 : z21 < 16) (h7 : 0 ≤ p1 ∧ p1 ≤ 9) (h8 : 1 ≤ z1 ∧ z1 ≤ 10) (h9 : 0 ≤ z21 ∧ z21 ≤ 15) (h10 : 1 ≤ z8 ∧ z8 ≤ 1) : p1 < n0 := by omega
theorem vc_X11_demand_W_12 {n0 z1 z21 : Int} (h0 : (z21 = 0 ∨ 0 < n0)) (h1 : z21 < 16) (h2 : z1 = n0) (h3 : 1 ≤ z1 ∧ z1 ≤ 10) (h4 : 0 ≤ z21 ∧ z21 ≤ 15) : z21 ≤ 15 := by omega
theorem vc_X11_demand_W_13 {n0 z21 : Int} (h0 : 16 ≤ z21) (h1 : (z21 = 0 ∨ 0 < n0)) (h2 : 0 ≤ z21 ∧ z21 ≤ 16) : 16 ≤ z21 ∧ z21 ≤ 16 := by omega
theorem vc_X11_demand_W_14 {p3 : Int} (h0 : 1000000 < p3) (h1 : 1 ≤ p3) (h2 : 1 ≤ p3 ∧ p3 ≤ 2147483647) : 1000001 ≤ p3 ∧ p3 ≤ 2147483647 := by omega
set_option maxRecDepth 4000 in
set_option maxHeartbeats 4000000 in
theorem c_X11_demand_W {l : Launch} {D : va_G} {c : Nat → ClassId} {H0 : Heap} {sa : Nat × Nat × (Nat → Int32)} {w : mW} {μ : mM} (hw : mWF w) (hT : mT w μ) {p1 : Int} (hp1 : (-2147483648) ≤ p1 ∧ p1 ≤ 2147483647) {p2 : Int} (hp2 : (-2147483648) ≤ p2 ∧ p2 ≤ 2147483647) {p3 : Int} (hp3 : (-2147483648) ≤ p3 ∧ p3 ≤ 2147483647) {Q : Int → mM → Prop} (hQ : WP_X11_demand_W w μ p1 p2 p3 Q) : sC (gG l D c H0 sa) mX11_demand 2 0 0 [.ref 0, iv p1, iv p2, iv p3] (mk w μ) (qI w [87010, 90999, 91999, 92999] μ (fun z μ1 => ((-2147483648) ≤ z ∧ z ≤ 2147483647) ∧ Q z μ1 ∧ True)) := by
  refine sC.of rfl (by decide) (le_t rfl) ?_
  refine mr_lvE (lv' := [(0, .ref 0), (1, iv p1), (2, iv p2), (3, iv p3)]) rfl ?_
  refine sv_aload_n (pc := 0) dX11_demand_0 rfl rfl ?_
  refine mr_iload_n (pc := 1) (z := p1) dX11_demand_1 rfl rfl ?_
  obtain ⟨z1, q2⟩ : ∃ z, μ 6 15 = z := ⟨_, rfl⟩
  have h3 : (z1 = w.2.2.2 0 ∧ 0 ≤ z1 ∧ z1 ≤ 10) := by rw [← q2]; exact hT 6 6 (A_6 hw) 15
  refine mr_cVP (pc := 2) (c_X11_isDomain_W hw hT hp1 q2 (hQ z1 q2 h3)) (gOk _ _ _ _ _) dX11_demand_2 (tX11_isDomain _ _ _ _ _) ⟨wV_X11_isDomain, wL_X11_isDomain⟩ wM_X11_105 (gCX11 _ _ _ _ _) rfl (A_0 hw) rfl ⟨le_t rfl, le_t rfl⟩ ⟨le_t rfl, le_t rfl⟩ rfl (le_t rfl) fun z8 h7 => ?_
  refine mr_if_eq (pc := 5) (tgt := 19) dX11_demand_5 (by decide) (r32 h7.1 rfl) (fun h9 => ?_) (fun h9 => ?_)
  · have h10 : 0 ≤ z8 ∧ z8 ≤ 0 := (vc_X12_write_78 h9 h7.2.1 h7.2.2.1 hp1 h3.2 h7.1)
    have h11 : p1 < 0 ∨ z1 ≤ p1 := (h7.2.2.1 (vc_X11_letter_2 h7.2.1 h7.2.2.1 h9 h3.1 hp1 h3.2 h10))
    refine mr_iconst (pc := 19) (z := (-1)) dX11_demand_19 ?_
    exact mr_iret dX11_demand_20 rfl (le_t rfl) (le_t rfl) hT mF.refl ⟨(rW (c := (-2147483648)) (d := 2147483647) (rR (x := (-1))) rfl), ((h7.2.2.2.1 h7.1).1 h9), trivial⟩
  have h12 : 1 ≤ z8 ∧ z8 ≤ 1 := (vc_X12_write_12 h9 h7.2.1 h7.2.2.1 hp1 h3.2 h7.1)
  have h13 : 0 ≤ p1 ∧ p1 < z1 := (h7.2.1 (vc_X11_letter_4 h7.2.1 h7.2.2.1 h9 h3.1 hp1 h3.2 h12))
  have h14 : 0 ≤ p1 ∧ p1 ≤ 9 := (vc_X11_letter_5 h13 h3.1 h7.2.1 h7.2.2.1 hp1 h3.2 h12)
  have h15 : 1 ≤ z1 ∧ z1 ≤ 10 := (vc_X11_letter_6 h13 h3.1 h7.2.1 h7.2.2.1 h14 h3.2 h12)
  refine mr_iload_n (pc := 8) (z := p3) dX11_demand_8 rfl rfl ?_
  refine mr_iconst (pc := 9) (z := 1) dX11_demand_9 ?_
  refine mr_icmp_lt (pc := 10) (tgt := 19) dX11_demand_10 (by decide) hp3 (r32 (rR (x := 1)) rfl) (fun h16 => ?_) (fun h16 => ?_)
  · have h17 : (-2147483648) ≤ p3 ∧ p3 ≤ 0 := (vc_X11_go_W_1 h16 hp3)
    refine mr_iconst (pc := 19) (z := (-1)) dX11_demand_19 ?_
    exact mr_iret dX11_demand_20 rfl (le_t rfl) (le_t rfl) hT mF.refl ⟨(rW (c := (-2147483648)) (d := 2147483647) (rR (x := (-1))) rfl), (((h7.2.2.2.1 h7.1).2 h9).1 h16), trivial⟩
  have h18 : 1 ≤ p3 ∧ p3 ≤ 2147483647 := (vc_X11_go_W_2 h16 hp3)
  refine mr_iload_n (pc := 13) (z := p3) dX11_demand_13 rfl rfl ?_
  refine mr_ldc (pc := 14) (z := 1000000) dX11_demand_14 wG_X11_226 (by decide) ?_
  refine mr_icmp_le (pc := 16) (tgt := 21) dX11_demand_16 (by decide) (r32 h18 rfl) (r32 (rR (x := 1000000)) rfl) (fun h19 => ?_) (fun h19 => ?_)
  · have h20 : 1 ≤ p3 ∧ p3 ≤ 1000000 := (vc_X11_demand_W_9 h19 h16 h18)
    refine sv_aload_n (pc := 21) dX11_demand_21 rfl rfl ?_
    refine gf_X11_8 (pc := 22) dX11_demand_22 wF_X11_65 (A_0 hw) hT ?_
    refine gf_X2_10 (pc := 25) dX11_demand_25 wF_X11_373 (A_87 hw) hT fun z21 q22 h23 => ?_
    have h24 : 0 ≤ z21 ∧ z21 ≤ 16 := ⟨h23.1, h23.2.1⟩
    refine mr_bipush (pc := 28) (z := 16) dX11_demand_28 (by decide) ?_
    refine mr_icmp_lt (pc := 30) (tgt := 36) dX11_demand_30 (by decide) (r32 h24 rfl) (r32 (rR (x := 16)) rfl) (fun h25 => ?_) (fun h25 => ?_)
    · have h26 : 0 ≤ z21 ∧ z21 ≤ 15 := (vc_X11_demand_W_10 h25 h23.2.2 h24)
      refine sv_aload_n (pc := 36) dX11_demand_36 rfl rfl ?_
      refine gf_X11_8 (pc := 37) dX11_demand_37 wF_X11_65 (A_0 hw) hT ?_
      refine mr_iload_n (pc := 40) (z := p1) dX11_demand_40 rfl rfl ?_
      refine mr_iload_n (pc := 41) (z := p2) dX11_demand_41 rfl rfl ?_
      refine mr_iload_n (pc := 42) (z := p3) dX11_demand_42 rfl rfl ?_
      refine mr_cVI (pc := 43) (c_X2_addDemand_W hw hT h14 hp2 (rW (c := (-2147483648)) (d := 2147483647) h20 rfl) q22 (vc_X11_demand_W_11 h3.1 h7.2.1 h7.2.2.1 h13 h23.2.2 h9 h25 h14 h15 h26 h12) (vc_X11_demand_W_12 h23.2.2 h25 h3.1 h15 h26) ((((((h7.2.2.2.1 h7.1).2 h9).2 h16).1 h19) z21 q22 h23).1 h25)) (gOk _ _ _ _ _) dX11_demand_43 (tX2_addDemand _ _ _ _ _) ⟨wV_X2_addDemand, wL_X2_addDemand⟩ wM_X11_376 (gCX2 _ _ _ _ _) rfl (A_87 hw) rfl ⟨le_t rfl, le_t rfl⟩ ⟨le_t rfl, le_t rfl⟩ rfl (le_t rfl) fun z31 μ27 T28 F29 h30 => ?_
      exact mr_iret dX11_demand_46 rfl (le_t rfl) (le_t rfl) T28 (mF.call mF.refl F29 rfl) ⟨h30.1, ((h30.2.1 T28 F29) h30.1), trivial⟩
    have h32 : 16 ≤ z21 ∧ z21 ≤ 16 := (vc_X11_demand_W_13 h25 h23.2.2 h24)
    refine mr_bipush (pc := 33) (z := (-3)) dX11_demand_33 (by decide) ?_
    exact mr_iret dX11_demand_35 rfl (le_t rfl) (le_t rfl) hT mF.refl ⟨(rW (c := (-2147483648)) (d := 2147483647) (rR (x := (-3))) rfl), ((((((h7.2.2.2.1 h7.1).2 h9).2 h16).1 h19) z21 q22 h23).2 h25), trivial⟩
  have h33 : 1000001 ≤ p3 ∧ p3 ≤ 2147483647 := (vc_X11_demand_W_14 h19 h16 h18)
  refine mr_iconst (pc := 19) (z := (-1)) dX11_demand_19 ?_
  exact mr_iret dX11_demand_20 rfl (le_t rfl) (le_t rfl) hT mF.refl ⟨(rW (c := (-2147483648)) (d := 2147483647) (rR (x := (-1))) rfl), ((((h7.2.2.2.1 h7.1).2 h9).2 h16).2 h19), trivial⟩
def WP_X12_demand_W (w : mW) (μ : mM) (p1 : Int) (p2 : Int) (p3 : Int) (Q : Int → mM → Prop) : Prop := ∀ z1 : Int, μ 106 5 = z1 → (0 ≤ z1 ∧ z1 ≤ 10) → WP_X12_isDomain_W w μ p1 (fun z8 _ => (0 ≤ z8 ∧ z8 ≤ 1) → ((z8 = 0) → Q ((-1) : Int) μ) ∧ ((¬ z8 = 0) → WP_X12_in_W w μ p3 (1) (1000000) (fun z20 _ => (0 ≤ z20 ∧ z20 ≤ 1) → ((¬ z20 = 0) → ∀ z25 : Int, μ 106 109 = z25 → (0 ≤ z25 ∧ z25 ≤ 16) → ((¬ z25 = 16) → ∀ μ30 : mM, mU μ 177 (z25.toNat) p1 μ30 → mT w μ30 → ∀ μ33 : mM, mU μ30 178 (z25.toNat) p2 μ33 → mT w μ33 → ∀ μ36 : mM, mU μ33 179 (z25.toNat) p3 μ36 → mT w μ36 → ∀ μ39 : mM, mU μ36 106 (109) (z25 + 1) μ39 → mT w μ39 → Q ((z25 + 1) - 1) μ39) ∧ ((z25 = 16) → Q ((-3) : Int) μ)) ∧ ((z20 = 0) → Q ((-1) : Int) μ))))
theorem vc_X12_demand_W_7 {p3 z20 : Int} (h0 : ¬ z20 = 0) (h1 : (z20 = 1 → (1 : Int) ≤ p3 ∧ p3 ≤ (1000000 : Int))) (h2 : (z20 = 0 → p3 < (1 : Int) ∨ (1000000 : Int) < p3)) (h3 : (-2147483648) ≤ p3 ∧ p3 ≤ 2147483647) (h4 : 0 ≤ z20 ∧ z20 ≤ 1) : 1 ≤ z20 ∧ z20 ≤ 1 := by omega
theorem vc_X12_demand_W_8 {p3 z20 : Int} (h0 : (z20 = 1 → (1 : Int) ≤ p3 ∧ p3 ≤ (1000000 : Int))) (h1 : (z20 = 0 → p3 < (1 : Int) ∨ (1000000 : Int) < p3)) (h2 : ¬ z20 = 0) (h3 : (-2147483648) ≤ p3 ∧ p3 ≤ 2147483647) (h4 : 1 ≤ z20 ∧ z20 ≤ 1) : z20 = 1 := by omega
theorem vc_X12_demand_W_9 {p3 z20 : Int} (h0 : (1 : Int) ≤ p3 ∧ p3 ≤ (1000000 : Int)) (h1 : (z20 = 1 → (1 : Int) ≤ p3 ∧ p3 ≤ (1000000 : Int))) (h2 : (z20 = 0 → p3 < (1 : Int) ∨ (1000000 : Int) < p3)) (h3 : (-2147483648) ≤ p3 ∧ p3 ≤ 2147483647) (h4 : 1 ≤ z20 ∧ z20 ≤ 1) : 1 ≤ p3 ∧ p3 ≤ 1000000 := by omega
theorem vc_X12_demand_W_10 {z25 : Int} (h0 : ¬ z25 = 16) (h1 : 0 ≤ z25 ∧ z25 ≤ 16) : 0 ≤ z25 ∧ z25 ≤ 15 := by omega
theorem vc_X12_demand_W_11 {z25 : Int} (h0 : z25 = 16) (h1 : 0 ≤ z25 ∧ z25 ≤ 16) : 16 ≤ z25 ∧ z25 ≤ 16 := by omega
theorem vc_X12_demand_W_12 {p3 z20 : Int} (h0 : z20 = 0) (h1 : (z20 = 1 → (1 : Int) ≤ p3 ∧ p3 ≤ (1000000 : Int))) (h2 : (z20 = 0 → p3 < (1 : Int) ∨ (1000000 : Int) < p3)) (h3 : (-2147483648) ≤ p3 ∧ p3 ≤ 2147483647) (h4 : 0 ≤ z20 ∧ z20 ≤ 1) : 0 ≤ z20 ∧ z20 ≤ 0 := by omega
theorem vc_X12_demand_W_13 {p3 z20 : Int} (h0 : (z20 = 1 → (1 : Int) ≤ p3 ∧ p3 ≤ (1000000 : Int))) (h1 : (z20 = 0 → p3 < (1 : Int) ∨ (1000000 : Int) < p3)) (h2 : z20 = 0) (h3 : (-2147483648) ≤ p3 ∧ p3 ≤ 2147483647) (h4 : 0 ≤ z20 ∧ z20 ≤ 0) : z20 = 0 := by omega
set_option maxRecDepth 4000 in
set_option maxHeartbeats 4000000 in
theorem c_X12_demand_W {l : Launch} {D : va_G} {c : Nat → ClassId} {H0 : Heap} {sa : Nat × Nat × (Nat → Int32)} {w : mW} {μ : mM} (hw : mWF w) (hT : mT w μ) {p1 : Int} (hp1 : (-2147483648) ≤ p1 ∧ p1 ≤ 2147483647) {p2 : Int} (hp2 : (-2147483648) ≤ p2 ∧ p2 ≤ 2147483647) {p3 : Int} (hp3 : (-2147483648) ≤ p3 ∧ p3 ≤ 2147483647) {Q : Int → mM → Prop} (hQ : WP_X12_demand_W w μ p1 p2 p3 Q) : sC (gG l D c H0 sa) mX12_demand 3 0 0 [.ref 106, iv p1, iv p2, iv p3] (mk w μ) (qI w [106109, 177999, 178999, 179999] μ (fun z μ1 => ((-2147483648) ≤ z ∧ z ≤ 2147483647) ∧ Q z μ1 ∧ True)) := by
  refine sC.of rfl (by decide) (le_t rfl) ?_
  refine mr_lvE (lv' := [(0, .ref 106), (1, iv p1), (2, iv p2), (3, iv p3)]) rfl ?_
  refine sv_aload_n (pc := 0) dX12_demand_0 rfl rfl ?_
  refine mr_iload_n (pc := 1) (z := p1) dX12_demand_1 rfl rfl ?_
  obtain ⟨z1, q2⟩ : ∃ z, μ 106 5 = z := ⟨_, rfl⟩
  have h3 : (0 ≤ z1 ∧ z1 ≤ 10) := by rw [← q2]; exact hT 106 106 (A_106 hw) 5
  refine mr_cVP (pc := 2) (c_X12_isDomain_W hw hT hp1 q2 (hQ z1 q2 h3)) (gOk _ _ _ _ _) dX12_demand_2 (tX12_isDomain _ _ _ _ _) ⟨wV_X12_isDomain, wL_X12_isDomain⟩ wM_X12_49 (gCX12 _ _ _ _ _) rfl (A_106 hw) rfl ⟨le_t rfl, le_t rfl⟩ ⟨le_t rfl, le_t rfl⟩ rfl (le_t rfl) fun z8 h7 => ?_
  refine mr_if_eq (pc := 5) (tgt := 19) dX12_demand_5 (by decide) (r32 h7.1 rfl) (fun h9 => ?_) (fun h9 => ?_)
  · have h10 : 0 ≤ z8 ∧ z8 ≤ 0 := (vc_X12_write_78 h9 h7.2.1 h7.2.2.1 hp1 h3 h7.1)
    have h11 : p1 < 0 ∨ z1 ≤ p1 := (h7.2.2.1 (vc_X12_write_79 h7.2.1 h7.2.2.1 h9 hp1 h3 h10))
    refine mr_iconst (pc := 19) (z := (-1)) dX12_demand_19 ?_
    exact mr_iret dX12_demand_20 rfl (le_t rfl) (le_t rfl) hT mF.refl ⟨(rW (c := (-2147483648)) (d := 2147483647) (rR (x := (-1))) rfl), ((h7.2.2.2.1 h7.1).1 h9), trivial⟩
  have h12 : 1 ≤ z8 ∧ z8 ≤ 1 := (vc_X12_write_12 h9 h7.2.1 h7.2.2.1 hp1 h3 h7.1)
  have h13 : 0 ≤ p1 ∧ p1 < z1 := (h7.2.1 (vc_X12_write_13 h7.2.1 h7.2.2.1 h9 hp1 h3 h12))
  have h14 : 0 ≤ p1 ∧ p1 ≤ 9 := (vc_X12_write_14 h13 h7.2.1 h7.2.2.1 hp1 h3 h12)
  have h15 : 1 ≤ z1 ∧ z1 ≤ 10 := (vc_X12_write_15 h13 h7.2.1 h7.2.2.1 h14 h3 h12)
  refine mr_iload_n (pc := 8) (z := p3) dX12_demand_8 rfl rfl ?_
  refine mr_iconst (pc := 9) (z := 1) dX12_demand_9 ?_
  refine mr_ldcw (pc := 10) (z := 1000000) dX12_demand_10 wG_X12_291 (by decide) ?_
  refine mr_cSP (pc := 13) (c_X12_in_W hw hT hp3 (rW (c := (-2147483648)) (d := 2147483647) (rR (x := 1)) rfl) (rW (c := (-2147483648)) (d := 2147483647) (rR (x := 1000000)) rfl) ((h7.2.2.2.1 h7.1).2 h9)) (gOk _ _ _ _ _) dX12_demand_13 (tX12_in _ _ _ _ _) wS_X12_in wM_X12_18 ⟨le_t rfl, le_t rfl⟩ ⟨le_t rfl, le_t rfl⟩ rfl (le_t rfl) fun z20 h19 => ?_
  refine mr_if_ne (pc := 16) (tgt := 21) dX12_demand_16 (by decide) (r32 h19.1 rfl) (fun h21 => ?_) (fun h21 => ?_)
  · have h22 : 1 ≤ z20 ∧ z20 ≤ 1 := (vc_X12_demand_W_7 h21 h19.2.1 h19.2.2.1 hp3 h19.1)
    have h23 : (1 : Int) ≤ p3 ∧ p3 ≤ (1000000 : Int) := (h19.2.1 (vc_X12_demand_W_8 h19.2.1 h19.2.2.1 h21 hp3 h22))
    have h24 : 1 ≤ p3 ∧ p3 ≤ 1000000 := (vc_X12_demand_W_9 h23 h19.2.1 h19.2.2.1 hp3 h22)
    refine sv_aload_n (pc := 21) dX12_demand_21 rfl rfl ?_
    refine gf_X12_109 (pc := 22) dX12_demand_22 wF_X12_695 (A_106 hw) hT fun z25 q26 h27 => ?_
    refine mr_bipush (pc := 25) (z := 16) dX12_demand_25 (by decide) ?_
    refine mr_icmp_ne (pc := 27) (tgt := 33) dX12_demand_27 (by decide) (r32 h27 rfl) (r32 (rR (x := 16)) rfl) (fun h28 => ?_) (fun h28 => ?_)
    · have h29 : 0 ≤ z25 ∧ z25 ≤ 15 := (vc_X12_demand_W_10 h28 h27)
      refine sv_aload_n (pc := 33) dX12_demand_33 rfl rfl ?_
      refine gf_X12_110 (pc := 34) dX12_demand_34 wF_X12_493 (A_106 hw) hT ?_
      refine sv_aload_n (pc := 37) dX12_demand_37 rfl rfl ?_
      refine gk_X12_109 (pc := 38) dX12_demand_38 wF_X12_695 (A_106 hw) q26 ?_
      refine mr_iload_n (pc := 41) (z := p1) dX12_demand_41 rfl rfl ?_
      refine ss_177 (pc := 42) dX12_demand_42 (A_177 hw) hT (rIx (n := 16) h29 rfl) h14 fun μ30 u31 T32 => ?_
      refine sv_aload_n (pc := 43) dX12_demand_43 rfl rfl ?_
      refine gf_X12_111 (pc := 44) dX12_demand_44 wF_X12_496 (A_106 hw) T32 ?_
      refine sv_aload_n (pc := 47) dX12_demand_47 rfl rfl ?_
      refine gk_X12_109 (pc := 48) dX12_demand_48 wF_X12_695 (A_106 hw) (u31.f (Or.inl (mAt.ne (A_177 hw) (A_106 hw) rfl)) q26) ?_
      refine mr_iload_n (pc := 51) (z := p2) dX12_demand_51 rfl rfl ?_
      refine ss_178 (pc := 52) dX12_demand_52 (A_178 hw) T32 (rIx (n := 16) h29 rfl) hp2 fun μ33 u34 T35 => ?_
      refine sv_aload_n (pc := 53) dX12_demand_53 rfl rfl ?_
      refine gf_X12_112 (pc := 54) dX12_demand_54 wF_X12_499 (A_106 hw) T35 ?_
      refine sv_aload_n (pc := 57) dX12_demand_57 rfl rfl ?_
      refine gk_X12_109 (pc := 58) dX12_demand_58 wF_X12_695 (A_106 hw) (u34.f (Or.inl (mAt.ne (A_178 hw) (A_106 hw) rfl)) (u31.f (Or.inl (mAt.ne (A_177 hw) (A_106 hw) rfl)) q26)) ?_
      refine mr_iload_n (pc := 61) (z := p3) dX12_demand_61 rfl rfl ?_
      refine ss_179 (pc := 62) dX12_demand_62 (A_179 hw) T35 (rIx (n := 16) h29 rfl) (rW (c := (-2147483648)) (d := 2147483647) h24 rfl) fun μ36 u37 T38 => ?_
      refine sv_aload_n (pc := 63) dX12_demand_63 rfl rfl ?_
      refine sv_dup (pc := 64) dX12_demand_64 rfl ?_
      refine gk_X12_109 (pc := 65) dX12_demand_65 wF_X12_695 (A_106 hw) (u37.f (Or.inl (mAt.ne (A_179 hw) (A_106 hw) rfl)) (u34.f (Or.inl (mAt.ne (A_178 hw) (A_106 hw) rfl)) (u31.f (Or.inl (mAt.ne (A_177 hw) (A_106 hw) rfl)) q26))) ?_
      refine mr_iconst (pc := 68) (z := 1) dX12_demand_68 ?_
      refine mr_iadd (pc := 69) (x := z25) (y := 1) dX12_demand_69 ?_
      refine pf_X12_109 (pc := 70) dX12_demand_70 wF_X12_695 (A_106 hw) T38 (rW (c := 0) (d := 16) (rAdd (e := 1) (f := 16) h29 (rR (x := 1)) rfl) rfl) fun μ39 u40 T41 => ?_
      refine sv_aload_n (pc := 73) dX12_demand_73 rfl rfl ?_
      refine gk_X12_109 (pc := 74) dX12_demand_74 wF_X12_695 (A_106 hw) u40.1 ?_
      refine mr_iconst (pc := 77) (z := 1) dX12_demand_77 ?_
      refine mr_isub (pc := 78) (x := (z25 + 1)) (y := 1) dX12_demand_78 ?_
      exact mr_iret dX12_demand_79 rfl (le_t rfl) (le_t rfl) T41 (mF.up (mF.up (mF.up (mF.up mF.refl (A_177 hw) u31 rfl) (A_178 hw) u34 rfl) (A_179 hw) u37 rfl) (A_106 hw) u40 rfl) ⟨(rW (c := (-2147483648)) (d := 2147483647) (rSub (e := 0) (f := 15) (rAdd (e := 1) (f := 16) h29 (rR (x := 1)) rfl) (rR (x := 1)) rfl) rfl), ((((((((h19.2.2.2.1 h19.1).1 h21) z25 q26 h27).1 h28) μ30 u31 T32) μ33 u34 T35) μ36 u37 T38) μ39 u40 T41), trivial⟩
    have h42 : 16 ≤ z25 ∧ z25 ≤ 16 := (vc_X12_demand_W_11 h28 h27)
    refine mr_bipush (pc := 30) (z := (-3)) dX12_demand_30 (by decide) ?_
    exact mr_iret dX12_demand_32 rfl (le_t rfl) (le_t rfl) hT mF.refl ⟨(rW (c := (-2147483648)) (d := 2147483647) (rR (x := (-3))) rfl), ((((h19.2.2.2.1 h19.1).1 h21) z25 q26 h27).2 h28), trivial⟩
  have h43 : 0 ≤ z20 ∧ z20 ≤ 0 := (vc_X12_demand_W_12 h21 h19.2.1 h19.2.2.1 hp3 h19.1)
  have h44 : p3 < (1 : Int) ∨ (1000000 : Int) < p3 := (h19.2.2.1 (vc_X12_demand_W_13 h19.2.1 h19.2.2.1 h21 hp3 h43))
  refine mr_iconst (pc := 19) (z := (-1)) dX12_demand_19 ?_
  exact mr_iret dX12_demand_20 rfl (le_t rfl) (le_t rfl) hT mF.refl ⟨(rW (c := (-2147483648)) (d := 2147483647) (rR (x := (-1))) rfl), ((h19.2.2.2.1 h19.1).2 h21), trivial⟩
def WL_X3_putNumber_W_1 (w : mW) (μ : mM) (p1 : Int) (Q : mM → Prop) (rec1 : (Int × mM) → Prop) (s : (Int × mM)) : Prop := ∀ z43 : Int, ∀ μ44 : mM, s = (z43, μ44) → ((-1) ≤ z43 ∧ z43 ≤ 3) → mT w μ44 → mF [76015, 86999] w μ μ44 → ((z43 < 0) → Q μ44) ∧ ((0 ≤ z43) → ∀ z75 : Int, μ44 76 15 = z75 → (0 ≤ z75 ∧ z75 ≤ 256) → ((256 ≤ z75) → Q μ44) ∧ ((z75 < 256) → ∀ z95 : Int, bUsh p1 (8 * z43) = z95 → ∀ z98 : Int, bAnd z95 (255 : Int) = z98 → ∀ μ101 : mM, mU μ44 86 (z75.toNat) z98 μ101 → mT w μ101 → ∀ μ104 : mM, mU μ101 76 (15) (z75 + 1) μ104 → mT w μ104 → rec1 ((z43 + (-1)), μ104)))
def WP_X3_putNumber_W (w : mW) (μ : mM) (p1 : Int) (p2 : Int) (Q : mM → Prop) : Prop := loopF (WL_X3_putNumber_W_1 w μ p1 Q) False 6 ((p2 - 1), μ)
def WL_X3_putPrefix_W_1 (w : mW) (p1 : Int) (Q : mM → Prop) (μ1 : mM) (z5 : Int) (rec1 : (Int × mM) → Prop) (s : (Int × mM)) : Prop := ∀ z74 : Int, ∀ μ75 : mM, s = (z74, μ75) → (0 ≤ z74 ∧ z74 ≤ 4) → mT w μ75 → mF [76015, 86999] w μ1 μ75 → ((z5 ≤ z74) → Q μ75) ∧ ((z74 < z5) → ∀ z96 : Int, bUsh p1 (24 - (8 * z74)) = z96 → WP_X3_putNumber_W w μ75 z96 (1) (fun μ99 => mT w μ99 → mF [76015, 86999] w μ75 μ99 → rec1 ((z74 + 1), μ99)))
def WP_X3_putPrefix_W (w : mW) (μ : mM) (p1 : Int) (p2 : Int) (Q : mM → Prop) : Prop := WP_X3_putNumber_W w μ p2 (1) (fun μ1 => mT w μ1 → mF [76015, 86999] w μ μ1 → ∀ z5 : Int, (p2 + 7) / 8 = z5 → loopF (WL_X3_putPrefix_W_1 w p1 Q μ1 z5) False 6 ((0 : Int), μ1))
def WP_X3_putHead_W (w : mW) (μ : mM) (p1 : Int) (p2 : Int) (p3 : Int) (Q : mM → Prop) : Prop := WP_X3_putNumber_W w μ p1 (1) (fun μ1 => mT w μ1 → mF [76015, 86999] w μ μ1 → WP_X3_putNumber_W w μ1 p2 (1) (fun μ5 => mT w μ5 → mF [76015, 86999] w μ1 μ5 → WP_X3_putNumber_W w μ5 p3 (1) (fun μ9 => mT w μ9 → mF [76015, 86999] w μ5 μ9 → Q μ9)))
def WL_X3_putAttributes_W_4 (w : mW) (a1 : Nat) (Q : mM → Prop) (z911 : Int) (μ920 : mM) (rec4 : (Int × mM) → Prop) (s : (Int × mM)) : Prop := ∀ z1034 : Int, ∀ μ1035 : mM, s = (z1034, μ1035) → (0 ≤ z1034 ∧ z1034 ≤ 8) → mT w μ1035 → mF [76015, 86999] w μ920 μ1035 → ((z911 ≤ z1034) → Q μ1035) ∧ ((z1034 < z911) → ∀ z1058 : Int, μ1035 (a1 + 2) (z1034.toNat) = z1058 → ((-2147483648) ≤ z1058 ∧ z1058 ≤ 2147483647) → WP_X3_putNumber_W w μ1035 z1058 (4) (fun μ1061 => mT w μ1061 → mF [76015, 86999] w μ1035 μ1061 → rec4 ((z1034 + 1), μ1061)))
def WJ_X3_putAttributes_W_3 (w : mW) (a1 : Nat) (Q : mM → Prop) (μ905 : mM) (z911 : Int) (μ920 : mM) : Prop := mT w μ920 → mF [76015, 86999] w μ905 μ920 → loopF (WL_X3_putAttributes_W_4 w a1 Q z911 μ920) False 10 ((0 : Int), μ920)
def WJ_X3_putAttributes_W_2 (w : mW) (a1 : Nat) (Q : mM → Prop) (μ873 : mM) (μ905 : mM) : Prop := mT w μ905 → mF [76015, 86999] w μ873 μ905 → ∀ z911 : Int, μ905 a1 8 = z911 → (0 ≤ z911 ∧ z911 ≤ 8) → ((z911 ≤ 0) → (WJ_X3_putAttributes_W_3 w a1 Q μ905 z911) μ905) ∧ ((0 < z911) → WP_X3_putHead_W w μ905 (192) (8) (4 * z911) (fun μ1068 => mT w μ1068 → mF [76015, 86999] w μ905 μ1068 → (WJ_X3_putAttributes_W_3 w a1 Q μ905 z911) μ1068))
def WL_X3_putAttributes_W_1 (w : mW) (a1 : Nat) (Q : mM → Prop) (z12 : Int) (μ23 : mM) (rec1 : (Int × mM) → Prop) (s : (Int × mM)) : Prop := ∀ z872 : Int, ∀ μ873 : mM, s = (z872, μ873) → (0 ≤ z872 ∧ z872 ≤ 20) → mT w μ873 → mF [76015, 86999] w μ23 μ873 → ((z12 ≤ z872) → ∀ z893 : Int, μ873 a1 6 = z893 → ((-2147483648) ≤ z893 ∧ z893 ≤ 2147483647) → ((z893 = 0) → (WJ_X3_putAttributes_W_2 w a1 Q μ873) μ873) ∧ ((¬ z893 = 0) → WP_X3_putHead_W w μ873 (128) (4) (4) (fun μ1074 => mT w μ1074 → mF [76015, 86999] w μ873 μ1074 → WP_X3_putNumber_W w μ1074 z893 (4) (fun μ1078 => mT w μ1078 → mF [76015, 86999] w μ1074 μ1078 → (WJ_X3_putAttributes_W_2 w a1 Q μ873) μ1078)))) ∧ ((z872 < z12) → ∀ z1085 : Int, μ873 (a1 + 1) (z872.toNat) = z1085 → ((-2147483648) ≤ z1085 ∧ z1085 ≤ 2147483647) → WP_X3_putNumber_W w μ873 z1085 (4) (fun μ1088 => mT w μ1088 → mF [76015, 86999] w μ873 μ1088 → rec1 ((z872 + 1), μ1088)))
def WP_X3_putAttributes_W (w : mW) (μ : mM) (a1 : Nat) (Q : mM → Prop) : Prop := WP_X3_putHead_W w μ (64) (1) (1) (fun μ1 => mT w μ1 → mF [76015, 86999] w μ μ1 → ∀ z5 : Int, μ1 a1 5 = z5 → ((-2147483648) ≤ z5 ∧ z5 ≤ 2147483647) → WP_X3_putNumber_W w μ1 z5 (1) (fun μ8 => mT w μ8 → mF [76015, 86999] w μ1 μ8 → ∀ z12 : Int, μ8 a1 7 = z12 → (0 ≤ z12 ∧ z12 ≤ 20) → WP_X3_putHead_W w μ8 (64) (2) (2 + (4 * z12)) (fun μ15 => mT w μ15 → mF [76015, 86999] w μ8 μ15 → WP_X3_putNumber_W w μ15 (2) (1) (fun μ19 => mT w μ19 → mF [76015, 86999] w μ15 μ19 → WP_X3_putNumber_W w μ19 z12 (1) (fun μ23 => mT w μ23 → mF [76015, 86999] w μ19 μ23 → loopF (WL_X3_putAttributes_W_1 w a1 Q z12 μ23) False 22 ((0 : Int), μ23))))))
def WP_X3_putDown_W (w : mW) (μ : mM) (a1 : Nat) (p2 : Int) (p3 : Int) (Q : Int → mM → Prop) : Prop := ∀ μ1 : mM, mU μ 76 (15) (0 : Int) μ1 → mT w μ1 → ∀ z4 : Int, (p3 + 7) / 8 = z4 → ∀ z7 : Int, μ1 a1 2 = z7 → (0 ≤ z7 ∧ z7 ≤ 1) → ((¬ z7 = 0) → WP_X3_putNumber_W w μ1 (0) (4) (fun μ12 => mT w μ12 → mF [76015, 86999] w μ1 μ12 → WP_X3_putAttributes_W w μ12 a1 (fun μ16 => mT w μ16 → mF [76015, 86999] w μ12 μ16 → ∀ z20 : Int, μ16 76 15 = z20 → (0 ≤ z20 ∧ z20 ≤ 256) → ∀ z23 : Int, bShr (z20 - 4) (8 : Int) = z23 → ∀ μ26 : mM, mU μ16 86 ((2 : Int).toNat) z23 μ26 → mT w μ26 → ∀ z29 : Int, bAnd (z20 - 4) (255 : Int) = z29 → ∀ μ32 : mM, mU μ26 86 ((3 : Int).toNat) z29 μ32 → mT w μ32 → WP_X3_putPrefix_W w μ32 p2 p3 (fun μ35 => mT w μ35 → mF [76015, 86999] w μ32 μ35 → ∀ z39 : Int, μ35 76 15 = z39 → (0 ≤ z39 ∧ z39 ≤ 256) → Q z39 μ35)))) ∧ ((z7 = 0) → WP_X3_putNumber_W w μ1 (1 + z4) (2) (fun μ43 => mT w μ43 → mF [76015, 86999] w μ1 μ43 → WP_X3_putPrefix_W w μ43 p2 p3 (fun μ47 => mT w μ47 → mF [76015, 86999] w μ43 μ47 → WP_X3_putNumber_W w μ47 (0) (2) (fun μ51 => mT w μ51 → mF [76015, 86999] w μ47 μ51 → ∀ z55 : Int, μ51 76 15 = z55 → (0 ≤ z55 ∧ z55 ≤ 256) → Q z55 μ51))))
