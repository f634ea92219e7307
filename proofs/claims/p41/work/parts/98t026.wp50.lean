def WJ_X8_takeIn_Wc_2 (w : mW) (p3 : Int) (b865 : Nat) (rec1 : (Int × Int × mM) → Prop) (z1512 : Int) (z1511 : Int) (μ1513 : mM) (z1586 : Int) (b1633 : Nat) (b1638 : Nat) : Prop := mAt w b1638 200 → WP_X7_become_W w μ1513 b1633 b1638 (fun μ1642 => mT w μ1642 → mF [200002, 200003, 200004, 200005, 200006, 200007, 200008, 201999, 202999] w μ1513 μ1642 → ∀ μ1646 : mM, mU μ1642 b1633 (3) z1586 μ1646 → mT w μ1646 → ∀ z1649 : Int, μ1646 32 11 = z1649 → ((-1) ≤ z1649 ∧ z1649 ≤ 2000000000) → ∀ μ1652 : mM, mU μ1646 b1633 (9) z1649 μ1652 → mT w μ1652 → WP_X9_end_W w μ1652 b865 p3 (fun z1659 _ => (0 ≤ z1659 ∧ z1659 ≤ 9) → WP_X8_look_W w μ1652 z1659 z1586 (fun μ1660 => mT w μ1660 → mF [21002, 21003, 21004, 21005, 21006, 21007, 32009, 32010, 33999, 34999, 66999, 200002, 200003, 200004, 200005, 200006, 200007, 200008, 200009, 200010, 200011, 201999, 202999, 213999] w μ1652 μ1660 → rec1 ((z1512 + 1), (z1511 + 1), μ1660))))
def WL_X8_takeIn_Wc_1 (w : mW) (μ : mM) (p3 : Int) (Q : Int → mM → Prop) (f_wd : Int) (f_an : Int) (b865 : Nat) (rec1 : (Int × Int × mM) → Prop) (s : (Int × Int × mM)) : Prop := ∀ z1512 : Int, ∀ z1511 : Int, ∀ μ1513 : mM, s = (z1512, z1511, μ1513) → (0 ≤ z1512 ∧ z1512 ≤ 2000) → (0 ≤ z1511 ∧ z1511 ≤ 2000) → mT w μ1513 → mF [21002, 21003, 21004, 21005, 21006, 21007, 32009, 32010, 33999, 34999, 66999, 200002, 200003, 200004, 200005, 200006, 200007, 200008, 200009, 200010, 200011, 201999, 202999, 213999] w μ μ1513 → (((f_wd + f_an) ≤ z1511) → Q z1512 μ1513) ∧ ((z1511 < (f_wd + f_an)) → ∀ z1576 : Int, μ1513 84 (z1511.toNat) = z1576 → ((-2147483648) ≤ z1576 ∧ z1576 ≤ 2147483647) → ∀ z1579 : Int, μ1513 85 (z1511.toNat) = z1579 → ((-2147483648) ≤ z1579 ∧ z1579 ≤ 2147483647) → WP_X10_findPrefix_W w μ1513 z1576 z1579 (fun z1586 _ => ((-1) ≤ z1586 ∧ z1586 ≤ 9) → ((0 ≤ z1586) → WP_X9_placeOf_W w μ1513 p3 z1586 (fun z1632 _ => (0 ≤ z1632 ∧ z1632 ≤ 19) → ∀ b1633 : Nat, μ1513 (b865 + 2) (z1632.toNat) = (b1633 : Int) → mAt w b1633 200 → ((f_wd ≤ z1511) → (WJ_X8_takeIn_Wc_2 w p3 b865 rec1 z1512 z1511 μ1513 z1586 b1633) 81) ∧ ((z1511 < f_wd) → (WJ_X8_takeIn_Wc_2 w p3 b865 rec1 z1512 z1511 μ1513 z1586 b1633) 70))) ∧ ((z1586 < 0) → rec1 (z1512, (z1511 + 1), μ1513))))
def WP_X8_takeIn_Wc (w : mW) (μ : mM) (p2 : Int) (p3 : Int) (Q : Int → mM → Prop) : Prop := ∀ f_wd : Int, μ 76 13 = f_wd → (0 ≤ f_wd ∧ f_wd ≤ 1000) → ∀ f_an : Int, μ 76 14 = f_an → (0 ≤ f_an ∧ f_an ≤ 1000) → ∀ b865 : Nat, μ 11 (p2.toNat) = (b865 : Int) → mAt w b865 220 → loopF (WL_X8_takeIn_Wc_1 w μ p3 Q f_wd f_an b865) False 2002 ((0 : Int), (0 : Int), μ)
def WP_X11_hear_Wc (w : mW) (μ : mM) (p1 : Int) (p2 : Int) (Q : Int → mM → Prop) : Prop := ∀ f_wd : Int, μ 76 13 = f_wd → (0 ≤ f_wd ∧ f_wd ≤ 1000) → ∀ f_an : Int, μ 76 14 = f_an → (0 ≤ f_an ∧ f_an ≤ 1000) → ∀ z125 : Int, μ 6 16 = z125 → (z125 = w.2.2.2 1 ∧ 0 ≤ z125 ∧ z125 ≤ 20) → WP_X11_isTie_W w μ p1 (fun z132 _ => (0 ≤ z132 ∧ z132 ≤ 1) → ((z132 = 0) → Q ((-1) : Int) μ) ∧ ((¬ z132 = 0) → WP_X11_isEither_W w μ p2 (fun z143 _ => (0 ≤ z143 ∧ z143 ≤ 1) → ((¬ z143 = 0) → ∀ z148 : Int, μ 76 16 = z148 → (0 ≤ z148 ∧ z148 ≤ 1) → ((z148 = 0) → Q ((-2) : Int) μ) ∧ ((¬ z148 = 0) → ∀ b154 : Nat, μ 11 (p1.toNat) = (b154 : Int) → mAt w b154 220 → ∀ z157 : Int, μ b154 6 = z157 → (0 ≤ z157 ∧ z157 ≤ 1) → ((¬ z157 = 0) → WP_X8_takeIn_Wc w μ p1 p2 (fun z166 μ162 => mT w μ162 → mF [21002, 21003, 21004, 21005, 21006, 21007, 32009, 32010, 33999, 34999, 66999, 200002, 200003, 200004, 200005, 200006, 200007, 200008, 200009, 200010, 200011, 201999, 202999, 213999] w μ μ162 → ((-2147483648) ≤ z166 ∧ z166 ≤ 2147483647) → Q z166 μ162)) ∧ ((z157 = 0) → Q ((-2) : Int) μ))) ∧ ((z143 = 0) → Q ((-1) : Int) μ))))
def WJ_X12_hear_Wc_3 (w : mW) (p1 : Int) (p2 : Int) (rec1 : (Int × Int × mM) → Prop) (z2172 : Int) (z2171 : Int) (μ2173 : mM) (z2305 : Int) (z2374 : Int) (μ2406 : mM) : Prop := mT w μ2406 → mF [126999] w μ2173 μ2406 → ∀ z2415 : Int, μ2406 106 71 = z2415 → (0 ≤ z2415 ∧ z2415 ≤ 2000000000) → ∀ μ2418 : mM, mU μ2406 154 (z2374.toNat) z2415 μ2418 → mT w μ2418 → ∀ z2421 : Int, μ2418 110 (((2 * p1) + p2).toNat) = z2421 → (0 ≤ z2421 ∧ z2421 ≤ 9) → WP_X12_look_W w μ2418 z2421 z2305 (fun μ2424 => mT w μ2424 → mF [106026, 106027, 106028, 106029, 106030, 106031, 106072, 126999, 151999, 152999, 153999, 155999, 156999, 157999, 158999, 159999, 160999, 161999, 165999] w μ2418 μ2424 → rec1 ((z2172 + 1), (z2171 + 1), μ2424))
def WJ_X12_hear_Wc_2 (w : mW) (p1 : Int) (p2 : Int) (rec1 : (Int × Int × mM) → Prop) (z2172 : Int) (z2171 : Int) (μ2173 : mM) (z2187 : Int) (z2305 : Int) : Prop := ((-99999999) ≤ z2305 ∧ z2305 ≤ 9) → ((¬ z2305 = (-99999999)) → WP_X12_slot_W w μ2173 p1 p2 z2305 (fun z2374 _ => (0 ≤ z2374 ∧ z2374 ≤ 449) → ((z2187 ≤ z2171) → ∀ z2429 : Int, μ2173 126 (((40 * 24) : Int).toNat) = z2429 → ((-2147483648 ≤ z2429 ∧ z2429 ≤ 2147483647) ∧ (((40 * 24) : Int) % 40 = 0 → -1 ≤ z2429 ∧ z2429 ≤ 9) ∧ (((40 * 24) : Int) % 40 = 4 → 0 ≤ z2429 ∧ z2429 ≤ 20) ∧ (((40 * 24) : Int) % 40 = 5 → 0 ≤ z2429 ∧ z2429 ≤ 8)) → WP_X12_copy_W w μ2173 (24) (130 + z2374) (fun μ2433 => mT w μ2433 → mF [126999] w μ2173 μ2433 → ∀ z2437 : Int, μ2433 126 ((40 * (130 + z2374)).toNat) = z2437 → ∀ μ2443 : mM, mU μ2433 126 ((40 * (130 + z2374)).toNat) z2305 μ2443 → mT w μ2443 → (WJ_X12_hear_Wc_3 w p1 p2 rec1 z2172 z2171 μ2173 z2305 z2374) μ2443)) ∧ ((z2171 < z2187) → WP_X12_nothing_W w μ2173 (130 + z2374) (fun μ2448 => mT w μ2448 → mF [126999] w μ2173 μ2448 → ∀ z2452 : Int, μ2448 126 ((40 * (130 + z2374)).toNat) = z2452 → (WJ_X12_hear_Wc_3 w p1 p2 rec1 z2172 z2171 μ2173 z2305 z2374) μ2448)))) ∧ ((z2305 = (-99999999)) → rec1 (z2172, (z2171 + 1), μ2173))
def WL_X12_hear_Wc_1 (w : mW) (μ : mM) (p1 : Int) (p2 : Int) (Q : Int → mM → Prop) (rec1 : (Int × Int × mM) → Prop) (s : (Int × Int × mM)) : Prop := ∀ z2172 : Int, ∀ z2171 : Int, ∀ μ2173 : mM, s = (z2172, z2171, μ2173) → (0 ≤ z2172 ∧ z2172 ≤ 2000) → (0 ≤ z2171 ∧ z2171 ≤ 2000) → mT w μ2173 → mF [106026, 106027, 106028, 106029, 106030, 106031, 106072, 126999, 151999, 152999, 153999, 154999, 155999, 156999, 157999, 158999, 159999, 160999, 161999, 165999] w μ μ2173 → ∀ z2187 : Int, μ2173 106 88 = z2187 → (0 ≤ z2187 ∧ z2187 ≤ 1000) → ∀ z2190 : Int, μ2173 106 91 = z2190 → (0 ≤ z2190 ∧ z2190 ≤ 1000) → (((z2187 + z2190) ≤ z2171) → Q z2172 μ2173) ∧ ((z2171 < (z2187 + z2190)) → ((z2187 ≤ z2171) → ∀ z2461 : Int, μ2173 168 ((z2171 - z2187).toNat) = z2461 → ((-2147483648) ≤ z2461 ∧ z2461 ≤ 2147483647) → ∀ z2464 : Int, μ2173 169 ((z2171 - z2187).toNat) = z2464 → ((-2147483648) ≤ z2464 ∧ z2464 ≤ 2147483647) → WP_X12_prefixOf_W w μ2173 z2461 z2464 (fun z2471 _ => ((-99999999) ≤ z2471 ∧ z2471 ≤ 9) → (WJ_X12_hear_Wc_2 w p1 p2 rec1 z2172 z2171 μ2173 z2187) z2471)) ∧ ((z2171 < z2187) → ∀ z2475 : Int, μ2173 166 (z2171.toNat) = z2475 → ((-2147483648) ≤ z2475 ∧ z2475 ≤ 2147483647) → ∀ z2478 : Int, μ2173 167 (z2171.toNat) = z2478 → ((-2147483648) ≤ z2478 ∧ z2478 ≤ 2147483647) → WP_X12_prefixOf_W w μ2173 z2475 z2478 (fun z2485 _ => ((-99999999) ≤ z2485 ∧ z2485 ≤ 9) → (WJ_X12_hear_Wc_2 w p1 p2 rec1 z2172 z2171 μ2173 z2187) z2485)))
def WP_X12_hear_Wc (w : mW) (μ : mM) (p1 : Int) (p2 : Int) (Q : Int → mM → Prop) : Prop := ∀ z1 : Int, μ 106 6 = z1 → (0 ≤ z1 ∧ z1 ≤ 20) → WP_X12_isTie_W w μ p1 (fun z8 _ => (0 ≤ z8 ∧ z8 ≤ 1) → ((z8 = 0) → Q ((-1) : Int) μ) ∧ ((¬ z8 = 0) → WP_X12_in_W w μ p2 (0) (1) (fun z20 _ => (0 ≤ z20 ∧ z20 ≤ 1) → ((¬ z20 = 0) → ∀ z25 : Int, μ 106 96 = z25 → (0 ≤ z25 ∧ z25 ≤ 1) → ((z25 = 0) → Q ((-2) : Int) μ) ∧ ((¬ z25 = 0) → ∀ z31 : Int, μ 106 97 = z31 → (0 ≤ z31 ∧ z31 ≤ 1) → ((¬ z31 = 0) → Q ((-2) : Int) μ) ∧ ((z31 = 0) → ∀ z37 : Int, μ 112 (p1.toNat) = z37 → (0 ≤ z37 ∧ z37 ≤ 1) → ((¬ z37 = 0) → loopF (WL_X12_hear_Wc_1 w μ p1 p2 Q) False 2002 ((0 : Int), (0 : Int), μ)) ∧ ((z37 = 0) → Q ((-2) : Int) μ)))) ∧ ((z20 = 0) → Q ((-1) : Int) μ))))
def WJ_X2_tieFor_W_2 (w : mW) (μ : mM) (b1 : Nat) (rec1 : (Int × Int × Int) → Prop) (z249 : Int) (z248 : Int) (z247 : Int) (z305 : Int) : Prop := (0 ≤ z305 ∧ z305 ≤ 1) → ((z305 = 0) → rec1 (z249, z248, (z247 + 1))) ∧ ((¬ z305 = 0) → ∀ z328 : Int, μ (b1 + 3) (z247.toNat) = z328 → ((z328 = -99999999 ∨ z328 = -4 ∨ (0 ≤ z328 ∧ z328 ≤ 19)) ∧ (0 ≤ z328 → z328 < w.2.2.2 1)) → ((z328 = (-99999999)) → rec1 (z249, z248, (z247 + 1))) ∧ ((¬ z328 = (-99999999)) → ∀ z343 : Int, μ 8 (z247.toNat) = z343 → (0 ≤ z343 ∧ z343 ≤ 32) → ((z343 ≤ z249) → rec1 (z249, z248, (z247 + 1))) ∧ ((z249 < z343) → rec1 (z343, z328, (z247 + 1)))))
def WL_X2_tieFor_W_1 (w : mW) (μ : mM) (p2 : Int) (Q : Int → mM → Prop) (b1 : Nat) (rec1 : (Int × Int × Int) → Prop) (s : (Int × Int × Int)) : Prop := ∀ z249 : Int, ∀ z248 : Int, ∀ z247 : Int, s = (z249, z248, z247) → ((-1) ≤ z249 ∧ z249 ≤ 32) → ((-99999999) ≤ z248 ∧ z248 ≤ 19) → (0 ≤ z247 ∧ z247 ≤ 10) → ∀ z262 : Int, μ 6 14 = z262 → (0 ≤ z262 ∧ z262 ≤ 10) → ((z262 ≤ z247) → Q z248 μ) ∧ ((z247 < z262) → ∀ z296 : Int, μ 9 (z247.toNat) = z296 → ((-2147483648) ≤ z296 ∧ z296 ≤ 2147483647) → ∀ z299 : Int, bAnd p2 z296 = z299 → ∀ z302 : Int, μ 7 (z247.toNat) = z302 → ((-2147483648) ≤ z302 ∧ z302 ≤ 2147483647) → ((¬ z299 = z302) → (WJ_X2_tieFor_W_2 w μ b1 rec1 z249 z248 z247) (0 : Int)) ∧ ((z299 = z302) → (WJ_X2_tieFor_W_2 w μ b1 rec1 z249 z248 z247) (1 : Int)))
def WP_X2_tieFor_W (w : mW) (μ : mM) (p1 : Int) (p2 : Int) (Q : Int → mM → Prop) : Prop := ∀ b1 : Nat, μ 10 (p1.toNat) = (b1 : Int) → mAt w b1 210 → loopF (WL_X2_tieFor_W_1 w μ p2 Q b1) False 12 (((-1) : Int), ((-99999999) : Int), (0 : Int))
set_option maxRecDepth 4000 in
set_option maxHeartbeats 4000000 in
theorem c_X2_tieFor_W {l : Launch} {D : va_G} {c : Nat → ClassId} {H0 : Heap} {sa : Nat × Nat × (Nat → Int32)} {w : mW} {μ : mM} (hw : mWF w) (hT : mT w μ) {p1 : Int} (hp1 : 0 ≤ p1 ∧ p1 ≤ 9) {p2 : Int} (hp2 : (-2147483648) ≤ p2 ∧ p2 ≤ 2147483647) (hq0 : p1 < w.2.2.2 0) {Q : Int → mM → Prop} (hQ : WP_X2_tieFor_W w μ p1 p2 Q) : sC (gG l D c H0 sa) mX2_tieFor 1 0 0 [.ref 87, iv p1, iv p2] (mk w μ) (qP w μ (fun z => ((-99999999) ≤ z ∧ z ≤ 19) ∧ (z = -99999999 ∨ z = -4 ∨ (0 ≤ z ∧ z ≤ 19)) ∧ (0 ≤ z → z < w.2.2.2 1) ∧ Q z μ ∧ True)) := by
  refine sC.of rfl (by decide) (le_t rfl) ?_
  refine mr_lvE (lv' := [(0, .ref 87), (1, iv p1), (2, iv p2)]) rfl ?_
  refine sv_aload_n (pc := 0) dX2_tieFor_0 rfl rfl ?_
  refine gf_X2_0 (pc := 1) dX2_tieFor_1 wF_X2_9 (A_87 hw) hT ?_
  refine gf_X10_3 (pc := 4) dX2_tieFor_4 wF_X2_35 (A_6 hw) hT ?_
  refine mr_iload_n (pc := 7) (z := p1) dX2_tieFor_7 rfl rfl ?_
  refine la_10 (pc := 8) dX2_tieFor_8 (A_10 hw) hT (rIx (n := 10) hp1 rfl) (vc_X9_end_1 hq0 hp1) fun b1 q2 A3 => ?_
  refine mr_astore_n (pc := 9) (lv' := [(3, .ref b1), (0, .ref 87), (1, iv p1), (2, iv p2)]) dX2_tieFor_9 rfl (by decide) rfl ?_
  refine mr_iconst (pc := 10) (z := (-1)) dX2_tieFor_10 ?_
  refine mr_istore (pc := 11) (lv' := [(4, iv (-1)), (3, .ref b1), (0, .ref 87), (1, iv p1), (2, iv p2)]) dX2_tieFor_11 (by decide) rfl ?_
  refine mr_ldc (pc := 13) (z := (-99999999)) dX2_tieFor_13 wG_X2_41 (by decide) ?_
  refine mr_istore (pc := 15) (lv' := [(5, iv (-99999999)), (4, iv (-1)), (3, .ref b1), (0, .ref 87), (1, iv p1), (2, iv p2)]) dX2_tieFor_15 (by decide) rfl ?_
  refine mr_iconst (pc := 17) (z := 0) dX2_tieFor_17 ?_
  refine mr_istore (pc := 18) (lv' := [(6, iv 0), (5, iv (-99999999)), (4, iv (-1)), (3, .ref b1), (0, .ref 87), (1, iv p1), (2, iv p2)]) dX2_tieFor_18 (by decide) rfl ?_
  have L250 : ∀ (nL250 : Nat) (z249 z248 z247 : Int), True → ((-1) ≤ z249 ∧ z249 ≤ 32) → ((-99999999) ≤ z248 ∧ z248 ≤ 19) → (0 ≤ z247 ∧ z247 ≤ 10) → (0 ≤ z248 → z248 < w.2.2.2 1) → (z248 = (-99999999) ∨ z248 = (-4) ∨ (0 ≤ z248 ∧ z248 ≤ 19)) → (11 - z247) < (nL250 : Int) → loopF (WL_X2_tieFor_W_1 w μ p2 Q b1) False nL250 (z249, z248, z247) → sV (gG l D c H0 sa) mX2_tieFor (sRm 1 0 0) (sZ (gG l D c H0 sa) 0 0 (qP w μ (fun z => ((-99999999) ≤ z ∧ z ≤ 19) ∧ (z = -99999999 ∨ z = -4 ∨ (0 ≤ z ∧ z ≤ 19)) ∧ (0 ≤ z → z < w.2.2.2 1) ∧ Q z μ ∧ True))) 20 [(0, .ref 87), (2, iv p2), (3, .ref b1), (4, iv z249), (5, iv z248), (6, iv z247)] [] (mk w μ) 0 0 := by
    intro nL250
    induction nL250 with
    | zero => intro z249 z248 z247 _ h251 h252 h253 h257 h258 h259 W260; exact ((vc_X12_ring_2 h259 h253)).elim
    | succ nL250 ih261 =>
      intro z249 z248 z247 _ h251 h252 h253 h257 h258 h259 W260
      refine mr_iload (pc := 20) (z := z247) dX2_tieFor_20 rfl ?_
      refine sv_aload_n (pc := 22) dX2_tieFor_22 rfl rfl ?_
      refine gf_X2_0 (pc := 23) dX2_tieFor_23 wF_X2_9 (A_87 hw) hT ?_
      refine gf_X10_14 (pc := 26) dX2_tieFor_26 wF_X2_42 (A_6 hw) hT fun z262 q263 h264 => ?_
      refine mr_icmp_ge (pc := 29) (tgt := 123) dX2_tieFor_29 (by decide) (r32 h253 rfl) (r32 h264 rfl) (fun h293 => ?_) (fun h293 => ?_)
      · refine mr_iload (pc := 123) (z := z248) dX2_tieFor_123 rfl ?_
        exact mr_iretP dX2_tieFor_125 rfl (le_t rfl) (le_t rfl) ⟨h252, (vc_X2_tieFor_3 h257 h252 h258), (vc_X2_tieFor_4 h257 h252 h258), (((W260 z249 z248 z247 rfl h251 h252 h253) z262 q263 h264).1 h293), trivial⟩
      have h294 : 0 ≤ z247 ∧ z247 ≤ 9 := (vc_X12_ring_3 h293 h253 h264)
      have h295 : 1 ≤ z262 ∧ z262 ≤ 10 := (vc_X12_ring_4 h293 h294 h264)
      refine mr_iload_n (pc := 32) (z := p2) dX2_tieFor_32 rfl rfl ?_
      refine sv_aload_n (pc := 33) dX2_tieFor_33 rfl rfl ?_
      refine gf_X2_0 (pc := 34) dX2_tieFor_34 wF_X2_9 (A_87 hw) hT ?_
      refine gf_X10_2 (pc := 37) dX2_tieFor_37 wF_X2_46 (A_6 hw) hT ?_
      refine mr_iload (pc := 40) (z := z247) dX2_tieFor_40 rfl ?_
      refine la_9 (pc := 42) dX2_tieFor_42 (A_9 hw) hT (rIx (n := 10) h294 rfl) fun z296 q297 h298 => ?_
      refine mr_iand (pc := 43) (x := p2) (y := z296) dX2_tieFor_43 ?_
      refine mr_gen (P := fun z => (-2147483648) ≤ z ∧ z ≤ 2147483647) (r32i _) fun z299 q300 h301 => ?_
      refine sv_aload_n (pc := 44) dX2_tieFor_44 rfl rfl ?_
      refine gf_X2_0 (pc := 45) dX2_tieFor_45 wF_X2_9 (A_87 hw) hT ?_
      refine gf_X10_0 (pc := 48) dX2_tieFor_48 wF_X2_49 (A_6 hw) hT ?_
      refine mr_iload (pc := 51) (z := z247) dX2_tieFor_51 rfl ?_
      refine la_7 (pc := 53) dX2_tieFor_53 (A_7 hw) hT (rIx (n := 10) h294 rfl) fun z302 q303 h304 => ?_
      have J307 : ∀ (z305 : Int), ((0 ≤ z305 ∧ z305 ≤ 1)) → ((WJ_X2_tieFor_W_2 w μ b1 (loopF (WL_X2_tieFor_W_1 w μ p2 Q b1) False nL250) z249 z248 z247) z305) → sV (gG l D c H0 sa) mX2_tieFor (sRm 1 0 0) (sZ (gG l D c H0 sa) 0 0 (qP w μ (fun z => ((-99999999) ≤ z ∧ z ≤ 19) ∧ (z = -99999999 ∨ z = -4 ∨ (0 ≤ z ∧ z ≤ 19)) ∧ (0 ≤ z → z < w.2.2.2 1) ∧ Q z μ ∧ True))) 62 [(0, .ref 87), (2, iv p2), (3, .ref b1), (4, iv z249), (5, iv z248), (6, iv z247)] [iv z305] (mk w μ) 0 0 := by
        intro z305 h306 W308
        refine mr_istore (pc := 62) (lv' := [(7, iv z305), (0, .ref 87), (2, iv p2), (3, .ref b1), (4, iv z249), (5, iv z248), (6, iv z247)]) dX2_tieFor_62 (by decide) rfl ?_
        refine mr_iload (pc := 64) (z := z305) dX2_tieFor_64 rfl ?_
        refine mr_if_eq (pc := 66) (tgt := 117) dX2_tieFor_66 (by decide) (r32 h306 rfl) (fun h324 => ?_) (fun h324 => ?_)
        · have h325 : 0 ≤ z305 ∧ z305 ≤ 0 := (vc_X12_ring_22 h324 h306)
          refine mr_iinc (pc := 117) (lv' := [(6, iv (z247 + 1)), (7, iv z305), (0, .ref 87), (2, iv p2), (3, .ref b1), (4, iv z249), (5, iv z248)]) dX2_tieFor_117 rfl (by decide) rfl ?_
          refine sv_goto (pc := 120) (tgt := 20) dX2_tieFor_120 (by decide) ?_
          refine mr_lvS (lv' := [(0, .ref 87), (2, iv p2), (3, .ref b1), (4, iv z249), (5, iv z248), (6, iv (z247 + 1))]) (List.forall_mem_cons.mpr ⟨rfl, List.forall_mem_cons.mpr ⟨rfl, List.forall_mem_cons.mpr ⟨rfl, List.forall_mem_cons.mpr ⟨rfl, List.forall_mem_cons.mpr ⟨rfl, List.forall_mem_cons.mpr ⟨rfl, fun _ h => absurd h List.not_mem_nil⟩⟩⟩⟩⟩⟩) ?_
          exact ih261 z249 z248 (z247 + 1) trivial h251 h252 (rW (c := 0) (d := 10) (rAdd (e := 1) (f := 10) h294 (rR (x := 1)) rfl) rfl) (vc_X2_tieFor_4 h257 h252 h258) (vc_X2_tieFor_9 h257 h252 h258) (vc_X12_sends_11 (nS h259) h293 h294 h295) ((W308 h306).1 h324)
        have h326 : 1 ≤ z305 ∧ z305 ≤ 1 := (vc_X12_ring_24 h324 h306)
        refine sv_aload_n (pc := 69) dX2_tieFor_69 rfl rfl ?_
        refine gf_X0_2 (pc := 70) dX2_tieFor_70 wF_X2_52 A3 hT fun A327 => ?_
        refine mr_iload (pc := 73) (z := z247) dX2_tieFor_73 rfl ?_
        refine la_213 (pc := 75) dX2_tieFor_75 A327 hT (rIx (n := 10) h294 rfl) fun z328 q329 h330 => ?_
        have h331 : (-99999999) ≤ z328 ∧ z328 ≤ 19 := (vc_X12_sends_3 h330.1)
        refine mr_ldc (pc := 76) (z := (-99999999)) dX2_tieFor_76 wG_X2_41 (by decide) ?_
        refine mr_icmp_eq (pc := 78) (tgt := 117) dX2_tieFor_78 (by decide) (r32 h331 rfl) (r32 (rR (x := (-99999999))) rfl) (fun h340 => ?_) (fun h340 => ?_)
        · have h341 : (-99999999) ≤ z328 ∧ z328 ≤ (-99999999) := (vc_X2_tieFor_12 h340 h330.2 h331 h330.1)
          refine mr_iinc (pc := 117) (lv' := [(6, iv (z247 + 1)), (7, iv z305), (0, .ref 87), (2, iv p2), (3, .ref b1), (4, iv z249), (5, iv z248)]) dX2_tieFor_117 rfl (by decide) rfl ?_
          refine sv_goto (pc := 120) (tgt := 20) dX2_tieFor_120 (by decide) ?_
          refine mr_lvS (lv' := [(0, .ref 87), (2, iv p2), (3, .ref b1), (4, iv z249), (5, iv z248), (6, iv (z247 + 1))]) (List.forall_mem_cons.mpr ⟨rfl, List.forall_mem_cons.mpr ⟨rfl, List.forall_mem_cons.mpr ⟨rfl, List.forall_mem_cons.mpr ⟨rfl, List.forall_mem_cons.mpr ⟨rfl, List.forall_mem_cons.mpr ⟨rfl, fun _ h => absurd h List.not_mem_nil⟩⟩⟩⟩⟩⟩) ?_
          exact ih261 z249 z248 (z247 + 1) trivial h251 h252 (rW (c := 0) (d := 10) (rAdd (e := 1) (f := 10) h294 (rR (x := 1)) rfl) rfl) (vc_X2_tieFor_13 h257 h330.2 h340 h252 h258 h341 h330.1) (vc_X2_tieFor_14 h257 h330.2 h252 h258 h341 h330.1) (vc_X12_sends_11 (nS h259) h293 h294 h295) ((((W308 h306).2 h324) z328 q329 h330).1 h340)
        have h342 : (-4) ≤ z328 ∧ z328 ≤ 19 := (vc_X2_tieFor_15 h340 h330.2 h331 h330.1)
        refine sv_aload_n (pc := 81) dX2_tieFor_81 rfl rfl ?_
        refine gf_X2_0 (pc := 82) dX2_tieFor_82 wF_X2_9 (A_87 hw) hT ?_
        refine gf_X10_1 (pc := 85) dX2_tieFor_85 wF_X2_57 (A_6 hw) hT ?_
        refine mr_iload (pc := 88) (z := z247) dX2_tieFor_88 rfl ?_
        refine la_8 (pc := 90) dX2_tieFor_90 (A_8 hw) hT (rIx (n := 10) h294 rfl) fun z343 q344 h345 => ?_
        refine mr_iload (pc := 91) (z := z249) dX2_tieFor_91 rfl ?_
        refine mr_icmp_le (pc := 93) (tgt := 117) dX2_tieFor_93 (by decide) (r32 h345 rfl) (r32 h251 rfl) (fun h349 => ?_) (fun h349 => ?_)
        · have h350 : 0 ≤ z249 ∧ z249 ≤ 32 := (vc_X2_tieFor_16 h349 h251 h345)
          refine mr_iinc (pc := 117) (lv' := [(6, iv (z247 + 1)), (7, iv z305), (0, .ref 87), (2, iv p2), (3, .ref b1), (4, iv z249), (5, iv z248)]) dX2_tieFor_117 rfl (by decide) rfl ?_
          refine sv_goto (pc := 120) (tgt := 20) dX2_tieFor_120 (by decide) ?_
          refine mr_lvS (lv' := [(0, .ref 87), (2, iv p2), (3, .ref b1), (4, iv z249), (5, iv z248), (6, iv (z247 + 1))]) (List.forall_mem_cons.mpr ⟨rfl, List.forall_mem_cons.mpr ⟨rfl, List.forall_mem_cons.mpr ⟨rfl, List.forall_mem_cons.mpr ⟨rfl, List.forall_mem_cons.mpr ⟨rfl, List.forall_mem_cons.mpr ⟨rfl, fun _ h => absurd h List.not_mem_nil⟩⟩⟩⟩⟩⟩) ?_
          exact ih261 z249 z248 (z247 + 1) trivial (rW (c := (-1)) (d := 32) h350 rfl) h252 (rW (c := 0) (d := 10) (rAdd (e := 1) (f := 10) h294 (rR (x := 1)) rfl) rfl) (vc_X2_tieFor_17 h257 h330.2 h340 h252 h258 h342 h330.1) (vc_X2_tieFor_18 h257 h330.2 h252 h258 h342 h330.1) (vc_X12_sends_11 (nS h259) h293 h294 h295) ((((((W308 h306).2 h324) z328 q329 h330).2 h340) z343 q344 h345).1 h349)
        have h351 : (-1) ≤ z249 ∧ z249 ≤ 31 := (vc_X2_tieFor_19 h349 h251 h345)
        refine sv_aload_n (pc := 96) dX2_tieFor_96 rfl rfl ?_
        refine gf_X2_0 (pc := 97) dX2_tieFor_97 wF_X2_9 (A_87 hw) hT ?_
        refine gf_X10_1 (pc := 100) dX2_tieFor_100 wF_X2_57 (A_6 hw) hT ?_
        refine mr_iload (pc := 103) (z := z247) dX2_tieFor_103 rfl ?_
        refine lk_8 (pc := 105) dX2_tieFor_105 (A_8 hw) (rIx (n := 10) h294 rfl) q344 ?_
        refine mr_istore (pc := 106) (lv' := [(4, iv z343), (7, iv z305), (0, .ref 87), (2, iv p2), (3, .ref b1), (5, iv z248), (6, iv z247)]) dX2_tieFor_106 (by decide) rfl ?_
        refine sv_aload_n (pc := 108) dX2_tieFor_108 rfl rfl ?_
        refine gf_X0_2 (pc := 109) dX2_tieFor_109 wF_X2_52 A3 hT fun A352 => ?_
        refine mr_iload (pc := 112) (z := z247) dX2_tieFor_112 rfl ?_
        refine lk_213 (pc := 114) dX2_tieFor_114 A352 (rIx (n := 10) h294 rfl) q329 ?_
        refine mr_istore (pc := 115) (lv' := [(5, iv z328), (4, iv z343), (7, iv z305), (0, .ref 87), (2, iv p2), (3, .ref b1), (6, iv z247)]) dX2_tieFor_115 (by decide) rfl ?_
        refine mr_iinc (pc := 117) (lv' := [(6, iv (z247 + 1)), (5, iv z328), (4, iv z343), (7, iv z305), (0, .ref 87), (2, iv p2), (3, .ref b1)]) dX2_tieFor_117 rfl (by decide) rfl ?_
        refine sv_goto (pc := 120) (tgt := 20) dX2_tieFor_120 (by decide) ?_
        refine mr_lvS (lv' := [(0, .ref 87), (2, iv p2), (3, .ref b1), (4, iv z343), (5, iv z328), (6, iv (z247 + 1))]) (List.forall_mem_cons.mpr ⟨rfl, List.forall_mem_cons.mpr ⟨rfl, List.forall_mem_cons.mpr ⟨rfl, List.forall_mem_cons.mpr ⟨rfl, List.forall_mem_cons.mpr ⟨rfl, List.forall_mem_cons.mpr ⟨rfl, fun _ h => absurd h List.not_mem_nil⟩⟩⟩⟩⟩⟩) ?_
        exact ih261 z343 z328 (z247 + 1) trivial (rW (c := (-1)) (d := 32) h345 rfl) (rW (c := (-99999999)) (d := 19) h342 rfl) (rW (c := 0) (d := 10) (rAdd (e := 1) (f := 10) h294 (rR (x := 1)) rfl) rfl) (vc_X2_tieFor_20 h257 h330.2 h340 h252 h258 h342 h330.1) (vc_X2_tieFor_21 h330.2 h340 h257 h252 h258 h342 h330.1) (vc_X12_sends_11 (nS h259) h293 h294 h295) ((((((W308 h306).2 h324) z328 q329 h330).2 h340) z343 q344 h345).2 h349)
      refine mr_icmp_ne (pc := 54) (tgt := 61) dX2_tieFor_54 (by decide) h301 h304 (fun h353 => ?_) (fun h353 => ?_)
      · refine mr_iconst (pc := 61) (z := 0) dX2_tieFor_61 ?_
        exact J307 0 (rW (c := 0) (d := 1) (rR (x := 0)) rfl) (((((((W260 z249 z248 z247 rfl h251 h252 h253) z262 q263 h264).2 h293) z296 q297 h298) z299 q300) z302 q303 h304).1 h353)
      refine mr_iconst (pc := 57) (z := 1) dX2_tieFor_57 ?_
      refine sv_goto (pc := 58) (tgt := 62) dX2_tieFor_58 (by decide) ?_
      exact J307 1 (rW (c := 0) (d := 1) (rR (x := 1)) rfl) (((((((W260 z249 z248 z247 rfl h251 h252 h253) z262 q263 h264).2 h293) z296 q297 h298) z299 q300) z302 q303 h304).2 h353)
  refine mr_lvS (lv' := [(0, .ref 87), (2, iv p2), (3, .ref b1), (4, iv (-1)), (5, iv (-99999999)), (6, iv 0)]) (List.forall_mem_cons.mpr ⟨rfl, List.forall_mem_cons.mpr ⟨rfl, List.forall_mem_cons.mpr ⟨rfl, List.forall_mem_cons.mpr ⟨rfl, List.forall_mem_cons.mpr ⟨rfl, List.forall_mem_cons.mpr ⟨rfl, fun _ h => absurd h List.not_mem_nil⟩⟩⟩⟩⟩⟩) ?_
  exact L250 12 (-1) (-99999999) 0 trivial (rW (c := (-1)) (d := 32) (rR (x := (-1))) rfl) (rW (c := (-99999999)) (d := 19) (rR (x := (-99999999))) rfl) (rW (c := 0) (d := 10) (rR (x := 0)) rfl) vc_X2_tieFor_22 vc_X2_tieFor_24 vc_X12_ring_27 (hQ b1 q2 A3)
def WP_X2_partnerFor_W (w : mW) (μ : mM) (p1 : Int) (p2 : Int) (Q : Int → mM → Prop) : Prop := WP_X2_tieFor_W w μ p1 p2 (fun z5 _ => ((-99999999) ≤ z5 ∧ z5 ≤ 19) → ((0 ≤ z5) → ∀ b8 : Nat, μ 11 (z5.toNat) = (b8 : Int) → mAt w b8 220 → WP_X9_sideOf_W w μ b8 p1 (fun z15 _ => ((-1) ≤ z15 ∧ z15 ≤ 1) → WP_X9_end_W w μ b8 (1 - z15) (fun z20 _ => (0 ≤ z20 ∧ z20 ≤ 9) → Q z20 μ))) ∧ ((z5 < 0) → Q z5 μ))
set_option maxRecDepth 4000 in
set_option maxHeartbeats 4000000 in
theorem c_X2_partnerFor_W {l : Launch} {D : va_G} {c : Nat → ClassId} {H0 : Heap} {sa : Nat × Nat × (Nat → Int32)} {w : mW} {μ : mM} (hw : mWF w) (hT : mT w μ) {p1 : Int} (hp1 : 0 ≤ p1 ∧ p1 ≤ 9) {p2 : Int} (hp2 : (-2147483648) ≤ p2 ∧ p2 ≤ 2147483647) (hq0 : p1 < w.2.2.2 0) {Q : Int → mM → Prop} (hQ : WP_X2_partnerFor_W w μ p1 p2 Q) : sC (gG l D c H0 sa) mX2_partnerFor 2 0 0 [.ref 87, iv p1, iv p2] (mk w μ) (qP w μ (fun z => ((-99999999) ≤ z ∧ z ≤ 9) ∧ (z = -99999999 ∨ z = -4 ∨ (0 ≤ z ∧ z ≤ 9)) ∧ (z < w.2.2.2 0) ∧ Q z μ ∧ True)) := by
  refine sC.of rfl (by decide) (le_t rfl) ?_
  refine mr_lvE (lv' := [(0, .ref 87), (1, iv p1), (2, iv p2)]) rfl ?_
  refine sv_aload_n (pc := 0) dX2_partnerFor_0 rfl rfl ?_
  refine mr_iload_n (pc := 1) (z := p1) dX2_partnerFor_1 rfl rfl ?_
  refine mr_iload_n (pc := 2) (z := p2) dX2_partnerFor_2 rfl rfl ?_
  refine mr_cVP (pc := 3) (c_X2_tieFor_W hw hT hp1 hp2 (vc_X9_end_1 hq0 hp1) hQ) (gOk _ _ _ _ _) dX2_partnerFor_3 (tX2_tieFor _ _ _ _ _) ⟨wV_X2_tieFor, wL_X2_tieFor⟩ wM_X2_60 (gCX2 _ _ _ _ _) rfl (A_87 hw) rfl ⟨le_t rfl, le_t rfl⟩ ⟨le_t rfl, le_t rfl⟩ rfl (le_t rfl) fun z5 h4 => ?_
  refine mr_istore_n (pc := 6) (lv' := [(3, iv z5), (0, .ref 87), (1, iv p1), (2, iv p2)]) dX2_partnerFor_6 rfl (by decide) rfl ?_
  refine mr_iload_n (pc := 7) (z := z5) dX2_partnerFor_7 rfl rfl ?_
  refine mr_if_ge (pc := 8) (tgt := 13) dX2_partnerFor_8 (by decide) (r32 h4.1 rfl) (fun h6 => ?_) (fun h6 => ?_)
  · have h7 : 0 ≤ z5 ∧ z5 ≤ 19 := (vc_X2_partnerFor_2 h6 h4.2.1 h4.2.2.1 h4.1)
    refine sv_aload_n (pc := 13) dX2_partnerFor_13 rfl rfl ?_
    refine gf_X2_0 (pc := 14) dX2_partnerFor_14 wF_X2_9 (A_87 hw) hT ?_
    refine gf_X10_4 (pc := 17) dX2_partnerFor_17 wF_X2_64 (A_6 hw) hT ?_
    refine mr_iload_n (pc := 20) (z := z5) dX2_partnerFor_20 rfl rfl ?_
    refine la_11 (pc := 21) dX2_partnerFor_21 (A_11 hw) hT (rIx (n := 20) h7 rfl) (vc_X2_partnerFor_3 h4.2.1 h4.2.2.1 h6 h7) fun b8 q9 A10 => ?_
    refine mr_astore (pc := 22) (lv' := [(4, .ref b8), (3, iv z5), (0, .ref 87), (1, iv p1), (2, iv p2)]) dX2_partnerFor_22 (by decide) rfl ?_
    refine sv_aload (pc := 24) dX2_partnerFor_24 rfl ?_
    refine mr_iconst (pc := 26) (z := 1) dX2_partnerFor_26 ?_
    refine sv_aload (pc := 27) dX2_partnerFor_27 rfl ?_
    refine mr_iload_n (pc := 29) (z := p1) dX2_partnerFor_29 rfl rfl ?_
    refine mr_cVP (pc := 30) (c_X9_sideOf_W hw hT A10 (rW (c := (-2147483648)) (d := 2147483647) hp1 rfl) (((h4.2.2.2.1 h4.1).1 h6) b8 q9 A10)) (gOk _ _ _ _ _) dX2_partnerFor_30 (tX9_sideOf _ _ _ _ _) ⟨wV_X9_sideOf, wL_X9_sideOf⟩ wM_X2_68 (gCX9 _ _ _ _ _) rfl A10 rfl ⟨le_t rfl, le_t rfl⟩ ⟨le_t rfl, le_t rfl⟩ rfl (le_t rfl) fun z15 h14 => ?_
    refine mr_isub (pc := 33) (x := 1) (y := z15) dX2_partnerFor_33 ?_
    refine mr_cVP (pc := 34) (c_X9_end_W hw hT A10 (rW (c := (-2147483648)) (d := 2147483647) (rSub (e := 0) (f := 2) (rR (x := 1)) h14.1 rfl) rfl) (h14.2.1 h14.1)) (gOk _ _ _ _ _) dX2_partnerFor_34 (tX9_end _ _ _ _ _) ⟨wV_X9_end, wL_X9_end⟩ wM_X2_74 (gCX9 _ _ _ _ _) rfl A10 rfl ⟨le_t rfl, le_t rfl⟩ ⟨le_t rfl, le_t rfl⟩ rfl (le_t rfl) fun z20 h19 => ?_
    exact mr_iretP dX2_partnerFor_37 rfl (le_t rfl) (le_t rfl) ⟨(rW (c := (-99999999)) (d := 9) h19.1 rfl), (vc_X2_partnerFor_4 h19.2.1 hq0 hp1 h19.1), (vc_X2_partnerFor_5 hq0 h19.2.1 hp1 h19.1), (h19.2.2.1 h19.1), trivial⟩
  have h21 : (-99999999) ≤ z5 ∧ z5 ≤ (-4) := (vc_X2_partnerFor_6 h6 h4.2.1 h4.2.2.1 h4.1)
  refine mr_iload_n (pc := 11) (z := z5) dX2_partnerFor_11 rfl rfl ?_
  exact mr_iretP dX2_partnerFor_12 rfl (le_t rfl) (le_t rfl) ⟨(rW (c := (-99999999)) (d := 9) h21 rfl), (vc_X2_partnerFor_7 h4.2.1 h4.2.2.1 h6 h21), (vc_X2_partnerFor_8 hq0 h4.2.1 h4.2.2.1 h6 hp1 h21), ((h4.2.2.2.1 h4.1).2 h6), trivial⟩
def WL_X2_travel_W_1 (w : mW) (p2 : Int) (Q : Int → mM → Prop) (μ4 : mM) (rec1 : (Int × Int × mM) → Prop) (s : (Int × Int × mM)) : Prop := ∀ z319 : Int, ∀ z318 : Int, ∀ μ320 : mM, s = (z319, z318, μ320) → ((-2147483648) ≤ z319 ∧ z319 ≤ 2147483647) → (0 ≤ z318 ∧ z318 ≤ 10) → mT w μ320 → mF [87006, 88999] w μ4 μ320 → ∀ f_s : Int, μ320 87 (6) = f_s → (0 ≤ f_s ∧ f_s ≤ 11) → ((10 ≤ z318) → Q (2 : Int) μ320) ∧ ((z318 < 10) → ∀ z336 : Int, μ320 88 (z318.toNat) = z336 → (0 ≤ z336 ∧ z336 ≤ 9 ∧ (z336 = 0 ∨ z336 < w.2.2.2 0)) → WP_X2_partnerFor_W w μ320 z336 p2 (fun z344 _ => ((-99999999) ≤ z344 ∧ z344 ≤ 9) → ((0 ≤ z344) → ∀ μ347 : mM, mU μ320 88 (f_s.toNat) z344 μ347 → mT w μ347 → ∀ μ350 : mM, mU μ347 87 (6) (f_s + 1) μ350 → mT w μ350 → ∀ z353 : Int, bShr z319 z344 = z353 → ∀ z356 : Int, bAnd z353 (1 : Int) = z356 → ((z356 = 0) → ∀ z361 : Int, bShl (1 : Int) z344 = z361 → ∀ z364 : Int, bOr z319 z361 = z364 → rec1 (z364, (z318 + 1), μ350)) ∧ ((¬ z356 = 0) → Q (2 : Int) μ350)) ∧ ((z344 < 0) → ((¬ z344 = (-4)) → Q (1 : Int) μ320) ∧ ((z344 = (-4)) → Q (0 : Int) μ320))))
def WP_X2_travel_W (w : mW) (μ : mM) (p1 : Int) (p2 : Int) (Q : Int → mM → Prop) : Prop := ∀ μ1 : mM, mU μ 88 ((0 : Int).toNat) p1 μ1 → mT w μ1 → ∀ μ4 : mM, mU μ1 87 (6) (1 : Int) μ4 → mT w μ4 → ∀ z7 : Int, bShl (1 : Int) p1 = z7 → loopF (WL_X2_travel_W_1 w p2 Q μ4) False 12 (z7, (0 : Int), μ4)
set_option maxRecDepth 4000 in
set_option maxHeartbeats 4000000 in
theorem c_X2_travel_W {l : Launch} {D : va_G} {c : Nat → ClassId} {H0 : Heap} {sa : Nat × Nat × (Nat → Int32)} {w : mW} {μ : mM} (hw : mWF w) (hT : mT w μ) {p1 : Int} (hp1 : 0 ≤ p1 ∧ p1 ≤ 9) {p2 : Int} (hp2 : (-2147483648) ≤ p2 ∧ p2 ≤ 2147483647) (hq0 : p1 < w.2.2.2 0) {Q : Int → mM → Prop} (hQ : WP_X2_travel_W w μ p1 p2 Q) : sC (gG l D c H0 sa) mX2_travel 3 0 0 [.ref 87, iv p1, iv p2] (mk w μ) (qI w [87006, 88999] μ (fun z μ1 => ((-2147483648) ≤ z ∧ z ≤ 2147483647) ∧ Q z μ1 ∧ True)) := by
  refine sC.of rfl (by decide) (le_t rfl) ?_
  refine mr_lvE (lv' := [(0, .ref 87), (1, iv p1), (2, iv p2)]) rfl ?_
  refine sv_aload_n (pc := 0) dX2_travel_0 rfl rfl ?_
  refine gf_X2_1 (pc := 1) dX2_travel_1 wF_X2_15 (A_87 hw) hT ?_
  refine mr_iconst (pc := 4) (z := 0) dX2_travel_4 ?_
  refine mr_iload_n (pc := 5) (z := p1) dX2_travel_5 rfl rfl ?_
  refine ss_88 (pc := 6) dX2_travel_6 (A_88 hw) hT (rIx (n := 11) (rR (x := 0)) rfl) (vc_X2_travel_1 hq0 hp1) fun μ1 u2 T3 => ?_
  refine sv_aload_n (pc := 7) dX2_travel_7 rfl rfl ?_
  refine mr_iconst (pc := 8) (z := 1) dX2_travel_8 ?_
  refine pf_X2_6 (pc := 9) dX2_travel_9 wF_X2_77 (A_87 hw) T3 (rW (c := 0) (d := 11) (rR (x := 1)) rfl) fun μ4 u5 T6 => ?_
  refine mr_iconst (pc := 12) (z := 1) dX2_travel_12 ?_
  refine mr_iload_n (pc := 13) (z := p1) dX2_travel_13 rfl rfl ?_
  refine mr_ishl (pc := 14) (x := 1) (y := p1) dX2_travel_14 ?_
  refine mr_gen (P := fun z => (-2147483648) ≤ z ∧ z ≤ 2147483647) (r32i _) fun z7 q8 h9 => ?_
  refine mr_istore_n (pc := 15) (lv' := [(3, iv z7), (0, .ref 87), (1, iv p1), (2, iv p2)]) dX2_travel_15 rfl (by decide) rfl ?_
  refine mr_iconst (pc := 16) (z := 0) dX2_travel_16 ?_
  refine mr_istore (pc := 17) (lv' := [(4, iv 0), (3, iv z7), (0, .ref 87), (1, iv p1), (2, iv p2)]) dX2_travel_17 (by decide) rfl ?_
  have L321 : ∀ (nL321 : Nat) (z319 z318 : Int) (μ320 : mM) (f_s : Int), mT w μ320 → mF [87006, 88999] w μ4 μ320 → μ320 87 (6) = f_s → ((-2147483648) ≤ z319 ∧ z319 ≤ 2147483647) → (0 ≤ z318 ∧ z318 ≤ 10) → (f_s = z318 + 1) → (11 - z318) < (nL321 : Int) → loopF (WL_X2_travel_W_1 w p2 Q μ4) False nL321 (z319, z318, μ320) → sV (gG l D c H0 sa) mX2_travel (sRm 3 0 0) (sZ (gG l D c H0 sa) 0 0 (qI w [87006, 88999] μ (fun z μ1 => ((-2147483648) ≤ z ∧ z ≤ 2147483647) ∧ Q z μ1 ∧ True))) 19 [(0, .ref 87), (2, iv p2), (3, iv z319), (4, iv z318)] [] (mk w μ320) 0 0 := by
    intro nL321
    induction nL321 with
    | zero => intro z319 z318 μ320 f_s T324 F325 q330 h322 h323 h327 h328 W329; exact ((vc_X2_travel_2 h328 h327 h323)).elim
    | succ nL321 ih331 =>
      intro z319 z318 μ320 f_s T324 F325 q330 h322 h323 h327 h328 W329
      have h332 : (0 ≤ f_s ∧ f_s ≤ 11) := by rw [← q330]; exact T324 87 87 (A_87 hw) (6)
      refine mr_iload (pc := 19) (z := z318) dX2_travel_19 rfl ?_
      refine mr_bipush (pc := 21) (z := 10) dX2_travel_21 (by decide) ?_
      refine mr_icmp_ge (pc := 23) (tgt := 103) dX2_travel_23 (by decide) (r32 h323 rfl) (r32 (rR (x := 10)) rfl) (fun h333 => ?_) (fun h333 => ?_)
      · have h334 : 10 ≤ z318 ∧ z318 ≤ 10 := (vc_X2_travel_3 h333 h327 h332 h323)
        refine mr_iconst (pc := 103) (z := 2) dX2_travel_103 ?_
        exact mr_iret dX2_travel_104 rfl (le_t rfl) (le_t rfl) T324 (mF.call (mF.up (mF.up mF.refl (A_88 hw) u2 rfl) (A_87 hw) u5 rfl) F325 rfl) ⟨(rW (c := (-2147483648)) (d := 2147483647) (rR (x := 2)) rfl), (((W329 z319 z318 μ320 rfl h322 h323 T324 F325) f_s q330 h332).1 h333), trivial⟩
      have h335 : 0 ≤ z318 ∧ z318 ≤ 9 := (vc_X2_travel_4 h333 h327 h332 h323)
      refine sv_aload_n (pc := 26) dX2_travel_26 rfl rfl ?_
      refine sv_aload_n (pc := 27) dX2_travel_27 rfl rfl ?_
      refine gf_X2_1 (pc := 28) dX2_travel_28 wF_X2_15 (A_87 hw) T324 ?_
      refine mr_iload (pc := 31) (z := z318) dX2_travel_31 rfl ?_
      refine la_88 (pc := 33) dX2_travel_33 (A_88 hw) T324 (rIx (n := 11) h335 rfl) fun z336 q337 h338 => ?_
      have h339 : 0 ≤ z336 ∧ z336 ≤ 9 := ⟨h338.1, h338.2.1⟩
      refine mr_iload_n (pc := 34) (z := p2) dX2_travel_34 rfl rfl ?_
      refine mr_cVP (pc := 35) (c_X2_partnerFor_W hw T324 h339 hp2 (vc_X2_travel_5 hq0 h338.2.2 hp1 h339) ((((W329 z319 z318 μ320 rfl h322 h323 T324 F325) f_s q330 h332).2 h333) z336 q337 h338)) (gOk _ _ _ _ _) dX2_travel_35 (tX2_partnerFor _ _ _ _ _) ⟨wV_X2_partnerFor, wL_X2_partnerFor⟩ wM_X2_80 (gCX2 _ _ _ _ _) rfl (A_87 hw) rfl ⟨le_t rfl, le_t rfl⟩ ⟨le_t rfl, le_t rfl⟩ rfl (le_t rfl) fun z344 h343 => ?_
      refine mr_istore (pc := 38) (lv' := [(5, iv z344), (0, .ref 87), (2, iv p2), (3, iv z319), (4, iv z318)]) dX2_travel_38 (by decide) rfl ?_
      refine mr_iload (pc := 40) (z := z344) dX2_travel_40 rfl ?_
      refine mr_if_ge (pc := 42) (tgt := 58) dX2_travel_42 (by decide) (r32 h343.1 rfl) (fun h345 => ?_) (fun h345 => ?_)
      · have h346 : 0 ≤ z344 ∧ z344 ≤ 9 := (vc_X2_travel_6 h345 h343.2.1 h343.2.2.1 h343.1)
        refine sv_aload_n (pc := 58) dX2_travel_58 rfl rfl ?_
        refine gf_X2_1 (pc := 59) dX2_travel_59 wF_X2_15 (A_87 hw) T324 ?_
        refine sv_aload_n (pc := 62) dX2_travel_62 rfl rfl ?_
        refine gk_X2_6 (pc := 63) dX2_travel_63 wF_X2_77 (A_87 hw) q330 ?_
        refine mr_iload (pc := 66) (z := z344) dX2_travel_66 rfl ?_
        refine ss_88 (pc := 68) dX2_travel_68 (A_88 hw) T324 (vc_X2_travel_7 h327 h333 h332 h335) (vc_X2_travel_8 hq0 h338.2.2 h343.2.1 h343.2.2.1 h345 hp1 h339 h346) fun μ347 u348 T349 => ?_
        refine sv_aload_n (pc := 69) dX2_travel_69 rfl rfl ?_
        refine sv_dup (pc := 70) dX2_travel_70 rfl ?_
        refine gk_X2_6 (pc := 71) dX2_travel_71 wF_X2_77 (A_87 hw) (u348.f (Or.inl (mAt.ne (A_88 hw) (A_87 hw) rfl)) q330) ?_
        refine mr_iconst (pc := 74) (z := 1) dX2_travel_74 ?_
        refine mr_iadd (pc := 75) (x := f_s) (y := 1) dX2_travel_75 ?_
        refine pf_X2_6 (pc := 76) dX2_travel_76 wF_X2_77 (A_87 hw) T349 (vc_X2_travel_9 h327 h333 h332 h335) fun μ350 u351 T352 => ?_
        refine mr_iload_n (pc := 79) (z := z319) dX2_travel_79 rfl rfl ?_
        refine mr_iload (pc := 80) (z := z344) dX2_travel_80 rfl ?_
        refine mr_ishr (pc := 82) (x := z319) (y := z344) dX2_travel_82 ?_
        refine mr_gen (P := fun z => (-2147483648) ≤ z ∧ z ≤ 2147483647) (r32i _) fun z353 q354 h355 => ?_
        refine mr_iconst (pc := 83) (z := 1) dX2_travel_83 ?_
        refine mr_iand (pc := 84) (x := z353) (y := 1) dX2_travel_84 ?_
        refine mr_gen (P := fun z => 0 ≤ z ∧ z ≤ 1) (rAndR (rR (x := 1)) rfl) fun z356 q357 h358 => ?_
        refine mr_if_eq (pc := 85) (tgt := 90) dX2_travel_85 (by decide) (r32 h358 rfl) (fun h359 => ?_) (fun h359 => ?_)
        · have h360 : 0 ≤ z356 ∧ z356 ≤ 0 := (vc_X12_ring_22 h359 h358)
          refine mr_iload_n (pc := 90) (z := z319) dX2_travel_90 rfl rfl ?_
          refine mr_iconst (pc := 91) (z := 1) dX2_travel_91 ?_
          refine mr_iload (pc := 92) (z := z344) dX2_travel_92 rfl ?_
          refine mr_ishl (pc := 94) (x := 1) (y := z344) dX2_travel_94 ?_
          refine mr_gen (P := fun z => (-2147483648) ≤ z ∧ z ≤ 2147483647) (r32i _) fun z361 q362 h363 => ?_
          refine mr_ior (pc := 95) (x := z319) (y := z361) dX2_travel_95 ?_
          refine mr_gen (P := fun z => (-2147483648) ≤ z ∧ z ≤ 2147483647) (r32i _) fun z364 q365 h366 => ?_
          refine mr_istore_n (pc := 96) (lv' := [(3, iv z364), (5, iv z344), (0, .ref 87), (2, iv p2), (4, iv z318)]) dX2_travel_96 rfl (by decide) rfl ?_
          refine mr_iinc (pc := 97) (lv' := [(4, iv (z318 + 1)), (3, iv z364), (5, iv z344), (0, .ref 87), (2, iv p2)]) dX2_travel_97 rfl (by decide) rfl ?_
          refine sv_goto (pc := 100) (tgt := 19) dX2_travel_100 (by decide) ?_
          refine mr_lvS (lv' := [(0, .ref 87), (2, iv p2), (3, iv z364), (4, iv (z318 + 1))]) (List.forall_mem_cons.mpr ⟨rfl, List.forall_mem_cons.mpr ⟨rfl, List.forall_mem_cons.mpr ⟨rfl, List.forall_mem_cons.mpr ⟨rfl, fun _ h => absurd h List.not_mem_nil⟩⟩⟩⟩) ?_
          exact ih331 z364 (z318 + 1) μ350 (f_s + 1) T352 (mF.up (mF.up (mF.call mF.refl F325 rfl) (A_88 hw) u348 rfl) (A_87 hw) u351 rfl) u351.1 h366 (rW (c := 0) (d := 10) (rAdd (e := 1) (f := 10) h335 (rR (x := 1)) rfl) rfl) (vc_X2_travel_11 h327 h333 h332 h335) (vc_X2_travel_12 (nS h328) h327 h333 h332 h335) (((((((((h343.2.2.2.1 h343.1).1 h345) μ347 u348 T349) μ350 u351 T352) z353 q354) z356 q357).1 h359) z361 q362) z364 q365)
        have h367 : 1 ≤ z356 ∧ z356 ≤ 1 := (vc_X12_ring_24 h359 h358)
        refine mr_iconst (pc := 88) (z := 2) dX2_travel_88 ?_
        exact mr_iret dX2_travel_89 rfl (le_t rfl) (le_t rfl) T352 (mF.up (mF.up (mF.call (mF.up (mF.up mF.refl (A_88 hw) u2 rfl) (A_87 hw) u5 rfl) F325 rfl) (A_88 hw) u348 rfl) (A_87 hw) u351 rfl) ⟨(rW (c := (-2147483648)) (d := 2147483647) (rR (x := 2)) rfl), (((((((h343.2.2.2.1 h343.1).1 h345) μ347 u348 T349) μ350 u351 T352) z353 q354) z356 q357).2 h359), trivial⟩
      have h368 : (-99999999) ≤ z344 ∧ z344 ≤ (-4) := (vc_X2_travel_14 h345 h343.2.1 h343.2.2.1 h343.1)
      refine mr_iload (pc := 45) (z := z344) dX2_travel_45 rfl ?_
      refine mr_bipush (pc := 47) (z := (-4)) dX2_travel_47 (by decide) ?_
      refine mr_icmp_ne (pc := 49) (tgt := 56) dX2_travel_49 (by decide) (r32 h368 rfl) (r32 (rR (x := (-4))) rfl) (fun h371 => ?_) (fun h371 => ?_)
      · have h372 : (-99999999) ≤ z344 ∧ z344 ≤ (-99999999) := (vc_X2_travel_15 h371 h343.2.1 h343.2.2.1 h345 h368)
        refine mr_iconst (pc := 56) (z := 1) dX2_travel_56 ?_
        exact mr_iret dX2_travel_57 rfl (le_t rfl) (le_t rfl) T324 (mF.call (mF.up (mF.up mF.refl (A_88 hw) u2 rfl) (A_87 hw) u5 rfl) F325 rfl) ⟨(rW (c := (-2147483648)) (d := 2147483647) (rR (x := 1)) rfl), (((h343.2.2.2.1 h343.1).2 h345).1 h371), trivial⟩
      have h373 : (-4) ≤ z344 ∧ z344 ≤ (-4) := (vc_X2_travel_16 h371 h343.2.1 h343.2.2.1 h345 h368)
      refine mr_iconst (pc := 52) (z := 0) dX2_travel_52 ?_
      refine sv_goto (pc := 53) (tgt := 57) dX2_travel_53 (by decide) ?_
      exact mr_iret dX2_travel_57 rfl (le_t rfl) (le_t rfl) T324 (mF.call (mF.up (mF.up mF.refl (A_88 hw) u2 rfl) (A_87 hw) u5 rfl) F325 rfl) ⟨(rW (c := (-2147483648)) (d := 2147483647) (rR (x := 0)) rfl), (((h343.2.2.2.1 h343.1).2 h345).2 h371), trivial⟩
  refine mr_lvS (lv' := [(0, .ref 87), (2, iv p2), (3, iv z7), (4, iv 0)]) (List.forall_mem_cons.mpr ⟨rfl, List.forall_mem_cons.mpr ⟨rfl, List.forall_mem_cons.mpr ⟨rfl, List.forall_mem_cons.mpr ⟨rfl, fun _ h => absurd h List.not_mem_nil⟩⟩⟩⟩) ?_
  exact L321 12 z7 0 μ4 1 T6 mF.refl u5.1 h9 (rW (c := 0) (d := 10) (rR (x := 0)) rfl) vc_X2_travel_17 vc_X12_ring_27 (((hQ μ1 u2 T3) μ4 u5 T6) z7 q8)
def WP_X2_send_W (w : mW) (μ : mM) (p1 : Int) (p2 : Int) (Q : Int → mM → Prop) : Prop := WP_X2_travel_W w μ p1 p2 (fun z5 μ1 => mT w μ1 → mF [87006, 88999] w μ μ1 → ((-2147483648) ≤ z5 ∧ z5 ≤ 2147483647) → ∀ z6 : Int, μ1 87 6 = z6 → (0 ≤ z6 ∧ z6 ≤ 11) → ∀ μ9 : mM, mQ μ1 88 89 (0 : Int) (0 : Int) z6 μ9 → mT w μ9 → ∀ μ13 : mM, mU μ9 87 (9) z6 μ13 → mT w μ13 → Q z5 μ13)
def WP_X11_letter_W (w : mW) (μ : mM) (p1 : Int) (p2 : Int) (Q : Int → mM → Prop) : Prop := ∀ z1 : Int, μ 6 15 = z1 → (z1 = w.2.2.2 0 ∧ 0 ≤ z1 ∧ z1 ≤ 10) → WP_X11_isDomain_W w μ p1 (fun z8 _ => (0 ≤ z8 ∧ z8 ≤ 1) → ((z8 = 0) → Q ((-1) : Int) μ) ∧ ((¬ z8 = 0) → WP_X2_send_W w μ p1 p2 (fun z31 μ27 => mT w μ27 → mF [87006, 87009, 88999, 89999] w μ μ27 → ((-2147483648) ≤ z31 ∧ z31 ≤ 2147483647) → Q z31 μ27)))
def WL_X12_sends_W_1 (w : mW) (μ : mM) (p1 : Int) (p2 : Int) (Q : Int → mM → Prop) (rec1 : (Int × Int) → Prop) (s : (Int × Int)) : Prop := ∀ z223 : Int, ∀ z222 : Int, s = (z223, z222) → ((-99999999) ≤ z223 ∧ z223 ≤ 9) → (0 ≤ z222 ∧ z222 ≤ 10) → ∀ z234 : Int, μ 106 2 = z234 → (0 ≤ z234 ∧ z234 ≤ 10) → ((z234 ≤ z222) → ((¬ z223 = (-99999999)) → ∀ z274 : Int, μ 161 (((10 * p1) + z223).toNat) = z274 → (z274 = -99999999 ∨ z274 = -4 ∨ (0 ≤ z274 ∧ z274 ≤ 19)) → Q z274 μ) ∧ ((z223 = (-99999999)) → Q ((-99999999) : Int) μ)) ∧ ((z222 < z234) → ∀ z281 : Int, μ 161 (((10 * p1) + z222).toNat) = z281 → (z281 = -99999999 ∨ z281 = -4 ∨ (0 ≤ z281 ∧ z281 ≤ 19)) → ((z281 = (-99999999)) → rec1 (z223, (z222 + 1))) ∧ ((¬ z281 = (-99999999)) → ∀ z310 : Int, μ 108 (z222.toNat) = z310 → ((-2147483648) ≤ z310 ∧ z310 ≤ 2147483647) → ∀ z313 : Int, μ 109 (z222.toNat) = z313 → (0 ≤ z313 ∧ z313 ≤ 32) → WP_X12_holds_W w μ z310 z313 p2 (fun z320 _ => (0 ≤ z320 ∧ z320 ≤ 1) → ((¬ z320 = 0) → ((z223 = (-99999999)) → rec1 (z222, (z222 + 1))) ∧ ((¬ z223 = (-99999999)) → ∀ z343 : Int, μ 109 (z223.toNat) = z343 → (0 ≤ z343 ∧ z343 ≤ 32) → ((z313 ≤ z343) → rec1 (z223, (z222 + 1))) ∧ ((z343 < z313) → rec1 (z222, (z222 + 1))))) ∧ ((z320 = 0) → rec1 (z223, (z222 + 1))))))
def WP_X12_sends_W (w : mW) (μ : mM) (p1 : Int) (p2 : Int) (Q : Int → mM → Prop) : Prop := loopF (WL_X12_sends_W_1 w μ p1 p2 Q) False 12 (((-99999999) : Int), (0 : Int))
set_option maxRecDepth 4000 in
set_option maxHeartbeats 4000000 in
theorem c_X12_sends_W {l : Launch} {D : va_G} {c : Nat → ClassId} {H0 : Heap} {sa : Nat × Nat × (Nat → Int32)} {w : mW} {μ : mM} (hw : mWF w) (hT : mT w μ) {p1 : Int} (hp1 : 0 ≤ p1 ∧ p1 ≤ 9) {p2 : Int} (hp2 : (-2147483648) ≤ p2 ∧ p2 ≤ 2147483647) {Q : Int → mM → Prop} (hQ : WP_X12_sends_W w μ p1 p2 Q) : sC (gG l D c H0 sa) mX12_sends 3 0 0 [.ref 106, iv p1, iv p2] (mk w μ) (qP w μ (fun z => ((-99999999) ≤ z ∧ z ≤ 19) ∧ (z = -99999999 ∨ z = -4 ∨ (0 ≤ z ∧ z ≤ 19)) ∧ Q z μ ∧ True)) := by
  refine sC.of rfl (by decide) (le_t rfl) ?_
  refine mr_lvE (lv' := [(0, .ref 106), (1, iv p1), (2, iv p2)]) rfl ?_
  refine mr_ldc (pc := 0) (z := (-99999999)) dX12_sends_0 wG_X12_29 (by decide) ?_
  refine mr_istore_n (pc := 2) (lv' := [(3, iv (-99999999)), (0, .ref 106), (1, iv p1), (2, iv p2)]) dX12_sends_2 rfl (by decide) rfl ?_
  refine mr_iconst (pc := 3) (z := 0) dX12_sends_3 ?_
  refine mr_istore (pc := 4) (lv' := [(4, iv 0), (3, iv (-99999999)), (0, .ref 106), (1, iv p1), (2, iv p2)]) dX12_sends_4 (by decide) rfl ?_
  have L224 : ∀ (nL224 : Nat) (z223 z222 : Int), True → ((-99999999) ≤ z223 ∧ z223 ≤ 9) → (0 ≤ z222 ∧ z222 ≤ 10) → (z223 = (-99999999) ∨ (0 ≤ z223 ∧ z223 ≤ 9)) → (11 - z222) < (nL224 : Int) → loopF (WL_X12_sends_W_1 w μ p1 p2 Q) False nL224 (z223, z222) → sV (gG l D c H0 sa) mX12_sends (sRm 3 0 0) (sZ (gG l D c H0 sa) 0 0 (qP w μ (fun z => ((-99999999) ≤ z ∧ z ≤ 19) ∧ (z = -99999999 ∨ z = -4 ∨ (0 ≤ z ∧ z ≤ 19)) ∧ Q z μ ∧ True))) 6 [(0, .ref 106), (1, iv p1), (2, iv p2), (3, iv z223), (4, iv z222)] [] (mk w μ) 0 0 := by
    intro nL224
    induction nL224 with
    | zero => intro z223 z222 _ h225 h226 h230 h231 W232; exact ((vc_X12_ring_2 h231 h226)).elim
    | succ nL224 ih233 =>
      intro z223 z222 _ h225 h226 h230 h231 W232
      refine mr_iload (pc := 6) (z := z222) dX12_sends_6 rfl ?_
      refine sv_aload_n (pc := 8) dX12_sends_8 rfl rfl ?_
      refine gf_X12_2 (pc := 9) dX12_sends_9 wF_X12_15 (A_106 hw) hT fun z234 q235 h236 => ?_
      refine mr_icmp_ge (pc := 12) (tgt := 87) dX12_sends_12 (by decide) (r32 h226 rfl) (r32 h236 rfl) (fun h265 => ?_) (fun h265 => ?_)
      · refine mr_iload_n (pc := 87) (z := z223) dX12_sends_87 rfl rfl ?_
        refine mr_ldc (pc := 88) (z := (-99999999)) dX12_sends_88 wG_X12_29 (by decide) ?_
        refine mr_icmp_ne (pc := 90) (tgt := 98) dX12_sends_90 (by decide) (r32 h225 rfl) (r32 (rR (x := (-99999999))) rfl) (fun h272 => ?_) (fun h272 => ?_)
        · have h273 : 0 ≤ z223 ∧ z223 ≤ 9 := (vc_X12_sends_2 h272 h225 h230)
          refine sv_aload_n (pc := 98) dX12_sends_98 rfl rfl ?_
          refine gf_X12_81 (pc := 99) dX12_sends_99 wF_X12_445 (A_106 hw) hT ?_
          refine mr_bipush (pc := 102) (z := 10) dX12_sends_102 (by decide) ?_
          refine mr_iload_n (pc := 104) (z := p1) dX12_sends_104 rfl rfl ?_
          refine mr_imul (pc := 105) (x := 10) (y := p1) dX12_sends_105 ?_
          refine mr_iload_n (pc := 106) (z := z223) dX12_sends_106 rfl rfl ?_
          refine mr_iadd (pc := 107) (x := (10 * p1)) (y := z223) dX12_sends_107 ?_
          refine la_161 (pc := 108) dX12_sends_108 (A_161 hw) hT (rIx (n := 100) (rAdd (e := 0) (f := 99) (rMulL (n := 10) (e := 0) (f := 90) hp1 rfl) h273 rfl) rfl) fun z274 q275 h276 => ?_
          have h277 : (-99999999) ≤ z274 ∧ z274 ≤ 19 := (vc_X12_sends_3 h276)
          exact mr_iretP dX12_sends_109 rfl (le_t rfl) (le_t rfl) ⟨h277, (vc_X12_sends_4 h277 h276), (((((W232 z223 z222 rfl h225 h226) z234 q235 h236).1 h265).1 h272) z274 q275 h276), trivial⟩
        have h278 : (-99999999) ≤ z223 ∧ z223 ≤ (-99999999) := (vc_X12_sends_5 h272 h225 h230)
        refine mr_ldc (pc := 93) (z := (-99999999)) dX12_sends_93 wG_X12_29 (by decide) ?_
        refine sv_goto (pc := 95) (tgt := 109) dX12_sends_95 (by decide) ?_
        exact mr_iretP dX12_sends_109 rfl (le_t rfl) (le_t rfl) ⟨(rW (c := (-99999999)) (d := 19) (rR (x := (-99999999))) rfl), vc_X12_sends_6, ((((W232 z223 z222 rfl h225 h226) z234 q235 h236).1 h265).2 h272), trivial⟩
      have h279 : 0 ≤ z222 ∧ z222 ≤ 9 := (vc_X12_ring_3 h265 h226 h236)
      have h280 : 1 ≤ z234 ∧ z234 ≤ 10 := (vc_X12_ring_4 h265 h279 h236)
      refine sv_aload_n (pc := 15) dX12_sends_15 rfl rfl ?_
      refine gf_X12_81 (pc := 16) dX12_sends_16 wF_X12_445 (A_106 hw) hT ?_
      refine mr_bipush (pc := 19) (z := 10) dX12_sends_19 (by decide) ?_
      refine mr_iload_n (pc := 21) (z := p1) dX12_sends_21 rfl rfl ?_
      refine mr_imul (pc := 22) (x := 10) (y := p1) dX12_sends_22 ?_
      refine mr_iload (pc := 23) (z := z222) dX12_sends_23 rfl ?_
      refine mr_iadd (pc := 25) (x := (10 * p1)) (y := z222) dX12_sends_25 ?_
      refine la_161 (pc := 26) dX12_sends_26 (A_161 hw) hT (rIx (n := 100) (rAdd (e := 0) (f := 99) (rMulL (n := 10) (e := 0) (f := 90) hp1 rfl) h279 rfl) rfl) fun z281 q282 h283 => ?_
      have h284 : (-99999999) ≤ z281 ∧ z281 ≤ 19 := (vc_X12_sends_3 h283)
      refine mr_ldc (pc := 27) (z := (-99999999)) dX12_sends_27 wG_X12_29 (by decide) ?_
      refine mr_icmp_eq (pc := 29) (tgt := 81) dX12_sends_29 (by decide) (r32 h284 rfl) (r32 (rR (x := (-99999999))) rfl) (fun h307 => ?_) (fun h307 => ?_)
      · have h308 : (-99999999) ≤ z281 ∧ z281 ≤ (-99999999) := (vc_X12_sends_10 h307 h284 h283)
        refine mr_iinc (pc := 81) (lv' := [(4, iv (z222 + 1)), (0, .ref 106), (1, iv p1), (2, iv p2), (3, iv z223)]) dX12_sends_81 rfl (by decide) rfl ?_
        refine sv_goto (pc := 84) (tgt := 6) dX12_sends_84 (by decide) ?_
        refine mr_lvS (lv' := [(0, .ref 106), (1, iv p1), (2, iv p2), (3, iv z223), (4, iv (z222 + 1))]) (List.forall_mem_cons.mpr ⟨rfl, List.forall_mem_cons.mpr ⟨rfl, List.forall_mem_cons.mpr ⟨rfl, List.forall_mem_cons.mpr ⟨rfl, List.forall_mem_cons.mpr ⟨rfl, fun _ h => absurd h List.not_mem_nil⟩⟩⟩⟩⟩) ?_
        exact ih233 z223 (z222 + 1) trivial h225 (rW (c := 0) (d := 10) (rAdd (e := 1) (f := 10) h279 (rR (x := 1)) rfl) rfl) (vc_X12_sends_12 h225 h230) (vc_X12_sends_11 (nS h231) h265 h279 h280) (((((W232 z223 z222 rfl h225 h226) z234 q235 h236).2 h265) z281 q282 h283).1 h307)
      have h309 : (-4) ≤ z281 ∧ z281 ≤ 19 := (vc_X12_sends_13 h307 h284 h283)
      refine sv_aload_n (pc := 32) dX12_sends_32 rfl rfl ?_
      refine gf_X12_3 (pc := 33) dX12_sends_33 wF_X12_22 (A_106 hw) hT ?_
      refine mr_iload (pc := 36) (z := z222) dX12_sends_36 rfl ?_
      refine la_108 (pc := 38) dX12_sends_38 (A_108 hw) hT (rIx (n := 10) h279 rfl) fun z310 q311 h312 => ?_
      refine sv_aload_n (pc := 39) dX12_sends_39 rfl rfl ?_
      refine gf_X12_4 (pc := 40) dX12_sends_40 wF_X12_26 (A_106 hw) hT ?_
      refine mr_iload (pc := 43) (z := z222) dX12_sends_43 rfl ?_
      refine la_109 (pc := 45) dX12_sends_45 (A_109 hw) hT (rIx (n := 10) h279 rfl) fun z313 q314 h315 => ?_
      refine mr_iload_n (pc := 46) (z := p2) dX12_sends_46 rfl rfl ?_
      have W321 := (((((((W232 z223 z222 rfl h225 h226) z234 q235 h236).2 h265) z281 q282 h283).2 h307) z310 q311 h312) z313 q314 h315)
      refine mr_cSP (pc := 47) (c_X12_holds_W hw hT h312 (rW (c := (-2147483648)) (d := 2147483647) h315 rfl) hp2 W321) (gOk _ _ _ _ _) dX12_sends_47 (tX12_holds _ _ _ _ _) wS_X12_holds wM_X12_142 ⟨le_t rfl, le_t rfl⟩ ⟨le_t rfl, le_t rfl⟩ rfl (le_t rfl) fun z320 h319 => ?_
      refine mr_if_ne (pc := 50) (tgt := 56) dX12_sends_50 (by decide) (r32 h319.1 rfl) (fun h331 => ?_) (fun h331 => ?_)
      · have h332 : 1 ≤ z320 ∧ z320 ≤ 1 := (vc_X12_ring_24 h331 h319.1)
        refine mr_iload_n (pc := 56) (z := z223) dX12_sends_56 rfl rfl ?_
        refine mr_ldc (pc := 57) (z := (-99999999)) dX12_sends_57 wG_X12_29 (by decide) ?_
        refine mr_icmp_eq (pc := 59) (tgt := 78) dX12_sends_59 (by decide) (r32 h225 rfl) (r32 (rR (x := (-99999999))) rfl) (fun h340 => ?_) (fun h340 => ?_)
        · have h341 : (-99999999) ≤ z223 ∧ z223 ≤ (-99999999) := (vc_X12_sends_5 h340 h225 h230)
          refine mr_iload (pc := 78) (z := z222) dX12_sends_78 rfl ?_
          refine mr_istore_n (pc := 80) (lv' := [(3, iv z222), (0, .ref 106), (1, iv p1), (2, iv p2), (4, iv z222)]) dX12_sends_80 rfl (by decide) rfl ?_
          refine mr_iinc (pc := 81) (lv' := [(4, iv (z222 + 1)), (3, iv z222), (0, .ref 106), (1, iv p1), (2, iv p2)]) dX12_sends_81 rfl (by decide) rfl ?_
          refine sv_goto (pc := 84) (tgt := 6) dX12_sends_84 (by decide) ?_
          refine mr_lvS (lv' := [(0, .ref 106), (1, iv p1), (2, iv p2), (3, iv z222), (4, iv (z222 + 1))]) (List.forall_mem_cons.mpr ⟨rfl, List.forall_mem_cons.mpr ⟨rfl, List.forall_mem_cons.mpr ⟨rfl, List.forall_mem_cons.mpr ⟨rfl, List.forall_mem_cons.mpr ⟨rfl, fun _ h => absurd h List.not_mem_nil⟩⟩⟩⟩⟩) ?_
          exact ih233 z222 (z222 + 1) trivial (rW (c := (-99999999)) (d := 9) h279 rfl) (rW (c := 0) (d := 10) (rAdd (e := 1) (f := 10) h279 (rR (x := 1)) rfl) rfl) (vc_X12_sends_15 h265 h279 h280) (vc_X12_sends_11 (nS h231) h265 h279 h280) (((h319.2.1 h319.1).1 h331).1 h340)
        have h342 : 0 ≤ z223 ∧ z223 ≤ 9 := (vc_X12_sends_2 h340 h225 h230)
        refine sv_aload_n (pc := 62) dX12_sends_62 rfl rfl ?_
        refine gf_X12_4 (pc := 63) dX12_sends_63 wF_X12_26 (A_106 hw) hT ?_
        refine mr_iload (pc := 66) (z := z222) dX12_sends_66 rfl ?_
        refine lk_109 (pc := 68) dX12_sends_68 (A_109 hw) (rIx (n := 10) h279 rfl) q314 ?_
        refine sv_aload_n (pc := 69) dX12_sends_69 rfl rfl ?_
        refine gf_X12_4 (pc := 70) dX12_sends_70 wF_X12_26 (A_106 hw) hT ?_
        refine mr_iload_n (pc := 73) (z := z223) dX12_sends_73 rfl rfl ?_
        refine la_109 (pc := 74) dX12_sends_74 (A_109 hw) hT (rIx (n := 10) h342 rfl) fun z343 q344 h345 => ?_
        refine mr_icmp_le (pc := 75) (tgt := 81) dX12_sends_75 (by decide) (r32 h315 rfl) (r32 h345 rfl) (fun h348 => ?_) (fun h348 => ?_)
        · refine mr_iinc (pc := 81) (lv' := [(4, iv (z222 + 1)), (0, .ref 106), (1, iv p1), (2, iv p2), (3, iv z223)]) dX12_sends_81 rfl (by decide) rfl ?_
          refine sv_goto (pc := 84) (tgt := 6) dX12_sends_84 (by decide) ?_
          refine mr_lvS (lv' := [(0, .ref 106), (1, iv p1), (2, iv p2), (3, iv z223), (4, iv (z222 + 1))]) (List.forall_mem_cons.mpr ⟨rfl, List.forall_mem_cons.mpr ⟨rfl, List.forall_mem_cons.mpr ⟨rfl, List.forall_mem_cons.mpr ⟨rfl, List.forall_mem_cons.mpr ⟨rfl, fun _ h => absurd h List.not_mem_nil⟩⟩⟩⟩⟩) ?_
          exact ih233 z223 (z222 + 1) trivial (rW (c := (-99999999)) (d := 9) h342 rfl) (rW (c := 0) (d := 10) (rAdd (e := 1) (f := 10) h279 (rR (x := 1)) rfl) rfl) (vc_X12_sends_16 h340 h342 h230) (vc_X12_sends_11 (nS h231) h265 h279 h280) (((((h319.2.1 h319.1).1 h331).2 h340) z343 q344 h345).1 h348)
        have h349 : 1 ≤ z313 ∧ z313 ≤ 32 := (vc_X12_judgedAnew_7 h348 h315 h345)
        have h350 : 0 ≤ z343 ∧ z343 ≤ 31 := (vc_X12_judgedAnew_8 h348 h349 h345)
        refine mr_iload (pc := 78) (z := z222) dX12_sends_78 rfl ?_
        refine mr_istore_n (pc := 80) (lv' := [(3, iv z222), (0, .ref 106), (1, iv p1), (2, iv p2), (4, iv z222)]) dX12_sends_80 rfl (by decide) rfl ?_
        refine mr_iinc (pc := 81) (lv' := [(4, iv (z222 + 1)), (3, iv z222), (0, .ref 106), (1, iv p1), (2, iv p2)]) dX12_sends_81 rfl (by decide) rfl ?_
        refine sv_goto (pc := 84) (tgt := 6) dX12_sends_84 (by decide) ?_
        refine mr_lvS (lv' := [(0, .ref 106), (1, iv p1), (2, iv p2), (3, iv z222), (4, iv (z222 + 1))]) (List.forall_mem_cons.mpr ⟨rfl, List.forall_mem_cons.mpr ⟨rfl, List.forall_mem_cons.mpr ⟨rfl, List.forall_mem_cons.mpr ⟨rfl, List.forall_mem_cons.mpr ⟨rfl, fun _ h => absurd h List.not_mem_nil⟩⟩⟩⟩⟩) ?_
        exact ih233 z222 (z222 + 1) trivial (rW (c := (-99999999)) (d := 9) h279 rfl) (rW (c := 0) (d := 10) (rAdd (e := 1) (f := 10) h279 (rR (x := 1)) rfl) rfl) (vc_X12_sends_15 h265 h279 h280) (vc_X12_sends_11 (nS h231) h265 h279 h280) (((((h319.2.1 h319.1).1 h331).2 h340) z343 q344 h345).2 h348)
      have h351 : 0 ≤ z320 ∧ z320 ≤ 0 := (vc_X12_ring_22 h331 h319.1)
      refine sv_goto (pc := 53) (tgt := 81) dX12_sends_53 (by decide) ?_
      refine mr_iinc (pc := 81) (lv' := [(4, iv (z222 + 1)), (0, .ref 106), (1, iv p1), (2, iv p2), (3, iv z223)]) dX12_sends_81 rfl (by decide) rfl ?_
      refine sv_goto (pc := 84) (tgt := 6) dX12_sends_84 (by decide) ?_
      refine mr_lvS (lv' := [(0, .ref 106), (1, iv p1), (2, iv p2), (3, iv z223), (4, iv (z222 + 1))]) (List.forall_mem_cons.mpr ⟨rfl, List.forall_mem_cons.mpr ⟨rfl, List.forall_mem_cons.mpr ⟨rfl, List.forall_mem_cons.mpr ⟨rfl, List.forall_mem_cons.mpr ⟨rfl, fun _ h => absurd h List.not_mem_nil⟩⟩⟩⟩⟩) ?_
      exact ih233 z223 (z222 + 1) trivial h225 (rW (c := 0) (d := 10) (rAdd (e := 1) (f := 10) h279 (rR (x := 1)) rfl) rfl) (vc_X12_sends_12 h225 h230) (vc_X12_sends_11 (nS h231) h265 h279 h280) ((h319.2.1 h319.1).2 h331)
  refine mr_lvS (lv' := [(0, .ref 106), (1, iv p1), (2, iv p2), (3, iv (-99999999)), (4, iv 0)]) (List.forall_mem_cons.mpr ⟨rfl, List.forall_mem_cons.mpr ⟨rfl, List.forall_mem_cons.mpr ⟨rfl, List.forall_mem_cons.mpr ⟨rfl, List.forall_mem_cons.mpr ⟨rfl, fun _ h => absurd h List.not_mem_nil⟩⟩⟩⟩⟩) ?_
  exact L224 12 (-99999999) 0 trivial (rW (c := (-99999999)) (d := 9) (rR (x := (-99999999))) rfl) (rW (c := 0) (d := 10) (rR (x := 0)) rfl) vc_X12_sends_21 vc_X12_ring_27 hQ
def WL_X12_goes_W_2 (w : mW) (p2 : Int) (Q : Int → mM → Prop) (rec1 : (Int × mM) → Prop) (z136 : Int) (μ137 : mM) (f_m : Int) (rec2 : (Int × Int) → Prop) (s : (Int × Int)) : Prop := ∀ z396 : Int, ∀ z395 : Int, s = (z396, z395) → (0 ≤ z396 ∧ z396 ≤ 1) → (0 ≤ z395 ∧ z395 ≤ 10) → ((f_m ≤ z395) → ∀ μ416 : mM, mU μ137 175 (f_m.toNat) z136 μ416 → mT w μ416 → ∀ μ419 : mM, mU μ416 106 (106) (f_m + 1) μ419 → mT w μ419 → ((z396 = 0) → WP_X12_sends_W w μ419 z136 p2 (fun z428 _ => ((-99999999) ≤ z428 ∧ z428 ≤ 19) → ((¬ z428 = (-4)) → ((¬ z428 = (-99999999)) → WP_X12_partnerOf_W w μ419 z428 z136 (fun z436 _ => (0 ≤ z436 ∧ z436 ≤ 9) → rec1 (z436, μ419))) ∧ ((z428 = (-99999999)) → Q (1 : Int) μ419)) ∧ ((z428 = (-4)) → Q (0 : Int) μ419))) ∧ ((¬ z396 = 0) → Q (2 : Int) μ419)) ∧ ((z395 < f_m) → ((¬ z396 = 0) → rec2 ((1 : Int), (z395 + 1))) ∧ ((z396 = 0) → ∀ z445 : Int, μ137 175 (z395.toNat) = z445 → (0 ≤ z445 ∧ z445 ≤ 9) → ((¬ z445 = z136) → rec2 ((0 : Int), (z395 + 1))) ∧ ((z445 = z136) → rec2 ((1 : Int), (z395 + 1)))))
def WL_X12_goes_W_1 (w : mW) (p2 : Int) (Q : Int → mM → Prop) (μ1 : mM) (rec1 : (Int × mM) → Prop) (s : (Int × mM)) : Prop := ∀ z136 : Int, ∀ μ137 : mM, s = (z136, μ137) → (0 ≤ z136 ∧ z136 ≤ 9) → mT w μ137 → mF [106106, 175999] w μ1 μ137 → ∀ f_m : Int, μ137 106 (106) = f_m → (0 ≤ f_m ∧ f_m ≤ 12) → loopF (WL_X12_goes_W_2 w p2 Q rec1 z136 μ137 f_m) False 12 ((0 : Int), (0 : Int))
def WP_X12_goes_W (w : mW) (μ : mM) (p1 : Int) (p2 : Int) (Q : Int → mM → Prop) : Prop := ∀ μ1 : mM, mU μ 106 (106) (0 : Int) μ1 → mT w μ1 → loopF (WL_X12_goes_W_1 w p2 Q μ1) False 13 (p1, μ1)
set_option maxRecDepth 4000 in
set_option maxHeartbeats 4000000 in
theorem c_X12_goes_W {l : Launch} {D : va_G} {c : Nat → ClassId} {H0 : Heap} {sa : Nat × Nat × (Nat → Int32)} {w : mW} {μ : mM} (hw : mWF w) (hT : mT w μ) {p1 : Int} (hp1 : 0 ≤ p1 ∧ p1 ≤ 9) {p2 : Int} (hp2 : (-2147483648) ≤ p2 ∧ p2 ≤ 2147483647) {Q : Int → mM → Prop} (hQ : WP_X12_goes_W w μ p1 p2 Q) : sC (gG l D c H0 sa) mX12_goes 4 0 0 [.ref 106, iv p1, iv p2] (mk w μ) (qI w [106106, 175999] μ (fun z μ1 => (0 ≤ z ∧ z ≤ 2) ∧ Q z μ1 ∧ True)) := by
  refine sC.of rfl (by decide) (le_t rfl) ?_
  refine mr_lvE (lv' := [(0, .ref 106), (1, iv p1), (2, iv p2)]) rfl ?_
  refine sv_aload_n (pc := 0) dX12_goes_0 rfl rfl ?_
  refine mr_iconst (pc := 1) (z := 0) dX12_goes_1 ?_
  refine pf_X12_106 (pc := 2) dX12_goes_2 wF_X12_683 (A_106 hw) hT (rW (c := 0) (d := 12) (rR (x := 0)) rfl) fun μ1 u2 T3 => ?_
  refine mr_iload_n (pc := 5) (z := p1) dX12_goes_5 rfl rfl ?_
  refine mr_istore_n (pc := 6) (lv' := [(3, iv p1), (0, .ref 106), (1, iv p1), (2, iv p2)]) dX12_goes_6 rfl (by decide) rfl ?_
  have L138 : ∀ (nL138 : Nat) (z136 : Int) (μ137 : mM) (f_m : Int), mT w μ137 → mF [106106, 175999] w μ1 μ137 → μ137 106 (106) = f_m → (0 ≤ z136 ∧ z136 ≤ 9) → dist μ137 175 f_m → (12 - f_m) < (nL138 : Int) → loopF (WL_X12_goes_W_1 w p2 Q μ1) False nL138 (z136, μ137) → sV (gG l D c H0 sa) mX12_goes (sRm 4 0 0) (sZ (gG l D c H0 sa) 0 0 (qI w [106106, 175999] μ (fun z μ1 => (0 ≤ z ∧ z ≤ 2) ∧ Q z μ1 ∧ True))) 7 [(0, .ref 106), (2, iv p2), (3, iv z136)] [] (mk w μ137) 0 0 := by
    intro nL138
    induction nL138 with
    | zero => intro z136 μ137 f_m T140 F141 q146 h139 R143 h144 W145; exact ((vc_X12_goes_1 h144 (by rw [← q146]; exact T140 106 106 (A_106 hw) (106)))).elim
    | succ nL138 ih147 =>
      intro z136 μ137 f_m T140 F141 q146 h139 R143 h144 W145
      have h148 : (0 ≤ f_m ∧ f_m ≤ 12) := by rw [← q146]; exact T140 106 106 (A_106 hw) (106)
      have h149 : f_m ≤ 10 := dist.pig R143 (fun i => by have h : 0 ≤ μ137 175 i ∧ μ137 175 i ≤ 9 := T140 175 175 (A_175 hw) i; omega)
      have h150 : 0 ≤ f_m ∧ f_m ≤ 10 := (vc_X12_goes_2 h149 h148)
      refine mr_iconst (pc := 7) (z := 0) dX12_goes_7 ?_
      refine mr_istore (pc := 8) (lv' := [(4, iv 0), (0, .ref 106), (2, iv p2), (3, iv z136)]) dX12_goes_8 (by decide) rfl ?_
      refine mr_iconst (pc := 10) (z := 0) dX12_goes_10 ?_
      refine mr_istore (pc := 11) (lv' := [(5, iv 0), (4, iv 0), (0, .ref 106), (2, iv p2), (3, iv z136)]) dX12_goes_11 (by decide) rfl ?_
      have L397 : ∀ (nL397 : Nat) (z396 z395 : Int), True → (0 ≤ z396 ∧ z396 ≤ 1) → (0 ≤ z395 ∧ z395 ≤ 10) → (z395 ≤ f_m) → (z396 = 0 → noneEq μ137 175 z395 z136) → (11 - z395) < (nL397 : Int) → loopF (WL_X12_goes_W_2 w p2 Q (loopF (WL_X12_goes_W_1 w p2 Q μ1) False nL138) z136 μ137 f_m) False nL397 (z396, z395) → sV (gG l D c H0 sa) mX12_goes (sRm 4 0 0) (sZ (gG l D c H0 sa) 0 0 (qI w [106106, 175999] μ (fun z μ1 => (0 ≤ z ∧ z ≤ 2) ∧ Q z μ1 ∧ True))) 13 [(0, .ref 106), (2, iv p2), (3, iv z136), (4, iv z396), (5, iv z395)] [] (mk w μ137) 0 0 := by
        intro nL397
        induction nL397 with
        | zero => intro z396 z395 _ h398 h399 h403 R404 h405 W406; exact ((vc_X12_goes_3 h405 h403 h149 h150 h399)).elim
        | succ nL397 ih407 =>
          intro z396 z395 _ h398 h399 h403 R404 h405 W406
          refine mr_iload (pc := 13) (z := z395) dX12_goes_13 rfl ?_
          refine sv_aload_n (pc := 15) dX12_goes_15 rfl rfl ?_
          refine gk_X12_106 (pc := 16) dX12_goes_16 wF_X12_683 (A_106 hw) q146 ?_
          refine mr_icmp_ge (pc := 19) (tgt := 51) dX12_goes_19 (by decide) (r32 h399 rfl) (r32 h150 rfl) (fun h415 => ?_) (fun h415 => ?_)
          · refine sv_aload_n (pc := 51) dX12_goes_51 rfl rfl ?_
            refine gf_X12_105 (pc := 52) dX12_goes_52 wF_X12_487 (A_106 hw) T140 ?_
            refine sv_aload_n (pc := 55) dX12_goes_55 rfl rfl ?_
            refine gk_X12_106 (pc := 56) dX12_goes_56 wF_X12_683 (A_106 hw) q146 ?_
            refine mr_iload_n (pc := 59) (z := z136) dX12_goes_59 rfl rfl ?_
            refine ss_175 (pc := 60) dX12_goes_60 (A_175 hw) T140 (rIx (n := 12) h150 rfl) h139 fun μ416 u417 T418 => ?_
            refine sv_aload_n (pc := 61) dX12_goes_61 rfl rfl ?_
            refine sv_dup (pc := 62) dX12_goes_62 rfl ?_
            refine gk_X12_106 (pc := 63) dX12_goes_63 wF_X12_683 (A_106 hw) (u417.f (Or.inl (mAt.ne (A_175 hw) (A_106 hw) rfl)) q146) ?_
            refine mr_iconst (pc := 66) (z := 1) dX12_goes_66 ?_
            refine mr_iadd (pc := 67) (x := f_m) (y := 1) dX12_goes_67 ?_
            refine pf_X12_106 (pc := 68) dX12_goes_68 wF_X12_683 (A_106 hw) T418 (rW (c := 0) (d := 12) (rAdd (e := 1) (f := 11) h150 (rR (x := 1)) rfl) rfl) fun μ419 u420 T421 => ?_
            refine mr_iload (pc := 71) (z := z396) dX12_goes_71 rfl ?_
            refine mr_if_eq (pc := 73) (tgt := 78) dX12_goes_73 (by decide) (r32 h398 rfl) (fun h422 => ?_) (fun h422 => ?_)
            · have h423 : 0 ≤ z396 ∧ z396 ≤ 0 := (vc_X12_ring_22 h422 h398)
              refine sv_aload_n (pc := 78) dX12_goes_78 rfl rfl ?_
              refine mr_iload_n (pc := 79) (z := z136) dX12_goes_79 rfl rfl ?_
              refine mr_iload_n (pc := 80) (z := p2) dX12_goes_80 rfl rfl ?_
              refine mr_cVP (pc := 81) (c_X12_sends_W hw T421 h139 hp2 (((((W406 z396 z395 rfl h398 h399).1 h415) μ416 u417 T418) μ419 u420 T421).1 h422)) (gOk _ _ _ _ _) dX12_goes_81 (tX12_sends _ _ _ _ _) ⟨wV_X12_sends, wL_X12_sends⟩ wM_X12_686 (gCX12 _ _ _ _ _) rfl (A_106 hw) rfl ⟨le_t rfl, le_t rfl⟩ ⟨le_t rfl, le_t rfl⟩ rfl (le_t rfl) fun z428 h427 => ?_
              refine mr_istore (pc := 84) (lv' := [(5, iv z428), (0, .ref 106), (2, iv p2), (3, iv z136), (4, iv z396)]) dX12_goes_84 (by decide) rfl ?_
              refine mr_iload (pc := 86) (z := z428) dX12_goes_86 rfl ?_
              refine mr_bipush (pc := 88) (z := (-4)) dX12_goes_88 (by decide) ?_
              refine mr_icmp_ne (pc := 90) (tgt := 95) dX12_goes_90 (by decide) (r32 h427.1 rfl) (r32 (rR (x := (-4))) rfl) (fun h429 => ?_) (fun h429 => ?_)
              · refine mr_iload (pc := 95) (z := z428) dX12_goes_95 rfl ?_
                refine mr_ldc (pc := 97) (z := (-99999999)) dX12_goes_97 wG_X12_29 (by decide) ?_
                refine mr_icmp_ne (pc := 99) (tgt := 104) dX12_goes_99 (by decide) (r32 h427.1 rfl) (r32 (rR (x := (-99999999))) rfl) (fun h430 => ?_) (fun h430 => ?_)
                · have h431 : 0 ≤ z428 ∧ z428 ≤ 19 := (vc_X12_goes_5 h430 h427.2.1 h429 h427.1)
                  refine sv_aload_n (pc := 104) dX12_goes_104 rfl rfl ?_
                  refine mr_iload (pc := 105) (z := z428) dX12_goes_105 rfl ?_
                  refine mr_iload_n (pc := 107) (z := z136) dX12_goes_107 rfl rfl ?_
                  refine mr_cVP (pc := 108) (c_X12_partnerOf_W hw T421 h431 (rW (c := (-2147483648)) (d := 2147483647) h139 rfl) (((h427.2.2.1 h427.1).1 h429).1 h430)) (gOk _ _ _ _ _) dX12_goes_108 (tX12_partnerOf _ _ _ _ _) ⟨wV_X12_partnerOf, wL_X12_partnerOf⟩ wM_X12_553 (gCX12 _ _ _ _ _) rfl (A_106 hw) rfl ⟨le_t rfl, le_t rfl⟩ ⟨le_t rfl, le_t rfl⟩ rfl (le_t rfl) fun z436 h435 => ?_
                  refine mr_istore_n (pc := 111) (lv' := [(3, iv z436), (5, iv z428), (0, .ref 106), (2, iv p2), (4, iv z396)]) dX12_goes_111 rfl (by decide) rfl ?_
                  refine sv_goto (pc := 112) (tgt := 7) dX12_goes_112 (by decide) ?_
                  refine mr_lvS (lv' := [(0, .ref 106), (2, iv p2), (3, iv z436)]) (List.forall_mem_cons.mpr ⟨rfl, List.forall_mem_cons.mpr ⟨rfl, List.forall_mem_cons.mpr ⟨rfl, fun _ h => absurd h List.not_mem_nil⟩⟩⟩) ?_
                  exact ih147 z436 μ419 (f_m + 1) T421 (mF.up (mF.up (mF.call mF.refl F141 rfl) (A_175 hw) u417 rfl) (A_106 hw) u420 rfl) u420.1 h435.1 (dist.keep (dist.succ R143 (by have h := R404 (vc_X12_goes_7 h422 h423); rw [show z395 = f_m from (vc_X12_goes_8 h149 h403 h415 h150 h399)] at h; exact h) (vc_X12_goes_9 h149 h403 h415 h150 h399) u417) ((mF.up mF.refl (A_106 hw) u420 rfl) : mF [106106] w μ416 μ419) (A_175 hw) (fun _ => rfl)) (vc_X12_goes_6 (nS h144) h149 h403 h415 h150 h399) (h435.2.1 h435.1)
                have h437 : (-99999999) ≤ z428 ∧ z428 ≤ (-99999999) := (vc_X12_goes_10 h430 h427.2.1 h429 h427.1)
                refine mr_iconst (pc := 102) (z := 1) dX12_goes_102 ?_
                exact mr_iret dX12_goes_103 rfl (le_t rfl) (le_t rfl) T421 (mF.up (mF.up (mF.call (mF.up mF.refl (A_106 hw) u2 rfl) F141 rfl) (A_175 hw) u417 rfl) (A_106 hw) u420 rfl) ⟨(rW (c := 0) (d := 2) (rR (x := 1)) rfl), (((h427.2.2.1 h427.1).1 h429).2 h430), trivial⟩
              have h438 : (-4) ≤ z428 ∧ z428 ≤ (-4) := (vc_X12_goes_11 h429 h427.2.1 h427.1)
              refine mr_iconst (pc := 93) (z := 0) dX12_goes_93 ?_
              exact mr_iret dX12_goes_94 rfl (le_t rfl) (le_t rfl) T421 (mF.up (mF.up (mF.call (mF.up mF.refl (A_106 hw) u2 rfl) F141 rfl) (A_175 hw) u417 rfl) (A_106 hw) u420 rfl) ⟨(rW (c := 0) (d := 2) (rR (x := 0)) rfl), ((h427.2.2.1 h427.1).2 h429), trivial⟩
            have h439 : 1 ≤ z396 ∧ z396 ≤ 1 := (vc_X12_ring_24 h422 h398)
            refine mr_iconst (pc := 76) (z := 2) dX12_goes_76 ?_
            exact mr_iret dX12_goes_77 rfl (le_t rfl) (le_t rfl) T421 (mF.up (mF.up (mF.call (mF.up mF.refl (A_106 hw) u2 rfl) F141 rfl) (A_175 hw) u417 rfl) (A_106 hw) u420 rfl) ⟨(rW (c := 0) (d := 2) (rR (x := 2)) rfl), (((((W406 z396 z395 rfl h398 h399).1 h415) μ416 u417 T418) μ419 u420 T421).2 h422), trivial⟩
          have h440 : 0 ≤ z395 ∧ z395 ≤ 9 := (vc_X12_goes_13 h415 h149 h403 h150 h399)
          have h441 : 1 ≤ f_m ∧ f_m ≤ 10 := (vc_X12_goes_14 h415 h149 h403 h150 h440)
          refine mr_iload (pc := 22) (z := z396) dX12_goes_22 rfl ?_
          refine mr_if_ne (pc := 24) (tgt := 38) dX12_goes_24 (by decide) (r32 h398 rfl) (fun h442 => ?_) (fun h442 => ?_)
          · have h443 : 1 ≤ z396 ∧ z396 ≤ 1 := (vc_X12_ring_24 h442 h398)
            refine mr_iconst (pc := 38) (z := 1) dX12_goes_38 ?_
            refine sv_goto (pc := 39) (tgt := 43) dX12_goes_39 (by decide) ?_
            refine mr_istore (pc := 43) (lv' := [(4, iv 1), (0, .ref 106), (2, iv p2), (3, iv z136), (5, iv z395)]) dX12_goes_43 (by decide) rfl ?_
            refine mr_iinc (pc := 45) (lv' := [(5, iv (z395 + 1)), (4, iv 1), (0, .ref 106), (2, iv p2), (3, iv z136)]) dX12_goes_45 rfl (by decide) rfl ?_
            refine sv_goto (pc := 48) (tgt := 13) dX12_goes_48 (by decide) ?_
            refine mr_lvS (lv' := [(0, .ref 106), (2, iv p2), (3, iv z136), (4, iv 1), (5, iv (z395 + 1))]) (List.forall_mem_cons.mpr ⟨rfl, List.forall_mem_cons.mpr ⟨rfl, List.forall_mem_cons.mpr ⟨rfl, List.forall_mem_cons.mpr ⟨rfl, List.forall_mem_cons.mpr ⟨rfl, fun _ h => absurd h List.not_mem_nil⟩⟩⟩⟩⟩) ?_
            exact ih407 1 (z395 + 1) trivial (rW (c := 0) (d := 1) (rR (x := 1)) rfl) (rW (c := 0) (d := 10) (rAdd (e := 1) (f := 10) h440 (rR (x := 1)) rfl) rfl) (vc_X12_goes_15 h149 h403 h415 h441 h440) (fun h => absurd h vc_X12_goes_17) (vc_X12_goes_16 (nS h405) h403 h415 h149 h441 h440) (((W406 z396 z395 rfl h398 h399).2 h415).1 h442)
          have h444 : 0 ≤ z396 ∧ z396 ≤ 0 := (vc_X12_ring_22 h442 h398)
          refine sv_aload_n (pc := 27) dX12_goes_27 rfl rfl ?_
          refine gf_X12_105 (pc := 28) dX12_goes_28 wF_X12_487 (A_106 hw) T140 ?_
          refine mr_iload (pc := 31) (z := z395) dX12_goes_31 rfl ?_
          refine la_175 (pc := 33) dX12_goes_33 (A_175 hw) T140 (rIx (n := 12) h440 rfl) fun z445 q446 h447 => ?_
          refine mr_iload_n (pc := 34) (z := z136) dX12_goes_34 rfl rfl ?_
          refine mr_icmp_ne (pc := 35) (tgt := 42) dX12_goes_35 (by decide) (r32 h447 rfl) (r32 h139 rfl) (fun h448 => ?_) (fun h448 => ?_)
          · refine mr_iconst (pc := 42) (z := 0) dX12_goes_42 ?_
            refine mr_istore (pc := 43) (lv' := [(4, iv 0), (0, .ref 106), (2, iv p2), (3, iv z136), (5, iv z395)]) dX12_goes_43 (by decide) rfl ?_
            refine mr_iinc (pc := 45) (lv' := [(5, iv (z395 + 1)), (4, iv 0), (0, .ref 106), (2, iv p2), (3, iv z136)]) dX12_goes_45 rfl (by decide) rfl ?_
            refine sv_goto (pc := 48) (tgt := 13) dX12_goes_48 (by decide) ?_
            refine mr_lvS (lv' := [(0, .ref 106), (2, iv p2), (3, iv z136), (4, iv 0), (5, iv (z395 + 1))]) (List.forall_mem_cons.mpr ⟨rfl, List.forall_mem_cons.mpr ⟨rfl, List.forall_mem_cons.mpr ⟨rfl, List.forall_mem_cons.mpr ⟨rfl, List.forall_mem_cons.mpr ⟨rfl, fun _ h => absurd h List.not_mem_nil⟩⟩⟩⟩⟩) ?_
            exact ih407 0 (z395 + 1) trivial (rW (c := 0) (d := 1) (rR (x := 0)) rfl) (rW (c := 0) (d := 10) (rAdd (e := 1) (f := 10) h440 (rR (x := 1)) rfl) rfl) (vc_X12_goes_15 h149 h403 h415 h441 h440) (fun _ => noneEq.succ (R404 (vc_X12_goes_7 h442 h444)) q446 (vc_X12_goes_18 h448 h139 h447)) (vc_X12_goes_16 (nS h405) h403 h415 h149 h441 h440) (((((W406 z396 z395 rfl h398 h399).2 h415).2 h442) z445 q446 h447).1 h448)
          refine mr_iconst (pc := 38) (z := 1) dX12_goes_38 ?_
          refine sv_goto (pc := 39) (tgt := 43) dX12_goes_39 (by decide) ?_
          refine mr_istore (pc := 43) (lv' := [(4, iv 1), (0, .ref 106), (2, iv p2), (3, iv z136), (5, iv z395)]) dX12_goes_43 (by decide) rfl ?_
          refine mr_iinc (pc := 45) (lv' := [(5, iv (z395 + 1)), (4, iv 1), (0, .ref 106), (2, iv p2), (3, iv z136)]) dX12_goes_45 rfl (by decide) rfl ?_
          refine sv_goto (pc := 48) (tgt := 13) dX12_goes_48 (by decide) ?_
          refine mr_lvS (lv' := [(0, .ref 106), (2, iv p2), (3, iv z136), (4, iv 1), (5, iv (z395 + 1))]) (List.forall_mem_cons.mpr ⟨rfl, List.forall_mem_cons.mpr ⟨rfl, List.forall_mem_cons.mpr ⟨rfl, List.forall_mem_cons.mpr ⟨rfl, List.forall_mem_cons.mpr ⟨rfl, fun _ h => absurd h List.not_mem_nil⟩⟩⟩⟩⟩) ?_
          exact ih407 1 (z395 + 1) trivial (rW (c := 0) (d := 1) (rR (x := 1)) rfl) (rW (c := 0) (d := 10) (rAdd (e := 1) (f := 10) h440 (rR (x := 1)) rfl) rfl) (vc_X12_goes_15 h149 h403 h415 h441 h440) (fun h => absurd h vc_X12_goes_17) (vc_X12_goes_16 (nS h405) h403 h415 h149 h441 h440) (((((W406 z396 z395 rfl h398 h399).2 h415).2 h442) z445 q446 h447).2 h448)
      refine mr_lvS (lv' := [(0, .ref 106), (2, iv p2), (3, iv z136), (4, iv 0), (5, iv 0)]) (List.forall_mem_cons.mpr ⟨rfl, List.forall_mem_cons.mpr ⟨rfl, List.forall_mem_cons.mpr ⟨rfl, List.forall_mem_cons.mpr ⟨rfl, List.forall_mem_cons.mpr ⟨rfl, fun _ h => absurd h List.not_mem_nil⟩⟩⟩⟩⟩) ?_
      exact L397 12 0 0 trivial (rW (c := 0) (d := 1) (rR (x := 0)) rfl) (rW (c := 0) (d := 10) (rR (x := 0)) rfl) (vc_X12_goes_19 h149 h150) (fun _ => noneEq.zero) vc_X12_ring_27 ((W145 z136 μ137 rfl h139 T140 F141) f_m q146 h148)
  refine mr_lvS (lv' := [(0, .ref 106), (2, iv p2), (3, iv p1)]) (List.forall_mem_cons.mpr ⟨rfl, List.forall_mem_cons.mpr ⟨rfl, List.forall_mem_cons.mpr ⟨rfl, fun _ h => absurd h List.not_mem_nil⟩⟩⟩) ?_
  exact L138 13 p1 μ1 0 T3 mF.refl u2.1 hp1 (dist.zero (Int.le_refl 0)) vc_X12_goes_21 (hQ μ1 u2 T3)
def WL_X12_letter_W_1 (w : mW) (Q : Int → mM → Prop) (z18 : Int) (z19 : Int) (μ22 : mM) (rec1 : (Int × mM) → Prop) (s : (Int × mM)) : Prop := ∀ z95 : Int, ∀ μ96 : mM, s = (z95, μ96) → (0 ≤ z95 ∧ z95 ≤ 12) → mT w μ96 → mF [176999] w μ22 μ96 → ((z19 ≤ z95) → Q z18 μ96) ∧ ((z95 < z19) → ∀ z116 : Int, μ96 175 (z95.toNat) = z116 → (0 ≤ z116 ∧ z116 ≤ 9) → ∀ μ119 : mM, mU μ96 176 (z95.toNat) z116 μ119 → mT w μ119 → rec1 ((z95 + 1), μ119))
def WP_X12_letter_W (w : mW) (μ : mM) (p1 : Int) (p2 : Int) (Q : Int → mM → Prop) : Prop := ∀ z1 : Int, μ 106 5 = z1 → (0 ≤ z1 ∧ z1 ≤ 10) → WP_X12_isDomain_W w μ p1 (fun z8 _ => (0 ≤ z8 ∧ z8 ≤ 1) → ((¬ z8 = 0) → WP_X12_goes_W w μ p1 p2 (fun z18 μ14 => mT w μ14 → mF [106106, 175999] w μ μ14 → (0 ≤ z18 ∧ z18 ≤ 2) → ∀ z19 : Int, μ14 106 106 = z19 → (0 ≤ z19 ∧ z19 ≤ 12) → ∀ μ22 : mM, mU μ14 106 (108) z19 μ22 → mT w μ22 → loopF (WL_X12_letter_W_1 w Q z18 z19 μ22) False 14 ((0 : Int), μ22))) ∧ ((z8 = 0) → Q ((-1) : Int) μ))
def WP_X11_led_W (w : mW) (μ : mM) (p1 : Int) (Q : Int → mM → Prop) : Prop := ((p1 < 0) → Q ((-99999999) : Int) μ) ∧ ((0 ≤ p1) → ∀ z14 : Int, μ 87 9 = z14 → (0 ≤ z14 ∧ z14 ≤ 11) → ((p1 < z14) → ∀ z25 : Int, μ 89 (p1.toNat) = z25 → ((-2147483648) ≤ z25 ∧ z25 ≤ 2147483647) → Q z25 μ) ∧ ((z14 ≤ p1) → Q ((-99999999) : Int) μ))
def WP_X12_led_W (w : mW) (μ : mM) (p1 : Int) (Q : Int → mM → Prop) : Prop := ∀ z1 : Int, μ 106 108 = z1 → (0 ≤ z1 ∧ z1 ≤ 12) → WP_X12_in_W w μ p1 (0) (z1 - 1) (fun z8 _ => (0 ≤ z8 ∧ z8 ≤ 1) → ((z8 = 0) → Q ((-99999999) : Int) μ) ∧ ((¬ z8 = 0) → ∀ z23 : Int, μ 176 (p1.toNat) = z23 → ((-2147483648) ≤ z23 ∧ z23 ≤ 2147483647) → Q z23 μ))
def WL_X2_unitsOver_W_2 (w : mW) (p1 : Int) (p2 : Int) (rec1 : (Int × Int × mM) → Prop) (z671 : Int) (μ757 : mM) (rec2 : (Int × Int) → Prop) (s : (Int × Int)) : Prop := ∀ z925 : Int, ∀ z924 : Int, s = (z925, z924) → ((-2147483648) ≤ z925 ∧ z925 ≤ 2147483647) → (0 ≤ z924 ∧ z924 ≤ 10) → ∀ z935 : Int, μ757 87 6 = z935 → (0 ≤ z935 ∧ z935 ≤ 11) → ((z935 ≤ (z924 + 1)) → rec1 (z925, (z671 + 1), μ757)) ∧ (((z924 + 1) < z935) → ∀ z959 : Int, μ757 88 (z924.toNat) = z959 → (0 ≤ z959 ∧ z959 ≤ 9 ∧ (z959 = 0 ∨ z959 < w.2.2.2 0)) → ((¬ z959 = p1) → rec2 (z925, (z924 + 1))) ∧ ((z959 = p1) → ∀ z977 : Int, μ757 88 ((z924 + 1).toNat) = z977 → (0 ≤ z977 ∧ z977 ≤ 9 ∧ (z977 = 0 ∨ z977 < w.2.2.2 0)) → ((¬ z977 = p2) → rec2 (z925, (z924 + 1))) ∧ ((z977 = p2) → ∀ z990 : Int, μ757 92 (z671.toNat) = z990 → ((-2147483648) ≤ z990 ∧ z990 ≤ 2147483647) → ∀ z993 : Int, (-2147483648 ≤ z993 ∧ z993 ≤ 2147483647) → (z993 - (z925 + z990)) % 4294967296 = 0 → rec2 (z993, (z924 + 1)))))
def WL_X2_unitsOver_W_1 (w : mW) (μ : mM) (p1 : Int) (p2 : Int) (Q : Int → mM → Prop) (rec1 : (Int × Int × mM) → Prop) (s : (Int × Int × mM)) : Prop := ∀ z672 : Int, ∀ z671 : Int, ∀ μ673 : mM, s = (z672, z671, μ673) → ((-2147483648) ≤ z672 ∧ z672 ≤ 2147483647) → (0 ≤ z671 ∧ z671 ≤ 16) → mT w μ673 → mF [87006, 88999] w μ μ673 → ∀ z683 : Int, μ673 87 10 = z683 → (0 ≤ z683 ∧ z683 ≤ 16 ∧ (z683 = 0 ∨ 0 < w.2.2.2 0)) → ((z683 ≤ z671) → Q z672 μ673) ∧ ((z671 < z683) → ∀ z750 : Int, μ673 90 (z671.toNat) = z750 → (0 ≤ z750 ∧ z750 ≤ 9 ∧ (z750 = 0 ∨ z750 < w.2.2.2 0)) → ∀ z754 : Int, μ673 91 (z671.toNat) = z754 → ((-2147483648) ≤ z754 ∧ z754 ≤ 2147483647) → WP_X2_travel_W w μ673 z750 z754 (fun z761 μ757 => mT w μ757 → mF [87006, 88999] w μ673 μ757 → ((-2147483648) ≤ z761 ∧ z761 ≤ 2147483647) → loopF (WL_X2_unitsOver_W_2 w p1 p2 rec1 z671 μ757) False 12 (z672, (0 : Int))))
def WP_X2_unitsOver_W (w : mW) (μ : mM) (p1 : Int) (p2 : Int) (Q : Int → mM → Prop) : Prop := loopF (WL_X2_unitsOver_W_1 w μ p1 p2 Q) False 18 ((0 : Int), (0 : Int), μ)
def WP_X11_load_W (w : mW) (μ : mM) (p1 : Int) (p2 : Int) (Q : Int → mM → Prop) : Prop := ∀ z1 : Int, μ 6 16 = z1 → (z1 = w.2.2.2 1 ∧ 0 ≤ z1 ∧ z1 ≤ 20) → WP_X11_isTie_W w μ p1 (fun z8 _ => (0 ≤ z8 ∧ z8 ≤ 1) → ((z8 = 0) → Q ((-1) : Int) μ) ∧ ((¬ z8 = 0) → WP_X11_isEither_W w μ p2 (fun z20 _ => (0 ≤ z20 ∧ z20 ≤ 1) → ((¬ z20 = 0) → ∀ b25 : Nat, μ 11 (p1.toNat) = (b25 : Int) → mAt w b25 220 → WP_X9_end_W w μ b25 p2 (fun z32 _ => (0 ≤ z32 ∧ z32 ≤ 9) → WP_X9_end_W w μ b25 (1 - p2) (fun z37 _ => (0 ≤ z37 ∧ z37 ≤ 9) → WP_X2_unitsOver_W w μ z32 z37 (fun z42 μ38 => mT w μ38 → mF [87006, 88999] w μ μ38 → ((-2147483648) ≤ z42 ∧ z42 ≤ 2147483647) → Q z42 μ38)))) ∧ ((z20 = 0) → Q ((-1) : Int) μ))))
def WL_X12_load_W_2 (p1 : Int) (p2 : Int) (rec1 : (Int × Int × mM) → Prop) (z715 : Int) (μ802 : mM) (rec2 : (Int × Int) → Prop) (s : (Int × Int)) : Prop := ∀ z1059 : Int, ∀ z1058 : Int, s = (z1059, z1058) → ((-2147483648) ≤ z1059 ∧ z1059 ≤ 2147483647) → (0 ≤ z1058 ∧ z1058 ≤ 11) → ∀ z1069 : Int, μ802 106 106 = z1069 → (0 ≤ z1069 ∧ z1069 ≤ 12) → ((z1069 ≤ (z1058 + 1)) → rec1 (z1059, (z715 + 1), μ802)) ∧ (((z1058 + 1) < z1069) → ∀ z1095 : Int, μ802 175 (z1058.toNat) = z1095 → (0 ≤ z1095 ∧ z1095 ≤ 9) → ∀ z1098 : Int, μ802 110 (((2 * p1) + p2).toNat) = z1098 → (0 ≤ z1098 ∧ z1098 ≤ 9) → ((¬ z1095 = z1098) → rec2 (z1059, (z1058 + 1))) ∧ ((z1095 = z1098) → ∀ z1114 : Int, μ802 175 ((z1058 + 1).toNat) = z1114 → (0 ≤ z1114 ∧ z1114 ≤ 9) → ∀ z1117 : Int, μ802 110 ((((2 * p1) + 1) - p2).toNat) = z1117 → (0 ≤ z1117 ∧ z1117 ≤ 9) → ((¬ z1114 = z1117) → rec2 (z1059, (z1058 + 1))) ∧ ((z1114 = z1117) → ∀ z1127 : Int, μ802 179 (z715.toNat) = z1127 → ((-2147483648) ≤ z1127 ∧ z1127 ≤ 2147483647) → ∀ z1130 : Int, (-2147483648 ≤ z1130 ∧ z1130 ≤ 2147483647) → (z1130 - (z1059 + z1127)) % 4294967296 = 0 → rec2 (z1130, (z1058 + 1)))))
def WL_X12_load_W_1 (w : mW) (μ : mM) (p1 : Int) (p2 : Int) (Q : Int → mM → Prop) (rec1 : (Int × Int × mM) → Prop) (s : (Int × Int × mM)) : Prop := ∀ z716 : Int, ∀ z715 : Int, ∀ μ717 : mM, s = (z716, z715, μ717) → ((-2147483648) ≤ z716 ∧ z716 ≤ 2147483647) → (0 ≤ z715 ∧ z715 ≤ 16) → mT w μ717 → mF [106106, 175999] w μ μ717 → ∀ z727 : Int, μ717 106 109 = z727 → (0 ≤ z727 ∧ z727 ≤ 16) → ((z727 ≤ z715) → Q z716 μ717) ∧ ((z715 < z727) → ∀ z796 : Int, μ717 177 (z715.toNat) = z796 → (0 ≤ z796 ∧ z796 ≤ 9) → ∀ z799 : Int, μ717 178 (z715.toNat) = z799 → ((-2147483648) ≤ z799 ∧ z799 ≤ 2147483647) → WP_X12_goes_W w μ717 z796 z799 (fun z806 μ802 => mT w μ802 → mF [106106, 175999] w μ717 μ802 → (0 ≤ z806 ∧ z806 ≤ 2) → loopF (WL_X12_load_W_2 p1 p2 rec1 z715 μ802) False 13 (z716, (0 : Int))))
def WP_X12_load_W (w : mW) (μ : mM) (p1 : Int) (p2 : Int) (Q : Int → mM → Prop) : Prop := ∀ z1 : Int, μ 106 6 = z1 → (0 ≤ z1 ∧ z1 ≤ 20) → WP_X12_isTie_W w μ p1 (fun z8 _ => (0 ≤ z8 ∧ z8 ≤ 1) → ((z8 = 0) → Q ((-1) : Int) μ) ∧ ((¬ z8 = 0) → WP_X12_in_W w μ p2 (0) (1) (fun z20 _ => (0 ≤ z20 ∧ z20 ≤ 1) → ((¬ z20 = 0) → loopF (WL_X12_load_W_1 w μ p1 p2 Q) False 18 ((0 : Int), (0 : Int), μ)) ∧ ((z20 = 0) → Q ((-1) : Int) μ))))
def WL_X2_unitsThat_W_1 (w : mW) (μ : mM) (p1 : Int) (Q : Int → mM → Prop) (rec1 : (Int × Int × mM) → Prop) (s : (Int × Int × mM)) : Prop := ∀ z215 : Int, ∀ z214 : Int, ∀ μ216 : mM, s = (z215, z214, μ216) → ((-2147483648) ≤ z215 ∧ z215 ≤ 2147483647) → (0 ≤ z214 ∧ z214 ≤ 16) → mT w μ216 → mF [87006, 88999] w μ μ216 → ∀ z226 : Int, μ216 87 10 = z226 → (0 ≤ z226 ∧ z226 ≤ 16 ∧ (z226 = 0 ∨ 0 < w.2.2.2 0)) → ((z226 ≤ z214) → Q z215 μ216) ∧ ((z214 < z226) → ∀ z253 : Int, μ216 90 (z214.toNat) = z253 → (0 ≤ z253 ∧ z253 ≤ 9 ∧ (z253 = 0 ∨ z253 < w.2.2.2 0)) → ∀ z257 : Int, μ216 91 (z214.toNat) = z257 → ((-2147483648) ≤ z257 ∧ z257 ≤ 2147483647) → WP_X2_travel_W w μ216 z253 z257 (fun z264 μ260 => mT w μ260 → mF [87006, 88999] w μ216 μ260 → ((-2147483648) ≤ z264 ∧ z264 ≤ 2147483647) → ((¬ z264 = p1) → rec1 (z215, (z214 + 1), μ260)) ∧ ((z264 = p1) → ∀ z273 : Int, μ260 92 (z214.toNat) = z273 → ((-2147483648) ≤ z273 ∧ z273 ≤ 2147483647) → ∀ z276 : Int, (-2147483648 ≤ z276 ∧ z276 ≤ 2147483647) → (z276 - (z215 + z273)) % 4294967296 = 0 → rec1 (z276, (z214 + 1), μ260))))
def WP_X2_unitsThat_W (w : mW) (μ : mM) (p1 : Int) (Q : Int → mM → Prop) : Prop := loopF (WL_X2_unitsThat_W_1 w μ p1 Q) False 18 ((0 : Int), (0 : Int), μ)
set_option maxRecDepth 4000 in
set_option maxHeartbeats 4000000 in
theorem c_X2_unitsThat_W {l : Launch} {D : va_G} {c : Nat → ClassId} {H0 : Heap} {sa : Nat × Nat × (Nat → Int32)} {w : mW} {μ : mM} (hw : mWF w) (hT : mT w μ) {p1 : Int} (hp1 : (-2147483648) ≤ p1 ∧ p1 ≤ 2147483647) {Q : Int → mM → Prop} (hQ : WP_X2_unitsThat_W w μ p1 Q) : sC (gG l D c H0 sa) mX2_unitsThat 4 0 0 [.ref 87, iv p1] (mk w μ) (qI w [87006, 88999] μ (fun z μ1 => ((-2147483648) ≤ z ∧ z ≤ 2147483647) ∧ Q z μ1 ∧ True)) := by
  refine sC.of rfl (by decide) (le_t rfl) ?_
  refine mr_lvE (lv' := [(0, .ref 87), (1, iv p1)]) rfl ?_
  refine mr_iconst (pc := 0) (z := 0) dX2_unitsThat_0 ?_
  refine mr_istore_n (pc := 1) (lv' := [(2, iv 0), (0, .ref 87), (1, iv p1)]) dX2_unitsThat_1 rfl (by decide) rfl ?_
  refine mr_iconst (pc := 2) (z := 0) dX2_unitsThat_2 ?_
  refine mr_istore_n (pc := 3) (lv' := [(3, iv 0), (2, iv 0), (0, .ref 87), (1, iv p1)]) dX2_unitsThat_3 rfl (by decide) rfl ?_
  have L217 : ∀ (nL217 : Nat) (z215 z214 : Int) (μ216 : mM), mT w μ216 → mF [87006, 88999] w μ μ216 → ((-2147483648) ≤ z215 ∧ z215 ≤ 2147483647) → (0 ≤ z214 ∧ z214 ≤ 16) → (17 - z214) < (nL217 : Int) → loopF (WL_X2_unitsThat_W_1 w μ p1 Q) False nL217 (z215, z214, μ216) → sV (gG l D c H0 sa) mX2_unitsThat (sRm 4 0 0) (sZ (gG l D c H0 sa) 0 0 (qI w [87006, 88999] μ (fun z μ1 => ((-2147483648) ≤ z ∧ z ≤ 2147483647) ∧ Q z μ1 ∧ True))) 4 [(0, .ref 87), (1, iv p1), (2, iv z215), (3, iv z214)] [] (mk w μ216) 0 0 := by
    intro nL217
    induction nL217 with
    | zero => intro z215 z214 μ216 T220 F221 h218 h219 h223 W224; exact ((vc_X2_unitsOver_1 h223 h219)).elim
    | succ nL217 ih225 =>
      intro z215 z214 μ216 T220 F221 h218 h219 h223 W224
      refine mr_iload_n (pc := 4) (z := z214) dX2_unitsThat_4 rfl rfl ?_
      refine sv_aload_n (pc := 5) dX2_unitsThat_5 rfl rfl ?_
      refine gf_X2_10 (pc := 6) dX2_unitsThat_6 wF_X2_95 (A_87 hw) T220 fun z226 q227 h228 => ?_
      have h229 : 0 ≤ z226 ∧ z226 ≤ 16 := ⟨h228.1, h228.2.1⟩
      refine mr_icmp_ge (pc := 9) (tgt := 47) dX2_unitsThat_9 (by decide) (r32 h219 rfl) (r32 h229 rfl) (fun h250 => ?_) (fun h250 => ?_)
      · refine mr_iload_n (pc := 47) (z := z215) dX2_unitsThat_47 rfl rfl ?_
        exact mr_iret dX2_unitsThat_48 rfl (le_t rfl) (le_t rfl) T220 (mF.call mF.refl F221 rfl) ⟨h218, (((W224 z215 z214 μ216 rfl h218 h219 T220 F221) z226 q227 h228).1 h250), trivial⟩
      have h251 : 0 ≤ z214 ∧ z214 ≤ 15 := (vc_X2_unitsOver_2 h250 h228.2.2 h219 h229)
      have h252 : 1 ≤ z226 ∧ z226 ≤ 16 := (vc_X2_unitsOver_3 h250 h228.2.2 h251 h229)
      refine sv_aload_n (pc := 12) dX2_unitsThat_12 rfl rfl ?_
      refine sv_aload_n (pc := 13) dX2_unitsThat_13 rfl rfl ?_
      refine gf_X2_2 (pc := 14) dX2_unitsThat_14 wF_X2_22 (A_87 hw) T220 ?_
      refine mr_iload_n (pc := 17) (z := z214) dX2_unitsThat_17 rfl rfl ?_
      refine la_90 (pc := 18) dX2_unitsThat_18 (A_90 hw) T220 (rIx (n := 16) h251 rfl) fun z253 q254 h255 => ?_
      have h256 : 0 ≤ z253 ∧ z253 ≤ 9 := ⟨h255.1, h255.2.1⟩
      refine sv_aload_n (pc := 19) dX2_unitsThat_19 rfl rfl ?_
      refine gf_X2_3 (pc := 20) dX2_unitsThat_20 wF_X2_25 (A_87 hw) T220 ?_
      refine mr_iload_n (pc := 23) (z := z214) dX2_unitsThat_23 rfl rfl ?_
      refine la_91 (pc := 24) dX2_unitsThat_24 (A_91 hw) T220 (rIx (n := 16) h251 rfl) fun z257 q258 h259 => ?_
      have W265 := (((((W224 z215 z214 μ216 rfl h218 h219 T220 F221) z226 q227 h228).2 h250) z253 q254 h255) z257 q258 h259)
      refine mr_cVI (pc := 25) (c_X2_travel_W hw T220 h256 h259 (vc_X2_unitsOver_4 h228.2.2 h255.2.2 h250 h251 h252 h256) W265) (gOk _ _ _ _ _) dX2_unitsThat_25 (tX2_travel _ _ _ _ _) ⟨wV_X2_travel, wL_X2_travel⟩ wM_X2_83 (gCX2 _ _ _ _ _) rfl (A_87 hw) rfl ⟨le_t rfl, le_t rfl⟩ ⟨le_t rfl, le_t rfl⟩ rfl (le_t rfl) fun z264 μ260 T261 F262 h263 => ?_
      refine mr_iload_n (pc := 28) (z := p1) dX2_unitsThat_28 rfl rfl ?_
      refine mr_icmp_ne (pc := 29) (tgt := 41) dX2_unitsThat_29 (by decide) h263.1 hp1 (fun h272 => ?_) (fun h272 => ?_)
      · refine mr_iinc (pc := 41) (lv' := [(3, iv (z214 + 1)), (0, .ref 87), (1, iv p1), (2, iv z215)]) dX2_unitsThat_41 rfl (by decide) rfl ?_
        refine sv_goto (pc := 44) (tgt := 4) dX2_unitsThat_44 (by decide) ?_
        refine mr_lvS (lv' := [(0, .ref 87), (1, iv p1), (2, iv z215), (3, iv (z214 + 1))]) (List.forall_mem_cons.mpr ⟨rfl, List.forall_mem_cons.mpr ⟨rfl, List.forall_mem_cons.mpr ⟨rfl, List.forall_mem_cons.mpr ⟨rfl, fun _ h => absurd h List.not_mem_nil⟩⟩⟩⟩) ?_
        exact ih225 z215 (z214 + 1) μ260 T261 (mF.call (mF.call mF.refl F221 rfl) F262 rfl) h218 (rW (c := 0) (d := 16) (rAdd (e := 1) (f := 16) h251 (rR (x := 1)) rfl) rfl) (vc_X2_unitsOver_6 (nS h223) h250 h228.2.2 h251 h252) (((h263.2.1 T261 F262) h263.1).1 h272)
      refine mr_iload_n (pc := 32) (z := z215) dX2_unitsThat_32 rfl rfl ?_
      refine sv_aload_n (pc := 33) dX2_unitsThat_33 rfl rfl ?_
      refine gf_X2_4 (pc := 34) dX2_unitsThat_34 wF_X2_28 (A_87 hw) T261 ?_
      refine mr_iload_n (pc := 37) (z := z214) dX2_unitsThat_37 rfl rfl ?_
      refine la_92 (pc := 38) dX2_unitsThat_38 (A_92 hw) T261 (rIx (n := 16) h251 rfl) fun z273 q274 h275 => ?_
      refine mr_iadd (pc := 39) (x := z215) (y := z273) dX2_unitsThat_39 ?_
      refine mr_wrapF fun z276 h277 h278 => ?_
      refine mr_istore_n (pc := 40) (lv' := [(2, iv z276), (0, .ref 87), (1, iv p1), (3, iv z214)]) dX2_unitsThat_40 rfl (by decide) rfl ?_
      refine mr_iinc (pc := 41) (lv' := [(3, iv (z214 + 1)), (2, iv z276), (0, .ref 87), (1, iv p1)]) dX2_unitsThat_41 rfl (by decide) rfl ?_
      refine sv_goto (pc := 44) (tgt := 4) dX2_unitsThat_44 (by decide) ?_
      refine mr_lvS (lv' := [(0, .ref 87), (1, iv p1), (2, iv z276), (3, iv (z214 + 1))]) (List.forall_mem_cons.mpr ⟨rfl, List.forall_mem_cons.mpr ⟨rfl, List.forall_mem_cons.mpr ⟨rfl, List.forall_mem_cons.mpr ⟨rfl, fun _ h => absurd h List.not_mem_nil⟩⟩⟩⟩) ?_
      exact ih225 z276 (z214 + 1) μ260 T261 (mF.call (mF.call mF.refl F221 rfl) F262 rfl) h277 (rW (c := 0) (d := 16) (rAdd (e := 1) (f := 16) h251 (rR (x := 1)) rfl) rfl) (vc_X2_unitsOver_6 (nS h223) h250 h228.2.2 h251 h252) (((((h263.2.1 T261 F262) h263.1).2 h272) z273 q274 h275) z276 h277 h278)
  refine mr_lvS (lv' := [(0, .ref 87), (1, iv p1), (2, iv 0), (3, iv 0)]) (List.forall_mem_cons.mpr ⟨rfl, List.forall_mem_cons.mpr ⟨rfl, List.forall_mem_cons.mpr ⟨rfl, List.forall_mem_cons.mpr ⟨rfl, fun _ h => absurd h List.not_mem_nil⟩⟩⟩⟩) ?_
  exact L217 18 0 0 μ hT mF.refl (rW (c := (-2147483648)) (d := 2147483647) (rR (x := 0)) rfl) (rW (c := 0) (d := 16) (rR (x := 0)) rfl) vc_X2_unitsOver_13 hQ
def WP_X11_units_W (w : mW) (μ : mM) (p1 : Int) (Q : Int → mM → Prop) : Prop := ((p1 < 0) → Q ((-1) : Int) μ) ∧ ((0 ≤ p1) → ((p1 ≤ 2) → WP_X2_unitsThat_W w μ p1 (fun z26 μ22 => mT w μ22 → mF [87006, 88999] w μ μ22 → ((-2147483648) ≤ z26 ∧ z26 ≤ 2147483647) → Q z26 μ22)) ∧ ((2 < p1) → Q ((-1) : Int) μ))
set_option maxRecDepth 4000 in
set_option maxHeartbeats 4000000 in
theorem c_X11_units_W {l : Launch} {D : va_G} {c : Nat → ClassId} {H0 : Heap} {sa : Nat × Nat × (Nat → Int32)} {w : mW} {μ : mM} (hw : mWF w) (hT : mT w μ) {p1 : Int} (hp1 : (-2147483648) ≤ p1 ∧ p1 ≤ 2147483647) {Q : Int → mM → Prop} (hQ : WP_X11_units_W w μ p1 Q) : sC (gG l D c H0 sa) mX11_units 5 0 0 [.ref 0, iv p1] (mk w μ) (qI w [87006, 88999] μ (fun z μ1 => ((-2147483648) ≤ z ∧ z ≤ 2147483647) ∧ Q z μ1 ∧ True)) := by
  refine sC.of rfl (by decide) (le_t rfl) ?_
  refine mr_lvE (lv' := [(0, .ref 0), (1, iv p1)]) rfl ?_
  refine mr_iload_n (pc := 0) (z := p1) dX11_units_0 rfl rfl ?_
  refine mr_if_lt (pc := 1) (tgt := 9) dX11_units_1 (by decide) hp1 (fun h10 => ?_) (fun h10 => ?_)
  · have h11 : (-2147483648) ≤ p1 ∧ p1 ≤ (-1) := (vc_X12_ring_60 h10 hp1)
    refine mr_iconst (pc := 9) (z := (-1)) dX11_units_9 ?_
    refine sv_goto (pc := 10) (tgt := 21) dX11_units_10 (by decide) ?_
    exact mr_iret dX11_units_21 rfl (le_t rfl) (le_t rfl) hT mF.refl ⟨(rW (c := (-2147483648)) (d := 2147483647) (rR (x := (-1))) rfl), (hQ.1 h10), trivial⟩
  have h12 : 0 ≤ p1 ∧ p1 ≤ 2147483647 := (vc_X12_ring_1 h10 hp1)
  refine mr_iload_n (pc := 4) (z := p1) dX11_units_4 rfl rfl ?_
  refine mr_iconst (pc := 5) (z := 2) dX11_units_5 ?_
  refine mr_icmp_le (pc := 6) (tgt := 13) dX11_units_6 (by decide) (r32 h12 rfl) (r32 (rR (x := 2)) rfl) (fun h20 => ?_) (fun h20 => ?_)
  · have h21 : 0 ≤ p1 ∧ p1 ≤ 2 := (vc_X11_announce_W_14 h20 h10 h12)
    refine sv_aload_n (pc := 13) dX11_units_13 rfl rfl ?_
    refine gf_X11_8 (pc := 14) dX11_units_14 wF_X11_65 (A_0 hw) hT ?_
    refine mr_iload_n (pc := 17) (z := p1) dX11_units_17 rfl rfl ?_
    refine mr_cVI (pc := 18) (c_X2_unitsThat_W hw hT (rW (c := (-2147483648)) (d := 2147483647) h21 rfl) ((hQ.2 h10).1 h20)) (gOk _ _ _ _ _) dX11_units_18 (tX2_unitsThat _ _ _ _ _) ⟨wV_X2_unitsThat, wL_X2_unitsThat⟩ wM_X11_382 (gCX2 _ _ _ _ _) rfl (A_87 hw) rfl ⟨le_t rfl, le_t rfl⟩ ⟨le_t rfl, le_t rfl⟩ rfl (le_t rfl) fun z26 μ22 T23 F24 h25 => ?_
    exact mr_iret dX11_units_21 rfl (le_t rfl) (le_t rfl) T23 (mF.call mF.refl F24 rfl) ⟨h25.1, ((h25.2.1 T23 F24) h25.1), trivial⟩
  have h27 : 3 ≤ p1 ∧ p1 ≤ 2147483647 := (vc_X11_announce_W_17 h20 h10 h12)
  refine mr_iconst (pc := 9) (z := (-1)) dX11_units_9 ?_
  refine sv_goto (pc := 10) (tgt := 21) dX11_units_10 (by decide) ?_
  exact mr_iret dX11_units_21 rfl (le_t rfl) (le_t rfl) hT mF.refl ⟨(rW (c := (-2147483648)) (d := 2147483647) (rR (x := (-1))) rfl), ((hQ.2 h10).2 h20), trivial⟩
def WL_X12_units_W_1 (w : mW) (μ : mM) (p1 : Int) (Q : Int → mM → Prop) (rec1 : (Int × Int × mM) → Prop) (s : (Int × Int × mM)) : Prop := ∀ z233 : Int, ∀ z232 : Int, ∀ μ234 : mM, s = (z233, z232, μ234) → ((-2147483648) ≤ z233 ∧ z233 ≤ 2147483647) → (0 ≤ z232 ∧ z232 ≤ 16) → mT w μ234 → mF [106106, 175999] w μ μ234 → ∀ z244 : Int, μ234 106 109 = z244 → (0 ≤ z244 ∧ z244 ≤ 16) → ((z244 ≤ z232) → Q z233 μ234) ∧ ((z232 < z244) → ∀ z269 : Int, μ234 177 (z232.toNat) = z269 → (0 ≤ z269 ∧ z269 ≤ 9) → ∀ z272 : Int, μ234 178 (z232.toNat) = z272 → ((-2147483648) ≤ z272 ∧ z272 ≤ 2147483647) → WP_X12_goes_W w μ234 z269 z272 (fun z279 μ275 => mT w μ275 → mF [106106, 175999] w μ234 μ275 → (0 ≤ z279 ∧ z279 ≤ 2) → ((¬ z279 = p1) → rec1 ((z233 + 0), (z232 + 1), μ275)) ∧ ((z279 = p1) → ∀ z285 : Int, μ275 179 (z232.toNat) = z285 → ((-2147483648) ≤ z285 ∧ z285 ≤ 2147483647) → ∀ z288 : Int, (-2147483648 ≤ z288 ∧ z288 ≤ 2147483647) → (z288 - (z233 + z285)) % 4294967296 = 0 → rec1 (z288, (z232 + 1), μ275))))
def WP_X12_units_W (w : mW) (μ : mM) (p1 : Int) (Q : Int → mM → Prop) : Prop := WP_X12_in_W w μ p1 (0) (2) (fun z5 _ => (0 ≤ z5 ∧ z5 ≤ 1) → ((¬ z5 = 0) → loopF (WL_X12_units_W_1 w μ p1 Q) False 18 ((0 : Int), (0 : Int), μ)) ∧ ((z5 = 0) → Q ((-1) : Int) μ))
set_option maxRecDepth 4000 in
set_option maxHeartbeats 4000000 in
theorem c_X12_units_W {l : Launch} {D : va_G} {c : Nat → ClassId} {H0 : Heap} {sa : Nat × Nat × (Nat → Int32)} {w : mW} {μ : mM} (hw : mWF w) (hT : mT w μ) {p1 : Int} (hp1 : (-2147483648) ≤ p1 ∧ p1 ≤ 2147483647) {Q : Int → mM → Prop} (hQ : WP_X12_units_W w μ p1 Q) : sC (gG l D c H0 sa) mX12_units 5 0 0 [.ref 106, iv p1] (mk w μ) (qI w [106106, 175999] μ (fun z μ1 => ((-2147483648) ≤ z ∧ z ≤ 2147483647) ∧ Q z μ1 ∧ True)) := by
  refine sC.of rfl (by decide) (le_t rfl) ?_
  refine mr_lvE (lv' := [(0, .ref 106), (1, iv p1)]) rfl ?_
  refine mr_iload_n (pc := 0) (z := p1) dX12_units_0 rfl rfl ?_
  refine mr_iconst (pc := 1) (z := 0) dX12_units_1 ?_
  refine mr_iconst (pc := 2) (z := 2) dX12_units_2 ?_
  refine mr_cSP (pc := 3) (c_X12_in_W hw hT hp1 (rW (c := (-2147483648)) (d := 2147483647) (rR (x := 0)) rfl) (rW (c := (-2147483648)) (d := 2147483647) (rR (x := 2)) rfl) hQ) (gOk _ _ _ _ _) dX12_units_3 (tX12_in _ _ _ _ _) wS_X12_in wM_X12_18 ⟨le_t rfl, le_t rfl⟩ ⟨le_t rfl, le_t rfl⟩ rfl (le_t rfl) fun z5 h4 => ?_
  refine mr_if_ne (pc := 6) (tgt := 11) dX12_units_6 (by decide) (r32 h4.1 rfl) (fun h6 => ?_) (fun h6 => ?_)
  · have h7 : 1 ≤ z5 ∧ z5 ≤ 1 := (vc_X12_announce_W_12 h6 h4.2.1 h4.2.2.1 hp1 h4.1)
    have h8 : (0 : Int) ≤ p1 ∧ p1 ≤ (2 : Int) := (h4.2.1 (vc_X12_announce_W_13 h4.2.1 h4.2.2.1 h6 hp1 h7))
    have h9 : 0 ≤ p1 ∧ p1 ≤ 2 := (vc_X12_announce_W_14 h8 h4.2.1 h4.2.2.1 hp1 h7)
    refine mr_iconst (pc := 11) (z := 0) dX12_units_11 ?_
    refine mr_istore_n (pc := 12) (lv' := [(2, iv 0), (0, .ref 106), (1, iv p1)]) dX12_units_12 rfl (by decide) rfl ?_
    refine mr_iconst (pc := 13) (z := 0) dX12_units_13 ?_
    refine mr_istore_n (pc := 14) (lv' := [(3, iv 0), (2, iv 0), (0, .ref 106), (1, iv p1)]) dX12_units_14 rfl (by decide) rfl ?_
    have L235 : ∀ (nL235 : Nat) (z233 z232 : Int) (μ234 : mM), mT w μ234 → mF [106106, 175999] w μ μ234 → ((-2147483648) ≤ z233 ∧ z233 ≤ 2147483647) → (0 ≤ z232 ∧ z232 ≤ 16) → (17 - z232) < (nL235 : Int) → loopF (WL_X12_units_W_1 w μ p1 Q) False nL235 (z233, z232, μ234) → sV (gG l D c H0 sa) mX12_units (sRm 5 0 0) (sZ (gG l D c H0 sa) 0 0 (qI w [106106, 175999] μ (fun z μ1 => ((-2147483648) ≤ z ∧ z ≤ 2147483647) ∧ Q z μ1 ∧ True))) 15 [(0, .ref 106), (1, iv p1), (2, iv z233), (3, iv z232)] [] (mk w μ234) 0 0 := by
      intro nL235
      induction nL235 with
      | zero => intro z233 z232 μ234 T238 F239 h236 h237 h241 W242; exact ((vc_X2_unitsOver_1 h241 h237)).elim
      | succ nL235 ih243 =>
        intro z233 z232 μ234 T238 F239 h236 h237 h241 W242
        refine mr_iload_n (pc := 15) (z := z232) dX12_units_15 rfl rfl ?_
        refine sv_aload_n (pc := 16) dX12_units_16 rfl rfl ?_
        refine gf_X12_109 (pc := 17) dX12_units_17 wF_X12_695 (A_106 hw) T238 fun z244 q245 h246 => ?_
        refine mr_icmp_ge (pc := 20) (tgt := 62) dX12_units_20 (by decide) (r32 h237 rfl) (r32 h246 rfl) (fun h266 => ?_) (fun h266 => ?_)
        · refine mr_iload_n (pc := 62) (z := z233) dX12_units_62 rfl rfl ?_
          exact mr_iret dX12_units_63 rfl (le_t rfl) (le_t rfl) T238 (mF.call mF.refl F239 rfl) ⟨h236, (((W242 z233 z232 μ234 rfl h236 h237 T238 F239) z244 q245 h246).1 h266), trivial⟩
        have h267 : 0 ≤ z232 ∧ z232 ≤ 15 := (vc_X12_load_11 h266 h237 h246)
        have h268 : 1 ≤ z244 ∧ z244 ≤ 16 := (vc_X12_load_12 h266 h267 h246)
        refine mr_iload_n (pc := 23) (z := z233) dX12_units_23 rfl rfl ?_
        refine sv_aload_n (pc := 24) dX12_units_24 rfl rfl ?_
        refine sv_aload_n (pc := 25) dX12_units_25 rfl rfl ?_
        refine gf_X12_110 (pc := 26) dX12_units_26 wF_X12_493 (A_106 hw) T238 ?_
        refine mr_iload_n (pc := 29) (z := z232) dX12_units_29 rfl rfl ?_
        refine la_177 (pc := 30) dX12_units_30 (A_177 hw) T238 (rIx (n := 16) h267 rfl) fun z269 q270 h271 => ?_
        refine sv_aload_n (pc := 31) dX12_units_31 rfl rfl ?_
        refine gf_X12_111 (pc := 32) dX12_units_32 wF_X12_496 (A_106 hw) T238 ?_
        refine mr_iload_n (pc := 35) (z := z232) dX12_units_35 rfl rfl ?_
        refine la_178 (pc := 36) dX12_units_36 (A_178 hw) T238 (rIx (n := 16) h267 rfl) fun z272 q273 h274 => ?_
        have W280 := (((((W242 z233 z232 μ234 rfl h236 h237 T238 F239) z244 q245 h246).2 h266) z269 q270 h271) z272 q273 h274)
        refine mr_cVI (pc := 37) (c_X12_goes_W hw T238 h271 h274 W280) (gOk _ _ _ _ _) dX12_units_37 (tX12_goes _ _ _ _ _) ⟨wV_X12_goes, wL_X12_goes⟩ wM_X12_689 (gCX12 _ _ _ _ _) rfl (A_106 hw) rfl ⟨le_t rfl, le_t rfl⟩ ⟨le_t rfl, le_t rfl⟩ rfl (le_t rfl) fun z279 μ275 T276 F277 h278 => ?_
        refine mr_iload_n (pc := 40) (z := p1) dX12_units_40 rfl rfl ?_
        refine mr_icmp_ne (pc := 41) (tgt := 53) dX12_units_41 (by decide) (r32 h278.1 rfl) (r32 h9 rfl) (fun h284 => ?_) (fun h284 => ?_)
        · refine mr_iconst (pc := 53) (z := 0) dX12_units_53 ?_
          refine mr_iadd (pc := 54) (x := z233) (y := 0) dX12_units_54 ?_
          refine mr_istore_n (pc := 55) (lv' := [(2, iv (z233 + 0)), (0, .ref 106), (1, iv p1), (3, iv z232)]) dX12_units_55 rfl (by decide) rfl ?_
          refine mr_iinc (pc := 56) (lv' := [(3, iv (z232 + 1)), (2, iv (z233 + 0)), (0, .ref 106), (1, iv p1)]) dX12_units_56 rfl (by decide) rfl ?_
          refine sv_goto (pc := 59) (tgt := 15) dX12_units_59 (by decide) ?_
          refine mr_lvS (lv' := [(0, .ref 106), (1, iv p1), (2, iv (z233 + 0)), (3, iv (z232 + 1))]) (List.forall_mem_cons.mpr ⟨rfl, List.forall_mem_cons.mpr ⟨rfl, List.forall_mem_cons.mpr ⟨rfl, List.forall_mem_cons.mpr ⟨rfl, fun _ h => absurd h List.not_mem_nil⟩⟩⟩⟩) ?_
          exact ih243 (z233 + 0) (z232 + 1) μ275 T276 (mF.call (mF.call mF.refl F239 rfl) F277 rfl) (rAdd (e := (-2147483648)) (f := 2147483647) h236 (rR (x := 0)) rfl) (rW (c := 0) (d := 16) (rAdd (e := 1) (f := 16) h267 (rR (x := 1)) rfl) rfl) (vc_X12_load_14 (nS h241) h266 h267 h268) (((h278.2.1 T276 F277) h278.1).1 h284)
        refine sv_aload_n (pc := 44) dX12_units_44 rfl rfl ?_
        refine gf_X12_112 (pc := 45) dX12_units_45 wF_X12_499 (A_106 hw) T276 ?_
        refine mr_iload_n (pc := 48) (z := z232) dX12_units_48 rfl rfl ?_
        refine la_179 (pc := 49) dX12_units_49 (A_179 hw) T276 (rIx (n := 16) h267 rfl) fun z285 q286 h287 => ?_
        refine sv_goto (pc := 50) (tgt := 54) dX12_units_50 (by decide) ?_
        refine mr_iadd (pc := 54) (x := z233) (y := z285) dX12_units_54 ?_
        refine mr_wrapF fun z288 h289 h290 => ?_
        refine mr_istore_n (pc := 55) (lv' := [(2, iv z288), (0, .ref 106), (1, iv p1), (3, iv z232)]) dX12_units_55 rfl (by decide) rfl ?_
        refine mr_iinc (pc := 56) (lv' := [(3, iv (z232 + 1)), (2, iv z288), (0, .ref 106), (1, iv p1)]) dX12_units_56 rfl (by decide) rfl ?_
        refine sv_goto (pc := 59) (tgt := 15) dX12_units_59 (by decide) ?_
        refine mr_lvS (lv' := [(0, .ref 106), (1, iv p1), (2, iv z288), (3, iv (z232 + 1))]) (List.forall_mem_cons.mpr ⟨rfl, List.forall_mem_cons.mpr ⟨rfl, List.forall_mem_cons.mpr ⟨rfl, List.forall_mem_cons.mpr ⟨rfl, fun _ h => absurd h List.not_mem_nil⟩⟩⟩⟩) ?_
        exact ih243 z288 (z232 + 1) μ275 T276 (mF.call (mF.call mF.refl F239 rfl) F277 rfl) h289 (rW (c := 0) (d := 16) (rAdd (e := 1) (f := 16) h267 (rR (x := 1)) rfl) rfl) (vc_X12_load_14 (nS h241) h266 h267 h268) (((((h278.2.1 T276 F277) h278.1).2 h284) z285 q286 h287) z288 h289 h290)
    refine mr_lvS (lv' := [(0, .ref 106), (1, iv p1), (2, iv 0), (3, iv 0)]) (List.forall_mem_cons.mpr ⟨rfl, List.forall_mem_cons.mpr ⟨rfl, List.forall_mem_cons.mpr ⟨rfl, List.forall_mem_cons.mpr ⟨rfl, fun _ h => absurd h List.not_mem_nil⟩⟩⟩⟩) ?_
    exact L235 18 0 0 μ hT mF.refl (rW (c := (-2147483648)) (d := 2147483647) (rR (x := 0)) rfl) (rW (c := 0) (d := 16) (rR (x := 0)) rfl) vc_X2_unitsOver_13 ((h4.2.2.2.1 h4.1).1 h6)
  have h291 : 0 ≤ z5 ∧ z5 ≤ 0 := (vc_X12_announce_W_16 h6 h4.2.1 h4.2.2.1 hp1 h4.1)
  have h292 : p1 < (0 : Int) ∨ (2 : Int) < p1 := (h4.2.2.1 (vc_X12_announce_W_17 h4.2.1 h4.2.2.1 h6 hp1 h291))
  refine mr_iconst (pc := 9) (z := (-1)) dX12_units_9 ?_
  exact mr_iret dX12_units_10 rfl (le_t rfl) (le_t rfl) hT mF.refl ⟨(rW (c := (-2147483648)) (d := 2147483647) (rR (x := (-1))) rfl), ((h4.2.2.2.1 h4.1).2 h6), trivial⟩
def WP_X11_count_W (w : mW) (μ : mM) (p1 : Int) (Q : Int → mM → Prop) : Prop := (p1 = 0 → ∀ z3 : Int, μ 6 14 = z3 → (0 ≤ z3 ∧ z3 ≤ 10) → Q z3 μ) ∧ (¬ p1 = 0 → (p1 = 1 → ∀ z8 : Int, μ 6 15 = z8 → (z8 = w.2.2.2 0 ∧ 0 ≤ z8 ∧ z8 ≤ 10) → Q z8 μ) ∧ (¬ p1 = 1 → (p1 = 2 → ∀ z13 : Int, μ 6 16 = z13 → (z13 = w.2.2.2 1 ∧ 0 ≤ z13 ∧ z13 ≤ 20) → Q z13 μ) ∧ (¬ p1 = 2 → (p1 = 3 → ∀ z18 : Int, μ 6 17 = z18 → (0 ≤ z18 ∧ z18 ≤ 30) → Q z18 μ) ∧ (¬ p1 = 3 → (p1 = 4 → ∀ z23 : Int, μ 21 8 = z23 → (z23 = w.2.2.2 2 ∧ 0 ≤ z23 ∧ z23 ≤ 12) → Q z23 μ) ∧ (¬ p1 = 4 → (p1 = 5 → ∀ z28 : Int, μ 87 10 = z28 → (0 ≤ z28 ∧ z28 ≤ 16 ∧ (z28 = 0 ∨ 0 < w.2.2.2 0)) → Q z28 μ) ∧ (¬ p1 = 5 → (p1 = 6 → ∀ z34 : Int, μ 0 10 = z34 → (0 ≤ z34 ∧ z34 ≤ 1000) → Q z34 μ) ∧ (¬ p1 = 6 → (p1 = 7 → ∀ z39 : Int, μ 32 11 = z39 → ((-1) ≤ z39 ∧ z39 ≤ 2000000000) → Q z39 μ) ∧ (¬ p1 = 7 → (p1 = 8 → ∀ z45 : Int, μ 32 10 = z45 → (0 ≤ z45 ∧ z45 ≤ 800 ∧ (z45 = 0 ∨ 0 < w.2.2.2 1)) → Q z45 μ) ∧ (¬ p1 = 8 → (p1 = 9 → ∀ z51 : Int, μ 32 12 = z51 → ((-2147483648) ≤ z51 ∧ z51 ≤ 2147483647) → Q z51 μ) ∧ (¬ p1 = 9 → (p1 = 10 → ∀ z56 : Int, μ 0 11 = z56 → (0 ≤ z56 ∧ z56 ≤ 20) → Q z56 μ) ∧ (¬ p1 = 10 → (p1 = 11 → ∀ z61 : Int, μ 6 18 = z61 → (0 ≤ z61 ∧ z61 ≤ 2147483647) → Q z61 μ) ∧ (¬ p1 = 11 → Q ((-1) : Int) μ))))))))))))
def WJ_X12_count_W_2 (μ : mM) (rec1 : (Int × Int) → Prop) (z421 : Int) (z420 : Int) (z518 : Int) : Prop := (0 ≤ z518 ∧ z518 ≤ 1) → ∀ z522 : Int, μ 159 (z420.toNat) = z522 → ((-1) ≤ z522 ∧ z522 ≤ 2000001000) → ((z522 < 0) → ∀ z529 : Int, (-2147483648 ≤ z529 ∧ z529 ≤ 2147483647) → (z529 - (z421 + (z518 + 0))) % 4294967296 = 0 → rec1 (z529, (z420 + 1))) ∧ ((0 ≤ z522) → ∀ z533 : Int, (-2147483648 ≤ z533 ∧ z533 ≤ 2147483647) → (z533 - (z421 + (z518 + 1))) % 4294967296 = 0 → rec1 (z533, (z420 + 1)))
def WL_X12_count_W_1 (μ : mM) (p1 : Int) (Q : Int → mM → Prop) (rec1 : (Int × Int) → Prop) (s : (Int × Int)) : Prop := ∀ z421 : Int, ∀ z420 : Int, s = (z421, z420) → ((-2147483648) ≤ z421 ∧ z421 ≤ 2147483647) → (0 ≤ z420 ∧ z420 ≤ 400) → ((400 ≤ z420) → (p1 = 0 → ∀ z455 : Int, μ 106 2 = z455 → (0 ≤ z455 ∧ z455 ≤ 10) → Q z455 μ) ∧ (¬ p1 = 0 → (p1 = 1 → ∀ z460 : Int, μ 106 5 = z460 → (0 ≤ z460 ∧ z460 ≤ 10) → Q z460 μ) ∧ (¬ p1 = 1 → (p1 = 2 → ∀ z465 : Int, μ 106 6 = z465 → (0 ≤ z465 ∧ z465 ≤ 20) → Q z465 μ) ∧ (¬ p1 = 2 → (p1 = 3 → ∀ z471 : Int, μ 106 18 = z471 → (0 ≤ z471 ∧ z471 ≤ 30) → Q z471 μ) ∧ (¬ p1 = 3 → (p1 = 4 → ∀ z476 : Int, μ 106 39 = z476 → (0 ≤ z476 ∧ z476 ≤ 12) → Q z476 μ) ∧ (¬ p1 = 4 → (p1 = 5 → ∀ z481 : Int, μ 106 109 = z481 → (0 ≤ z481 ∧ z481 ≤ 16) → Q z481 μ) ∧ (¬ p1 = 5 → (p1 = 6 → ∀ z486 : Int, μ 106 1 = z486 → (0 ≤ z486 ∧ z486 ≤ 1000) → Q z486 μ) ∧ (¬ p1 = 6 → (p1 = 7 → ∀ z491 : Int, μ 106 71 = z491 → (0 ≤ z491 ∧ z491 ≤ 2000000000) → Q z491 μ) ∧ (¬ p1 = 7 → (p1 = 8 → Q z421 μ) ∧ (¬ p1 = 8 → (p1 = 9 → ∀ z498 : Int, μ 106 73 = z498 → ((-2147483648) ≤ z498 ∧ z498 ≤ 2147483647) → Q z498 μ) ∧ (¬ p1 = 9 → (p1 = 10 → ∀ z504 : Int, μ 106 15 = z504 → (0 ≤ z504 ∧ z504 ≤ 20) → Q z504 μ) ∧ (¬ p1 = 10 → (p1 = 11 → ∀ z509 : Int, μ 106 17 = z509 → (0 ≤ z509 ∧ z509 ≤ 2147483647) → Q z509 μ) ∧ (¬ p1 = 11 → Q ((-1) : Int) μ))))))))))))) ∧ ((z420 < 400) → ∀ z513 : Int, μ 157 (z420.toNat) = z513 → ((-1) ≤ z513 ∧ z513 ≤ 2000001000) → ((z513 < 0) → (WJ_X12_count_W_2 μ rec1 z421 z420) (0 : Int)) ∧ ((0 ≤ z513) → (WJ_X12_count_W_2 μ rec1 z421 z420) (1 : Int)))
def WP_X12_count_W (w : mW) (μ : mM) (p1 : Int) (Q : Int → mM → Prop) : Prop := loopF (WL_X12_count_W_1 μ p1 Q) False 402 ((0 : Int), (0 : Int))
def WP_X2_addDemand_W (w : mW) (μ : mM) (p1 : Int) (p2 : Int) (p3 : Int) (Q : Int → mM → Prop) : Prop := ∀ f_d : Int, μ 87 10 = f_d → (0 ≤ f_d ∧ f_d ≤ 16 ∧ (f_d = 0 ∨ 0 < w.2.2.2 0)) → ∀ μ39 : mM, mU μ 90 (f_d.toNat) p1 μ39 → mT w μ39 → ∀ μ42 : mM, mU μ39 91 (f_d.toNat) p2 μ42 → mT w μ42 → ∀ μ45 : mM, mU μ42 92 (f_d.toNat) p3 μ45 → mT w μ45 → ∀ μ48 : mM, mU μ45 87 (10) (f_d + 1) μ48 → mT w μ48 → Q ((f_d + 1) - 1) μ48
theorem vc_X2_addDemand_W_1 {f_d n0 : Int} (h0 : f_d ≤ 15) (h1 : (f_d = 0 ∨ 0 < n0)) (h2 : 0 ≤ f_d ∧ f_d ≤ 16) : 0 ≤ f_d ∧ f_d ≤ 15 := by omega
theorem vc_X2_addDemand_W_2 {f_d n0 p1 : Int} (h0 : (f_d = 0 ∨ 0 < n0)) (h1 : p1 < n0) (h2 : f_d ≤ 15) (h3 : 0 ≤ f_d ∧ f_d ≤ 15) (h4 : 0 ≤ p1 ∧ p1 ≤ 9) : 0 ≤ p1 ∧ p1 ≤ 9 ∧ (p1 = 0 ∨ p1 < n0) := by omega
theorem vc_X2_addDemand_W_3 {f_d n0 p1 : Int} (h0 : (f_d = 0 ∨ 0 < n0)) (h1 : p1 < n0) (h2 : f_d ≤ 15) (h3 : 0 ≤ f_d ∧ f_d ≤ 15) (h4 : 0 ≤ p1 ∧ p1 ≤ 9) : 0 ≤ (f_d + 1) ∧ (f_d + 1) ≤ 16 ∧ ((f_d + 1) = 0 ∨ 0 < n0) := by omega
set_option maxRecDepth 4000 in
set_option maxHeartbeats 4000000 in
theorem c_X2_addDemand_W {l : Launch} {D : va_G} {c : Nat → ClassId} {H0 : Heap} {sa : Nat × Nat × (Nat → Int32)} {w : mW} {μ : mM} (hw : mWF w) (hT : mT w μ) {p1 : Int} (hp1 : 0 ≤ p1 ∧ p1 ≤ 9) {p2 : Int} (hp2 : (-2147483648) ≤ p2 ∧ p2 ≤ 2147483647) {p3 : Int} (hp3 : (-2147483648) ≤ p3 ∧ p3 ≤ 2147483647) {f_d : Int} (q_f_d : μ 87 10 = f_d) (hq0 : p1 < w.2.2.2 0) (hq1 : f_d ≤ 15) {Q : Int → mM → Prop} (hQ : WP_X2_addDemand_W w μ p1 p2 p3 Q) : sC (gG l D c H0 sa) mX2_addDemand 1 0 0 [.ref 87, iv p1, iv p2, iv p3] (mk w μ) (qI w [87010, 90999, 91999, 92999] μ (fun z μ1 => ((-2147483648) ≤ z ∧ z ≤ 2147483647) ∧ Q z μ1 ∧ True)) := by
  refine sC.of rfl (by decide) (le_t rfl) ?_
  have ht_f_d : (0 ≤ f_d ∧ f_d ≤ 16 ∧ (f_d = 0 ∨ 0 < w.2.2.2 0)) := by rw [← q_f_d]; exact hT 87 87 (A_87 hw) 10
  have h1 : 0 ≤ f_d ∧ f_d ≤ 16 := ⟨ht_f_d.1, ht_f_d.2.1⟩
  have h2 : 0 ≤ f_d ∧ f_d ≤ 15 := (vc_X2_addDemand_W_1 hq1 ht_f_d.2.2 h1)
  refine mr_lvE (lv' := [(0, .ref 87), (1, iv p1), (2, iv p2), (3, iv p3)]) rfl ?_
  refine sv_aload_n (pc := 0) dX2_addDemand_0 rfl rfl ?_
  refine gf_X2_2 (pc := 1) dX2_addDemand_1 wF_X2_22 (A_87 hw) hT ?_
  refine sv_aload_n (pc := 4) dX2_addDemand_4 rfl rfl ?_
  refine gk_X2_10 (pc := 5) dX2_addDemand_5 wF_X2_95 (A_87 hw) q_f_d ?_
  refine mr_iload_n (pc := 8) (z := p1) dX2_addDemand_8 rfl rfl ?_
  refine ss_90 (pc := 9) dX2_addDemand_9 (A_90 hw) hT (rIx (n := 16) h2 rfl) (vc_X2_addDemand_W_2 ht_f_d.2.2 hq0 hq1 h2 hp1) fun μ39 u40 T41 => ?_
  refine sv_aload_n (pc := 10) dX2_addDemand_10 rfl rfl ?_
  refine gf_X2_3 (pc := 11) dX2_addDemand_11 wF_X2_25 (A_87 hw) T41 ?_
  refine sv_aload_n (pc := 14) dX2_addDemand_14 rfl rfl ?_
  refine gk_X2_10 (pc := 15) dX2_addDemand_15 wF_X2_95 (A_87 hw) (u40.f (Or.inl (mAt.ne (A_90 hw) (A_87 hw) rfl)) q_f_d) ?_
  refine mr_iload_n (pc := 18) (z := p2) dX2_addDemand_18 rfl rfl ?_
  refine ss_91 (pc := 19) dX2_addDemand_19 (A_91 hw) T41 (rIx (n := 16) h2 rfl) hp2 fun μ42 u43 T44 => ?_
  refine sv_aload_n (pc := 20) dX2_addDemand_20 rfl rfl ?_
  refine gf_X2_4 (pc := 21) dX2_addDemand_21 wF_X2_28 (A_87 hw) T44 ?_
  refine sv_aload_n (pc := 24) dX2_addDemand_24 rfl rfl ?_
  refine gk_X2_10 (pc := 25) dX2_addDemand_25 wF_X2_95 (A_87 hw) (u43.f (Or.inl (mAt.ne (A_91 hw) (A_87 hw) rfl)) (u40.f (Or.inl (mAt.ne (A_90 hw) (A_87 hw) rfl)) q_f_d)) ?_
  refine mr_iload_n (pc := 28) (z := p3) dX2_addDemand_28 rfl rfl ?_
  refine ss_92 (pc := 29) dX2_addDemand_29 (A_92 hw) T44 (rIx (n := 16) h2 rfl) hp3 fun μ45 u46 T47 => ?_
  refine sv_aload_n (pc := 30) dX2_addDemand_30 rfl rfl ?_
  refine sv_dup (pc := 31) dX2_addDemand_31 rfl ?_
  refine gk_X2_10 (pc := 32) dX2_addDemand_32 wF_X2_95 (A_87 hw) (u46.f (Or.inl (mAt.ne (A_92 hw) (A_87 hw) rfl)) (u43.f (Or.inl (mAt.ne (A_91 hw) (A_87 hw) rfl)) (u40.f (Or.inl (mAt.ne (A_90 hw) (A_87 hw) rfl)) q_f_d))) ?_
  refine mr_iconst (pc := 35) (z := 1) dX2_addDemand_35 ?_
  refine mr_iadd (pc := 36) (x := f_d) (y := 1) dX2_addDemand_36 ?_
  refine pf_X2_10 (pc := 37) dX2_addDemand_37 wF_X2_95 (A_87 hw) T47 (vc_X2_addDemand_W_3 ht_f_d.2.2 hq0 hq1 h2 hp1) fun μ48 u49 T50 => ?_
  refine sv_aload_n (pc := 40) dX2_addDemand_40 rfl rfl ?_
  refine gk_X2_10 (pc := 41) dX2_addDemand_41 wF_X2_95 (A_87 hw) u49.1 ?_
  refine mr_iconst (pc := 44) (z := 1) dX2_addDemand_44 ?_
  refine mr_isub (pc := 45) (x := (f_d + 1)) (y := 1) dX2_addDemand_45 ?_
  exact mr_iret dX2_addDemand_46 rfl (le_t rfl) (le_t rfl) T50 (mF.up (mF.up (mF.up (mF.up mF.refl (A_90 hw) u40 rfl) (A_91 hw) u43 rfl) (A_92 hw) u46 rfl) (A_87 hw) u49 rfl) ⟨(rW (c := (-2147483648)) (d := 2147483647) (rSub (e := 0) (f := 15) (rAdd (e := 1) (f := 16) h2 (rR (x := 1)) rfl) (rR (x := 1)) rfl) rfl), (((((hQ f_d q_f_d ht_f_d) μ39 u40 T41) μ42 u43 T44) μ45 u46 T47) μ48 u49 T50), trivial⟩
def WP_X11_demand_W (w : mW) (μ : mM) (p1 : Int) (p2 : Int) (p3 : Int) (Q : Int → mM → Prop) : Prop := ∀ z1 : Int, μ 6 15 = z1 → (z1 = w.2.2.2 0 ∧ 0 ≤ z1 ∧ z1 ≤ 10) → WP_X11_isDomain_W w μ p1 (fun z8 _ => (0 ≤ z8 ∧ z8 ≤ 1) → ((z8 = 0) → Q ((-1) : Int) μ) ∧ ((¬ z8 = 0) → ((p3 < 1) → Q ((-1) : Int) μ) ∧ ((1 ≤ p3) → ((p3 ≤ 1000000) → ∀ z21 : Int, μ 87 10 = z21 → (0 ≤ z21 ∧ z21 ≤ 16 ∧ (z21 = 0 ∨ 0 < w.2.2.2 0)) → ((z21 < 16) → WP_X2_addDemand_W w μ p1 p2 p3 (fun z31 μ27 => mT w μ27 → mF [87010, 90999, 91999, 92999] w μ μ27 → ((-2147483648) ≤ z31 ∧ z31 ≤ 2147483647) → Q z31 μ27)) ∧ ((16 ≤ z21) → Q ((-3) : Int) μ)) ∧ ((1000000 < p3) → Q ((-1) : Int) μ))))
theorem vc_X11_demand_W_9 {p3 : Int} (h0 : p3 ≤ 1000000) (h1 : 1 ≤ p3) (h2 : 1 ≤ p3 ∧ p3 ≤ 2147483647) : 1 ≤ p3 ∧ p3 ≤ 1000000 := by omega
theorem vc_X11_demand_W_10 {n0 z21 : Int} (h0 : z21 < 16) (h1 : (z21 = 0 ∨ 0 < n0)) (h2 : 0 ≤ z21 ∧ z21 ≤ 16) : 0 ≤ z21 ∧ z21 ≤ 15 := by omega
theorem vc_X11_demand_W_11 {n0 p1 z1 z21 z8 : Int} (h0 : z1 = n0) (h1 : (z8 = 1 → 0 ≤ p1 ∧ p1 < z1)) (h2 : (z8 = 0 → p1 < 0 ∨ z1 ≤ p1)) (h3 : 0 ≤ p1 ∧ p1 < z1) (h4 : (z21 = 0 ∨ 0 < n0)) (h5 : ¬ z8 = 0) (h6 : z21 < 16) (h7 : 0 ≤ p1 ∧ p1 ≤ 9) (h8 : 1 ≤ z1 ∧ z1 ≤ 10) (h9 : 0 ≤ z21 ∧ z21 ≤ 15) (h10 : 1 ≤ z8 ∧ z8 ≤ 1) : p1 < n0 := by omega
theorem vc_X11_demand_W_12 {n0 z1 z21 : Int} (h0 : (z21 = 0 ∨ 0 < n0)) (h1 : z21 < 16) (h2 : z1 = n0) (h3 : 1 ≤ z1 ∧ z1 ≤ 10) (h4 : 0 ≤ z21 ∧ z21 ≤ 15) : z21 ≤ 15 := by omega
theorem vc_X11_demand_W_13 {n0 z21 : Int} (h0 : 16 ≤ z21) (h1 : (z21 = 0 ∨ 0 < n0)) (h2 : 0 ≤ z21 ∧ z21 ≤ 16) : 16 ≤ z21 ∧ z21 ≤ 16 := by omega
theorem vc_X11_demand_W_14 {p3 : Int} (h0 : 1000000 < p3) (h1 : 1 ≤ p3) (h2 : 1 ≤ p3 ∧ p3 ≤ 2147483647) : 1000001 ≤ p3 ∧ p3 ≤ 2147483647 := by omega
set_option maxRecDepth 4000 in
set_option maxHeartbeats 4000000 in
theorem c_X11_demand_W {l : Launch} {D : va_G} {c : Nat → ClassId} {H0 : Heap} {sa : Nat × Nat × (Nat → Int32)} {w : mW} {μ : mM} (hw : mWF w) (hT : mT w μ) {p1 : Int} (hp1 : (-2147483648) ≤ p1 ∧ p1 ≤ 2147483647) {p2 : Int} (hp2 : (-2147483648) ≤ p2 ∧ p2 ≤ 2147483647) {p3 : Int} (hp3 : (-2147483648) ≤ p3 ∧ p3 ≤ 2147483647) {Q : Int → mM → Prop} (hQ : WP_X11_demand_W w μ p1 p2 p3 Q) : sC (gG l D c H0 sa) mX11_demand 2 0 0 [.ref 0, iv p1, iv p2, iv p3] (mk w μ) (qI w [87010, 90999, 91999, 92999] μ (fun z μ1 => ((-2147483648) ≤ z ∧ z ≤ 2147483647) ∧ Q z μ1 ∧ True)) := by
  refine sC.of rfl (by decide) (le_t rfl) ?_
  refine mr_lvE (lv' := [(0, .ref 0), (1, iv p1), (2, iv p2), (3, iv p3)]) rfl ?_
  refine sv_aload_n (pc := 0) dX11_demand_0 rfl rfl ?_
  refine mr_iload_n (pc := 1) (z := p1) dX11_demand_1 rfl rfl ?_
  obtain ⟨z1, q2⟩ : ∃ z, μ 6 15 = z := ⟨_, rfl⟩
  have h3 : (z1 = w.2.2.2 0 ∧ 0 ≤ z1 ∧ z1 ≤ 10) := by rw [← q2]; exact hT 6 6 (A_6 hw) 15
  refine mr_cVP (pc := 2) (c_X11_isDomain_W hw hT hp1 q2 (hQ z1 q2 h3)) (gOk _ _ _ _ _) dX11_demand_2 (tX11_isDomain _ _ _ _ _) ⟨wV_X11_isDomain, wL_X11_isDomain⟩ wM_X11_105 (gCX11 _ _ _ _ _) rfl (A_0 hw) rfl ⟨le_t rfl, le_t rfl⟩ ⟨le_t rfl, le_t rfl⟩ rfl (le_t rfl) fun z8 h7 => ?_
  refine mr_if_eq (pc := 5) (tgt := 19) dX11_demand_5 (by decide) (r32 h7.1 rfl) (fun h9 => ?_) (fun h9 => ?_)
  · have h10 : 0 ≤ z8 ∧ z8 ≤ 0 := (vc_X12_write_78 h9 h7.2.1 h7.2.2.1 hp1 h3.2 h7.1)
    have h11 : p1 < 0 ∨ z1 ≤ p1 := (h7.2.2.1 (vc_X11_letter_2 h7.2.1 h7.2.2.1 h9 h3.1 hp1 h3.2 h10))
    refine mr_iconst (pc := 19) (z := (-1)) dX11_demand_19 ?_
    exact mr_iret dX11_demand_20 rfl (le_t rfl) (le_t rfl) hT mF.refl ⟨(rW (c := (-2147483648)) (d := 2147483647) (rR (x := (-1))) rfl), ((h7.2.2.2.1 h7.1).1 h9), trivial⟩
  have h12 : 1 ≤ z8 ∧ z8 ≤ 1 := (vc_X12_write_12 h9 h7.2.1 h7.2.2.1 hp1 h3.2 h7.1)
  have h13 : 0 ≤ p1 ∧ p1 < z1 := (h7.2.1 (vc_X11_letter_4 h7.2.1 h7.2.2.1 h9 h3.1 hp1 h3.2 h12))
  have h14 : 0 ≤ p1 ∧ p1 ≤ 9 := (vc_X11_letter_5 h13 h3.1 h7.2.1 h7.2.2.1 hp1 h3.2 h12)
  have h15 : 1 ≤ z1 ∧ z1 ≤ 10 := (vc_X11_letter_6 h13 h3.1 h7.2.1 h7.2.2.1 h14 h3.2 h12)
  refine mr_iload_n (pc := 8) (z := p3) dX11_demand_8 rfl rfl ?_
  refine mr_iconst (pc := 9) (z := 1) dX11_demand_9 ?_
  refine mr_icmp_lt (pc := 10) (tgt := 19) dX11_demand_10 (by decide) hp3 (r32 (rR (x := 1)) rfl) (fun h16 => ?_) (fun h16 => ?_)
  · have h17 : (-2147483648) ≤ p3 ∧ p3 ≤ 0 := (vc_X11_go_W_1 h16 hp3)
    refine mr_iconst (pc := 19) (z := (-1)) dX11_demand_19 ?_
    exact mr_iret dX11_demand_20 rfl (le_t rfl) (le_t rfl) hT mF.refl ⟨(rW (c := (-2147483648)) (d := 2147483647) (rR (x := (-1))) rfl), (((h7.2.2.2.1 h7.1).2 h9).1 h16), trivial⟩
  have h18 : 1 ≤ p3 ∧ p3 ≤ 2147483647 := (vc_X11_go_W_2 h16 hp3)
  refine mr_iload_n (pc := 13) (z := p3) dX11_demand_13 rfl rfl ?_
  refine mr_ldc (pc := 14) (z := 1000000) dX11_demand_14 wG_X11_226 (by decide) ?_
  refine mr_icmp_le (pc := 16) (tgt := 21) dX11_demand_16 (by decide) (r32 h18 rfl) (r32 (rR (x := 1000000)) rfl) (fun h19 => ?_) (fun h19 => ?_)
  · have h20 : 1 ≤ p3 ∧ p3 ≤ 1000000 := (vc_X11_demand_W_9 h19 h16 h18)
    refine sv_aload_n (pc := 21) dX11_demand_21 rfl rfl ?_
    refine gf_X11_8 (pc := 22) dX11_demand_22 wF_X11_65 (A_0 hw) hT ?_
    refine gf_X2_10 (pc := 25) dX11_demand_25 wF_X11_373 (A_87 hw) hT fun z21 q22 h23 => ?_
    have h24 : 0 ≤ z21 ∧ z21 ≤ 16 := ⟨h23.1, h23.2.1⟩
    refine mr_bipush (pc := 28) (z := 16) dX11_demand_28 (by decide) ?_
    refine mr_icmp_lt (pc := 30) (tgt := 36) dX11_demand_30 (by decide) (r32 h24 rfl) (r32 (rR (x := 16)) rfl) (fun h25 => ?_) (fun h25 => ?_)
    · have h26 : 0 ≤ z21 ∧ z21 ≤ 15 := (vc_X11_demand_W_10 h25 h23.2.2 h24)
      refine sv_aload_n (pc := 36) dX11_demand_36 rfl rfl ?_
      refine gf_X11_8 (pc := 37) dX11_demand_37 wF_X11_65 (A_0 hw) hT ?_
      refine mr_iload_n (pc := 40) (z := p1) dX11_demand_40 rfl rfl ?_
      refine mr_iload_n (pc := 41) (z := p2) dX11_demand_41 rfl rfl ?_
      refine mr_iload_n (pc := 42) (z := p3) dX11_demand_42 rfl rfl ?_
      refine mr_cVI (pc := 43) (c_X2_addDemand_W hw hT h14 hp2 (rW (c := (-2147483648)) (d := 2147483647) h20 rfl) q22 (vc_X11_demand_W_11 h3.1 h7.2.1 h7.2.2.1 h13 h23.2.2 h9 h25 h14 h15 h26 h12) (vc_X11_demand_W_12 h23.2.2 h25 h3.1 h15 h26) ((((((h7.2.2.2.1 h7.1).2 h9).2 h16).1 h19) z21 q22 h23).1 h25)) (gOk _ _ _ _ _) dX11_demand_43 (tX2_addDemand _ _ _ _ _) ⟨wV_X2_addDemand, wL_X2_addDemand⟩ wM_X11_376 (gCX2 _ _ _ _ _) rfl (A_87 hw) rfl ⟨le_t rfl, le_t rfl⟩ ⟨le_t rfl, le_t rfl⟩ rfl (le_t rfl) fun z31 μ27 T28 F29 h30 => ?_
      exact mr_iret dX11_demand_46 rfl (le_t rfl) (le_t rfl) T28 (mF.call mF.refl F29 rfl) ⟨h30.1, ((h30.2.1 T28 F29) h30.1), trivial⟩
    have h32 : 16 ≤ z21 ∧ z21 ≤ 16 := (vc_X11_demand_W_13 h25 h23.2.2 h24)
    refine mr_bipush (pc := 33) (z := (-3)) dX11_demand_33 (by decide) ?_
    exact mr_iret dX11_demand_35 rfl (le_t rfl) (le_t rfl) hT mF.refl ⟨(rW (c := (-2147483648)) (d := 2147483647) (rR (x := (-3))) rfl), ((((((h7.2.2.2.1 h7.1).2 h9).2 h16).1 h19) z21 q22 h23).2 h25), trivial⟩
  have h33 : 1000001 ≤ p3 ∧ p3 ≤ 2147483647 := (vc_X11_demand_W_14 h19 h16 h18)
  refine mr_iconst (pc := 19) (z := (-1)) dX11_demand_19 ?_
  exact mr_iret dX11_demand_20 rfl (le_t rfl) (le_t rfl) hT mF.refl ⟨(rW (c := (-2147483648)) (d := 2147483647) (rR (x := (-1))) rfl), ((((h7.2.2.2.1 h7.1).2 h9).2 h16).2 h19), trivial⟩
def WP_X12_demand_W (w : mW) (μ : mM) (p1 : Int) (p2 : Int) (p3 : Int) (Q : Int → mM → Prop) : Prop := ∀ z1 : Int, μ 106 5 = z1 → (0 ≤ z1 ∧ z1 ≤ 10) → WP_X12_isDomain_W w μ p1 (fun z8 _ => (0 ≤ z8 ∧ z8 ≤ 1) → ((z8 = 0) → Q ((-1) : Int) μ) ∧ ((¬ z8 = 0) → WP_X12_in_W w μ p3 (1) (1000000) (fun z20 _ => (0 ≤ z20 ∧ z20 ≤ 1) → ((¬ z20 = 0) → ∀ z25 : Int, μ 106 109 = z25 → (0 ≤ z25 ∧ z25 ≤ 16) → ((¬ z25 = 16) → ∀ μ30 : mM, mU μ 177 (z25.toNat) p1 μ30 → mT w μ30 → ∀ μ33 : mM, mU μ30 178 (z25.toNat) p2 μ33 → mT w μ33 → ∀ μ36 : mM, mU μ33 179 (z25.toNat) p3 μ36 → mT w μ36 → ∀ μ39 : mM, mU μ36 106 (109) (z25 + 1) μ39 → mT w μ39 → Q ((z25 + 1) - 1) μ39) ∧ ((z25 = 16) → Q ((-3) : Int) μ)) ∧ ((z20 = 0) → Q ((-1) : Int) μ))))
theorem vc_X12_demand_W_7 {p3 z20 : Int} (h0 : ¬ z20 = 0) (h1 : (z20 = 1 → (1 : Int) ≤ p3 ∧ p3 ≤ (1000000 : Int))) (h2 : (z20 = 0 → p3 < (1 : Int) ∨ (1000000 : Int) < p3)) (h3 : (-2147483648) ≤ p3 ∧ p3 ≤ 2147483647) (h4 : 0 ≤ z20 ∧ z20 ≤ 1) : 1 ≤ z20 ∧ z20 ≤ 1 := by omega
theorem vc_X12_demand_W_8 {p3 z20 : Int} (h0 : (z20 = 1 → (1 : Int) ≤ p3 ∧ p3 ≤ (1000000 : Int))) (h1 : (z20 = 0 → p3 < (1 : Int) ∨ (1000000 : Int) < p3)) (h2 : ¬ z20 = 0) (h3 : (-2147483648) ≤ p3 ∧ p3 ≤ 2147483647) (h4 : 1 ≤ z20 ∧ z20 ≤ 1) : z20 = 1 := by omega
theorem vc_X12_demand_W_9 {p3 z20 : Int} (h0 : (1 : Int) ≤ p3 ∧ p3 ≤ (1000000 : Int)) (h1 : (z20 = 1 → (1 : Int) ≤ p3 ∧ p3 ≤ (1000000 : Int))) (h2 : (z20 = 0 → p3 < (1 : Int) ∨ (1000000 : Int) < p3)) (h3 : (-2147483648) ≤ p3 ∧ p3 ≤ 2147483647) (h4 : 1 ≤ z20 ∧ z20 ≤ 1) : 1 ≤ p3 ∧ p3 ≤ 1000000 := by omega
theorem vc_X12_demand_W_10 {z25 : Int} (h0 : ¬ z25 = 16) (h1 : 0 ≤ z25 ∧ z25 ≤ 16) : 0 ≤ z25 ∧ z25 ≤ 15 := by omega
theorem vc_X12_demand_W_11 {z25 : Int} (h0 : z25 = 16) (h1 : 0 ≤ z25 ∧ z25 ≤ 16) : 16 ≤ z25 ∧ z25 ≤ 16 := by omega
theorem vc_X12_demand_W_12 {p3 z20 : Int} (h0 : z20 = 0) (h1 : (z20 = 1 → (1 : Int) ≤ p3 ∧ p3 ≤ (1000000 : Int))) (h2 : (z20 = 0 → p3 < (1 : Int) ∨ (1000000 : Int) < p3)) (h3 : (-2147483648) ≤ p3 ∧ p3 ≤ 2147483647) (h4 : 0 ≤ z20 ∧ z20 ≤ 1) : 0 ≤ z20 ∧ z20 ≤ 0 := by omega
theorem vc_X12_demand_W_13 {p3 z20 : Int} (h0 : (z20 = 1 → (1 : Int) ≤ p3 ∧ p3 ≤ (1000000 : Int))) (h1 : (z20 = 0 → p3 < (1 : Int) ∨ (1000000 : Int) < p3)) (h2 : z20 = 0) (h3 : (-2147483648) ≤ p3 ∧ p3 ≤ 2147483647) (h4 : 0 ≤ z20 ∧ z20 ≤ 0) : z20 = 0 := by omega
set_option maxRecDepth 4000 in
set_option maxHeartbeats 4000000 in
theorem c_X12_demand_W {l : Launch} {D : va_G} {c : Nat → ClassId} {H0 : Heap} {sa : Nat × Nat × (Nat → Int32)} {w : mW} {μ : mM} (hw : mWF w) (hT : mT w μ) {p1 : Int} (hp1 : (-2147483648) ≤ p1 ∧ p1 ≤ 2147483647) {p2 : Int} (hp2 : (-2147483648) ≤ p2 ∧ p2 ≤ 2147483647) {p3 : Int} (hp3 : (-2147483648) ≤ p3 ∧ p3 ≤ 2147483647) {Q : Int → mM → Prop} (hQ : WP_X12_demand_W w μ p1 p2 p3 Q) : sC (gG l D c H0 sa) mX12_demand 3 0 0 [.ref 106, iv p1, iv p2, iv p3] (mk w μ) (qI w [106109, 177999, 178999, 179999] μ (fun z μ1 => ((-2147483648) ≤ z ∧ z ≤ 2147483647) ∧ Q z μ1 ∧ True)) := by
  refine sC.of rfl (by decide) (le_t rfl) ?_
  refine mr_lvE (lv' := [(0, .ref 106), (1, iv p1), (2, iv p2), (3, iv p3)]) rfl ?_
  refine sv_aload_n (pc := 0) dX12_demand_0 rfl rfl ?_
  refine mr_iload_n (pc := 1) (z := p1) dX12_demand_1 rfl rfl ?_
  obtain ⟨z1, q2⟩ : ∃ z, μ 106 5 = z := ⟨_, rfl⟩
  have h3 : (0 ≤ z1 ∧ z1 ≤ 10) := by rw [← q2]; exact hT 106 106 (A_106 hw) 5
  refine mr_cVP (pc := 2) (c_X12_isDomain_W hw hT hp1 q2 (hQ z1 q2 h3)) (gOk _ _ _ _ _) dX12_demand_2 (tX12_isDomain _ _ _ _ _) ⟨wV_X12_isDomain, wL_X12_isDomain⟩ wM_X12_49 (gCX12 _ _ _ _ _) rfl (A_106 hw) rfl ⟨le_t rfl, le_t rfl⟩ ⟨le_t rfl, le_t rfl⟩ rfl (le_t rfl) fun z8 h7 => ?_
  refine mr_if_eq (pc := 5) (tgt := 19) dX12_demand_5 (by decide) (r32 h7.1 rfl) (fun h9 => ?_) (fun h9 => ?_)
  · have h10 : 0 ≤ z8 ∧ z8 ≤ 0 := (vc_X12_write_78 h9 h7.2.1 h7.2.2.1 hp1 h3 h7.1)
    have h11 : p1 < 0 ∨ z1 ≤ p1 := (h7.2.2.1 (vc_X12_write_79 h7.2.1 h7.2.2.1 h9 hp1 h3 h10))
    refine mr_iconst (pc := 19) (z := (-1)) dX12_demand_19 ?_
    exact mr_iret dX12_demand_20 rfl (le_t rfl) (le_t rfl) hT mF.refl ⟨(rW (c := (-2147483648)) (d := 2147483647) (rR (x := (-1))) rfl), ((h7.2.2.2.1 h7.1).1 h9), trivial⟩
  have h12 : 1 ≤ z8 ∧ z8 ≤ 1 := (vc_X12_write_12 h9 h7.2.1 h7.2.2.1 hp1 h3 h7.1)
  have h13 : 0 ≤ p1 ∧ p1 < z1 := (h7.2.1 (vc_X12_write_13 h7.2.1 h7.2.2.1 h9 hp1 h3 h12))
  have h14 : 0 ≤ p1 ∧ p1 ≤ 9 := (vc_X12_write_14 h13 h7.2.1 h7.2.2.1 hp1 h3 h12)
  have h15 : 1 ≤ z1 ∧ z1 ≤ 10 := (vc_X12_write_15 h13 h7.2.1 h7.2.2.1 h14 h3 h12)
  refine mr_iload_n (pc := 8) (z := p3) dX12_demand_8 rfl rfl ?_
  refine mr_iconst (pc := 9) (z := 1) dX12_demand_9 ?_
  refine mr_ldcw (pc := 10) (z := 1000000) dX12_demand_10 wG_X12_291 (by decide) ?_
  refine mr_cSP (pc := 13) (c_X12_in_W hw hT hp3 (rW (c := (-2147483648)) (d := 2147483647) (rR (x := 1)) rfl) (rW (c := (-2147483648)) (d := 2147483647) (rR (x := 1000000)) rfl) ((h7.2.2.2.1 h7.1).2 h9)) (gOk _ _ _ _ _) dX12_demand_13 (tX12_in _ _ _ _ _) wS_X12_in wM_X12_18 ⟨le_t rfl, le_t rfl⟩ ⟨le_t rfl, le_t rfl⟩ rfl (le_t rfl) fun z20 h19 => ?_
  refine mr_if_ne (pc := 16) (tgt := 21) dX12_demand_16 (by decide) (r32 h19.1 rfl) (fun h21 => ?_) (fun h21 => ?_)
  · have h22 : 1 ≤ z20 ∧ z20 ≤ 1 := (vc_X12_demand_W_7 h21 h19.2.1 h19.2.2.1 hp3 h19.1)
    have h23 : (1 : Int) ≤ p3 ∧ p3 ≤ (1000000 : Int) := (h19.2.1 (vc_X12_demand_W_8 h19.2.1 h19.2.2.1 h21 hp3 h22))
    have h24 : 1 ≤ p3 ∧ p3 ≤ 1000000 := (vc_X12_demand_W_9 h23 h19.2.1 h19.2.2.1 hp3 h22)
    refine sv_aload_n (pc := 21) dX12_demand_21 rfl rfl ?_
    refine gf_X12_109 (pc := 22) dX12_demand_22 wF_X12_695 (A_106 hw) hT fun z25 q26 h27 => ?_
    refine mr_bipush (pc := 25) (z := 16) dX12_demand_25 (by decide) ?_
    refine mr_icmp_ne (pc := 27) (tgt := 33) dX12_demand_27 (by decide) (r32 h27 rfl) (r32 (rR (x := 16)) rfl) (fun h28 => ?_) (fun h28 => ?_)
    · have h29 : 0 ≤ z25 ∧ z25 ≤ 15 := (vc_X12_demand_W_10 h28 h27)
      refine sv_aload_n (pc := 33) dX12_demand_33 rfl rfl ?_
      refine gf_X12_110 (pc := 34) dX12_demand_34 wF_X12_493 (A_106 hw) hT ?_
      refine sv_aload_n (pc := 37) dX12_demand_37 rfl rfl ?_
      refine gk_X12_109 (pc := 38) dX12_demand_38 wF_X12_695 (A_106 hw) q26 ?_
      refine mr_iload_n (pc := 41) (z := p1) dX12_demand_41 rfl rfl ?_
      refine ss_177 (pc := 42) dX12_demand_42 (A_177 hw) hT (rIx (n := 16) h29 rfl) h14 fun μ30 u31 T32 => ?_
      refine sv_aload_n (pc := 43) dX12_demand_43 rfl rfl ?_
      refine gf_X12_111 (pc := 44) dX12_demand_44 wF_X12_496 (A_106 hw) T32 ?_
      refine sv_aload_n (pc := 47) dX12_demand_47 rfl rfl ?_
      refine gk_X12_109 (pc := 48) dX12_demand_48 wF_X12_695 (A_106 hw) (u31.f (Or.inl (mAt.ne (A_177 hw) (A_106 hw) rfl)) q26) ?_
      refine mr_iload_n (pc := 51) (z := p2) dX12_demand_51 rfl rfl ?_
      refine ss_178 (pc := 52) dX12_demand_52 (A_178 hw) T32 (rIx (n := 16) h29 rfl) hp2 fun μ33 u34 T35 => ?_
      refine sv_aload_n (pc := 53) dX12_demand_53 rfl rfl ?_
      refine gf_X12_112 (pc := 54) dX12_demand_54 wF_X12_499 (A_106 hw) T35 ?_
      refine sv_aload_n (pc := 57) dX12_demand_57 rfl rfl ?_
      refine gk_X12_109 (pc := 58) dX12_demand_58 wF_X12_695 (A_106 hw) (u34.f (Or.inl (mAt.ne (A_178 hw) (A_106 hw) rfl)) (u31.f (Or.inl (mAt.ne (A_177 hw) (A_106 hw) rfl)) q26)) ?_
      refine mr_iload_n (pc := 61) (z := p3) dX12_demand_61 rfl rfl ?_
      refine ss_179 (pc := 62) dX12_demand_62 (A_179 hw) T35 (rIx (n := 16) h29 rfl) (rW (c := (-2147483648)) (d := 2147483647) h24 rfl) fun μ36 u37 T38 => ?_
      refine sv_aload_n (pc := 63) dX12_demand_63 rfl rfl ?_
      refine sv_dup (pc := 64) dX12_demand_64 rfl ?_
      refine gk_X12_109 (pc := 65) dX12_demand_65 wF_X12_695 (A_106 hw) (u37.f (Or.inl (mAt.ne (A_179 hw) (A_106 hw) rfl)) (u34.f (Or.inl (mAt.ne (A_178 hw) (A_106 hw) rfl)) (u31.f (Or.inl (mAt.ne (A_177 hw) (A_106 hw) rfl)) q26))) ?_
      refine mr_iconst (pc := 68) (z := 1) dX12_demand_68 ?_
      refine mr_iadd (pc := 69) (x := z25) (y := 1) dX12_demand_69 ?_
      refine pf_X12_109 (pc := 70) dX12_demand_70 wF_X12_695 (A_106 hw) T38 (rW (c := 0) (d := 16) (rAdd (e := 1) (f := 16) h29 (rR (x := 1)) rfl) rfl) fun μ39 u40 T41 => ?_
      refine sv_aload_n (pc := 73) dX12_demand_73 rfl rfl ?_
      refine gk_X12_109 (pc := 74) dX12_demand_74 wF_X12_695 (A_106 hw) u40.1 ?_
      refine mr_iconst (pc := 77) (z := 1) dX12_demand_77 ?_
      refine mr_isub (pc := 78) (x := (z25 + 1)) (y := 1) dX12_demand_78 ?_
      exact mr_iret dX12_demand_79 rfl (le_t rfl) (le_t rfl) T41 (mF.up (mF.up (mF.up (mF.up mF.refl (A_177 hw) u31 rfl) (A_178 hw) u34 rfl) (A_179 hw) u37 rfl) (A_106 hw) u40 rfl) ⟨(rW (c := (-2147483648)) (d := 2147483647) (rSub (e := 0) (f := 15) (rAdd (e := 1) (f := 16) h29 (rR (x := 1)) rfl) (rR (x := 1)) rfl) rfl), ((((((((h19.2.2.2.1 h19.1).1 h21) z25 q26 h27).1 h28) μ30 u31 T32) μ33 u34 T35) μ36 u37 T38) μ39 u40 T41), trivial⟩
    have h42 : 16 ≤ z25 ∧ z25 ≤ 16 := (vc_X12_demand_W_11 h28 h27)
    refine mr_bipush (pc := 30) (z := (-3)) dX12_demand_30 (by decide) ?_
    exact mr_iret dX12_demand_32 rfl (le_t rfl) (le_t rfl) hT mF.refl ⟨(rW (c := (-2147483648)) (d := 2147483647) (rR (x := (-3))) rfl), ((((h19.2.2.2.1 h19.1).1 h21) z25 q26 h27).2 h28), trivial⟩
  have h43 : 0 ≤ z20 ∧ z20 ≤ 0 := (vc_X12_demand_W_12 h21 h19.2.1 h19.2.2.1 hp3 h19.1)
  have h44 : p3 < (1 : Int) ∨ (1000000 : Int) < p3 := (h19.2.2.1 (vc_X12_demand_W_13 h19.2.1 h19.2.2.1 h21 hp3 h43))
  refine mr_iconst (pc := 19) (z := (-1)) dX12_demand_19 ?_
  exact mr_iret dX12_demand_20 rfl (le_t rfl) (le_t rfl) hT mF.refl ⟨(rW (c := (-2147483648)) (d := 2147483647) (rR (x := (-1))) rfl), ((h19.2.2.2.1 h19.1).2 h21), trivial⟩
def WL_X3_putNumber_W_1 (w : mW) (μ : mM) (p1 : Int) (Q : mM → Prop) (rec1 : (Int × mM) → Prop) (s : (Int × mM)) : Prop := ∀ z43 : Int, ∀ μ44 : mM, s = (z43, μ44) → ((-1) ≤ z43 ∧ z43 ≤ 3) → mT w μ44 → mF [76015, 86999] w μ μ44 → ((z43 < 0) → Q μ44) ∧ ((0 ≤ z43) → ∀ z75 : Int, μ44 76 15 = z75 → (0 ≤ z75 ∧ z75 ≤ 256) → ((256 ≤ z75) → Q μ44) ∧ ((z75 < 256) → ∀ z95 : Int, bUsh p1 (8 * z43) = z95 → ∀ z98 : Int, bAnd z95 (255 : Int) = z98 → ∀ μ101 : mM, mU μ44 86 (z75.toNat) z98 μ101 → mT w μ101 → ∀ μ104 : mM, mU μ101 76 (15) (z75 + 1) μ104 → mT w μ104 → rec1 ((z43 + (-1)), μ104)))
def WP_X3_putNumber_W (w : mW) (μ : mM) (p1 : Int) (p2 : Int) (Q : mM → Prop) : Prop := loopF (WL_X3_putNumber_W_1 w μ p1 Q) False 6 ((p2 - 1), μ)
def WL_X3_putPrefix_W_1 (w : mW) (p1 : Int) (Q : mM → Prop) (μ1 : mM) (z5 : Int) (rec1 : (Int × mM) → Prop) (s : (Int × mM)) : Prop := ∀ z74 : Int, ∀ μ75 : mM, s = (z74, μ75) → (0 ≤ z74 ∧ z74 ≤ 4) → mT w μ75 → mF [76015, 86999] w μ1 μ75 → ((z5 ≤ z74) → Q μ75) ∧ ((z74 < z5) → ∀ z96 : Int, bUsh p1 (24 - (8 * z74)) = z96 → WP_X3_putNumber_W w μ75 z96 (1) (fun μ99 => mT w μ99 → mF [76015, 86999] w μ75 μ99 → rec1 ((z74 + 1), μ99)))
def WP_X3_putPrefix_W (w : mW) (μ : mM) (p1 : Int) (p2 : Int) (Q : mM → Prop) : Prop := WP_X3_putNumber_W w μ p2 (1) (fun μ1 => mT w μ1 → mF [76015, 86999] w μ μ1 → ∀ z5 : Int, (p2 + 7) / 8 = z5 → loopF (WL_X3_putPrefix_W_1 w p1 Q μ1 z5) False 6 ((0 : Int), μ1))
def WP_X3_putHead_W (w : mW) (μ : mM) (p1 : Int) (p2 : Int) (p3 : Int) (Q : mM → Prop) : Prop := WP_X3_putNumber_W w μ p1 (1) (fun μ1 => mT w μ1 → mF [76015, 86999] w μ μ1 → WP_X3_putNumber_W w μ1 p2 (1) (fun μ5 => mT w μ5 → mF [76015, 86999] w μ1 μ5 → WP_X3_putNumber_W w μ5 p3 (1) (fun μ9 => mT w μ9 → mF [76015, 86999] w μ5 μ9 → Q μ9)))
def WL_X3_putAttributes_W_4 (w : mW) (a1 : Nat) (Q : mM → Prop) (z911 : Int) (μ920 : mM) (rec4 : (Int × mM) → Prop) (s : (Int × mM)) : Prop := ∀ z1034 : Int, ∀ μ1035 : mM, s = (z1034, μ1035) → (0 ≤ z1034 ∧ z1034 ≤ 8) → mT w μ1035 → mF [76015, 86999] w μ920 μ1035 → ((z911 ≤ z1034) → Q μ1035) ∧ ((z1034 < z911) → ∀ z1058 : Int, μ1035 (a1 + 2) (z1034.toNat) = z1058 → ((-2147483648) ≤ z1058 ∧ z1058 ≤ 2147483647) → WP_X3_putNumber_W w μ1035 z1058 (4) (fun μ1061 => mT w μ1061 → mF [76015, 86999] w μ1035 μ1061 → rec4 ((z1034 + 1), μ1061)))
def WJ_X3_putAttributes_W_3 (w : mW) (a1 : Nat) (Q : mM → Prop) (μ905 : mM) (z911 : Int) (μ920 : mM) : Prop := mT w μ920 → mF [76015, 86999] w μ905 μ920 → loopF (WL_X3_putAttributes_W_4 w a1 Q z911 μ920) False 10 ((0 : Int), μ920)
def WJ_X3_putAttributes_W_2 (w : mW) (a1 : Nat) (Q : mM → Prop) (μ873 : mM) (μ905 : mM) : Prop := mT w μ905 → mF [76015, 86999] w μ873 μ905 → ∀ z911 : Int, μ905 a1 8 = z911 → (0 ≤ z911 ∧ z911 ≤ 8) → ((z911 ≤ 0) → (WJ_X3_putAttributes_W_3 w a1 Q μ905 z911) μ905) ∧ ((0 < z911) → WP_X3_putHead_W w μ905 (192) (8) (4 * z911) (fun μ1068 => mT w μ1068 → mF [76015, 86999] w μ905 μ1068 → (WJ_X3_putAttributes_W_3 w a1 Q μ905 z911) μ1068))
def WL_X3_putAttributes_W_1 (w : mW) (a1 : Nat) (Q : mM → Prop) (z12 : Int) (μ23 : mM) (rec1 : (Int × mM) → Prop) (s : (Int × mM)) : Prop := ∀ z872 : Int, ∀ μ873 : mM, s = (z872, μ873) → (0 ≤ z872 ∧ z872 ≤ 20) → mT w μ873 → mF [76015, 86999] w μ23 μ873 → ((z12 ≤ z872) → ∀ z893 : Int, μ873 a1 6 = z893 → ((-2147483648) ≤ z893 ∧ z893 ≤ 2147483647) → ((z893 = 0) → (WJ_X3_putAttributes_W_2 w a1 Q μ873) μ873) ∧ ((¬ z893 = 0) → WP_X3_putHead_W w μ873 (128) (4) (4) (fun μ1074 => mT w μ1074 → mF [76015, 86999] w μ873 μ1074 → WP_X3_putNumber_W w μ1074 z893 (4) (fun μ1078 => mT w μ1078 → mF [76015, 86999] w μ1074 μ1078 → (WJ_X3_putAttributes_W_2 w a1 Q μ873) μ1078)))) ∧ ((z872 < z12) → ∀ z1085 : Int, μ873 (a1 + 1) (z872.toNat) = z1085 → ((-2147483648) ≤ z1085 ∧ z1085 ≤ 2147483647) → WP_X3_putNumber_W w μ873 z1085 (4) (fun μ1088 => mT w μ1088 → mF [76015, 86999] w μ873 μ1088 → rec1 ((z872 + 1), μ1088)))
def WP_X3_putAttributes_W (w : mW) (μ : mM) (a1 : Nat) (Q : mM → Prop) : Prop := WP_X3_putHead_W w μ (64) (1) (1) (fun μ1 => mT w μ1 → mF [76015, 86999] w μ μ1 → ∀ z5 : Int, μ1 a1 5 = z5 → ((-2147483648) ≤ z5 ∧ z5 ≤ 2147483647) → WP_X3_putNumber_W w μ1 z5 (1) (fun μ8 => mT w μ8 → mF [76015, 86999] w μ1 μ8 → ∀ z12 : Int, μ8 a1 7 = z12 → (0 ≤ z12 ∧ z12 ≤ 20) → WP_X3_putHead_W w μ8 (64) (2) (2 + (4 * z12)) (fun μ15 => mT w μ15 → mF [76015, 86999] w μ8 μ15 → WP_X3_putNumber_W w μ15 (2) (1) (fun μ19 => mT w μ19 → mF [76015, 86999] w μ15 μ19 → WP_X3_putNumber_W w μ19 z12 (1) (fun μ23 => mT w μ23 → mF [76015, 86999] w μ19 μ23 → loopF (WL_X3_putAttributes_W_1 w a1 Q z12 μ23) False 22 ((0 : Int), μ23))))))
def WP_X3_putDown_W (w : mW) (μ : mM) (a1 : Nat) (p2 : Int) (p3 : Int) (Q : Int → mM → Prop) : Prop := ∀ μ1 : mM, mU μ 76 (15) (0 : Int) μ1 → mT w μ1 → ∀ z4 : Int, (p3 + 7) / 8 = z4 → ∀ z7 : Int, μ1 a1 2 = z7 → (0 ≤ z7 ∧ z7 ≤ 1) → ((¬ z7 = 0) → WP_X3_putNumber_W w μ1 (0) (4) (fun μ12 => mT w μ12 → mF [76015, 86999] w μ1 μ12 → WP_X3_putAttributes_W w μ12 a1 (fun μ16 => mT w μ16 → mF [76015, 86999] w μ12 μ16 → ∀ z20 : Int, μ16 76 15 = z20 → (0 ≤ z20 ∧ z20 ≤ 256) → ∀ z23 : Int, bShr (z20 - 4) (8 : Int) = z23 → ∀ μ26 : mM, mU μ16 86 ((2 : Int).toNat) z23 μ26 → mT w μ26 → ∀ z29 : Int, bAnd (z20 - 4) (255 : Int) = z29 → ∀ μ32 : mM, mU μ26 86 ((3 : Int).toNat) z29 μ32 → mT w μ32 → WP_X3_putPrefix_W w μ32 p2 p3 (fun μ35 => mT w μ35 → mF [76015, 86999] w μ32 μ35 → ∀ z39 : Int, μ35 76 15 = z39 → (0 ≤ z39 ∧ z39 ≤ 256) → Q z39 μ35)))) ∧ ((z7 = 0) → WP_X3_putNumber_W w μ1 (1 + z4) (2) (fun μ43 => mT w μ43 → mF [76015, 86999] w μ1 μ43 → WP_X3_putPrefix_W w μ43 p2 p3 (fun μ47 => mT w μ47 → mF [76015, 86999] w μ43 μ47 → WP_X3_putNumber_W w μ47 (0) (2) (fun μ51 => mT w μ51 → mF [76015, 86999] w μ47 μ51 → ∀ z55 : Int, μ51 76 15 = z55 → (0 ≤ z55 ∧ z55 ≤ 256) → Q z55 μ51))))
