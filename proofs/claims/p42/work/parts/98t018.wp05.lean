def WJ_X1_goThrough_W2_3 (w : mW) (p2 : Int) (c13 : Nat) (rec1 : (Int × Int × mM) → Prop) (z1190 : Int) (z1189 : Int) (μ1191 : mM) (z1340 : Int) (z1343 : Int) (z1468 : Int) : Prop := ((z1468 = 0) → rec1 ((((z1190 + 2) + (z1340 * 5)) + (z1343 * 2)), (z1189 + 1), μ1191)) ∧ ((¬ z1468 = 0) → WP_X1_doActs_W2 w μ1191 c13 ((z1190 + 2) + (z1340 * 5)) z1343 p2 (fun μ1505 => mT w μ1505 → mF [21006, 21007, 200004, 200006, 200007, 200008, 201999, 202999] w μ1191 μ1505 → rec1 ((((z1190 + 2) + (z1340 * 5)) + (z1343 * 2)), (z1189 + 1), μ1505)))
def WL_X1_goThrough_W2_2 (w : mW) (p2 : Int) (b10 : Nat) (c13 : Nat) (rec1 : (Int × Int × mM) → Prop) (z1190 : Int) (z1189 : Int) (μ1191 : mM) (z1340 : Int) (z1343 : Int) (rec2 : (Int × Int) → Prop) (s : (Int × Int)) : Prop := ∀ z1468 : Int, ∀ z1467 : Int, s = (z1468, z1467) → (0 ≤ z1468 ∧ z1468 ≤ 1) → (2 ≤ z1467 ∧ z1467 ≤ 2010) → ((((z1190 + 2) + (z1340 * 5)) ≤ z1467) → (WJ_X1_goThrough_W2_3 w p2 c13 rec1 z1190 z1189 μ1191 z1340 z1343 z1468) ) ∧ ((z1467 < ((z1190 + 2) + (z1340 * 5))) → ((z1468 = 0) → (WJ_X1_goThrough_W2_3 w p2 c13 rec1 z1190 z1189 μ1191 z1340 z1343 z1468) ) ∧ ((¬ z1468 = 0) → WP_X1_isSo_W w μ1191 b10 z1467 (fun z1517 _ => (0 ≤ z1517 ∧ z1517 ≤ 1) → ∀ z1518 : Int, μ1191 c13 ((z1467 + 1).toNat) = z1518 → ((-2147483648) ≤ z1518 ∧ z1518 ≤ 2147483647) → ((¬ z1518 = 1) → ((z1517 = 0) → rec2 ((0 : Int), (z1467 + 5))) ∧ ((¬ z1517 = 0) → rec2 ((1 : Int), (z1467 + 5)))) ∧ ((z1518 = 1) → ((z1517 = 1) → rec2 ((0 : Int), (z1467 + 5))) ∧ ((¬ z1517 = 1) → rec2 ((1 : Int), (z1467 + 5)))))))
def WL_X1_goThrough_W2_1 (w : mW) (μ : mM) (p2 : Int) (Q : mM → Prop) (b10 : Nat) (c13 : Nat) (z14 : Int) (rec1 : (Int × Int × mM) → Prop) (s : (Int × Int × mM)) : Prop := ∀ z1190 : Int, ∀ z1189 : Int, ∀ μ1191 : mM, s = (z1190, z1189, μ1191) → (0 ≤ z1190 ∧ z1190 ≤ 2000) → (0 ≤ z1189 ∧ z1189 ≤ 30) → mT w μ1191 → mF [21006, 21007, 200004, 200006, 200007, 200008, 201999, 202999] w μ μ1191 → ((z14 ≤ z1189) → Q μ1191) ∧ ((z1189 < z14) → ∀ z1271 : Int, μ1191 21 7 = z1271 → (0 ≤ z1271 ∧ z1271 ≤ 2) → ((¬ z1271 = 0) → Q μ1191) ∧ ((z1271 = 0) → ∀ n_1336 : Int, (w.2.2.1 c13 : Int) = n_1336 → (0 ≤ n_1336 ∧ n_1336 ≤ 2000) → ∀ z1340 : Int, μ1191 c13 (z1190.toNat) = z1340 → ((-2147483648) ≤ z1340 ∧ z1340 ≤ 2147483647) → ∀ z1343 : Int, μ1191 c13 ((z1190 + 1).toNat) = z1343 → ((-2147483648) ≤ z1343 ∧ z1343 ≤ 2147483647) → loopF (WL_X1_goThrough_W2_2 w p2 b10 c13 rec1 z1190 z1189 μ1191 z1340 z1343) False 2010 ((1 : Int), (z1190 + 2))))
def WP_X1_goThrough_W2 (w : mW) (μ : mM) (p1 : Int) (p2 : Int) (Q : mM → Prop) : Prop := ((p1 < 0) → Q μ) ∧ ((0 ≤ p1) → ∀ z4 : Int, μ 21 8 = z4 → (z4 = w.2.2.2 2 ∧ 0 ≤ z4 ∧ z4 ≤ 12) → ((z4 ≤ p1) → Q μ) ∧ ((p1 < z4) → ∀ b10 : Nat, μ 22 (p1.toNat) = (b10 : Int) → mAt w b10 230 → ∀ c13 : Nat, μ b10 1 = (c13 : Int) → ∀ z14 : Int, μ b10 0 = z14 → loopF (WL_X1_goThrough_W2_1 w μ p2 Q b10 c13 z14) False 2002 ((0 : Int), (0 : Int), μ)))
theorem vc_X1_goThrough_W2_5 {p2 : Int} (h0 : 12 < p2) (h1 : 2 ≤ p2 ∧ p2 ≤ 2) : False := by omega
set_option maxRecDepth 4000 in
set_option maxHeartbeats 4000000 in
theorem c_X1_goThrough_W2 {l : Launch} {D : va_G} {c : Nat → ClassId} {H0 : Heap} {sa : Nat × Nat × (Nat → Int32)} {w : mW} {μ : mM} (hw : mWF w) (hT : mT w μ) {p1 : Int} (hp1 : (-2147483648) ≤ p1 ∧ p1 ≤ 2147483647) {p2 : Int} (hp2 : 2 ≤ p2 ∧ p2 ≤ 2) (hIPC : PC w μ) (hIRT : RT μ) {Q : mM → Prop} (hQ : WP_X1_goThrough_W2 w μ p1 p2 Q) : sC (gG l D c H0 sa) mX1_goThrough 25 0 0 [.ref 21, iv p1, iv p2] (mk w μ) (qV w [21006, 21007, 200004, 200006, 200007, 200008, 201999, 202999] μ (fun μ1 => Q μ1 ∧ True)) := by
  refine sC.of rfl (by decide) (le_t rfl) ?_
  refine mr_lvE (lv' := [(0, .ref 21), (1, iv p1), (2, iv p2)]) rfl ?_
  refine mr_iload_n (pc := 0) (z := p1) dX1_goThrough_0 rfl rfl ?_
  refine mr_if_lt (pc := 1) (tgt := 18) dX1_goThrough_1 (by decide) hp1 (fun h1 => ?_) (fun h1 => ?_)
  · have h2 : (-2147483648) ≤ p1 ∧ p1 ≤ (-1) := (vc_X12_ring_60 h1 hp1)
    exact mr_vret dX1_goThrough_18 rfl (le_t rfl) (le_t rfl) hT mF.refl ⟨(hQ.1 h1), trivial⟩
  have h3 : 0 ≤ p1 ∧ p1 ≤ 2147483647 := (vc_X12_ring_1 h1 hp1)
  refine mr_iload_n (pc := 4) (z := p1) dX1_goThrough_4 rfl rfl ?_
  refine sv_aload_n (pc := 5) dX1_goThrough_5 rfl rfl ?_
  refine gf_X1_8 (pc := 6) dX1_goThrough_6 wF_X1_21 (A_21 hw) hT fun z4 q5 h6 => ?_
  refine mr_icmp_ge (pc := 9) (tgt := 18) dX1_goThrough_9 (by decide) (r32 h3 rfl) (r32 h6.2 rfl) (fun h7 => ?_) (fun h7 => ?_)
  · exact mr_vret dX1_goThrough_18 rfl (le_t rfl) (le_t rfl) hT mF.refl ⟨(((hQ.2 h1) z4 q5 h6).1 h7), trivial⟩
  have h8 : 0 ≤ p1 ∧ p1 ≤ 11 := (vc_X1_goThrough_W13_3 h7 h1 h6.1 h3 h6.2)
  have h9 : 1 ≤ z4 ∧ z4 ≤ 12 := (vc_X1_goThrough_W13_4 h7 h1 h6.1 h8 h6.2)
  refine mr_iload_n (pc := 12) (z := p2) dX1_goThrough_12 rfl rfl ?_
  refine mr_bipush (pc := 13) (z := 12) dX1_goThrough_13 (by decide) ?_
  refine mr_icmp_le (pc := 15) (tgt := 19) dX1_goThrough_15 (by decide) (r32 hp2 rfl) (r32 (rR (x := 12)) rfl) (fun _ => ?_) (fun h => ((vc_X1_goThrough_W2_5 h hp2)).elim)
  refine sv_aload_n (pc := 19) dX1_goThrough_19 rfl rfl ?_
  refine gf_X1_1 (pc := 20) dX1_goThrough_20 wF_X1_17 (A_21 hw) hT ?_
  refine mr_iload_n (pc := 23) (z := p1) dX1_goThrough_23 rfl rfl ?_
  refine la_22 (pc := 24) dX1_goThrough_24 (A_22 hw) hT (rIx (n := 12) h8 rfl) (vc_X1_goThrough_W12_6 h1 h6.1 h7 h8 h9) fun b10 q11 A12 => ?_
  refine mr_astore_n (pc := 25) (lv' := [(3, .ref b10), (0, .ref 21), (1, iv p1), (2, iv p2)]) dX1_goThrough_25 rfl (by decide) rfl ?_
  obtain ⟨c13, z14, q15, A16, q17, R18, e19, e20⟩ := PC.read hIPC hT A12 (vc_X1_goThrough_W12_7 h1 h7 h6.1 h8 h9) (vc_X1_goThrough_W12_6 h1 h6.1 h7 h8 h9) q11
  have h21 : 0 ≤ z14 ∧ z14 ≤ 30 := by rw [← q17]; exact hT _ _ A12 0
  refine mr_iconst (pc := 26) (z := 0) dX1_goThrough_26 ?_
  refine mr_istore (pc := 27) (lv' := [(4, iv 0), (3, .ref b10), (0, .ref 21), (1, iv p1), (2, iv p2)]) dX1_goThrough_27 (by decide) rfl ?_
  refine mr_iconst (pc := 29) (z := 0) dX1_goThrough_29 ?_
  refine mr_istore (pc := 30) (lv' := [(5, iv 0), (4, iv 0), (3, .ref b10), (0, .ref 21), (1, iv p1), (2, iv p2)]) dX1_goThrough_30 (by decide) rfl ?_
  have L1192 : ∀ (nL1192 : Nat) (z1190 z1189 : Int) (μ1191 : mM), mT w μ1191 → mF [21006, 21007, 200004, 200006, 200007, 200008, 201999, 202999] w μ μ1191 → (0 ≤ z1190 ∧ z1190 ≤ 2000) → (0 ≤ z1189 ∧ z1189 ≤ 30) → PC w μ1191 → RT μ1191 → wfR (μ c13) (w.2.2.1 c13) (z1190).toNat (z14 - z1189).toNat → (2001 - z1190) < (nL1192 : Int) → loopF (WL_X1_goThrough_W2_1 w μ p2 Q b10 c13 z14) False nL1192 (z1190, z1189, μ1191) → sV (gG l D c H0 sa) mX1_goThrough (sRm 25 0 0) (sZ (gG l D c H0 sa) 0 0 (qV w [21006, 21007, 200004, 200006, 200007, 200008, 201999, 202999] μ (fun μ1 => Q μ1 ∧ True))) 32 [(0, .ref 21), (2, iv p2), (3, .ref b10), (4, iv z1190), (5, iv z1189)] [] (mk w μ1191) 0 0 := by
    intro nL1192
    induction nL1192 with
    | zero => intro z1190 z1189 μ1191 T1195 F1196 h1193 h1194 I1198 I1199 R1200 h1201 W1202; exact ((vc_X1_goThrough_W12_8 h1201 h1193)).elim
    | succ nL1192 ih1203 =>
      intro z1190 z1189 μ1191 T1195 F1196 h1193 h1194 I1198 I1199 R1200 h1201 W1202
      refine mr_iload (pc := 32) (z := z1189) dX1_goThrough_32 rfl ?_
      refine sv_aload_n (pc := 34) dX1_goThrough_34 rfl rfl ?_
      refine gk_X5_0 (pc := 35) dX1_goThrough_35 wF_X1_57 A12 (F1196.f A12 rfl q17) ?_
      refine mr_icmp_ge (pc := 38) (tgt := 174) dX1_goThrough_38 (by decide) (r32 h1194 rfl) (r32 h21 rfl) (fun h1268 => ?_) (fun h1268 => ?_)
      · exact mr_vret dX1_goThrough_174 rfl (le_t rfl) (le_t rfl) T1195 (mF.call mF.refl F1196 rfl) ⟨((W1202 z1190 z1189 μ1191 rfl h1193 h1194 T1195 F1196).1 h1268), trivial⟩
      have h1269 : 0 ≤ z1189 ∧ z1189 ≤ 29 := (vc_X12_judgedAnew_2 h1268 h1194 h21)
      have h1270 : 1 ≤ z14 ∧ z14 ≤ 30 := (vc_X12_judgedAnew_3 h1268 h1269 h21)
      refine sv_aload_n (pc := 41) dX1_goThrough_41 rfl rfl ?_
      refine gf_X1_7 (pc := 42) dX1_goThrough_42 wF_X1_50 (A_21 hw) T1195 fun z1271 q1272 h1273 => ?_
      refine mr_if_ne (pc := 45) (tgt := 174) dX1_goThrough_45 (by decide) (r32 h1273 rfl) (fun h1333 => ?_) (fun h1333 => ?_)
      · have h1334 : 1 ≤ z1271 ∧ z1271 ≤ 2 := (vc_X12_provides_3 h1333 h1273)
        exact mr_vret dX1_goThrough_174 rfl (le_t rfl) (le_t rfl) T1195 (mF.call mF.refl F1196 rfl) ⟨((((W1202 z1190 z1189 μ1191 rfl h1193 h1194 T1195 F1196).2 h1268) z1271 q1272 h1273).1 h1333), trivial⟩
      have h1335 : 0 ≤ z1271 ∧ z1271 ≤ 0 := (vc_X12_provides_4 h1333 h1273)
      obtain ⟨n_1336, q1337⟩ : ∃ n : Int, (w.2.2.1 c13 : Int) = n := ⟨_, rfl⟩
      have h1338 : 0 ≤ n_1336 ∧ n_1336 ≤ 2000 := lnR (m := 2000) q1337 A16 rfl
      have h1339 : z1190 + 1 < n_1336 := lnLt q1337 (wfR.hd R1200 (vc_X1_goThrough_W12_13 h1193) (vc_X1_goThrough_W12_14 h1268 h1269 h1270))
      refine sv_aload_n (pc := 48) dX1_goThrough_48 rfl rfl ?_
      refine gk_X5_1 (pc := 49) dX1_goThrough_49 wF_X1_60 A12 (F1196.f A12 rfl q15) ?_
      refine mr_iload (pc := 52) (z := z1190) dX1_goThrough_52 rfl ?_
      refine la_231 (pc := 54) dX1_goThrough_54 A16 T1195 (lnC q1337 (vc_X1_goThrough_W12_15 h1339 h1338 h1193)) fun z1340 q1341 h1342 => ?_
      refine mr_istore (pc := 55) (lv' := [(6, iv z1340), (0, .ref 21), (2, iv p2), (3, .ref b10), (4, iv z1190), (5, iv z1189)]) dX1_goThrough_55 (by decide) rfl ?_
      refine sv_aload_n (pc := 57) dX1_goThrough_57 rfl rfl ?_
      refine gk_X5_1 (pc := 58) dX1_goThrough_58 wF_X1_60 A12 (F1196.f A12 rfl q15) ?_
      refine mr_iload (pc := 61) (z := z1190) dX1_goThrough_61 rfl ?_
      refine mr_iconst (pc := 63) (z := 1) dX1_goThrough_63 ?_
      refine mr_iadd (pc := 64) (x := z1190) (y := 1) dX1_goThrough_64 ?_
      refine la_231 (pc := 65) dX1_goThrough_65 A16 T1195 (lnC q1337 (vc_X1_goThrough_W12_16 h1339 h1338 h1193)) fun z1343 q1344 h1345 => ?_
      have B1346 := wfR.bd R1200 (vc_X1_goThrough_W12_13 h1193) (vc_X1_goThrough_W12_14 h1268 h1269 h1270) ((((mF.call mF.refl F1196 rfl) : mF [21006, 21007, 200004, 200006, 200007, 200008, 201999, 202999] w μ μ1191).f A16 rfl rfl).symm.trans q1341) ((((mF.call mF.refl F1196 rfl) : mF [21006, 21007, 200004, 200006, 200007, 200008, 201999, 202999] w μ μ1191).f A16 rfl rfl).symm.trans q1344)
      have h1347 : 0 ≤ z1340 ∧ 0 ≤ z1343 ∧ z1190 + 2 + 5 * z1340 + 2 * z1343 ≤ n_1336 := ⟨B1346.1.1, B1346.1.2.1, lnLe q1337 B1346.1.2.2⟩
      have h1348 : 0 ≤ z1340 ∧ z1340 ≤ 400 := (vc_X1_goThrough_W12_17 h1347 h1339 h1338 h1193 h1342 h1345)
      have h1349 : 0 ≤ z1343 ∧ z1343 ≤ 1000 := (vc_X1_goThrough_W12_18 h1347 h1339 h1338 h1193 h1348 h1345)
      refine mr_istore (pc := 66) (lv' := [(7, iv z1343), (6, iv z1340), (0, .ref 21), (2, iv p2), (3, .ref b10), (4, iv z1190), (5, iv z1189)]) dX1_goThrough_66 (by decide) rfl ?_
      refine mr_iload (pc := 68) (z := z1190) dX1_goThrough_68 rfl ?_
      refine mr_iconst (pc := 70) (z := 2) dX1_goThrough_70 ?_
      refine mr_iadd (pc := 71) (x := z1190) (y := 2) dX1_goThrough_71 ?_
      refine mr_iload (pc := 72) (z := z1340) dX1_goThrough_72 rfl ?_
      refine mr_iconst (pc := 74) (z := 5) dX1_goThrough_74 ?_
      refine mr_imul (pc := 75) (x := z1340) (y := 5) dX1_goThrough_75 ?_
      refine mr_iadd (pc := 76) (x := (z1190 + 2)) (y := (z1340 * 5)) dX1_goThrough_76 ?_
      refine mr_istore (pc := 77) (lv' := [(8, iv ((z1190 + 2) + (z1340 * 5))), (7, iv z1343), (6, iv z1340), (0, .ref 21), (2, iv p2), (3, .ref b10), (4, iv z1190), (5, iv z1189)]) dX1_goThrough_77 (by decide) rfl ?_
      refine mr_iconst (pc := 79) (z := 1) dX1_goThrough_79 ?_
      refine mr_istore (pc := 80) (lv' := [(9, iv 1), (8, iv ((z1190 + 2) + (z1340 * 5))), (7, iv z1343), (6, iv z1340), (0, .ref 21), (2, iv p2), (3, .ref b10), (4, iv z1190), (5, iv z1189)]) dX1_goThrough_80 (by decide) rfl ?_
      refine mr_iload (pc := 82) (z := z1190) dX1_goThrough_82 rfl ?_
      refine mr_iconst (pc := 84) (z := 2) dX1_goThrough_84 ?_
      refine mr_iadd (pc := 85) (x := z1190) (y := 2) dX1_goThrough_85 ?_
      refine mr_istore (pc := 86) (lv' := [(10, iv (z1190 + 2)), (9, iv 1), (8, iv ((z1190 + 2) + (z1340 * 5))), (7, iv z1343), (6, iv z1340), (0, .ref 21), (2, iv p2), (3, .ref b10), (4, iv z1190), (5, iv z1189)]) dX1_goThrough_86 (by decide) rfl ?_
      have L1469 : ∀ (nL1469 : Nat) (z1468 z1467 : Int), True → (0 ≤ z1468 ∧ z1468 ≤ 1) → (2 ≤ z1467 ∧ z1467 ≤ 2010) → ((((z1190 + 2) + (z1340 * 5)) - z1467) % 5 = 0) → (2011 - z1467) < (nL1469 : Int) → loopF (WL_X1_goThrough_W2_2 w p2 b10 c13 (loopF (WL_X1_goThrough_W2_1 w μ p2 Q b10 c13 z14) False nL1192) z1190 z1189 μ1191 z1340 z1343) False nL1469 (z1468, z1467) → sV (gG l D c H0 sa) mX1_goThrough (sRm 25 0 0) (sZ (gG l D c H0 sa) 0 0 (qV w [21006, 21007, 200004, 200006, 200007, 200008, 201999, 202999] μ (fun μ1 => Q μ1 ∧ True))) 88 [(0, .ref 21), (2, iv p2), (3, .ref b10), (5, iv z1189), (7, iv z1343), (8, iv ((z1190 + 2) + (z1340 * 5))), (9, iv z1468), (10, iv z1467)] [] (mk w μ1191) 0 0 := by
        intro nL1469
        induction nL1469 with
        | zero => intro z1468 z1467 _ h1470 h1471 h1475 h1476 W1477; exact ((vc_X1_goThrough_W12_19 h1476 h1475 h1339 h1347 h1338 h1193 h1348 h1349 h1471)).elim
        | succ nL1469 ih1478 =>
          intro z1468 z1467 _ h1470 h1471 h1475 h1476 W1477
          refine mr_iload (pc := 88) (z := z1467) dX1_goThrough_88 rfl ?_
          refine mr_iload (pc := 90) (z := ((z1190 + 2) + (z1340 * 5))) dX1_goThrough_90 rfl ?_
          have J1494 : ((WJ_X1_goThrough_W2_3 w p2 c13 (loopF (WL_X1_goThrough_W2_1 w μ p2 Q b10 c13 z14) False nL1192) z1190 z1189 μ1191 z1340 z1343 z1468) ) → sV (gG l D c H0 sa) mX1_goThrough (sRm 25 0 0) (sZ (gG l D c H0 sa) 0 0 (qV w [21006, 21007, 200004, 200006, 200007, 200008, 201999, 202999] μ (fun μ1 => Q μ1 ∧ True))) 141 [(0, .ref 21), (2, iv p2), (3, .ref b10), (5, iv z1189), (7, iv z1343), (8, iv ((z1190 + 2) + (z1340 * 5))), (9, iv z1468)] [] (mk w μ1191) 0 0 := by
            intro W1495
            refine mr_iload (pc := 141) (z := z1468) dX1_goThrough_141 rfl ?_
            refine mr_if_eq (pc := 143) (tgt := 159) dX1_goThrough_143 (by decide) (r32 h1470 rfl) (fun h1502 => ?_) (fun h1502 => ?_)
            · have h1503 : 0 ≤ z1468 ∧ z1468 ≤ 0 := (vc_X12_ring_22 h1502 h1470)
              refine mr_iload (pc := 159) (z := ((z1190 + 2) + (z1340 * 5))) dX1_goThrough_159 rfl ?_
              refine mr_iload (pc := 161) (z := z1343) dX1_goThrough_161 rfl ?_
              refine mr_iconst (pc := 163) (z := 2) dX1_goThrough_163 ?_
              refine mr_imul (pc := 164) (x := z1343) (y := 2) dX1_goThrough_164 ?_
              refine mr_iadd (pc := 165) (x := ((z1190 + 2) + (z1340 * 5))) (y := (z1343 * 2)) dX1_goThrough_165 ?_
              refine mr_istore (pc := 166) (lv' := [(4, iv (((z1190 + 2) + (z1340 * 5)) + (z1343 * 2))), (0, .ref 21), (2, iv p2), (3, .ref b10), (5, iv z1189), (7, iv z1343), (8, iv ((z1190 + 2) + (z1340 * 5))), (9, iv z1468)]) dX1_goThrough_166 (by decide) rfl ?_
              refine mr_iinc (pc := 168) (lv' := [(5, iv (z1189 + 1)), (4, iv (((z1190 + 2) + (z1340 * 5)) + (z1343 * 2))), (0, .ref 21), (2, iv p2), (3, .ref b10), (7, iv z1343), (8, iv ((z1190 + 2) + (z1340 * 5))), (9, iv z1468)]) dX1_goThrough_168 rfl (by decide) rfl ?_
              refine sv_goto (pc := 171) (tgt := 32) dX1_goThrough_171 (by decide) ?_
              refine mr_lvS (lv' := [(0, .ref 21), (2, iv p2), (3, .ref b10), (4, iv (((z1190 + 2) + (z1340 * 5)) + (z1343 * 2))), (5, iv (z1189 + 1))]) (List.forall_mem_cons.mpr ⟨rfl, List.forall_mem_cons.mpr ⟨rfl, List.forall_mem_cons.mpr ⟨rfl, List.forall_mem_cons.mpr ⟨rfl, List.forall_mem_cons.mpr ⟨rfl, fun _ h => absurd h List.not_mem_nil⟩⟩⟩⟩⟩) ?_
              exact ih1203 (((z1190 + 2) + (z1340 * 5)) + (z1343 * 2)) (z1189 + 1) μ1191 T1195 (mF.call mF.refl F1196 rfl) (vc_X1_goThrough_W12_21 h1339 h1347 h1475 h1338 h1193 h1348 h1349 h1471) (rW (c := 0) (d := 30) (rAdd (e := 1) (f := 30) h1269 (rR (x := 1)) rfl) rfl) I1198 I1199 (wfR.cg B1346.2.2 (vc_X1_goThrough_W12_23 h1339 h1347 h1475 h1338 h1193 h1348 h1349 h1471)) (vc_X1_goThrough_W12_22 (nS h1201) h1339 h1347 h1475 h1338 h1193 h1348 h1349 h1471) ((W1495).1 h1502)
            have h1504 : 1 ≤ z1468 ∧ z1468 ≤ 1 := (vc_X12_ring_24 h1502 h1470)
            refine sv_aload_n (pc := 146) dX1_goThrough_146 rfl rfl ?_
            refine sv_aload_n (pc := 147) dX1_goThrough_147 rfl rfl ?_
            refine gk_X5_1 (pc := 148) dX1_goThrough_148 wF_X1_60 A12 (F1196.f A12 rfl q15) ?_
            refine mr_iload (pc := 151) (z := ((z1190 + 2) + (z1340 * 5))) dX1_goThrough_151 rfl ?_
            refine mr_iload (pc := 153) (z := z1343) dX1_goThrough_153 rfl ?_
            refine mr_iload_n (pc := 155) (z := p2) dX1_goThrough_155 rfl rfl ?_
            refine mr_cVV (pc := 156) (c_X1_doActs_W2 hw T1195 A16 (vc_X1_goThrough_W12_25 h1339 h1347 h1475 h1338 h1193 h1348 h1349 h1471) h1349 hp2 I1198 I1199 (lnL q1337 (vc_X1_goThrough_W12_26 h1339 h1347 h1475 h1338 h1193 h1348 h1349 h1471)) (argC B1346.2.1 (vc_X1_goThrough_W12_27 h1339 h1347 h1475 h1338 h1193 h1348 h1349 h1471) (funext fun i => ((mF.call mF.refl F1196 rfl) : mF [21006, 21007, 200004, 200006, 200007, 200008, 201999, 202999] w μ μ1191).f A16 rfl rfl)) ((W1495).2 h1502)) (gOk _ _ _ _ _) dX1_goThrough_156 (tX1_doActs _ _ _ _ _) ⟨wV_X1_doActs, wL_X1_doActs⟩ wM_X1_68 (gCX1 _ _ _ _ _) rfl (A_21 hw) rfl ⟨le_t rfl, le_t rfl⟩ ⟨le_t rfl, le_t rfl⟩ rfl (le_t rfl) fun μ1505 T1506 F1507 h1508 => ?_
            refine mr_iload (pc := 159) (z := ((z1190 + 2) + (z1340 * 5))) dX1_goThrough_159 rfl ?_
            refine mr_iload (pc := 161) (z := z1343) dX1_goThrough_161 rfl ?_
            refine mr_iconst (pc := 163) (z := 2) dX1_goThrough_163 ?_
            refine mr_imul (pc := 164) (x := z1343) (y := 2) dX1_goThrough_164 ?_
            refine mr_iadd (pc := 165) (x := ((z1190 + 2) + (z1340 * 5))) (y := (z1343 * 2)) dX1_goThrough_165 ?_
            refine mr_istore (pc := 166) (lv' := [(4, iv (((z1190 + 2) + (z1340 * 5)) + (z1343 * 2))), (0, .ref 21), (2, iv p2), (3, .ref b10), (5, iv z1189), (7, iv z1343), (8, iv ((z1190 + 2) + (z1340 * 5))), (9, iv z1468)]) dX1_goThrough_166 (by decide) rfl ?_
            refine mr_iinc (pc := 168) (lv' := [(5, iv (z1189 + 1)), (4, iv (((z1190 + 2) + (z1340 * 5)) + (z1343 * 2))), (0, .ref 21), (2, iv p2), (3, .ref b10), (7, iv z1343), (8, iv ((z1190 + 2) + (z1340 * 5))), (9, iv z1468)]) dX1_goThrough_168 rfl (by decide) rfl ?_
            refine sv_goto (pc := 171) (tgt := 32) dX1_goThrough_171 (by decide) ?_
            refine mr_lvS (lv' := [(0, .ref 21), (2, iv p2), (3, .ref b10), (4, iv (((z1190 + 2) + (z1340 * 5)) + (z1343 * 2))), (5, iv (z1189 + 1))]) (List.forall_mem_cons.mpr ⟨rfl, List.forall_mem_cons.mpr ⟨rfl, List.forall_mem_cons.mpr ⟨rfl, List.forall_mem_cons.mpr ⟨rfl, List.forall_mem_cons.mpr ⟨rfl, fun _ h => absurd h List.not_mem_nil⟩⟩⟩⟩⟩) ?_
            exact ih1203 (((z1190 + 2) + (z1340 * 5)) + (z1343 * 2)) (z1189 + 1) μ1505 T1506 (mF.call (mF.call mF.refl F1196 rfl) F1507 rfl) (vc_X1_goThrough_W12_21 h1339 h1347 h1475 h1338 h1193 h1348 h1349 h1471) (rW (c := 0) (d := 30) (rAdd (e := 1) (f := 30) h1269 (rR (x := 1)) rfl) rfl) (PC.keep I1198 hw ((mF.call mF.refl F1507 rfl) : mF [21006, 21007, 200004, 200006, 200007, 200008, 201999, 202999] w μ1191 μ1505) rfl) (RT.keep I1199 hw ((mF.call mF.refl F1507 rfl) : mF [21006, 21007, 200004, 200006, 200007, 200008, 201999, 202999] w μ1191 μ1505) rfl) (wfR.cg B1346.2.2 (vc_X1_goThrough_W12_23 h1339 h1347 h1475 h1338 h1193 h1348 h1349 h1471)) (vc_X1_goThrough_W12_22 (nS h1201) h1339 h1347 h1475 h1338 h1193 h1348 h1349 h1471) (h1508.1 T1506 F1507)
          refine mr_icmp_ge (pc := 92) (tgt := 141) dX1_goThrough_92 (by decide) (r32 h1471 rfl) (r32 (rAdd (e := 2) (f := 4002) (rAdd (e := 2) (f := 2002) h1193 (rR (x := 2)) rfl) (rMulR (n := 5) (e := 0) (f := 2000) h1348 rfl) rfl) rfl) (fun h1509 => ?_) (fun h1509 => ?_)
          · refine mr_lvS (lv' := [(0, .ref 21), (2, iv p2), (3, .ref b10), (5, iv z1189), (7, iv z1343), (8, iv ((z1190 + 2) + (z1340 * 5))), (9, iv z1468)]) (List.forall_mem_cons.mpr ⟨rfl, List.forall_mem_cons.mpr ⟨rfl, List.forall_mem_cons.mpr ⟨rfl, List.forall_mem_cons.mpr ⟨rfl, List.forall_mem_cons.mpr ⟨rfl, List.forall_mem_cons.mpr ⟨rfl, List.forall_mem_cons.mpr ⟨rfl, fun _ h => absurd h List.not_mem_nil⟩⟩⟩⟩⟩⟩⟩) ?_
            exact J1494 ((W1477 z1468 z1467 rfl h1470 h1471).1 h1509)
          refine mr_iload (pc := 95) (z := z1468) dX1_goThrough_95 rfl ?_
          refine mr_if_eq (pc := 97) (tgt := 141) dX1_goThrough_97 (by decide) (r32 h1470 rfl) (fun h1510 => ?_) (fun h1510 => ?_)
          · have h1511 : 0 ≤ z1468 ∧ z1468 ≤ 0 := (vc_X12_ring_22 h1510 h1470)
            refine mr_lvS (lv' := [(0, .ref 21), (2, iv p2), (3, .ref b10), (5, iv z1189), (7, iv z1343), (8, iv ((z1190 + 2) + (z1340 * 5))), (9, iv z1468)]) (List.forall_mem_cons.mpr ⟨rfl, List.forall_mem_cons.mpr ⟨rfl, List.forall_mem_cons.mpr ⟨rfl, List.forall_mem_cons.mpr ⟨rfl, List.forall_mem_cons.mpr ⟨rfl, List.forall_mem_cons.mpr ⟨rfl, List.forall_mem_cons.mpr ⟨rfl, fun _ h => absurd h List.not_mem_nil⟩⟩⟩⟩⟩⟩⟩) ?_
            exact J1494 (((W1477 z1468 z1467 rfl h1470 h1471).2 h1509).1 h1510)
          have h1512 : 1 ≤ z1468 ∧ z1468 ≤ 1 := (vc_X12_ring_24 h1510 h1470)
          refine sv_aload_n (pc := 100) dX1_goThrough_100 rfl rfl ?_
          refine sv_aload_n (pc := 101) dX1_goThrough_101 rfl rfl ?_
          refine mr_iload (pc := 102) (z := z1467) dX1_goThrough_102 rfl ?_
          refine mr_cVP (pc := 104) (c_X1_isSo_W hw T1195 A12 (vc_X1_goThrough_W12_28 h1475 h1509 h1339 h1347 h1338 h1193 h1348 h1349 h1471) I1199 (lnF (F1196.f A12 rfl q15) q1337 (vc_X1_goThrough_W12_29 h1339 h1347 h1475 h1509 h1338 h1193 h1348 h1349 h1471)) (by rw [((mF.call mF.refl F1196 rfl) : mF [21006, 21007, 200004, 200006, 200007, 200008, 201999, 202999] w μ μ1191).f (k := 2) A12 rfl rfl, ((mF.call mF.refl F1196 rfl) : mF [21006, 21007, 200004, 200006, 200007, 200008, 201999, 202999] w μ μ1191).f (k := 3) A12 rfl rfl]; exact e19) (by rw [((mF.call mF.refl F1196 rfl) : mF [21006, 21007, 200004, 200006, 200007, 200008, 201999, 202999] w μ μ1191).f (k := 4) A12 rfl rfl, ((mF.call mF.refl F1196 rfl) : mF [21006, 21007, 200004, 200006, 200007, 200008, 201999, 202999] w μ μ1191).f (k := 5) A12 rfl rfl]; exact e20) (((W1477 z1468 z1467 rfl h1470 h1471).2 h1509).2 h1510)) (gOk _ _ _ _ _) dX1_goThrough_104 (tX1_isSo _ _ _ _ _) ⟨wV_X1_isSo, wL_X1_isSo⟩ wM_X1_64 (gCX1 _ _ _ _ _) rfl (A_21 hw) rfl ⟨le_t rfl, le_t rfl⟩ ⟨le_t rfl, le_t rfl⟩ rfl (le_t rfl) fun z1517 h1516 => ?_
          refine sv_aload_n (pc := 107) dX1_goThrough_107 rfl rfl ?_
          refine gk_X5_1 (pc := 108) dX1_goThrough_108 wF_X1_60 A12 (F1196.f A12 rfl q15) ?_
          refine mr_iload (pc := 111) (z := z1467) dX1_goThrough_111 rfl ?_
          refine mr_iconst (pc := 113) (z := 1) dX1_goThrough_113 ?_
          refine mr_iadd (pc := 114) (x := z1467) (y := 1) dX1_goThrough_114 ?_
          refine la_231 (pc := 115) dX1_goThrough_115 A16 T1195 (lnC q1337 (vc_X1_goThrough_W12_30 h1339 h1347 h1475 h1509 h1338 h1193 h1348 h1349 h1471)) fun z1518 q1519 h1520 => ?_
          refine mr_iconst (pc := 116) (z := 1) dX1_goThrough_116 ?_
          refine mr_icmp_ne (pc := 117) (tgt := 124) dX1_goThrough_117 (by decide) h1520 (r32 (rR (x := 1)) rfl) (fun h1522 => ?_) (fun h1522 => ?_)
          · refine mr_iconst (pc := 124) (z := 0) dX1_goThrough_124 ?_
            refine mr_icmp_eq (pc := 125) (tgt := 132) dX1_goThrough_125 (by decide) (r32 h1516.1 rfl) (r32 (rR (x := 0)) rfl) (fun h1525 => ?_) (fun h1525 => ?_)
            · have h1526 : 0 ≤ z1517 ∧ z1517 ≤ 0 := (vc_X12_ring_22 h1525 h1516.1)
              refine mr_iconst (pc := 132) (z := 0) dX1_goThrough_132 ?_
              refine mr_istore (pc := 133) (lv' := [(9, iv 0), (0, .ref 21), (2, iv p2), (3, .ref b10), (5, iv z1189), (7, iv z1343), (8, iv ((z1190 + 2) + (z1340 * 5))), (10, iv z1467)]) dX1_goThrough_133 (by decide) rfl ?_
              refine mr_iinc (pc := 135) (lv' := [(10, iv (z1467 + 5)), (9, iv 0), (0, .ref 21), (2, iv p2), (3, .ref b10), (5, iv z1189), (7, iv z1343), (8, iv ((z1190 + 2) + (z1340 * 5)))]) dX1_goThrough_135 rfl (by decide) rfl ?_
              refine sv_goto (pc := 138) (tgt := 88) dX1_goThrough_138 (by decide) ?_
              refine mr_lvS (lv' := [(0, .ref 21), (2, iv p2), (3, .ref b10), (5, iv z1189), (7, iv z1343), (8, iv ((z1190 + 2) + (z1340 * 5))), (9, iv 0), (10, iv (z1467 + 5))]) (List.forall_mem_cons.mpr ⟨rfl, List.forall_mem_cons.mpr ⟨rfl, List.forall_mem_cons.mpr ⟨rfl, List.forall_mem_cons.mpr ⟨rfl, List.forall_mem_cons.mpr ⟨rfl, List.forall_mem_cons.mpr ⟨rfl, List.forall_mem_cons.mpr ⟨rfl, List.forall_mem_cons.mpr ⟨rfl, fun _ h => absurd h List.not_mem_nil⟩⟩⟩⟩⟩⟩⟩⟩) ?_
              exact ih1478 0 (z1467 + 5) trivial (rW (c := 0) (d := 1) (rR (x := 0)) rfl) (vc_X1_goThrough_W12_32 h1475 h1509 h1339 h1347 h1338 h1193 h1348 h1349 h1471) (vc_X1_goThrough_W12_33 h1339 h1347 h1475 h1509 h1338 h1193 h1348 h1349 h1471) (vc_X1_goThrough_W12_34 (nS h1476) h1475 h1509 h1339 h1347 h1338 h1193 h1348 h1349 h1471) ((((h1516.2.1 h1516.1) z1518 q1519 h1520).1 h1522).1 h1525)
            have h1527 : 1 ≤ z1517 ∧ z1517 ≤ 1 := (vc_X12_ring_24 h1525 h1516.1)
            refine mr_iconst (pc := 128) (z := 1) dX1_goThrough_128 ?_
            refine sv_goto (pc := 129) (tgt := 133) dX1_goThrough_129 (by decide) ?_
            refine mr_istore (pc := 133) (lv' := [(9, iv 1), (0, .ref 21), (2, iv p2), (3, .ref b10), (5, iv z1189), (7, iv z1343), (8, iv ((z1190 + 2) + (z1340 * 5))), (10, iv z1467)]) dX1_goThrough_133 (by decide) rfl ?_
            refine mr_iinc (pc := 135) (lv' := [(10, iv (z1467 + 5)), (9, iv 1), (0, .ref 21), (2, iv p2), (3, .ref b10), (5, iv z1189), (7, iv z1343), (8, iv ((z1190 + 2) + (z1340 * 5)))]) dX1_goThrough_135 rfl (by decide) rfl ?_
            refine sv_goto (pc := 138) (tgt := 88) dX1_goThrough_138 (by decide) ?_
            refine mr_lvS (lv' := [(0, .ref 21), (2, iv p2), (3, .ref b10), (5, iv z1189), (7, iv z1343), (8, iv ((z1190 + 2) + (z1340 * 5))), (9, iv 1), (10, iv (z1467 + 5))]) (List.forall_mem_cons.mpr ⟨rfl, List.forall_mem_cons.mpr ⟨rfl, List.forall_mem_cons.mpr ⟨rfl, List.forall_mem_cons.mpr ⟨rfl, List.forall_mem_cons.mpr ⟨rfl, List.forall_mem_cons.mpr ⟨rfl, List.forall_mem_cons.mpr ⟨rfl, List.forall_mem_cons.mpr ⟨rfl, fun _ h => absurd h List.not_mem_nil⟩⟩⟩⟩⟩⟩⟩⟩) ?_
            exact ih1478 1 (z1467 + 5) trivial (rW (c := 0) (d := 1) (rR (x := 1)) rfl) (vc_X1_goThrough_W12_32 h1475 h1509 h1339 h1347 h1338 h1193 h1348 h1349 h1471) (vc_X1_goThrough_W12_33 h1339 h1347 h1475 h1509 h1338 h1193 h1348 h1349 h1471) (vc_X1_goThrough_W12_34 (nS h1476) h1475 h1509 h1339 h1347 h1338 h1193 h1348 h1349 h1471) ((((h1516.2.1 h1516.1) z1518 q1519 h1520).1 h1522).2 h1525)
          have h1528 : 1 ≤ z1518 ∧ z1518 ≤ 1 := (vc_X3_toldInAll_1 h1522 h1520)
          refine mr_iconst (pc := 120) (z := 1) dX1_goThrough_120 ?_
          refine sv_goto (pc := 121) (tgt := 125) dX1_goThrough_121 (by decide) ?_
          refine mr_icmp_eq (pc := 125) (tgt := 132) dX1_goThrough_125 (by decide) (r32 h1516.1 rfl) (r32 (rR (x := 1)) rfl) (fun h1531 => ?_) (fun h1531 => ?_)
          · have h1532 : 1 ≤ z1517 ∧ z1517 ≤ 1 := (vc_X1_goThrough_W12_37 h1531 h1516.1)
            refine mr_iconst (pc := 132) (z := 0) dX1_goThrough_132 ?_
            refine mr_istore (pc := 133) (lv' := [(9, iv 0), (0, .ref 21), (2, iv p2), (3, .ref b10), (5, iv z1189), (7, iv z1343), (8, iv ((z1190 + 2) + (z1340 * 5))), (10, iv z1467)]) dX1_goThrough_133 (by decide) rfl ?_
            refine mr_iinc (pc := 135) (lv' := [(10, iv (z1467 + 5)), (9, iv 0), (0, .ref 21), (2, iv p2), (3, .ref b10), (5, iv z1189), (7, iv z1343), (8, iv ((z1190 + 2) + (z1340 * 5)))]) dX1_goThrough_135 rfl (by decide) rfl ?_
            refine sv_goto (pc := 138) (tgt := 88) dX1_goThrough_138 (by decide) ?_
            refine mr_lvS (lv' := [(0, .ref 21), (2, iv p2), (3, .ref b10), (5, iv z1189), (7, iv z1343), (8, iv ((z1190 + 2) + (z1340 * 5))), (9, iv 0), (10, iv (z1467 + 5))]) (List.forall_mem_cons.mpr ⟨rfl, List.forall_mem_cons.mpr ⟨rfl, List.forall_mem_cons.mpr ⟨rfl, List.forall_mem_cons.mpr ⟨rfl, List.forall_mem_cons.mpr ⟨rfl, List.forall_mem_cons.mpr ⟨rfl, List.forall_mem_cons.mpr ⟨rfl, List.forall_mem_cons.mpr ⟨rfl, fun _ h => absurd h List.not_mem_nil⟩⟩⟩⟩⟩⟩⟩⟩) ?_
            exact ih1478 0 (z1467 + 5) trivial (rW (c := 0) (d := 1) (rR (x := 0)) rfl) (vc_X1_goThrough_W12_32 h1475 h1509 h1339 h1347 h1338 h1193 h1348 h1349 h1471) (vc_X1_goThrough_W12_33 h1339 h1347 h1475 h1509 h1338 h1193 h1348 h1349 h1471) (vc_X1_goThrough_W12_34 (nS h1476) h1475 h1509 h1339 h1347 h1338 h1193 h1348 h1349 h1471) ((((h1516.2.1 h1516.1) z1518 q1519 h1520).2 h1522).1 h1531)
          have h1533 : 0 ≤ z1517 ∧ z1517 ≤ 0 := (vc_X1_goThrough_W12_38 h1531 h1516.1)
          refine mr_iconst (pc := 128) (z := 1) dX1_goThrough_128 ?_
          refine sv_goto (pc := 129) (tgt := 133) dX1_goThrough_129 (by decide) ?_
          refine mr_istore (pc := 133) (lv' := [(9, iv 1), (0, .ref 21), (2, iv p2), (3, .ref b10), (5, iv z1189), (7, iv z1343), (8, iv ((z1190 + 2) + (z1340 * 5))), (10, iv z1467)]) dX1_goThrough_133 (by decide) rfl ?_
          refine mr_iinc (pc := 135) (lv' := [(10, iv (z1467 + 5)), (9, iv 1), (0, .ref 21), (2, iv p2), (3, .ref b10), (5, iv z1189), (7, iv z1343), (8, iv ((z1190 + 2) + (z1340 * 5)))]) dX1_goThrough_135 rfl (by decide) rfl ?_
          refine sv_goto (pc := 138) (tgt := 88) dX1_goThrough_138 (by decide) ?_
          refine mr_lvS (lv' := [(0, .ref 21), (2, iv p2), (3, .ref b10), (5, iv z1189), (7, iv z1343), (8, iv ((z1190 + 2) + (z1340 * 5))), (9, iv 1), (10, iv (z1467 + 5))]) (List.forall_mem_cons.mpr ⟨rfl, List.forall_mem_cons.mpr ⟨rfl, List.forall_mem_cons.mpr ⟨rfl, List.forall_mem_cons.mpr ⟨rfl, List.forall_mem_cons.mpr ⟨rfl, List.forall_mem_cons.mpr ⟨rfl, List.forall_mem_cons.mpr ⟨rfl, List.forall_mem_cons.mpr ⟨rfl, fun _ h => absurd h List.not_mem_nil⟩⟩⟩⟩⟩⟩⟩⟩) ?_
          exact ih1478 1 (z1467 + 5) trivial (rW (c := 0) (d := 1) (rR (x := 1)) rfl) (vc_X1_goThrough_W12_32 h1475 h1509 h1339 h1347 h1338 h1193 h1348 h1349 h1471) (vc_X1_goThrough_W12_33 h1339 h1347 h1475 h1509 h1338 h1193 h1348 h1349 h1471) (vc_X1_goThrough_W12_34 (nS h1476) h1475 h1509 h1339 h1347 h1338 h1193 h1348 h1349 h1471) ((((h1516.2.1 h1516.1) z1518 q1519 h1520).2 h1522).2 h1531)
      refine mr_lvS (lv' := [(0, .ref 21), (2, iv p2), (3, .ref b10), (5, iv z1189), (7, iv z1343), (8, iv ((z1190 + 2) + (z1340 * 5))), (9, iv 1), (10, iv (z1190 + 2))]) (List.forall_mem_cons.mpr ⟨rfl, List.forall_mem_cons.mpr ⟨rfl, List.forall_mem_cons.mpr ⟨rfl, List.forall_mem_cons.mpr ⟨rfl, List.forall_mem_cons.mpr ⟨rfl, List.forall_mem_cons.mpr ⟨rfl, List.forall_mem_cons.mpr ⟨rfl, List.forall_mem_cons.mpr ⟨rfl, fun _ h => absurd h List.not_mem_nil⟩⟩⟩⟩⟩⟩⟩⟩) ?_
      exact L1469 2010 1 (z1190 + 2) trivial (rW (c := 0) (d := 1) (rR (x := 1)) rfl) (rW (c := 2) (d := 2010) (rAdd (e := 2) (f := 2002) h1193 (rR (x := 2)) rfl) rfl) (vc_X1_goThrough_W12_39 h1339 h1347 h1338 h1193 h1348 h1349) (vc_X1_goThrough_W12_40 h1339 h1347 h1338 h1193 h1348 h1349) (((((((W1202 z1190 z1189 μ1191 rfl h1193 h1194 T1195 F1196).2 h1268) z1271 q1272 h1273).2 h1333) n_1336 q1337 h1338) z1340 q1341 h1342) z1343 q1344 h1345)
  refine mr_lvS (lv' := [(0, .ref 21), (2, iv p2), (3, .ref b10), (4, iv 0), (5, iv 0)]) (List.forall_mem_cons.mpr ⟨rfl, List.forall_mem_cons.mpr ⟨rfl, List.forall_mem_cons.mpr ⟨rfl, List.forall_mem_cons.mpr ⟨rfl, List.forall_mem_cons.mpr ⟨rfl, fun _ h => absurd h List.not_mem_nil⟩⟩⟩⟩⟩) ?_
  exact L1192 2002 0 0 μ hT mF.refl (rW (c := 0) (d := 2000) (rR (x := 0)) rfl) (rW (c := 0) (d := 30) (rR (x := 0)) rfl) hIPC hIRT R18 vc_X1_goThrough_W12_41 ((((((hQ.2 h1) z4 q5 h6).2 h7) b10 q11 A12) c13 q15) z14 q17)
def WJ_X1_doActs_W1_2 (w : mW) (rec1 : (Int × mM) → Prop) (z1989 : Int) (μ2019 : mM) (μ2114 : mM) : Prop := mT w μ2114 → mF [21007, 200007, 201999] w μ2019 μ2114 → rec1 ((z1989 + 1), μ2114)
def WL_X1_doActs_W1_1 (w : mW) (μ : mM) (a1 : Nat) (p2 : Int) (p3 : Int) (p4 : Int) (Q : mM → Prop) (rec1 : (Int × mM) → Prop) (s : (Int × mM)) : Prop := ∀ z1989 : Int, ∀ μ1990 : mM, s = (z1989, μ1990) → (0 ≤ z1989 ∧ z1989 ≤ 1000) → mT w μ1990 → mF [21006, 21007, 200004, 200006, 200007, 200008, 201999, 202999] w μ μ1990 → ((p3 ≤ z1989) → Q μ1990) ∧ ((z1989 < p3) → ∀ z2004 : Int, μ1990 21 7 = z2004 → (0 ≤ z2004 ∧ z2004 ≤ 2) → ((¬ z2004 = 0) → Q μ1990) ∧ ((z2004 = 0) → ∀ z2010 : Int, μ1990 a1 (((p2 + (z1989 * 2)) + 1).toNat) = z2010 → ((-2147483648) ≤ z2010 ∧ z2010 ≤ 2147483647) → ∀ z2014 : Int, μ1990 21 6 = z2014 → (0 ≤ z2014 ∧ z2014 ≤ 500) → ((z2014 < 500) → ∀ μ2019 : mM, mU μ1990 21 (6) (z2014 + 1) μ2019 → mT w μ2019 → ∀ z2022 : Int, μ2019 a1 ((p2 + (z1989 * 2)).toNat) = z2022 → ((-2147483648) ≤ z2022 ∧ z2022 ≤ 2147483647) → (z2022 = 12 → ∀ b2028 : Nat, μ2019 21 2 = (b2028 : Int) → mAt w b2028 200 → ∀ μ2031 : mM, mU μ2019 b2028 (4) z2010 μ2031 → mT w μ2031 → rec1 ((z1989 + 1), μ2031)) ∧ (¬ z2022 = 12 → (z2022 = 13 → ∀ b2036 : Nat, μ2019 21 2 = (b2036 : Int) → mAt w b2036 200 → ∀ μ2039 : mM, mU μ2019 b2036 (6) z2010 μ2039 → mT w μ2039 → rec1 ((z1989 + 1), μ2039)) ∧ (¬ z2022 = 13 → (z2022 = 14 → rec1 ((z1989 + 1), μ2019)) ∧ (¬ z2022 = 14 → (z2022 = 15 → rec1 ((z1989 + 1), μ2019)) ∧ (¬ z2022 = 15 → (z2022 = 16 → rec1 ((z1989 + 1), μ2019)) ∧ (¬ z2022 = 16 → (z2022 = 17 → rec1 ((z1989 + 1), μ2019)) ∧ (¬ z2022 = 17 → (z2022 = 18 → rec1 ((z1989 + 1), μ2019)) ∧ (¬ z2022 = 18 → (z2022 = 19 → rec1 ((z1989 + 1), μ2019)) ∧ (¬ z2022 = 19 → (z2022 = 20 → rec1 ((z1989 + 1), μ2019)) ∧ (¬ z2022 = 20 → (z2022 = 21 → rec1 ((z1989 + 1), μ2019)) ∧ (¬ z2022 = 21 → (z2022 = 22 → rec1 ((z1989 + 1), μ2019)) ∧ (¬ z2022 = 22 → (z2022 = 23 → ∀ μ2063 : mM, mU μ2019 21 (7) (1 : Int) μ2063 → mT w μ2063 → rec1 ((z1989 + 1), μ2063)) ∧ (¬ z2022 = 23 → (z2022 = 24 → ∀ μ2069 : mM, mU μ2019 21 (7) (2 : Int) μ2069 → mT w μ2069 → rec1 ((z1989 + 1), μ2069)) ∧ (¬ z2022 = 24 → (z2022 = 25 → ∀ b2074 : Nat, μ2019 21 2 = (b2074 : Int) → mAt w b2074 200 → WP_X7_addMark_W w μ2019 b2074 z2010 (fun μ2077 => mT w μ2077 → mF [200008, 202999] w μ2019 μ2077 → rec1 ((z1989 + 1), μ2077))) ∧ (¬ z2022 = 25 → (z2022 = 26 → ∀ b2083 : Nat, μ2019 21 2 = (b2083 : Int) → mAt w b2083 200 → WP_X7_dropMark_W w μ2019 b2083 z2010 (fun μ2086 => mT w μ2086 → mF [200008, 202999] w μ2019 μ2086 → rec1 ((z1989 + 1), μ2086))) ∧ (¬ z2022 = 26 → (z2022 = 27 → ∀ b2092 : Nat, μ2019 21 2 = (b2092 : Int) → mAt w b2092 200 → ∀ z2095 : Int, μ2019 b2092 7 = z2095 → (0 ≤ z2095 ∧ z2095 ≤ 20) → ((z2095 ≤ 0) → (WJ_X1_doActs_W1_2 w rec1 z1989 μ2019) μ2019) ∧ ((0 < z2095) → ∀ z2126 : Int, μ2019 (b2092 + 1) ((0 : Int).toNat) = z2126 → ((-2147483648) ≤ z2126 ∧ z2126 ≤ 2147483647) → WP_X7_putInFront_W w μ2019 b2092 z2126 z2010 (fun z2133 μ2129 => mT w μ2129 → mF [200007, 201999] w μ2019 μ2129 → (0 ≤ z2133 ∧ z2133 ≤ 1) → ((¬ z2133 = 0) → (WJ_X1_doActs_W1_2 w rec1 z1989 μ2019) μ2129) ∧ ((z2133 = 0) → ∀ μ2138 : mM, mU μ2129 21 (7) (2 : Int) μ2138 → mT w μ2138 → (WJ_X1_doActs_W1_2 w rec1 z1989 μ2019) μ2138)))) ∧ (¬ z2022 = 27 → (z2022 = 28 → WP_X1_goThrough_W2 w μ2019 z2010 (p4 + 1) (fun μ2143 => mT w μ2143 → mF [21006, 21007, 200004, 200006, 200007, 200008, 201999, 202999] w μ2019 μ2143 → rec1 ((z1989 + 1), μ2143))) ∧ (¬ z2022 = 28 → rec1 ((z1989 + 1), μ2019))))))))))))))))))) ∧ ((500 ≤ z2014) → ∀ μ2148 : mM, mU μ1990 21 (7) (2 : Int) μ2148 → mT w μ2148 → Q μ2148)))
def WP_X1_doActs_W1 (w : mW) (μ : mM) (a1 : Nat) (p2 : Int) (p3 : Int) (p4 : Int) (Q : mM → Prop) : Prop := ∀ n_1 : Int, (w.2.2.1 a1 : Int) = n_1 → (0 ≤ n_1 ∧ n_1 ≤ 2000) → loopF (WL_X1_doActs_W1_1 w μ a1 p2 p3 p4 Q) False 1002 ((0 : Int), μ)
set_option maxRecDepth 4000 in
set_option maxHeartbeats 4000000 in
theorem c_X1_doActs_W1 {l : Launch} {D : va_G} {c : Nat → ClassId} {H0 : Heap} {sa : Nat × Nat × (Nat → Int32)} {w : mW} {μ : mM} (hw : mWF w) (hT : mT w μ) {a1 : Nat} (hA1 : mAt w a1 231) {p2 : Int} (hp2 : 0 ≤ p2 ∧ p2 ≤ 2000) {p3 : Int} (hp3 : 0 ≤ p3 ∧ p3 ≤ 1000) {p4 : Int} (hp4 : 1 ≤ p4 ∧ p4 ≤ 1) (hIPC : PC w μ) (hIRT : RT μ) (hlen : p2 + 2 * p3 ≤ (w.2.2.1 a1 : Int)) (harg : ∀ i : Int, 0 ≤ i → i < p3 → 0 ≤ μ a1 (p2 + 2 * i + 1).toNat ∧ μ a1 (p2 + 2 * i + 1).toNat ≤ 1000000) {Q : mM → Prop} (hQ : WP_X1_doActs_W1 w μ a1 p2 p3 p4 Q) : sC (gG l D c H0 sa) mX1_doActs 26 0 0 [.ref 21, .ref a1, iv p2, iv p3, iv p4] (mk w μ) (qV w [21006, 21007, 200004, 200006, 200007, 200008, 201999, 202999] μ (fun μ1 => Q μ1 ∧ True)) := by
  refine sC.of rfl (by decide) (le_t rfl) ?_
  refine mr_lvE (lv' := [(0, .ref 21), (1, .ref a1), (2, iv p2), (3, iv p3), (4, iv p4)]) rfl ?_
  obtain ⟨n_1, q2⟩ : ∃ n : Int, (w.2.2.1 a1 : Int) = n := ⟨_, rfl⟩
  have h3 : 0 ≤ n_1 ∧ n_1 ≤ 2000 := lnR (m := 2000) q2 hA1 rfl
  have h4 : p2 + 2 * p3 ≤ n_1 := lnLe q2 hlen
  refine mr_iconst (pc := 0) (z := 0) dX1_doActs_0 ?_
  refine mr_istore (pc := 1) (lv' := [(5, iv 0), (0, .ref 21), (1, .ref a1), (2, iv p2), (3, iv p3), (4, iv p4)]) dX1_doActs_1 (by decide) rfl ?_
  have L1991 : ∀ (nL1991 : Nat) (z1989 : Int) (μ1990 : mM), mT w μ1990 → mF [21006, 21007, 200004, 200006, 200007, 200008, 201999, 202999] w μ μ1990 → (0 ≤ z1989 ∧ z1989 ≤ 1000) → PC w μ1990 → RT μ1990 → (1001 - z1989) < (nL1991 : Int) → loopF (WL_X1_doActs_W1_1 w μ a1 p2 p3 p4 Q) False nL1991 (z1989, μ1990) → sV (gG l D c H0 sa) mX1_doActs (sRm 26 0 0) (sZ (gG l D c H0 sa) 0 0 (qV w [21006, 21007, 200004, 200006, 200007, 200008, 201999, 202999] μ (fun μ1 => Q μ1 ∧ True))) 3 [(0, .ref 21), (1, .ref a1), (2, iv p2), (3, iv p3), (4, iv p4), (5, iv z1989)] [] (mk w μ1990) 0 0 := by
    intro nL1991
    induction nL1991 with
    | zero => intro z1989 μ1990 T1993 F1994 h1992 I1996 I1997 h1998 W1999; exact ((vc_X1_doActs_W12_1 h1998 h1992)).elim
    | succ nL1991 ih2000 =>
      intro z1989 μ1990 T1993 F1994 h1992 I1996 I1997 h1998 W1999
      refine mr_iload (pc := 3) (z := z1989) dX1_doActs_3 rfl ?_
      refine mr_iload_n (pc := 5) (z := p3) dX1_doActs_5 rfl rfl ?_
      refine mr_icmp_ge (pc := 6) (tgt := 266) dX1_doActs_6 (by decide) (r32 h1992 rfl) (r32 hp3 rfl) (fun h2001 => ?_) (fun h2001 => ?_)
      · exact mr_vret dX1_doActs_266 rfl (le_t rfl) (le_t rfl) T1993 (mF.call mF.refl F1994 rfl) ⟨((W1999 z1989 μ1990 rfl h1992 T1993 F1994).1 h2001), trivial⟩
      have h2002 : 0 ≤ z1989 ∧ z1989 ≤ 999 := (vc_X1_doActs_W12_2 h2001 h4 h3 hp2 hp3 h1992)
      have h2003 : 1 ≤ p3 ∧ p3 ≤ 1000 := (vc_X1_doActs_W12_3 h2001 h4 h3 hp2 hp3 h2002)
      refine sv_aload_n (pc := 9) dX1_doActs_9 rfl rfl ?_
      refine gf_X1_7 (pc := 10) dX1_doActs_10 wF_X1_50 (A_21 hw) T1993 fun z2004 q2005 h2006 => ?_
      refine mr_if_ne (pc := 13) (tgt := 266) dX1_doActs_13 (by decide) (r32 h2006 rfl) (fun h2007 => ?_) (fun h2007 => ?_)
      · have h2008 : 1 ≤ z2004 ∧ z2004 ≤ 2 := (vc_X12_provides_3 h2007 h2006)
        exact mr_vret dX1_doActs_266 rfl (le_t rfl) (le_t rfl) T1993 (mF.call mF.refl F1994 rfl) ⟨((((W1999 z1989 μ1990 rfl h1992 T1993 F1994).2 h2001) z2004 q2005 h2006).1 h2007), trivial⟩
      have h2009 : 0 ≤ z2004 ∧ z2004 ≤ 0 := (vc_X12_provides_4 h2007 h2006)
      refine sv_aload_n (pc := 16) dX1_doActs_16 rfl rfl ?_
      refine mr_iload_n (pc := 17) (z := p2) dX1_doActs_17 rfl rfl ?_
      refine mr_iload (pc := 18) (z := z1989) dX1_doActs_18 rfl ?_
      refine mr_iconst (pc := 20) (z := 2) dX1_doActs_20 ?_
      refine mr_imul (pc := 21) (x := z1989) (y := 2) dX1_doActs_21 ?_
      refine mr_iadd (pc := 22) (x := p2) (y := (z1989 * 2)) dX1_doActs_22 ?_
      refine mr_iconst (pc := 23) (z := 1) dX1_doActs_23 ?_
      refine mr_iadd (pc := 24) (x := (p2 + (z1989 * 2))) (y := 1) dX1_doActs_24 ?_
      refine la_231 (pc := 25) dX1_doActs_25 hA1 T1993 (lnC q2 (vc_X1_doActs_W12_6 h4 h2001 h3 hp2 h2003 h2002)) fun z2010 q2011 h2012 => ?_
      have h2013 : 0 ≤ z2010 ∧ z2010 ≤ 1000000 := argB harg (vc_X1_doActs_W12_7 h2001 h4 h3 hp2 h2003 h2002) (vc_X1_doActs_W12_8 h4 h2001 h3 hp2 h2003 h2002) (vc_X1_doActs_W12_9 h4 h2001 h3 hp2 h2003 h2002) (((mF.call mF.refl F1994 rfl) : mF [21006, 21007, 200004, 200006, 200007, 200008, 201999, 202999] w μ μ1990).f hA1 rfl rfl) q2011
      refine mr_istore (pc := 26) (lv' := [(6, iv z2010), (0, .ref 21), (1, .ref a1), (2, iv p2), (3, iv p3), (4, iv p4), (5, iv z1989)]) dX1_doActs_26 (by decide) rfl ?_
      refine sv_aload_n (pc := 28) dX1_doActs_28 rfl rfl ?_
      refine gf_X1_6 (pc := 29) dX1_doActs_29 wF_X1_47 (A_21 hw) T1993 fun z2014 q2015 h2016 => ?_
      refine mr_sipush (pc := 32) (z := 500) dX1_doActs_32 (by decide) ?_
      refine mr_icmp_lt (pc := 35) (tgt := 44) dX1_doActs_35 (by decide) (r32 h2016 rfl) (r32 (rR (x := 500)) rfl) (fun h2017 => ?_) (fun h2017 => ?_)
      · have h2018 : 0 ≤ z2014 ∧ z2014 ≤ 499 := (vc_X1_doActs_W12_10 h2017 h2016)
        refine sv_aload_n (pc := 44) dX1_doActs_44 rfl rfl ?_
        refine sv_dup (pc := 45) dX1_doActs_45 rfl ?_
        refine gk_X1_6 (pc := 46) dX1_doActs_46 wF_X1_47 (A_21 hw) q2015 ?_
        refine mr_iconst (pc := 49) (z := 1) dX1_doActs_49 ?_
        refine mr_iadd (pc := 50) (x := z2014) (y := 1) dX1_doActs_50 ?_
        refine pf_X1_6 (pc := 51) dX1_doActs_51 wF_X1_47 (A_21 hw) T1993 (rW (c := 0) (d := 500) (rAdd (e := 1) (f := 500) h2018 (rR (x := 1)) rfl) rfl) fun μ2019 u2020 T2021 => ?_
        refine sv_aload_n (pc := 54) dX1_doActs_54 rfl rfl ?_
        refine mr_iload_n (pc := 55) (z := p2) dX1_doActs_55 rfl rfl ?_
        refine mr_iload (pc := 56) (z := z1989) dX1_doActs_56 rfl ?_
        refine mr_iconst (pc := 58) (z := 2) dX1_doActs_58 ?_
        refine mr_imul (pc := 59) (x := z1989) (y := 2) dX1_doActs_59 ?_
        refine mr_iadd (pc := 60) (x := p2) (y := (z1989 * 2)) dX1_doActs_60 ?_
        refine la_231 (pc := 61) dX1_doActs_61 hA1 T2021 (lnC q2 (vc_X1_doActs_W12_11 h4 h2001 h3 hp2 h2003 h2002)) fun z2022 q2023 h2024 => ?_
        have W2026 := (((((((((W1999 z1989 μ1990 rfl h1992 T1993 F1994).2 h2001) z2004 q2005 h2006).2 h2007) z2010 q2011 h2012) z2014 q2015 h2016).1 h2017) μ2019 u2020 T2021) z2022 q2023 h2024)
        by_cases h2025 : z2022 = 12
        · refine mr_tableIn (pc := 62) (v := 12) (tgt := 184) dX1_doActs_62 h2025 rfl rfl (by decide) ?_
          have h2027 : 12 ≤ z2022 ∧ z2022 ≤ 12 := (vc_X1_doActs_W12_12 h2025 h2024)
          refine sv_aload_n (pc := 184) dX1_doActs_184 rfl rfl ?_
          refine gf_X1_2 (pc := 185) dX1_doActs_185 wF_X1_25 (A_21 hw) T2021 (RT.keep I1997 hw ((mF.up mF.refl (A_21 hw) u2020 rfl) : mF [21006] w μ1990 μ2019) rfl) fun b2028 q2029 A2030 => ?_
          refine mr_iload (pc := 188) (z := z2010) dX1_doActs_188 rfl ?_
          refine pf_X7_4 (pc := 190) dX1_doActs_190 wF_X1_105 A2030 T2021 (rW (c := (-2147483648)) (d := 2147483647) h2013 rfl) fun μ2031 u2032 T2033 => ?_
          refine sv_goto (pc := 193) (tgt := 260) dX1_doActs_193 (by decide) ?_
          refine mr_iinc (pc := 260) (lv' := [(5, iv (z1989 + 1)), (6, iv z2010), (0, .ref 21), (1, .ref a1), (2, iv p2), (3, iv p3), (4, iv p4)]) dX1_doActs_260 rfl (by decide) rfl ?_
          refine sv_goto (pc := 263) (tgt := 3) dX1_doActs_263 (by decide) ?_
          refine mr_lvS (lv' := [(0, .ref 21), (1, .ref a1), (2, iv p2), (3, iv p3), (4, iv p4), (5, iv (z1989 + 1))]) (List.forall_mem_cons.mpr ⟨rfl, List.forall_mem_cons.mpr ⟨rfl, List.forall_mem_cons.mpr ⟨rfl, List.forall_mem_cons.mpr ⟨rfl, List.forall_mem_cons.mpr ⟨rfl, List.forall_mem_cons.mpr ⟨rfl, fun _ h => absurd h List.not_mem_nil⟩⟩⟩⟩⟩⟩) ?_
          exact ih2000 (z1989 + 1) μ2031 T2033 (mF.up (mF.up (mF.call mF.refl F1994 rfl) (A_21 hw) u2020 rfl) A2030 u2032 rfl) (rW (c := 0) (d := 1000) (rAdd (e := 1) (f := 1000) h2002 (rR (x := 1)) rfl) rfl) (PC.keep I1996 hw ((mF.up (mF.up mF.refl (A_21 hw) u2020 rfl) A2030 u2032 rfl) : mF [21006, 200004] w μ1990 μ2031) rfl) (RT.keep I1997 hw ((mF.up (mF.up mF.refl (A_21 hw) u2020 rfl) A2030 u2032 rfl) : mF [21006, 200004] w μ1990 μ2031) rfl) (vc_X1_doActs_W12_13 (nS h1998) h2001 h4 h3 hp2 h2003 h2002) (((W2026.1 h2025) b2028 q2029 A2030) μ2031 u2032 T2033)
        by_cases h2034 : z2022 = 13
        · refine mr_tableIn (pc := 62) (v := 13) (tgt := 196) dX1_doActs_62 h2034 rfl rfl (by decide) ?_
          have h2035 : 13 ≤ z2022 ∧ z2022 ≤ 13 := (vc_X1_doActs_W12_14 h2034 h2025 h2024)
          refine sv_aload_n (pc := 196) dX1_doActs_196 rfl rfl ?_
          refine gf_X1_2 (pc := 197) dX1_doActs_197 wF_X1_25 (A_21 hw) T2021 (RT.keep I1997 hw ((mF.up mF.refl (A_21 hw) u2020 rfl) : mF [21006] w μ1990 μ2019) rfl) fun b2036 q2037 A2038 => ?_
          refine mr_iload (pc := 200) (z := z2010) dX1_doActs_200 rfl ?_
          refine pf_X7_6 (pc := 202) dX1_doActs_202 wF_X1_108 A2038 T2021 (rW (c := (-2147483648)) (d := 2147483647) h2013 rfl) fun μ2039 u2040 T2041 => ?_
          refine sv_goto (pc := 205) (tgt := 260) dX1_doActs_205 (by decide) ?_
          refine mr_iinc (pc := 260) (lv' := [(5, iv (z1989 + 1)), (6, iv z2010), (0, .ref 21), (1, .ref a1), (2, iv p2), (3, iv p3), (4, iv p4)]) dX1_doActs_260 rfl (by decide) rfl ?_
          refine sv_goto (pc := 263) (tgt := 3) dX1_doActs_263 (by decide) ?_
          refine mr_lvS (lv' := [(0, .ref 21), (1, .ref a1), (2, iv p2), (3, iv p3), (4, iv p4), (5, iv (z1989 + 1))]) (List.forall_mem_cons.mpr ⟨rfl, List.forall_mem_cons.mpr ⟨rfl, List.forall_mem_cons.mpr ⟨rfl, List.forall_mem_cons.mpr ⟨rfl, List.forall_mem_cons.mpr ⟨rfl, List.forall_mem_cons.mpr ⟨rfl, fun _ h => absurd h List.not_mem_nil⟩⟩⟩⟩⟩⟩) ?_
          exact ih2000 (z1989 + 1) μ2039 T2041 (mF.up (mF.up (mF.call mF.refl F1994 rfl) (A_21 hw) u2020 rfl) A2038 u2040 rfl) (rW (c := 0) (d := 1000) (rAdd (e := 1) (f := 1000) h2002 (rR (x := 1)) rfl) rfl) (PC.keep I1996 hw ((mF.up (mF.up mF.refl (A_21 hw) u2020 rfl) A2038 u2040 rfl) : mF [21006, 200006] w μ1990 μ2039) rfl) (RT.keep I1997 hw ((mF.up (mF.up mF.refl (A_21 hw) u2020 rfl) A2038 u2040 rfl) : mF [21006, 200006] w μ1990 μ2039) rfl) (vc_X1_doActs_W12_13 (nS h1998) h2001 h4 h3 hp2 h2003 h2002) ((((W2026.2 h2025).1 h2034) b2036 q2037 A2038) μ2039 u2040 T2041)
        by_cases h2042 : z2022 = 14
        · refine mr_tableIn (pc := 62) (v := 14) (tgt := 260) dX1_doActs_62 h2042 rfl rfl (by decide) ?_
          have h2043 : 14 ≤ z2022 ∧ z2022 ≤ 14 := (vc_X1_doActs_W12_15 h2042 h2025 h2034 h2024)
          refine mr_iinc (pc := 260) (lv' := [(5, iv (z1989 + 1)), (6, iv z2010), (0, .ref 21), (1, .ref a1), (2, iv p2), (3, iv p3), (4, iv p4)]) dX1_doActs_260 rfl (by decide) rfl ?_
          refine sv_goto (pc := 263) (tgt := 3) dX1_doActs_263 (by decide) ?_
          refine mr_lvS (lv' := [(0, .ref 21), (1, .ref a1), (2, iv p2), (3, iv p3), (4, iv p4), (5, iv (z1989 + 1))]) (List.forall_mem_cons.mpr ⟨rfl, List.forall_mem_cons.mpr ⟨rfl, List.forall_mem_cons.mpr ⟨rfl, List.forall_mem_cons.mpr ⟨rfl, List.forall_mem_cons.mpr ⟨rfl, List.forall_mem_cons.mpr ⟨rfl, fun _ h => absurd h List.not_mem_nil⟩⟩⟩⟩⟩⟩) ?_
          exact ih2000 (z1989 + 1) μ2019 T2021 (mF.up (mF.call mF.refl F1994 rfl) (A_21 hw) u2020 rfl) (rW (c := 0) (d := 1000) (rAdd (e := 1) (f := 1000) h2002 (rR (x := 1)) rfl) rfl) (PC.keep I1996 hw ((mF.up mF.refl (A_21 hw) u2020 rfl) : mF [21006] w μ1990 μ2019) rfl) (RT.keep I1997 hw ((mF.up mF.refl (A_21 hw) u2020 rfl) : mF [21006] w μ1990 μ2019) rfl) (vc_X1_doActs_W12_13 (nS h1998) h2001 h4 h3 hp2 h2003 h2002) (((W2026.2 h2025).2 h2034).1 h2042)
        by_cases h2044 : z2022 = 15
        · refine mr_tableIn (pc := 62) (v := 15) (tgt := 260) dX1_doActs_62 h2044 rfl rfl (by decide) ?_
          have h2045 : 15 ≤ z2022 ∧ z2022 ≤ 15 := (vc_X1_doActs_W12_16 h2044 h2025 h2034 h2042 h2024)
          refine mr_iinc (pc := 260) (lv' := [(5, iv (z1989 + 1)), (6, iv z2010), (0, .ref 21), (1, .ref a1), (2, iv p2), (3, iv p3), (4, iv p4)]) dX1_doActs_260 rfl (by decide) rfl ?_
          refine sv_goto (pc := 263) (tgt := 3) dX1_doActs_263 (by decide) ?_
          refine mr_lvS (lv' := [(0, .ref 21), (1, .ref a1), (2, iv p2), (3, iv p3), (4, iv p4), (5, iv (z1989 + 1))]) (List.forall_mem_cons.mpr ⟨rfl, List.forall_mem_cons.mpr ⟨rfl, List.forall_mem_cons.mpr ⟨rfl, List.forall_mem_cons.mpr ⟨rfl, List.forall_mem_cons.mpr ⟨rfl, List.forall_mem_cons.mpr ⟨rfl, fun _ h => absurd h List.not_mem_nil⟩⟩⟩⟩⟩⟩) ?_
          exact ih2000 (z1989 + 1) μ2019 T2021 (mF.up (mF.call mF.refl F1994 rfl) (A_21 hw) u2020 rfl) (rW (c := 0) (d := 1000) (rAdd (e := 1) (f := 1000) h2002 (rR (x := 1)) rfl) rfl) (PC.keep I1996 hw ((mF.up mF.refl (A_21 hw) u2020 rfl) : mF [21006] w μ1990 μ2019) rfl) (RT.keep I1997 hw ((mF.up mF.refl (A_21 hw) u2020 rfl) : mF [21006] w μ1990 μ2019) rfl) (vc_X1_doActs_W12_13 (nS h1998) h2001 h4 h3 hp2 h2003 h2002) ((((W2026.2 h2025).2 h2034).2 h2042).1 h2044)
        by_cases h2046 : z2022 = 16
        · refine mr_tableIn (pc := 62) (v := 16) (tgt := 260) dX1_doActs_62 h2046 rfl rfl (by decide) ?_
          have h2047 : 16 ≤ z2022 ∧ z2022 ≤ 16 := (vc_X1_doActs_W12_17 h2046 h2025 h2034 h2042 h2044 h2024)
          refine mr_iinc (pc := 260) (lv' := [(5, iv (z1989 + 1)), (6, iv z2010), (0, .ref 21), (1, .ref a1), (2, iv p2), (3, iv p3), (4, iv p4)]) dX1_doActs_260 rfl (by decide) rfl ?_
          refine sv_goto (pc := 263) (tgt := 3) dX1_doActs_263 (by decide) ?_
          refine mr_lvS (lv' := [(0, .ref 21), (1, .ref a1), (2, iv p2), (3, iv p3), (4, iv p4), (5, iv (z1989 + 1))]) (List.forall_mem_cons.mpr ⟨rfl, List.forall_mem_cons.mpr ⟨rfl, List.forall_mem_cons.mpr ⟨rfl, List.forall_mem_cons.mpr ⟨rfl, List.forall_mem_cons.mpr ⟨rfl, List.forall_mem_cons.mpr ⟨rfl, fun _ h => absurd h List.not_mem_nil⟩⟩⟩⟩⟩⟩) ?_
          exact ih2000 (z1989 + 1) μ2019 T2021 (mF.up (mF.call mF.refl F1994 rfl) (A_21 hw) u2020 rfl) (rW (c := 0) (d := 1000) (rAdd (e := 1) (f := 1000) h2002 (rR (x := 1)) rfl) rfl) (PC.keep I1996 hw ((mF.up mF.refl (A_21 hw) u2020 rfl) : mF [21006] w μ1990 μ2019) rfl) (RT.keep I1997 hw ((mF.up mF.refl (A_21 hw) u2020 rfl) : mF [21006] w μ1990 μ2019) rfl) (vc_X1_doActs_W12_13 (nS h1998) h2001 h4 h3 hp2 h2003 h2002) (((((W2026.2 h2025).2 h2034).2 h2042).2 h2044).1 h2046)
        by_cases h2048 : z2022 = 17
        · refine mr_tableIn (pc := 62) (v := 17) (tgt := 260) dX1_doActs_62 h2048 rfl rfl (by decide) ?_
          have h2049 : 17 ≤ z2022 ∧ z2022 ≤ 17 := (vc_X1_doActs_W12_18 h2048 h2025 h2034 h2042 h2044 h2046 h2024)
          refine mr_iinc (pc := 260) (lv' := [(5, iv (z1989 + 1)), (6, iv z2010), (0, .ref 21), (1, .ref a1), (2, iv p2), (3, iv p3), (4, iv p4)]) dX1_doActs_260 rfl (by decide) rfl ?_
          refine sv_goto (pc := 263) (tgt := 3) dX1_doActs_263 (by decide) ?_
          refine mr_lvS (lv' := [(0, .ref 21), (1, .ref a1), (2, iv p2), (3, iv p3), (4, iv p4), (5, iv (z1989 + 1))]) (List.forall_mem_cons.mpr ⟨rfl, List.forall_mem_cons.mpr ⟨rfl, List.forall_mem_cons.mpr ⟨rfl, List.forall_mem_cons.mpr ⟨rfl, List.forall_mem_cons.mpr ⟨rfl, List.forall_mem_cons.mpr ⟨rfl, fun _ h => absurd h List.not_mem_nil⟩⟩⟩⟩⟩⟩) ?_
          exact ih2000 (z1989 + 1) μ2019 T2021 (mF.up (mF.call mF.refl F1994 rfl) (A_21 hw) u2020 rfl) (rW (c := 0) (d := 1000) (rAdd (e := 1) (f := 1000) h2002 (rR (x := 1)) rfl) rfl) (PC.keep I1996 hw ((mF.up mF.refl (A_21 hw) u2020 rfl) : mF [21006] w μ1990 μ2019) rfl) (RT.keep I1997 hw ((mF.up mF.refl (A_21 hw) u2020 rfl) : mF [21006] w μ1990 μ2019) rfl) (vc_X1_doActs_W12_13 (nS h1998) h2001 h4 h3 hp2 h2003 h2002) ((((((W2026.2 h2025).2 h2034).2 h2042).2 h2044).2 h2046).1 h2048)
        have W2051 := ((((((W2026.2 h2025).2 h2034).2 h2042).2 h2044).2 h2046).2 h2048)
        by_cases h2050 : z2022 = 18
        · refine mr_tableIn (pc := 62) (v := 18) (tgt := 260) dX1_doActs_62 h2050 rfl rfl (by decide) ?_
          have h2052 : 18 ≤ z2022 ∧ z2022 ≤ 18 := (vc_X1_doActs_W12_19 h2050 h2025 h2034 h2042 h2044 h2046 h2048 h2024)
          refine mr_iinc (pc := 260) (lv' := [(5, iv (z1989 + 1)), (6, iv z2010), (0, .ref 21), (1, .ref a1), (2, iv p2), (3, iv p3), (4, iv p4)]) dX1_doActs_260 rfl (by decide) rfl ?_
          refine sv_goto (pc := 263) (tgt := 3) dX1_doActs_263 (by decide) ?_
          refine mr_lvS (lv' := [(0, .ref 21), (1, .ref a1), (2, iv p2), (3, iv p3), (4, iv p4), (5, iv (z1989 + 1))]) (List.forall_mem_cons.mpr ⟨rfl, List.forall_mem_cons.mpr ⟨rfl, List.forall_mem_cons.mpr ⟨rfl, List.forall_mem_cons.mpr ⟨rfl, List.forall_mem_cons.mpr ⟨rfl, List.forall_mem_cons.mpr ⟨rfl, fun _ h => absurd h List.not_mem_nil⟩⟩⟩⟩⟩⟩) ?_
          exact ih2000 (z1989 + 1) μ2019 T2021 (mF.up (mF.call mF.refl F1994 rfl) (A_21 hw) u2020 rfl) (rW (c := 0) (d := 1000) (rAdd (e := 1) (f := 1000) h2002 (rR (x := 1)) rfl) rfl) (PC.keep I1996 hw ((mF.up mF.refl (A_21 hw) u2020 rfl) : mF [21006] w μ1990 μ2019) rfl) (RT.keep I1997 hw ((mF.up mF.refl (A_21 hw) u2020 rfl) : mF [21006] w μ1990 μ2019) rfl) (vc_X1_doActs_W12_13 (nS h1998) h2001 h4 h3 hp2 h2003 h2002) (W2051.1 h2050)
        by_cases h2053 : z2022 = 19
        · refine mr_tableIn (pc := 62) (v := 19) (tgt := 260) dX1_doActs_62 h2053 rfl rfl (by decide) ?_
          have h2054 : 19 ≤ z2022 ∧ z2022 ≤ 19 := (vc_X1_doActs_W12_20 h2053 h2025 h2034 h2042 h2044 h2046 h2048 h2050 h2024)
          refine mr_iinc (pc := 260) (lv' := [(5, iv (z1989 + 1)), (6, iv z2010), (0, .ref 21), (1, .ref a1), (2, iv p2), (3, iv p3), (4, iv p4)]) dX1_doActs_260 rfl (by decide) rfl ?_
          refine sv_goto (pc := 263) (tgt := 3) dX1_doActs_263 (by decide) ?_
          refine mr_lvS (lv' := [(0, .ref 21), (1, .ref a1), (2, iv p2), (3, iv p3), (4, iv p4), (5, iv (z1989 + 1))]) (List.forall_mem_cons.mpr ⟨rfl, List.forall_mem_cons.mpr ⟨rfl, List.forall_mem_cons.mpr ⟨rfl, List.forall_mem_cons.mpr ⟨rfl, List.forall_mem_cons.mpr ⟨rfl, List.forall_mem_cons.mpr ⟨rfl, fun _ h => absurd h List.not_mem_nil⟩⟩⟩⟩⟩⟩) ?_
          exact ih2000 (z1989 + 1) μ2019 T2021 (mF.up (mF.call mF.refl F1994 rfl) (A_21 hw) u2020 rfl) (rW (c := 0) (d := 1000) (rAdd (e := 1) (f := 1000) h2002 (rR (x := 1)) rfl) rfl) (PC.keep I1996 hw ((mF.up mF.refl (A_21 hw) u2020 rfl) : mF [21006] w μ1990 μ2019) rfl) (RT.keep I1997 hw ((mF.up mF.refl (A_21 hw) u2020 rfl) : mF [21006] w μ1990 μ2019) rfl) (vc_X1_doActs_W12_13 (nS h1998) h2001 h4 h3 hp2 h2003 h2002) ((W2051.2 h2050).1 h2053)
        by_cases h2055 : z2022 = 20
        · refine mr_tableIn (pc := 62) (v := 20) (tgt := 260) dX1_doActs_62 h2055 rfl rfl (by decide) ?_
          have h2056 : 20 ≤ z2022 ∧ z2022 ≤ 20 := (vc_X1_doActs_W12_21 h2055 h2034 h2042 h2044 h2046 h2048 h2050 h2053 h2024)
          refine mr_iinc (pc := 260) (lv' := [(5, iv (z1989 + 1)), (6, iv z2010), (0, .ref 21), (1, .ref a1), (2, iv p2), (3, iv p3), (4, iv p4)]) dX1_doActs_260 rfl (by decide) rfl ?_
          refine sv_goto (pc := 263) (tgt := 3) dX1_doActs_263 (by decide) ?_
          refine mr_lvS (lv' := [(0, .ref 21), (1, .ref a1), (2, iv p2), (3, iv p3), (4, iv p4), (5, iv (z1989 + 1))]) (List.forall_mem_cons.mpr ⟨rfl, List.forall_mem_cons.mpr ⟨rfl, List.forall_mem_cons.mpr ⟨rfl, List.forall_mem_cons.mpr ⟨rfl, List.forall_mem_cons.mpr ⟨rfl, List.forall_mem_cons.mpr ⟨rfl, fun _ h => absurd h List.not_mem_nil⟩⟩⟩⟩⟩⟩) ?_
          exact ih2000 (z1989 + 1) μ2019 T2021 (mF.up (mF.call mF.refl F1994 rfl) (A_21 hw) u2020 rfl) (rW (c := 0) (d := 1000) (rAdd (e := 1) (f := 1000) h2002 (rR (x := 1)) rfl) rfl) (PC.keep I1996 hw ((mF.up mF.refl (A_21 hw) u2020 rfl) : mF [21006] w μ1990 μ2019) rfl) (RT.keep I1997 hw ((mF.up mF.refl (A_21 hw) u2020 rfl) : mF [21006] w μ1990 μ2019) rfl) (vc_X1_doActs_W12_13 (nS h1998) h2001 h4 h3 hp2 h2003 h2002) (((W2051.2 h2050).2 h2053).1 h2055)
        by_cases h2057 : z2022 = 21
        · refine mr_tableIn (pc := 62) (v := 21) (tgt := 260) dX1_doActs_62 h2057 rfl rfl (by decide) ?_
          have h2058 : 21 ≤ z2022 ∧ z2022 ≤ 21 := (vc_X1_doActs_W12_22 h2057 h2042 h2044 h2046 h2048 h2050 h2053 h2055 h2024)
          refine mr_iinc (pc := 260) (lv' := [(5, iv (z1989 + 1)), (6, iv z2010), (0, .ref 21), (1, .ref a1), (2, iv p2), (3, iv p3), (4, iv p4)]) dX1_doActs_260 rfl (by decide) rfl ?_
          refine sv_goto (pc := 263) (tgt := 3) dX1_doActs_263 (by decide) ?_
          refine mr_lvS (lv' := [(0, .ref 21), (1, .ref a1), (2, iv p2), (3, iv p3), (4, iv p4), (5, iv (z1989 + 1))]) (List.forall_mem_cons.mpr ⟨rfl, List.forall_mem_cons.mpr ⟨rfl, List.forall_mem_cons.mpr ⟨rfl, List.forall_mem_cons.mpr ⟨rfl, List.forall_mem_cons.mpr ⟨rfl, List.forall_mem_cons.mpr ⟨rfl, fun _ h => absurd h List.not_mem_nil⟩⟩⟩⟩⟩⟩) ?_
          exact ih2000 (z1989 + 1) μ2019 T2021 (mF.up (mF.call mF.refl F1994 rfl) (A_21 hw) u2020 rfl) (rW (c := 0) (d := 1000) (rAdd (e := 1) (f := 1000) h2002 (rR (x := 1)) rfl) rfl) (PC.keep I1996 hw ((mF.up mF.refl (A_21 hw) u2020 rfl) : mF [21006] w μ1990 μ2019) rfl) (RT.keep I1997 hw ((mF.up mF.refl (A_21 hw) u2020 rfl) : mF [21006] w μ1990 μ2019) rfl) (vc_X1_doActs_W12_13 (nS h1998) h2001 h4 h3 hp2 h2003 h2002) ((((W2051.2 h2050).2 h2053).2 h2055).1 h2057)
        by_cases h2059 : z2022 = 22
        · refine mr_tableIn (pc := 62) (v := 22) (tgt := 260) dX1_doActs_62 h2059 rfl rfl (by decide) ?_
          have h2060 : 22 ≤ z2022 ∧ z2022 ≤ 22 := (vc_X1_doActs_W12_23 h2059 h2044 h2046 h2048 h2050 h2053 h2055 h2057 h2024)
          refine mr_iinc (pc := 260) (lv' := [(5, iv (z1989 + 1)), (6, iv z2010), (0, .ref 21), (1, .ref a1), (2, iv p2), (3, iv p3), (4, iv p4)]) dX1_doActs_260 rfl (by decide) rfl ?_
          refine sv_goto (pc := 263) (tgt := 3) dX1_doActs_263 (by decide) ?_
          refine mr_lvS (lv' := [(0, .ref 21), (1, .ref a1), (2, iv p2), (3, iv p3), (4, iv p4), (5, iv (z1989 + 1))]) (List.forall_mem_cons.mpr ⟨rfl, List.forall_mem_cons.mpr ⟨rfl, List.forall_mem_cons.mpr ⟨rfl, List.forall_mem_cons.mpr ⟨rfl, List.forall_mem_cons.mpr ⟨rfl, List.forall_mem_cons.mpr ⟨rfl, fun _ h => absurd h List.not_mem_nil⟩⟩⟩⟩⟩⟩) ?_
          exact ih2000 (z1989 + 1) μ2019 T2021 (mF.up (mF.call mF.refl F1994 rfl) (A_21 hw) u2020 rfl) (rW (c := 0) (d := 1000) (rAdd (e := 1) (f := 1000) h2002 (rR (x := 1)) rfl) rfl) (PC.keep I1996 hw ((mF.up mF.refl (A_21 hw) u2020 rfl) : mF [21006] w μ1990 μ2019) rfl) (RT.keep I1997 hw ((mF.up mF.refl (A_21 hw) u2020 rfl) : mF [21006] w μ1990 μ2019) rfl) (vc_X1_doActs_W12_13 (nS h1998) h2001 h4 h3 hp2 h2003 h2002) (((((W2051.2 h2050).2 h2053).2 h2055).2 h2057).1 h2059)
        by_cases h2061 : z2022 = 23
        · refine mr_tableIn (pc := 62) (v := 23) (tgt := 144) dX1_doActs_62 h2061 rfl rfl (by decide) ?_
          have h2062 : 23 ≤ z2022 ∧ z2022 ≤ 23 := (vc_X1_doActs_W12_24 h2061 h2046 h2048 h2050 h2053 h2055 h2057 h2059 h2024)
          refine sv_aload_n (pc := 144) dX1_doActs_144 rfl rfl ?_
          refine mr_iconst (pc := 145) (z := 1) dX1_doActs_145 ?_
          refine pf_X1_7 (pc := 146) dX1_doActs_146 wF_X1_50 (A_21 hw) T2021 (rW (c := 0) (d := 2) (rR (x := 1)) rfl) fun μ2063 u2064 T2065 => ?_
          refine sv_goto (pc := 149) (tgt := 260) dX1_doActs_149 (by decide) ?_
          refine mr_iinc (pc := 260) (lv' := [(5, iv (z1989 + 1)), (6, iv z2010), (0, .ref 21), (1, .ref a1), (2, iv p2), (3, iv p3), (4, iv p4)]) dX1_doActs_260 rfl (by decide) rfl ?_
          refine sv_goto (pc := 263) (tgt := 3) dX1_doActs_263 (by decide) ?_
          refine mr_lvS (lv' := [(0, .ref 21), (1, .ref a1), (2, iv p2), (3, iv p3), (4, iv p4), (5, iv (z1989 + 1))]) (List.forall_mem_cons.mpr ⟨rfl, List.forall_mem_cons.mpr ⟨rfl, List.forall_mem_cons.mpr ⟨rfl, List.forall_mem_cons.mpr ⟨rfl, List.forall_mem_cons.mpr ⟨rfl, List.forall_mem_cons.mpr ⟨rfl, fun _ h => absurd h List.not_mem_nil⟩⟩⟩⟩⟩⟩) ?_
          exact ih2000 (z1989 + 1) μ2063 T2065 (mF.up (mF.up (mF.call mF.refl F1994 rfl) (A_21 hw) u2020 rfl) (A_21 hw) u2064 rfl) (rW (c := 0) (d := 1000) (rAdd (e := 1) (f := 1000) h2002 (rR (x := 1)) rfl) rfl) (PC.keep I1996 hw ((mF.up (mF.up mF.refl (A_21 hw) u2020 rfl) (A_21 hw) u2064 rfl) : mF [21006, 21007] w μ1990 μ2063) rfl) (RT.keep I1997 hw ((mF.up (mF.up mF.refl (A_21 hw) u2020 rfl) (A_21 hw) u2064 rfl) : mF [21006, 21007] w μ1990 μ2063) rfl) (vc_X1_doActs_W12_13 (nS h1998) h2001 h4 h3 hp2 h2003 h2002) (((((((W2051.2 h2050).2 h2053).2 h2055).2 h2057).2 h2059).1 h2061) μ2063 u2064 T2065)
        have W2067 := ((((((W2051.2 h2050).2 h2053).2 h2055).2 h2057).2 h2059).2 h2061)
        by_cases h2066 : z2022 = 24
        · refine mr_tableIn (pc := 62) (v := 24) (tgt := 152) dX1_doActs_62 h2066 rfl rfl (by decide) ?_
          have h2068 : 24 ≤ z2022 ∧ z2022 ≤ 24 := (vc_X1_doActs_W12_25 h2066 h2048 h2050 h2053 h2055 h2057 h2059 h2061 h2024)
          refine sv_aload_n (pc := 152) dX1_doActs_152 rfl rfl ?_
          refine mr_iconst (pc := 153) (z := 2) dX1_doActs_153 ?_
          refine pf_X1_7 (pc := 154) dX1_doActs_154 wF_X1_50 (A_21 hw) T2021 (rW (c := 0) (d := 2) (rR (x := 2)) rfl) fun μ2069 u2070 T2071 => ?_
          refine sv_goto (pc := 157) (tgt := 260) dX1_doActs_157 (by decide) ?_
          refine mr_iinc (pc := 260) (lv' := [(5, iv (z1989 + 1)), (6, iv z2010), (0, .ref 21), (1, .ref a1), (2, iv p2), (3, iv p3), (4, iv p4)]) dX1_doActs_260 rfl (by decide) rfl ?_
          refine sv_goto (pc := 263) (tgt := 3) dX1_doActs_263 (by decide) ?_
          refine mr_lvS (lv' := [(0, .ref 21), (1, .ref a1), (2, iv p2), (3, iv p3), (4, iv p4), (5, iv (z1989 + 1))]) (List.forall_mem_cons.mpr ⟨rfl, List.forall_mem_cons.mpr ⟨rfl, List.forall_mem_cons.mpr ⟨rfl, List.forall_mem_cons.mpr ⟨rfl, List.forall_mem_cons.mpr ⟨rfl, List.forall_mem_cons.mpr ⟨rfl, fun _ h => absurd h List.not_mem_nil⟩⟩⟩⟩⟩⟩) ?_
          exact ih2000 (z1989 + 1) μ2069 T2071 (mF.up (mF.up (mF.call mF.refl F1994 rfl) (A_21 hw) u2020 rfl) (A_21 hw) u2070 rfl) (rW (c := 0) (d := 1000) (rAdd (e := 1) (f := 1000) h2002 (rR (x := 1)) rfl) rfl) (PC.keep I1996 hw ((mF.up (mF.up mF.refl (A_21 hw) u2020 rfl) (A_21 hw) u2070 rfl) : mF [21006, 21007] w μ1990 μ2069) rfl) (RT.keep I1997 hw ((mF.up (mF.up mF.refl (A_21 hw) u2020 rfl) (A_21 hw) u2070 rfl) : mF [21006, 21007] w μ1990 μ2069) rfl) (vc_X1_doActs_W12_13 (nS h1998) h2001 h4 h3 hp2 h2003 h2002) ((W2067.1 h2066) μ2069 u2070 T2071)
        by_cases h2072 : z2022 = 25
        · refine mr_tableIn (pc := 62) (v := 25) (tgt := 160) dX1_doActs_62 h2072 rfl rfl (by decide) ?_
          have h2073 : 25 ≤ z2022 ∧ z2022 ≤ 25 := (vc_X1_doActs_W12_26 h2072 h2050 h2053 h2055 h2057 h2059 h2061 h2066 h2024)
          refine sv_aload_n (pc := 160) dX1_doActs_160 rfl rfl ?_
          refine gf_X1_2 (pc := 161) dX1_doActs_161 wF_X1_25 (A_21 hw) T2021 (RT.keep I1997 hw ((mF.up mF.refl (A_21 hw) u2020 rfl) : mF [21006] w μ1990 μ2019) rfl) fun b2074 q2075 A2076 => ?_
          refine mr_iload (pc := 164) (z := z2010) dX1_doActs_164 rfl ?_
          refine mr_cVV (pc := 166) (c_X7_addMark_W hw T2021 A2076 (rW (c := (-2147483648)) (d := 2147483647) h2013 rfl) (((W2067.2 h2066).1 h2072) b2074 q2075 A2076)) (gOk _ _ _ _ _) dX1_doActs_166 (tX7_addMark _ _ _ _ _) ⟨wV_X7_addMark, wL_X7_addMark⟩ wM_X1_124 (gCX7 _ _ _ _ _) rfl A2076 rfl ⟨le_t rfl, le_t rfl⟩ ⟨le_t rfl, le_t rfl⟩ rfl (le_t rfl) fun μ2077 T2078 F2079 h2080 => ?_
          refine sv_goto (pc := 169) (tgt := 260) dX1_doActs_169 (by decide) ?_
          refine mr_iinc (pc := 260) (lv' := [(5, iv (z1989 + 1)), (6, iv z2010), (0, .ref 21), (1, .ref a1), (2, iv p2), (3, iv p3), (4, iv p4)]) dX1_doActs_260 rfl (by decide) rfl ?_
          refine sv_goto (pc := 263) (tgt := 3) dX1_doActs_263 (by decide) ?_
          refine mr_lvS (lv' := [(0, .ref 21), (1, .ref a1), (2, iv p2), (3, iv p3), (4, iv p4), (5, iv (z1989 + 1))]) (List.forall_mem_cons.mpr ⟨rfl, List.forall_mem_cons.mpr ⟨rfl, List.forall_mem_cons.mpr ⟨rfl, List.forall_mem_cons.mpr ⟨rfl, List.forall_mem_cons.mpr ⟨rfl, List.forall_mem_cons.mpr ⟨rfl, fun _ h => absurd h List.not_mem_nil⟩⟩⟩⟩⟩⟩) ?_
          exact ih2000 (z1989 + 1) μ2077 T2078 (mF.call (mF.up (mF.call mF.refl F1994 rfl) (A_21 hw) u2020 rfl) F2079 rfl) (rW (c := 0) (d := 1000) (rAdd (e := 1) (f := 1000) h2002 (rR (x := 1)) rfl) rfl) (PC.keep I1996 hw ((mF.call (mF.up mF.refl (A_21 hw) u2020 rfl) F2079 rfl) : mF [21006, 200008, 202999] w μ1990 μ2077) rfl) (RT.keep I1997 hw ((mF.call (mF.up mF.refl (A_21 hw) u2020 rfl) F2079 rfl) : mF [21006, 200008, 202999] w μ1990 μ2077) rfl) (vc_X1_doActs_W12_13 (nS h1998) h2001 h4 h3 hp2 h2003 h2002) (h2080.1 T2078 F2079)
        by_cases h2081 : z2022 = 26
        · refine mr_tableIn (pc := 62) (v := 26) (tgt := 172) dX1_doActs_62 h2081 rfl rfl (by decide) ?_
          have h2082 : 26 ≤ z2022 ∧ z2022 ≤ 26 := (vc_X1_doActs_W12_27 h2081 h2053 h2055 h2057 h2059 h2061 h2066 h2072 h2024)
          refine sv_aload_n (pc := 172) dX1_doActs_172 rfl rfl ?_
          refine gf_X1_2 (pc := 173) dX1_doActs_173 wF_X1_25 (A_21 hw) T2021 (RT.keep I1997 hw ((mF.up mF.refl (A_21 hw) u2020 rfl) : mF [21006] w μ1990 μ2019) rfl) fun b2083 q2084 A2085 => ?_
          refine mr_iload (pc := 176) (z := z2010) dX1_doActs_176 rfl ?_
          refine mr_cVV (pc := 178) (c_X7_dropMark_W hw T2021 A2085 (rW (c := (-2147483648)) (d := 2147483647) h2013 rfl) ((((W2067.2 h2066).2 h2072).1 h2081) b2083 q2084 A2085)) (gOk _ _ _ _ _) dX1_doActs_178 (tX7_dropMark _ _ _ _ _) ⟨wV_X7_dropMark, wL_X7_dropMark⟩ wM_X1_128 (gCX7 _ _ _ _ _) rfl A2085 rfl ⟨le_t rfl, le_t rfl⟩ ⟨le_t rfl, le_t rfl⟩ rfl (le_t rfl) fun μ2086 T2087 F2088 h2089 => ?_
          refine sv_goto (pc := 181) (tgt := 260) dX1_doActs_181 (by decide) ?_
          refine mr_iinc (pc := 260) (lv' := [(5, iv (z1989 + 1)), (6, iv z2010), (0, .ref 21), (1, .ref a1), (2, iv p2), (3, iv p3), (4, iv p4)]) dX1_doActs_260 rfl (by decide) rfl ?_
          refine sv_goto (pc := 263) (tgt := 3) dX1_doActs_263 (by decide) ?_
          refine mr_lvS (lv' := [(0, .ref 21), (1, .ref a1), (2, iv p2), (3, iv p3), (4, iv p4), (5, iv (z1989 + 1))]) (List.forall_mem_cons.mpr ⟨rfl, List.forall_mem_cons.mpr ⟨rfl, List.forall_mem_cons.mpr ⟨rfl, List.forall_mem_cons.mpr ⟨rfl, List.forall_mem_cons.mpr ⟨rfl, List.forall_mem_cons.mpr ⟨rfl, fun _ h => absurd h List.not_mem_nil⟩⟩⟩⟩⟩⟩) ?_
          exact ih2000 (z1989 + 1) μ2086 T2087 (mF.call (mF.up (mF.call mF.refl F1994 rfl) (A_21 hw) u2020 rfl) F2088 rfl) (rW (c := 0) (d := 1000) (rAdd (e := 1) (f := 1000) h2002 (rR (x := 1)) rfl) rfl) (PC.keep I1996 hw ((mF.call (mF.up mF.refl (A_21 hw) u2020 rfl) F2088 rfl) : mF [21006, 200008, 202999] w μ1990 μ2086) rfl) (RT.keep I1997 hw ((mF.call (mF.up mF.refl (A_21 hw) u2020 rfl) F2088 rfl) : mF [21006, 200008, 202999] w μ1990 μ2086) rfl) (vc_X1_doActs_W12_13 (nS h1998) h2001 h4 h3 hp2 h2003 h2002) (h2089.1 T2087 F2088)
        by_cases h2090 : z2022 = 27
        · refine mr_tableIn (pc := 62) (v := 27) (tgt := 208) dX1_doActs_62 h2090 rfl rfl (by decide) ?_
          have h2091 : 27 ≤ z2022 ∧ z2022 ≤ 27 := (vc_X1_doActs_W12_28 h2090 h2055 h2057 h2059 h2061 h2066 h2072 h2081 h2024)
          refine sv_aload_n (pc := 208) dX1_doActs_208 rfl rfl ?_
          refine gf_X1_2 (pc := 209) dX1_doActs_209 wF_X1_25 (A_21 hw) T2021 (RT.keep I1997 hw ((mF.up mF.refl (A_21 hw) u2020 rfl) : mF [21006] w μ1990 μ2019) rfl) fun b2092 q2093 A2094 => ?_
          refine gf_X7_7 (pc := 212) dX1_doActs_212 wF_X1_96 A2094 T2021 fun z2095 q2096 h2097 => ?_
          have J2120 : ∀ (μ2114 : mM), (mT w μ2114) → (mF [21007, 200007, 201999] w μ2019 μ2114) → (PC w μ2114) → (RT μ2114) → ((WJ_X1_doActs_W1_2 w (loopF (WL_X1_doActs_W1_1 w μ a1 p2 p3 p4 Q) False nL1991) z1989 μ2019) μ2114) → sV (gG l D c H0 sa) mX1_doActs (sRm 26 0 0) (sZ (gG l D c H0 sa) 0 0 (qV w [21006, 21007, 200004, 200006, 200007, 200008, 201999, 202999] μ (fun μ1 => Q μ1 ∧ True))) 260 [(0, .ref 21), (1, .ref a1), (2, iv p2), (3, iv p3), (4, iv p4), (5, iv z1989)] [] (mk w μ2114) 0 0 := by
            intro μ2114 T2115 F2116 I2118 I2119 W2121
            refine mr_iinc (pc := 260) (lv' := [(5, iv (z1989 + 1)), (0, .ref 21), (1, .ref a1), (2, iv p2), (3, iv p3), (4, iv p4)]) dX1_doActs_260 rfl (by decide) rfl ?_
            refine sv_goto (pc := 263) (tgt := 3) dX1_doActs_263 (by decide) ?_
            refine mr_lvS (lv' := [(0, .ref 21), (1, .ref a1), (2, iv p2), (3, iv p3), (4, iv p4), (5, iv (z1989 + 1))]) (List.forall_mem_cons.mpr ⟨rfl, List.forall_mem_cons.mpr ⟨rfl, List.forall_mem_cons.mpr ⟨rfl, List.forall_mem_cons.mpr ⟨rfl, List.forall_mem_cons.mpr ⟨rfl, List.forall_mem_cons.mpr ⟨rfl, fun _ h => absurd h List.not_mem_nil⟩⟩⟩⟩⟩⟩) ?_
            exact ih2000 (z1989 + 1) μ2114 T2115 (mF.call (mF.up (mF.call mF.refl F1994 rfl) (A_21 hw) u2020 rfl) F2116 rfl) (rW (c := 0) (d := 1000) (rAdd (e := 1) (f := 1000) h2002 (rR (x := 1)) rfl) rfl) I2118 I2119 (vc_X1_doActs_W12_13 (nS h1998) h2001 h4 h3 hp2 h2003 h2002) (W2121 T2115 F2116)
          refine mr_if_le (pc := 215) (tgt := 260) dX1_doActs_215 (by decide) (r32 h2097 rfl) (fun h2122 => ?_) (fun h2122 => ?_)
          · have h2123 : 0 ≤ z2095 ∧ z2095 ≤ 0 := (vc_X12_write_57 h2122 h2097)
            refine mr_lvS (lv' := [(0, .ref 21), (1, .ref a1), (2, iv p2), (3, iv p3), (4, iv p4), (5, iv z1989)]) (List.forall_mem_cons.mpr ⟨rfl, List.forall_mem_cons.mpr ⟨rfl, List.forall_mem_cons.mpr ⟨rfl, List.forall_mem_cons.mpr ⟨rfl, List.forall_mem_cons.mpr ⟨rfl, List.forall_mem_cons.mpr ⟨rfl, fun _ h => absurd h List.not_mem_nil⟩⟩⟩⟩⟩⟩) ?_
            exact J2120 μ2019 T2021 mF.refl (PC.keep I1996 hw ((mF.up mF.refl (A_21 hw) u2020 rfl) : mF [21006] w μ1990 μ2019) rfl) (RT.keep I1997 hw ((mF.up mF.refl (A_21 hw) u2020 rfl) : mF [21006] w μ1990 μ2019) rfl) (((((((W2067.2 h2066).2 h2072).2 h2081).1 h2090) b2092 q2093 A2094) z2095 q2096 h2097).1 h2122)
          have h2124 : 1 ≤ z2095 ∧ z2095 ≤ 20 := (vc_X12_write_59 h2122 h2097)
          refine sv_aload_n (pc := 218) dX1_doActs_218 rfl rfl ?_
          refine gk_X1_2 (pc := 219) dX1_doActs_219 wF_X1_25 (A_21 hw) q2093 ?_
          refine sv_aload_n (pc := 222) dX1_doActs_222 rfl rfl ?_
          refine gk_X1_2 (pc := 223) dX1_doActs_223 wF_X1_25 (A_21 hw) q2093 ?_
          refine gf_X7_0 (pc := 226) dX1_doActs_226 wF_X1_114 A2094 T2021 fun A2125 => ?_
          refine mr_iconst (pc := 229) (z := 0) dX1_doActs_229 ?_
          refine la_201 (pc := 230) dX1_doActs_230 A2125 T2021 (rIx (n := 20) (rR (x := 0)) rfl) fun z2126 q2127 h2128 => ?_
          refine mr_iload (pc := 231) (z := z2010) dX1_doActs_231 rfl ?_
          have W2134 := ((((((((W2067.2 h2066).2 h2072).2 h2081).1 h2090) b2092 q2093 A2094) z2095 q2096 h2097).2 h2122) z2126 q2127 h2128)
          refine mr_cVI (pc := 233) (c_X7_putInFront_W hw T2021 A2094 h2128 (rW (c := (-2147483648)) (d := 1000000) h2013 rfl) W2134) (gOk _ _ _ _ _) dX1_doActs_233 (tX7_putInFront _ _ _ _ _) ⟨wV_X7_putInFront, wL_X7_putInFront⟩ wM_X1_131 (gCX7 _ _ _ _ _) rfl A2094 rfl ⟨le_t rfl, le_t rfl⟩ ⟨le_t rfl, le_t rfl⟩ rfl (le_t rfl) fun z2133 μ2129 T2130 F2131 h2132 => ?_
          refine mr_if_ne (pc := 236) (tgt := 260) dX1_doActs_236 (by decide) (r32 h2132.1 rfl) (fun h2135 => ?_) (fun h2135 => ?_)
          · have h2136 : 1 ≤ z2133 ∧ z2133 ≤ 1 := (vc_X12_ring_24 h2135 h2132.1)
            refine mr_lvS (lv' := [(0, .ref 21), (1, .ref a1), (2, iv p2), (3, iv p3), (4, iv p4), (5, iv z1989)]) (List.forall_mem_cons.mpr ⟨rfl, List.forall_mem_cons.mpr ⟨rfl, List.forall_mem_cons.mpr ⟨rfl, List.forall_mem_cons.mpr ⟨rfl, List.forall_mem_cons.mpr ⟨rfl, List.forall_mem_cons.mpr ⟨rfl, fun _ h => absurd h List.not_mem_nil⟩⟩⟩⟩⟩⟩) ?_
            exact J2120 μ2129 T2130 (mF.call mF.refl F2131 rfl) (PC.keep I1996 hw ((mF.call (mF.up mF.refl (A_21 hw) u2020 rfl) F2131 rfl) : mF [21006, 200007, 201999] w μ1990 μ2129) rfl) (RT.keep I1997 hw ((mF.call (mF.up mF.refl (A_21 hw) u2020 rfl) F2131 rfl) : mF [21006, 200007, 201999] w μ1990 μ2129) rfl) (((h2132.2.1 T2130 F2131) h2132.1).1 h2135)
          have h2137 : 0 ≤ z2133 ∧ z2133 ≤ 0 := (vc_X12_ring_22 h2135 h2132.1)
          refine sv_aload_n (pc := 239) dX1_doActs_239 rfl rfl ?_
          refine mr_iconst (pc := 240) (z := 2) dX1_doActs_240 ?_
          refine pf_X1_7 (pc := 241) dX1_doActs_241 wF_X1_50 (A_21 hw) T2130 (rW (c := 0) (d := 2) (rR (x := 2)) rfl) fun μ2138 u2139 T2140 => ?_
          refine sv_goto (pc := 244) (tgt := 260) dX1_doActs_244 (by decide) ?_
          refine mr_lvS (lv' := [(0, .ref 21), (1, .ref a1), (2, iv p2), (3, iv p3), (4, iv p4), (5, iv z1989)]) (List.forall_mem_cons.mpr ⟨rfl, List.forall_mem_cons.mpr ⟨rfl, List.forall_mem_cons.mpr ⟨rfl, List.forall_mem_cons.mpr ⟨rfl, List.forall_mem_cons.mpr ⟨rfl, List.forall_mem_cons.mpr ⟨rfl, fun _ h => absurd h List.not_mem_nil⟩⟩⟩⟩⟩⟩) ?_
          exact J2120 μ2138 T2140 (mF.up (mF.call mF.refl F2131 rfl) (A_21 hw) u2139 rfl) (PC.keep I1996 hw ((mF.up (mF.call (mF.up mF.refl (A_21 hw) u2020 rfl) F2131 rfl) (A_21 hw) u2139 rfl) : mF [21006, 21007, 200007, 201999] w μ1990 μ2138) rfl) (RT.keep I1997 hw ((mF.up (mF.call (mF.up mF.refl (A_21 hw) u2020 rfl) F2131 rfl) (A_21 hw) u2139 rfl) : mF [21006, 21007, 200007, 201999] w μ1990 μ2138) rfl) ((((h2132.2.1 T2130 F2131) h2132.1).2 h2135) μ2138 u2139 T2140)
        by_cases h2141 : z2022 = 28
        · refine mr_tableIn (pc := 62) (v := 28) (tgt := 247) dX1_doActs_62 h2141 rfl rfl (by decide) ?_
          have h2142 : 28 ≤ z2022 ∧ z2022 ≤ 28 := (vc_X1_doActs_W12_33 h2141 h2057 h2059 h2061 h2066 h2072 h2081 h2090 h2024)
          refine sv_aload_n (pc := 247) dX1_doActs_247 rfl rfl ?_
          refine mr_iload (pc := 248) (z := z2010) dX1_doActs_248 rfl ?_
          refine mr_iload (pc := 250) (z := p4) dX1_doActs_250 rfl ?_
          refine mr_iconst (pc := 252) (z := 1) dX1_doActs_252 ?_
          refine mr_iadd (pc := 253) (x := p4) (y := 1) dX1_doActs_253 ?_
          refine mr_cVV (pc := 254) (c_X1_goThrough_W2 hw T2021 (rW (c := (-2147483648)) (d := 2147483647) h2013 rfl) (rAdd (e := 2) (f := 2) hp4 (rR (x := 1)) rfl) (PC.keep I1996 hw ((mF.up mF.refl (A_21 hw) u2020 rfl) : mF [21006] w μ1990 μ2019) rfl) (RT.keep I1997 hw ((mF.up mF.refl (A_21 hw) u2020 rfl) : mF [21006] w μ1990 μ2019) rfl) (((((W2067.2 h2066).2 h2072).2 h2081).2 h2090).1 h2141)) (gOk _ _ _ _ _) dX1_doActs_254 (tX1_goThrough _ _ _ _ _) ⟨wV_X1_goThrough, wL_X1_goThrough⟩ wM_X1_53 (gCX1 _ _ _ _ _) rfl (A_21 hw) rfl ⟨le_t rfl, le_t rfl⟩ ⟨le_t rfl, le_t rfl⟩ rfl (le_t rfl) fun μ2143 T2144 F2145 h2146 => ?_
          refine sv_goto (pc := 257) (tgt := 260) dX1_doActs_257 (by decide) ?_
          refine mr_iinc (pc := 260) (lv' := [(5, iv (z1989 + 1)), (6, iv z2010), (0, .ref 21), (1, .ref a1), (2, iv p2), (3, iv p3), (4, iv p4)]) dX1_doActs_260 rfl (by decide) rfl ?_
          refine sv_goto (pc := 263) (tgt := 3) dX1_doActs_263 (by decide) ?_
          refine mr_lvS (lv' := [(0, .ref 21), (1, .ref a1), (2, iv p2), (3, iv p3), (4, iv p4), (5, iv (z1989 + 1))]) (List.forall_mem_cons.mpr ⟨rfl, List.forall_mem_cons.mpr ⟨rfl, List.forall_mem_cons.mpr ⟨rfl, List.forall_mem_cons.mpr ⟨rfl, List.forall_mem_cons.mpr ⟨rfl, List.forall_mem_cons.mpr ⟨rfl, fun _ h => absurd h List.not_mem_nil⟩⟩⟩⟩⟩⟩) ?_
          exact ih2000 (z1989 + 1) μ2143 T2144 (mF.call (mF.up (mF.call mF.refl F1994 rfl) (A_21 hw) u2020 rfl) F2145 rfl) (rW (c := 0) (d := 1000) (rAdd (e := 1) (f := 1000) h2002 (rR (x := 1)) rfl) rfl) (PC.keep I1996 hw ((mF.call (mF.up mF.refl (A_21 hw) u2020 rfl) F2145 rfl) : mF [21006, 21007, 200004, 200006, 200007, 200008, 201999, 202999] w μ1990 μ2143) rfl) (RT.keep I1997 hw ((mF.call (mF.up mF.refl (A_21 hw) u2020 rfl) F2145 rfl) : mF [21006, 21007, 200004, 200006, 200007, 200008, 201999, 202999] w μ1990 μ2143) rfl) (vc_X1_doActs_W12_13 (nS h1998) h2001 h4 h3 hp2 h2003 h2002) (h2146.1 T2144 F2145)
        refine mr_tableOut (pc := 62) (tgt := 260) dX1_doActs_62 h2024 (vc_X1_doActs_W12_34 h2025 h2034 h2042 h2044 h2046 h2048 h2050 h2053 h2055 h2057 h2059 h2061 h2066 h2072 h2081 h2090 h2141 h2024) (by decide) ?_
        refine mr_iinc (pc := 260) (lv' := [(5, iv (z1989 + 1)), (6, iv z2010), (0, .ref 21), (1, .ref a1), (2, iv p2), (3, iv p3), (4, iv p4)]) dX1_doActs_260 rfl (by decide) rfl ?_
        refine sv_goto (pc := 263) (tgt := 3) dX1_doActs_263 (by decide) ?_
        refine mr_lvS (lv' := [(0, .ref 21), (1, .ref a1), (2, iv p2), (3, iv p3), (4, iv p4), (5, iv (z1989 + 1))]) (List.forall_mem_cons.mpr ⟨rfl, List.forall_mem_cons.mpr ⟨rfl, List.forall_mem_cons.mpr ⟨rfl, List.forall_mem_cons.mpr ⟨rfl, List.forall_mem_cons.mpr ⟨rfl, List.forall_mem_cons.mpr ⟨rfl, fun _ h => absurd h List.not_mem_nil⟩⟩⟩⟩⟩⟩) ?_
        exact ih2000 (z1989 + 1) μ2019 T2021 (mF.up (mF.call mF.refl F1994 rfl) (A_21 hw) u2020 rfl) (rW (c := 0) (d := 1000) (rAdd (e := 1) (f := 1000) h2002 (rR (x := 1)) rfl) rfl) (PC.keep I1996 hw ((mF.up mF.refl (A_21 hw) u2020 rfl) : mF [21006] w μ1990 μ2019) rfl) (RT.keep I1997 hw ((mF.up mF.refl (A_21 hw) u2020 rfl) : mF [21006] w μ1990 μ2019) rfl) (vc_X1_doActs_W12_13 (nS h1998) h2001 h4 h3 hp2 h2003 h2002) (((((W2067.2 h2066).2 h2072).2 h2081).2 h2090).2 h2141)
      have h2147 : 500 ≤ z2014 ∧ z2014 ≤ 500 := (vc_X1_doActs_W12_35 h2017 h2016)
      refine sv_aload_n (pc := 38) dX1_doActs_38 rfl rfl ?_
      refine mr_iconst (pc := 39) (z := 2) dX1_doActs_39 ?_
      refine pf_X1_7 (pc := 40) dX1_doActs_40 wF_X1_50 (A_21 hw) T1993 (rW (c := 0) (d := 2) (rR (x := 2)) rfl) fun μ2148 u2149 T2150 => ?_
      exact mr_vret dX1_doActs_43 rfl (le_t rfl) (le_t rfl) T2150 (mF.up (mF.call mF.refl F1994 rfl) (A_21 hw) u2149 rfl) ⟨((((((((W1999 z1989 μ1990 rfl h1992 T1993 F1994).2 h2001) z2004 q2005 h2006).2 h2007) z2010 q2011 h2012) z2014 q2015 h2016).2 h2017) μ2148 u2149 T2150), trivial⟩
  refine mr_lvS (lv' := [(0, .ref 21), (1, .ref a1), (2, iv p2), (3, iv p3), (4, iv p4), (5, iv 0)]) (List.forall_mem_cons.mpr ⟨rfl, List.forall_mem_cons.mpr ⟨rfl, List.forall_mem_cons.mpr ⟨rfl, List.forall_mem_cons.mpr ⟨rfl, List.forall_mem_cons.mpr ⟨rfl, List.forall_mem_cons.mpr ⟨rfl, fun _ h => absurd h List.not_mem_nil⟩⟩⟩⟩⟩⟩) ?_
  exact L1991 1002 0 μ hT mF.refl (rW (c := 0) (d := 1000) (rR (x := 0)) rfl) hIPC hIRT vc_X6_split_v_102 (hQ n_1 q2 h3)
def WJ_X1_goThrough_W1_3 (w : mW) (p2 : Int) (c13 : Nat) (rec1 : (Int × Int × mM) → Prop) (z1190 : Int) (z1189 : Int) (μ1191 : mM) (z1340 : Int) (z1343 : Int) (z1468 : Int) : Prop := ((z1468 = 0) → rec1 ((((z1190 + 2) + (z1340 * 5)) + (z1343 * 2)), (z1189 + 1), μ1191)) ∧ ((¬ z1468 = 0) → WP_X1_doActs_W1 w μ1191 c13 ((z1190 + 2) + (z1340 * 5)) z1343 p2 (fun μ1505 => mT w μ1505 → mF [21006, 21007, 200004, 200006, 200007, 200008, 201999, 202999] w μ1191 μ1505 → rec1 ((((z1190 + 2) + (z1340 * 5)) + (z1343 * 2)), (z1189 + 1), μ1505)))
def WL_X1_goThrough_W1_2 (w : mW) (p2 : Int) (b10 : Nat) (c13 : Nat) (rec1 : (Int × Int × mM) → Prop) (z1190 : Int) (z1189 : Int) (μ1191 : mM) (z1340 : Int) (z1343 : Int) (rec2 : (Int × Int) → Prop) (s : (Int × Int)) : Prop := ∀ z1468 : Int, ∀ z1467 : Int, s = (z1468, z1467) → (0 ≤ z1468 ∧ z1468 ≤ 1) → (2 ≤ z1467 ∧ z1467 ≤ 2010) → ((((z1190 + 2) + (z1340 * 5)) ≤ z1467) → (WJ_X1_goThrough_W1_3 w p2 c13 rec1 z1190 z1189 μ1191 z1340 z1343 z1468) ) ∧ ((z1467 < ((z1190 + 2) + (z1340 * 5))) → ((z1468 = 0) → (WJ_X1_goThrough_W1_3 w p2 c13 rec1 z1190 z1189 μ1191 z1340 z1343 z1468) ) ∧ ((¬ z1468 = 0) → WP_X1_isSo_W w μ1191 b10 z1467 (fun z1517 _ => (0 ≤ z1517 ∧ z1517 ≤ 1) → ∀ z1518 : Int, μ1191 c13 ((z1467 + 1).toNat) = z1518 → ((-2147483648) ≤ z1518 ∧ z1518 ≤ 2147483647) → ((¬ z1518 = 1) → ((z1517 = 0) → rec2 ((0 : Int), (z1467 + 5))) ∧ ((¬ z1517 = 0) → rec2 ((1 : Int), (z1467 + 5)))) ∧ ((z1518 = 1) → ((z1517 = 1) → rec2 ((0 : Int), (z1467 + 5))) ∧ ((¬ z1517 = 1) → rec2 ((1 : Int), (z1467 + 5)))))))
def WL_X1_goThrough_W1_1 (w : mW) (μ : mM) (p2 : Int) (Q : mM → Prop) (b10 : Nat) (c13 : Nat) (z14 : Int) (rec1 : (Int × Int × mM) → Prop) (s : (Int × Int × mM)) : Prop := ∀ z1190 : Int, ∀ z1189 : Int, ∀ μ1191 : mM, s = (z1190, z1189, μ1191) → (0 ≤ z1190 ∧ z1190 ≤ 2000) → (0 ≤ z1189 ∧ z1189 ≤ 30) → mT w μ1191 → mF [21006, 21007, 200004, 200006, 200007, 200008, 201999, 202999] w μ μ1191 → ((z14 ≤ z1189) → Q μ1191) ∧ ((z1189 < z14) → ∀ z1271 : Int, μ1191 21 7 = z1271 → (0 ≤ z1271 ∧ z1271 ≤ 2) → ((¬ z1271 = 0) → Q μ1191) ∧ ((z1271 = 0) → ∀ n_1336 : Int, (w.2.2.1 c13 : Int) = n_1336 → (0 ≤ n_1336 ∧ n_1336 ≤ 2000) → ∀ z1340 : Int, μ1191 c13 (z1190.toNat) = z1340 → ((-2147483648) ≤ z1340 ∧ z1340 ≤ 2147483647) → ∀ z1343 : Int, μ1191 c13 ((z1190 + 1).toNat) = z1343 → ((-2147483648) ≤ z1343 ∧ z1343 ≤ 2147483647) → loopF (WL_X1_goThrough_W1_2 w p2 b10 c13 rec1 z1190 z1189 μ1191 z1340 z1343) False 2010 ((1 : Int), (z1190 + 2))))
def WP_X1_goThrough_W1 (w : mW) (μ : mM) (p1 : Int) (p2 : Int) (Q : mM → Prop) : Prop := ((p1 < 0) → Q μ) ∧ ((0 ≤ p1) → ∀ z4 : Int, μ 21 8 = z4 → (z4 = w.2.2.2 2 ∧ 0 ≤ z4 ∧ z4 ≤ 12) → ((z4 ≤ p1) → Q μ) ∧ ((p1 < z4) → ∀ b10 : Nat, μ 22 (p1.toNat) = (b10 : Int) → mAt w b10 230 → ∀ c13 : Nat, μ b10 1 = (c13 : Int) → ∀ z14 : Int, μ b10 0 = z14 → loopF (WL_X1_goThrough_W1_1 w μ p2 Q b10 c13 z14) False 2002 ((0 : Int), (0 : Int), μ)))
theorem vc_X1_goThrough_W1_5 {p2 : Int} (h0 : 12 < p2) (h1 : 1 ≤ p2 ∧ p2 ≤ 1) : False := by omega
set_option maxRecDepth 4000 in
set_option maxHeartbeats 4000000 in
theorem c_X1_goThrough_W1 {l : Launch} {D : va_G} {c : Nat → ClassId} {H0 : Heap} {sa : Nat × Nat × (Nat → Int32)} {w : mW} {μ : mM} (hw : mWF w) (hT : mT w μ) {p1 : Int} (hp1 : (-2147483648) ≤ p1 ∧ p1 ≤ 2147483647) {p2 : Int} (hp2 : 1 ≤ p2 ∧ p2 ≤ 1) (hIPC : PC w μ) (hIRT : RT μ) {Q : mM → Prop} (hQ : WP_X1_goThrough_W1 w μ p1 p2 Q) : sC (gG l D c H0 sa) mX1_goThrough 27 0 0 [.ref 21, iv p1, iv p2] (mk w μ) (qV w [21006, 21007, 200004, 200006, 200007, 200008, 201999, 202999] μ (fun μ1 => Q μ1 ∧ True)) := by
  refine sC.of rfl (by decide) (le_t rfl) ?_
  refine mr_lvE (lv' := [(0, .ref 21), (1, iv p1), (2, iv p2)]) rfl ?_
  refine mr_iload_n (pc := 0) (z := p1) dX1_goThrough_0 rfl rfl ?_
  refine mr_if_lt (pc := 1) (tgt := 18) dX1_goThrough_1 (by decide) hp1 (fun h1 => ?_) (fun h1 => ?_)
  · have h2 : (-2147483648) ≤ p1 ∧ p1 ≤ (-1) := (vc_X12_ring_60 h1 hp1)
    exact mr_vret dX1_goThrough_18 rfl (le_t rfl) (le_t rfl) hT mF.refl ⟨(hQ.1 h1), trivial⟩
  have h3 : 0 ≤ p1 ∧ p1 ≤ 2147483647 := (vc_X12_ring_1 h1 hp1)
  refine mr_iload_n (pc := 4) (z := p1) dX1_goThrough_4 rfl rfl ?_
  refine sv_aload_n (pc := 5) dX1_goThrough_5 rfl rfl ?_
  refine gf_X1_8 (pc := 6) dX1_goThrough_6 wF_X1_21 (A_21 hw) hT fun z4 q5 h6 => ?_
  refine mr_icmp_ge (pc := 9) (tgt := 18) dX1_goThrough_9 (by decide) (r32 h3 rfl) (r32 h6.2 rfl) (fun h7 => ?_) (fun h7 => ?_)
  · exact mr_vret dX1_goThrough_18 rfl (le_t rfl) (le_t rfl) hT mF.refl ⟨(((hQ.2 h1) z4 q5 h6).1 h7), trivial⟩
  have h8 : 0 ≤ p1 ∧ p1 ≤ 11 := (vc_X1_goThrough_W13_3 h7 h1 h6.1 h3 h6.2)
  have h9 : 1 ≤ z4 ∧ z4 ≤ 12 := (vc_X1_goThrough_W13_4 h7 h1 h6.1 h8 h6.2)
  refine mr_iload_n (pc := 12) (z := p2) dX1_goThrough_12 rfl rfl ?_
  refine mr_bipush (pc := 13) (z := 12) dX1_goThrough_13 (by decide) ?_
  refine mr_icmp_le (pc := 15) (tgt := 19) dX1_goThrough_15 (by decide) (r32 hp2 rfl) (r32 (rR (x := 12)) rfl) (fun _ => ?_) (fun h => ((vc_X1_goThrough_W1_5 h hp2)).elim)
  refine sv_aload_n (pc := 19) dX1_goThrough_19 rfl rfl ?_
  refine gf_X1_1 (pc := 20) dX1_goThrough_20 wF_X1_17 (A_21 hw) hT ?_
  refine mr_iload_n (pc := 23) (z := p1) dX1_goThrough_23 rfl rfl ?_
  refine la_22 (pc := 24) dX1_goThrough_24 (A_22 hw) hT (rIx (n := 12) h8 rfl) (vc_X1_goThrough_W12_6 h1 h6.1 h7 h8 h9) fun b10 q11 A12 => ?_
  refine mr_astore_n (pc := 25) (lv' := [(3, .ref b10), (0, .ref 21), (1, iv p1), (2, iv p2)]) dX1_goThrough_25 rfl (by decide) rfl ?_
  obtain ⟨c13, z14, q15, A16, q17, R18, e19, e20⟩ := PC.read hIPC hT A12 (vc_X1_goThrough_W12_7 h1 h7 h6.1 h8 h9) (vc_X1_goThrough_W12_6 h1 h6.1 h7 h8 h9) q11
  have h21 : 0 ≤ z14 ∧ z14 ≤ 30 := by rw [← q17]; exact hT _ _ A12 0
  refine mr_iconst (pc := 26) (z := 0) dX1_goThrough_26 ?_
  refine mr_istore (pc := 27) (lv' := [(4, iv 0), (3, .ref b10), (0, .ref 21), (1, iv p1), (2, iv p2)]) dX1_goThrough_27 (by decide) rfl ?_
  refine mr_iconst (pc := 29) (z := 0) dX1_goThrough_29 ?_
  refine mr_istore (pc := 30) (lv' := [(5, iv 0), (4, iv 0), (3, .ref b10), (0, .ref 21), (1, iv p1), (2, iv p2)]) dX1_goThrough_30 (by decide) rfl ?_
  have L1192 : ∀ (nL1192 : Nat) (z1190 z1189 : Int) (μ1191 : mM), mT w μ1191 → mF [21006, 21007, 200004, 200006, 200007, 200008, 201999, 202999] w μ μ1191 → (0 ≤ z1190 ∧ z1190 ≤ 2000) → (0 ≤ z1189 ∧ z1189 ≤ 30) → PC w μ1191 → RT μ1191 → wfR (μ c13) (w.2.2.1 c13) (z1190).toNat (z14 - z1189).toNat → (2001 - z1190) < (nL1192 : Int) → loopF (WL_X1_goThrough_W1_1 w μ p2 Q b10 c13 z14) False nL1192 (z1190, z1189, μ1191) → sV (gG l D c H0 sa) mX1_goThrough (sRm 27 0 0) (sZ (gG l D c H0 sa) 0 0 (qV w [21006, 21007, 200004, 200006, 200007, 200008, 201999, 202999] μ (fun μ1 => Q μ1 ∧ True))) 32 [(0, .ref 21), (2, iv p2), (3, .ref b10), (4, iv z1190), (5, iv z1189)] [] (mk w μ1191) 0 0 := by
    intro nL1192
    induction nL1192 with
    | zero => intro z1190 z1189 μ1191 T1195 F1196 h1193 h1194 I1198 I1199 R1200 h1201 W1202; exact ((vc_X1_goThrough_W12_8 h1201 h1193)).elim
    | succ nL1192 ih1203 =>
      intro z1190 z1189 μ1191 T1195 F1196 h1193 h1194 I1198 I1199 R1200 h1201 W1202
      refine mr_iload (pc := 32) (z := z1189) dX1_goThrough_32 rfl ?_
      refine sv_aload_n (pc := 34) dX1_goThrough_34 rfl rfl ?_
      refine gk_X5_0 (pc := 35) dX1_goThrough_35 wF_X1_57 A12 (F1196.f A12 rfl q17) ?_
      refine mr_icmp_ge (pc := 38) (tgt := 174) dX1_goThrough_38 (by decide) (r32 h1194 rfl) (r32 h21 rfl) (fun h1268 => ?_) (fun h1268 => ?_)
      · exact mr_vret dX1_goThrough_174 rfl (le_t rfl) (le_t rfl) T1195 (mF.call mF.refl F1196 rfl) ⟨((W1202 z1190 z1189 μ1191 rfl h1193 h1194 T1195 F1196).1 h1268), trivial⟩
      have h1269 : 0 ≤ z1189 ∧ z1189 ≤ 29 := (vc_X12_judgedAnew_2 h1268 h1194 h21)
      have h1270 : 1 ≤ z14 ∧ z14 ≤ 30 := (vc_X12_judgedAnew_3 h1268 h1269 h21)
      refine sv_aload_n (pc := 41) dX1_goThrough_41 rfl rfl ?_
      refine gf_X1_7 (pc := 42) dX1_goThrough_42 wF_X1_50 (A_21 hw) T1195 fun z1271 q1272 h1273 => ?_
      refine mr_if_ne (pc := 45) (tgt := 174) dX1_goThrough_45 (by decide) (r32 h1273 rfl) (fun h1333 => ?_) (fun h1333 => ?_)
      · have h1334 : 1 ≤ z1271 ∧ z1271 ≤ 2 := (vc_X12_provides_3 h1333 h1273)
        exact mr_vret dX1_goThrough_174 rfl (le_t rfl) (le_t rfl) T1195 (mF.call mF.refl F1196 rfl) ⟨((((W1202 z1190 z1189 μ1191 rfl h1193 h1194 T1195 F1196).2 h1268) z1271 q1272 h1273).1 h1333), trivial⟩
      have h1335 : 0 ≤ z1271 ∧ z1271 ≤ 0 := (vc_X12_provides_4 h1333 h1273)
      obtain ⟨n_1336, q1337⟩ : ∃ n : Int, (w.2.2.1 c13 : Int) = n := ⟨_, rfl⟩
      have h1338 : 0 ≤ n_1336 ∧ n_1336 ≤ 2000 := lnR (m := 2000) q1337 A16 rfl
      have h1339 : z1190 + 1 < n_1336 := lnLt q1337 (wfR.hd R1200 (vc_X1_goThrough_W12_13 h1193) (vc_X1_goThrough_W12_14 h1268 h1269 h1270))
      refine sv_aload_n (pc := 48) dX1_goThrough_48 rfl rfl ?_
      refine gk_X5_1 (pc := 49) dX1_goThrough_49 wF_X1_60 A12 (F1196.f A12 rfl q15) ?_
      refine mr_iload (pc := 52) (z := z1190) dX1_goThrough_52 rfl ?_
      refine la_231 (pc := 54) dX1_goThrough_54 A16 T1195 (lnC q1337 (vc_X1_goThrough_W12_15 h1339 h1338 h1193)) fun z1340 q1341 h1342 => ?_
      refine mr_istore (pc := 55) (lv' := [(6, iv z1340), (0, .ref 21), (2, iv p2), (3, .ref b10), (4, iv z1190), (5, iv z1189)]) dX1_goThrough_55 (by decide) rfl ?_
      refine sv_aload_n (pc := 57) dX1_goThrough_57 rfl rfl ?_
      refine gk_X5_1 (pc := 58) dX1_goThrough_58 wF_X1_60 A12 (F1196.f A12 rfl q15) ?_
      refine mr_iload (pc := 61) (z := z1190) dX1_goThrough_61 rfl ?_
      refine mr_iconst (pc := 63) (z := 1) dX1_goThrough_63 ?_
      refine mr_iadd (pc := 64) (x := z1190) (y := 1) dX1_goThrough_64 ?_
      refine la_231 (pc := 65) dX1_goThrough_65 A16 T1195 (lnC q1337 (vc_X1_goThrough_W12_16 h1339 h1338 h1193)) fun z1343 q1344 h1345 => ?_
      have B1346 := wfR.bd R1200 (vc_X1_goThrough_W12_13 h1193) (vc_X1_goThrough_W12_14 h1268 h1269 h1270) ((((mF.call mF.refl F1196 rfl) : mF [21006, 21007, 200004, 200006, 200007, 200008, 201999, 202999] w μ μ1191).f A16 rfl rfl).symm.trans q1341) ((((mF.call mF.refl F1196 rfl) : mF [21006, 21007, 200004, 200006, 200007, 200008, 201999, 202999] w μ μ1191).f A16 rfl rfl).symm.trans q1344)
      have h1347 : 0 ≤ z1340 ∧ 0 ≤ z1343 ∧ z1190 + 2 + 5 * z1340 + 2 * z1343 ≤ n_1336 := ⟨B1346.1.1, B1346.1.2.1, lnLe q1337 B1346.1.2.2⟩
      have h1348 : 0 ≤ z1340 ∧ z1340 ≤ 400 := (vc_X1_goThrough_W12_17 h1347 h1339 h1338 h1193 h1342 h1345)
      have h1349 : 0 ≤ z1343 ∧ z1343 ≤ 1000 := (vc_X1_goThrough_W12_18 h1347 h1339 h1338 h1193 h1348 h1345)
      refine mr_istore (pc := 66) (lv' := [(7, iv z1343), (6, iv z1340), (0, .ref 21), (2, iv p2), (3, .ref b10), (4, iv z1190), (5, iv z1189)]) dX1_goThrough_66 (by decide) rfl ?_
      refine mr_iload (pc := 68) (z := z1190) dX1_goThrough_68 rfl ?_
      refine mr_iconst (pc := 70) (z := 2) dX1_goThrough_70 ?_
      refine mr_iadd (pc := 71) (x := z1190) (y := 2) dX1_goThrough_71 ?_
      refine mr_iload (pc := 72) (z := z1340) dX1_goThrough_72 rfl ?_
      refine mr_iconst (pc := 74) (z := 5) dX1_goThrough_74 ?_
      refine mr_imul (pc := 75) (x := z1340) (y := 5) dX1_goThrough_75 ?_
      refine mr_iadd (pc := 76) (x := (z1190 + 2)) (y := (z1340 * 5)) dX1_goThrough_76 ?_
      refine mr_istore (pc := 77) (lv' := [(8, iv ((z1190 + 2) + (z1340 * 5))), (7, iv z1343), (6, iv z1340), (0, .ref 21), (2, iv p2), (3, .ref b10), (4, iv z1190), (5, iv z1189)]) dX1_goThrough_77 (by decide) rfl ?_
      refine mr_iconst (pc := 79) (z := 1) dX1_goThrough_79 ?_
      refine mr_istore (pc := 80) (lv' := [(9, iv 1), (8, iv ((z1190 + 2) + (z1340 * 5))), (7, iv z1343), (6, iv z1340), (0, .ref 21), (2, iv p2), (3, .ref b10), (4, iv z1190), (5, iv z1189)]) dX1_goThrough_80 (by decide) rfl ?_
      refine mr_iload (pc := 82) (z := z1190) dX1_goThrough_82 rfl ?_
      refine mr_iconst (pc := 84) (z := 2) dX1_goThrough_84 ?_
      refine mr_iadd (pc := 85) (x := z1190) (y := 2) dX1_goThrough_85 ?_
      refine mr_istore (pc := 86) (lv' := [(10, iv (z1190 + 2)), (9, iv 1), (8, iv ((z1190 + 2) + (z1340 * 5))), (7, iv z1343), (6, iv z1340), (0, .ref 21), (2, iv p2), (3, .ref b10), (4, iv z1190), (5, iv z1189)]) dX1_goThrough_86 (by decide) rfl ?_
      have L1469 : ∀ (nL1469 : Nat) (z1468 z1467 : Int), True → (0 ≤ z1468 ∧ z1468 ≤ 1) → (2 ≤ z1467 ∧ z1467 ≤ 2010) → ((((z1190 + 2) + (z1340 * 5)) - z1467) % 5 = 0) → (2011 - z1467) < (nL1469 : Int) → loopF (WL_X1_goThrough_W1_2 w p2 b10 c13 (loopF (WL_X1_goThrough_W1_1 w μ p2 Q b10 c13 z14) False nL1192) z1190 z1189 μ1191 z1340 z1343) False nL1469 (z1468, z1467) → sV (gG l D c H0 sa) mX1_goThrough (sRm 27 0 0) (sZ (gG l D c H0 sa) 0 0 (qV w [21006, 21007, 200004, 200006, 200007, 200008, 201999, 202999] μ (fun μ1 => Q μ1 ∧ True))) 88 [(0, .ref 21), (2, iv p2), (3, .ref b10), (5, iv z1189), (7, iv z1343), (8, iv ((z1190 + 2) + (z1340 * 5))), (9, iv z1468), (10, iv z1467)] [] (mk w μ1191) 0 0 := by
        intro nL1469
        induction nL1469 with
        | zero => intro z1468 z1467 _ h1470 h1471 h1475 h1476 W1477; exact ((vc_X1_goThrough_W12_19 h1476 h1475 h1339 h1347 h1338 h1193 h1348 h1349 h1471)).elim
        | succ nL1469 ih1478 =>
          intro z1468 z1467 _ h1470 h1471 h1475 h1476 W1477
          refine mr_iload (pc := 88) (z := z1467) dX1_goThrough_88 rfl ?_
          refine mr_iload (pc := 90) (z := ((z1190 + 2) + (z1340 * 5))) dX1_goThrough_90 rfl ?_
          have J1494 : ((WJ_X1_goThrough_W1_3 w p2 c13 (loopF (WL_X1_goThrough_W1_1 w μ p2 Q b10 c13 z14) False nL1192) z1190 z1189 μ1191 z1340 z1343 z1468) ) → sV (gG l D c H0 sa) mX1_goThrough (sRm 27 0 0) (sZ (gG l D c H0 sa) 0 0 (qV w [21006, 21007, 200004, 200006, 200007, 200008, 201999, 202999] μ (fun μ1 => Q μ1 ∧ True))) 141 [(0, .ref 21), (2, iv p2), (3, .ref b10), (5, iv z1189), (7, iv z1343), (8, iv ((z1190 + 2) + (z1340 * 5))), (9, iv z1468)] [] (mk w μ1191) 0 0 := by
            intro W1495
            refine mr_iload (pc := 141) (z := z1468) dX1_goThrough_141 rfl ?_
            refine mr_if_eq (pc := 143) (tgt := 159) dX1_goThrough_143 (by decide) (r32 h1470 rfl) (fun h1502 => ?_) (fun h1502 => ?_)
            · have h1503 : 0 ≤ z1468 ∧ z1468 ≤ 0 := (vc_X12_ring_22 h1502 h1470)
              refine mr_iload (pc := 159) (z := ((z1190 + 2) + (z1340 * 5))) dX1_goThrough_159 rfl ?_
              refine mr_iload (pc := 161) (z := z1343) dX1_goThrough_161 rfl ?_
              refine mr_iconst (pc := 163) (z := 2) dX1_goThrough_163 ?_
              refine mr_imul (pc := 164) (x := z1343) (y := 2) dX1_goThrough_164 ?_
              refine mr_iadd (pc := 165) (x := ((z1190 + 2) + (z1340 * 5))) (y := (z1343 * 2)) dX1_goThrough_165 ?_
              refine mr_istore (pc := 166) (lv' := [(4, iv (((z1190 + 2) + (z1340 * 5)) + (z1343 * 2))), (0, .ref 21), (2, iv p2), (3, .ref b10), (5, iv z1189), (7, iv z1343), (8, iv ((z1190 + 2) + (z1340 * 5))), (9, iv z1468)]) dX1_goThrough_166 (by decide) rfl ?_
              refine mr_iinc (pc := 168) (lv' := [(5, iv (z1189 + 1)), (4, iv (((z1190 + 2) + (z1340 * 5)) + (z1343 * 2))), (0, .ref 21), (2, iv p2), (3, .ref b10), (7, iv z1343), (8, iv ((z1190 + 2) + (z1340 * 5))), (9, iv z1468)]) dX1_goThrough_168 rfl (by decide) rfl ?_
              refine sv_goto (pc := 171) (tgt := 32) dX1_goThrough_171 (by decide) ?_
              refine mr_lvS (lv' := [(0, .ref 21), (2, iv p2), (3, .ref b10), (4, iv (((z1190 + 2) + (z1340 * 5)) + (z1343 * 2))), (5, iv (z1189 + 1))]) (List.forall_mem_cons.mpr ⟨rfl, List.forall_mem_cons.mpr ⟨rfl, List.forall_mem_cons.mpr ⟨rfl, List.forall_mem_cons.mpr ⟨rfl, List.forall_mem_cons.mpr ⟨rfl, fun _ h => absurd h List.not_mem_nil⟩⟩⟩⟩⟩) ?_
              exact ih1203 (((z1190 + 2) + (z1340 * 5)) + (z1343 * 2)) (z1189 + 1) μ1191 T1195 (mF.call mF.refl F1196 rfl) (vc_X1_goThrough_W12_21 h1339 h1347 h1475 h1338 h1193 h1348 h1349 h1471) (rW (c := 0) (d := 30) (rAdd (e := 1) (f := 30) h1269 (rR (x := 1)) rfl) rfl) I1198 I1199 (wfR.cg B1346.2.2 (vc_X1_goThrough_W12_23 h1339 h1347 h1475 h1338 h1193 h1348 h1349 h1471)) (vc_X1_goThrough_W12_22 (nS h1201) h1339 h1347 h1475 h1338 h1193 h1348 h1349 h1471) ((W1495).1 h1502)
            have h1504 : 1 ≤ z1468 ∧ z1468 ≤ 1 := (vc_X12_ring_24 h1502 h1470)
            refine sv_aload_n (pc := 146) dX1_goThrough_146 rfl rfl ?_
            refine sv_aload_n (pc := 147) dX1_goThrough_147 rfl rfl ?_
            refine gk_X5_1 (pc := 148) dX1_goThrough_148 wF_X1_60 A12 (F1196.f A12 rfl q15) ?_
            refine mr_iload (pc := 151) (z := ((z1190 + 2) + (z1340 * 5))) dX1_goThrough_151 rfl ?_
            refine mr_iload (pc := 153) (z := z1343) dX1_goThrough_153 rfl ?_
            refine mr_iload_n (pc := 155) (z := p2) dX1_goThrough_155 rfl rfl ?_
            refine mr_cVV (pc := 156) (c_X1_doActs_W1 hw T1195 A16 (vc_X1_goThrough_W12_25 h1339 h1347 h1475 h1338 h1193 h1348 h1349 h1471) h1349 hp2 I1198 I1199 (lnL q1337 (vc_X1_goThrough_W12_26 h1339 h1347 h1475 h1338 h1193 h1348 h1349 h1471)) (argC B1346.2.1 (vc_X1_goThrough_W12_27 h1339 h1347 h1475 h1338 h1193 h1348 h1349 h1471) (funext fun i => ((mF.call mF.refl F1196 rfl) : mF [21006, 21007, 200004, 200006, 200007, 200008, 201999, 202999] w μ μ1191).f A16 rfl rfl)) ((W1495).2 h1502)) (gOk _ _ _ _ _) dX1_goThrough_156 (tX1_doActs _ _ _ _ _) ⟨wV_X1_doActs, wL_X1_doActs⟩ wM_X1_68 (gCX1 _ _ _ _ _) rfl (A_21 hw) rfl ⟨le_t rfl, le_t rfl⟩ ⟨le_t rfl, le_t rfl⟩ rfl (le_t rfl) fun μ1505 T1506 F1507 h1508 => ?_
            refine mr_iload (pc := 159) (z := ((z1190 + 2) + (z1340 * 5))) dX1_goThrough_159 rfl ?_
            refine mr_iload (pc := 161) (z := z1343) dX1_goThrough_161 rfl ?_
            refine mr_iconst (pc := 163) (z := 2) dX1_goThrough_163 ?_
            refine mr_imul (pc := 164) (x := z1343) (y := 2) dX1_goThrough_164 ?_
            refine mr_iadd (pc := 165) (x := ((z1190 + 2) + (z1340 * 5))) (y := (z1343 * 2)) dX1_goThrough_165 ?_
            refine mr_istore (pc := 166) (lv' := [(4, iv (((z1190 + 2) + (z1340 * 5)) + (z1343 * 2))), (0, .ref 21), (2, iv p2), (3, .ref b10), (5, iv z1189), (7, iv z1343), (8, iv ((z1190 + 2) + (z1340 * 5))), (9, iv z1468)]) dX1_goThrough_166 (by decide) rfl ?_
            refine mr_iinc (pc := 168) (lv' := [(5, iv (z1189 + 1)), (4, iv (((z1190 + 2) + (z1340 * 5)) + (z1343 * 2))), (0, .ref 21), (2, iv p2), (3, .ref b10), (7, iv z1343), (8, iv ((z1190 + 2) + (z1340 * 5))), (9, iv z1468)]) dX1_goThrough_168 rfl (by decide) rfl ?_
            refine sv_goto (pc := 171) (tgt := 32) dX1_goThrough_171 (by decide) ?_
            refine mr_lvS (lv' := [(0, .ref 21), (2, iv p2), (3, .ref b10), (4, iv (((z1190 + 2) + (z1340 * 5)) + (z1343 * 2))), (5, iv (z1189 + 1))]) (List.forall_mem_cons.mpr ⟨rfl, List.forall_mem_cons.mpr ⟨rfl, List.forall_mem_cons.mpr ⟨rfl, List.forall_mem_cons.mpr ⟨rfl, List.forall_mem_cons.mpr ⟨rfl, fun _ h => absurd h List.not_mem_nil⟩⟩⟩⟩⟩) ?_
            exact ih1203 (((z1190 + 2) + (z1340 * 5)) + (z1343 * 2)) (z1189 + 1) μ1505 T1506 (mF.call (mF.call mF.refl F1196 rfl) F1507 rfl) (vc_X1_goThrough_W12_21 h1339 h1347 h1475 h1338 h1193 h1348 h1349 h1471) (rW (c := 0) (d := 30) (rAdd (e := 1) (f := 30) h1269 (rR (x := 1)) rfl) rfl) (PC.keep I1198 hw ((mF.call mF.refl F1507 rfl) : mF [21006, 21007, 200004, 200006, 200007, 200008, 201999, 202999] w μ1191 μ1505) rfl) (RT.keep I1199 hw ((mF.call mF.refl F1507 rfl) : mF [21006, 21007, 200004, 200006, 200007, 200008, 201999, 202999] w μ1191 μ1505) rfl) (wfR.cg B1346.2.2 (vc_X1_goThrough_W12_23 h1339 h1347 h1475 h1338 h1193 h1348 h1349 h1471)) (vc_X1_goThrough_W12_22 (nS h1201) h1339 h1347 h1475 h1338 h1193 h1348 h1349 h1471) (h1508.1 T1506 F1507)
          refine mr_icmp_ge (pc := 92) (tgt := 141) dX1_goThrough_92 (by decide) (r32 h1471 rfl) (r32 (rAdd (e := 2) (f := 4002) (rAdd (e := 2) (f := 2002) h1193 (rR (x := 2)) rfl) (rMulR (n := 5) (e := 0) (f := 2000) h1348 rfl) rfl) rfl) (fun h1509 => ?_) (fun h1509 => ?_)
          · refine mr_lvS (lv' := [(0, .ref 21), (2, iv p2), (3, .ref b10), (5, iv z1189), (7, iv z1343), (8, iv ((z1190 + 2) + (z1340 * 5))), (9, iv z1468)]) (List.forall_mem_cons.mpr ⟨rfl, List.forall_mem_cons.mpr ⟨rfl, List.forall_mem_cons.mpr ⟨rfl, List.forall_mem_cons.mpr ⟨rfl, List.forall_mem_cons.mpr ⟨rfl, List.forall_mem_cons.mpr ⟨rfl, List.forall_mem_cons.mpr ⟨rfl, fun _ h => absurd h List.not_mem_nil⟩⟩⟩⟩⟩⟩⟩) ?_
            exact J1494 ((W1477 z1468 z1467 rfl h1470 h1471).1 h1509)
          refine mr_iload (pc := 95) (z := z1468) dX1_goThrough_95 rfl ?_
          refine mr_if_eq (pc := 97) (tgt := 141) dX1_goThrough_97 (by decide) (r32 h1470 rfl) (fun h1510 => ?_) (fun h1510 => ?_)
          · have h1511 : 0 ≤ z1468 ∧ z1468 ≤ 0 := (vc_X12_ring_22 h1510 h1470)
            refine mr_lvS (lv' := [(0, .ref 21), (2, iv p2), (3, .ref b10), (5, iv z1189), (7, iv z1343), (8, iv ((z1190 + 2) + (z1340 * 5))), (9, iv z1468)]) (List.forall_mem_cons.mpr ⟨rfl, List.forall_mem_cons.mpr ⟨rfl, List.forall_mem_cons.mpr ⟨rfl, List.forall_mem_cons.mpr ⟨rfl, List.forall_mem_cons.mpr ⟨rfl, List.forall_mem_cons.mpr ⟨rfl, List.forall_mem_cons.mpr ⟨rfl, fun _ h => absurd h List.not_mem_nil⟩⟩⟩⟩⟩⟩⟩) ?_
            exact J1494 (((W1477 z1468 z1467 rfl h1470 h1471).2 h1509).1 h1510)
          have h1512 : 1 ≤ z1468 ∧ z1468 ≤ 1 := (vc_X12_ring_24 h1510 h1470)
          refine sv_aload_n (pc := 100) dX1_goThrough_100 rfl rfl ?_
          refine sv_aload_n (pc := 101) dX1_goThrough_101 rfl rfl ?_
          refine mr_iload (pc := 102) (z := z1467) dX1_goThrough_102 rfl ?_
          refine mr_cVP (pc := 104) (c_X1_isSo_W hw T1195 A12 (vc_X1_goThrough_W12_28 h1475 h1509 h1339 h1347 h1338 h1193 h1348 h1349 h1471) I1199 (lnF (F1196.f A12 rfl q15) q1337 (vc_X1_goThrough_W12_29 h1339 h1347 h1475 h1509 h1338 h1193 h1348 h1349 h1471)) (by rw [((mF.call mF.refl F1196 rfl) : mF [21006, 21007, 200004, 200006, 200007, 200008, 201999, 202999] w μ μ1191).f (k := 2) A12 rfl rfl, ((mF.call mF.refl F1196 rfl) : mF [21006, 21007, 200004, 200006, 200007, 200008, 201999, 202999] w μ μ1191).f (k := 3) A12 rfl rfl]; exact e19) (by rw [((mF.call mF.refl F1196 rfl) : mF [21006, 21007, 200004, 200006, 200007, 200008, 201999, 202999] w μ μ1191).f (k := 4) A12 rfl rfl, ((mF.call mF.refl F1196 rfl) : mF [21006, 21007, 200004, 200006, 200007, 200008, 201999, 202999] w μ μ1191).f (k := 5) A12 rfl rfl]; exact e20) (((W1477 z1468 z1467 rfl h1470 h1471).2 h1509).2 h1510)) (gOk _ _ _ _ _) dX1_goThrough_104 (tX1_isSo _ _ _ _ _) ⟨wV_X1_isSo, wL_X1_isSo⟩ wM_X1_64 (gCX1 _ _ _ _ _) rfl (A_21 hw) rfl ⟨le_t rfl, le_t rfl⟩ ⟨le_t rfl, le_t rfl⟩ rfl (le_t rfl) fun z1517 h1516 => ?_
          refine sv_aload_n (pc := 107) dX1_goThrough_107 rfl rfl ?_
          refine gk_X5_1 (pc := 108) dX1_goThrough_108 wF_X1_60 A12 (F1196.f A12 rfl q15) ?_
          refine mr_iload (pc := 111) (z := z1467) dX1_goThrough_111 rfl ?_
          refine mr_iconst (pc := 113) (z := 1) dX1_goThrough_113 ?_
          refine mr_iadd (pc := 114) (x := z1467) (y := 1) dX1_goThrough_114 ?_
          refine la_231 (pc := 115) dX1_goThrough_115 A16 T1195 (lnC q1337 (vc_X1_goThrough_W12_30 h1339 h1347 h1475 h1509 h1338 h1193 h1348 h1349 h1471)) fun z1518 q1519 h1520 => ?_
          refine mr_iconst (pc := 116) (z := 1) dX1_goThrough_116 ?_
          refine mr_icmp_ne (pc := 117) (tgt := 124) dX1_goThrough_117 (by decide) h1520 (r32 (rR (x := 1)) rfl) (fun h1522 => ?_) (fun h1522 => ?_)
          · refine mr_iconst (pc := 124) (z := 0) dX1_goThrough_124 ?_
            refine mr_icmp_eq (pc := 125) (tgt := 132) dX1_goThrough_125 (by decide) (r32 h1516.1 rfl) (r32 (rR (x := 0)) rfl) (fun h1525 => ?_) (fun h1525 => ?_)
            · have h1526 : 0 ≤ z1517 ∧ z1517 ≤ 0 := (vc_X12_ring_22 h1525 h1516.1)
              refine mr_iconst (pc := 132) (z := 0) dX1_goThrough_132 ?_
              refine mr_istore (pc := 133) (lv' := [(9, iv 0), (0, .ref 21), (2, iv p2), (3, .ref b10), (5, iv z1189), (7, iv z1343), (8, iv ((z1190 + 2) + (z1340 * 5))), (10, iv z1467)]) dX1_goThrough_133 (by decide) rfl ?_
              refine mr_iinc (pc := 135) (lv' := [(10, iv (z1467 + 5)), (9, iv 0), (0, .ref 21), (2, iv p2), (3, .ref b10), (5, iv z1189), (7, iv z1343), (8, iv ((z1190 + 2) + (z1340 * 5)))]) dX1_goThrough_135 rfl (by decide) rfl ?_
              refine sv_goto (pc := 138) (tgt := 88) dX1_goThrough_138 (by decide) ?_
              refine mr_lvS (lv' := [(0, .ref 21), (2, iv p2), (3, .ref b10), (5, iv z1189), (7, iv z1343), (8, iv ((z1190 + 2) + (z1340 * 5))), (9, iv 0), (10, iv (z1467 + 5))]) (List.forall_mem_cons.mpr ⟨rfl, List.forall_mem_cons.mpr ⟨rfl, List.forall_mem_cons.mpr ⟨rfl, List.forall_mem_cons.mpr ⟨rfl, List.forall_mem_cons.mpr ⟨rfl, List.forall_mem_cons.mpr ⟨rfl, List.forall_mem_cons.mpr ⟨rfl, List.forall_mem_cons.mpr ⟨rfl, fun _ h => absurd h List.not_mem_nil⟩⟩⟩⟩⟩⟩⟩⟩) ?_
              exact ih1478 0 (z1467 + 5) trivial (rW (c := 0) (d := 1) (rR (x := 0)) rfl) (vc_X1_goThrough_W12_32 h1475 h1509 h1339 h1347 h1338 h1193 h1348 h1349 h1471) (vc_X1_goThrough_W12_33 h1339 h1347 h1475 h1509 h1338 h1193 h1348 h1349 h1471) (vc_X1_goThrough_W12_34 (nS h1476) h1475 h1509 h1339 h1347 h1338 h1193 h1348 h1349 h1471) ((((h1516.2.1 h1516.1) z1518 q1519 h1520).1 h1522).1 h1525)
            have h1527 : 1 ≤ z1517 ∧ z1517 ≤ 1 := (vc_X12_ring_24 h1525 h1516.1)
            refine mr_iconst (pc := 128) (z := 1) dX1_goThrough_128 ?_
            refine sv_goto (pc := 129) (tgt := 133) dX1_goThrough_129 (by decide) ?_
            refine mr_istore (pc := 133) (lv' := [(9, iv 1), (0, .ref 21), (2, iv p2), (3, .ref b10), (5, iv z1189), (7, iv z1343), (8, iv ((z1190 + 2) + (z1340 * 5))), (10, iv z1467)]) dX1_goThrough_133 (by decide) rfl ?_
            refine mr_iinc (pc := 135) (lv' := [(10, iv (z1467 + 5)), (9, iv 1), (0, .ref 21), (2, iv p2), (3, .ref b10), (5, iv z1189), (7, iv z1343), (8, iv ((z1190 + 2) + (z1340 * 5)))]) dX1_goThrough_135 rfl (by decide) rfl ?_
            refine sv_goto (pc := 138) (tgt := 88) dX1_goThrough_138 (by decide) ?_
            refine mr_lvS (lv' := [(0, .ref 21), (2, iv p2), (3, .ref b10), (5, iv z1189), (7, iv z1343), (8, iv ((z1190 + 2) + (z1340 * 5))), (9, iv 1), (10, iv (z1467 + 5))]) (List.forall_mem_cons.mpr ⟨rfl, List.forall_mem_cons.mpr ⟨rfl, List.forall_mem_cons.mpr ⟨rfl, List.forall_mem_cons.mpr ⟨rfl, List.forall_mem_cons.mpr ⟨rfl, List.forall_mem_cons.mpr ⟨rfl, List.forall_mem_cons.mpr ⟨rfl, List.forall_mem_cons.mpr ⟨rfl, fun _ h => absurd h List.not_mem_nil⟩⟩⟩⟩⟩⟩⟩⟩) ?_
            exact ih1478 1 (z1467 + 5) trivial (rW (c := 0) (d := 1) (rR (x := 1)) rfl) (vc_X1_goThrough_W12_32 h1475 h1509 h1339 h1347 h1338 h1193 h1348 h1349 h1471) (vc_X1_goThrough_W12_33 h1339 h1347 h1475 h1509 h1338 h1193 h1348 h1349 h1471) (vc_X1_goThrough_W12_34 (nS h1476) h1475 h1509 h1339 h1347 h1338 h1193 h1348 h1349 h1471) ((((h1516.2.1 h1516.1) z1518 q1519 h1520).1 h1522).2 h1525)
          have h1528 : 1 ≤ z1518 ∧ z1518 ≤ 1 := (vc_X3_toldInAll_1 h1522 h1520)
          refine mr_iconst (pc := 120) (z := 1) dX1_goThrough_120 ?_
          refine sv_goto (pc := 121) (tgt := 125) dX1_goThrough_121 (by decide) ?_
          refine mr_icmp_eq (pc := 125) (tgt := 132) dX1_goThrough_125 (by decide) (r32 h1516.1 rfl) (r32 (rR (x := 1)) rfl) (fun h1531 => ?_) (fun h1531 => ?_)
          · have h1532 : 1 ≤ z1517 ∧ z1517 ≤ 1 := (vc_X1_goThrough_W12_37 h1531 h1516.1)
            refine mr_iconst (pc := 132) (z := 0) dX1_goThrough_132 ?_
            refine mr_istore (pc := 133) (lv' := [(9, iv 0), (0, .ref 21), (2, iv p2), (3, .ref b10), (5, iv z1189), (7, iv z1343), (8, iv ((z1190 + 2) + (z1340 * 5))), (10, iv z1467)]) dX1_goThrough_133 (by decide) rfl ?_
            refine mr_iinc (pc := 135) (lv' := [(10, iv (z1467 + 5)), (9, iv 0), (0, .ref 21), (2, iv p2), (3, .ref b10), (5, iv z1189), (7, iv z1343), (8, iv ((z1190 + 2) + (z1340 * 5)))]) dX1_goThrough_135 rfl (by decide) rfl ?_
            refine sv_goto (pc := 138) (tgt := 88) dX1_goThrough_138 (by decide) ?_
            refine mr_lvS (lv' := [(0, .ref 21), (2, iv p2), (3, .ref b10), (5, iv z1189), (7, iv z1343), (8, iv ((z1190 + 2) + (z1340 * 5))), (9, iv 0), (10, iv (z1467 + 5))]) (List.forall_mem_cons.mpr ⟨rfl, List.forall_mem_cons.mpr ⟨rfl, List.forall_mem_cons.mpr ⟨rfl, List.forall_mem_cons.mpr ⟨rfl, List.forall_mem_cons.mpr ⟨rfl, List.forall_mem_cons.mpr ⟨rfl, List.forall_mem_cons.mpr ⟨rfl, List.forall_mem_cons.mpr ⟨rfl, fun _ h => absurd h List.not_mem_nil⟩⟩⟩⟩⟩⟩⟩⟩) ?_
            exact ih1478 0 (z1467 + 5) trivial (rW (c := 0) (d := 1) (rR (x := 0)) rfl) (vc_X1_goThrough_W12_32 h1475 h1509 h1339 h1347 h1338 h1193 h1348 h1349 h1471) (vc_X1_goThrough_W12_33 h1339 h1347 h1475 h1509 h1338 h1193 h1348 h1349 h1471) (vc_X1_goThrough_W12_34 (nS h1476) h1475 h1509 h1339 h1347 h1338 h1193 h1348 h1349 h1471) ((((h1516.2.1 h1516.1) z1518 q1519 h1520).2 h1522).1 h1531)
          have h1533 : 0 ≤ z1517 ∧ z1517 ≤ 0 := (vc_X1_goThrough_W12_38 h1531 h1516.1)
          refine mr_iconst (pc := 128) (z := 1) dX1_goThrough_128 ?_
          refine sv_goto (pc := 129) (tgt := 133) dX1_goThrough_129 (by decide) ?_
          refine mr_istore (pc := 133) (lv' := [(9, iv 1), (0, .ref 21), (2, iv p2), (3, .ref b10), (5, iv z1189), (7, iv z1343), (8, iv ((z1190 + 2) + (z1340 * 5))), (10, iv z1467)]) dX1_goThrough_133 (by decide) rfl ?_
          refine mr_iinc (pc := 135) (lv' := [(10, iv (z1467 + 5)), (9, iv 1), (0, .ref 21), (2, iv p2), (3, .ref b10), (5, iv z1189), (7, iv z1343), (8, iv ((z1190 + 2) + (z1340 * 5)))]) dX1_goThrough_135 rfl (by decide) rfl ?_
          refine sv_goto (pc := 138) (tgt := 88) dX1_goThrough_138 (by decide) ?_
          refine mr_lvS (lv' := [(0, .ref 21), (2, iv p2), (3, .ref b10), (5, iv z1189), (7, iv z1343), (8, iv ((z1190 + 2) + (z1340 * 5))), (9, iv 1), (10, iv (z1467 + 5))]) (List.forall_mem_cons.mpr ⟨rfl, List.forall_mem_cons.mpr ⟨rfl, List.forall_mem_cons.mpr ⟨rfl, List.forall_mem_cons.mpr ⟨rfl, List.forall_mem_cons.mpr ⟨rfl, List.forall_mem_cons.mpr ⟨rfl, List.forall_mem_cons.mpr ⟨rfl, List.forall_mem_cons.mpr ⟨rfl, fun _ h => absurd h List.not_mem_nil⟩⟩⟩⟩⟩⟩⟩⟩) ?_
          exact ih1478 1 (z1467 + 5) trivial (rW (c := 0) (d := 1) (rR (x := 1)) rfl) (vc_X1_goThrough_W12_32 h1475 h1509 h1339 h1347 h1338 h1193 h1348 h1349 h1471) (vc_X1_goThrough_W12_33 h1339 h1347 h1475 h1509 h1338 h1193 h1348 h1349 h1471) (vc_X1_goThrough_W12_34 (nS h1476) h1475 h1509 h1339 h1347 h1338 h1193 h1348 h1349 h1471) ((((h1516.2.1 h1516.1) z1518 q1519 h1520).2 h1522).2 h1531)
      refine mr_lvS (lv' := [(0, .ref 21), (2, iv p2), (3, .ref b10), (5, iv z1189), (7, iv z1343), (8, iv ((z1190 + 2) + (z1340 * 5))), (9, iv 1), (10, iv (z1190 + 2))]) (List.forall_mem_cons.mpr ⟨rfl, List.forall_mem_cons.mpr ⟨rfl, List.forall_mem_cons.mpr ⟨rfl, List.forall_mem_cons.mpr ⟨rfl, List.forall_mem_cons.mpr ⟨rfl, List.forall_mem_cons.mpr ⟨rfl, List.forall_mem_cons.mpr ⟨rfl, List.forall_mem_cons.mpr ⟨rfl, fun _ h => absurd h List.not_mem_nil⟩⟩⟩⟩⟩⟩⟩⟩) ?_
      exact L1469 2010 1 (z1190 + 2) trivial (rW (c := 0) (d := 1) (rR (x := 1)) rfl) (rW (c := 2) (d := 2010) (rAdd (e := 2) (f := 2002) h1193 (rR (x := 2)) rfl) rfl) (vc_X1_goThrough_W12_39 h1339 h1347 h1338 h1193 h1348 h1349) (vc_X1_goThrough_W12_40 h1339 h1347 h1338 h1193 h1348 h1349) (((((((W1202 z1190 z1189 μ1191 rfl h1193 h1194 T1195 F1196).2 h1268) z1271 q1272 h1273).2 h1333) n_1336 q1337 h1338) z1340 q1341 h1342) z1343 q1344 h1345)
  refine mr_lvS (lv' := [(0, .ref 21), (2, iv p2), (3, .ref b10), (4, iv 0), (5, iv 0)]) (List.forall_mem_cons.mpr ⟨rfl, List.forall_mem_cons.mpr ⟨rfl, List.forall_mem_cons.mpr ⟨rfl, List.forall_mem_cons.mpr ⟨rfl, List.forall_mem_cons.mpr ⟨rfl, fun _ h => absurd h List.not_mem_nil⟩⟩⟩⟩⟩) ?_
  exact L1192 2002 0 0 μ hT mF.refl (rW (c := 0) (d := 2000) (rR (x := 0)) rfl) (rW (c := 0) (d := 30) (rR (x := 0)) rfl) hIPC hIRT R18 vc_X1_goThrough_W12_41 ((((((hQ.2 h1) z4 q5 h6).2 h7) b10 q11 A12) c13 q15) z14 q17)
def WJ_X1_doActs_W0_2 (w : mW) (rec1 : (Int × mM) → Prop) (z1989 : Int) (μ2019 : mM) (μ2114 : mM) : Prop := mT w μ2114 → mF [21007, 200007, 201999] w μ2019 μ2114 → rec1 ((z1989 + 1), μ2114)
def WL_X1_doActs_W0_1 (w : mW) (μ : mM) (a1 : Nat) (p2 : Int) (p3 : Int) (p4 : Int) (Q : mM → Prop) (rec1 : (Int × mM) → Prop) (s : (Int × mM)) : Prop := ∀ z1989 : Int, ∀ μ1990 : mM, s = (z1989, μ1990) → (0 ≤ z1989 ∧ z1989 ≤ 1000) → mT w μ1990 → mF [21006, 21007, 200004, 200006, 200007, 200008, 201999, 202999] w μ μ1990 → ((p3 ≤ z1989) → Q μ1990) ∧ ((z1989 < p3) → ∀ z2004 : Int, μ1990 21 7 = z2004 → (0 ≤ z2004 ∧ z2004 ≤ 2) → ((¬ z2004 = 0) → Q μ1990) ∧ ((z2004 = 0) → ∀ z2010 : Int, μ1990 a1 (((p2 + (z1989 * 2)) + 1).toNat) = z2010 → ((-2147483648) ≤ z2010 ∧ z2010 ≤ 2147483647) → ∀ z2014 : Int, μ1990 21 6 = z2014 → (0 ≤ z2014 ∧ z2014 ≤ 500) → ((z2014 < 500) → ∀ μ2019 : mM, mU μ1990 21 (6) (z2014 + 1) μ2019 → mT w μ2019 → ∀ z2022 : Int, μ2019 a1 ((p2 + (z1989 * 2)).toNat) = z2022 → ((-2147483648) ≤ z2022 ∧ z2022 ≤ 2147483647) → (z2022 = 12 → ∀ b2028 : Nat, μ2019 21 2 = (b2028 : Int) → mAt w b2028 200 → ∀ μ2031 : mM, mU μ2019 b2028 (4) z2010 μ2031 → mT w μ2031 → rec1 ((z1989 + 1), μ2031)) ∧ (¬ z2022 = 12 → (z2022 = 13 → ∀ b2036 : Nat, μ2019 21 2 = (b2036 : Int) → mAt w b2036 200 → ∀ μ2039 : mM, mU μ2019 b2036 (6) z2010 μ2039 → mT w μ2039 → rec1 ((z1989 + 1), μ2039)) ∧ (¬ z2022 = 13 → (z2022 = 14 → rec1 ((z1989 + 1), μ2019)) ∧ (¬ z2022 = 14 → (z2022 = 15 → rec1 ((z1989 + 1), μ2019)) ∧ (¬ z2022 = 15 → (z2022 = 16 → rec1 ((z1989 + 1), μ2019)) ∧ (¬ z2022 = 16 → (z2022 = 17 → rec1 ((z1989 + 1), μ2019)) ∧ (¬ z2022 = 17 → (z2022 = 18 → rec1 ((z1989 + 1), μ2019)) ∧ (¬ z2022 = 18 → (z2022 = 19 → rec1 ((z1989 + 1), μ2019)) ∧ (¬ z2022 = 19 → (z2022 = 20 → rec1 ((z1989 + 1), μ2019)) ∧ (¬ z2022 = 20 → (z2022 = 21 → rec1 ((z1989 + 1), μ2019)) ∧ (¬ z2022 = 21 → (z2022 = 22 → rec1 ((z1989 + 1), μ2019)) ∧ (¬ z2022 = 22 → (z2022 = 23 → ∀ μ2063 : mM, mU μ2019 21 (7) (1 : Int) μ2063 → mT w μ2063 → rec1 ((z1989 + 1), μ2063)) ∧ (¬ z2022 = 23 → (z2022 = 24 → ∀ μ2069 : mM, mU μ2019 21 (7) (2 : Int) μ2069 → mT w μ2069 → rec1 ((z1989 + 1), μ2069)) ∧ (¬ z2022 = 24 → (z2022 = 25 → ∀ b2074 : Nat, μ2019 21 2 = (b2074 : Int) → mAt w b2074 200 → WP_X7_addMark_W w μ2019 b2074 z2010 (fun μ2077 => mT w μ2077 → mF [200008, 202999] w μ2019 μ2077 → rec1 ((z1989 + 1), μ2077))) ∧ (¬ z2022 = 25 → (z2022 = 26 → ∀ b2083 : Nat, μ2019 21 2 = (b2083 : Int) → mAt w b2083 200 → WP_X7_dropMark_W w μ2019 b2083 z2010 (fun μ2086 => mT w μ2086 → mF [200008, 202999] w μ2019 μ2086 → rec1 ((z1989 + 1), μ2086))) ∧ (¬ z2022 = 26 → (z2022 = 27 → ∀ b2092 : Nat, μ2019 21 2 = (b2092 : Int) → mAt w b2092 200 → ∀ z2095 : Int, μ2019 b2092 7 = z2095 → (0 ≤ z2095 ∧ z2095 ≤ 20) → ((z2095 ≤ 0) → (WJ_X1_doActs_W0_2 w rec1 z1989 μ2019) μ2019) ∧ ((0 < z2095) → ∀ z2126 : Int, μ2019 (b2092 + 1) ((0 : Int).toNat) = z2126 → ((-2147483648) ≤ z2126 ∧ z2126 ≤ 2147483647) → WP_X7_putInFront_W w μ2019 b2092 z2126 z2010 (fun z2133 μ2129 => mT w μ2129 → mF [200007, 201999] w μ2019 μ2129 → (0 ≤ z2133 ∧ z2133 ≤ 1) → ((¬ z2133 = 0) → (WJ_X1_doActs_W0_2 w rec1 z1989 μ2019) μ2129) ∧ ((z2133 = 0) → ∀ μ2138 : mM, mU μ2129 21 (7) (2 : Int) μ2138 → mT w μ2138 → (WJ_X1_doActs_W0_2 w rec1 z1989 μ2019) μ2138)))) ∧ (¬ z2022 = 27 → (z2022 = 28 → WP_X1_goThrough_W1 w μ2019 z2010 (p4 + 1) (fun μ2143 => mT w μ2143 → mF [21006, 21007, 200004, 200006, 200007, 200008, 201999, 202999] w μ2019 μ2143 → rec1 ((z1989 + 1), μ2143))) ∧ (¬ z2022 = 28 → rec1 ((z1989 + 1), μ2019))))))))))))))))))) ∧ ((500 ≤ z2014) → ∀ μ2148 : mM, mU μ1990 21 (7) (2 : Int) μ2148 → mT w μ2148 → Q μ2148)))
def WP_X1_doActs_W0 (w : mW) (μ : mM) (a1 : Nat) (p2 : Int) (p3 : Int) (p4 : Int) (Q : mM → Prop) : Prop := ∀ n_1 : Int, (w.2.2.1 a1 : Int) = n_1 → (0 ≤ n_1 ∧ n_1 ≤ 2000) → loopF (WL_X1_doActs_W0_1 w μ a1 p2 p3 p4 Q) False 1002 ((0 : Int), μ)
set_option maxRecDepth 4000 in
set_option maxHeartbeats 4000000 in
theorem c_X1_doActs_W0 {l : Launch} {D : va_G} {c : Nat → ClassId} {H0 : Heap} {sa : Nat × Nat × (Nat → Int32)} {w : mW} {μ : mM} (hw : mWF w) (hT : mT w μ) {a1 : Nat} (hA1 : mAt w a1 231) {p2 : Int} (hp2 : 0 ≤ p2 ∧ p2 ≤ 2000) {p3 : Int} (hp3 : 0 ≤ p3 ∧ p3 ≤ 1000) {p4 : Int} (hp4 : 0 ≤ p4 ∧ p4 ≤ 0) (hIPC : PC w μ) (hIRT : RT μ) (hlen : p2 + 2 * p3 ≤ (w.2.2.1 a1 : Int)) (harg : ∀ i : Int, 0 ≤ i → i < p3 → 0 ≤ μ a1 (p2 + 2 * i + 1).toNat ∧ μ a1 (p2 + 2 * i + 1).toNat ≤ 1000000) {Q : mM → Prop} (hQ : WP_X1_doActs_W0 w μ a1 p2 p3 p4 Q) : sC (gG l D c H0 sa) mX1_doActs 28 0 0 [.ref 21, .ref a1, iv p2, iv p3, iv p4] (mk w μ) (qV w [21006, 21007, 200004, 200006, 200007, 200008, 201999, 202999] μ (fun μ1 => Q μ1 ∧ True)) := by
  refine sC.of rfl (by decide) (le_t rfl) ?_
  refine mr_lvE (lv' := [(0, .ref 21), (1, .ref a1), (2, iv p2), (3, iv p3), (4, iv p4)]) rfl ?_
  obtain ⟨n_1, q2⟩ : ∃ n : Int, (w.2.2.1 a1 : Int) = n := ⟨_, rfl⟩
  have h3 : 0 ≤ n_1 ∧ n_1 ≤ 2000 := lnR (m := 2000) q2 hA1 rfl
  have h4 : p2 + 2 * p3 ≤ n_1 := lnLe q2 hlen
  refine mr_iconst (pc := 0) (z := 0) dX1_doActs_0 ?_
  refine mr_istore (pc := 1) (lv' := [(5, iv 0), (0, .ref 21), (1, .ref a1), (2, iv p2), (3, iv p3), (4, iv p4)]) dX1_doActs_1 (by decide) rfl ?_
  have L1991 : ∀ (nL1991 : Nat) (z1989 : Int) (μ1990 : mM), mT w μ1990 → mF [21006, 21007, 200004, 200006, 200007, 200008, 201999, 202999] w μ μ1990 → (0 ≤ z1989 ∧ z1989 ≤ 1000) → PC w μ1990 → RT μ1990 → (1001 - z1989) < (nL1991 : Int) → loopF (WL_X1_doActs_W0_1 w μ a1 p2 p3 p4 Q) False nL1991 (z1989, μ1990) → sV (gG l D c H0 sa) mX1_doActs (sRm 28 0 0) (sZ (gG l D c H0 sa) 0 0 (qV w [21006, 21007, 200004, 200006, 200007, 200008, 201999, 202999] μ (fun μ1 => Q μ1 ∧ True))) 3 [(0, .ref 21), (1, .ref a1), (2, iv p2), (3, iv p3), (4, iv p4), (5, iv z1989)] [] (mk w μ1990) 0 0 := by
    intro nL1991
    induction nL1991 with
    | zero => intro z1989 μ1990 T1993 F1994 h1992 I1996 I1997 h1998 W1999; exact ((vc_X1_doActs_W12_1 h1998 h1992)).elim
    | succ nL1991 ih2000 =>
      intro z1989 μ1990 T1993 F1994 h1992 I1996 I1997 h1998 W1999
      refine mr_iload (pc := 3) (z := z1989) dX1_doActs_3 rfl ?_
      refine mr_iload_n (pc := 5) (z := p3) dX1_doActs_5 rfl rfl ?_
      refine mr_icmp_ge (pc := 6) (tgt := 266) dX1_doActs_6 (by decide) (r32 h1992 rfl) (r32 hp3 rfl) (fun h2001 => ?_) (fun h2001 => ?_)
      · exact mr_vret dX1_doActs_266 rfl (le_t rfl) (le_t rfl) T1993 (mF.call mF.refl F1994 rfl) ⟨((W1999 z1989 μ1990 rfl h1992 T1993 F1994).1 h2001), trivial⟩
      have h2002 : 0 ≤ z1989 ∧ z1989 ≤ 999 := (vc_X1_doActs_W12_2 h2001 h4 h3 hp2 hp3 h1992)
      have h2003 : 1 ≤ p3 ∧ p3 ≤ 1000 := (vc_X1_doActs_W12_3 h2001 h4 h3 hp2 hp3 h2002)
      refine sv_aload_n (pc := 9) dX1_doActs_9 rfl rfl ?_
      refine gf_X1_7 (pc := 10) dX1_doActs_10 wF_X1_50 (A_21 hw) T1993 fun z2004 q2005 h2006 => ?_
      refine mr_if_ne (pc := 13) (tgt := 266) dX1_doActs_13 (by decide) (r32 h2006 rfl) (fun h2007 => ?_) (fun h2007 => ?_)
      · have h2008 : 1 ≤ z2004 ∧ z2004 ≤ 2 := (vc_X12_provides_3 h2007 h2006)
        exact mr_vret dX1_doActs_266 rfl (le_t rfl) (le_t rfl) T1993 (mF.call mF.refl F1994 rfl) ⟨((((W1999 z1989 μ1990 rfl h1992 T1993 F1994).2 h2001) z2004 q2005 h2006).1 h2007), trivial⟩
      have h2009 : 0 ≤ z2004 ∧ z2004 ≤ 0 := (vc_X12_provides_4 h2007 h2006)
      refine sv_aload_n (pc := 16) dX1_doActs_16 rfl rfl ?_
      refine mr_iload_n (pc := 17) (z := p2) dX1_doActs_17 rfl rfl ?_
      refine mr_iload (pc := 18) (z := z1989) dX1_doActs_18 rfl ?_
      refine mr_iconst (pc := 20) (z := 2) dX1_doActs_20 ?_
      refine mr_imul (pc := 21) (x := z1989) (y := 2) dX1_doActs_21 ?_
      refine mr_iadd (pc := 22) (x := p2) (y := (z1989 * 2)) dX1_doActs_22 ?_
      refine mr_iconst (pc := 23) (z := 1) dX1_doActs_23 ?_
      refine mr_iadd (pc := 24) (x := (p2 + (z1989 * 2))) (y := 1) dX1_doActs_24 ?_
      refine la_231 (pc := 25) dX1_doActs_25 hA1 T1993 (lnC q2 (vc_X1_doActs_W12_6 h4 h2001 h3 hp2 h2003 h2002)) fun z2010 q2011 h2012 => ?_
      have h2013 : 0 ≤ z2010 ∧ z2010 ≤ 1000000 := argB harg (vc_X1_doActs_W12_7 h2001 h4 h3 hp2 h2003 h2002) (vc_X1_doActs_W12_8 h4 h2001 h3 hp2 h2003 h2002) (vc_X1_doActs_W12_9 h4 h2001 h3 hp2 h2003 h2002) (((mF.call mF.refl F1994 rfl) : mF [21006, 21007, 200004, 200006, 200007, 200008, 201999, 202999] w μ μ1990).f hA1 rfl rfl) q2011
      refine mr_istore (pc := 26) (lv' := [(6, iv z2010), (0, .ref 21), (1, .ref a1), (2, iv p2), (3, iv p3), (4, iv p4), (5, iv z1989)]) dX1_doActs_26 (by decide) rfl ?_
      refine sv_aload_n (pc := 28) dX1_doActs_28 rfl rfl ?_
      refine gf_X1_6 (pc := 29) dX1_doActs_29 wF_X1_47 (A_21 hw) T1993 fun z2014 q2015 h2016 => ?_
      refine mr_sipush (pc := 32) (z := 500) dX1_doActs_32 (by decide) ?_
      refine mr_icmp_lt (pc := 35) (tgt := 44) dX1_doActs_35 (by decide) (r32 h2016 rfl) (r32 (rR (x := 500)) rfl) (fun h2017 => ?_) (fun h2017 => ?_)
      · have h2018 : 0 ≤ z2014 ∧ z2014 ≤ 499 := (vc_X1_doActs_W12_10 h2017 h2016)
        refine sv_aload_n (pc := 44) dX1_doActs_44 rfl rfl ?_
        refine sv_dup (pc := 45) dX1_doActs_45 rfl ?_
        refine gk_X1_6 (pc := 46) dX1_doActs_46 wF_X1_47 (A_21 hw) q2015 ?_
        refine mr_iconst (pc := 49) (z := 1) dX1_doActs_49 ?_
        refine mr_iadd (pc := 50) (x := z2014) (y := 1) dX1_doActs_50 ?_
        refine pf_X1_6 (pc := 51) dX1_doActs_51 wF_X1_47 (A_21 hw) T1993 (rW (c := 0) (d := 500) (rAdd (e := 1) (f := 500) h2018 (rR (x := 1)) rfl) rfl) fun μ2019 u2020 T2021 => ?_
        refine sv_aload_n (pc := 54) dX1_doActs_54 rfl rfl ?_
        refine mr_iload_n (pc := 55) (z := p2) dX1_doActs_55 rfl rfl ?_
        refine mr_iload (pc := 56) (z := z1989) dX1_doActs_56 rfl ?_
        refine mr_iconst (pc := 58) (z := 2) dX1_doActs_58 ?_
        refine mr_imul (pc := 59) (x := z1989) (y := 2) dX1_doActs_59 ?_
        refine mr_iadd (pc := 60) (x := p2) (y := (z1989 * 2)) dX1_doActs_60 ?_
        refine la_231 (pc := 61) dX1_doActs_61 hA1 T2021 (lnC q2 (vc_X1_doActs_W12_11 h4 h2001 h3 hp2 h2003 h2002)) fun z2022 q2023 h2024 => ?_
        have W2026 := (((((((((W1999 z1989 μ1990 rfl h1992 T1993 F1994).2 h2001) z2004 q2005 h2006).2 h2007) z2010 q2011 h2012) z2014 q2015 h2016).1 h2017) μ2019 u2020 T2021) z2022 q2023 h2024)
        by_cases h2025 : z2022 = 12
        · refine mr_tableIn (pc := 62) (v := 12) (tgt := 184) dX1_doActs_62 h2025 rfl rfl (by decide) ?_
          have h2027 : 12 ≤ z2022 ∧ z2022 ≤ 12 := (vc_X1_doActs_W12_12 h2025 h2024)
          refine sv_aload_n (pc := 184) dX1_doActs_184 rfl rfl ?_
          refine gf_X1_2 (pc := 185) dX1_doActs_185 wF_X1_25 (A_21 hw) T2021 (RT.keep I1997 hw ((mF.up mF.refl (A_21 hw) u2020 rfl) : mF [21006] w μ1990 μ2019) rfl) fun b2028 q2029 A2030 => ?_
          refine mr_iload (pc := 188) (z := z2010) dX1_doActs_188 rfl ?_
          refine pf_X7_4 (pc := 190) dX1_doActs_190 wF_X1_105 A2030 T2021 (rW (c := (-2147483648)) (d := 2147483647) h2013 rfl) fun μ2031 u2032 T2033 => ?_
          refine sv_goto (pc := 193) (tgt := 260) dX1_doActs_193 (by decide) ?_
          refine mr_iinc (pc := 260) (lv' := [(5, iv (z1989 + 1)), (6, iv z2010), (0, .ref 21), (1, .ref a1), (2, iv p2), (3, iv p3), (4, iv p4)]) dX1_doActs_260 rfl (by decide) rfl ?_
          refine sv_goto (pc := 263) (tgt := 3) dX1_doActs_263 (by decide) ?_
          refine mr_lvS (lv' := [(0, .ref 21), (1, .ref a1), (2, iv p2), (3, iv p3), (4, iv p4), (5, iv (z1989 + 1))]) (List.forall_mem_cons.mpr ⟨rfl, List.forall_mem_cons.mpr ⟨rfl, List.forall_mem_cons.mpr ⟨rfl, List.forall_mem_cons.mpr ⟨rfl, List.forall_mem_cons.mpr ⟨rfl, List.forall_mem_cons.mpr ⟨rfl, fun _ h => absurd h List.not_mem_nil⟩⟩⟩⟩⟩⟩) ?_
          exact ih2000 (z1989 + 1) μ2031 T2033 (mF.up (mF.up (mF.call mF.refl F1994 rfl) (A_21 hw) u2020 rfl) A2030 u2032 rfl) (rW (c := 0) (d := 1000) (rAdd (e := 1) (f := 1000) h2002 (rR (x := 1)) rfl) rfl) (PC.keep I1996 hw ((mF.up (mF.up mF.refl (A_21 hw) u2020 rfl) A2030 u2032 rfl) : mF [21006, 200004] w μ1990 μ2031) rfl) (RT.keep I1997 hw ((mF.up (mF.up mF.refl (A_21 hw) u2020 rfl) A2030 u2032 rfl) : mF [21006, 200004] w μ1990 μ2031) rfl) (vc_X1_doActs_W12_13 (nS h1998) h2001 h4 h3 hp2 h2003 h2002) (((W2026.1 h2025) b2028 q2029 A2030) μ2031 u2032 T2033)
        by_cases h2034 : z2022 = 13
        · refine mr_tableIn (pc := 62) (v := 13) (tgt := 196) dX1_doActs_62 h2034 rfl rfl (by decide) ?_
          have h2035 : 13 ≤ z2022 ∧ z2022 ≤ 13 := (vc_X1_doActs_W12_14 h2034 h2025 h2024)
          refine sv_aload_n (pc := 196) dX1_doActs_196 rfl rfl ?_
          refine gf_X1_2 (pc := 197) dX1_doActs_197 wF_X1_25 (A_21 hw) T2021 (RT.keep I1997 hw ((mF.up mF.refl (A_21 hw) u2020 rfl) : mF [21006] w μ1990 μ2019) rfl) fun b2036 q2037 A2038 => ?_
          refine mr_iload (pc := 200) (z := z2010) dX1_doActs_200 rfl ?_
          refine pf_X7_6 (pc := 202) dX1_doActs_202 wF_X1_108 A2038 T2021 (rW (c := (-2147483648)) (d := 2147483647) h2013 rfl) fun μ2039 u2040 T2041 => ?_
          refine sv_goto (pc := 205) (tgt := 260) dX1_doActs_205 (by decide) ?_
          refine mr_iinc (pc := 260) (lv' := [(5, iv (z1989 + 1)), (6, iv z2010), (0, .ref 21), (1, .ref a1), (2, iv p2), (3, iv p3), (4, iv p4)]) dX1_doActs_260 rfl (by decide) rfl ?_
          refine sv_goto (pc := 263) (tgt := 3) dX1_doActs_263 (by decide) ?_
          refine mr_lvS (lv' := [(0, .ref 21), (1, .ref a1), (2, iv p2), (3, iv p3), (4, iv p4), (5, iv (z1989 + 1))]) (List.forall_mem_cons.mpr ⟨rfl, List.forall_mem_cons.mpr ⟨rfl, List.forall_mem_cons.mpr ⟨rfl, List.forall_mem_cons.mpr ⟨rfl, List.forall_mem_cons.mpr ⟨rfl, List.forall_mem_cons.mpr ⟨rfl, fun _ h => absurd h List.not_mem_nil⟩⟩⟩⟩⟩⟩) ?_
          exact ih2000 (z1989 + 1) μ2039 T2041 (mF.up (mF.up (mF.call mF.refl F1994 rfl) (A_21 hw) u2020 rfl) A2038 u2040 rfl) (rW (c := 0) (d := 1000) (rAdd (e := 1) (f := 1000) h2002 (rR (x := 1)) rfl) rfl) (PC.keep I1996 hw ((mF.up (mF.up mF.refl (A_21 hw) u2020 rfl) A2038 u2040 rfl) : mF [21006, 200006] w μ1990 μ2039) rfl) (RT.keep I1997 hw ((mF.up (mF.up mF.refl (A_21 hw) u2020 rfl) A2038 u2040 rfl) : mF [21006, 200006] w μ1990 μ2039) rfl) (vc_X1_doActs_W12_13 (nS h1998) h2001 h4 h3 hp2 h2003 h2002) ((((W2026.2 h2025).1 h2034) b2036 q2037 A2038) μ2039 u2040 T2041)
        by_cases h2042 : z2022 = 14
        · refine mr_tableIn (pc := 62) (v := 14) (tgt := 260) dX1_doActs_62 h2042 rfl rfl (by decide) ?_
          have h2043 : 14 ≤ z2022 ∧ z2022 ≤ 14 := (vc_X1_doActs_W12_15 h2042 h2025 h2034 h2024)
          refine mr_iinc (pc := 260) (lv' := [(5, iv (z1989 + 1)), (6, iv z2010), (0, .ref 21), (1, .ref a1), (2, iv p2), (3, iv p3), (4, iv p4)]) dX1_doActs_260 rfl (by decide) rfl ?_
          refine sv_goto (pc := 263) (tgt := 3) dX1_doActs_263 (by decide) ?_
          refine mr_lvS (lv' := [(0, .ref 21), (1, .ref a1), (2, iv p2), (3, iv p3), (4, iv p4), (5, iv (z1989 + 1))]) (List.forall_mem_cons.mpr ⟨rfl, List.forall_mem_cons.mpr ⟨rfl, List.forall_mem_cons.mpr ⟨rfl, List.forall_mem_cons.mpr ⟨rfl, List.forall_mem_cons.mpr ⟨rfl, List.forall_mem_cons.mpr ⟨rfl, fun _ h => absurd h List.not_mem_nil⟩⟩⟩⟩⟩⟩) ?_
          exact ih2000 (z1989 + 1) μ2019 T2021 (mF.up (mF.call mF.refl F1994 rfl) (A_21 hw) u2020 rfl) (rW (c := 0) (d := 1000) (rAdd (e := 1) (f := 1000) h2002 (rR (x := 1)) rfl) rfl) (PC.keep I1996 hw ((mF.up mF.refl (A_21 hw) u2020 rfl) : mF [21006] w μ1990 μ2019) rfl) (RT.keep I1997 hw ((mF.up mF.refl (A_21 hw) u2020 rfl) : mF [21006] w μ1990 μ2019) rfl) (vc_X1_doActs_W12_13 (nS h1998) h2001 h4 h3 hp2 h2003 h2002) (((W2026.2 h2025).2 h2034).1 h2042)
        by_cases h2044 : z2022 = 15
        · refine mr_tableIn (pc := 62) (v := 15) (tgt := 260) dX1_doActs_62 h2044 rfl rfl (by decide) ?_
          have h2045 : 15 ≤ z2022 ∧ z2022 ≤ 15 := (vc_X1_doActs_W12_16 h2044 h2025 h2034 h2042 h2024)
          refine mr_iinc (pc := 260) (lv' := [(5, iv (z1989 + 1)), (6, iv z2010), (0, .ref 21), (1, .ref a1), (2, iv p2), (3, iv p3), (4, iv p4)]) dX1_doActs_260 rfl (by decide) rfl ?_
          refine sv_goto (pc := 263) (tgt := 3) dX1_doActs_263 (by decide) ?_
          refine mr_lvS (lv' := [(0, .ref 21), (1, .ref a1), (2, iv p2), (3, iv p3), (4, iv p4), (5, iv (z1989 + 1))]) (List.forall_mem_cons.mpr ⟨rfl, List.forall_mem_cons.mpr ⟨rfl, List.forall_mem_cons.mpr ⟨rfl, List.forall_mem_cons.mpr ⟨rfl, List.forall_mem_cons.mpr ⟨rfl, List.forall_mem_cons.mpr ⟨rfl, fun _ h => absurd h List.not_mem_nil⟩⟩⟩⟩⟩⟩) ?_
          exact ih2000 (z1989 + 1) μ2019 T2021 (mF.up (mF.call mF.refl F1994 rfl) (A_21 hw) u2020 rfl) (rW (c := 0) (d := 1000) (rAdd (e := 1) (f := 1000) h2002 (rR (x := 1)) rfl) rfl) (PC.keep I1996 hw ((mF.up mF.refl (A_21 hw) u2020 rfl) : mF [21006] w μ1990 μ2019) rfl) (RT.keep I1997 hw ((mF.up mF.refl (A_21 hw) u2020 rfl) : mF [21006] w μ1990 μ2019) rfl) (vc_X1_doActs_W12_13 (nS h1998) h2001 h4 h3 hp2 h2003 h2002) ((((W2026.2 h2025).2 h2034).2 h2042).1 h2044)
        by_cases h2046 : z2022 = 16
        · refine mr_tableIn (pc := 62) (v := 16) (tgt := 260) dX1_doActs_62 h2046 rfl rfl (by decide) ?_
          have h2047 : 16 ≤ z2022 ∧ z2022 ≤ 16 := (vc_X1_doActs_W12_17 h2046 h2025 h2034 h2042 h2044 h2024)
          refine mr_iinc (pc := 260) (lv' := [(5, iv (z1989 + 1)), (6, iv z2010), (0, .ref 21), (1, .ref a1), (2, iv p2), (3, iv p3), (4, iv p4)]) dX1_doActs_260 rfl (by decide) rfl ?_
          refine sv_goto (pc := 263) (tgt := 3) dX1_doActs_263 (by decide) ?_
          refine mr_lvS (lv' := [(0, .ref 21), (1, .ref a1), (2, iv p2), (3, iv p3), (4, iv p4), (5, iv (z1989 + 1))]) (List.forall_mem_cons.mpr ⟨rfl, List.forall_mem_cons.mpr ⟨rfl, List.forall_mem_cons.mpr ⟨rfl, List.forall_mem_cons.mpr ⟨rfl, List.forall_mem_cons.mpr ⟨rfl, List.forall_mem_cons.mpr ⟨rfl, fun _ h => absurd h List.not_mem_nil⟩⟩⟩⟩⟩⟩) ?_
          exact ih2000 (z1989 + 1) μ2019 T2021 (mF.up (mF.call mF.refl F1994 rfl) (A_21 hw) u2020 rfl) (rW (c := 0) (d := 1000) (rAdd (e := 1) (f := 1000) h2002 (rR (x := 1)) rfl) rfl) (PC.keep I1996 hw ((mF.up mF.refl (A_21 hw) u2020 rfl) : mF [21006] w μ1990 μ2019) rfl) (RT.keep I1997 hw ((mF.up mF.refl (A_21 hw) u2020 rfl) : mF [21006] w μ1990 μ2019) rfl) (vc_X1_doActs_W12_13 (nS h1998) h2001 h4 h3 hp2 h2003 h2002) (((((W2026.2 h2025).2 h2034).2 h2042).2 h2044).1 h2046)
        by_cases h2048 : z2022 = 17
        · refine mr_tableIn (pc := 62) (v := 17) (tgt := 260) dX1_doActs_62 h2048 rfl rfl (by decide) ?_
          have h2049 : 17 ≤ z2022 ∧ z2022 ≤ 17 := (vc_X1_doActs_W12_18 h2048 h2025 h2034 h2042 h2044 h2046 h2024)
          refine mr_iinc (pc := 260) (lv' := [(5, iv (z1989 + 1)), (6, iv z2010), (0, .ref 21), (1, .ref a1), (2, iv p2), (3, iv p3), (4, iv p4)]) dX1_doActs_260 rfl (by decide) rfl ?_
          refine sv_goto (pc := 263) (tgt := 3) dX1_doActs_263 (by decide) ?_
          refine mr_lvS (lv' := [(0, .ref 21), (1, .ref a1), (2, iv p2), (3, iv p3), (4, iv p4), (5, iv (z1989 + 1))]) (List.forall_mem_cons.mpr ⟨rfl, List.forall_mem_cons.mpr ⟨rfl, List.forall_mem_cons.mpr ⟨rfl, List.forall_mem_cons.mpr ⟨rfl, List.forall_mem_cons.mpr ⟨rfl, List.forall_mem_cons.mpr ⟨rfl, fun _ h => absurd h List.not_mem_nil⟩⟩⟩⟩⟩⟩) ?_
          exact ih2000 (z1989 + 1) μ2019 T2021 (mF.up (mF.call mF.refl F1994 rfl) (A_21 hw) u2020 rfl) (rW (c := 0) (d := 1000) (rAdd (e := 1) (f := 1000) h2002 (rR (x := 1)) rfl) rfl) (PC.keep I1996 hw ((mF.up mF.refl (A_21 hw) u2020 rfl) : mF [21006] w μ1990 μ2019) rfl) (RT.keep I1997 hw ((mF.up mF.refl (A_21 hw) u2020 rfl) : mF [21006] w μ1990 μ2019) rfl) (vc_X1_doActs_W12_13 (nS h1998) h2001 h4 h3 hp2 h2003 h2002) ((((((W2026.2 h2025).2 h2034).2 h2042).2 h2044).2 h2046).1 h2048)
        have W2051 := ((((((W2026.2 h2025).2 h2034).2 h2042).2 h2044).2 h2046).2 h2048)
        by_cases h2050 : z2022 = 18
        · refine mr_tableIn (pc := 62) (v := 18) (tgt := 260) dX1_doActs_62 h2050 rfl rfl (by decide) ?_
          have h2052 : 18 ≤ z2022 ∧ z2022 ≤ 18 := (vc_X1_doActs_W12_19 h2050 h2025 h2034 h2042 h2044 h2046 h2048 h2024)
          refine mr_iinc (pc := 260) (lv' := [(5, iv (z1989 + 1)), (6, iv z2010), (0, .ref 21), (1, .ref a1), (2, iv p2), (3, iv p3), (4, iv p4)]) dX1_doActs_260 rfl (by decide) rfl ?_
          refine sv_goto (pc := 263) (tgt := 3) dX1_doActs_263 (by decide) ?_
          refine mr_lvS (lv' := [(0, .ref 21), (1, .ref a1), (2, iv p2), (3, iv p3), (4, iv p4), (5, iv (z1989 + 1))]) (List.forall_mem_cons.mpr ⟨rfl, List.forall_mem_cons.mpr ⟨rfl, List.forall_mem_cons.mpr ⟨rfl, List.forall_mem_cons.mpr ⟨rfl, List.forall_mem_cons.mpr ⟨rfl, List.forall_mem_cons.mpr ⟨rfl, fun _ h => absurd h List.not_mem_nil⟩⟩⟩⟩⟩⟩) ?_
          exact ih2000 (z1989 + 1) μ2019 T2021 (mF.up (mF.call mF.refl F1994 rfl) (A_21 hw) u2020 rfl) (rW (c := 0) (d := 1000) (rAdd (e := 1) (f := 1000) h2002 (rR (x := 1)) rfl) rfl) (PC.keep I1996 hw ((mF.up mF.refl (A_21 hw) u2020 rfl) : mF [21006] w μ1990 μ2019) rfl) (RT.keep I1997 hw ((mF.up mF.refl (A_21 hw) u2020 rfl) : mF [21006] w μ1990 μ2019) rfl) (vc_X1_doActs_W12_13 (nS h1998) h2001 h4 h3 hp2 h2003 h2002) (W2051.1 h2050)
        by_cases h2053 : z2022 = 19
        · refine mr_tableIn (pc := 62) (v := 19) (tgt := 260) dX1_doActs_62 h2053 rfl rfl (by decide) ?_
          have h2054 : 19 ≤ z2022 ∧ z2022 ≤ 19 := (vc_X1_doActs_W12_20 h2053 h2025 h2034 h2042 h2044 h2046 h2048 h2050 h2024)
          refine mr_iinc (pc := 260) (lv' := [(5, iv (z1989 + 1)), (6, iv z2010), (0, .ref 21), (1, .ref a1), (2, iv p2), (3, iv p3), (4, iv p4)]) dX1_doActs_260 rfl (by decide) rfl ?_
          refine sv_goto (pc := 263) (tgt := 3) dX1_doActs_263 (by decide) ?_
          refine mr_lvS (lv' := [(0, .ref 21), (1, .ref a1), (2, iv p2), (3, iv p3), (4, iv p4), (5, iv (z1989 + 1))]) (List.forall_mem_cons.mpr ⟨rfl, List.forall_mem_cons.mpr ⟨rfl, List.forall_mem_cons.mpr ⟨rfl, List.forall_mem_cons.mpr ⟨rfl, List.forall_mem_cons.mpr ⟨rfl, List.forall_mem_cons.mpr ⟨rfl, fun _ h => absurd h List.not_mem_nil⟩⟩⟩⟩⟩⟩) ?_
          exact ih2000 (z1989 + 1) μ2019 T2021 (mF.up (mF.call mF.refl F1994 rfl) (A_21 hw) u2020 rfl) (rW (c := 0) (d := 1000) (rAdd (e := 1) (f := 1000) h2002 (rR (x := 1)) rfl) rfl) (PC.keep I1996 hw ((mF.up mF.refl (A_21 hw) u2020 rfl) : mF [21006] w μ1990 μ2019) rfl) (RT.keep I1997 hw ((mF.up mF.refl (A_21 hw) u2020 rfl) : mF [21006] w μ1990 μ2019) rfl) (vc_X1_doActs_W12_13 (nS h1998) h2001 h4 h3 hp2 h2003 h2002) ((W2051.2 h2050).1 h2053)
        by_cases h2055 : z2022 = 20
        · refine mr_tableIn (pc := 62) (v := 20) (tgt := 260) dX1_doActs_62 h2055 rfl rfl (by decide) ?_
          have h2056 : 20 ≤ z2022 ∧ z2022 ≤ 20 := (vc_X1_doActs_W12_21 h2055 h2034 h2042 h2044 h2046 h2048 h2050 h2053 h2024)
          refine mr_iinc (pc := 260) (lv' := [(5, iv (z1989 + 1)), (6, iv z2010), (0, .ref 21), (1, .ref a1), (2, iv p2), (3, iv p3), (4, iv p4)]) dX1_doActs_260 rfl (by decide) rfl ?_
          refine sv_goto (pc := 263) (tgt := 3) dX1_doActs_263 (by decide) ?_
          refine mr_lvS (lv' := [(0, .ref 21), (1, .ref a1), (2, iv p2), (3, iv p3), (4, iv p4), (5, iv (z1989 + 1))]) (List.forall_mem_cons.mpr ⟨rfl, List.forall_mem_cons.mpr ⟨rfl, List.forall_mem_cons.mpr ⟨rfl, List.forall_mem_cons.mpr ⟨rfl, List.forall_mem_cons.mpr ⟨rfl, List.forall_mem_cons.mpr ⟨rfl, fun _ h => absurd h List.not_mem_nil⟩⟩⟩⟩⟩⟩) ?_
          exact ih2000 (z1989 + 1) μ2019 T2021 (mF.up (mF.call mF.refl F1994 rfl) (A_21 hw) u2020 rfl) (rW (c := 0) (d := 1000) (rAdd (e := 1) (f := 1000) h2002 (rR (x := 1)) rfl) rfl) (PC.keep I1996 hw ((mF.up mF.refl (A_21 hw) u2020 rfl) : mF [21006] w μ1990 μ2019) rfl) (RT.keep I1997 hw ((mF.up mF.refl (A_21 hw) u2020 rfl) : mF [21006] w μ1990 μ2019) rfl) (vc_X1_doActs_W12_13 (nS h1998) h2001 h4 h3 hp2 h2003 h2002) (((W2051.2 h2050).2 h2053).1 h2055)
        by_cases h2057 : z2022 = 21
        · refine mr_tableIn (pc := 62) (v := 21) (tgt := 260) dX1_doActs_62 h2057 rfl rfl (by decide) ?_
          have h2058 : 21 ≤ z2022 ∧ z2022 ≤ 21 := (vc_X1_doActs_W12_22 h2057 h2042 h2044 h2046 h2048 h2050 h2053 h2055 h2024)
          refine mr_iinc (pc := 260) (lv' := [(5, iv (z1989 + 1)), (6, iv z2010), (0, .ref 21), (1, .ref a1), (2, iv p2), (3, iv p3), (4, iv p4)]) dX1_doActs_260 rfl (by decide) rfl ?_
          refine sv_goto (pc := 263) (tgt := 3) dX1_doActs_263 (by decide) ?_
          refine mr_lvS (lv' := [(0, .ref 21), (1, .ref a1), (2, iv p2), (3, iv p3), (4, iv p4), (5, iv (z1989 + 1))]) (List.forall_mem_cons.mpr ⟨rfl, List.forall_mem_cons.mpr ⟨rfl, List.forall_mem_cons.mpr ⟨rfl, List.forall_mem_cons.mpr ⟨rfl, List.forall_mem_cons.mpr ⟨rfl, List.forall_mem_cons.mpr ⟨rfl, fun _ h => absurd h List.not_mem_nil⟩⟩⟩⟩⟩⟩) ?_
          exact ih2000 (z1989 + 1) μ2019 T2021 (mF.up (mF.call mF.refl F1994 rfl) (A_21 hw) u2020 rfl) (rW (c := 0) (d := 1000) (rAdd (e := 1) (f := 1000) h2002 (rR (x := 1)) rfl) rfl) (PC.keep I1996 hw ((mF.up mF.refl (A_21 hw) u2020 rfl) : mF [21006] w μ1990 μ2019) rfl) (RT.keep I1997 hw ((mF.up mF.refl (A_21 hw) u2020 rfl) : mF [21006] w μ1990 μ2019) rfl) (vc_X1_doActs_W12_13 (nS h1998) h2001 h4 h3 hp2 h2003 h2002) ((((W2051.2 h2050).2 h2053).2 h2055).1 h2057)
        by_cases h2059 : z2022 = 22
        · refine mr_tableIn (pc := 62) (v := 22) (tgt := 260) dX1_doActs_62 h2059 rfl rfl (by decide) ?_
          have h2060 : 22 ≤ z2022 ∧ z2022 ≤ 22 := (vc_X1_doActs_W12_23 h2059 h2044 h2046 h2048 h2050 h2053 h2055 h2057 h2024)
          refine mr_iinc (pc := 260) (lv' := [(5, iv (z1989 + 1)), (6, iv z2010), (0, .ref 21), (1, .ref a1), (2, iv p2), (3, iv p3), (4, iv p4)]) dX1_doActs_260 rfl (by decide) rfl ?_
          refine sv_goto (pc := 263) (tgt := 3) dX1_doActs_263 (by decide) ?_
          refine mr_lvS (lv' := [(0, .ref 21), (1, .ref a1), (2, iv p2), (3, iv p3), (4, iv p4), (5, iv (z1989 + 1))]) (List.forall_mem_cons.mpr ⟨rfl, List.forall_mem_cons.mpr ⟨rfl, List.forall_mem_cons.mpr ⟨rfl, List.forall_mem_cons.mpr ⟨rfl, List.forall_mem_cons.mpr ⟨rfl, List.forall_mem_cons.mpr ⟨rfl, fun _ h => absurd h List.not_mem_nil⟩⟩⟩⟩⟩⟩) ?_
          exact ih2000 (z1989 + 1) μ2019 T2021 (mF.up (mF.call mF.refl F1994 rfl) (A_21 hw) u2020 rfl) (rW (c := 0) (d := 1000) (rAdd (e := 1) (f := 1000) h2002 (rR (x := 1)) rfl) rfl) (PC.keep I1996 hw ((mF.up mF.refl (A_21 hw) u2020 rfl) : mF [21006] w μ1990 μ2019) rfl) (RT.keep I1997 hw ((mF.up mF.refl (A_21 hw) u2020 rfl) : mF [21006] w μ1990 μ2019) rfl) (vc_X1_doActs_W12_13 (nS h1998) h2001 h4 h3 hp2 h2003 h2002) (((((W2051.2 h2050).2 h2053).2 h2055).2 h2057).1 h2059)
        by_cases h2061 : z2022 = 23
        · refine mr_tableIn (pc := 62) (v := 23) (tgt := 144) dX1_doActs_62 h2061 rfl rfl (by decide) ?_
          have h2062 : 23 ≤ z2022 ∧ z2022 ≤ 23 := (vc_X1_doActs_W12_24 h2061 h2046 h2048 h2050 h2053 h2055 h2057 h2059 h2024)
          refine sv_aload_n (pc := 144) dX1_doActs_144 rfl rfl ?_
          refine mr_iconst (pc := 145) (z := 1) dX1_doActs_145 ?_
          refine pf_X1_7 (pc := 146) dX1_doActs_146 wF_X1_50 (A_21 hw) T2021 (rW (c := 0) (d := 2) (rR (x := 1)) rfl) fun μ2063 u2064 T2065 => ?_
          refine sv_goto (pc := 149) (tgt := 260) dX1_doActs_149 (by decide) ?_
          refine mr_iinc (pc := 260) (lv' := [(5, iv (z1989 + 1)), (6, iv z2010), (0, .ref 21), (1, .ref a1), (2, iv p2), (3, iv p3), (4, iv p4)]) dX1_doActs_260 rfl (by decide) rfl ?_
          refine sv_goto (pc := 263) (tgt := 3) dX1_doActs_263 (by decide) ?_
          refine mr_lvS (lv' := [(0, .ref 21), (1, .ref a1), (2, iv p2), (3, iv p3), (4, iv p4), (5, iv (z1989 + 1))]) (List.forall_mem_cons.mpr ⟨rfl, List.forall_mem_cons.mpr ⟨rfl, List.forall_mem_cons.mpr ⟨rfl, List.forall_mem_cons.mpr ⟨rfl, List.forall_mem_cons.mpr ⟨rfl, List.forall_mem_cons.mpr ⟨rfl, fun _ h => absurd h List.not_mem_nil⟩⟩⟩⟩⟩⟩) ?_
          exact ih2000 (z1989 + 1) μ2063 T2065 (mF.up (mF.up (mF.call mF.refl F1994 rfl) (A_21 hw) u2020 rfl) (A_21 hw) u2064 rfl) (rW (c := 0) (d := 1000) (rAdd (e := 1) (f := 1000) h2002 (rR (x := 1)) rfl) rfl) (PC.keep I1996 hw ((mF.up (mF.up mF.refl (A_21 hw) u2020 rfl) (A_21 hw) u2064 rfl) : mF [21006, 21007] w μ1990 μ2063) rfl) (RT.keep I1997 hw ((mF.up (mF.up mF.refl (A_21 hw) u2020 rfl) (A_21 hw) u2064 rfl) : mF [21006, 21007] w μ1990 μ2063) rfl) (vc_X1_doActs_W12_13 (nS h1998) h2001 h4 h3 hp2 h2003 h2002) (((((((W2051.2 h2050).2 h2053).2 h2055).2 h2057).2 h2059).1 h2061) μ2063 u2064 T2065)
        have W2067 := ((((((W2051.2 h2050).2 h2053).2 h2055).2 h2057).2 h2059).2 h2061)
        by_cases h2066 : z2022 = 24
        · refine mr_tableIn (pc := 62) (v := 24) (tgt := 152) dX1_doActs_62 h2066 rfl rfl (by decide) ?_
          have h2068 : 24 ≤ z2022 ∧ z2022 ≤ 24 := (vc_X1_doActs_W12_25 h2066 h2048 h2050 h2053 h2055 h2057 h2059 h2061 h2024)
          refine sv_aload_n (pc := 152) dX1_doActs_152 rfl rfl ?_
          refine mr_iconst (pc := 153) (z := 2) dX1_doActs_153 ?_
          refine pf_X1_7 (pc := 154) dX1_doActs_154 wF_X1_50 (A_21 hw) T2021 (rW (c := 0) (d := 2) (rR (x := 2)) rfl) fun μ2069 u2070 T2071 => ?_
          refine sv_goto (pc := 157) (tgt := 260) dX1_doActs_157 (by decide) ?_
          refine mr_iinc (pc := 260) (lv' := [(5, iv (z1989 + 1)), (6, iv z2010), (0, .ref 21), (1, .ref a1), (2, iv p2), (3, iv p3), (4, iv p4)]) dX1_doActs_260 rfl (by decide) rfl ?_
          refine sv_goto (pc := 263) (tgt := 3) dX1_doActs_263 (by decide) ?_
          refine mr_lvS (lv' := [(0, .ref 21), (1, .ref a1), (2, iv p2), (3, iv p3), (4, iv p4), (5, iv (z1989 + 1))]) (List.forall_mem_cons.mpr ⟨rfl, List.forall_mem_cons.mpr ⟨rfl, List.forall_mem_cons.mpr ⟨rfl, List.forall_mem_cons.mpr ⟨rfl, List.forall_mem_cons.mpr ⟨rfl, List.forall_mem_cons.mpr ⟨rfl, fun _ h => absurd h List.not_mem_nil⟩⟩⟩⟩⟩⟩) ?_
          exact ih2000 (z1989 + 1) μ2069 T2071 (mF.up (mF.up (mF.call mF.refl F1994 rfl) (A_21 hw) u2020 rfl) (A_21 hw) u2070 rfl) (rW (c := 0) (d := 1000) (rAdd (e := 1) (f := 1000) h2002 (rR (x := 1)) rfl) rfl) (PC.keep I1996 hw ((mF.up (mF.up mF.refl (A_21 hw) u2020 rfl) (A_21 hw) u2070 rfl) : mF [21006, 21007] w μ1990 μ2069) rfl) (RT.keep I1997 hw ((mF.up (mF.up mF.refl (A_21 hw) u2020 rfl) (A_21 hw) u2070 rfl) : mF [21006, 21007] w μ1990 μ2069) rfl) (vc_X1_doActs_W12_13 (nS h1998) h2001 h4 h3 hp2 h2003 h2002) ((W2067.1 h2066) μ2069 u2070 T2071)
        by_cases h2072 : z2022 = 25
        · refine mr_tableIn (pc := 62) (v := 25) (tgt := 160) dX1_doActs_62 h2072 rfl rfl (by decide) ?_
          have h2073 : 25 ≤ z2022 ∧ z2022 ≤ 25 := (vc_X1_doActs_W12_26 h2072 h2050 h2053 h2055 h2057 h2059 h2061 h2066 h2024)
          refine sv_aload_n (pc := 160) dX1_doActs_160 rfl rfl ?_
          refine gf_X1_2 (pc := 161) dX1_doActs_161 wF_X1_25 (A_21 hw) T2021 (RT.keep I1997 hw ((mF.up mF.refl (A_21 hw) u2020 rfl) : mF [21006] w μ1990 μ2019) rfl) fun b2074 q2075 A2076 => ?_
          refine mr_iload (pc := 164) (z := z2010) dX1_doActs_164 rfl ?_
          refine mr_cVV (pc := 166) (c_X7_addMark_W hw T2021 A2076 (rW (c := (-2147483648)) (d := 2147483647) h2013 rfl) (((W2067.2 h2066).1 h2072) b2074 q2075 A2076)) (gOk _ _ _ _ _) dX1_doActs_166 (tX7_addMark _ _ _ _ _) ⟨wV_X7_addMark, wL_X7_addMark⟩ wM_X1_124 (gCX7 _ _ _ _ _) rfl A2076 rfl ⟨le_t rfl, le_t rfl⟩ ⟨le_t rfl, le_t rfl⟩ rfl (le_t rfl) fun μ2077 T2078 F2079 h2080 => ?_
          refine sv_goto (pc := 169) (tgt := 260) dX1_doActs_169 (by decide) ?_
          refine mr_iinc (pc := 260) (lv' := [(5, iv (z1989 + 1)), (6, iv z2010), (0, .ref 21), (1, .ref a1), (2, iv p2), (3, iv p3), (4, iv p4)]) dX1_doActs_260 rfl (by decide) rfl ?_
          refine sv_goto (pc := 263) (tgt := 3) dX1_doActs_263 (by decide) ?_
          refine mr_lvS (lv' := [(0, .ref 21), (1, .ref a1), (2, iv p2), (3, iv p3), (4, iv p4), (5, iv (z1989 + 1))]) (List.forall_mem_cons.mpr ⟨rfl, List.forall_mem_cons.mpr ⟨rfl, List.forall_mem_cons.mpr ⟨rfl, List.forall_mem_cons.mpr ⟨rfl, List.forall_mem_cons.mpr ⟨rfl, List.forall_mem_cons.mpr ⟨rfl, fun _ h => absurd h List.not_mem_nil⟩⟩⟩⟩⟩⟩) ?_
          exact ih2000 (z1989 + 1) μ2077 T2078 (mF.call (mF.up (mF.call mF.refl F1994 rfl) (A_21 hw) u2020 rfl) F2079 rfl) (rW (c := 0) (d := 1000) (rAdd (e := 1) (f := 1000) h2002 (rR (x := 1)) rfl) rfl) (PC.keep I1996 hw ((mF.call (mF.up mF.refl (A_21 hw) u2020 rfl) F2079 rfl) : mF [21006, 200008, 202999] w μ1990 μ2077) rfl) (RT.keep I1997 hw ((mF.call (mF.up mF.refl (A_21 hw) u2020 rfl) F2079 rfl) : mF [21006, 200008, 202999] w μ1990 μ2077) rfl) (vc_X1_doActs_W12_13 (nS h1998) h2001 h4 h3 hp2 h2003 h2002) (h2080.1 T2078 F2079)
        by_cases h2081 : z2022 = 26
        · refine mr_tableIn (pc := 62) (v := 26) (tgt := 172) dX1_doActs_62 h2081 rfl rfl (by decide) ?_
          have h2082 : 26 ≤ z2022 ∧ z2022 ≤ 26 := (vc_X1_doActs_W12_27 h2081 h2053 h2055 h2057 h2059 h2061 h2066 h2072 h2024)
          refine sv_aload_n (pc := 172) dX1_doActs_172 rfl rfl ?_
          refine gf_X1_2 (pc := 173) dX1_doActs_173 wF_X1_25 (A_21 hw) T2021 (RT.keep I1997 hw ((mF.up mF.refl (A_21 hw) u2020 rfl) : mF [21006] w μ1990 μ2019) rfl) fun b2083 q2084 A2085 => ?_
          refine mr_iload (pc := 176) (z := z2010) dX1_doActs_176 rfl ?_
          refine mr_cVV (pc := 178) (c_X7_dropMark_W hw T2021 A2085 (rW (c := (-2147483648)) (d := 2147483647) h2013 rfl) ((((W2067.2 h2066).2 h2072).1 h2081) b2083 q2084 A2085)) (gOk _ _ _ _ _) dX1_doActs_178 (tX7_dropMark _ _ _ _ _) ⟨wV_X7_dropMark, wL_X7_dropMark⟩ wM_X1_128 (gCX7 _ _ _ _ _) rfl A2085 rfl ⟨le_t rfl, le_t rfl⟩ ⟨le_t rfl, le_t rfl⟩ rfl (le_t rfl) fun μ2086 T2087 F2088 h2089 => ?_
          refine sv_goto (pc := 181) (tgt := 260) dX1_doActs_181 (by decide) ?_
          refine mr_iinc (pc := 260) (lv' := [(5, iv (z1989 + 1)), (6, iv z2010), (0, .ref 21), (1, .ref a1), (2, iv p2), (3, iv p3), (4, iv p4)]) dX1_doActs_260 rfl (by decide) rfl ?_
          refine sv_goto (pc := 263) (tgt := 3) dX1_doActs_263 (by decide) ?_
          refine mr_lvS (lv' := [(0, .ref 21), (1, .ref a1), (2, iv p2), (3, iv p3), (4, iv p4), (5, iv (z1989 + 1))]) (List.forall_mem_cons.mpr ⟨rfl, List.forall_mem_cons.mpr ⟨rfl, List.forall_mem_cons.mpr ⟨rfl, List.forall_mem_cons.mpr ⟨rfl, List.forall_mem_cons.mpr ⟨rfl, List.forall_mem_cons.mpr ⟨rfl, fun _ h => absurd h List.not_mem_nil⟩⟩⟩⟩⟩⟩) ?_
          exact ih2000 (z1989 + 1) μ2086 T2087 (mF.call (mF.up (mF.call mF.refl F1994 rfl) (A_21 hw) u2020 rfl) F2088 rfl) (rW (c := 0) (d := 1000) (rAdd (e := 1) (f := 1000) h2002 (rR (x := 1)) rfl) rfl) (PC.keep I1996 hw ((mF.call (mF.up mF.refl (A_21 hw) u2020 rfl) F2088 rfl) : mF [21006, 200008, 202999] w μ1990 μ2086) rfl) (RT.keep I1997 hw ((mF.call (mF.up mF.refl (A_21 hw) u2020 rfl) F2088 rfl) : mF [21006, 200008, 202999] w μ1990 μ2086) rfl) (vc_X1_doActs_W12_13 (nS h1998) h2001 h4 h3 hp2 h2003 h2002) (h2089.1 T2087 F2088)
        by_cases h2090 : z2022 = 27
        · refine mr_tableIn (pc := 62) (v := 27) (tgt := 208) dX1_doActs_62 h2090 rfl rfl (by decide) ?_
          have h2091 : 27 ≤ z2022 ∧ z2022 ≤ 27 := (vc_X1_doActs_W12_28 h2090 h2055 h2057 h2059 h2061 h2066 h2072 h2081 h2024)
          refine sv_aload_n (pc := 208) dX1_doActs_208 rfl rfl ?_
          refine gf_X1_2 (pc := 209) dX1_doActs_209 wF_X1_25 (A_21 hw) T2021 (RT.keep I1997 hw ((mF.up mF.refl (A_21 hw) u2020 rfl) : mF [21006] w μ1990 μ2019) rfl) fun b2092 q2093 A2094 => ?_
          refine gf_X7_7 (pc := 212) dX1_doActs_212 wF_X1_96 A2094 T2021 fun z2095 q2096 h2097 => ?_
          have J2120 : ∀ (μ2114 : mM), (mT w μ2114) → (mF [21007, 200007, 201999] w μ2019 μ2114) → (PC w μ2114) → (RT μ2114) → ((WJ_X1_doActs_W0_2 w (loopF (WL_X1_doActs_W0_1 w μ a1 p2 p3 p4 Q) False nL1991) z1989 μ2019) μ2114) → sV (gG l D c H0 sa) mX1_doActs (sRm 28 0 0) (sZ (gG l D c H0 sa) 0 0 (qV w [21006, 21007, 200004, 200006, 200007, 200008, 201999, 202999] μ (fun μ1 => Q μ1 ∧ True))) 260 [(0, .ref 21), (1, .ref a1), (2, iv p2), (3, iv p3), (4, iv p4), (5, iv z1989)] [] (mk w μ2114) 0 0 := by
            intro μ2114 T2115 F2116 I2118 I2119 W2121
            refine mr_iinc (pc := 260) (lv' := [(5, iv (z1989 + 1)), (0, .ref 21), (1, .ref a1), (2, iv p2), (3, iv p3), (4, iv p4)]) dX1_doActs_260 rfl (by decide) rfl ?_
            refine sv_goto (pc := 263) (tgt := 3) dX1_doActs_263 (by decide) ?_
            refine mr_lvS (lv' := [(0, .ref 21), (1, .ref a1), (2, iv p2), (3, iv p3), (4, iv p4), (5, iv (z1989 + 1))]) (List.forall_mem_cons.mpr ⟨rfl, List.forall_mem_cons.mpr ⟨rfl, List.forall_mem_cons.mpr ⟨rfl, List.forall_mem_cons.mpr ⟨rfl, List.forall_mem_cons.mpr ⟨rfl, List.forall_mem_cons.mpr ⟨rfl, fun _ h => absurd h List.not_mem_nil⟩⟩⟩⟩⟩⟩) ?_
            exact ih2000 (z1989 + 1) μ2114 T2115 (mF.call (mF.up (mF.call mF.refl F1994 rfl) (A_21 hw) u2020 rfl) F2116 rfl) (rW (c := 0) (d := 1000) (rAdd (e := 1) (f := 1000) h2002 (rR (x := 1)) rfl) rfl) I2118 I2119 (vc_X1_doActs_W12_13 (nS h1998) h2001 h4 h3 hp2 h2003 h2002) (W2121 T2115 F2116)
          refine mr_if_le (pc := 215) (tgt := 260) dX1_doActs_215 (by decide) (r32 h2097 rfl) (fun h2122 => ?_) (fun h2122 => ?_)
          · have h2123 : 0 ≤ z2095 ∧ z2095 ≤ 0 := (vc_X12_write_57 h2122 h2097)
            refine mr_lvS (lv' := [(0, .ref 21), (1, .ref a1), (2, iv p2), (3, iv p3), (4, iv p4), (5, iv z1989)]) (List.forall_mem_cons.mpr ⟨rfl, List.forall_mem_cons.mpr ⟨rfl, List.forall_mem_cons.mpr ⟨rfl, List.forall_mem_cons.mpr ⟨rfl, List.forall_mem_cons.mpr ⟨rfl, List.forall_mem_cons.mpr ⟨rfl, fun _ h => absurd h List.not_mem_nil⟩⟩⟩⟩⟩⟩) ?_
            exact J2120 μ2019 T2021 mF.refl (PC.keep I1996 hw ((mF.up mF.refl (A_21 hw) u2020 rfl) : mF [21006] w μ1990 μ2019) rfl) (RT.keep I1997 hw ((mF.up mF.refl (A_21 hw) u2020 rfl) : mF [21006] w μ1990 μ2019) rfl) (((((((W2067.2 h2066).2 h2072).2 h2081).1 h2090) b2092 q2093 A2094) z2095 q2096 h2097).1 h2122)
          have h2124 : 1 ≤ z2095 ∧ z2095 ≤ 20 := (vc_X12_write_59 h2122 h2097)
          refine sv_aload_n (pc := 218) dX1_doActs_218 rfl rfl ?_
          refine gk_X1_2 (pc := 219) dX1_doActs_219 wF_X1_25 (A_21 hw) q2093 ?_
          refine sv_aload_n (pc := 222) dX1_doActs_222 rfl rfl ?_
          refine gk_X1_2 (pc := 223) dX1_doActs_223 wF_X1_25 (A_21 hw) q2093 ?_
          refine gf_X7_0 (pc := 226) dX1_doActs_226 wF_X1_114 A2094 T2021 fun A2125 => ?_
          refine mr_iconst (pc := 229) (z := 0) dX1_doActs_229 ?_
          refine la_201 (pc := 230) dX1_doActs_230 A2125 T2021 (rIx (n := 20) (rR (x := 0)) rfl) fun z2126 q2127 h2128 => ?_
          refine mr_iload (pc := 231) (z := z2010) dX1_doActs_231 rfl ?_
          have W2134 := ((((((((W2067.2 h2066).2 h2072).2 h2081).1 h2090) b2092 q2093 A2094) z2095 q2096 h2097).2 h2122) z2126 q2127 h2128)
          refine mr_cVI (pc := 233) (c_X7_putInFront_W hw T2021 A2094 h2128 (rW (c := (-2147483648)) (d := 1000000) h2013 rfl) W2134) (gOk _ _ _ _ _) dX1_doActs_233 (tX7_putInFront _ _ _ _ _) ⟨wV_X7_putInFront, wL_X7_putInFront⟩ wM_X1_131 (gCX7 _ _ _ _ _) rfl A2094 rfl ⟨le_t rfl, le_t rfl⟩ ⟨le_t rfl, le_t rfl⟩ rfl (le_t rfl) fun z2133 μ2129 T2130 F2131 h2132 => ?_
          refine mr_if_ne (pc := 236) (tgt := 260) dX1_doActs_236 (by decide) (r32 h2132.1 rfl) (fun h2135 => ?_) (fun h2135 => ?_)
          · have h2136 : 1 ≤ z2133 ∧ z2133 ≤ 1 := (vc_X12_ring_24 h2135 h2132.1)
            refine mr_lvS (lv' := [(0, .ref 21), (1, .ref a1), (2, iv p2), (3, iv p3), (4, iv p4), (5, iv z1989)]) (List.forall_mem_cons.mpr ⟨rfl, List.forall_mem_cons.mpr ⟨rfl, List.forall_mem_cons.mpr ⟨rfl, List.forall_mem_cons.mpr ⟨rfl, List.forall_mem_cons.mpr ⟨rfl, List.forall_mem_cons.mpr ⟨rfl, fun _ h => absurd h List.not_mem_nil⟩⟩⟩⟩⟩⟩) ?_
            exact J2120 μ2129 T2130 (mF.call mF.refl F2131 rfl) (PC.keep I1996 hw ((mF.call (mF.up mF.refl (A_21 hw) u2020 rfl) F2131 rfl) : mF [21006, 200007, 201999] w μ1990 μ2129) rfl) (RT.keep I1997 hw ((mF.call (mF.up mF.refl (A_21 hw) u2020 rfl) F2131 rfl) : mF [21006, 200007, 201999] w μ1990 μ2129) rfl) (((h2132.2.1 T2130 F2131) h2132.1).1 h2135)
          have h2137 : 0 ≤ z2133 ∧ z2133 ≤ 0 := (vc_X12_ring_22 h2135 h2132.1)
          refine sv_aload_n (pc := 239) dX1_doActs_239 rfl rfl ?_
          refine mr_iconst (pc := 240) (z := 2) dX1_doActs_240 ?_
          refine pf_X1_7 (pc := 241) dX1_doActs_241 wF_X1_50 (A_21 hw) T2130 (rW (c := 0) (d := 2) (rR (x := 2)) rfl) fun μ2138 u2139 T2140 => ?_
          refine sv_goto (pc := 244) (tgt := 260) dX1_doActs_244 (by decide) ?_
          refine mr_lvS (lv' := [(0, .ref 21), (1, .ref a1), (2, iv p2), (3, iv p3), (4, iv p4), (5, iv z1989)]) (List.forall_mem_cons.mpr ⟨rfl, List.forall_mem_cons.mpr ⟨rfl, List.forall_mem_cons.mpr ⟨rfl, List.forall_mem_cons.mpr ⟨rfl, List.forall_mem_cons.mpr ⟨rfl, List.forall_mem_cons.mpr ⟨rfl, fun _ h => absurd h List.not_mem_nil⟩⟩⟩⟩⟩⟩) ?_
          exact J2120 μ2138 T2140 (mF.up (mF.call mF.refl F2131 rfl) (A_21 hw) u2139 rfl) (PC.keep I1996 hw ((mF.up (mF.call (mF.up mF.refl (A_21 hw) u2020 rfl) F2131 rfl) (A_21 hw) u2139 rfl) : mF [21006, 21007, 200007, 201999] w μ1990 μ2138) rfl) (RT.keep I1997 hw ((mF.up (mF.call (mF.up mF.refl (A_21 hw) u2020 rfl) F2131 rfl) (A_21 hw) u2139 rfl) : mF [21006, 21007, 200007, 201999] w μ1990 μ2138) rfl) ((((h2132.2.1 T2130 F2131) h2132.1).2 h2135) μ2138 u2139 T2140)
        by_cases h2141 : z2022 = 28
        · refine mr_tableIn (pc := 62) (v := 28) (tgt := 247) dX1_doActs_62 h2141 rfl rfl (by decide) ?_
          have h2142 : 28 ≤ z2022 ∧ z2022 ≤ 28 := (vc_X1_doActs_W12_33 h2141 h2057 h2059 h2061 h2066 h2072 h2081 h2090 h2024)
          refine sv_aload_n (pc := 247) dX1_doActs_247 rfl rfl ?_
          refine mr_iload (pc := 248) (z := z2010) dX1_doActs_248 rfl ?_
          refine mr_iload (pc := 250) (z := p4) dX1_doActs_250 rfl ?_
          refine mr_iconst (pc := 252) (z := 1) dX1_doActs_252 ?_
          refine mr_iadd (pc := 253) (x := p4) (y := 1) dX1_doActs_253 ?_
          refine mr_cVV (pc := 254) (c_X1_goThrough_W1 hw T2021 (rW (c := (-2147483648)) (d := 2147483647) h2013 rfl) (rAdd (e := 1) (f := 1) hp4 (rR (x := 1)) rfl) (PC.keep I1996 hw ((mF.up mF.refl (A_21 hw) u2020 rfl) : mF [21006] w μ1990 μ2019) rfl) (RT.keep I1997 hw ((mF.up mF.refl (A_21 hw) u2020 rfl) : mF [21006] w μ1990 μ2019) rfl) (((((W2067.2 h2066).2 h2072).2 h2081).2 h2090).1 h2141)) (gOk _ _ _ _ _) dX1_doActs_254 (tX1_goThrough _ _ _ _ _) ⟨wV_X1_goThrough, wL_X1_goThrough⟩ wM_X1_53 (gCX1 _ _ _ _ _) rfl (A_21 hw) rfl ⟨le_t rfl, le_t rfl⟩ ⟨le_t rfl, le_t rfl⟩ rfl (le_t rfl) fun μ2143 T2144 F2145 h2146 => ?_
          refine sv_goto (pc := 257) (tgt := 260) dX1_doActs_257 (by decide) ?_
          refine mr_iinc (pc := 260) (lv' := [(5, iv (z1989 + 1)), (6, iv z2010), (0, .ref 21), (1, .ref a1), (2, iv p2), (3, iv p3), (4, iv p4)]) dX1_doActs_260 rfl (by decide) rfl ?_
          refine sv_goto (pc := 263) (tgt := 3) dX1_doActs_263 (by decide) ?_
          refine mr_lvS (lv' := [(0, .ref 21), (1, .ref a1), (2, iv p2), (3, iv p3), (4, iv p4), (5, iv (z1989 + 1))]) (List.forall_mem_cons.mpr ⟨rfl, List.forall_mem_cons.mpr ⟨rfl, List.forall_mem_cons.mpr ⟨rfl, List.forall_mem_cons.mpr ⟨rfl, List.forall_mem_cons.mpr ⟨rfl, List.forall_mem_cons.mpr ⟨rfl, fun _ h => absurd h List.not_mem_nil⟩⟩⟩⟩⟩⟩) ?_
          exact ih2000 (z1989 + 1) μ2143 T2144 (mF.call (mF.up (mF.call mF.refl F1994 rfl) (A_21 hw) u2020 rfl) F2145 rfl) (rW (c := 0) (d := 1000) (rAdd (e := 1) (f := 1000) h2002 (rR (x := 1)) rfl) rfl) (PC.keep I1996 hw ((mF.call (mF.up mF.refl (A_21 hw) u2020 rfl) F2145 rfl) : mF [21006, 21007, 200004, 200006, 200007, 200008, 201999, 202999] w μ1990 μ2143) rfl) (RT.keep I1997 hw ((mF.call (mF.up mF.refl (A_21 hw) u2020 rfl) F2145 rfl) : mF [21006, 21007, 200004, 200006, 200007, 200008, 201999, 202999] w μ1990 μ2143) rfl) (vc_X1_doActs_W12_13 (nS h1998) h2001 h4 h3 hp2 h2003 h2002) (h2146.1 T2144 F2145)
        refine mr_tableOut (pc := 62) (tgt := 260) dX1_doActs_62 h2024 (vc_X1_doActs_W12_34 h2025 h2034 h2042 h2044 h2046 h2048 h2050 h2053 h2055 h2057 h2059 h2061 h2066 h2072 h2081 h2090 h2141 h2024) (by decide) ?_
        refine mr_iinc (pc := 260) (lv' := [(5, iv (z1989 + 1)), (6, iv z2010), (0, .ref 21), (1, .ref a1), (2, iv p2), (3, iv p3), (4, iv p4)]) dX1_doActs_260 rfl (by decide) rfl ?_
        refine sv_goto (pc := 263) (tgt := 3) dX1_doActs_263 (by decide) ?_
        refine mr_lvS (lv' := [(0, .ref 21), (1, .ref a1), (2, iv p2), (3, iv p3), (4, iv p4), (5, iv (z1989 + 1))]) (List.forall_mem_cons.mpr ⟨rfl, List.forall_mem_cons.mpr ⟨rfl, List.forall_mem_cons.mpr ⟨rfl, List.forall_mem_cons.mpr ⟨rfl, List.forall_mem_cons.mpr ⟨rfl, List.forall_mem_cons.mpr ⟨rfl, fun _ h => absurd h List.not_mem_nil⟩⟩⟩⟩⟩⟩) ?_
        exact ih2000 (z1989 + 1) μ2019 T2021 (mF.up (mF.call mF.refl F1994 rfl) (A_21 hw) u2020 rfl) (rW (c := 0) (d := 1000) (rAdd (e := 1) (f := 1000) h2002 (rR (x := 1)) rfl) rfl) (PC.keep I1996 hw ((mF.up mF.refl (A_21 hw) u2020 rfl) : mF [21006] w μ1990 μ2019) rfl) (RT.keep I1997 hw ((mF.up mF.refl (A_21 hw) u2020 rfl) : mF [21006] w μ1990 μ2019) rfl) (vc_X1_doActs_W12_13 (nS h1998) h2001 h4 h3 hp2 h2003 h2002) (((((W2067.2 h2066).2 h2072).2 h2081).2 h2090).2 h2141)
      have h2147 : 500 ≤ z2014 ∧ z2014 ≤ 500 := (vc_X1_doActs_W12_35 h2017 h2016)
      refine sv_aload_n (pc := 38) dX1_doActs_38 rfl rfl ?_
      refine mr_iconst (pc := 39) (z := 2) dX1_doActs_39 ?_
      refine pf_X1_7 (pc := 40) dX1_doActs_40 wF_X1_50 (A_21 hw) T1993 (rW (c := 0) (d := 2) (rR (x := 2)) rfl) fun μ2148 u2149 T2150 => ?_
      exact mr_vret dX1_doActs_43 rfl (le_t rfl) (le_t rfl) T2150 (mF.up (mF.call mF.refl F1994 rfl) (A_21 hw) u2149 rfl) ⟨((((((((W1999 z1989 μ1990 rfl h1992 T1993 F1994).2 h2001) z2004 q2005 h2006).2 h2007) z2010 q2011 h2012) z2014 q2015 h2016).2 h2017) μ2148 u2149 T2150), trivial⟩
  refine mr_lvS (lv' := [(0, .ref 21), (1, .ref a1), (2, iv p2), (3, iv p3), (4, iv p4), (5, iv 0)]) (List.forall_mem_cons.mpr ⟨rfl, List.forall_mem_cons.mpr ⟨rfl, List.forall_mem_cons.mpr ⟨rfl, List.forall_mem_cons.mpr ⟨rfl, List.forall_mem_cons.mpr ⟨rfl, List.forall_mem_cons.mpr ⟨rfl, fun _ h => absurd h List.not_mem_nil⟩⟩⟩⟩⟩⟩) ?_
  exact L1991 1002 0 μ hT mF.refl (rW (c := 0) (d := 1000) (rR (x := 0)) rfl) hIPC hIRT vc_X6_split_v_102 (hQ n_1 q2 h3)
def WJ_X1_goThrough_W0_3 (w : mW) (p2 : Int) (c13 : Nat) (rec1 : (Int × Int × mM) → Prop) (z1190 : Int) (z1189 : Int) (μ1191 : mM) (z1340 : Int) (z1343 : Int) (z1468 : Int) : Prop := ((z1468 = 0) → rec1 ((((z1190 + 2) + (z1340 * 5)) + (z1343 * 2)), (z1189 + 1), μ1191)) ∧ ((¬ z1468 = 0) → WP_X1_doActs_W0 w μ1191 c13 ((z1190 + 2) + (z1340 * 5)) z1343 p2 (fun μ1505 => mT w μ1505 → mF [21006, 21007, 200004, 200006, 200007, 200008, 201999, 202999] w μ1191 μ1505 → rec1 ((((z1190 + 2) + (z1340 * 5)) + (z1343 * 2)), (z1189 + 1), μ1505)))
def WL_X1_goThrough_W0_2 (w : mW) (p2 : Int) (b10 : Nat) (c13 : Nat) (rec1 : (Int × Int × mM) → Prop) (z1190 : Int) (z1189 : Int) (μ1191 : mM) (z1340 : Int) (z1343 : Int) (rec2 : (Int × Int) → Prop) (s : (Int × Int)) : Prop := ∀ z1468 : Int, ∀ z1467 : Int, s = (z1468, z1467) → (0 ≤ z1468 ∧ z1468 ≤ 1) → (2 ≤ z1467 ∧ z1467 ≤ 2010) → ((((z1190 + 2) + (z1340 * 5)) ≤ z1467) → (WJ_X1_goThrough_W0_3 w p2 c13 rec1 z1190 z1189 μ1191 z1340 z1343 z1468) ) ∧ ((z1467 < ((z1190 + 2) + (z1340 * 5))) → ((z1468 = 0) → (WJ_X1_goThrough_W0_3 w p2 c13 rec1 z1190 z1189 μ1191 z1340 z1343 z1468) ) ∧ ((¬ z1468 = 0) → WP_X1_isSo_W w μ1191 b10 z1467 (fun z1517 _ => (0 ≤ z1517 ∧ z1517 ≤ 1) → ∀ z1518 : Int, μ1191 c13 ((z1467 + 1).toNat) = z1518 → ((-2147483648) ≤ z1518 ∧ z1518 ≤ 2147483647) → ((¬ z1518 = 1) → ((z1517 = 0) → rec2 ((0 : Int), (z1467 + 5))) ∧ ((¬ z1517 = 0) → rec2 ((1 : Int), (z1467 + 5)))) ∧ ((z1518 = 1) → ((z1517 = 1) → rec2 ((0 : Int), (z1467 + 5))) ∧ ((¬ z1517 = 1) → rec2 ((1 : Int), (z1467 + 5)))))))
def WL_X1_goThrough_W0_1 (w : mW) (μ : mM) (p2 : Int) (Q : mM → Prop) (b10 : Nat) (c13 : Nat) (z14 : Int) (rec1 : (Int × Int × mM) → Prop) (s : (Int × Int × mM)) : Prop := ∀ z1190 : Int, ∀ z1189 : Int, ∀ μ1191 : mM, s = (z1190, z1189, μ1191) → (0 ≤ z1190 ∧ z1190 ≤ 2000) → (0 ≤ z1189 ∧ z1189 ≤ 30) → mT w μ1191 → mF [21006, 21007, 200004, 200006, 200007, 200008, 201999, 202999] w μ μ1191 → ((z14 ≤ z1189) → Q μ1191) ∧ ((z1189 < z14) → ∀ z1271 : Int, μ1191 21 7 = z1271 → (0 ≤ z1271 ∧ z1271 ≤ 2) → ((¬ z1271 = 0) → Q μ1191) ∧ ((z1271 = 0) → ∀ n_1336 : Int, (w.2.2.1 c13 : Int) = n_1336 → (0 ≤ n_1336 ∧ n_1336 ≤ 2000) → ∀ z1340 : Int, μ1191 c13 (z1190.toNat) = z1340 → ((-2147483648) ≤ z1340 ∧ z1340 ≤ 2147483647) → ∀ z1343 : Int, μ1191 c13 ((z1190 + 1).toNat) = z1343 → ((-2147483648) ≤ z1343 ∧ z1343 ≤ 2147483647) → loopF (WL_X1_goThrough_W0_2 w p2 b10 c13 rec1 z1190 z1189 μ1191 z1340 z1343) False 2010 ((1 : Int), (z1190 + 2))))
def WP_X1_goThrough_W0 (w : mW) (μ : mM) (p1 : Int) (p2 : Int) (Q : mM → Prop) : Prop := ((p1 < 0) → Q μ) ∧ ((0 ≤ p1) → ∀ z4 : Int, μ 21 8 = z4 → (z4 = w.2.2.2 2 ∧ 0 ≤ z4 ∧ z4 ≤ 12) → ((z4 ≤ p1) → Q μ) ∧ ((p1 < z4) → ∀ b10 : Nat, μ 22 (p1.toNat) = (b10 : Int) → mAt w b10 230 → ∀ c13 : Nat, μ b10 1 = (c13 : Int) → ∀ z14 : Int, μ b10 0 = z14 → loopF (WL_X1_goThrough_W0_1 w μ p2 Q b10 c13 z14) False 2002 ((0 : Int), (0 : Int), μ)))
theorem vc_X1_goThrough_W0_5 {p2 : Int} (h0 : 12 < p2) (h1 : 0 ≤ p2 ∧ p2 ≤ 0) : False := by omega
set_option maxRecDepth 4000 in
set_option maxHeartbeats 4000000 in
theorem c_X1_goThrough_W0 {l : Launch} {D : va_G} {c : Nat → ClassId} {H0 : Heap} {sa : Nat × Nat × (Nat → Int32)} {w : mW} {μ : mM} (hw : mWF w) (hT : mT w μ) {p1 : Int} (hp1 : (-2147483648) ≤ p1 ∧ p1 ≤ 2147483647) {p2 : Int} (hp2 : 0 ≤ p2 ∧ p2 ≤ 0) (hIPC : PC w μ) (hIRT : RT μ) {Q : mM → Prop} (hQ : WP_X1_goThrough_W0 w μ p1 p2 Q) : sC (gG l D c H0 sa) mX1_goThrough 29 0 0 [.ref 21, iv p1, iv p2] (mk w μ) (qV w [21006, 21007, 200004, 200006, 200007, 200008, 201999, 202999] μ (fun μ1 => Q μ1 ∧ True)) := by
  refine sC.of rfl (by decide) (le_t rfl) ?_
  refine mr_lvE (lv' := [(0, .ref 21), (1, iv p1), (2, iv p2)]) rfl ?_
  refine mr_iload_n (pc := 0) (z := p1) dX1_goThrough_0 rfl rfl ?_
  refine mr_if_lt (pc := 1) (tgt := 18) dX1_goThrough_1 (by decide) hp1 (fun h1 => ?_) (fun h1 => ?_)
  · have h2 : (-2147483648) ≤ p1 ∧ p1 ≤ (-1) := (vc_X12_ring_60 h1 hp1)
    exact mr_vret dX1_goThrough_18 rfl (le_t rfl) (le_t rfl) hT mF.refl ⟨(hQ.1 h1), trivial⟩
  have h3 : 0 ≤ p1 ∧ p1 ≤ 2147483647 := (vc_X12_ring_1 h1 hp1)
  refine mr_iload_n (pc := 4) (z := p1) dX1_goThrough_4 rfl rfl ?_
  refine sv_aload_n (pc := 5) dX1_goThrough_5 rfl rfl ?_
  refine gf_X1_8 (pc := 6) dX1_goThrough_6 wF_X1_21 (A_21 hw) hT fun z4 q5 h6 => ?_
  refine mr_icmp_ge (pc := 9) (tgt := 18) dX1_goThrough_9 (by decide) (r32 h3 rfl) (r32 h6.2 rfl) (fun h7 => ?_) (fun h7 => ?_)
  · exact mr_vret dX1_goThrough_18 rfl (le_t rfl) (le_t rfl) hT mF.refl ⟨(((hQ.2 h1) z4 q5 h6).1 h7), trivial⟩
  have h8 : 0 ≤ p1 ∧ p1 ≤ 11 := (vc_X1_goThrough_W13_3 h7 h1 h6.1 h3 h6.2)
  have h9 : 1 ≤ z4 ∧ z4 ≤ 12 := (vc_X1_goThrough_W13_4 h7 h1 h6.1 h8 h6.2)
  refine mr_iload_n (pc := 12) (z := p2) dX1_goThrough_12 rfl rfl ?_
  refine mr_bipush (pc := 13) (z := 12) dX1_goThrough_13 (by decide) ?_
  refine mr_icmp_le (pc := 15) (tgt := 19) dX1_goThrough_15 (by decide) (r32 hp2 rfl) (r32 (rR (x := 12)) rfl) (fun _ => ?_) (fun h => ((vc_X1_goThrough_W0_5 h hp2)).elim)
  refine sv_aload_n (pc := 19) dX1_goThrough_19 rfl rfl ?_
  refine gf_X1_1 (pc := 20) dX1_goThrough_20 wF_X1_17 (A_21 hw) hT ?_
  refine mr_iload_n (pc := 23) (z := p1) dX1_goThrough_23 rfl rfl ?_
  refine la_22 (pc := 24) dX1_goThrough_24 (A_22 hw) hT (rIx (n := 12) h8 rfl) (vc_X1_goThrough_W12_6 h1 h6.1 h7 h8 h9) fun b10 q11 A12 => ?_
  refine mr_astore_n (pc := 25) (lv' := [(3, .ref b10), (0, .ref 21), (1, iv p1), (2, iv p2)]) dX1_goThrough_25 rfl (by decide) rfl ?_
  obtain ⟨c13, z14, q15, A16, q17, R18, e19, e20⟩ := PC.read hIPC hT A12 (vc_X1_goThrough_W12_7 h1 h7 h6.1 h8 h9) (vc_X1_goThrough_W12_6 h1 h6.1 h7 h8 h9) q11
  have h21 : 0 ≤ z14 ∧ z14 ≤ 30 := by rw [← q17]; exact hT _ _ A12 0
  refine mr_iconst (pc := 26) (z := 0) dX1_goThrough_26 ?_
  refine mr_istore (pc := 27) (lv' := [(4, iv 0), (3, .ref b10), (0, .ref 21), (1, iv p1), (2, iv p2)]) dX1_goThrough_27 (by decide) rfl ?_
  refine mr_iconst (pc := 29) (z := 0) dX1_goThrough_29 ?_
  refine mr_istore (pc := 30) (lv' := [(5, iv 0), (4, iv 0), (3, .ref b10), (0, .ref 21), (1, iv p1), (2, iv p2)]) dX1_goThrough_30 (by decide) rfl ?_
  have L1192 : ∀ (nL1192 : Nat) (z1190 z1189 : Int) (μ1191 : mM), mT w μ1191 → mF [21006, 21007, 200004, 200006, 200007, 200008, 201999, 202999] w μ μ1191 → (0 ≤ z1190 ∧ z1190 ≤ 2000) → (0 ≤ z1189 ∧ z1189 ≤ 30) → PC w μ1191 → RT μ1191 → wfR (μ c13) (w.2.2.1 c13) (z1190).toNat (z14 - z1189).toNat → (2001 - z1190) < (nL1192 : Int) → loopF (WL_X1_goThrough_W0_1 w μ p2 Q b10 c13 z14) False nL1192 (z1190, z1189, μ1191) → sV (gG l D c H0 sa) mX1_goThrough (sRm 29 0 0) (sZ (gG l D c H0 sa) 0 0 (qV w [21006, 21007, 200004, 200006, 200007, 200008, 201999, 202999] μ (fun μ1 => Q μ1 ∧ True))) 32 [(0, .ref 21), (2, iv p2), (3, .ref b10), (4, iv z1190), (5, iv z1189)] [] (mk w μ1191) 0 0 := by
    intro nL1192
    induction nL1192 with
    | zero => intro z1190 z1189 μ1191 T1195 F1196 h1193 h1194 I1198 I1199 R1200 h1201 W1202; exact ((vc_X1_goThrough_W12_8 h1201 h1193)).elim
    | succ nL1192 ih1203 =>
      intro z1190 z1189 μ1191 T1195 F1196 h1193 h1194 I1198 I1199 R1200 h1201 W1202
      refine mr_iload (pc := 32) (z := z1189) dX1_goThrough_32 rfl ?_
      refine sv_aload_n (pc := 34) dX1_goThrough_34 rfl rfl ?_
      refine gk_X5_0 (pc := 35) dX1_goThrough_35 wF_X1_57 A12 (F1196.f A12 rfl q17) ?_
      refine mr_icmp_ge (pc := 38) (tgt := 174) dX1_goThrough_38 (by decide) (r32 h1194 rfl) (r32 h21 rfl) (fun h1268 => ?_) (fun h1268 => ?_)
      · exact mr_vret dX1_goThrough_174 rfl (le_t rfl) (le_t rfl) T1195 (mF.call mF.refl F1196 rfl) ⟨((W1202 z1190 z1189 μ1191 rfl h1193 h1194 T1195 F1196).1 h1268), trivial⟩
      have h1269 : 0 ≤ z1189 ∧ z1189 ≤ 29 := (vc_X12_judgedAnew_2 h1268 h1194 h21)
      have h1270 : 1 ≤ z14 ∧ z14 ≤ 30 := (vc_X12_judgedAnew_3 h1268 h1269 h21)
      refine sv_aload_n (pc := 41) dX1_goThrough_41 rfl rfl ?_
      refine gf_X1_7 (pc := 42) dX1_goThrough_42 wF_X1_50 (A_21 hw) T1195 fun z1271 q1272 h1273 => ?_
      refine mr_if_ne (pc := 45) (tgt := 174) dX1_goThrough_45 (by decide) (r32 h1273 rfl) (fun h1333 => ?_) (fun h1333 => ?_)
      · have h1334 : 1 ≤ z1271 ∧ z1271 ≤ 2 := (vc_X12_provides_3 h1333 h1273)
        exact mr_vret dX1_goThrough_174 rfl (le_t rfl) (le_t rfl) T1195 (mF.call mF.refl F1196 rfl) ⟨((((W1202 z1190 z1189 μ1191 rfl h1193 h1194 T1195 F1196).2 h1268) z1271 q1272 h1273).1 h1333), trivial⟩
      have h1335 : 0 ≤ z1271 ∧ z1271 ≤ 0 := (vc_X12_provides_4 h1333 h1273)
      obtain ⟨n_1336, q1337⟩ : ∃ n : Int, (w.2.2.1 c13 : Int) = n := ⟨_, rfl⟩
      have h1338 : 0 ≤ n_1336 ∧ n_1336 ≤ 2000 := lnR (m := 2000) q1337 A16 rfl
      have h1339 : z1190 + 1 < n_1336 := lnLt q1337 (wfR.hd R1200 (vc_X1_goThrough_W12_13 h1193) (vc_X1_goThrough_W12_14 h1268 h1269 h1270))
      refine sv_aload_n (pc := 48) dX1_goThrough_48 rfl rfl ?_
      refine gk_X5_1 (pc := 49) dX1_goThrough_49 wF_X1_60 A12 (F1196.f A12 rfl q15) ?_
      refine mr_iload (pc := 52) (z := z1190) dX1_goThrough_52 rfl ?_
      refine la_231 (pc := 54) dX1_goThrough_54 A16 T1195 (lnC q1337 (vc_X1_goThrough_W12_15 h1339 h1338 h1193)) fun z1340 q1341 h1342 => ?_
      refine mr_istore (pc := 55) (lv' := [(6, iv z1340), (0, .ref 21), (2, iv p2), (3, .ref b10), (4, iv z1190), (5, iv z1189)]) dX1_goThrough_55 (by decide) rfl ?_
      refine sv_aload_n (pc := 57) dX1_goThrough_57 rfl rfl ?_
      refine gk_X5_1 (pc := 58) dX1_goThrough_58 wF_X1_60 A12 (F1196.f A12 rfl q15) ?_
      refine mr_iload (pc := 61) (z := z1190) dX1_goThrough_61 rfl ?_
      refine mr_iconst (pc := 63) (z := 1) dX1_goThrough_63 ?_
      refine mr_iadd (pc := 64) (x := z1190) (y := 1) dX1_goThrough_64 ?_
      refine la_231 (pc := 65) dX1_goThrough_65 A16 T1195 (lnC q1337 (vc_X1_goThrough_W12_16 h1339 h1338 h1193)) fun z1343 q1344 h1345 => ?_
      have B1346 := wfR.bd R1200 (vc_X1_goThrough_W12_13 h1193) (vc_X1_goThrough_W12_14 h1268 h1269 h1270) ((((mF.call mF.refl F1196 rfl) : mF [21006, 21007, 200004, 200006, 200007, 200008, 201999, 202999] w μ μ1191).f A16 rfl rfl).symm.trans q1341) ((((mF.call mF.refl F1196 rfl) : mF [21006, 21007, 200004, 200006, 200007, 200008, 201999, 202999] w μ μ1191).f A16 rfl rfl).symm.trans q1344)
      have h1347 : 0 ≤ z1340 ∧ 0 ≤ z1343 ∧ z1190 + 2 + 5 * z1340 + 2 * z1343 ≤ n_1336 := ⟨B1346.1.1, B1346.1.2.1, lnLe q1337 B1346.1.2.2⟩
      have h1348 : 0 ≤ z1340 ∧ z1340 ≤ 400 := (vc_X1_goThrough_W12_17 h1347 h1339 h1338 h1193 h1342 h1345)
      have h1349 : 0 ≤ z1343 ∧ z1343 ≤ 1000 := (vc_X1_goThrough_W12_18 h1347 h1339 h1338 h1193 h1348 h1345)
      refine mr_istore (pc := 66) (lv' := [(7, iv z1343), (6, iv z1340), (0, .ref 21), (2, iv p2), (3, .ref b10), (4, iv z1190), (5, iv z1189)]) dX1_goThrough_66 (by decide) rfl ?_
      refine mr_iload (pc := 68) (z := z1190) dX1_goThrough_68 rfl ?_
      refine mr_iconst (pc := 70) (z := 2) dX1_goThrough_70 ?_
      refine mr_iadd (pc := 71) (x := z1190) (y := 2) dX1_goThrough_71 ?_
      refine mr_iload (pc := 72) (z := z1340) dX1_goThrough_72 rfl ?_
      refine mr_iconst (pc := 74) (z := 5) dX1_goThrough_74 ?_
      refine mr_imul (pc := 75) (x := z1340) (y := 5) dX1_goThrough_75 ?_
      refine mr_iadd (pc := 76) (x := (z1190 + 2)) (y := (z1340 * 5)) dX1_goThrough_76 ?_
      refine mr_istore (pc := 77) (lv' := [(8, iv ((z1190 + 2) + (z1340 * 5))), (7, iv z1343), (6, iv z1340), (0, .ref 21), (2, iv p2), (3, .ref b10), (4, iv z1190), (5, iv z1189)]) dX1_goThrough_77 (by decide) rfl ?_
      refine mr_iconst (pc := 79) (z := 1) dX1_goThrough_79 ?_
      refine mr_istore (pc := 80) (lv' := [(9, iv 1), (8, iv ((z1190 + 2) + (z1340 * 5))), (7, iv z1343), (6, iv z1340), (0, .ref 21), (2, iv p2), (3, .ref b10), (4, iv z1190), (5, iv z1189)]) dX1_goThrough_80 (by decide) rfl ?_
      refine mr_iload (pc := 82) (z := z1190) dX1_goThrough_82 rfl ?_
      refine mr_iconst (pc := 84) (z := 2) dX1_goThrough_84 ?_
      refine mr_iadd (pc := 85) (x := z1190) (y := 2) dX1_goThrough_85 ?_
      refine mr_istore (pc := 86) (lv' := [(10, iv (z1190 + 2)), (9, iv 1), (8, iv ((z1190 + 2) + (z1340 * 5))), (7, iv z1343), (6, iv z1340), (0, .ref 21), (2, iv p2), (3, .ref b10), (4, iv z1190), (5, iv z1189)]) dX1_goThrough_86 (by decide) rfl ?_
      have L1469 : ∀ (nL1469 : Nat) (z1468 z1467 : Int), True → (0 ≤ z1468 ∧ z1468 ≤ 1) → (2 ≤ z1467 ∧ z1467 ≤ 2010) → ((((z1190 + 2) + (z1340 * 5)) - z1467) % 5 = 0) → (2011 - z1467) < (nL1469 : Int) → loopF (WL_X1_goThrough_W0_2 w p2 b10 c13 (loopF (WL_X1_goThrough_W0_1 w μ p2 Q b10 c13 z14) False nL1192) z1190 z1189 μ1191 z1340 z1343) False nL1469 (z1468, z1467) → sV (gG l D c H0 sa) mX1_goThrough (sRm 29 0 0) (sZ (gG l D c H0 sa) 0 0 (qV w [21006, 21007, 200004, 200006, 200007, 200008, 201999, 202999] μ (fun μ1 => Q μ1 ∧ True))) 88 [(0, .ref 21), (2, iv p2), (3, .ref b10), (5, iv z1189), (7, iv z1343), (8, iv ((z1190 + 2) + (z1340 * 5))), (9, iv z1468), (10, iv z1467)] [] (mk w μ1191) 0 0 := by
        intro nL1469
        induction nL1469 with
        | zero => intro z1468 z1467 _ h1470 h1471 h1475 h1476 W1477; exact ((vc_X1_goThrough_W12_19 h1476 h1475 h1339 h1347 h1338 h1193 h1348 h1349 h1471)).elim
        | succ nL1469 ih1478 =>
          intro z1468 z1467 _ h1470 h1471 h1475 h1476 W1477
          refine mr_iload (pc := 88) (z := z1467) dX1_goThrough_88 rfl ?_
          refine mr_iload (pc := 90) (z := ((z1190 + 2) + (z1340 * 5))) dX1_goThrough_90 rfl ?_
          have J1494 : ((WJ_X1_goThrough_W0_3 w p2 c13 (loopF (WL_X1_goThrough_W0_1 w μ p2 Q b10 c13 z14) False nL1192) z1190 z1189 μ1191 z1340 z1343 z1468) ) → sV (gG l D c H0 sa) mX1_goThrough (sRm 29 0 0) (sZ (gG l D c H0 sa) 0 0 (qV w [21006, 21007, 200004, 200006, 200007, 200008, 201999, 202999] μ (fun μ1 => Q μ1 ∧ True))) 141 [(0, .ref 21), (2, iv p2), (3, .ref b10), (5, iv z1189), (7, iv z1343), (8, iv ((z1190 + 2) + (z1340 * 5))), (9, iv z1468)] [] (mk w μ1191) 0 0 := by
            intro W1495
            refine mr_iload (pc := 141) (z := z1468) dX1_goThrough_141 rfl ?_
            refine mr_if_eq (pc := 143) (tgt := 159) dX1_goThrough_143 (by decide) (r32 h1470 rfl) (fun h1502 => ?_) (fun h1502 => ?_)
            · have h1503 : 0 ≤ z1468 ∧ z1468 ≤ 0 := (vc_X12_ring_22 h1502 h1470)
              refine mr_iload (pc := 159) (z := ((z1190 + 2) + (z1340 * 5))) dX1_goThrough_159 rfl ?_
              refine mr_iload (pc := 161) (z := z1343) dX1_goThrough_161 rfl ?_
              refine mr_iconst (pc := 163) (z := 2) dX1_goThrough_163 ?_
              refine mr_imul (pc := 164) (x := z1343) (y := 2) dX1_goThrough_164 ?_
              refine mr_iadd (pc := 165) (x := ((z1190 + 2) + (z1340 * 5))) (y := (z1343 * 2)) dX1_goThrough_165 ?_
              refine mr_istore (pc := 166) (lv' := [(4, iv (((z1190 + 2) + (z1340 * 5)) + (z1343 * 2))), (0, .ref 21), (2, iv p2), (3, .ref b10), (5, iv z1189), (7, iv z1343), (8, iv ((z1190 + 2) + (z1340 * 5))), (9, iv z1468)]) dX1_goThrough_166 (by decide) rfl ?_
              refine mr_iinc (pc := 168) (lv' := [(5, iv (z1189 + 1)), (4, iv (((z1190 + 2) + (z1340 * 5)) + (z1343 * 2))), (0, .ref 21), (2, iv p2), (3, .ref b10), (7, iv z1343), (8, iv ((z1190 + 2) + (z1340 * 5))), (9, iv z1468)]) dX1_goThrough_168 rfl (by decide) rfl ?_
              refine sv_goto (pc := 171) (tgt := 32) dX1_goThrough_171 (by decide) ?_
              refine mr_lvS (lv' := [(0, .ref 21), (2, iv p2), (3, .ref b10), (4, iv (((z1190 + 2) + (z1340 * 5)) + (z1343 * 2))), (5, iv (z1189 + 1))]) (List.forall_mem_cons.mpr ⟨rfl, List.forall_mem_cons.mpr ⟨rfl, List.forall_mem_cons.mpr ⟨rfl, List.forall_mem_cons.mpr ⟨rfl, List.forall_mem_cons.mpr ⟨rfl, fun _ h => absurd h List.not_mem_nil⟩⟩⟩⟩⟩) ?_
              exact ih1203 (((z1190 + 2) + (z1340 * 5)) + (z1343 * 2)) (z1189 + 1) μ1191 T1195 (mF.call mF.refl F1196 rfl) (vc_X1_goThrough_W12_21 h1339 h1347 h1475 h1338 h1193 h1348 h1349 h1471) (rW (c := 0) (d := 30) (rAdd (e := 1) (f := 30) h1269 (rR (x := 1)) rfl) rfl) I1198 I1199 (wfR.cg B1346.2.2 (vc_X1_goThrough_W12_23 h1339 h1347 h1475 h1338 h1193 h1348 h1349 h1471)) (vc_X1_goThrough_W12_22 (nS h1201) h1339 h1347 h1475 h1338 h1193 h1348 h1349 h1471) ((W1495).1 h1502)
            have h1504 : 1 ≤ z1468 ∧ z1468 ≤ 1 := (vc_X12_ring_24 h1502 h1470)
            refine sv_aload_n (pc := 146) dX1_goThrough_146 rfl rfl ?_
            refine sv_aload_n (pc := 147) dX1_goThrough_147 rfl rfl ?_
            refine gk_X5_1 (pc := 148) dX1_goThrough_148 wF_X1_60 A12 (F1196.f A12 rfl q15) ?_
            refine mr_iload (pc := 151) (z := ((z1190 + 2) + (z1340 * 5))) dX1_goThrough_151 rfl ?_
            refine mr_iload (pc := 153) (z := z1343) dX1_goThrough_153 rfl ?_
            refine mr_iload_n (pc := 155) (z := p2) dX1_goThrough_155 rfl rfl ?_
            refine mr_cVV (pc := 156) (c_X1_doActs_W0 hw T1195 A16 (vc_X1_goThrough_W12_25 h1339 h1347 h1475 h1338 h1193 h1348 h1349 h1471) h1349 hp2 I1198 I1199 (lnL q1337 (vc_X1_goThrough_W12_26 h1339 h1347 h1475 h1338 h1193 h1348 h1349 h1471)) (argC B1346.2.1 (vc_X1_goThrough_W12_27 h1339 h1347 h1475 h1338 h1193 h1348 h1349 h1471) (funext fun i => ((mF.call mF.refl F1196 rfl) : mF [21006, 21007, 200004, 200006, 200007, 200008, 201999, 202999] w μ μ1191).f A16 rfl rfl)) ((W1495).2 h1502)) (gOk _ _ _ _ _) dX1_goThrough_156 (tX1_doActs _ _ _ _ _) ⟨wV_X1_doActs, wL_X1_doActs⟩ wM_X1_68 (gCX1 _ _ _ _ _) rfl (A_21 hw) rfl ⟨le_t rfl, le_t rfl⟩ ⟨le_t rfl, le_t rfl⟩ rfl (le_t rfl) fun μ1505 T1506 F1507 h1508 => ?_
            refine mr_iload (pc := 159) (z := ((z1190 + 2) + (z1340 * 5))) dX1_goThrough_159 rfl ?_
            refine mr_iload (pc := 161) (z := z1343) dX1_goThrough_161 rfl ?_
            refine mr_iconst (pc := 163) (z := 2) dX1_goThrough_163 ?_
            refine mr_imul (pc := 164) (x := z1343) (y := 2) dX1_goThrough_164 ?_
            refine mr_iadd (pc := 165) (x := ((z1190 + 2) + (z1340 * 5))) (y := (z1343 * 2)) dX1_goThrough_165 ?_
            refine mr_istore (pc := 166) (lv' := [(4, iv (((z1190 + 2) + (z1340 * 5)) + (z1343 * 2))), (0, .ref 21), (2, iv p2), (3, .ref b10), (5, iv z1189), (7, iv z1343), (8, iv ((z1190 + 2) + (z1340 * 5))), (9, iv z1468)]) dX1_goThrough_166 (by decide) rfl ?_
            refine mr_iinc (pc := 168) (lv' := [(5, iv (z1189 + 1)), (4, iv (((z1190 + 2) + (z1340 * 5)) + (z1343 * 2))), (0, .ref 21), (2, iv p2), (3, .ref b10), (7, iv z1343), (8, iv ((z1190 + 2) + (z1340 * 5))), (9, iv z1468)]) dX1_goThrough_168 rfl (by decide) rfl ?_
            refine sv_goto (pc := 171) (tgt := 32) dX1_goThrough_171 (by decide) ?_
            refine mr_lvS (lv' := [(0, .ref 21), (2, iv p2), (3, .ref b10), (4, iv (((z1190 + 2) + (z1340 * 5)) + (z1343 * 2))), (5, iv (z1189 + 1))]) (List.forall_mem_cons.mpr ⟨rfl, List.forall_mem_cons.mpr ⟨rfl, List.forall_mem_cons.mpr ⟨rfl, List.forall_mem_cons.mpr ⟨rfl, List.forall_mem_cons.mpr ⟨rfl, fun _ h => absurd h List.not_mem_nil⟩⟩⟩⟩⟩) ?_
            exact ih1203 (((z1190 + 2) + (z1340 * 5)) + (z1343 * 2)) (z1189 + 1) μ1505 T1506 (mF.call (mF.call mF.refl F1196 rfl) F1507 rfl) (vc_X1_goThrough_W12_21 h1339 h1347 h1475 h1338 h1193 h1348 h1349 h1471) (rW (c := 0) (d := 30) (rAdd (e := 1) (f := 30) h1269 (rR (x := 1)) rfl) rfl) (PC.keep I1198 hw ((mF.call mF.refl F1507 rfl) : mF [21006, 21007, 200004, 200006, 200007, 200008, 201999, 202999] w μ1191 μ1505) rfl) (RT.keep I1199 hw ((mF.call mF.refl F1507 rfl) : mF [21006, 21007, 200004, 200006, 200007, 200008, 201999, 202999] w μ1191 μ1505) rfl) (wfR.cg B1346.2.2 (vc_X1_goThrough_W12_23 h1339 h1347 h1475 h1338 h1193 h1348 h1349 h1471)) (vc_X1_goThrough_W12_22 (nS h1201) h1339 h1347 h1475 h1338 h1193 h1348 h1349 h1471) (h1508.1 T1506 F1507)
          refine mr_icmp_ge (pc := 92) (tgt := 141) dX1_goThrough_92 (by decide) (r32 h1471 rfl) (r32 (rAdd (e := 2) (f := 4002) (rAdd (e := 2) (f := 2002) h1193 (rR (x := 2)) rfl) (rMulR (n := 5) (e := 0) (f := 2000) h1348 rfl) rfl) rfl) (fun h1509 => ?_) (fun h1509 => ?_)
          · refine mr_lvS (lv' := [(0, .ref 21), (2, iv p2), (3, .ref b10), (5, iv z1189), (7, iv z1343), (8, iv ((z1190 + 2) + (z1340 * 5))), (9, iv z1468)]) (List.forall_mem_cons.mpr ⟨rfl, List.forall_mem_cons.mpr ⟨rfl, List.forall_mem_cons.mpr ⟨rfl, List.forall_mem_cons.mpr ⟨rfl, List.forall_mem_cons.mpr ⟨rfl, List.forall_mem_cons.mpr ⟨rfl, List.forall_mem_cons.mpr ⟨rfl, fun _ h => absurd h List.not_mem_nil⟩⟩⟩⟩⟩⟩⟩) ?_
            exact J1494 ((W1477 z1468 z1467 rfl h1470 h1471).1 h1509)
          refine mr_iload (pc := 95) (z := z1468) dX1_goThrough_95 rfl ?_
          refine mr_if_eq (pc := 97) (tgt := 141) dX1_goThrough_97 (by decide) (r32 h1470 rfl) (fun h1510 => ?_) (fun h1510 => ?_)
          · have h1511 : 0 ≤ z1468 ∧ z1468 ≤ 0 := (vc_X12_ring_22 h1510 h1470)
            refine mr_lvS (lv' := [(0, .ref 21), (2, iv p2), (3, .ref b10), (5, iv z1189), (7, iv z1343), (8, iv ((z1190 + 2) + (z1340 * 5))), (9, iv z1468)]) (List.forall_mem_cons.mpr ⟨rfl, List.forall_mem_cons.mpr ⟨rfl, List.forall_mem_cons.mpr ⟨rfl, List.forall_mem_cons.mpr ⟨rfl, List.forall_mem_cons.mpr ⟨rfl, List.forall_mem_cons.mpr ⟨rfl, List.forall_mem_cons.mpr ⟨rfl, fun _ h => absurd h List.not_mem_nil⟩⟩⟩⟩⟩⟩⟩) ?_
            exact J1494 (((W1477 z1468 z1467 rfl h1470 h1471).2 h1509).1 h1510)
          have h1512 : 1 ≤ z1468 ∧ z1468 ≤ 1 := (vc_X12_ring_24 h1510 h1470)
          refine sv_aload_n (pc := 100) dX1_goThrough_100 rfl rfl ?_
          refine sv_aload_n (pc := 101) dX1_goThrough_101 rfl rfl ?_
          refine mr_iload (pc := 102) (z := z1467) dX1_goThrough_102 rfl ?_
          refine mr_cVP (pc := 104) (c_X1_isSo_W hw T1195 A12 (vc_X1_goThrough_W12_28 h1475 h1509 h1339 h1347 h1338 h1193 h1348 h1349 h1471) I1199 (lnF (F1196.f A12 rfl q15) q1337 (vc_X1_goThrough_W12_29 h1339 h1347 h1475 h1509 h1338 h1193 h1348 h1349 h1471)) (by rw [((mF.call mF.refl F1196 rfl) : mF [21006, 21007, 200004, 200006, 200007, 200008, 201999, 202999] w μ μ1191).f (k := 2) A12 rfl rfl, ((mF.call mF.refl F1196 rfl) : mF [21006, 21007, 200004, 200006, 200007, 200008, 201999, 202999] w μ μ1191).f (k := 3) A12 rfl rfl]; exact e19) (by rw [((mF.call mF.refl F1196 rfl) : mF [21006, 21007, 200004, 200006, 200007, 200008, 201999, 202999] w μ μ1191).f (k := 4) A12 rfl rfl, ((mF.call mF.refl F1196 rfl) : mF [21006, 21007, 200004, 200006, 200007, 200008, 201999, 202999] w μ μ1191).f (k := 5) A12 rfl rfl]; exact e20) (((W1477 z1468 z1467 rfl h1470 h1471).2 h1509).2 h1510)) (gOk _ _ _ _ _) dX1_goThrough_104 (tX1_isSo _ _ _ _ _) ⟨wV_X1_isSo, wL_X1_isSo⟩ wM_X1_64 (gCX1 _ _ _ _ _) rfl (A_21 hw) rfl ⟨le_t rfl, le_t rfl⟩ ⟨le_t rfl, le_t rfl⟩ rfl (le_t rfl) fun z1517 h1516 => ?_
          refine sv_aload_n (pc := 107) dX1_goThrough_107 rfl rfl ?_
          refine gk_X5_1 (pc := 108) dX1_goThrough_108 wF_X1_60 A12 (F1196.f A12 rfl q15) ?_
          refine mr_iload (pc := 111) (z := z1467) dX1_goThrough_111 rfl ?_
          refine mr_iconst (pc := 113) (z := 1) dX1_goThrough_113 ?_
          refine mr_iadd (pc := 114) (x := z1467) (y := 1) dX1_goThrough_114 ?_
          refine la_231 (pc := 115) dX1_goThrough_115 A16 T1195 (lnC q1337 (vc_X1_goThrough_W12_30 h1339 h1347 h1475 h1509 h1338 h1193 h1348 h1349 h1471)) fun z1518 q1519 h1520 => ?_
          refine mr_iconst (pc := 116) (z := 1) dX1_goThrough_116 ?_
          refine mr_icmp_ne (pc := 117) (tgt := 124) dX1_goThrough_117 (by decide) h1520 (r32 (rR (x := 1)) rfl) (fun h1522 => ?_) (fun h1522 => ?_)
          · refine mr_iconst (pc := 124) (z := 0) dX1_goThrough_124 ?_
            refine mr_icmp_eq (pc := 125) (tgt := 132) dX1_goThrough_125 (by decide) (r32 h1516.1 rfl) (r32 (rR (x := 0)) rfl) (fun h1525 => ?_) (fun h1525 => ?_)
            · have h1526 : 0 ≤ z1517 ∧ z1517 ≤ 0 := (vc_X12_ring_22 h1525 h1516.1)
              refine mr_iconst (pc := 132) (z := 0) dX1_goThrough_132 ?_
              refine mr_istore (pc := 133) (lv' := [(9, iv 0), (0, .ref 21), (2, iv p2), (3, .ref b10), (5, iv z1189), (7, iv z1343), (8, iv ((z1190 + 2) + (z1340 * 5))), (10, iv z1467)]) dX1_goThrough_133 (by decide) rfl ?_
              refine mr_iinc (pc := 135) (lv' := [(10, iv (z1467 + 5)), (9, iv 0), (0, .ref 21), (2, iv p2), (3, .ref b10), (5, iv z1189), (7, iv z1343), (8, iv ((z1190 + 2) + (z1340 * 5)))]) dX1_goThrough_135 rfl (by decide) rfl ?_
              refine sv_goto (pc := 138) (tgt := 88) dX1_goThrough_138 (by decide) ?_
              refine mr_lvS (lv' := [(0, .ref 21), (2, iv p2), (3, .ref b10), (5, iv z1189), (7, iv z1343), (8, iv ((z1190 + 2) + (z1340 * 5))), (9, iv 0), (10, iv (z1467 + 5))]) (List.forall_mem_cons.mpr ⟨rfl, List.forall_mem_cons.mpr ⟨rfl, List.forall_mem_cons.mpr ⟨rfl, List.forall_mem_cons.mpr ⟨rfl, List.forall_mem_cons.mpr ⟨rfl, List.forall_mem_cons.mpr ⟨rfl, List.forall_mem_cons.mpr ⟨rfl, List.forall_mem_cons.mpr ⟨rfl, fun _ h => absurd h List.not_mem_nil⟩⟩⟩⟩⟩⟩⟩⟩) ?_
              exact ih1478 0 (z1467 + 5) trivial (rW (c := 0) (d := 1) (rR (x := 0)) rfl) (vc_X1_goThrough_W12_32 h1475 h1509 h1339 h1347 h1338 h1193 h1348 h1349 h1471) (vc_X1_goThrough_W12_33 h1339 h1347 h1475 h1509 h1338 h1193 h1348 h1349 h1471) (vc_X1_goThrough_W12_34 (nS h1476) h1475 h1509 h1339 h1347 h1338 h1193 h1348 h1349 h1471) ((((h1516.2.1 h1516.1) z1518 q1519 h1520).1 h1522).1 h1525)
            have h1527 : 1 ≤ z1517 ∧ z1517 ≤ 1 := (vc_X12_ring_24 h1525 h1516.1)
            refine mr_iconst (pc := 128) (z := 1) dX1_goThrough_128 ?_
            refine sv_goto (pc := 129) (tgt := 133) dX1_goThrough_129 (by decide) ?_
            refine mr_istore (pc := 133) (lv' := [(9, iv 1), (0, .ref 21), (2, iv p2), (3, .ref b10), (5, iv z1189), (7, iv z1343), (8, iv ((z1190 + 2) + (z1340 * 5))), (10, iv z1467)]) dX1_goThrough_133 (by decide) rfl ?_
            refine mr_iinc (pc := 135) (lv' := [(10, iv (z1467 + 5)), (9, iv 1), (0, .ref 21), (2, iv p2), (3, .ref b10), (5, iv z1189), (7, iv z1343), (8, iv ((z1190 + 2) + (z1340 * 5)))]) dX1_goThrough_135 rfl (by decide) rfl ?_
            refine sv_goto (pc := 138) (tgt := 88) dX1_goThrough_138 (by decide) ?_
            refine mr_lvS (lv' := [(0, .ref 21), (2, iv p2), (3, .ref b10), (5, iv z1189), (7, iv z1343), (8, iv ((z1190 + 2) + (z1340 * 5))), (9, iv 1), (10, iv (z1467 + 5))]) (List.forall_mem_cons.mpr ⟨rfl, List.forall_mem_cons.mpr ⟨rfl, List.forall_mem_cons.mpr ⟨rfl, List.forall_mem_cons.mpr ⟨rfl, List.forall_mem_cons.mpr ⟨rfl, List.forall_mem_cons.mpr ⟨rfl, List.forall_mem_cons.mpr ⟨rfl, List.forall_mem_cons.mpr ⟨rfl, fun _ h => absurd h List.not_mem_nil⟩⟩⟩⟩⟩⟩⟩⟩) ?_
            exact ih1478 1 (z1467 + 5) trivial (rW (c := 0) (d := 1) (rR (x := 1)) rfl) (vc_X1_goThrough_W12_32 h1475 h1509 h1339 h1347 h1338 h1193 h1348 h1349 h1471) (vc_X1_goThrough_W12_33 h1339 h1347 h1475 h1509 h1338 h1193 h1348 h1349 h1471) (vc_X1_goThrough_W12_34 (nS h1476) h1475 h1509 h1339 h1347 h1338 h1193 h1348 h1349 h1471) ((((h1516.2.1 h1516.1) z1518 q1519 h1520).1 h1522).2 h1525)
          have h1528 : 1 ≤ z1518 ∧ z1518 ≤ 1 := (vc_X3_toldInAll_1 h1522 h1520)
          refine mr_iconst (pc := 120) (z := 1) dX1_goThrough_120 ?_
          refine sv_goto (pc := 121) (tgt := 125) dX1_goThrough_121 (by decide) ?_
          refine mr_icmp_eq (pc := 125) (tgt := 132) dX1_goThrough_125 (by decide) (r32 h1516.1 rfl) (r32 (rR (x := 1)) rfl) (fun h1531 => ?_) (fun h1531 => ?_)
          · have h1532 : 1 ≤ z1517 ∧ z1517 ≤ 1 := (vc_X1_goThrough_W12_37 h1531 h1516.1)
            refine mr_iconst (pc := 132) (z := 0) dX1_goThrough_132 ?_
            refine mr_istore (pc := 133) (lv' := [(9, iv 0), (0, .ref 21), (2, iv p2), (3, .ref b10), (5, iv z1189), (7, iv z1343), (8, iv ((z1190 + 2) + (z1340 * 5))), (10, iv z1467)]) dX1_goThrough_133 (by decide) rfl ?_
            refine mr_iinc (pc := 135) (lv' := [(10, iv (z1467 + 5)), (9, iv 0), (0, .ref 21), (2, iv p2), (3, .ref b10), (5, iv z1189), (7, iv z1343), (8, iv ((z1190 + 2) + (z1340 * 5)))]) dX1_goThrough_135 rfl (by decide) rfl ?_
            refine sv_goto (pc := 138) (tgt := 88) dX1_goThrough_138 (by decide) ?_
            refine mr_lvS (lv' := [(0, .ref 21), (2, iv p2), (3, .ref b10), (5, iv z1189), (7, iv z1343), (8, iv ((z1190 + 2) + (z1340 * 5))), (9, iv 0), (10, iv (z1467 + 5))]) (List.forall_mem_cons.mpr ⟨rfl, List.forall_mem_cons.mpr ⟨rfl, List.forall_mem_cons.mpr ⟨rfl, List.forall_mem_cons.mpr ⟨rfl, List.forall_mem_cons.mpr ⟨rfl, List.forall_mem_cons.mpr ⟨rfl, List.forall_mem_cons.mpr ⟨rfl, List.forall_mem_cons.mpr ⟨rfl, fun _ h => absurd h List.not_mem_nil⟩⟩⟩⟩⟩⟩⟩⟩) ?_
            exact ih1478 0 (z1467 + 5) trivial (rW (c := 0) (d := 1) (rR (x := 0)) rfl) (vc_X1_goThrough_W12_32 h1475 h1509 h1339 h1347 h1338 h1193 h1348 h1349 h1471) (vc_X1_goThrough_W12_33 h1339 h1347 h1475 h1509 h1338 h1193 h1348 h1349 h1471) (vc_X1_goThrough_W12_34 (nS h1476) h1475 h1509 h1339 h1347 h1338 h1193 h1348 h1349 h1471) ((((h1516.2.1 h1516.1) z1518 q1519 h1520).2 h1522).1 h1531)
          have h1533 : 0 ≤ z1517 ∧ z1517 ≤ 0 := (vc_X1_goThrough_W12_38 h1531 h1516.1)
          refine mr_iconst (pc := 128) (z := 1) dX1_goThrough_128 ?_
          refine sv_goto (pc := 129) (tgt := 133) dX1_goThrough_129 (by decide) ?_
          refine mr_istore (pc := 133) (lv' := [(9, iv 1), (0, .ref 21), (2, iv p2), (3, .ref b10), (5, iv z1189), (7, iv z1343), (8, iv ((z1190 + 2) + (z1340 * 5))), (10, iv z1467)]) dX1_goThrough_133 (by decide) rfl ?_
          refine mr_iinc (pc := 135) (lv' := [(10, iv (z1467 + 5)), (9, iv 1), (0, .ref 21), (2, iv p2), (3, .ref b10), (5, iv z1189), (7, iv z1343), (8, iv ((z1190 + 2) + (z1340 * 5)))]) dX1_goThrough_135 rfl (by decide) rfl ?_
          refine sv_goto (pc := 138) (tgt := 88) dX1_goThrough_138 (by decide) ?_
          refine mr_lvS (lv' := [(0, .ref 21), (2, iv p2), (3, .ref b10), (5, iv z1189), (7, iv z1343), (8, iv ((z1190 + 2) + (z1340 * 5))), (9, iv 1), (10, iv (z1467 + 5))]) (List.forall_mem_cons.mpr ⟨rfl, List.forall_mem_cons.mpr ⟨rfl, List.forall_mem_cons.mpr ⟨rfl, List.forall_mem_cons.mpr ⟨rfl, List.forall_mem_cons.mpr ⟨rfl, List.forall_mem_cons.mpr ⟨rfl, List.forall_mem_cons.mpr ⟨rfl, List.forall_mem_cons.mpr ⟨rfl, fun _ h => absurd h List.not_mem_nil⟩⟩⟩⟩⟩⟩⟩⟩) ?_
          exact ih1478 1 (z1467 + 5) trivial (rW (c := 0) (d := 1) (rR (x := 1)) rfl) (vc_X1_goThrough_W12_32 h1475 h1509 h1339 h1347 h1338 h1193 h1348 h1349 h1471) (vc_X1_goThrough_W12_33 h1339 h1347 h1475 h1509 h1338 h1193 h1348 h1349 h1471) (vc_X1_goThrough_W12_34 (nS h1476) h1475 h1509 h1339 h1347 h1338 h1193 h1348 h1349 h1471) ((((h1516.2.1 h1516.1) z1518 q1519 h1520).2 h1522).2 h1531)
      refine mr_lvS (lv' := [(0, .ref 21), (2, iv p2), (3, .ref b10), (5, iv z1189), (7, iv z1343), (8, iv ((z1190 + 2) + (z1340 * 5))), (9, iv 1), (10, iv (z1190 + 2))]) (List.forall_mem_cons.mpr ⟨rfl, List.forall_mem_cons.mpr ⟨rfl, List.forall_mem_cons.mpr ⟨rfl, List.forall_mem_cons.mpr ⟨rfl, List.forall_mem_cons.mpr ⟨rfl, List.forall_mem_cons.mpr ⟨rfl, List.forall_mem_cons.mpr ⟨rfl, List.forall_mem_cons.mpr ⟨rfl, fun _ h => absurd h List.not_mem_nil⟩⟩⟩⟩⟩⟩⟩⟩) ?_
      exact L1469 2010 1 (z1190 + 2) trivial (rW (c := 0) (d := 1) (rR (x := 1)) rfl) (rW (c := 2) (d := 2010) (rAdd (e := 2) (f := 2002) h1193 (rR (x := 2)) rfl) rfl) (vc_X1_goThrough_W12_39 h1339 h1347 h1338 h1193 h1348 h1349) (vc_X1_goThrough_W12_40 h1339 h1347 h1338 h1193 h1348 h1349) (((((((W1202 z1190 z1189 μ1191 rfl h1193 h1194 T1195 F1196).2 h1268) z1271 q1272 h1273).2 h1333) n_1336 q1337 h1338) z1340 q1341 h1342) z1343 q1344 h1345)
  refine mr_lvS (lv' := [(0, .ref 21), (2, iv p2), (3, .ref b10), (4, iv 0), (5, iv 0)]) (List.forall_mem_cons.mpr ⟨rfl, List.forall_mem_cons.mpr ⟨rfl, List.forall_mem_cons.mpr ⟨rfl, List.forall_mem_cons.mpr ⟨rfl, List.forall_mem_cons.mpr ⟨rfl, fun _ h => absurd h List.not_mem_nil⟩⟩⟩⟩⟩) ?_
  exact L1192 2002 0 0 μ hT mF.refl (rW (c := 0) (d := 2000) (rR (x := 0)) rfl) (rW (c := 0) (d := 30) (rR (x := 0)) rfl) hIPC hIRT R18 vc_X1_goThrough_W12_41 ((((((hQ.2 h1) z4 q5 h6).2 h7) b10 q11 A12) c13 q15) z14 q17)
def WP_X1_lets_W (w : mW) (μ : mM) (p1 : Int) (a2 : Nat) (a3 : Nat) (p4 : Int) (Q : Int → mM → Prop) : Prop := ((p1 < 0) → Q (1 : Int) μ) ∧ ((0 ≤ p1) → ∀ z4 : Int, μ 21 8 = z4 → (z4 = w.2.2.2 2 ∧ 0 ≤ z4 ∧ z4 ≤ 12) → ((p1 < z4) → ∀ μ10 : mM, mU μ 21 (2) ((a2 : Nat) : Int) μ10 → mT w μ10 → WP_X9_end_W w μ10 a3 p4 (fun z17 _ => (0 ≤ z17 ∧ z17 ≤ 9) → ∀ μ18 : mM, mU μ10 21 (3) z17 μ18 → mT w μ18 → WP_X9_end_W w μ18 a3 (1 - p4) (fun z25 _ => (0 ≤ z25 ∧ z25 ≤ 9) → ∀ μ26 : mM, mU μ18 21 (4) z25 μ26 → mT w μ26 → WP_X9_partnerRole_W w μ26 a3 p4 (fun z33 _ => (0 ≤ z33 ∧ z33 ≤ 3) → ∀ μ34 : mM, mU μ26 21 (5) z33 μ34 → mT w μ34 → ∀ μ37 : mM, mU μ34 21 (6) (0 : Int) μ37 → mT w μ37 → ∀ μ40 : mM, mU μ37 21 (7) (0 : Int) μ40 → mT w μ40 → WP_X1_goThrough_W0 w μ40 p1 (0) (fun μ43 => mT w μ43 → mF [21006, 21007, 200004, 200006, 200007, 200008, 201999, 202999] w μ40 μ43 → ∀ z47 : Int, μ43 21 7 = z47 → (0 ≤ z47 ∧ z47 ≤ 2) → ((z47 = 2) → Q (0 : Int) μ43) ∧ ((¬ z47 = 2) → Q (1 : Int) μ43)))))) ∧ ((z4 ≤ p1) → Q (1 : Int) μ))
set_option maxRecDepth 4000 in
set_option maxHeartbeats 4000000 in
theorem c_X1_lets_W {l : Launch} {D : va_G} {c : Nat → ClassId} {H0 : Heap} {sa : Nat × Nat × (Nat → Int32)} {w : mW} {μ : mM} (hw : mWF w) (hT : mT w μ) {p1 : Int} (hp1 : (-2147483648) ≤ p1 ∧ p1 ≤ 2147483647) {a2 : Nat} (hA2 : mAt w a2 200) {a3 : Nat} (hA3 : mAt w a3 220) {p4 : Int} (hp4 : 0 ≤ p4 ∧ p4 ≤ 1) (hIPC : PC w μ) {Q : Int → mM → Prop} (hQ : WP_X1_lets_W w μ p1 a2 a3 p4 Q) : sC (gG l D c H0 sa) mX1_lets 40 0 0 [.ref 21, iv p1, .ref a2, .ref a3, iv p4] (mk w μ) (qI w [21002, 21003, 21004, 21005, 21006, 21007, 200004, 200006, 200007, 200008, 201999, 202999] μ (fun z μ1 => (0 ≤ z ∧ z ≤ 1) ∧ Q z μ1 ∧ True)) := by
  refine sC.of rfl (by decide) (le_t rfl) ?_
  refine mr_lvE (lv' := [(0, .ref 21), (1, iv p1), (2, .ref a2), (3, .ref a3), (4, iv p4)]) rfl ?_
  refine mr_iload_n (pc := 0) (z := p1) dX1_lets_0 rfl rfl ?_
  refine mr_if_lt (pc := 1) (tgt := 12) dX1_lets_1 (by decide) hp1 (fun h1 => ?_) (fun h1 => ?_)
  · have h2 : (-2147483648) ≤ p1 ∧ p1 ≤ (-1) := (vc_X12_ring_60 h1 hp1)
    refine mr_iconst (pc := 12) (z := 1) dX1_lets_12 ?_
    exact mr_zret dX1_lets_13 rfl (rW (c := 0) (d := 1) (rR (x := 1)) rfl) (le_t rfl) (le_t rfl) hT mF.refl ⟨(rW (c := 0) (d := 1) (rR (x := 1)) rfl), (hQ.1 h1), trivial⟩
  have h3 : 0 ≤ p1 ∧ p1 ≤ 2147483647 := (vc_X12_ring_1 h1 hp1)
  refine mr_iload_n (pc := 4) (z := p1) dX1_lets_4 rfl rfl ?_
  refine sv_aload_n (pc := 5) dX1_lets_5 rfl rfl ?_
  refine gf_X1_8 (pc := 6) dX1_lets_6 wF_X1_21 (A_21 hw) hT fun z4 q5 h6 => ?_
  refine mr_icmp_lt (pc := 9) (tgt := 14) dX1_lets_9 (by decide) (r32 h3 rfl) (r32 h6.2 rfl) (fun h7 => ?_) (fun h7 => ?_)
  · have h8 : 0 ≤ p1 ∧ p1 ≤ 11 := (vc_X1_goThrough_W13_3 h7 h1 h6.1 h3 h6.2)
    have h9 : 1 ≤ z4 ∧ z4 ≤ 12 := (vc_X1_goThrough_W13_4 h7 h1 h6.1 h8 h6.2)
    refine sv_aload_n (pc := 14) dX1_lets_14 rfl rfl ?_
    refine sv_aload_n (pc := 15) dX1_lets_15 rfl rfl ?_
    refine pf_X1_2 (pc := 16) dX1_lets_16 wF_X1_25 (A_21 hw) hT hA2 fun μ10 u11 T12 => ?_
    refine sv_aload_n (pc := 19) dX1_lets_19 rfl rfl ?_
    refine sv_aload_n (pc := 20) dX1_lets_20 rfl rfl ?_
    refine mr_iload (pc := 21) (z := p4) dX1_lets_21 rfl ?_
    refine mr_cVP (pc := 23) (c_X9_end_W hw T12 hA3 (rW (c := (-2147483648)) (d := 2147483647) hp4 rfl) ((((hQ.2 h1) z4 q5 h6).1 h7) μ10 u11 T12)) (gOk _ _ _ _ _) dX1_lets_23 (tX9_end _ _ _ _ _) ⟨wV_X9_end, wL_X9_end⟩ wM_X1_29 (gCX9 _ _ _ _ _) rfl hA3 rfl ⟨le_t rfl, le_t rfl⟩ ⟨le_t rfl, le_t rfl⟩ rfl (le_t rfl) fun z17 h16 => ?_
    refine pf_X1_3 (pc := 26) dX1_lets_26 wF_X1_35 (A_21 hw) T12 (rW (c := (-2147483648)) (d := 2147483647) h16.1 rfl) fun μ18 u19 T20 => ?_
    refine sv_aload_n (pc := 29) dX1_lets_29 rfl rfl ?_
    refine sv_aload_n (pc := 30) dX1_lets_30 rfl rfl ?_
    refine mr_iconst (pc := 31) (z := 1) dX1_lets_31 ?_
    refine mr_iload (pc := 32) (z := p4) dX1_lets_32 rfl ?_
    refine mr_isub (pc := 34) (x := 1) (y := p4) dX1_lets_34 ?_
    refine mr_cVP (pc := 35) (c_X9_end_W hw T20 hA3 (rW (c := (-2147483648)) (d := 2147483647) (rSub (e := 0) (f := 1) (rR (x := 1)) hp4 rfl) rfl) ((h16.2.2.1 h16.1) μ18 u19 T20)) (gOk _ _ _ _ _) dX1_lets_35 (tX9_end _ _ _ _ _) ⟨wV_X9_end, wL_X9_end⟩ wM_X1_29 (gCX9 _ _ _ _ _) rfl hA3 rfl ⟨le_t rfl, le_t rfl⟩ ⟨le_t rfl, le_t rfl⟩ rfl (le_t rfl) fun z25 h24 => ?_
    refine pf_X1_4 (pc := 38) dX1_lets_38 wF_X1_38 (A_21 hw) T20 (rW (c := (-2147483648)) (d := 2147483647) h24.1 rfl) fun μ26 u27 T28 => ?_
    refine sv_aload_n (pc := 41) dX1_lets_41 rfl rfl ?_
    refine sv_aload_n (pc := 42) dX1_lets_42 rfl rfl ?_
    refine mr_iload (pc := 43) (z := p4) dX1_lets_43 rfl ?_
    refine mr_cVP (pc := 45) (c_X9_partnerRole_W hw T28 hA3 (rW (c := (-2147483648)) (d := 2147483647) hp4 rfl) ((h24.2.2.1 h24.1) μ26 u27 T28)) (gOk _ _ _ _ _) dX1_lets_45 (tX9_partnerRole _ _ _ _ _) ⟨wV_X9_partnerRole, wL_X9_partnerRole⟩ wM_X1_41 (gCX9 _ _ _ _ _) rfl hA3 rfl ⟨le_t rfl, le_t rfl⟩ ⟨le_t rfl, le_t rfl⟩ rfl (le_t rfl) fun z33 h32 => ?_
    refine pf_X1_5 (pc := 48) dX1_lets_48 wF_X1_44 (A_21 hw) T28 (rW (c := (-2147483648)) (d := 2147483647) h32.1 rfl) fun μ34 u35 T36 => ?_
    refine sv_aload_n (pc := 51) dX1_lets_51 rfl rfl ?_
    refine mr_iconst (pc := 52) (z := 0) dX1_lets_52 ?_
    refine pf_X1_6 (pc := 53) dX1_lets_53 wF_X1_47 (A_21 hw) T36 (rW (c := 0) (d := 500) (rR (x := 0)) rfl) fun μ37 u38 T39 => ?_
    refine sv_aload_n (pc := 56) dX1_lets_56 rfl rfl ?_
    refine mr_iconst (pc := 57) (z := 0) dX1_lets_57 ?_
    refine pf_X1_7 (pc := 58) dX1_lets_58 wF_X1_50 (A_21 hw) T39 (rW (c := 0) (d := 2) (rR (x := 0)) rfl) fun μ40 u41 T42 => ?_
    refine sv_aload_n (pc := 61) dX1_lets_61 rfl rfl ?_
    refine mr_iload_n (pc := 62) (z := p1) dX1_lets_62 rfl rfl ?_
    refine mr_iconst (pc := 63) (z := 0) dX1_lets_63 ?_
    refine mr_cVV (pc := 64) (c_X1_goThrough_W0 hw T42 (rW (c := (-2147483648)) (d := 2147483647) h8 rfl) (rR (x := 0)) (PC.keep hIPC hw ((mF.up (mF.up (mF.up (mF.up (mF.up (mF.up mF.refl (A_21 hw) u11 rfl) (A_21 hw) u19 rfl) (A_21 hw) u27 rfl) (A_21 hw) u35 rfl) (A_21 hw) u38 rfl) (A_21 hw) u41 rfl) : mF [21002, 21003, 21004, 21005, 21006, 21007] w μ μ40) rfl) (RT.keep (by show 0 ≤ μ10 21 2; rw [u11.1]; exact Int.natCast_nonneg _) hw ((mF.up (mF.up (mF.up (mF.up (mF.up mF.refl (A_21 hw) u19 rfl) (A_21 hw) u27 rfl) (A_21 hw) u35 rfl) (A_21 hw) u38 rfl) (A_21 hw) u41 rfl) : mF [21003, 21004, 21005, 21006, 21007] w μ10 μ40) rfl) ((((h32.2.1 h32.1) μ34 u35 T36) μ37 u38 T39) μ40 u41 T42)) (gOk _ _ _ _ _) dX1_lets_64 (tX1_goThrough _ _ _ _ _) ⟨wV_X1_goThrough, wL_X1_goThrough⟩ wM_X1_53 (gCX1 _ _ _ _ _) rfl (A_21 hw) rfl ⟨le_t rfl, le_t rfl⟩ ⟨le_t rfl, le_t rfl⟩ rfl (le_t rfl) fun μ43 T44 F45 h46 => ?_
    refine sv_aload_n (pc := 67) dX1_lets_67 rfl rfl ?_
    refine gf_X1_7 (pc := 68) dX1_lets_68 wF_X1_50 (A_21 hw) T44 fun z47 q48 h49 => ?_
    refine mr_iconst (pc := 71) (z := 2) dX1_lets_71 ?_
    refine mr_icmp_eq (pc := 72) (tgt := 79) dX1_lets_72 (by decide) (r32 h49 rfl) (r32 (rR (x := 2)) rfl) (fun h52 => ?_) (fun h52 => ?_)
    · have h53 : 2 ≤ z47 ∧ z47 ≤ 2 := (vc_X12_letWay_16 h52 h49)
      refine mr_iconst (pc := 79) (z := 0) dX1_lets_79 ?_
      exact mr_zret dX1_lets_80 rfl (rW (c := 0) (d := 1) (rR (x := 0)) rfl) (le_t rfl) (le_t rfl) T44 (mF.call (mF.up (mF.up (mF.up (mF.up (mF.up (mF.up mF.refl (A_21 hw) u11 rfl) (A_21 hw) u19 rfl) (A_21 hw) u27 rfl) (A_21 hw) u35 rfl) (A_21 hw) u38 rfl) (A_21 hw) u41 rfl) F45 rfl) ⟨(rW (c := 0) (d := 1) (rR (x := 0)) rfl), (((h46.1 T44 F45) z47 q48 h49).1 h52), trivial⟩
    have h54 : 0 ≤ z47 ∧ z47 ≤ 1 := (vc_X12_letWay_5 h52 h49)
    refine mr_iconst (pc := 75) (z := 1) dX1_lets_75 ?_
    refine sv_goto (pc := 76) (tgt := 80) dX1_lets_76 (by decide) ?_
    exact mr_zret dX1_lets_80 rfl (rW (c := 0) (d := 1) (rR (x := 1)) rfl) (le_t rfl) (le_t rfl) T44 (mF.call (mF.up (mF.up (mF.up (mF.up (mF.up (mF.up mF.refl (A_21 hw) u11 rfl) (A_21 hw) u19 rfl) (A_21 hw) u27 rfl) (A_21 hw) u35 rfl) (A_21 hw) u38 rfl) (A_21 hw) u41 rfl) F45 rfl) ⟨(rW (c := 0) (d := 1) (rR (x := 1)) rfl), (((h46.1 T44 F45) z47 q48 h49).2 h52), trivial⟩
  refine mr_iconst (pc := 12) (z := 1) dX1_lets_12 ?_
  exact mr_zret dX1_lets_13 rfl (rW (c := 0) (d := 1) (rR (x := 1)) rfl) (le_t rfl) (le_t rfl) hT mF.refl ⟨(rW (c := 0) (d := 1) (rR (x := 1)) rfl), (((hQ.2 h1) z4 q5 h6).2 h7), trivial⟩
def WJ_X8_gather_W_2 (w : mW) (rec1 : (Int × mM) → Prop) (z1027 : Int) (μ1028 : mM) (μ1213 : mM) : Prop := mT w μ1213 → mF [21002, 21003, 21004, 21005, 21006, 21007, 32009, 200002, 200003, 200004, 200005, 200006, 200007, 200008, 200009, 200010, 200011, 201999, 202999] w μ1028 μ1213 → rec1 ((z1027 + 1), μ1213)
def WL_X8_gather_W_1 (w : mW) (p1 : Int) (p2 : Int) (Q : mM → Prop) (μ1 : mM) (rec1 : (Int × mM) → Prop) (s : (Int × mM)) : Prop := ∀ z1027 : Int, ∀ μ1028 : mM, s = (z1027, μ1028) → (0 ≤ z1027 ∧ z1027 ≤ 20) → mT w μ1028 → mF [21002, 21003, 21004, 21005, 21006, 21007, 32009, 200002, 200003, 200004, 200005, 200006, 200007, 200008, 200009, 200010, 200011, 201999, 202999] w μ1 μ1028 → ∀ z1038 : Int, μ1028 6 16 = z1038 → (z1038 = w.2.2.2 1 ∧ 0 ≤ z1038 ∧ z1038 ≤ 20) → ((z1038 ≤ z1027) → Q μ1028) ∧ ((z1027 < z1038) → ∀ b1132 : Nat, μ1028 11 (z1027.toNat) = (b1132 : Int) → mAt w b1132 220 → WP_X9_sideOf_W w μ1028 b1132 p1 (fun z1139 _ => ((-1) ≤ z1139 ∧ z1139 ≤ 1) → ((z1139 < 0) → (WJ_X8_gather_W_2 w rec1 z1027 μ1028) μ1028) ∧ ((0 ≤ z1139) → ∀ z1223 : Int, μ1028 b1132 6 = z1223 → (0 ≤ z1223 ∧ z1223 ≤ 1) → ((z1223 = 0) → (WJ_X8_gather_W_2 w rec1 z1027 μ1028) μ1028) ∧ ((¬ z1223 = 0) → ∀ z1229 : Int, μ1028 32 9 = z1229 → (0 ≤ z1229 ∧ z1229 ≤ 10 ∧ (z1229 = 0 ∨ 0 < w.2.2.2 1)) → ((z1229 < 10) → WP_X9_placeOf_W w μ1028 z1139 p2 (fun z1240 _ => (0 ≤ z1240 ∧ z1240 ≤ 19) → ∀ b1241 : Nat, μ1028 (b1132 + 2) (z1240.toNat) = (b1241 : Int) → mAt w b1241 200 → ∀ z1244 : Int, μ1028 b1241 2 = z1244 → (0 ≤ z1244 ∧ z1244 ≤ 1) → ((z1244 = 0) → (WJ_X8_gather_W_2 w rec1 z1027 μ1028) μ1028) ∧ ((¬ z1244 = 0) → WP_X7_passes_W w μ1028 b1241 p1 (fun z1254 _ => (0 ≤ z1254 ∧ z1254 ≤ 1) → ((z1254 = 0) → ∀ b1257 : Nat, μ1028 35 (z1229.toNat) = (b1257 : Int) → mAt w b1257 200 → WP_X7_become_W w μ1028 b1257 b1241 (fun μ1260 => mT w μ1260 → mF [200002, 200003, 200004, 200005, 200006, 200007, 200008, 201999, 202999] w μ1028 μ1260 → ∀ z1264 : Int, μ1260 b1241 9 = z1264 → ((-1) ≤ z1264 ∧ z1264 ≤ 2000000000) → ∀ μ1267 : mM, mU μ1260 b1257 (9) z1264 μ1267 → mT w μ1267 → ∀ μ1270 : mM, mU μ1267 b1257 (10) z1027 μ1270 → mT w μ1270 → WP_X9_end_W w μ1270 b1132 (1 - z1139) (fun z1277 _ => (0 ≤ z1277 ∧ z1277 ≤ 9) → ∀ μ1278 : mM, mU μ1270 b1257 (11) z1277 μ1278 → mT w μ1278 → ∀ z1282 : Int, μ1278 (b1132 + 1) (((z1139 * 2) + 0).toNat) = z1282 → (z1282 = -99999999 ∨ (0 ≤ z1282 ∧ z1282 ≤ 11)) → WP_X1_lets_W w μ1278 z1282 b1257 b1132 z1139 (fun z1290 μ1286 => mT w μ1286 → mF [21002, 21003, 21004, 21005, 21006, 21007, 200004, 200006, 200007, 200008, 201999, 202999] w μ1278 μ1286 → (0 ≤ z1290 ∧ z1290 ≤ 1) → ((z1290 = 0) → (WJ_X8_gather_W_2 w rec1 z1027 μ1028) μ1286) ∧ ((¬ z1290 = 0) → ∀ μ1294 : mM, mU μ1286 32 (9) (z1229 + 1) μ1294 → mT w μ1294 → (WJ_X8_gather_W_2 w rec1 z1027 μ1028) μ1294))))) ∧ ((¬ z1254 = 0) → (WJ_X8_gather_W_2 w rec1 z1027 μ1028) μ1028))))) ∧ ((10 ≤ z1229) → (WJ_X8_gather_W_2 w rec1 z1027 μ1028) μ1028)))))
def WP_X8_gather_W (w : mW) (μ : mM) (p1 : Int) (p2 : Int) (Q : mM → Prop) : Prop := ∀ μ1 : mM, mU μ 32 (9) (0 : Int) μ1 → mT w μ1 → loopF (WL_X8_gather_W_1 w p1 p2 Q μ1) False 22 ((0 : Int), μ1)
theorem vc_X8_gather_W_1 {n1 : Int}  : 0 ≤ (0 : Int) ∧ (0 : Int) ≤ 10 ∧ ((0 : Int) = 0 ∨ 0 < n1) := by omega
theorem vc_X8_gather_W_11 {n1 z1229 : Int} (h0 : z1229 < 10) (h1 : (z1229 = 0 ∨ 0 < n1)) (h2 : 0 ≤ z1229 ∧ z1229 ≤ 10) : 0 ≤ z1229 ∧ z1229 ≤ 9 := by omega
theorem vc_X8_gather_W_15 {n1 z1027 z1038 z1229 : Int} (h0 : z1038 = n1) (h1 : z1027 < z1038) (h2 : (z1229 = 0 ∨ 0 < n1)) (h3 : z1229 < 10) (h4 : 0 ≤ z1027 ∧ z1027 ≤ 19) (h5 : 1 ≤ z1038 ∧ z1038 ≤ 20) (h6 : 0 ≤ z1229 ∧ z1229 ≤ 9) : 0 ≤ z1027 ∧ z1027 ≤ 19 ∧ (z1027 = 0 ∨ z1027 < n1) := by omega
theorem vc_X8_gather_W_19 {n1 z1027 z1038 z1229 : Int} (h0 : z1038 = n1) (h1 : (z1229 = 0 ∨ 0 < n1)) (h2 : z1229 < 10) (h3 : z1027 < z1038) (h4 : 0 ≤ z1027 ∧ z1027 ≤ 19) (h5 : 1 ≤ z1038 ∧ z1038 ≤ 20) (h6 : 0 ≤ z1229 ∧ z1229 ≤ 9) : 0 ≤ (z1229 + 1) ∧ (z1229 + 1) ≤ 10 ∧ ((z1229 + 1) = 0 ∨ 0 < n1) := by omega
theorem vc_X8_gather_W_21 {n1 z1229 : Int} (h0 : 10 ≤ z1229) (h1 : (z1229 = 0 ∨ 0 < n1)) (h2 : 0 ≤ z1229 ∧ z1229 ≤ 10) : 10 ≤ z1229 ∧ z1229 ≤ 10 := by omega
set_option maxRecDepth 4000 in
set_option maxHeartbeats 4000000 in
theorem c_X8_gather_W {l : Launch} {D : va_G} {c : Nat → ClassId} {H0 : Heap} {sa : Nat × Nat × (Nat → Int32)} {w : mW} {μ : mM} (hw : mWF w) (hT : mT w μ) {p1 : Int} (hp1 : 0 ≤ p1 ∧ p1 ≤ 9) {p2 : Int} (hp2 : 0 ≤ p2 ∧ p2 ≤ 9) (hIPC : PC w μ) {Q : mM → Prop} (hQ : WP_X8_gather_W w μ p1 p2 Q) : sC (gG l D c H0 sa) mX8_gather 41 0 0 [.ref 32, iv p1, iv p2] (mk w μ) (qV w [21002, 21003, 21004, 21005, 21006, 21007, 32009, 200002, 200003, 200004, 200005, 200006, 200007, 200008, 200009, 200010, 200011, 201999, 202999] μ (fun μ1 => Q μ1 ∧ True)) := by
  refine sC.of rfl (by decide) (le_t rfl) ?_
  refine mr_lvE (lv' := [(0, .ref 32), (1, iv p1), (2, iv p2)]) rfl ?_
  refine sv_aload_n (pc := 0) dX8_gather_0 rfl rfl ?_
  refine mr_iconst (pc := 1) (z := 0) dX8_gather_1 ?_
  refine pf_X8_9 (pc := 2) dX8_gather_2 wF_X8_200 (A_32 hw) hT vc_X8_gather_W_1 fun μ1 u2 T3 => ?_
  refine mr_iconst (pc := 5) (z := 0) dX8_gather_5 ?_
  refine mr_istore_n (pc := 6) (lv' := [(3, iv 0), (0, .ref 32), (1, iv p1), (2, iv p2)]) dX8_gather_6 rfl (by decide) rfl ?_
  have L1029 : ∀ (nL1029 : Nat) (z1027 : Int) (μ1028 : mM), mT w μ1028 → mF [21002, 21003, 21004, 21005, 21006, 21007, 32009, 200002, 200003, 200004, 200005, 200006, 200007, 200008, 200009, 200010, 200011, 201999, 202999] w μ1 μ1028 → (0 ≤ z1027 ∧ z1027 ≤ 20) → PC w μ1028 → (21 - z1027) < (nL1029 : Int) → loopF (WL_X8_gather_W_1 w p1 p2 Q μ1) False nL1029 (z1027, μ1028) → sV (gG l D c H0 sa) mX8_gather (sRm 41 0 0) (sZ (gG l D c H0 sa) 0 0 (qV w [21002, 21003, 21004, 21005, 21006, 21007, 32009, 200002, 200003, 200004, 200005, 200006, 200007, 200008, 200009, 200010, 200011, 201999, 202999] μ (fun μ1 => Q μ1 ∧ True))) 7 [(0, .ref 32), (1, iv p1), (2, iv p2), (3, iv z1027)] [] (mk w μ1028) 0 0 := by
    intro nL1029
    induction nL1029 with
    | zero => intro z1027 μ1028 T1031 F1032 h1030 I1034 h1035 W1036; exact ((vc_X12_tieOf_1 h1035 h1030)).elim
    | succ nL1029 ih1037 =>
      intro z1027 μ1028 T1031 F1032 h1030 I1034 h1035 W1036
      refine mr_iload_n (pc := 7) (z := z1027) dX8_gather_7 rfl rfl ?_
      refine sv_aload_n (pc := 8) dX8_gather_8 rfl rfl ?_
      refine gf_X8_0 (pc := 9) dX8_gather_9 wF_X8_9 (A_32 hw) T1031 ?_
      refine gf_X10_16 (pc := 12) dX8_gather_12 wF_X8_153 (A_6 hw) T1031 fun z1038 q1039 h1040 => ?_
      refine mr_icmp_ge (pc := 15) (tgt := 188) dX8_gather_15 (by decide) (r32 h1030 rfl) (r32 h1040.2 rfl) (fun h1129 => ?_) (fun h1129 => ?_)
      · exact mr_vret dX8_gather_188 rfl (le_t rfl) (le_t rfl) T1031 (mF.call (mF.up mF.refl (A_32 hw) u2 rfl) F1032 rfl) ⟨(((W1036 z1027 μ1028 rfl h1030 T1031 F1032) z1038 q1039 h1040).1 h1129), trivial⟩
      have h1130 : 0 ≤ z1027 ∧ z1027 ≤ 19 := (vc_X10_tieBetween_3 h1129 h1040.1 h1030 h1040.2)
      have h1131 : 1 ≤ z1038 ∧ z1038 ≤ 20 := (vc_X10_tieBetween_4 h1129 h1040.1 h1130 h1040.2)
      refine sv_aload_n (pc := 18) dX8_gather_18 rfl rfl ?_
      refine gf_X8_0 (pc := 19) dX8_gather_19 wF_X8_9 (A_32 hw) T1031 ?_
      refine gf_X10_4 (pc := 22) dX8_gather_22 wF_X8_76 (A_6 hw) T1031 ?_
      refine mr_iload_n (pc := 25) (z := z1027) dX8_gather_25 rfl rfl ?_
      refine la_11 (pc := 26) dX8_gather_26 (A_11 hw) T1031 (rIx (n := 20) h1130 rfl) (vc_X10_tieBetween_5 h1040.1 h1129 h1130 h1131) fun b1132 q1133 A1134 => ?_
      refine mr_astore (pc := 27) (lv' := [(4, .ref b1132), (0, .ref 32), (1, iv p1), (2, iv p2), (3, iv z1027)]) dX8_gather_27 (by decide) rfl ?_
      refine sv_aload (pc := 29) dX8_gather_29 rfl ?_
      refine mr_iload_n (pc := 31) (z := p1) dX8_gather_31 rfl rfl ?_
      refine mr_cVP (pc := 32) (c_X9_sideOf_W hw T1031 A1134 (rW (c := (-2147483648)) (d := 2147483647) hp1 rfl) ((((W1036 z1027 μ1028 rfl h1030 T1031 F1032) z1038 q1039 h1040).2 h1129) b1132 q1133 A1134)) (gOk _ _ _ _ _) dX8_gather_32 (tX9_sideOf _ _ _ _ _) ⟨wV_X9_sideOf, wL_X9_sideOf⟩ wM_X8_156 (gCX9 _ _ _ _ _) rfl A1134 rfl ⟨le_t rfl, le_t rfl⟩ ⟨le_t rfl, le_t rfl⟩ rfl (le_t rfl) fun z1139 h1138 => ?_
      refine mr_istore (pc := 35) (lv' := [(5, iv z1139), (4, .ref b1132), (0, .ref 32), (1, iv p1), (2, iv p2), (3, iv z1027)]) dX8_gather_35 (by decide) rfl ?_
      refine mr_iload (pc := 37) (z := z1139) dX8_gather_37 rfl ?_
      have J1218 : ∀ (μ1213 : mM), (mT w μ1213) → (mF [21002, 21003, 21004, 21005, 21006, 21007, 32009, 200002, 200003, 200004, 200005, 200006, 200007, 200008, 200009, 200010, 200011, 201999, 202999] w μ1028 μ1213) → (PC w μ1213) → ((WJ_X8_gather_W_2 w (loopF (WL_X8_gather_W_1 w p1 p2 Q μ1) False nL1029) z1027 μ1028) μ1213) → sV (gG l D c H0 sa) mX8_gather (sRm 41 0 0) (sZ (gG l D c H0 sa) 0 0 (qV w [21002, 21003, 21004, 21005, 21006, 21007, 32009, 200002, 200003, 200004, 200005, 200006, 200007, 200008, 200009, 200010, 200011, 201999, 202999] μ (fun μ1 => Q μ1 ∧ True))) 182 [(0, .ref 32), (1, iv p1), (2, iv p2), (3, iv z1027)] [] (mk w μ1213) 0 0 := by
        intro μ1213 T1214 F1215 I1217 W1219
        refine mr_iinc (pc := 182) (lv' := [(3, iv (z1027 + 1)), (0, .ref 32), (1, iv p1), (2, iv p2)]) dX8_gather_182 rfl (by decide) rfl ?_
        refine sv_goto (pc := 185) (tgt := 7) dX8_gather_185 (by decide) ?_
        refine mr_lvS (lv' := [(0, .ref 32), (1, iv p1), (2, iv p2), (3, iv (z1027 + 1))]) (List.forall_mem_cons.mpr ⟨rfl, List.forall_mem_cons.mpr ⟨rfl, List.forall_mem_cons.mpr ⟨rfl, List.forall_mem_cons.mpr ⟨rfl, fun _ h => absurd h List.not_mem_nil⟩⟩⟩⟩) ?_
        exact ih1037 (z1027 + 1) μ1213 T1214 (mF.call (mF.call mF.refl F1032 rfl) F1215 rfl) (rW (c := 0) (d := 20) (rAdd (e := 1) (f := 20) h1130 (rR (x := 1)) rfl) rfl) I1217 (vc_X10_tieBetween_6 (nS h1035) h1129 h1040.1 h1130 h1131) (W1219 T1214 F1215)
      refine mr_if_lt (pc := 39) (tgt := 182) dX8_gather_39 (by decide) (r32 h1138.1 rfl) (fun h1220 => ?_) (fun h1220 => ?_)
      · have h1221 : (-1) ≤ z1139 ∧ z1139 ≤ (-1) := (vc_X12_differ_33 h1220 h1138.1)
        refine mr_lvS (lv' := [(0, .ref 32), (1, iv p1), (2, iv p2), (3, iv z1027)]) (List.forall_mem_cons.mpr ⟨rfl, List.forall_mem_cons.mpr ⟨rfl, List.forall_mem_cons.mpr ⟨rfl, List.forall_mem_cons.mpr ⟨rfl, fun _ h => absurd h List.not_mem_nil⟩⟩⟩⟩) ?_
        exact J1218 μ1028 T1031 mF.refl I1034 ((h1138.2.1 h1138.1).1 h1220)
      have h1222 : 0 ≤ z1139 ∧ z1139 ≤ 1 := (vc_X12_differ_32 h1220 h1138.1)
      refine sv_aload (pc := 42) dX8_gather_42 rfl ?_
      refine gf_X9_6 (pc := 44) dX8_gather_44 wF_X8_136 A1134 T1031 fun z1223 q1224 h1225 => ?_
      refine mr_if_eq (pc := 47) (tgt := 182) dX8_gather_47 (by decide) (r32 h1225 rfl) (fun h1226 => ?_) (fun h1226 => ?_)
      · have h1227 : 0 ≤ z1223 ∧ z1223 ≤ 0 := (vc_X12_ring_22 h1226 h1225)
        refine mr_lvS (lv' := [(0, .ref 32), (1, iv p1), (2, iv p2), (3, iv z1027)]) (List.forall_mem_cons.mpr ⟨rfl, List.forall_mem_cons.mpr ⟨rfl, List.forall_mem_cons.mpr ⟨rfl, List.forall_mem_cons.mpr ⟨rfl, fun _ h => absurd h List.not_mem_nil⟩⟩⟩⟩) ?_
        exact J1218 μ1028 T1031 mF.refl I1034 ((((h1138.2.1 h1138.1).2 h1220) z1223 q1224 h1225).1 h1226)
      have h1228 : 1 ≤ z1223 ∧ z1223 ≤ 1 := (vc_X12_ring_24 h1226 h1225)
      refine sv_aload_n (pc := 50) dX8_gather_50 rfl rfl ?_
      refine gf_X8_9 (pc := 51) dX8_gather_51 wF_X8_200 (A_32 hw) T1031 fun z1229 q1230 h1231 => ?_
      have h1232 : 0 ≤ z1229 ∧ z1229 ≤ 10 := ⟨h1231.1, h1231.2.1⟩
      refine mr_bipush (pc := 54) (z := 10) dX8_gather_54 (by decide) ?_
      refine mr_icmp_lt (pc := 56) (tgt := 62) dX8_gather_56 (by decide) (r32 h1232 rfl) (r32 (rR (x := 10)) rfl) (fun h1233 => ?_) (fun h1233 => ?_)
      · have h1234 : 0 ≤ z1229 ∧ z1229 ≤ 9 := (vc_X8_gather_W_11 h1233 h1231.2.2 h1232)
        refine sv_aload (pc := 62) dX8_gather_62 rfl ?_
        refine gf_X9_4 (pc := 64) dX8_gather_64 wF_X8_96 A1134 T1031 fun A1235 => ?_
        refine mr_iload (pc := 67) (z := z1139) dX8_gather_67 rfl ?_
        refine mr_iload_n (pc := 69) (z := p2) dX8_gather_69 rfl rfl ?_
        refine mr_cSP (pc := 70) (c_X9_placeOf_W hw T1031 h1222 hp2 ((((((h1138.2.1 h1138.1).2 h1220) z1223 q1224 h1225).2 h1226) z1229 q1230 h1231).1 h1233)) (gOk _ _ _ _ _) dX8_gather_70 (tX9_placeOf _ _ _ _ _) wS_X9_placeOf wM_X8_99 ⟨le_t rfl, le_t rfl⟩ ⟨le_t rfl, le_t rfl⟩ rfl (le_t rfl) fun z1240 h1239 => ?_
        refine la_222 (pc := 73) dX8_gather_73 A1235 T1031 (rIx (n := 20) h1239.1 rfl) fun b1241 q1242 A1243 => ?_
        refine mr_astore (pc := 74) (lv' := [(6, .ref b1241), (5, iv z1139), (4, .ref b1132), (0, .ref 32), (1, iv p1), (2, iv p2), (3, iv z1027)]) dX8_gather_74 (by decide) rfl ?_
        refine sv_aload (pc := 76) dX8_gather_76 rfl ?_
        refine gf_X7_2 (pc := 78) dX8_gather_78 wF_X8_203 A1243 T1031 fun z1244 q1245 h1246 => ?_
        refine mr_if_eq (pc := 81) (tgt := 182) dX8_gather_81 (by decide) (r32 h1246 rfl) (fun h1247 => ?_) (fun h1247 => ?_)
        · have h1248 : 0 ≤ z1244 ∧ z1244 ≤ 0 := (vc_X12_ring_22 h1247 h1246)
          refine mr_lvS (lv' := [(0, .ref 32), (1, iv p1), (2, iv p2), (3, iv z1027)]) (List.forall_mem_cons.mpr ⟨rfl, List.forall_mem_cons.mpr ⟨rfl, List.forall_mem_cons.mpr ⟨rfl, List.forall_mem_cons.mpr ⟨rfl, fun _ h => absurd h List.not_mem_nil⟩⟩⟩⟩) ?_
          exact J1218 μ1028 T1031 mF.refl I1034 ((((h1239.2.1 h1239.1) b1241 q1242 A1243) z1244 q1245 h1246).1 h1247)
        have h1249 : 1 ≤ z1244 ∧ z1244 ≤ 1 := (vc_X12_ring_24 h1247 h1246)
        refine sv_aload (pc := 84) dX8_gather_84 rfl ?_
        refine mr_iload_n (pc := 86) (z := p1) dX8_gather_86 rfl rfl ?_
        refine mr_cVP (pc := 87) (c_X7_passes_W hw T1031 A1243 (rW (c := (-2147483648)) (d := 2147483647) hp1 rfl) ((((h1239.2.1 h1239.1) b1241 q1242 A1243) z1244 q1245 h1246).2 h1247)) (gOk _ _ _ _ _) dX8_gather_87 (tX7_passes _ _ _ _ _) ⟨wV_X7_passes, wL_X7_passes⟩ wM_X8_206 (gCX7 _ _ _ _ _) rfl A1243 rfl ⟨le_t rfl, le_t rfl⟩ ⟨le_t rfl, le_t rfl⟩ rfl (le_t rfl) fun z1254 h1253 => ?_
        refine mr_if_eq (pc := 90) (tgt := 96) dX8_gather_90 (by decide) (r32 h1253.1 rfl) (fun h1255 => ?_) (fun h1255 => ?_)
        · have h1256 : 0 ≤ z1254 ∧ z1254 ≤ 0 := (vc_X12_ring_22 h1255 h1253.1)
          refine sv_aload_n (pc := 96) dX8_gather_96 rfl rfl ?_
          refine gf_X8_4 (pc := 97) dX8_gather_97 wF_X8_34 (A_32 hw) T1031 ?_
          refine sv_aload_n (pc := 100) dX8_gather_100 rfl rfl ?_
          refine gk_X8_9 (pc := 101) dX8_gather_101 wF_X8_200 (A_32 hw) q1230 ?_
          refine la_35 (pc := 104) dX8_gather_104 (A_35 hw) T1031 (rIx (n := 10) h1234 rfl) fun b1257 q1258 A1259 => ?_
          refine mr_astore (pc := 105) (lv' := [(7, .ref b1257), (6, .ref b1241), (5, iv z1139), (4, .ref b1132), (0, .ref 32), (1, iv p1), (2, iv p2), (3, iv z1027)]) dX8_gather_105 (by decide) rfl ?_
          refine sv_aload (pc := 107) dX8_gather_107 rfl ?_
          refine sv_aload (pc := 109) dX8_gather_109 rfl ?_
          refine mr_cVV (pc := 111) (c_X7_become_W hw T1031 A1259 A1243 (((h1253.2.1 h1253.1).1 h1255) b1257 q1258 A1259)) (gOk _ _ _ _ _) dX8_gather_111 (tX7_become _ _ _ _ _) ⟨wV_X7_become, wL_X7_become⟩ wM_X8_106 (gCX7 _ _ _ _ _) rfl A1259 rfl ⟨le_t rfl, le_t rfl⟩ ⟨le_t rfl, le_t rfl⟩ rfl (le_t rfl) fun μ1260 T1261 F1262 h1263 => ?_
          refine sv_aload (pc := 114) dX8_gather_114 rfl ?_
          refine sv_aload (pc := 116) dX8_gather_116 rfl ?_
          refine gf_X7_9 (pc := 118) dX8_gather_118 wF_X8_110 A1243 T1261 fun z1264 q1265 h1266 => ?_
          refine pf_X7_9 (pc := 121) dX8_gather_121 wF_X8_110 A1259 T1261 h1266 fun μ1267 u1268 T1269 => ?_
          refine sv_aload (pc := 124) dX8_gather_124 rfl ?_
          refine mr_iload_n (pc := 126) (z := z1027) dX8_gather_126 rfl rfl ?_
          refine pf_X7_10 (pc := 127) dX8_gather_127 wF_X8_188 A1259 T1269 (vc_X8_gather_W_15 h1040.1 h1129 h1231.2.2 h1233 h1130 h1131 h1234) fun μ1270 u1271 T1272 => ?_
          refine sv_aload (pc := 130) dX8_gather_130 rfl ?_
          refine sv_aload (pc := 132) dX8_gather_132 rfl ?_
          refine mr_iconst (pc := 134) (z := 1) dX8_gather_134 ?_
          refine mr_iload (pc := 135) (z := z1139) dX8_gather_135 rfl ?_
          refine mr_isub (pc := 137) (x := 1) (y := z1139) dX8_gather_137 ?_
          refine mr_cVP (pc := 138) (c_X9_end_W hw T1272 A1134 (rW (c := (-2147483648)) (d := 2147483647) (rSub (e := 0) (f := 1) (rR (x := 1)) h1222 rfl) rfl) ((((h1263.1 T1261 F1262) z1264 q1265 h1266) μ1267 u1268 T1269) μ1270 u1271 T1272)) (gOk _ _ _ _ _) dX8_gather_138 (tX9_end _ _ _ _ _) ⟨wV_X9_end, wL_X9_end⟩ wM_X8_86 (gCX9 _ _ _ _ _) rfl A1134 rfl ⟨le_t rfl, le_t rfl⟩ ⟨le_t rfl, le_t rfl⟩ rfl (le_t rfl) fun z1277 h1276 => ?_
          refine pf_X7_11 (pc := 141) dX8_gather_141 wF_X8_210 A1259 T1272 (rW (c := (-2147483648)) (d := 2147483647) h1276.1 rfl) fun μ1278 u1279 T1280 => ?_
          refine sv_aload_n (pc := 144) dX8_gather_144 rfl rfl ?_
          refine gf_X8_1 (pc := 145) dX8_gather_145 wF_X8_15 (A_32 hw) T1280 ?_
          refine sv_aload (pc := 148) dX8_gather_148 rfl ?_
          refine gf_X9_3 (pc := 150) dX8_gather_150 wF_X8_213 A1134 T1280 fun A1281 => ?_
          refine mr_iload (pc := 153) (z := z1139) dX8_gather_153 rfl ?_
          refine mr_iconst (pc := 155) (z := 2) dX8_gather_155 ?_
          refine mr_imul (pc := 156) (x := z1139) (y := 2) dX8_gather_156 ?_
          refine mr_iconst (pc := 157) (z := 0) dX8_gather_157 ?_
          refine mr_iadd (pc := 158) (x := (z1139 * 2)) (y := 0) dX8_gather_158 ?_
          refine la_221 (pc := 159) dX8_gather_159 A1281 T1280 (rIx (n := 4) (rAdd (e := 0) (f := 2) (rMulR (n := 2) (e := 0) (f := 2) h1222 rfl) (rR (x := 0)) rfl) rfl) fun z1282 q1283 h1284 => ?_
          have h1285 : (-99999999) ≤ z1282 ∧ z1282 ≤ 11 := (vc_X12_candidate_19 h1284)
          refine sv_aload (pc := 160) dX8_gather_160 rfl ?_
          refine sv_aload (pc := 162) dX8_gather_162 rfl ?_
          refine mr_iload (pc := 164) (z := z1139) dX8_gather_164 rfl ?_
          refine mr_cVI (pc := 166) (c_X1_lets_W hw T1280 (rW (c := (-2147483648)) (d := 2147483647) h1285 rfl) A1259 A1134 h1222 (PC.keep I1034 hw ((mF.up (mF.up (mF.up (mF.call mF.refl F1262 rfl) A1259 u1268 rfl) A1259 u1271 rfl) A1259 u1279 rfl) : mF [200002, 200003, 200004, 200005, 200006, 200007, 200008, 200009, 200010, 200011, 201999, 202999] w μ1028 μ1278) rfl) (((h1276.2.2.1 h1276.1) μ1278 u1279 T1280) z1282 q1283 h1284)) (gOk _ _ _ _ _) dX8_gather_166 (tX1_lets _ _ _ _ _) ⟨wV_X1_lets, wL_X1_lets⟩ wM_X8_216 (gCX1 _ _ _ _ _) rfl (A_21 hw) rfl ⟨le_t rfl, le_t rfl⟩ ⟨le_t rfl, le_t rfl⟩ rfl (le_t rfl) fun z1290 μ1286 T1287 F1288 h1289 => ?_
          refine mr_if_eq (pc := 169) (tgt := 182) dX8_gather_169 (by decide) (r32 h1289.1 rfl) (fun h1291 => ?_) (fun h1291 => ?_)
          · have h1292 : 0 ≤ z1290 ∧ z1290 ≤ 0 := (vc_X12_ring_22 h1291 h1289.1)
            refine mr_lvS (lv' := [(0, .ref 32), (1, iv p1), (2, iv p2), (3, iv z1027)]) (List.forall_mem_cons.mpr ⟨rfl, List.forall_mem_cons.mpr ⟨rfl, List.forall_mem_cons.mpr ⟨rfl, List.forall_mem_cons.mpr ⟨rfl, fun _ h => absurd h List.not_mem_nil⟩⟩⟩⟩) ?_
            exact J1218 μ1286 T1287 (mF.call (mF.up (mF.up (mF.up (mF.call mF.refl F1262 rfl) A1259 u1268 rfl) A1259 u1271 rfl) A1259 u1279 rfl) F1288 rfl) (PC.keep I1034 hw ((mF.call (mF.up (mF.up (mF.up (mF.call mF.refl F1262 rfl) A1259 u1268 rfl) A1259 u1271 rfl) A1259 u1279 rfl) F1288 rfl) : mF [21002, 21003, 21004, 21005, 21006, 21007, 200002, 200003, 200004, 200005, 200006, 200007, 200008, 200009, 200010, 200011, 201999, 202999] w μ1028 μ1286) rfl) (((h1289.2.1 T1287 F1288) h1289.1).1 h1291)
          have h1293 : 1 ≤ z1290 ∧ z1290 ≤ 1 := (vc_X12_ring_24 h1291 h1289.1)
          refine sv_aload_n (pc := 172) dX8_gather_172 rfl rfl ?_
          refine sv_dup (pc := 173) dX8_gather_173 rfl ?_
          refine gk_X8_9 (pc := 174) dX8_gather_174 wF_X8_200 (A_32 hw) (F1288.f (A_32 hw) rfl (u1279.f (Or.inl (mAt.ne A1259 (A_32 hw) rfl)) (u1271.f (Or.inl (mAt.ne A1259 (A_32 hw) rfl)) (u1268.f (Or.inl (mAt.ne A1259 (A_32 hw) rfl)) (F1262.f (A_32 hw) rfl q1230))))) ?_
          refine mr_iconst (pc := 177) (z := 1) dX8_gather_177 ?_
          refine mr_iadd (pc := 178) (x := z1229) (y := 1) dX8_gather_178 ?_
          refine pf_X8_9 (pc := 179) dX8_gather_179 wF_X8_200 (A_32 hw) T1287 (vc_X8_gather_W_19 h1040.1 h1231.2.2 h1233 h1129 h1130 h1131 h1234) fun μ1294 u1295 T1296 => ?_
          refine mr_lvS (lv' := [(0, .ref 32), (1, iv p1), (2, iv p2), (3, iv z1027)]) (List.forall_mem_cons.mpr ⟨rfl, List.forall_mem_cons.mpr ⟨rfl, List.forall_mem_cons.mpr ⟨rfl, List.forall_mem_cons.mpr ⟨rfl, fun _ h => absurd h List.not_mem_nil⟩⟩⟩⟩) ?_
          exact J1218 μ1294 T1296 (mF.up (mF.call (mF.up (mF.up (mF.up (mF.call mF.refl F1262 rfl) A1259 u1268 rfl) A1259 u1271 rfl) A1259 u1279 rfl) F1288 rfl) (A_32 hw) u1295 rfl) (PC.keep I1034 hw ((mF.up (mF.call (mF.up (mF.up (mF.up (mF.call mF.refl F1262 rfl) A1259 u1268 rfl) A1259 u1271 rfl) A1259 u1279 rfl) F1288 rfl) (A_32 hw) u1295 rfl) : mF [21002, 21003, 21004, 21005, 21006, 21007, 32009, 200002, 200003, 200004, 200005, 200006, 200007, 200008, 200009, 200010, 200011, 201999, 202999] w μ1028 μ1294) rfl) ((((h1289.2.1 T1287 F1288) h1289.1).2 h1291) μ1294 u1295 T1296)
        have h1297 : 1 ≤ z1254 ∧ z1254 ≤ 1 := (vc_X12_ring_24 h1255 h1253.1)
        refine sv_goto (pc := 93) (tgt := 182) dX8_gather_93 (by decide) ?_
        refine mr_lvS (lv' := [(0, .ref 32), (1, iv p1), (2, iv p2), (3, iv z1027)]) (List.forall_mem_cons.mpr ⟨rfl, List.forall_mem_cons.mpr ⟨rfl, List.forall_mem_cons.mpr ⟨rfl, List.forall_mem_cons.mpr ⟨rfl, fun _ h => absurd h List.not_mem_nil⟩⟩⟩⟩) ?_
        exact J1218 μ1028 T1031 mF.refl I1034 ((h1253.2.1 h1253.1).2 h1255)
      have h1298 : 10 ≤ z1229 ∧ z1229 ≤ 10 := (vc_X8_gather_W_21 h1233 h1231.2.2 h1232)
      refine sv_goto (pc := 59) (tgt := 182) dX8_gather_59 (by decide) ?_
      refine mr_lvS (lv' := [(0, .ref 32), (1, iv p1), (2, iv p2), (3, iv z1027)]) (List.forall_mem_cons.mpr ⟨rfl, List.forall_mem_cons.mpr ⟨rfl, List.forall_mem_cons.mpr ⟨rfl, List.forall_mem_cons.mpr ⟨rfl, fun _ h => absurd h List.not_mem_nil⟩⟩⟩⟩) ?_
      exact J1218 μ1028 T1031 mF.refl I1034 ((((((h1138.2.1 h1138.1).2 h1220) z1223 q1224 h1225).2 h1226) z1229 q1230 h1231).2 h1233)
  refine mr_lvS (lv' := [(0, .ref 32), (1, iv p1), (2, iv p2), (3, iv 0)]) (List.forall_mem_cons.mpr ⟨rfl, List.forall_mem_cons.mpr ⟨rfl, List.forall_mem_cons.mpr ⟨rfl, List.forall_mem_cons.mpr ⟨rfl, fun _ h => absurd h List.not_mem_nil⟩⟩⟩⟩) ?_
  exact L1029 22 0 μ1 T3 mF.refl (rW (c := 0) (d := 20) (rR (x := 0)) rfl) (PC.keep hIPC hw ((mF.up mF.refl (A_32 hw) u2 rfl) : mF [32009] w μ μ1) rfl) vc_X12_tieOf_12 (hQ μ1 u2 T3)
def WP_X8_compose_W (w : mW) (μ : mM) (a1 : Nat) (p2 : Int) (p3 : Int) (p4 : Int) (Q : mM → Prop) : Prop := WP_X9_end_W w μ a1 p3 (fun z5 _ => (0 ≤ z5 ∧ z5 ≤ 9) → ∀ b6 : Nat, μ 10 (z5.toNat) = (b6 : Int) → mAt w b6 210 → ∀ b10 : Nat, μ (b6 + 4) (p4.toNat) = (b10 : Int) → mAt w b10 200 → WP_X7_become_W w μ 73 b10 (fun μ13 => mT w μ13 → mF [200002, 200003, 200004, 200005, 200006, 200007, 200008, 201999, 202999] w μ μ13 → ∀ μ17 : mM, mU μ13 73 (4) (100 : Int) μ17 → mT w μ17 → ∀ z21 : Int, μ17 (b6 + 3) (p4.toNat) = z21 → ((z21 = -99999999 ∨ z21 = -4 ∨ (0 ≤ z21 ∧ z21 ≤ 19)) ∧ (0 ≤ z21 → z21 < w.2.2.2 1)) → ((z21 = p2) → ∀ μ41 : mM, mU μ17 73 (2) (0 : Int) μ41 → mT w μ41 → Q μ41) ∧ ((¬ z21 = p2) → WP_X7_putInFront_W w μ17 73 z5 (1) (fun z48 μ44 => mT w μ44 → mF [200007, 201999] w μ17 μ44 → (0 ≤ z48 ∧ z48 ≤ 1) → ((¬ z48 = 0) → Q μ44) ∧ ((z48 = 0) → ∀ μ57 : mM, mU μ44 73 (2) (0 : Int) μ57 → mT w μ57 → Q μ57)))))
theorem vc_X8_compose_W_3 {n1 p2 z21 : Int} (h0 : z21 = p2) (h1 : (0 ≤ z21 → z21 < n1)) (h2 : 0 ≤ p2 ∧ p2 ≤ 19) (h3 : (-99999999) ≤ z21 ∧ z21 ≤ 19) (h4 : z21 = -99999999 ∨ z21 = -4 ∨ (0 ≤ z21 ∧ z21 ≤ 19)) : 0 ≤ z21 ∧ z21 ≤ 19 := by omega
set_option maxRecDepth 4000 in
set_option maxHeartbeats 4000000 in
theorem c_X8_compose_W {l : Launch} {D : va_G} {c : Nat → ClassId} {H0 : Heap} {sa : Nat × Nat × (Nat → Int32)} {w : mW} {μ : mM} (hw : mWF w) (hT : mT w μ) {a1 : Nat} (hA1 : mAt w a1 220) {p2 : Int} (hp2 : 0 ≤ p2 ∧ p2 ≤ 19) {p3 : Int} (hp3 : 0 ≤ p3 ∧ p3 ≤ 1) {p4 : Int} (hp4 : 0 ≤ p4 ∧ p4 ≤ 9) {Q : mM → Prop} (hQ : WP_X8_compose_W w μ a1 p2 p3 p4 Q) : sC (gG l D c H0 sa) mX8_compose 4 0 0 [.ref 32, .ref a1, iv p2, iv p3, iv p4] (mk w μ) (qV w [200002, 200003, 200004, 200005, 200006, 200007, 200008, 201999, 202999] μ (fun μ1 => Q μ1 ∧ True)) := by
  refine sC.of rfl (by decide) (le_t rfl) ?_
  refine mr_lvE (lv' := [(0, .ref 32), (1, .ref a1), (2, iv p2), (3, iv p3), (4, iv p4)]) rfl ?_
  refine sv_aload_n (pc := 0) dX8_compose_0 rfl rfl ?_
  refine mr_iload_n (pc := 1) (z := p3) dX8_compose_1 rfl rfl ?_
  refine mr_cVP (pc := 2) (c_X9_end_W hw hT hA1 (rW (c := (-2147483648)) (d := 2147483647) hp3 rfl) hQ) (gOk _ _ _ _ _) dX8_compose_2 (tX9_end _ _ _ _ _) ⟨wV_X9_end, wL_X9_end⟩ wM_X8_86 (gCX9 _ _ _ _ _) rfl hA1 rfl ⟨le_t rfl, le_t rfl⟩ ⟨le_t rfl, le_t rfl⟩ rfl (le_t rfl) fun z5 h4 => ?_
  refine mr_istore (pc := 5) (lv' := [(5, iv z5), (0, .ref 32), (1, .ref a1), (2, iv p2), (3, iv p3), (4, iv p4)]) dX8_compose_5 (by decide) rfl ?_
  refine sv_aload_n (pc := 7) dX8_compose_7 rfl rfl ?_
  refine gf_X8_0 (pc := 8) dX8_compose_8 wF_X8_9 (A_32 hw) hT ?_
  refine gf_X10_3 (pc := 11) dX8_compose_11 wF_X8_162 (A_6 hw) hT ?_
  refine mr_iload (pc := 14) (z := z5) dX8_compose_14 rfl ?_
  refine la_10 (pc := 16) dX8_compose_16 (A_10 hw) hT (rIx (n := 10) h4.1 rfl) (vc_X9_end_1 h4.2.1 h4.1) fun b6 q7 A8 => ?_
  refine mr_astore (pc := 17) (lv' := [(6, .ref b6), (5, iv z5), (0, .ref 32), (1, .ref a1), (2, iv p2), (3, iv p3), (4, iv p4)]) dX8_compose_17 (by decide) rfl ?_
  refine sv_aload_n (pc := 19) dX8_compose_19 rfl rfl ?_
  refine gf_X8_8 (pc := 20) dX8_compose_20 wF_X8_49 (A_32 hw) hT ?_
  refine sv_aload (pc := 23) dX8_compose_23 rfl ?_
  refine gf_X0_3 (pc := 25) dX8_compose_25 wF_X8_193 A8 hT fun A9 => ?_
  refine mr_iload (pc := 28) (z := p4) dX8_compose_28 rfl ?_
  refine la_214 (pc := 30) dX8_compose_30 A9 hT (rIx (n := 10) hp4 rfl) fun b10 q11 A12 => ?_
  refine mr_cVV (pc := 31) (c_X7_become_W hw hT (A_73 hw) A12 (((h4.2.2.1 h4.1) b6 q7 A8) b10 q11 A12)) (gOk _ _ _ _ _) dX8_compose_31 (tX7_become _ _ _ _ _) ⟨wV_X7_become, wL_X7_become⟩ wM_X8_106 (gCX7 _ _ _ _ _) rfl (A_73 hw) rfl ⟨le_t rfl, le_t rfl⟩ ⟨le_t rfl, le_t rfl⟩ rfl (le_t rfl) fun μ13 T14 F15 h16 => ?_
  refine sv_aload_n (pc := 34) dX8_compose_34 rfl rfl ?_
  refine gf_X8_8 (pc := 35) dX8_compose_35 wF_X8_49 (A_32 hw) T14 ?_
  refine mr_bipush (pc := 38) (z := 100) dX8_compose_38 (by decide) ?_
  refine pf_X7_4 (pc := 40) dX8_compose_40 wF_X8_260 (A_73 hw) T14 (rW (c := (-2147483648)) (d := 2147483647) (rR (x := 100)) rfl) fun μ17 u18 T19 => ?_
  refine sv_aload (pc := 43) dX8_compose_43 rfl ?_
  refine gf_X0_2 (pc := 45) dX8_compose_45 wF_X8_190 A8 T19 fun A20 => ?_
  refine mr_iload (pc := 48) (z := p4) dX8_compose_48 rfl ?_
  refine la_213 (pc := 50) dX8_compose_50 A20 T19 (rIx (n := 10) hp4 rfl) fun z21 q22 h23 => ?_
  have h24 : (-99999999) ≤ z21 ∧ z21 ≤ 19 := (vc_X12_sends_3 h23.1)
  refine mr_iload_n (pc := 51) (z := p2) dX8_compose_51 rfl rfl ?_
  refine mr_icmp_eq (pc := 52) (tgt := 68) dX8_compose_52 (by decide) (r32 h24 rfl) (r32 hp2 rfl) (fun h39 => ?_) (fun h39 => ?_)
  · have h40 : 0 ≤ z21 ∧ z21 ≤ 19 := (vc_X8_compose_W_3 h39 h23.2 hp2 h24 h23.1)
    refine sv_aload_n (pc := 68) dX8_compose_68 rfl rfl ?_
    refine gf_X8_8 (pc := 69) dX8_compose_69 wF_X8_49 (A_32 hw) T19 ?_
    refine mr_iconst (pc := 72) (z := 0) dX8_compose_72 ?_
    refine pf_X7_2 (pc := 73) dX8_compose_73 wF_X8_203 (A_73 hw) T19 (rW (c := 0) (d := 1) (rR (x := 0)) rfl) fun μ41 u42 T43 => ?_
    exact mr_vret dX8_compose_76 rfl (le_t rfl) (le_t rfl) T43 (mF.up (mF.up (mF.call mF.refl F15 rfl) (A_73 hw) u18 rfl) (A_73 hw) u42 rfl) ⟨(((((h16.1 T14 F15) μ17 u18 T19) z21 q22 h23).1 h39) μ41 u42 T43), trivial⟩
  refine sv_aload_n (pc := 55) dX8_compose_55 rfl rfl ?_
  refine gf_X8_8 (pc := 56) dX8_compose_56 wF_X8_49 (A_32 hw) T19 ?_
  refine mr_iload (pc := 59) (z := z5) dX8_compose_59 rfl ?_
  refine mr_iconst (pc := 61) (z := 1) dX8_compose_61 ?_
  refine mr_cVI (pc := 62) (c_X7_putInFront_W hw T19 (A_73 hw) (rW (c := (-2147483648)) (d := 2147483647) h4.1 rfl) (rW (c := (-2147483648)) (d := 1000000) (rR (x := 1)) rfl) ((((h16.1 T14 F15) μ17 u18 T19) z21 q22 h23).2 h39)) (gOk _ _ _ _ _) dX8_compose_62 (tX7_putInFront _ _ _ _ _) ⟨wV_X7_putInFront, wL_X7_putInFront⟩ wM_X8_272 (gCX7 _ _ _ _ _) rfl (A_73 hw) rfl ⟨le_t rfl, le_t rfl⟩ ⟨le_t rfl, le_t rfl⟩ rfl (le_t rfl) fun z48 μ44 T45 F46 h47 => ?_
  refine mr_if_ne (pc := 65) (tgt := 76) dX8_compose_65 (by decide) (r32 h47.1 rfl) (fun h54 => ?_) (fun h54 => ?_)
  · have h55 : 1 ≤ z48 ∧ z48 ≤ 1 := (vc_X12_ring_24 h54 h47.1)
    exact mr_vret dX8_compose_76 rfl (le_t rfl) (le_t rfl) T45 (mF.call (mF.up (mF.call mF.refl F15 rfl) (A_73 hw) u18 rfl) F46 rfl) ⟨(((h47.2.1 T45 F46) h47.1).1 h54), trivial⟩
  have h56 : 0 ≤ z48 ∧ z48 ≤ 0 := (vc_X12_ring_22 h54 h47.1)
  refine sv_aload_n (pc := 68) dX8_compose_68 rfl rfl ?_
  refine gf_X8_8 (pc := 69) dX8_compose_69 wF_X8_49 (A_32 hw) T45 ?_
  refine mr_iconst (pc := 72) (z := 0) dX8_compose_72 ?_
  refine pf_X7_2 (pc := 73) dX8_compose_73 wF_X8_203 (A_73 hw) T45 (rW (c := 0) (d := 1) (rR (x := 0)) rfl) fun μ57 u58 T59 => ?_
  exact mr_vret dX8_compose_76 rfl (le_t rfl) (le_t rfl) T59 (mF.up (mF.call (mF.up (mF.call mF.refl F15 rfl) (A_73 hw) u18 rfl) F46 rfl) (A_73 hw) u58 rfl) ⟨((((h47.2.1 T45 F46) h47.1).2 h54) μ57 u58 T59), trivial⟩
def WP_X8_slotOf_W (w : mW) (μ : mM) (p1 : Int) (p2 : Int) (p3 : Int) (p4 : Int) (Q : Int → mM → Prop) : Prop := Q ((((((p1 * 2) + p2) * 10) + p3) * 2) + p4) μ
theorem vc_X8_slotOf_W_1 {p1 p2 p3 p4 : Int} (h0 : 0 ≤ p1 ∧ p1 ≤ 20) (h1 : 0 ≤ p2 ∧ p2 ≤ 1) (h2 : 0 ≤ p3 ∧ p3 ≤ 9) (h3 : 0 ≤ p4 ∧ p4 ≤ 1) : ((((((p1 * 2) + p2) * 10) + p3) * 2) + p4) = 40 * p1 + 20 * p2 + 2 * p3 + p4 := by omega
set_option maxRecDepth 4000 in
set_option maxHeartbeats 4000000 in
theorem c_X8_slotOf_W {l : Launch} {D : va_G} {c : Nat → ClassId} {H0 : Heap} {sa : Nat × Nat × (Nat → Int32)} {w : mW} {μ : mM} (hw : mWF w) (hT : mT w μ) {p1 : Int} (hp1 : 0 ≤ p1 ∧ p1 ≤ 20) {p2 : Int} (hp2 : 0 ≤ p2 ∧ p2 ≤ 1) {p3 : Int} (hp3 : 0 ≤ p3 ∧ p3 ≤ 9) {p4 : Int} (hp4 : 0 ≤ p4 ∧ p4 ≤ 1) {Q : Int → mM → Prop} (hQ : WP_X8_slotOf_W w μ p1 p2 p3 p4 Q) : sC (gG l D c H0 sa) mX8_slotOf 1 0 0 [iv p1, iv p2, iv p3, iv p4] (mk w μ) (qP w μ (fun z => (0 ≤ z ∧ z ≤ 839) ∧ (z = 40 * p1 + 20 * p2 + 2 * p3 + p4) ∧ Q z μ ∧ True)) := by
  refine sC.of rfl (by decide) (le_t rfl) ?_
  refine mr_lvE (lv' := [(0, iv p1), (1, iv p2), (2, iv p3), (3, iv p4)]) rfl ?_
  refine mr_iload_n (pc := 0) (z := p1) dX8_slotOf_0 rfl rfl ?_
  refine mr_iconst (pc := 1) (z := 2) dX8_slotOf_1 ?_
  refine mr_imul (pc := 2) (x := p1) (y := 2) dX8_slotOf_2 ?_
  refine mr_iload_n (pc := 3) (z := p2) dX8_slotOf_3 rfl rfl ?_
  refine mr_iadd (pc := 4) (x := (p1 * 2)) (y := p2) dX8_slotOf_4 ?_
  refine mr_bipush (pc := 5) (z := 10) dX8_slotOf_5 (by decide) ?_
  refine mr_imul (pc := 7) (x := ((p1 * 2) + p2)) (y := 10) dX8_slotOf_7 ?_
  refine mr_iload_n (pc := 8) (z := p3) dX8_slotOf_8 rfl rfl ?_
  refine mr_iadd (pc := 9) (x := (((p1 * 2) + p2) * 10)) (y := p3) dX8_slotOf_9 ?_
  refine mr_iconst (pc := 10) (z := 2) dX8_slotOf_10 ?_
  refine mr_imul (pc := 11) (x := ((((p1 * 2) + p2) * 10) + p3)) (y := 2) dX8_slotOf_11 ?_
  refine mr_iload_n (pc := 12) (z := p4) dX8_slotOf_12 rfl rfl ?_
  refine mr_iadd (pc := 13) (x := (((((p1 * 2) + p2) * 10) + p3) * 2)) (y := p4) dX8_slotOf_13 ?_
  exact mr_iretP dX8_slotOf_14 rfl (le_t rfl) (le_t rfl) ⟨(rAdd (e := 0) (f := 839) (rMulR (n := 2) (e := 0) (f := 838) (rAdd (e := 0) (f := 419) (rMulR (n := 10) (e := 0) (f := 410) (rAdd (e := 0) (f := 41) (rMulR (n := 2) (e := 0) (f := 40) hp1 rfl) hp2 rfl) rfl) hp3 rfl) rfl) hp4 rfl), (vc_X8_slotOf_W_1 hp1 hp2 hp3 hp4), hQ, trivial⟩
def WJ_X8_say_W_1 (w : mW) (p1 : Int) (p2 : Int) (p3 : Int) (Q : mM → Prop) (b1 : Nat) (μ9 : mM) (μ33 : mM) : Prop := mT w μ33 → mF [21002, 21003, 21004, 21005, 21006, 21007, 200002, 200004, 200006, 200007, 200008, 201999, 202999] w μ9 μ33 → ∀ μ40 : mM, mU μ33 73 (4) (100 : Int) μ40 → mT w μ40 → WP_X9_placeOf_W w μ40 p2 p3 (fun z48 _ => (0 ≤ z48 ∧ z48 ≤ 19) → ∀ b49 : Nat, μ40 (b1 + 3) (z48.toNat) = (b49 : Int) → mAt w b49 200 → WP_X7_isAlike_W w μ40 73 b49 (fun z56 _ => (0 ≤ z56 ∧ z56 ≤ 1) → ((z56 = 0) → ∀ z59 : Int, μ40 b49 9 = z59 → ((-1) ≤ z59 ∧ z59 ≤ 2000000000) → ((z59 = (-1)) → WP_X7_become_W w μ40 b49 73 (fun μ64 => mT w μ64 → mF [200002, 200003, 200004, 200005, 200006, 200007, 200008, 201999, 202999] w μ40 μ64 → ∀ z68 : Int, μ64 32 11 = z68 → ((-1) ≤ z68 ∧ z68 ≤ 2000000000) → ∀ μ71 : mM, mU μ64 b49 (9) z68 μ71 → mT w μ71 → WP_X8_slotOf_W w μ71 p1 p2 p3 (0) (fun z78 _ => (0 ≤ z78 ∧ z78 ≤ 839) → WP_X8_cancel_W w μ71 z78 (fun μ80 => mT w μ80 → mF [32010, 33999, 34999] w μ71 μ80 → ∀ z84 : Int, μ80 b1 7 = z84 → (0 ≤ z84 ∧ z84 ≤ 1000) → WP_X8_schedule_W w μ80 z78 (z68 + z84) (fun μ87 => mT w μ87 → mF [32010, 33999, 34999] w μ80 μ87 → Q μ87))))) ∧ ((¬ z59 = (-1)) → ∀ z92 : Int, μ40 32 11 = z92 → ((-1) ≤ z92 ∧ z92 ≤ 2000000000) → ∀ z95 : Int, μ40 b1 8 = z95 → (0 ≤ z95 ∧ z95 ≤ 1000) → (((z59 + z95) ≤ z92) → WP_X7_become_W w μ40 b49 73 (fun μ100 => mT w μ100 → mF [200002, 200003, 200004, 200005, 200006, 200007, 200008, 201999, 202999] w μ40 μ100 → ∀ μ104 : mM, mU μ100 b49 (9) z92 μ104 → mT w μ104 → WP_X8_slotOf_W w μ104 p1 p2 p3 (0) (fun z111 _ => (0 ≤ z111 ∧ z111 ≤ 839) → WP_X8_cancel_W w μ104 z111 (fun μ113 => mT w μ113 → mF [32010, 33999, 34999] w μ104 μ113 → ∀ z117 : Int, μ113 b1 7 = z117 → (0 ≤ z117 ∧ z117 ≤ 1000) → WP_X8_schedule_W w μ113 z111 (z92 + z117) (fun μ120 => mT w μ120 → mF [32010, 33999, 34999] w μ113 μ120 → Q μ120))))) ∧ ((z92 < (z59 + z95)) → WP_X8_slotOf_W w μ40 p1 p2 p3 (1) (fun z128 _ => (0 ≤ z128 ∧ z128 ≤ 839) → ∀ z130 : Int, μ40 34 (z128.toNat) = z130 → ((-1) ≤ z130 ∧ z130 ≤ 2000001000) → ((¬ z130 = (-1)) → Q μ40) ∧ ((z130 = (-1)) → WP_X8_schedule_W w μ40 z128 (z59 + z95) (fun μ142 => mT w μ142 → mF [32010, 33999, 34999] w μ40 μ142 → Q μ142)))))) ∧ ((¬ z56 = 0) → Q μ40)))
def WP_X8_say_W (w : mW) (μ : mM) (p1 : Int) (p2 : Int) (p3 : Int) (Q : mM → Prop) : Prop := ∀ b1 : Nat, μ 11 (p1.toNat) = (b1 : Int) → mAt w b1 220 → ∀ z4 : Int, μ b1 6 = z4 → (0 ≤ z4 ∧ z4 ≤ 1) → ((¬ z4 = 0) → WP_X8_compose_W w μ b1 p1 p2 p3 (fun μ9 => mT w μ9 → mF [200002, 200003, 200004, 200005, 200006, 200007, 200008, 201999, 202999] w μ μ9 → ∀ z13 : Int, μ9 73 2 = z13 → (0 ≤ z13 ∧ z13 ≤ 1) → ((z13 = 0) → (WJ_X8_say_W_1 w p1 p2 p3 Q b1 μ9) μ9) ∧ ((¬ z13 = 0) → ∀ z151 : Int, μ9 (b1 + 1) (((p2 * 2) + 1).toNat) = z151 → (z151 = -99999999 ∨ (0 ≤ z151 ∧ z151 ≤ 11)) → WP_X1_lets_W w μ9 z151 73 b1 p2 (fun z159 μ155 => mT w μ155 → mF [21002, 21003, 21004, 21005, 21006, 21007, 200004, 200006, 200007, 200008, 201999, 202999] w μ9 μ155 → (0 ≤ z159 ∧ z159 ≤ 1) → ((¬ z159 = 0) → (WJ_X8_say_W_1 w p1 p2 p3 Q b1 μ9) μ155) ∧ ((z159 = 0) → ∀ μ163 : mM, mU μ155 73 (2) (0 : Int) μ163 → mT w μ163 → (WJ_X8_say_W_1 w p1 p2 p3 Q b1 μ9) μ163))))) ∧ ((z4 = 0) → Q μ)
theorem vc_X8_say_W_1 {n1 p1 : Int} (h0 : p1 < n1) (h1 : 0 ≤ p1 ∧ p1 ≤ 19) : p1 < n1 := by omega
theorem vc_X8_say_W_4 {z59 : Int} (h0 : z59 = (-1)) (h1 : (-1) ≤ z59 ∧ z59 ≤ 2000000000) : (-1) ≤ z59 ∧ z59 ≤ (-1) := by omega
theorem vc_X8_say_W_5 {n1 p1 p2 p3 z78 : Int} (h0 : z78 = ((((40 * p1) + (20 * p2)) + (2 * p3)) + 0)) (h1 : p1 < n1) (h2 : 0 ≤ p1 ∧ p1 ≤ 19) (h3 : 0 ≤ p2 ∧ p2 ≤ 1) (h4 : 0 ≤ p3 ∧ p3 ≤ 9) (h5 : 0 ≤ z78 ∧ z78 ≤ 839) : 0 ≤ z78 ∧ z78 ≤ 798 := by omega
theorem vc_X8_say_W_6 {n1 p1 p2 p3 z78 : Int} (h0 : p1 < n1) (h1 : z78 = ((((40 * p1) + (20 * p2)) + (2 * p3)) + 0)) (h2 : 0 ≤ p1 ∧ p1 ≤ 19) (h3 : 0 ≤ p2 ∧ p2 ≤ 1) (h4 : 0 ≤ p3 ∧ p3 ≤ 9) (h5 : 0 ≤ z78 ∧ z78 ≤ 798) : z78 < 40 * n1 := by omega
theorem vc_X8_say_W_7 {z59 : Int} (h0 : ¬ z59 = (-1)) (h1 : (-1) ≤ z59 ∧ z59 ≤ 2000000000) : 0 ≤ z59 ∧ z59 ≤ 2000000000 := by omega
theorem vc_X8_say_W_8 {z59 z92 z95 : Int} (h0 : (z59 + z95) ≤ z92) (h1 : ¬ z59 = (-1)) (h2 : 0 ≤ z59 ∧ z59 ≤ 2000000000) (h3 : (-1) ≤ z92 ∧ z92 ≤ 2000000000) (h4 : 0 ≤ z95 ∧ z95 ≤ 1000) : 0 ≤ z92 ∧ z92 ≤ 2000000000 := by omega
theorem vc_X8_say_W_11 {n1 p1 p2 p3 z128 : Int} (h0 : z128 = ((((40 * p1) + (20 * p2)) + (2 * p3)) + 1)) (h1 : p1 < n1) (h2 : 0 ≤ p1 ∧ p1 ≤ 19) (h3 : 0 ≤ p2 ∧ p2 ≤ 1) (h4 : 0 ≤ p3 ∧ p3 ≤ 9) (h5 : 0 ≤ z128 ∧ z128 ≤ 839) : 1 ≤ z128 ∧ z128 ≤ 799 := by omega
theorem vc_X8_say_W_14 {n1 p1 p2 p3 z128 : Int} (h0 : p1 < n1) (h1 : z128 = ((((40 * p1) + (20 * p2)) + (2 * p3)) + 1)) (h2 : 0 ≤ p1 ∧ p1 ≤ 19) (h3 : 0 ≤ p2 ∧ p2 ≤ 1) (h4 : 0 ≤ p3 ∧ p3 ≤ 9) (h5 : 1 ≤ z128 ∧ z128 ≤ 799) : z128 < 40 * n1 := by omega
set_option maxRecDepth 4000 in
set_option maxHeartbeats 4000000 in
theorem c_X8_say_W {l : Launch} {D : va_G} {c : Nat → ClassId} {H0 : Heap} {sa : Nat × Nat × (Nat → Int32)} {w : mW} {μ : mM} (hw : mWF w) (hT : mT w μ) {p1 : Int} (hp1 : 0 ≤ p1 ∧ p1 ≤ 19) {p2 : Int} (hp2 : 0 ≤ p2 ∧ p2 ≤ 1) {p3 : Int} (hp3 : 0 ≤ p3 ∧ p3 ≤ 9) (hq0 : p1 < w.2.2.2 1) (hIPC : PC w μ) {Q : mM → Prop} (hQ : WP_X8_say_W w μ p1 p2 p3 Q) : sC (gG l D c H0 sa) mX8_say 41 0 0 [.ref 32, iv p1, iv p2, iv p3] (mk w μ) (qV w [21002, 21003, 21004, 21005, 21006, 21007, 32010, 33999, 34999, 200002, 200003, 200004, 200005, 200006, 200007, 200008, 200009, 201999, 202999] μ (fun μ1 => Q μ1 ∧ True)) := by
  refine sC.of rfl (by decide) (le_t rfl) ?_
  refine mr_lvE (lv' := [(0, .ref 32), (1, iv p1), (2, iv p2), (3, iv p3)]) rfl ?_
  refine sv_aload_n (pc := 0) dX8_say_0 rfl rfl ?_
  refine gf_X8_0 (pc := 1) dX8_say_1 wF_X8_9 (A_32 hw) hT ?_
  refine gf_X10_4 (pc := 4) dX8_say_4 wF_X8_76 (A_6 hw) hT ?_
  refine mr_iload_n (pc := 7) (z := p1) dX8_say_7 rfl rfl ?_
  refine la_11 (pc := 8) dX8_say_8 (A_11 hw) hT (rIx (n := 20) hp1 rfl) (vc_X8_say_W_1 hq0 hp1) fun b1 q2 A3 => ?_
  refine mr_astore (pc := 9) (lv' := [(4, .ref b1), (0, .ref 32), (1, iv p1), (2, iv p2), (3, iv p3)]) dX8_say_9 (by decide) rfl ?_
  refine sv_aload (pc := 11) dX8_say_11 rfl ?_
  refine gf_X9_6 (pc := 13) dX8_say_13 wF_X8_136 A3 hT fun z4 q5 h6 => ?_
  refine mr_if_ne (pc := 16) (tgt := 20) dX8_say_16 (by decide) (r32 h6 rfl) (fun h7 => ?_) (fun h7 => ?_)
  · have h8 : 1 ≤ z4 ∧ z4 ≤ 1 := (vc_X12_ring_24 h7 h6)
    refine sv_aload_n (pc := 20) dX8_say_20 rfl rfl ?_
    refine sv_aload (pc := 21) dX8_say_21 rfl ?_
    refine mr_iload_n (pc := 23) (z := p1) dX8_say_23 rfl rfl ?_
    refine mr_iload_n (pc := 24) (z := p2) dX8_say_24 rfl rfl ?_
    refine mr_iload_n (pc := 25) (z := p3) dX8_say_25 rfl rfl ?_
    refine mr_cVV (pc := 26) (c_X8_compose_W hw hT A3 hp1 hp2 hp3 (((hQ b1 q2 A3) z4 q5 h6).1 h7)) (gOk _ _ _ _ _) dX8_say_26 (tX8_compose _ _ _ _ _) ⟨wV_X8_compose, wL_X8_compose⟩ wM_X8_256 (gCX8 _ _ _ _ _) rfl (A_32 hw) rfl ⟨le_t rfl, le_t rfl⟩ ⟨le_t rfl, le_t rfl⟩ rfl (le_t rfl) fun μ9 T10 F11 h12 => ?_
    refine sv_aload_n (pc := 29) dX8_say_29 rfl rfl ?_
    refine gf_X8_8 (pc := 30) dX8_say_30 wF_X8_49 (A_32 hw) T10 ?_
    refine gf_X7_2 (pc := 33) dX8_say_33 wF_X8_203 (A_73 hw) T10 fun z13 q14 h15 => ?_
    have J38 : ∀ (μ33 : mM), (mT w μ33) → (mF [21002, 21003, 21004, 21005, 21006, 21007, 200002, 200004, 200006, 200007, 200008, 201999, 202999] w μ9 μ33) → (PC w μ33) → ((WJ_X8_say_W_1 w p1 p2 p3 Q b1 μ9) μ33) → sV (gG l D c H0 sa) mX8_say (sRm 41 0 0) (sZ (gG l D c H0 sa) 0 0 (qV w [21002, 21003, 21004, 21005, 21006, 21007, 32010, 33999, 34999, 200002, 200003, 200004, 200005, 200006, 200007, 200008, 200009, 201999, 202999] μ (fun μ1 => Q μ1 ∧ True))) 75 [(0, .ref 32), (1, iv p1), (2, iv p2), (3, iv p3), (4, .ref b1)] [] (mk w μ33) 0 0 := by
      intro μ33 T34 F35 I37 W39
      refine sv_aload_n (pc := 75) dX8_say_75 rfl rfl ?_
      refine gf_X8_8 (pc := 76) dX8_say_76 wF_X8_49 (A_32 hw) T34 ?_
      refine mr_bipush (pc := 79) (z := 100) dX8_say_79 (by decide) ?_
      refine pf_X7_4 (pc := 81) dX8_say_81 wF_X8_260 (A_73 hw) T34 (rW (c := (-2147483648)) (d := 2147483647) (rR (x := 100)) rfl) fun μ40 u41 T42 => ?_
      refine sv_aload (pc := 84) dX8_say_84 rfl ?_
      refine gf_X9_5 (pc := 86) dX8_say_86 wF_X8_103 A3 T42 fun A43 => ?_
      refine mr_iload_n (pc := 89) (z := p2) dX8_say_89 rfl rfl ?_
      refine mr_iload_n (pc := 90) (z := p3) dX8_say_90 rfl rfl ?_
      refine mr_cSP (pc := 91) (c_X9_placeOf_W hw T42 hp2 hp3 ((W39 T34 F35) μ40 u41 T42)) (gOk _ _ _ _ _) dX8_say_91 (tX9_placeOf _ _ _ _ _) wS_X9_placeOf wM_X8_99 ⟨le_t rfl, le_t rfl⟩ ⟨le_t rfl, le_t rfl⟩ rfl (le_t rfl) fun z48 h47 => ?_
      refine la_223 (pc := 94) dX8_say_94 A43 T42 (rIx (n := 20) h47.1 rfl) fun b49 q50 A51 => ?_
      refine mr_astore (pc := 95) (lv' := [(5, .ref b49), (0, .ref 32), (1, iv p1), (2, iv p2), (3, iv p3), (4, .ref b1)]) dX8_say_95 (by decide) rfl ?_
      refine sv_aload_n (pc := 97) dX8_say_97 rfl rfl ?_
      refine gf_X8_8 (pc := 98) dX8_say_98 wF_X8_49 (A_32 hw) T42 ?_
      refine sv_aload (pc := 101) dX8_say_101 rfl ?_
      refine mr_cVP (pc := 103) (c_X7_isAlike_W hw T42 (A_73 hw) A51 ((h47.2.1 h47.1) b49 q50 A51)) (gOk _ _ _ _ _) dX8_say_103 (tX7_isAlike _ _ _ _ _) ⟨wV_X7_isAlike, wL_X7_isAlike⟩ wM_X8_196 (gCX7 _ _ _ _ _) rfl (A_73 hw) rfl ⟨le_t rfl, le_t rfl⟩ ⟨le_t rfl, le_t rfl⟩ rfl (le_t rfl) fun z56 h55 => ?_
      refine mr_if_eq (pc := 106) (tgt := 110) dX8_say_106 (by decide) (r32 h55.1 rfl) (fun h57 => ?_) (fun h57 => ?_)
      · have h58 : 0 ≤ z56 ∧ z56 ≤ 0 := (vc_X12_ring_22 h57 h55.1)
        refine sv_aload (pc := 110) dX8_say_110 rfl ?_
        refine gf_X7_9 (pc := 112) dX8_say_112 wF_X8_110 A51 T42 fun z59 q60 h61 => ?_
        refine mr_iconst (pc := 115) (z := (-1)) dX8_say_115 ?_
        refine mr_icmp_eq (pc := 116) (tgt := 175) dX8_say_116 (by decide) (r32 h61 rfl) (r32 (rR (x := (-1))) rfl) (fun h62 => ?_) (fun h62 => ?_)
        · have h63 : (-1) ≤ z59 ∧ z59 ≤ (-1) := (vc_X8_say_W_4 h62 h61)
          refine sv_aload (pc := 175) dX8_say_175 rfl ?_
          refine sv_aload_n (pc := 177) dX8_say_177 rfl rfl ?_
          refine gf_X8_8 (pc := 178) dX8_say_178 wF_X8_49 (A_32 hw) T42 ?_
          refine mr_cVV (pc := 181) (c_X7_become_W hw T42 A51 (A_73 hw) ((((h55.2.1 h55.1).1 h57) z59 q60 h61).1 h62)) (gOk _ _ _ _ _) dX8_say_181 (tX7_become _ _ _ _ _) ⟨wV_X7_become, wL_X7_become⟩ wM_X8_106 (gCX7 _ _ _ _ _) rfl A51 rfl ⟨le_t rfl, le_t rfl⟩ ⟨le_t rfl, le_t rfl⟩ rfl (le_t rfl) fun μ64 T65 F66 h67 => ?_
          refine sv_aload (pc := 184) dX8_say_184 rfl ?_
          refine sv_aload_n (pc := 186) dX8_say_186 rfl rfl ?_
          refine gf_X8_11 (pc := 187) dX8_say_187 wF_X8_62 (A_32 hw) T65 fun z68 q69 h70 => ?_
          refine pf_X7_9 (pc := 190) dX8_say_190 wF_X8_110 A51 T65 h70 fun μ71 u72 T73 => ?_
          refine mr_iload_n (pc := 193) (z := p1) dX8_say_193 rfl rfl ?_
          refine mr_iload_n (pc := 194) (z := p2) dX8_say_194 rfl rfl ?_
          refine mr_iload_n (pc := 195) (z := p3) dX8_say_195 rfl rfl ?_
          refine mr_iconst (pc := 196) (z := 0) dX8_say_196 ?_
          refine mr_cSP (pc := 197) (c_X8_slotOf_W hw T73 (rW (c := 0) (d := 20) hp1 rfl) hp2 hp3 (rW (c := 0) (d := 1) (rR (x := 0)) rfl) (((h67.1 T65 F66) z68 q69 h70) μ71 u72 T73)) (gOk _ _ _ _ _) dX8_say_197 (tX8_slotOf _ _ _ _ _) wS_X8_slotOf wM_X8_143 ⟨le_t rfl, le_t rfl⟩ ⟨le_t rfl, le_t rfl⟩ rfl (le_t rfl) fun z78 h77 => ?_
          have h79 : 0 ≤ z78 ∧ z78 ≤ 798 := (vc_X8_say_W_5 h77.2.1 hq0 hp1 hp2 hp3 h77.1)
          refine mr_istore (pc := 200) (lv' := [(6, iv z78), (5, .ref b49), (0, .ref 32), (1, iv p1), (2, iv p2), (3, iv p3), (4, .ref b1)]) dX8_say_200 (by decide) rfl ?_
          refine sv_aload_n (pc := 202) dX8_say_202 rfl rfl ?_
          refine mr_iload (pc := 203) (z := z78) dX8_say_203 rfl ?_
          refine mr_cVV (pc := 205) (c_X8_cancel_W hw T73 (rW (c := 0) (d := 799) h79 rfl) (h77.2.2.1 h77.1)) (gOk _ _ _ _ _) dX8_say_205 (tX8_cancel _ _ _ _ _) ⟨wV_X8_cancel, wL_X8_cancel⟩ wM_X8_65 (gCX8 _ _ _ _ _) rfl (A_32 hw) rfl ⟨le_t rfl, le_t rfl⟩ ⟨le_t rfl, le_t rfl⟩ rfl (le_t rfl) fun μ80 T81 F82 h83 => ?_
          refine sv_aload_n (pc := 208) dX8_say_208 rfl rfl ?_
          refine mr_iload (pc := 209) (z := z78) dX8_say_209 rfl ?_
          refine sv_aload_n (pc := 211) dX8_say_211 rfl rfl ?_
          refine gk_X8_11 (pc := 212) dX8_say_212 wF_X8_62 (A_32 hw) (F82.f (A_32 hw) rfl (u72.f (Or.inl (mAt.ne A51 (A_32 hw) rfl)) q69)) ?_
          refine sv_aload (pc := 215) dX8_say_215 rfl ?_
          refine gf_X9_7 (pc := 217) dX8_say_217 wF_X8_269 A3 T81 fun z84 q85 h86 => ?_
          refine mr_iadd (pc := 220) (x := z68) (y := z84) dX8_say_220 ?_
          refine mr_cVV (pc := 221) (c_X8_schedule_W hw T81 (rW (c := 0) (d := 799) h79 rfl) (rAdd (e := (-1)) (f := 2000001000) h70 h86 rfl) (vc_X8_say_W_6 hq0 h77.2.1 hp1 hp2 hp3 h79) ((h83.1 T81 F82) z84 q85 h86)) (gOk _ _ _ _ _) dX8_say_221 (tX8_schedule _ _ _ _ _) ⟨wV_X8_schedule, wL_X8_schedule⟩ wM_X8_266 (gCX8 _ _ _ _ _) rfl (A_32 hw) rfl ⟨le_t rfl, le_t rfl⟩ ⟨le_t rfl, le_t rfl⟩ rfl (le_t rfl) fun μ87 T88 F89 h90 => ?_
          exact mr_vret dX8_say_224 rfl (le_t rfl) (le_t rfl) T88 (mF.call (mF.call (mF.up (mF.call (mF.up (mF.call (mF.call mF.refl F11 rfl) F35 rfl) (A_73 hw) u41 rfl) F66 rfl) A51 u72 rfl) F82 rfl) F89 rfl) ⟨(h90.1 T88 F89), trivial⟩
        have h91 : 0 ≤ z59 ∧ z59 ≤ 2000000000 := (vc_X8_say_W_7 h62 h61)
        refine sv_aload_n (pc := 119) dX8_say_119 rfl rfl ?_
        refine gf_X8_11 (pc := 120) dX8_say_120 wF_X8_62 (A_32 hw) T42 fun z92 q93 h94 => ?_
        refine sv_aload (pc := 123) dX8_say_123 rfl ?_
        refine gk_X7_9 (pc := 125) dX8_say_125 wF_X8_110 A51 q60 ?_
        refine sv_aload (pc := 128) dX8_say_128 rfl ?_
        refine gf_X9_8 (pc := 130) dX8_say_130 wF_X8_263 A3 T42 fun z95 q96 h97 => ?_
        refine mr_iadd (pc := 133) (x := z59) (y := z95) dX8_say_133 ?_
        refine mr_icmp_ge (pc := 134) (tgt := 175) dX8_say_134 (by decide) (r32 h94 rfl) (r32 (rAdd (e := 0) (f := 2000001000) h91 h97 rfl) rfl) (fun h98 => ?_) (fun h98 => ?_)
        · have h99 : 0 ≤ z92 ∧ z92 ≤ 2000000000 := (vc_X8_say_W_8 h98 h62 h91 h94 h97)
          refine sv_aload (pc := 175) dX8_say_175 rfl ?_
          refine sv_aload_n (pc := 177) dX8_say_177 rfl rfl ?_
          refine gf_X8_8 (pc := 178) dX8_say_178 wF_X8_49 (A_32 hw) T42 ?_
          refine mr_cVV (pc := 181) (c_X7_become_W hw T42 A51 (A_73 hw) (((((((h55.2.1 h55.1).1 h57) z59 q60 h61).2 h62) z92 q93 h94) z95 q96 h97).1 h98)) (gOk _ _ _ _ _) dX8_say_181 (tX7_become _ _ _ _ _) ⟨wV_X7_become, wL_X7_become⟩ wM_X8_106 (gCX7 _ _ _ _ _) rfl A51 rfl ⟨le_t rfl, le_t rfl⟩ ⟨le_t rfl, le_t rfl⟩ rfl (le_t rfl) fun μ100 T101 F102 h103 => ?_
          refine sv_aload (pc := 184) dX8_say_184 rfl ?_
          refine sv_aload_n (pc := 186) dX8_say_186 rfl rfl ?_
          refine gk_X8_11 (pc := 187) dX8_say_187 wF_X8_62 (A_32 hw) (F102.f (A_32 hw) rfl q93) ?_
          refine pf_X7_9 (pc := 190) dX8_say_190 wF_X8_110 A51 T101 (rW (c := (-1)) (d := 2000000000) h99 rfl) fun μ104 u105 T106 => ?_
          refine mr_iload_n (pc := 193) (z := p1) dX8_say_193 rfl rfl ?_
          refine mr_iload_n (pc := 194) (z := p2) dX8_say_194 rfl rfl ?_
          refine mr_iload_n (pc := 195) (z := p3) dX8_say_195 rfl rfl ?_
          refine mr_iconst (pc := 196) (z := 0) dX8_say_196 ?_
          refine mr_cSP (pc := 197) (c_X8_slotOf_W hw T106 (rW (c := 0) (d := 20) hp1 rfl) hp2 hp3 (rW (c := 0) (d := 1) (rR (x := 0)) rfl) ((h103.1 T101 F102) μ104 u105 T106)) (gOk _ _ _ _ _) dX8_say_197 (tX8_slotOf _ _ _ _ _) wS_X8_slotOf wM_X8_143 ⟨le_t rfl, le_t rfl⟩ ⟨le_t rfl, le_t rfl⟩ rfl (le_t rfl) fun z111 h110 => ?_
          have h112 : 0 ≤ z111 ∧ z111 ≤ 798 := (vc_X8_say_W_5 h110.2.1 hq0 hp1 hp2 hp3 h110.1)
          refine mr_istore (pc := 200) (lv' := [(6, iv z111), (5, .ref b49), (0, .ref 32), (1, iv p1), (2, iv p2), (3, iv p3), (4, .ref b1)]) dX8_say_200 (by decide) rfl ?_
          refine sv_aload_n (pc := 202) dX8_say_202 rfl rfl ?_
          refine mr_iload (pc := 203) (z := z111) dX8_say_203 rfl ?_
          refine mr_cVV (pc := 205) (c_X8_cancel_W hw T106 (rW (c := 0) (d := 799) h112 rfl) (h110.2.2.1 h110.1)) (gOk _ _ _ _ _) dX8_say_205 (tX8_cancel _ _ _ _ _) ⟨wV_X8_cancel, wL_X8_cancel⟩ wM_X8_65 (gCX8 _ _ _ _ _) rfl (A_32 hw) rfl ⟨le_t rfl, le_t rfl⟩ ⟨le_t rfl, le_t rfl⟩ rfl (le_t rfl) fun μ113 T114 F115 h116 => ?_
          refine sv_aload_n (pc := 208) dX8_say_208 rfl rfl ?_
          refine mr_iload (pc := 209) (z := z111) dX8_say_209 rfl ?_
          refine sv_aload_n (pc := 211) dX8_say_211 rfl rfl ?_
          refine gk_X8_11 (pc := 212) dX8_say_212 wF_X8_62 (A_32 hw) (F115.f (A_32 hw) rfl (u105.f (Or.inl (mAt.ne A51 (A_32 hw) rfl)) (F102.f (A_32 hw) rfl q93))) ?_
          refine sv_aload (pc := 215) dX8_say_215 rfl ?_
          refine gf_X9_7 (pc := 217) dX8_say_217 wF_X8_269 A3 T114 fun z117 q118 h119 => ?_
          refine mr_iadd (pc := 220) (x := z92) (y := z117) dX8_say_220 ?_
          refine mr_cVV (pc := 221) (c_X8_schedule_W hw T114 (rW (c := 0) (d := 799) h112 rfl) (rW (c := (-1)) (d := 2000001000) (rAdd (e := 0) (f := 2000001000) h99 h119 rfl) rfl) (vc_X8_say_W_6 hq0 h110.2.1 hp1 hp2 hp3 h112) ((h116.1 T114 F115) z117 q118 h119)) (gOk _ _ _ _ _) dX8_say_221 (tX8_schedule _ _ _ _ _) ⟨wV_X8_schedule, wL_X8_schedule⟩ wM_X8_266 (gCX8 _ _ _ _ _) rfl (A_32 hw) rfl ⟨le_t rfl, le_t rfl⟩ ⟨le_t rfl, le_t rfl⟩ rfl (le_t rfl) fun μ120 T121 F122 h123 => ?_
          exact mr_vret dX8_say_224 rfl (le_t rfl) (le_t rfl) T121 (mF.call (mF.call (mF.up (mF.call (mF.up (mF.call (mF.call mF.refl F11 rfl) F35 rfl) (A_73 hw) u41 rfl) F102 rfl) A51 u105 rfl) F115 rfl) F122 rfl) ⟨(h123.1 T121 F122), trivial⟩
        refine mr_iload_n (pc := 137) (z := p1) dX8_say_137 rfl rfl ?_
        refine mr_iload_n (pc := 138) (z := p2) dX8_say_138 rfl rfl ?_
        refine mr_iload_n (pc := 139) (z := p3) dX8_say_139 rfl rfl ?_
        refine mr_iconst (pc := 140) (z := 1) dX8_say_140 ?_
        refine mr_cSP (pc := 141) (c_X8_slotOf_W hw T42 (rW (c := 0) (d := 20) hp1 rfl) hp2 hp3 (rW (c := 0) (d := 1) (rR (x := 1)) rfl) (((((((h55.2.1 h55.1).1 h57) z59 q60 h61).2 h62) z92 q93 h94) z95 q96 h97).2 h98)) (gOk _ _ _ _ _) dX8_say_141 (tX8_slotOf _ _ _ _ _) wS_X8_slotOf wM_X8_143 ⟨le_t rfl, le_t rfl⟩ ⟨le_t rfl, le_t rfl⟩ rfl (le_t rfl) fun z128 h127 => ?_
        have h129 : 1 ≤ z128 ∧ z128 ≤ 799 := (vc_X8_say_W_11 h127.2.1 hq0 hp1 hp2 hp3 h127.1)
        refine mr_istore (pc := 144) (lv' := [(6, iv z128), (5, .ref b49), (0, .ref 32), (1, iv p1), (2, iv p2), (3, iv p3), (4, .ref b1)]) dX8_say_144 (by decide) rfl ?_
        refine sv_aload_n (pc := 146) dX8_say_146 rfl rfl ?_
        refine gf_X8_3 (pc := 147) dX8_say_147 wF_X8_23 (A_32 hw) T42 ?_
        refine mr_iload (pc := 150) (z := z128) dX8_say_150 rfl ?_
        refine la_34 (pc := 152) dX8_say_152 (A_34 hw) T42 (rIx (n := 800) h129 rfl) fun z130 q131 h132 => ?_
        refine mr_iconst (pc := 153) (z := (-1)) dX8_say_153 ?_
        refine mr_icmp_ne (pc := 154) (tgt := 174) dX8_say_154 (by decide) (r32 h132 rfl) (r32 (rR (x := (-1))) rfl) (fun h139 => ?_) (fun h139 => ?_)
        · have h140 : 0 ≤ z130 ∧ z130 ≤ 2000001000 := (vc_X8_cancel_W_1 h139 h132)
          exact mr_vret dX8_say_174 rfl (le_t rfl) (le_t rfl) T42 (mF.up (mF.call (mF.call mF.refl F11 rfl) F35 rfl) (A_73 hw) u41 rfl) ⟨(((h127.2.2.1 h127.1) z130 q131 h132).1 h139), trivial⟩
        have h141 : (-1) ≤ z130 ∧ z130 ≤ (-1) := (vc_X8_cancel_W_13 h139 h132)
        refine sv_aload_n (pc := 157) dX8_say_157 rfl rfl ?_
        refine mr_iload (pc := 158) (z := z128) dX8_say_158 rfl ?_
        refine sv_aload (pc := 160) dX8_say_160 rfl ?_
        refine gk_X7_9 (pc := 162) dX8_say_162 wF_X8_110 A51 q60 ?_
        refine sv_aload (pc := 165) dX8_say_165 rfl ?_
        refine gk_X9_8 (pc := 167) dX8_say_167 wF_X8_263 A3 q96 ?_
        refine mr_iadd (pc := 170) (x := z59) (y := z95) dX8_say_170 ?_
        refine mr_cVV (pc := 171) (c_X8_schedule_W hw T42 (rW (c := 0) (d := 799) h129 rfl) (rW (c := (-1)) (d := 2000001000) (rAdd (e := 0) (f := 2000001000) h91 h97 rfl) rfl) (vc_X8_say_W_14 hq0 h127.2.1 hp1 hp2 hp3 h129) (((h127.2.2.1 h127.1) z130 q131 h132).2 h139)) (gOk _ _ _ _ _) dX8_say_171 (tX8_schedule _ _ _ _ _) ⟨wV_X8_schedule, wL_X8_schedule⟩ wM_X8_266 (gCX8 _ _ _ _ _) rfl (A_32 hw) rfl ⟨le_t rfl, le_t rfl⟩ ⟨le_t rfl, le_t rfl⟩ rfl (le_t rfl) fun μ142 T143 F144 h145 => ?_
        exact mr_vret dX8_say_174 rfl (le_t rfl) (le_t rfl) T143 (mF.call (mF.up (mF.call (mF.call mF.refl F11 rfl) F35 rfl) (A_73 hw) u41 rfl) F144 rfl) ⟨(h145.1 T143 F144), trivial⟩
      have h146 : 1 ≤ z56 ∧ z56 ≤ 1 := (vc_X12_ring_24 h57 h55.1)
      exact mr_vret dX8_say_109 rfl (le_t rfl) (le_t rfl) T42 (mF.up (mF.call (mF.call mF.refl F11 rfl) F35 rfl) (A_73 hw) u41 rfl) ⟨((h55.2.1 h55.1).2 h57), trivial⟩
    refine mr_if_eq (pc := 36) (tgt := 75) dX8_say_36 (by decide) (r32 h15 rfl) (fun h147 => ?_) (fun h147 => ?_)
    · have h148 : 0 ≤ z13 ∧ z13 ≤ 0 := (vc_X12_ring_22 h147 h15)
      refine mr_lvS (lv' := [(0, .ref 32), (1, iv p1), (2, iv p2), (3, iv p3), (4, .ref b1)]) (List.forall_mem_cons.mpr ⟨rfl, List.forall_mem_cons.mpr ⟨rfl, List.forall_mem_cons.mpr ⟨rfl, List.forall_mem_cons.mpr ⟨rfl, List.forall_mem_cons.mpr ⟨rfl, fun _ h => absurd h List.not_mem_nil⟩⟩⟩⟩⟩) ?_
      exact J38 μ9 T10 mF.refl (PC.keep hIPC hw ((mF.call mF.refl F11 rfl) : mF [200002, 200003, 200004, 200005, 200006, 200007, 200008, 201999, 202999] w μ μ9) rfl) (((h12.1 T10 F11) z13 q14 h15).1 h147)
    have h149 : 1 ≤ z13 ∧ z13 ≤ 1 := (vc_X12_ring_24 h147 h15)
    refine sv_aload_n (pc := 39) dX8_say_39 rfl rfl ?_
    refine gf_X8_1 (pc := 40) dX8_say_40 wF_X8_15 (A_32 hw) T10 ?_
    refine sv_aload (pc := 43) dX8_say_43 rfl ?_
    refine gf_X9_3 (pc := 45) dX8_say_45 wF_X8_213 A3 T10 fun A150 => ?_
    refine mr_iload_n (pc := 48) (z := p2) dX8_say_48 rfl rfl ?_
    refine mr_iconst (pc := 49) (z := 2) dX8_say_49 ?_
    refine mr_imul (pc := 50) (x := p2) (y := 2) dX8_say_50 ?_
    refine mr_iconst (pc := 51) (z := 1) dX8_say_51 ?_
    refine mr_iadd (pc := 52) (x := (p2 * 2)) (y := 1) dX8_say_52 ?_
    refine la_221 (pc := 53) dX8_say_53 A150 T10 (rIx (n := 4) (rAdd (e := 1) (f := 3) (rMulR (n := 2) (e := 0) (f := 2) hp2 rfl) (rR (x := 1)) rfl) rfl) fun z151 q152 h153 => ?_
    have h154 : (-99999999) ≤ z151 ∧ z151 ≤ 11 := (vc_X12_candidate_19 h153)
    refine sv_aload_n (pc := 54) dX8_say_54 rfl rfl ?_
    refine gf_X8_8 (pc := 55) dX8_say_55 wF_X8_49 (A_32 hw) T10 ?_
    refine sv_aload (pc := 58) dX8_say_58 rfl ?_
    refine mr_iload_n (pc := 60) (z := p2) dX8_say_60 rfl rfl ?_
    refine mr_cVI (pc := 61) (c_X1_lets_W hw T10 (rW (c := (-2147483648)) (d := 2147483647) h154 rfl) (A_73 hw) A3 hp2 (PC.keep hIPC hw ((mF.call mF.refl F11 rfl) : mF [200002, 200003, 200004, 200005, 200006, 200007, 200008, 201999, 202999] w μ μ9) rfl) ((((h12.1 T10 F11) z13 q14 h15).2 h147) z151 q152 h153)) (gOk _ _ _ _ _) dX8_say_61 (tX1_lets _ _ _ _ _) ⟨wV_X1_lets, wL_X1_lets⟩ wM_X8_216 (gCX1 _ _ _ _ _) rfl (A_21 hw) rfl ⟨le_t rfl, le_t rfl⟩ ⟨le_t rfl, le_t rfl⟩ rfl (le_t rfl) fun z159 μ155 T156 F157 h158 => ?_
    refine mr_if_ne (pc := 64) (tgt := 75) dX8_say_64 (by decide) (r32 h158.1 rfl) (fun h160 => ?_) (fun h160 => ?_)
    · have h161 : 1 ≤ z159 ∧ z159 ≤ 1 := (vc_X12_ring_24 h160 h158.1)
      refine mr_lvS (lv' := [(0, .ref 32), (1, iv p1), (2, iv p2), (3, iv p3), (4, .ref b1)]) (List.forall_mem_cons.mpr ⟨rfl, List.forall_mem_cons.mpr ⟨rfl, List.forall_mem_cons.mpr ⟨rfl, List.forall_mem_cons.mpr ⟨rfl, List.forall_mem_cons.mpr ⟨rfl, fun _ h => absurd h List.not_mem_nil⟩⟩⟩⟩⟩) ?_
      exact J38 μ155 T156 (mF.call mF.refl F157 rfl) (PC.keep hIPC hw ((mF.call (mF.call mF.refl F11 rfl) F157 rfl) : mF [21002, 21003, 21004, 21005, 21006, 21007, 200002, 200003, 200004, 200005, 200006, 200007, 200008, 201999, 202999] w μ μ155) rfl) (((h158.2.1 T156 F157) h158.1).1 h160)
    have h162 : 0 ≤ z159 ∧ z159 ≤ 0 := (vc_X12_ring_22 h160 h158.1)
    refine sv_aload_n (pc := 67) dX8_say_67 rfl rfl ?_
    refine gf_X8_8 (pc := 68) dX8_say_68 wF_X8_49 (A_32 hw) T156 ?_
    refine mr_iconst (pc := 71) (z := 0) dX8_say_71 ?_
    refine pf_X7_2 (pc := 72) dX8_say_72 wF_X8_203 (A_73 hw) T156 (rW (c := 0) (d := 1) (rR (x := 0)) rfl) fun μ163 u164 T165 => ?_
    refine mr_lvS (lv' := [(0, .ref 32), (1, iv p1), (2, iv p2), (3, iv p3), (4, .ref b1)]) (List.forall_mem_cons.mpr ⟨rfl, List.forall_mem_cons.mpr ⟨rfl, List.forall_mem_cons.mpr ⟨rfl, List.forall_mem_cons.mpr ⟨rfl, List.forall_mem_cons.mpr ⟨rfl, fun _ h => absurd h List.not_mem_nil⟩⟩⟩⟩⟩) ?_
    exact J38 μ163 T165 (mF.up (mF.call mF.refl F157 rfl) (A_73 hw) u164 rfl) (PC.keep hIPC hw ((mF.up (mF.call (mF.call mF.refl F11 rfl) F157 rfl) (A_73 hw) u164 rfl) : mF [21002, 21003, 21004, 21005, 21006, 21007, 200002, 200003, 200004, 200005, 200006, 200007, 200008, 201999, 202999] w μ μ163) rfl) ((((h158.2.1 T156 F157) h158.1).2 h160) μ163 u164 T165)
  have h166 : 0 ≤ z4 ∧ z4 ≤ 0 := (vc_X12_ring_22 h7 h6)
  exact mr_vret dX8_say_19 rfl (le_t rfl) (le_t rfl) hT mF.refl ⟨(((hQ b1 q2 A3) z4 q5 h6).2 h7), trivial⟩
def WL_X8_look_W_2 (w : mW) (p1 : Int) (p2 : Int) (Q : mM → Prop) (μ79 : mM) (rec2 : (Int × mM) → Prop) (s : (Int × mM)) : Prop := ∀ z272 : Int, ∀ μ273 : mM, s = (z272, μ273) → (0 ≤ z272 ∧ z272 ≤ 20) → mT w μ273 → mF [21002, 21003, 21004, 21005, 21006, 21007, 32010, 33999, 34999, 200002, 200003, 200004, 200005, 200006, 200007, 200008, 200009, 201999, 202999] w μ79 μ273 → ∀ z283 : Int, μ273 6 16 = z283 → (z283 = w.2.2.2 1 ∧ 0 ≤ z283 ∧ z283 ≤ 20) → ((z283 ≤ z272) → Q μ273) ∧ ((z272 < z283) → ∀ b305 : Nat, μ273 11 (z272.toNat) = (b305 : Int) → mAt w b305 220 → WP_X9_sideOf_W w μ273 b305 p1 (fun z312 _ => ((-1) ≤ z312 ∧ z312 ≤ 1) → ((z312 < 0) → rec2 ((z272 + 1), μ273)) ∧ ((0 ≤ z312) → WP_X8_say_W w μ273 z272 z312 p2 (fun μ322 => mT w μ322 → mF [21002, 21003, 21004, 21005, 21006, 21007, 32010, 33999, 34999, 200002, 200003, 200004, 200005, 200006, 200007, 200008, 200009, 201999, 202999] w μ273 μ322 → rec2 ((z272 + 1), μ322)))))
def WL_X8_look_W_3 (w : mW) (p1 : Int) (p2 : Int) (Q : mM → Prop) (μ342 : mM) (rec3 : (Int × mM) → Prop) (s : (Int × mM)) : Prop := ∀ z535 : Int, ∀ μ536 : mM, s = (z535, μ536) → (0 ≤ z535 ∧ z535 ≤ 20) → mT w μ536 → mF [21002, 21003, 21004, 21005, 21006, 21007, 32010, 33999, 34999, 200002, 200003, 200004, 200005, 200006, 200007, 200008, 200009, 201999, 202999] w μ342 μ536 → ∀ z546 : Int, μ536 6 16 = z546 → (z546 = w.2.2.2 1 ∧ 0 ≤ z546 ∧ z546 ≤ 20) → ((z546 ≤ z535) → Q μ536) ∧ ((z535 < z546) → ∀ b568 : Nat, μ536 11 (z535.toNat) = (b568 : Int) → mAt w b568 220 → WP_X9_sideOf_W w μ536 b568 p1 (fun z575 _ => ((-1) ≤ z575 ∧ z575 ≤ 1) → ((z575 < 0) → rec3 ((z535 + 1), μ536)) ∧ ((0 ≤ z575) → WP_X8_say_W w μ536 z535 z575 p2 (fun μ585 => mT w μ585 → mF [21002, 21003, 21004, 21005, 21006, 21007, 32010, 33999, 34999, 200002, 200003, 200004, 200005, 200006, 200007, 200008, 200009, 201999, 202999] w μ536 μ585 → rec3 ((z535 + 1), μ585)))))
def WJ_X8_look_W_1 (w : mW) (μ : mM) (p1 : Int) (p2 : Int) (Q : mM → Prop) (b1 : Nat) (z54 : Int) (b52 : Nat) (μ57 : mM) : Prop := ((-99999999) ≤ z54 ∧ z54 ≤ 19) → mAt w b52 200 → mT w μ57 → mF [21002, 21003, 21004, 21005, 21006, 21007, 32009, 66999, 200002, 200003, 200004, 200005, 200006, 200007, 200008, 200009, 200010, 200011, 201999, 202999] w μ μ57 → ∀ z66 : Int, μ57 (b1 + 3) (p2.toNat) = z66 → ((z66 = -99999999 ∨ z66 = -4 ∨ (0 ≤ z66 ∧ z66 ≤ 19)) ∧ (0 ≤ z66 → z66 < w.2.2.2 1)) → ((¬ z54 = z66) → ∀ μ72 : mM, mU μ57 (b1 + 3) (p2.toNat) z54 μ72 → mT w μ72 → ∀ b76 : Nat, μ72 (b1 + 4) (p2.toNat) = (b76 : Int) → mAt w b76 200 → WP_X7_become_W w μ72 b76 b52 (fun μ79 => mT w μ79 → mF [200002, 200003, 200004, 200005, 200006, 200007, 200008, 201999, 202999] w μ72 μ79 → loopF (WL_X8_look_W_2 w p1 p2 Q μ79) False 22 ((0 : Int), μ79))) ∧ ((z54 = z66) → ∀ b327 : Nat, μ57 (b1 + 4) (p2.toNat) = (b327 : Int) → mAt w b327 200 → WP_X7_isAlike_W w μ57 b52 b327 (fun z334 _ => (0 ≤ z334 ∧ z334 ≤ 1) → ((z334 = 0) → ∀ μ338 : mM, mU μ57 (b1 + 3) (p2.toNat) z54 μ338 → mT w μ338 → WP_X7_become_W w μ338 b327 b52 (fun μ342 => mT w μ342 → mF [200002, 200003, 200004, 200005, 200006, 200007, 200008, 201999, 202999] w μ338 μ342 → loopF (WL_X8_look_W_3 w p1 p2 Q μ342) False 22 ((0 : Int), μ342))) ∧ ((¬ z334 = 0) → Q μ57)))
def WP_X8_look_W (w : mW) (μ : mM) (p1 : Int) (p2 : Int) (Q : mM → Prop) : Prop := ∀ b1 : Nat, μ 10 (p1.toNat) = (b1 : Int) → mAt w b1 210 → ∀ z5 : Int, μ (b1 + 2) (p2.toNat) = z5 → ((-1) ≤ z5 ∧ z5 ≤ 2) → ((z5 = (-1)) → WP_X8_gather_W w μ p1 p2 (fun μ592 => mT w μ592 → mF [21002, 21003, 21004, 21005, 21006, 21007, 32009, 200002, 200003, 200004, 200005, 200006, 200007, 200008, 200009, 200010, 200011, 201999, 202999] w μ μ592 → ∀ z596 : Int, μ592 b1 5 = z596 → (0 ≤ z596 ∧ z596 ≤ 1) → ((z596 = 0) → WP_X8_pickPlain_W w μ592 b1 (fun z605 μ601 => mT w μ601 → mF [66999] w μ592 μ601 → ((-1) ≤ z605 ∧ z605 ≤ 9) → ((z605 < 0) → (WJ_X8_look_W_1 w μ p1 p2 Q b1) ((-99999999) : Int) 70 μ601) ∧ ((0 ≤ z605) → ∀ b609 : Nat, μ601 35 (z605.toNat) = (b609 : Int) → mAt w b609 200 → ∀ z612 : Int, μ601 b609 10 = z612 → (0 ≤ z612 ∧ z612 ≤ 19 ∧ (z612 = 0 ∨ z612 < w.2.2.2 1)) → (WJ_X8_look_W_1 w μ p1 p2 Q b1) z612 b609 μ601))) ∧ ((¬ z596 = 0) → WP_X8_pickGrouped_W w μ592 b1 (fun z621 μ617 => mT w μ617 → mF [66999] w μ592 μ617 → ((-1) ≤ z621 ∧ z621 ≤ 9) → ((z621 < 0) → (WJ_X8_look_W_1 w μ p1 p2 Q b1) ((-99999999) : Int) 70 μ617) ∧ ((0 ≤ z621) → ∀ b625 : Nat, μ617 35 (z621.toNat) = (b625 : Int) → mAt w b625 200 → ∀ z628 : Int, μ617 b625 10 = z628 → (0 ≤ z628 ∧ z628 ≤ 19 ∧ (z628 = 0 ∨ z628 < w.2.2.2 1)) → (WJ_X8_look_W_1 w μ p1 p2 Q b1) z628 b625 μ617))))) ∧ ((¬ z5 = (-1)) → WP_X7_begin_W w μ 67 p2 z5 (fun μ634 => mT w μ634 → mF [200002, 200003, 200004, 200005, 200006, 200007, 200008] w μ μ634 → (WJ_X8_look_W_1 w μ p1 p2 Q b1) ((-4) : Int) 67 μ634))
theorem vc_X8_look_W_3 {n1 z54 z66 : Int} (h0 : 0 ≤ z54 → z54 < n1) (h1 : (0 ≤ z66 → z66 < n1)) (h2 : ¬ z54 = z66) (h3 : (-99999999) ≤ z54 ∧ z54 ≤ 19) (h4 : z54 = (-99999999) ∨ z54 = (-4) ∨ (0 ≤ z54 ∧ z54 ≤ 19)) (h5 : (-99999999) ≤ z66 ∧ z66 ≤ 19) (h6 : z66 = -99999999 ∨ z66 = -4 ∨ (0 ≤ z66 ∧ z66 ≤ 19)) : (z54 = -99999999 ∨ z54 = -4 ∨ (0 ≤ z54 ∧ z54 ≤ 19)) ∧ (0 ≤ z54 → z54 < n1) := by omega
theorem vc_X8_look_W_7 {n1 z272 z283 z54 z66 : Int} (h0 : 0 ≤ z54 → z54 < n1) (h1 : (0 ≤ z66 → z66 < n1)) (h2 : z283 = n1) (h3 : z272 < z283) (h4 : ¬ z54 = z66) (h5 : 0 ≤ z272 ∧ z272 ≤ 19) (h6 : 1 ≤ z283 ∧ z283 ≤ 20) (h7 : (-99999999) ≤ z54 ∧ z54 ≤ 19) (h8 : z54 = (-99999999) ∨ z54 = (-4) ∨ (0 ≤ z54 ∧ z54 ≤ 19)) (h9 : (-99999999) ≤ z66 ∧ z66 ≤ 19) (h10 : z66 = -99999999 ∨ z66 = -4 ∨ (0 ≤ z66 ∧ z66 ≤ 19)) : z272 < n1 := by omega
theorem vc_X8_look_W_13 {n1 z54 z66 : Int} (h0 : 0 ≤ z54 → z54 < n1) (h1 : (0 ≤ z66 → z66 < n1)) (h2 : z54 = z66) (h3 : (-99999999) ≤ z54 ∧ z54 ≤ 19) (h4 : z54 = (-99999999) ∨ z54 = (-4) ∨ (0 ≤ z54 ∧ z54 ≤ 19)) (h5 : (-99999999) ≤ z66 ∧ z66 ≤ 19) (h6 : z66 = -99999999 ∨ z66 = -4 ∨ (0 ≤ z66 ∧ z66 ≤ 19)) : (z54 = -99999999 ∨ z54 = -4 ∨ (0 ≤ z54 ∧ z54 ≤ 19)) ∧ (0 ≤ z54 → z54 < n1) := by omega
theorem vc_X8_look_W_17 {n1 z535 z54 z546 z66 : Int} (h0 : 0 ≤ z54 → z54 < n1) (h1 : (0 ≤ z66 → z66 < n1)) (h2 : z546 = n1) (h3 : z535 < z546) (h4 : z54 = z66) (h5 : 0 ≤ z535 ∧ z535 ≤ 19) (h6 : (-99999999) ≤ z54 ∧ z54 ≤ 19) (h7 : z54 = (-99999999) ∨ z54 = (-4) ∨ (0 ≤ z54 ∧ z54 ≤ 19)) (h8 : 1 ≤ z546 ∧ z546 ≤ 20) (h9 : (-99999999) ≤ z66 ∧ z66 ≤ 19) (h10 : z66 = -99999999 ∨ z66 = -4 ∨ (0 ≤ z66 ∧ z66 ≤ 19)) : z535 < n1 := by omega
theorem vc_X8_look_W_22 {z5 : Int} (h0 : z5 = (-1)) (h1 : (-1) ≤ z5 ∧ z5 ≤ 2) : (-1) ≤ z5 ∧ z5 ≤ (-1) := by omega
theorem vc_X8_look_W_24 {n1 z605 : Int} (h0 : z605 < 0) (h1 : z605 < 0 ∨ 0 < n1) (h2 : (-1) ≤ z605 ∧ z605 ≤ 9) : (-1) ≤ z605 ∧ z605 ≤ (-1) := by omega
theorem vc_X8_look_W_25 {n1 z605 : Int} (h0 : z605 < 0 ∨ 0 < n1) (h1 : z605 < 0) (h2 : (-1) ≤ z605 ∧ z605 ≤ (-1)) : 0 ≤ ((-99999999) : Int) → ((-99999999) : Int) < n1 := by omega
theorem vc_X8_look_W_27 {n1 z605 : Int} (h0 : 0 ≤ z605) (h1 : z605 < 0 ∨ 0 < n1) (h2 : (-1) ≤ z605 ∧ z605 ≤ 9) : 0 ≤ z605 ∧ z605 ≤ 9 := by omega
theorem vc_X8_look_W_28 {n1 z605 z612 : Int} (h0 : z605 < 0 ∨ 0 < n1) (h1 : (z612 = 0 ∨ z612 < n1)) (h2 : 0 ≤ z605) (h3 : 0 ≤ z605 ∧ z605 ≤ 9) (h4 : 0 ≤ z612 ∧ z612 ≤ 19) : 0 ≤ z612 → z612 < n1 := by omega
theorem vc_X8_look_W_29 {n1 z605 z612 : Int} (h0 : (z612 = 0 ∨ z612 < n1)) (h1 : z605 < 0 ∨ 0 < n1) (h2 : 0 ≤ z605 ∧ z605 ≤ 9) (h3 : 0 ≤ z612 ∧ z612 ≤ 19) : z612 = (-99999999) ∨ z612 = (-4) ∨ (0 ≤ z612 ∧ z612 ≤ 19) := by omega
theorem vc_X8_look_W_36 {z5 : Int} (h0 : ¬ z5 = (-1)) (h1 : (-1) ≤ z5 ∧ z5 ≤ 2) : 0 ≤ z5 ∧ z5 ≤ 2 := by omega
theorem vc_X8_look_W_37 {n1 : Int}  : 0 ≤ ((-4) : Int) → ((-4) : Int) < n1 := by omega
set_option maxRecDepth 4000 in
set_option maxHeartbeats 4000000 in
theorem c_X8_look_W {l : Launch} {D : va_G} {c : Nat → ClassId} {H0 : Heap} {sa : Nat × Nat × (Nat → Int32)} {w : mW} {μ : mM} (hw : mWF w) (hT : mT w μ) {p1 : Int} (hp1 : 0 ≤ p1 ∧ p1 ≤ 9) {p2 : Int} (hp2 : 0 ≤ p2 ∧ p2 ≤ 9) (hq0 : p1 < w.2.2.2 0) (hIPC : PC w μ) {Q : mM → Prop} (hQ : WP_X8_look_W w μ p1 p2 Q) : sC (gG l D c H0 sa) mX8_look 42 0 0 [.ref 32, iv p1, iv p2] (mk w μ) (qV w [21002, 21003, 21004, 21005, 21006, 21007, 32009, 32010, 33999, 34999, 66999, 200002, 200003, 200004, 200005, 200006, 200007, 200008, 200009, 200010, 200011, 201999, 202999, 213999] μ (fun μ1 => Q μ1 ∧ True)) := by
  refine sC.of rfl (by decide) (le_t rfl) ?_
  refine mr_lvE (lv' := [(0, .ref 32), (1, iv p1), (2, iv p2)]) rfl ?_
  refine sv_aload_n (pc := 0) dX8_look_0 rfl rfl ?_
  refine gf_X8_0 (pc := 1) dX8_look_1 wF_X8_9 (A_32 hw) hT ?_
  refine gf_X10_3 (pc := 4) dX8_look_4 wF_X8_162 (A_6 hw) hT ?_
  refine mr_iload_n (pc := 7) (z := p1) dX8_look_7 rfl rfl ?_
  refine la_10 (pc := 8) dX8_look_8 (A_10 hw) hT (rIx (n := 10) hp1 rfl) (vc_X9_end_1 hq0 hp1) fun b1 q2 A3 => ?_
  refine mr_astore_n (pc := 9) (lv' := [(3, .ref b1), (0, .ref 32), (1, iv p1), (2, iv p2)]) dX8_look_9 rfl (by decide) rfl ?_
  refine sv_aload_n (pc := 10) dX8_look_10 rfl rfl ?_
  refine gf_X8_7 (pc := 11) dX8_look_11 wF_X8_46 (A_32 hw) hT ?_
  refine mr_astore (pc := 14) (lv' := [(4, .ref 70), (3, .ref b1), (0, .ref 32), (1, iv p1), (2, iv p2)]) dX8_look_14 (by decide) rfl ?_
  refine mr_ldc (pc := 16) (z := (-99999999)) dX8_look_16 wG_X8_166 (by decide) ?_
  refine mr_istore (pc := 18) (lv' := [(5, iv (-99999999)), (4, .ref 70), (3, .ref b1), (0, .ref 32), (1, iv p1), (2, iv p2)]) dX8_look_18 (by decide) rfl ?_
  refine sv_aload_n (pc := 20) dX8_look_20 rfl rfl ?_
  refine gf_X0_1 (pc := 21) dX8_look_21 wF_X8_167 A3 hT fun A4 => ?_
  refine mr_iload_n (pc := 24) (z := p2) dX8_look_24 rfl rfl ?_
  refine la_212 (pc := 25) dX8_look_25 A4 hT (rIx (n := 10) hp2 rfl) fun z5 q6 h7 => ?_
  refine mr_iconst (pc := 26) (z := (-1)) dX8_look_26 ?_
  have J63 : ∀ (z54 : Int) (b52 : Nat) (μ57 : mM), (mAt w b52 200) → (mT w μ57) → (mF [21002, 21003, 21004, 21005, 21006, 21007, 32009, 66999, 200002, 200003, 200004, 200005, 200006, 200007, 200008, 200009, 200010, 200011, 201999, 202999] w μ μ57) → (((-99999999) ≤ z54 ∧ z54 ≤ 19)) → (0 ≤ z54 → z54 < w.2.2.2 1) → ((z54 = (-99999999) ∨ z54 = (-4) ∨ (0 ≤ z54 ∧ z54 ≤ 19))) → (PC w μ57) → ((WJ_X8_look_W_1 w μ p1 p2 Q b1) z54 b52 μ57) → sV (gG l D c H0 sa) mX8_look (sRm 42 0 0) (sZ (gG l D c H0 sa) 0 0 (qV w [21002, 21003, 21004, 21005, 21006, 21007, 32009, 32010, 33999, 34999, 66999, 200002, 200003, 200004, 200005, 200006, 200007, 200008, 200009, 200010, 200011, 201999, 202999, 213999] μ (fun μ1 => Q μ1 ∧ True))) 106 [(0, .ref 32), (1, iv p1), (2, iv p2), (3, .ref b1), (4, .ref b52), (5, iv z54)] [] (mk w μ57) 0 0 := by
    intro z54 b52 μ57 A53 T58 F59 h55 h62 h56 I61 W64
    refine mr_iload (pc := 106) (z := z54) dX8_look_106 rfl ?_
    refine sv_aload_n (pc := 108) dX8_look_108 rfl rfl ?_
    refine gf_X0_2 (pc := 109) dX8_look_109 wF_X8_190 A3 T58 fun A65 => ?_
    refine mr_iload_n (pc := 112) (z := p2) dX8_look_112 rfl rfl ?_
    refine la_213 (pc := 113) dX8_look_113 A65 T58 (rIx (n := 10) hp2 rfl) fun z66 q67 h68 => ?_
    have h69 : (-99999999) ≤ z66 ∧ z66 ≤ 19 := (vc_X12_sends_3 h68.1)
    refine mr_icmp_ne (pc := 114) (tgt := 132) dX8_look_114 (by decide) (r32 h55 rfl) (r32 h69 rfl) (fun h70 => ?_) (fun h70 => ?_)
    · refine sv_aload_n (pc := 132) dX8_look_132 rfl rfl ?_
      refine gf_X0_2 (pc := 133) dX8_look_133 wF_X8_190 A3 T58 fun A71 => ?_
      refine mr_iload_n (pc := 136) (z := p2) dX8_look_136 rfl rfl ?_
      refine mr_iload (pc := 137) (z := z54) dX8_look_137 rfl ?_
      refine ss_213 (pc := 139) dX8_look_139 A71 T58 (rIx (n := 10) hp2 rfl) (vc_X8_look_W_3 h62 h68.2 h70 h55 h56 h69 h68.1) fun μ72 u73 T74 => ?_
      refine sv_aload_n (pc := 140) dX8_look_140 rfl rfl ?_
      refine gf_X0_3 (pc := 141) dX8_look_141 wF_X8_193 A3 T74 fun A75 => ?_
      refine mr_iload_n (pc := 144) (z := p2) dX8_look_144 rfl rfl ?_
      refine la_214 (pc := 145) dX8_look_145 A75 T74 (rIx (n := 10) hp2 rfl) fun b76 q77 A78 => ?_
      refine sv_aload (pc := 146) dX8_look_146 rfl ?_
      refine mr_cVV (pc := 148) (c_X7_become_W hw T74 A78 A53 (((((W64 h55 A53 T58 F59) z66 q67 h68).1 h70) μ72 u73 T74) b76 q77 A78)) (gOk _ _ _ _ _) dX8_look_148 (tX7_become _ _ _ _ _) ⟨wV_X7_become, wL_X7_become⟩ wM_X8_106 (gCX7 _ _ _ _ _) rfl A78 rfl ⟨le_t rfl, le_t rfl⟩ ⟨le_t rfl, le_t rfl⟩ rfl (le_t rfl) fun μ79 T80 F81 h82 => ?_
      refine mr_iconst (pc := 151) (z := 0) dX8_look_151 ?_
      refine mr_istore (pc := 152) (lv' := [(6, iv 0), (0, .ref 32), (1, iv p1), (2, iv p2), (3, .ref b1), (4, .ref b52), (5, iv z54)]) dX8_look_152 (by decide) rfl ?_
      have L274 : ∀ (nL274 : Nat) (z272 : Int) (μ273 : mM), mT w μ273 → mF [21002, 21003, 21004, 21005, 21006, 21007, 32010, 33999, 34999, 200002, 200003, 200004, 200005, 200006, 200007, 200008, 200009, 201999, 202999] w μ79 μ273 → (0 ≤ z272 ∧ z272 ≤ 20) → PC w μ273 → (21 - z272) < (nL274 : Int) → loopF (WL_X8_look_W_2 w p1 p2 Q μ79) False nL274 (z272, μ273) → sV (gG l D c H0 sa) mX8_look (sRm 42 0 0) (sZ (gG l D c H0 sa) 0 0 (qV w [21002, 21003, 21004, 21005, 21006, 21007, 32009, 32010, 33999, 34999, 66999, 200002, 200003, 200004, 200005, 200006, 200007, 200008, 200009, 200010, 200011, 201999, 202999, 213999] μ (fun μ1 => Q μ1 ∧ True))) 154 [(0, .ref 32), (1, iv p1), (2, iv p2), (6, iv z272)] [] (mk w μ273) 0 0 := by
        intro nL274
        induction nL274 with
        | zero => intro z272 μ273 T276 F277 h275 I279 h280 W281; exact ((vc_X12_tieOf_1 h280 h275)).elim
        | succ nL274 ih282 =>
          intro z272 μ273 T276 F277 h275 I279 h280 W281
          refine mr_iload (pc := 154) (z := z272) dX8_look_154 rfl ?_
          refine sv_aload_n (pc := 156) dX8_look_156 rfl rfl ?_
          refine gf_X8_0 (pc := 157) dX8_look_157 wF_X8_9 (A_32 hw) T276 ?_
          refine gf_X10_16 (pc := 160) dX8_look_160 wF_X8_153 (A_6 hw) T276 fun z283 q284 h285 => ?_
          refine mr_icmp_ge (pc := 163) (tgt := 202) dX8_look_163 (by decide) (r32 h275 rfl) (r32 h285.2 rfl) (fun h302 => ?_) (fun h302 => ?_)
          · exact mr_vret dX8_look_202 rfl (le_t rfl) (le_t rfl) T276 (mF.call (mF.call (mF.up (mF.call mF.refl F59 rfl) A71 u73 rfl) F81 rfl) F277 rfl) ⟨(((W281 z272 μ273 rfl h275 T276 F277) z283 q284 h285).1 h302), trivial⟩
          have h303 : 0 ≤ z272 ∧ z272 ≤ 19 := (vc_X10_tieBetween_3 h302 h285.1 h275 h285.2)
          have h304 : 1 ≤ z283 ∧ z283 ≤ 20 := (vc_X10_tieBetween_4 h302 h285.1 h303 h285.2)
          refine sv_aload_n (pc := 166) dX8_look_166 rfl rfl ?_
          refine gf_X8_0 (pc := 167) dX8_look_167 wF_X8_9 (A_32 hw) T276 ?_
          refine gf_X10_4 (pc := 170) dX8_look_170 wF_X8_76 (A_6 hw) T276 ?_
          refine mr_iload (pc := 173) (z := z272) dX8_look_173 rfl ?_
          refine la_11 (pc := 175) dX8_look_175 (A_11 hw) T276 (rIx (n := 20) h303 rfl) (vc_X8_look_W_7 h62 h68.2 h285.1 h302 h70 h303 h304 h55 h56 h69 h68.1) fun b305 q306 A307 => ?_
          refine mr_iload_n (pc := 176) (z := p1) dX8_look_176 rfl rfl ?_
          refine mr_cVP (pc := 177) (c_X9_sideOf_W hw T276 A307 (rW (c := (-2147483648)) (d := 2147483647) hp1 rfl) ((((W281 z272 μ273 rfl h275 T276 F277) z283 q284 h285).2 h302) b305 q306 A307)) (gOk _ _ _ _ _) dX8_look_177 (tX9_sideOf _ _ _ _ _) ⟨wV_X9_sideOf, wL_X9_sideOf⟩ wM_X8_156 (gCX9 _ _ _ _ _) rfl A307 rfl ⟨le_t rfl, le_t rfl⟩ ⟨le_t rfl, le_t rfl⟩ rfl (le_t rfl) fun z312 h311 => ?_
          refine mr_istore (pc := 180) (lv' := [(7, iv z312), (0, .ref 32), (1, iv p1), (2, iv p2), (6, iv z272)]) dX8_look_180 (by decide) rfl ?_
          refine mr_iload (pc := 182) (z := z312) dX8_look_182 rfl ?_
          refine mr_if_lt (pc := 184) (tgt := 196) dX8_look_184 (by decide) (r32 h311.1 rfl) (fun h319 => ?_) (fun h319 => ?_)
          · have h320 : (-1) ≤ z312 ∧ z312 ≤ (-1) := (vc_X12_differ_33 h319 h311.1)
            refine mr_iinc (pc := 196) (lv' := [(6, iv (z272 + 1)), (7, iv z312), (0, .ref 32), (1, iv p1), (2, iv p2)]) dX8_look_196 rfl (by decide) rfl ?_
            refine sv_goto (pc := 199) (tgt := 154) dX8_look_199 (by decide) ?_
            refine mr_lvS (lv' := [(0, .ref 32), (1, iv p1), (2, iv p2), (6, iv (z272 + 1))]) (List.forall_mem_cons.mpr ⟨rfl, List.forall_mem_cons.mpr ⟨rfl, List.forall_mem_cons.mpr ⟨rfl, List.forall_mem_cons.mpr ⟨rfl, fun _ h => absurd h List.not_mem_nil⟩⟩⟩⟩) ?_
            exact ih282 (z272 + 1) μ273 T276 (mF.call mF.refl F277 rfl) (rW (c := 0) (d := 20) (rAdd (e := 1) (f := 20) h303 (rR (x := 1)) rfl) rfl) I279 (vc_X10_tieBetween_6 (nS h280) h302 h285.1 h303 h304) ((h311.2.1 h311.1).1 h319)
          have h321 : 0 ≤ z312 ∧ z312 ≤ 1 := (vc_X12_differ_32 h319 h311.1)
          refine sv_aload_n (pc := 187) dX8_look_187 rfl rfl ?_
          refine mr_iload (pc := 188) (z := z272) dX8_look_188 rfl ?_
          refine mr_iload (pc := 190) (z := z312) dX8_look_190 rfl ?_
          refine mr_iload_n (pc := 192) (z := p2) dX8_look_192 rfl rfl ?_
          refine mr_cVV (pc := 193) (c_X8_say_W hw T276 h303 h321 hp2 (vc_X8_look_W_7 h62 h68.2 h285.1 h302 h70 h303 h304 h55 h56 h69 h68.1) I279 ((h311.2.1 h311.1).2 h319)) (gOk _ _ _ _ _) dX8_look_193 (tX8_say _ _ _ _ _) ⟨wV_X8_say, wL_X8_say⟩ wM_X8_72 (gCX8 _ _ _ _ _) rfl (A_32 hw) rfl ⟨le_t rfl, le_t rfl⟩ ⟨le_t rfl, le_t rfl⟩ rfl (le_t rfl) fun μ322 T323 F324 h325 => ?_
          refine mr_iinc (pc := 196) (lv' := [(6, iv (z272 + 1)), (7, iv z312), (0, .ref 32), (1, iv p1), (2, iv p2)]) dX8_look_196 rfl (by decide) rfl ?_
          refine sv_goto (pc := 199) (tgt := 154) dX8_look_199 (by decide) ?_
          refine mr_lvS (lv' := [(0, .ref 32), (1, iv p1), (2, iv p2), (6, iv (z272 + 1))]) (List.forall_mem_cons.mpr ⟨rfl, List.forall_mem_cons.mpr ⟨rfl, List.forall_mem_cons.mpr ⟨rfl, List.forall_mem_cons.mpr ⟨rfl, fun _ h => absurd h List.not_mem_nil⟩⟩⟩⟩) ?_
          exact ih282 (z272 + 1) μ322 T323 (mF.call (mF.call mF.refl F277 rfl) F324 rfl) (rW (c := 0) (d := 20) (rAdd (e := 1) (f := 20) h303 (rR (x := 1)) rfl) rfl) (PC.keep I279 hw ((mF.call mF.refl F324 rfl) : mF [21002, 21003, 21004, 21005, 21006, 21007, 32010, 33999, 34999, 200002, 200003, 200004, 200005, 200006, 200007, 200008, 200009, 201999, 202999] w μ273 μ322) rfl) (vc_X10_tieBetween_6 (nS h280) h302 h285.1 h303 h304) (h325.1 T323 F324)
      refine mr_lvS (lv' := [(0, .ref 32), (1, iv p1), (2, iv p2), (6, iv 0)]) (List.forall_mem_cons.mpr ⟨rfl, List.forall_mem_cons.mpr ⟨rfl, List.forall_mem_cons.mpr ⟨rfl, List.forall_mem_cons.mpr ⟨rfl, fun _ h => absurd h List.not_mem_nil⟩⟩⟩⟩) ?_
      exact L274 22 0 μ79 T80 mF.refl (rW (c := 0) (d := 20) (rR (x := 0)) rfl) (PC.keep I61 hw ((mF.call (mF.up mF.refl A71 u73 rfl) F81 rfl) : mF [200002, 200003, 200004, 200005, 200006, 200007, 200008, 201999, 202999, 213999] w μ57 μ79) rfl) vc_X12_tieOf_12 (h82.1 T80 F81)
    refine sv_aload (pc := 117) dX8_look_117 rfl ?_
    refine sv_aload_n (pc := 119) dX8_look_119 rfl rfl ?_
    refine gf_X0_3 (pc := 120) dX8_look_120 wF_X8_193 A3 T58 fun A326 => ?_
    refine mr_iload_n (pc := 123) (z := p2) dX8_look_123 rfl rfl ?_
    refine la_214 (pc := 124) dX8_look_124 A326 T58 (rIx (n := 10) hp2 rfl) fun b327 q328 A329 => ?_
    refine mr_cVP (pc := 125) (c_X7_isAlike_W hw T58 A53 A329 ((((W64 h55 A53 T58 F59) z66 q67 h68).2 h70) b327 q328 A329)) (gOk _ _ _ _ _) dX8_look_125 (tX7_isAlike _ _ _ _ _) ⟨wV_X7_isAlike, wL_X7_isAlike⟩ wM_X8_196 (gCX7 _ _ _ _ _) rfl A53 rfl ⟨le_t rfl, le_t rfl⟩ ⟨le_t rfl, le_t rfl⟩ rfl (le_t rfl) fun z334 h333 => ?_
    refine mr_if_eq (pc := 128) (tgt := 132) dX8_look_128 (by decide) (r32 h333.1 rfl) (fun h335 => ?_) (fun h335 => ?_)
    · have h336 : 0 ≤ z334 ∧ z334 ≤ 0 := (vc_X12_ring_22 h335 h333.1)
      refine sv_aload_n (pc := 132) dX8_look_132 rfl rfl ?_
      refine gf_X0_2 (pc := 133) dX8_look_133 wF_X8_190 A3 T58 fun A337 => ?_
      refine mr_iload_n (pc := 136) (z := p2) dX8_look_136 rfl rfl ?_
      refine mr_iload (pc := 137) (z := z54) dX8_look_137 rfl ?_
      refine ss_213 (pc := 139) dX8_look_139 A337 T58 (rIx (n := 10) hp2 rfl) (vc_X8_look_W_13 h62 h68.2 h70 h55 h56 h69 h68.1) fun μ338 u339 T340 => ?_
      refine sv_aload_n (pc := 140) dX8_look_140 rfl rfl ?_
      refine gf_X0_3 (pc := 141) dX8_look_141 wF_X8_193 A3 T340 fun A341 => ?_
      refine mr_iload_n (pc := 144) (z := p2) dX8_look_144 rfl rfl ?_
      refine lk_214 (pc := 145) dX8_look_145 A341 (rIx (n := 10) hp2 rfl) (u339.f (Or.inl (mAt.ne A337 A341 rfl)) q328) ?_
      refine sv_aload (pc := 146) dX8_look_146 rfl ?_
      refine mr_cVV (pc := 148) (c_X7_become_W hw T340 A329 A53 (((h333.2.1 h333.1).1 h335) μ338 u339 T340)) (gOk _ _ _ _ _) dX8_look_148 (tX7_become _ _ _ _ _) ⟨wV_X7_become, wL_X7_become⟩ wM_X8_106 (gCX7 _ _ _ _ _) rfl A329 rfl ⟨le_t rfl, le_t rfl⟩ ⟨le_t rfl, le_t rfl⟩ rfl (le_t rfl) fun μ342 T343 F344 h345 => ?_
      refine mr_iconst (pc := 151) (z := 0) dX8_look_151 ?_
      refine mr_istore (pc := 152) (lv' := [(6, iv 0), (0, .ref 32), (1, iv p1), (2, iv p2), (3, .ref b1), (4, .ref b52), (5, iv z54)]) dX8_look_152 (by decide) rfl ?_
      have L537 : ∀ (nL537 : Nat) (z535 : Int) (μ536 : mM), mT w μ536 → mF [21002, 21003, 21004, 21005, 21006, 21007, 32010, 33999, 34999, 200002, 200003, 200004, 200005, 200006, 200007, 200008, 200009, 201999, 202999] w μ342 μ536 → (0 ≤ z535 ∧ z535 ≤ 20) → PC w μ536 → (21 - z535) < (nL537 : Int) → loopF (WL_X8_look_W_3 w p1 p2 Q μ342) False nL537 (z535, μ536) → sV (gG l D c H0 sa) mX8_look (sRm 42 0 0) (sZ (gG l D c H0 sa) 0 0 (qV w [21002, 21003, 21004, 21005, 21006, 21007, 32009, 32010, 33999, 34999, 66999, 200002, 200003, 200004, 200005, 200006, 200007, 200008, 200009, 200010, 200011, 201999, 202999, 213999] μ (fun μ1 => Q μ1 ∧ True))) 154 [(0, .ref 32), (1, iv p1), (2, iv p2), (6, iv z535)] [] (mk w μ536) 0 0 := by
        intro nL537
        induction nL537 with
        | zero => intro z535 μ536 T539 F540 h538 I542 h543 W544; exact ((vc_X12_tieOf_1 h543 h538)).elim
        | succ nL537 ih545 =>
          intro z535 μ536 T539 F540 h538 I542 h543 W544
          refine mr_iload (pc := 154) (z := z535) dX8_look_154 rfl ?_
          refine sv_aload_n (pc := 156) dX8_look_156 rfl rfl ?_
          refine gf_X8_0 (pc := 157) dX8_look_157 wF_X8_9 (A_32 hw) T539 ?_
          refine gf_X10_16 (pc := 160) dX8_look_160 wF_X8_153 (A_6 hw) T539 fun z546 q547 h548 => ?_
          refine mr_icmp_ge (pc := 163) (tgt := 202) dX8_look_163 (by decide) (r32 h538 rfl) (r32 h548.2 rfl) (fun h565 => ?_) (fun h565 => ?_)
          · exact mr_vret dX8_look_202 rfl (le_t rfl) (le_t rfl) T539 (mF.call (mF.call (mF.up (mF.call mF.refl F59 rfl) A337 u339 rfl) F344 rfl) F540 rfl) ⟨(((W544 z535 μ536 rfl h538 T539 F540) z546 q547 h548).1 h565), trivial⟩
          have h566 : 0 ≤ z535 ∧ z535 ≤ 19 := (vc_X10_tieBetween_3 h565 h548.1 h538 h548.2)
          have h567 : 1 ≤ z546 ∧ z546 ≤ 20 := (vc_X10_tieBetween_4 h565 h548.1 h566 h548.2)
          refine sv_aload_n (pc := 166) dX8_look_166 rfl rfl ?_
          refine gf_X8_0 (pc := 167) dX8_look_167 wF_X8_9 (A_32 hw) T539 ?_
          refine gf_X10_4 (pc := 170) dX8_look_170 wF_X8_76 (A_6 hw) T539 ?_
          refine mr_iload (pc := 173) (z := z535) dX8_look_173 rfl ?_
          refine la_11 (pc := 175) dX8_look_175 (A_11 hw) T539 (rIx (n := 20) h566 rfl) (vc_X8_look_W_17 h62 h68.2 h548.1 h565 h70 h566 h55 h56 h567 h69 h68.1) fun b568 q569 A570 => ?_
          refine mr_iload_n (pc := 176) (z := p1) dX8_look_176 rfl rfl ?_
          refine mr_cVP (pc := 177) (c_X9_sideOf_W hw T539 A570 (rW (c := (-2147483648)) (d := 2147483647) hp1 rfl) ((((W544 z535 μ536 rfl h538 T539 F540) z546 q547 h548).2 h565) b568 q569 A570)) (gOk _ _ _ _ _) dX8_look_177 (tX9_sideOf _ _ _ _ _) ⟨wV_X9_sideOf, wL_X9_sideOf⟩ wM_X8_156 (gCX9 _ _ _ _ _) rfl A570 rfl ⟨le_t rfl, le_t rfl⟩ ⟨le_t rfl, le_t rfl⟩ rfl (le_t rfl) fun z575 h574 => ?_
          refine mr_istore (pc := 180) (lv' := [(7, iv z575), (0, .ref 32), (1, iv p1), (2, iv p2), (6, iv z535)]) dX8_look_180 (by decide) rfl ?_
          refine mr_iload (pc := 182) (z := z575) dX8_look_182 rfl ?_
          refine mr_if_lt (pc := 184) (tgt := 196) dX8_look_184 (by decide) (r32 h574.1 rfl) (fun h582 => ?_) (fun h582 => ?_)
          · have h583 : (-1) ≤ z575 ∧ z575 ≤ (-1) := (vc_X12_differ_33 h582 h574.1)
            refine mr_iinc (pc := 196) (lv' := [(6, iv (z535 + 1)), (7, iv z575), (0, .ref 32), (1, iv p1), (2, iv p2)]) dX8_look_196 rfl (by decide) rfl ?_
            refine sv_goto (pc := 199) (tgt := 154) dX8_look_199 (by decide) ?_
            refine mr_lvS (lv' := [(0, .ref 32), (1, iv p1), (2, iv p2), (6, iv (z535 + 1))]) (List.forall_mem_cons.mpr ⟨rfl, List.forall_mem_cons.mpr ⟨rfl, List.forall_mem_cons.mpr ⟨rfl, List.forall_mem_cons.mpr ⟨rfl, fun _ h => absurd h List.not_mem_nil⟩⟩⟩⟩) ?_
            exact ih545 (z535 + 1) μ536 T539 (mF.call mF.refl F540 rfl) (rW (c := 0) (d := 20) (rAdd (e := 1) (f := 20) h566 (rR (x := 1)) rfl) rfl) I542 (vc_X10_tieBetween_6 (nS h543) h565 h548.1 h566 h567) ((h574.2.1 h574.1).1 h582)
          have h584 : 0 ≤ z575 ∧ z575 ≤ 1 := (vc_X12_differ_32 h582 h574.1)
          refine sv_aload_n (pc := 187) dX8_look_187 rfl rfl ?_
          refine mr_iload (pc := 188) (z := z535) dX8_look_188 rfl ?_
          refine mr_iload (pc := 190) (z := z575) dX8_look_190 rfl ?_
          refine mr_iload_n (pc := 192) (z := p2) dX8_look_192 rfl rfl ?_
          refine mr_cVV (pc := 193) (c_X8_say_W hw T539 h566 h584 hp2 (vc_X8_look_W_17 h62 h68.2 h548.1 h565 h70 h566 h55 h56 h567 h69 h68.1) I542 ((h574.2.1 h574.1).2 h582)) (gOk _ _ _ _ _) dX8_look_193 (tX8_say _ _ _ _ _) ⟨wV_X8_say, wL_X8_say⟩ wM_X8_72 (gCX8 _ _ _ _ _) rfl (A_32 hw) rfl ⟨le_t rfl, le_t rfl⟩ ⟨le_t rfl, le_t rfl⟩ rfl (le_t rfl) fun μ585 T586 F587 h588 => ?_
          refine mr_iinc (pc := 196) (lv' := [(6, iv (z535 + 1)), (7, iv z575), (0, .ref 32), (1, iv p1), (2, iv p2)]) dX8_look_196 rfl (by decide) rfl ?_
          refine sv_goto (pc := 199) (tgt := 154) dX8_look_199 (by decide) ?_
          refine mr_lvS (lv' := [(0, .ref 32), (1, iv p1), (2, iv p2), (6, iv (z535 + 1))]) (List.forall_mem_cons.mpr ⟨rfl, List.forall_mem_cons.mpr ⟨rfl, List.forall_mem_cons.mpr ⟨rfl, List.forall_mem_cons.mpr ⟨rfl, fun _ h => absurd h List.not_mem_nil⟩⟩⟩⟩) ?_
          exact ih545 (z535 + 1) μ585 T586 (mF.call (mF.call mF.refl F540 rfl) F587 rfl) (rW (c := 0) (d := 20) (rAdd (e := 1) (f := 20) h566 (rR (x := 1)) rfl) rfl) (PC.keep I542 hw ((mF.call mF.refl F587 rfl) : mF [21002, 21003, 21004, 21005, 21006, 21007, 32010, 33999, 34999, 200002, 200003, 200004, 200005, 200006, 200007, 200008, 200009, 201999, 202999] w μ536 μ585) rfl) (vc_X10_tieBetween_6 (nS h543) h565 h548.1 h566 h567) (h588.1 T586 F587)
      refine mr_lvS (lv' := [(0, .ref 32), (1, iv p1), (2, iv p2), (6, iv 0)]) (List.forall_mem_cons.mpr ⟨rfl, List.forall_mem_cons.mpr ⟨rfl, List.forall_mem_cons.mpr ⟨rfl, List.forall_mem_cons.mpr ⟨rfl, fun _ h => absurd h List.not_mem_nil⟩⟩⟩⟩) ?_
      exact L537 22 0 μ342 T343 mF.refl (rW (c := 0) (d := 20) (rR (x := 0)) rfl) (PC.keep I61 hw ((mF.call (mF.up mF.refl A337 u339 rfl) F344 rfl) : mF [200002, 200003, 200004, 200005, 200006, 200007, 200008, 201999, 202999, 213999] w μ57 μ342) rfl) vc_X12_tieOf_12 (h345.1 T343 F344)
    have h589 : 1 ≤ z334 ∧ z334 ≤ 1 := (vc_X12_ring_24 h335 h333.1)
    exact mr_vret dX8_look_131 rfl (le_t rfl) (le_t rfl) T58 (mF.call mF.refl F59 rfl) ⟨((h333.2.1 h333.1).2 h335), trivial⟩
  refine mr_icmp_eq (pc := 27) (tgt := 57) dX8_look_27 (by decide) (r32 h7 rfl) (r32 (rR (x := (-1))) rfl) (fun h590 => ?_) (fun h590 => ?_)
  · have h591 : (-1) ≤ z5 ∧ z5 ≤ (-1) := (vc_X8_look_W_22 h590 h7)
    refine sv_aload_n (pc := 57) dX8_look_57 rfl rfl ?_
    refine mr_iload_n (pc := 58) (z := p1) dX8_look_58 rfl rfl ?_
    refine mr_iload_n (pc := 59) (z := p2) dX8_look_59 rfl rfl ?_
    refine mr_cVV (pc := 60) (c_X8_gather_W hw hT hp1 hp2 hIPC (((hQ b1 q2 A3) z5 q6 h7).1 h590)) (gOk _ _ _ _ _) dX8_look_60 (tX8_gather _ _ _ _ _) ⟨wV_X8_gather, wL_X8_gather⟩ wM_X8_175 (gCX8 _ _ _ _ _) rfl (A_32 hw) rfl ⟨le_t rfl, le_t rfl⟩ ⟨le_t rfl, le_t rfl⟩ rfl (le_t rfl) fun μ592 T593 F594 h595 => ?_
    refine sv_aload_n (pc := 63) dX8_look_63 rfl rfl ?_
    refine gf_X0_5 (pc := 64) dX8_look_64 wF_X8_178 A3 T593 fun z596 q597 h598 => ?_
    refine mr_if_eq (pc := 67) (tgt := 78) dX8_look_67 (by decide) (r32 h598 rfl) (fun h599 => ?_) (fun h599 => ?_)
    · have h600 : 0 ≤ z596 ∧ z596 ≤ 0 := (vc_X12_ring_22 h599 h598)
      refine sv_aload_n (pc := 78) dX8_look_78 rfl rfl ?_
      refine sv_aload_n (pc := 79) dX8_look_79 rfl rfl ?_
      refine mr_cVI (pc := 80) (c_X8_pickPlain_W hw T593 A3 (((h595.1 T593 F594) z596 q597 h598).1 h599)) (gOk _ _ _ _ _) dX8_look_80 (tX8_pickPlain _ _ _ _ _) ⟨wV_X8_pickPlain, wL_X8_pickPlain⟩ wM_X8_185 (gCX8 _ _ _ _ _) rfl (A_32 hw) rfl ⟨le_t rfl, le_t rfl⟩ ⟨le_t rfl, le_t rfl⟩ rfl (le_t rfl) fun z605 μ601 T602 F603 h604 => ?_
      refine mr_istore (pc := 83) (lv' := [(6, iv z605), (5, iv (-99999999)), (4, .ref 70), (3, .ref b1), (0, .ref 32), (1, iv p1), (2, iv p2)]) dX8_look_83 (by decide) rfl ?_
      refine mr_iload (pc := 85) (z := z605) dX8_look_85 rfl ?_
      refine mr_if_lt (pc := 87) (tgt := 106) dX8_look_87 (by decide) (r32 h604.1 rfl) (fun h606 => ?_) (fun h606 => ?_)
      · have h607 : (-1) ≤ z605 ∧ z605 ≤ (-1) := (vc_X8_look_W_24 h606 h604.2.1 h604.1)
        refine mr_lvS (lv' := [(0, .ref 32), (1, iv p1), (2, iv p2), (3, .ref b1), (4, .ref 70), (5, iv (-99999999))]) (List.forall_mem_cons.mpr ⟨rfl, List.forall_mem_cons.mpr ⟨rfl, List.forall_mem_cons.mpr ⟨rfl, List.forall_mem_cons.mpr ⟨rfl, List.forall_mem_cons.mpr ⟨rfl, List.forall_mem_cons.mpr ⟨rfl, fun _ h => absurd h List.not_mem_nil⟩⟩⟩⟩⟩⟩) ?_
        exact J63 (-99999999) 70 μ601 (A_70 hw) T602 (mF.call (mF.call mF.refl F594 rfl) F603 rfl) (rW (c := (-99999999)) (d := 19) (rR (x := (-99999999))) rfl) (vc_X8_look_W_25 h604.2.1 h606 h607) vc_X2_tieFor_24 (PC.keep hIPC hw ((mF.call (mF.call mF.refl F594 rfl) F603 rfl) : mF [21002, 21003, 21004, 21005, 21006, 21007, 32009, 66999, 200002, 200003, 200004, 200005, 200006, 200007, 200008, 200009, 200010, 200011, 201999, 202999] w μ μ601) rfl) (((h604.2.2.1 T602 F603) h604.1).1 h606)
      have h608 : 0 ≤ z605 ∧ z605 ≤ 9 := (vc_X8_look_W_27 h606 h604.2.1 h604.1)
      refine sv_aload_n (pc := 90) dX8_look_90 rfl rfl ?_
      refine gf_X8_4 (pc := 91) dX8_look_91 wF_X8_34 (A_32 hw) T602 ?_
      refine mr_iload (pc := 94) (z := z605) dX8_look_94 rfl ?_
      refine la_35 (pc := 96) dX8_look_96 (A_35 hw) T602 (rIx (n := 10) h608 rfl) fun b609 q610 A611 => ?_
      refine mr_astore (pc := 97) (lv' := [(4, .ref b609), (6, iv z605), (5, iv (-99999999)), (3, .ref b1), (0, .ref 32), (1, iv p1), (2, iv p2)]) dX8_look_97 (by decide) rfl ?_
      refine sv_aload (pc := 99) dX8_look_99 rfl ?_
      refine gf_X7_10 (pc := 101) dX8_look_101 wF_X8_188 A611 T602 fun z612 q613 h614 => ?_
      have h615 : 0 ≤ z612 ∧ z612 ≤ 19 := ⟨h614.1, h614.2.1⟩
      refine mr_istore (pc := 104) (lv' := [(5, iv z612), (4, .ref b609), (6, iv z605), (3, .ref b1), (0, .ref 32), (1, iv p1), (2, iv p2)]) dX8_look_104 (by decide) rfl ?_
      refine mr_lvS (lv' := [(0, .ref 32), (1, iv p1), (2, iv p2), (3, .ref b1), (4, .ref b609), (5, iv z612)]) (List.forall_mem_cons.mpr ⟨rfl, List.forall_mem_cons.mpr ⟨rfl, List.forall_mem_cons.mpr ⟨rfl, List.forall_mem_cons.mpr ⟨rfl, List.forall_mem_cons.mpr ⟨rfl, List.forall_mem_cons.mpr ⟨rfl, fun _ h => absurd h List.not_mem_nil⟩⟩⟩⟩⟩⟩) ?_
      exact J63 z612 b609 μ601 A611 T602 (mF.call (mF.call mF.refl F594 rfl) F603 rfl) (rW (c := (-99999999)) (d := 19) h615 rfl) (vc_X8_look_W_28 h604.2.1 h614.2.2 h606 h608 h615) (vc_X8_look_W_29 h614.2.2 h604.2.1 h608 h615) (PC.keep hIPC hw ((mF.call (mF.call mF.refl F594 rfl) F603 rfl) : mF [21002, 21003, 21004, 21005, 21006, 21007, 32009, 66999, 200002, 200003, 200004, 200005, 200006, 200007, 200008, 200009, 200010, 200011, 201999, 202999] w μ μ601) rfl) (((((h604.2.2.1 T602 F603) h604.1).2 h606) b609 q610 A611) z612 q613 h614)
    have h616 : 1 ≤ z596 ∧ z596 ≤ 1 := (vc_X12_ring_24 h599 h598)
    refine sv_aload_n (pc := 70) dX8_look_70 rfl rfl ?_
    refine sv_aload_n (pc := 71) dX8_look_71 rfl rfl ?_
    refine mr_cVI (pc := 72) (c_X8_pickGrouped_W hw T593 A3 (((h595.1 T593 F594) z596 q597 h598).2 h599)) (gOk _ _ _ _ _) dX8_look_72 (tX8_pickGrouped _ _ _ _ _) ⟨wV_X8_pickGrouped, wL_X8_pickGrouped⟩ wM_X8_181 (gCX8 _ _ _ _ _) rfl (A_32 hw) rfl ⟨le_t rfl, le_t rfl⟩ ⟨le_t rfl, le_t rfl⟩ rfl (le_t rfl) fun z621 μ617 T618 F619 h620 => ?_
    refine sv_goto (pc := 75) (tgt := 83) dX8_look_75 (by decide) ?_
    refine mr_istore (pc := 83) (lv' := [(6, iv z621), (5, iv (-99999999)), (4, .ref 70), (3, .ref b1), (0, .ref 32), (1, iv p1), (2, iv p2)]) dX8_look_83 (by decide) rfl ?_
    refine mr_iload (pc := 85) (z := z621) dX8_look_85 rfl ?_
    refine mr_if_lt (pc := 87) (tgt := 106) dX8_look_87 (by decide) (r32 h620.1 rfl) (fun h622 => ?_) (fun h622 => ?_)
    · have h623 : (-1) ≤ z621 ∧ z621 ≤ (-1) := (vc_X8_look_W_24 h622 h620.2.1 h620.1)
      refine mr_lvS (lv' := [(0, .ref 32), (1, iv p1), (2, iv p2), (3, .ref b1), (4, .ref 70), (5, iv (-99999999))]) (List.forall_mem_cons.mpr ⟨rfl, List.forall_mem_cons.mpr ⟨rfl, List.forall_mem_cons.mpr ⟨rfl, List.forall_mem_cons.mpr ⟨rfl, List.forall_mem_cons.mpr ⟨rfl, List.forall_mem_cons.mpr ⟨rfl, fun _ h => absurd h List.not_mem_nil⟩⟩⟩⟩⟩⟩) ?_
      exact J63 (-99999999) 70 μ617 (A_70 hw) T618 (mF.call (mF.call mF.refl F594 rfl) F619 rfl) (rW (c := (-99999999)) (d := 19) (rR (x := (-99999999))) rfl) (vc_X8_look_W_25 h620.2.1 h622 h623) vc_X2_tieFor_24 (PC.keep hIPC hw ((mF.call (mF.call mF.refl F594 rfl) F619 rfl) : mF [21002, 21003, 21004, 21005, 21006, 21007, 32009, 66999, 200002, 200003, 200004, 200005, 200006, 200007, 200008, 200009, 200010, 200011, 201999, 202999] w μ μ617) rfl) (((h620.2.2.1 T618 F619) h620.1).1 h622)
    have h624 : 0 ≤ z621 ∧ z621 ≤ 9 := (vc_X8_look_W_27 h622 h620.2.1 h620.1)
    refine sv_aload_n (pc := 90) dX8_look_90 rfl rfl ?_
    refine gf_X8_4 (pc := 91) dX8_look_91 wF_X8_34 (A_32 hw) T618 ?_
    refine mr_iload (pc := 94) (z := z621) dX8_look_94 rfl ?_
    refine la_35 (pc := 96) dX8_look_96 (A_35 hw) T618 (rIx (n := 10) h624 rfl) fun b625 q626 A627 => ?_
    refine mr_astore (pc := 97) (lv' := [(4, .ref b625), (6, iv z621), (5, iv (-99999999)), (3, .ref b1), (0, .ref 32), (1, iv p1), (2, iv p2)]) dX8_look_97 (by decide) rfl ?_
    refine sv_aload (pc := 99) dX8_look_99 rfl ?_
    refine gf_X7_10 (pc := 101) dX8_look_101 wF_X8_188 A627 T618 fun z628 q629 h630 => ?_
    have h631 : 0 ≤ z628 ∧ z628 ≤ 19 := ⟨h630.1, h630.2.1⟩
    refine mr_istore (pc := 104) (lv' := [(5, iv z628), (4, .ref b625), (6, iv z621), (3, .ref b1), (0, .ref 32), (1, iv p1), (2, iv p2)]) dX8_look_104 (by decide) rfl ?_
    refine mr_lvS (lv' := [(0, .ref 32), (1, iv p1), (2, iv p2), (3, .ref b1), (4, .ref b625), (5, iv z628)]) (List.forall_mem_cons.mpr ⟨rfl, List.forall_mem_cons.mpr ⟨rfl, List.forall_mem_cons.mpr ⟨rfl, List.forall_mem_cons.mpr ⟨rfl, List.forall_mem_cons.mpr ⟨rfl, List.forall_mem_cons.mpr ⟨rfl, fun _ h => absurd h List.not_mem_nil⟩⟩⟩⟩⟩⟩) ?_
    exact J63 z628 b625 μ617 A627 T618 (mF.call (mF.call mF.refl F594 rfl) F619 rfl) (rW (c := (-99999999)) (d := 19) h631 rfl) (vc_X8_look_W_28 h620.2.1 h630.2.2 h622 h624 h631) (vc_X8_look_W_29 h630.2.2 h620.2.1 h624 h631) (PC.keep hIPC hw ((mF.call (mF.call mF.refl F594 rfl) F619 rfl) : mF [21002, 21003, 21004, 21005, 21006, 21007, 32009, 66999, 200002, 200003, 200004, 200005, 200006, 200007, 200008, 200009, 200010, 200011, 201999, 202999] w μ μ617) rfl) (((((h620.2.2.1 T618 F619) h620.1).2 h622) b625 q626 A627) z628 q629 h630)
  have h632 : 0 ≤ z5 ∧ z5 ≤ 2 := (vc_X8_look_W_36 h590 h7)
  refine sv_aload_n (pc := 30) dX8_look_30 rfl rfl ?_
  refine gf_X8_6 (pc := 31) dX8_look_31 wF_X8_42 (A_32 hw) hT ?_
  refine mr_iload_n (pc := 34) (z := p2) dX8_look_34 rfl rfl ?_
  refine sv_aload_n (pc := 35) dX8_look_35 rfl rfl ?_
  refine gf_X0_1 (pc := 36) dX8_look_36 wF_X8_167 A3 hT fun A633 => ?_
  refine mr_iload_n (pc := 39) (z := p2) dX8_look_39 rfl rfl ?_
  refine lk_212 (pc := 40) dX8_look_40 A633 (rIx (n := 10) hp2 rfl) q6 ?_
  refine mr_cVV (pc := 41) (c_X7_begin_W hw hT (A_67 hw) hp2 (rW (c := (-2147483648)) (d := 2147483647) h632 rfl) (((hQ b1 q2 A3) z5 q6 h7).2 h590)) (gOk _ _ _ _ _) dX8_look_41 (tX7_begin _ _ _ _ _) ⟨wV_X7_begin, wL_X7_begin⟩ wM_X8_172 (gCX7 _ _ _ _ _) rfl (A_67 hw) rfl ⟨le_t rfl, le_t rfl⟩ ⟨le_t rfl, le_t rfl⟩ rfl (le_t rfl) fun μ634 T635 F636 h637 => ?_
  refine sv_aload_n (pc := 44) dX8_look_44 rfl rfl ?_
  refine gf_X8_6 (pc := 45) dX8_look_45 wF_X8_42 (A_32 hw) T635 ?_
  refine mr_astore (pc := 48) (lv' := [(4, .ref 67), (5, iv (-99999999)), (3, .ref b1), (0, .ref 32), (1, iv p1), (2, iv p2)]) dX8_look_48 (by decide) rfl ?_
  refine mr_bipush (pc := 50) (z := (-4)) dX8_look_50 (by decide) ?_
  refine mr_istore (pc := 52) (lv' := [(5, iv (-4)), (4, .ref 67), (3, .ref b1), (0, .ref 32), (1, iv p1), (2, iv p2)]) dX8_look_52 (by decide) rfl ?_
  refine sv_goto (pc := 54) (tgt := 106) dX8_look_54 (by decide) ?_
  refine mr_lvS (lv' := [(0, .ref 32), (1, iv p1), (2, iv p2), (3, .ref b1), (4, .ref 67), (5, iv (-4))]) (List.forall_mem_cons.mpr ⟨rfl, List.forall_mem_cons.mpr ⟨rfl, List.forall_mem_cons.mpr ⟨rfl, List.forall_mem_cons.mpr ⟨rfl, List.forall_mem_cons.mpr ⟨rfl, List.forall_mem_cons.mpr ⟨rfl, fun _ h => absurd h List.not_mem_nil⟩⟩⟩⟩⟩⟩) ?_
  exact J63 (-4) 67 μ634 (A_67 hw) T635 (mF.call mF.refl F636 rfl) (rW (c := (-99999999)) (d := 19) (rR (x := (-4))) rfl) vc_X8_look_W_37 vc_X12_look_W_88 (PC.keep hIPC hw ((mF.call mF.refl F636 rfl) : mF [200002, 200003, 200004, 200005, 200006, 200007, 200008] w μ μ634) rfl) (h637.1 T635 F636)
def WL_X8_candidateOver_W_1 (w : mW) (μ : mM) (p1 : Int) (Q : Int → mM → Prop) (rec1 : (Int) → Prop) (s : (Int)) : Prop := ∀ z91 : Int, s = (z91) → (0 ≤ z91 ∧ z91 ≤ 10) → ∀ z100 : Int, μ 32 9 = z100 → (0 ≤ z100 ∧ z100 ≤ 10 ∧ (z100 = 0 ∨ 0 < w.2.2.2 1)) → ((z100 ≤ z91) → Q ((-1) : Int) μ) ∧ ((z91 < z100) → ∀ b107 : Nat, μ 35 (z91.toNat) = (b107 : Int) → mAt w b107 200 → ∀ z110 : Int, μ b107 10 = z110 → (0 ≤ z110 ∧ z110 ≤ 19 ∧ (z110 = 0 ∨ z110 < w.2.2.2 1)) → ((¬ z110 = p1) → rec1 ((z91 + 1))) ∧ ((z110 = p1) → Q z91 μ))
def WP_X8_candidateOver_W (w : mW) (μ : mM) (p1 : Int) (Q : Int → mM → Prop) : Prop := loopF (WL_X8_candidateOver_W_1 w μ p1 Q) False 12 ((0 : Int))
theorem vc_X8_candidateOver_W_5 {n1 p1 z110 : Int} (h0 : z110 = p1) (h1 : (z110 = 0 ∨ z110 < n1)) (h2 : (-2147483648) ≤ p1 ∧ p1 ≤ 2147483647) (h3 : 0 ≤ z110 ∧ z110 ≤ 19) : 0 ≤ p1 ∧ p1 ≤ 19 := by omega
set_option maxRecDepth 4000 in
set_option maxHeartbeats 4000000 in
theorem c_X8_candidateOver_W {l : Launch} {D : va_G} {c : Nat → ClassId} {H0 : Heap} {sa : Nat × Nat × (Nat → Int32)} {w : mW} {μ : mM} (hw : mWF w) (hT : mT w μ) {p1 : Int} (hp1 : (-2147483648) ≤ p1 ∧ p1 ≤ 2147483647) {Q : Int → mM → Prop} (hQ : WP_X8_candidateOver_W w μ p1 Q) : sC (gG l D c H0 sa) mX8_candidateOver 1 0 0 [.ref 32, iv p1] (mk w μ) (qP w μ (fun z => ((-1) ≤ z ∧ z ≤ 9) ∧ Q z μ ∧ True)) := by
  refine sC.of rfl (by decide) (le_t rfl) ?_
  refine mr_lvE (lv' := [(0, .ref 32), (1, iv p1)]) rfl ?_
  refine mr_iconst (pc := 0) (z := 0) dX8_candidateOver_0 ?_
  refine mr_istore_n (pc := 1) (lv' := [(2, iv 0), (0, .ref 32), (1, iv p1)]) dX8_candidateOver_1 rfl (by decide) rfl ?_
  have L92 : ∀ (nL92 : Nat) (z91 : Int), True → (0 ≤ z91 ∧ z91 ≤ 10) → (11 - z91) < (nL92 : Int) → loopF (WL_X8_candidateOver_W_1 w μ p1 Q) False nL92 (z91) → sV (gG l D c H0 sa) mX8_candidateOver (sRm 1 0 0) (sZ (gG l D c H0 sa) 0 0 (qP w μ (fun z => ((-1) ≤ z ∧ z ≤ 9) ∧ Q z μ ∧ True))) 2 [(0, .ref 32), (1, iv p1), (2, iv z91)] [] (mk w μ) 0 0 := by
    intro nL92
    induction nL92 with
    | zero => intro z91 _ h93 h97 W98; exact ((vc_X12_ring_2 h97 h93)).elim
    | succ nL92 ih99 =>
      intro z91 _ h93 h97 W98
      refine mr_iload_n (pc := 2) (z := z91) dX8_candidateOver_2 rfl rfl ?_
      refine sv_aload_n (pc := 3) dX8_candidateOver_3 rfl rfl ?_
      refine gf_X8_9 (pc := 4) dX8_candidateOver_4 wF_X8_200 (A_32 hw) hT fun z100 q101 h102 => ?_
      have h103 : 0 ≤ z100 ∧ z100 ≤ 10 := ⟨h102.1, h102.2.1⟩
      refine mr_icmp_ge (pc := 7) (tgt := 31) dX8_candidateOver_7 (by decide) (r32 h93 rfl) (r32 h103 rfl) (fun h104 => ?_) (fun h104 => ?_)
      · refine mr_iconst (pc := 31) (z := (-1)) dX8_candidateOver_31 ?_
        exact mr_iretP dX8_candidateOver_32 rfl (le_t rfl) (le_t rfl) ⟨(rW (c := (-1)) (d := 9) (rR (x := (-1))) rfl), (((W98 z91 rfl h93) z100 q101 h102).1 h104), trivial⟩
      have h105 : 0 ≤ z91 ∧ z91 ≤ 9 := (vc_X8_pickPlain_W_3 h104 h102.2.2 h103 h93)
      have h106 : 1 ≤ z100 ∧ z100 ≤ 10 := (vc_X8_pickPlain_W_4 h104 h102.2.2 h103 h105)
      refine sv_aload_n (pc := 10) dX8_candidateOver_10 rfl rfl ?_
      refine gf_X8_4 (pc := 11) dX8_candidateOver_11 wF_X8_34 (A_32 hw) hT ?_
      refine mr_iload_n (pc := 14) (z := z91) dX8_candidateOver_14 rfl rfl ?_
      refine la_35 (pc := 15) dX8_candidateOver_15 (A_35 hw) hT (rIx (n := 10) h105 rfl) fun b107 q108 A109 => ?_
      refine gf_X7_10 (pc := 16) dX8_candidateOver_16 wF_X8_188 A109 hT fun z110 q111 h112 => ?_
      have h113 : 0 ≤ z110 ∧ z110 ≤ 19 := ⟨h112.1, h112.2.1⟩
      refine mr_iload_n (pc := 19) (z := p1) dX8_candidateOver_19 rfl rfl ?_
      refine mr_icmp_ne (pc := 20) (tgt := 25) dX8_candidateOver_20 (by decide) (r32 h113 rfl) hp1 (fun h114 => ?_) (fun h114 => ?_)
      · refine mr_iinc (pc := 25) (lv' := [(2, iv (z91 + 1)), (0, .ref 32), (1, iv p1)]) dX8_candidateOver_25 rfl (by decide) rfl ?_
        refine sv_goto (pc := 28) (tgt := 2) dX8_candidateOver_28 (by decide) ?_
        refine mr_lvS (lv' := [(0, .ref 32), (1, iv p1), (2, iv (z91 + 1))]) (List.forall_mem_cons.mpr ⟨rfl, List.forall_mem_cons.mpr ⟨rfl, List.forall_mem_cons.mpr ⟨rfl, fun _ h => absurd h List.not_mem_nil⟩⟩⟩) ?_
        exact ih99 (z91 + 1) trivial (rW (c := 0) (d := 10) (rAdd (e := 1) (f := 10) h105 (rR (x := 1)) rfl) rfl) (vc_X8_pickPlain_W_5 (nS h97) h104 h102.2.2 h106 h105) ((((((W98 z91 rfl h93) z100 q101 h102).2 h104) b107 q108 A109) z110 q111 h112).1 h114)
      have h115 : 0 ≤ p1 ∧ p1 ≤ 19 := (vc_X8_candidateOver_W_5 h114 h112.2.2 hp1 h113)
      refine mr_iload_n (pc := 23) (z := z91) dX8_candidateOver_23 rfl rfl ?_
      exact mr_iretP dX8_candidateOver_24 rfl (le_t rfl) (le_t rfl) ⟨(rW (c := (-1)) (d := 9) h105 rfl), ((((((W98 z91 rfl h93) z100 q101 h102).2 h104) b107 q108 A109) z110 q111 h112).2 h114), trivial⟩
  refine mr_lvS (lv' := [(0, .ref 32), (1, iv p1), (2, iv 0)]) (List.forall_mem_cons.mpr ⟨rfl, List.forall_mem_cons.mpr ⟨rfl, List.forall_mem_cons.mpr ⟨rfl, fun _ h => absurd h List.not_mem_nil⟩⟩⟩) ?_
  exact L92 12 0 trivial (rW (c := 0) (d := 10) (rR (x := 0)) rfl) vc_X12_ring_27 hQ
def WL_X0_firstUnlikeStep_W_1 (w : mW) (μ : mM) (a0 : Nat) (a1 : Nat) (a2 : Nat) (Q : Int → mM → Prop) (rec1 : (Int) → Prop) (s : (Int)) : Prop := ∀ z69 : Int, s = (z69) → (0 ≤ z69 ∧ z69 ≤ 6) → ∀ z78 : Int, μ a0 4 = z78 → (0 ≤ z78 ∧ z78 ≤ 6) → ((z78 ≤ z69) → Q (7 : Int) μ) ∧ ((z69 < z78) → ∀ z85 : Int, μ (a0 + 1) (z69.toNat) = z85 → (0 ≤ z85 ∧ z85 ≤ 9) → WP_X0_compareAt_W w μ z85 a1 a2 (fun z92 _ => ((-1) ≤ z92 ∧ z92 ≤ 1) → ((z92 = 0) → rec1 ((z69 + 1))) ∧ ((¬ z92 = 0) → Q z85 μ)))
def WP_X0_firstUnlikeStep_W (w : mW) (μ : mM) (a0 : Nat) (a1 : Nat) (a2 : Nat) (Q : Int → mM → Prop) : Prop := loopF (WL_X0_firstUnlikeStep_W_1 w μ a0 a1 a2 Q) False 8 ((0 : Int))
set_option maxRecDepth 4000 in
set_option maxHeartbeats 4000000 in
theorem c_X0_firstUnlikeStep_W {l : Launch} {D : va_G} {c : Nat → ClassId} {H0 : Heap} {sa : Nat × Nat × (Nat → Int32)} {w : mW} {μ : mM} (hw : mWF w) (hT : mT w μ) {a0 : Nat} (hA0 : mAt w a0 210) {a1 : Nat} (hA1 : mAt w a1 200) {a2 : Nat} (hA2 : mAt w a2 200) {Q : Int → mM → Prop} (hQ : WP_X0_firstUnlikeStep_W w μ a0 a1 a2 Q) : sC (gG l D c H0 sa) mX0_firstUnlikeStep 3 0 0 [.ref a0, .ref a1, .ref a2] (mk w μ) (qP w μ (fun z => ((-2147483648) ≤ z ∧ z ≤ 2147483647) ∧ Q z μ ∧ True)) := by
  refine sC.of rfl (by decide) (le_t rfl) ?_
  refine mr_lvE (lv' := [(0, .ref a0), (1, .ref a1), (2, .ref a2)]) rfl ?_
  refine mr_iconst (pc := 0) (z := 0) dX0_firstUnlikeStep_0 ?_
  refine mr_istore_n (pc := 1) (lv' := [(3, iv 0), (0, .ref a0), (1, .ref a1), (2, .ref a2)]) dX0_firstUnlikeStep_1 rfl (by decide) rfl ?_
  have L70 : ∀ (nL70 : Nat) (z69 : Int), True → (0 ≤ z69 ∧ z69 ≤ 6) → (7 - z69) < (nL70 : Int) → loopF (WL_X0_firstUnlikeStep_W_1 w μ a0 a1 a2 Q) False nL70 (z69) → sV (gG l D c H0 sa) mX0_firstUnlikeStep (sRm 3 0 0) (sZ (gG l D c H0 sa) 0 0 (qP w μ (fun z => ((-2147483648) ≤ z ∧ z ≤ 2147483647) ∧ Q z μ ∧ True))) 2 [(0, .ref a0), (1, .ref a1), (2, .ref a2), (3, iv z69)] [] (mk w μ) 0 0 := by
    intro nL70
    induction nL70 with
    | zero => intro z69 _ h71 h75 W76; exact ((vc_X12_wish_49 h75 h71)).elim
    | succ nL70 ih77 =>
      intro z69 _ h71 h75 W76
      refine mr_iload_n (pc := 2) (z := z69) dX0_firstUnlikeStep_2 rfl rfl ?_
      refine sv_aload_n (pc := 3) dX0_firstUnlikeStep_3 rfl rfl ?_
      refine gf_X0_4 (pc := 4) dX0_firstUnlikeStep_4 wF_X0_37 hA0 hT fun z78 q79 h80 => ?_
      refine mr_icmp_ge (pc := 7) (tgt := 37) dX0_firstUnlikeStep_7 (by decide) (r32 h71 rfl) (r32 h80 rfl) (fun h81 => ?_) (fun h81 => ?_)
      · refine mr_bipush (pc := 37) (z := 7) dX0_firstUnlikeStep_37 (by decide) ?_
        exact mr_iretP dX0_firstUnlikeStep_39 rfl (le_t rfl) (le_t rfl) ⟨(rW (c := (-2147483648)) (d := 2147483647) (rR (x := 7)) rfl), (((W76 z69 rfl h71) z78 q79 h80).1 h81), trivial⟩
      have h82 : 0 ≤ z69 ∧ z69 ≤ 5 := (vc_X0_prefers_W_4 h81 h71 h80)
      have h83 : 1 ≤ z78 ∧ z78 ≤ 6 := (vc_X0_prefers_W_5 h81 h82 h80)
      refine sv_aload_n (pc := 10) dX0_firstUnlikeStep_10 rfl rfl ?_
      refine gf_X0_0 (pc := 11) dX0_firstUnlikeStep_11 wF_X0_9 hA0 hT fun A84 => ?_
      refine mr_iload_n (pc := 14) (z := z69) dX0_firstUnlikeStep_14 rfl rfl ?_
      refine la_211 (pc := 15) dX0_firstUnlikeStep_15 A84 hT (rIx (n := 6) h82 rfl) fun z85 q86 h87 => ?_
      refine sv_aload_n (pc := 16) dX0_firstUnlikeStep_16 rfl rfl ?_
      refine sv_aload_n (pc := 17) dX0_firstUnlikeStep_17 rfl rfl ?_
      refine mr_cSP (pc := 18) (c_X0_compareAt_W hw hT (rW (c := (-2147483648)) (d := 2147483647) h87 rfl) hA1 hA2 ((((W76 z69 rfl h71) z78 q79 h80).2 h81) z85 q86 h87)) (gOk _ _ _ _ _) dX0_firstUnlikeStep_18 (tX0_compareAt _ _ _ _ _) wS_X0_compareAt wM_X0_41 ⟨le_t rfl, le_t rfl⟩ ⟨le_t rfl, le_t rfl⟩ rfl (le_t rfl) fun z92 h91 => ?_
      refine mr_if_eq (pc := 21) (tgt := 31) dX0_firstUnlikeStep_21 (by decide) (r32 h91.1 rfl) (fun h93 => ?_) (fun h93 => ?_)
      · have h94 : 0 ≤ z92 ∧ z92 ≤ 0 := (vc_X12_waysMatch_5 h93 h91.1)
        refine mr_iinc (pc := 31) (lv' := [(3, iv (z69 + 1)), (0, .ref a0), (1, .ref a1), (2, .ref a2)]) dX0_firstUnlikeStep_31 rfl (by decide) rfl ?_
        refine sv_goto (pc := 34) (tgt := 2) dX0_firstUnlikeStep_34 (by decide) ?_
        refine mr_lvS (lv' := [(0, .ref a0), (1, .ref a1), (2, .ref a2), (3, iv (z69 + 1))]) (List.forall_mem_cons.mpr ⟨rfl, List.forall_mem_cons.mpr ⟨rfl, List.forall_mem_cons.mpr ⟨rfl, List.forall_mem_cons.mpr ⟨rfl, fun _ h => absurd h List.not_mem_nil⟩⟩⟩⟩) ?_
        exact ih77 (z69 + 1) trivial (rW (c := 0) (d := 6) (rAdd (e := 1) (f := 6) h82 (rR (x := 1)) rfl) rfl) (vc_X0_prefers_W_7 (nS h75) h81 h82 h83) ((h91.2.1 h91.1).1 h93)
      refine sv_aload_n (pc := 24) dX0_firstUnlikeStep_24 rfl rfl ?_
      refine gf_X0_0 (pc := 25) dX0_firstUnlikeStep_25 wF_X0_9 hA0 hT fun A95 => ?_
      refine mr_iload_n (pc := 28) (z := z69) dX0_firstUnlikeStep_28 rfl rfl ?_
      refine lk_211 (pc := 29) dX0_firstUnlikeStep_29 A95 (rIx (n := 6) h82 rfl) q86 ?_
      exact mr_iretP dX0_firstUnlikeStep_30 rfl (le_t rfl) (le_t rfl) ⟨(rW (c := (-2147483648)) (d := 2147483647) h87 rfl), ((h91.2.1 h91.1).2 h93), trivial⟩
  refine mr_lvS (lv' := [(0, .ref a0), (1, .ref a1), (2, .ref a2), (3, iv 0)]) (List.forall_mem_cons.mpr ⟨rfl, List.forall_mem_cons.mpr ⟨rfl, List.forall_mem_cons.mpr ⟨rfl, List.forall_mem_cons.mpr ⟨rfl, fun _ h => absurd h List.not_mem_nil⟩⟩⟩⟩) ?_
  exact L70 8 0 trivial (rW (c := 0) (d := 6) (rR (x := 0)) rfl) vc_X12_wish_56 hQ
def WL_X8_lookAtAll_W_1 (w : mW) (μ : mM) (p1 : Int) (Q : mM → Prop) (rec1 : (Int × mM) → Prop) (s : (Int × mM)) : Prop := ∀ z67 : Int, ∀ μ68 : mM, s = (z67, μ68) → (0 ≤ z67 ∧ z67 ≤ 10) → mT w μ68 → mF [21002, 21003, 21004, 21005, 21006, 21007, 32009, 32010, 33999, 34999, 66999, 200002, 200003, 200004, 200005, 200006, 200007, 200008, 200009, 200010, 200011, 201999, 202999, 213999] w μ μ68 → ∀ z78 : Int, μ68 6 14 = z78 → (0 ≤ z78 ∧ z78 ≤ 10) → ((z78 ≤ z67) → Q μ68) ∧ ((z67 < z78) → WP_X8_look_W w μ68 p1 z67 (fun μ90 => mT w μ90 → mF [21002, 21003, 21004, 21005, 21006, 21007, 32009, 32010, 33999, 34999, 66999, 200002, 200003, 200004, 200005, 200006, 200007, 200008, 200009, 200010, 200011, 201999, 202999, 213999] w μ68 μ90 → rec1 ((z67 + 1), μ90)))
def WP_X8_lookAtAll_W (w : mW) (μ : mM) (p1 : Int) (Q : mM → Prop) : Prop := loopF (WL_X8_lookAtAll_W_1 w μ p1 Q) False 12 ((0 : Int), μ)
set_option maxRecDepth 4000 in
set_option maxHeartbeats 4000000 in
theorem c_X8_lookAtAll_W {l : Launch} {D : va_G} {c : Nat → ClassId} {H0 : Heap} {sa : Nat × Nat × (Nat → Int32)} {w : mW} {μ : mM} (hw : mWF w) (hT : mT w μ) {p1 : Int} (hp1 : 0 ≤ p1 ∧ p1 ≤ 9) (hq0 : p1 < w.2.2.2 0) (hIPC : PC w μ) {Q : mM → Prop} (hQ : WP_X8_lookAtAll_W w μ p1 Q) : sC (gG l D c H0 sa) mX8_lookAtAll 43 0 0 [.ref 32, iv p1] (mk w μ) (qV w [21002, 21003, 21004, 21005, 21006, 21007, 32009, 32010, 33999, 34999, 66999, 200002, 200003, 200004, 200005, 200006, 200007, 200008, 200009, 200010, 200011, 201999, 202999, 213999] μ (fun μ1 => Q μ1 ∧ True)) := by
  refine sC.of rfl (by decide) (le_t rfl) ?_
  refine mr_lvE (lv' := [(0, .ref 32), (1, iv p1)]) rfl ?_
  refine mr_iconst (pc := 0) (z := 0) dX8_lookAtAll_0 ?_
  refine mr_istore_n (pc := 1) (lv' := [(2, iv 0), (0, .ref 32), (1, iv p1)]) dX8_lookAtAll_1 rfl (by decide) rfl ?_
  have L69 : ∀ (nL69 : Nat) (z67 : Int) (μ68 : mM), mT w μ68 → mF [21002, 21003, 21004, 21005, 21006, 21007, 32009, 32010, 33999, 34999, 66999, 200002, 200003, 200004, 200005, 200006, 200007, 200008, 200009, 200010, 200011, 201999, 202999, 213999] w μ μ68 → (0 ≤ z67 ∧ z67 ≤ 10) → PC w μ68 → (11 - z67) < (nL69 : Int) → loopF (WL_X8_lookAtAll_W_1 w μ p1 Q) False nL69 (z67, μ68) → sV (gG l D c H0 sa) mX8_lookAtAll (sRm 43 0 0) (sZ (gG l D c H0 sa) 0 0 (qV w [21002, 21003, 21004, 21005, 21006, 21007, 32009, 32010, 33999, 34999, 66999, 200002, 200003, 200004, 200005, 200006, 200007, 200008, 200009, 200010, 200011, 201999, 202999, 213999] μ (fun μ1 => Q μ1 ∧ True))) 2 [(0, .ref 32), (1, iv p1), (2, iv z67)] [] (mk w μ68) 0 0 := by
    intro nL69
    induction nL69 with
    | zero => intro z67 μ68 T71 F72 h70 I74 h75 W76; exact ((vc_X12_ring_2 h75 h70)).elim
    | succ nL69 ih77 =>
      intro z67 μ68 T71 F72 h70 I74 h75 W76
      refine mr_iload_n (pc := 2) (z := z67) dX8_lookAtAll_2 rfl rfl ?_
      refine sv_aload_n (pc := 3) dX8_lookAtAll_3 rfl rfl ?_
      refine gf_X8_0 (pc := 4) dX8_lookAtAll_4 wF_X8_9 (A_32 hw) T71 ?_
      refine gf_X10_14 (pc := 7) dX8_lookAtAll_7 wF_X8_150 (A_6 hw) T71 fun z78 q79 h80 => ?_
      refine mr_icmp_ge (pc := 10) (tgt := 25) dX8_lookAtAll_10 (by decide) (r32 h70 rfl) (r32 h80 rfl) (fun h87 => ?_) (fun h87 => ?_)
      · exact mr_vret dX8_lookAtAll_25 rfl (le_t rfl) (le_t rfl) T71 (mF.call mF.refl F72 rfl) ⟨(((W76 z67 μ68 rfl h70 T71 F72) z78 q79 h80).1 h87), trivial⟩
      have h88 : 0 ≤ z67 ∧ z67 ≤ 9 := (vc_X12_ring_3 h87 h70 h80)
      have h89 : 1 ≤ z78 ∧ z78 ≤ 10 := (vc_X12_ring_4 h87 h88 h80)
      refine sv_aload_n (pc := 13) dX8_lookAtAll_13 rfl rfl ?_
      refine mr_iload_n (pc := 14) (z := p1) dX8_lookAtAll_14 rfl rfl ?_
      refine mr_iload_n (pc := 15) (z := z67) dX8_lookAtAll_15 rfl rfl ?_
      refine mr_cVV (pc := 16) (c_X8_look_W hw T71 hp1 h88 (vc_X9_end_1 hq0 hp1) I74 (((W76 z67 μ68 rfl h70 T71 F72) z78 q79 h80).2 h87)) (gOk _ _ _ _ _) dX8_lookAtAll_16 (tX8_look _ _ _ _ _) ⟨wV_X8_look, wL_X8_look⟩ wM_X8_92 (gCX8 _ _ _ _ _) rfl (A_32 hw) rfl ⟨le_t rfl, le_t rfl⟩ ⟨le_t rfl, le_t rfl⟩ rfl (le_t rfl) fun μ90 T91 F92 h93 => ?_
      refine mr_iinc (pc := 19) (lv' := [(2, iv (z67 + 1)), (0, .ref 32), (1, iv p1)]) dX8_lookAtAll_19 rfl (by decide) rfl ?_
      refine sv_goto (pc := 22) (tgt := 2) dX8_lookAtAll_22 (by decide) ?_
      refine mr_lvS (lv' := [(0, .ref 32), (1, iv p1), (2, iv (z67 + 1))]) (List.forall_mem_cons.mpr ⟨rfl, List.forall_mem_cons.mpr ⟨rfl, List.forall_mem_cons.mpr ⟨rfl, fun _ h => absurd h List.not_mem_nil⟩⟩⟩) ?_
      exact ih77 (z67 + 1) μ90 T91 (mF.call (mF.call mF.refl F72 rfl) F92 rfl) (rW (c := 0) (d := 10) (rAdd (e := 1) (f := 10) h88 (rR (x := 1)) rfl) rfl) (PC.keep I74 hw ((mF.call mF.refl F92 rfl) : mF [21002, 21003, 21004, 21005, 21006, 21007, 32009, 32010, 33999, 34999, 66999, 200002, 200003, 200004, 200005, 200006, 200007, 200008, 200009, 200010, 200011, 201999, 202999, 213999] w μ68 μ90) rfl) (vc_X12_sends_11 (nS h75) h87 h88 h89) (h93.1 T91 F92)
  refine mr_lvS (lv' := [(0, .ref 32), (1, iv p1), (2, iv 0)]) (List.forall_mem_cons.mpr ⟨rfl, List.forall_mem_cons.mpr ⟨rfl, List.forall_mem_cons.mpr ⟨rfl, fun _ h => absurd h List.not_mem_nil⟩⟩⟩) ?_
  exact L69 12 0 μ hT mF.refl (rW (c := 0) (d := 10) (rR (x := 0)) rfl) hIPC vc_X12_ring_27 hQ
def WL_X8_sayAll_W_1 (w : mW) (μ : mM) (p1 : Int) (p2 : Int) (Q : mM → Prop) (rec1 : (Int × mM) → Prop) (s : (Int × mM)) : Prop := ∀ z67 : Int, ∀ μ68 : mM, s = (z67, μ68) → (0 ≤ z67 ∧ z67 ≤ 10) → mT w μ68 → mF [21002, 21003, 21004, 21005, 21006, 21007, 32010, 33999, 34999, 200002, 200003, 200004, 200005, 200006, 200007, 200008, 200009, 201999, 202999] w μ μ68 → ∀ z78 : Int, μ68 6 14 = z78 → (0 ≤ z78 ∧ z78 ≤ 10) → ((z78 ≤ z67) → Q μ68) ∧ ((z67 < z78) → WP_X8_say_W w μ68 p1 p2 z67 (fun μ90 => mT w μ90 → mF [21002, 21003, 21004, 21005, 21006, 21007, 32010, 33999, 34999, 200002, 200003, 200004, 200005, 200006, 200007, 200008, 200009, 201999, 202999] w μ68 μ90 → rec1 ((z67 + 1), μ90)))
def WP_X8_sayAll_W (w : mW) (μ : mM) (p1 : Int) (p2 : Int) (Q : mM → Prop) : Prop := loopF (WL_X8_sayAll_W_1 w μ p1 p2 Q) False 12 ((0 : Int), μ)
set_option maxRecDepth 4000 in
set_option maxHeartbeats 4000000 in
theorem c_X8_sayAll_W {l : Launch} {D : va_G} {c : Nat → ClassId} {H0 : Heap} {sa : Nat × Nat × (Nat → Int32)} {w : mW} {μ : mM} (hw : mWF w) (hT : mT w μ) {p1 : Int} (hp1 : 0 ≤ p1 ∧ p1 ≤ 19) {p2 : Int} (hp2 : 0 ≤ p2 ∧ p2 ≤ 1) (hq0 : p1 < w.2.2.2 1) (hIPC : PC w μ) {Q : mM → Prop} (hQ : WP_X8_sayAll_W w μ p1 p2 Q) : sC (gG l D c H0 sa) mX8_sayAll 42 0 0 [.ref 32, iv p1, iv p2] (mk w μ) (qV w [21002, 21003, 21004, 21005, 21006, 21007, 32010, 33999, 34999, 200002, 200003, 200004, 200005, 200006, 200007, 200008, 200009, 201999, 202999] μ (fun μ1 => Q μ1 ∧ True)) := by
  refine sC.of rfl (by decide) (le_t rfl) ?_
  refine mr_lvE (lv' := [(0, .ref 32), (1, iv p1), (2, iv p2)]) rfl ?_
  refine mr_iconst (pc := 0) (z := 0) dX8_sayAll_0 ?_
  refine mr_istore_n (pc := 1) (lv' := [(3, iv 0), (0, .ref 32), (1, iv p1), (2, iv p2)]) dX8_sayAll_1 rfl (by decide) rfl ?_
  have L69 : ∀ (nL69 : Nat) (z67 : Int) (μ68 : mM), mT w μ68 → mF [21002, 21003, 21004, 21005, 21006, 21007, 32010, 33999, 34999, 200002, 200003, 200004, 200005, 200006, 200007, 200008, 200009, 201999, 202999] w μ μ68 → (0 ≤ z67 ∧ z67 ≤ 10) → PC w μ68 → (11 - z67) < (nL69 : Int) → loopF (WL_X8_sayAll_W_1 w μ p1 p2 Q) False nL69 (z67, μ68) → sV (gG l D c H0 sa) mX8_sayAll (sRm 42 0 0) (sZ (gG l D c H0 sa) 0 0 (qV w [21002, 21003, 21004, 21005, 21006, 21007, 32010, 33999, 34999, 200002, 200003, 200004, 200005, 200006, 200007, 200008, 200009, 201999, 202999] μ (fun μ1 => Q μ1 ∧ True))) 2 [(0, .ref 32), (1, iv p1), (2, iv p2), (3, iv z67)] [] (mk w μ68) 0 0 := by
    intro nL69
    induction nL69 with
    | zero => intro z67 μ68 T71 F72 h70 I74 h75 W76; exact ((vc_X12_ring_2 h75 h70)).elim
    | succ nL69 ih77 =>
      intro z67 μ68 T71 F72 h70 I74 h75 W76
      refine mr_iload_n (pc := 2) (z := z67) dX8_sayAll_2 rfl rfl ?_
      refine sv_aload_n (pc := 3) dX8_sayAll_3 rfl rfl ?_
      refine gf_X8_0 (pc := 4) dX8_sayAll_4 wF_X8_9 (A_32 hw) T71 ?_
      refine gf_X10_14 (pc := 7) dX8_sayAll_7 wF_X8_150 (A_6 hw) T71 fun z78 q79 h80 => ?_
      refine mr_icmp_ge (pc := 10) (tgt := 26) dX8_sayAll_10 (by decide) (r32 h70 rfl) (r32 h80 rfl) (fun h87 => ?_) (fun h87 => ?_)
      · exact mr_vret dX8_sayAll_26 rfl (le_t rfl) (le_t rfl) T71 (mF.call mF.refl F72 rfl) ⟨(((W76 z67 μ68 rfl h70 T71 F72) z78 q79 h80).1 h87), trivial⟩
      have h88 : 0 ≤ z67 ∧ z67 ≤ 9 := (vc_X12_ring_3 h87 h70 h80)
      have h89 : 1 ≤ z78 ∧ z78 ≤ 10 := (vc_X12_ring_4 h87 h88 h80)
      refine sv_aload_n (pc := 13) dX8_sayAll_13 rfl rfl ?_
      refine mr_iload_n (pc := 14) (z := p1) dX8_sayAll_14 rfl rfl ?_
      refine mr_iload_n (pc := 15) (z := p2) dX8_sayAll_15 rfl rfl ?_
      refine mr_iload_n (pc := 16) (z := z67) dX8_sayAll_16 rfl rfl ?_
      refine mr_cVV (pc := 17) (c_X8_say_W hw T71 hp1 hp2 h88 (vc_X8_say_W_1 hq0 hp1) I74 (((W76 z67 μ68 rfl h70 T71 F72) z78 q79 h80).2 h87)) (gOk _ _ _ _ _) dX8_sayAll_17 (tX8_say _ _ _ _ _) ⟨wV_X8_say, wL_X8_say⟩ wM_X8_72 (gCX8 _ _ _ _ _) rfl (A_32 hw) rfl ⟨le_t rfl, le_t rfl⟩ ⟨le_t rfl, le_t rfl⟩ rfl (le_t rfl) fun μ90 T91 F92 h93 => ?_
      refine mr_iinc (pc := 20) (lv' := [(3, iv (z67 + 1)), (0, .ref 32), (1, iv p1), (2, iv p2)]) dX8_sayAll_20 rfl (by decide) rfl ?_
      refine sv_goto (pc := 23) (tgt := 2) dX8_sayAll_23 (by decide) ?_
      refine mr_lvS (lv' := [(0, .ref 32), (1, iv p1), (2, iv p2), (3, iv (z67 + 1))]) (List.forall_mem_cons.mpr ⟨rfl, List.forall_mem_cons.mpr ⟨rfl, List.forall_mem_cons.mpr ⟨rfl, List.forall_mem_cons.mpr ⟨rfl, fun _ h => absurd h List.not_mem_nil⟩⟩⟩⟩) ?_
      exact ih77 (z67 + 1) μ90 T91 (mF.call (mF.call mF.refl F72 rfl) F92 rfl) (rW (c := 0) (d := 10) (rAdd (e := 1) (f := 10) h88 (rR (x := 1)) rfl) rfl) (PC.keep I74 hw ((mF.call mF.refl F92 rfl) : mF [21002, 21003, 21004, 21005, 21006, 21007, 32010, 33999, 34999, 200002, 200003, 200004, 200005, 200006, 200007, 200008, 200009, 201999, 202999] w μ68 μ90) rfl) (vc_X12_sends_11 (nS h75) h87 h88 h89) (h93.1 T91 F92)
  refine mr_lvS (lv' := [(0, .ref 32), (1, iv p1), (2, iv p2), (3, iv 0)]) (List.forall_mem_cons.mpr ⟨rfl, List.forall_mem_cons.mpr ⟨rfl, List.forall_mem_cons.mpr ⟨rfl, List.forall_mem_cons.mpr ⟨rfl, fun _ h => absurd h List.not_mem_nil⟩⟩⟩⟩) ?_
  exact L69 12 0 μ hT mF.refl (rW (c := 0) (d := 10) (rR (x := 0)) rfl) hIPC vc_X12_ring_27 hQ
def WL_X8_tellAllAnew_W_3 (w : mW) (rec2 : (Int × mM) → Prop) (z1184 : Int) (μ1185 : mM) (rec3 : (Int × mM) → Prop) (s : (Int × mM)) : Prop := ∀ z1410 : Int, ∀ μ1411 : mM, s = (z1410, μ1411) → (0 ≤ z1410 ∧ z1410 ≤ 20) → mT w μ1411 → mF [21002, 21003, 21004, 21005, 21006, 21007, 32010, 33999, 34999, 200002, 200003, 200004, 200005, 200006, 200007, 200008, 200009, 201999, 202999] w μ1185 μ1411 → ∀ z1421 : Int, μ1411 6 16 = z1421 → (z1421 = w.2.2.2 1 ∧ 0 ≤ z1421 ∧ z1421 ≤ 20) → ((z1421 ≤ z1410) → rec2 ((z1184 + 1), μ1411)) ∧ ((z1410 < z1421) → ∀ b1443 : Nat, μ1411 11 (z1410.toNat) = (b1443 : Int) → mAt w b1443 220 → WP_X9_sideOf_W w μ1411 b1443 z1184 (fun z1450 _ => ((-1) ≤ z1450 ∧ z1450 ≤ 1) → ((z1450 < 0) → rec3 ((z1410 + 1), μ1411)) ∧ ((0 ≤ z1450) → WP_X8_sayAll_W w μ1411 z1410 z1450 (fun μ1460 => mT w μ1460 → mF [21002, 21003, 21004, 21005, 21006, 21007, 32010, 33999, 34999, 200002, 200003, 200004, 200005, 200006, 200007, 200008, 200009, 201999, 202999] w μ1411 μ1460 → rec3 ((z1410 + 1), μ1460)))))
def WL_X8_tellAllAnew_W_2 (w : mW) (Q : mM → Prop) (μ870 : mM) (z880 : Int) (rec2 : (Int × mM) → Prop) (s : (Int × mM)) : Prop := ∀ z1184 : Int, ∀ μ1185 : mM, s = (z1184, μ1185) → (0 ≤ z1184 ∧ z1184 ≤ 10) → mT w μ1185 → mF [21002, 21003, 21004, 21005, 21006, 21007, 32010, 33999, 34999, 200002, 200003, 200004, 200005, 200006, 200007, 200008, 200009, 201999, 202999] w μ870 μ1185 → ((z880 ≤ z1184) → Q μ1185) ∧ ((z1184 < z880) → loopF (WL_X8_tellAllAnew_W_3 w rec2 z1184 μ1185) False 22 ((0 : Int), μ1185))
def WL_X8_tellAllAnew_W_4 (w : mW) (rec1 : (Int × mM) → Prop) (z869 : Int) (μ870 : mM) (rec4 : (Int × mM) → Prop) (s : (Int × mM)) : Prop := ∀ z1532 : Int, ∀ μ1533 : mM, s = (z1532, μ1533) → (0 ≤ z1532 ∧ z1532 ≤ 10) → mT w μ1533 → mF [21002, 21003, 21004, 21005, 21006, 21007, 32009, 32010, 33999, 34999, 66999, 200002, 200003, 200004, 200005, 200006, 200007, 200008, 200009, 200010, 200011, 201999, 202999, 213999] w μ870 μ1533 → ∀ z1543 : Int, μ1533 6 14 = z1543 → (0 ≤ z1543 ∧ z1543 ≤ 10) → ((z1543 ≤ z1532) → rec1 ((z869 + 1), μ1533)) ∧ ((z1532 < z1543) → WP_X8_look_W w μ1533 z869 z1532 (fun μ1555 => mT w μ1555 → mF [21002, 21003, 21004, 21005, 21006, 21007, 32009, 32010, 33999, 34999, 66999, 200002, 200003, 200004, 200005, 200006, 200007, 200008, 200009, 200010, 200011, 201999, 202999, 213999] w μ1533 μ1555 → rec4 ((z1532 + 1), μ1555)))
def WL_X8_tellAllAnew_W_1 (w : mW) (μ : mM) (Q : mM → Prop) (rec1 : (Int × mM) → Prop) (s : (Int × mM)) : Prop := ∀ z869 : Int, ∀ μ870 : mM, s = (z869, μ870) → (0 ≤ z869 ∧ z869 ≤ 10) → mT w μ870 → mF [21002, 21003, 21004, 21005, 21006, 21007, 32009, 32010, 33999, 34999, 66999, 200002, 200003, 200004, 200005, 200006, 200007, 200008, 200009, 200010, 200011, 201999, 202999, 213999] w μ μ870 → ∀ z880 : Int, μ870 6 15 = z880 → (z880 = w.2.2.2 0 ∧ 0 ≤ z880 ∧ z880 ≤ 10) → ((z880 ≤ z869) → loopF (WL_X8_tellAllAnew_W_2 w Q μ870 z880) False 12 ((0 : Int), μ870)) ∧ ((z869 < z880) → loopF (WL_X8_tellAllAnew_W_4 w rec1 z869 μ870) False 12 ((0 : Int), μ870))
def WP_X8_tellAllAnew_W (w : mW) (μ : mM) (Q : mM → Prop) : Prop := loopF (WL_X8_tellAllAnew_W_1 w μ Q) False 12 ((0 : Int), μ)
theorem vc_X8_tellAllAnew_W_3 {n0 z1184 z869 z880 : Int} (h0 : z1184 < z880) (h1 : z880 = n0) (h2 : z880 ≤ z869) (h3 : 0 ≤ z1184 ∧ z1184 ≤ 10) (h4 : 0 ≤ z869 ∧ z869 ≤ 10) (h5 : 0 ≤ z880 ∧ z880 ≤ 10) : 0 ≤ z1184 ∧ z1184 ≤ 9 := by omega
theorem vc_X8_tellAllAnew_W_4 {n0 z1184 z869 z880 : Int} (h0 : z1184 < z880) (h1 : z880 = n0) (h2 : z880 ≤ z869) (h3 : 0 ≤ z1184 ∧ z1184 ≤ 9) (h4 : 0 ≤ z869 ∧ z869 ≤ 10) (h5 : 0 ≤ z880 ∧ z880 ≤ 10) : 1 ≤ z880 ∧ z880 ≤ 10 := by omega
theorem vc_X8_tellAllAnew_W_6 {N n0 z1184 z869 z880 : Int} (h0 : (11 - z1184) < N + 1) (h1 : z1184 < z880) (h2 : z880 = n0) (h3 : z880 ≤ z869) (h4 : 0 ≤ z1184 ∧ z1184 ≤ 9) (h5 : 0 ≤ z869 ∧ z869 ≤ 10) (h6 : 1 ≤ z880 ∧ z880 ≤ 10) : (11 - (z1184 + 1)) < N := by omega
theorem vc_X8_tellAllAnew_W_21 {n0 z869 z880 : Int} (h0 : z880 = n0) (h1 : z869 < z880) (h2 : 0 ≤ z869 ∧ z869 ≤ 9) (h3 : 1 ≤ z880 ∧ z880 ≤ 10) : z869 < n0 := by omega
set_option maxRecDepth 4000 in
set_option maxHeartbeats 4000000 in
theorem c_X8_tellAllAnew_W {l : Launch} {D : va_G} {c : Nat → ClassId} {H0 : Heap} {sa : Nat × Nat × (Nat → Int32)} {w : mW} {μ : mM} (hw : mWF w) (hT : mT w μ) (hIPC : PC w μ) {Q : mM → Prop} (hQ : WP_X8_tellAllAnew_W w μ  Q) : sC (gG l D c H0 sa) mX8_tellAllAnew 43 0 0 [.ref 32] (mk w μ) (qV w [21002, 21003, 21004, 21005, 21006, 21007, 32009, 32010, 33999, 34999, 66999, 200002, 200003, 200004, 200005, 200006, 200007, 200008, 200009, 200010, 200011, 201999, 202999, 213999] μ (fun μ1 => Q μ1 ∧ True)) := by
  refine sC.of rfl (by decide) (le_t rfl) ?_
  refine mr_lvE (lv' := [(0, .ref 32)]) rfl ?_
  refine mr_iconst (pc := 0) (z := 0) dX8_tellAllAnew_0 ?_
  refine mr_istore_n (pc := 1) (lv' := [(1, iv 0), (0, .ref 32)]) dX8_tellAllAnew_1 rfl (by decide) rfl ?_
  have L871 : ∀ (nL871 : Nat) (z869 : Int) (μ870 : mM), mT w μ870 → mF [21002, 21003, 21004, 21005, 21006, 21007, 32009, 32010, 33999, 34999, 66999, 200002, 200003, 200004, 200005, 200006, 200007, 200008, 200009, 200010, 200011, 201999, 202999, 213999] w μ μ870 → (0 ≤ z869 ∧ z869 ≤ 10) → PC w μ870 → (11 - z869) < (nL871 : Int) → loopF (WL_X8_tellAllAnew_W_1 w μ Q) False nL871 (z869, μ870) → sV (gG l D c H0 sa) mX8_tellAllAnew (sRm 43 0 0) (sZ (gG l D c H0 sa) 0 0 (qV w [21002, 21003, 21004, 21005, 21006, 21007, 32009, 32010, 33999, 34999, 66999, 200002, 200003, 200004, 200005, 200006, 200007, 200008, 200009, 200010, 200011, 201999, 202999, 213999] μ (fun μ1 => Q μ1 ∧ True))) 2 [(0, .ref 32), (1, iv z869)] [] (mk w μ870) 0 0 := by
    intro nL871
    induction nL871 with
    | zero => intro z869 μ870 T873 F874 h872 I876 h877 W878; exact ((vc_X12_ring_2 h877 h872)).elim
    | succ nL871 ih879 =>
      intro z869 μ870 T873 F874 h872 I876 h877 W878
      refine mr_iload_n (pc := 2) (z := z869) dX8_tellAllAnew_2 rfl rfl ?_
      refine sv_aload_n (pc := 3) dX8_tellAllAnew_3 rfl rfl ?_
      refine gf_X8_0 (pc := 4) dX8_tellAllAnew_4 wF_X8_9 (A_32 hw) T873 ?_
      refine gf_X10_15 (pc := 7) dX8_tellAllAnew_7 wF_X8_147 (A_6 hw) T873 fun z880 q881 h882 => ?_
      refine mr_icmp_ge (pc := 10) (tgt := 44) dX8_tellAllAnew_10 (by decide) (r32 h872 rfl) (r32 h882.2 rfl) (fun h907 => ?_) (fun h907 => ?_)
      · refine mr_iconst (pc := 44) (z := 0) dX8_tellAllAnew_44 ?_
        refine mr_istore_n (pc := 45) (lv' := [(1, iv 0), (0, .ref 32)]) dX8_tellAllAnew_45 rfl (by decide) rfl ?_
        have L1186 : ∀ (nL1186 : Nat) (z1184 : Int) (μ1185 : mM), mT w μ1185 → mF [21002, 21003, 21004, 21005, 21006, 21007, 32010, 33999, 34999, 200002, 200003, 200004, 200005, 200006, 200007, 200008, 200009, 201999, 202999] w μ870 μ1185 → (0 ≤ z1184 ∧ z1184 ≤ 10) → PC w μ1185 → (11 - z1184) < (nL1186 : Int) → loopF (WL_X8_tellAllAnew_W_2 w Q μ870 z880) False nL1186 (z1184, μ1185) → sV (gG l D c H0 sa) mX8_tellAllAnew (sRm 43 0 0) (sZ (gG l D c H0 sa) 0 0 (qV w [21002, 21003, 21004, 21005, 21006, 21007, 32009, 32010, 33999, 34999, 66999, 200002, 200003, 200004, 200005, 200006, 200007, 200008, 200009, 200010, 200011, 201999, 202999, 213999] μ (fun μ1 => Q μ1 ∧ True))) 46 [(0, .ref 32), (1, iv z1184)] [] (mk w μ1185) 0 0 := by
          intro nL1186
          induction nL1186 with
          | zero => intro z1184 μ1185 T1188 F1189 h1187 I1191 h1192 W1193; exact ((vc_X12_ring_2 h1192 h1187)).elim
          | succ nL1186 ih1194 =>
            intro z1184 μ1185 T1188 F1189 h1187 I1191 h1192 W1193
            refine mr_iload_n (pc := 46) (z := z1184) dX8_tellAllAnew_46 rfl rfl ?_
            refine sv_aload_n (pc := 47) dX8_tellAllAnew_47 rfl rfl ?_
            refine gf_X8_0 (pc := 48) dX8_tellAllAnew_48 wF_X8_9 (A_32 hw) T1188 ?_
            refine gk_X10_15 (pc := 51) dX8_tellAllAnew_51 wF_X8_147 (A_6 hw) (F1189.f (A_6 hw) rfl q881) ?_
            refine mr_icmp_ge (pc := 54) (tgt := 106) dX8_tellAllAnew_54 (by decide) (r32 h1187 rfl) (r32 h882.2 rfl) (fun h1239 => ?_) (fun h1239 => ?_)
            · exact mr_vret dX8_tellAllAnew_106 rfl (le_t rfl) (le_t rfl) T1188 (mF.call (mF.call mF.refl F874 rfl) F1189 rfl) ⟨((W1193 z1184 μ1185 rfl h1187 T1188 F1189).1 h1239), trivial⟩
            have h1240 : 0 ≤ z1184 ∧ z1184 ≤ 9 := (vc_X8_tellAllAnew_W_3 h1239 h882.1 h907 h1187 h872 h882.2)
            have h1241 : 1 ≤ z880 ∧ z880 ≤ 10 := (vc_X8_tellAllAnew_W_4 h1239 h882.1 h907 h1240 h872 h882.2)
            refine mr_iconst (pc := 57) (z := 0) dX8_tellAllAnew_57 ?_
            refine mr_istore_n (pc := 58) (lv' := [(2, iv 0), (0, .ref 32), (1, iv z1184)]) dX8_tellAllAnew_58 rfl (by decide) rfl ?_
            have L1412 : ∀ (nL1412 : Nat) (z1410 : Int) (μ1411 : mM), mT w μ1411 → mF [21002, 21003, 21004, 21005, 21006, 21007, 32010, 33999, 34999, 200002, 200003, 200004, 200005, 200006, 200007, 200008, 200009, 201999, 202999] w μ1185 μ1411 → (0 ≤ z1410 ∧ z1410 ≤ 20) → PC w μ1411 → (21 - z1410) < (nL1412 : Int) → loopF (WL_X8_tellAllAnew_W_3 w (loopF (WL_X8_tellAllAnew_W_2 w Q μ870 z880) False nL1186) z1184 μ1185) False nL1412 (z1410, μ1411) → sV (gG l D c H0 sa) mX8_tellAllAnew (sRm 43 0 0) (sZ (gG l D c H0 sa) 0 0 (qV w [21002, 21003, 21004, 21005, 21006, 21007, 32009, 32010, 33999, 34999, 66999, 200002, 200003, 200004, 200005, 200006, 200007, 200008, 200009, 200010, 200011, 201999, 202999, 213999] μ (fun μ1 => Q μ1 ∧ True))) 59 [(0, .ref 32), (1, iv z1184), (2, iv z1410)] [] (mk w μ1411) 0 0 := by
              intro nL1412
              induction nL1412 with
              | zero => intro z1410 μ1411 T1414 F1415 h1413 I1417 h1418 W1419; exact ((vc_X12_tieOf_1 h1418 h1413)).elim
              | succ nL1412 ih1420 =>
                intro z1410 μ1411 T1414 F1415 h1413 I1417 h1418 W1419
                refine mr_iload_n (pc := 59) (z := z1410) dX8_tellAllAnew_59 rfl rfl ?_
                refine sv_aload_n (pc := 60) dX8_tellAllAnew_60 rfl rfl ?_
                refine gf_X8_0 (pc := 61) dX8_tellAllAnew_61 wF_X8_9 (A_32 hw) T1414 ?_
                refine gf_X10_16 (pc := 64) dX8_tellAllAnew_64 wF_X8_153 (A_6 hw) T1414 fun z1421 q1422 h1423 => ?_
                refine mr_icmp_ge (pc := 67) (tgt := 100) dX8_tellAllAnew_67 (by decide) (r32 h1413 rfl) (r32 h1423.2 rfl) (fun h1440 => ?_) (fun h1440 => ?_)
                · refine mr_iinc (pc := 100) (lv' := [(1, iv (z1184 + 1)), (0, .ref 32), (2, iv z1410)]) dX8_tellAllAnew_100 rfl (by decide) rfl ?_
                  refine sv_goto (pc := 103) (tgt := 46) dX8_tellAllAnew_103 (by decide) ?_
                  refine mr_lvS (lv' := [(0, .ref 32), (1, iv (z1184 + 1))]) (List.forall_mem_cons.mpr ⟨rfl, List.forall_mem_cons.mpr ⟨rfl, fun _ h => absurd h List.not_mem_nil⟩⟩) ?_
                  exact ih1194 (z1184 + 1) μ1411 T1414 (mF.call (mF.call mF.refl F1189 rfl) F1415 rfl) (rW (c := 0) (d := 10) (rAdd (e := 1) (f := 10) h1240 (rR (x := 1)) rfl) rfl) I1417 (vc_X8_tellAllAnew_W_6 (nS h1192) h1239 h882.1 h907 h1240 h872 h1241) (((W1419 z1410 μ1411 rfl h1413 T1414 F1415) z1421 q1422 h1423).1 h1440)
                have h1441 : 0 ≤ z1410 ∧ z1410 ≤ 19 := (vc_X10_tieBetween_3 h1440 h1423.1 h1413 h1423.2)
                have h1442 : 1 ≤ z1421 ∧ z1421 ≤ 20 := (vc_X10_tieBetween_4 h1440 h1423.1 h1441 h1423.2)
                refine sv_aload_n (pc := 70) dX8_tellAllAnew_70 rfl rfl ?_
                refine gf_X8_0 (pc := 71) dX8_tellAllAnew_71 wF_X8_9 (A_32 hw) T1414 ?_
                refine gf_X10_4 (pc := 74) dX8_tellAllAnew_74 wF_X8_76 (A_6 hw) T1414 ?_
                refine mr_iload_n (pc := 77) (z := z1410) dX8_tellAllAnew_77 rfl rfl ?_
                refine la_11 (pc := 78) dX8_tellAllAnew_78 (A_11 hw) T1414 (rIx (n := 20) h1441 rfl) (vc_X10_tieBetween_5 h1423.1 h1440 h1441 h1442) fun b1443 q1444 A1445 => ?_
                refine mr_iload_n (pc := 79) (z := z1184) dX8_tellAllAnew_79 rfl rfl ?_
                refine mr_cVP (pc := 80) (c_X9_sideOf_W hw T1414 A1445 (rW (c := (-2147483648)) (d := 2147483647) h1240 rfl) ((((W1419 z1410 μ1411 rfl h1413 T1414 F1415) z1421 q1422 h1423).2 h1440) b1443 q1444 A1445)) (gOk _ _ _ _ _) dX8_tellAllAnew_80 (tX9_sideOf _ _ _ _ _) ⟨wV_X9_sideOf, wL_X9_sideOf⟩ wM_X8_156 (gCX9 _ _ _ _ _) rfl A1445 rfl ⟨le_t rfl, le_t rfl⟩ ⟨le_t rfl, le_t rfl⟩ rfl (le_t rfl) fun z1450 h1449 => ?_
                refine mr_istore_n (pc := 83) (lv' := [(3, iv z1450), (0, .ref 32), (1, iv z1184), (2, iv z1410)]) dX8_tellAllAnew_83 rfl (by decide) rfl ?_
                refine mr_iload_n (pc := 84) (z := z1450) dX8_tellAllAnew_84 rfl rfl ?_
                refine mr_if_lt (pc := 85) (tgt := 94) dX8_tellAllAnew_85 (by decide) (r32 h1449.1 rfl) (fun h1457 => ?_) (fun h1457 => ?_)
                · have h1458 : (-1) ≤ z1450 ∧ z1450 ≤ (-1) := (vc_X12_differ_33 h1457 h1449.1)
                  refine mr_iinc (pc := 94) (lv' := [(2, iv (z1410 + 1)), (3, iv z1450), (0, .ref 32), (1, iv z1184)]) dX8_tellAllAnew_94 rfl (by decide) rfl ?_
                  refine sv_goto (pc := 97) (tgt := 59) dX8_tellAllAnew_97 (by decide) ?_
                  refine mr_lvS (lv' := [(0, .ref 32), (1, iv z1184), (2, iv (z1410 + 1))]) (List.forall_mem_cons.mpr ⟨rfl, List.forall_mem_cons.mpr ⟨rfl, List.forall_mem_cons.mpr ⟨rfl, fun _ h => absurd h List.not_mem_nil⟩⟩⟩) ?_
                  exact ih1420 (z1410 + 1) μ1411 T1414 (mF.call mF.refl F1415 rfl) (rW (c := 0) (d := 20) (rAdd (e := 1) (f := 20) h1441 (rR (x := 1)) rfl) rfl) I1417 (vc_X10_tieBetween_6 (nS h1418) h1440 h1423.1 h1441 h1442) ((h1449.2.1 h1449.1).1 h1457)
                have h1459 : 0 ≤ z1450 ∧ z1450 ≤ 1 := (vc_X12_differ_32 h1457 h1449.1)
                refine sv_aload_n (pc := 88) dX8_tellAllAnew_88 rfl rfl ?_
                refine mr_iload_n (pc := 89) (z := z1410) dX8_tellAllAnew_89 rfl rfl ?_
                refine mr_iload_n (pc := 90) (z := z1450) dX8_tellAllAnew_90 rfl rfl ?_
                refine mr_cVV (pc := 91) (c_X8_sayAll_W hw T1414 h1441 h1459 (vc_X10_tieBetween_5 h1423.1 h1440 h1441 h1442) I1417 ((h1449.2.1 h1449.1).2 h1457)) (gOk _ _ _ _ _) dX8_tellAllAnew_91 (tX8_sayAll _ _ _ _ _) ⟨wV_X8_sayAll, wL_X8_sayAll⟩ wM_X8_159 (gCX8 _ _ _ _ _) rfl (A_32 hw) rfl ⟨le_t rfl, le_t rfl⟩ ⟨le_t rfl, le_t rfl⟩ rfl (le_t rfl) fun μ1460 T1461 F1462 h1463 => ?_
                refine mr_iinc (pc := 94) (lv' := [(2, iv (z1410 + 1)), (3, iv z1450), (0, .ref 32), (1, iv z1184)]) dX8_tellAllAnew_94 rfl (by decide) rfl ?_
                refine sv_goto (pc := 97) (tgt := 59) dX8_tellAllAnew_97 (by decide) ?_
                refine mr_lvS (lv' := [(0, .ref 32), (1, iv z1184), (2, iv (z1410 + 1))]) (List.forall_mem_cons.mpr ⟨rfl, List.forall_mem_cons.mpr ⟨rfl, List.forall_mem_cons.mpr ⟨rfl, fun _ h => absurd h List.not_mem_nil⟩⟩⟩) ?_
                exact ih1420 (z1410 + 1) μ1460 T1461 (mF.call (mF.call mF.refl F1415 rfl) F1462 rfl) (rW (c := 0) (d := 20) (rAdd (e := 1) (f := 20) h1441 (rR (x := 1)) rfl) rfl) (PC.keep I1417 hw ((mF.call mF.refl F1462 rfl) : mF [21002, 21003, 21004, 21005, 21006, 21007, 32010, 33999, 34999, 200002, 200003, 200004, 200005, 200006, 200007, 200008, 200009, 201999, 202999] w μ1411 μ1460) rfl) (vc_X10_tieBetween_6 (nS h1418) h1440 h1423.1 h1441 h1442) (h1463.1 T1461 F1462)
            refine mr_lvS (lv' := [(0, .ref 32), (1, iv z1184), (2, iv 0)]) (List.forall_mem_cons.mpr ⟨rfl, List.forall_mem_cons.mpr ⟨rfl, List.forall_mem_cons.mpr ⟨rfl, fun _ h => absurd h List.not_mem_nil⟩⟩⟩) ?_
            exact L1412 22 0 μ1185 T1188 mF.refl (rW (c := 0) (d := 20) (rR (x := 0)) rfl) I1191 vc_X12_tieOf_12 ((W1193 z1184 μ1185 rfl h1187 T1188 F1189).2 h1239)
        refine mr_lvS (lv' := [(0, .ref 32), (1, iv 0)]) (List.forall_mem_cons.mpr ⟨rfl, List.forall_mem_cons.mpr ⟨rfl, fun _ h => absurd h List.not_mem_nil⟩⟩) ?_
        exact L1186 12 0 μ870 T873 mF.refl (rW (c := 0) (d := 10) (rR (x := 0)) rfl) I876 vc_X12_ring_27 (((W878 z869 μ870 rfl h872 T873 F874) z880 q881 h882).1 h907)
      have h1464 : 0 ≤ z869 ∧ z869 ≤ 9 := (vc_X10_coneOf_2 h907 h882.1 h872 h882.2)
      have h1465 : 1 ≤ z880 ∧ z880 ≤ 10 := (vc_X10_coneOf_3 h907 h882.1 h1464 h882.2)
      refine mr_iconst (pc := 13) (z := 0) dX8_tellAllAnew_13 ?_
      refine mr_istore_n (pc := 14) (lv' := [(2, iv 0), (0, .ref 32), (1, iv z869)]) dX8_tellAllAnew_14 rfl (by decide) rfl ?_
      have L1534 : ∀ (nL1534 : Nat) (z1532 : Int) (μ1533 : mM), mT w μ1533 → mF [21002, 21003, 21004, 21005, 21006, 21007, 32009, 32010, 33999, 34999, 66999, 200002, 200003, 200004, 200005, 200006, 200007, 200008, 200009, 200010, 200011, 201999, 202999, 213999] w μ870 μ1533 → (0 ≤ z1532 ∧ z1532 ≤ 10) → PC w μ1533 → (11 - z1532) < (nL1534 : Int) → loopF (WL_X8_tellAllAnew_W_4 w (loopF (WL_X8_tellAllAnew_W_1 w μ Q) False nL871) z869 μ870) False nL1534 (z1532, μ1533) → sV (gG l D c H0 sa) mX8_tellAllAnew (sRm 43 0 0) (sZ (gG l D c H0 sa) 0 0 (qV w [21002, 21003, 21004, 21005, 21006, 21007, 32009, 32010, 33999, 34999, 66999, 200002, 200003, 200004, 200005, 200006, 200007, 200008, 200009, 200010, 200011, 201999, 202999, 213999] μ (fun μ1 => Q μ1 ∧ True))) 15 [(0, .ref 32), (1, iv z869), (2, iv z1532)] [] (mk w μ1533) 0 0 := by
        intro nL1534
        induction nL1534 with
        | zero => intro z1532 μ1533 T1536 F1537 h1535 I1539 h1540 W1541; exact ((vc_X12_ring_2 h1540 h1535)).elim
        | succ nL1534 ih1542 =>
          intro z1532 μ1533 T1536 F1537 h1535 I1539 h1540 W1541
          refine mr_iload_n (pc := 15) (z := z1532) dX8_tellAllAnew_15 rfl rfl ?_
          refine sv_aload_n (pc := 16) dX8_tellAllAnew_16 rfl rfl ?_
          refine gf_X8_0 (pc := 17) dX8_tellAllAnew_17 wF_X8_9 (A_32 hw) T1536 ?_
          refine gf_X10_14 (pc := 20) dX8_tellAllAnew_20 wF_X8_150 (A_6 hw) T1536 fun z1543 q1544 h1545 => ?_
          refine mr_icmp_ge (pc := 23) (tgt := 38) dX8_tellAllAnew_23 (by decide) (r32 h1535 rfl) (r32 h1545 rfl) (fun h1552 => ?_) (fun h1552 => ?_)
          · refine mr_iinc (pc := 38) (lv' := [(1, iv (z869 + 1)), (0, .ref 32), (2, iv z1532)]) dX8_tellAllAnew_38 rfl (by decide) rfl ?_
            refine sv_goto (pc := 41) (tgt := 2) dX8_tellAllAnew_41 (by decide) ?_
            refine mr_lvS (lv' := [(0, .ref 32), (1, iv (z869 + 1))]) (List.forall_mem_cons.mpr ⟨rfl, List.forall_mem_cons.mpr ⟨rfl, fun _ h => absurd h List.not_mem_nil⟩⟩) ?_
            exact ih879 (z869 + 1) μ1533 T1536 (mF.call (mF.call mF.refl F874 rfl) F1537 rfl) (rW (c := 0) (d := 10) (rAdd (e := 1) (f := 10) h1464 (rR (x := 1)) rfl) rfl) I1539 (vc_X10_coneOf_5 (nS h877) h907 h882.1 h1464 h1465) (((W1541 z1532 μ1533 rfl h1535 T1536 F1537) z1543 q1544 h1545).1 h1552)
          have h1553 : 0 ≤ z1532 ∧ z1532 ≤ 9 := (vc_X12_ring_3 h1552 h1535 h1545)
          have h1554 : 1 ≤ z1543 ∧ z1543 ≤ 10 := (vc_X12_ring_4 h1552 h1553 h1545)
          refine sv_aload_n (pc := 26) dX8_tellAllAnew_26 rfl rfl ?_
          refine mr_iload_n (pc := 27) (z := z869) dX8_tellAllAnew_27 rfl rfl ?_
          refine mr_iload_n (pc := 28) (z := z1532) dX8_tellAllAnew_28 rfl rfl ?_
          refine mr_cVV (pc := 29) (c_X8_look_W hw T1536 h1464 h1553 (vc_X8_tellAllAnew_W_21 h882.1 h907 h1464 h1465) I1539 (((W1541 z1532 μ1533 rfl h1535 T1536 F1537) z1543 q1544 h1545).2 h1552)) (gOk _ _ _ _ _) dX8_tellAllAnew_29 (tX8_look _ _ _ _ _) ⟨wV_X8_look, wL_X8_look⟩ wM_X8_92 (gCX8 _ _ _ _ _) rfl (A_32 hw) rfl ⟨le_t rfl, le_t rfl⟩ ⟨le_t rfl, le_t rfl⟩ rfl (le_t rfl) fun μ1555 T1556 F1557 h1558 => ?_
          refine mr_iinc (pc := 32) (lv' := [(2, iv (z1532 + 1)), (0, .ref 32), (1, iv z869)]) dX8_tellAllAnew_32 rfl (by decide) rfl ?_
          refine sv_goto (pc := 35) (tgt := 15) dX8_tellAllAnew_35 (by decide) ?_
          refine mr_lvS (lv' := [(0, .ref 32), (1, iv z869), (2, iv (z1532 + 1))]) (List.forall_mem_cons.mpr ⟨rfl, List.forall_mem_cons.mpr ⟨rfl, List.forall_mem_cons.mpr ⟨rfl, fun _ h => absurd h List.not_mem_nil⟩⟩⟩) ?_
          exact ih1542 (z1532 + 1) μ1555 T1556 (mF.call (mF.call mF.refl F1537 rfl) F1557 rfl) (rW (c := 0) (d := 10) (rAdd (e := 1) (f := 10) h1553 (rR (x := 1)) rfl) rfl) (PC.keep I1539 hw ((mF.call mF.refl F1557 rfl) : mF [21002, 21003, 21004, 21005, 21006, 21007, 32009, 32010, 33999, 34999, 66999, 200002, 200003, 200004, 200005, 200006, 200007, 200008, 200009, 200010, 200011, 201999, 202999, 213999] w μ1533 μ1555) rfl) (vc_X12_sends_11 (nS h1540) h1552 h1553 h1554) (h1558.1 T1556 F1557)
      refine mr_lvS (lv' := [(0, .ref 32), (1, iv z869), (2, iv 0)]) (List.forall_mem_cons.mpr ⟨rfl, List.forall_mem_cons.mpr ⟨rfl, List.forall_mem_cons.mpr ⟨rfl, fun _ h => absurd h List.not_mem_nil⟩⟩⟩) ?_
      exact L1534 12 0 μ870 T873 mF.refl (rW (c := 0) (d := 10) (rR (x := 0)) rfl) I876 vc_X12_ring_27 (((W878 z869 μ870 rfl h872 T873 F874) z880 q881 h882).2 h907)
  refine mr_lvS (lv' := [(0, .ref 32), (1, iv 0)]) (List.forall_mem_cons.mpr ⟨rfl, List.forall_mem_cons.mpr ⟨rfl, fun _ h => absurd h List.not_mem_nil⟩⟩) ?_
  exact L871 12 0 μ hT mF.refl (rW (c := 0) (d := 10) (rR (x := 0)) rfl) hIPC vc_X12_ring_27 hQ
def WL_X12_lookAll_W_1 (w : mW) (μ : mM) (p1 : Int) (Q : mM → Prop) (rec1 : (Int × mM) → Prop) (s : (Int × mM)) : Prop := ∀ z67 : Int, ∀ μ68 : mM, s = (z67, μ68) → (0 ≤ z67 ∧ z67 ≤ 10) → mT w μ68 → mF [106026, 106027, 106028, 106029, 106030, 106031, 106072, 126999, 151999, 152999, 153999, 155999, 156999, 157999, 158999, 159999, 160999, 161999, 165999] w μ μ68 → ∀ z80 : Int, μ68 106 2 = z80 → (0 ≤ z80 ∧ z80 ≤ 10) → ((z80 ≤ z67) → Q μ68) ∧ ((z67 < z80) → WP_X12_look_W w μ68 p1 z67 (fun μ92 => mT w μ92 → mF [106026, 106027, 106028, 106029, 106030, 106031, 106072, 126999, 151999, 152999, 153999, 155999, 156999, 157999, 158999, 159999, 160999, 161999, 165999] w μ68 μ92 → rec1 ((z67 + 1), μ92)))
def WP_X12_lookAll_W (w : mW) (μ : mM) (p1 : Int) (Q : mM → Prop) : Prop := loopF (WL_X12_lookAll_W_1 w μ p1 Q) False 12 ((0 : Int), μ)
theorem vc_X12_lookAll_W_3 {p1 : Int} (h0 : 0 ≤ p1 ∧ p1 ≤ 9) : ((400 * p1) + 1200) ≤ ((400 * p1) + 1200) ∧ ((400 * p1) + 1600) ≤ ((400 * p1) + 1600) := by omega
theorem vc_X12_lookAll_W_8 {p1 z67 z80 : Int} (h0 : z67 < z80) (h1 : 0 ≤ p1 ∧ p1 ≤ 9) (h2 : 0 ≤ z67 ∧ z67 ≤ 9) (h3 : 1 ≤ z80 ∧ z80 ≤ 10) : ((400 * p1) + 1200) ≤ (40 * (30 + ((10 * p1) + z67))) ∧ ((40 * (30 + ((10 * p1) + z67))) + 40) ≤ ((400 * p1) + 1600) := by omega
set_option maxRecDepth 4000 in
set_option maxHeartbeats 4000000 in
theorem c_X12_lookAll_W {l : Launch} {D : va_G} {c : Nat → ClassId} {H0 : Heap} {sa : Nat × Nat × (Nat → Int32)} {w : mW} {μ : mM} (hw : mWF w) (hT : mT w μ) {p1 : Int} (hp1 : 0 ≤ p1 ∧ p1 ≤ 9) (hIG1 : G1 μ) (hIEV : EV μ) (hIPK : PK μ) {Q : mM → Prop} (hQ : WP_X12_lookAll_W w μ p1 Q) : sC (gG l D c H0 sa) mX12_lookAll 11 0 0 [.ref 106, iv p1] (mk w μ) (qV w [106026, 106027, 106028, 106029, 106030, 106031, 106072, 126999, 151999, 152999, 153999, 155999, 156999, 157999, 158999, 159999, 160999, 161999, 165999] μ (fun μ1 => mG [(80, 960), (((400 * p1) + 1200), ((400 * p1) + 1600)), (21200, 53200)] μ μ1 ∧ G1 μ1 ∧ EV μ1 ∧ Q μ1 ∧ True)) := by
  refine sC.of rfl (by decide) (le_t rfl) ?_
  refine mr_lvE (lv' := [(0, .ref 106), (1, iv p1)]) rfl ?_
  refine mr_iconst (pc := 0) (z := 0) dX12_lookAll_0 ?_
  refine mr_istore_n (pc := 1) (lv' := [(2, iv 0), (0, .ref 106), (1, iv p1)]) dX12_lookAll_1 rfl (by decide) rfl ?_
  have L69 : ∀ (nL69 : Nat) (z67 : Int) (μ68 : mM), mT w μ68 → mF [106026, 106027, 106028, 106029, 106030, 106031, 106072, 126999, 151999, 152999, 153999, 155999, 156999, 157999, 158999, 159999, 160999, 161999, 165999] w μ μ68 → mG [(80, 960), (((400 * p1) + 1200), ((400 * p1) + 1600)), (21200, 53200)] μ μ68 → (0 ≤ z67 ∧ z67 ≤ 10) → G1 μ68 → EV μ68 → PK μ68 → (11 - z67) < (nL69 : Int) → loopF (WL_X12_lookAll_W_1 w μ p1 Q) False nL69 (z67, μ68) → sV (gG l D c H0 sa) mX12_lookAll (sRm 11 0 0) (sZ (gG l D c H0 sa) 0 0 (qV w [106026, 106027, 106028, 106029, 106030, 106031, 106072, 126999, 151999, 152999, 153999, 155999, 156999, 157999, 158999, 159999, 160999, 161999, 165999] μ (fun μ1 => mG [(80, 960), (((400 * p1) + 1200), ((400 * p1) + 1600)), (21200, 53200)] μ μ1 ∧ G1 μ1 ∧ EV μ1 ∧ Q μ1 ∧ True))) 2 [(0, .ref 106), (1, iv p1), (2, iv z67)] [] (mk w μ68) 0 0 := by
    intro nL69
    induction nL69 with
    | zero => intro z67 μ68 T71 F72 G73 h70 I74 I75 I76 h77 W78; exact ((vc_X12_ring_2 h77 h70)).elim
    | succ nL69 ih79 =>
      intro z67 μ68 T71 F72 G73 h70 I74 I75 I76 h77 W78
      refine mr_iload_n (pc := 2) (z := z67) dX12_lookAll_2 rfl rfl ?_
      refine sv_aload_n (pc := 3) dX12_lookAll_3 rfl rfl ?_
      refine gf_X12_2 (pc := 4) dX12_lookAll_4 wF_X12_15 (A_106 hw) T71 fun z80 q81 h82 => ?_
      refine mr_icmp_ge (pc := 7) (tgt := 22) dX12_lookAll_7 (by decide) (r32 h70 rfl) (r32 h82 rfl) (fun h89 => ?_) (fun h89 => ?_)
      · exact mr_vret dX12_lookAll_22 rfl (le_t rfl) (le_t rfl) T71 (mF.call mF.refl F72 rfl) ⟨(mG.call mG.refl G73 (List.forall_mem_cons.mpr ⟨⟨_, List.mem_cons_self, vc_X12_look_W_12⟩, (List.forall_mem_cons.mpr ⟨⟨_, (List.mem_cons_of_mem _ List.mem_cons_self), (vc_X12_lookAll_W_3 hp1)⟩, (List.forall_mem_cons.mpr ⟨⟨_, (List.mem_cons_of_mem _ (List.mem_cons_of_mem _ List.mem_cons_self)), vc_X12_say_W_25⟩, (fun _ h => absurd h List.not_mem_nil)⟩)⟩)⟩)), I74, I75, (((W78 z67 μ68 rfl h70 T71 F72) z80 q81 h82).1 h89), trivial⟩
      have h90 : 0 ≤ z67 ∧ z67 ≤ 9 := (vc_X12_ring_3 h89 h70 h82)
      have h91 : 1 ≤ z80 ∧ z80 ≤ 10 := (vc_X12_ring_4 h89 h90 h82)
      refine sv_aload_n (pc := 10) dX12_lookAll_10 rfl rfl ?_
      refine mr_iload_n (pc := 11) (z := p1) dX12_lookAll_11 rfl rfl ?_
      refine mr_iload_n (pc := 12) (z := z67) dX12_lookAll_12 rfl rfl ?_
      refine mr_cVV (pc := 13) (c_X12_look_W hw T71 hp1 h90 I74 I75 I76 (((W78 z67 μ68 rfl h70 T71 F72) z80 q81 h82).2 h89)) (gOk _ _ _ _ _) dX12_lookAll_13 (tX12_look _ _ _ _ _) ⟨wV_X12_look, wL_X12_look⟩ wM_X12_597 (gCX12 _ _ _ _ _) rfl (A_106 hw) rfl ⟨le_t rfl, le_t rfl⟩ ⟨le_t rfl, le_t rfl⟩ rfl (le_t rfl) fun μ92 T93 F94 h95 => ?_
      refine mr_iinc (pc := 16) (lv' := [(2, iv (z67 + 1)), (0, .ref 106), (1, iv p1)]) dX12_lookAll_16 rfl (by decide) rfl ?_
      refine sv_goto (pc := 19) (tgt := 2) dX12_lookAll_19 (by decide) ?_
      refine mr_lvS (lv' := [(0, .ref 106), (1, iv p1), (2, iv (z67 + 1))]) (List.forall_mem_cons.mpr ⟨rfl, List.forall_mem_cons.mpr ⟨rfl, List.forall_mem_cons.mpr ⟨rfl, fun _ h => absurd h List.not_mem_nil⟩⟩⟩) ?_
      exact ih79 (z67 + 1) μ92 T93 (mF.call (mF.call mF.refl F72 rfl) F94 rfl) (mG.call (mG.call mG.refl G73 (List.forall_mem_cons.mpr ⟨⟨_, List.mem_cons_self, vc_X12_look_W_12⟩, (List.forall_mem_cons.mpr ⟨⟨_, (List.mem_cons_of_mem _ List.mem_cons_self), (vc_X12_lookAll_W_3 hp1)⟩, (List.forall_mem_cons.mpr ⟨⟨_, (List.mem_cons_of_mem _ (List.mem_cons_of_mem _ List.mem_cons_self)), vc_X12_say_W_25⟩, (fun _ h => absurd h List.not_mem_nil)⟩)⟩)⟩)) h95.1 (List.forall_mem_cons.mpr ⟨⟨_, List.mem_cons_self, vc_X12_look_W_12⟩, (List.forall_mem_cons.mpr ⟨⟨_, (List.mem_cons_of_mem _ List.mem_cons_self), (vc_X12_lookAll_W_8 h89 hp1 h90 h91)⟩, (List.forall_mem_cons.mpr ⟨⟨_, (List.mem_cons_of_mem _ (List.mem_cons_of_mem _ List.mem_cons_self)), vc_X12_say_W_25⟩, (fun _ h => absurd h List.not_mem_nil)⟩)⟩)⟩)) (rW (c := 0) (d := 10) (rAdd (e := 1) (f := 10) h90 (rR (x := 1)) rfl) rfl) h95.2.1 h95.2.2.1 (PK.keep I76 hw ((mF.call mF.refl F94 rfl) : mF [106026, 106027, 106028, 106029, 106030, 106031, 106072, 126999, 151999, 152999, 153999, 155999, 156999, 157999, 158999, 159999, 160999, 161999, 165999] w μ68 μ92) rfl) (vc_X12_sends_11 (nS h77) h89 h90 h91) (h95.2.2.2.1 T93 F94)
  refine mr_lvS (lv' := [(0, .ref 106), (1, iv p1), (2, iv 0)]) (List.forall_mem_cons.mpr ⟨rfl, List.forall_mem_cons.mpr ⟨rfl, List.forall_mem_cons.mpr ⟨rfl, fun _ h => absurd h List.not_mem_nil⟩⟩⟩) ?_
  exact L69 12 0 μ hT mF.refl mG.refl (rW (c := 0) (d := 10) (rR (x := 0)) rfl) hIG1 hIEV hIPK vc_X12_ring_27 hQ
def WL_X12_sayAll_W_1 (w : mW) (μ : mM) (p1 : Int) (p2 : Int) (Q : mM → Prop) (rec1 : (Int × mM) → Prop) (s : (Int × mM)) : Prop := ∀ z258 : Int, ∀ μ259 : mM, s = (z258, μ259) → (0 ≤ z258 ∧ z258 ≤ 10) → mT w μ259 → mF [106026, 106027, 106028, 106029, 106030, 106031, 106072, 126999, 151999, 152999, 153999, 155999, 156999, 157999, 158999, 159999, 160999] w μ μ259 → ∀ z271 : Int, μ259 106 2 = z271 → (0 ≤ z271 ∧ z271 ≤ 10) → ((z271 ≤ z258) → Q μ259) ∧ ((z258 < z271) → ∀ z288 : Int, μ259 112 (p2.toNat) = z288 → (0 ≤ z288 ∧ z288 ≤ 1) → ((z288 = 0) → Q μ259) ∧ ((¬ z288 = 0) → WP_X12_say_W w μ259 p1 p2 z258 (fun μ300 => mT w μ300 → mF [106026, 106027, 106028, 106029, 106030, 106031, 106072, 126999, 151999, 152999, 153999, 155999, 156999, 157999, 158999, 159999, 160999] w μ259 μ300 → rec1 ((z258 + 1), μ300))))
def WP_X12_sayAll_W (w : mW) (μ : mM) (p1 : Int) (p2 : Int) (Q : mM → Prop) : Prop := ∀ f_e0 : Int, μ 110 ((2 * p2).toNat) = f_e0 → (0 ≤ f_e0 ∧ f_e0 ≤ 9) → ∀ f_e1 : Int, μ 110 (((2 * p2) + 1).toNat) = f_e1 → (0 ≤ f_e1 ∧ f_e1 ≤ 9) → ∀ f_ties : Int, μ 106 6 = f_ties → (0 ≤ f_ties ∧ f_ties ≤ 20) → loopF (WL_X12_sayAll_W_1 w μ p1 p2 Q) False 12 ((0 : Int), μ)
theorem vc_X12_sayAll_W_10 {f_e0 f_e1 p1 : Int} (h0 : f_e0 = p1 ∨ f_e1 = p1) (h1 : 0 ≤ f_e0 ∧ f_e0 ≤ 9) (h2 : 0 ≤ f_e1 ∧ f_e1 ≤ 9) (h3 : 0 ≤ p1 ∧ p1 ≤ 9) : f_e0 = p1 ∨ f_e1 = p1 := by omega
set_option maxRecDepth 4000 in
set_option maxHeartbeats 4000000 in
theorem c_X12_sayAll_W {l : Launch} {D : va_G} {c : Nat → ClassId} {H0 : Heap} {sa : Nat × Nat × (Nat → Int32)} {w : mW} {μ : mM} (hw : mWF w) (hT : mT w μ) {p1 : Int} (hp1 : 0 ≤ p1 ∧ p1 ≤ 9) {p2 : Int} (hp2 : 0 ≤ p2 ∧ p2 ≤ 19) {f_e0 : Int} (q_f_e0 : μ 110 ((2 * p2).toNat) = f_e0) {f_e1 : Int} (q_f_e1 : μ 110 (((2 * p2) + 1).toNat) = f_e1) {f_ties : Int} (q_f_ties : μ 106 6 = f_ties) (hq0 : p2 < f_ties) (hq1 : f_e0 = p1 ∨ f_e1 = p1) (hIG1 : G1 μ) (hIEV : EV μ) (hIPK : PK μ) {Q : mM → Prop} (hQ : WP_X12_sayAll_W w μ p1 p2 Q) : sC (gG l D c H0 sa) mX12_sayAll 8 0 0 [.ref 106, iv p1, iv p2] (mk w μ) (qV w [106026, 106027, 106028, 106029, 106030, 106031, 106072, 126999, 151999, 152999, 153999, 155999, 156999, 157999, 158999, 159999, 160999] μ (fun μ1 => mG [(80, 120), (21200, 53200)] μ μ1 ∧ G1 μ1 ∧ EV μ1 ∧ Q μ1 ∧ True)) := by
  refine sC.of rfl (by decide) (le_t rfl) ?_
  have ht_f_e0 : (0 ≤ f_e0 ∧ f_e0 ≤ 9) := by rw [← q_f_e0]; exact hT 110 110 (A_110 hw) ((2 * p2).toNat)
  have ht_f_e1 : (0 ≤ f_e1 ∧ f_e1 ≤ 9) := by rw [← q_f_e1]; exact hT 110 110 (A_110 hw) (((2 * p2) + 1).toNat)
  have ht_f_ties : (0 ≤ f_ties ∧ f_ties ≤ 20) := by rw [← q_f_ties]; exact hT 106 106 (A_106 hw) 6
  have h1 : 1 ≤ f_ties ∧ f_ties ≤ 20 := (vc_X3_putAttributes_11 hq0 ht_f_ties hp2)
  refine mr_lvE (lv' := [(0, .ref 106), (1, iv p1), (2, iv p2)]) rfl ?_
  refine mr_iconst (pc := 0) (z := 0) dX12_sayAll_0 ?_
  refine mr_istore_n (pc := 1) (lv' := [(3, iv 0), (0, .ref 106), (1, iv p1), (2, iv p2)]) dX12_sayAll_1 rfl (by decide) rfl ?_
  have L260 : ∀ (nL260 : Nat) (z258 : Int) (μ259 : mM), mT w μ259 → mF [106026, 106027, 106028, 106029, 106030, 106031, 106072, 126999, 151999, 152999, 153999, 155999, 156999, 157999, 158999, 159999, 160999] w μ μ259 → mG [(80, 120), (21200, 53200)] μ μ259 → (0 ≤ z258 ∧ z258 ≤ 10) → G1 μ259 → EV μ259 → PK μ259 → (11 - z258) < (nL260 : Int) → loopF (WL_X12_sayAll_W_1 w μ p1 p2 Q) False nL260 (z258, μ259) → sV (gG l D c H0 sa) mX12_sayAll (sRm 8 0 0) (sZ (gG l D c H0 sa) 0 0 (qV w [106026, 106027, 106028, 106029, 106030, 106031, 106072, 126999, 151999, 152999, 153999, 155999, 156999, 157999, 158999, 159999, 160999] μ (fun μ1 => mG [(80, 120), (21200, 53200)] μ μ1 ∧ G1 μ1 ∧ EV μ1 ∧ Q μ1 ∧ True))) 2 [(0, .ref 106), (1, iv p1), (2, iv p2), (3, iv z258)] [] (mk w μ259) 0 0 := by
    intro nL260
    induction nL260 with
    | zero => intro z258 μ259 T262 F263 G264 h261 I265 I266 I267 h268 W269; exact ((vc_X12_ring_2 h268 h261)).elim
    | succ nL260 ih270 =>
      intro z258 μ259 T262 F263 G264 h261 I265 I266 I267 h268 W269
      refine mr_iload_n (pc := 2) (z := z258) dX12_sayAll_2 rfl rfl ?_
      refine sv_aload_n (pc := 3) dX12_sayAll_3 rfl rfl ?_
      refine gf_X12_2 (pc := 4) dX12_sayAll_4 wF_X12_15 (A_106 hw) T262 fun z271 q272 h273 => ?_
      refine mr_icmp_ge (pc := 7) (tgt := 32) dX12_sayAll_7 (by decide) (r32 h261 rfl) (r32 h273 rfl) (fun h285 => ?_) (fun h285 => ?_)
      · exact mr_vret dX12_sayAll_32 rfl (le_t rfl) (le_t rfl) T262 (mF.call mF.refl F263 rfl) ⟨(mG.call mG.refl G264 (List.forall_mem_cons.mpr ⟨⟨_, List.mem_cons_self, vc_X12_say_W_24⟩, (List.forall_mem_cons.mpr ⟨⟨_, (List.mem_cons_of_mem _ List.mem_cons_self), vc_X12_say_W_25⟩, (fun _ h => absurd h List.not_mem_nil)⟩)⟩)), I265, I266, (((W269 z258 μ259 rfl h261 T262 F263) z271 q272 h273).1 h285), trivial⟩
      have h286 : 0 ≤ z258 ∧ z258 ≤ 9 := (vc_X12_ring_3 h285 h261 h273)
      have h287 : 1 ≤ z271 ∧ z271 ≤ 10 := (vc_X12_ring_4 h285 h286 h273)
      refine sv_aload_n (pc := 10) dX12_sayAll_10 rfl rfl ?_
      refine gf_X12_9 (pc := 11) dX12_sayAll_11 wF_X12_53 (A_106 hw) T262 ?_
      refine mr_iload_n (pc := 14) (z := p2) dX12_sayAll_14 rfl rfl ?_
      refine la_112 (pc := 15) dX12_sayAll_15 (A_112 hw) T262 (rIx (n := 20) hp2 rfl) fun z288 q289 h290 => ?_
      refine mr_if_eq (pc := 16) (tgt := 32) dX12_sayAll_16 (by decide) (r32 h290 rfl) (fun h297 => ?_) (fun h297 => ?_)
      · have h298 : 0 ≤ z288 ∧ z288 ≤ 0 := (vc_X12_ring_22 h297 h290)
        exact mr_vret dX12_sayAll_32 rfl (le_t rfl) (le_t rfl) T262 (mF.call mF.refl F263 rfl) ⟨(mG.call mG.refl G264 (List.forall_mem_cons.mpr ⟨⟨_, List.mem_cons_self, vc_X12_say_W_24⟩, (List.forall_mem_cons.mpr ⟨⟨_, (List.mem_cons_of_mem _ List.mem_cons_self), vc_X12_say_W_25⟩, (fun _ h => absurd h List.not_mem_nil)⟩)⟩)), I265, I266, (((((W269 z258 μ259 rfl h261 T262 F263) z271 q272 h273).2 h285) z288 q289 h290).1 h297), trivial⟩
      have h299 : 1 ≤ z288 ∧ z288 ≤ 1 := (vc_X12_ring_24 h297 h290)
      refine sv_aload_n (pc := 19) dX12_sayAll_19 rfl rfl ?_
      refine mr_iload_n (pc := 20) (z := p1) dX12_sayAll_20 rfl rfl ?_
      refine mr_iload_n (pc := 21) (z := p2) dX12_sayAll_21 rfl rfl ?_
      refine mr_iload_n (pc := 22) (z := z258) dX12_sayAll_22 rfl rfl ?_
      refine mr_cVV (pc := 23) (c_X12_say_W hw T262 hp1 hp2 h286 (F263.f (A_110 hw) rfl q_f_e0) (F263.f (A_110 hw) rfl q_f_e1) (F263.f (A_106 hw) rfl q_f_ties) (vc_X12_tieWord_2 hq0 h1 hp2) (vc_X12_sayAll_W_10 hq1 ht_f_e0 ht_f_e1 hp1) I265 I266 I267 (((((W269 z258 μ259 rfl h261 T262 F263) z271 q272 h273).2 h285) z288 q289 h290).2 h297)) (gOk _ _ _ _ _) dX12_sayAll_23 (tX12_say _ _ _ _ _) ⟨wV_X12_say, wL_X12_say⟩ wM_X12_587 (gCX12 _ _ _ _ _) rfl (A_106 hw) rfl ⟨le_t rfl, le_t rfl⟩ ⟨le_t rfl, le_t rfl⟩ rfl (le_t rfl) fun μ300 T301 F302 h303 => ?_
      refine mr_iinc (pc := 26) (lv' := [(3, iv (z258 + 1)), (0, .ref 106), (1, iv p1), (2, iv p2)]) dX12_sayAll_26 rfl (by decide) rfl ?_
      refine sv_goto (pc := 29) (tgt := 2) dX12_sayAll_29 (by decide) ?_
      refine mr_lvS (lv' := [(0, .ref 106), (1, iv p1), (2, iv p2), (3, iv (z258 + 1))]) (List.forall_mem_cons.mpr ⟨rfl, List.forall_mem_cons.mpr ⟨rfl, List.forall_mem_cons.mpr ⟨rfl, List.forall_mem_cons.mpr ⟨rfl, fun _ h => absurd h List.not_mem_nil⟩⟩⟩⟩) ?_
      exact ih270 (z258 + 1) μ300 T301 (mF.call (mF.call mF.refl F263 rfl) F302 rfl) (mG.call (mG.call mG.refl G264 (List.forall_mem_cons.mpr ⟨⟨_, List.mem_cons_self, vc_X12_say_W_24⟩, (List.forall_mem_cons.mpr ⟨⟨_, (List.mem_cons_of_mem _ List.mem_cons_self), vc_X12_say_W_25⟩, (fun _ h => absurd h List.not_mem_nil)⟩)⟩)) h303.1 (List.forall_mem_cons.mpr ⟨⟨_, List.mem_cons_self, vc_X12_say_W_24⟩, (List.forall_mem_cons.mpr ⟨⟨_, (List.mem_cons_of_mem _ List.mem_cons_self), vc_X12_say_W_25⟩, (fun _ h => absurd h List.not_mem_nil)⟩)⟩)) (rW (c := 0) (d := 10) (rAdd (e := 1) (f := 10) h286 (rR (x := 1)) rfl) rfl) h303.2.1 h303.2.2.1 (PK.keep I267 hw ((mF.call mF.refl F302 rfl) : mF [106026, 106027, 106028, 106029, 106030, 106031, 106072, 126999, 151999, 152999, 153999, 155999, 156999, 157999, 158999, 159999, 160999] w μ259 μ300) rfl) (vc_X12_sends_11 (nS h268) h285 h286 h287) (h303.2.2.2.1 T301 F302)
  refine mr_lvS (lv' := [(0, .ref 106), (1, iv p1), (2, iv p2), (3, iv 0)]) (List.forall_mem_cons.mpr ⟨rfl, List.forall_mem_cons.mpr ⟨rfl, List.forall_mem_cons.mpr ⟨rfl, List.forall_mem_cons.mpr ⟨rfl, fun _ h => absurd h List.not_mem_nil⟩⟩⟩⟩) ?_
  exact L260 12 0 μ hT mF.refl mG.refl (rW (c := 0) (d := 10) (rR (x := 0)) rfl) hIG1 hIEV hIPK vc_X12_ring_27 (((hQ f_e0 q_f_e0 ht_f_e0) f_e1 q_f_e1 ht_f_e1) f_ties q_f_ties ht_f_ties)
def WL_X12_rethink_W_3 (w : mW) (rec2 : (Int × mM) → Prop) (z1270 : Int) (μ1271 : mM) (rec3 : (Int × mM) → Prop) (s : (Int × mM)) : Prop := ∀ z1548 : Int, ∀ μ1549 : mM, s = (z1548, μ1549) → (0 ≤ z1548 ∧ z1548 ≤ 20) → mT w μ1549 → mF [106026, 106027, 106028, 106029, 106030, 106031, 106072, 126999, 151999, 152999, 153999, 155999, 156999, 157999, 158999, 159999, 160999] w μ1271 μ1549 → ∀ z1561 : Int, μ1549 106 6 = z1561 → (0 ≤ z1561 ∧ z1561 ≤ 20) → ((z1561 ≤ z1548) → rec2 ((z1270 + 1), μ1549)) ∧ ((z1548 < z1561) → ∀ z1588 : Int, μ1549 110 ((2 * z1548).toNat) = z1588 → (0 ≤ z1588 ∧ z1588 ≤ 9) → ∀ z1591 : Int, μ1549 110 (((2 * z1548) + 1).toNat) = z1591 → (0 ≤ z1591 ∧ z1591 ≤ 9) → WP_X12_isAt_W w μ1549 z1548 z1270 (fun z1598 _ => (0 ≤ z1598 ∧ z1598 ≤ 1) → ((z1598 = 0) → rec3 ((z1548 + 1), μ1549)) ∧ ((¬ z1598 = 0) → WP_X12_sayAll_W w μ1549 z1270 z1548 (fun μ1613 => mT w μ1613 → mF [106026, 106027, 106028, 106029, 106030, 106031, 106072, 126999, 151999, 152999, 153999, 155999, 156999, 157999, 158999, 159999, 160999] w μ1549 μ1613 → rec3 ((z1548 + 1), μ1613)))))
def WL_X12_rethink_W_2 (w : mW) (Q : mM → Prop) (μ912 : mM) (z924 : Int) (rec2 : (Int × mM) → Prop) (s : (Int × mM)) : Prop := ∀ z1270 : Int, ∀ μ1271 : mM, s = (z1270, μ1271) → (0 ≤ z1270 ∧ z1270 ≤ 10) → mT w μ1271 → mF [106026, 106027, 106028, 106029, 106030, 106031, 106072, 126999, 151999, 152999, 153999, 155999, 156999, 157999, 158999, 159999, 160999] w μ912 μ1271 → ((z924 ≤ z1270) → Q μ1271) ∧ ((z1270 < z924) → loopF (WL_X12_rethink_W_3 w rec2 z1270 μ1271) False 22 ((0 : Int), μ1271))
def WL_X12_rethink_W_1 (w : mW) (μ : mM) (Q : mM → Prop) (rec1 : (Int × mM) → Prop) (s : (Int × mM)) : Prop := ∀ z911 : Int, ∀ μ912 : mM, s = (z911, μ912) → (0 ≤ z911 ∧ z911 ≤ 10) → mT w μ912 → mF [106026, 106027, 106028, 106029, 106030, 106031, 106072, 126999, 151999, 152999, 153999, 155999, 156999, 157999, 158999, 159999, 160999, 161999, 165999] w μ μ912 → ∀ z924 : Int, μ912 106 5 = z924 → (0 ≤ z924 ∧ z924 ≤ 10) → ((z924 ≤ z911) → loopF (WL_X12_rethink_W_2 w Q μ912 z924) False 12 ((0 : Int), μ912)) ∧ ((z911 < z924) → WP_X12_lookAll_W w μ912 z911 (fun μ1619 => mT w μ1619 → mF [106026, 106027, 106028, 106029, 106030, 106031, 106072, 126999, 151999, 152999, 153999, 155999, 156999, 157999, 158999, 159999, 160999, 161999, 165999] w μ912 μ1619 → rec1 ((z911 + 1), μ1619)))
def WP_X12_rethink_W (w : mW) (μ : mM) (Q : mM → Prop) : Prop := loopF (WL_X12_rethink_W_1 w μ Q) False 12 ((0 : Int), μ)
theorem vc_X12_rethink_W_3  : (80 : Int) ≤ (80 : Int) ∧ (5200 : Int) ≤ (5200 : Int) := by omega
theorem vc_X12_rethink_W_5 {z1270 z911 z924 : Int} (h0 : z1270 < z924) (h1 : z924 ≤ z911) (h2 : 0 ≤ z1270 ∧ z1270 ≤ 10) (h3 : 0 ≤ z911 ∧ z911 ≤ 10) (h4 : 0 ≤ z924 ∧ z924 ≤ 10) : 0 ≤ z1270 ∧ z1270 ≤ 9 := by omega
theorem vc_X12_rethink_W_6 {z1270 z911 z924 : Int} (h0 : z1270 < z924) (h1 : z924 ≤ z911) (h2 : 0 ≤ z1270 ∧ z1270 ≤ 9) (h3 : 0 ≤ z911 ∧ z911 ≤ 10) (h4 : 0 ≤ z924 ∧ z924 ≤ 10) : 1 ≤ z924 ∧ z924 ≤ 10 := by omega
theorem vc_X12_rethink_W_8 {N z1270 z911 z924 : Int} (h0 : (11 - z1270) < N + 1) (h1 : z1270 < z924) (h2 : z924 ≤ z911) (h3 : 0 ≤ z1270 ∧ z1270 ≤ 9) (h4 : 0 ≤ z911 ∧ z911 ≤ 10) (h5 : 1 ≤ z924 ∧ z924 ≤ 10) : (11 - (z1270 + 1)) < N := by omega
theorem vc_X12_rethink_W_12 {z1270 z1588 z1591 z1598 z924 : Int} (h0 : (z1598 = 1 → z1588 = z1270 ∨ z1591 = z1270)) (h1 : (z1598 = 0 → ¬ z1588 = z1270 ∧ ¬ z1591 = z1270)) (h2 : z1598 = 0) (h3 : z1270 < z924) (h4 : 0 ≤ z1270 ∧ z1270 ≤ 9) (h5 : 0 ≤ z1588 ∧ z1588 ≤ 9) (h6 : 0 ≤ z1591 ∧ z1591 ≤ 9) (h7 : 0 ≤ z1598 ∧ z1598 ≤ 0) (h8 : 1 ≤ z924 ∧ z924 ≤ 10) : z1598 = 0 := by omega
theorem vc_X12_rethink_W_15 {z1270 z1588 z1591 z1598 z924 : Int} (h0 : (z1598 = 1 → z1588 = z1270 ∨ z1591 = z1270)) (h1 : (z1598 = 0 → ¬ z1588 = z1270 ∧ ¬ z1591 = z1270)) (h2 : ¬ z1598 = 0) (h3 : z1270 < z924) (h4 : 0 ≤ z1270 ∧ z1270 ≤ 9) (h5 : 0 ≤ z1588 ∧ z1588 ≤ 9) (h6 : 0 ≤ z1591 ∧ z1591 ≤ 9) (h7 : 1 ≤ z1598 ∧ z1598 ≤ 1) (h8 : 1 ≤ z924 ∧ z924 ≤ 10) : z1598 = 1 := by omega
theorem vc_X12_rethink_W_17 {z1270 z1588 z1591 z1598 z911 z924 : Int} (h0 : z1270 < z924) (h1 : (z1598 = 1 → z1588 = z1270 ∨ z1591 = z1270)) (h2 : (z1598 = 0 → ¬ z1588 = z1270 ∧ ¬ z1591 = z1270)) (h3 : z1588 = z1270 ∨ z1591 = z1270) (h4 : z924 ≤ z911) (h5 : ¬ z1598 = 0) (h6 : 0 ≤ z1270 ∧ z1270 ≤ 9) (h7 : 0 ≤ z1588 ∧ z1588 ≤ 9) (h8 : 0 ≤ z1591 ∧ z1591 ≤ 9) (h9 : 1 ≤ z1598 ∧ z1598 ≤ 1) (h10 : 0 ≤ z911 ∧ z911 ≤ 10) (h11 : 1 ≤ z924 ∧ z924 ≤ 10) : z1588 = z1270 ∨ z1591 = z1270 := by omega
theorem vc_X12_rethink_W_18  : (80 : Int) ≤ (80 : Int) ∧ (120 : Int) ≤ (5200 : Int) := by omega
theorem vc_X12_rethink_W_24  : (80 : Int) ≤ (80 : Int) ∧ (960 : Int) ≤ (5200 : Int) := by omega
theorem vc_X12_rethink_W_25 {z911 z924 : Int} (h0 : z911 < z924) (h1 : 0 ≤ z911 ∧ z911 ≤ 9) (h2 : 1 ≤ z924 ∧ z924 ≤ 10) : 80 ≤ ((400 * z911) + 1200) ∧ ((400 * z911) + 1600) ≤ 5200 := by omega
set_option maxRecDepth 4000 in
set_option maxHeartbeats 4000000 in
theorem c_X12_rethink_W {l : Launch} {D : va_G} {c : Nat → ClassId} {H0 : Heap} {sa : Nat × Nat × (Nat → Int32)} {w : mW} {μ : mM} (hw : mWF w) (hT : mT w μ) (hIG1 : G1 μ) (hIEV : EV μ) (hIPK : PK μ) {Q : mM → Prop} (hQ : WP_X12_rethink_W w μ  Q) : sC (gG l D c H0 sa) mX12_rethink 12 0 0 [.ref 106] (mk w μ) (qV w [106026, 106027, 106028, 106029, 106030, 106031, 106072, 126999, 151999, 152999, 153999, 155999, 156999, 157999, 158999, 159999, 160999, 161999, 165999] μ (fun μ1 => mG [(80, 5200), (21200, 53200)] μ μ1 ∧ G1 μ1 ∧ EV μ1 ∧ Q μ1 ∧ True)) := by
  refine sC.of rfl (by decide) (le_t rfl) ?_
  refine mr_lvE (lv' := [(0, .ref 106)]) rfl ?_
  refine mr_iconst (pc := 0) (z := 0) dX12_rethink_0 ?_
  refine mr_istore_n (pc := 1) (lv' := [(1, iv 0), (0, .ref 106)]) dX12_rethink_1 rfl (by decide) rfl ?_
  have L913 : ∀ (nL913 : Nat) (z911 : Int) (μ912 : mM), mT w μ912 → mF [106026, 106027, 106028, 106029, 106030, 106031, 106072, 126999, 151999, 152999, 153999, 155999, 156999, 157999, 158999, 159999, 160999, 161999, 165999] w μ μ912 → mG [(80, 5200), (21200, 53200)] μ μ912 → (0 ≤ z911 ∧ z911 ≤ 10) → G1 μ912 → EV μ912 → PK μ912 → (11 - z911) < (nL913 : Int) → loopF (WL_X12_rethink_W_1 w μ Q) False nL913 (z911, μ912) → sV (gG l D c H0 sa) mX12_rethink (sRm 12 0 0) (sZ (gG l D c H0 sa) 0 0 (qV w [106026, 106027, 106028, 106029, 106030, 106031, 106072, 126999, 151999, 152999, 153999, 155999, 156999, 157999, 158999, 159999, 160999, 161999, 165999] μ (fun μ1 => mG [(80, 5200), (21200, 53200)] μ μ1 ∧ G1 μ1 ∧ EV μ1 ∧ Q μ1 ∧ True))) 2 [(0, .ref 106), (1, iv z911)] [] (mk w μ912) 0 0 := by
    intro nL913
    induction nL913 with
    | zero => intro z911 μ912 T915 F916 G917 h914 I918 I919 I920 h921 W922; exact ((vc_X12_ring_2 h921 h914)).elim
    | succ nL913 ih923 =>
      intro z911 μ912 T915 F916 G917 h914 I918 I919 I920 h921 W922
      refine mr_iload_n (pc := 2) (z := z911) dX12_rethink_2 rfl rfl ?_
      refine sv_aload_n (pc := 3) dX12_rethink_3 rfl rfl ?_
      refine gf_X12_5 (pc := 4) dX12_rethink_4 wF_X12_34 (A_106 hw) T915 fun z924 q925 h926 => ?_
      refine mr_icmp_ge (pc := 7) (tgt := 21) dX12_rethink_7 (by decide) (r32 h914 rfl) (r32 h926 rfl) (fun h933 => ?_) (fun h933 => ?_)
      · refine mr_iconst (pc := 21) (z := 0) dX12_rethink_21 ?_
        refine mr_istore_n (pc := 22) (lv' := [(1, iv 0), (0, .ref 106)]) dX12_rethink_22 rfl (by decide) rfl ?_
        have L1272 : ∀ (nL1272 : Nat) (z1270 : Int) (μ1271 : mM), mT w μ1271 → mF [106026, 106027, 106028, 106029, 106030, 106031, 106072, 126999, 151999, 152999, 153999, 155999, 156999, 157999, 158999, 159999, 160999] w μ912 μ1271 → mG [(80, 5200), (21200, 53200)] μ912 μ1271 → (0 ≤ z1270 ∧ z1270 ≤ 10) → G1 μ1271 → EV μ1271 → PK μ1271 → (11 - z1270) < (nL1272 : Int) → loopF (WL_X12_rethink_W_2 w Q μ912 z924) False nL1272 (z1270, μ1271) → sV (gG l D c H0 sa) mX12_rethink (sRm 12 0 0) (sZ (gG l D c H0 sa) 0 0 (qV w [106026, 106027, 106028, 106029, 106030, 106031, 106072, 126999, 151999, 152999, 153999, 155999, 156999, 157999, 158999, 159999, 160999, 161999, 165999] μ (fun μ1 => mG [(80, 5200), (21200, 53200)] μ μ1 ∧ G1 μ1 ∧ EV μ1 ∧ Q μ1 ∧ True))) 23 [(0, .ref 106), (1, iv z1270)] [] (mk w μ1271) 0 0 := by
          intro nL1272
          induction nL1272 with
          | zero => intro z1270 μ1271 T1274 F1275 G1276 h1273 I1277 I1278 I1279 h1280 W1281; exact ((vc_X12_ring_2 h1280 h1273)).elim
          | succ nL1272 ih1282 =>
            intro z1270 μ1271 T1274 F1275 G1276 h1273 I1277 I1278 I1279 h1280 W1281
            refine mr_iload_n (pc := 23) (z := z1270) dX12_rethink_23 rfl rfl ?_
            refine sv_aload_n (pc := 24) dX12_rethink_24 rfl rfl ?_
            refine gk_X12_5 (pc := 25) dX12_rethink_25 wF_X12_34 (A_106 hw) (F1275.f (A_106 hw) rfl q925) ?_
            refine mr_icmp_ge (pc := 28) (tgt := 68) dX12_rethink_28 (by decide) (r32 h1273 rfl) (r32 h926 rfl) (fun h1337 => ?_) (fun h1337 => ?_)
            · exact mr_vret dX12_rethink_68 rfl (le_t rfl) (le_t rfl) T1274 (mF.call (mF.call mF.refl F916 rfl) F1275 rfl) ⟨(mG.call (mG.call mG.refl G917 (List.forall_mem_cons.mpr ⟨⟨_, List.mem_cons_self, vc_X12_rethink_W_3⟩, (List.forall_mem_cons.mpr ⟨⟨_, (List.mem_cons_of_mem _ List.mem_cons_self), vc_X12_say_W_25⟩, (fun _ h => absurd h List.not_mem_nil)⟩)⟩)) G1276 (List.forall_mem_cons.mpr ⟨⟨_, List.mem_cons_self, vc_X12_rethink_W_3⟩, (List.forall_mem_cons.mpr ⟨⟨_, (List.mem_cons_of_mem _ List.mem_cons_self), vc_X12_say_W_25⟩, (fun _ h => absurd h List.not_mem_nil)⟩)⟩)), I1277, I1278, ((W1281 z1270 μ1271 rfl h1273 T1274 F1275).1 h1337), trivial⟩
            have h1338 : 0 ≤ z1270 ∧ z1270 ≤ 9 := (vc_X12_rethink_W_5 h1337 h933 h1273 h914 h926)
            have h1339 : 1 ≤ z924 ∧ z924 ≤ 10 := (vc_X12_rethink_W_6 h1337 h933 h1338 h914 h926)
            refine mr_iconst (pc := 31) (z := 0) dX12_rethink_31 ?_
            refine mr_istore_n (pc := 32) (lv' := [(2, iv 0), (0, .ref 106), (1, iv z1270)]) dX12_rethink_32 rfl (by decide) rfl ?_
            have L1550 : ∀ (nL1550 : Nat) (z1548 : Int) (μ1549 : mM), mT w μ1549 → mF [106026, 106027, 106028, 106029, 106030, 106031, 106072, 126999, 151999, 152999, 153999, 155999, 156999, 157999, 158999, 159999, 160999] w μ1271 μ1549 → mG [(80, 5200), (21200, 53200)] μ1271 μ1549 → (0 ≤ z1548 ∧ z1548 ≤ 20) → G1 μ1549 → EV μ1549 → PK μ1549 → (21 - z1548) < (nL1550 : Int) → loopF (WL_X12_rethink_W_3 w (loopF (WL_X12_rethink_W_2 w Q μ912 z924) False nL1272) z1270 μ1271) False nL1550 (z1548, μ1549) → sV (gG l D c H0 sa) mX12_rethink (sRm 12 0 0) (sZ (gG l D c H0 sa) 0 0 (qV w [106026, 106027, 106028, 106029, 106030, 106031, 106072, 126999, 151999, 152999, 153999, 155999, 156999, 157999, 158999, 159999, 160999, 161999, 165999] μ (fun μ1 => mG [(80, 5200), (21200, 53200)] μ μ1 ∧ G1 μ1 ∧ EV μ1 ∧ Q μ1 ∧ True))) 33 [(0, .ref 106), (1, iv z1270), (2, iv z1548)] [] (mk w μ1549) 0 0 := by
              intro nL1550
              induction nL1550 with
              | zero => intro z1548 μ1549 T1552 F1553 G1554 h1551 I1555 I1556 I1557 h1558 W1559; exact ((vc_X12_tieOf_1 h1558 h1551)).elim
              | succ nL1550 ih1560 =>
                intro z1548 μ1549 T1552 F1553 G1554 h1551 I1555 I1556 I1557 h1558 W1559
                refine mr_iload_n (pc := 33) (z := z1548) dX12_rethink_33 rfl rfl ?_
                refine sv_aload_n (pc := 34) dX12_rethink_34 rfl rfl ?_
                refine gf_X12_6 (pc := 35) dX12_rethink_35 wF_X12_37 (A_106 hw) T1552 fun z1561 q1562 h1563 => ?_
                refine mr_icmp_ge (pc := 38) (tgt := 62) dX12_rethink_38 (by decide) (r32 h1551 rfl) (r32 h1563 rfl) (fun h1585 => ?_) (fun h1585 => ?_)
                · refine mr_iinc (pc := 62) (lv' := [(1, iv (z1270 + 1)), (0, .ref 106), (2, iv z1548)]) dX12_rethink_62 rfl (by decide) rfl ?_
                  refine sv_goto (pc := 65) (tgt := 23) dX12_rethink_65 (by decide) ?_
                  refine mr_lvS (lv' := [(0, .ref 106), (1, iv (z1270 + 1))]) (List.forall_mem_cons.mpr ⟨rfl, List.forall_mem_cons.mpr ⟨rfl, fun _ h => absurd h List.not_mem_nil⟩⟩) ?_
                  exact ih1282 (z1270 + 1) μ1549 T1552 (mF.call (mF.call mF.refl F1275 rfl) F1553 rfl) (mG.call (mG.call mG.refl G1276 (List.forall_mem_cons.mpr ⟨⟨_, List.mem_cons_self, vc_X12_rethink_W_3⟩, (List.forall_mem_cons.mpr ⟨⟨_, (List.mem_cons_of_mem _ List.mem_cons_self), vc_X12_say_W_25⟩, (fun _ h => absurd h List.not_mem_nil)⟩)⟩)) G1554 (List.forall_mem_cons.mpr ⟨⟨_, List.mem_cons_self, vc_X12_rethink_W_3⟩, (List.forall_mem_cons.mpr ⟨⟨_, (List.mem_cons_of_mem _ List.mem_cons_self), vc_X12_say_W_25⟩, (fun _ h => absurd h List.not_mem_nil)⟩)⟩)) (rW (c := 0) (d := 10) (rAdd (e := 1) (f := 10) h1338 (rR (x := 1)) rfl) rfl) I1555 I1556 I1557 (vc_X12_rethink_W_8 (nS h1280) h1337 h933 h1338 h914 h1339) (((W1559 z1548 μ1549 rfl h1551 T1552 F1553) z1561 q1562 h1563).1 h1585)
                have h1586 : 0 ≤ z1548 ∧ z1548 ≤ 19 := (vc_X12_tieOf_3 h1585 h1551 h1563)
                have h1587 : 1 ≤ z1561 ∧ z1561 ≤ 20 := (vc_X12_tieOf_4 h1585 h1586 h1563)
                refine sv_aload_n (pc := 41) dX12_rethink_41 rfl rfl ?_
                refine mr_iload_n (pc := 42) (z := z1548) dX12_rethink_42 rfl rfl ?_
                refine mr_iload_n (pc := 43) (z := z1270) dX12_rethink_43 rfl rfl ?_
                obtain ⟨z1588, q1589⟩ : ∃ z, μ1549 110 ((2 * z1548).toNat) = z := ⟨_, rfl⟩
                have h1590 : (0 ≤ z1588 ∧ z1588 ≤ 9) := by rw [← q1589]; exact T1552 110 110 (A_110 hw) ((2 * z1548).toNat)
                obtain ⟨z1591, q1592⟩ : ∃ z, μ1549 110 (((2 * z1548) + 1).toNat) = z := ⟨_, rfl⟩
                have h1593 : (0 ≤ z1591 ∧ z1591 ≤ 9) := by rw [← q1592]; exact T1552 110 110 (A_110 hw) (((2 * z1548) + 1).toNat)
                have W1599 := (((((W1559 z1548 μ1549 rfl h1551 T1552 F1553) z1561 q1562 h1563).2 h1585) z1588 q1589 h1590) z1591 q1592 h1593)
                refine mr_cVP (pc := 44) (c_X12_isAt_W hw T1552 h1586 (rW (c := (-2147483648)) (d := 2147483647) h1338 rfl) q1589 q1592 W1599) (gOk _ _ _ _ _) dX12_rethink_44 (tX12_isAt _ _ _ _ _) ⟨wV_X12_isAt, wL_X12_isAt⟩ wM_X12_562 (gCX12 _ _ _ _ _) rfl (A_106 hw) rfl ⟨le_t rfl, le_t rfl⟩ ⟨le_t rfl, le_t rfl⟩ rfl (le_t rfl) fun z1598 h1597 => ?_
                refine mr_if_eq (pc := 47) (tgt := 56) dX12_rethink_47 (by decide) (r32 h1597.1 rfl) (fun h1608 => ?_) (fun h1608 => ?_)
                · have h1609 : 0 ≤ z1598 ∧ z1598 ≤ 0 := (vc_X12_candidates_W_5 h1608 h1597.2.1 h1597.2.2.1 h1338 h1590 h1593 h1597.1)
                  have h1610 : ¬ z1588 = z1270 ∧ ¬ z1591 = z1270 := (h1597.2.2.1 (vc_X12_rethink_W_12 h1597.2.1 h1597.2.2.1 h1608 h1337 h1338 h1590 h1593 h1609 h1339))
                  refine mr_iinc (pc := 56) (lv' := [(2, iv (z1548 + 1)), (0, .ref 106), (1, iv z1270)]) dX12_rethink_56 rfl (by decide) rfl ?_
                  refine sv_goto (pc := 59) (tgt := 33) dX12_rethink_59 (by decide) ?_
                  refine mr_lvS (lv' := [(0, .ref 106), (1, iv z1270), (2, iv (z1548 + 1))]) (List.forall_mem_cons.mpr ⟨rfl, List.forall_mem_cons.mpr ⟨rfl, List.forall_mem_cons.mpr ⟨rfl, fun _ h => absurd h List.not_mem_nil⟩⟩⟩) ?_
                  exact ih1560 (z1548 + 1) μ1549 T1552 (mF.call mF.refl F1553 rfl) (mG.call mG.refl G1554 (List.forall_mem_cons.mpr ⟨⟨_, List.mem_cons_self, vc_X12_rethink_W_3⟩, (List.forall_mem_cons.mpr ⟨⟨_, (List.mem_cons_of_mem _ List.mem_cons_self), vc_X12_say_W_25⟩, (fun _ h => absurd h List.not_mem_nil)⟩)⟩)) (rW (c := 0) (d := 20) (rAdd (e := 1) (f := 20) h1586 (rR (x := 1)) rfl) rfl) I1555 I1556 I1557 (vc_X12_tieOf_5 (nS h1558) h1585 h1586 h1587) ((h1597.2.2.2.1 h1597.1).1 h1608)
                have h1611 : 1 ≤ z1598 ∧ z1598 ≤ 1 := (vc_X12_candidates_W_12 h1608 h1597.2.1 h1597.2.2.1 h1338 h1590 h1593 h1597.1)
                have h1612 : z1588 = z1270 ∨ z1591 = z1270 := (h1597.2.1 (vc_X12_rethink_W_15 h1597.2.1 h1597.2.2.1 h1608 h1337 h1338 h1590 h1593 h1611 h1339))
                refine sv_aload_n (pc := 50) dX12_rethink_50 rfl rfl ?_
                refine mr_iload_n (pc := 51) (z := z1270) dX12_rethink_51 rfl rfl ?_
                refine mr_iload_n (pc := 52) (z := z1548) dX12_rethink_52 rfl rfl ?_
                refine mr_cVV (pc := 53) (c_X12_sayAll_W hw T1552 h1338 h1586 q1589 q1592 q1562 (vc_X12_candidates_W_14 h1585 h1586 h1587) (vc_X12_rethink_W_17 h1337 h1597.2.1 h1597.2.2.1 h1612 h933 h1608 h1338 h1590 h1593 h1611 h914 h1339) I1555 I1556 I1557 ((h1597.2.2.2.1 h1597.1).2 h1608)) (gOk _ _ _ _ _) dX12_rethink_53 (tX12_sayAll _ _ _ _ _) ⟨wV_X12_sayAll, wL_X12_sayAll⟩ wM_X12_603 (gCX12 _ _ _ _ _) rfl (A_106 hw) rfl ⟨le_t rfl, le_t rfl⟩ ⟨le_t rfl, le_t rfl⟩ rfl (le_t rfl) fun μ1613 T1614 F1615 h1616 => ?_
                refine mr_iinc (pc := 56) (lv' := [(2, iv (z1548 + 1)), (0, .ref 106), (1, iv z1270)]) dX12_rethink_56 rfl (by decide) rfl ?_
                refine sv_goto (pc := 59) (tgt := 33) dX12_rethink_59 (by decide) ?_
                refine mr_lvS (lv' := [(0, .ref 106), (1, iv z1270), (2, iv (z1548 + 1))]) (List.forall_mem_cons.mpr ⟨rfl, List.forall_mem_cons.mpr ⟨rfl, List.forall_mem_cons.mpr ⟨rfl, fun _ h => absurd h List.not_mem_nil⟩⟩⟩) ?_
                exact ih1560 (z1548 + 1) μ1613 T1614 (mF.call (mF.call mF.refl F1553 rfl) F1615 rfl) (mG.call (mG.call mG.refl G1554 (List.forall_mem_cons.mpr ⟨⟨_, List.mem_cons_self, vc_X12_rethink_W_3⟩, (List.forall_mem_cons.mpr ⟨⟨_, (List.mem_cons_of_mem _ List.mem_cons_self), vc_X12_say_W_25⟩, (fun _ h => absurd h List.not_mem_nil)⟩)⟩)) h1616.1 (List.forall_mem_cons.mpr ⟨⟨_, List.mem_cons_self, vc_X12_rethink_W_18⟩, (List.forall_mem_cons.mpr ⟨⟨_, (List.mem_cons_of_mem _ List.mem_cons_self), vc_X12_say_W_25⟩, (fun _ h => absurd h List.not_mem_nil)⟩)⟩)) (rW (c := 0) (d := 20) (rAdd (e := 1) (f := 20) h1586 (rR (x := 1)) rfl) rfl) h1616.2.1 h1616.2.2.1 (PK.keep I1557 hw ((mF.call mF.refl F1615 rfl) : mF [106026, 106027, 106028, 106029, 106030, 106031, 106072, 126999, 151999, 152999, 153999, 155999, 156999, 157999, 158999, 159999, 160999] w μ1549 μ1613) rfl) (vc_X12_tieOf_5 (nS h1558) h1585 h1586 h1587) (h1616.2.2.2.1 T1614 F1615)
            refine mr_lvS (lv' := [(0, .ref 106), (1, iv z1270), (2, iv 0)]) (List.forall_mem_cons.mpr ⟨rfl, List.forall_mem_cons.mpr ⟨rfl, List.forall_mem_cons.mpr ⟨rfl, fun _ h => absurd h List.not_mem_nil⟩⟩⟩) ?_
            exact L1550 22 0 μ1271 T1274 mF.refl mG.refl (rW (c := 0) (d := 20) (rR (x := 0)) rfl) I1277 I1278 I1279 vc_X12_tieOf_12 ((W1281 z1270 μ1271 rfl h1273 T1274 F1275).2 h1337)
        refine mr_lvS (lv' := [(0, .ref 106), (1, iv 0)]) (List.forall_mem_cons.mpr ⟨rfl, List.forall_mem_cons.mpr ⟨rfl, fun _ h => absurd h List.not_mem_nil⟩⟩) ?_
        exact L1272 12 0 μ912 T915 mF.refl mG.refl (rW (c := 0) (d := 10) (rR (x := 0)) rfl) I918 I919 I920 vc_X12_ring_27 (((W922 z911 μ912 rfl h914 T915 F916) z924 q925 h926).1 h933)
      have h1617 : 0 ≤ z911 ∧ z911 ≤ 9 := (vc_X12_ring_3 h933 h914 h926)
      have h1618 : 1 ≤ z924 ∧ z924 ≤ 10 := (vc_X12_ring_4 h933 h1617 h926)
      refine sv_aload_n (pc := 10) dX12_rethink_10 rfl rfl ?_
      refine mr_iload_n (pc := 11) (z := z911) dX12_rethink_11 rfl rfl ?_
      refine mr_cVV (pc := 12) (c_X12_lookAll_W hw T915 h1617 I918 I919 I920 (((W922 z911 μ912 rfl h914 T915 F916) z924 q925 h926).2 h933)) (gOk _ _ _ _ _) dX12_rethink_12 (tX12_lookAll _ _ _ _ _) ⟨wV_X12_lookAll, wL_X12_lookAll⟩ wM_X12_600 (gCX12 _ _ _ _ _) rfl (A_106 hw) rfl ⟨le_t rfl, le_t rfl⟩ ⟨le_t rfl, le_t rfl⟩ rfl (le_t rfl) fun μ1619 T1620 F1621 h1622 => ?_
      refine mr_iinc (pc := 15) (lv' := [(1, iv (z911 + 1)), (0, .ref 106)]) dX12_rethink_15 rfl (by decide) rfl ?_
      refine sv_goto (pc := 18) (tgt := 2) dX12_rethink_18 (by decide) ?_
      refine mr_lvS (lv' := [(0, .ref 106), (1, iv (z911 + 1))]) (List.forall_mem_cons.mpr ⟨rfl, List.forall_mem_cons.mpr ⟨rfl, fun _ h => absurd h List.not_mem_nil⟩⟩) ?_
      exact ih923 (z911 + 1) μ1619 T1620 (mF.call (mF.call mF.refl F916 rfl) F1621 rfl) (mG.call (mG.call mG.refl G917 (List.forall_mem_cons.mpr ⟨⟨_, List.mem_cons_self, vc_X12_rethink_W_3⟩, (List.forall_mem_cons.mpr ⟨⟨_, (List.mem_cons_of_mem _ List.mem_cons_self), vc_X12_say_W_25⟩, (fun _ h => absurd h List.not_mem_nil)⟩)⟩)) h1622.1 (List.forall_mem_cons.mpr ⟨⟨_, List.mem_cons_self, vc_X12_rethink_W_24⟩, (List.forall_mem_cons.mpr ⟨⟨_, List.mem_cons_self, (vc_X12_rethink_W_25 h933 h1617 h1618)⟩, (List.forall_mem_cons.mpr ⟨⟨_, (List.mem_cons_of_mem _ List.mem_cons_self), vc_X12_say_W_25⟩, (fun _ h => absurd h List.not_mem_nil)⟩)⟩)⟩)) (rW (c := 0) (d := 10) (rAdd (e := 1) (f := 10) h1617 (rR (x := 1)) rfl) rfl) h1622.2.1 h1622.2.2.1 (PK.keep I920 hw ((mF.call mF.refl F1621 rfl) : mF [106026, 106027, 106028, 106029, 106030, 106031, 106072, 126999, 151999, 152999, 153999, 155999, 156999, 157999, 158999, 159999, 160999, 161999, 165999] w μ912 μ1619) rfl) (vc_X12_sends_11 (nS h921) h933 h1617 h1618) (h1622.2.2.2.1 T1620 F1621)
  refine mr_lvS (lv' := [(0, .ref 106), (1, iv 0)]) (List.forall_mem_cons.mpr ⟨rfl, List.forall_mem_cons.mpr ⟨rfl, fun _ h => absurd h List.not_mem_nil⟩⟩) ?_
  exact L913 12 0 μ hT mF.refl mG.refl (rW (c := 0) (d := 10) (rR (x := 0)) rfl) hIG1 hIEV hIPK vc_X12_ring_27 hQ
