set_option maxHeartbeats 40000000 in
set_option maxRecDepth 100000 in
theorem op_32 (l : Launch) (D : va_G) (c : Nat → ClassId) (H0 : Heap) (b : Nat) (xs : Nat → Int32) (Z : sZT) (x1 x2 x3 x4 x5 x6 : Int32) (hx1 : xs 1 = x1) (hx2 : xs 2 = x2) (hx3 : xs 3 = x3) (hx4 : xs 4 = x4) (hx5 : xs 5 = x5) (hx6 : xs 6 = x6) (kk : ∀ (hp : sHp) (ce sl : Nat), ce ≤ 600000 → sl ≤ 7302250 → sV (gG l D c H0 (b, 7, xs)) mL room_1 Z 1799 [(3, .int 0), (2, .ref 106), (1, .ref 0), (0, .retAddr 0)] [] hp ce sl) : sV (gG l D c H0 (b, 7, xs)) mL room_1 Z 1370 [(3, .int 0), (2, .ref 106), (1, .ref 0), (0, .retAddr 0)] [] (192, tF) 192 297215 := by
  refine sv_aload_n (pc := 1370) dL_law_1370 rfl rfl ?_
  refine sv_aload_nS (pc := 1371) dL_law_1371 rfl rfl ?_
  refine sv_iload_n (pc := 1372) dL_law_1372 rfl rfl ?_
  refine sv_iconst (pc := 1373) (v := 1) dL_law_1373 (by decide) ?_
  refine sw_iadd (pc := 1374) (v := 1) dL_law_1374 (by decide) ?_
  refine sw_sld (pc := 1375) (v := x1) dL_law_1375 (k := 1) (by decide) (by decide) rfl hx1 ?_
  refine sv_aload_nS (pc := 1376) dL_law_1376 rfl rfl ?_
  refine sv_iload_n (pc := 1377) dL_law_1377 rfl rfl ?_
  refine sv_iconst (pc := 1378) (v := 2) dL_law_1378 (by decide) ?_
  refine sw_iadd (pc := 1379) (v := 2) dL_law_1379 (by decide) ?_
  refine sw_sld (pc := 1380) (v := x2) dL_law_1380 (k := 2) (by decide) (by decide) rfl hx2 ?_
  refine sv_callV (pc := 1381) (M' := mX11_hear) (d' := 20) (C' := 0) (S' := 0) (av := [.int x1, .int x2]) ?_ (gOk _ _ _ _ _) dL_law_1381 (tX11_hear _ _ _ _ _) ⟨wV_X11_hear, wL_X11_hear⟩ wM_DomainHouseLaw_150 (gCX11 _ _ _ _ _) rfl (lt_t rfl) rfl ⟨le_t rfl, le_t rfl⟩ ⟨le_t rfl, le_t rfl⟩ rfl (le_t rfl) (fun _ _ h => h)
  refine sC.of rfl (by decide) (le_t rfl) ?_
  refine sv_aload_n (pc := 0) dX11_hear_0 rfl rfl ?_
  refine sv_iload_n (pc := 1) dX11_hear_1 rfl rfl ?_
  refine sv_callV (pc := 2) (M' := mX11_isTie) (d' := 19) (C' := 0) (S' := 0) (av := [.int x1]) ?_ (gOk _ _ _ _ _) dX11_hear_2 (tX11_isTie _ _ _ _ _) ⟨wV_X11_isTie, wL_X11_isTie⟩ wM_X11_119 (gCX11 _ _ _ _ _) rfl (lt_t rfl) rfl ⟨le_t rfl, le_t rfl⟩ ⟨le_t rfl, le_t rfl⟩ rfl (le_t rfl) (fun _ _ h => h)
  refine sC.of rfl (by decide) (le_t rfl) ?_
  refine sv_iload_n (pc := 0) dX11_isTie_0 rfl rfl ?_
  refine sv_if_lt (pc := 1) (tgt := 19) dX11_isTie_1 (by decide) (fun h_1 => ?_) (fun h_1 => ?_)
  · refine sv_iconst (pc := 19) (v := 0) dX11_isTie_19 (by decide) ?_
    refine sv_zret (pc := 20) dX11_isTie_20 rfl (by decide) (le_t rfl) (le_t rfl) ?_
    refine sv_if_eq (pc := 5) (tgt := 15) dX11_hear_5 (by decide) (fun _ => ?_) (fun h => absurd (by decide) h)
    refine sv_iconst (pc := 15) (v := (-1)) dX11_hear_15 (by decide) ?_
    refine sv_iret (pc := 16) dX11_hear_16 rfl (le_t rfl) (le_t rfl) ?_
    refine sv_aload_n (pc := 1384) dL_law_1384 rfl rfl ?_
    refine sv_aload_nS (pc := 1385) dL_law_1385 rfl rfl ?_
    refine sv_iload_n (pc := 1386) dL_law_1386 rfl rfl ?_
    refine sv_iconst (pc := 1387) (v := 1) dL_law_1387 (by decide) ?_
    refine sw_iadd (pc := 1388) (v := 1) dL_law_1388 (by decide) ?_
    refine sw_sld (pc := 1389) (v := x1) dL_law_1389 (k := 1) (by decide) (by decide) rfl hx1 ?_
    refine sv_aload_nS (pc := 1390) dL_law_1390 rfl rfl ?_
    refine sv_iload_n (pc := 1391) dL_law_1391 rfl rfl ?_
    refine sv_iconst (pc := 1392) (v := 2) dL_law_1392 (by decide) ?_
    refine sw_iadd (pc := 1393) (v := 2) dL_law_1393 (by decide) ?_
    refine sw_sld (pc := 1394) (v := x2) dL_law_1394 (k := 2) (by decide) (by decide) rfl hx2 ?_
    refine sv_callV (pc := 1395) (M' := mX12_hear) (d' := 20) (C' := 0) (S' := 0) (av := [.int x1, .int x2]) ?_ (gOk _ _ _ _ _) dL_law_1395 (tX12_hear _ _ _ _ _) ⟨wV_X12_hear, wL_X12_hear⟩ wM_DomainHouseLaw_153 (gCX12 _ _ _ _ _) rfl (lt_t rfl) rfl ⟨le_t rfl, le_t rfl⟩ ⟨le_t rfl, le_t rfl⟩ rfl (le_t rfl) (fun _ _ h => h)
    refine sC.of rfl (by decide) (le_t rfl) ?_
    refine sv_aload_n (pc := 0) dX12_hear_0 rfl rfl ?_
    refine sv_iload_n (pc := 1) dX12_hear_1 rfl rfl ?_
    refine sv_callV (pc := 2) (M' := mX12_isTie) (d' := 19) (C' := 0) (S' := 0) (av := [.int x1]) ?_ (gOk _ _ _ _ _) dX12_hear_2 (tX12_isTie _ _ _ _ _) ⟨wV_X12_isTie, wL_X12_isTie⟩ wM_X12_66 (gCX12 _ _ _ _ _) rfl (lt_t rfl) rfl ⟨le_t rfl, le_t rfl⟩ ⟨le_t rfl, le_t rfl⟩ rfl (le_t rfl) (fun _ _ h => h)
    refine sC.of rfl (by decide) (le_t rfl) ?_
    refine sv_iload_n (pc := 0) dX12_isTie_0 rfl rfl ?_
    refine sv_iconst (pc := 1) (v := 0) dX12_isTie_1 (by decide) ?_
    refine sv_aload_n (pc := 2) dX12_isTie_2 rfl rfl ?_
    refine sw_getfield (pc := 3) dX12_isTie_3 (gCX12 _ _ _ _ _) 6 (by decide) wF_X12_37 rfl rfl rfl ?_
    refine sv_iconst (pc := 6) (v := 1) dX12_isTie_6 (by decide) ?_
    refine sw_isub (pc := 7) (v := (-1)) dX12_isTie_7 (by decide) ?_
    refine sv_callS (pc := 8) (M' := mX12_in) (d' := 18) (C' := 0) (S' := 0) (av := [.int x1, .int 0, .int (-1)]) ?_ (gOk _ _ _ _ _) dX12_isTie_8 (tX12_in _ _ _ _ _) wS_X12_in wM_X12_18 ⟨le_t rfl, le_t rfl⟩ ⟨le_t rfl, le_t rfl⟩ rfl (le_t rfl) (fun _ _ h => h)
    refine sC.of rfl (by decide) (le_t rfl) ?_
    refine sv_iload_n (pc := 0) dX12_in_0 rfl rfl ?_
    refine sv_iload_n (pc := 1) dX12_in_1 rfl rfl ?_
    refine sv_icmp_lt (pc := 2) (tgt := 14) dX12_in_2 (by decide) (fun _ => ?_) (fun h => absurd h_1 h)
    refine sv_iconst (pc := 14) (v := 0) dX12_in_14 (by decide) ?_
    refine sv_zret (pc := 15) dX12_in_15 rfl (by decide) (le_t rfl) (le_t rfl) ?_
    refine sv_zret (pc := 11) dX12_isTie_11 rfl (by decide) (le_t rfl) (le_t rfl) ?_
    refine sv_if_eq (pc := 5) (tgt := 17) dX12_hear_5 (by decide) (fun _ => ?_) (fun h => absurd (by decide) h)
    refine sv_iconst (pc := 17) (v := (-1)) dX12_hear_17 (by decide) ?_
    refine sv_iret (pc := 18) dX12_hear_18 rfl (le_t rfl) (le_t rfl) ?_
    refine sv_icmp_eq (pc := 1398) (tgt := 1799) dL_law_1398 (by decide) (fun _ => ?_) (fun h => absurd (by decide) h)
    exact kk _ _ _ (le_t rfl) (le_t rfl)
  refine sv_iload_n (pc := 4) dX11_isTie_4 rfl rfl ?_
  refine sv_aload_n (pc := 5) dX11_isTie_5 rfl rfl ?_
  refine sw_getfield (pc := 6) dX11_isTie_6 (gCX11 _ _ _ _ _) 3 (by decide) wF_X11_26 rfl rfl rfl ?_
  refine sw_getfield (pc := 9) dX11_isTie_9 (gCX10 _ _ _ _ _) 16 (by decide) wF_X11_112 rfl rfl rfl ?_
  refine sv_icmp_ge (pc := 12) (tgt := 19) dX11_isTie_12 (by decide) (fun _ => ?_) (fun h => False.elim (by have a0 := Int32.le_iff_toInt_le.mp (Int32.not_lt.mp h_1); have a1 := Int32.lt_iff_toInt_lt.mp (Int32.not_le.mp h); have e0 : (0 : Int32).toInt = 0 := (by decide); omega))
  refine sv_iconst (pc := 19) (v := 0) dX11_isTie_19 (by decide) ?_
  refine sv_zret (pc := 20) dX11_isTie_20 rfl (by decide) (le_t rfl) (le_t rfl) ?_
  refine sv_if_eq (pc := 5) (tgt := 15) dX11_hear_5 (by decide) (fun _ => ?_) (fun h => absurd (by decide) h)
  refine sv_iconst (pc := 15) (v := (-1)) dX11_hear_15 (by decide) ?_
  refine sv_iret (pc := 16) dX11_hear_16 rfl (le_t rfl) (le_t rfl) ?_
  refine sv_aload_n (pc := 1384) dL_law_1384 rfl rfl ?_
  refine sv_aload_nS (pc := 1385) dL_law_1385 rfl rfl ?_
  refine sv_iload_n (pc := 1386) dL_law_1386 rfl rfl ?_
  refine sv_iconst (pc := 1387) (v := 1) dL_law_1387 (by decide) ?_
  refine sw_iadd (pc := 1388) (v := 1) dL_law_1388 (by decide) ?_
  refine sw_sld (pc := 1389) (v := x1) dL_law_1389 (k := 1) (by decide) (by decide) rfl hx1 ?_
  refine sv_aload_nS (pc := 1390) dL_law_1390 rfl rfl ?_
  refine sv_iload_n (pc := 1391) dL_law_1391 rfl rfl ?_
  refine sv_iconst (pc := 1392) (v := 2) dL_law_1392 (by decide) ?_
  refine sw_iadd (pc := 1393) (v := 2) dL_law_1393 (by decide) ?_
  refine sw_sld (pc := 1394) (v := x2) dL_law_1394 (k := 2) (by decide) (by decide) rfl hx2 ?_
  refine sv_callV (pc := 1395) (M' := mX12_hear) (d' := 20) (C' := 0) (S' := 0) (av := [.int x1, .int x2]) ?_ (gOk _ _ _ _ _) dL_law_1395 (tX12_hear _ _ _ _ _) ⟨wV_X12_hear, wL_X12_hear⟩ wM_DomainHouseLaw_153 (gCX12 _ _ _ _ _) rfl (lt_t rfl) rfl ⟨le_t rfl, le_t rfl⟩ ⟨le_t rfl, le_t rfl⟩ rfl (le_t rfl) (fun _ _ h => h)
  refine sC.of rfl (by decide) (le_t rfl) ?_
  refine sv_aload_n (pc := 0) dX12_hear_0 rfl rfl ?_
  refine sv_iload_n (pc := 1) dX12_hear_1 rfl rfl ?_
  refine sv_callV (pc := 2) (M' := mX12_isTie) (d' := 19) (C' := 0) (S' := 0) (av := [.int x1]) ?_ (gOk _ _ _ _ _) dX12_hear_2 (tX12_isTie _ _ _ _ _) ⟨wV_X12_isTie, wL_X12_isTie⟩ wM_X12_66 (gCX12 _ _ _ _ _) rfl (lt_t rfl) rfl ⟨le_t rfl, le_t rfl⟩ ⟨le_t rfl, le_t rfl⟩ rfl (le_t rfl) (fun _ _ h => h)
  refine sC.of rfl (by decide) (le_t rfl) ?_
  refine sv_iload_n (pc := 0) dX12_isTie_0 rfl rfl ?_
  refine sv_iconst (pc := 1) (v := 0) dX12_isTie_1 (by decide) ?_
  refine sv_aload_n (pc := 2) dX12_isTie_2 rfl rfl ?_
  refine sw_getfield (pc := 3) dX12_isTie_3 (gCX12 _ _ _ _ _) 6 (by decide) wF_X12_37 rfl rfl rfl ?_
  refine sv_iconst (pc := 6) (v := 1) dX12_isTie_6 (by decide) ?_
  refine sw_isub (pc := 7) (v := (-1)) dX12_isTie_7 (by decide) ?_
  refine sv_callS (pc := 8) (M' := mX12_in) (d' := 18) (C' := 0) (S' := 0) (av := [.int x1, .int 0, .int (-1)]) ?_ (gOk _ _ _ _ _) dX12_isTie_8 (tX12_in _ _ _ _ _) wS_X12_in wM_X12_18 ⟨le_t rfl, le_t rfl⟩ ⟨le_t rfl, le_t rfl⟩ rfl (le_t rfl) (fun _ _ h => h)
  refine sC.of rfl (by decide) (le_t rfl) ?_
  refine sv_iload_n (pc := 0) dX12_in_0 rfl rfl ?_
  refine sv_iload_n (pc := 1) dX12_in_1 rfl rfl ?_
  refine sv_icmp_lt (pc := 2) (tgt := 14) dX12_in_2 (by decide) (fun h => absurd h h_1) (fun _ => ?_)
  refine sv_iload_n (pc := 5) dX12_in_5 rfl rfl ?_
  refine sv_iload_n (pc := 6) dX12_in_6 rfl rfl ?_
  refine sv_icmp_gt (pc := 7) (tgt := 14) dX12_in_7 (by decide) (fun _ => ?_) (fun h => False.elim (by have a0 := Int32.le_iff_toInt_le.mp (Int32.not_lt.mp h_1); have a1 := Int32.le_iff_toInt_le.mp (Int32.not_lt.mp h); have e0 : (-1 : Int32).toInt = -1 := (by decide); have e1 : (0 : Int32).toInt = 0 := (by decide); omega))
  refine sv_iconst (pc := 14) (v := 0) dX12_in_14 (by decide) ?_
  refine sv_zret (pc := 15) dX12_in_15 rfl (by decide) (le_t rfl) (le_t rfl) ?_
  refine sv_zret (pc := 11) dX12_isTie_11 rfl (by decide) (le_t rfl) (le_t rfl) ?_
  refine sv_if_eq (pc := 5) (tgt := 17) dX12_hear_5 (by decide) (fun _ => ?_) (fun h => absurd (by decide) h)
  refine sv_iconst (pc := 17) (v := (-1)) dX12_hear_17 (by decide) ?_
  refine sv_iret (pc := 18) dX12_hear_18 rfl (le_t rfl) (le_t rfl) ?_
  refine sv_icmp_eq (pc := 1398) (tgt := 1799) dL_law_1398 (by decide) (fun _ => ?_) (fun h => absurd (by decide) h)
  exact kk _ _ _ (le_t rfl) (le_t rfl)
set_option maxHeartbeats 40000000 in
set_option maxRecDepth 100000 in
theorem op_33 (l : Launch) (D : va_G) (c : Nat → ClassId) (H0 : Heap) (b : Nat) (xs : Nat → Int32) (Z : sZT) (x1 x2 x3 x4 x5 x6 : Int32) (hx1 : xs 1 = x1) (hx2 : xs 2 = x2) (hx3 : xs 3 = x3) (hx4 : xs 4 = x4) (hx5 : xs 5 = x5) (hx6 : xs 6 = x6) (kk : ∀ (hp : sHp) (ce sl : Nat), ce ≤ 600000 → sl ≤ 7302250 → sV (gG l D c H0 (b, 7, xs)) mL room_1 Z 1799 [(3, .int 0), (2, .ref 106), (1, .ref 0), (0, .retAddr 0)] [] hp ce sl) : sV (gG l D c H0 (b, 7, xs)) mL room_1 Z 1403 [(3, .int 0), (2, .ref 106), (1, .ref 0), (0, .retAddr 0)] [] (192, tF) 192 297215 := by
  refine sv_aload_n (pc := 1403) dL_law_1403 rfl rfl ?_
  refine sv_aload_nS (pc := 1404) dL_law_1404 rfl rfl ?_
  refine sv_iload_n (pc := 1405) dL_law_1405 rfl rfl ?_
  refine sv_iconst (pc := 1406) (v := 1) dL_law_1406 (by decide) ?_
  refine sw_iadd (pc := 1407) (v := 1) dL_law_1407 (by decide) ?_
  refine sw_sld (pc := 1408) (v := x1) dL_law_1408 (k := 1) (by decide) (by decide) rfl hx1 ?_
  refine sv_aload_nS (pc := 1409) dL_law_1409 rfl rfl ?_
  refine sv_iload_n (pc := 1410) dL_law_1410 rfl rfl ?_
  refine sv_iconst (pc := 1411) (v := 2) dL_law_1411 (by decide) ?_
  refine sw_iadd (pc := 1412) (v := 2) dL_law_1412 (by decide) ?_
  refine sw_sld (pc := 1413) (v := x2) dL_law_1413 (k := 2) (by decide) (by decide) rfl hx2 ?_
  refine sv_aload_nS (pc := 1414) dL_law_1414 rfl rfl ?_
  refine sv_iload_n (pc := 1415) dL_law_1415 rfl rfl ?_
  refine sv_iconst (pc := 1416) (v := 3) dL_law_1416 (by decide) ?_
  refine sw_iadd (pc := 1417) (v := 3) dL_law_1417 (by decide) ?_
  refine sw_sld (pc := 1418) (v := x3) dL_law_1418 (k := 3) (by decide) (by decide) rfl hx3 ?_
  refine sv_callV (pc := 1419) (M' := mX11_write) (d' := 20) (C' := 0) (S' := 0) (av := [.int x1, .int x2, .int x3]) ?_ (gOk _ _ _ _ _) dL_law_1419 (tX11_write _ _ _ _ _) ⟨wV_X11_write, wL_X11_write⟩ wM_DomainHouseLaw_154 (gCX11 _ _ _ _ _) rfl (lt_t rfl) rfl ⟨le_t rfl, le_t rfl⟩ ⟨le_t rfl, le_t rfl⟩ rfl (le_t rfl) (fun _ _ h => h)
  refine sC.of rfl (by decide) (le_t rfl) ?_
  refine sv_aload_n (pc := 0) dX11_write_0 rfl rfl ?_
  refine sv_iload_n (pc := 1) dX11_write_1 rfl rfl ?_
  refine sv_callV (pc := 2) (M' := mX11_isTie) (d' := 19) (C' := 0) (S' := 0) (av := [.int x1]) ?_ (gOk _ _ _ _ _) dX11_write_2 (tX11_isTie _ _ _ _ _) ⟨wV_X11_isTie, wL_X11_isTie⟩ wM_X11_119 (gCX11 _ _ _ _ _) rfl (lt_t rfl) rfl ⟨le_t rfl, le_t rfl⟩ ⟨le_t rfl, le_t rfl⟩ rfl (le_t rfl) (fun _ _ h => h)
  refine sC.of rfl (by decide) (le_t rfl) ?_
  refine sv_iload_n (pc := 0) dX11_isTie_0 rfl rfl ?_
  refine sv_if_lt (pc := 1) (tgt := 19) dX11_isTie_1 (by decide) (fun h_1 => ?_) (fun h_1 => ?_)
  · refine sv_iconst (pc := 19) (v := 0) dX11_isTie_19 (by decide) ?_
    refine sv_zret (pc := 20) dX11_isTie_20 rfl (by decide) (le_t rfl) (le_t rfl) ?_
    refine sv_if_eq (pc := 5) (tgt := 23) dX11_write_5 (by decide) (fun _ => ?_) (fun h => absurd (by decide) h)
    refine sv_iconst (pc := 23) (v := (-1)) dX11_write_23 (by decide) ?_
    refine sv_iret (pc := 24) dX11_write_24 rfl (le_t rfl) (le_t rfl) ?_
    refine sv_aload_n (pc := 1422) dL_law_1422 rfl rfl ?_
    refine sv_aload_nS (pc := 1423) dL_law_1423 rfl rfl ?_
    refine sv_iload_n (pc := 1424) dL_law_1424 rfl rfl ?_
    refine sv_iconst (pc := 1425) (v := 1) dL_law_1425 (by decide) ?_
    refine sw_iadd (pc := 1426) (v := 1) dL_law_1426 (by decide) ?_
    refine sw_sld (pc := 1427) (v := x1) dL_law_1427 (k := 1) (by decide) (by decide) rfl hx1 ?_
    refine sv_aload_nS (pc := 1428) dL_law_1428 rfl rfl ?_
    refine sv_iload_n (pc := 1429) dL_law_1429 rfl rfl ?_
    refine sv_iconst (pc := 1430) (v := 2) dL_law_1430 (by decide) ?_
    refine sw_iadd (pc := 1431) (v := 2) dL_law_1431 (by decide) ?_
    refine sw_sld (pc := 1432) (v := x2) dL_law_1432 (k := 2) (by decide) (by decide) rfl hx2 ?_
    refine sv_aload_nS (pc := 1433) dL_law_1433 rfl rfl ?_
    refine sv_iload_n (pc := 1434) dL_law_1434 rfl rfl ?_
    refine sv_iconst (pc := 1435) (v := 3) dL_law_1435 (by decide) ?_
    refine sw_iadd (pc := 1436) (v := 3) dL_law_1436 (by decide) ?_
    refine sw_sld (pc := 1437) (v := x3) dL_law_1437 (k := 3) (by decide) (by decide) rfl hx3 ?_
    refine sv_callV (pc := 1438) (M' := mX12_write) (d' := 20) (C' := 0) (S' := 0) (av := [.int x1, .int x2, .int x3]) ?_ (gOk _ _ _ _ _) dL_law_1438 (tX12_write _ _ _ _ _) ⟨wV_X12_write, wL_X12_write⟩ wM_DomainHouseLaw_157 (gCX12 _ _ _ _ _) rfl (lt_t rfl) rfl ⟨le_t rfl, le_t rfl⟩ ⟨le_t rfl, le_t rfl⟩ rfl (le_t rfl) (fun _ _ h => h)
    refine sC.of rfl (by decide) (le_t rfl) ?_
    refine sv_aload_n (pc := 0) dX12_write_0 rfl rfl ?_
    refine sv_iload_n (pc := 1) dX12_write_1 rfl rfl ?_
    refine sv_callV (pc := 2) (M' := mX12_isTie) (d' := 19) (C' := 0) (S' := 0) (av := [.int x1]) ?_ (gOk _ _ _ _ _) dX12_write_2 (tX12_isTie _ _ _ _ _) ⟨wV_X12_isTie, wL_X12_isTie⟩ wM_X12_66 (gCX12 _ _ _ _ _) rfl (lt_t rfl) rfl ⟨le_t rfl, le_t rfl⟩ ⟨le_t rfl, le_t rfl⟩ rfl (le_t rfl) (fun _ _ h => h)
    refine sC.of rfl (by decide) (le_t rfl) ?_
    refine sv_iload_n (pc := 0) dX12_isTie_0 rfl rfl ?_
    refine sv_iconst (pc := 1) (v := 0) dX12_isTie_1 (by decide) ?_
    refine sv_aload_n (pc := 2) dX12_isTie_2 rfl rfl ?_
    refine sw_getfield (pc := 3) dX12_isTie_3 (gCX12 _ _ _ _ _) 6 (by decide) wF_X12_37 rfl rfl rfl ?_
    refine sv_iconst (pc := 6) (v := 1) dX12_isTie_6 (by decide) ?_
    refine sw_isub (pc := 7) (v := (-1)) dX12_isTie_7 (by decide) ?_
    refine sv_callS (pc := 8) (M' := mX12_in) (d' := 18) (C' := 0) (S' := 0) (av := [.int x1, .int 0, .int (-1)]) ?_ (gOk _ _ _ _ _) dX12_isTie_8 (tX12_in _ _ _ _ _) wS_X12_in wM_X12_18 ⟨le_t rfl, le_t rfl⟩ ⟨le_t rfl, le_t rfl⟩ rfl (le_t rfl) (fun _ _ h => h)
    refine sC.of rfl (by decide) (le_t rfl) ?_
    refine sv_iload_n (pc := 0) dX12_in_0 rfl rfl ?_
    refine sv_iload_n (pc := 1) dX12_in_1 rfl rfl ?_
    refine sv_icmp_lt (pc := 2) (tgt := 14) dX12_in_2 (by decide) (fun _ => ?_) (fun h => absurd h_1 h)
    refine sv_iconst (pc := 14) (v := 0) dX12_in_14 (by decide) ?_
    refine sv_zret (pc := 15) dX12_in_15 rfl (by decide) (le_t rfl) (le_t rfl) ?_
    refine sv_zret (pc := 11) dX12_isTie_11 rfl (by decide) (le_t rfl) (le_t rfl) ?_
    refine sv_if_eq (pc := 5) (tgt := 25) dX12_write_5 (by decide) (fun _ => ?_) (fun h => absurd (by decide) h)
    refine sv_iconst (pc := 25) (v := (-1)) dX12_write_25 (by decide) ?_
    refine sv_iret (pc := 26) dX12_write_26 rfl (le_t rfl) (le_t rfl) ?_
    refine sv_icmp_eq (pc := 1441) (tgt := 1799) dL_law_1441 (by decide) (fun _ => ?_) (fun h => absurd (by decide) h)
    exact kk _ _ _ (le_t rfl) (le_t rfl)
  refine sv_iload_n (pc := 4) dX11_isTie_4 rfl rfl ?_
  refine sv_aload_n (pc := 5) dX11_isTie_5 rfl rfl ?_
  refine sw_getfield (pc := 6) dX11_isTie_6 (gCX11 _ _ _ _ _) 3 (by decide) wF_X11_26 rfl rfl rfl ?_
  refine sw_getfield (pc := 9) dX11_isTie_9 (gCX10 _ _ _ _ _) 16 (by decide) wF_X11_112 rfl rfl rfl ?_
  refine sv_icmp_ge (pc := 12) (tgt := 19) dX11_isTie_12 (by decide) (fun _ => ?_) (fun h => False.elim (by have a0 := Int32.le_iff_toInt_le.mp (Int32.not_lt.mp h_1); have a1 := Int32.lt_iff_toInt_lt.mp (Int32.not_le.mp h); have e0 : (0 : Int32).toInt = 0 := (by decide); omega))
  refine sv_iconst (pc := 19) (v := 0) dX11_isTie_19 (by decide) ?_
  refine sv_zret (pc := 20) dX11_isTie_20 rfl (by decide) (le_t rfl) (le_t rfl) ?_
  refine sv_if_eq (pc := 5) (tgt := 23) dX11_write_5 (by decide) (fun _ => ?_) (fun h => absurd (by decide) h)
  refine sv_iconst (pc := 23) (v := (-1)) dX11_write_23 (by decide) ?_
  refine sv_iret (pc := 24) dX11_write_24 rfl (le_t rfl) (le_t rfl) ?_
  refine sv_aload_n (pc := 1422) dL_law_1422 rfl rfl ?_
  refine sv_aload_nS (pc := 1423) dL_law_1423 rfl rfl ?_
  refine sv_iload_n (pc := 1424) dL_law_1424 rfl rfl ?_
  refine sv_iconst (pc := 1425) (v := 1) dL_law_1425 (by decide) ?_
  refine sw_iadd (pc := 1426) (v := 1) dL_law_1426 (by decide) ?_
  refine sw_sld (pc := 1427) (v := x1) dL_law_1427 (k := 1) (by decide) (by decide) rfl hx1 ?_
  refine sv_aload_nS (pc := 1428) dL_law_1428 rfl rfl ?_
  refine sv_iload_n (pc := 1429) dL_law_1429 rfl rfl ?_
  refine sv_iconst (pc := 1430) (v := 2) dL_law_1430 (by decide) ?_
  refine sw_iadd (pc := 1431) (v := 2) dL_law_1431 (by decide) ?_
  refine sw_sld (pc := 1432) (v := x2) dL_law_1432 (k := 2) (by decide) (by decide) rfl hx2 ?_
  refine sv_aload_nS (pc := 1433) dL_law_1433 rfl rfl ?_
  refine sv_iload_n (pc := 1434) dL_law_1434 rfl rfl ?_
  refine sv_iconst (pc := 1435) (v := 3) dL_law_1435 (by decide) ?_
  refine sw_iadd (pc := 1436) (v := 3) dL_law_1436 (by decide) ?_
  refine sw_sld (pc := 1437) (v := x3) dL_law_1437 (k := 3) (by decide) (by decide) rfl hx3 ?_
  refine sv_callV (pc := 1438) (M' := mX12_write) (d' := 20) (C' := 0) (S' := 0) (av := [.int x1, .int x2, .int x3]) ?_ (gOk _ _ _ _ _) dL_law_1438 (tX12_write _ _ _ _ _) ⟨wV_X12_write, wL_X12_write⟩ wM_DomainHouseLaw_157 (gCX12 _ _ _ _ _) rfl (lt_t rfl) rfl ⟨le_t rfl, le_t rfl⟩ ⟨le_t rfl, le_t rfl⟩ rfl (le_t rfl) (fun _ _ h => h)
  refine sC.of rfl (by decide) (le_t rfl) ?_
  refine sv_aload_n (pc := 0) dX12_write_0 rfl rfl ?_
  refine sv_iload_n (pc := 1) dX12_write_1 rfl rfl ?_
  refine sv_callV (pc := 2) (M' := mX12_isTie) (d' := 19) (C' := 0) (S' := 0) (av := [.int x1]) ?_ (gOk _ _ _ _ _) dX12_write_2 (tX12_isTie _ _ _ _ _) ⟨wV_X12_isTie, wL_X12_isTie⟩ wM_X12_66 (gCX12 _ _ _ _ _) rfl (lt_t rfl) rfl ⟨le_t rfl, le_t rfl⟩ ⟨le_t rfl, le_t rfl⟩ rfl (le_t rfl) (fun _ _ h => h)
  refine sC.of rfl (by decide) (le_t rfl) ?_
  refine sv_iload_n (pc := 0) dX12_isTie_0 rfl rfl ?_
  refine sv_iconst (pc := 1) (v := 0) dX12_isTie_1 (by decide) ?_
  refine sv_aload_n (pc := 2) dX12_isTie_2 rfl rfl ?_
  refine sw_getfield (pc := 3) dX12_isTie_3 (gCX12 _ _ _ _ _) 6 (by decide) wF_X12_37 rfl rfl rfl ?_
  refine sv_iconst (pc := 6) (v := 1) dX12_isTie_6 (by decide) ?_
  refine sw_isub (pc := 7) (v := (-1)) dX12_isTie_7 (by decide) ?_
  refine sv_callS (pc := 8) (M' := mX12_in) (d' := 18) (C' := 0) (S' := 0) (av := [.int x1, .int 0, .int (-1)]) ?_ (gOk _ _ _ _ _) dX12_isTie_8 (tX12_in _ _ _ _ _) wS_X12_in wM_X12_18 ⟨le_t rfl, le_t rfl⟩ ⟨le_t rfl, le_t rfl⟩ rfl (le_t rfl) (fun _ _ h => h)
  refine sC.of rfl (by decide) (le_t rfl) ?_
  refine sv_iload_n (pc := 0) dX12_in_0 rfl rfl ?_
  refine sv_iload_n (pc := 1) dX12_in_1 rfl rfl ?_
  refine sv_icmp_lt (pc := 2) (tgt := 14) dX12_in_2 (by decide) (fun h => absurd h h_1) (fun _ => ?_)
  refine sv_iload_n (pc := 5) dX12_in_5 rfl rfl ?_
  refine sv_iload_n (pc := 6) dX12_in_6 rfl rfl ?_
  refine sv_icmp_gt (pc := 7) (tgt := 14) dX12_in_7 (by decide) (fun _ => ?_) (fun h => False.elim (by have a0 := Int32.le_iff_toInt_le.mp (Int32.not_lt.mp h_1); have a1 := Int32.le_iff_toInt_le.mp (Int32.not_lt.mp h); have e0 : (-1 : Int32).toInt = -1 := (by decide); have e1 : (0 : Int32).toInt = 0 := (by decide); omega))
  refine sv_iconst (pc := 14) (v := 0) dX12_in_14 (by decide) ?_
  refine sv_zret (pc := 15) dX12_in_15 rfl (by decide) (le_t rfl) (le_t rfl) ?_
  refine sv_zret (pc := 11) dX12_isTie_11 rfl (by decide) (le_t rfl) (le_t rfl) ?_
  refine sv_if_eq (pc := 5) (tgt := 25) dX12_write_5 (by decide) (fun _ => ?_) (fun h => absurd (by decide) h)
  refine sv_iconst (pc := 25) (v := (-1)) dX12_write_25 (by decide) ?_
  refine sv_iret (pc := 26) dX12_write_26 rfl (le_t rfl) (le_t rfl) ?_
  refine sv_icmp_eq (pc := 1441) (tgt := 1799) dL_law_1441 (by decide) (fun _ => ?_) (fun h => absurd (by decide) h)
  exact kk _ _ _ (le_t rfl) (le_t rfl)
set_option maxHeartbeats 40000000 in
set_option maxRecDepth 100000 in
theorem op_34 (l : Launch) (D : va_G) (c : Nat → ClassId) (H0 : Heap) (b : Nat) (xs : Nat → Int32) (Z : sZT) (x1 x2 x3 x4 x5 x6 : Int32) (hx1 : xs 1 = x1) (hx2 : xs 2 = x2) (hx3 : xs 3 = x3) (hx4 : xs 4 = x4) (hx5 : xs 5 = x5) (hx6 : xs 6 = x6) (kk : ∀ (hp : sHp) (ce sl : Nat), ce ≤ 600000 → sl ≤ 7302250 → sV (gG l D c H0 (b, 7, xs)) mL room_1 Z 1799 [(3, .int 0), (2, .ref 106), (1, .ref 0), (0, .retAddr 0)] [] hp ce sl) : sV (gG l D c H0 (b, 7, xs)) mL room_1 Z 1446 [(3, .int 0), (2, .ref 106), (1, .ref 0), (0, .retAddr 0)] [] (192, tF) 192 297215 := by
  refine sv_aload_n (pc := 1446) dL_law_1446 rfl rfl ?_
  refine sv_aload_nS (pc := 1447) dL_law_1447 rfl rfl ?_
  refine sv_iload_n (pc := 1448) dL_law_1448 rfl rfl ?_
  refine sv_iconst (pc := 1449) (v := 1) dL_law_1449 (by decide) ?_
  refine sw_iadd (pc := 1450) (v := 1) dL_law_1450 (by decide) ?_
  refine sw_sld (pc := 1451) (v := x1) dL_law_1451 (k := 1) (by decide) (by decide) rfl hx1 ?_
  refine sv_callV (pc := 1452) (M' := mX11_octet) (d' := 20) (C' := 0) (S' := 0) (av := [.int x1]) ?_ (gOk _ _ _ _ _) dL_law_1452 (tX11_octet _ _ _ _ _) ⟨wV_X11_octet, wL_X11_octet⟩ wM_DomainHouseLaw_158 (gCX11 _ _ _ _ _) rfl (lt_t rfl) rfl ⟨le_t rfl, le_t rfl⟩ ⟨le_t rfl, le_t rfl⟩ rfl (le_t rfl) (fun _ _ h => h)
  refine sC.of rfl (by decide) (le_t rfl) ?_
  refine sv_iload_n (pc := 0) dX11_octet_0 rfl rfl ?_
  refine sv_if_lt (pc := 1) (tgt := 15) dX11_octet_1 (by decide) (fun h_1 => ?_) (fun h_1 => ?_)
  · refine sv_ldc (pc := 15) dX11_octet_15 wG_X11_165 ?_
    refine sv_goto (pc := 17) (tgt := 29) dX11_octet_17 (by decide) ?_
    refine sv_iret (pc := 29) dX11_octet_29 rfl (le_t rfl) (le_t rfl) ?_
    refine sv_aload_n (pc := 1455) dL_law_1455 rfl rfl ?_
    refine sv_aload_nS (pc := 1456) dL_law_1456 rfl rfl ?_
    refine sv_iload_n (pc := 1457) dL_law_1457 rfl rfl ?_
    refine sv_iconst (pc := 1458) (v := 1) dL_law_1458 (by decide) ?_
    refine sw_iadd (pc := 1459) (v := 1) dL_law_1459 (by decide) ?_
    refine sw_sld (pc := 1460) (v := x1) dL_law_1460 (k := 1) (by decide) (by decide) rfl hx1 ?_
    refine sv_callV (pc := 1461) (M' := mX12_octet) (d' := 20) (C' := 0) (S' := 0) (av := [.int x1]) ?_ (gOk _ _ _ _ _) dL_law_1461 (tX12_octet _ _ _ _ _) ⟨wV_X12_octet, wL_X12_octet⟩ wM_DomainHouseLaw_161 (gCX12 _ _ _ _ _) rfl (lt_t rfl) rfl ⟨le_t rfl, le_t rfl⟩ ⟨le_t rfl, le_t rfl⟩ rfl (le_t rfl) (fun _ _ h => h)
    refine sC.of rfl (by decide) (le_t rfl) ?_
    refine sv_iload_n (pc := 0) dX12_octet_0 rfl rfl ?_
    refine sv_iconst (pc := 1) (v := 0) dX12_octet_1 (by decide) ?_
    refine sv_aload_n (pc := 2) dX12_octet_2 rfl rfl ?_
    refine sw_getfield (pc := 3) dX12_octet_3 (gCX12 _ _ _ _ _) 104 (by decide) wF_X12_671 rfl rfl rfl ?_
    refine sv_iconst (pc := 6) (v := 1) dX12_octet_6 (by decide) ?_
    refine sw_isub (pc := 7) (v := (-1)) dX12_octet_7 (by decide) ?_
    refine sv_callS (pc := 8) (M' := mX12_in) (d' := 19) (C' := 0) (S' := 0) (av := [.int x1, .int 0, .int (-1)]) ?_ (gOk _ _ _ _ _) dX12_octet_8 (tX12_in _ _ _ _ _) wS_X12_in wM_X12_18 ⟨le_t rfl, le_t rfl⟩ ⟨le_t rfl, le_t rfl⟩ rfl (le_t rfl) (fun _ _ h => h)
    refine sC.of rfl (by decide) (le_t rfl) ?_
    refine sv_iload_n (pc := 0) dX12_in_0 rfl rfl ?_
    refine sv_iload_n (pc := 1) dX12_in_1 rfl rfl ?_
    refine sv_icmp_lt (pc := 2) (tgt := 14) dX12_in_2 (by decide) (fun _ => ?_) (fun h => absurd h_1 h)
    refine sv_iconst (pc := 14) (v := 0) dX12_in_14 (by decide) ?_
    refine sv_zret (pc := 15) dX12_in_15 rfl (by decide) (le_t rfl) (le_t rfl) ?_
    refine sv_if_eq (pc := 11) (tgt := 23) dX12_octet_11 (by decide) (fun _ => ?_) (fun h => absurd (by decide) h)
    refine sv_ldc (pc := 23) dX12_octet_23 wG_X12_29 ?_
    refine sv_iret (pc := 25) dX12_octet_25 rfl (le_t rfl) (le_t rfl) ?_
    refine sv_icmp_eq (pc := 1464) (tgt := 1799) dL_law_1464 (by decide) (fun _ => ?_) (fun h => absurd (by decide) h)
    exact kk _ _ _ (le_t rfl) (le_t rfl)
  refine sv_iload_n (pc := 4) dX11_octet_4 rfl rfl ?_
  refine sv_aload_n (pc := 5) dX11_octet_5 rfl rfl ?_
  refine sw_getfield (pc := 6) dX11_octet_6 (gCX11 _ _ _ _ _) 7 (by decide) wF_X11_58 rfl rfl rfl ?_
  refine sw_getfield (pc := 9) dX11_octet_9 (gCX3 _ _ _ _ _) 15 (by decide) wF_X11_358 rfl rfl rfl ?_
  refine sv_icmp_lt (pc := 12) (tgt := 20) dX11_octet_12 (by decide) (fun h => absurd h h_1) (fun _ => ?_)
  refine sv_ldc (pc := 15) dX11_octet_15 wG_X11_165 ?_
  refine sv_goto (pc := 17) (tgt := 29) dX11_octet_17 (by decide) ?_
  refine sv_iret (pc := 29) dX11_octet_29 rfl (le_t rfl) (le_t rfl) ?_
  refine sv_aload_n (pc := 1455) dL_law_1455 rfl rfl ?_
  refine sv_aload_nS (pc := 1456) dL_law_1456 rfl rfl ?_
  refine sv_iload_n (pc := 1457) dL_law_1457 rfl rfl ?_
  refine sv_iconst (pc := 1458) (v := 1) dL_law_1458 (by decide) ?_
  refine sw_iadd (pc := 1459) (v := 1) dL_law_1459 (by decide) ?_
  refine sw_sld (pc := 1460) (v := x1) dL_law_1460 (k := 1) (by decide) (by decide) rfl hx1 ?_
  refine sv_callV (pc := 1461) (M' := mX12_octet) (d' := 20) (C' := 0) (S' := 0) (av := [.int x1]) ?_ (gOk _ _ _ _ _) dL_law_1461 (tX12_octet _ _ _ _ _) ⟨wV_X12_octet, wL_X12_octet⟩ wM_DomainHouseLaw_161 (gCX12 _ _ _ _ _) rfl (lt_t rfl) rfl ⟨le_t rfl, le_t rfl⟩ ⟨le_t rfl, le_t rfl⟩ rfl (le_t rfl) (fun _ _ h => h)
  refine sC.of rfl (by decide) (le_t rfl) ?_
  refine sv_iload_n (pc := 0) dX12_octet_0 rfl rfl ?_
  refine sv_iconst (pc := 1) (v := 0) dX12_octet_1 (by decide) ?_
  refine sv_aload_n (pc := 2) dX12_octet_2 rfl rfl ?_
  refine sw_getfield (pc := 3) dX12_octet_3 (gCX12 _ _ _ _ _) 104 (by decide) wF_X12_671 rfl rfl rfl ?_
  refine sv_iconst (pc := 6) (v := 1) dX12_octet_6 (by decide) ?_
  refine sw_isub (pc := 7) (v := (-1)) dX12_octet_7 (by decide) ?_
  refine sv_callS (pc := 8) (M' := mX12_in) (d' := 19) (C' := 0) (S' := 0) (av := [.int x1, .int 0, .int (-1)]) ?_ (gOk _ _ _ _ _) dX12_octet_8 (tX12_in _ _ _ _ _) wS_X12_in wM_X12_18 ⟨le_t rfl, le_t rfl⟩ ⟨le_t rfl, le_t rfl⟩ rfl (le_t rfl) (fun _ _ h => h)
  refine sC.of rfl (by decide) (le_t rfl) ?_
  refine sv_iload_n (pc := 0) dX12_in_0 rfl rfl ?_
  refine sv_iload_n (pc := 1) dX12_in_1 rfl rfl ?_
  refine sv_icmp_lt (pc := 2) (tgt := 14) dX12_in_2 (by decide) (fun h => absurd h h_1) (fun _ => ?_)
  refine sv_iload_n (pc := 5) dX12_in_5 rfl rfl ?_
  refine sv_iload_n (pc := 6) dX12_in_6 rfl rfl ?_
  refine sv_icmp_gt (pc := 7) (tgt := 14) dX12_in_7 (by decide) (fun _ => ?_) (fun h => False.elim (by have a0 := Int32.le_iff_toInt_le.mp (Int32.not_lt.mp h_1); have a1 := Int32.le_iff_toInt_le.mp (Int32.not_lt.mp h); have e0 : (-1 : Int32).toInt = -1 := (by decide); have e1 : (0 : Int32).toInt = 0 := (by decide); omega))
  refine sv_iconst (pc := 14) (v := 0) dX12_in_14 (by decide) ?_
  refine sv_zret (pc := 15) dX12_in_15 rfl (by decide) (le_t rfl) (le_t rfl) ?_
  refine sv_if_eq (pc := 11) (tgt := 23) dX12_octet_11 (by decide) (fun _ => ?_) (fun h => absurd (by decide) h)
  refine sv_ldc (pc := 23) dX12_octet_23 wG_X12_29 ?_
  refine sv_iret (pc := 25) dX12_octet_25 rfl (le_t rfl) (le_t rfl) ?_
  refine sv_icmp_eq (pc := 1464) (tgt := 1799) dL_law_1464 (by decide) (fun _ => ?_) (fun h => absurd (by decide) h)
  exact kk _ _ _ (le_t rfl) (le_t rfl)
set_option maxHeartbeats 40000000 in
set_option maxRecDepth 100000 in
theorem op_35 (l : Launch) (D : va_G) (c : Nat → ClassId) (H0 : Heap) (b : Nat) (xs : Nat → Int32) (Z : sZT) (x1 x2 x3 x4 x5 x6 : Int32) (hx1 : xs 1 = x1) (hx2 : xs 2 = x2) (hx3 : xs 3 = x3) (hx4 : xs 4 = x4) (hx5 : xs 5 = x5) (hx6 : xs 6 = x6) (kk : ∀ (hp : sHp) (ce sl : Nat), ce ≤ 600000 → sl ≤ 7302250 → sV (gG l D c H0 (b, 7, xs)) mL room_1 Z 1799 [(3, .int 0), (2, .ref 106), (1, .ref 0), (0, .retAddr 0)] [] hp ce sl) : sV (gG l D c H0 (b, 7, xs)) mL room_1 Z 1469 [(3, .int 0), (2, .ref 106), (1, .ref 0), (0, .retAddr 0)] [] (192, tF) 192 297215 := by
  refine sv_aload_n (pc := 1469) dL_law_1469 rfl rfl ?_
  refine sv_aload_nS (pc := 1470) dL_law_1470 rfl rfl ?_
  refine sv_iload_n (pc := 1471) dL_law_1471 rfl rfl ?_
  refine sv_iconst (pc := 1472) (v := 1) dL_law_1472 (by decide) ?_
  refine sw_iadd (pc := 1473) (v := 1) dL_law_1473 (by decide) ?_
  refine sw_sld (pc := 1474) (v := x1) dL_law_1474 (k := 1) (by decide) (by decide) rfl hx1 ?_
  refine sv_aload_nS (pc := 1475) dL_law_1475 rfl rfl ?_
  refine sv_iload_n (pc := 1476) dL_law_1476 rfl rfl ?_
  refine sv_iconst (pc := 1477) (v := 2) dL_law_1477 (by decide) ?_
  refine sw_iadd (pc := 1478) (v := 2) dL_law_1478 (by decide) ?_
  refine sw_sld (pc := 1479) (v := x2) dL_law_1479 (k := 2) (by decide) (by decide) rfl hx2 ?_
  refine sv_callV (pc := 1480) (M' := mX11_letter) (d' := 20) (C' := 0) (S' := 0) (av := [.int x1, .int x2]) ?_ (gOk _ _ _ _ _) dL_law_1480 (tX11_letter _ _ _ _ _) ⟨wV_X11_letter, wL_X11_letter⟩ wM_DomainHouseLaw_162 (gCX11 _ _ _ _ _) rfl (lt_t rfl) rfl ⟨le_t rfl, le_t rfl⟩ ⟨le_t rfl, le_t rfl⟩ rfl (le_t rfl) (fun _ _ h => h)
  refine sC.of rfl (by decide) (le_t rfl) ?_
  refine sv_aload_n (pc := 0) dX11_letter_0 rfl rfl ?_
  refine sv_iload_n (pc := 1) dX11_letter_1 rfl rfl ?_
  refine sv_callV (pc := 2) (M' := mX11_isDomain) (d' := 19) (C' := 0) (S' := 0) (av := [.int x1]) ?_ (gOk _ _ _ _ _) dX11_letter_2 (tX11_isDomain _ _ _ _ _) ⟨wV_X11_isDomain, wL_X11_isDomain⟩ wM_X11_105 (gCX11 _ _ _ _ _) rfl (lt_t rfl) rfl ⟨le_t rfl, le_t rfl⟩ ⟨le_t rfl, le_t rfl⟩ rfl (le_t rfl) (fun _ _ h => h)
  refine sC.of rfl (by decide) (le_t rfl) ?_
  refine sv_iload_n (pc := 0) dX11_isDomain_0 rfl rfl ?_
  refine sv_if_lt (pc := 1) (tgt := 19) dX11_isDomain_1 (by decide) (fun h_1 => ?_) (fun h_1 => ?_)
  · refine sv_iconst (pc := 19) (v := 0) dX11_isDomain_19 (by decide) ?_
    refine sv_zret (pc := 20) dX11_isDomain_20 rfl (by decide) (le_t rfl) (le_t rfl) ?_
    refine sv_if_eq (pc := 5) (tgt := 20) dX11_letter_5 (by decide) (fun _ => ?_) (fun h => absurd (by decide) h)
    refine sv_iconst (pc := 20) (v := (-1)) dX11_letter_20 (by decide) ?_
    refine sv_iret (pc := 21) dX11_letter_21 rfl (le_t rfl) (le_t rfl) ?_
    refine sv_aload_n (pc := 1483) dL_law_1483 rfl rfl ?_
    refine sv_aload_nS (pc := 1484) dL_law_1484 rfl rfl ?_
    refine sv_iload_n (pc := 1485) dL_law_1485 rfl rfl ?_
    refine sv_iconst (pc := 1486) (v := 1) dL_law_1486 (by decide) ?_
    refine sw_iadd (pc := 1487) (v := 1) dL_law_1487 (by decide) ?_
    refine sw_sld (pc := 1488) (v := x1) dL_law_1488 (k := 1) (by decide) (by decide) rfl hx1 ?_
    refine sv_aload_nS (pc := 1489) dL_law_1489 rfl rfl ?_
    refine sv_iload_n (pc := 1490) dL_law_1490 rfl rfl ?_
    refine sv_iconst (pc := 1491) (v := 2) dL_law_1491 (by decide) ?_
    refine sw_iadd (pc := 1492) (v := 2) dL_law_1492 (by decide) ?_
    refine sw_sld (pc := 1493) (v := x2) dL_law_1493 (k := 2) (by decide) (by decide) rfl hx2 ?_
    refine sv_callV (pc := 1494) (M' := mX12_letter) (d' := 20) (C' := 0) (S' := 0) (av := [.int x1, .int x2]) ?_ (gOk _ _ _ _ _) dL_law_1494 (tX12_letter _ _ _ _ _) ⟨wV_X12_letter, wL_X12_letter⟩ wM_DomainHouseLaw_165 (gCX12 _ _ _ _ _) rfl (lt_t rfl) rfl ⟨le_t rfl, le_t rfl⟩ ⟨le_t rfl, le_t rfl⟩ rfl (le_t rfl) (fun _ _ h => h)
    refine sC.of rfl (by decide) (le_t rfl) ?_
    refine sv_aload_n (pc := 0) dX12_letter_0 rfl rfl ?_
    refine sv_iload_n (pc := 1) dX12_letter_1 rfl rfl ?_
    refine sv_callV (pc := 2) (M' := mX12_isDomain) (d' := 19) (C' := 0) (S' := 0) (av := [.int x1]) ?_ (gOk _ _ _ _ _) dX12_letter_2 (tX12_isDomain _ _ _ _ _) ⟨wV_X12_isDomain, wL_X12_isDomain⟩ wM_X12_49 (gCX12 _ _ _ _ _) rfl (lt_t rfl) rfl ⟨le_t rfl, le_t rfl⟩ ⟨le_t rfl, le_t rfl⟩ rfl (le_t rfl) (fun _ _ h => h)
    refine sC.of rfl (by decide) (le_t rfl) ?_
    refine sv_iload_n (pc := 0) dX12_isDomain_0 rfl rfl ?_
    refine sv_iconst (pc := 1) (v := 0) dX12_isDomain_1 (by decide) ?_
    refine sv_aload_n (pc := 2) dX12_isDomain_2 rfl rfl ?_
    refine sw_getfield (pc := 3) dX12_isDomain_3 (gCX12 _ _ _ _ _) 5 (by decide) wF_X12_34 rfl rfl rfl ?_
    refine sv_iconst (pc := 6) (v := 1) dX12_isDomain_6 (by decide) ?_
    refine sw_isub (pc := 7) (v := (-1)) dX12_isDomain_7 (by decide) ?_
    refine sv_callS (pc := 8) (M' := mX12_in) (d' := 18) (C' := 0) (S' := 0) (av := [.int x1, .int 0, .int (-1)]) ?_ (gOk _ _ _ _ _) dX12_isDomain_8 (tX12_in _ _ _ _ _) wS_X12_in wM_X12_18 ⟨le_t rfl, le_t rfl⟩ ⟨le_t rfl, le_t rfl⟩ rfl (le_t rfl) (fun _ _ h => h)
    refine sC.of rfl (by decide) (le_t rfl) ?_
    refine sv_iload_n (pc := 0) dX12_in_0 rfl rfl ?_
    refine sv_iload_n (pc := 1) dX12_in_1 rfl rfl ?_
    refine sv_icmp_lt (pc := 2) (tgt := 14) dX12_in_2 (by decide) (fun _ => ?_) (fun h => absurd h_1 h)
    refine sv_iconst (pc := 14) (v := 0) dX12_in_14 (by decide) ?_
    refine sv_zret (pc := 15) dX12_in_15 rfl (by decide) (le_t rfl) (le_t rfl) ?_
    refine sv_zret (pc := 11) dX12_isDomain_11 rfl (by decide) (le_t rfl) (le_t rfl) ?_
    refine sv_if_ne (pc := 5) (tgt := 10) dX12_letter_5 (by decide) (fun h => absurd (by decide) h) (fun _ => ?_)
    refine sv_iconst (pc := 8) (v := (-1)) dX12_letter_8 (by decide) ?_
    refine sv_iret (pc := 9) dX12_letter_9 rfl (le_t rfl) (le_t rfl) ?_
    refine sv_icmp_eq (pc := 1497) (tgt := 1799) dL_law_1497 (by decide) (fun _ => ?_) (fun h => absurd (by decide) h)
    exact kk _ _ _ (le_t rfl) (le_t rfl)
  refine sv_iload_n (pc := 4) dX11_isDomain_4 rfl rfl ?_
  refine sv_aload_n (pc := 5) dX11_isDomain_5 rfl rfl ?_
  refine sw_getfield (pc := 6) dX11_isDomain_6 (gCX11 _ _ _ _ _) 3 (by decide) wF_X11_26 rfl rfl rfl ?_
  refine sw_getfield (pc := 9) dX11_isDomain_9 (gCX10 _ _ _ _ _) 15 (by decide) wF_X11_98 rfl rfl rfl ?_
  refine sv_icmp_ge (pc := 12) (tgt := 19) dX11_isDomain_12 (by decide) (fun _ => ?_) (fun h => False.elim (by have a0 := Int32.le_iff_toInt_le.mp (Int32.not_lt.mp h_1); have a1 := Int32.lt_iff_toInt_lt.mp (Int32.not_le.mp h); have e0 : (0 : Int32).toInt = 0 := (by decide); omega))
  refine sv_iconst (pc := 19) (v := 0) dX11_isDomain_19 (by decide) ?_
  refine sv_zret (pc := 20) dX11_isDomain_20 rfl (by decide) (le_t rfl) (le_t rfl) ?_
  refine sv_if_eq (pc := 5) (tgt := 20) dX11_letter_5 (by decide) (fun _ => ?_) (fun h => absurd (by decide) h)
  refine sv_iconst (pc := 20) (v := (-1)) dX11_letter_20 (by decide) ?_
  refine sv_iret (pc := 21) dX11_letter_21 rfl (le_t rfl) (le_t rfl) ?_
  refine sv_aload_n (pc := 1483) dL_law_1483 rfl rfl ?_
  refine sv_aload_nS (pc := 1484) dL_law_1484 rfl rfl ?_
  refine sv_iload_n (pc := 1485) dL_law_1485 rfl rfl ?_
  refine sv_iconst (pc := 1486) (v := 1) dL_law_1486 (by decide) ?_
  refine sw_iadd (pc := 1487) (v := 1) dL_law_1487 (by decide) ?_
  refine sw_sld (pc := 1488) (v := x1) dL_law_1488 (k := 1) (by decide) (by decide) rfl hx1 ?_
  refine sv_aload_nS (pc := 1489) dL_law_1489 rfl rfl ?_
  refine sv_iload_n (pc := 1490) dL_law_1490 rfl rfl ?_
  refine sv_iconst (pc := 1491) (v := 2) dL_law_1491 (by decide) ?_
  refine sw_iadd (pc := 1492) (v := 2) dL_law_1492 (by decide) ?_
  refine sw_sld (pc := 1493) (v := x2) dL_law_1493 (k := 2) (by decide) (by decide) rfl hx2 ?_
  refine sv_callV (pc := 1494) (M' := mX12_letter) (d' := 20) (C' := 0) (S' := 0) (av := [.int x1, .int x2]) ?_ (gOk _ _ _ _ _) dL_law_1494 (tX12_letter _ _ _ _ _) ⟨wV_X12_letter, wL_X12_letter⟩ wM_DomainHouseLaw_165 (gCX12 _ _ _ _ _) rfl (lt_t rfl) rfl ⟨le_t rfl, le_t rfl⟩ ⟨le_t rfl, le_t rfl⟩ rfl (le_t rfl) (fun _ _ h => h)
  refine sC.of rfl (by decide) (le_t rfl) ?_
  refine sv_aload_n (pc := 0) dX12_letter_0 rfl rfl ?_
  refine sv_iload_n (pc := 1) dX12_letter_1 rfl rfl ?_
  refine sv_callV (pc := 2) (M' := mX12_isDomain) (d' := 19) (C' := 0) (S' := 0) (av := [.int x1]) ?_ (gOk _ _ _ _ _) dX12_letter_2 (tX12_isDomain _ _ _ _ _) ⟨wV_X12_isDomain, wL_X12_isDomain⟩ wM_X12_49 (gCX12 _ _ _ _ _) rfl (lt_t rfl) rfl ⟨le_t rfl, le_t rfl⟩ ⟨le_t rfl, le_t rfl⟩ rfl (le_t rfl) (fun _ _ h => h)
  refine sC.of rfl (by decide) (le_t rfl) ?_
  refine sv_iload_n (pc := 0) dX12_isDomain_0 rfl rfl ?_
  refine sv_iconst (pc := 1) (v := 0) dX12_isDomain_1 (by decide) ?_
  refine sv_aload_n (pc := 2) dX12_isDomain_2 rfl rfl ?_
  refine sw_getfield (pc := 3) dX12_isDomain_3 (gCX12 _ _ _ _ _) 5 (by decide) wF_X12_34 rfl rfl rfl ?_
  refine sv_iconst (pc := 6) (v := 1) dX12_isDomain_6 (by decide) ?_
  refine sw_isub (pc := 7) (v := (-1)) dX12_isDomain_7 (by decide) ?_
  refine sv_callS (pc := 8) (M' := mX12_in) (d' := 18) (C' := 0) (S' := 0) (av := [.int x1, .int 0, .int (-1)]) ?_ (gOk _ _ _ _ _) dX12_isDomain_8 (tX12_in _ _ _ _ _) wS_X12_in wM_X12_18 ⟨le_t rfl, le_t rfl⟩ ⟨le_t rfl, le_t rfl⟩ rfl (le_t rfl) (fun _ _ h => h)
  refine sC.of rfl (by decide) (le_t rfl) ?_
  refine sv_iload_n (pc := 0) dX12_in_0 rfl rfl ?_
  refine sv_iload_n (pc := 1) dX12_in_1 rfl rfl ?_
  refine sv_icmp_lt (pc := 2) (tgt := 14) dX12_in_2 (by decide) (fun h => absurd h h_1) (fun _ => ?_)
  refine sv_iload_n (pc := 5) dX12_in_5 rfl rfl ?_
  refine sv_iload_n (pc := 6) dX12_in_6 rfl rfl ?_
  refine sv_icmp_gt (pc := 7) (tgt := 14) dX12_in_7 (by decide) (fun _ => ?_) (fun h => False.elim (by have a0 := Int32.le_iff_toInt_le.mp (Int32.not_lt.mp h_1); have a1 := Int32.le_iff_toInt_le.mp (Int32.not_lt.mp h); have e0 : (-1 : Int32).toInt = -1 := (by decide); have e1 : (0 : Int32).toInt = 0 := (by decide); omega))
  refine sv_iconst (pc := 14) (v := 0) dX12_in_14 (by decide) ?_
  refine sv_zret (pc := 15) dX12_in_15 rfl (by decide) (le_t rfl) (le_t rfl) ?_
  refine sv_zret (pc := 11) dX12_isDomain_11 rfl (by decide) (le_t rfl) (le_t rfl) ?_
  refine sv_if_ne (pc := 5) (tgt := 10) dX12_letter_5 (by decide) (fun h => absurd (by decide) h) (fun _ => ?_)
  refine sv_iconst (pc := 8) (v := (-1)) dX12_letter_8 (by decide) ?_
  refine sv_iret (pc := 9) dX12_letter_9 rfl (le_t rfl) (le_t rfl) ?_
  refine sv_icmp_eq (pc := 1497) (tgt := 1799) dL_law_1497 (by decide) (fun _ => ?_) (fun h => absurd (by decide) h)
  exact kk _ _ _ (le_t rfl) (le_t rfl)
set_option maxHeartbeats 40000000 in
set_option maxRecDepth 100000 in
theorem op_36 (l : Launch) (D : va_G) (c : Nat → ClassId) (H0 : Heap) (b : Nat) (xs : Nat → Int32) (Z : sZT) (x1 x2 x3 x4 x5 x6 : Int32) (hx1 : xs 1 = x1) (hx2 : xs 2 = x2) (hx3 : xs 3 = x3) (hx4 : xs 4 = x4) (hx5 : xs 5 = x5) (hx6 : xs 6 = x6) (kk : ∀ (hp : sHp) (ce sl : Nat), ce ≤ 600000 → sl ≤ 7302250 → sV (gG l D c H0 (b, 7, xs)) mL room_1 Z 1799 [(3, .int 0), (2, .ref 106), (1, .ref 0), (0, .retAddr 0)] [] hp ce sl) : sV (gG l D c H0 (b, 7, xs)) mL room_1 Z 1502 [(3, .int 0), (2, .ref 106), (1, .ref 0), (0, .retAddr 0)] [] (192, tF) 192 297215 := by
  refine sv_aload_n (pc := 1502) dL_law_1502 rfl rfl ?_
  refine sv_aload_nS (pc := 1503) dL_law_1503 rfl rfl ?_
  refine sv_iload_n (pc := 1504) dL_law_1504 rfl rfl ?_
  refine sv_iconst (pc := 1505) (v := 1) dL_law_1505 (by decide) ?_
  refine sw_iadd (pc := 1506) (v := 1) dL_law_1506 (by decide) ?_
  refine sw_sld (pc := 1507) (v := x1) dL_law_1507 (k := 1) (by decide) (by decide) rfl hx1 ?_
  refine sv_callV (pc := 1508) (M' := mX11_led) (d' := 20) (C' := 0) (S' := 0) (av := [.int x1]) ?_ (gOk _ _ _ _ _) dL_law_1508 (tX11_led _ _ _ _ _) ⟨wV_X11_led, wL_X11_led⟩ wM_DomainHouseLaw_166 (gCX11 _ _ _ _ _) rfl (lt_t rfl) rfl ⟨le_t rfl, le_t rfl⟩ ⟨le_t rfl, le_t rfl⟩ rfl (le_t rfl) (fun _ _ h => h)
  refine sC.of rfl (by decide) (le_t rfl) ?_
  refine sv_iload_n (pc := 0) dX11_led_0 rfl rfl ?_
  refine sv_if_lt (pc := 1) (tgt := 15) dX11_led_1 (by decide) (fun h_1 => ?_) (fun h_1 => ?_)
  · refine sv_ldc (pc := 15) dX11_led_15 wG_X11_165 ?_
    refine sv_goto (pc := 17) (tgt := 29) dX11_led_17 (by decide) ?_
    refine sv_iret (pc := 29) dX11_led_29 rfl (le_t rfl) (le_t rfl) ?_
    refine sv_aload_n (pc := 1511) dL_law_1511 rfl rfl ?_
    refine sv_aload_nS (pc := 1512) dL_law_1512 rfl rfl ?_
    refine sv_iload_n (pc := 1513) dL_law_1513 rfl rfl ?_
    refine sv_iconst (pc := 1514) (v := 1) dL_law_1514 (by decide) ?_
    refine sw_iadd (pc := 1515) (v := 1) dL_law_1515 (by decide) ?_
    refine sw_sld (pc := 1516) (v := x1) dL_law_1516 (k := 1) (by decide) (by decide) rfl hx1 ?_
    refine sv_callV (pc := 1517) (M' := mX12_led) (d' := 20) (C' := 0) (S' := 0) (av := [.int x1]) ?_ (gOk _ _ _ _ _) dL_law_1517 (tX12_led _ _ _ _ _) ⟨wV_X12_led, wL_X12_led⟩ wM_DomainHouseLaw_169 (gCX12 _ _ _ _ _) rfl (lt_t rfl) rfl ⟨le_t rfl, le_t rfl⟩ ⟨le_t rfl, le_t rfl⟩ rfl (le_t rfl) (fun _ _ h => h)
    refine sC.of rfl (by decide) (le_t rfl) ?_
    refine sv_iload_n (pc := 0) dX12_led_0 rfl rfl ?_
    refine sv_iconst (pc := 1) (v := 0) dX12_led_1 (by decide) ?_
    refine sv_aload_n (pc := 2) dX12_led_2 rfl rfl ?_
    refine sw_getfield (pc := 3) dX12_led_3 (gCX12 _ _ _ _ _) 108 (by decide) wF_X12_692 rfl rfl rfl ?_
    refine sv_iconst (pc := 6) (v := 1) dX12_led_6 (by decide) ?_
    refine sw_isub (pc := 7) (v := (-1)) dX12_led_7 (by decide) ?_
    refine sv_callS (pc := 8) (M' := mX12_in) (d' := 19) (C' := 0) (S' := 0) (av := [.int x1, .int 0, .int (-1)]) ?_ (gOk _ _ _ _ _) dX12_led_8 (tX12_in _ _ _ _ _) wS_X12_in wM_X12_18 ⟨le_t rfl, le_t rfl⟩ ⟨le_t rfl, le_t rfl⟩ rfl (le_t rfl) (fun _ _ h => h)
    refine sC.of rfl (by decide) (le_t rfl) ?_
    refine sv_iload_n (pc := 0) dX12_in_0 rfl rfl ?_
    refine sv_iload_n (pc := 1) dX12_in_1 rfl rfl ?_
    refine sv_icmp_lt (pc := 2) (tgt := 14) dX12_in_2 (by decide) (fun _ => ?_) (fun h => absurd h_1 h)
    refine sv_iconst (pc := 14) (v := 0) dX12_in_14 (by decide) ?_
    refine sv_zret (pc := 15) dX12_in_15 rfl (by decide) (le_t rfl) (le_t rfl) ?_
    refine sv_if_eq (pc := 11) (tgt := 23) dX12_led_11 (by decide) (fun _ => ?_) (fun h => absurd (by decide) h)
    refine sv_ldc (pc := 23) dX12_led_23 wG_X12_29 ?_
    refine sv_iret (pc := 25) dX12_led_25 rfl (le_t rfl) (le_t rfl) ?_
    refine sv_icmp_eq (pc := 1520) (tgt := 1799) dL_law_1520 (by decide) (fun _ => ?_) (fun h => absurd (by decide) h)
    exact kk _ _ _ (le_t rfl) (le_t rfl)
  refine sv_iload_n (pc := 4) dX11_led_4 rfl rfl ?_
  refine sv_aload_n (pc := 5) dX11_led_5 rfl rfl ?_
  refine sw_getfield (pc := 6) dX11_led_6 (gCX11 _ _ _ _ _) 8 (by decide) wF_X11_65 rfl rfl rfl ?_
  refine sw_getfield (pc := 9) dX11_led_9 (gCX2 _ _ _ _ _) 9 (by decide) wF_X11_367 rfl rfl rfl ?_
  refine sv_icmp_lt (pc := 12) (tgt := 20) dX11_led_12 (by decide) (fun h => absurd h h_1) (fun _ => ?_)
  refine sv_ldc (pc := 15) dX11_led_15 wG_X11_165 ?_
  refine sv_goto (pc := 17) (tgt := 29) dX11_led_17 (by decide) ?_
  refine sv_iret (pc := 29) dX11_led_29 rfl (le_t rfl) (le_t rfl) ?_
  refine sv_aload_n (pc := 1511) dL_law_1511 rfl rfl ?_
  refine sv_aload_nS (pc := 1512) dL_law_1512 rfl rfl ?_
  refine sv_iload_n (pc := 1513) dL_law_1513 rfl rfl ?_
  refine sv_iconst (pc := 1514) (v := 1) dL_law_1514 (by decide) ?_
  refine sw_iadd (pc := 1515) (v := 1) dL_law_1515 (by decide) ?_
  refine sw_sld (pc := 1516) (v := x1) dL_law_1516 (k := 1) (by decide) (by decide) rfl hx1 ?_
  refine sv_callV (pc := 1517) (M' := mX12_led) (d' := 20) (C' := 0) (S' := 0) (av := [.int x1]) ?_ (gOk _ _ _ _ _) dL_law_1517 (tX12_led _ _ _ _ _) ⟨wV_X12_led, wL_X12_led⟩ wM_DomainHouseLaw_169 (gCX12 _ _ _ _ _) rfl (lt_t rfl) rfl ⟨le_t rfl, le_t rfl⟩ ⟨le_t rfl, le_t rfl⟩ rfl (le_t rfl) (fun _ _ h => h)
  refine sC.of rfl (by decide) (le_t rfl) ?_
  refine sv_iload_n (pc := 0) dX12_led_0 rfl rfl ?_
  refine sv_iconst (pc := 1) (v := 0) dX12_led_1 (by decide) ?_
  refine sv_aload_n (pc := 2) dX12_led_2 rfl rfl ?_
  refine sw_getfield (pc := 3) dX12_led_3 (gCX12 _ _ _ _ _) 108 (by decide) wF_X12_692 rfl rfl rfl ?_
  refine sv_iconst (pc := 6) (v := 1) dX12_led_6 (by decide) ?_
  refine sw_isub (pc := 7) (v := (-1)) dX12_led_7 (by decide) ?_
  refine sv_callS (pc := 8) (M' := mX12_in) (d' := 19) (C' := 0) (S' := 0) (av := [.int x1, .int 0, .int (-1)]) ?_ (gOk _ _ _ _ _) dX12_led_8 (tX12_in _ _ _ _ _) wS_X12_in wM_X12_18 ⟨le_t rfl, le_t rfl⟩ ⟨le_t rfl, le_t rfl⟩ rfl (le_t rfl) (fun _ _ h => h)
  refine sC.of rfl (by decide) (le_t rfl) ?_
  refine sv_iload_n (pc := 0) dX12_in_0 rfl rfl ?_
  refine sv_iload_n (pc := 1) dX12_in_1 rfl rfl ?_
  refine sv_icmp_lt (pc := 2) (tgt := 14) dX12_in_2 (by decide) (fun h => absurd h h_1) (fun _ => ?_)
  refine sv_iload_n (pc := 5) dX12_in_5 rfl rfl ?_
  refine sv_iload_n (pc := 6) dX12_in_6 rfl rfl ?_
  refine sv_icmp_gt (pc := 7) (tgt := 14) dX12_in_7 (by decide) (fun _ => ?_) (fun h => False.elim (by have a0 := Int32.le_iff_toInt_le.mp (Int32.not_lt.mp h_1); have a1 := Int32.le_iff_toInt_le.mp (Int32.not_lt.mp h); have e0 : (-1 : Int32).toInt = -1 := (by decide); have e1 : (0 : Int32).toInt = 0 := (by decide); omega))
  refine sv_iconst (pc := 14) (v := 0) dX12_in_14 (by decide) ?_
  refine sv_zret (pc := 15) dX12_in_15 rfl (by decide) (le_t rfl) (le_t rfl) ?_
  refine sv_if_eq (pc := 11) (tgt := 23) dX12_led_11 (by decide) (fun _ => ?_) (fun h => absurd (by decide) h)
  refine sv_ldc (pc := 23) dX12_led_23 wG_X12_29 ?_
  refine sv_iret (pc := 25) dX12_led_25 rfl (le_t rfl) (le_t rfl) ?_
  refine sv_icmp_eq (pc := 1520) (tgt := 1799) dL_law_1520 (by decide) (fun _ => ?_) (fun h => absurd (by decide) h)
  exact kk _ _ _ (le_t rfl) (le_t rfl)
set_option maxHeartbeats 40000000 in
set_option maxRecDepth 100000 in
theorem op_37 (l : Launch) (D : va_G) (c : Nat → ClassId) (H0 : Heap) (b : Nat) (xs : Nat → Int32) (Z : sZT) (x1 x2 x3 x4 x5 x6 : Int32) (hx1 : xs 1 = x1) (hx2 : xs 2 = x2) (hx3 : xs 3 = x3) (hx4 : xs 4 = x4) (hx5 : xs 5 = x5) (hx6 : xs 6 = x6) (kk : ∀ (hp : sHp) (ce sl : Nat), ce ≤ 600000 → sl ≤ 7302250 → sV (gG l D c H0 (b, 7, xs)) mL room_1 Z 1799 [(3, .int 0), (2, .ref 106), (1, .ref 0), (0, .retAddr 0)] [] hp ce sl) : sV (gG l D c H0 (b, 7, xs)) mL room_1 Z 1525 [(3, .int 0), (2, .ref 106), (1, .ref 0), (0, .retAddr 0)] [] (192, tF) 192 297215 := by
  refine sv_aload_n (pc := 1525) dL_law_1525 rfl rfl ?_
  refine sv_aload_nS (pc := 1526) dL_law_1526 rfl rfl ?_
  refine sv_iload_n (pc := 1527) dL_law_1527 rfl rfl ?_
  refine sv_iconst (pc := 1528) (v := 1) dL_law_1528 (by decide) ?_
  refine sw_iadd (pc := 1529) (v := 1) dL_law_1529 (by decide) ?_
  refine sw_sld (pc := 1530) (v := x1) dL_law_1530 (k := 1) (by decide) (by decide) rfl hx1 ?_
  refine sv_aload_nS (pc := 1531) dL_law_1531 rfl rfl ?_
  refine sv_iload_n (pc := 1532) dL_law_1532 rfl rfl ?_
  refine sv_iconst (pc := 1533) (v := 2) dL_law_1533 (by decide) ?_
  refine sw_iadd (pc := 1534) (v := 2) dL_law_1534 (by decide) ?_
  refine sw_sld (pc := 1535) (v := x2) dL_law_1535 (k := 2) (by decide) (by decide) rfl hx2 ?_
  refine sv_aload_nS (pc := 1536) dL_law_1536 rfl rfl ?_
  refine sv_iload_n (pc := 1537) dL_law_1537 rfl rfl ?_
  refine sv_iconst (pc := 1538) (v := 3) dL_law_1538 (by decide) ?_
  refine sw_iadd (pc := 1539) (v := 3) dL_law_1539 (by decide) ?_
  refine sw_sld (pc := 1540) (v := x3) dL_law_1540 (k := 3) (by decide) (by decide) rfl hx3 ?_
  refine sv_callV (pc := 1541) (M' := mX11_demand) (d' := 20) (C' := 0) (S' := 0) (av := [.int x1, .int x2, .int x3]) ?_ (gOk _ _ _ _ _) dL_law_1541 (tX11_demand _ _ _ _ _) ⟨wV_X11_demand, wL_X11_demand⟩ wM_DomainHouseLaw_170 (gCX11 _ _ _ _ _) rfl (lt_t rfl) rfl ⟨le_t rfl, le_t rfl⟩ ⟨le_t rfl, le_t rfl⟩ rfl (le_t rfl) (fun _ _ h => h)
  refine sC.of rfl (by decide) (le_t rfl) ?_
  refine sv_aload_n (pc := 0) dX11_demand_0 rfl rfl ?_
  refine sv_iload_n (pc := 1) dX11_demand_1 rfl rfl ?_
  refine sv_callV (pc := 2) (M' := mX11_isDomain) (d' := 19) (C' := 0) (S' := 0) (av := [.int x1]) ?_ (gOk _ _ _ _ _) dX11_demand_2 (tX11_isDomain _ _ _ _ _) ⟨wV_X11_isDomain, wL_X11_isDomain⟩ wM_X11_105 (gCX11 _ _ _ _ _) rfl (lt_t rfl) rfl ⟨le_t rfl, le_t rfl⟩ ⟨le_t rfl, le_t rfl⟩ rfl (le_t rfl) (fun _ _ h => h)
  refine sC.of rfl (by decide) (le_t rfl) ?_
  refine sv_iload_n (pc := 0) dX11_isDomain_0 rfl rfl ?_
  refine sv_if_lt (pc := 1) (tgt := 19) dX11_isDomain_1 (by decide) (fun h_1 => ?_) (fun h_1 => ?_)
  · refine sv_iconst (pc := 19) (v := 0) dX11_isDomain_19 (by decide) ?_
    refine sv_zret (pc := 20) dX11_isDomain_20 rfl (by decide) (le_t rfl) (le_t rfl) ?_
    refine sv_if_eq (pc := 5) (tgt := 19) dX11_demand_5 (by decide) (fun _ => ?_) (fun h => absurd (by decide) h)
    refine sv_iconst (pc := 19) (v := (-1)) dX11_demand_19 (by decide) ?_
    refine sv_iret (pc := 20) dX11_demand_20 rfl (le_t rfl) (le_t rfl) ?_
    refine sv_aload_n (pc := 1544) dL_law_1544 rfl rfl ?_
    refine sv_aload_nS (pc := 1545) dL_law_1545 rfl rfl ?_
    refine sv_iload_n (pc := 1546) dL_law_1546 rfl rfl ?_
    refine sv_iconst (pc := 1547) (v := 1) dL_law_1547 (by decide) ?_
    refine sw_iadd (pc := 1548) (v := 1) dL_law_1548 (by decide) ?_
    refine sw_sld (pc := 1549) (v := x1) dL_law_1549 (k := 1) (by decide) (by decide) rfl hx1 ?_
    refine sv_aload_nS (pc := 1550) dL_law_1550 rfl rfl ?_
    refine sv_iload_n (pc := 1551) dL_law_1551 rfl rfl ?_
    refine sv_iconst (pc := 1552) (v := 2) dL_law_1552 (by decide) ?_
    refine sw_iadd (pc := 1553) (v := 2) dL_law_1553 (by decide) ?_
    refine sw_sld (pc := 1554) (v := x2) dL_law_1554 (k := 2) (by decide) (by decide) rfl hx2 ?_
    refine sv_aload_nS (pc := 1555) dL_law_1555 rfl rfl ?_
    refine sv_iload_n (pc := 1556) dL_law_1556 rfl rfl ?_
    refine sv_iconst (pc := 1557) (v := 3) dL_law_1557 (by decide) ?_
    refine sw_iadd (pc := 1558) (v := 3) dL_law_1558 (by decide) ?_
    refine sw_sld (pc := 1559) (v := x3) dL_law_1559 (k := 3) (by decide) (by decide) rfl hx3 ?_
    refine sv_callV (pc := 1560) (M' := mX12_demand) (d' := 20) (C' := 0) (S' := 0) (av := [.int x1, .int x2, .int x3]) ?_ (gOk _ _ _ _ _) dL_law_1560 (tX12_demand _ _ _ _ _) ⟨wV_X12_demand, wL_X12_demand⟩ wM_DomainHouseLaw_173 (gCX12 _ _ _ _ _) rfl (lt_t rfl) rfl ⟨le_t rfl, le_t rfl⟩ ⟨le_t rfl, le_t rfl⟩ rfl (le_t rfl) (fun _ _ h => h)
    refine sC.of rfl (by decide) (le_t rfl) ?_
    refine sv_aload_n (pc := 0) dX12_demand_0 rfl rfl ?_
    refine sv_iload_n (pc := 1) dX12_demand_1 rfl rfl ?_
    refine sv_callV (pc := 2) (M' := mX12_isDomain) (d' := 19) (C' := 0) (S' := 0) (av := [.int x1]) ?_ (gOk _ _ _ _ _) dX12_demand_2 (tX12_isDomain _ _ _ _ _) ⟨wV_X12_isDomain, wL_X12_isDomain⟩ wM_X12_49 (gCX12 _ _ _ _ _) rfl (lt_t rfl) rfl ⟨le_t rfl, le_t rfl⟩ ⟨le_t rfl, le_t rfl⟩ rfl (le_t rfl) (fun _ _ h => h)
    refine sC.of rfl (by decide) (le_t rfl) ?_
    refine sv_iload_n (pc := 0) dX12_isDomain_0 rfl rfl ?_
    refine sv_iconst (pc := 1) (v := 0) dX12_isDomain_1 (by decide) ?_
    refine sv_aload_n (pc := 2) dX12_isDomain_2 rfl rfl ?_
    refine sw_getfield (pc := 3) dX12_isDomain_3 (gCX12 _ _ _ _ _) 5 (by decide) wF_X12_34 rfl rfl rfl ?_
    refine sv_iconst (pc := 6) (v := 1) dX12_isDomain_6 (by decide) ?_
    refine sw_isub (pc := 7) (v := (-1)) dX12_isDomain_7 (by decide) ?_
    refine sv_callS (pc := 8) (M' := mX12_in) (d' := 18) (C' := 0) (S' := 0) (av := [.int x1, .int 0, .int (-1)]) ?_ (gOk _ _ _ _ _) dX12_isDomain_8 (tX12_in _ _ _ _ _) wS_X12_in wM_X12_18 ⟨le_t rfl, le_t rfl⟩ ⟨le_t rfl, le_t rfl⟩ rfl (le_t rfl) (fun _ _ h => h)
    refine sC.of rfl (by decide) (le_t rfl) ?_
    refine sv_iload_n (pc := 0) dX12_in_0 rfl rfl ?_
    refine sv_iload_n (pc := 1) dX12_in_1 rfl rfl ?_
    refine sv_icmp_lt (pc := 2) (tgt := 14) dX12_in_2 (by decide) (fun _ => ?_) (fun h => absurd h_1 h)
    refine sv_iconst (pc := 14) (v := 0) dX12_in_14 (by decide) ?_
    refine sv_zret (pc := 15) dX12_in_15 rfl (by decide) (le_t rfl) (le_t rfl) ?_
    refine sv_zret (pc := 11) dX12_isDomain_11 rfl (by decide) (le_t rfl) (le_t rfl) ?_
    refine sv_if_eq (pc := 5) (tgt := 19) dX12_demand_5 (by decide) (fun _ => ?_) (fun h => absurd (by decide) h)
    refine sv_iconst (pc := 19) (v := (-1)) dX12_demand_19 (by decide) ?_
    refine sv_iret (pc := 20) dX12_demand_20 rfl (le_t rfl) (le_t rfl) ?_
    refine sv_icmp_eq (pc := 1563) (tgt := 1799) dL_law_1563 (by decide) (fun _ => ?_) (fun h => absurd (by decide) h)
    exact kk _ _ _ (le_t rfl) (le_t rfl)
  refine sv_iload_n (pc := 4) dX11_isDomain_4 rfl rfl ?_
  refine sv_aload_n (pc := 5) dX11_isDomain_5 rfl rfl ?_
  refine sw_getfield (pc := 6) dX11_isDomain_6 (gCX11 _ _ _ _ _) 3 (by decide) wF_X11_26 rfl rfl rfl ?_
  refine sw_getfield (pc := 9) dX11_isDomain_9 (gCX10 _ _ _ _ _) 15 (by decide) wF_X11_98 rfl rfl rfl ?_
  refine sv_icmp_ge (pc := 12) (tgt := 19) dX11_isDomain_12 (by decide) (fun _ => ?_) (fun h => False.elim (by have a0 := Int32.le_iff_toInt_le.mp (Int32.not_lt.mp h_1); have a1 := Int32.lt_iff_toInt_lt.mp (Int32.not_le.mp h); have e0 : (0 : Int32).toInt = 0 := (by decide); omega))
  refine sv_iconst (pc := 19) (v := 0) dX11_isDomain_19 (by decide) ?_
  refine sv_zret (pc := 20) dX11_isDomain_20 rfl (by decide) (le_t rfl) (le_t rfl) ?_
  refine sv_if_eq (pc := 5) (tgt := 19) dX11_demand_5 (by decide) (fun _ => ?_) (fun h => absurd (by decide) h)
  refine sv_iconst (pc := 19) (v := (-1)) dX11_demand_19 (by decide) ?_
  refine sv_iret (pc := 20) dX11_demand_20 rfl (le_t rfl) (le_t rfl) ?_
  refine sv_aload_n (pc := 1544) dL_law_1544 rfl rfl ?_
  refine sv_aload_nS (pc := 1545) dL_law_1545 rfl rfl ?_
  refine sv_iload_n (pc := 1546) dL_law_1546 rfl rfl ?_
  refine sv_iconst (pc := 1547) (v := 1) dL_law_1547 (by decide) ?_
  refine sw_iadd (pc := 1548) (v := 1) dL_law_1548 (by decide) ?_
  refine sw_sld (pc := 1549) (v := x1) dL_law_1549 (k := 1) (by decide) (by decide) rfl hx1 ?_
  refine sv_aload_nS (pc := 1550) dL_law_1550 rfl rfl ?_
  refine sv_iload_n (pc := 1551) dL_law_1551 rfl rfl ?_
  refine sv_iconst (pc := 1552) (v := 2) dL_law_1552 (by decide) ?_
  refine sw_iadd (pc := 1553) (v := 2) dL_law_1553 (by decide) ?_
  refine sw_sld (pc := 1554) (v := x2) dL_law_1554 (k := 2) (by decide) (by decide) rfl hx2 ?_
  refine sv_aload_nS (pc := 1555) dL_law_1555 rfl rfl ?_
  refine sv_iload_n (pc := 1556) dL_law_1556 rfl rfl ?_
  refine sv_iconst (pc := 1557) (v := 3) dL_law_1557 (by decide) ?_
  refine sw_iadd (pc := 1558) (v := 3) dL_law_1558 (by decide) ?_
  refine sw_sld (pc := 1559) (v := x3) dL_law_1559 (k := 3) (by decide) (by decide) rfl hx3 ?_
  refine sv_callV (pc := 1560) (M' := mX12_demand) (d' := 20) (C' := 0) (S' := 0) (av := [.int x1, .int x2, .int x3]) ?_ (gOk _ _ _ _ _) dL_law_1560 (tX12_demand _ _ _ _ _) ⟨wV_X12_demand, wL_X12_demand⟩ wM_DomainHouseLaw_173 (gCX12 _ _ _ _ _) rfl (lt_t rfl) rfl ⟨le_t rfl, le_t rfl⟩ ⟨le_t rfl, le_t rfl⟩ rfl (le_t rfl) (fun _ _ h => h)
  refine sC.of rfl (by decide) (le_t rfl) ?_
  refine sv_aload_n (pc := 0) dX12_demand_0 rfl rfl ?_
  refine sv_iload_n (pc := 1) dX12_demand_1 rfl rfl ?_
  refine sv_callV (pc := 2) (M' := mX12_isDomain) (d' := 19) (C' := 0) (S' := 0) (av := [.int x1]) ?_ (gOk _ _ _ _ _) dX12_demand_2 (tX12_isDomain _ _ _ _ _) ⟨wV_X12_isDomain, wL_X12_isDomain⟩ wM_X12_49 (gCX12 _ _ _ _ _) rfl (lt_t rfl) rfl ⟨le_t rfl, le_t rfl⟩ ⟨le_t rfl, le_t rfl⟩ rfl (le_t rfl) (fun _ _ h => h)
  refine sC.of rfl (by decide) (le_t rfl) ?_
  refine sv_iload_n (pc := 0) dX12_isDomain_0 rfl rfl ?_
  refine sv_iconst (pc := 1) (v := 0) dX12_isDomain_1 (by decide) ?_
  refine sv_aload_n (pc := 2) dX12_isDomain_2 rfl rfl ?_
  refine sw_getfield (pc := 3) dX12_isDomain_3 (gCX12 _ _ _ _ _) 5 (by decide) wF_X12_34 rfl rfl rfl ?_
  refine sv_iconst (pc := 6) (v := 1) dX12_isDomain_6 (by decide) ?_
  refine sw_isub (pc := 7) (v := (-1)) dX12_isDomain_7 (by decide) ?_
  refine sv_callS (pc := 8) (M' := mX12_in) (d' := 18) (C' := 0) (S' := 0) (av := [.int x1, .int 0, .int (-1)]) ?_ (gOk _ _ _ _ _) dX12_isDomain_8 (tX12_in _ _ _ _ _) wS_X12_in wM_X12_18 ⟨le_t rfl, le_t rfl⟩ ⟨le_t rfl, le_t rfl⟩ rfl (le_t rfl) (fun _ _ h => h)
  refine sC.of rfl (by decide) (le_t rfl) ?_
  refine sv_iload_n (pc := 0) dX12_in_0 rfl rfl ?_
  refine sv_iload_n (pc := 1) dX12_in_1 rfl rfl ?_
  refine sv_icmp_lt (pc := 2) (tgt := 14) dX12_in_2 (by decide) (fun h => absurd h h_1) (fun _ => ?_)
  refine sv_iload_n (pc := 5) dX12_in_5 rfl rfl ?_
  refine sv_iload_n (pc := 6) dX12_in_6 rfl rfl ?_
  refine sv_icmp_gt (pc := 7) (tgt := 14) dX12_in_7 (by decide) (fun _ => ?_) (fun h => False.elim (by have a0 := Int32.le_iff_toInt_le.mp (Int32.not_lt.mp h_1); have a1 := Int32.le_iff_toInt_le.mp (Int32.not_lt.mp h); have e0 : (-1 : Int32).toInt = -1 := (by decide); have e1 : (0 : Int32).toInt = 0 := (by decide); omega))
  refine sv_iconst (pc := 14) (v := 0) dX12_in_14 (by decide) ?_
  refine sv_zret (pc := 15) dX12_in_15 rfl (by decide) (le_t rfl) (le_t rfl) ?_
  refine sv_zret (pc := 11) dX12_isDomain_11 rfl (by decide) (le_t rfl) (le_t rfl) ?_
  refine sv_if_eq (pc := 5) (tgt := 19) dX12_demand_5 (by decide) (fun _ => ?_) (fun h => absurd (by decide) h)
  refine sv_iconst (pc := 19) (v := (-1)) dX12_demand_19 (by decide) ?_
  refine sv_iret (pc := 20) dX12_demand_20 rfl (le_t rfl) (le_t rfl) ?_
  refine sv_icmp_eq (pc := 1563) (tgt := 1799) dL_law_1563 (by decide) (fun _ => ?_) (fun h => absurd (by decide) h)
  exact kk _ _ _ (le_t rfl) (le_t rfl)
set_option maxHeartbeats 40000000 in
set_option maxRecDepth 100000 in
theorem op_38 (l : Launch) (D : va_G) (c : Nat → ClassId) (H0 : Heap) (b : Nat) (xs : Nat → Int32) (Z : sZT) (x1 x2 x3 x4 x5 x6 : Int32) (hx1 : xs 1 = x1) (hx2 : xs 2 = x2) (hx3 : xs 3 = x3) (hx4 : xs 4 = x4) (hx5 : xs 5 = x5) (hx6 : xs 6 = x6) (kk : ∀ (hp : sHp) (ce sl : Nat), ce ≤ 600000 → sl ≤ 7302250 → sV (gG l D c H0 (b, 7, xs)) mL room_1 Z 1799 [(3, .int 0), (2, .ref 106), (1, .ref 0), (0, .retAddr 0)] [] hp ce sl) : sV (gG l D c H0 (b, 7, xs)) mL room_1 Z 1568 [(3, .int 0), (2, .ref 106), (1, .ref 0), (0, .retAddr 0)] [] (192, tF) 192 297215 := by
  refine sv_aload_n (pc := 1568) dL_law_1568 rfl rfl ?_
  refine sv_aload_nS (pc := 1569) dL_law_1569 rfl rfl ?_
  refine sv_iload_n (pc := 1570) dL_law_1570 rfl rfl ?_
  refine sv_iconst (pc := 1571) (v := 1) dL_law_1571 (by decide) ?_
  refine sw_iadd (pc := 1572) (v := 1) dL_law_1572 (by decide) ?_
  refine sw_sld (pc := 1573) (v := x1) dL_law_1573 (k := 1) (by decide) (by decide) rfl hx1 ?_
  refine sv_aload_nS (pc := 1574) dL_law_1574 rfl rfl ?_
  refine sv_iload_n (pc := 1575) dL_law_1575 rfl rfl ?_
  refine sv_iconst (pc := 1576) (v := 2) dL_law_1576 (by decide) ?_
  refine sw_iadd (pc := 1577) (v := 2) dL_law_1577 (by decide) ?_
  refine sw_sld (pc := 1578) (v := x2) dL_law_1578 (k := 2) (by decide) (by decide) rfl hx2 ?_
  refine sv_callV (pc := 1579) (M' := mX11_load) (d' := 20) (C' := 0) (S' := 0) (av := [.int x1, .int x2]) ?_ (gOk _ _ _ _ _) dL_law_1579 (tX11_load _ _ _ _ _) ⟨wV_X11_load, wL_X11_load⟩ wM_DomainHouseLaw_174 (gCX11 _ _ _ _ _) rfl (lt_t rfl) rfl ⟨le_t rfl, le_t rfl⟩ ⟨le_t rfl, le_t rfl⟩ rfl (le_t rfl) (fun _ _ h => h)
  refine sC.of rfl (by decide) (le_t rfl) ?_
  refine sv_aload_n (pc := 0) dX11_load_0 rfl rfl ?_
  refine sv_iload_n (pc := 1) dX11_load_1 rfl rfl ?_
  refine sv_callV (pc := 2) (M' := mX11_isTie) (d' := 19) (C' := 0) (S' := 0) (av := [.int x1]) ?_ (gOk _ _ _ _ _) dX11_load_2 (tX11_isTie _ _ _ _ _) ⟨wV_X11_isTie, wL_X11_isTie⟩ wM_X11_119 (gCX11 _ _ _ _ _) rfl (lt_t rfl) rfl ⟨le_t rfl, le_t rfl⟩ ⟨le_t rfl, le_t rfl⟩ rfl (le_t rfl) (fun _ _ h => h)
  refine sC.of rfl (by decide) (le_t rfl) ?_
  refine sv_iload_n (pc := 0) dX11_isTie_0 rfl rfl ?_
  refine sv_if_lt (pc := 1) (tgt := 19) dX11_isTie_1 (by decide) (fun h_1 => ?_) (fun h_1 => ?_)
  · refine sv_iconst (pc := 19) (v := 0) dX11_isTie_19 (by decide) ?_
    refine sv_zret (pc := 20) dX11_isTie_20 rfl (by decide) (le_t rfl) (le_t rfl) ?_
    refine sv_if_eq (pc := 5) (tgt := 15) dX11_load_5 (by decide) (fun _ => ?_) (fun h => absurd (by decide) h)
    refine sv_iconst (pc := 15) (v := (-1)) dX11_load_15 (by decide) ?_
    refine sv_iret (pc := 16) dX11_load_16 rfl (le_t rfl) (le_t rfl) ?_
    refine sv_aload_n (pc := 1582) dL_law_1582 rfl rfl ?_
    refine sv_aload_nS (pc := 1583) dL_law_1583 rfl rfl ?_
    refine sv_iload_n (pc := 1584) dL_law_1584 rfl rfl ?_
    refine sv_iconst (pc := 1585) (v := 1) dL_law_1585 (by decide) ?_
    refine sw_iadd (pc := 1586) (v := 1) dL_law_1586 (by decide) ?_
    refine sw_sld (pc := 1587) (v := x1) dL_law_1587 (k := 1) (by decide) (by decide) rfl hx1 ?_
    refine sv_aload_nS (pc := 1588) dL_law_1588 rfl rfl ?_
    refine sv_iload_n (pc := 1589) dL_law_1589 rfl rfl ?_
    refine sv_iconst (pc := 1590) (v := 2) dL_law_1590 (by decide) ?_
    refine sw_iadd (pc := 1591) (v := 2) dL_law_1591 (by decide) ?_
    refine sw_sld (pc := 1592) (v := x2) dL_law_1592 (k := 2) (by decide) (by decide) rfl hx2 ?_
    refine sv_callV (pc := 1593) (M' := mX12_load) (d' := 20) (C' := 0) (S' := 0) (av := [.int x1, .int x2]) ?_ (gOk _ _ _ _ _) dL_law_1593 (tX12_load _ _ _ _ _) ⟨wV_X12_load, wL_X12_load⟩ wM_DomainHouseLaw_177 (gCX12 _ _ _ _ _) rfl (lt_t rfl) rfl ⟨le_t rfl, le_t rfl⟩ ⟨le_t rfl, le_t rfl⟩ rfl (le_t rfl) (fun _ _ h => h)
    refine sC.of rfl (by decide) (le_t rfl) ?_
    refine sv_aload_n (pc := 0) dX12_load_0 rfl rfl ?_
    refine sv_iload_n (pc := 1) dX12_load_1 rfl rfl ?_
    refine sv_callV (pc := 2) (M' := mX12_isTie) (d' := 19) (C' := 0) (S' := 0) (av := [.int x1]) ?_ (gOk _ _ _ _ _) dX12_load_2 (tX12_isTie _ _ _ _ _) ⟨wV_X12_isTie, wL_X12_isTie⟩ wM_X12_66 (gCX12 _ _ _ _ _) rfl (lt_t rfl) rfl ⟨le_t rfl, le_t rfl⟩ ⟨le_t rfl, le_t rfl⟩ rfl (le_t rfl) (fun _ _ h => h)
    refine sC.of rfl (by decide) (le_t rfl) ?_
    refine sv_iload_n (pc := 0) dX12_isTie_0 rfl rfl ?_
    refine sv_iconst (pc := 1) (v := 0) dX12_isTie_1 (by decide) ?_
    refine sv_aload_n (pc := 2) dX12_isTie_2 rfl rfl ?_
    refine sw_getfield (pc := 3) dX12_isTie_3 (gCX12 _ _ _ _ _) 6 (by decide) wF_X12_37 rfl rfl rfl ?_
    refine sv_iconst (pc := 6) (v := 1) dX12_isTie_6 (by decide) ?_
    refine sw_isub (pc := 7) (v := (-1)) dX12_isTie_7 (by decide) ?_
    refine sv_callS (pc := 8) (M' := mX12_in) (d' := 18) (C' := 0) (S' := 0) (av := [.int x1, .int 0, .int (-1)]) ?_ (gOk _ _ _ _ _) dX12_isTie_8 (tX12_in _ _ _ _ _) wS_X12_in wM_X12_18 ⟨le_t rfl, le_t rfl⟩ ⟨le_t rfl, le_t rfl⟩ rfl (le_t rfl) (fun _ _ h => h)
    refine sC.of rfl (by decide) (le_t rfl) ?_
    refine sv_iload_n (pc := 0) dX12_in_0 rfl rfl ?_
    refine sv_iload_n (pc := 1) dX12_in_1 rfl rfl ?_
    refine sv_icmp_lt (pc := 2) (tgt := 14) dX12_in_2 (by decide) (fun _ => ?_) (fun h => absurd h_1 h)
    refine sv_iconst (pc := 14) (v := 0) dX12_in_14 (by decide) ?_
    refine sv_zret (pc := 15) dX12_in_15 rfl (by decide) (le_t rfl) (le_t rfl) ?_
    refine sv_zret (pc := 11) dX12_isTie_11 rfl (by decide) (le_t rfl) (le_t rfl) ?_
    refine sv_if_eq (pc := 5) (tgt := 17) dX12_load_5 (by decide) (fun _ => ?_) (fun h => absurd (by decide) h)
    refine sv_iconst (pc := 17) (v := (-1)) dX12_load_17 (by decide) ?_
    refine sv_iret (pc := 18) dX12_load_18 rfl (le_t rfl) (le_t rfl) ?_
    refine sv_icmp_eq (pc := 1596) (tgt := 1799) dL_law_1596 (by decide) (fun _ => ?_) (fun h => absurd (by decide) h)
    exact kk _ _ _ (le_t rfl) (le_t rfl)
  refine sv_iload_n (pc := 4) dX11_isTie_4 rfl rfl ?_
  refine sv_aload_n (pc := 5) dX11_isTie_5 rfl rfl ?_
  refine sw_getfield (pc := 6) dX11_isTie_6 (gCX11 _ _ _ _ _) 3 (by decide) wF_X11_26 rfl rfl rfl ?_
  refine sw_getfield (pc := 9) dX11_isTie_9 (gCX10 _ _ _ _ _) 16 (by decide) wF_X11_112 rfl rfl rfl ?_
  refine sv_icmp_ge (pc := 12) (tgt := 19) dX11_isTie_12 (by decide) (fun _ => ?_) (fun h => False.elim (by have a0 := Int32.le_iff_toInt_le.mp (Int32.not_lt.mp h_1); have a1 := Int32.lt_iff_toInt_lt.mp (Int32.not_le.mp h); have e0 : (0 : Int32).toInt = 0 := (by decide); omega))
  refine sv_iconst (pc := 19) (v := 0) dX11_isTie_19 (by decide) ?_
  refine sv_zret (pc := 20) dX11_isTie_20 rfl (by decide) (le_t rfl) (le_t rfl) ?_
  refine sv_if_eq (pc := 5) (tgt := 15) dX11_load_5 (by decide) (fun _ => ?_) (fun h => absurd (by decide) h)
  refine sv_iconst (pc := 15) (v := (-1)) dX11_load_15 (by decide) ?_
  refine sv_iret (pc := 16) dX11_load_16 rfl (le_t rfl) (le_t rfl) ?_
  refine sv_aload_n (pc := 1582) dL_law_1582 rfl rfl ?_
  refine sv_aload_nS (pc := 1583) dL_law_1583 rfl rfl ?_
  refine sv_iload_n (pc := 1584) dL_law_1584 rfl rfl ?_
  refine sv_iconst (pc := 1585) (v := 1) dL_law_1585 (by decide) ?_
  refine sw_iadd (pc := 1586) (v := 1) dL_law_1586 (by decide) ?_
  refine sw_sld (pc := 1587) (v := x1) dL_law_1587 (k := 1) (by decide) (by decide) rfl hx1 ?_
  refine sv_aload_nS (pc := 1588) dL_law_1588 rfl rfl ?_
  refine sv_iload_n (pc := 1589) dL_law_1589 rfl rfl ?_
  refine sv_iconst (pc := 1590) (v := 2) dL_law_1590 (by decide) ?_
  refine sw_iadd (pc := 1591) (v := 2) dL_law_1591 (by decide) ?_
  refine sw_sld (pc := 1592) (v := x2) dL_law_1592 (k := 2) (by decide) (by decide) rfl hx2 ?_
  refine sv_callV (pc := 1593) (M' := mX12_load) (d' := 20) (C' := 0) (S' := 0) (av := [.int x1, .int x2]) ?_ (gOk _ _ _ _ _) dL_law_1593 (tX12_load _ _ _ _ _) ⟨wV_X12_load, wL_X12_load⟩ wM_DomainHouseLaw_177 (gCX12 _ _ _ _ _) rfl (lt_t rfl) rfl ⟨le_t rfl, le_t rfl⟩ ⟨le_t rfl, le_t rfl⟩ rfl (le_t rfl) (fun _ _ h => h)
  refine sC.of rfl (by decide) (le_t rfl) ?_
  refine sv_aload_n (pc := 0) dX12_load_0 rfl rfl ?_
  refine sv_iload_n (pc := 1) dX12_load_1 rfl rfl ?_
  refine sv_callV (pc := 2) (M' := mX12_isTie) (d' := 19) (C' := 0) (S' := 0) (av := [.int x1]) ?_ (gOk _ _ _ _ _) dX12_load_2 (tX12_isTie _ _ _ _ _) ⟨wV_X12_isTie, wL_X12_isTie⟩ wM_X12_66 (gCX12 _ _ _ _ _) rfl (lt_t rfl) rfl ⟨le_t rfl, le_t rfl⟩ ⟨le_t rfl, le_t rfl⟩ rfl (le_t rfl) (fun _ _ h => h)
  refine sC.of rfl (by decide) (le_t rfl) ?_
  refine sv_iload_n (pc := 0) dX12_isTie_0 rfl rfl ?_
  refine sv_iconst (pc := 1) (v := 0) dX12_isTie_1 (by decide) ?_
  refine sv_aload_n (pc := 2) dX12_isTie_2 rfl rfl ?_
  refine sw_getfield (pc := 3) dX12_isTie_3 (gCX12 _ _ _ _ _) 6 (by decide) wF_X12_37 rfl rfl rfl ?_
  refine sv_iconst (pc := 6) (v := 1) dX12_isTie_6 (by decide) ?_
  refine sw_isub (pc := 7) (v := (-1)) dX12_isTie_7 (by decide) ?_
  refine sv_callS (pc := 8) (M' := mX12_in) (d' := 18) (C' := 0) (S' := 0) (av := [.int x1, .int 0, .int (-1)]) ?_ (gOk _ _ _ _ _) dX12_isTie_8 (tX12_in _ _ _ _ _) wS_X12_in wM_X12_18 ⟨le_t rfl, le_t rfl⟩ ⟨le_t rfl, le_t rfl⟩ rfl (le_t rfl) (fun _ _ h => h)
  refine sC.of rfl (by decide) (le_t rfl) ?_
  refine sv_iload_n (pc := 0) dX12_in_0 rfl rfl ?_
  refine sv_iload_n (pc := 1) dX12_in_1 rfl rfl ?_
  refine sv_icmp_lt (pc := 2) (tgt := 14) dX12_in_2 (by decide) (fun h => absurd h h_1) (fun _ => ?_)
  refine sv_iload_n (pc := 5) dX12_in_5 rfl rfl ?_
  refine sv_iload_n (pc := 6) dX12_in_6 rfl rfl ?_
  refine sv_icmp_gt (pc := 7) (tgt := 14) dX12_in_7 (by decide) (fun _ => ?_) (fun h => False.elim (by have a0 := Int32.le_iff_toInt_le.mp (Int32.not_lt.mp h_1); have a1 := Int32.le_iff_toInt_le.mp (Int32.not_lt.mp h); have e0 : (-1 : Int32).toInt = -1 := (by decide); have e1 : (0 : Int32).toInt = 0 := (by decide); omega))
  refine sv_iconst (pc := 14) (v := 0) dX12_in_14 (by decide) ?_
  refine sv_zret (pc := 15) dX12_in_15 rfl (by decide) (le_t rfl) (le_t rfl) ?_
  refine sv_zret (pc := 11) dX12_isTie_11 rfl (by decide) (le_t rfl) (le_t rfl) ?_
  refine sv_if_eq (pc := 5) (tgt := 17) dX12_load_5 (by decide) (fun _ => ?_) (fun h => absurd (by decide) h)
  refine sv_iconst (pc := 17) (v := (-1)) dX12_load_17 (by decide) ?_
  refine sv_iret (pc := 18) dX12_load_18 rfl (le_t rfl) (le_t rfl) ?_
  refine sv_icmp_eq (pc := 1596) (tgt := 1799) dL_law_1596 (by decide) (fun _ => ?_) (fun h => absurd (by decide) h)
  exact kk _ _ _ (le_t rfl) (le_t rfl)
set_option maxHeartbeats 40000000 in
set_option maxRecDepth 100000 in
theorem op_39 (l : Launch) (D : va_G) (c : Nat → ClassId) (H0 : Heap) (b : Nat) (xs : Nat → Int32) (Z : sZT) (x1 x2 x3 x4 x5 x6 : Int32) (hx1 : xs 1 = x1) (hx2 : xs 2 = x2) (hx3 : xs 3 = x3) (hx4 : xs 4 = x4) (hx5 : xs 5 = x5) (hx6 : xs 6 = x6) (kk : ∀ (hp : sHp) (ce sl : Nat), ce ≤ 600000 → sl ≤ 7302250 → sV (gG l D c H0 (b, 7, xs)) mL room_1 Z 1799 [(3, .int 0), (2, .ref 106), (1, .ref 0), (0, .retAddr 0)] [] hp ce sl) : sV (gG l D c H0 (b, 7, xs)) mL room_1 Z 1601 [(3, .int 0), (2, .ref 106), (1, .ref 0), (0, .retAddr 0)] [] (192, tF) 192 297215 := by
  refine sv_aload_n (pc := 1601) dL_law_1601 rfl rfl ?_
  refine sv_aload_nS (pc := 1602) dL_law_1602 rfl rfl ?_
  refine sv_iload_n (pc := 1603) dL_law_1603 rfl rfl ?_
  refine sv_iconst (pc := 1604) (v := 1) dL_law_1604 (by decide) ?_
  refine sw_iadd (pc := 1605) (v := 1) dL_law_1605 (by decide) ?_
  refine sw_sld (pc := 1606) (v := x1) dL_law_1606 (k := 1) (by decide) (by decide) rfl hx1 ?_
  refine sv_callV (pc := 1607) (M' := mX11_units) (d' := 20) (C' := 0) (S' := 0) (av := [.int x1]) ?_ (gOk _ _ _ _ _) dL_law_1607 (tX11_units _ _ _ _ _) ⟨wV_X11_units, wL_X11_units⟩ wM_DomainHouseLaw_178 (gCX11 _ _ _ _ _) rfl (lt_t rfl) rfl ⟨le_t rfl, le_t rfl⟩ ⟨le_t rfl, le_t rfl⟩ rfl (le_t rfl) (fun _ _ h => h)
  refine sC.of rfl (by decide) (le_t rfl) ?_
  refine sv_iload_n (pc := 0) dX11_units_0 rfl rfl ?_
  refine sv_if_lt (pc := 1) (tgt := 9) dX11_units_1 (by decide) (fun h_1 => ?_) (fun h_1 => ?_)
  · refine sv_iconst (pc := 9) (v := (-1)) dX11_units_9 (by decide) ?_
    refine sv_goto (pc := 10) (tgt := 21) dX11_units_10 (by decide) ?_
    refine sv_iret (pc := 21) dX11_units_21 rfl (le_t rfl) (le_t rfl) ?_
    refine sv_aload_n (pc := 1610) dL_law_1610 rfl rfl ?_
    refine sv_aload_nS (pc := 1611) dL_law_1611 rfl rfl ?_
    refine sv_iload_n (pc := 1612) dL_law_1612 rfl rfl ?_
    refine sv_iconst (pc := 1613) (v := 1) dL_law_1613 (by decide) ?_
    refine sw_iadd (pc := 1614) (v := 1) dL_law_1614 (by decide) ?_
    refine sw_sld (pc := 1615) (v := x1) dL_law_1615 (k := 1) (by decide) (by decide) rfl hx1 ?_
    refine sv_callV (pc := 1616) (M' := mX12_units) (d' := 20) (C' := 0) (S' := 0) (av := [.int x1]) ?_ (gOk _ _ _ _ _) dL_law_1616 (tX12_units _ _ _ _ _) ⟨wV_X12_units, wL_X12_units⟩ wM_DomainHouseLaw_181 (gCX12 _ _ _ _ _) rfl (lt_t rfl) rfl ⟨le_t rfl, le_t rfl⟩ ⟨le_t rfl, le_t rfl⟩ rfl (le_t rfl) (fun _ _ h => h)
    refine sC.of rfl (by decide) (le_t rfl) ?_
    refine sv_iload_n (pc := 0) dX12_units_0 rfl rfl ?_
    refine sv_iconst (pc := 1) (v := 0) dX12_units_1 (by decide) ?_
    refine sv_iconst (pc := 2) (v := 2) dX12_units_2 (by decide) ?_
    refine sv_callS (pc := 3) (M' := mX12_in) (d' := 19) (C' := 0) (S' := 0) (av := [.int x1, .int 0, .int 2]) ?_ (gOk _ _ _ _ _) dX12_units_3 (tX12_in _ _ _ _ _) wS_X12_in wM_X12_18 ⟨le_t rfl, le_t rfl⟩ ⟨le_t rfl, le_t rfl⟩ rfl (le_t rfl) (fun _ _ h => h)
    refine sC.of rfl (by decide) (le_t rfl) ?_
    refine sv_iload_n (pc := 0) dX12_in_0 rfl rfl ?_
    refine sv_iload_n (pc := 1) dX12_in_1 rfl rfl ?_
    refine sv_icmp_lt (pc := 2) (tgt := 14) dX12_in_2 (by decide) (fun _ => ?_) (fun h => absurd h_1 h)
    refine sv_iconst (pc := 14) (v := 0) dX12_in_14 (by decide) ?_
    refine sv_zret (pc := 15) dX12_in_15 rfl (by decide) (le_t rfl) (le_t rfl) ?_
    refine sv_if_ne (pc := 6) (tgt := 11) dX12_units_6 (by decide) (fun h => absurd (by decide) h) (fun _ => ?_)
    refine sv_iconst (pc := 9) (v := (-1)) dX12_units_9 (by decide) ?_
    refine sv_iret (pc := 10) dX12_units_10 rfl (le_t rfl) (le_t rfl) ?_
    refine sv_icmp_eq (pc := 1619) (tgt := 1799) dL_law_1619 (by decide) (fun _ => ?_) (fun h => absurd (by decide) h)
    exact kk _ _ _ (le_t rfl) (le_t rfl)
  refine sv_iload_n (pc := 4) dX11_units_4 rfl rfl ?_
  refine sv_iconst (pc := 5) (v := 2) dX11_units_5 (by decide) ?_
  refine sv_icmp_le (pc := 6) (tgt := 13) dX11_units_6 (by decide) (fun h_2 => ?_) (fun h_2 => ?_)
  · refine sv_aload_n (pc := 13) dX11_units_13 rfl rfl ?_
    refine sw_getfield (pc := 14) dX11_units_14 (gCX11 _ _ _ _ _) 8 (by decide) wF_X11_65 rfl rfl rfl ?_
    refine sv_iload_n (pc := 17) dX11_units_17 rfl rfl ?_
    refine sv_callV (pc := 18) (M' := mX2_unitsThat) (d' := 19) (C' := 0) (S' := 0) (av := [.int x1]) ?_ (gOk _ _ _ _ _) dX11_units_18 (tX2_unitsThat _ _ _ _ _) ⟨wV_X2_unitsThat, wL_X2_unitsThat⟩ wM_X11_382 (gCX2 _ _ _ _ _) rfl (lt_t rfl) rfl ⟨le_t rfl, le_t rfl⟩ ⟨le_t rfl, le_t rfl⟩ rfl (le_t rfl) (fun _ _ h => h)
    refine sC.of rfl (by decide) (le_t rfl) ?_
    refine sv_iconst (pc := 0) (v := 0) dX2_unitsThat_0 (by decide) ?_
    refine sv_istore_n (pc := 1) dX2_unitsThat_1 rfl (by decide) ?_
    refine sv_iconst (pc := 2) (v := 0) dX2_unitsThat_2 (by decide) ?_
    refine sv_istore_n (pc := 3) dX2_unitsThat_3 rfl (by decide) ?_
    refine sv_iload_n (pc := 4) dX2_unitsThat_4 rfl rfl ?_
    refine sv_aload_n (pc := 5) dX2_unitsThat_5 rfl rfl ?_
    refine sw_getfield (pc := 6) dX2_unitsThat_6 (gCX2 _ _ _ _ _) 10 (by decide) wF_X2_95 rfl rfl rfl ?_
    refine sv_icmp_ge (pc := 9) (tgt := 47) dX2_unitsThat_9 (by decide) (fun _ => ?_) (fun h => absurd (by decide) h)
    refine sv_iload_n (pc := 47) dX2_unitsThat_47 rfl rfl ?_
    refine sv_iret (pc := 48) dX2_unitsThat_48 rfl (le_t rfl) (le_t rfl) ?_
    refine sv_iret (pc := 21) dX11_units_21 rfl (le_t rfl) (le_t rfl) ?_
    refine sv_aload_n (pc := 1610) dL_law_1610 rfl rfl ?_
    refine sv_aload_nS (pc := 1611) dL_law_1611 rfl rfl ?_
    refine sv_iload_n (pc := 1612) dL_law_1612 rfl rfl ?_
    refine sv_iconst (pc := 1613) (v := 1) dL_law_1613 (by decide) ?_
    refine sw_iadd (pc := 1614) (v := 1) dL_law_1614 (by decide) ?_
    refine sw_sld (pc := 1615) (v := x1) dL_law_1615 (k := 1) (by decide) (by decide) rfl hx1 ?_
    refine sv_callV (pc := 1616) (M' := mX12_units) (d' := 20) (C' := 0) (S' := 0) (av := [.int x1]) ?_ (gOk _ _ _ _ _) dL_law_1616 (tX12_units _ _ _ _ _) ⟨wV_X12_units, wL_X12_units⟩ wM_DomainHouseLaw_181 (gCX12 _ _ _ _ _) rfl (lt_t rfl) rfl ⟨le_t rfl, le_t rfl⟩ ⟨le_t rfl, le_t rfl⟩ rfl (le_t rfl) (fun _ _ h => h)
    refine sC.of rfl (by decide) (le_t rfl) ?_
    refine sv_iload_n (pc := 0) dX12_units_0 rfl rfl ?_
    refine sv_iconst (pc := 1) (v := 0) dX12_units_1 (by decide) ?_
    refine sv_iconst (pc := 2) (v := 2) dX12_units_2 (by decide) ?_
    refine sv_callS (pc := 3) (M' := mX12_in) (d' := 19) (C' := 0) (S' := 0) (av := [.int x1, .int 0, .int 2]) ?_ (gOk _ _ _ _ _) dX12_units_3 (tX12_in _ _ _ _ _) wS_X12_in wM_X12_18 ⟨le_t rfl, le_t rfl⟩ ⟨le_t rfl, le_t rfl⟩ rfl (le_t rfl) (fun _ _ h => h)
    refine sC.of rfl (by decide) (le_t rfl) ?_
    refine sv_iload_n (pc := 0) dX12_in_0 rfl rfl ?_
    refine sv_iload_n (pc := 1) dX12_in_1 rfl rfl ?_
    refine sv_icmp_lt (pc := 2) (tgt := 14) dX12_in_2 (by decide) (fun h => absurd h h_1) (fun _ => ?_)
    refine sv_iload_n (pc := 5) dX12_in_5 rfl rfl ?_
    refine sv_iload_n (pc := 6) dX12_in_6 rfl rfl ?_
    refine sv_icmp_gt (pc := 7) (tgt := 14) dX12_in_7 (by decide) (fun h => False.elim (by have a0 := Int32.le_iff_toInt_le.mp (Int32.not_lt.mp h_1); have a1 := Int32.le_iff_toInt_le.mp h_2; have a2 := Int32.lt_iff_toInt_lt.mp h; have e0 : (0 : Int32).toInt = 0 := (by decide); have e1 : (2 : Int32).toInt = 2 := (by decide); omega)) (fun _ => ?_)
    refine sv_iconst (pc := 10) (v := 1) dX12_in_10 (by decide) ?_
    refine sv_goto (pc := 11) (tgt := 15) dX12_in_11 (by decide) ?_
    refine sv_zret (pc := 15) dX12_in_15 rfl (by decide) (le_t rfl) (le_t rfl) ?_
    refine sv_if_ne (pc := 6) (tgt := 11) dX12_units_6 (by decide) (fun _ => ?_) (fun h => absurd h (by decide))
    refine sv_iconst (pc := 11) (v := 0) dX12_units_11 (by decide) ?_
    refine sv_istore_n (pc := 12) dX12_units_12 rfl (by decide) ?_
    refine sv_iconst (pc := 13) (v := 0) dX12_units_13 (by decide) ?_
    refine sv_istore_n (pc := 14) dX12_units_14 rfl (by decide) ?_
    refine sv_iload_n (pc := 15) dX12_units_15 rfl rfl ?_
    refine sv_aload_n (pc := 16) dX12_units_16 rfl rfl ?_
    refine sw_getfield (pc := 17) dX12_units_17 (gCX12 _ _ _ _ _) 109 (by decide) wF_X12_695 rfl rfl rfl ?_
    refine sv_icmp_ge (pc := 20) (tgt := 62) dX12_units_20 (by decide) (fun _ => ?_) (fun h => absurd (by decide) h)
    refine sv_iload_n (pc := 62) dX12_units_62 rfl rfl ?_
    refine sv_iret (pc := 63) dX12_units_63 rfl (le_t rfl) (le_t rfl) ?_
    refine sv_icmp_eq (pc := 1619) (tgt := 1799) dL_law_1619 (by decide) (fun _ => ?_) (fun h => absurd (by decide) h)
    exact kk _ _ _ (le_t rfl) (le_t rfl)
  refine sv_iconst (pc := 9) (v := (-1)) dX11_units_9 (by decide) ?_
  refine sv_goto (pc := 10) (tgt := 21) dX11_units_10 (by decide) ?_
  refine sv_iret (pc := 21) dX11_units_21 rfl (le_t rfl) (le_t rfl) ?_
  refine sv_aload_n (pc := 1610) dL_law_1610 rfl rfl ?_
  refine sv_aload_nS (pc := 1611) dL_law_1611 rfl rfl ?_
  refine sv_iload_n (pc := 1612) dL_law_1612 rfl rfl ?_
  refine sv_iconst (pc := 1613) (v := 1) dL_law_1613 (by decide) ?_
  refine sw_iadd (pc := 1614) (v := 1) dL_law_1614 (by decide) ?_
  refine sw_sld (pc := 1615) (v := x1) dL_law_1615 (k := 1) (by decide) (by decide) rfl hx1 ?_
  refine sv_callV (pc := 1616) (M' := mX12_units) (d' := 20) (C' := 0) (S' := 0) (av := [.int x1]) ?_ (gOk _ _ _ _ _) dL_law_1616 (tX12_units _ _ _ _ _) ⟨wV_X12_units, wL_X12_units⟩ wM_DomainHouseLaw_181 (gCX12 _ _ _ _ _) rfl (lt_t rfl) rfl ⟨le_t rfl, le_t rfl⟩ ⟨le_t rfl, le_t rfl⟩ rfl (le_t rfl) (fun _ _ h => h)
  refine sC.of rfl (by decide) (le_t rfl) ?_
  refine sv_iload_n (pc := 0) dX12_units_0 rfl rfl ?_
  refine sv_iconst (pc := 1) (v := 0) dX12_units_1 (by decide) ?_
  refine sv_iconst (pc := 2) (v := 2) dX12_units_2 (by decide) ?_
  refine sv_callS (pc := 3) (M' := mX12_in) (d' := 19) (C' := 0) (S' := 0) (av := [.int x1, .int 0, .int 2]) ?_ (gOk _ _ _ _ _) dX12_units_3 (tX12_in _ _ _ _ _) wS_X12_in wM_X12_18 ⟨le_t rfl, le_t rfl⟩ ⟨le_t rfl, le_t rfl⟩ rfl (le_t rfl) (fun _ _ h => h)
  refine sC.of rfl (by decide) (le_t rfl) ?_
  refine sv_iload_n (pc := 0) dX12_in_0 rfl rfl ?_
  refine sv_iload_n (pc := 1) dX12_in_1 rfl rfl ?_
  refine sv_icmp_lt (pc := 2) (tgt := 14) dX12_in_2 (by decide) (fun h => absurd h h_1) (fun _ => ?_)
  refine sv_iload_n (pc := 5) dX12_in_5 rfl rfl ?_
  refine sv_iload_n (pc := 6) dX12_in_6 rfl rfl ?_
  refine sv_icmp_gt (pc := 7) (tgt := 14) dX12_in_7 (by decide) (fun _ => ?_) (fun h => False.elim (by have a0 := Int32.le_iff_toInt_le.mp (Int32.not_lt.mp h_1); have a1 := Int32.lt_iff_toInt_lt.mp (Int32.not_le.mp h_2); have a2 := Int32.le_iff_toInt_le.mp (Int32.not_lt.mp h); have e0 : (0 : Int32).toInt = 0 := (by decide); have e1 : (2 : Int32).toInt = 2 := (by decide); omega))
  refine sv_iconst (pc := 14) (v := 0) dX12_in_14 (by decide) ?_
  refine sv_zret (pc := 15) dX12_in_15 rfl (by decide) (le_t rfl) (le_t rfl) ?_
  refine sv_if_ne (pc := 6) (tgt := 11) dX12_units_6 (by decide) (fun h => absurd (by decide) h) (fun _ => ?_)
  refine sv_iconst (pc := 9) (v := (-1)) dX12_units_9 (by decide) ?_
  refine sv_iret (pc := 10) dX12_units_10 rfl (le_t rfl) (le_t rfl) ?_
  refine sv_icmp_eq (pc := 1619) (tgt := 1799) dL_law_1619 (by decide) (fun _ => ?_) (fun h => absurd (by decide) h)
  exact kk _ _ _ (le_t rfl) (le_t rfl)
set_option maxHeartbeats 40000000 in
set_option maxRecDepth 100000 in
theorem op_40 (l : Launch) (D : va_G) (c : Nat → ClassId) (H0 : Heap) (b : Nat) (xs : Nat → Int32) (Z : sZT) (x1 x2 x3 x4 x5 x6 : Int32) (hx1 : xs 1 = x1) (hx2 : xs 2 = x2) (hx3 : xs 3 = x3) (hx4 : xs 4 = x4) (hx5 : xs 5 = x5) (hx6 : xs 6 = x6) (kk : ∀ (hp : sHp) (ce sl : Nat), ce ≤ 600000 → sl ≤ 7302250 → sV (gG l D c H0 (b, 7, xs)) mL room_1 Z 1799 [(3, .int 0), (2, .ref 106), (1, .ref 0), (0, .retAddr 0)] [] hp ce sl) : sV (gG l D c H0 (b, 7, xs)) mL room_1 Z 1624 [(3, .int 0), (2, .ref 106), (1, .ref 0), (0, .retAddr 0)] [] (192, tF) 192 297215 := by
  refine sv_aload_n (pc := 1624) dL_law_1624 rfl rfl ?_
  refine sv_aload_nS (pc := 1625) dL_law_1625 rfl rfl ?_
  refine sv_iload_n (pc := 1626) dL_law_1626 rfl rfl ?_
  refine sv_iconst (pc := 1627) (v := 1) dL_law_1627 (by decide) ?_
  refine sw_iadd (pc := 1628) (v := 1) dL_law_1628 (by decide) ?_
  refine sw_sld (pc := 1629) (v := x1) dL_law_1629 (k := 1) (by decide) (by decide) rfl hx1 ?_
  refine sv_callV (pc := 1630) (M' := mX11_least) (d' := 20) (C' := 0) (S' := 0) (av := [.int x1]) ?_ (gOk _ _ _ _ _) dL_law_1630 (tX11_least _ _ _ _ _) ⟨wV_X11_least, wL_X11_least⟩ wM_DomainHouseLaw_182 (gCX11 _ _ _ _ _) rfl (lt_t rfl) rfl ⟨le_t rfl, le_t rfl⟩ ⟨le_t rfl, le_t rfl⟩ rfl (le_t rfl) (fun _ _ h => h)
  refine sC.of rfl (by decide) (le_t rfl) ?_
  refine sv_aload_n (pc := 0) dX11_least_0 rfl rfl ?_
  refine sv_iload_n (pc := 1) dX11_least_1 rfl rfl ?_
  refine sv_callV (pc := 2) (M' := mX11_isDomain) (d' := 19) (C' := 0) (S' := 0) (av := [.int x1]) ?_ (gOk _ _ _ _ _) dX11_least_2 (tX11_isDomain _ _ _ _ _) ⟨wV_X11_isDomain, wL_X11_isDomain⟩ wM_X11_105 (gCX11 _ _ _ _ _) rfl (lt_t rfl) rfl ⟨le_t rfl, le_t rfl⟩ ⟨le_t rfl, le_t rfl⟩ rfl (le_t rfl) (fun _ _ h => h)
  refine sC.of rfl (by decide) (le_t rfl) ?_
  refine sv_iload_n (pc := 0) dX11_isDomain_0 rfl rfl ?_
  refine sv_if_lt (pc := 1) (tgt := 19) dX11_isDomain_1 (by decide) (fun h_1 => ?_) (fun h_1 => ?_)
  · refine sv_iconst (pc := 19) (v := 0) dX11_isDomain_19 (by decide) ?_
    refine sv_zret (pc := 20) dX11_isDomain_20 rfl (by decide) (le_t rfl) (le_t rfl) ?_
    refine sv_if_eq (pc := 5) (tgt := 19) dX11_least_5 (by decide) (fun _ => ?_) (fun h => absurd (by decide) h)
    refine sv_iconst (pc := 19) (v := (-1)) dX11_least_19 (by decide) ?_
    refine sv_iret (pc := 20) dX11_least_20 rfl (le_t rfl) (le_t rfl) ?_
    refine sv_aload_n (pc := 1633) dL_law_1633 rfl rfl ?_
    refine sv_aload_nS (pc := 1634) dL_law_1634 rfl rfl ?_
    refine sv_iload_n (pc := 1635) dL_law_1635 rfl rfl ?_
    refine sv_iconst (pc := 1636) (v := 1) dL_law_1636 (by decide) ?_
    refine sw_iadd (pc := 1637) (v := 1) dL_law_1637 (by decide) ?_
    refine sw_sld (pc := 1638) (v := x1) dL_law_1638 (k := 1) (by decide) (by decide) rfl hx1 ?_
    refine sv_callV (pc := 1639) (M' := mX12_least) (d' := 20) (C' := 0) (S' := 0) (av := [.int x1]) ?_ (gOk _ _ _ _ _) dL_law_1639 (tX12_least _ _ _ _ _) ⟨wV_X12_least, wL_X12_least⟩ wM_DomainHouseLaw_185 (gCX12 _ _ _ _ _) rfl (lt_t rfl) rfl ⟨le_t rfl, le_t rfl⟩ ⟨le_t rfl, le_t rfl⟩ rfl (le_t rfl) (fun _ _ h => h)
    refine sC.of rfl (by decide) (le_t rfl) ?_
    refine sv_aload_n (pc := 0) dX12_least_0 rfl rfl ?_
    refine sv_iload_n (pc := 1) dX12_least_1 rfl rfl ?_
    refine sv_callV (pc := 2) (M' := mX12_isDomain) (d' := 19) (C' := 0) (S' := 0) (av := [.int x1]) ?_ (gOk _ _ _ _ _) dX12_least_2 (tX12_isDomain _ _ _ _ _) ⟨wV_X12_isDomain, wL_X12_isDomain⟩ wM_X12_49 (gCX12 _ _ _ _ _) rfl (lt_t rfl) rfl ⟨le_t rfl, le_t rfl⟩ ⟨le_t rfl, le_t rfl⟩ rfl (le_t rfl) (fun _ _ h => h)
    refine sC.of rfl (by decide) (le_t rfl) ?_
    refine sv_iload_n (pc := 0) dX12_isDomain_0 rfl rfl ?_
    refine sv_iconst (pc := 1) (v := 0) dX12_isDomain_1 (by decide) ?_
    refine sv_aload_n (pc := 2) dX12_isDomain_2 rfl rfl ?_
    refine sw_getfield (pc := 3) dX12_isDomain_3 (gCX12 _ _ _ _ _) 5 (by decide) wF_X12_34 rfl rfl rfl ?_
    refine sv_iconst (pc := 6) (v := 1) dX12_isDomain_6 (by decide) ?_
    refine sw_isub (pc := 7) (v := (-1)) dX12_isDomain_7 (by decide) ?_
    refine sv_callS (pc := 8) (M' := mX12_in) (d' := 18) (C' := 0) (S' := 0) (av := [.int x1, .int 0, .int (-1)]) ?_ (gOk _ _ _ _ _) dX12_isDomain_8 (tX12_in _ _ _ _ _) wS_X12_in wM_X12_18 ⟨le_t rfl, le_t rfl⟩ ⟨le_t rfl, le_t rfl⟩ rfl (le_t rfl) (fun _ _ h => h)
    refine sC.of rfl (by decide) (le_t rfl) ?_
    refine sv_iload_n (pc := 0) dX12_in_0 rfl rfl ?_
    refine sv_iload_n (pc := 1) dX12_in_1 rfl rfl ?_
    refine sv_icmp_lt (pc := 2) (tgt := 14) dX12_in_2 (by decide) (fun _ => ?_) (fun h => absurd h_1 h)
    refine sv_iconst (pc := 14) (v := 0) dX12_in_14 (by decide) ?_
    refine sv_zret (pc := 15) dX12_in_15 rfl (by decide) (le_t rfl) (le_t rfl) ?_
    refine sv_zret (pc := 11) dX12_isDomain_11 rfl (by decide) (le_t rfl) (le_t rfl) ?_
    refine sv_if_ne (pc := 5) (tgt := 10) dX12_least_5 (by decide) (fun h => absurd (by decide) h) (fun _ => ?_)
    refine sv_iconst (pc := 8) (v := (-1)) dX12_least_8 (by decide) ?_
    refine sv_iret (pc := 9) dX12_least_9 rfl (le_t rfl) (le_t rfl) ?_
    refine sv_icmp_eq (pc := 1642) (tgt := 1799) dL_law_1642 (by decide) (fun _ => ?_) (fun h => absurd (by decide) h)
    exact kk _ _ _ (le_t rfl) (le_t rfl)
  refine sv_iload_n (pc := 4) dX11_isDomain_4 rfl rfl ?_
  refine sv_aload_n (pc := 5) dX11_isDomain_5 rfl rfl ?_
  refine sw_getfield (pc := 6) dX11_isDomain_6 (gCX11 _ _ _ _ _) 3 (by decide) wF_X11_26 rfl rfl rfl ?_
  refine sw_getfield (pc := 9) dX11_isDomain_9 (gCX10 _ _ _ _ _) 15 (by decide) wF_X11_98 rfl rfl rfl ?_
  refine sv_icmp_ge (pc := 12) (tgt := 19) dX11_isDomain_12 (by decide) (fun _ => ?_) (fun h => False.elim (by have a0 := Int32.le_iff_toInt_le.mp (Int32.not_lt.mp h_1); have a1 := Int32.lt_iff_toInt_lt.mp (Int32.not_le.mp h); have e0 : (0 : Int32).toInt = 0 := (by decide); omega))
  refine sv_iconst (pc := 19) (v := 0) dX11_isDomain_19 (by decide) ?_
  refine sv_zret (pc := 20) dX11_isDomain_20 rfl (by decide) (le_t rfl) (le_t rfl) ?_
  refine sv_if_eq (pc := 5) (tgt := 19) dX11_least_5 (by decide) (fun _ => ?_) (fun h => absurd (by decide) h)
  refine sv_iconst (pc := 19) (v := (-1)) dX11_least_19 (by decide) ?_
  refine sv_iret (pc := 20) dX11_least_20 rfl (le_t rfl) (le_t rfl) ?_
  refine sv_aload_n (pc := 1633) dL_law_1633 rfl rfl ?_
  refine sv_aload_nS (pc := 1634) dL_law_1634 rfl rfl ?_
  refine sv_iload_n (pc := 1635) dL_law_1635 rfl rfl ?_
  refine sv_iconst (pc := 1636) (v := 1) dL_law_1636 (by decide) ?_
  refine sw_iadd (pc := 1637) (v := 1) dL_law_1637 (by decide) ?_
  refine sw_sld (pc := 1638) (v := x1) dL_law_1638 (k := 1) (by decide) (by decide) rfl hx1 ?_
  refine sv_callV (pc := 1639) (M' := mX12_least) (d' := 20) (C' := 0) (S' := 0) (av := [.int x1]) ?_ (gOk _ _ _ _ _) dL_law_1639 (tX12_least _ _ _ _ _) ⟨wV_X12_least, wL_X12_least⟩ wM_DomainHouseLaw_185 (gCX12 _ _ _ _ _) rfl (lt_t rfl) rfl ⟨le_t rfl, le_t rfl⟩ ⟨le_t rfl, le_t rfl⟩ rfl (le_t rfl) (fun _ _ h => h)
  refine sC.of rfl (by decide) (le_t rfl) ?_
  refine sv_aload_n (pc := 0) dX12_least_0 rfl rfl ?_
  refine sv_iload_n (pc := 1) dX12_least_1 rfl rfl ?_
  refine sv_callV (pc := 2) (M' := mX12_isDomain) (d' := 19) (C' := 0) (S' := 0) (av := [.int x1]) ?_ (gOk _ _ _ _ _) dX12_least_2 (tX12_isDomain _ _ _ _ _) ⟨wV_X12_isDomain, wL_X12_isDomain⟩ wM_X12_49 (gCX12 _ _ _ _ _) rfl (lt_t rfl) rfl ⟨le_t rfl, le_t rfl⟩ ⟨le_t rfl, le_t rfl⟩ rfl (le_t rfl) (fun _ _ h => h)
  refine sC.of rfl (by decide) (le_t rfl) ?_
  refine sv_iload_n (pc := 0) dX12_isDomain_0 rfl rfl ?_
  refine sv_iconst (pc := 1) (v := 0) dX12_isDomain_1 (by decide) ?_
  refine sv_aload_n (pc := 2) dX12_isDomain_2 rfl rfl ?_
  refine sw_getfield (pc := 3) dX12_isDomain_3 (gCX12 _ _ _ _ _) 5 (by decide) wF_X12_34 rfl rfl rfl ?_
  refine sv_iconst (pc := 6) (v := 1) dX12_isDomain_6 (by decide) ?_
  refine sw_isub (pc := 7) (v := (-1)) dX12_isDomain_7 (by decide) ?_
  refine sv_callS (pc := 8) (M' := mX12_in) (d' := 18) (C' := 0) (S' := 0) (av := [.int x1, .int 0, .int (-1)]) ?_ (gOk _ _ _ _ _) dX12_isDomain_8 (tX12_in _ _ _ _ _) wS_X12_in wM_X12_18 ⟨le_t rfl, le_t rfl⟩ ⟨le_t rfl, le_t rfl⟩ rfl (le_t rfl) (fun _ _ h => h)
  refine sC.of rfl (by decide) (le_t rfl) ?_
  refine sv_iload_n (pc := 0) dX12_in_0 rfl rfl ?_
  refine sv_iload_n (pc := 1) dX12_in_1 rfl rfl ?_
  refine sv_icmp_lt (pc := 2) (tgt := 14) dX12_in_2 (by decide) (fun h => absurd h h_1) (fun _ => ?_)
  refine sv_iload_n (pc := 5) dX12_in_5 rfl rfl ?_
  refine sv_iload_n (pc := 6) dX12_in_6 rfl rfl ?_
  refine sv_icmp_gt (pc := 7) (tgt := 14) dX12_in_7 (by decide) (fun _ => ?_) (fun h => False.elim (by have a0 := Int32.le_iff_toInt_le.mp (Int32.not_lt.mp h_1); have a1 := Int32.le_iff_toInt_le.mp (Int32.not_lt.mp h); have e0 : (-1 : Int32).toInt = -1 := (by decide); have e1 : (0 : Int32).toInt = 0 := (by decide); omega))
  refine sv_iconst (pc := 14) (v := 0) dX12_in_14 (by decide) ?_
  refine sv_zret (pc := 15) dX12_in_15 rfl (by decide) (le_t rfl) (le_t rfl) ?_
  refine sv_zret (pc := 11) dX12_isDomain_11 rfl (by decide) (le_t rfl) (le_t rfl) ?_
  refine sv_if_ne (pc := 5) (tgt := 10) dX12_least_5 (by decide) (fun h => absurd (by decide) h) (fun _ => ?_)
  refine sv_iconst (pc := 8) (v := (-1)) dX12_least_8 (by decide) ?_
  refine sv_iret (pc := 9) dX12_least_9 rfl (le_t rfl) (le_t rfl) ?_
  refine sv_icmp_eq (pc := 1642) (tgt := 1799) dL_law_1642 (by decide) (fun _ => ?_) (fun h => absurd (by decide) h)
  exact kk _ _ _ (le_t rfl) (le_t rfl)
set_option maxHeartbeats 40000000 in
set_option maxRecDepth 100000 in
theorem op_41 (l : Launch) (D : va_G) (c : Nat → ClassId) (H0 : Heap) (b : Nat) (xs : Nat → Int32) (Z : sZT) (x1 x2 x3 x4 x5 x6 : Int32) (hx1 : xs 1 = x1) (hx2 : xs 2 = x2) (hx3 : xs 3 = x3) (hx4 : xs 4 = x4) (hx5 : xs 5 = x5) (hx6 : xs 6 = x6) (kk : ∀ (hp : sHp) (ce sl : Nat), ce ≤ 600000 → sl ≤ 7302250 → sV (gG l D c H0 (b, 7, xs)) mL room_1 Z 1799 [(3, .int 0), (2, .ref 106), (1, .ref 0), (0, .retAddr 0)] [] hp ce sl) : sV (gG l D c H0 (b, 7, xs)) mL room_1 Z 1647 [(3, .int 0), (2, .ref 106), (1, .ref 0), (0, .retAddr 0)] [] (192, tF) 192 297215 := by
  refine sv_aload_n (pc := 1647) dL_law_1647 rfl rfl ?_
  refine sv_aload_nS (pc := 1648) dL_law_1648 rfl rfl ?_
  refine sv_iload_n (pc := 1649) dL_law_1649 rfl rfl ?_
  refine sv_iconst (pc := 1650) (v := 1) dL_law_1650 (by decide) ?_
  refine sw_iadd (pc := 1651) (v := 1) dL_law_1651 (by decide) ?_
  refine sw_sld (pc := 1652) (v := x1) dL_law_1652 (k := 1) (by decide) (by decide) rfl hx1 ?_
  refine sv_aload_nS (pc := 1653) dL_law_1653 rfl rfl ?_
  refine sv_iload_n (pc := 1654) dL_law_1654 rfl rfl ?_
  refine sv_iconst (pc := 1655) (v := 2) dL_law_1655 (by decide) ?_
  refine sw_iadd (pc := 1656) (v := 2) dL_law_1656 (by decide) ?_
  refine sw_sld (pc := 1657) (v := x2) dL_law_1657 (k := 2) (by decide) (by decide) rfl hx2 ?_
  refine sv_callV (pc := 1658) (M' := mX11_differ) (d' := 20) (C' := 0) (S' := 0) (av := [.int x1, .int x2]) ?_ (gOk _ _ _ _ _) dL_law_1658 (tX11_differ _ _ _ _ _) ⟨wV_X11_differ, wL_X11_differ⟩ wM_DomainHouseLaw_186 (gCX11 _ _ _ _ _) rfl (lt_t rfl) rfl ⟨le_t rfl, le_t rfl⟩ ⟨le_t rfl, le_t rfl⟩ rfl (le_t rfl) (fun _ _ h => h)
  refine sC.of rfl (by decide) (le_t rfl) ?_
  refine sv_aload_n (pc := 0) dX11_differ_0 rfl rfl ?_
  refine sv_iload_n (pc := 1) dX11_differ_1 rfl rfl ?_
  refine sv_callV (pc := 2) (M' := mX11_isDomain) (d' := 19) (C' := 0) (S' := 0) (av := [.int x1]) ?_ (gOk _ _ _ _ _) dX11_differ_2 (tX11_isDomain _ _ _ _ _) ⟨wV_X11_isDomain, wL_X11_isDomain⟩ wM_X11_105 (gCX11 _ _ _ _ _) rfl (lt_t rfl) rfl ⟨le_t rfl, le_t rfl⟩ ⟨le_t rfl, le_t rfl⟩ rfl (le_t rfl) (fun _ _ h => h)
  refine sC.of rfl (by decide) (le_t rfl) ?_
  refine sv_iload_n (pc := 0) dX11_isDomain_0 rfl rfl ?_
  refine sv_if_lt (pc := 1) (tgt := 19) dX11_isDomain_1 (by decide) (fun h_1 => ?_) (fun h_1 => ?_)
  · refine sv_iconst (pc := 19) (v := 0) dX11_isDomain_19 (by decide) ?_
    refine sv_zret (pc := 20) dX11_isDomain_20 rfl (by decide) (le_t rfl) (le_t rfl) ?_
    refine sv_if_eq (pc := 5) (tgt := 28) dX11_differ_5 (by decide) (fun _ => ?_) (fun h => absurd (by decide) h)
    refine sv_ldc2 (pc := 28) dX11_differ_28 wH_X11_392 ?_
    refine sv_lret (pc := 31) dX11_differ_31 rfl (le_t rfl) (le_t rfl) ?_
    refine sv_aload_n (pc := 1661) dL_law_1661 rfl rfl ?_
    refine sv_aload_nS (pc := 1662) dL_law_1662 rfl rfl ?_
    refine sv_iload_n (pc := 1663) dL_law_1663 rfl rfl ?_
    refine sv_iconst (pc := 1664) (v := 1) dL_law_1664 (by decide) ?_
    refine sw_iadd (pc := 1665) (v := 1) dL_law_1665 (by decide) ?_
    refine sw_sld (pc := 1666) (v := x1) dL_law_1666 (k := 1) (by decide) (by decide) rfl hx1 ?_
    refine sv_aload_nS (pc := 1667) dL_law_1667 rfl rfl ?_
    refine sv_iload_n (pc := 1668) dL_law_1668 rfl rfl ?_
    refine sv_iconst (pc := 1669) (v := 2) dL_law_1669 (by decide) ?_
    refine sw_iadd (pc := 1670) (v := 2) dL_law_1670 (by decide) ?_
    refine sw_sld (pc := 1671) (v := x2) dL_law_1671 (k := 2) (by decide) (by decide) rfl hx2 ?_
    refine sv_callV (pc := 1672) (M' := mX12_differ) (d' := 20) (C' := 0) (S' := 0) (av := [.int x1, .int x2]) ?_ (gOk _ _ _ _ _) dL_law_1672 (tX12_differ _ _ _ _ _) ⟨wV_X12_differ, wL_X12_differ⟩ wM_DomainHouseLaw_190 (gCX12 _ _ _ _ _) rfl (lt_t rfl) rfl ⟨le_t rfl, le_t rfl⟩ ⟨le_t rfl, le_t rfl⟩ rfl (le_t rfl) (fun _ _ h => h)
    refine sC.of rfl (by decide) (le_t rfl) ?_
    refine sv_aload_n (pc := 0) dX12_differ_0 rfl rfl ?_
    refine sv_iload_n (pc := 1) dX12_differ_1 rfl rfl ?_
    refine sv_callV (pc := 2) (M' := mX12_isDomain) (d' := 19) (C' := 0) (S' := 0) (av := [.int x1]) ?_ (gOk _ _ _ _ _) dX12_differ_2 (tX12_isDomain _ _ _ _ _) ⟨wV_X12_isDomain, wL_X12_isDomain⟩ wM_X12_49 (gCX12 _ _ _ _ _) rfl (lt_t rfl) rfl ⟨le_t rfl, le_t rfl⟩ ⟨le_t rfl, le_t rfl⟩ rfl (le_t rfl) (fun _ _ h => h)
    refine sC.of rfl (by decide) (le_t rfl) ?_
    refine sv_iload_n (pc := 0) dX12_isDomain_0 rfl rfl ?_
    refine sv_iconst (pc := 1) (v := 0) dX12_isDomain_1 (by decide) ?_
    refine sv_aload_n (pc := 2) dX12_isDomain_2 rfl rfl ?_
    refine sw_getfield (pc := 3) dX12_isDomain_3 (gCX12 _ _ _ _ _) 5 (by decide) wF_X12_34 rfl rfl rfl ?_
    refine sv_iconst (pc := 6) (v := 1) dX12_isDomain_6 (by decide) ?_
    refine sw_isub (pc := 7) (v := (-1)) dX12_isDomain_7 (by decide) ?_
    refine sv_callS (pc := 8) (M' := mX12_in) (d' := 18) (C' := 0) (S' := 0) (av := [.int x1, .int 0, .int (-1)]) ?_ (gOk _ _ _ _ _) dX12_isDomain_8 (tX12_in _ _ _ _ _) wS_X12_in wM_X12_18 ⟨le_t rfl, le_t rfl⟩ ⟨le_t rfl, le_t rfl⟩ rfl (le_t rfl) (fun _ _ h => h)
    refine sC.of rfl (by decide) (le_t rfl) ?_
    refine sv_iload_n (pc := 0) dX12_in_0 rfl rfl ?_
    refine sv_iload_n (pc := 1) dX12_in_1 rfl rfl ?_
    refine sv_icmp_lt (pc := 2) (tgt := 14) dX12_in_2 (by decide) (fun _ => ?_) (fun h => absurd h_1 h)
    refine sv_iconst (pc := 14) (v := 0) dX12_in_14 (by decide) ?_
    refine sv_zret (pc := 15) dX12_in_15 rfl (by decide) (le_t rfl) (le_t rfl) ?_
    refine sv_zret (pc := 11) dX12_isDomain_11 rfl (by decide) (le_t rfl) (le_t rfl) ?_
    refine sv_if_eq (pc := 5) (tgt := 16) dX12_differ_5 (by decide) (fun _ => ?_) (fun h => absurd (by decide) h)
    refine sv_ldc2 (pc := 16) dX12_differ_16 wH_X12_710 ?_
    refine sv_lret (pc := 19) dX12_differ_19 rfl (le_t rfl) (le_t rfl) ?_
    refine sw_lcmp (pc := 1675) (v := 0) dL_law_1675 (by decide) ?_
    refine sv_if_eq (pc := 1676) (tgt := 1799) dL_law_1676 (by decide) (fun _ => ?_) (fun h => absurd (by decide) h)
    exact kk _ _ _ (le_t rfl) (le_t rfl)
  refine sv_iload_n (pc := 4) dX11_isDomain_4 rfl rfl ?_
  refine sv_aload_n (pc := 5) dX11_isDomain_5 rfl rfl ?_
  refine sw_getfield (pc := 6) dX11_isDomain_6 (gCX11 _ _ _ _ _) 3 (by decide) wF_X11_26 rfl rfl rfl ?_
  refine sw_getfield (pc := 9) dX11_isDomain_9 (gCX10 _ _ _ _ _) 15 (by decide) wF_X11_98 rfl rfl rfl ?_
  refine sv_icmp_ge (pc := 12) (tgt := 19) dX11_isDomain_12 (by decide) (fun _ => ?_) (fun h => False.elim (by have a0 := Int32.le_iff_toInt_le.mp (Int32.not_lt.mp h_1); have a1 := Int32.lt_iff_toInt_lt.mp (Int32.not_le.mp h); have e0 : (0 : Int32).toInt = 0 := (by decide); omega))
  refine sv_iconst (pc := 19) (v := 0) dX11_isDomain_19 (by decide) ?_
  refine sv_zret (pc := 20) dX11_isDomain_20 rfl (by decide) (le_t rfl) (le_t rfl) ?_
  refine sv_if_eq (pc := 5) (tgt := 28) dX11_differ_5 (by decide) (fun _ => ?_) (fun h => absurd (by decide) h)
  refine sv_ldc2 (pc := 28) dX11_differ_28 wH_X11_392 ?_
  refine sv_lret (pc := 31) dX11_differ_31 rfl (le_t rfl) (le_t rfl) ?_
  refine sv_aload_n (pc := 1661) dL_law_1661 rfl rfl ?_
  refine sv_aload_nS (pc := 1662) dL_law_1662 rfl rfl ?_
  refine sv_iload_n (pc := 1663) dL_law_1663 rfl rfl ?_
  refine sv_iconst (pc := 1664) (v := 1) dL_law_1664 (by decide) ?_
  refine sw_iadd (pc := 1665) (v := 1) dL_law_1665 (by decide) ?_
  refine sw_sld (pc := 1666) (v := x1) dL_law_1666 (k := 1) (by decide) (by decide) rfl hx1 ?_
  refine sv_aload_nS (pc := 1667) dL_law_1667 rfl rfl ?_
  refine sv_iload_n (pc := 1668) dL_law_1668 rfl rfl ?_
  refine sv_iconst (pc := 1669) (v := 2) dL_law_1669 (by decide) ?_
  refine sw_iadd (pc := 1670) (v := 2) dL_law_1670 (by decide) ?_
  refine sw_sld (pc := 1671) (v := x2) dL_law_1671 (k := 2) (by decide) (by decide) rfl hx2 ?_
  refine sv_callV (pc := 1672) (M' := mX12_differ) (d' := 20) (C' := 0) (S' := 0) (av := [.int x1, .int x2]) ?_ (gOk _ _ _ _ _) dL_law_1672 (tX12_differ _ _ _ _ _) ⟨wV_X12_differ, wL_X12_differ⟩ wM_DomainHouseLaw_190 (gCX12 _ _ _ _ _) rfl (lt_t rfl) rfl ⟨le_t rfl, le_t rfl⟩ ⟨le_t rfl, le_t rfl⟩ rfl (le_t rfl) (fun _ _ h => h)
  refine sC.of rfl (by decide) (le_t rfl) ?_
  refine sv_aload_n (pc := 0) dX12_differ_0 rfl rfl ?_
  refine sv_iload_n (pc := 1) dX12_differ_1 rfl rfl ?_
  refine sv_callV (pc := 2) (M' := mX12_isDomain) (d' := 19) (C' := 0) (S' := 0) (av := [.int x1]) ?_ (gOk _ _ _ _ _) dX12_differ_2 (tX12_isDomain _ _ _ _ _) ⟨wV_X12_isDomain, wL_X12_isDomain⟩ wM_X12_49 (gCX12 _ _ _ _ _) rfl (lt_t rfl) rfl ⟨le_t rfl, le_t rfl⟩ ⟨le_t rfl, le_t rfl⟩ rfl (le_t rfl) (fun _ _ h => h)
  refine sC.of rfl (by decide) (le_t rfl) ?_
  refine sv_iload_n (pc := 0) dX12_isDomain_0 rfl rfl ?_
  refine sv_iconst (pc := 1) (v := 0) dX12_isDomain_1 (by decide) ?_
  refine sv_aload_n (pc := 2) dX12_isDomain_2 rfl rfl ?_
  refine sw_getfield (pc := 3) dX12_isDomain_3 (gCX12 _ _ _ _ _) 5 (by decide) wF_X12_34 rfl rfl rfl ?_
  refine sv_iconst (pc := 6) (v := 1) dX12_isDomain_6 (by decide) ?_
  refine sw_isub (pc := 7) (v := (-1)) dX12_isDomain_7 (by decide) ?_
  refine sv_callS (pc := 8) (M' := mX12_in) (d' := 18) (C' := 0) (S' := 0) (av := [.int x1, .int 0, .int (-1)]) ?_ (gOk _ _ _ _ _) dX12_isDomain_8 (tX12_in _ _ _ _ _) wS_X12_in wM_X12_18 ⟨le_t rfl, le_t rfl⟩ ⟨le_t rfl, le_t rfl⟩ rfl (le_t rfl) (fun _ _ h => h)
  refine sC.of rfl (by decide) (le_t rfl) ?_
  refine sv_iload_n (pc := 0) dX12_in_0 rfl rfl ?_
  refine sv_iload_n (pc := 1) dX12_in_1 rfl rfl ?_
  refine sv_icmp_lt (pc := 2) (tgt := 14) dX12_in_2 (by decide) (fun h => absurd h h_1) (fun _ => ?_)
  refine sv_iload_n (pc := 5) dX12_in_5 rfl rfl ?_
  refine sv_iload_n (pc := 6) dX12_in_6 rfl rfl ?_
  refine sv_icmp_gt (pc := 7) (tgt := 14) dX12_in_7 (by decide) (fun _ => ?_) (fun h => False.elim (by have a0 := Int32.le_iff_toInt_le.mp (Int32.not_lt.mp h_1); have a1 := Int32.le_iff_toInt_le.mp (Int32.not_lt.mp h); have e0 : (-1 : Int32).toInt = -1 := (by decide); have e1 : (0 : Int32).toInt = 0 := (by decide); omega))
  refine sv_iconst (pc := 14) (v := 0) dX12_in_14 (by decide) ?_
  refine sv_zret (pc := 15) dX12_in_15 rfl (by decide) (le_t rfl) (le_t rfl) ?_
  refine sv_zret (pc := 11) dX12_isDomain_11 rfl (by decide) (le_t rfl) (le_t rfl) ?_
  refine sv_if_eq (pc := 5) (tgt := 16) dX12_differ_5 (by decide) (fun _ => ?_) (fun h => absurd (by decide) h)
  refine sv_ldc2 (pc := 16) dX12_differ_16 wH_X12_710 ?_
  refine sv_lret (pc := 19) dX12_differ_19 rfl (le_t rfl) (le_t rfl) ?_
  refine sw_lcmp (pc := 1675) (v := 0) dL_law_1675 (by decide) ?_
  refine sv_if_eq (pc := 1676) (tgt := 1799) dL_law_1676 (by decide) (fun _ => ?_) (fun h => absurd (by decide) h)
  exact kk _ _ _ (le_t rfl) (le_t rfl)
set_option maxHeartbeats 40000000 in
set_option maxRecDepth 100000 in
theorem op_42 (l : Launch) (D : va_G) (c : Nat → ClassId) (H0 : Heap) (b : Nat) (xs : Nat → Int32) (Z : sZT) (x1 x2 x3 x4 x5 x6 : Int32) (hx1 : xs 1 = x1) (hx2 : xs 2 = x2) (hx3 : xs 3 = x3) (hx4 : xs 4 = x4) (hx5 : xs 5 = x5) (hx6 : xs 6 = x6) (kk : ∀ (hp : sHp) (ce sl : Nat), ce ≤ 600000 → sl ≤ 7302250 → sV (gG l D c H0 (b, 7, xs)) mL room_1 Z 1799 [(3, .int 0), (2, .ref 106), (1, .ref 0), (0, .retAddr 0)] [] hp ce sl) : sV (gG l D c H0 (b, 7, xs)) mL room_1 Z 1681 [(3, .int 0), (2, .ref 106), (1, .ref 0), (0, .retAddr 0)] [] (192, tF) 192 297215 := by
  refine sv_aload_n (pc := 1681) dL_law_1681 rfl rfl ?_
  refine sv_callV (pc := 1682) (M' := mX11_clear) (d' := 20) (C' := 0) (S' := 0) (av := []) ?_ (gOk _ _ _ _ _) dL_law_1682 (tX11_clear _ _ _ _ _) ⟨wV_X11_clear, wL_X11_clear⟩ wM_DomainHouseLaw_191 (gCX11 _ _ _ _ _) rfl (lt_t rfl) rfl ⟨le_t rfl, le_t rfl⟩ ⟨le_t rfl, le_t rfl⟩ rfl (le_t rfl) (fun _ _ h => h)
  refine sC.of rfl (by decide) (le_t rfl) ?_
  refine sv_aload_n (pc := 0) dX11_clear_0 rfl rfl ?_
  refine sw_getfield (pc := 1) dX11_clear_1 (gCX11 _ _ _ _ _) 9 (by decide) wF_X11_72 rfl rfl rfl ?_
  refine sv_callV (pc := 4) (M' := mX4_forget) (d' := 19) (C' := 0) (S' := 0) (av := []) ?_ (gOk _ _ _ _ _) dX11_clear_4 (tX4_forget _ _ _ _ _) ⟨wV_X4_forget, wL_X4_forget⟩ wM_X11_394 (gCX4 _ _ _ _ _) rfl (lt_t rfl) rfl ⟨le_t rfl, le_t rfl⟩ ⟨le_t rfl, le_t rfl⟩ rfl (le_t rfl) (fun _ _ h => h)
  refine sC.of rfl (by decide) (le_t rfl) ?_
  refine sv_iconst (pc := 0) (v := 0) dX4_forget_0 (by decide) ?_
  refine sv_istore_n (pc := 1) dX4_forget_1 rfl (by decide) ?_
  refine sv_iconst (pc := 2) (v := 1) dX4_forget_2 (by decide) ?_
  refine sv_istore_n (pc := 3) dX4_forget_3 rfl (by decide) ?_
  refine sv_iload_n (pc := 4) dX4_forget_4 rfl rfl ?_
  refine sv_bipush (pc := 5) (v := 7) dX4_forget_5 (by decide) ?_
  refine sv_icmp_ge (pc := 7) (tgt := 32) dX4_forget_7 (by decide) (fun h => absurd h (by decide)) (fun _ => ?_)
  refine sv_iload_n (pc := 10) dX4_forget_10 rfl rfl ?_
  refine sv_aload_n (pc := 11) dX4_forget_11 rfl rfl ?_
  refine sw_getfield (pc := 12) dX4_forget_12 (gCX4 _ _ _ _ _) 12 (by decide) wF_X4_11 rfl rfl rfl ?_
  refine sv_iload_n (pc := 15) dX4_forget_15 rfl rfl ?_
  refine sw_iaload (pc := 16) (k := 1) (v := .int 0) dX4_forget_16 rfl rfl rfl (by decide) (by decide) rfl rfl ?_
  refine sw_iadd (pc := 17) (v := 0) dX4_forget_17 (by decide) ?_
  refine sv_istore_n (pc := 18) dX4_forget_18 rfl (by decide) ?_
  refine sv_aload_n (pc := 19) dX4_forget_19 rfl rfl ?_
  refine sw_getfield (pc := 20) dX4_forget_20 (gCX4 _ _ _ _ _) 12 (by decide) wF_X4_11 rfl rfl rfl ?_
  refine sv_iload_n (pc := 23) dX4_forget_23 rfl rfl ?_
  refine sv_iconst (pc := 24) (v := 0) dX4_forget_24 (by decide) ?_
  refine sw_iastore (pc := 25) (k := 1) (v := .int 0) dX4_forget_25 rfl rfl rfl (by decide) (by decide) rfl rfl ?_
  refine sw_iinc (pc := 26) (v := 2) dX4_forget_26 rfl (by decide) (by decide) ?_
  refine sv_goto (pc := 29) (tgt := 4) dX4_forget_29 (by decide) ?_
  refine sv_iload_n (pc := 4) dX4_forget_4 rfl rfl ?_
  refine sv_bipush (pc := 5) (v := 7) dX4_forget_5 (by decide) ?_
  refine sv_icmp_ge (pc := 7) (tgt := 32) dX4_forget_7 (by decide) (fun h => absurd h (by decide)) (fun _ => ?_)
  refine sv_iload_n (pc := 10) dX4_forget_10 rfl rfl ?_
  refine sv_aload_n (pc := 11) dX4_forget_11 rfl rfl ?_
  refine sw_getfield (pc := 12) dX4_forget_12 (gCX4 _ _ _ _ _) 12 (by decide) wF_X4_11 rfl rfl rfl ?_
  refine sv_iload_n (pc := 15) dX4_forget_15 rfl rfl ?_
  refine sw_iaload (pc := 16) (k := 2) (v := .int 0) dX4_forget_16 rfl rfl rfl (by decide) (by decide) rfl rfl ?_
  refine sw_iadd (pc := 17) (v := 0) dX4_forget_17 (by decide) ?_
  refine sv_istore_n (pc := 18) dX4_forget_18 rfl (by decide) ?_
  refine sv_aload_n (pc := 19) dX4_forget_19 rfl rfl ?_
  refine sw_getfield (pc := 20) dX4_forget_20 (gCX4 _ _ _ _ _) 12 (by decide) wF_X4_11 rfl rfl rfl ?_
  refine sv_iload_n (pc := 23) dX4_forget_23 rfl rfl ?_
  refine sv_iconst (pc := 24) (v := 0) dX4_forget_24 (by decide) ?_
  refine sw_iastore (pc := 25) (k := 2) (v := .int 0) dX4_forget_25 rfl rfl rfl (by decide) (by decide) rfl rfl ?_
  refine sw_iinc (pc := 26) (v := 3) dX4_forget_26 rfl (by decide) (by decide) ?_
  refine sv_goto (pc := 29) (tgt := 4) dX4_forget_29 (by decide) ?_
  refine sv_iload_n (pc := 4) dX4_forget_4 rfl rfl ?_
  refine sv_bipush (pc := 5) (v := 7) dX4_forget_5 (by decide) ?_
  refine sv_icmp_ge (pc := 7) (tgt := 32) dX4_forget_7 (by decide) (fun h => absurd h (by decide)) (fun _ => ?_)
  refine sv_iload_n (pc := 10) dX4_forget_10 rfl rfl ?_
  refine sv_aload_n (pc := 11) dX4_forget_11 rfl rfl ?_
  refine sw_getfield (pc := 12) dX4_forget_12 (gCX4 _ _ _ _ _) 12 (by decide) wF_X4_11 rfl rfl rfl ?_
  refine sv_iload_n (pc := 15) dX4_forget_15 rfl rfl ?_
  refine sw_iaload (pc := 16) (k := 3) (v := .int 0) dX4_forget_16 rfl rfl rfl (by decide) (by decide) rfl rfl ?_
  refine sw_iadd (pc := 17) (v := 0) dX4_forget_17 (by decide) ?_
  refine sv_istore_n (pc := 18) dX4_forget_18 rfl (by decide) ?_
  refine sv_aload_n (pc := 19) dX4_forget_19 rfl rfl ?_
  refine sw_getfield (pc := 20) dX4_forget_20 (gCX4 _ _ _ _ _) 12 (by decide) wF_X4_11 rfl rfl rfl ?_
  refine sv_iload_n (pc := 23) dX4_forget_23 rfl rfl ?_
  refine sv_iconst (pc := 24) (v := 0) dX4_forget_24 (by decide) ?_
  refine sw_iastore (pc := 25) (k := 3) (v := .int 0) dX4_forget_25 rfl rfl rfl (by decide) (by decide) rfl rfl ?_
  refine sw_iinc (pc := 26) (v := 4) dX4_forget_26 rfl (by decide) (by decide) ?_
  refine sv_lvG (pc := 29) (lv' := [(0, .ref 94), (1, .int 0), (2, .int 4)]) (List.forall_mem_cons.mpr ⟨rfl, List.forall_mem_cons.mpr ⟨rfl, List.forall_mem_cons.mpr ⟨rfl, fun _ h => absurd h List.not_mem_nil⟩⟩⟩) ?_
  refine sv_goto (pc := 29) (tgt := 4) dX4_forget_29 (by decide) ?_
  refine sv_iload_n (pc := 4) dX4_forget_4 rfl rfl ?_
  refine sv_bipush (pc := 5) (v := 7) dX4_forget_5 (by decide) ?_
  refine sv_icmp_ge (pc := 7) (tgt := 32) dX4_forget_7 (by decide) (fun h => absurd h (by decide)) (fun _ => ?_)
  refine sv_iload_n (pc := 10) dX4_forget_10 rfl rfl ?_
  refine sv_aload_n (pc := 11) dX4_forget_11 rfl rfl ?_
  refine sw_getfield (pc := 12) dX4_forget_12 (gCX4 _ _ _ _ _) 12 (by decide) wF_X4_11 rfl rfl rfl ?_
  refine sv_iload_n (pc := 15) dX4_forget_15 rfl rfl ?_
  refine sw_iaload (pc := 16) (k := 4) (v := .int 0) dX4_forget_16 rfl rfl rfl (by decide) (by decide) rfl rfl ?_
  refine sw_iadd (pc := 17) (v := 0) dX4_forget_17 (by decide) ?_
  refine sv_istore_n (pc := 18) dX4_forget_18 rfl (by decide) ?_
  refine sv_aload_n (pc := 19) dX4_forget_19 rfl rfl ?_
  refine sw_getfield (pc := 20) dX4_forget_20 (gCX4 _ _ _ _ _) 12 (by decide) wF_X4_11 rfl rfl rfl ?_
  refine sv_iload_n (pc := 23) dX4_forget_23 rfl rfl ?_
  refine sv_iconst (pc := 24) (v := 0) dX4_forget_24 (by decide) ?_
  refine sw_iastore (pc := 25) (k := 4) (v := .int 0) dX4_forget_25 rfl rfl rfl (by decide) (by decide) rfl rfl ?_
  refine sw_iinc (pc := 26) (v := 5) dX4_forget_26 rfl (by decide) (by decide) ?_
  refine sv_goto (pc := 29) (tgt := 4) dX4_forget_29 (by decide) ?_
  refine sv_iload_n (pc := 4) dX4_forget_4 rfl rfl ?_
  refine sv_bipush (pc := 5) (v := 7) dX4_forget_5 (by decide) ?_
  refine sv_icmp_ge (pc := 7) (tgt := 32) dX4_forget_7 (by decide) (fun h => absurd h (by decide)) (fun _ => ?_)
  refine sv_iload_n (pc := 10) dX4_forget_10 rfl rfl ?_
  refine sv_aload_n (pc := 11) dX4_forget_11 rfl rfl ?_
  refine sw_getfield (pc := 12) dX4_forget_12 (gCX4 _ _ _ _ _) 12 (by decide) wF_X4_11 rfl rfl rfl ?_
  refine sv_iload_n (pc := 15) dX4_forget_15 rfl rfl ?_
  refine sw_iaload (pc := 16) (k := 5) (v := .int 0) dX4_forget_16 rfl rfl rfl (by decide) (by decide) rfl rfl ?_
  refine sw_iadd (pc := 17) (v := 0) dX4_forget_17 (by decide) ?_
  refine sv_istore_n (pc := 18) dX4_forget_18 rfl (by decide) ?_
  refine sv_aload_n (pc := 19) dX4_forget_19 rfl rfl ?_
  refine sw_getfield (pc := 20) dX4_forget_20 (gCX4 _ _ _ _ _) 12 (by decide) wF_X4_11 rfl rfl rfl ?_
  refine sv_iload_n (pc := 23) dX4_forget_23 rfl rfl ?_
  refine sv_iconst (pc := 24) (v := 0) dX4_forget_24 (by decide) ?_
  refine sw_iastore (pc := 25) (k := 5) (v := .int 0) dX4_forget_25 rfl rfl rfl (by decide) (by decide) rfl rfl ?_
  refine sw_iinc (pc := 26) (v := 6) dX4_forget_26 rfl (by decide) (by decide) ?_
  refine sv_goto (pc := 29) (tgt := 4) dX4_forget_29 (by decide) ?_
  refine sv_iload_n (pc := 4) dX4_forget_4 rfl rfl ?_
  refine sv_bipush (pc := 5) (v := 7) dX4_forget_5 (by decide) ?_
  refine sv_icmp_ge (pc := 7) (tgt := 32) dX4_forget_7 (by decide) (fun h => absurd h (by decide)) (fun _ => ?_)
  refine sv_iload_n (pc := 10) dX4_forget_10 rfl rfl ?_
  refine sv_aload_n (pc := 11) dX4_forget_11 rfl rfl ?_
  refine sw_getfield (pc := 12) dX4_forget_12 (gCX4 _ _ _ _ _) 12 (by decide) wF_X4_11 rfl rfl rfl ?_
  refine sv_iload_n (pc := 15) dX4_forget_15 rfl rfl ?_
  refine sw_iaload (pc := 16) (k := 6) (v := .int 0) dX4_forget_16 rfl rfl rfl (by decide) (by decide) rfl rfl ?_
  refine sw_iadd (pc := 17) (v := 0) dX4_forget_17 (by decide) ?_
  refine sv_istore_n (pc := 18) dX4_forget_18 rfl (by decide) ?_
  refine sv_aload_n (pc := 19) dX4_forget_19 rfl rfl ?_
  refine sw_getfield (pc := 20) dX4_forget_20 (gCX4 _ _ _ _ _) 12 (by decide) wF_X4_11 rfl rfl rfl ?_
  refine sv_iload_n (pc := 23) dX4_forget_23 rfl rfl ?_
  refine sv_iconst (pc := 24) (v := 0) dX4_forget_24 (by decide) ?_
  refine sw_iastore (pc := 25) (k := 6) (v := .int 0) dX4_forget_25 rfl rfl rfl (by decide) (by decide) rfl rfl ?_
  refine sw_iinc (pc := 26) (v := 7) dX4_forget_26 rfl (by decide) (by decide) ?_
  refine sv_goto (pc := 29) (tgt := 4) dX4_forget_29 (by decide) ?_
  refine sv_iload_n (pc := 4) dX4_forget_4 rfl rfl ?_
  refine sv_bipush (pc := 5) (v := 7) dX4_forget_5 (by decide) ?_
  refine sv_icmp_ge (pc := 7) (tgt := 32) dX4_forget_7 (by decide) (fun _ => ?_) (fun h => absurd (by decide) h)
  refine sv_aload_n (pc := 32) dX4_forget_32 rfl rfl ?_
  refine sv_iconst (pc := 33) (v := 0) dX4_forget_33 (by decide) ?_
  refine sw_putfield (pc := 34) dX4_forget_34 (gCX4 _ _ _ _ _) 10 (by decide) wF_X4_52 rfl rfl rfl (fun _ => rfl) (fun _ => rfl) rfl ?_
  refine sv_aload_n (pc := 37) dX4_forget_37 rfl rfl ?_
  refine sv_iconst (pc := 38) (v := 0) dX4_forget_38 (by decide) ?_
  refine sw_putfield (pc := 39) dX4_forget_39 (gCX4 _ _ _ _ _) 11 (by decide) wF_X4_56 rfl rfl rfl (fun _ => rfl) (fun _ => rfl) rfl ?_
  refine sv_iload_n (pc := 42) dX4_forget_42 rfl rfl ?_
  refine sv_iret (pc := 43) dX4_forget_43 rfl (le_t rfl) (le_t rfl) ?_
  refine sv_iret (pc := 7) dX11_clear_7 rfl (le_t rfl) (le_t rfl) ?_
  refine sv_aload_n (pc := 1685) dL_law_1685 rfl rfl ?_
  refine sv_callV (pc := 1686) (M' := mX12_clear) (d' := 20) (C' := 0) (S' := 0) (av := []) ?_ (gOk _ _ _ _ _) dL_law_1686 (tX12_clear _ _ _ _ _) ⟨wV_X12_clear, wL_X12_clear⟩ wM_DomainHouseLaw_194 (gCX12 _ _ _ _ _) rfl (lt_t rfl) rfl ⟨le_t rfl, le_t rfl⟩ ⟨le_t rfl, le_t rfl⟩ rfl (le_t rfl) (fun _ _ h => h)
  refine sC.of rfl (by decide) (le_t rfl) ?_
  refine sv_iconst (pc := 0) (v := 0) dX12_clear_0 (by decide) ?_
  refine sv_istore_n (pc := 1) dX12_clear_1 rfl (by decide) ?_
  refine sv_iconst (pc := 2) (v := 1) dX12_clear_2 (by decide) ?_
  refine sv_istore_n (pc := 3) dX12_clear_3 rfl (by decide) ?_
  refine sv_iload_n (pc := 4) dX12_clear_4 rfl rfl ?_
  refine sv_bipush (pc := 5) (v := 6) dX12_clear_5 (by decide) ?_
  refine sv_icmp_gt (pc := 7) (tgt := 32) dX12_clear_7 (by decide) (fun h => absurd h (by decide)) (fun _ => ?_)
  refine sv_iload_n (pc := 10) dX12_clear_10 rfl rfl ?_
  refine sv_aload_n (pc := 11) dX12_clear_11 rfl rfl ?_
  refine sw_getfield (pc := 12) dX12_clear_12 (gCX12 _ _ _ _ _) 118 (by decide) wF_X12_514 rfl rfl rfl ?_
  refine sv_iload_n (pc := 15) dX12_clear_15 rfl rfl ?_
  refine sw_iaload (pc := 16) (k := 1) (v := .int 0) dX12_clear_16 rfl rfl rfl (by decide) (by decide) rfl rfl ?_
  refine sw_iadd (pc := 17) (v := 0) dX12_clear_17 (by decide) ?_
  refine sv_istore_n (pc := 18) dX12_clear_18 rfl (by decide) ?_
  refine sv_aload_n (pc := 19) dX12_clear_19 rfl rfl ?_
  refine sw_getfield (pc := 20) dX12_clear_20 (gCX12 _ _ _ _ _) 118 (by decide) wF_X12_514 rfl rfl rfl ?_
  refine sv_iload_n (pc := 23) dX12_clear_23 rfl rfl ?_
  refine sv_iconst (pc := 24) (v := 0) dX12_clear_24 (by decide) ?_
  refine sw_iastore (pc := 25) (k := 1) (v := .int 0) dX12_clear_25 rfl rfl rfl (by decide) (by decide) rfl rfl ?_
  refine sw_iinc (pc := 26) (v := 2) dX12_clear_26 rfl (by decide) (by decide) ?_
  refine sv_goto (pc := 29) (tgt := 4) dX12_clear_29 (by decide) ?_
  refine sv_iload_n (pc := 4) dX12_clear_4 rfl rfl ?_
  refine sv_bipush (pc := 5) (v := 6) dX12_clear_5 (by decide) ?_
  refine sv_icmp_gt (pc := 7) (tgt := 32) dX12_clear_7 (by decide) (fun h => absurd h (by decide)) (fun _ => ?_)
  refine sv_iload_n (pc := 10) dX12_clear_10 rfl rfl ?_
  refine sv_aload_n (pc := 11) dX12_clear_11 rfl rfl ?_
  refine sw_getfield (pc := 12) dX12_clear_12 (gCX12 _ _ _ _ _) 118 (by decide) wF_X12_514 rfl rfl rfl ?_
  refine sv_iload_n (pc := 15) dX12_clear_15 rfl rfl ?_
  refine sw_iaload (pc := 16) (k := 2) (v := .int 0) dX12_clear_16 rfl rfl rfl (by decide) (by decide) rfl rfl ?_
  refine sw_iadd (pc := 17) (v := 0) dX12_clear_17 (by decide) ?_
  refine sv_istore_n (pc := 18) dX12_clear_18 rfl (by decide) ?_
  refine sv_aload_n (pc := 19) dX12_clear_19 rfl rfl ?_
  refine sw_getfield (pc := 20) dX12_clear_20 (gCX12 _ _ _ _ _) 118 (by decide) wF_X12_514 rfl rfl rfl ?_
  refine sv_iload_n (pc := 23) dX12_clear_23 rfl rfl ?_
  refine sv_iconst (pc := 24) (v := 0) dX12_clear_24 (by decide) ?_
  refine sw_iastore (pc := 25) (k := 2) (v := .int 0) dX12_clear_25 rfl rfl rfl (by decide) (by decide) rfl rfl ?_
  refine sw_iinc (pc := 26) (v := 3) dX12_clear_26 rfl (by decide) (by decide) ?_
  refine sv_goto (pc := 29) (tgt := 4) dX12_clear_29 (by decide) ?_
  refine sv_iload_n (pc := 4) dX12_clear_4 rfl rfl ?_
  refine sv_bipush (pc := 5) (v := 6) dX12_clear_5 (by decide) ?_
  refine sv_icmp_gt (pc := 7) (tgt := 32) dX12_clear_7 (by decide) (fun h => absurd h (by decide)) (fun _ => ?_)
  refine sv_iload_n (pc := 10) dX12_clear_10 rfl rfl ?_
  refine sv_aload_n (pc := 11) dX12_clear_11 rfl rfl ?_
  refine sw_getfield (pc := 12) dX12_clear_12 (gCX12 _ _ _ _ _) 118 (by decide) wF_X12_514 rfl rfl rfl ?_
  refine sv_iload_n (pc := 15) dX12_clear_15 rfl rfl ?_
  refine sw_iaload (pc := 16) (k := 3) (v := .int 0) dX12_clear_16 rfl rfl rfl (by decide) (by decide) rfl rfl ?_
  refine sw_iadd (pc := 17) (v := 0) dX12_clear_17 (by decide) ?_
  refine sv_istore_n (pc := 18) dX12_clear_18 rfl (by decide) ?_
  refine sv_aload_n (pc := 19) dX12_clear_19 rfl rfl ?_
  refine sw_getfield (pc := 20) dX12_clear_20 (gCX12 _ _ _ _ _) 118 (by decide) wF_X12_514 rfl rfl rfl ?_
  refine sv_iload_n (pc := 23) dX12_clear_23 rfl rfl ?_
  refine sv_iconst (pc := 24) (v := 0) dX12_clear_24 (by decide) ?_
  refine sw_iastore (pc := 25) (k := 3) (v := .int 0) dX12_clear_25 rfl rfl rfl (by decide) (by decide) rfl rfl ?_
  refine sw_iinc (pc := 26) (v := 4) dX12_clear_26 rfl (by decide) (by decide) ?_
  refine sv_lvG (pc := 29) (lv' := [(0, .ref 106), (1, .int 0), (2, .int 4)]) (List.forall_mem_cons.mpr ⟨rfl, List.forall_mem_cons.mpr ⟨rfl, List.forall_mem_cons.mpr ⟨rfl, fun _ h => absurd h List.not_mem_nil⟩⟩⟩) ?_
  refine sv_goto (pc := 29) (tgt := 4) dX12_clear_29 (by decide) ?_
  refine sv_iload_n (pc := 4) dX12_clear_4 rfl rfl ?_
  refine sv_bipush (pc := 5) (v := 6) dX12_clear_5 (by decide) ?_
  refine sv_icmp_gt (pc := 7) (tgt := 32) dX12_clear_7 (by decide) (fun h => absurd h (by decide)) (fun _ => ?_)
  refine sv_iload_n (pc := 10) dX12_clear_10 rfl rfl ?_
  refine sv_aload_n (pc := 11) dX12_clear_11 rfl rfl ?_
  refine sw_getfield (pc := 12) dX12_clear_12 (gCX12 _ _ _ _ _) 118 (by decide) wF_X12_514 rfl rfl rfl ?_
  refine sv_iload_n (pc := 15) dX12_clear_15 rfl rfl ?_
  refine sw_iaload (pc := 16) (k := 4) (v := .int 0) dX12_clear_16 rfl rfl rfl (by decide) (by decide) rfl rfl ?_
  refine sw_iadd (pc := 17) (v := 0) dX12_clear_17 (by decide) ?_
  refine sv_istore_n (pc := 18) dX12_clear_18 rfl (by decide) ?_
  refine sv_aload_n (pc := 19) dX12_clear_19 rfl rfl ?_
  refine sw_getfield (pc := 20) dX12_clear_20 (gCX12 _ _ _ _ _) 118 (by decide) wF_X12_514 rfl rfl rfl ?_
  refine sv_iload_n (pc := 23) dX12_clear_23 rfl rfl ?_
  refine sv_iconst (pc := 24) (v := 0) dX12_clear_24 (by decide) ?_
  refine sw_iastore (pc := 25) (k := 4) (v := .int 0) dX12_clear_25 rfl rfl rfl (by decide) (by decide) rfl rfl ?_
  refine sw_iinc (pc := 26) (v := 5) dX12_clear_26 rfl (by decide) (by decide) ?_
  refine sv_goto (pc := 29) (tgt := 4) dX12_clear_29 (by decide) ?_
  refine sv_iload_n (pc := 4) dX12_clear_4 rfl rfl ?_
  refine sv_bipush (pc := 5) (v := 6) dX12_clear_5 (by decide) ?_
  refine sv_icmp_gt (pc := 7) (tgt := 32) dX12_clear_7 (by decide) (fun h => absurd h (by decide)) (fun _ => ?_)
  refine sv_iload_n (pc := 10) dX12_clear_10 rfl rfl ?_
  refine sv_aload_n (pc := 11) dX12_clear_11 rfl rfl ?_
  refine sw_getfield (pc := 12) dX12_clear_12 (gCX12 _ _ _ _ _) 118 (by decide) wF_X12_514 rfl rfl rfl ?_
  refine sv_iload_n (pc := 15) dX12_clear_15 rfl rfl ?_
  refine sw_iaload (pc := 16) (k := 5) (v := .int 0) dX12_clear_16 rfl rfl rfl (by decide) (by decide) rfl rfl ?_
  refine sw_iadd (pc := 17) (v := 0) dX12_clear_17 (by decide) ?_
  refine sv_istore_n (pc := 18) dX12_clear_18 rfl (by decide) ?_
  refine sv_aload_n (pc := 19) dX12_clear_19 rfl rfl ?_
  refine sw_getfield (pc := 20) dX12_clear_20 (gCX12 _ _ _ _ _) 118 (by decide) wF_X12_514 rfl rfl rfl ?_
  refine sv_iload_n (pc := 23) dX12_clear_23 rfl rfl ?_
  refine sv_iconst (pc := 24) (v := 0) dX12_clear_24 (by decide) ?_
  refine sw_iastore (pc := 25) (k := 5) (v := .int 0) dX12_clear_25 rfl rfl rfl (by decide) (by decide) rfl rfl ?_
  refine sw_iinc (pc := 26) (v := 6) dX12_clear_26 rfl (by decide) (by decide) ?_
  refine sv_goto (pc := 29) (tgt := 4) dX12_clear_29 (by decide) ?_
  refine sv_iload_n (pc := 4) dX12_clear_4 rfl rfl ?_
  refine sv_bipush (pc := 5) (v := 6) dX12_clear_5 (by decide) ?_
  refine sv_icmp_gt (pc := 7) (tgt := 32) dX12_clear_7 (by decide) (fun h => absurd h (by decide)) (fun _ => ?_)
  refine sv_iload_n (pc := 10) dX12_clear_10 rfl rfl ?_
  refine sv_aload_n (pc := 11) dX12_clear_11 rfl rfl ?_
  refine sw_getfield (pc := 12) dX12_clear_12 (gCX12 _ _ _ _ _) 118 (by decide) wF_X12_514 rfl rfl rfl ?_
  refine sv_iload_n (pc := 15) dX12_clear_15 rfl rfl ?_
  refine sw_iaload (pc := 16) (k := 6) (v := .int 0) dX12_clear_16 rfl rfl rfl (by decide) (by decide) rfl rfl ?_
  refine sw_iadd (pc := 17) (v := 0) dX12_clear_17 (by decide) ?_
  refine sv_istore_n (pc := 18) dX12_clear_18 rfl (by decide) ?_
  refine sv_aload_n (pc := 19) dX12_clear_19 rfl rfl ?_
  refine sw_getfield (pc := 20) dX12_clear_20 (gCX12 _ _ _ _ _) 118 (by decide) wF_X12_514 rfl rfl rfl ?_
  refine sv_iload_n (pc := 23) dX12_clear_23 rfl rfl ?_
  refine sv_iconst (pc := 24) (v := 0) dX12_clear_24 (by decide) ?_
  refine sw_iastore (pc := 25) (k := 6) (v := .int 0) dX12_clear_25 rfl rfl rfl (by decide) (by decide) rfl rfl ?_
  refine sw_iinc (pc := 26) (v := 7) dX12_clear_26 rfl (by decide) (by decide) ?_
  refine sv_goto (pc := 29) (tgt := 4) dX12_clear_29 (by decide) ?_
  refine sv_iload_n (pc := 4) dX12_clear_4 rfl rfl ?_
  refine sv_bipush (pc := 5) (v := 6) dX12_clear_5 (by decide) ?_
  refine sv_icmp_gt (pc := 7) (tgt := 32) dX12_clear_7 (by decide) (fun _ => ?_) (fun h => absurd (by decide) h)
  refine sv_iload_n (pc := 32) dX12_clear_32 rfl rfl ?_
  refine sv_iret (pc := 33) dX12_clear_33 rfl (le_t rfl) (le_t rfl) ?_
  refine sv_icmp_eq (pc := 1689) (tgt := 1799) dL_law_1689 (by decide) (fun _ => ?_) (fun h => absurd (by decide) h)
  exact kk _ _ _ (le_t rfl) (le_t rfl)
set_option maxHeartbeats 40000000 in
set_option maxRecDepth 100000 in
theorem op_43 (l : Launch) (D : va_G) (c : Nat → ClassId) (H0 : Heap) (b : Nat) (xs : Nat → Int32) (Z : sZT) (x1 x2 x3 x4 x5 x6 : Int32) (hx1 : xs 1 = x1) (hx2 : xs 2 = x2) (hx3 : xs 3 = x3) (hx4 : xs 4 = x4) (hx5 : xs 5 = x5) (hx6 : xs 6 = x6) (kk : ∀ (hp : sHp) (ce sl : Nat), ce ≤ 600000 → sl ≤ 7302250 → sV (gG l D c H0 (b, 7, xs)) mL room_1 Z 1799 [(3, .int 0), (2, .ref 106), (1, .ref 0), (0, .retAddr 0)] [] hp ce sl) : sV (gG l D c H0 (b, 7, xs)) mL room_1 Z 1694 [(3, .int 0), (2, .ref 106), (1, .ref 0), (0, .retAddr 0)] [] (192, tF) 192 297215 := by
  refine sv_aload_n (pc := 1694) dL_law_1694 rfl rfl ?_
  refine sv_callV (pc := 1695) (M' := mX11_wish) (d' := 20) (C' := 0) (S' := 0) (av := []) ?_ (gOk _ _ _ _ _) dL_law_1695 (tX11_wish _ _ _ _ _) ⟨wV_X11_wish, wL_X11_wish⟩ wM_DomainHouseLaw_195 (gCX11 _ _ _ _ _) rfl (lt_t rfl) rfl ⟨le_t rfl, le_t rfl⟩ ⟨le_t rfl, le_t rfl⟩ rfl (le_t rfl) (fun _ _ h => h)
  refine sC.of rfl (by decide) (le_t rfl) ?_
  refine sv_aload_n (pc := 0) dX11_wish_0 rfl rfl ?_
  refine sw_getfield (pc := 1) dX11_wish_1 (gCX11 _ _ _ _ _) 1 (by decide) wF_X11_13 rfl rfl rfl ?_
  refine sv_aload_n (pc := 4) dX11_wish_4 rfl rfl ?_
  refine sw_getfield (pc := 5) dX11_wish_5 (gCX11 _ _ _ _ _) 11 (by decide) wF_X11_169 rfl rfl rfl ?_
  refine sv_callS (pc := 8) (M' := mX4_isWish) (d' := 19) (C' := 0) (S' := 0) (av := [.ref 2, .int 0]) ?_ (gOk _ _ _ _ _) dX11_wish_8 (tX4_isWish _ _ _ _ _) wS_X4_isWish wM_X11_397 ⟨le_t rfl, le_t rfl⟩ ⟨le_t rfl, le_t rfl⟩ rfl (le_t rfl) (fun _ _ h => h)
  refine sC.of rfl (by decide) (le_t rfl) ?_
  refine sv_iload_n (pc := 0) dX4_isWish_0 rfl rfl ?_
  refine sv_iconst (pc := 1) (v := 2) dX4_isWish_1 (by decide) ?_
  refine sv_icmp_lt (pc := 2) (tgt := 19) dX4_isWish_2 (by decide) (fun _ => ?_) (fun h => absurd (by decide) h)
  refine sv_iconst (pc := 19) (v := 0) dX4_isWish_19 (by decide) ?_
  refine sv_zret (pc := 20) dX4_isWish_20 rfl (by decide) (le_t rfl) (le_t rfl) ?_
  refine sv_if_ne (pc := 11) (tgt := 16) dX11_wish_11 (by decide) (fun h => absurd (by decide) h) (fun _ => ?_)
  refine sv_iconst (pc := 14) (v := (-1)) dX11_wish_14 (by decide) ?_
  refine sv_iret (pc := 15) dX11_wish_15 rfl (le_t rfl) (le_t rfl) ?_
  refine sv_aload_n (pc := 1698) dL_law_1698 rfl rfl ?_
  refine sv_callV (pc := 1699) (M' := mX12_wish) (d' := 20) (C' := 0) (S' := 0) (av := []) ?_ (gOk _ _ _ _ _) dL_law_1699 (tX12_wish _ _ _ _ _) ⟨wV_X12_wish, wL_X12_wish⟩ wM_DomainHouseLaw_198 (gCX12 _ _ _ _ _) rfl (lt_t rfl) rfl ⟨le_t rfl, le_t rfl⟩ ⟨le_t rfl, le_t rfl⟩ rfl (le_t rfl) (fun _ _ h => h)
  refine sC.of rfl (by decide) (le_t rfl) ?_
  refine sv_aload_n (pc := 0) dX12_wish_0 rfl rfl ?_
  refine sw_getfield (pc := 1) dX12_wish_1 (gCX12 _ _ _ _ _) 15 (by decide) wF_X12_79 rfl rfl rfl ?_
  refine sv_iconst (pc := 4) (v := 2) dX12_wish_4 (by decide) ?_
  refine sv_icmp_lt (pc := 5) (tgt := 44) dX12_wish_5 (by decide) (fun _ => ?_) (fun h => absurd (by decide) h)
  refine sv_iconst (pc := 44) (v := 0) dX12_wish_44 (by decide) ?_
  refine sv_istore_n (pc := 45) dX12_wish_45 rfl (by decide) ?_
  refine sv_iconst (pc := 46) (v := 0) dX12_wish_46 (by decide) ?_
  refine sv_istore_n (pc := 47) dX12_wish_47 rfl (by decide) ?_
  refine sv_iload_n (pc := 48) dX12_wish_48 rfl rfl ?_
  refine sv_aload_n (pc := 49) dX12_wish_49 rfl rfl ?_
  refine sw_getfield (pc := 50) dX12_wish_50 (gCX12 _ _ _ _ _) 15 (by decide) wF_X12_79 rfl rfl rfl ?_
  refine sv_icmp_ge (pc := 53) (tgt := 121) dX12_wish_53 (by decide) (fun _ => ?_) (fun h => absurd (by decide) h)
  refine sv_iload_n (pc := 121) dX12_wish_121 rfl rfl ?_
  refine sv_if_ne (pc := 122) (tgt := 127) dX12_wish_122 (by decide) (fun h => absurd (by decide) h) (fun _ => ?_)
  refine sv_iconst (pc := 125) (v := (-1)) dX12_wish_125 (by decide) ?_
  refine sv_iret (pc := 126) dX12_wish_126 rfl (le_t rfl) (le_t rfl) ?_
  refine sv_icmp_eq (pc := 1702) (tgt := 1799) dL_law_1702 (by decide) (fun _ => ?_) (fun h => absurd (by decide) h)
  exact kk _ _ _ (le_t rfl) (le_t rfl)
