section LLOOP
variable {l : Launch} {D : va_G} {c : Nat → ClassId} {H0 : Heap} {sa : Nat × Nat × (Nat → Int32)}
set_option maxHeartbeats 4000000 in
theorem law_case {w : mW} {μ : mM} {L : Int} (hJ : J w μ) (hK : K3 w μ L) (hL : 0 ≤ L ∧ L + 7 ≤ (sa.2.1 : Int)) (hs : sa.2.1 ≤ 3584) (nx : ∀ (w1 : mW) (μ1 : mM) (ce sl : Nat), J w1 μ1 → K3 w1 μ1 (L + 7) → sV (gG l D c H0 sa) mL room_1 lwZ 1798 [(3, iv L), (2, .ref 106), (1, .ref 0), (0, .retAddr 0)] [] (mk w1 μ1) ce sl) (j : Nat) (hj : j < 64) : sV (gG l D c H0 sa) mL room_1 lwZ 33 [(3, iv L), (2, .ref 106), (1, .ref 0), (0, .retAddr 0)] [.int (nI j)] (mk w μ) w.1 (szW w) := by
  match j, hj with
  | 0, _ => exact sv_tableIn (pc := 33) (tgt := 240) dL_law_33 (by decide) (by decide) rfl (by decide) (op_0 hJ hK hL hs nx)
  | 1, _ => exact sv_tableIn (pc := 33) (tgt := 303) dL_law_33 (by decide) (by decide) rfl (by decide) (op_1 hJ hK hL hs nx)
  | 2, _ => exact sv_tableIn (pc := 33) (tgt := 326) dL_law_33 (by decide) (by decide) rfl (by decide) (op_2 hJ hK hL hs nx)
  | 3, _ => exact sv_tableIn (pc := 33) (tgt := 359) dL_law_33 (by decide) (by decide) rfl (by decide) (op_3 hJ hK hL hs nx)
  | 4, _ => exact sv_tableIn (pc := 33) (tgt := 372) dL_law_33 (by decide) (by decide) rfl (by decide) (op_4 hJ hK hL hs nx)
  | 5, _ => exact sv_tableIn (pc := 33) (tgt := 415) dL_law_33 (by decide) (by decide) rfl (by decide) (op_5 hJ hK hL hs nx)
  | 6, _ => exact sv_tableIn (pc := 33) (tgt := 458) dL_law_33 (by decide) (by decide) rfl (by decide) (op_6 hJ hK hL hs nx)
  | 7, _ => exact sv_tableIn (pc := 33) (tgt := 507) dL_law_33 (by decide) (by decide) rfl (by decide) (op_7 hJ hK hL hs nx)
  | 8, _ => exact sv_tableIn (pc := 33) (tgt := 540) dL_law_33 (by decide) (by decide) rfl (by decide) (op_8 hJ hK hL hs nx)
  | 9, _ => exact sv_tableIn (pc := 33) (tgt := 563) dL_law_33 (by decide) (by decide) rfl (by decide) (op_9 hJ hK hL hs nx)
  | 10, _ => exact sv_tableIn (pc := 33) (tgt := 586) dL_law_33 (by decide) (by decide) rfl (by decide) (op_10 hJ hK hL hs nx)
  | 11, _ => exact sv_tableIn (pc := 33) (tgt := 599) dL_law_33 (by decide) (by decide) rfl (by decide) (op_11 hJ hK hL hs nx)
  | 12, _ => exact sv_tableIn (pc := 33) (tgt := 622) dL_law_33 (by decide) (by decide) rfl (by decide) (op_12 hJ hK hL hs nx)
  | 13, _ => exact sv_tableIn (pc := 33) (tgt := 697) dL_law_33 (by decide) (by decide) rfl (by decide) (op_13 hJ hK hL hs nx)
  | 14, _ => exact sv_tableIn (pc := 33) (tgt := 730) dL_law_33 (by decide) (by decide) rfl (by decide) (op_14 hJ hK hL hs nx)
  | 15, _ => exact sv_tableIn (pc := 33) (tgt := 783) dL_law_33 (by decide) (by decide) rfl (by decide) (op_15 hJ hK hL hs nx)
  | 16, _ => exact sv_tableIn (pc := 33) (tgt := 796) dL_law_33 (by decide) (by decide) rfl (by decide) (op_16 hJ hK hL hs nx)
  | 17, _ => exact sv_tableIn (pc := 33) (tgt := 809) dL_law_33 (by decide) (by decide) rfl (by decide) (op_17 hJ hK hL hs nx)
  | 18, _ => exact sv_tableIn (pc := 33) (tgt := 862) dL_law_33 (by decide) (by decide) rfl (by decide) (op_18 hJ hK hL hs nx)
  | 19, _ => exact sv_tableIn (pc := 33) (tgt := 905) dL_law_33 (by decide) (by decide) rfl (by decide) (op_19 hJ hK hL hs nx)
  | 20, _ => exact sv_tableIn (pc := 33) (tgt := 928) dL_law_33 (by decide) (by decide) rfl (by decide) (op_20 hJ hK hL hs nx)
  | 21, _ => exact sv_tableIn (pc := 33) (tgt := 981) dL_law_33 (by decide) (by decide) rfl (by decide) (op_21 hJ hK hL hs nx)
  | 22, _ => exact sv_tableIn (pc := 33) (tgt := 1040) dL_law_33 (by decide) (by decide) rfl (by decide) (op_22 hJ hK hL hs nx)
  | 23, _ => exact sv_tableIn (pc := 33) (tgt := 1083) dL_law_33 (by decide) (by decide) rfl (by decide) (op_23 hJ hK hL hs nx)
  | 24, _ => exact sv_tableIn (pc := 33) (tgt := 1116) dL_law_33 (by decide) (by decide) rfl (by decide) (op_24 hJ hK hL hs nx)
  | 25, _ => exact sv_tableIn (pc := 33) (tgt := 1139) dL_law_33 (by decide) (by decide) rfl (by decide) (op_25 hJ hK hL hs nx)
  | 26, _ => exact sv_tableIn (pc := 33) (tgt := 1162) dL_law_33 (by decide) (by decide) rfl (by decide) (op_26 hJ hK hL hs nx)
  | 27, _ => exact sv_tableIn (pc := 33) (tgt := 1195) dL_law_33 (by decide) (by decide) rfl (by decide) (op_27 hJ hK hL hs nx)
  | 28, _ => exact sv_tableIn (pc := 33) (tgt := 1248) dL_law_33 (by decide) (by decide) rfl (by decide) (op_28 hJ hK hL hs nx)
  | 29, _ => exact sv_tableIn (pc := 33) (tgt := 1291) dL_law_33 (by decide) (by decide) rfl (by decide) (op_29 hJ hK hL hs nx)
  | 30, _ => exact sv_tableIn (pc := 33) (tgt := 1334) dL_law_33 (by decide) (by decide) rfl (by decide) (op_30 hJ hK hL hs nx)
  | 31, _ => exact sv_tableIn (pc := 33) (tgt := 1347) dL_law_33 (by decide) (by decide) rfl (by decide) (op_31 hJ hK hL hs nx)
  | 32, _ => exact sv_tableIn (pc := 33) (tgt := 1370) dL_law_33 (by decide) (by decide) rfl (by decide) (op_32 hJ hK hL hs nx)
  | 33, _ => exact sv_tableIn (pc := 33) (tgt := 1403) dL_law_33 (by decide) (by decide) rfl (by decide) (op_33 hJ hK hL hs nx)
  | 34, _ => exact sv_tableIn (pc := 33) (tgt := 1446) dL_law_33 (by decide) (by decide) rfl (by decide) (op_34 hJ hK hL hs nx)
  | 35, _ => exact sv_tableIn (pc := 33) (tgt := 1469) dL_law_33 (by decide) (by decide) rfl (by decide) (op_35 hJ hK hL hs nx)
  | 36, _ => exact sv_tableIn (pc := 33) (tgt := 1502) dL_law_33 (by decide) (by decide) rfl (by decide) (op_36 hJ hK hL hs nx)
  | 37, _ => exact sv_tableIn (pc := 33) (tgt := 1525) dL_law_33 (by decide) (by decide) rfl (by decide) (op_37 hJ hK hL hs nx)
  | 38, _ => exact sv_tableIn (pc := 33) (tgt := 1568) dL_law_33 (by decide) (by decide) rfl (by decide) (op_38 hJ hK hL hs nx)
  | 39, _ => exact sv_tableIn (pc := 33) (tgt := 1601) dL_law_33 (by decide) (by decide) rfl (by decide) (op_39 hJ hK hL hs nx)
  | 40, _ => exact sv_tableIn (pc := 33) (tgt := 1624) dL_law_33 (by decide) (by decide) rfl (by decide) (op_40 hJ hK hL hs nx)
  | 41, _ => exact sv_tableIn (pc := 33) (tgt := 1647) dL_law_33 (by decide) (by decide) rfl (by decide) (op_41 hJ hK hL hs nx)
  | 42, _ => exact sv_tableIn (pc := 33) (tgt := 1680) dL_law_33 (by decide) (by decide) rfl (by decide) (op_42 hJ hK hL hs nx)
  | 43, _ => exact sv_tableIn (pc := 33) (tgt := 1693) dL_law_33 (by decide) (by decide) rfl (by decide) (op_43 hJ hK hL hs nx)
  | 44, _ => exact sv_tableIn (pc := 33) (tgt := 1706) dL_law_33 (by decide) (by decide) rfl (by decide) (op_44 hJ hK hL hs nx)
  | 45, _ => exact sv_tableIn (pc := 33) (tgt := 1719) dL_law_33 (by decide) (by decide) rfl (by decide) (op_45 hJ hK hL hs nx)
  | 46, _ => exact sv_tableIn (pc := 33) (tgt := 1752) dL_law_33 (by decide) (by decide) rfl (by decide) (op_46 hJ hK hL hs nx)
  | 47, _ => exact sv_tableIn (pc := 33) (tgt := 1775) dL_law_33 (by decide) (by decide) rfl (by decide) (op_47 hJ hK hL hs nx)
  | 48, _ => exact sv_tableOut (pc := 33) (tgt := 1798) dL_law_33 (by decide) (by decide) (nx _ _ _ _ hJ hK.nx)
  | 49, _ => exact sv_tableOut (pc := 33) (tgt := 1798) dL_law_33 (by decide) (by decide) (nx _ _ _ _ hJ hK.nx)
  | 50, _ => exact sv_tableOut (pc := 33) (tgt := 1798) dL_law_33 (by decide) (by decide) (nx _ _ _ _ hJ hK.nx)
  | 51, _ => exact sv_tableOut (pc := 33) (tgt := 1798) dL_law_33 (by decide) (by decide) (nx _ _ _ _ hJ hK.nx)
  | 52, _ => exact sv_tableOut (pc := 33) (tgt := 1798) dL_law_33 (by decide) (by decide) (nx _ _ _ _ hJ hK.nx)
  | 53, _ => exact sv_tableOut (pc := 33) (tgt := 1798) dL_law_33 (by decide) (by decide) (nx _ _ _ _ hJ hK.nx)
  | 54, _ => exact sv_tableOut (pc := 33) (tgt := 1798) dL_law_33 (by decide) (by decide) (nx _ _ _ _ hJ hK.nx)
  | 55, _ => exact sv_tableOut (pc := 33) (tgt := 1798) dL_law_33 (by decide) (by decide) (nx _ _ _ _ hJ hK.nx)
  | 56, _ => exact sv_tableOut (pc := 33) (tgt := 1798) dL_law_33 (by decide) (by decide) (nx _ _ _ _ hJ hK.nx)
  | 57, _ => exact sv_tableOut (pc := 33) (tgt := 1798) dL_law_33 (by decide) (by decide) (nx _ _ _ _ hJ hK.nx)
  | 58, _ => exact sv_tableOut (pc := 33) (tgt := 1798) dL_law_33 (by decide) (by decide) (nx _ _ _ _ hJ hK.nx)
  | 59, _ => exact sv_tableOut (pc := 33) (tgt := 1798) dL_law_33 (by decide) (by decide) (nx _ _ _ _ hJ hK.nx)
  | 60, _ => exact sv_tableOut (pc := 33) (tgt := 1798) dL_law_33 (by decide) (by decide) (nx _ _ _ _ hJ hK.nx)
  | 61, _ => exact sv_tableOut (pc := 33) (tgt := 1798) dL_law_33 (by decide) (by decide) (nx _ _ _ _ hJ hK.nx)
  | 62, _ => exact sv_tableOut (pc := 33) (tgt := 1798) dL_law_33 (by decide) (by decide) (nx _ _ _ _ hJ hK.nx)
  | 63, _ => exact sv_tableOut (pc := 33) (tgt := 1798) dL_law_33 (by decide) (by decide) (nx _ _ _ _ hJ hK.nx)
  | n + 64, h => exact absurd h (by omega)
theorem law_loop (hs : sa.2.1 ≤ 3584) : ∀ (k : Nat) (w : mW) (μ : mM) (L : Int) (ce sl : Nat), J w μ → K3 w μ L → 0 ≤ L → (sa.2.1 : Int) - L < 7 * (k : Int) → L ≤ 3584 → sV (gG l D c H0 sa) mL room_1 lwZ 18 [(3, iv L), (2, .ref 106), (1, .ref 0), (0, .retAddr 0)] [] (mk w μ) ce sl := by
  intro k
  induction k with
  | zero =>
    intro w μ L ce sl hJ hK h0 hk hL
    have hb := hJ.bd
    refine sv_tight rfl (Nat.le_refl _) (Nat.le_of_eq (szW_mk w μ)) ?_
    refine mr_iload_n (pc := 18) (z := L) dL_law_18 rfl rfl ?_
    refine sv_aload_nS (pc := 19) dL_law_19 rfl rfl ?_
    refine sv_slen (pc := 20) dL_law_20 ?_
    rw [show Value.int (Int32.ofNat (sg_L (gG l D c H0 sa))) = iv (sa.2.1 : Int) from congrArg Value.int (Int32.ofInt_eq_ofNat).symm]
    refine mr_bipush (pc := 21) (z := 7) dL_law_21 (by decide) ?_
    refine mr_isub (pc := 23) dL_law_23 ?_
    refine mr_icmp_gt (pc := 24) (tgt := 1804) dL_law_24 (by decide) ⟨by omega, by omega⟩ ⟨by omega, by omega⟩ (fun _ => ?_) (fun h => by omega)
    refine sv_iconst (pc := 1804) (v := 1) dL_law_1804 (by decide) ?_
    exact sl_ret dL_law_1805 (show w.1 ≤ 600000 by omega) (show szW w ≤ 7302250 by omega)
  | succ k ih =>
    intro w μ L ce sl hJ hK h0 hk hL
    have hb := hJ.bd
    refine sv_tight rfl (Nat.le_refl _) (Nat.le_of_eq (szW_mk w μ)) ?_
    refine mr_iload_n (pc := 18) (z := L) dL_law_18 rfl rfl ?_
    refine sv_aload_nS (pc := 19) dL_law_19 rfl rfl ?_
    refine sv_slen (pc := 20) dL_law_20 ?_
    rw [show Value.int (Int32.ofNat (sg_L (gG l D c H0 sa))) = iv (sa.2.1 : Int) from congrArg Value.int (Int32.ofInt_eq_ofNat).symm]
    refine mr_bipush (pc := 21) (z := 7) dL_law_21 (by decide) ?_
    refine mr_isub (pc := 23) dL_law_23 ?_
    refine mr_icmp_gt (pc := 24) (tgt := 1804) dL_law_24 (by decide) ⟨by omega, by omega⟩ ⟨by omega, by omega⟩ (fun _ => ?_) (fun h => ?_)
    · refine sv_iconst (pc := 1804) (v := 1) dL_law_1804 (by decide) ?_
      exact sl_ret dL_law_1805 (show w.1 ≤ 600000 by omega) (show szW w ≤ 7302250 by omega)
    · refine sv_aload_nS (pc := 27) dL_law_27 rfl rfl ?_
      refine mr_iload_n (pc := 28) (z := L) dL_law_28 rfl rfl ?_
      refine la_ld (pc := 29) dL_law_29 ⟨h0, by omega⟩ hs fun z hz => ?_
      refine sv_bipush (pc := 30) (v := 63) dL_law_30 (by decide) ?_
      obtain ⟨j, hj, e⟩ := pk_andE (Int32.ofInt z) (m := 63) 6 (by decide)
      refine sv_iand (pc := 32) dL_law_32 ?_
      rw [e]
      refine law_case hJ hK ⟨h0, by omega⟩ hs (fun w1 μ1 ce1 sl1 hJ1 hK1 => ?_) j hj
      refine mr_iinc (pc := 1798) (lv' := [(3, iv (L + 7)), (2, .ref 106), (1, .ref 0), (0, .retAddr 0)]) dL_law_1798 rfl (by decide) rfl ?_
      refine sv_goto (pc := 1801) (tgt := 18) dL_law_1801 (by decide) ?_
      exact ih w1 μ1 (L + 7) ce1 sl1 hJ1 hK1 (by omega) (by omega) (by omega)
end LLOOP
