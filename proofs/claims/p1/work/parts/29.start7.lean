section ST7
variable {l : Launch} {D : va_G} {cc : Nat → ClassId} {H0 : Heap} {b : Nat} {xs : Nat → Int32}
theorem law_end (hp : sHp) (ce sl : Nat) (hc : ce ≤ 600000) (hs : sl ≤ 7302250) : sV (gG l D cc H0 (b, 7, xs)) mL room_1 lwZ 1799 [(3, .int 0), (2, .ref 106), (1, .ref 0), (0, .retAddr 0)] [] hp ce sl := by
  refine sw_iinc (pc := 1799) (v := 7) dL_law_1799 rfl (by decide) (by decide) ?_
  refine sv_goto (pc := 1802) (tgt := 18) dL_law_1802 (by decide) ?_
  refine sv_iload_n (pc := 18) dL_law_18 rfl rfl ?_
  refine sv_aload_nS (pc := 19) dL_law_19 rfl rfl ?_
  refine sv_slen (pc := 20) dL_law_20 ?_
  refine sv_bipush (pc := 21) (v := 7) dL_law_21 (by decide) ?_
  refine sw_isub (pc := 23) (v := 0) dL_law_23 (show Int32.ofNat 7 - 7 = 0 by decide) ?_
  refine sv_icmp_gt (pc := 24) (tgt := 1805) dL_law_24 (by decide) (fun _ => ?_) (fun h => absurd (by decide) h)
  refine sv_iconst (pc := 1805) (v := 1) dL_law_1805 (by decide) ?_
  exact sl_ret dL_law_1806 hc hs
theorem law_case (j : Nat) (hj : j < 64) : sV (gG l D cc H0 (b, 7, xs)) mL room_1 lwZ 33 [(3, .int 0), (2, .ref 106), (1, .ref 0), (0, .retAddr 0)] [.int (nI j)] (192, tF) 192 297215 := by
  match j, hj with
  | 0, _ => exact sv_tableIn (pc := 33) (tgt := 240) dL_law_33 (by decide) (by decide) rfl (by decide) (op_0 l D cc H0 b xs lwZ _ _ _ _ _ _ rfl rfl rfl rfl rfl rfl law_end)
  | 1, _ => exact sv_tableIn (pc := 33) (tgt := 303) dL_law_33 (by decide) (by decide) rfl (by decide) (op_1 l D cc H0 b xs lwZ _ _ _ _ _ _ rfl rfl rfl rfl rfl rfl law_end)
  | 2, _ => exact sv_tableIn (pc := 33) (tgt := 326) dL_law_33 (by decide) (by decide) rfl (by decide) (op_2 l D cc H0 b xs lwZ _ _ _ _ _ _ rfl rfl rfl rfl rfl rfl law_end)
  | 3, _ => exact sv_tableIn (pc := 33) (tgt := 359) dL_law_33 (by decide) (by decide) rfl (by decide) (op_3 l D cc H0 b xs lwZ _ _ _ _ _ _ rfl rfl rfl rfl rfl rfl law_end)
  | 4, _ => exact sv_tableIn (pc := 33) (tgt := 372) dL_law_33 (by decide) (by decide) rfl (by decide) (op_4 l D cc H0 b xs lwZ _ _ _ _ _ _ rfl rfl rfl rfl rfl rfl law_end)
  | 5, _ => exact sv_tableIn (pc := 33) (tgt := 415) dL_law_33 (by decide) (by decide) rfl (by decide) (op_5 l D cc H0 b xs lwZ _ _ _ _ _ _ rfl rfl rfl rfl rfl rfl law_end)
  | 6, _ => exact sv_tableIn (pc := 33) (tgt := 458) dL_law_33 (by decide) (by decide) rfl (by decide) (op_6 l D cc H0 b xs lwZ _ _ _ _ _ _ rfl rfl rfl rfl rfl rfl law_end)
  | 7, _ => exact sv_tableIn (pc := 33) (tgt := 507) dL_law_33 (by decide) (by decide) rfl (by decide) (op_7 l D cc H0 b xs lwZ _ _ _ _ _ _ rfl rfl rfl rfl rfl rfl law_end)
  | 8, _ => exact sv_tableIn (pc := 33) (tgt := 540) dL_law_33 (by decide) (by decide) rfl (by decide) (op_8 l D cc H0 b xs lwZ _ _ _ _ _ _ rfl rfl rfl rfl rfl rfl law_end)
  | 9, _ => exact sv_tableIn (pc := 33) (tgt := 563) dL_law_33 (by decide) (by decide) rfl (by decide) (op_9 l D cc H0 b xs lwZ _ _ _ _ _ _ rfl rfl rfl rfl rfl rfl law_end)
  | 10, _ => exact sv_tableIn (pc := 33) (tgt := 586) dL_law_33 (by decide) (by decide) rfl (by decide) (op_10 l D cc H0 b xs lwZ _ _ _ _ _ _ rfl rfl rfl rfl rfl rfl law_end)
  | 11, _ => exact sv_tableIn (pc := 33) (tgt := 599) dL_law_33 (by decide) (by decide) rfl (by decide) (op_11 l D cc H0 b xs lwZ _ _ _ _ _ _ rfl rfl rfl rfl rfl rfl law_end)
  | 12, _ => exact sv_tableIn (pc := 33) (tgt := 622) dL_law_33 (by decide) (by decide) rfl (by decide) (op_12 l D cc H0 b xs lwZ _ _ _ _ _ _ rfl rfl rfl rfl rfl rfl law_end)
  | 13, _ => exact sv_tableIn (pc := 33) (tgt := 697) dL_law_33 (by decide) (by decide) rfl (by decide) (op_13 l D cc H0 b xs lwZ _ _ _ _ _ _ rfl rfl rfl rfl rfl rfl law_end)
  | 14, _ => exact sv_tableIn (pc := 33) (tgt := 730) dL_law_33 (by decide) (by decide) rfl (by decide) (op_14 l D cc H0 b xs lwZ _ _ _ _ _ _ rfl rfl rfl rfl rfl rfl law_end)
  | 15, _ => exact sv_tableIn (pc := 33) (tgt := 783) dL_law_33 (by decide) (by decide) rfl (by decide) (op_15 l D cc H0 b xs lwZ _ _ _ _ _ _ rfl rfl rfl rfl rfl rfl law_end)
  | 16, _ => exact sv_tableIn (pc := 33) (tgt := 796) dL_law_33 (by decide) (by decide) rfl (by decide) (op_16 l D cc H0 b xs lwZ _ _ _ _ _ _ rfl rfl rfl rfl rfl rfl law_end)
  | 17, _ => exact sv_tableIn (pc := 33) (tgt := 809) dL_law_33 (by decide) (by decide) rfl (by decide) (op_17 l D cc H0 b xs lwZ _ _ _ _ _ _ rfl rfl rfl rfl rfl rfl law_end)
  | 18, _ => exact sv_tableIn (pc := 33) (tgt := 862) dL_law_33 (by decide) (by decide) rfl (by decide) (op_18 l D cc H0 b xs lwZ _ _ _ _ _ _ rfl rfl rfl rfl rfl rfl law_end)
  | 19, _ => exact sv_tableIn (pc := 33) (tgt := 905) dL_law_33 (by decide) (by decide) rfl (by decide) (op_19 l D cc H0 b xs lwZ _ _ _ _ _ _ rfl rfl rfl rfl rfl rfl law_end)
  | 20, _ => exact sv_tableIn (pc := 33) (tgt := 928) dL_law_33 (by decide) (by decide) rfl (by decide) (op_20 l D cc H0 b xs lwZ _ _ _ _ _ _ rfl rfl rfl rfl rfl rfl law_end)
  | 21, _ => exact sv_tableIn (pc := 33) (tgt := 981) dL_law_33 (by decide) (by decide) rfl (by decide) (op_21 l D cc H0 b xs lwZ _ _ _ _ _ _ rfl rfl rfl rfl rfl rfl law_end)
  | 22, _ => exact sv_tableIn (pc := 33) (tgt := 1040) dL_law_33 (by decide) (by decide) rfl (by decide) (op_22 l D cc H0 b xs lwZ _ _ _ _ _ _ rfl rfl rfl rfl rfl rfl law_end)
  | 23, _ => exact sv_tableIn (pc := 33) (tgt := 1083) dL_law_33 (by decide) (by decide) rfl (by decide) (op_23 l D cc H0 b xs lwZ _ _ _ _ _ _ rfl rfl rfl rfl rfl rfl law_end)
  | 24, _ => exact sv_tableIn (pc := 33) (tgt := 1116) dL_law_33 (by decide) (by decide) rfl (by decide) (op_24 l D cc H0 b xs lwZ _ _ _ _ _ _ rfl rfl rfl rfl rfl rfl law_end)
  | 25, _ => exact sv_tableIn (pc := 33) (tgt := 1139) dL_law_33 (by decide) (by decide) rfl (by decide) (op_25 l D cc H0 b xs lwZ _ _ _ _ _ _ rfl rfl rfl rfl rfl rfl law_end)
  | 26, _ => exact sv_tableIn (pc := 33) (tgt := 1162) dL_law_33 (by decide) (by decide) rfl (by decide) (op_26 l D cc H0 b xs lwZ _ _ _ _ _ _ rfl rfl rfl rfl rfl rfl law_end)
  | 27, _ => exact sv_tableIn (pc := 33) (tgt := 1195) dL_law_33 (by decide) (by decide) rfl (by decide) (op_27 l D cc H0 b xs lwZ _ _ _ _ _ _ rfl rfl rfl rfl rfl rfl law_end)
  | 28, _ => exact sv_tableIn (pc := 33) (tgt := 1248) dL_law_33 (by decide) (by decide) rfl (by decide) (op_28 l D cc H0 b xs lwZ _ _ _ _ _ _ rfl rfl rfl rfl rfl rfl law_end)
  | 29, _ => exact sv_tableIn (pc := 33) (tgt := 1291) dL_law_33 (by decide) (by decide) rfl (by decide) (op_29 l D cc H0 b xs lwZ _ _ _ _ _ _ rfl rfl rfl rfl rfl rfl law_end)
  | 30, _ => exact sv_tableIn (pc := 33) (tgt := 1334) dL_law_33 (by decide) (by decide) rfl (by decide) (op_30 l D cc H0 b xs lwZ _ _ _ _ _ _ rfl rfl rfl rfl rfl rfl law_end)
  | 31, _ => exact sv_tableIn (pc := 33) (tgt := 1347) dL_law_33 (by decide) (by decide) rfl (by decide) (op_31 l D cc H0 b xs lwZ _ _ _ _ _ _ rfl rfl rfl rfl rfl rfl law_end)
  | 32, _ => exact sv_tableIn (pc := 33) (tgt := 1370) dL_law_33 (by decide) (by decide) rfl (by decide) (op_32 l D cc H0 b xs lwZ _ _ _ _ _ _ rfl rfl rfl rfl rfl rfl law_end)
  | 33, _ => exact sv_tableIn (pc := 33) (tgt := 1403) dL_law_33 (by decide) (by decide) rfl (by decide) (op_33 l D cc H0 b xs lwZ _ _ _ _ _ _ rfl rfl rfl rfl rfl rfl law_end)
  | 34, _ => exact sv_tableIn (pc := 33) (tgt := 1446) dL_law_33 (by decide) (by decide) rfl (by decide) (op_34 l D cc H0 b xs lwZ _ _ _ _ _ _ rfl rfl rfl rfl rfl rfl law_end)
  | 35, _ => exact sv_tableIn (pc := 33) (tgt := 1469) dL_law_33 (by decide) (by decide) rfl (by decide) (op_35 l D cc H0 b xs lwZ _ _ _ _ _ _ rfl rfl rfl rfl rfl rfl law_end)
  | 36, _ => exact sv_tableIn (pc := 33) (tgt := 1502) dL_law_33 (by decide) (by decide) rfl (by decide) (op_36 l D cc H0 b xs lwZ _ _ _ _ _ _ rfl rfl rfl rfl rfl rfl law_end)
  | 37, _ => exact sv_tableIn (pc := 33) (tgt := 1525) dL_law_33 (by decide) (by decide) rfl (by decide) (op_37 l D cc H0 b xs lwZ _ _ _ _ _ _ rfl rfl rfl rfl rfl rfl law_end)
  | 38, _ => exact sv_tableIn (pc := 33) (tgt := 1568) dL_law_33 (by decide) (by decide) rfl (by decide) (op_38 l D cc H0 b xs lwZ _ _ _ _ _ _ rfl rfl rfl rfl rfl rfl law_end)
  | 39, _ => exact sv_tableIn (pc := 33) (tgt := 1601) dL_law_33 (by decide) (by decide) rfl (by decide) (op_39 l D cc H0 b xs lwZ _ _ _ _ _ _ rfl rfl rfl rfl rfl rfl law_end)
  | 40, _ => exact sv_tableIn (pc := 33) (tgt := 1624) dL_law_33 (by decide) (by decide) rfl (by decide) (op_40 l D cc H0 b xs lwZ _ _ _ _ _ _ rfl rfl rfl rfl rfl rfl law_end)
  | 41, _ => exact sv_tableIn (pc := 33) (tgt := 1647) dL_law_33 (by decide) (by decide) rfl (by decide) (op_41 l D cc H0 b xs lwZ _ _ _ _ _ _ rfl rfl rfl rfl rfl rfl law_end)
  | 42, _ => exact sv_tableIn (pc := 33) (tgt := 1681) dL_law_33 (by decide) (by decide) rfl (by decide) (op_42 l D cc H0 b xs lwZ _ _ _ _ _ _ rfl rfl rfl rfl rfl rfl law_end)
  | 43, _ => exact sv_tableIn (pc := 33) (tgt := 1694) dL_law_33 (by decide) (by decide) rfl (by decide) (op_43 l D cc H0 b xs lwZ _ _ _ _ _ _ rfl rfl rfl rfl rfl rfl law_end)
  | 44, _ => exact sv_tableIn (pc := 33) (tgt := 1707) dL_law_33 (by decide) (by decide) rfl (by decide) (op_44 l D cc H0 b xs lwZ _ _ _ _ _ _ rfl rfl rfl rfl rfl rfl law_end)
  | 45, _ => exact sv_tableIn (pc := 33) (tgt := 1720) dL_law_33 (by decide) (by decide) rfl (by decide) (op_45 l D cc H0 b xs lwZ _ _ _ _ _ _ rfl rfl rfl rfl rfl rfl law_end)
  | 46, _ => exact sv_tableIn (pc := 33) (tgt := 1753) dL_law_33 (by decide) (by decide) rfl (by decide) (op_46 l D cc H0 b xs lwZ _ _ _ _ _ _ rfl rfl rfl rfl rfl rfl law_end)
  | 47, _ => exact sv_tableIn (pc := 33) (tgt := 1776) dL_law_33 (by decide) (by decide) rfl (by decide) (op_47 l D cc H0 b xs lwZ _ _ _ _ _ _ rfl rfl rfl rfl rfl rfl law_end)
  | 48, _ => exact sv_tableOut (pc := 33) (tgt := 1799) dL_law_33 (by decide) (by decide) (law_end _ _ _ (le_t rfl) (le_t rfl))
  | 49, _ => exact sv_tableOut (pc := 33) (tgt := 1799) dL_law_33 (by decide) (by decide) (law_end _ _ _ (le_t rfl) (le_t rfl))
  | 50, _ => exact sv_tableOut (pc := 33) (tgt := 1799) dL_law_33 (by decide) (by decide) (law_end _ _ _ (le_t rfl) (le_t rfl))
  | 51, _ => exact sv_tableOut (pc := 33) (tgt := 1799) dL_law_33 (by decide) (by decide) (law_end _ _ _ (le_t rfl) (le_t rfl))
  | 52, _ => exact sv_tableOut (pc := 33) (tgt := 1799) dL_law_33 (by decide) (by decide) (law_end _ _ _ (le_t rfl) (le_t rfl))
  | 53, _ => exact sv_tableOut (pc := 33) (tgt := 1799) dL_law_33 (by decide) (by decide) (law_end _ _ _ (le_t rfl) (le_t rfl))
  | 54, _ => exact sv_tableOut (pc := 33) (tgt := 1799) dL_law_33 (by decide) (by decide) (law_end _ _ _ (le_t rfl) (le_t rfl))
  | 55, _ => exact sv_tableOut (pc := 33) (tgt := 1799) dL_law_33 (by decide) (by decide) (law_end _ _ _ (le_t rfl) (le_t rfl))
  | 56, _ => exact sv_tableOut (pc := 33) (tgt := 1799) dL_law_33 (by decide) (by decide) (law_end _ _ _ (le_t rfl) (le_t rfl))
  | 57, _ => exact sv_tableOut (pc := 33) (tgt := 1799) dL_law_33 (by decide) (by decide) (law_end _ _ _ (le_t rfl) (le_t rfl))
  | 58, _ => exact sv_tableOut (pc := 33) (tgt := 1799) dL_law_33 (by decide) (by decide) (law_end _ _ _ (le_t rfl) (le_t rfl))
  | 59, _ => exact sv_tableOut (pc := 33) (tgt := 1799) dL_law_33 (by decide) (by decide) (law_end _ _ _ (le_t rfl) (le_t rfl))
  | 60, _ => exact sv_tableOut (pc := 33) (tgt := 1799) dL_law_33 (by decide) (by decide) (law_end _ _ _ (le_t rfl) (le_t rfl))
  | 61, _ => exact sv_tableOut (pc := 33) (tgt := 1799) dL_law_33 (by decide) (by decide) (law_end _ _ _ (le_t rfl) (le_t rfl))
  | 62, _ => exact sv_tableOut (pc := 33) (tgt := 1799) dL_law_33 (by decide) (by decide) (law_end _ _ _ (le_t rfl) (le_t rfl))
  | 63, _ => exact sv_tableOut (pc := 33) (tgt := 1799) dL_law_33 (by decide) (by decide) (law_end _ _ _ (le_t rfl) (le_t rfl))
  | n + 64, h => exact absurd h (by omega)
end ST7
set_option maxHeartbeats 4000000 in
set_option maxRecDepth 100000 in
theorem law_pair {l : Launch} {D : va_G} {cc : Nat → ClassId} {H0 : Heap} {b L : Nat} {xs : Nat → Int32} (kk : sV (gG l D cc H0 (b, L, xs)) mL room_1 lwZ 18 [(3, .int 0), (2, .ref 106), (1, .ref 0), (0, .retAddr 0)] [] (192, tF) 192 297215) : sV (gG l D cc H0 (b, L, xs)) mL room_1 lwZ 0 [(0, .retAddr 0)] [] (0, fun _ => .inr (0, [])) 0 0 := by
  refine sw_new (pc := 0) (a := 0) (n1 := 1) (ce1 := 1) (sl1 := 12) (fs := zX11) dL_law_0 (gCX11 _ _ _ _ _) wC_DomainHouseLaw_7 wN_X11 wI_X11 zX11_ok rfl rfl rfl rfl rfl rfl ?_
  refine sv_dup (pc := 3) dL_law_3 rfl ?_
  refine sv_heap (hp' := (1, fun _ => .inr (11, zX11))) rfl (fun j hj => ?_) ?_
  · match j, hj with
    | 0, _ => rfl
    | n + 1, h => exact absurd h (by omega)
  refine sv_callI (pc := 4) (M' := mX11_init) (d' := 20) (C' := 105) (S' := 12522) (av := []) (ctorC l D cc H0 (b, L, xs)) (gOk _ _ _ _ _) dL_law_4 (tX11_init _ _ _ _ _) rfl rfl wV_X11_init wM_DomainHouseLaw_9 ⟨le_t rfl, le_t rfl⟩ ⟨le_t rfl, le_t rfl⟩ rfl (le_t rfl) ?_
  rintro _ hp1 ⟨rfl, h1, h2⟩
  refine sv_heap (hp' := (106, tC)) h1 h2 ?_
  refine sv_astore_n (pc := 7) dL_law_7 rfl (by decide) ?_
  refine sw_new (pc := 8) (a := 106) (n1 := 107) (ce1 := 107) (sl1 := 12660) (fs := zX12) dL_law_8 (gCX12 _ _ _ _ _) wC_DomainHouseLaw_10 wN_X12 wI_X12 zX12_ok rfl rfl rfl rfl rfl rfl ?_
  refine sv_dup (pc := 11) dL_law_11 rfl ?_
  refine sv_callI (pc := 12) (M' := mX12_init) (d' := 20) (C' := 85) (S' := 284555) (av := []) (ctorM l D cc H0 (b, L, xs)) (gOk _ _ _ _ _) dL_law_12 (tX12_init _ _ _ _ _) rfl rfl wV_X12_init wM_DomainHouseLaw_12 ⟨le_t rfl, le_t rfl⟩ ⟨le_t rfl, le_t rfl⟩ rfl (le_t rfl) ?_
  rintro _ hp2 ⟨rfl, h3, h4⟩
  refine sv_heap (hp' := (192, tF)) h3 h4 ?_
  refine sv_astore_n (pc := 15) dL_law_15 rfl (by decide) ?_
  refine sv_iconst (pc := 16) (v := 0) dL_law_16 (by decide) ?_
  refine sv_istore_n (pc := 17) dL_law_17 rfl (by decide) ?_
  exact kk
set_option maxHeartbeats 4000000 in
theorem start7 {p : Program} {e : Env} {s : State} {m : MethodId} {below : List Frame} {meth : Method} {c : Code} (l : Launch) {b L : Nat} {xs : Nat → Int32} (hL : L ≤ 7) (C0 : lw_At p s m meth c b L xs) (hnm : meth.name = x.name) : W p l e room_1 s m #[Value.ref b] below meth c s.heap [] 0 0 (lw_Z below #[Value.ref b] s) (entryFrame m ([Value.ref b] : List Value).toArray 4) := by
  refine lw_enter l C0 hnm (fun D cc => law_pair ?_)
  refine sv_iload_n (pc := 18) dL_law_18 rfl rfl ?_
  refine sv_aload_nS (pc := 19) dL_law_19 rfl rfl ?_
  refine sv_slen (pc := 20) dL_law_20 ?_
  refine sv_bipush (pc := 21) (v := 7) dL_law_21 (by decide) ?_
  refine sv_isub (pc := 23) dL_law_23 ?_
  refine sv_icmp_gt (pc := 24) (tgt := 1805) dL_law_24 (by decide) (fun _ => ?_) (fun h => ?_)
  · refine sv_iconst (pc := 1805) (v := 1) dL_law_1805 (by decide) ?_
    exact sl_ret dL_law_1806 (le_t rfl) (le_t rfl)
  · have h7 : L = 7 := by
      rcases Nat.lt_or_ge L 7 with q | q
      · exact absurd (co_dec (N := 7) (P := fun L => Int32.ofNat L - 7 < 0) (by decide) q) h
      · omega
    subst h7
    refine sv_aload_nS (pc := 27) dL_law_27 rfl rfl ?_
    refine sv_iload_n (pc := 28) dL_law_28 rfl rfl ?_
    refine sw_sld (pc := 29) (v := xs 0) dL_law_29 (k := 0) (by decide) (by decide) rfl rfl ?_
    refine sv_bipush (pc := 30) (v := 63) dL_law_30 (by decide) ?_
    obtain ⟨j, hj, e⟩ := pk_andE (xs 0) (m := 63) 6 (by decide)
    refine sw_iand (pc := 32) dL_law_32 e ?_
    exact law_case j hj
