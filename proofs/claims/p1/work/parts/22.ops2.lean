set_option maxHeartbeats 40000000 in
set_option maxRecDepth 100000 in
theorem op_16 (l : Launch) (D : va_G) (c : Nat → ClassId) (H0 : Heap) (b : Nat) (xs : Nat → Int32) (Z : sZT) (x1 x2 x3 x4 x5 x6 : Int32) (hx1 : xs 1 = x1) (hx2 : xs 2 = x2) (hx3 : xs 3 = x3) (hx4 : xs 4 = x4) (hx5 : xs 5 = x5) (hx6 : xs 6 = x6) (kk : ∀ (hp : sHp) (ce sl : Nat), ce ≤ 600000 → sl ≤ 7302250 → sV (gG l D c H0 (b, 7, xs)) mL room_1 Z 1799 [(3, .int 0), (2, .ref 106), (1, .ref 0), (0, .retAddr 0)] [] hp ce sl) : sV (gG l D c H0 (b, 7, xs)) mL room_1 Z 796 [(3, .int 0), (2, .ref 106), (1, .ref 0), (0, .retAddr 0)] [] (192, tF) 192 297215 := by
  refine sv_aload_n (pc := 796) dL_law_796 rfl rfl ?_
  refine sv_callV (pc := 797) (M' := mX11_fault) (d' := 20) (C' := 0) (S' := 0) (av := []) ?_ (gOk _ _ _ _ _) dL_law_797 (tX11_fault _ _ _ _ _) ⟨wV_X11_fault, wL_X11_fault⟩ wM_DomainHouseLaw_85 (gCX11 _ _ _ _ _) rfl (lt_t rfl) rfl ⟨le_t rfl, le_t rfl⟩ ⟨le_t rfl, le_t rfl⟩ rfl (le_t rfl) (fun _ _ h => h)
  refine sC.of rfl (by decide) (le_t rfl) ?_
  refine sv_aload_n (pc := 0) dX11_fault_0 rfl rfl ?_
  refine sw_getfield (pc := 1) dX11_fault_1 (gCX11 _ _ _ _ _) 5 (by decide) wF_X11_42 rfl rfl rfl ?_
  refine sw_getfield (pc := 4) dX11_fault_4 (gCX6 _ _ _ _ _) 18 (by decide) wF_X11_212 rfl rfl rfl ?_
  refine sv_iret (pc := 7) dX11_fault_7 rfl (le_t rfl) (le_t rfl) ?_
  refine sv_aload_n (pc := 800) dL_law_800 rfl rfl ?_
  refine sv_callV (pc := 801) (M' := mX12_fault) (d' := 20) (C' := 0) (S' := 0) (av := []) ?_ (gOk _ _ _ _ _) dL_law_801 (tX12_fault _ _ _ _ _) ⟨wV_X12_fault, wL_X12_fault⟩ wM_DomainHouseLaw_88 (gCX12 _ _ _ _ _) rfl (lt_t rfl) rfl ⟨le_t rfl, le_t rfl⟩ ⟨le_t rfl, le_t rfl⟩ rfl (le_t rfl) (fun _ _ h => h)
  refine sC.of rfl (by decide) (le_t rfl) ?_
  refine sv_aload_n (pc := 0) dX12_fault_0 rfl rfl ?_
  refine sw_getfield (pc := 1) dX12_fault_1 (gCX12 _ _ _ _ _) 66 (by decide) wF_X12_376 rfl rfl rfl ?_
  refine sv_iret (pc := 4) dX12_fault_4 rfl (le_t rfl) (le_t rfl) ?_
  refine sv_icmp_eq (pc := 804) (tgt := 1799) dL_law_804 (by decide) (fun _ => ?_) (fun h => absurd (by decide) h)
  exact kk _ _ _ (le_t rfl) (le_t rfl)
set_option maxHeartbeats 40000000 in
set_option maxRecDepth 100000 in
theorem op_17 (l : Launch) (D : va_G) (c : Nat → ClassId) (H0 : Heap) (b : Nat) (xs : Nat → Int32) (Z : sZT) (x1 x2 x3 x4 x5 x6 : Int32) (hx1 : xs 1 = x1) (hx2 : xs 2 = x2) (hx3 : xs 3 = x3) (hx4 : xs 4 = x4) (hx5 : xs 5 = x5) (hx6 : xs 6 = x6) (kk : ∀ (hp : sHp) (ce sl : Nat), ce ≤ 600000 → sl ≤ 7302250 → sV (gG l D c H0 (b, 7, xs)) mL room_1 Z 1799 [(3, .int 0), (2, .ref 106), (1, .ref 0), (0, .retAddr 0)] [] hp ce sl) : sV (gG l D c H0 (b, 7, xs)) mL room_1 Z 809 [(3, .int 0), (2, .ref 106), (1, .ref 0), (0, .retAddr 0)] [] (192, tF) 192 297215 := by
  refine sv_aload_n (pc := 809) dL_law_809 rfl rfl ?_
  refine sv_aload_nS (pc := 810) dL_law_810 rfl rfl ?_
  refine sv_iload_n (pc := 811) dL_law_811 rfl rfl ?_
  refine sv_iconst (pc := 812) (v := 1) dL_law_812 (by decide) ?_
  refine sw_iadd (pc := 813) (v := 1) dL_law_813 (by decide) ?_
  refine sw_sld (pc := 814) (v := x1) dL_law_814 (k := 1) (by decide) (by decide) rfl hx1 ?_
  refine sv_aload_nS (pc := 815) dL_law_815 rfl rfl ?_
  refine sv_iload_n (pc := 816) dL_law_816 rfl rfl ?_
  refine sv_iconst (pc := 817) (v := 2) dL_law_817 (by decide) ?_
  refine sw_iadd (pc := 818) (v := 2) dL_law_818 (by decide) ?_
  refine sw_sld (pc := 819) (v := x2) dL_law_819 (k := 2) (by decide) (by decide) rfl hx2 ?_
  refine sv_aload_nS (pc := 820) dL_law_820 rfl rfl ?_
  refine sv_iload_n (pc := 821) dL_law_821 rfl rfl ?_
  refine sv_iconst (pc := 822) (v := 3) dL_law_822 (by decide) ?_
  refine sw_iadd (pc := 823) (v := 3) dL_law_823 (by decide) ?_
  refine sw_sld (pc := 824) (v := x3) dL_law_824 (k := 3) (by decide) (by decide) rfl hx3 ?_
  refine sv_aload_nS (pc := 825) dL_law_825 rfl rfl ?_
  refine sv_iload_n (pc := 826) dL_law_826 rfl rfl ?_
  refine sv_iconst (pc := 827) (v := 4) dL_law_827 (by decide) ?_
  refine sw_iadd (pc := 828) (v := 4) dL_law_828 (by decide) ?_
  refine sw_sld (pc := 829) (v := x4) dL_law_829 (k := 4) (by decide) (by decide) rfl hx4 ?_
  refine sv_callV (pc := 830) (M' := mX11_route) (d' := 20) (C' := 0) (S' := 0) (av := [.int x1, .int x2, .int x3, .int x4]) ?_ (gOk _ _ _ _ _) dL_law_830 (tX11_route _ _ _ _ _) ⟨wV_X11_route, wL_X11_route⟩ wM_DomainHouseLaw_89 (gCX11 _ _ _ _ _) rfl (lt_t rfl) rfl ⟨le_t rfl, le_t rfl⟩ ⟨le_t rfl, le_t rfl⟩ rfl (le_t rfl) (fun _ _ h => h)
  refine sC.of rfl (by decide) (le_t rfl) ?_
  refine sv_aload_n (pc := 0) dX11_route_0 rfl rfl ?_
  refine sv_iload_n (pc := 1) dX11_route_1 rfl rfl ?_
  refine sv_callV (pc := 2) (M' := mX11_isPrefix) (d' := 19) (C' := 0) (S' := 0) (av := [.int x1]) ?_ (gOk _ _ _ _ _) dX11_route_2 (tX11_isPrefix _ _ _ _ _) ⟨wV_X11_isPrefix, wL_X11_isPrefix⟩ wM_X11_182 (gCX11 _ _ _ _ _) rfl (lt_t rfl) rfl ⟨le_t rfl, le_t rfl⟩ ⟨le_t rfl, le_t rfl⟩ rfl (le_t rfl) (fun _ _ h => h)
  refine sC.of rfl (by decide) (le_t rfl) ?_
  refine sv_iload_n (pc := 0) dX11_isPrefix_0 rfl rfl ?_
  refine sv_if_lt (pc := 1) (tgt := 19) dX11_isPrefix_1 (by decide) (fun h_1 => ?_) (fun h_1 => ?_)
  · refine sv_iconst (pc := 19) (v := 0) dX11_isPrefix_19 (by decide) ?_
    refine sv_zret (pc := 20) dX11_isPrefix_20 rfl (by decide) (le_t rfl) (le_t rfl) ?_
    refine sv_if_eq (pc := 5) (tgt := 19) dX11_route_5 (by decide) (fun _ => ?_) (fun h => absurd (by decide) h)
    refine sv_iconst (pc := 19) (v := (-1)) dX11_route_19 (by decide) ?_
    refine sv_iret (pc := 20) dX11_route_20 rfl (le_t rfl) (le_t rfl) ?_
    refine sv_aload_n (pc := 833) dL_law_833 rfl rfl ?_
    refine sv_aload_nS (pc := 834) dL_law_834 rfl rfl ?_
    refine sv_iload_n (pc := 835) dL_law_835 rfl rfl ?_
    refine sv_iconst (pc := 836) (v := 1) dL_law_836 (by decide) ?_
    refine sw_iadd (pc := 837) (v := 1) dL_law_837 (by decide) ?_
    refine sw_sld (pc := 838) (v := x1) dL_law_838 (k := 1) (by decide) (by decide) rfl hx1 ?_
    refine sv_aload_nS (pc := 839) dL_law_839 rfl rfl ?_
    refine sv_iload_n (pc := 840) dL_law_840 rfl rfl ?_
    refine sv_iconst (pc := 841) (v := 2) dL_law_841 (by decide) ?_
    refine sw_iadd (pc := 842) (v := 2) dL_law_842 (by decide) ?_
    refine sw_sld (pc := 843) (v := x2) dL_law_843 (k := 2) (by decide) (by decide) rfl hx2 ?_
    refine sv_aload_nS (pc := 844) dL_law_844 rfl rfl ?_
    refine sv_iload_n (pc := 845) dL_law_845 rfl rfl ?_
    refine sv_iconst (pc := 846) (v := 3) dL_law_846 (by decide) ?_
    refine sw_iadd (pc := 847) (v := 3) dL_law_847 (by decide) ?_
    refine sw_sld (pc := 848) (v := x3) dL_law_848 (k := 3) (by decide) (by decide) rfl hx3 ?_
    refine sv_aload_nS (pc := 849) dL_law_849 rfl rfl ?_
    refine sv_iload_n (pc := 850) dL_law_850 rfl rfl ?_
    refine sv_iconst (pc := 851) (v := 4) dL_law_851 (by decide) ?_
    refine sw_iadd (pc := 852) (v := 4) dL_law_852 (by decide) ?_
    refine sw_sld (pc := 853) (v := x4) dL_law_853 (k := 4) (by decide) (by decide) rfl hx4 ?_
    refine sv_callV (pc := 854) (M' := mX12_route) (d' := 20) (C' := 0) (S' := 0) (av := [.int x1, .int x2, .int x3, .int x4]) ?_ (gOk _ _ _ _ _) dL_law_854 (tX12_route _ _ _ _ _) ⟨wV_X12_route, wL_X12_route⟩ wM_DomainHouseLaw_92 (gCX12 _ _ _ _ _) rfl (lt_t rfl) rfl ⟨le_t rfl, le_t rfl⟩ ⟨le_t rfl, le_t rfl⟩ rfl (le_t rfl) (fun _ _ h => h)
    refine sC.of rfl (by decide) (le_t rfl) ?_
    refine sv_aload_n (pc := 0) dX12_route_0 rfl rfl ?_
    refine sv_iload_n (pc := 1) dX12_route_1 rfl rfl ?_
    refine sv_callV (pc := 2) (M' := mX12_isPrefix) (d' := 19) (C' := 0) (S' := 0) (av := [.int x1]) ?_ (gOk _ _ _ _ _) dX12_route_2 (tX12_isPrefix _ _ _ _ _) ⟨wV_X12_isPrefix, wL_X12_isPrefix⟩ wM_X12_92 (gCX12 _ _ _ _ _) rfl (lt_t rfl) rfl ⟨le_t rfl, le_t rfl⟩ ⟨le_t rfl, le_t rfl⟩ rfl (le_t rfl) (fun _ _ h => h)
    refine sC.of rfl (by decide) (le_t rfl) ?_
    refine sv_iload_n (pc := 0) dX12_isPrefix_0 rfl rfl ?_
    refine sv_iconst (pc := 1) (v := 0) dX12_isPrefix_1 (by decide) ?_
    refine sv_aload_n (pc := 2) dX12_isPrefix_2 rfl rfl ?_
    refine sw_getfield (pc := 3) dX12_isPrefix_3 (gCX12 _ _ _ _ _) 2 (by decide) wF_X12_15 rfl rfl rfl ?_
    refine sv_iconst (pc := 6) (v := 1) dX12_isPrefix_6 (by decide) ?_
    refine sw_isub (pc := 7) (v := (-1)) dX12_isPrefix_7 (by decide) ?_
    refine sv_callS (pc := 8) (M' := mX12_in) (d' := 18) (C' := 0) (S' := 0) (av := [.int x1, .int 0, .int (-1)]) ?_ (gOk _ _ _ _ _) dX12_isPrefix_8 (tX12_in _ _ _ _ _) wS_X12_in wM_X12_18 ⟨le_t rfl, le_t rfl⟩ ⟨le_t rfl, le_t rfl⟩ rfl (le_t rfl) (fun _ _ h => h)
    refine sC.of rfl (by decide) (le_t rfl) ?_
    refine sv_iload_n (pc := 0) dX12_in_0 rfl rfl ?_
    refine sv_iload_n (pc := 1) dX12_in_1 rfl rfl ?_
    refine sv_icmp_lt (pc := 2) (tgt := 14) dX12_in_2 (by decide) (fun _ => ?_) (fun h => absurd h_1 h)
    refine sv_iconst (pc := 14) (v := 0) dX12_in_14 (by decide) ?_
    refine sv_zret (pc := 15) dX12_in_15 rfl (by decide) (le_t rfl) (le_t rfl) ?_
    refine sv_zret (pc := 11) dX12_isPrefix_11 rfl (by decide) (le_t rfl) (le_t rfl) ?_
    refine sv_if_eq (pc := 5) (tgt := 40) dX12_route_5 (by decide) (fun _ => ?_) (fun h => absurd (by decide) h)
    refine sv_iconst (pc := 40) (v := (-1)) dX12_route_40 (by decide) ?_
    refine sv_iret (pc := 41) dX12_route_41 rfl (le_t rfl) (le_t rfl) ?_
    refine sv_icmp_eq (pc := 857) (tgt := 1799) dL_law_857 (by decide) (fun _ => ?_) (fun h => absurd (by decide) h)
    exact kk _ _ _ (le_t rfl) (le_t rfl)
  refine sv_iload_n (pc := 4) dX11_isPrefix_4 rfl rfl ?_
  refine sv_aload_n (pc := 5) dX11_isPrefix_5 rfl rfl ?_
  refine sw_getfield (pc := 6) dX11_isPrefix_6 (gCX11 _ _ _ _ _) 3 (by decide) wF_X11_26 rfl rfl rfl ?_
  refine sw_getfield (pc := 9) dX11_isPrefix_9 (gCX10 _ _ _ _ _) 14 (by decide) wF_X11_92 rfl rfl rfl ?_
  refine sv_icmp_ge (pc := 12) (tgt := 19) dX11_isPrefix_12 (by decide) (fun _ => ?_) (fun h => False.elim (by have a0 := Int32.le_iff_toInt_le.mp (Int32.not_lt.mp h_1); have a1 := Int32.lt_iff_toInt_lt.mp (Int32.not_le.mp h); have e0 : (0 : Int32).toInt = 0 := (by decide); omega))
  refine sv_iconst (pc := 19) (v := 0) dX11_isPrefix_19 (by decide) ?_
  refine sv_zret (pc := 20) dX11_isPrefix_20 rfl (by decide) (le_t rfl) (le_t rfl) ?_
  refine sv_if_eq (pc := 5) (tgt := 19) dX11_route_5 (by decide) (fun _ => ?_) (fun h => absurd (by decide) h)
  refine sv_iconst (pc := 19) (v := (-1)) dX11_route_19 (by decide) ?_
  refine sv_iret (pc := 20) dX11_route_20 rfl (le_t rfl) (le_t rfl) ?_
  refine sv_aload_n (pc := 833) dL_law_833 rfl rfl ?_
  refine sv_aload_nS (pc := 834) dL_law_834 rfl rfl ?_
  refine sv_iload_n (pc := 835) dL_law_835 rfl rfl ?_
  refine sv_iconst (pc := 836) (v := 1) dL_law_836 (by decide) ?_
  refine sw_iadd (pc := 837) (v := 1) dL_law_837 (by decide) ?_
  refine sw_sld (pc := 838) (v := x1) dL_law_838 (k := 1) (by decide) (by decide) rfl hx1 ?_
  refine sv_aload_nS (pc := 839) dL_law_839 rfl rfl ?_
  refine sv_iload_n (pc := 840) dL_law_840 rfl rfl ?_
  refine sv_iconst (pc := 841) (v := 2) dL_law_841 (by decide) ?_
  refine sw_iadd (pc := 842) (v := 2) dL_law_842 (by decide) ?_
  refine sw_sld (pc := 843) (v := x2) dL_law_843 (k := 2) (by decide) (by decide) rfl hx2 ?_
  refine sv_aload_nS (pc := 844) dL_law_844 rfl rfl ?_
  refine sv_iload_n (pc := 845) dL_law_845 rfl rfl ?_
  refine sv_iconst (pc := 846) (v := 3) dL_law_846 (by decide) ?_
  refine sw_iadd (pc := 847) (v := 3) dL_law_847 (by decide) ?_
  refine sw_sld (pc := 848) (v := x3) dL_law_848 (k := 3) (by decide) (by decide) rfl hx3 ?_
  refine sv_aload_nS (pc := 849) dL_law_849 rfl rfl ?_
  refine sv_iload_n (pc := 850) dL_law_850 rfl rfl ?_
  refine sv_iconst (pc := 851) (v := 4) dL_law_851 (by decide) ?_
  refine sw_iadd (pc := 852) (v := 4) dL_law_852 (by decide) ?_
  refine sw_sld (pc := 853) (v := x4) dL_law_853 (k := 4) (by decide) (by decide) rfl hx4 ?_
  refine sv_callV (pc := 854) (M' := mX12_route) (d' := 20) (C' := 0) (S' := 0) (av := [.int x1, .int x2, .int x3, .int x4]) ?_ (gOk _ _ _ _ _) dL_law_854 (tX12_route _ _ _ _ _) ⟨wV_X12_route, wL_X12_route⟩ wM_DomainHouseLaw_92 (gCX12 _ _ _ _ _) rfl (lt_t rfl) rfl ⟨le_t rfl, le_t rfl⟩ ⟨le_t rfl, le_t rfl⟩ rfl (le_t rfl) (fun _ _ h => h)
  refine sC.of rfl (by decide) (le_t rfl) ?_
  refine sv_aload_n (pc := 0) dX12_route_0 rfl rfl ?_
  refine sv_iload_n (pc := 1) dX12_route_1 rfl rfl ?_
  refine sv_callV (pc := 2) (M' := mX12_isPrefix) (d' := 19) (C' := 0) (S' := 0) (av := [.int x1]) ?_ (gOk _ _ _ _ _) dX12_route_2 (tX12_isPrefix _ _ _ _ _) ⟨wV_X12_isPrefix, wL_X12_isPrefix⟩ wM_X12_92 (gCX12 _ _ _ _ _) rfl (lt_t rfl) rfl ⟨le_t rfl, le_t rfl⟩ ⟨le_t rfl, le_t rfl⟩ rfl (le_t rfl) (fun _ _ h => h)
  refine sC.of rfl (by decide) (le_t rfl) ?_
  refine sv_iload_n (pc := 0) dX12_isPrefix_0 rfl rfl ?_
  refine sv_iconst (pc := 1) (v := 0) dX12_isPrefix_1 (by decide) ?_
  refine sv_aload_n (pc := 2) dX12_isPrefix_2 rfl rfl ?_
  refine sw_getfield (pc := 3) dX12_isPrefix_3 (gCX12 _ _ _ _ _) 2 (by decide) wF_X12_15 rfl rfl rfl ?_
  refine sv_iconst (pc := 6) (v := 1) dX12_isPrefix_6 (by decide) ?_
  refine sw_isub (pc := 7) (v := (-1)) dX12_isPrefix_7 (by decide) ?_
  refine sv_callS (pc := 8) (M' := mX12_in) (d' := 18) (C' := 0) (S' := 0) (av := [.int x1, .int 0, .int (-1)]) ?_ (gOk _ _ _ _ _) dX12_isPrefix_8 (tX12_in _ _ _ _ _) wS_X12_in wM_X12_18 ⟨le_t rfl, le_t rfl⟩ ⟨le_t rfl, le_t rfl⟩ rfl (le_t rfl) (fun _ _ h => h)
  refine sC.of rfl (by decide) (le_t rfl) ?_
  refine sv_iload_n (pc := 0) dX12_in_0 rfl rfl ?_
  refine sv_iload_n (pc := 1) dX12_in_1 rfl rfl ?_
  refine sv_icmp_lt (pc := 2) (tgt := 14) dX12_in_2 (by decide) (fun h => absurd h h_1) (fun _ => ?_)
  refine sv_iload_n (pc := 5) dX12_in_5 rfl rfl ?_
  refine sv_iload_n (pc := 6) dX12_in_6 rfl rfl ?_
  refine sv_icmp_gt (pc := 7) (tgt := 14) dX12_in_7 (by decide) (fun _ => ?_) (fun h => False.elim (by have a0 := Int32.le_iff_toInt_le.mp (Int32.not_lt.mp h_1); have a1 := Int32.le_iff_toInt_le.mp (Int32.not_lt.mp h); have e0 : (-1 : Int32).toInt = -1 := (by decide); have e1 : (0 : Int32).toInt = 0 := (by decide); omega))
  refine sv_iconst (pc := 14) (v := 0) dX12_in_14 (by decide) ?_
  refine sv_zret (pc := 15) dX12_in_15 rfl (by decide) (le_t rfl) (le_t rfl) ?_
  refine sv_zret (pc := 11) dX12_isPrefix_11 rfl (by decide) (le_t rfl) (le_t rfl) ?_
  refine sv_if_eq (pc := 5) (tgt := 40) dX12_route_5 (by decide) (fun _ => ?_) (fun h => absurd (by decide) h)
  refine sv_iconst (pc := 40) (v := (-1)) dX12_route_40 (by decide) ?_
  refine sv_iret (pc := 41) dX12_route_41 rfl (le_t rfl) (le_t rfl) ?_
  refine sv_icmp_eq (pc := 857) (tgt := 1799) dL_law_857 (by decide) (fun _ => ?_) (fun h => absurd (by decide) h)
  exact kk _ _ _ (le_t rfl) (le_t rfl)
set_option maxHeartbeats 40000000 in
set_option maxRecDepth 100000 in
theorem op_18 (l : Launch) (D : va_G) (c : Nat → ClassId) (H0 : Heap) (b : Nat) (xs : Nat → Int32) (Z : sZT) (x1 x2 x3 x4 x5 x6 : Int32) (hx1 : xs 1 = x1) (hx2 : xs 2 = x2) (hx3 : xs 3 = x3) (hx4 : xs 4 = x4) (hx5 : xs 5 = x5) (hx6 : xs 6 = x6) (kk : ∀ (hp : sHp) (ce sl : Nat), ce ≤ 600000 → sl ≤ 7302250 → sV (gG l D c H0 (b, 7, xs)) mL room_1 Z 1799 [(3, .int 0), (2, .ref 106), (1, .ref 0), (0, .retAddr 0)] [] hp ce sl) : sV (gG l D c H0 (b, 7, xs)) mL room_1 Z 862 [(3, .int 0), (2, .ref 106), (1, .ref 0), (0, .retAddr 0)] [] (192, tF) 192 297215 := by
  refine sv_aload_n (pc := 862) dL_law_862 rfl rfl ?_
  refine sv_aload_nS (pc := 863) dL_law_863 rfl rfl ?_
  refine sv_iload_n (pc := 864) dL_law_864 rfl rfl ?_
  refine sv_iconst (pc := 865) (v := 1) dL_law_865 (by decide) ?_
  refine sw_iadd (pc := 866) (v := 1) dL_law_866 (by decide) ?_
  refine sw_sld (pc := 867) (v := x1) dL_law_867 (k := 1) (by decide) (by decide) rfl hx1 ?_
  refine sv_aload_nS (pc := 868) dL_law_868 rfl rfl ?_
  refine sv_iload_n (pc := 869) dL_law_869 rfl rfl ?_
  refine sv_iconst (pc := 870) (v := 2) dL_law_870 (by decide) ?_
  refine sw_iadd (pc := 871) (v := 2) dL_law_871 (by decide) ?_
  refine sw_sld (pc := 872) (v := x2) dL_law_872 (k := 2) (by decide) (by decide) rfl hx2 ?_
  refine sv_aload_nS (pc := 873) dL_law_873 rfl rfl ?_
  refine sv_iload_n (pc := 874) dL_law_874 rfl rfl ?_
  refine sv_iconst (pc := 875) (v := 3) dL_law_875 (by decide) ?_
  refine sw_iadd (pc := 876) (v := 3) dL_law_876 (by decide) ?_
  refine sw_sld (pc := 877) (v := x3) dL_law_877 (k := 3) (by decide) (by decide) rfl hx3 ?_
  refine sv_callV (pc := 878) (M' := mX11_judge) (d' := 20) (C' := 0) (S' := 0) (av := [.int x1, .int x2, .int x3]) ?_ (gOk _ _ _ _ _) dL_law_878 (tX11_judge _ _ _ _ _) ⟨wV_X11_judge, wL_X11_judge⟩ wM_DomainHouseLaw_93 (gCX11 _ _ _ _ _) rfl (lt_t rfl) rfl ⟨le_t rfl, le_t rfl⟩ ⟨le_t rfl, le_t rfl⟩ rfl (le_t rfl) (fun _ _ h => h)
  refine sC.of rfl (by decide) (le_t rfl) ?_
  refine sv_iload_n (pc := 0) dX11_judge_0 rfl rfl ?_
  refine sv_if_lt (pc := 1) (tgt := 31) dX11_judge_1 (by decide) (fun h_1 => ?_) (fun h_1 => ?_)
  · refine sv_iconst (pc := 31) (v := (-1)) dX11_judge_31 (by decide) ?_
    refine sv_iret (pc := 32) dX11_judge_32 rfl (le_t rfl) (le_t rfl) ?_
    refine sv_aload_n (pc := 881) dL_law_881 rfl rfl ?_
    refine sv_aload_nS (pc := 882) dL_law_882 rfl rfl ?_
    refine sv_iload_n (pc := 883) dL_law_883 rfl rfl ?_
    refine sv_iconst (pc := 884) (v := 1) dL_law_884 (by decide) ?_
    refine sw_iadd (pc := 885) (v := 1) dL_law_885 (by decide) ?_
    refine sw_sld (pc := 886) (v := x1) dL_law_886 (k := 1) (by decide) (by decide) rfl hx1 ?_
    refine sv_aload_nS (pc := 887) dL_law_887 rfl rfl ?_
    refine sv_iload_n (pc := 888) dL_law_888 rfl rfl ?_
    refine sv_iconst (pc := 889) (v := 2) dL_law_889 (by decide) ?_
    refine sw_iadd (pc := 890) (v := 2) dL_law_890 (by decide) ?_
    refine sw_sld (pc := 891) (v := x2) dL_law_891 (k := 2) (by decide) (by decide) rfl hx2 ?_
    refine sv_aload_nS (pc := 892) dL_law_892 rfl rfl ?_
    refine sv_iload_n (pc := 893) dL_law_893 rfl rfl ?_
    refine sv_iconst (pc := 894) (v := 3) dL_law_894 (by decide) ?_
    refine sw_iadd (pc := 895) (v := 3) dL_law_895 (by decide) ?_
    refine sw_sld (pc := 896) (v := x3) dL_law_896 (k := 3) (by decide) (by decide) rfl hx3 ?_
    refine sv_callV (pc := 897) (M' := mX12_judge) (d' := 20) (C' := 0) (S' := 0) (av := [.int x1, .int x2, .int x3]) ?_ (gOk _ _ _ _ _) dL_law_897 (tX12_judge _ _ _ _ _) ⟨wV_X12_judge, wL_X12_judge⟩ wM_DomainHouseLaw_96 (gCX12 _ _ _ _ _) rfl (lt_t rfl) rfl ⟨le_t rfl, le_t rfl⟩ ⟨le_t rfl, le_t rfl⟩ rfl (le_t rfl) (fun _ _ h => h)
    refine sC.of rfl (by decide) (le_t rfl) ?_
    refine sv_iload_n (pc := 0) dX12_judge_0 rfl rfl ?_
    refine sv_iconst (pc := 1) (v := 0) dX12_judge_1 (by decide) ?_
    refine sv_aload_n (pc := 2) dX12_judge_2 rfl rfl ?_
    refine sw_getfield (pc := 3) dX12_judge_3 (gCX12 _ _ _ _ _) 39 (by decide) wF_X12_355 rfl rfl rfl ?_
    refine sv_iconst (pc := 6) (v := 1) dX12_judge_6 (by decide) ?_
    refine sw_isub (pc := 7) (v := (-1)) dX12_judge_7 (by decide) ?_
    refine sv_callS (pc := 8) (M' := mX12_in) (d' := 19) (C' := 0) (S' := 0) (av := [.int x1, .int 0, .int (-1)]) ?_ (gOk _ _ _ _ _) dX12_judge_8 (tX12_in _ _ _ _ _) wS_X12_in wM_X12_18 ⟨le_t rfl, le_t rfl⟩ ⟨le_t rfl, le_t rfl⟩ rfl (le_t rfl) (fun _ _ h => h)
    refine sC.of rfl (by decide) (le_t rfl) ?_
    refine sv_iload_n (pc := 0) dX12_in_0 rfl rfl ?_
    refine sv_iload_n (pc := 1) dX12_in_1 rfl rfl ?_
    refine sv_icmp_lt (pc := 2) (tgt := 14) dX12_in_2 (by decide) (fun _ => ?_) (fun h => absurd h_1 h)
    refine sv_iconst (pc := 14) (v := 0) dX12_in_14 (by decide) ?_
    refine sv_zret (pc := 15) dX12_in_15 rfl (by decide) (le_t rfl) (le_t rfl) ?_
    refine sv_if_eq (pc := 11) (tgt := 41) dX12_judge_11 (by decide) (fun _ => ?_) (fun h => absurd (by decide) h)
    refine sv_iconst (pc := 41) (v := (-1)) dX12_judge_41 (by decide) ?_
    refine sv_iret (pc := 42) dX12_judge_42 rfl (le_t rfl) (le_t rfl) ?_
    refine sv_icmp_eq (pc := 900) (tgt := 1799) dL_law_900 (by decide) (fun _ => ?_) (fun h => absurd (by decide) h)
    exact kk _ _ _ (le_t rfl) (le_t rfl)
  refine sv_iload_n (pc := 4) dX11_judge_4 rfl rfl ?_
  refine sv_aload_n (pc := 5) dX11_judge_5 rfl rfl ?_
  refine sw_getfield (pc := 6) dX11_judge_6 (gCX11 _ _ _ _ _) 4 (by decide) wF_X11_35 rfl rfl rfl ?_
  refine sw_getfield (pc := 9) dX11_judge_9 (gCX1 _ _ _ _ _) 8 (by decide) wF_X11_205 rfl rfl rfl ?_
  refine sv_icmp_ge (pc := 12) (tgt := 31) dX11_judge_12 (by decide) (fun _ => ?_) (fun h => False.elim (by have a0 := Int32.le_iff_toInt_le.mp (Int32.not_lt.mp h_1); have a1 := Int32.lt_iff_toInt_lt.mp (Int32.not_le.mp h); have e0 : (0 : Int32).toInt = 0 := (by decide); omega))
  refine sv_iconst (pc := 31) (v := (-1)) dX11_judge_31 (by decide) ?_
  refine sv_iret (pc := 32) dX11_judge_32 rfl (le_t rfl) (le_t rfl) ?_
  refine sv_aload_n (pc := 881) dL_law_881 rfl rfl ?_
  refine sv_aload_nS (pc := 882) dL_law_882 rfl rfl ?_
  refine sv_iload_n (pc := 883) dL_law_883 rfl rfl ?_
  refine sv_iconst (pc := 884) (v := 1) dL_law_884 (by decide) ?_
  refine sw_iadd (pc := 885) (v := 1) dL_law_885 (by decide) ?_
  refine sw_sld (pc := 886) (v := x1) dL_law_886 (k := 1) (by decide) (by decide) rfl hx1 ?_
  refine sv_aload_nS (pc := 887) dL_law_887 rfl rfl ?_
  refine sv_iload_n (pc := 888) dL_law_888 rfl rfl ?_
  refine sv_iconst (pc := 889) (v := 2) dL_law_889 (by decide) ?_
  refine sw_iadd (pc := 890) (v := 2) dL_law_890 (by decide) ?_
  refine sw_sld (pc := 891) (v := x2) dL_law_891 (k := 2) (by decide) (by decide) rfl hx2 ?_
  refine sv_aload_nS (pc := 892) dL_law_892 rfl rfl ?_
  refine sv_iload_n (pc := 893) dL_law_893 rfl rfl ?_
  refine sv_iconst (pc := 894) (v := 3) dL_law_894 (by decide) ?_
  refine sw_iadd (pc := 895) (v := 3) dL_law_895 (by decide) ?_
  refine sw_sld (pc := 896) (v := x3) dL_law_896 (k := 3) (by decide) (by decide) rfl hx3 ?_
  refine sv_callV (pc := 897) (M' := mX12_judge) (d' := 20) (C' := 0) (S' := 0) (av := [.int x1, .int x2, .int x3]) ?_ (gOk _ _ _ _ _) dL_law_897 (tX12_judge _ _ _ _ _) ⟨wV_X12_judge, wL_X12_judge⟩ wM_DomainHouseLaw_96 (gCX12 _ _ _ _ _) rfl (lt_t rfl) rfl ⟨le_t rfl, le_t rfl⟩ ⟨le_t rfl, le_t rfl⟩ rfl (le_t rfl) (fun _ _ h => h)
  refine sC.of rfl (by decide) (le_t rfl) ?_
  refine sv_iload_n (pc := 0) dX12_judge_0 rfl rfl ?_
  refine sv_iconst (pc := 1) (v := 0) dX12_judge_1 (by decide) ?_
  refine sv_aload_n (pc := 2) dX12_judge_2 rfl rfl ?_
  refine sw_getfield (pc := 3) dX12_judge_3 (gCX12 _ _ _ _ _) 39 (by decide) wF_X12_355 rfl rfl rfl ?_
  refine sv_iconst (pc := 6) (v := 1) dX12_judge_6 (by decide) ?_
  refine sw_isub (pc := 7) (v := (-1)) dX12_judge_7 (by decide) ?_
  refine sv_callS (pc := 8) (M' := mX12_in) (d' := 19) (C' := 0) (S' := 0) (av := [.int x1, .int 0, .int (-1)]) ?_ (gOk _ _ _ _ _) dX12_judge_8 (tX12_in _ _ _ _ _) wS_X12_in wM_X12_18 ⟨le_t rfl, le_t rfl⟩ ⟨le_t rfl, le_t rfl⟩ rfl (le_t rfl) (fun _ _ h => h)
  refine sC.of rfl (by decide) (le_t rfl) ?_
  refine sv_iload_n (pc := 0) dX12_in_0 rfl rfl ?_
  refine sv_iload_n (pc := 1) dX12_in_1 rfl rfl ?_
  refine sv_icmp_lt (pc := 2) (tgt := 14) dX12_in_2 (by decide) (fun h => absurd h h_1) (fun _ => ?_)
  refine sv_iload_n (pc := 5) dX12_in_5 rfl rfl ?_
  refine sv_iload_n (pc := 6) dX12_in_6 rfl rfl ?_
  refine sv_icmp_gt (pc := 7) (tgt := 14) dX12_in_7 (by decide) (fun _ => ?_) (fun h => False.elim (by have a0 := Int32.le_iff_toInt_le.mp (Int32.not_lt.mp h_1); have a1 := Int32.le_iff_toInt_le.mp (Int32.not_lt.mp h); have e0 : (-1 : Int32).toInt = -1 := (by decide); have e1 : (0 : Int32).toInt = 0 := (by decide); omega))
  refine sv_iconst (pc := 14) (v := 0) dX12_in_14 (by decide) ?_
  refine sv_zret (pc := 15) dX12_in_15 rfl (by decide) (le_t rfl) (le_t rfl) ?_
  refine sv_if_eq (pc := 11) (tgt := 41) dX12_judge_11 (by decide) (fun _ => ?_) (fun h => absurd (by decide) h)
  refine sv_iconst (pc := 41) (v := (-1)) dX12_judge_41 (by decide) ?_
  refine sv_iret (pc := 42) dX12_judge_42 rfl (le_t rfl) (le_t rfl) ?_
  refine sv_icmp_eq (pc := 900) (tgt := 1799) dL_law_900 (by decide) (fun _ => ?_) (fun h => absurd (by decide) h)
  exact kk _ _ _ (le_t rfl) (le_t rfl)
set_option maxHeartbeats 40000000 in
set_option maxRecDepth 100000 in
theorem op_19 (l : Launch) (D : va_G) (c : Nat → ClassId) (H0 : Heap) (b : Nat) (xs : Nat → Int32) (Z : sZT) (x1 x2 x3 x4 x5 x6 : Int32) (hx1 : xs 1 = x1) (hx2 : xs 2 = x2) (hx3 : xs 3 = x3) (hx4 : xs 4 = x4) (hx5 : xs 5 = x5) (hx6 : xs 6 = x6) (kk : ∀ (hp : sHp) (ce sl : Nat), ce ≤ 600000 → sl ≤ 7302250 → sV (gG l D c H0 (b, 7, xs)) mL room_1 Z 1799 [(3, .int 0), (2, .ref 106), (1, .ref 0), (0, .retAddr 0)] [] hp ce sl) : sV (gG l D c H0 (b, 7, xs)) mL room_1 Z 905 [(3, .int 0), (2, .ref 106), (1, .ref 0), (0, .retAddr 0)] [] (192, tF) 192 297215 := by
  refine sv_aload_n (pc := 905) dL_law_905 rfl rfl ?_
  refine sv_aload_nS (pc := 906) dL_law_906 rfl rfl ?_
  refine sv_iload_n (pc := 907) dL_law_907 rfl rfl ?_
  refine sv_iconst (pc := 908) (v := 1) dL_law_908 (by decide) ?_
  refine sw_iadd (pc := 909) (v := 1) dL_law_909 (by decide) ?_
  refine sw_sld (pc := 910) (v := x1) dL_law_910 (k := 1) (by decide) (by decide) rfl hx1 ?_
  refine sv_callV (pc := 911) (M' := mX11_hand) (d' := 20) (C' := 0) (S' := 0) (av := [.int x1]) ?_ (gOk _ _ _ _ _) dL_law_911 (tX11_hand _ _ _ _ _) ⟨wV_X11_hand, wL_X11_hand⟩ wM_DomainHouseLaw_97 (gCX11 _ _ _ _ _) rfl (lt_t rfl) rfl ⟨le_t rfl, le_t rfl⟩ ⟨le_t rfl, le_t rfl⟩ rfl (le_t rfl) (fun _ _ h => h)
  refine sC.of rfl (by decide) (le_t rfl) ?_
  refine sv_aload_n (pc := 0) dX11_hand_0 rfl rfl ?_
  refine sw_getfield (pc := 1) dX11_hand_1 (gCX11 _ _ _ _ _) 2 (by decide) wF_X11_19 rfl rfl rfl ?_
  refine sw_getfield (pc := 4) dX11_hand_4 (gCX7 _ _ _ _ _) 2 (by decide) wF_X11_246 rfl rfl rfl ?_
  refine sv_if_ne (pc := 7) (tgt := 13) dX11_hand_7 (by decide) (fun h => absurd (by decide) h) (fun _ => ?_)
  refine sv_ldc (pc := 10) dX11_hand_10 wG_X11_165 ?_
  refine sv_iret (pc := 12) dX11_hand_12 rfl (le_t rfl) (le_t rfl) ?_
  refine sv_aload_n (pc := 914) dL_law_914 rfl rfl ?_
  refine sv_aload_nS (pc := 915) dL_law_915 rfl rfl ?_
  refine sv_iload_n (pc := 916) dL_law_916 rfl rfl ?_
  refine sv_iconst (pc := 917) (v := 1) dL_law_917 (by decide) ?_
  refine sw_iadd (pc := 918) (v := 1) dL_law_918 (by decide) ?_
  refine sw_sld (pc := 919) (v := x1) dL_law_919 (k := 1) (by decide) (by decide) rfl hx1 ?_
  refine sv_callV (pc := 920) (M' := mX12_hand) (d' := 20) (C' := 0) (S' := 0) (av := [.int x1]) ?_ (gOk _ _ _ _ _) dL_law_920 (tX12_hand _ _ _ _ _) ⟨wV_X12_hand, wL_X12_hand⟩ wM_DomainHouseLaw_100 (gCX12 _ _ _ _ _) rfl (lt_t rfl) rfl ⟨le_t rfl, le_t rfl⟩ ⟨le_t rfl, le_t rfl⟩ rfl (le_t rfl) (fun _ _ h => h)
  refine sC.of rfl (by decide) (le_t rfl) ?_
  refine sv_aload_n (pc := 0) dX12_hand_0 rfl rfl ?_
  refine sw_getfield (pc := 1) dX12_hand_1 (gCX12 _ _ _ _ _) 70 (by decide) wF_X12_411 rfl rfl rfl ?_
  refine sv_if_eq (pc := 4) (tgt := 11) dX12_hand_4 (by decide) (fun _ => ?_) (fun h => absurd (by decide) h)
  refine sv_ldc (pc := 11) dX12_hand_11 wG_X12_29 ?_
  refine sv_iret (pc := 13) dX12_hand_13 rfl (le_t rfl) (le_t rfl) ?_
  refine sv_icmp_eq (pc := 923) (tgt := 1799) dL_law_923 (by decide) (fun _ => ?_) (fun h => absurd (by decide) h)
  exact kk _ _ _ (le_t rfl) (le_t rfl)
set_option maxHeartbeats 40000000 in
set_option maxRecDepth 100000 in
theorem op_20 (l : Launch) (D : va_G) (c : Nat → ClassId) (H0 : Heap) (b : Nat) (xs : Nat → Int32) (Z : sZT) (x1 x2 x3 x4 x5 x6 : Int32) (hx1 : xs 1 = x1) (hx2 : xs 2 = x2) (hx3 : xs 3 = x3) (hx4 : xs 4 = x4) (hx5 : xs 5 = x5) (hx6 : xs 6 = x6) (kk : ∀ (hp : sHp) (ce sl : Nat), ce ≤ 600000 → sl ≤ 7302250 → sV (gG l D c H0 (b, 7, xs)) mL room_1 Z 1799 [(3, .int 0), (2, .ref 106), (1, .ref 0), (0, .retAddr 0)] [] hp ce sl) : sV (gG l D c H0 (b, 7, xs)) mL room_1 Z 928 [(3, .int 0), (2, .ref 106), (1, .ref 0), (0, .retAddr 0)] [] (192, tF) 192 297215 := by
  refine sv_aload_n (pc := 928) dL_law_928 rfl rfl ?_
  refine sv_aload_nS (pc := 929) dL_law_929 rfl rfl ?_
  refine sv_iload_n (pc := 930) dL_law_930 rfl rfl ?_
  refine sv_iconst (pc := 931) (v := 1) dL_law_931 (by decide) ?_
  refine sw_iadd (pc := 932) (v := 1) dL_law_932 (by decide) ?_
  refine sw_sld (pc := 933) (v := x1) dL_law_933 (k := 1) (by decide) (by decide) rfl hx1 ?_
  refine sv_aload_nS (pc := 934) dL_law_934 rfl rfl ?_
  refine sv_iload_n (pc := 935) dL_law_935 rfl rfl ?_
  refine sv_iconst (pc := 936) (v := 2) dL_law_936 (by decide) ?_
  refine sw_iadd (pc := 937) (v := 2) dL_law_937 (by decide) ?_
  refine sw_sld (pc := 938) (v := x2) dL_law_938 (k := 2) (by decide) (by decide) rfl hx2 ?_
  refine sv_aload_nS (pc := 939) dL_law_939 rfl rfl ?_
  refine sv_iload_n (pc := 940) dL_law_940 rfl rfl ?_
  refine sv_iconst (pc := 941) (v := 3) dL_law_941 (by decide) ?_
  refine sw_iadd (pc := 942) (v := 3) dL_law_942 (by decide) ?_
  refine sw_sld (pc := 943) (v := x3) dL_law_943 (k := 3) (by decide) (by decide) rfl hx3 ?_
  refine sv_aload_nS (pc := 944) dL_law_944 rfl rfl ?_
  refine sv_iload_n (pc := 945) dL_law_945 rfl rfl ?_
  refine sv_iconst (pc := 946) (v := 4) dL_law_946 (by decide) ?_
  refine sw_iadd (pc := 947) (v := 4) dL_law_947 (by decide) ?_
  refine sw_sld (pc := 948) (v := x4) dL_law_948 (k := 4) (by decide) (by decide) rfl hx4 ?_
  refine sv_callV (pc := 949) (M' := mX11_use) (d' := 20) (C' := 0) (S' := 0) (av := [.int x1, .int x2, .int x3, .int x4]) ?_ (gOk _ _ _ _ _) dL_law_949 (tX11_use _ _ _ _ _) ⟨wV_X11_use, wL_X11_use⟩ wM_DomainHouseLaw_101 (gCX11 _ _ _ _ _) rfl (lt_t rfl) rfl ⟨le_t rfl, le_t rfl⟩ ⟨le_t rfl, le_t rfl⟩ rfl (le_t rfl) (fun _ _ h => h)
  refine sC.of rfl (by decide) (le_t rfl) ?_
  refine sv_aload_n (pc := 0) dX11_use_0 rfl rfl ?_
  refine sv_iload_n (pc := 1) dX11_use_1 rfl rfl ?_
  refine sv_callV (pc := 2) (M' := mX11_isTie) (d' := 19) (C' := 0) (S' := 0) (av := [.int x1]) ?_ (gOk _ _ _ _ _) dX11_use_2 (tX11_isTie _ _ _ _ _) ⟨wV_X11_isTie, wL_X11_isTie⟩ wM_X11_119 (gCX11 _ _ _ _ _) rfl (lt_t rfl) rfl ⟨le_t rfl, le_t rfl⟩ ⟨le_t rfl, le_t rfl⟩ rfl (le_t rfl) (fun _ _ h => h)
  refine sC.of rfl (by decide) (le_t rfl) ?_
  refine sv_iload_n (pc := 0) dX11_isTie_0 rfl rfl ?_
  refine sv_if_lt (pc := 1) (tgt := 19) dX11_isTie_1 (by decide) (fun h_1 => ?_) (fun h_1 => ?_)
  · refine sv_iconst (pc := 19) (v := 0) dX11_isTie_19 (by decide) ?_
    refine sv_zret (pc := 20) dX11_isTie_20 rfl (by decide) (le_t rfl) (le_t rfl) ?_
    refine sv_if_eq (pc := 5) (tgt := 22) dX11_use_5 (by decide) (fun _ => ?_) (fun h => absurd (by decide) h)
    refine sv_iconst (pc := 22) (v := (-1)) dX11_use_22 (by decide) ?_
    refine sv_iret (pc := 23) dX11_use_23 rfl (le_t rfl) (le_t rfl) ?_
    refine sv_aload_n (pc := 952) dL_law_952 rfl rfl ?_
    refine sv_aload_nS (pc := 953) dL_law_953 rfl rfl ?_
    refine sv_iload_n (pc := 954) dL_law_954 rfl rfl ?_
    refine sv_iconst (pc := 955) (v := 1) dL_law_955 (by decide) ?_
    refine sw_iadd (pc := 956) (v := 1) dL_law_956 (by decide) ?_
    refine sw_sld (pc := 957) (v := x1) dL_law_957 (k := 1) (by decide) (by decide) rfl hx1 ?_
    refine sv_aload_nS (pc := 958) dL_law_958 rfl rfl ?_
    refine sv_iload_n (pc := 959) dL_law_959 rfl rfl ?_
    refine sv_iconst (pc := 960) (v := 2) dL_law_960 (by decide) ?_
    refine sw_iadd (pc := 961) (v := 2) dL_law_961 (by decide) ?_
    refine sw_sld (pc := 962) (v := x2) dL_law_962 (k := 2) (by decide) (by decide) rfl hx2 ?_
    refine sv_aload_nS (pc := 963) dL_law_963 rfl rfl ?_
    refine sv_iload_n (pc := 964) dL_law_964 rfl rfl ?_
    refine sv_iconst (pc := 965) (v := 3) dL_law_965 (by decide) ?_
    refine sw_iadd (pc := 966) (v := 3) dL_law_966 (by decide) ?_
    refine sw_sld (pc := 967) (v := x3) dL_law_967 (k := 3) (by decide) (by decide) rfl hx3 ?_
    refine sv_aload_nS (pc := 968) dL_law_968 rfl rfl ?_
    refine sv_iload_n (pc := 969) dL_law_969 rfl rfl ?_
    refine sv_iconst (pc := 970) (v := 4) dL_law_970 (by decide) ?_
    refine sw_iadd (pc := 971) (v := 4) dL_law_971 (by decide) ?_
    refine sw_sld (pc := 972) (v := x4) dL_law_972 (k := 4) (by decide) (by decide) rfl hx4 ?_
    refine sv_callV (pc := 973) (M' := mX12_use) (d' := 20) (C' := 0) (S' := 0) (av := [.int x1, .int x2, .int x3, .int x4]) ?_ (gOk _ _ _ _ _) dL_law_973 (tX12_use _ _ _ _ _) ⟨wV_X12_use, wL_X12_use⟩ wM_DomainHouseLaw_104 (gCX12 _ _ _ _ _) rfl (lt_t rfl) rfl ⟨le_t rfl, le_t rfl⟩ ⟨le_t rfl, le_t rfl⟩ rfl (le_t rfl) (fun _ _ h => h)
    refine sC.of rfl (by decide) (le_t rfl) ?_
    refine sv_aload_n (pc := 0) dX12_use_0 rfl rfl ?_
    refine sv_iload_n (pc := 1) dX12_use_1 rfl rfl ?_
    refine sv_callV (pc := 2) (M' := mX12_isTie) (d' := 19) (C' := 0) (S' := 0) (av := [.int x1]) ?_ (gOk _ _ _ _ _) dX12_use_2 (tX12_isTie _ _ _ _ _) ⟨wV_X12_isTie, wL_X12_isTie⟩ wM_X12_66 (gCX12 _ _ _ _ _) rfl (lt_t rfl) rfl ⟨le_t rfl, le_t rfl⟩ ⟨le_t rfl, le_t rfl⟩ rfl (le_t rfl) (fun _ _ h => h)
    refine sC.of rfl (by decide) (le_t rfl) ?_
    refine sv_iload_n (pc := 0) dX12_isTie_0 rfl rfl ?_
    refine sv_iconst (pc := 1) (v := 0) dX12_isTie_1 (by decide) ?_
    refine sv_aload_n (pc := 2) dX12_isTie_2 rfl rfl ?_
    refine sw_getfield (pc := 3) dX12_isTie_3 (gCX12 _ _ _ _ _) 6 (by decide) wF_X12_37 rfl rfl rfl ?_
    refine sv_iconst (pc := 6) (v := 1) dX12_isTie_6 (by decide) ?_
    refine sw_isub (pc := 7) (v := (-1)) dX12_isTie_7 (by decide) ?_
    refine sv_callS (pc := 8) (M' := mX12_in) (d' := 18) (C' := 0) (S' := 0) (av := [.int x1, .int 0, .int (-1)]) ?_ (gOk _ _ _ _ _) dX12_isTie_8 (tX12_in _ _ _ _ _) wS_X12_in wM_X12_18 ⟨le_t rfl, le_t rfl⟩ ⟨le_t rfl, le_t rfl⟩ rfl (le_t rfl) (fun _ _ h => h)
    refine sC.of rfl (by decide) (le_t rfl) ?_
    refine sv_iload_n (pc := 0) dX12_in_0 rfl rfl ?_
    refine sv_iload_n (pc := 1) dX12_in_1 rfl rfl ?_
    refine sv_icmp_lt (pc := 2) (tgt := 14) dX12_in_2 (by decide) (fun _ => ?_) (fun h => absurd h_1 h)
    refine sv_iconst (pc := 14) (v := 0) dX12_in_14 (by decide) ?_
    refine sv_zret (pc := 15) dX12_in_15 rfl (by decide) (le_t rfl) (le_t rfl) ?_
    refine sv_zret (pc := 11) dX12_isTie_11 rfl (by decide) (le_t rfl) (le_t rfl) ?_
    refine sv_if_eq (pc := 5) (tgt := 48) dX12_use_5 (by decide) (fun _ => ?_) (fun h => absurd (by decide) h)
    refine sv_iconst (pc := 48) (v := (-1)) dX12_use_48 (by decide) ?_
    refine sv_iret (pc := 49) dX12_use_49 rfl (le_t rfl) (le_t rfl) ?_
    refine sv_icmp_eq (pc := 976) (tgt := 1799) dL_law_976 (by decide) (fun _ => ?_) (fun h => absurd (by decide) h)
    exact kk _ _ _ (le_t rfl) (le_t rfl)
  refine sv_iload_n (pc := 4) dX11_isTie_4 rfl rfl ?_
  refine sv_aload_n (pc := 5) dX11_isTie_5 rfl rfl ?_
  refine sw_getfield (pc := 6) dX11_isTie_6 (gCX11 _ _ _ _ _) 3 (by decide) wF_X11_26 rfl rfl rfl ?_
  refine sw_getfield (pc := 9) dX11_isTie_9 (gCX10 _ _ _ _ _) 16 (by decide) wF_X11_112 rfl rfl rfl ?_
  refine sv_icmp_ge (pc := 12) (tgt := 19) dX11_isTie_12 (by decide) (fun _ => ?_) (fun h => False.elim (by have a0 := Int32.le_iff_toInt_le.mp (Int32.not_lt.mp h_1); have a1 := Int32.lt_iff_toInt_lt.mp (Int32.not_le.mp h); have e0 : (0 : Int32).toInt = 0 := (by decide); omega))
  refine sv_iconst (pc := 19) (v := 0) dX11_isTie_19 (by decide) ?_
  refine sv_zret (pc := 20) dX11_isTie_20 rfl (by decide) (le_t rfl) (le_t rfl) ?_
  refine sv_if_eq (pc := 5) (tgt := 22) dX11_use_5 (by decide) (fun _ => ?_) (fun h => absurd (by decide) h)
  refine sv_iconst (pc := 22) (v := (-1)) dX11_use_22 (by decide) ?_
  refine sv_iret (pc := 23) dX11_use_23 rfl (le_t rfl) (le_t rfl) ?_
  refine sv_aload_n (pc := 952) dL_law_952 rfl rfl ?_
  refine sv_aload_nS (pc := 953) dL_law_953 rfl rfl ?_
  refine sv_iload_n (pc := 954) dL_law_954 rfl rfl ?_
  refine sv_iconst (pc := 955) (v := 1) dL_law_955 (by decide) ?_
  refine sw_iadd (pc := 956) (v := 1) dL_law_956 (by decide) ?_
  refine sw_sld (pc := 957) (v := x1) dL_law_957 (k := 1) (by decide) (by decide) rfl hx1 ?_
  refine sv_aload_nS (pc := 958) dL_law_958 rfl rfl ?_
  refine sv_iload_n (pc := 959) dL_law_959 rfl rfl ?_
  refine sv_iconst (pc := 960) (v := 2) dL_law_960 (by decide) ?_
  refine sw_iadd (pc := 961) (v := 2) dL_law_961 (by decide) ?_
  refine sw_sld (pc := 962) (v := x2) dL_law_962 (k := 2) (by decide) (by decide) rfl hx2 ?_
  refine sv_aload_nS (pc := 963) dL_law_963 rfl rfl ?_
  refine sv_iload_n (pc := 964) dL_law_964 rfl rfl ?_
  refine sv_iconst (pc := 965) (v := 3) dL_law_965 (by decide) ?_
  refine sw_iadd (pc := 966) (v := 3) dL_law_966 (by decide) ?_
  refine sw_sld (pc := 967) (v := x3) dL_law_967 (k := 3) (by decide) (by decide) rfl hx3 ?_
  refine sv_aload_nS (pc := 968) dL_law_968 rfl rfl ?_
  refine sv_iload_n (pc := 969) dL_law_969 rfl rfl ?_
  refine sv_iconst (pc := 970) (v := 4) dL_law_970 (by decide) ?_
  refine sw_iadd (pc := 971) (v := 4) dL_law_971 (by decide) ?_
  refine sw_sld (pc := 972) (v := x4) dL_law_972 (k := 4) (by decide) (by decide) rfl hx4 ?_
  refine sv_callV (pc := 973) (M' := mX12_use) (d' := 20) (C' := 0) (S' := 0) (av := [.int x1, .int x2, .int x3, .int x4]) ?_ (gOk _ _ _ _ _) dL_law_973 (tX12_use _ _ _ _ _) ⟨wV_X12_use, wL_X12_use⟩ wM_DomainHouseLaw_104 (gCX12 _ _ _ _ _) rfl (lt_t rfl) rfl ⟨le_t rfl, le_t rfl⟩ ⟨le_t rfl, le_t rfl⟩ rfl (le_t rfl) (fun _ _ h => h)
  refine sC.of rfl (by decide) (le_t rfl) ?_
  refine sv_aload_n (pc := 0) dX12_use_0 rfl rfl ?_
  refine sv_iload_n (pc := 1) dX12_use_1 rfl rfl ?_
  refine sv_callV (pc := 2) (M' := mX12_isTie) (d' := 19) (C' := 0) (S' := 0) (av := [.int x1]) ?_ (gOk _ _ _ _ _) dX12_use_2 (tX12_isTie _ _ _ _ _) ⟨wV_X12_isTie, wL_X12_isTie⟩ wM_X12_66 (gCX12 _ _ _ _ _) rfl (lt_t rfl) rfl ⟨le_t rfl, le_t rfl⟩ ⟨le_t rfl, le_t rfl⟩ rfl (le_t rfl) (fun _ _ h => h)
  refine sC.of rfl (by decide) (le_t rfl) ?_
  refine sv_iload_n (pc := 0) dX12_isTie_0 rfl rfl ?_
  refine sv_iconst (pc := 1) (v := 0) dX12_isTie_1 (by decide) ?_
  refine sv_aload_n (pc := 2) dX12_isTie_2 rfl rfl ?_
  refine sw_getfield (pc := 3) dX12_isTie_3 (gCX12 _ _ _ _ _) 6 (by decide) wF_X12_37 rfl rfl rfl ?_
  refine sv_iconst (pc := 6) (v := 1) dX12_isTie_6 (by decide) ?_
  refine sw_isub (pc := 7) (v := (-1)) dX12_isTie_7 (by decide) ?_
  refine sv_callS (pc := 8) (M' := mX12_in) (d' := 18) (C' := 0) (S' := 0) (av := [.int x1, .int 0, .int (-1)]) ?_ (gOk _ _ _ _ _) dX12_isTie_8 (tX12_in _ _ _ _ _) wS_X12_in wM_X12_18 ⟨le_t rfl, le_t rfl⟩ ⟨le_t rfl, le_t rfl⟩ rfl (le_t rfl) (fun _ _ h => h)
  refine sC.of rfl (by decide) (le_t rfl) ?_
  refine sv_iload_n (pc := 0) dX12_in_0 rfl rfl ?_
  refine sv_iload_n (pc := 1) dX12_in_1 rfl rfl ?_
  refine sv_icmp_lt (pc := 2) (tgt := 14) dX12_in_2 (by decide) (fun h => absurd h h_1) (fun _ => ?_)
  refine sv_iload_n (pc := 5) dX12_in_5 rfl rfl ?_
  refine sv_iload_n (pc := 6) dX12_in_6 rfl rfl ?_
  refine sv_icmp_gt (pc := 7) (tgt := 14) dX12_in_7 (by decide) (fun _ => ?_) (fun h => False.elim (by have a0 := Int32.le_iff_toInt_le.mp (Int32.not_lt.mp h_1); have a1 := Int32.le_iff_toInt_le.mp (Int32.not_lt.mp h); have e0 : (-1 : Int32).toInt = -1 := (by decide); have e1 : (0 : Int32).toInt = 0 := (by decide); omega))
  refine sv_iconst (pc := 14) (v := 0) dX12_in_14 (by decide) ?_
  refine sv_zret (pc := 15) dX12_in_15 rfl (by decide) (le_t rfl) (le_t rfl) ?_
  refine sv_zret (pc := 11) dX12_isTie_11 rfl (by decide) (le_t rfl) (le_t rfl) ?_
  refine sv_if_eq (pc := 5) (tgt := 48) dX12_use_5 (by decide) (fun _ => ?_) (fun h => absurd (by decide) h)
  refine sv_iconst (pc := 48) (v := (-1)) dX12_use_48 (by decide) ?_
  refine sv_iret (pc := 49) dX12_use_49 rfl (le_t rfl) (le_t rfl) ?_
  refine sv_icmp_eq (pc := 976) (tgt := 1799) dL_law_976 (by decide) (fun _ => ?_) (fun h => absurd (by decide) h)
  exact kk _ _ _ (le_t rfl) (le_t rfl)
set_option maxHeartbeats 40000000 in
set_option maxRecDepth 100000 in
theorem op_21 (l : Launch) (D : va_G) (c : Nat → ClassId) (H0 : Heap) (b : Nat) (xs : Nat → Int32) (Z : sZT) (x1 x2 x3 x4 x5 x6 : Int32) (hx1 : xs 1 = x1) (hx2 : xs 2 = x2) (hx3 : xs 3 = x3) (hx4 : xs 4 = x4) (hx5 : xs 5 = x5) (hx6 : xs 6 = x6) (kk : ∀ (hp : sHp) (ce sl : Nat), ce ≤ 600000 → sl ≤ 7302250 → sV (gG l D c H0 (b, 7, xs)) mL room_1 Z 1799 [(3, .int 0), (2, .ref 106), (1, .ref 0), (0, .retAddr 0)] [] hp ce sl) : sV (gG l D c H0 (b, 7, xs)) mL room_1 Z 981 [(3, .int 0), (2, .ref 106), (1, .ref 0), (0, .retAddr 0)] [] (192, tF) 192 297215 := by
  refine sv_aload_n (pc := 981) dL_law_981 rfl rfl ?_
  refine sv_aload_nS (pc := 982) dL_law_982 rfl rfl ?_
  refine sv_iload_n (pc := 983) dL_law_983 rfl rfl ?_
  refine sv_iconst (pc := 984) (v := 1) dL_law_984 (by decide) ?_
  refine sw_iadd (pc := 985) (v := 1) dL_law_985 (by decide) ?_
  refine sw_sld (pc := 986) (v := x1) dL_law_986 (k := 1) (by decide) (by decide) rfl hx1 ?_
  refine sv_aload_nS (pc := 987) dL_law_987 rfl rfl ?_
  refine sv_iload_n (pc := 988) dL_law_988 rfl rfl ?_
  refine sv_iconst (pc := 989) (v := 2) dL_law_989 (by decide) ?_
  refine sw_iadd (pc := 990) (v := 2) dL_law_990 (by decide) ?_
  refine sw_sld (pc := 991) (v := x2) dL_law_991 (k := 2) (by decide) (by decide) rfl hx2 ?_
  refine sv_aload_nS (pc := 992) dL_law_992 rfl rfl ?_
  refine sv_iload_n (pc := 993) dL_law_993 rfl rfl ?_
  refine sv_iconst (pc := 994) (v := 3) dL_law_994 (by decide) ?_
  refine sw_iadd (pc := 995) (v := 3) dL_law_995 (by decide) ?_
  refine sw_sld (pc := 996) (v := x3) dL_law_996 (k := 3) (by decide) (by decide) rfl hx3 ?_
  refine sv_if_eq (pc := 997) (tgt := 1004) dL_law_997 (by decide) (fun h_1 => ?_) (fun h_1 => ?_)
  · refine sv_iconst (pc := 1004) (v := 0) dL_law_1004 (by decide) ?_
    refine sv_callV (pc := 1005) (M' := mX11_rule) (d' := 20) (C' := 0) (S' := 0) (av := [.int x1, .int x2, .int 0]) ?_ (gOk _ _ _ _ _) dL_law_1005 (tX11_rule _ _ _ _ _) ⟨wV_X11_rule, wL_X11_rule⟩ wM_DomainHouseLaw_105 (gCX11 _ _ _ _ _) rfl (lt_t rfl) rfl ⟨le_t rfl, le_t rfl⟩ ⟨le_t rfl, le_t rfl⟩ rfl (le_t rfl) (fun _ _ h => h)
    refine sC.of rfl (by decide) (le_t rfl) ?_
    refine sv_aload_n (pc := 0) dX11_rule_0 rfl rfl ?_
    refine sv_iload_n (pc := 1) dX11_rule_1 rfl rfl ?_
    refine sv_callV (pc := 2) (M' := mX11_isDomain) (d' := 19) (C' := 0) (S' := 0) (av := [.int x1]) ?_ (gOk _ _ _ _ _) dX11_rule_2 (tX11_isDomain _ _ _ _ _) ⟨wV_X11_isDomain, wL_X11_isDomain⟩ wM_X11_105 (gCX11 _ _ _ _ _) rfl (lt_t rfl) rfl ⟨le_t rfl, le_t rfl⟩ ⟨le_t rfl, le_t rfl⟩ rfl (le_t rfl) (fun _ _ h => h)
    refine sC.of rfl (by decide) (le_t rfl) ?_
    refine sv_iload_n (pc := 0) dX11_isDomain_0 rfl rfl ?_
    refine sv_if_lt (pc := 1) (tgt := 19) dX11_isDomain_1 (by decide) (fun h_2 => ?_) (fun h_2 => ?_)
    · refine sv_iconst (pc := 19) (v := 0) dX11_isDomain_19 (by decide) ?_
      refine sv_zret (pc := 20) dX11_isDomain_20 rfl (by decide) (le_t rfl) (le_t rfl) ?_
      refine sv_if_eq (pc := 5) (tgt := 15) dX11_rule_5 (by decide) (fun _ => ?_) (fun h => absurd (by decide) h)
      refine sv_iconst (pc := 15) (v := (-1)) dX11_rule_15 (by decide) ?_
      refine sv_iret (pc := 16) dX11_rule_16 rfl (le_t rfl) (le_t rfl) ?_
      refine sv_aload_n (pc := 1008) dL_law_1008 rfl rfl ?_
      refine sv_aload_nS (pc := 1009) dL_law_1009 rfl rfl ?_
      refine sv_iload_n (pc := 1010) dL_law_1010 rfl rfl ?_
      refine sv_iconst (pc := 1011) (v := 1) dL_law_1011 (by decide) ?_
      refine sw_iadd (pc := 1012) (v := 1) dL_law_1012 (by decide) ?_
      refine sw_sld (pc := 1013) (v := x1) dL_law_1013 (k := 1) (by decide) (by decide) rfl hx1 ?_
      refine sv_aload_nS (pc := 1014) dL_law_1014 rfl rfl ?_
      refine sv_iload_n (pc := 1015) dL_law_1015 rfl rfl ?_
      refine sv_iconst (pc := 1016) (v := 2) dL_law_1016 (by decide) ?_
      refine sw_iadd (pc := 1017) (v := 2) dL_law_1017 (by decide) ?_
      refine sw_sld (pc := 1018) (v := x2) dL_law_1018 (k := 2) (by decide) (by decide) rfl hx2 ?_
      refine sv_aload_nS (pc := 1019) dL_law_1019 rfl rfl ?_
      refine sv_iload_n (pc := 1020) dL_law_1020 rfl rfl ?_
      refine sv_iconst (pc := 1021) (v := 3) dL_law_1021 (by decide) ?_
      refine sw_iadd (pc := 1022) (v := 3) dL_law_1022 (by decide) ?_
      refine sw_sld (pc := 1023) (v := x3) dL_law_1023 (k := 3) (by decide) (by decide) rfl hx3 ?_
      refine sv_if_eq (pc := 1024) (tgt := 1031) dL_law_1024 (by decide) (fun _ => ?_) (fun h => absurd h_1 h)
      refine sv_iconst (pc := 1031) (v := 0) dL_law_1031 (by decide) ?_
      refine sv_callV (pc := 1032) (M' := mX12_rule) (d' := 20) (C' := 0) (S' := 0) (av := [.int x1, .int x2, .int 0]) ?_ (gOk _ _ _ _ _) dL_law_1032 (tX12_rule _ _ _ _ _) ⟨wV_X12_rule, wL_X12_rule⟩ wM_DomainHouseLaw_109 (gCX12 _ _ _ _ _) rfl (lt_t rfl) rfl ⟨le_t rfl, le_t rfl⟩ ⟨le_t rfl, le_t rfl⟩ rfl (le_t rfl) (fun _ _ h => h)
      refine sC.of rfl (by decide) (le_t rfl) ?_
      refine sv_aload_n (pc := 0) dX12_rule_0 rfl rfl ?_
      refine sv_iload_n (pc := 1) dX12_rule_1 rfl rfl ?_
      refine sv_callV (pc := 2) (M' := mX12_isDomain) (d' := 19) (C' := 0) (S' := 0) (av := [.int x1]) ?_ (gOk _ _ _ _ _) dX12_rule_2 (tX12_isDomain _ _ _ _ _) ⟨wV_X12_isDomain, wL_X12_isDomain⟩ wM_X12_49 (gCX12 _ _ _ _ _) rfl (lt_t rfl) rfl ⟨le_t rfl, le_t rfl⟩ ⟨le_t rfl, le_t rfl⟩ rfl (le_t rfl) (fun _ _ h => h)
      refine sC.of rfl (by decide) (le_t rfl) ?_
      refine sv_iload_n (pc := 0) dX12_isDomain_0 rfl rfl ?_
      refine sv_iconst (pc := 1) (v := 0) dX12_isDomain_1 (by decide) ?_
      refine sv_aload_n (pc := 2) dX12_isDomain_2 rfl rfl ?_
      refine sw_getfield (pc := 3) dX12_isDomain_3 (gCX12 _ _ _ _ _) 5 (by decide) wF_X12_34 rfl rfl rfl ?_
      refine sv_iconst (pc := 6) (v := 1) dX12_isDomain_6 (by decide) ?_
      refine sw_isub (pc := 7) (v := (-1)) dX12_isDomain_7 (by decide) ?_
      refine sv_callS (pc := 8) (M' := mX12_in) (d' := 18) (C' := 0) (S' := 0) (av := [.int x1, .int 0, .int (-1)]) ?_ (gOk _ _ _ _ _) dX12_isDomain_8 (tX12_in _ _ _ _ _) wS_X12_in wM_X12_18 ⟨le_t rfl, le_t rfl⟩ ⟨le_t rfl, le_t rfl⟩ rfl (le_t rfl) (fun _ _ h => h)
      refine sC.of rfl (by decide) (le_t rfl) ?_
      refine sv_iload_n (pc := 0) dX12_in_0 rfl rfl ?_
      refine sv_iload_n (pc := 1) dX12_in_1 rfl rfl ?_
      refine sv_icmp_lt (pc := 2) (tgt := 14) dX12_in_2 (by decide) (fun _ => ?_) (fun h => absurd h_2 h)
      refine sv_iconst (pc := 14) (v := 0) dX12_in_14 (by decide) ?_
      refine sv_zret (pc := 15) dX12_in_15 rfl (by decide) (le_t rfl) (le_t rfl) ?_
      refine sv_zret (pc := 11) dX12_isDomain_11 rfl (by decide) (le_t rfl) (le_t rfl) ?_
      refine sv_if_eq (pc := 5) (tgt := 12) dX12_rule_5 (by decide) (fun _ => ?_) (fun h => absurd (by decide) h)
      refine sv_iconst (pc := 12) (v := (-1)) dX12_rule_12 (by decide) ?_
      refine sv_iret (pc := 13) dX12_rule_13 rfl (le_t rfl) (le_t rfl) ?_
      refine sv_icmp_eq (pc := 1035) (tgt := 1799) dL_law_1035 (by decide) (fun _ => ?_) (fun h => absurd (by decide) h)
      exact kk _ _ _ (le_t rfl) (le_t rfl)
    refine sv_iload_n (pc := 4) dX11_isDomain_4 rfl rfl ?_
    refine sv_aload_n (pc := 5) dX11_isDomain_5 rfl rfl ?_
    refine sw_getfield (pc := 6) dX11_isDomain_6 (gCX11 _ _ _ _ _) 3 (by decide) wF_X11_26 rfl rfl rfl ?_
    refine sw_getfield (pc := 9) dX11_isDomain_9 (gCX10 _ _ _ _ _) 15 (by decide) wF_X11_98 rfl rfl rfl ?_
    refine sv_icmp_ge (pc := 12) (tgt := 19) dX11_isDomain_12 (by decide) (fun _ => ?_) (fun h => False.elim (by have a0 := congrArg Int32.toInt h_1; have a1 := Int32.le_iff_toInt_le.mp (Int32.not_lt.mp h_2); have a2 := Int32.lt_iff_toInt_lt.mp (Int32.not_le.mp h); have e0 : (0 : Int32).toInt = 0 := (by decide); omega))
    refine sv_iconst (pc := 19) (v := 0) dX11_isDomain_19 (by decide) ?_
    refine sv_zret (pc := 20) dX11_isDomain_20 rfl (by decide) (le_t rfl) (le_t rfl) ?_
    refine sv_if_eq (pc := 5) (tgt := 15) dX11_rule_5 (by decide) (fun _ => ?_) (fun h => absurd (by decide) h)
    refine sv_iconst (pc := 15) (v := (-1)) dX11_rule_15 (by decide) ?_
    refine sv_iret (pc := 16) dX11_rule_16 rfl (le_t rfl) (le_t rfl) ?_
    refine sv_aload_n (pc := 1008) dL_law_1008 rfl rfl ?_
    refine sv_aload_nS (pc := 1009) dL_law_1009 rfl rfl ?_
    refine sv_iload_n (pc := 1010) dL_law_1010 rfl rfl ?_
    refine sv_iconst (pc := 1011) (v := 1) dL_law_1011 (by decide) ?_
    refine sw_iadd (pc := 1012) (v := 1) dL_law_1012 (by decide) ?_
    refine sw_sld (pc := 1013) (v := x1) dL_law_1013 (k := 1) (by decide) (by decide) rfl hx1 ?_
    refine sv_aload_nS (pc := 1014) dL_law_1014 rfl rfl ?_
    refine sv_iload_n (pc := 1015) dL_law_1015 rfl rfl ?_
    refine sv_iconst (pc := 1016) (v := 2) dL_law_1016 (by decide) ?_
    refine sw_iadd (pc := 1017) (v := 2) dL_law_1017 (by decide) ?_
    refine sw_sld (pc := 1018) (v := x2) dL_law_1018 (k := 2) (by decide) (by decide) rfl hx2 ?_
    refine sv_aload_nS (pc := 1019) dL_law_1019 rfl rfl ?_
    refine sv_iload_n (pc := 1020) dL_law_1020 rfl rfl ?_
    refine sv_iconst (pc := 1021) (v := 3) dL_law_1021 (by decide) ?_
    refine sw_iadd (pc := 1022) (v := 3) dL_law_1022 (by decide) ?_
    refine sw_sld (pc := 1023) (v := x3) dL_law_1023 (k := 3) (by decide) (by decide) rfl hx3 ?_
    refine sv_if_eq (pc := 1024) (tgt := 1031) dL_law_1024 (by decide) (fun _ => ?_) (fun h => absurd h_1 h)
    refine sv_iconst (pc := 1031) (v := 0) dL_law_1031 (by decide) ?_
    refine sv_callV (pc := 1032) (M' := mX12_rule) (d' := 20) (C' := 0) (S' := 0) (av := [.int x1, .int x2, .int 0]) ?_ (gOk _ _ _ _ _) dL_law_1032 (tX12_rule _ _ _ _ _) ⟨wV_X12_rule, wL_X12_rule⟩ wM_DomainHouseLaw_109 (gCX12 _ _ _ _ _) rfl (lt_t rfl) rfl ⟨le_t rfl, le_t rfl⟩ ⟨le_t rfl, le_t rfl⟩ rfl (le_t rfl) (fun _ _ h => h)
    refine sC.of rfl (by decide) (le_t rfl) ?_
    refine sv_aload_n (pc := 0) dX12_rule_0 rfl rfl ?_
    refine sv_iload_n (pc := 1) dX12_rule_1 rfl rfl ?_
    refine sv_callV (pc := 2) (M' := mX12_isDomain) (d' := 19) (C' := 0) (S' := 0) (av := [.int x1]) ?_ (gOk _ _ _ _ _) dX12_rule_2 (tX12_isDomain _ _ _ _ _) ⟨wV_X12_isDomain, wL_X12_isDomain⟩ wM_X12_49 (gCX12 _ _ _ _ _) rfl (lt_t rfl) rfl ⟨le_t rfl, le_t rfl⟩ ⟨le_t rfl, le_t rfl⟩ rfl (le_t rfl) (fun _ _ h => h)
    refine sC.of rfl (by decide) (le_t rfl) ?_
    refine sv_iload_n (pc := 0) dX12_isDomain_0 rfl rfl ?_
    refine sv_iconst (pc := 1) (v := 0) dX12_isDomain_1 (by decide) ?_
    refine sv_aload_n (pc := 2) dX12_isDomain_2 rfl rfl ?_
    refine sw_getfield (pc := 3) dX12_isDomain_3 (gCX12 _ _ _ _ _) 5 (by decide) wF_X12_34 rfl rfl rfl ?_
    refine sv_iconst (pc := 6) (v := 1) dX12_isDomain_6 (by decide) ?_
    refine sw_isub (pc := 7) (v := (-1)) dX12_isDomain_7 (by decide) ?_
    refine sv_callS (pc := 8) (M' := mX12_in) (d' := 18) (C' := 0) (S' := 0) (av := [.int x1, .int 0, .int (-1)]) ?_ (gOk _ _ _ _ _) dX12_isDomain_8 (tX12_in _ _ _ _ _) wS_X12_in wM_X12_18 ⟨le_t rfl, le_t rfl⟩ ⟨le_t rfl, le_t rfl⟩ rfl (le_t rfl) (fun _ _ h => h)
    refine sC.of rfl (by decide) (le_t rfl) ?_
    refine sv_iload_n (pc := 0) dX12_in_0 rfl rfl ?_
    refine sv_iload_n (pc := 1) dX12_in_1 rfl rfl ?_
    refine sv_icmp_lt (pc := 2) (tgt := 14) dX12_in_2 (by decide) (fun h => absurd h h_2) (fun _ => ?_)
    refine sv_iload_n (pc := 5) dX12_in_5 rfl rfl ?_
    refine sv_iload_n (pc := 6) dX12_in_6 rfl rfl ?_
    refine sv_icmp_gt (pc := 7) (tgt := 14) dX12_in_7 (by decide) (fun _ => ?_) (fun h => False.elim (by have a0 := congrArg Int32.toInt h_1; have a1 := Int32.le_iff_toInt_le.mp (Int32.not_lt.mp h_2); have a2 := Int32.le_iff_toInt_le.mp (Int32.not_lt.mp h); have e0 : (-1 : Int32).toInt = -1 := (by decide); have e1 : (0 : Int32).toInt = 0 := (by decide); omega))
    refine sv_iconst (pc := 14) (v := 0) dX12_in_14 (by decide) ?_
    refine sv_zret (pc := 15) dX12_in_15 rfl (by decide) (le_t rfl) (le_t rfl) ?_
    refine sv_zret (pc := 11) dX12_isDomain_11 rfl (by decide) (le_t rfl) (le_t rfl) ?_
    refine sv_if_eq (pc := 5) (tgt := 12) dX12_rule_5 (by decide) (fun _ => ?_) (fun h => absurd (by decide) h)
    refine sv_iconst (pc := 12) (v := (-1)) dX12_rule_12 (by decide) ?_
    refine sv_iret (pc := 13) dX12_rule_13 rfl (le_t rfl) (le_t rfl) ?_
    refine sv_icmp_eq (pc := 1035) (tgt := 1799) dL_law_1035 (by decide) (fun _ => ?_) (fun h => absurd (by decide) h)
    exact kk _ _ _ (le_t rfl) (le_t rfl)
  refine sv_iconst (pc := 1000) (v := 1) dL_law_1000 (by decide) ?_
  refine sv_goto (pc := 1001) (tgt := 1005) dL_law_1001 (by decide) ?_
  refine sv_callV (pc := 1005) (M' := mX11_rule) (d' := 20) (C' := 0) (S' := 0) (av := [.int x1, .int x2, .int 1]) ?_ (gOk _ _ _ _ _) dL_law_1005 (tX11_rule _ _ _ _ _) ⟨wV_X11_rule, wL_X11_rule⟩ wM_DomainHouseLaw_105 (gCX11 _ _ _ _ _) rfl (lt_t rfl) rfl ⟨le_t rfl, le_t rfl⟩ ⟨le_t rfl, le_t rfl⟩ rfl (le_t rfl) (fun _ _ h => h)
  refine sC.of rfl (by decide) (le_t rfl) ?_
  refine sv_aload_n (pc := 0) dX11_rule_0 rfl rfl ?_
  refine sv_iload_n (pc := 1) dX11_rule_1 rfl rfl ?_
  refine sv_callV (pc := 2) (M' := mX11_isDomain) (d' := 19) (C' := 0) (S' := 0) (av := [.int x1]) ?_ (gOk _ _ _ _ _) dX11_rule_2 (tX11_isDomain _ _ _ _ _) ⟨wV_X11_isDomain, wL_X11_isDomain⟩ wM_X11_105 (gCX11 _ _ _ _ _) rfl (lt_t rfl) rfl ⟨le_t rfl, le_t rfl⟩ ⟨le_t rfl, le_t rfl⟩ rfl (le_t rfl) (fun _ _ h => h)
  refine sC.of rfl (by decide) (le_t rfl) ?_
  refine sv_iload_n (pc := 0) dX11_isDomain_0 rfl rfl ?_
  refine sv_if_lt (pc := 1) (tgt := 19) dX11_isDomain_1 (by decide) (fun h_2 => ?_) (fun h_2 => ?_)
  · refine sv_iconst (pc := 19) (v := 0) dX11_isDomain_19 (by decide) ?_
    refine sv_zret (pc := 20) dX11_isDomain_20 rfl (by decide) (le_t rfl) (le_t rfl) ?_
    refine sv_if_eq (pc := 5) (tgt := 15) dX11_rule_5 (by decide) (fun _ => ?_) (fun h => absurd (by decide) h)
    refine sv_iconst (pc := 15) (v := (-1)) dX11_rule_15 (by decide) ?_
    refine sv_iret (pc := 16) dX11_rule_16 rfl (le_t rfl) (le_t rfl) ?_
    refine sv_aload_n (pc := 1008) dL_law_1008 rfl rfl ?_
    refine sv_aload_nS (pc := 1009) dL_law_1009 rfl rfl ?_
    refine sv_iload_n (pc := 1010) dL_law_1010 rfl rfl ?_
    refine sv_iconst (pc := 1011) (v := 1) dL_law_1011 (by decide) ?_
    refine sw_iadd (pc := 1012) (v := 1) dL_law_1012 (by decide) ?_
    refine sw_sld (pc := 1013) (v := x1) dL_law_1013 (k := 1) (by decide) (by decide) rfl hx1 ?_
    refine sv_aload_nS (pc := 1014) dL_law_1014 rfl rfl ?_
    refine sv_iload_n (pc := 1015) dL_law_1015 rfl rfl ?_
    refine sv_iconst (pc := 1016) (v := 2) dL_law_1016 (by decide) ?_
    refine sw_iadd (pc := 1017) (v := 2) dL_law_1017 (by decide) ?_
    refine sw_sld (pc := 1018) (v := x2) dL_law_1018 (k := 2) (by decide) (by decide) rfl hx2 ?_
    refine sv_aload_nS (pc := 1019) dL_law_1019 rfl rfl ?_
    refine sv_iload_n (pc := 1020) dL_law_1020 rfl rfl ?_
    refine sv_iconst (pc := 1021) (v := 3) dL_law_1021 (by decide) ?_
    refine sw_iadd (pc := 1022) (v := 3) dL_law_1022 (by decide) ?_
    refine sw_sld (pc := 1023) (v := x3) dL_law_1023 (k := 3) (by decide) (by decide) rfl hx3 ?_
    refine sv_if_eq (pc := 1024) (tgt := 1031) dL_law_1024 (by decide) (fun h => absurd h h_1) (fun _ => ?_)
    refine sv_iconst (pc := 1027) (v := 1) dL_law_1027 (by decide) ?_
    refine sv_goto (pc := 1028) (tgt := 1032) dL_law_1028 (by decide) ?_
    refine sv_callV (pc := 1032) (M' := mX12_rule) (d' := 20) (C' := 0) (S' := 0) (av := [.int x1, .int x2, .int 1]) ?_ (gOk _ _ _ _ _) dL_law_1032 (tX12_rule _ _ _ _ _) ⟨wV_X12_rule, wL_X12_rule⟩ wM_DomainHouseLaw_109 (gCX12 _ _ _ _ _) rfl (lt_t rfl) rfl ⟨le_t rfl, le_t rfl⟩ ⟨le_t rfl, le_t rfl⟩ rfl (le_t rfl) (fun _ _ h => h)
    refine sC.of rfl (by decide) (le_t rfl) ?_
    refine sv_aload_n (pc := 0) dX12_rule_0 rfl rfl ?_
    refine sv_iload_n (pc := 1) dX12_rule_1 rfl rfl ?_
    refine sv_callV (pc := 2) (M' := mX12_isDomain) (d' := 19) (C' := 0) (S' := 0) (av := [.int x1]) ?_ (gOk _ _ _ _ _) dX12_rule_2 (tX12_isDomain _ _ _ _ _) ⟨wV_X12_isDomain, wL_X12_isDomain⟩ wM_X12_49 (gCX12 _ _ _ _ _) rfl (lt_t rfl) rfl ⟨le_t rfl, le_t rfl⟩ ⟨le_t rfl, le_t rfl⟩ rfl (le_t rfl) (fun _ _ h => h)
    refine sC.of rfl (by decide) (le_t rfl) ?_
    refine sv_iload_n (pc := 0) dX12_isDomain_0 rfl rfl ?_
    refine sv_iconst (pc := 1) (v := 0) dX12_isDomain_1 (by decide) ?_
    refine sv_aload_n (pc := 2) dX12_isDomain_2 rfl rfl ?_
    refine sw_getfield (pc := 3) dX12_isDomain_3 (gCX12 _ _ _ _ _) 5 (by decide) wF_X12_34 rfl rfl rfl ?_
    refine sv_iconst (pc := 6) (v := 1) dX12_isDomain_6 (by decide) ?_
    refine sw_isub (pc := 7) (v := (-1)) dX12_isDomain_7 (by decide) ?_
    refine sv_callS (pc := 8) (M' := mX12_in) (d' := 18) (C' := 0) (S' := 0) (av := [.int x1, .int 0, .int (-1)]) ?_ (gOk _ _ _ _ _) dX12_isDomain_8 (tX12_in _ _ _ _ _) wS_X12_in wM_X12_18 ⟨le_t rfl, le_t rfl⟩ ⟨le_t rfl, le_t rfl⟩ rfl (le_t rfl) (fun _ _ h => h)
    refine sC.of rfl (by decide) (le_t rfl) ?_
    refine sv_iload_n (pc := 0) dX12_in_0 rfl rfl ?_
    refine sv_iload_n (pc := 1) dX12_in_1 rfl rfl ?_
    refine sv_icmp_lt (pc := 2) (tgt := 14) dX12_in_2 (by decide) (fun _ => ?_) (fun h => absurd h_2 h)
    refine sv_iconst (pc := 14) (v := 0) dX12_in_14 (by decide) ?_
    refine sv_zret (pc := 15) dX12_in_15 rfl (by decide) (le_t rfl) (le_t rfl) ?_
    refine sv_zret (pc := 11) dX12_isDomain_11 rfl (by decide) (le_t rfl) (le_t rfl) ?_
    refine sv_if_eq (pc := 5) (tgt := 12) dX12_rule_5 (by decide) (fun _ => ?_) (fun h => absurd (by decide) h)
    refine sv_iconst (pc := 12) (v := (-1)) dX12_rule_12 (by decide) ?_
    refine sv_iret (pc := 13) dX12_rule_13 rfl (le_t rfl) (le_t rfl) ?_
    refine sv_icmp_eq (pc := 1035) (tgt := 1799) dL_law_1035 (by decide) (fun _ => ?_) (fun h => absurd (by decide) h)
    exact kk _ _ _ (le_t rfl) (le_t rfl)
  refine sv_iload_n (pc := 4) dX11_isDomain_4 rfl rfl ?_
  refine sv_aload_n (pc := 5) dX11_isDomain_5 rfl rfl ?_
  refine sw_getfield (pc := 6) dX11_isDomain_6 (gCX11 _ _ _ _ _) 3 (by decide) wF_X11_26 rfl rfl rfl ?_
  refine sw_getfield (pc := 9) dX11_isDomain_9 (gCX10 _ _ _ _ _) 15 (by decide) wF_X11_98 rfl rfl rfl ?_
  refine sv_icmp_ge (pc := 12) (tgt := 19) dX11_isDomain_12 (by decide) (fun _ => ?_) (fun h => False.elim (by have a0 := sNe h_1; have a1 := Int32.le_iff_toInt_le.mp (Int32.not_lt.mp h_2); have a2 := Int32.lt_iff_toInt_lt.mp (Int32.not_le.mp h); have e0 : (0 : Int32).toInt = 0 := (by decide); omega))
  refine sv_iconst (pc := 19) (v := 0) dX11_isDomain_19 (by decide) ?_
  refine sv_zret (pc := 20) dX11_isDomain_20 rfl (by decide) (le_t rfl) (le_t rfl) ?_
  refine sv_if_eq (pc := 5) (tgt := 15) dX11_rule_5 (by decide) (fun _ => ?_) (fun h => absurd (by decide) h)
  refine sv_iconst (pc := 15) (v := (-1)) dX11_rule_15 (by decide) ?_
  refine sv_iret (pc := 16) dX11_rule_16 rfl (le_t rfl) (le_t rfl) ?_
  refine sv_aload_n (pc := 1008) dL_law_1008 rfl rfl ?_
  refine sv_aload_nS (pc := 1009) dL_law_1009 rfl rfl ?_
  refine sv_iload_n (pc := 1010) dL_law_1010 rfl rfl ?_
  refine sv_iconst (pc := 1011) (v := 1) dL_law_1011 (by decide) ?_
  refine sw_iadd (pc := 1012) (v := 1) dL_law_1012 (by decide) ?_
  refine sw_sld (pc := 1013) (v := x1) dL_law_1013 (k := 1) (by decide) (by decide) rfl hx1 ?_
  refine sv_aload_nS (pc := 1014) dL_law_1014 rfl rfl ?_
  refine sv_iload_n (pc := 1015) dL_law_1015 rfl rfl ?_
  refine sv_iconst (pc := 1016) (v := 2) dL_law_1016 (by decide) ?_
  refine sw_iadd (pc := 1017) (v := 2) dL_law_1017 (by decide) ?_
  refine sw_sld (pc := 1018) (v := x2) dL_law_1018 (k := 2) (by decide) (by decide) rfl hx2 ?_
  refine sv_aload_nS (pc := 1019) dL_law_1019 rfl rfl ?_
  refine sv_iload_n (pc := 1020) dL_law_1020 rfl rfl ?_
  refine sv_iconst (pc := 1021) (v := 3) dL_law_1021 (by decide) ?_
  refine sw_iadd (pc := 1022) (v := 3) dL_law_1022 (by decide) ?_
  refine sw_sld (pc := 1023) (v := x3) dL_law_1023 (k := 3) (by decide) (by decide) rfl hx3 ?_
  refine sv_if_eq (pc := 1024) (tgt := 1031) dL_law_1024 (by decide) (fun h => absurd h h_1) (fun _ => ?_)
  refine sv_iconst (pc := 1027) (v := 1) dL_law_1027 (by decide) ?_
  refine sv_goto (pc := 1028) (tgt := 1032) dL_law_1028 (by decide) ?_
  refine sv_callV (pc := 1032) (M' := mX12_rule) (d' := 20) (C' := 0) (S' := 0) (av := [.int x1, .int x2, .int 1]) ?_ (gOk _ _ _ _ _) dL_law_1032 (tX12_rule _ _ _ _ _) ⟨wV_X12_rule, wL_X12_rule⟩ wM_DomainHouseLaw_109 (gCX12 _ _ _ _ _) rfl (lt_t rfl) rfl ⟨le_t rfl, le_t rfl⟩ ⟨le_t rfl, le_t rfl⟩ rfl (le_t rfl) (fun _ _ h => h)
  refine sC.of rfl (by decide) (le_t rfl) ?_
  refine sv_aload_n (pc := 0) dX12_rule_0 rfl rfl ?_
  refine sv_iload_n (pc := 1) dX12_rule_1 rfl rfl ?_
  refine sv_callV (pc := 2) (M' := mX12_isDomain) (d' := 19) (C' := 0) (S' := 0) (av := [.int x1]) ?_ (gOk _ _ _ _ _) dX12_rule_2 (tX12_isDomain _ _ _ _ _) ⟨wV_X12_isDomain, wL_X12_isDomain⟩ wM_X12_49 (gCX12 _ _ _ _ _) rfl (lt_t rfl) rfl ⟨le_t rfl, le_t rfl⟩ ⟨le_t rfl, le_t rfl⟩ rfl (le_t rfl) (fun _ _ h => h)
  refine sC.of rfl (by decide) (le_t rfl) ?_
  refine sv_iload_n (pc := 0) dX12_isDomain_0 rfl rfl ?_
  refine sv_iconst (pc := 1) (v := 0) dX12_isDomain_1 (by decide) ?_
  refine sv_aload_n (pc := 2) dX12_isDomain_2 rfl rfl ?_
  refine sw_getfield (pc := 3) dX12_isDomain_3 (gCX12 _ _ _ _ _) 5 (by decide) wF_X12_34 rfl rfl rfl ?_
  refine sv_iconst (pc := 6) (v := 1) dX12_isDomain_6 (by decide) ?_
  refine sw_isub (pc := 7) (v := (-1)) dX12_isDomain_7 (by decide) ?_
  refine sv_callS (pc := 8) (M' := mX12_in) (d' := 18) (C' := 0) (S' := 0) (av := [.int x1, .int 0, .int (-1)]) ?_ (gOk _ _ _ _ _) dX12_isDomain_8 (tX12_in _ _ _ _ _) wS_X12_in wM_X12_18 ⟨le_t rfl, le_t rfl⟩ ⟨le_t rfl, le_t rfl⟩ rfl (le_t rfl) (fun _ _ h => h)
  refine sC.of rfl (by decide) (le_t rfl) ?_
  refine sv_iload_n (pc := 0) dX12_in_0 rfl rfl ?_
  refine sv_iload_n (pc := 1) dX12_in_1 rfl rfl ?_
  refine sv_icmp_lt (pc := 2) (tgt := 14) dX12_in_2 (by decide) (fun h => absurd h h_2) (fun _ => ?_)
  refine sv_iload_n (pc := 5) dX12_in_5 rfl rfl ?_
  refine sv_iload_n (pc := 6) dX12_in_6 rfl rfl ?_
  refine sv_icmp_gt (pc := 7) (tgt := 14) dX12_in_7 (by decide) (fun _ => ?_) (fun h => False.elim (by have a0 := sNe h_1; have a1 := Int32.le_iff_toInt_le.mp (Int32.not_lt.mp h_2); have a2 := Int32.le_iff_toInt_le.mp (Int32.not_lt.mp h); have e0 : (-1 : Int32).toInt = -1 := (by decide); have e1 : (0 : Int32).toInt = 0 := (by decide); omega))
  refine sv_iconst (pc := 14) (v := 0) dX12_in_14 (by decide) ?_
  refine sv_zret (pc := 15) dX12_in_15 rfl (by decide) (le_t rfl) (le_t rfl) ?_
  refine sv_zret (pc := 11) dX12_isDomain_11 rfl (by decide) (le_t rfl) (le_t rfl) ?_
  refine sv_if_eq (pc := 5) (tgt := 12) dX12_rule_5 (by decide) (fun _ => ?_) (fun h => absurd (by decide) h)
  refine sv_iconst (pc := 12) (v := (-1)) dX12_rule_12 (by decide) ?_
  refine sv_iret (pc := 13) dX12_rule_13 rfl (le_t rfl) (le_t rfl) ?_
  refine sv_icmp_eq (pc := 1035) (tgt := 1799) dL_law_1035 (by decide) (fun _ => ?_) (fun h => absurd (by decide) h)
  exact kk _ _ _ (le_t rfl) (le_t rfl)
set_option maxHeartbeats 40000000 in
set_option maxRecDepth 100000 in
theorem op_22 (l : Launch) (D : va_G) (c : Nat → ClassId) (H0 : Heap) (b : Nat) (xs : Nat → Int32) (Z : sZT) (x1 x2 x3 x4 x5 x6 : Int32) (hx1 : xs 1 = x1) (hx2 : xs 2 = x2) (hx3 : xs 3 = x3) (hx4 : xs 4 = x4) (hx5 : xs 5 = x5) (hx6 : xs 6 = x6) (kk : ∀ (hp : sHp) (ce sl : Nat), ce ≤ 600000 → sl ≤ 7302250 → sV (gG l D c H0 (b, 7, xs)) mL room_1 Z 1799 [(3, .int 0), (2, .ref 106), (1, .ref 0), (0, .retAddr 0)] [] hp ce sl) : sV (gG l D c H0 (b, 7, xs)) mL room_1 Z 1040 [(3, .int 0), (2, .ref 106), (1, .ref 0), (0, .retAddr 0)] [] (192, tF) 192 297215 := by
  refine sv_aload_n (pc := 1040) dL_law_1040 rfl rfl ?_
  refine sv_aload_nS (pc := 1041) dL_law_1041 rfl rfl ?_
  refine sv_iload_n (pc := 1042) dL_law_1042 rfl rfl ?_
  refine sv_iconst (pc := 1043) (v := 1) dL_law_1043 (by decide) ?_
  refine sw_iadd (pc := 1044) (v := 1) dL_law_1044 (by decide) ?_
  refine sw_sld (pc := 1045) (v := x1) dL_law_1045 (k := 1) (by decide) (by decide) rfl hx1 ?_
  refine sv_aload_nS (pc := 1046) dL_law_1046 rfl rfl ?_
  refine sv_iload_n (pc := 1047) dL_law_1047 rfl rfl ?_
  refine sv_iconst (pc := 1048) (v := 2) dL_law_1048 (by decide) ?_
  refine sw_iadd (pc := 1049) (v := 2) dL_law_1049 (by decide) ?_
  refine sw_sld (pc := 1050) (v := x2) dL_law_1050 (k := 2) (by decide) (by decide) rfl hx2 ?_
  refine sv_aload_nS (pc := 1051) dL_law_1051 rfl rfl ?_
  refine sv_iload_n (pc := 1052) dL_law_1052 rfl rfl ?_
  refine sv_iconst (pc := 1053) (v := 3) dL_law_1053 (by decide) ?_
  refine sw_iadd (pc := 1054) (v := 3) dL_law_1054 (by decide) ?_
  refine sw_sld (pc := 1055) (v := x3) dL_law_1055 (k := 3) (by decide) (by decide) rfl hx3 ?_
  refine sv_callV (pc := 1056) (M' := mX11_announce) (d' := 20) (C' := 0) (S' := 0) (av := [.int x1, .int x2, .int x3]) ?_ (gOk _ _ _ _ _) dL_law_1056 (tX11_announce _ _ _ _ _) ⟨wV_X11_announce, wL_X11_announce⟩ wM_DomainHouseLaw_110 (gCX11 _ _ _ _ _) rfl (lt_t rfl) rfl ⟨le_t rfl, le_t rfl⟩ ⟨le_t rfl, le_t rfl⟩ rfl (le_t rfl) (fun _ _ h => h)
  refine sC.of rfl (by decide) (le_t rfl) ?_
  refine sv_aload_n (pc := 0) dX11_announce_0 rfl rfl ?_
  refine sv_iload_n (pc := 1) dX11_announce_1 rfl rfl ?_
  refine sv_callV (pc := 2) (M' := mX11_isDomain) (d' := 19) (C' := 0) (S' := 0) (av := [.int x1]) ?_ (gOk _ _ _ _ _) dX11_announce_2 (tX11_isDomain _ _ _ _ _) ⟨wV_X11_isDomain, wL_X11_isDomain⟩ wM_X11_105 (gCX11 _ _ _ _ _) rfl (lt_t rfl) rfl ⟨le_t rfl, le_t rfl⟩ ⟨le_t rfl, le_t rfl⟩ rfl (le_t rfl) (fun _ _ h => h)
  refine sC.of rfl (by decide) (le_t rfl) ?_
  refine sv_iload_n (pc := 0) dX11_isDomain_0 rfl rfl ?_
  refine sv_if_lt (pc := 1) (tgt := 19) dX11_isDomain_1 (by decide) (fun h_1 => ?_) (fun h_1 => ?_)
  · refine sv_iconst (pc := 19) (v := 0) dX11_isDomain_19 (by decide) ?_
    refine sv_zret (pc := 20) dX11_isDomain_20 rfl (by decide) (le_t rfl) (le_t rfl) ?_
    refine sv_if_eq (pc := 5) (tgt := 25) dX11_announce_5 (by decide) (fun _ => ?_) (fun h => absurd (by decide) h)
    refine sv_iconst (pc := 25) (v := (-1)) dX11_announce_25 (by decide) ?_
    refine sv_iret (pc := 26) dX11_announce_26 rfl (le_t rfl) (le_t rfl) ?_
    refine sv_aload_n (pc := 1059) dL_law_1059 rfl rfl ?_
    refine sv_aload_nS (pc := 1060) dL_law_1060 rfl rfl ?_
    refine sv_iload_n (pc := 1061) dL_law_1061 rfl rfl ?_
    refine sv_iconst (pc := 1062) (v := 1) dL_law_1062 (by decide) ?_
    refine sw_iadd (pc := 1063) (v := 1) dL_law_1063 (by decide) ?_
    refine sw_sld (pc := 1064) (v := x1) dL_law_1064 (k := 1) (by decide) (by decide) rfl hx1 ?_
    refine sv_aload_nS (pc := 1065) dL_law_1065 rfl rfl ?_
    refine sv_iload_n (pc := 1066) dL_law_1066 rfl rfl ?_
    refine sv_iconst (pc := 1067) (v := 2) dL_law_1067 (by decide) ?_
    refine sw_iadd (pc := 1068) (v := 2) dL_law_1068 (by decide) ?_
    refine sw_sld (pc := 1069) (v := x2) dL_law_1069 (k := 2) (by decide) (by decide) rfl hx2 ?_
    refine sv_aload_nS (pc := 1070) dL_law_1070 rfl rfl ?_
    refine sv_iload_n (pc := 1071) dL_law_1071 rfl rfl ?_
    refine sv_iconst (pc := 1072) (v := 3) dL_law_1072 (by decide) ?_
    refine sw_iadd (pc := 1073) (v := 3) dL_law_1073 (by decide) ?_
    refine sw_sld (pc := 1074) (v := x3) dL_law_1074 (k := 3) (by decide) (by decide) rfl hx3 ?_
    refine sv_callV (pc := 1075) (M' := mX12_announce) (d' := 20) (C' := 0) (S' := 0) (av := [.int x1, .int x2, .int x3]) ?_ (gOk _ _ _ _ _) dL_law_1075 (tX12_announce _ _ _ _ _) ⟨wV_X12_announce, wL_X12_announce⟩ wM_DomainHouseLaw_113 (gCX12 _ _ _ _ _) rfl (lt_t rfl) rfl ⟨le_t rfl, le_t rfl⟩ ⟨le_t rfl, le_t rfl⟩ rfl (le_t rfl) (fun _ _ h => h)
    refine sC.of rfl (by decide) (le_t rfl) ?_
    refine sv_aload_n (pc := 0) dX12_announce_0 rfl rfl ?_
    refine sv_iload_n (pc := 1) dX12_announce_1 rfl rfl ?_
    refine sv_callV (pc := 2) (M' := mX12_isDomain) (d' := 19) (C' := 0) (S' := 0) (av := [.int x1]) ?_ (gOk _ _ _ _ _) dX12_announce_2 (tX12_isDomain _ _ _ _ _) ⟨wV_X12_isDomain, wL_X12_isDomain⟩ wM_X12_49 (gCX12 _ _ _ _ _) rfl (lt_t rfl) rfl ⟨le_t rfl, le_t rfl⟩ ⟨le_t rfl, le_t rfl⟩ rfl (le_t rfl) (fun _ _ h => h)
    refine sC.of rfl (by decide) (le_t rfl) ?_
    refine sv_iload_n (pc := 0) dX12_isDomain_0 rfl rfl ?_
    refine sv_iconst (pc := 1) (v := 0) dX12_isDomain_1 (by decide) ?_
    refine sv_aload_n (pc := 2) dX12_isDomain_2 rfl rfl ?_
    refine sw_getfield (pc := 3) dX12_isDomain_3 (gCX12 _ _ _ _ _) 5 (by decide) wF_X12_34 rfl rfl rfl ?_
    refine sv_iconst (pc := 6) (v := 1) dX12_isDomain_6 (by decide) ?_
    refine sw_isub (pc := 7) (v := (-1)) dX12_isDomain_7 (by decide) ?_
    refine sv_callS (pc := 8) (M' := mX12_in) (d' := 18) (C' := 0) (S' := 0) (av := [.int x1, .int 0, .int (-1)]) ?_ (gOk _ _ _ _ _) dX12_isDomain_8 (tX12_in _ _ _ _ _) wS_X12_in wM_X12_18 ⟨le_t rfl, le_t rfl⟩ ⟨le_t rfl, le_t rfl⟩ rfl (le_t rfl) (fun _ _ h => h)
    refine sC.of rfl (by decide) (le_t rfl) ?_
    refine sv_iload_n (pc := 0) dX12_in_0 rfl rfl ?_
    refine sv_iload_n (pc := 1) dX12_in_1 rfl rfl ?_
    refine sv_icmp_lt (pc := 2) (tgt := 14) dX12_in_2 (by decide) (fun _ => ?_) (fun h => absurd h_1 h)
    refine sv_iconst (pc := 14) (v := 0) dX12_in_14 (by decide) ?_
    refine sv_zret (pc := 15) dX12_in_15 rfl (by decide) (le_t rfl) (le_t rfl) ?_
    refine sv_zret (pc := 11) dX12_isDomain_11 rfl (by decide) (le_t rfl) (le_t rfl) ?_
    refine sv_if_eq (pc := 5) (tgt := 25) dX12_announce_5 (by decide) (fun _ => ?_) (fun h => absurd (by decide) h)
    refine sv_iconst (pc := 25) (v := (-1)) dX12_announce_25 (by decide) ?_
    refine sv_iret (pc := 26) dX12_announce_26 rfl (le_t rfl) (le_t rfl) ?_
    refine sv_icmp_eq (pc := 1078) (tgt := 1799) dL_law_1078 (by decide) (fun _ => ?_) (fun h => absurd (by decide) h)
    exact kk _ _ _ (le_t rfl) (le_t rfl)
  refine sv_iload_n (pc := 4) dX11_isDomain_4 rfl rfl ?_
  refine sv_aload_n (pc := 5) dX11_isDomain_5 rfl rfl ?_
  refine sw_getfield (pc := 6) dX11_isDomain_6 (gCX11 _ _ _ _ _) 3 (by decide) wF_X11_26 rfl rfl rfl ?_
  refine sw_getfield (pc := 9) dX11_isDomain_9 (gCX10 _ _ _ _ _) 15 (by decide) wF_X11_98 rfl rfl rfl ?_
  refine sv_icmp_ge (pc := 12) (tgt := 19) dX11_isDomain_12 (by decide) (fun _ => ?_) (fun h => False.elim (by have a0 := Int32.le_iff_toInt_le.mp (Int32.not_lt.mp h_1); have a1 := Int32.lt_iff_toInt_lt.mp (Int32.not_le.mp h); have e0 : (0 : Int32).toInt = 0 := (by decide); omega))
  refine sv_iconst (pc := 19) (v := 0) dX11_isDomain_19 (by decide) ?_
  refine sv_zret (pc := 20) dX11_isDomain_20 rfl (by decide) (le_t rfl) (le_t rfl) ?_
  refine sv_if_eq (pc := 5) (tgt := 25) dX11_announce_5 (by decide) (fun _ => ?_) (fun h => absurd (by decide) h)
  refine sv_iconst (pc := 25) (v := (-1)) dX11_announce_25 (by decide) ?_
  refine sv_iret (pc := 26) dX11_announce_26 rfl (le_t rfl) (le_t rfl) ?_
  refine sv_aload_n (pc := 1059) dL_law_1059 rfl rfl ?_
  refine sv_aload_nS (pc := 1060) dL_law_1060 rfl rfl ?_
  refine sv_iload_n (pc := 1061) dL_law_1061 rfl rfl ?_
  refine sv_iconst (pc := 1062) (v := 1) dL_law_1062 (by decide) ?_
  refine sw_iadd (pc := 1063) (v := 1) dL_law_1063 (by decide) ?_
  refine sw_sld (pc := 1064) (v := x1) dL_law_1064 (k := 1) (by decide) (by decide) rfl hx1 ?_
  refine sv_aload_nS (pc := 1065) dL_law_1065 rfl rfl ?_
  refine sv_iload_n (pc := 1066) dL_law_1066 rfl rfl ?_
  refine sv_iconst (pc := 1067) (v := 2) dL_law_1067 (by decide) ?_
  refine sw_iadd (pc := 1068) (v := 2) dL_law_1068 (by decide) ?_
  refine sw_sld (pc := 1069) (v := x2) dL_law_1069 (k := 2) (by decide) (by decide) rfl hx2 ?_
  refine sv_aload_nS (pc := 1070) dL_law_1070 rfl rfl ?_
  refine sv_iload_n (pc := 1071) dL_law_1071 rfl rfl ?_
  refine sv_iconst (pc := 1072) (v := 3) dL_law_1072 (by decide) ?_
  refine sw_iadd (pc := 1073) (v := 3) dL_law_1073 (by decide) ?_
  refine sw_sld (pc := 1074) (v := x3) dL_law_1074 (k := 3) (by decide) (by decide) rfl hx3 ?_
  refine sv_callV (pc := 1075) (M' := mX12_announce) (d' := 20) (C' := 0) (S' := 0) (av := [.int x1, .int x2, .int x3]) ?_ (gOk _ _ _ _ _) dL_law_1075 (tX12_announce _ _ _ _ _) ⟨wV_X12_announce, wL_X12_announce⟩ wM_DomainHouseLaw_113 (gCX12 _ _ _ _ _) rfl (lt_t rfl) rfl ⟨le_t rfl, le_t rfl⟩ ⟨le_t rfl, le_t rfl⟩ rfl (le_t rfl) (fun _ _ h => h)
  refine sC.of rfl (by decide) (le_t rfl) ?_
  refine sv_aload_n (pc := 0) dX12_announce_0 rfl rfl ?_
  refine sv_iload_n (pc := 1) dX12_announce_1 rfl rfl ?_
  refine sv_callV (pc := 2) (M' := mX12_isDomain) (d' := 19) (C' := 0) (S' := 0) (av := [.int x1]) ?_ (gOk _ _ _ _ _) dX12_announce_2 (tX12_isDomain _ _ _ _ _) ⟨wV_X12_isDomain, wL_X12_isDomain⟩ wM_X12_49 (gCX12 _ _ _ _ _) rfl (lt_t rfl) rfl ⟨le_t rfl, le_t rfl⟩ ⟨le_t rfl, le_t rfl⟩ rfl (le_t rfl) (fun _ _ h => h)
  refine sC.of rfl (by decide) (le_t rfl) ?_
  refine sv_iload_n (pc := 0) dX12_isDomain_0 rfl rfl ?_
  refine sv_iconst (pc := 1) (v := 0) dX12_isDomain_1 (by decide) ?_
  refine sv_aload_n (pc := 2) dX12_isDomain_2 rfl rfl ?_
  refine sw_getfield (pc := 3) dX12_isDomain_3 (gCX12 _ _ _ _ _) 5 (by decide) wF_X12_34 rfl rfl rfl ?_
  refine sv_iconst (pc := 6) (v := 1) dX12_isDomain_6 (by decide) ?_
  refine sw_isub (pc := 7) (v := (-1)) dX12_isDomain_7 (by decide) ?_
  refine sv_callS (pc := 8) (M' := mX12_in) (d' := 18) (C' := 0) (S' := 0) (av := [.int x1, .int 0, .int (-1)]) ?_ (gOk _ _ _ _ _) dX12_isDomain_8 (tX12_in _ _ _ _ _) wS_X12_in wM_X12_18 ⟨le_t rfl, le_t rfl⟩ ⟨le_t rfl, le_t rfl⟩ rfl (le_t rfl) (fun _ _ h => h)
  refine sC.of rfl (by decide) (le_t rfl) ?_
  refine sv_iload_n (pc := 0) dX12_in_0 rfl rfl ?_
  refine sv_iload_n (pc := 1) dX12_in_1 rfl rfl ?_
  refine sv_icmp_lt (pc := 2) (tgt := 14) dX12_in_2 (by decide) (fun h => absurd h h_1) (fun _ => ?_)
  refine sv_iload_n (pc := 5) dX12_in_5 rfl rfl ?_
  refine sv_iload_n (pc := 6) dX12_in_6 rfl rfl ?_
  refine sv_icmp_gt (pc := 7) (tgt := 14) dX12_in_7 (by decide) (fun _ => ?_) (fun h => False.elim (by have a0 := Int32.le_iff_toInt_le.mp (Int32.not_lt.mp h_1); have a1 := Int32.le_iff_toInt_le.mp (Int32.not_lt.mp h); have e0 : (-1 : Int32).toInt = -1 := (by decide); have e1 : (0 : Int32).toInt = 0 := (by decide); omega))
  refine sv_iconst (pc := 14) (v := 0) dX12_in_14 (by decide) ?_
  refine sv_zret (pc := 15) dX12_in_15 rfl (by decide) (le_t rfl) (le_t rfl) ?_
  refine sv_zret (pc := 11) dX12_isDomain_11 rfl (by decide) (le_t rfl) (le_t rfl) ?_
  refine sv_if_eq (pc := 5) (tgt := 25) dX12_announce_5 (by decide) (fun _ => ?_) (fun h => absurd (by decide) h)
  refine sv_iconst (pc := 25) (v := (-1)) dX12_announce_25 (by decide) ?_
  refine sv_iret (pc := 26) dX12_announce_26 rfl (le_t rfl) (le_t rfl) ?_
  refine sv_icmp_eq (pc := 1078) (tgt := 1799) dL_law_1078 (by decide) (fun _ => ?_) (fun h => absurd (by decide) h)
  exact kk _ _ _ (le_t rfl) (le_t rfl)
set_option maxHeartbeats 40000000 in
set_option maxRecDepth 100000 in
theorem op_23 (l : Launch) (D : va_G) (c : Nat → ClassId) (H0 : Heap) (b : Nat) (xs : Nat → Int32) (Z : sZT) (x1 x2 x3 x4 x5 x6 : Int32) (hx1 : xs 1 = x1) (hx2 : xs 2 = x2) (hx3 : xs 3 = x3) (hx4 : xs 4 = x4) (hx5 : xs 5 = x5) (hx6 : xs 6 = x6) (kk : ∀ (hp : sHp) (ce sl : Nat), ce ≤ 600000 → sl ≤ 7302250 → sV (gG l D c H0 (b, 7, xs)) mL room_1 Z 1799 [(3, .int 0), (2, .ref 106), (1, .ref 0), (0, .retAddr 0)] [] hp ce sl) : sV (gG l D c H0 (b, 7, xs)) mL room_1 Z 1083 [(3, .int 0), (2, .ref 106), (1, .ref 0), (0, .retAddr 0)] [] (192, tF) 192 297215 := by
  refine sv_aload_n (pc := 1083) dL_law_1083 rfl rfl ?_
  refine sv_aload_nS (pc := 1084) dL_law_1084 rfl rfl ?_
  refine sv_iload_n (pc := 1085) dL_law_1085 rfl rfl ?_
  refine sv_iconst (pc := 1086) (v := 1) dL_law_1086 (by decide) ?_
  refine sw_iadd (pc := 1087) (v := 1) dL_law_1087 (by decide) ?_
  refine sw_sld (pc := 1088) (v := x1) dL_law_1088 (k := 1) (by decide) (by decide) rfl hx1 ?_
  refine sv_aload_nS (pc := 1089) dL_law_1089 rfl rfl ?_
  refine sv_iload_n (pc := 1090) dL_law_1090 rfl rfl ?_
  refine sv_iconst (pc := 1091) (v := 2) dL_law_1091 (by decide) ?_
  refine sw_iadd (pc := 1092) (v := 2) dL_law_1092 (by decide) ?_
  refine sw_sld (pc := 1093) (v := x2) dL_law_1093 (k := 2) (by decide) (by decide) rfl hx2 ?_
  refine sv_callV (pc := 1094) (M' := mX11_withdraw) (d' := 20) (C' := 0) (S' := 0) (av := [.int x1, .int x2]) ?_ (gOk _ _ _ _ _) dL_law_1094 (tX11_withdraw _ _ _ _ _) ⟨wV_X11_withdraw, wL_X11_withdraw⟩ wM_DomainHouseLaw_114 (gCX11 _ _ _ _ _) rfl (lt_t rfl) rfl ⟨le_t rfl, le_t rfl⟩ ⟨le_t rfl, le_t rfl⟩ rfl (le_t rfl) (fun _ _ h => h)
  refine sC.of rfl (by decide) (le_t rfl) ?_
  refine sv_aload_n (pc := 0) dX11_withdraw_0 rfl rfl ?_
  refine sv_iload_n (pc := 1) dX11_withdraw_1 rfl rfl ?_
  refine sv_callV (pc := 2) (M' := mX11_isDomain) (d' := 19) (C' := 0) (S' := 0) (av := [.int x1]) ?_ (gOk _ _ _ _ _) dX11_withdraw_2 (tX11_isDomain _ _ _ _ _) ⟨wV_X11_isDomain, wL_X11_isDomain⟩ wM_X11_105 (gCX11 _ _ _ _ _) rfl (lt_t rfl) rfl ⟨le_t rfl, le_t rfl⟩ ⟨le_t rfl, le_t rfl⟩ rfl (le_t rfl) (fun _ _ h => h)
  refine sC.of rfl (by decide) (le_t rfl) ?_
  refine sv_iload_n (pc := 0) dX11_isDomain_0 rfl rfl ?_
  refine sv_if_lt (pc := 1) (tgt := 19) dX11_isDomain_1 (by decide) (fun h_1 => ?_) (fun h_1 => ?_)
  · refine sv_iconst (pc := 19) (v := 0) dX11_isDomain_19 (by decide) ?_
    refine sv_zret (pc := 20) dX11_isDomain_20 rfl (by decide) (le_t rfl) (le_t rfl) ?_
    refine sv_if_eq (pc := 5) (tgt := 16) dX11_withdraw_5 (by decide) (fun _ => ?_) (fun h => absurd (by decide) h)
    refine sv_iconst (pc := 16) (v := (-1)) dX11_withdraw_16 (by decide) ?_
    refine sv_iret (pc := 17) dX11_withdraw_17 rfl (le_t rfl) (le_t rfl) ?_
    refine sv_aload_n (pc := 1097) dL_law_1097 rfl rfl ?_
    refine sv_aload_nS (pc := 1098) dL_law_1098 rfl rfl ?_
    refine sv_iload_n (pc := 1099) dL_law_1099 rfl rfl ?_
    refine sv_iconst (pc := 1100) (v := 1) dL_law_1100 (by decide) ?_
    refine sw_iadd (pc := 1101) (v := 1) dL_law_1101 (by decide) ?_
    refine sw_sld (pc := 1102) (v := x1) dL_law_1102 (k := 1) (by decide) (by decide) rfl hx1 ?_
    refine sv_aload_nS (pc := 1103) dL_law_1103 rfl rfl ?_
    refine sv_iload_n (pc := 1104) dL_law_1104 rfl rfl ?_
    refine sv_iconst (pc := 1105) (v := 2) dL_law_1105 (by decide) ?_
    refine sw_iadd (pc := 1106) (v := 2) dL_law_1106 (by decide) ?_
    refine sw_sld (pc := 1107) (v := x2) dL_law_1107 (k := 2) (by decide) (by decide) rfl hx2 ?_
    refine sv_callV (pc := 1108) (M' := mX12_withdraw) (d' := 20) (C' := 0) (S' := 0) (av := [.int x1, .int x2]) ?_ (gOk _ _ _ _ _) dL_law_1108 (tX12_withdraw _ _ _ _ _) ⟨wV_X12_withdraw, wL_X12_withdraw⟩ wM_DomainHouseLaw_117 (gCX12 _ _ _ _ _) rfl (lt_t rfl) rfl ⟨le_t rfl, le_t rfl⟩ ⟨le_t rfl, le_t rfl⟩ rfl (le_t rfl) (fun _ _ h => h)
    refine sC.of rfl (by decide) (le_t rfl) ?_
    refine sv_aload_n (pc := 0) dX12_withdraw_0 rfl rfl ?_
    refine sv_iload_n (pc := 1) dX12_withdraw_1 rfl rfl ?_
    refine sv_callV (pc := 2) (M' := mX12_isDomain) (d' := 19) (C' := 0) (S' := 0) (av := [.int x1]) ?_ (gOk _ _ _ _ _) dX12_withdraw_2 (tX12_isDomain _ _ _ _ _) ⟨wV_X12_isDomain, wL_X12_isDomain⟩ wM_X12_49 (gCX12 _ _ _ _ _) rfl (lt_t rfl) rfl ⟨le_t rfl, le_t rfl⟩ ⟨le_t rfl, le_t rfl⟩ rfl (le_t rfl) (fun _ _ h => h)
    refine sC.of rfl (by decide) (le_t rfl) ?_
    refine sv_iload_n (pc := 0) dX12_isDomain_0 rfl rfl ?_
    refine sv_iconst (pc := 1) (v := 0) dX12_isDomain_1 (by decide) ?_
    refine sv_aload_n (pc := 2) dX12_isDomain_2 rfl rfl ?_
    refine sw_getfield (pc := 3) dX12_isDomain_3 (gCX12 _ _ _ _ _) 5 (by decide) wF_X12_34 rfl rfl rfl ?_
    refine sv_iconst (pc := 6) (v := 1) dX12_isDomain_6 (by decide) ?_
    refine sw_isub (pc := 7) (v := (-1)) dX12_isDomain_7 (by decide) ?_
    refine sv_callS (pc := 8) (M' := mX12_in) (d' := 18) (C' := 0) (S' := 0) (av := [.int x1, .int 0, .int (-1)]) ?_ (gOk _ _ _ _ _) dX12_isDomain_8 (tX12_in _ _ _ _ _) wS_X12_in wM_X12_18 ⟨le_t rfl, le_t rfl⟩ ⟨le_t rfl, le_t rfl⟩ rfl (le_t rfl) (fun _ _ h => h)
    refine sC.of rfl (by decide) (le_t rfl) ?_
    refine sv_iload_n (pc := 0) dX12_in_0 rfl rfl ?_
    refine sv_iload_n (pc := 1) dX12_in_1 rfl rfl ?_
    refine sv_icmp_lt (pc := 2) (tgt := 14) dX12_in_2 (by decide) (fun _ => ?_) (fun h => absurd h_1 h)
    refine sv_iconst (pc := 14) (v := 0) dX12_in_14 (by decide) ?_
    refine sv_zret (pc := 15) dX12_in_15 rfl (by decide) (le_t rfl) (le_t rfl) ?_
    refine sv_zret (pc := 11) dX12_isDomain_11 rfl (by decide) (le_t rfl) (le_t rfl) ?_
    refine sv_if_eq (pc := 5) (tgt := 16) dX12_withdraw_5 (by decide) (fun _ => ?_) (fun h => absurd (by decide) h)
    refine sv_iconst (pc := 16) (v := (-1)) dX12_withdraw_16 (by decide) ?_
    refine sv_iret (pc := 17) dX12_withdraw_17 rfl (le_t rfl) (le_t rfl) ?_
    refine sv_icmp_eq (pc := 1111) (tgt := 1799) dL_law_1111 (by decide) (fun _ => ?_) (fun h => absurd (by decide) h)
    exact kk _ _ _ (le_t rfl) (le_t rfl)
  refine sv_iload_n (pc := 4) dX11_isDomain_4 rfl rfl ?_
  refine sv_aload_n (pc := 5) dX11_isDomain_5 rfl rfl ?_
  refine sw_getfield (pc := 6) dX11_isDomain_6 (gCX11 _ _ _ _ _) 3 (by decide) wF_X11_26 rfl rfl rfl ?_
  refine sw_getfield (pc := 9) dX11_isDomain_9 (gCX10 _ _ _ _ _) 15 (by decide) wF_X11_98 rfl rfl rfl ?_
  refine sv_icmp_ge (pc := 12) (tgt := 19) dX11_isDomain_12 (by decide) (fun _ => ?_) (fun h => False.elim (by have a0 := Int32.le_iff_toInt_le.mp (Int32.not_lt.mp h_1); have a1 := Int32.lt_iff_toInt_lt.mp (Int32.not_le.mp h); have e0 : (0 : Int32).toInt = 0 := (by decide); omega))
  refine sv_iconst (pc := 19) (v := 0) dX11_isDomain_19 (by decide) ?_
  refine sv_zret (pc := 20) dX11_isDomain_20 rfl (by decide) (le_t rfl) (le_t rfl) ?_
  refine sv_if_eq (pc := 5) (tgt := 16) dX11_withdraw_5 (by decide) (fun _ => ?_) (fun h => absurd (by decide) h)
  refine sv_iconst (pc := 16) (v := (-1)) dX11_withdraw_16 (by decide) ?_
  refine sv_iret (pc := 17) dX11_withdraw_17 rfl (le_t rfl) (le_t rfl) ?_
  refine sv_aload_n (pc := 1097) dL_law_1097 rfl rfl ?_
  refine sv_aload_nS (pc := 1098) dL_law_1098 rfl rfl ?_
  refine sv_iload_n (pc := 1099) dL_law_1099 rfl rfl ?_
  refine sv_iconst (pc := 1100) (v := 1) dL_law_1100 (by decide) ?_
  refine sw_iadd (pc := 1101) (v := 1) dL_law_1101 (by decide) ?_
  refine sw_sld (pc := 1102) (v := x1) dL_law_1102 (k := 1) (by decide) (by decide) rfl hx1 ?_
  refine sv_aload_nS (pc := 1103) dL_law_1103 rfl rfl ?_
  refine sv_iload_n (pc := 1104) dL_law_1104 rfl rfl ?_
  refine sv_iconst (pc := 1105) (v := 2) dL_law_1105 (by decide) ?_
  refine sw_iadd (pc := 1106) (v := 2) dL_law_1106 (by decide) ?_
  refine sw_sld (pc := 1107) (v := x2) dL_law_1107 (k := 2) (by decide) (by decide) rfl hx2 ?_
  refine sv_callV (pc := 1108) (M' := mX12_withdraw) (d' := 20) (C' := 0) (S' := 0) (av := [.int x1, .int x2]) ?_ (gOk _ _ _ _ _) dL_law_1108 (tX12_withdraw _ _ _ _ _) ⟨wV_X12_withdraw, wL_X12_withdraw⟩ wM_DomainHouseLaw_117 (gCX12 _ _ _ _ _) rfl (lt_t rfl) rfl ⟨le_t rfl, le_t rfl⟩ ⟨le_t rfl, le_t rfl⟩ rfl (le_t rfl) (fun _ _ h => h)
  refine sC.of rfl (by decide) (le_t rfl) ?_
  refine sv_aload_n (pc := 0) dX12_withdraw_0 rfl rfl ?_
  refine sv_iload_n (pc := 1) dX12_withdraw_1 rfl rfl ?_
  refine sv_callV (pc := 2) (M' := mX12_isDomain) (d' := 19) (C' := 0) (S' := 0) (av := [.int x1]) ?_ (gOk _ _ _ _ _) dX12_withdraw_2 (tX12_isDomain _ _ _ _ _) ⟨wV_X12_isDomain, wL_X12_isDomain⟩ wM_X12_49 (gCX12 _ _ _ _ _) rfl (lt_t rfl) rfl ⟨le_t rfl, le_t rfl⟩ ⟨le_t rfl, le_t rfl⟩ rfl (le_t rfl) (fun _ _ h => h)
  refine sC.of rfl (by decide) (le_t rfl) ?_
  refine sv_iload_n (pc := 0) dX12_isDomain_0 rfl rfl ?_
  refine sv_iconst (pc := 1) (v := 0) dX12_isDomain_1 (by decide) ?_
  refine sv_aload_n (pc := 2) dX12_isDomain_2 rfl rfl ?_
  refine sw_getfield (pc := 3) dX12_isDomain_3 (gCX12 _ _ _ _ _) 5 (by decide) wF_X12_34 rfl rfl rfl ?_
  refine sv_iconst (pc := 6) (v := 1) dX12_isDomain_6 (by decide) ?_
  refine sw_isub (pc := 7) (v := (-1)) dX12_isDomain_7 (by decide) ?_
  refine sv_callS (pc := 8) (M' := mX12_in) (d' := 18) (C' := 0) (S' := 0) (av := [.int x1, .int 0, .int (-1)]) ?_ (gOk _ _ _ _ _) dX12_isDomain_8 (tX12_in _ _ _ _ _) wS_X12_in wM_X12_18 ⟨le_t rfl, le_t rfl⟩ ⟨le_t rfl, le_t rfl⟩ rfl (le_t rfl) (fun _ _ h => h)
  refine sC.of rfl (by decide) (le_t rfl) ?_
  refine sv_iload_n (pc := 0) dX12_in_0 rfl rfl ?_
  refine sv_iload_n (pc := 1) dX12_in_1 rfl rfl ?_
  refine sv_icmp_lt (pc := 2) (tgt := 14) dX12_in_2 (by decide) (fun h => absurd h h_1) (fun _ => ?_)
  refine sv_iload_n (pc := 5) dX12_in_5 rfl rfl ?_
  refine sv_iload_n (pc := 6) dX12_in_6 rfl rfl ?_
  refine sv_icmp_gt (pc := 7) (tgt := 14) dX12_in_7 (by decide) (fun _ => ?_) (fun h => False.elim (by have a0 := Int32.le_iff_toInt_le.mp (Int32.not_lt.mp h_1); have a1 := Int32.le_iff_toInt_le.mp (Int32.not_lt.mp h); have e0 : (-1 : Int32).toInt = -1 := (by decide); have e1 : (0 : Int32).toInt = 0 := (by decide); omega))
  refine sv_iconst (pc := 14) (v := 0) dX12_in_14 (by decide) ?_
  refine sv_zret (pc := 15) dX12_in_15 rfl (by decide) (le_t rfl) (le_t rfl) ?_
  refine sv_zret (pc := 11) dX12_isDomain_11 rfl (by decide) (le_t rfl) (le_t rfl) ?_
  refine sv_if_eq (pc := 5) (tgt := 16) dX12_withdraw_5 (by decide) (fun _ => ?_) (fun h => absurd (by decide) h)
  refine sv_iconst (pc := 16) (v := (-1)) dX12_withdraw_16 (by decide) ?_
  refine sv_iret (pc := 17) dX12_withdraw_17 rfl (le_t rfl) (le_t rfl) ?_
  refine sv_icmp_eq (pc := 1111) (tgt := 1799) dL_law_1111 (by decide) (fun _ => ?_) (fun h => absurd (by decide) h)
  exact kk _ _ _ (le_t rfl) (le_t rfl)
set_option maxHeartbeats 40000000 in
set_option maxRecDepth 100000 in
theorem op_24 (l : Launch) (D : va_G) (c : Nat → ClassId) (H0 : Heap) (b : Nat) (xs : Nat → Int32) (Z : sZT) (x1 x2 x3 x4 x5 x6 : Int32) (hx1 : xs 1 = x1) (hx2 : xs 2 = x2) (hx3 : xs 3 = x3) (hx4 : xs 4 = x4) (hx5 : xs 5 = x5) (hx6 : xs 6 = x6) (kk : ∀ (hp : sHp) (ce sl : Nat), ce ≤ 600000 → sl ≤ 7302250 → sV (gG l D c H0 (b, 7, xs)) mL room_1 Z 1799 [(3, .int 0), (2, .ref 106), (1, .ref 0), (0, .retAddr 0)] [] hp ce sl) : sV (gG l D c H0 (b, 7, xs)) mL room_1 Z 1116 [(3, .int 0), (2, .ref 106), (1, .ref 0), (0, .retAddr 0)] [] (192, tF) 192 297215 := by
  refine sv_aload_n (pc := 1116) dL_law_1116 rfl rfl ?_
  refine sv_aload_nS (pc := 1117) dL_law_1117 rfl rfl ?_
  refine sv_iload_n (pc := 1118) dL_law_1118 rfl rfl ?_
  refine sv_iconst (pc := 1119) (v := 1) dL_law_1119 (by decide) ?_
  refine sw_iadd (pc := 1120) (v := 1) dL_law_1120 (by decide) ?_
  refine sw_sld (pc := 1121) (v := x1) dL_law_1121 (k := 1) (by decide) (by decide) rfl hx1 ?_
  refine sv_callV (pc := 1122) (M' := mX11_go) (d' := 20) (C' := 0) (S' := 0) (av := [.int x1]) ?_ (gOk _ _ _ _ _) dL_law_1122 (tX11_go _ _ _ _ _) ⟨wV_X11_go, wL_X11_go⟩ wM_DomainHouseLaw_118 (gCX11 _ _ _ _ _) rfl (lt_t rfl) rfl ⟨le_t rfl, le_t rfl⟩ ⟨le_t rfl, le_t rfl⟩ rfl (le_t rfl) (fun _ _ h => h)
  refine sC.of rfl (by decide) (le_t rfl) ?_
  refine sv_iload_n (pc := 0) dX11_go_0 rfl rfl ?_
  refine sv_iconst (pc := 1) (v := 1) dX11_go_1 (by decide) ?_
  refine sv_icmp_lt (pc := 2) (tgt := 12) dX11_go_2 (by decide) (fun h_1 => ?_) (fun h_1 => ?_)
  · refine sv_iconst (pc := 12) (v := (-1)) dX11_go_12 (by decide) ?_
    refine sv_iret (pc := 13) dX11_go_13 rfl (le_t rfl) (le_t rfl) ?_
    refine sv_aload_n (pc := 1125) dL_law_1125 rfl rfl ?_
    refine sv_aload_nS (pc := 1126) dL_law_1126 rfl rfl ?_
    refine sv_iload_n (pc := 1127) dL_law_1127 rfl rfl ?_
    refine sv_iconst (pc := 1128) (v := 1) dL_law_1128 (by decide) ?_
    refine sw_iadd (pc := 1129) (v := 1) dL_law_1129 (by decide) ?_
    refine sw_sld (pc := 1130) (v := x1) dL_law_1130 (k := 1) (by decide) (by decide) rfl hx1 ?_
    refine sv_callV (pc := 1131) (M' := mX12_go) (d' := 20) (C' := 0) (S' := 0) (av := [.int x1]) ?_ (gOk _ _ _ _ _) dL_law_1131 (tX12_go _ _ _ _ _) ⟨wV_X12_go, wL_X12_go⟩ wM_DomainHouseLaw_121 (gCX12 _ _ _ _ _) rfl (lt_t rfl) rfl ⟨le_t rfl, le_t rfl⟩ ⟨le_t rfl, le_t rfl⟩ rfl (le_t rfl) (fun _ _ h => h)
    refine sC.of rfl (by decide) (le_t rfl) ?_
    refine sv_iload_n (pc := 0) dX12_go_0 rfl rfl ?_
    refine sv_iconst (pc := 1) (v := 1) dX12_go_1 (by decide) ?_
    refine sv_sipush (pc := 2) (v := 500) dX12_go_2 (by decide) ?_
    refine sv_callS (pc := 5) (M' := mX12_in) (d' := 19) (C' := 0) (S' := 0) (av := [.int x1, .int 1, .int 500]) ?_ (gOk _ _ _ _ _) dX12_go_5 (tX12_in _ _ _ _ _) wS_X12_in wM_X12_18 ⟨le_t rfl, le_t rfl⟩ ⟨le_t rfl, le_t rfl⟩ rfl (le_t rfl) (fun _ _ h => h)
    refine sC.of rfl (by decide) (le_t rfl) ?_
    refine sv_iload_n (pc := 0) dX12_in_0 rfl rfl ?_
    refine sv_iload_n (pc := 1) dX12_in_1 rfl rfl ?_
    refine sv_icmp_lt (pc := 2) (tgt := 14) dX12_in_2 (by decide) (fun _ => ?_) (fun h => absurd h_1 h)
    refine sv_iconst (pc := 14) (v := 0) dX12_in_14 (by decide) ?_
    refine sv_zret (pc := 15) dX12_in_15 rfl (by decide) (le_t rfl) (le_t rfl) ?_
    refine sv_if_ne (pc := 8) (tgt := 13) dX12_go_8 (by decide) (fun h => absurd (by decide) h) (fun _ => ?_)
    refine sv_iconst (pc := 11) (v := (-1)) dX12_go_11 (by decide) ?_
    refine sv_iret (pc := 12) dX12_go_12 rfl (le_t rfl) (le_t rfl) ?_
    refine sv_icmp_eq (pc := 1134) (tgt := 1799) dL_law_1134 (by decide) (fun _ => ?_) (fun h => absurd (by decide) h)
    exact kk _ _ _ (le_t rfl) (le_t rfl)
  refine sv_iload_n (pc := 5) dX11_go_5 rfl rfl ?_
  refine sv_sipush (pc := 6) (v := 500) dX11_go_6 (by decide) ?_
  refine sv_icmp_le (pc := 9) (tgt := 14) dX11_go_9 (by decide) (fun h_2 => ?_) (fun h_2 => ?_)
  · refine sv_iconst (pc := 14) (v := 0) dX11_go_14 (by decide) ?_
    refine sv_istore_n (pc := 15) dX11_go_15 rfl (by decide) ?_
    refine sv_iload_n (pc := 16) dX11_go_16 rfl rfl ?_
    refine sv_iload_n (pc := 17) dX11_go_17 rfl rfl ?_
    refine sv_icmp_ge (pc := 18) (tgt := 40) dX11_go_18 (by decide) (fun h => False.elim (by have a0 := Int32.le_iff_toInt_le.mp (Int32.not_lt.mp h_1); have a1 := Int32.le_iff_toInt_le.mp h_2; have a2 := Int32.le_iff_toInt_le.mp h; have e0 : (0 : Int32).toInt = 0 := (by decide); have e1 : (1 : Int32).toInt = 1 := (by decide); have e2 : (500 : Int32).toInt = 500 := (by decide); omega)) (fun _ => ?_)
    refine sv_aload_n (pc := 21) dX11_go_21 rfl rfl ?_
    refine sw_getfield (pc := 22) dX11_go_22 (gCX11 _ _ _ _ _) 6 (by decide) wF_X11_51 rfl rfl rfl ?_
    refine sv_ldcw (pc := 25) dX11_go_25 wG_X11_299 ?_
    refine sv_callV (pc := 28) (M' := mX8_doNext) (d' := 19) (C' := 0) (S' := 0) (av := [.int 2000000000]) ?_ (gOk _ _ _ _ _) dX11_go_28 (tX8_doNext _ _ _ _ _) ⟨wV_X8_doNext, wL_X8_doNext⟩ wM_X11_300 (gCX8 _ _ _ _ _) rfl (lt_t rfl) rfl ⟨le_t rfl, le_t rfl⟩ ⟨le_t rfl, le_t rfl⟩ rfl (le_t rfl) (fun _ _ h => h)
    refine sC.of rfl (by decide) (le_t rfl) ?_
    refine sv_aload_n (pc := 0) dX8_doNext_0 rfl rfl ?_
    refine sw_getfield (pc := 1) dX8_doNext_1 (gCX8 _ _ _ _ _) 10 (by decide) wF_X8_52 rfl rfl rfl ?_
    refine sv_if_eq (pc := 4) (tgt := 22) dX8_doNext_4 (by decide) (fun _ => ?_) (fun h => absurd (by decide) h)
    refine sv_iconst (pc := 22) (v := 0) dX8_doNext_22 (by decide) ?_
    refine sv_zret (pc := 23) dX8_doNext_23 rfl (by decide) (le_t rfl) (le_t rfl) ?_
    refine sv_if_eq (pc := 31) (tgt := 40) dX11_go_31 (by decide) (fun _ => ?_) (fun h => absurd (by decide) h)
    refine sv_iload_n (pc := 40) dX11_go_40 rfl rfl ?_
    refine sv_iret (pc := 41) dX11_go_41 rfl (le_t rfl) (le_t rfl) ?_
    refine sv_aload_n (pc := 1125) dL_law_1125 rfl rfl ?_
    refine sv_aload_nS (pc := 1126) dL_law_1126 rfl rfl ?_
    refine sv_iload_n (pc := 1127) dL_law_1127 rfl rfl ?_
    refine sv_iconst (pc := 1128) (v := 1) dL_law_1128 (by decide) ?_
    refine sw_iadd (pc := 1129) (v := 1) dL_law_1129 (by decide) ?_
    refine sw_sld (pc := 1130) (v := x1) dL_law_1130 (k := 1) (by decide) (by decide) rfl hx1 ?_
    refine sv_callV (pc := 1131) (M' := mX12_go) (d' := 20) (C' := 0) (S' := 0) (av := [.int x1]) ?_ (gOk _ _ _ _ _) dL_law_1131 (tX12_go _ _ _ _ _) ⟨wV_X12_go, wL_X12_go⟩ wM_DomainHouseLaw_121 (gCX12 _ _ _ _ _) rfl (lt_t rfl) rfl ⟨le_t rfl, le_t rfl⟩ ⟨le_t rfl, le_t rfl⟩ rfl (le_t rfl) (fun _ _ h => h)
    refine sC.of rfl (by decide) (le_t rfl) ?_
    refine sv_iload_n (pc := 0) dX12_go_0 rfl rfl ?_
    refine sv_iconst (pc := 1) (v := 1) dX12_go_1 (by decide) ?_
    refine sv_sipush (pc := 2) (v := 500) dX12_go_2 (by decide) ?_
    refine sv_callS (pc := 5) (M' := mX12_in) (d' := 19) (C' := 0) (S' := 0) (av := [.int x1, .int 1, .int 500]) ?_ (gOk _ _ _ _ _) dX12_go_5 (tX12_in _ _ _ _ _) wS_X12_in wM_X12_18 ⟨le_t rfl, le_t rfl⟩ ⟨le_t rfl, le_t rfl⟩ rfl (le_t rfl) (fun _ _ h => h)
    refine sC.of rfl (by decide) (le_t rfl) ?_
    refine sv_iload_n (pc := 0) dX12_in_0 rfl rfl ?_
    refine sv_iload_n (pc := 1) dX12_in_1 rfl rfl ?_
    refine sv_icmp_lt (pc := 2) (tgt := 14) dX12_in_2 (by decide) (fun h => absurd h h_1) (fun _ => ?_)
    refine sv_iload_n (pc := 5) dX12_in_5 rfl rfl ?_
    refine sv_iload_n (pc := 6) dX12_in_6 rfl rfl ?_
    refine sv_icmp_gt (pc := 7) (tgt := 14) dX12_in_7 (by decide) (fun h => False.elim (by have a0 := Int32.le_iff_toInt_le.mp (Int32.not_lt.mp h_1); have a1 := Int32.le_iff_toInt_le.mp h_2; have a2 := Int32.lt_iff_toInt_lt.mp h; have e0 : (1 : Int32).toInt = 1 := (by decide); have e1 : (500 : Int32).toInt = 500 := (by decide); omega)) (fun _ => ?_)
    refine sv_iconst (pc := 10) (v := 1) dX12_in_10 (by decide) ?_
    refine sv_goto (pc := 11) (tgt := 15) dX12_in_11 (by decide) ?_
    refine sv_zret (pc := 15) dX12_in_15 rfl (by decide) (le_t rfl) (le_t rfl) ?_
    refine sv_if_ne (pc := 8) (tgt := 13) dX12_go_8 (by decide) (fun _ => ?_) (fun h => absurd h (by decide))
    refine sv_iconst (pc := 13) (v := 0) dX12_go_13 (by decide) ?_
    refine sv_istore_n (pc := 14) dX12_go_14 rfl (by decide) ?_
    refine sv_iload_n (pc := 15) dX12_go_15 rfl rfl ?_
    refine sv_iload_n (pc := 16) dX12_go_16 rfl rfl ?_
    refine sv_icmp_ge (pc := 17) (tgt := 43) dX12_go_17 (by decide) (fun h => False.elim (by have a0 := Int32.le_iff_toInt_le.mp (Int32.not_lt.mp h_1); have a1 := Int32.le_iff_toInt_le.mp h_2; have a2 := Int32.le_iff_toInt_le.mp h; have e0 : (0 : Int32).toInt = 0 := (by decide); have e1 : (1 : Int32).toInt = 1 := (by decide); have e2 : (500 : Int32).toInt = 500 := (by decide); omega)) (fun _ => ?_)
    refine sv_aload_n (pc := 20) dX12_go_20 rfl rfl ?_
    refine sv_callV (pc := 21) (M' := mX12_nextEvent) (d' := 19) (C' := 0) (S' := 0) (av := []) ?_ (gOk _ _ _ _ _) dX12_go_21 (tX12_nextEvent _ _ _ _ _) ⟨wV_X12_nextEvent, wL_X12_nextEvent⟩ wM_X12_613 (gCX12 _ _ _ _ _) rfl (lt_t rfl) rfl ⟨le_t rfl, le_t rfl⟩ ⟨le_t rfl, le_t rfl⟩ rfl (le_t rfl) (fun _ _ h => h)
    refine sC.of rfl (by decide) (le_t rfl) ?_
    refine sv_ldc (pc := 0) dX12_nextEvent_0 wG_X12_29 ?_
    refine sv_istore_n (pc := 2) dX12_nextEvent_2 rfl (by decide) ?_
    refine sv_iconst (pc := 3) (v := 0) dX12_nextEvent_3 (by decide) ?_
    refine sv_istore_n (pc := 4) dX12_nextEvent_4 rfl (by decide) ?_
    refine sv_iconst (pc := 5) (v := 0) dX12_nextEvent_5 (by decide) ?_
    refine sv_istore_n (pc := 6) dX12_nextEvent_6 rfl (by decide) ?_
    refine sv_iconst (pc := 7) (v := 0) dX12_nextEvent_7 (by decide) ?_
    refine sv_istore (pc := 8) dX12_nextEvent_8 (by decide) ?_
    refine lp_next_a rfl rfl rfl rfl rfl rfl rfl rfl rfl rfl rfl rfl (Cc := fun _ => 0) rfl (Dd := fun _ => 0) rfl (fun j hj => by show sFill _ _ _ j = _; simp only [sFill, if_pos hj]) (fun j hj => by show sFill _ _ _ j = _; simp only [sFill, if_pos hj]) (fun _ => ?_) 800 0 (by decide) _ rfl rfl rfl
    refine sv_iret (pc := 133) dX12_nextEvent_133 rfl (le_t rfl) (le_t rfl) ?_
    refine sv_ldc (pc := 24) dX12_go_24 wG_X12_29 ?_
    refine sv_icmp_eq (pc := 26) (tgt := 43) dX12_go_26 (by decide) (fun _ => ?_) (fun h => absurd (by decide) h)
    refine sv_iload_n (pc := 43) dX12_go_43 rfl rfl ?_
    refine sv_iret (pc := 44) dX12_go_44 rfl (le_t rfl) (le_t rfl) ?_
    refine sv_icmp_eq (pc := 1134) (tgt := 1799) dL_law_1134 (by decide) (fun _ => ?_) (fun h => absurd (by decide) h)
    exact kk _ _ _ (le_t rfl) (le_t rfl)
  refine sv_iconst (pc := 12) (v := (-1)) dX11_go_12 (by decide) ?_
  refine sv_iret (pc := 13) dX11_go_13 rfl (le_t rfl) (le_t rfl) ?_
  refine sv_aload_n (pc := 1125) dL_law_1125 rfl rfl ?_
  refine sv_aload_nS (pc := 1126) dL_law_1126 rfl rfl ?_
  refine sv_iload_n (pc := 1127) dL_law_1127 rfl rfl ?_
  refine sv_iconst (pc := 1128) (v := 1) dL_law_1128 (by decide) ?_
  refine sw_iadd (pc := 1129) (v := 1) dL_law_1129 (by decide) ?_
  refine sw_sld (pc := 1130) (v := x1) dL_law_1130 (k := 1) (by decide) (by decide) rfl hx1 ?_
  refine sv_callV (pc := 1131) (M' := mX12_go) (d' := 20) (C' := 0) (S' := 0) (av := [.int x1]) ?_ (gOk _ _ _ _ _) dL_law_1131 (tX12_go _ _ _ _ _) ⟨wV_X12_go, wL_X12_go⟩ wM_DomainHouseLaw_121 (gCX12 _ _ _ _ _) rfl (lt_t rfl) rfl ⟨le_t rfl, le_t rfl⟩ ⟨le_t rfl, le_t rfl⟩ rfl (le_t rfl) (fun _ _ h => h)
  refine sC.of rfl (by decide) (le_t rfl) ?_
  refine sv_iload_n (pc := 0) dX12_go_0 rfl rfl ?_
  refine sv_iconst (pc := 1) (v := 1) dX12_go_1 (by decide) ?_
  refine sv_sipush (pc := 2) (v := 500) dX12_go_2 (by decide) ?_
  refine sv_callS (pc := 5) (M' := mX12_in) (d' := 19) (C' := 0) (S' := 0) (av := [.int x1, .int 1, .int 500]) ?_ (gOk _ _ _ _ _) dX12_go_5 (tX12_in _ _ _ _ _) wS_X12_in wM_X12_18 ⟨le_t rfl, le_t rfl⟩ ⟨le_t rfl, le_t rfl⟩ rfl (le_t rfl) (fun _ _ h => h)
  refine sC.of rfl (by decide) (le_t rfl) ?_
  refine sv_iload_n (pc := 0) dX12_in_0 rfl rfl ?_
  refine sv_iload_n (pc := 1) dX12_in_1 rfl rfl ?_
  refine sv_icmp_lt (pc := 2) (tgt := 14) dX12_in_2 (by decide) (fun h => absurd h h_1) (fun _ => ?_)
  refine sv_iload_n (pc := 5) dX12_in_5 rfl rfl ?_
  refine sv_iload_n (pc := 6) dX12_in_6 rfl rfl ?_
  refine sv_icmp_gt (pc := 7) (tgt := 14) dX12_in_7 (by decide) (fun _ => ?_) (fun h => False.elim (by have a0 := Int32.le_iff_toInt_le.mp (Int32.not_lt.mp h_1); have a1 := Int32.lt_iff_toInt_lt.mp (Int32.not_le.mp h_2); have a2 := Int32.le_iff_toInt_le.mp (Int32.not_lt.mp h); have e0 : (1 : Int32).toInt = 1 := (by decide); have e1 : (500 : Int32).toInt = 500 := (by decide); omega))
  refine sv_iconst (pc := 14) (v := 0) dX12_in_14 (by decide) ?_
  refine sv_zret (pc := 15) dX12_in_15 rfl (by decide) (le_t rfl) (le_t rfl) ?_
  refine sv_if_ne (pc := 8) (tgt := 13) dX12_go_8 (by decide) (fun h => absurd (by decide) h) (fun _ => ?_)
  refine sv_iconst (pc := 11) (v := (-1)) dX12_go_11 (by decide) ?_
  refine sv_iret (pc := 12) dX12_go_12 rfl (le_t rfl) (le_t rfl) ?_
  refine sv_icmp_eq (pc := 1134) (tgt := 1799) dL_law_1134 (by decide) (fun _ => ?_) (fun h => absurd (by decide) h)
  exact kk _ _ _ (le_t rfl) (le_t rfl)
set_option maxHeartbeats 40000000 in
set_option maxRecDepth 100000 in
theorem op_25 (l : Launch) (D : va_G) (c : Nat → ClassId) (H0 : Heap) (b : Nat) (xs : Nat → Int32) (Z : sZT) (x1 x2 x3 x4 x5 x6 : Int32) (hx1 : xs 1 = x1) (hx2 : xs 2 = x2) (hx3 : xs 3 = x3) (hx4 : xs 4 = x4) (hx5 : xs 5 = x5) (hx6 : xs 6 = x6) (kk : ∀ (hp : sHp) (ce sl : Nat), ce ≤ 600000 → sl ≤ 7302250 → sV (gG l D c H0 (b, 7, xs)) mL room_1 Z 1799 [(3, .int 0), (2, .ref 106), (1, .ref 0), (0, .retAddr 0)] [] hp ce sl) : sV (gG l D c H0 (b, 7, xs)) mL room_1 Z 1139 [(3, .int 0), (2, .ref 106), (1, .ref 0), (0, .retAddr 0)] [] (192, tF) 192 297215 := by
  refine sv_aload_n (pc := 1139) dL_law_1139 rfl rfl ?_
  refine sv_aload_nS (pc := 1140) dL_law_1140 rfl rfl ?_
  refine sv_iload_n (pc := 1141) dL_law_1141 rfl rfl ?_
  refine sv_iconst (pc := 1142) (v := 1) dL_law_1142 (by decide) ?_
  refine sw_iadd (pc := 1143) (v := 1) dL_law_1143 (by decide) ?_
  refine sw_sld (pc := 1144) (v := x1) dL_law_1144 (k := 1) (by decide) (by decide) rfl hx1 ?_
  refine sv_callV (pc := 1145) (M' := mX11_until) (d' := 20) (C' := 0) (S' := 0) (av := [.int x1]) ?_ (gOk _ _ _ _ _) dL_law_1145 (tX11_until _ _ _ _ _) ⟨wV_X11_until, wL_X11_until⟩ wM_DomainHouseLaw_122 (gCX11 _ _ _ _ _) rfl (lt_t rfl) rfl ⟨le_t rfl, le_t rfl⟩ ⟨le_t rfl, le_t rfl⟩ rfl (le_t rfl) (fun _ _ h => h)
  refine sC.of rfl (by decide) (le_t rfl) ?_
  refine sv_iload_n (pc := 0) dX11_until_0 rfl rfl ?_
  refine sv_aload_n (pc := 1) dX11_until_1 rfl rfl ?_
  refine sw_getfield (pc := 2) dX11_until_2 (gCX11 _ _ _ _ _) 6 (by decide) wF_X11_51 rfl rfl rfl ?_
  refine sw_getfield (pc := 5) dX11_until_5 (gCX8 _ _ _ _ _) 11 (by decide) wF_X11_303 rfl rfl rfl ?_
  refine sv_icmp_lt (pc := 8) (tgt := 18) dX11_until_8 (by decide) (fun h_1 => ?_) (fun h_1 => ?_)
  · refine sv_iconst (pc := 18) (v := (-1)) dX11_until_18 (by decide) ?_
    refine sv_iret (pc := 19) dX11_until_19 rfl (le_t rfl) (le_t rfl) ?_
    refine sv_aload_n (pc := 1148) dL_law_1148 rfl rfl ?_
    refine sv_aload_nS (pc := 1149) dL_law_1149 rfl rfl ?_
    refine sv_iload_n (pc := 1150) dL_law_1150 rfl rfl ?_
    refine sv_iconst (pc := 1151) (v := 1) dL_law_1151 (by decide) ?_
    refine sw_iadd (pc := 1152) (v := 1) dL_law_1152 (by decide) ?_
    refine sw_sld (pc := 1153) (v := x1) dL_law_1153 (k := 1) (by decide) (by decide) rfl hx1 ?_
    refine sv_callV (pc := 1154) (M' := mX12_until) (d' := 20) (C' := 0) (S' := 0) (av := [.int x1]) ?_ (gOk _ _ _ _ _) dL_law_1154 (tX12_until _ _ _ _ _) ⟨wV_X12_until, wL_X12_until⟩ wM_DomainHouseLaw_125 (gCX12 _ _ _ _ _) rfl (lt_t rfl) rfl ⟨le_t rfl, le_t rfl⟩ ⟨le_t rfl, le_t rfl⟩ rfl (le_t rfl) (fun _ _ h => h)
    refine sC.of rfl (by decide) (le_t rfl) ?_
    refine sv_iload_n (pc := 0) dX12_until_0 rfl rfl ?_
    refine sv_aload_n (pc := 1) dX12_until_1 rfl rfl ?_
    refine sw_getfield (pc := 2) dX12_until_2 (gCX12 _ _ _ _ _) 71 (by decide) wF_X12_591 rfl rfl rfl ?_
    refine sv_icmp_lt (pc := 5) (tgt := 15) dX12_until_5 (by decide) (fun _ => ?_) (fun h => absurd h_1 h)
    refine sv_iconst (pc := 15) (v := (-1)) dX12_until_15 (by decide) ?_
    refine sv_iret (pc := 16) dX12_until_16 rfl (le_t rfl) (le_t rfl) ?_
    refine sv_icmp_eq (pc := 1157) (tgt := 1799) dL_law_1157 (by decide) (fun _ => ?_) (fun h => absurd (by decide) h)
    exact kk _ _ _ (le_t rfl) (le_t rfl)
  refine sv_iload_n (pc := 11) dX11_until_11 rfl rfl ?_
  refine sv_ldcw (pc := 12) dX11_until_12 wG_X11_306 ?_
  refine sv_icmp_le (pc := 15) (tgt := 20) dX11_until_15 (by decide) (fun h_2 => ?_) (fun h_2 => ?_)
  · refine sv_iconst (pc := 20) (v := 0) dX11_until_20 (by decide) ?_
    refine sv_istore_n (pc := 21) dX11_until_21 rfl (by decide) ?_
    refine sv_iload_n (pc := 22) dX11_until_22 rfl rfl ?_
    refine sv_sipush (pc := 23) (v := 500) dX11_until_23 (by decide) ?_
    refine sv_icmp_ge (pc := 26) (tgt := 46) dX11_until_26 (by decide) (fun h => absurd h (by decide)) (fun _ => ?_)
    refine sv_aload_n (pc := 29) dX11_until_29 rfl rfl ?_
    refine sw_getfield (pc := 30) dX11_until_30 (gCX11 _ _ _ _ _) 6 (by decide) wF_X11_51 rfl rfl rfl ?_
    refine sv_iload_n (pc := 33) dX11_until_33 rfl rfl ?_
    refine sv_callV (pc := 34) (M' := mX8_doNext) (d' := 19) (C' := 0) (S' := 0) (av := [.int x1]) ?_ (gOk _ _ _ _ _) dX11_until_34 (tX8_doNext _ _ _ _ _) ⟨wV_X8_doNext, wL_X8_doNext⟩ wM_X11_300 (gCX8 _ _ _ _ _) rfl (lt_t rfl) rfl ⟨le_t rfl, le_t rfl⟩ ⟨le_t rfl, le_t rfl⟩ rfl (le_t rfl) (fun _ _ h => h)
    refine sC.of rfl (by decide) (le_t rfl) ?_
    refine sv_aload_n (pc := 0) dX8_doNext_0 rfl rfl ?_
    refine sw_getfield (pc := 1) dX8_doNext_1 (gCX8 _ _ _ _ _) 10 (by decide) wF_X8_52 rfl rfl rfl ?_
    refine sv_if_eq (pc := 4) (tgt := 22) dX8_doNext_4 (by decide) (fun _ => ?_) (fun h => absurd (by decide) h)
    refine sv_iconst (pc := 22) (v := 0) dX8_doNext_22 (by decide) ?_
    refine sv_zret (pc := 23) dX8_doNext_23 rfl (by decide) (le_t rfl) (le_t rfl) ?_
    refine sv_if_eq (pc := 37) (tgt := 46) dX11_until_37 (by decide) (fun _ => ?_) (fun h => absurd (by decide) h)
    refine sv_aload_n (pc := 46) dX11_until_46 rfl rfl ?_
    refine sw_getfield (pc := 47) dX11_until_47 (gCX11 _ _ _ _ _) 6 (by decide) wF_X11_51 rfl rfl rfl ?_
    refine sv_iload_n (pc := 50) dX11_until_50 rfl rfl ?_
    refine sv_callV (pc := 51) (M' := mX8_passTo) (d' := 19) (C' := 0) (S' := 0) (av := [.int x1]) ?_ (gOk _ _ _ _ _) dX11_until_51 (tX8_passTo _ _ _ _ _) ⟨wV_X8_passTo, wL_X8_passTo⟩ wM_X11_307 (gCX8 _ _ _ _ _) rfl (lt_t rfl) rfl ⟨le_t rfl, le_t rfl⟩ ⟨le_t rfl, le_t rfl⟩ rfl (le_t rfl) (fun _ _ h => h)
    refine sC.of rfl (by decide) (le_t rfl) ?_
    refine sv_aload_n (pc := 0) dX8_passTo_0 rfl rfl ?_
    refine sw_getfield (pc := 1) dX8_passTo_1 (gCX8 _ _ _ _ _) 10 (by decide) wF_X8_52 rfl rfl rfl ?_
    refine sv_if_eq (pc := 4) (tgt := 22) dX8_passTo_4 (by decide) (fun _ => ?_) (fun h => absurd (by decide) h)
    refine sv_aload_n (pc := 22) dX8_passTo_22 rfl rfl ?_
    refine sv_iload_n (pc := 23) dX8_passTo_23 rfl rfl ?_
    refine sw_putfield (pc := 24) dX8_passTo_24 (gCX8 _ _ _ _ _) 11 (by decide) wF_X8_62 rfl rfl rfl (fun _ => rfl) (fun _ => rfl) rfl ?_
    refine sv_vret (pc := 27) dX8_passTo_27 rfl (le_t rfl) (le_t rfl) ?_
    refine sv_iload_n (pc := 54) dX11_until_54 rfl rfl ?_
    refine sv_iret (pc := 55) dX11_until_55 rfl (le_t rfl) (le_t rfl) ?_
    refine sv_aload_n (pc := 1148) dL_law_1148 rfl rfl ?_
    refine sv_aload_nS (pc := 1149) dL_law_1149 rfl rfl ?_
    refine sv_iload_n (pc := 1150) dL_law_1150 rfl rfl ?_
    refine sv_iconst (pc := 1151) (v := 1) dL_law_1151 (by decide) ?_
    refine sw_iadd (pc := 1152) (v := 1) dL_law_1152 (by decide) ?_
    refine sw_sld (pc := 1153) (v := x1) dL_law_1153 (k := 1) (by decide) (by decide) rfl hx1 ?_
    refine sv_callV (pc := 1154) (M' := mX12_until) (d' := 20) (C' := 0) (S' := 0) (av := [.int x1]) ?_ (gOk _ _ _ _ _) dL_law_1154 (tX12_until _ _ _ _ _) ⟨wV_X12_until, wL_X12_until⟩ wM_DomainHouseLaw_125 (gCX12 _ _ _ _ _) rfl (lt_t rfl) rfl ⟨le_t rfl, le_t rfl⟩ ⟨le_t rfl, le_t rfl⟩ rfl (le_t rfl) (fun _ _ h => h)
    refine sC.of rfl (by decide) (le_t rfl) ?_
    refine sv_iload_n (pc := 0) dX12_until_0 rfl rfl ?_
    refine sv_aload_n (pc := 1) dX12_until_1 rfl rfl ?_
    refine sw_getfield (pc := 2) dX12_until_2 (gCX12 _ _ _ _ _) 71 (by decide) wF_X12_591 rfl rfl rfl ?_
    refine sv_icmp_lt (pc := 5) (tgt := 15) dX12_until_5 (by decide) (fun h => absurd h h_1) (fun _ => ?_)
    refine sv_iload_n (pc := 8) dX12_until_8 rfl rfl ?_
    refine sv_ldcw (pc := 9) dX12_until_9 wG_X12_619 ?_
    refine sv_icmp_le (pc := 12) (tgt := 17) dX12_until_12 (by decide) (fun _ => ?_) (fun h => absurd h_2 h)
    refine sv_iconst (pc := 17) (v := 0) dX12_until_17 (by decide) ?_
    refine sv_istore_n (pc := 18) dX12_until_18 rfl (by decide) ?_
    refine sv_aload_n (pc := 19) dX12_until_19 rfl rfl ?_
    refine sv_callV (pc := 20) (M' := mX12_nextEvent) (d' := 19) (C' := 0) (S' := 0) (av := []) ?_ (gOk _ _ _ _ _) dX12_until_20 (tX12_nextEvent _ _ _ _ _) ⟨wV_X12_nextEvent, wL_X12_nextEvent⟩ wM_X12_613 (gCX12 _ _ _ _ _) rfl (lt_t rfl) rfl ⟨le_t rfl, le_t rfl⟩ ⟨le_t rfl, le_t rfl⟩ rfl (le_t rfl) (fun _ _ h => h)
    refine sC.of rfl (by decide) (le_t rfl) ?_
    refine sv_ldc (pc := 0) dX12_nextEvent_0 wG_X12_29 ?_
    refine sv_istore_n (pc := 2) dX12_nextEvent_2 rfl (by decide) ?_
    refine sv_iconst (pc := 3) (v := 0) dX12_nextEvent_3 (by decide) ?_
    refine sv_istore_n (pc := 4) dX12_nextEvent_4 rfl (by decide) ?_
    refine sv_iconst (pc := 5) (v := 0) dX12_nextEvent_5 (by decide) ?_
    refine sv_istore_n (pc := 6) dX12_nextEvent_6 rfl (by decide) ?_
    refine sv_iconst (pc := 7) (v := 0) dX12_nextEvent_7 (by decide) ?_
    refine sv_istore (pc := 8) dX12_nextEvent_8 (by decide) ?_
    refine lp_next_a rfl rfl rfl rfl rfl rfl rfl rfl rfl rfl rfl rfl (Cc := fun _ => 0) rfl (Dd := fun _ => 0) rfl (fun j hj => by show sFill _ _ _ j = _; simp only [sFill, if_pos hj]) (fun j hj => by show sFill _ _ _ j = _; simp only [sFill, if_pos hj]) (fun _ => ?_) 800 0 (by decide) _ rfl rfl rfl
    refine sv_iret (pc := 133) dX12_nextEvent_133 rfl (le_t rfl) (le_t rfl) ?_
    refine sv_istore_n (pc := 23) dX12_until_23 rfl (by decide) ?_
    refine sv_iload_n (pc := 24) dX12_until_24 rfl rfl ?_
    refine sv_sipush (pc := 25) (v := 500) dX12_until_25 (by decide) ?_
    refine sv_icmp_ge (pc := 28) (tgt := 62) dX12_until_28 (by decide) (fun h => absurd h (by decide)) (fun _ => ?_)
    refine sv_iload_n (pc := 31) dX12_until_31 rfl rfl ?_
    refine sv_ldc (pc := 32) dX12_until_32 wG_X12_29 ?_
    refine sv_icmp_eq (pc := 34) (tgt := 62) dX12_until_34 (by decide) (fun _ => ?_) (fun h => absurd (by decide) h)
    refine sv_iload_n (pc := 62) dX12_until_62 rfl rfl ?_
    refine sv_ldc (pc := 63) dX12_until_63 wG_X12_29 ?_
    refine sv_icmp_eq (pc := 65) (tgt := 77) dX12_until_65 (by decide) (fun _ => ?_) (fun h => absurd (by decide) h)
    refine sv_aload_n (pc := 77) dX12_until_77 rfl rfl ?_
    refine sv_iload_n (pc := 78) dX12_until_78 rfl rfl ?_
    refine sw_putfield (pc := 79) dX12_until_79 (gCX12 _ _ _ _ _) 71 (by decide) wF_X12_591 rfl rfl rfl (fun _ => rfl) (fun _ => rfl) rfl ?_
    refine sv_iload_n (pc := 82) dX12_until_82 rfl rfl ?_
    refine sv_iret (pc := 83) dX12_until_83 rfl (le_t rfl) (le_t rfl) ?_
    refine sv_icmp_eq (pc := 1157) (tgt := 1799) dL_law_1157 (by decide) (fun _ => ?_) (fun h => absurd (by decide) h)
    exact kk _ _ _ (le_t rfl) (le_t rfl)
  refine sv_iconst (pc := 18) (v := (-1)) dX11_until_18 (by decide) ?_
  refine sv_iret (pc := 19) dX11_until_19 rfl (le_t rfl) (le_t rfl) ?_
  refine sv_aload_n (pc := 1148) dL_law_1148 rfl rfl ?_
  refine sv_aload_nS (pc := 1149) dL_law_1149 rfl rfl ?_
  refine sv_iload_n (pc := 1150) dL_law_1150 rfl rfl ?_
  refine sv_iconst (pc := 1151) (v := 1) dL_law_1151 (by decide) ?_
  refine sw_iadd (pc := 1152) (v := 1) dL_law_1152 (by decide) ?_
  refine sw_sld (pc := 1153) (v := x1) dL_law_1153 (k := 1) (by decide) (by decide) rfl hx1 ?_
  refine sv_callV (pc := 1154) (M' := mX12_until) (d' := 20) (C' := 0) (S' := 0) (av := [.int x1]) ?_ (gOk _ _ _ _ _) dL_law_1154 (tX12_until _ _ _ _ _) ⟨wV_X12_until, wL_X12_until⟩ wM_DomainHouseLaw_125 (gCX12 _ _ _ _ _) rfl (lt_t rfl) rfl ⟨le_t rfl, le_t rfl⟩ ⟨le_t rfl, le_t rfl⟩ rfl (le_t rfl) (fun _ _ h => h)
  refine sC.of rfl (by decide) (le_t rfl) ?_
  refine sv_iload_n (pc := 0) dX12_until_0 rfl rfl ?_
  refine sv_aload_n (pc := 1) dX12_until_1 rfl rfl ?_
  refine sw_getfield (pc := 2) dX12_until_2 (gCX12 _ _ _ _ _) 71 (by decide) wF_X12_591 rfl rfl rfl ?_
  refine sv_icmp_lt (pc := 5) (tgt := 15) dX12_until_5 (by decide) (fun h => absurd h h_1) (fun _ => ?_)
  refine sv_iload_n (pc := 8) dX12_until_8 rfl rfl ?_
  refine sv_ldcw (pc := 9) dX12_until_9 wG_X12_619 ?_
  refine sv_icmp_le (pc := 12) (tgt := 17) dX12_until_12 (by decide) (fun h => absurd h h_2) (fun _ => ?_)
  refine sv_iconst (pc := 15) (v := (-1)) dX12_until_15 (by decide) ?_
  refine sv_iret (pc := 16) dX12_until_16 rfl (le_t rfl) (le_t rfl) ?_
  refine sv_icmp_eq (pc := 1157) (tgt := 1799) dL_law_1157 (by decide) (fun _ => ?_) (fun h => absurd (by decide) h)
  exact kk _ _ _ (le_t rfl) (le_t rfl)
set_option maxHeartbeats 40000000 in
set_option maxRecDepth 100000 in
theorem op_26 (l : Launch) (D : va_G) (c : Nat → ClassId) (H0 : Heap) (b : Nat) (xs : Nat → Int32) (Z : sZT) (x1 x2 x3 x4 x5 x6 : Int32) (hx1 : xs 1 = x1) (hx2 : xs 2 = x2) (hx3 : xs 3 = x3) (hx4 : xs 4 = x4) (hx5 : xs 5 = x5) (hx6 : xs 6 = x6) (kk : ∀ (hp : sHp) (ce sl : Nat), ce ≤ 600000 → sl ≤ 7302250 → sV (gG l D c H0 (b, 7, xs)) mL room_1 Z 1799 [(3, .int 0), (2, .ref 106), (1, .ref 0), (0, .retAddr 0)] [] hp ce sl) : sV (gG l D c H0 (b, 7, xs)) mL room_1 Z 1162 [(3, .int 0), (2, .ref 106), (1, .ref 0), (0, .retAddr 0)] [] (192, tF) 192 297215 := by
  refine sv_aload_n (pc := 1162) dL_law_1162 rfl rfl ?_
  refine sv_aload_nS (pc := 1163) dL_law_1163 rfl rfl ?_
  refine sv_iload_n (pc := 1164) dL_law_1164 rfl rfl ?_
  refine sv_iconst (pc := 1165) (v := 1) dL_law_1165 (by decide) ?_
  refine sw_iadd (pc := 1166) (v := 1) dL_law_1166 (by decide) ?_
  refine sw_sld (pc := 1167) (v := x1) dL_law_1167 (k := 1) (by decide) (by decide) rfl hx1 ?_
  refine sv_aload_nS (pc := 1168) dL_law_1168 rfl rfl ?_
  refine sv_iload_n (pc := 1169) dL_law_1169 rfl rfl ?_
  refine sv_iconst (pc := 1170) (v := 2) dL_law_1170 (by decide) ?_
  refine sw_iadd (pc := 1171) (v := 2) dL_law_1171 (by decide) ?_
  refine sw_sld (pc := 1172) (v := x2) dL_law_1172 (k := 2) (by decide) (by decide) rfl hx2 ?_
  refine sv_callV (pc := 1173) (M' := mX11_picked) (d' := 20) (C' := 0) (S' := 0) (av := [.int x1, .int x2]) ?_ (gOk _ _ _ _ _) dL_law_1173 (tX11_picked _ _ _ _ _) ⟨wV_X11_picked, wL_X11_picked⟩ wM_DomainHouseLaw_126 (gCX11 _ _ _ _ _) rfl (lt_t rfl) rfl ⟨le_t rfl, le_t rfl⟩ ⟨le_t rfl, le_t rfl⟩ rfl (le_t rfl) (fun _ _ h => h)
  refine sC.of rfl (by decide) (le_t rfl) ?_
  refine sv_aload_n (pc := 0) dX11_picked_0 rfl rfl ?_
  refine sv_iload_n (pc := 1) dX11_picked_1 rfl rfl ?_
  refine sv_callV (pc := 2) (M' := mX11_isDomain) (d' := 19) (C' := 0) (S' := 0) (av := [.int x1]) ?_ (gOk _ _ _ _ _) dX11_picked_2 (tX11_isDomain _ _ _ _ _) ⟨wV_X11_isDomain, wL_X11_isDomain⟩ wM_X11_105 (gCX11 _ _ _ _ _) rfl (lt_t rfl) rfl ⟨le_t rfl, le_t rfl⟩ ⟨le_t rfl, le_t rfl⟩ rfl (le_t rfl) (fun _ _ h => h)
  refine sC.of rfl (by decide) (le_t rfl) ?_
  refine sv_iload_n (pc := 0) dX11_isDomain_0 rfl rfl ?_
  refine sv_if_lt (pc := 1) (tgt := 19) dX11_isDomain_1 (by decide) (fun h_1 => ?_) (fun h_1 => ?_)
  · refine sv_iconst (pc := 19) (v := 0) dX11_isDomain_19 (by decide) ?_
    refine sv_zret (pc := 20) dX11_isDomain_20 rfl (by decide) (le_t rfl) (le_t rfl) ?_
    refine sv_if_eq (pc := 5) (tgt := 16) dX11_picked_5 (by decide) (fun _ => ?_) (fun h => absurd (by decide) h)
    refine sv_iconst (pc := 16) (v := (-1)) dX11_picked_16 (by decide) ?_
    refine sv_iret (pc := 17) dX11_picked_17 rfl (le_t rfl) (le_t rfl) ?_
    refine sv_aload_n (pc := 1176) dL_law_1176 rfl rfl ?_
    refine sv_aload_nS (pc := 1177) dL_law_1177 rfl rfl ?_
    refine sv_iload_n (pc := 1178) dL_law_1178 rfl rfl ?_
    refine sv_iconst (pc := 1179) (v := 1) dL_law_1179 (by decide) ?_
    refine sw_iadd (pc := 1180) (v := 1) dL_law_1180 (by decide) ?_
    refine sw_sld (pc := 1181) (v := x1) dL_law_1181 (k := 1) (by decide) (by decide) rfl hx1 ?_
    refine sv_aload_nS (pc := 1182) dL_law_1182 rfl rfl ?_
    refine sv_iload_n (pc := 1183) dL_law_1183 rfl rfl ?_
    refine sv_iconst (pc := 1184) (v := 2) dL_law_1184 (by decide) ?_
    refine sw_iadd (pc := 1185) (v := 2) dL_law_1185 (by decide) ?_
    refine sw_sld (pc := 1186) (v := x2) dL_law_1186 (k := 2) (by decide) (by decide) rfl hx2 ?_
    refine sv_callV (pc := 1187) (M' := mX12_picked) (d' := 20) (C' := 0) (S' := 0) (av := [.int x1, .int x2]) ?_ (gOk _ _ _ _ _) dL_law_1187 (tX12_picked _ _ _ _ _) ⟨wV_X12_picked, wL_X12_picked⟩ wM_DomainHouseLaw_129 (gCX12 _ _ _ _ _) rfl (lt_t rfl) rfl ⟨le_t rfl, le_t rfl⟩ ⟨le_t rfl, le_t rfl⟩ rfl (le_t rfl) (fun _ _ h => h)
    refine sC.of rfl (by decide) (le_t rfl) ?_
    refine sv_aload_n (pc := 0) dX12_picked_0 rfl rfl ?_
    refine sv_iload_n (pc := 1) dX12_picked_1 rfl rfl ?_
    refine sv_callV (pc := 2) (M' := mX12_isDomain) (d' := 19) (C' := 0) (S' := 0) (av := [.int x1]) ?_ (gOk _ _ _ _ _) dX12_picked_2 (tX12_isDomain _ _ _ _ _) ⟨wV_X12_isDomain, wL_X12_isDomain⟩ wM_X12_49 (gCX12 _ _ _ _ _) rfl (lt_t rfl) rfl ⟨le_t rfl, le_t rfl⟩ ⟨le_t rfl, le_t rfl⟩ rfl (le_t rfl) (fun _ _ h => h)
    refine sC.of rfl (by decide) (le_t rfl) ?_
    refine sv_iload_n (pc := 0) dX12_isDomain_0 rfl rfl ?_
    refine sv_iconst (pc := 1) (v := 0) dX12_isDomain_1 (by decide) ?_
    refine sv_aload_n (pc := 2) dX12_isDomain_2 rfl rfl ?_
    refine sw_getfield (pc := 3) dX12_isDomain_3 (gCX12 _ _ _ _ _) 5 (by decide) wF_X12_34 rfl rfl rfl ?_
    refine sv_iconst (pc := 6) (v := 1) dX12_isDomain_6 (by decide) ?_
    refine sw_isub (pc := 7) (v := (-1)) dX12_isDomain_7 (by decide) ?_
    refine sv_callS (pc := 8) (M' := mX12_in) (d' := 18) (C' := 0) (S' := 0) (av := [.int x1, .int 0, .int (-1)]) ?_ (gOk _ _ _ _ _) dX12_isDomain_8 (tX12_in _ _ _ _ _) wS_X12_in wM_X12_18 ⟨le_t rfl, le_t rfl⟩ ⟨le_t rfl, le_t rfl⟩ rfl (le_t rfl) (fun _ _ h => h)
    refine sC.of rfl (by decide) (le_t rfl) ?_
    refine sv_iload_n (pc := 0) dX12_in_0 rfl rfl ?_
    refine sv_iload_n (pc := 1) dX12_in_1 rfl rfl ?_
    refine sv_icmp_lt (pc := 2) (tgt := 14) dX12_in_2 (by decide) (fun _ => ?_) (fun h => absurd h_1 h)
    refine sv_iconst (pc := 14) (v := 0) dX12_in_14 (by decide) ?_
    refine sv_zret (pc := 15) dX12_in_15 rfl (by decide) (le_t rfl) (le_t rfl) ?_
    refine sv_zret (pc := 11) dX12_isDomain_11 rfl (by decide) (le_t rfl) (le_t rfl) ?_
    refine sv_if_eq (pc := 5) (tgt := 16) dX12_picked_5 (by decide) (fun _ => ?_) (fun h => absurd (by decide) h)
    refine sv_iconst (pc := 16) (v := (-1)) dX12_picked_16 (by decide) ?_
    refine sv_iret (pc := 17) dX12_picked_17 rfl (le_t rfl) (le_t rfl) ?_
    refine sv_icmp_eq (pc := 1190) (tgt := 1799) dL_law_1190 (by decide) (fun _ => ?_) (fun h => absurd (by decide) h)
    exact kk _ _ _ (le_t rfl) (le_t rfl)
  refine sv_iload_n (pc := 4) dX11_isDomain_4 rfl rfl ?_
  refine sv_aload_n (pc := 5) dX11_isDomain_5 rfl rfl ?_
  refine sw_getfield (pc := 6) dX11_isDomain_6 (gCX11 _ _ _ _ _) 3 (by decide) wF_X11_26 rfl rfl rfl ?_
  refine sw_getfield (pc := 9) dX11_isDomain_9 (gCX10 _ _ _ _ _) 15 (by decide) wF_X11_98 rfl rfl rfl ?_
  refine sv_icmp_ge (pc := 12) (tgt := 19) dX11_isDomain_12 (by decide) (fun _ => ?_) (fun h => False.elim (by have a0 := Int32.le_iff_toInt_le.mp (Int32.not_lt.mp h_1); have a1 := Int32.lt_iff_toInt_lt.mp (Int32.not_le.mp h); have e0 : (0 : Int32).toInt = 0 := (by decide); omega))
  refine sv_iconst (pc := 19) (v := 0) dX11_isDomain_19 (by decide) ?_
  refine sv_zret (pc := 20) dX11_isDomain_20 rfl (by decide) (le_t rfl) (le_t rfl) ?_
  refine sv_if_eq (pc := 5) (tgt := 16) dX11_picked_5 (by decide) (fun _ => ?_) (fun h => absurd (by decide) h)
  refine sv_iconst (pc := 16) (v := (-1)) dX11_picked_16 (by decide) ?_
  refine sv_iret (pc := 17) dX11_picked_17 rfl (le_t rfl) (le_t rfl) ?_
  refine sv_aload_n (pc := 1176) dL_law_1176 rfl rfl ?_
  refine sv_aload_nS (pc := 1177) dL_law_1177 rfl rfl ?_
  refine sv_iload_n (pc := 1178) dL_law_1178 rfl rfl ?_
  refine sv_iconst (pc := 1179) (v := 1) dL_law_1179 (by decide) ?_
  refine sw_iadd (pc := 1180) (v := 1) dL_law_1180 (by decide) ?_
  refine sw_sld (pc := 1181) (v := x1) dL_law_1181 (k := 1) (by decide) (by decide) rfl hx1 ?_
  refine sv_aload_nS (pc := 1182) dL_law_1182 rfl rfl ?_
  refine sv_iload_n (pc := 1183) dL_law_1183 rfl rfl ?_
  refine sv_iconst (pc := 1184) (v := 2) dL_law_1184 (by decide) ?_
  refine sw_iadd (pc := 1185) (v := 2) dL_law_1185 (by decide) ?_
  refine sw_sld (pc := 1186) (v := x2) dL_law_1186 (k := 2) (by decide) (by decide) rfl hx2 ?_
  refine sv_callV (pc := 1187) (M' := mX12_picked) (d' := 20) (C' := 0) (S' := 0) (av := [.int x1, .int x2]) ?_ (gOk _ _ _ _ _) dL_law_1187 (tX12_picked _ _ _ _ _) ⟨wV_X12_picked, wL_X12_picked⟩ wM_DomainHouseLaw_129 (gCX12 _ _ _ _ _) rfl (lt_t rfl) rfl ⟨le_t rfl, le_t rfl⟩ ⟨le_t rfl, le_t rfl⟩ rfl (le_t rfl) (fun _ _ h => h)
  refine sC.of rfl (by decide) (le_t rfl) ?_
  refine sv_aload_n (pc := 0) dX12_picked_0 rfl rfl ?_
  refine sv_iload_n (pc := 1) dX12_picked_1 rfl rfl ?_
  refine sv_callV (pc := 2) (M' := mX12_isDomain) (d' := 19) (C' := 0) (S' := 0) (av := [.int x1]) ?_ (gOk _ _ _ _ _) dX12_picked_2 (tX12_isDomain _ _ _ _ _) ⟨wV_X12_isDomain, wL_X12_isDomain⟩ wM_X12_49 (gCX12 _ _ _ _ _) rfl (lt_t rfl) rfl ⟨le_t rfl, le_t rfl⟩ ⟨le_t rfl, le_t rfl⟩ rfl (le_t rfl) (fun _ _ h => h)
  refine sC.of rfl (by decide) (le_t rfl) ?_
  refine sv_iload_n (pc := 0) dX12_isDomain_0 rfl rfl ?_
  refine sv_iconst (pc := 1) (v := 0) dX12_isDomain_1 (by decide) ?_
  refine sv_aload_n (pc := 2) dX12_isDomain_2 rfl rfl ?_
  refine sw_getfield (pc := 3) dX12_isDomain_3 (gCX12 _ _ _ _ _) 5 (by decide) wF_X12_34 rfl rfl rfl ?_
  refine sv_iconst (pc := 6) (v := 1) dX12_isDomain_6 (by decide) ?_
  refine sw_isub (pc := 7) (v := (-1)) dX12_isDomain_7 (by decide) ?_
  refine sv_callS (pc := 8) (M' := mX12_in) (d' := 18) (C' := 0) (S' := 0) (av := [.int x1, .int 0, .int (-1)]) ?_ (gOk _ _ _ _ _) dX12_isDomain_8 (tX12_in _ _ _ _ _) wS_X12_in wM_X12_18 ⟨le_t rfl, le_t rfl⟩ ⟨le_t rfl, le_t rfl⟩ rfl (le_t rfl) (fun _ _ h => h)
  refine sC.of rfl (by decide) (le_t rfl) ?_
  refine sv_iload_n (pc := 0) dX12_in_0 rfl rfl ?_
  refine sv_iload_n (pc := 1) dX12_in_1 rfl rfl ?_
  refine sv_icmp_lt (pc := 2) (tgt := 14) dX12_in_2 (by decide) (fun h => absurd h h_1) (fun _ => ?_)
  refine sv_iload_n (pc := 5) dX12_in_5 rfl rfl ?_
  refine sv_iload_n (pc := 6) dX12_in_6 rfl rfl ?_
  refine sv_icmp_gt (pc := 7) (tgt := 14) dX12_in_7 (by decide) (fun _ => ?_) (fun h => False.elim (by have a0 := Int32.le_iff_toInt_le.mp (Int32.not_lt.mp h_1); have a1 := Int32.le_iff_toInt_le.mp (Int32.not_lt.mp h); have e0 : (-1 : Int32).toInt = -1 := (by decide); have e1 : (0 : Int32).toInt = 0 := (by decide); omega))
  refine sv_iconst (pc := 14) (v := 0) dX12_in_14 (by decide) ?_
  refine sv_zret (pc := 15) dX12_in_15 rfl (by decide) (le_t rfl) (le_t rfl) ?_
  refine sv_zret (pc := 11) dX12_isDomain_11 rfl (by decide) (le_t rfl) (le_t rfl) ?_
  refine sv_if_eq (pc := 5) (tgt := 16) dX12_picked_5 (by decide) (fun _ => ?_) (fun h => absurd (by decide) h)
  refine sv_iconst (pc := 16) (v := (-1)) dX12_picked_16 (by decide) ?_
  refine sv_iret (pc := 17) dX12_picked_17 rfl (le_t rfl) (le_t rfl) ?_
  refine sv_icmp_eq (pc := 1190) (tgt := 1799) dL_law_1190 (by decide) (fun _ => ?_) (fun h => absurd (by decide) h)
  exact kk _ _ _ (le_t rfl) (le_t rfl)
set_option maxHeartbeats 40000000 in
set_option maxRecDepth 100000 in
theorem op_27 (l : Launch) (D : va_G) (c : Nat → ClassId) (H0 : Heap) (b : Nat) (xs : Nat → Int32) (Z : sZT) (x1 x2 x3 x4 x5 x6 : Int32) (hx1 : xs 1 = x1) (hx2 : xs 2 = x2) (hx3 : xs 3 = x3) (hx4 : xs 4 = x4) (hx5 : xs 5 = x5) (hx6 : xs 6 = x6) (kk : ∀ (hp : sHp) (ce sl : Nat), ce ≤ 600000 → sl ≤ 7302250 → sV (gG l D c H0 (b, 7, xs)) mL room_1 Z 1799 [(3, .int 0), (2, .ref 106), (1, .ref 0), (0, .retAddr 0)] [] hp ce sl) : sV (gG l D c H0 (b, 7, xs)) mL room_1 Z 1195 [(3, .int 0), (2, .ref 106), (1, .ref 0), (0, .retAddr 0)] [] (192, tF) 192 297215 := by
  refine sv_aload_n (pc := 1195) dL_law_1195 rfl rfl ?_
  refine sv_aload_nS (pc := 1196) dL_law_1196 rfl rfl ?_
  refine sv_iload_n (pc := 1197) dL_law_1197 rfl rfl ?_
  refine sv_iconst (pc := 1198) (v := 1) dL_law_1198 (by decide) ?_
  refine sw_iadd (pc := 1199) (v := 1) dL_law_1199 (by decide) ?_
  refine sw_sld (pc := 1200) (v := x1) dL_law_1200 (k := 1) (by decide) (by decide) rfl hx1 ?_
  refine sv_aload_nS (pc := 1201) dL_law_1201 rfl rfl ?_
  refine sv_iload_n (pc := 1202) dL_law_1202 rfl rfl ?_
  refine sv_iconst (pc := 1203) (v := 2) dL_law_1203 (by decide) ?_
  refine sw_iadd (pc := 1204) (v := 2) dL_law_1204 (by decide) ?_
  refine sw_sld (pc := 1205) (v := x2) dL_law_1205 (k := 2) (by decide) (by decide) rfl hx2 ?_
  refine sv_aload_nS (pc := 1206) dL_law_1206 rfl rfl ?_
  refine sv_iload_n (pc := 1207) dL_law_1207 rfl rfl ?_
  refine sv_iconst (pc := 1208) (v := 3) dL_law_1208 (by decide) ?_
  refine sw_iadd (pc := 1209) (v := 3) dL_law_1209 (by decide) ?_
  refine sw_sld (pc := 1210) (v := x3) dL_law_1210 (k := 3) (by decide) (by decide) rfl hx3 ?_
  refine sv_aload_nS (pc := 1211) dL_law_1211 rfl rfl ?_
  refine sv_iload_n (pc := 1212) dL_law_1212 rfl rfl ?_
  refine sv_iconst (pc := 1213) (v := 4) dL_law_1213 (by decide) ?_
  refine sw_iadd (pc := 1214) (v := 4) dL_law_1214 (by decide) ?_
  refine sw_sld (pc := 1215) (v := x4) dL_law_1215 (k := 4) (by decide) (by decide) rfl hx4 ?_
  refine sv_callV (pc := 1216) (M' := mX11_heard) (d' := 20) (C' := 0) (S' := 0) (av := [.int x1, .int x2, .int x3, .int x4]) ?_ (gOk _ _ _ _ _) dL_law_1216 (tX11_heard _ _ _ _ _) ⟨wV_X11_heard, wL_X11_heard⟩ wM_DomainHouseLaw_130 (gCX11 _ _ _ _ _) rfl (lt_t rfl) rfl ⟨le_t rfl, le_t rfl⟩ ⟨le_t rfl, le_t rfl⟩ rfl (le_t rfl) (fun _ _ h => h)
  refine sC.of rfl (by decide) (le_t rfl) ?_
  refine sv_aload_n (pc := 0) dX11_heard_0 rfl rfl ?_
  refine sv_iload_n (pc := 1) dX11_heard_1 rfl rfl ?_
  refine sv_callV (pc := 2) (M' := mX11_isTie) (d' := 19) (C' := 0) (S' := 0) (av := [.int x1]) ?_ (gOk _ _ _ _ _) dX11_heard_2 (tX11_isTie _ _ _ _ _) ⟨wV_X11_isTie, wL_X11_isTie⟩ wM_X11_119 (gCX11 _ _ _ _ _) rfl (lt_t rfl) rfl ⟨le_t rfl, le_t rfl⟩ ⟨le_t rfl, le_t rfl⟩ rfl (le_t rfl) (fun _ _ h => h)
  refine sC.of rfl (by decide) (le_t rfl) ?_
  refine sv_iload_n (pc := 0) dX11_isTie_0 rfl rfl ?_
  refine sv_if_lt (pc := 1) (tgt := 19) dX11_isTie_1 (by decide) (fun h_1 => ?_) (fun h_1 => ?_)
  · refine sv_iconst (pc := 19) (v := 0) dX11_isTie_19 (by decide) ?_
    refine sv_zret (pc := 20) dX11_isTie_20 rfl (by decide) (le_t rfl) (le_t rfl) ?_
    refine sv_if_eq (pc := 5) (tgt := 31) dX11_heard_5 (by decide) (fun _ => ?_) (fun h => absurd (by decide) h)
    refine sv_iconst (pc := 31) (v := (-1)) dX11_heard_31 (by decide) ?_
    refine sv_iret (pc := 32) dX11_heard_32 rfl (le_t rfl) (le_t rfl) ?_
    refine sv_aload_n (pc := 1219) dL_law_1219 rfl rfl ?_
    refine sv_aload_nS (pc := 1220) dL_law_1220 rfl rfl ?_
    refine sv_iload_n (pc := 1221) dL_law_1221 rfl rfl ?_
    refine sv_iconst (pc := 1222) (v := 1) dL_law_1222 (by decide) ?_
    refine sw_iadd (pc := 1223) (v := 1) dL_law_1223 (by decide) ?_
    refine sw_sld (pc := 1224) (v := x1) dL_law_1224 (k := 1) (by decide) (by decide) rfl hx1 ?_
    refine sv_aload_nS (pc := 1225) dL_law_1225 rfl rfl ?_
    refine sv_iload_n (pc := 1226) dL_law_1226 rfl rfl ?_
    refine sv_iconst (pc := 1227) (v := 2) dL_law_1227 (by decide) ?_
    refine sw_iadd (pc := 1228) (v := 2) dL_law_1228 (by decide) ?_
    refine sw_sld (pc := 1229) (v := x2) dL_law_1229 (k := 2) (by decide) (by decide) rfl hx2 ?_
    refine sv_aload_nS (pc := 1230) dL_law_1230 rfl rfl ?_
    refine sv_iload_n (pc := 1231) dL_law_1231 rfl rfl ?_
    refine sv_iconst (pc := 1232) (v := 3) dL_law_1232 (by decide) ?_
    refine sw_iadd (pc := 1233) (v := 3) dL_law_1233 (by decide) ?_
    refine sw_sld (pc := 1234) (v := x3) dL_law_1234 (k := 3) (by decide) (by decide) rfl hx3 ?_
    refine sv_aload_nS (pc := 1235) dL_law_1235 rfl rfl ?_
    refine sv_iload_n (pc := 1236) dL_law_1236 rfl rfl ?_
    refine sv_iconst (pc := 1237) (v := 4) dL_law_1237 (by decide) ?_
    refine sw_iadd (pc := 1238) (v := 4) dL_law_1238 (by decide) ?_
    refine sw_sld (pc := 1239) (v := x4) dL_law_1239 (k := 4) (by decide) (by decide) rfl hx4 ?_
    refine sv_callV (pc := 1240) (M' := mX12_heard) (d' := 20) (C' := 0) (S' := 0) (av := [.int x1, .int x2, .int x3, .int x4]) ?_ (gOk _ _ _ _ _) dL_law_1240 (tX12_heard _ _ _ _ _) ⟨wV_X12_heard, wL_X12_heard⟩ wM_DomainHouseLaw_133 (gCX12 _ _ _ _ _) rfl (lt_t rfl) rfl ⟨le_t rfl, le_t rfl⟩ ⟨le_t rfl, le_t rfl⟩ rfl (le_t rfl) (fun _ _ h => h)
    refine sC.of rfl (by decide) (le_t rfl) ?_
    refine sv_aload_n (pc := 0) dX12_heard_0 rfl rfl ?_
    refine sv_iload_n (pc := 1) dX12_heard_1 rfl rfl ?_
    refine sv_callV (pc := 2) (M' := mX12_isTie) (d' := 19) (C' := 0) (S' := 0) (av := [.int x1]) ?_ (gOk _ _ _ _ _) dX12_heard_2 (tX12_isTie _ _ _ _ _) ⟨wV_X12_isTie, wL_X12_isTie⟩ wM_X12_66 (gCX12 _ _ _ _ _) rfl (lt_t rfl) rfl ⟨le_t rfl, le_t rfl⟩ ⟨le_t rfl, le_t rfl⟩ rfl (le_t rfl) (fun _ _ h => h)
    refine sC.of rfl (by decide) (le_t rfl) ?_
    refine sv_iload_n (pc := 0) dX12_isTie_0 rfl rfl ?_
    refine sv_iconst (pc := 1) (v := 0) dX12_isTie_1 (by decide) ?_
    refine sv_aload_n (pc := 2) dX12_isTie_2 rfl rfl ?_
    refine sw_getfield (pc := 3) dX12_isTie_3 (gCX12 _ _ _ _ _) 6 (by decide) wF_X12_37 rfl rfl rfl ?_
    refine sv_iconst (pc := 6) (v := 1) dX12_isTie_6 (by decide) ?_
    refine sw_isub (pc := 7) (v := (-1)) dX12_isTie_7 (by decide) ?_
    refine sv_callS (pc := 8) (M' := mX12_in) (d' := 18) (C' := 0) (S' := 0) (av := [.int x1, .int 0, .int (-1)]) ?_ (gOk _ _ _ _ _) dX12_isTie_8 (tX12_in _ _ _ _ _) wS_X12_in wM_X12_18 ⟨le_t rfl, le_t rfl⟩ ⟨le_t rfl, le_t rfl⟩ rfl (le_t rfl) (fun _ _ h => h)
    refine sC.of rfl (by decide) (le_t rfl) ?_
    refine sv_iload_n (pc := 0) dX12_in_0 rfl rfl ?_
    refine sv_iload_n (pc := 1) dX12_in_1 rfl rfl ?_
    refine sv_icmp_lt (pc := 2) (tgt := 14) dX12_in_2 (by decide) (fun _ => ?_) (fun h => absurd h_1 h)
    refine sv_iconst (pc := 14) (v := 0) dX12_in_14 (by decide) ?_
    refine sv_zret (pc := 15) dX12_in_15 rfl (by decide) (le_t rfl) (le_t rfl) ?_
    refine sv_zret (pc := 11) dX12_isTie_11 rfl (by decide) (le_t rfl) (le_t rfl) ?_
    refine sv_if_eq (pc := 5) (tgt := 35) dX12_heard_5 (by decide) (fun _ => ?_) (fun h => absurd (by decide) h)
    refine sv_iconst (pc := 35) (v := (-1)) dX12_heard_35 (by decide) ?_
    refine sv_iret (pc := 36) dX12_heard_36 rfl (le_t rfl) (le_t rfl) ?_
    refine sv_icmp_eq (pc := 1243) (tgt := 1799) dL_law_1243 (by decide) (fun _ => ?_) (fun h => absurd (by decide) h)
    exact kk _ _ _ (le_t rfl) (le_t rfl)
  refine sv_iload_n (pc := 4) dX11_isTie_4 rfl rfl ?_
  refine sv_aload_n (pc := 5) dX11_isTie_5 rfl rfl ?_
  refine sw_getfield (pc := 6) dX11_isTie_6 (gCX11 _ _ _ _ _) 3 (by decide) wF_X11_26 rfl rfl rfl ?_
  refine sw_getfield (pc := 9) dX11_isTie_9 (gCX10 _ _ _ _ _) 16 (by decide) wF_X11_112 rfl rfl rfl ?_
  refine sv_icmp_ge (pc := 12) (tgt := 19) dX11_isTie_12 (by decide) (fun _ => ?_) (fun h => False.elim (by have a0 := Int32.le_iff_toInt_le.mp (Int32.not_lt.mp h_1); have a1 := Int32.lt_iff_toInt_lt.mp (Int32.not_le.mp h); have e0 : (0 : Int32).toInt = 0 := (by decide); omega))
  refine sv_iconst (pc := 19) (v := 0) dX11_isTie_19 (by decide) ?_
  refine sv_zret (pc := 20) dX11_isTie_20 rfl (by decide) (le_t rfl) (le_t rfl) ?_
  refine sv_if_eq (pc := 5) (tgt := 31) dX11_heard_5 (by decide) (fun _ => ?_) (fun h => absurd (by decide) h)
  refine sv_iconst (pc := 31) (v := (-1)) dX11_heard_31 (by decide) ?_
  refine sv_iret (pc := 32) dX11_heard_32 rfl (le_t rfl) (le_t rfl) ?_
  refine sv_aload_n (pc := 1219) dL_law_1219 rfl rfl ?_
  refine sv_aload_nS (pc := 1220) dL_law_1220 rfl rfl ?_
  refine sv_iload_n (pc := 1221) dL_law_1221 rfl rfl ?_
  refine sv_iconst (pc := 1222) (v := 1) dL_law_1222 (by decide) ?_
  refine sw_iadd (pc := 1223) (v := 1) dL_law_1223 (by decide) ?_
  refine sw_sld (pc := 1224) (v := x1) dL_law_1224 (k := 1) (by decide) (by decide) rfl hx1 ?_
  refine sv_aload_nS (pc := 1225) dL_law_1225 rfl rfl ?_
  refine sv_iload_n (pc := 1226) dL_law_1226 rfl rfl ?_
  refine sv_iconst (pc := 1227) (v := 2) dL_law_1227 (by decide) ?_
  refine sw_iadd (pc := 1228) (v := 2) dL_law_1228 (by decide) ?_
  refine sw_sld (pc := 1229) (v := x2) dL_law_1229 (k := 2) (by decide) (by decide) rfl hx2 ?_
  refine sv_aload_nS (pc := 1230) dL_law_1230 rfl rfl ?_
  refine sv_iload_n (pc := 1231) dL_law_1231 rfl rfl ?_
  refine sv_iconst (pc := 1232) (v := 3) dL_law_1232 (by decide) ?_
  refine sw_iadd (pc := 1233) (v := 3) dL_law_1233 (by decide) ?_
  refine sw_sld (pc := 1234) (v := x3) dL_law_1234 (k := 3) (by decide) (by decide) rfl hx3 ?_
  refine sv_aload_nS (pc := 1235) dL_law_1235 rfl rfl ?_
  refine sv_iload_n (pc := 1236) dL_law_1236 rfl rfl ?_
  refine sv_iconst (pc := 1237) (v := 4) dL_law_1237 (by decide) ?_
  refine sw_iadd (pc := 1238) (v := 4) dL_law_1238 (by decide) ?_
  refine sw_sld (pc := 1239) (v := x4) dL_law_1239 (k := 4) (by decide) (by decide) rfl hx4 ?_
  refine sv_callV (pc := 1240) (M' := mX12_heard) (d' := 20) (C' := 0) (S' := 0) (av := [.int x1, .int x2, .int x3, .int x4]) ?_ (gOk _ _ _ _ _) dL_law_1240 (tX12_heard _ _ _ _ _) ⟨wV_X12_heard, wL_X12_heard⟩ wM_DomainHouseLaw_133 (gCX12 _ _ _ _ _) rfl (lt_t rfl) rfl ⟨le_t rfl, le_t rfl⟩ ⟨le_t rfl, le_t rfl⟩ rfl (le_t rfl) (fun _ _ h => h)
  refine sC.of rfl (by decide) (le_t rfl) ?_
  refine sv_aload_n (pc := 0) dX12_heard_0 rfl rfl ?_
  refine sv_iload_n (pc := 1) dX12_heard_1 rfl rfl ?_
  refine sv_callV (pc := 2) (M' := mX12_isTie) (d' := 19) (C' := 0) (S' := 0) (av := [.int x1]) ?_ (gOk _ _ _ _ _) dX12_heard_2 (tX12_isTie _ _ _ _ _) ⟨wV_X12_isTie, wL_X12_isTie⟩ wM_X12_66 (gCX12 _ _ _ _ _) rfl (lt_t rfl) rfl ⟨le_t rfl, le_t rfl⟩ ⟨le_t rfl, le_t rfl⟩ rfl (le_t rfl) (fun _ _ h => h)
  refine sC.of rfl (by decide) (le_t rfl) ?_
  refine sv_iload_n (pc := 0) dX12_isTie_0 rfl rfl ?_
  refine sv_iconst (pc := 1) (v := 0) dX12_isTie_1 (by decide) ?_
  refine sv_aload_n (pc := 2) dX12_isTie_2 rfl rfl ?_
  refine sw_getfield (pc := 3) dX12_isTie_3 (gCX12 _ _ _ _ _) 6 (by decide) wF_X12_37 rfl rfl rfl ?_
  refine sv_iconst (pc := 6) (v := 1) dX12_isTie_6 (by decide) ?_
  refine sw_isub (pc := 7) (v := (-1)) dX12_isTie_7 (by decide) ?_
  refine sv_callS (pc := 8) (M' := mX12_in) (d' := 18) (C' := 0) (S' := 0) (av := [.int x1, .int 0, .int (-1)]) ?_ (gOk _ _ _ _ _) dX12_isTie_8 (tX12_in _ _ _ _ _) wS_X12_in wM_X12_18 ⟨le_t rfl, le_t rfl⟩ ⟨le_t rfl, le_t rfl⟩ rfl (le_t rfl) (fun _ _ h => h)
  refine sC.of rfl (by decide) (le_t rfl) ?_
  refine sv_iload_n (pc := 0) dX12_in_0 rfl rfl ?_
  refine sv_iload_n (pc := 1) dX12_in_1 rfl rfl ?_
  refine sv_icmp_lt (pc := 2) (tgt := 14) dX12_in_2 (by decide) (fun h => absurd h h_1) (fun _ => ?_)
  refine sv_iload_n (pc := 5) dX12_in_5 rfl rfl ?_
  refine sv_iload_n (pc := 6) dX12_in_6 rfl rfl ?_
  refine sv_icmp_gt (pc := 7) (tgt := 14) dX12_in_7 (by decide) (fun _ => ?_) (fun h => False.elim (by have a0 := Int32.le_iff_toInt_le.mp (Int32.not_lt.mp h_1); have a1 := Int32.le_iff_toInt_le.mp (Int32.not_lt.mp h); have e0 : (-1 : Int32).toInt = -1 := (by decide); have e1 : (0 : Int32).toInt = 0 := (by decide); omega))
  refine sv_iconst (pc := 14) (v := 0) dX12_in_14 (by decide) ?_
  refine sv_zret (pc := 15) dX12_in_15 rfl (by decide) (le_t rfl) (le_t rfl) ?_
  refine sv_zret (pc := 11) dX12_isTie_11 rfl (by decide) (le_t rfl) (le_t rfl) ?_
  refine sv_if_eq (pc := 5) (tgt := 35) dX12_heard_5 (by decide) (fun _ => ?_) (fun h => absurd (by decide) h)
  refine sv_iconst (pc := 35) (v := (-1)) dX12_heard_35 (by decide) ?_
  refine sv_iret (pc := 36) dX12_heard_36 rfl (le_t rfl) (le_t rfl) ?_
  refine sv_icmp_eq (pc := 1243) (tgt := 1799) dL_law_1243 (by decide) (fun _ => ?_) (fun h => absurd (by decide) h)
  exact kk _ _ _ (le_t rfl) (le_t rfl)
set_option maxHeartbeats 40000000 in
set_option maxRecDepth 100000 in
theorem op_28 (l : Launch) (D : va_G) (c : Nat → ClassId) (H0 : Heap) (b : Nat) (xs : Nat → Int32) (Z : sZT) (x1 x2 x3 x4 x5 x6 : Int32) (hx1 : xs 1 = x1) (hx2 : xs 2 = x2) (hx3 : xs 3 = x3) (hx4 : xs 4 = x4) (hx5 : xs 5 = x5) (hx6 : xs 6 = x6) (kk : ∀ (hp : sHp) (ce sl : Nat), ce ≤ 600000 → sl ≤ 7302250 → sV (gG l D c H0 (b, 7, xs)) mL room_1 Z 1799 [(3, .int 0), (2, .ref 106), (1, .ref 0), (0, .retAddr 0)] [] hp ce sl) : sV (gG l D c H0 (b, 7, xs)) mL room_1 Z 1248 [(3, .int 0), (2, .ref 106), (1, .ref 0), (0, .retAddr 0)] [] (192, tF) 192 297215 := by
  refine sv_aload_n (pc := 1248) dL_law_1248 rfl rfl ?_
  refine sv_aload_nS (pc := 1249) dL_law_1249 rfl rfl ?_
  refine sv_iload_n (pc := 1250) dL_law_1250 rfl rfl ?_
  refine sv_iconst (pc := 1251) (v := 1) dL_law_1251 (by decide) ?_
  refine sw_iadd (pc := 1252) (v := 1) dL_law_1252 (by decide) ?_
  refine sw_sld (pc := 1253) (v := x1) dL_law_1253 (k := 1) (by decide) (by decide) rfl hx1 ?_
  refine sv_aload_nS (pc := 1254) dL_law_1254 rfl rfl ?_
  refine sv_iload_n (pc := 1255) dL_law_1255 rfl rfl ?_
  refine sv_iconst (pc := 1256) (v := 2) dL_law_1256 (by decide) ?_
  refine sw_iadd (pc := 1257) (v := 2) dL_law_1257 (by decide) ?_
  refine sw_sld (pc := 1258) (v := x2) dL_law_1258 (k := 2) (by decide) (by decide) rfl hx2 ?_
  refine sv_aload_nS (pc := 1259) dL_law_1259 rfl rfl ?_
  refine sv_iload_n (pc := 1260) dL_law_1260 rfl rfl ?_
  refine sv_iconst (pc := 1261) (v := 3) dL_law_1261 (by decide) ?_
  refine sw_iadd (pc := 1262) (v := 3) dL_law_1262 (by decide) ?_
  refine sw_sld (pc := 1263) (v := x3) dL_law_1263 (k := 3) (by decide) (by decide) rfl hx3 ?_
  refine sv_callV (pc := 1264) (M' := mX11_why) (d' := 20) (C' := 0) (S' := 0) (av := [.int x1, .int x2, .int x3]) ?_ (gOk _ _ _ _ _) dL_law_1264 (tX11_why _ _ _ _ _) ⟨wV_X11_why, wL_X11_why⟩ wM_DomainHouseLaw_134 (gCX11 _ _ _ _ _) rfl (lt_t rfl) rfl ⟨le_t rfl, le_t rfl⟩ ⟨le_t rfl, le_t rfl⟩ rfl (le_t rfl) (fun _ _ h => h)
  refine sC.of rfl (by decide) (le_t rfl) ?_
  refine sv_aload_n (pc := 0) dX11_why_0 rfl rfl ?_
  refine sv_iload_n (pc := 1) dX11_why_1 rfl rfl ?_
  refine sv_callV (pc := 2) (M' := mX11_isTie) (d' := 19) (C' := 0) (S' := 0) (av := [.int x1]) ?_ (gOk _ _ _ _ _) dX11_why_2 (tX11_isTie _ _ _ _ _) ⟨wV_X11_isTie, wL_X11_isTie⟩ wM_X11_119 (gCX11 _ _ _ _ _) rfl (lt_t rfl) rfl ⟨le_t rfl, le_t rfl⟩ ⟨le_t rfl, le_t rfl⟩ rfl (le_t rfl) (fun _ _ h => h)
  refine sC.of rfl (by decide) (le_t rfl) ?_
  refine sv_iload_n (pc := 0) dX11_isTie_0 rfl rfl ?_
  refine sv_if_lt (pc := 1) (tgt := 19) dX11_isTie_1 (by decide) (fun h_1 => ?_) (fun h_1 => ?_)
  · refine sv_iconst (pc := 19) (v := 0) dX11_isTie_19 (by decide) ?_
    refine sv_zret (pc := 20) dX11_isTie_20 rfl (by decide) (le_t rfl) (le_t rfl) ?_
    refine sv_if_eq (pc := 5) (tgt := 23) dX11_why_5 (by decide) (fun _ => ?_) (fun h => absurd (by decide) h)
    refine sv_iconst (pc := 23) (v := (-1)) dX11_why_23 (by decide) ?_
    refine sv_iret (pc := 24) dX11_why_24 rfl (le_t rfl) (le_t rfl) ?_
    refine sv_aload_n (pc := 1267) dL_law_1267 rfl rfl ?_
    refine sv_aload_nS (pc := 1268) dL_law_1268 rfl rfl ?_
    refine sv_iload_n (pc := 1269) dL_law_1269 rfl rfl ?_
    refine sv_iconst (pc := 1270) (v := 1) dL_law_1270 (by decide) ?_
    refine sw_iadd (pc := 1271) (v := 1) dL_law_1271 (by decide) ?_
    refine sw_sld (pc := 1272) (v := x1) dL_law_1272 (k := 1) (by decide) (by decide) rfl hx1 ?_
    refine sv_aload_nS (pc := 1273) dL_law_1273 rfl rfl ?_
    refine sv_iload_n (pc := 1274) dL_law_1274 rfl rfl ?_
    refine sv_iconst (pc := 1275) (v := 2) dL_law_1275 (by decide) ?_
    refine sw_iadd (pc := 1276) (v := 2) dL_law_1276 (by decide) ?_
    refine sw_sld (pc := 1277) (v := x2) dL_law_1277 (k := 2) (by decide) (by decide) rfl hx2 ?_
    refine sv_aload_nS (pc := 1278) dL_law_1278 rfl rfl ?_
    refine sv_iload_n (pc := 1279) dL_law_1279 rfl rfl ?_
    refine sv_iconst (pc := 1280) (v := 3) dL_law_1280 (by decide) ?_
    refine sw_iadd (pc := 1281) (v := 3) dL_law_1281 (by decide) ?_
    refine sw_sld (pc := 1282) (v := x3) dL_law_1282 (k := 3) (by decide) (by decide) rfl hx3 ?_
    refine sv_callV (pc := 1283) (M' := mX12_why) (d' := 20) (C' := 0) (S' := 0) (av := [.int x1, .int x2, .int x3]) ?_ (gOk _ _ _ _ _) dL_law_1283 (tX12_why _ _ _ _ _) ⟨wV_X12_why, wL_X12_why⟩ wM_DomainHouseLaw_137 (gCX12 _ _ _ _ _) rfl (lt_t rfl) rfl ⟨le_t rfl, le_t rfl⟩ ⟨le_t rfl, le_t rfl⟩ rfl (le_t rfl) (fun _ _ h => h)
    refine sC.of rfl (by decide) (le_t rfl) ?_
    refine sv_aload_n (pc := 0) dX12_why_0 rfl rfl ?_
    refine sv_iload_n (pc := 1) dX12_why_1 rfl rfl ?_
    refine sv_callV (pc := 2) (M' := mX12_isTie) (d' := 19) (C' := 0) (S' := 0) (av := [.int x1]) ?_ (gOk _ _ _ _ _) dX12_why_2 (tX12_isTie _ _ _ _ _) ⟨wV_X12_isTie, wL_X12_isTie⟩ wM_X12_66 (gCX12 _ _ _ _ _) rfl (lt_t rfl) rfl ⟨le_t rfl, le_t rfl⟩ ⟨le_t rfl, le_t rfl⟩ rfl (le_t rfl) (fun _ _ h => h)
    refine sC.of rfl (by decide) (le_t rfl) ?_
    refine sv_iload_n (pc := 0) dX12_isTie_0 rfl rfl ?_
    refine sv_iconst (pc := 1) (v := 0) dX12_isTie_1 (by decide) ?_
    refine sv_aload_n (pc := 2) dX12_isTie_2 rfl rfl ?_
    refine sw_getfield (pc := 3) dX12_isTie_3 (gCX12 _ _ _ _ _) 6 (by decide) wF_X12_37 rfl rfl rfl ?_
    refine sv_iconst (pc := 6) (v := 1) dX12_isTie_6 (by decide) ?_
    refine sw_isub (pc := 7) (v := (-1)) dX12_isTie_7 (by decide) ?_
    refine sv_callS (pc := 8) (M' := mX12_in) (d' := 18) (C' := 0) (S' := 0) (av := [.int x1, .int 0, .int (-1)]) ?_ (gOk _ _ _ _ _) dX12_isTie_8 (tX12_in _ _ _ _ _) wS_X12_in wM_X12_18 ⟨le_t rfl, le_t rfl⟩ ⟨le_t rfl, le_t rfl⟩ rfl (le_t rfl) (fun _ _ h => h)
    refine sC.of rfl (by decide) (le_t rfl) ?_
    refine sv_iload_n (pc := 0) dX12_in_0 rfl rfl ?_
    refine sv_iload_n (pc := 1) dX12_in_1 rfl rfl ?_
    refine sv_icmp_lt (pc := 2) (tgt := 14) dX12_in_2 (by decide) (fun _ => ?_) (fun h => absurd h_1 h)
    refine sv_iconst (pc := 14) (v := 0) dX12_in_14 (by decide) ?_
    refine sv_zret (pc := 15) dX12_in_15 rfl (by decide) (le_t rfl) (le_t rfl) ?_
    refine sv_zret (pc := 11) dX12_isTie_11 rfl (by decide) (le_t rfl) (le_t rfl) ?_
    refine sv_if_eq (pc := 5) (tgt := 25) dX12_why_5 (by decide) (fun _ => ?_) (fun h => absurd (by decide) h)
    refine sv_iconst (pc := 25) (v := (-1)) dX12_why_25 (by decide) ?_
    refine sv_iret (pc := 26) dX12_why_26 rfl (le_t rfl) (le_t rfl) ?_
    refine sv_icmp_eq (pc := 1286) (tgt := 1799) dL_law_1286 (by decide) (fun _ => ?_) (fun h => absurd (by decide) h)
    exact kk _ _ _ (le_t rfl) (le_t rfl)
  refine sv_iload_n (pc := 4) dX11_isTie_4 rfl rfl ?_
  refine sv_aload_n (pc := 5) dX11_isTie_5 rfl rfl ?_
  refine sw_getfield (pc := 6) dX11_isTie_6 (gCX11 _ _ _ _ _) 3 (by decide) wF_X11_26 rfl rfl rfl ?_
  refine sw_getfield (pc := 9) dX11_isTie_9 (gCX10 _ _ _ _ _) 16 (by decide) wF_X11_112 rfl rfl rfl ?_
  refine sv_icmp_ge (pc := 12) (tgt := 19) dX11_isTie_12 (by decide) (fun _ => ?_) (fun h => False.elim (by have a0 := Int32.le_iff_toInt_le.mp (Int32.not_lt.mp h_1); have a1 := Int32.lt_iff_toInt_lt.mp (Int32.not_le.mp h); have e0 : (0 : Int32).toInt = 0 := (by decide); omega))
  refine sv_iconst (pc := 19) (v := 0) dX11_isTie_19 (by decide) ?_
  refine sv_zret (pc := 20) dX11_isTie_20 rfl (by decide) (le_t rfl) (le_t rfl) ?_
  refine sv_if_eq (pc := 5) (tgt := 23) dX11_why_5 (by decide) (fun _ => ?_) (fun h => absurd (by decide) h)
  refine sv_iconst (pc := 23) (v := (-1)) dX11_why_23 (by decide) ?_
  refine sv_iret (pc := 24) dX11_why_24 rfl (le_t rfl) (le_t rfl) ?_
  refine sv_aload_n (pc := 1267) dL_law_1267 rfl rfl ?_
  refine sv_aload_nS (pc := 1268) dL_law_1268 rfl rfl ?_
  refine sv_iload_n (pc := 1269) dL_law_1269 rfl rfl ?_
  refine sv_iconst (pc := 1270) (v := 1) dL_law_1270 (by decide) ?_
  refine sw_iadd (pc := 1271) (v := 1) dL_law_1271 (by decide) ?_
  refine sw_sld (pc := 1272) (v := x1) dL_law_1272 (k := 1) (by decide) (by decide) rfl hx1 ?_
  refine sv_aload_nS (pc := 1273) dL_law_1273 rfl rfl ?_
  refine sv_iload_n (pc := 1274) dL_law_1274 rfl rfl ?_
  refine sv_iconst (pc := 1275) (v := 2) dL_law_1275 (by decide) ?_
  refine sw_iadd (pc := 1276) (v := 2) dL_law_1276 (by decide) ?_
  refine sw_sld (pc := 1277) (v := x2) dL_law_1277 (k := 2) (by decide) (by decide) rfl hx2 ?_
  refine sv_aload_nS (pc := 1278) dL_law_1278 rfl rfl ?_
  refine sv_iload_n (pc := 1279) dL_law_1279 rfl rfl ?_
  refine sv_iconst (pc := 1280) (v := 3) dL_law_1280 (by decide) ?_
  refine sw_iadd (pc := 1281) (v := 3) dL_law_1281 (by decide) ?_
  refine sw_sld (pc := 1282) (v := x3) dL_law_1282 (k := 3) (by decide) (by decide) rfl hx3 ?_
  refine sv_callV (pc := 1283) (M' := mX12_why) (d' := 20) (C' := 0) (S' := 0) (av := [.int x1, .int x2, .int x3]) ?_ (gOk _ _ _ _ _) dL_law_1283 (tX12_why _ _ _ _ _) ⟨wV_X12_why, wL_X12_why⟩ wM_DomainHouseLaw_137 (gCX12 _ _ _ _ _) rfl (lt_t rfl) rfl ⟨le_t rfl, le_t rfl⟩ ⟨le_t rfl, le_t rfl⟩ rfl (le_t rfl) (fun _ _ h => h)
  refine sC.of rfl (by decide) (le_t rfl) ?_
  refine sv_aload_n (pc := 0) dX12_why_0 rfl rfl ?_
  refine sv_iload_n (pc := 1) dX12_why_1 rfl rfl ?_
  refine sv_callV (pc := 2) (M' := mX12_isTie) (d' := 19) (C' := 0) (S' := 0) (av := [.int x1]) ?_ (gOk _ _ _ _ _) dX12_why_2 (tX12_isTie _ _ _ _ _) ⟨wV_X12_isTie, wL_X12_isTie⟩ wM_X12_66 (gCX12 _ _ _ _ _) rfl (lt_t rfl) rfl ⟨le_t rfl, le_t rfl⟩ ⟨le_t rfl, le_t rfl⟩ rfl (le_t rfl) (fun _ _ h => h)
  refine sC.of rfl (by decide) (le_t rfl) ?_
  refine sv_iload_n (pc := 0) dX12_isTie_0 rfl rfl ?_
  refine sv_iconst (pc := 1) (v := 0) dX12_isTie_1 (by decide) ?_
  refine sv_aload_n (pc := 2) dX12_isTie_2 rfl rfl ?_
  refine sw_getfield (pc := 3) dX12_isTie_3 (gCX12 _ _ _ _ _) 6 (by decide) wF_X12_37 rfl rfl rfl ?_
  refine sv_iconst (pc := 6) (v := 1) dX12_isTie_6 (by decide) ?_
  refine sw_isub (pc := 7) (v := (-1)) dX12_isTie_7 (by decide) ?_
  refine sv_callS (pc := 8) (M' := mX12_in) (d' := 18) (C' := 0) (S' := 0) (av := [.int x1, .int 0, .int (-1)]) ?_ (gOk _ _ _ _ _) dX12_isTie_8 (tX12_in _ _ _ _ _) wS_X12_in wM_X12_18 ⟨le_t rfl, le_t rfl⟩ ⟨le_t rfl, le_t rfl⟩ rfl (le_t rfl) (fun _ _ h => h)
  refine sC.of rfl (by decide) (le_t rfl) ?_
  refine sv_iload_n (pc := 0) dX12_in_0 rfl rfl ?_
  refine sv_iload_n (pc := 1) dX12_in_1 rfl rfl ?_
  refine sv_icmp_lt (pc := 2) (tgt := 14) dX12_in_2 (by decide) (fun h => absurd h h_1) (fun _ => ?_)
  refine sv_iload_n (pc := 5) dX12_in_5 rfl rfl ?_
  refine sv_iload_n (pc := 6) dX12_in_6 rfl rfl ?_
  refine sv_icmp_gt (pc := 7) (tgt := 14) dX12_in_7 (by decide) (fun _ => ?_) (fun h => False.elim (by have a0 := Int32.le_iff_toInt_le.mp (Int32.not_lt.mp h_1); have a1 := Int32.le_iff_toInt_le.mp (Int32.not_lt.mp h); have e0 : (-1 : Int32).toInt = -1 := (by decide); have e1 : (0 : Int32).toInt = 0 := (by decide); omega))
  refine sv_iconst (pc := 14) (v := 0) dX12_in_14 (by decide) ?_
  refine sv_zret (pc := 15) dX12_in_15 rfl (by decide) (le_t rfl) (le_t rfl) ?_
  refine sv_zret (pc := 11) dX12_isTie_11 rfl (by decide) (le_t rfl) (le_t rfl) ?_
  refine sv_if_eq (pc := 5) (tgt := 25) dX12_why_5 (by decide) (fun _ => ?_) (fun h => absurd (by decide) h)
  refine sv_iconst (pc := 25) (v := (-1)) dX12_why_25 (by decide) ?_
  refine sv_iret (pc := 26) dX12_why_26 rfl (le_t rfl) (le_t rfl) ?_
  refine sv_icmp_eq (pc := 1286) (tgt := 1799) dL_law_1286 (by decide) (fun _ => ?_) (fun h => absurd (by decide) h)
  exact kk _ _ _ (le_t rfl) (le_t rfl)
set_option maxHeartbeats 40000000 in
set_option maxRecDepth 100000 in
theorem op_29 (l : Launch) (D : va_G) (c : Nat → ClassId) (H0 : Heap) (b : Nat) (xs : Nat → Int32) (Z : sZT) (x1 x2 x3 x4 x5 x6 : Int32) (hx1 : xs 1 = x1) (hx2 : xs 2 = x2) (hx3 : xs 3 = x3) (hx4 : xs 4 = x4) (hx5 : xs 5 = x5) (hx6 : xs 6 = x6) (kk : ∀ (hp : sHp) (ce sl : Nat), ce ≤ 600000 → sl ≤ 7302250 → sV (gG l D c H0 (b, 7, xs)) mL room_1 Z 1799 [(3, .int 0), (2, .ref 106), (1, .ref 0), (0, .retAddr 0)] [] hp ce sl) : sV (gG l D c H0 (b, 7, xs)) mL room_1 Z 1291 [(3, .int 0), (2, .ref 106), (1, .ref 0), (0, .retAddr 0)] [] (192, tF) 192 297215 := by
  refine sv_aload_n (pc := 1291) dL_law_1291 rfl rfl ?_
  refine sv_aload_nS (pc := 1292) dL_law_1292 rfl rfl ?_
  refine sv_iload_n (pc := 1293) dL_law_1293 rfl rfl ?_
  refine sv_iconst (pc := 1294) (v := 1) dL_law_1294 (by decide) ?_
  refine sw_iadd (pc := 1295) (v := 1) dL_law_1295 (by decide) ?_
  refine sw_sld (pc := 1296) (v := x1) dL_law_1296 (k := 1) (by decide) (by decide) rfl hx1 ?_
  refine sv_aload_nS (pc := 1297) dL_law_1297 rfl rfl ?_
  refine sv_iload_n (pc := 1298) dL_law_1298 rfl rfl ?_
  refine sv_iconst (pc := 1299) (v := 2) dL_law_1299 (by decide) ?_
  refine sw_iadd (pc := 1300) (v := 2) dL_law_1300 (by decide) ?_
  refine sw_sld (pc := 1301) (v := x2) dL_law_1301 (k := 2) (by decide) (by decide) rfl hx2 ?_
  refine sv_aload_nS (pc := 1302) dL_law_1302 rfl rfl ?_
  refine sv_iload_n (pc := 1303) dL_law_1303 rfl rfl ?_
  refine sv_iconst (pc := 1304) (v := 3) dL_law_1304 (by decide) ?_
  refine sw_iadd (pc := 1305) (v := 3) dL_law_1305 (by decide) ?_
  refine sw_sld (pc := 1306) (v := x3) dL_law_1306 (k := 3) (by decide) (by decide) rfl hx3 ?_
  refine sv_callV (pc := 1307) (M' := mX11_three) (d' := 20) (C' := 0) (S' := 0) (av := [.int x1, .int x2, .int x3]) ?_ (gOk _ _ _ _ _) dL_law_1307 (tX11_three _ _ _ _ _) ⟨wV_X11_three, wL_X11_three⟩ wM_DomainHouseLaw_138 (gCX11 _ _ _ _ _) rfl (lt_t rfl) rfl ⟨le_t rfl, le_t rfl⟩ ⟨le_t rfl, le_t rfl⟩ rfl (le_t rfl) (fun _ _ h => h)
  refine sC.of rfl (by decide) (le_t rfl) ?_
  refine sv_aload_n (pc := 0) dX11_three_0 rfl rfl ?_
  refine sv_iload_n (pc := 1) dX11_three_1 rfl rfl ?_
  refine sv_callV (pc := 2) (M' := mX11_isDomain) (d' := 19) (C' := 0) (S' := 0) (av := [.int x1]) ?_ (gOk _ _ _ _ _) dX11_three_2 (tX11_isDomain _ _ _ _ _) ⟨wV_X11_isDomain, wL_X11_isDomain⟩ wM_X11_105 (gCX11 _ _ _ _ _) rfl (lt_t rfl) rfl ⟨le_t rfl, le_t rfl⟩ ⟨le_t rfl, le_t rfl⟩ rfl (le_t rfl) (fun _ _ h => h)
  refine sC.of rfl (by decide) (le_t rfl) ?_
  refine sv_iload_n (pc := 0) dX11_isDomain_0 rfl rfl ?_
  refine sv_if_lt (pc := 1) (tgt := 19) dX11_isDomain_1 (by decide) (fun h_1 => ?_) (fun h_1 => ?_)
  · refine sv_iconst (pc := 19) (v := 0) dX11_isDomain_19 (by decide) ?_
    refine sv_zret (pc := 20) dX11_isDomain_20 rfl (by decide) (le_t rfl) (le_t rfl) ?_
    refine sv_if_eq (pc := 5) (tgt := 16) dX11_three_5 (by decide) (fun _ => ?_) (fun h => absurd (by decide) h)
    refine sv_iconst (pc := 16) (v := (-1)) dX11_three_16 (by decide) ?_
    refine sv_iret (pc := 17) dX11_three_17 rfl (le_t rfl) (le_t rfl) ?_
    refine sv_aload_n (pc := 1310) dL_law_1310 rfl rfl ?_
    refine sv_aload_nS (pc := 1311) dL_law_1311 rfl rfl ?_
    refine sv_iload_n (pc := 1312) dL_law_1312 rfl rfl ?_
    refine sv_iconst (pc := 1313) (v := 1) dL_law_1313 (by decide) ?_
    refine sw_iadd (pc := 1314) (v := 1) dL_law_1314 (by decide) ?_
    refine sw_sld (pc := 1315) (v := x1) dL_law_1315 (k := 1) (by decide) (by decide) rfl hx1 ?_
    refine sv_aload_nS (pc := 1316) dL_law_1316 rfl rfl ?_
    refine sv_iload_n (pc := 1317) dL_law_1317 rfl rfl ?_
    refine sv_iconst (pc := 1318) (v := 2) dL_law_1318 (by decide) ?_
    refine sw_iadd (pc := 1319) (v := 2) dL_law_1319 (by decide) ?_
    refine sw_sld (pc := 1320) (v := x2) dL_law_1320 (k := 2) (by decide) (by decide) rfl hx2 ?_
    refine sv_aload_nS (pc := 1321) dL_law_1321 rfl rfl ?_
    refine sv_iload_n (pc := 1322) dL_law_1322 rfl rfl ?_
    refine sv_iconst (pc := 1323) (v := 3) dL_law_1323 (by decide) ?_
    refine sw_iadd (pc := 1324) (v := 3) dL_law_1324 (by decide) ?_
    refine sw_sld (pc := 1325) (v := x3) dL_law_1325 (k := 3) (by decide) (by decide) rfl hx3 ?_
    refine sv_callV (pc := 1326) (M' := mX12_three) (d' := 20) (C' := 0) (S' := 0) (av := [.int x1, .int x2, .int x3]) ?_ (gOk _ _ _ _ _) dL_law_1326 (tX12_three _ _ _ _ _) ⟨wV_X12_three, wL_X12_three⟩ wM_DomainHouseLaw_141 (gCX12 _ _ _ _ _) rfl (lt_t rfl) rfl ⟨le_t rfl, le_t rfl⟩ ⟨le_t rfl, le_t rfl⟩ rfl (le_t rfl) (fun _ _ h => h)
    refine sC.of rfl (by decide) (le_t rfl) ?_
    refine sv_aload_n (pc := 0) dX12_three_0 rfl rfl ?_
    refine sv_iload_n (pc := 1) dX12_three_1 rfl rfl ?_
    refine sv_callV (pc := 2) (M' := mX12_isDomain) (d' := 19) (C' := 0) (S' := 0) (av := [.int x1]) ?_ (gOk _ _ _ _ _) dX12_three_2 (tX12_isDomain _ _ _ _ _) ⟨wV_X12_isDomain, wL_X12_isDomain⟩ wM_X12_49 (gCX12 _ _ _ _ _) rfl (lt_t rfl) rfl ⟨le_t rfl, le_t rfl⟩ ⟨le_t rfl, le_t rfl⟩ rfl (le_t rfl) (fun _ _ h => h)
    refine sC.of rfl (by decide) (le_t rfl) ?_
    refine sv_iload_n (pc := 0) dX12_isDomain_0 rfl rfl ?_
    refine sv_iconst (pc := 1) (v := 0) dX12_isDomain_1 (by decide) ?_
    refine sv_aload_n (pc := 2) dX12_isDomain_2 rfl rfl ?_
    refine sw_getfield (pc := 3) dX12_isDomain_3 (gCX12 _ _ _ _ _) 5 (by decide) wF_X12_34 rfl rfl rfl ?_
    refine sv_iconst (pc := 6) (v := 1) dX12_isDomain_6 (by decide) ?_
    refine sw_isub (pc := 7) (v := (-1)) dX12_isDomain_7 (by decide) ?_
    refine sv_callS (pc := 8) (M' := mX12_in) (d' := 18) (C' := 0) (S' := 0) (av := [.int x1, .int 0, .int (-1)]) ?_ (gOk _ _ _ _ _) dX12_isDomain_8 (tX12_in _ _ _ _ _) wS_X12_in wM_X12_18 ⟨le_t rfl, le_t rfl⟩ ⟨le_t rfl, le_t rfl⟩ rfl (le_t rfl) (fun _ _ h => h)
    refine sC.of rfl (by decide) (le_t rfl) ?_
    refine sv_iload_n (pc := 0) dX12_in_0 rfl rfl ?_
    refine sv_iload_n (pc := 1) dX12_in_1 rfl rfl ?_
    refine sv_icmp_lt (pc := 2) (tgt := 14) dX12_in_2 (by decide) (fun _ => ?_) (fun h => absurd h_1 h)
    refine sv_iconst (pc := 14) (v := 0) dX12_in_14 (by decide) ?_
    refine sv_zret (pc := 15) dX12_in_15 rfl (by decide) (le_t rfl) (le_t rfl) ?_
    refine sv_zret (pc := 11) dX12_isDomain_11 rfl (by decide) (le_t rfl) (le_t rfl) ?_
    refine sv_if_eq (pc := 5) (tgt := 16) dX12_three_5 (by decide) (fun _ => ?_) (fun h => absurd (by decide) h)
    refine sv_iconst (pc := 16) (v := (-1)) dX12_three_16 (by decide) ?_
    refine sv_iret (pc := 17) dX12_three_17 rfl (le_t rfl) (le_t rfl) ?_
    refine sv_icmp_eq (pc := 1329) (tgt := 1799) dL_law_1329 (by decide) (fun _ => ?_) (fun h => absurd (by decide) h)
    exact kk _ _ _ (le_t rfl) (le_t rfl)
  refine sv_iload_n (pc := 4) dX11_isDomain_4 rfl rfl ?_
  refine sv_aload_n (pc := 5) dX11_isDomain_5 rfl rfl ?_
  refine sw_getfield (pc := 6) dX11_isDomain_6 (gCX11 _ _ _ _ _) 3 (by decide) wF_X11_26 rfl rfl rfl ?_
  refine sw_getfield (pc := 9) dX11_isDomain_9 (gCX10 _ _ _ _ _) 15 (by decide) wF_X11_98 rfl rfl rfl ?_
  refine sv_icmp_ge (pc := 12) (tgt := 19) dX11_isDomain_12 (by decide) (fun _ => ?_) (fun h => False.elim (by have a0 := Int32.le_iff_toInt_le.mp (Int32.not_lt.mp h_1); have a1 := Int32.lt_iff_toInt_lt.mp (Int32.not_le.mp h); have e0 : (0 : Int32).toInt = 0 := (by decide); omega))
  refine sv_iconst (pc := 19) (v := 0) dX11_isDomain_19 (by decide) ?_
  refine sv_zret (pc := 20) dX11_isDomain_20 rfl (by decide) (le_t rfl) (le_t rfl) ?_
  refine sv_if_eq (pc := 5) (tgt := 16) dX11_three_5 (by decide) (fun _ => ?_) (fun h => absurd (by decide) h)
  refine sv_iconst (pc := 16) (v := (-1)) dX11_three_16 (by decide) ?_
  refine sv_iret (pc := 17) dX11_three_17 rfl (le_t rfl) (le_t rfl) ?_
  refine sv_aload_n (pc := 1310) dL_law_1310 rfl rfl ?_
  refine sv_aload_nS (pc := 1311) dL_law_1311 rfl rfl ?_
  refine sv_iload_n (pc := 1312) dL_law_1312 rfl rfl ?_
  refine sv_iconst (pc := 1313) (v := 1) dL_law_1313 (by decide) ?_
  refine sw_iadd (pc := 1314) (v := 1) dL_law_1314 (by decide) ?_
  refine sw_sld (pc := 1315) (v := x1) dL_law_1315 (k := 1) (by decide) (by decide) rfl hx1 ?_
  refine sv_aload_nS (pc := 1316) dL_law_1316 rfl rfl ?_
  refine sv_iload_n (pc := 1317) dL_law_1317 rfl rfl ?_
  refine sv_iconst (pc := 1318) (v := 2) dL_law_1318 (by decide) ?_
  refine sw_iadd (pc := 1319) (v := 2) dL_law_1319 (by decide) ?_
  refine sw_sld (pc := 1320) (v := x2) dL_law_1320 (k := 2) (by decide) (by decide) rfl hx2 ?_
  refine sv_aload_nS (pc := 1321) dL_law_1321 rfl rfl ?_
  refine sv_iload_n (pc := 1322) dL_law_1322 rfl rfl ?_
  refine sv_iconst (pc := 1323) (v := 3) dL_law_1323 (by decide) ?_
  refine sw_iadd (pc := 1324) (v := 3) dL_law_1324 (by decide) ?_
  refine sw_sld (pc := 1325) (v := x3) dL_law_1325 (k := 3) (by decide) (by decide) rfl hx3 ?_
  refine sv_callV (pc := 1326) (M' := mX12_three) (d' := 20) (C' := 0) (S' := 0) (av := [.int x1, .int x2, .int x3]) ?_ (gOk _ _ _ _ _) dL_law_1326 (tX12_three _ _ _ _ _) ⟨wV_X12_three, wL_X12_three⟩ wM_DomainHouseLaw_141 (gCX12 _ _ _ _ _) rfl (lt_t rfl) rfl ⟨le_t rfl, le_t rfl⟩ ⟨le_t rfl, le_t rfl⟩ rfl (le_t rfl) (fun _ _ h => h)
  refine sC.of rfl (by decide) (le_t rfl) ?_
  refine sv_aload_n (pc := 0) dX12_three_0 rfl rfl ?_
  refine sv_iload_n (pc := 1) dX12_three_1 rfl rfl ?_
  refine sv_callV (pc := 2) (M' := mX12_isDomain) (d' := 19) (C' := 0) (S' := 0) (av := [.int x1]) ?_ (gOk _ _ _ _ _) dX12_three_2 (tX12_isDomain _ _ _ _ _) ⟨wV_X12_isDomain, wL_X12_isDomain⟩ wM_X12_49 (gCX12 _ _ _ _ _) rfl (lt_t rfl) rfl ⟨le_t rfl, le_t rfl⟩ ⟨le_t rfl, le_t rfl⟩ rfl (le_t rfl) (fun _ _ h => h)
  refine sC.of rfl (by decide) (le_t rfl) ?_
  refine sv_iload_n (pc := 0) dX12_isDomain_0 rfl rfl ?_
  refine sv_iconst (pc := 1) (v := 0) dX12_isDomain_1 (by decide) ?_
  refine sv_aload_n (pc := 2) dX12_isDomain_2 rfl rfl ?_
  refine sw_getfield (pc := 3) dX12_isDomain_3 (gCX12 _ _ _ _ _) 5 (by decide) wF_X12_34 rfl rfl rfl ?_
  refine sv_iconst (pc := 6) (v := 1) dX12_isDomain_6 (by decide) ?_
  refine sw_isub (pc := 7) (v := (-1)) dX12_isDomain_7 (by decide) ?_
  refine sv_callS (pc := 8) (M' := mX12_in) (d' := 18) (C' := 0) (S' := 0) (av := [.int x1, .int 0, .int (-1)]) ?_ (gOk _ _ _ _ _) dX12_isDomain_8 (tX12_in _ _ _ _ _) wS_X12_in wM_X12_18 ⟨le_t rfl, le_t rfl⟩ ⟨le_t rfl, le_t rfl⟩ rfl (le_t rfl) (fun _ _ h => h)
  refine sC.of rfl (by decide) (le_t rfl) ?_
  refine sv_iload_n (pc := 0) dX12_in_0 rfl rfl ?_
  refine sv_iload_n (pc := 1) dX12_in_1 rfl rfl ?_
  refine sv_icmp_lt (pc := 2) (tgt := 14) dX12_in_2 (by decide) (fun h => absurd h h_1) (fun _ => ?_)
  refine sv_iload_n (pc := 5) dX12_in_5 rfl rfl ?_
  refine sv_iload_n (pc := 6) dX12_in_6 rfl rfl ?_
  refine sv_icmp_gt (pc := 7) (tgt := 14) dX12_in_7 (by decide) (fun _ => ?_) (fun h => False.elim (by have a0 := Int32.le_iff_toInt_le.mp (Int32.not_lt.mp h_1); have a1 := Int32.le_iff_toInt_le.mp (Int32.not_lt.mp h); have e0 : (-1 : Int32).toInt = -1 := (by decide); have e1 : (0 : Int32).toInt = 0 := (by decide); omega))
  refine sv_iconst (pc := 14) (v := 0) dX12_in_14 (by decide) ?_
  refine sv_zret (pc := 15) dX12_in_15 rfl (by decide) (le_t rfl) (le_t rfl) ?_
  refine sv_zret (pc := 11) dX12_isDomain_11 rfl (by decide) (le_t rfl) (le_t rfl) ?_
  refine sv_if_eq (pc := 5) (tgt := 16) dX12_three_5 (by decide) (fun _ => ?_) (fun h => absurd (by decide) h)
  refine sv_iconst (pc := 16) (v := (-1)) dX12_three_16 (by decide) ?_
  refine sv_iret (pc := 17) dX12_three_17 rfl (le_t rfl) (le_t rfl) ?_
  refine sv_icmp_eq (pc := 1329) (tgt := 1799) dL_law_1329 (by decide) (fun _ => ?_) (fun h => absurd (by decide) h)
  exact kk _ _ _ (le_t rfl) (le_t rfl)
set_option maxHeartbeats 40000000 in
set_option maxRecDepth 100000 in
theorem op_30 (l : Launch) (D : va_G) (c : Nat → ClassId) (H0 : Heap) (b : Nat) (xs : Nat → Int32) (Z : sZT) (x1 x2 x3 x4 x5 x6 : Int32) (hx1 : xs 1 = x1) (hx2 : xs 2 = x2) (hx3 : xs 3 = x3) (hx4 : xs 4 = x4) (hx5 : xs 5 = x5) (hx6 : xs 6 = x6) (kk : ∀ (hp : sHp) (ce sl : Nat), ce ≤ 600000 → sl ≤ 7302250 → sV (gG l D c H0 (b, 7, xs)) mL room_1 Z 1799 [(3, .int 0), (2, .ref 106), (1, .ref 0), (0, .retAddr 0)] [] hp ce sl) : sV (gG l D c H0 (b, 7, xs)) mL room_1 Z 1334 [(3, .int 0), (2, .ref 106), (1, .ref 0), (0, .retAddr 0)] [] (192, tF) 192 297215 := by
  refine sv_aload_n (pc := 1334) dL_law_1334 rfl rfl ?_
  refine sv_callV (pc := 1335) (M' := mX11_message) (d' := 20) (C' := 0) (S' := 0) (av := []) ?_ (gOk _ _ _ _ _) dL_law_1335 (tX11_message _ _ _ _ _) ⟨wV_X11_message, wL_X11_message⟩ wM_DomainHouseLaw_142 (gCX11 _ _ _ _ _) rfl (lt_t rfl) rfl ⟨le_t rfl, le_t rfl⟩ ⟨le_t rfl, le_t rfl⟩ rfl (le_t rfl) (fun _ _ h => h)
  refine sC.of rfl (by decide) (le_t rfl) ?_
  refine sv_aload_n (pc := 0) dX11_message_0 rfl rfl ?_
  refine sw_getfield (pc := 1) dX11_message_1 (gCX11 _ _ _ _ _) 7 (by decide) wF_X11_58 rfl rfl rfl ?_
  refine sv_aload_n (pc := 4) dX11_message_4 rfl rfl ?_
  refine sw_getfield (pc := 5) dX11_message_5 (gCX11 _ _ _ _ _) 0 (by decide) wF_X11_9 rfl rfl rfl ?_
  refine sv_aload_n (pc := 8) dX11_message_8 rfl rfl ?_
  refine sw_getfield (pc := 9) dX11_message_9 (gCX11 _ _ _ _ _) 10 (by decide) wF_X11_76 rfl rfl rfl ?_
  refine sv_callV (pc := 12) (M' := mX3_read) (d' := 19) (C' := 0) (S' := 0) (av := [.ref 1, .int 0]) ?_ (gOk _ _ _ _ _) dX11_message_12 (tX3_read _ _ _ _ _) ⟨wV_X3_read, wL_X3_read⟩ wM_X11_339 (gCX3 _ _ _ _ _) rfl (lt_t rfl) rfl ⟨le_t rfl, le_t rfl⟩ ⟨le_t rfl, le_t rfl⟩ rfl (le_t rfl) (fun _ _ h => h)
  refine sC.of rfl (by decide) (le_t rfl) ?_
  refine sv_aload_n (pc := 0) dX3_read_0 rfl rfl ?_
  refine sv_aload_n (pc := 1) dX3_read_1 rfl rfl ?_
  refine sw_putfield (pc := 2) dX3_read_2 (gCX3 _ _ _ _ _) 4 (by decide) wF_X3_41 rfl rfl rfl (fun _ => rfl) (fun _ => rfl) rfl ?_
  refine sv_aload_n (pc := 5) dX3_read_5 rfl rfl ?_
  refine sv_callV (pc := 6) (M' := mX3_forget) (d' := 18) (C' := 0) (S' := 0) (av := []) ?_ (gOk _ _ _ _ _) dX3_read_6 (tX3_forget _ _ _ _ _) ⟨wV_X3_forget, wL_X3_forget⟩ wM_X3_44 (gCX3 _ _ _ _ _) rfl (lt_t rfl) rfl ⟨le_t rfl, le_t rfl⟩ ⟨le_t rfl, le_t rfl⟩ rfl (le_t rfl) (fun _ _ h => h)
  refine sC.of rfl (by decide) (le_t rfl) ?_
  refine sv_aload_n (pc := 0) dX3_forget_0 rfl rfl ?_
  refine sw_getfield (pc := 1) dX3_forget_1 (gCX3 _ _ _ _ _) 3 (by decide) wF_X3_22 rfl rfl rfl ?_
  refine sv_ldc (pc := 4) dX3_forget_4 wG_X3_21 ?_
  refine sv_callS (pc := 6) (c_fillI _ _ _ _ _ (d := 17) (lt_t rfl) rfl (by decide)) (gOk _ _ _ _ _) dX3_forget_6 (tJ_fillI _ _ _ _ _) wS_J_fillI wM_X3_69 ⟨le_t rfl, le_t rfl⟩ ⟨le_t rfl, le_t rfl⟩ rfl (le_t rfl) ?_
  rintro _ _ ⟨rfl, rfl⟩
  refine sv_aload_n (pc := 9) dX3_forget_9 rfl rfl ?_
  refine sw_getfield (pc := 10) dX3_forget_10 (gCX3 _ _ _ _ _) 0 (by decide) wF_X3_11 rfl rfl rfl ?_
  refine sv_iconst (pc := 13) (v := 0) dX3_forget_13 (by decide) ?_
  refine sv_callS (pc := 14) (c_fillI _ _ _ _ _ (d := 17) (lt_t rfl) rfl (by decide)) (gOk _ _ _ _ _) dX3_forget_14 (tJ_fillI _ _ _ _ _) wS_J_fillI wM_X3_69 ⟨le_t rfl, le_t rfl⟩ ⟨le_t rfl, le_t rfl⟩ rfl (le_t rfl) ?_
  rintro _ _ ⟨rfl, rfl⟩
  refine sv_aload_n (pc := 17) dX3_forget_17 rfl rfl ?_
  refine sw_getfield (pc := 18) dX3_forget_18 (gCX3 _ _ _ _ _) 9 (by decide) wF_X3_28 rfl rfl rfl ?_
  refine sv_iconst (pc := 21) (v := 0) dX3_forget_21 (by decide) ?_
  refine sv_iconst (pc := 22) (v := 0) dX3_forget_22 (by decide) ?_
  refine sv_callV (pc := 23) (M' := mX7_begin) (d' := 17) (C' := 0) (S' := 0) (av := [.int 0, .int 0]) ?_ (gOk _ _ _ _ _) dX3_forget_23 (tX7_begin _ _ _ _ _) ⟨wV_X7_begin, wL_X7_begin⟩ wM_X3_75 (gCX7 _ _ _ _ _) rfl (lt_t rfl) rfl ⟨le_t rfl, le_t rfl⟩ ⟨le_t rfl, le_t rfl⟩ rfl (le_t rfl) (fun _ _ h => h)
  refine sC.of rfl (by decide) (le_t rfl) ?_
  refine sv_aload_n (pc := 0) dX7_begin_0 rfl rfl ?_
  refine sv_iconst (pc := 1) (v := 1) dX7_begin_1 (by decide) ?_
  refine sw_putfield (pc := 2) dX7_begin_2 (gCX7 _ _ _ _ _) 2 (by decide) wF_X7_22 rfl rfl rfl (fun _ => rfl) (fun _ => rfl) rfl ?_
  refine sv_aload_n (pc := 5) dX7_begin_5 rfl rfl ?_
  refine sv_iload_n (pc := 6) dX7_begin_6 rfl rfl ?_
  refine sw_putfield (pc := 7) dX7_begin_7 (gCX7 _ _ _ _ _) 3 (by decide) wF_X7_26 rfl rfl rfl (fun _ => rfl) (fun _ => rfl) rfl ?_
  refine sv_aload_n (pc := 10) dX7_begin_10 rfl rfl ?_
  refine sv_bipush (pc := 11) (v := 100) dX7_begin_11 (by decide) ?_
  refine sw_putfield (pc := 13) dX7_begin_13 (gCX7 _ _ _ _ _) 4 (by decide) wF_X7_29 rfl rfl rfl (fun _ => rfl) (fun _ => rfl) rfl ?_
  refine sv_aload_n (pc := 16) dX7_begin_16 rfl rfl ?_
  refine sv_iload_n (pc := 17) dX7_begin_17 rfl rfl ?_
  refine sw_putfield (pc := 18) dX7_begin_18 (gCX7 _ _ _ _ _) 5 (by decide) wF_X7_32 rfl rfl rfl (fun _ => rfl) (fun _ => rfl) rfl ?_
  refine sv_aload_n (pc := 21) dX7_begin_21 rfl rfl ?_
  refine sv_iconst (pc := 22) (v := 0) dX7_begin_22 (by decide) ?_
  refine sw_putfield (pc := 23) dX7_begin_23 (gCX7 _ _ _ _ _) 6 (by decide) wF_X7_35 rfl rfl rfl (fun _ => rfl) (fun _ => rfl) rfl ?_
  refine sv_aload_n (pc := 26) dX7_begin_26 rfl rfl ?_
  refine sv_iconst (pc := 27) (v := 0) dX7_begin_27 (by decide) ?_
  refine sw_putfield (pc := 28) dX7_begin_28 (gCX7 _ _ _ _ _) 7 (by decide) wF_X7_38 rfl rfl rfl (fun _ => rfl) (fun _ => rfl) rfl ?_
  refine sv_aload_n (pc := 31) dX7_begin_31 rfl rfl ?_
  refine sv_iconst (pc := 32) (v := 0) dX7_begin_32 (by decide) ?_
  refine sw_putfield (pc := 33) dX7_begin_33 (gCX7 _ _ _ _ _) 8 (by decide) wF_X7_41 rfl rfl rfl (fun _ => rfl) (fun _ => rfl) rfl ?_
  refine sv_vret (pc := 36) dX7_begin_36 rfl (le_t rfl) (le_t rfl) ?_
  refine sv_aload_n (pc := 26) dX3_forget_26 rfl rfl ?_
  refine sv_iconst (pc := 27) (v := 0) dX3_forget_27 (by decide) ?_
  refine sw_putfield (pc := 28) dX3_forget_28 (gCX3 _ _ _ _ _) 5 (by decide) wF_X3_79 rfl rfl rfl (fun _ => rfl) (fun _ => rfl) rfl ?_
  refine sv_aload_n (pc := 31) dX3_forget_31 rfl rfl ?_
  refine sv_iconst (pc := 32) (v := 0) dX3_forget_32 (by decide) ?_
  refine sw_putfield (pc := 33) dX3_forget_33 (gCX3 _ _ _ _ _) 6 (by decide) wF_X3_59 rfl rfl rfl (fun _ => rfl) (fun _ => rfl) rfl ?_
  refine sv_aload_n (pc := 36) dX3_forget_36 rfl rfl ?_
  refine sv_iconst (pc := 37) (v := 0) dX3_forget_37 (by decide) ?_
  refine sw_putfield (pc := 38) dX3_forget_38 (gCX3 _ _ _ _ _) 7 (by decide) wF_X3_82 rfl rfl rfl (fun _ => rfl) (fun _ => rfl) rfl ?_
  refine sv_aload_n (pc := 41) dX3_forget_41 rfl rfl ?_
  refine sv_iconst (pc := 42) (v := 0) dX3_forget_42 (by decide) ?_
  refine sw_putfield (pc := 43) dX3_forget_43 (gCX3 _ _ _ _ _) 8 (by decide) wF_X3_85 rfl rfl rfl (fun _ => rfl) (fun _ => rfl) rfl ?_
  refine sv_aload_n (pc := 46) dX3_forget_46 rfl rfl ?_
  refine sv_iconst (pc := 47) (v := 0) dX3_forget_47 (by decide) ?_
  refine sw_putfield (pc := 48) dX3_forget_48 (gCX3 _ _ _ _ _) 13 (by decide) wF_X3_63 rfl rfl rfl (fun _ => rfl) (fun _ => rfl) rfl ?_
  refine sv_aload_n (pc := 51) dX3_forget_51 rfl rfl ?_
  refine sv_iconst (pc := 52) (v := 0) dX3_forget_52 (by decide) ?_
  refine sw_putfield (pc := 53) dX3_forget_53 (gCX3 _ _ _ _ _) 14 (by decide) wF_X3_66 rfl rfl rfl (fun _ => rfl) (fun _ => rfl) rfl ?_
  refine sv_aload_n (pc := 56) dX3_forget_56 rfl rfl ?_
  refine sv_iconst (pc := 57) (v := 0) dX3_forget_57 (by decide) ?_
  refine sw_putfield (pc := 58) dX3_forget_58 (gCX3 _ _ _ _ _) 16 (by decide) wF_X3_51 rfl rfl rfl (fun _ => rfl) (fun _ => rfl) rfl ?_
  refine sv_vret (pc := 61) dX3_forget_61 rfl (le_t rfl) (le_t rfl) ?_
  refine sv_aload_n (pc := 9) dX3_read_9 rfl rfl ?_
  refine sv_iload_n (pc := 10) dX3_read_10 rfl rfl ?_
  refine sv_callV (pc := 11) (M' := mX3_readParts) (d' := 18) (C' := 0) (S' := 0) (av := [.int 0]) ?_ (gOk _ _ _ _ _) dX3_read_11 (tX3_readParts _ _ _ _ _) ⟨wV_X3_readParts, wL_X3_readParts⟩ wM_X3_47 (gCX3 _ _ _ _ _) rfl (lt_t rfl) rfl ⟨le_t rfl, le_t rfl⟩ ⟨le_t rfl, le_t rfl⟩ rfl (le_t rfl) (fun _ _ h => h)
  refine sC.of rfl (by decide) (le_t rfl) ?_
  refine sv_iconst (pc := 0) (v := 2) dX3_readParts_0 (by decide) ?_
  refine sv_istore_n (pc := 1) dX3_readParts_1 rfl (by decide) ?_
  refine sv_iload_n (pc := 2) dX3_readParts_2 rfl rfl ?_
  refine sv_iconst (pc := 3) (v := 2) dX3_readParts_3 (by decide) ?_
  refine sv_icmp_lt (pc := 4) (tgt := 15) dX3_readParts_4 (by decide) (fun _ => ?_) (fun h => absurd (by decide) h)
  refine sv_iload_n (pc := 15) dX3_readParts_15 rfl rfl ?_
  refine sv_iload_n (pc := 16) dX3_readParts_16 rfl rfl ?_
  refine sv_icmp_le (pc := 17) (tgt := 27) dX3_readParts_17 (by decide) (fun h => absurd h (by decide)) (fun _ => ?_)
  refine sv_aload_n (pc := 20) dX3_readParts_20 rfl rfl ?_
  refine sv_iconst (pc := 21) (v := 1) dX3_readParts_21 (by decide) ?_
  refine sv_iconst (pc := 22) (v := 0) dX3_readParts_22 (by decide) ?_
  refine sv_callV (pc := 23) (M' := mX3_note) (d' := 17) (C' := 0) (S' := 0) (av := [.int 1, .int 0]) ?_ (gOk _ _ _ _ _) dX3_readParts_23 (tX3_note _ _ _ _ _) ⟨wV_X3_note, wL_X3_note⟩ wM_X3_92 (gCX3 _ _ _ _ _) rfl (lt_t rfl) rfl ⟨le_t rfl, le_t rfl⟩ ⟨le_t rfl, le_t rfl⟩ rfl (le_t rfl) (fun _ _ h => h)
  refine sC.of rfl (by decide) (le_t rfl) ?_
  refine sv_aload_n (pc := 0) dX3_note_0 rfl rfl ?_
  refine sw_getfield (pc := 1) dX3_note_1 (gCX3 _ _ _ _ _) 3 (by decide) wF_X3_22 rfl rfl rfl ?_
  refine sv_iload_n (pc := 4) dX3_note_4 rfl rfl ?_
  refine sw_iaload (pc := 5) (k := 1) (v := .int (-99999999)) dX3_note_5 rfl rfl rfl (by decide) (by decide) rfl rfl ?_
  refine sv_ldc (pc := 6) dX3_note_6 wG_X3_21 ?_
  refine sv_icmp_ne (pc := 8) (tgt := 18) dX3_note_8 (by decide) (fun h => absurd (by decide) h) (fun _ => ?_)
  refine sv_aload_n (pc := 11) dX3_note_11 rfl rfl ?_
  refine sw_getfield (pc := 12) dX3_note_12 (gCX3 _ _ _ _ _) 3 (by decide) wF_X3_22 rfl rfl rfl ?_
  refine sv_iload_n (pc := 15) dX3_note_15 rfl rfl ?_
  refine sv_iload_n (pc := 16) dX3_note_16 rfl rfl ?_
  refine sw_iastore (pc := 17) (k := 1) (v := .int 0) dX3_note_17 rfl rfl rfl (by decide) (by decide) rfl rfl ?_
  refine sv_vret (pc := 18) dX3_note_18 rfl (le_t rfl) (le_t rfl) ?_
  refine sv_vret (pc := 26) dX3_readParts_26 rfl (le_t rfl) (le_t rfl) ?_
  refine sv_aload_n (pc := 14) dX3_read_14 rfl rfl ?_
  refine sw_getfield (pc := 15) dX3_read_15 (gCX3 _ _ _ _ _) 3 (by decide) wF_X3_22 rfl rfl rfl ?_
  refine sv_iconst (pc := 18) (v := 1) dX3_read_18 (by decide) ?_
  refine sw_iaload (pc := 19) (k := 1) (v := .int 0) dX3_read_19 rfl rfl rfl (by decide) (by decide) rfl rfl ?_
  refine sv_ldc (pc := 20) dX3_read_20 wG_X3_21 ?_
  refine sv_icmp_eq (pc := 22) (tgt := 27) dX3_read_22 (by decide) (fun h => absurd h (by decide)) (fun _ => ?_)
  refine sv_iconst (pc := 25) (v := 1) dX3_read_25 (by decide) ?_
  refine sv_iret (pc := 26) dX3_read_26 rfl (le_t rfl) (le_t rfl) ?_
  refine sv_istore_n (pc := 15) dX11_message_15 rfl (by decide) ?_
  refine sv_aload_n (pc := 16) dX11_message_16 rfl rfl ?_
  refine sv_iconst (pc := 17) (v := 0) dX11_message_17 (by decide) ?_
  refine sw_putfield (pc := 18) dX11_message_18 (gCX11 _ _ _ _ _) 10 (by decide) wF_X11_76 rfl rfl rfl (fun _ => rfl) (fun _ => rfl) rfl ?_
  refine sv_iload_n (pc := 21) dX11_message_21 rfl rfl ?_
  refine sv_iret (pc := 22) dX11_message_22 rfl (le_t rfl) (le_t rfl) ?_
  refine sv_aload_n (pc := 1338) dL_law_1338 rfl rfl ?_
  refine sv_callV (pc := 1339) (M' := mX12_message) (d' := 20) (C' := 0) (S' := 0) (av := []) ?_ (gOk _ _ _ _ _) dL_law_1339 (tX12_message _ _ _ _ _) ⟨wV_X12_message, wL_X12_message⟩ wM_DomainHouseLaw_145 (gCX12 _ _ _ _ _) rfl (lt_t rfl) rfl ⟨le_t rfl, le_t rfl⟩ ⟨le_t rfl, le_t rfl⟩ rfl (le_t rfl) (fun _ _ h => h)
  refine sC.of rfl (by decide) (le_t rfl) ?_
  refine sv_iconst (pc := 0) (v := 0) dX12_message_0 (by decide) ?_
  refine sv_istore_n (pc := 1) dX12_message_1 rfl (by decide) ?_
  refine sv_iload_n (pc := 2) dX12_message_2 rfl rfl ?_
  refine sv_iconst (pc := 3) (v := 4) dX12_message_3 (by decide) ?_
  refine sv_icmp_ge (pc := 4) (tgt := 21) dX12_message_4 (by decide) (fun h => absurd h (by decide)) (fun _ => ?_)
  refine sv_aload_n (pc := 7) dX12_message_7 rfl rfl ?_
  refine sw_getfield (pc := 8) dX12_message_8 (gCX12 _ _ _ _ _) 95 (by decide) wF_X12_478 rfl rfl rfl ?_
  refine sv_iload_n (pc := 11) dX12_message_11 rfl rfl ?_
  refine sv_ldc (pc := 12) dX12_message_12 wG_X12_29 ?_
  refine sw_iastore (pc := 14) (k := 0) (v := .int (-99999999)) dX12_message_14 rfl rfl rfl (by decide) (by decide) rfl rfl ?_
  refine sw_iinc (pc := 15) (v := 1) dX12_message_15 rfl (by decide) (by decide) ?_
  refine sv_goto (pc := 18) (tgt := 2) dX12_message_18 (by decide) ?_
  refine sv_iload_n (pc := 2) dX12_message_2 rfl rfl ?_
  refine sv_iconst (pc := 3) (v := 4) dX12_message_3 (by decide) ?_
  refine sv_icmp_ge (pc := 4) (tgt := 21) dX12_message_4 (by decide) (fun h => absurd h (by decide)) (fun _ => ?_)
  refine sv_aload_n (pc := 7) dX12_message_7 rfl rfl ?_
  refine sw_getfield (pc := 8) dX12_message_8 (gCX12 _ _ _ _ _) 95 (by decide) wF_X12_478 rfl rfl rfl ?_
  refine sv_iload_n (pc := 11) dX12_message_11 rfl rfl ?_
  refine sv_ldc (pc := 12) dX12_message_12 wG_X12_29 ?_
  refine sw_iastore (pc := 14) (k := 1) (v := .int (-99999999)) dX12_message_14 rfl rfl rfl (by decide) (by decide) rfl rfl ?_
  refine sw_iinc (pc := 15) (v := 2) dX12_message_15 rfl (by decide) (by decide) ?_
  refine sv_goto (pc := 18) (tgt := 2) dX12_message_18 (by decide) ?_
  refine sv_iload_n (pc := 2) dX12_message_2 rfl rfl ?_
  refine sv_iconst (pc := 3) (v := 4) dX12_message_3 (by decide) ?_
  refine sv_icmp_ge (pc := 4) (tgt := 21) dX12_message_4 (by decide) (fun h => absurd h (by decide)) (fun _ => ?_)
  refine sv_aload_n (pc := 7) dX12_message_7 rfl rfl ?_
  refine sw_getfield (pc := 8) dX12_message_8 (gCX12 _ _ _ _ _) 95 (by decide) wF_X12_478 rfl rfl rfl ?_
  refine sv_iload_n (pc := 11) dX12_message_11 rfl rfl ?_
  refine sv_ldc (pc := 12) dX12_message_12 wG_X12_29 ?_
  refine sw_iastore (pc := 14) (k := 2) (v := .int (-99999999)) dX12_message_14 rfl rfl rfl (by decide) (by decide) rfl rfl ?_
  refine sw_iinc (pc := 15) (v := 3) dX12_message_15 rfl (by decide) (by decide) ?_
  refine sv_goto (pc := 18) (tgt := 2) dX12_message_18 (by decide) ?_
  refine sv_iload_n (pc := 2) dX12_message_2 rfl rfl ?_
  refine sv_iconst (pc := 3) (v := 4) dX12_message_3 (by decide) ?_
  refine sv_icmp_ge (pc := 4) (tgt := 21) dX12_message_4 (by decide) (fun h => absurd h (by decide)) (fun _ => ?_)
  refine sv_aload_n (pc := 7) dX12_message_7 rfl rfl ?_
  refine sw_getfield (pc := 8) dX12_message_8 (gCX12 _ _ _ _ _) 95 (by decide) wF_X12_478 rfl rfl rfl ?_
  refine sv_iload_n (pc := 11) dX12_message_11 rfl rfl ?_
  refine sv_ldc (pc := 12) dX12_message_12 wG_X12_29 ?_
  refine sw_iastore (pc := 14) (k := 3) (v := .int (-99999999)) dX12_message_14 rfl rfl rfl (by decide) (by decide) rfl rfl ?_
  refine sw_iinc (pc := 15) (v := 4) dX12_message_15 rfl (by decide) (by decide) ?_
  refine sv_goto (pc := 18) (tgt := 2) dX12_message_18 (by decide) ?_
  refine sv_iload_n (pc := 2) dX12_message_2 rfl rfl ?_
  refine sv_iconst (pc := 3) (v := 4) dX12_message_3 (by decide) ?_
  refine sv_icmp_ge (pc := 4) (tgt := 21) dX12_message_4 (by decide) (fun _ => ?_) (fun h => absurd (by decide) h)
  refine sv_iconst (pc := 21) (v := 0) dX12_message_21 (by decide) ?_
  refine sv_istore_n (pc := 22) dX12_message_22 rfl (by decide) ?_
  refine lp_seen rfl rfl rfl rfl rfl (by decide) rfl rfl ?_
  refine sv_aload_n (pc := 43) dX12_message_43 rfl rfl ?_
  refine sv_iconst (pc := 44) (v := 0) dX12_message_44 (by decide) ?_
  refine sw_putfield (pc := 45) dX12_message_45 (gCX12 _ _ _ _ _) 88 (by decide) wF_X12_625 rfl rfl rfl (fun _ => rfl) (fun _ => rfl) rfl ?_
  refine sv_aload_n (pc := 48) dX12_message_48 rfl rfl ?_
  refine sv_iconst (pc := 49) (v := 0) dX12_message_49 (by decide) ?_
  refine sw_putfield (pc := 50) dX12_message_50 (gCX12 _ _ _ _ _) 91 (by decide) wF_X12_628 rfl rfl rfl (fun _ => rfl) (fun _ => rfl) rfl ?_
  refine sv_aload_n (pc := 53) dX12_message_53 rfl rfl ?_
  refine sv_iconst (pc := 54) (v := 0) dX12_message_54 (by decide) ?_
  refine sw_putfield (pc := 55) dX12_message_55 (gCX12 _ _ _ _ _) 93 (by decide) wF_X12_652 rfl rfl rfl (fun _ => rfl) (fun _ => rfl) rfl ?_
  refine sv_aload_n (pc := 58) dX12_message_58 rfl rfl ?_
  refine sv_iconst (pc := 59) (v := 0) dX12_message_59 (by decide) ?_
  refine sw_putfield (pc := 60) dX12_message_60 (gCX12 _ _ _ _ _) 101 (by decide) wF_X12_637 rfl rfl rfl (fun _ => rfl) (fun _ => rfl) rfl ?_
  refine sv_aload_n (pc := 63) dX12_message_63 rfl rfl ?_
  refine sv_iconst (pc := 64) (v := 0) dX12_message_64 (by decide) ?_
  refine sw_putfield (pc := 65) dX12_message_65 (gCX12 _ _ _ _ _) 98 (by decide) wF_X12_631 rfl rfl rfl (fun _ => rfl) (fun _ => rfl) rfl ?_
  refine sv_aload_n (pc := 68) dX12_message_68 rfl rfl ?_
  refine sv_iconst (pc := 69) (v := 0) dX12_message_69 (by decide) ?_
  refine sw_putfield (pc := 70) dX12_message_70 (gCX12 _ _ _ _ _) 99 (by decide) wF_X12_634 rfl rfl rfl (fun _ => rfl) (fun _ => rfl) rfl ?_
  refine sv_sipush (pc := 73) (v := 960) dX12_message_73 (by decide) ?_
  refine sv_istore_n (pc := 76) dX12_message_76 rfl (by decide) ?_
  refine sv_aload_n (pc := 77) dX12_message_77 rfl rfl ?_
  refine sw_getfield (pc := 78) dX12_message_78 (gCX12 _ _ _ _ _) 32 (by decide) wF_X12_148 rfl rfl rfl ?_
  refine sv_iload_n (pc := 81) dX12_message_81 rfl rfl ?_
  refine sv_iconst (pc := 82) (v := 0) dX12_message_82 (by decide) ?_
  refine sw_iastore (pc := 83) (k := 960) (v := .int 0) dX12_message_83 rfl rfl rfl (by decide) (by decide) rfl rfl ?_
  refine sv_aload_n (pc := 84) dX12_message_84 rfl rfl ?_
  refine sw_getfield (pc := 85) dX12_message_85 (gCX12 _ _ _ _ _) 32 (by decide) wF_X12_148 rfl rfl rfl ?_
  refine sv_iload_n (pc := 88) dX12_message_88 rfl rfl ?_
  refine sv_iconst (pc := 89) (v := 1) dX12_message_89 (by decide) ?_
  refine sw_iadd (pc := 90) (v := 961) dX12_message_90 (by decide) ?_
  refine sv_bipush (pc := 91) (v := 100) dX12_message_91 (by decide) ?_
  refine sw_iastore (pc := 93) (k := 961) (v := .int 100) dX12_message_93 rfl rfl rfl (by decide) (by decide) rfl rfl ?_
  refine sv_iconst (pc := 94) (v := 2) dX12_message_94 (by decide) ?_
  refine sv_istore_n (pc := 95) dX12_message_95 rfl (by decide) ?_
  refine sv_lvG (pc := 96) (lv' := [(0, .ref 106), (1, .int 960), (2, .int 2)]) (List.forall_mem_cons.mpr ⟨rfl, List.forall_mem_cons.mpr ⟨rfl, List.forall_mem_cons.mpr ⟨rfl, fun _ h => absurd h List.not_mem_nil⟩⟩⟩) ?_
  refine sv_iload_n (pc := 96) dX12_message_96 rfl rfl ?_
  refine sv_bipush (pc := 97) (v := 6) dX12_message_97 (by decide) ?_
  refine sv_icmp_ge (pc := 99) (tgt := 117) dX12_message_99 (by decide) (fun h => absurd h (by decide)) (fun _ => ?_)
  refine sv_aload_n (pc := 102) dX12_message_102 rfl rfl ?_
  refine sw_getfield (pc := 103) dX12_message_103 (gCX12 _ _ _ _ _) 32 (by decide) wF_X12_148 rfl rfl rfl ?_
  refine sv_iload_n (pc := 106) dX12_message_106 rfl rfl ?_
  refine sv_iload_n (pc := 107) dX12_message_107 rfl rfl ?_
  refine sw_iadd (pc := 108) (v := 962) dX12_message_108 (by decide) ?_
  refine sv_iconst (pc := 109) (v := 0) dX12_message_109 (by decide) ?_
  refine sw_iastore (pc := 110) (k := 962) (v := .int 0) dX12_message_110 rfl rfl rfl (by decide) (by decide) rfl rfl ?_
  refine sw_iinc (pc := 111) (v := 3) dX12_message_111 rfl (by decide) (by decide) ?_
  refine sv_goto (pc := 114) (tgt := 96) dX12_message_114 (by decide) ?_
  refine sv_iload_n (pc := 96) dX12_message_96 rfl rfl ?_
  refine sv_bipush (pc := 97) (v := 6) dX12_message_97 (by decide) ?_
  refine sv_icmp_ge (pc := 99) (tgt := 117) dX12_message_99 (by decide) (fun h => absurd h (by decide)) (fun _ => ?_)
  refine sv_aload_n (pc := 102) dX12_message_102 rfl rfl ?_
  refine sw_getfield (pc := 103) dX12_message_103 (gCX12 _ _ _ _ _) 32 (by decide) wF_X12_148 rfl rfl rfl ?_
  refine sv_iload_n (pc := 106) dX12_message_106 rfl rfl ?_
  refine sv_iload_n (pc := 107) dX12_message_107 rfl rfl ?_
  refine sw_iadd (pc := 108) (v := 963) dX12_message_108 (by decide) ?_
  refine sv_iconst (pc := 109) (v := 0) dX12_message_109 (by decide) ?_
  refine sw_iastore (pc := 110) (k := 963) (v := .int 0) dX12_message_110 rfl rfl rfl (by decide) (by decide) rfl rfl ?_
  refine sw_iinc (pc := 111) (v := 4) dX12_message_111 rfl (by decide) (by decide) ?_
  refine sv_goto (pc := 114) (tgt := 96) dX12_message_114 (by decide) ?_
  refine sv_iload_n (pc := 96) dX12_message_96 rfl rfl ?_
  refine sv_bipush (pc := 97) (v := 6) dX12_message_97 (by decide) ?_
  refine sv_icmp_ge (pc := 99) (tgt := 117) dX12_message_99 (by decide) (fun h => absurd h (by decide)) (fun _ => ?_)
  refine sv_aload_n (pc := 102) dX12_message_102 rfl rfl ?_
  refine sw_getfield (pc := 103) dX12_message_103 (gCX12 _ _ _ _ _) 32 (by decide) wF_X12_148 rfl rfl rfl ?_
  refine sv_iload_n (pc := 106) dX12_message_106 rfl rfl ?_
  refine sv_iload_n (pc := 107) dX12_message_107 rfl rfl ?_
  refine sw_iadd (pc := 108) (v := 964) dX12_message_108 (by decide) ?_
  refine sv_iconst (pc := 109) (v := 0) dX12_message_109 (by decide) ?_
  refine sw_iastore (pc := 110) (k := 964) (v := .int 0) dX12_message_110 rfl rfl rfl (by decide) (by decide) rfl rfl ?_
  refine sw_iinc (pc := 111) (v := 5) dX12_message_111 rfl (by decide) (by decide) ?_
  refine sv_goto (pc := 114) (tgt := 96) dX12_message_114 (by decide) ?_
  refine sv_iload_n (pc := 96) dX12_message_96 rfl rfl ?_
  refine sv_bipush (pc := 97) (v := 6) dX12_message_97 (by decide) ?_
  refine sv_icmp_ge (pc := 99) (tgt := 117) dX12_message_99 (by decide) (fun h => absurd h (by decide)) (fun _ => ?_)
  refine sv_aload_n (pc := 102) dX12_message_102 rfl rfl ?_
  refine sw_getfield (pc := 103) dX12_message_103 (gCX12 _ _ _ _ _) 32 (by decide) wF_X12_148 rfl rfl rfl ?_
  refine sv_iload_n (pc := 106) dX12_message_106 rfl rfl ?_
  refine sv_iload_n (pc := 107) dX12_message_107 rfl rfl ?_
  refine sw_iadd (pc := 108) (v := 965) dX12_message_108 (by decide) ?_
  refine sv_iconst (pc := 109) (v := 0) dX12_message_109 (by decide) ?_
  refine sw_iastore (pc := 110) (k := 965) (v := .int 0) dX12_message_110 rfl rfl rfl (by decide) (by decide) rfl rfl ?_
  refine sw_iinc (pc := 111) (v := 6) dX12_message_111 rfl (by decide) (by decide) ?_
  refine sv_goto (pc := 114) (tgt := 96) dX12_message_114 (by decide) ?_
  refine sv_iload_n (pc := 96) dX12_message_96 rfl rfl ?_
  refine sv_bipush (pc := 97) (v := 6) dX12_message_97 (by decide) ?_
  refine sv_icmp_ge (pc := 99) (tgt := 117) dX12_message_99 (by decide) (fun _ => ?_) (fun h => absurd (by decide) h)
  refine sv_aload_n (pc := 117) dX12_message_117 rfl rfl ?_
  refine sv_iconst (pc := 118) (v := 1) dX12_message_118 (by decide) ?_
  refine sw_putfield (pc := 119) dX12_message_119 (gCX12 _ _ _ _ _) 96 (by decide) wF_X12_655 rfl rfl rfl (fun _ => rfl) (fun _ => rfl) rfl ?_
  refine sv_aload_n (pc := 122) dX12_message_122 rfl rfl ?_
  refine sw_getfield (pc := 123) dX12_message_123 (gCX12 _ _ _ _ _) 1 (by decide) wF_X12_1 rfl rfl rfl ?_
  refine sv_iconst (pc := 126) (v := 2) dX12_message_126 (by decide) ?_
  refine sv_icmp_lt (pc := 127) (tgt := 139) dX12_message_127 (by decide) (fun _ => ?_) (fun h => absurd (by decide) h)
  refine sv_iconst (pc := 139) (v := 0) dX12_message_139 (by decide) ?_
  refine sv_istore_n (pc := 140) dX12_message_140 rfl (by decide) ?_
  refine sv_aload_n (pc := 141) dX12_message_141 rfl rfl ?_
  refine sw_getfield (pc := 142) dX12_message_142 (gCX12 _ _ _ _ _) 1 (by decide) wF_X12_1 rfl rfl rfl ?_
  refine sv_iconst (pc := 145) (v := 2) dX12_message_145 (by decide) ?_
  refine sv_icmp_lt (pc := 146) (tgt := 159) dX12_message_146 (by decide) (fun _ => ?_) (fun h => absurd (by decide) h)
  refine sv_aload_n (pc := 159) dX12_message_159 rfl rfl ?_
  refine sv_iconst (pc := 160) (v := 1) dX12_message_160 (by decide) ?_
  refine sv_iconst (pc := 161) (v := 0) dX12_message_161 (by decide) ?_
  refine sv_callV (pc := 162) (M' := mX12_fails) (d' := 19) (C' := 0) (S' := 0) (av := [.int 1, .int 0]) ?_ (gOk _ _ _ _ _) dX12_message_162 (tX12_fails _ _ _ _ _) ⟨wV_X12_fails, wL_X12_fails⟩ wM_X12_620 (gCX12 _ _ _ _ _) rfl (lt_t rfl) rfl ⟨le_t rfl, le_t rfl⟩ ⟨le_t rfl, le_t rfl⟩ rfl (le_t rfl) (fun _ _ h => h)
  refine sC.of rfl (by decide) (le_t rfl) ?_
  refine sv_aload_n (pc := 0) dX12_fails_0 rfl rfl ?_
  refine sw_getfield (pc := 1) dX12_fails_1 (gCX12 _ _ _ _ _) 95 (by decide) wF_X12_478 rfl rfl rfl ?_
  refine sv_iload_n (pc := 4) dX12_fails_4 rfl rfl ?_
  refine sw_iaload (pc := 5) (k := 1) (v := .int (-99999999)) dX12_fails_5 rfl rfl rfl (by decide) (by decide) rfl rfl ?_
  refine sv_ldc (pc := 6) dX12_fails_6 wG_X12_29 ?_
  refine sv_icmp_ne (pc := 8) (tgt := 18) dX12_fails_8 (by decide) (fun h => absurd (by decide) h) (fun _ => ?_)
  refine sv_aload_n (pc := 11) dX12_fails_11 rfl rfl ?_
  refine sw_getfield (pc := 12) dX12_fails_12 (gCX12 _ _ _ _ _) 95 (by decide) wF_X12_478 rfl rfl rfl ?_
  refine sv_iload_n (pc := 15) dX12_fails_15 rfl rfl ?_
  refine sv_iload_n (pc := 16) dX12_fails_16 rfl rfl ?_
  refine sw_iastore (pc := 17) (k := 1) (v := .int 0) dX12_fails_17 rfl rfl rfl (by decide) (by decide) rfl rfl ?_
  refine sv_vret (pc := 18) dX12_fails_18 rfl (le_t rfl) (le_t rfl) ?_
  refine sv_goto (pc := 165) (tgt := 303) dX12_message_165 (by decide) ?_
  refine sv_aload_n (pc := 303) dX12_message_303 rfl rfl ?_
  refine sv_iconst (pc := 304) (v := 0) dX12_message_304 (by decide) ?_
  refine sw_putfield (pc := 305) dX12_message_305 (gCX12 _ _ _ _ _) 1 (by decide) wF_X12_1 rfl rfl rfl (fun _ => rfl) (fun _ => rfl) rfl ?_
  refine sv_aload_n (pc := 308) dX12_message_308 rfl rfl ?_
  refine sv_aload_n (pc := 309) dX12_message_309 rfl rfl ?_
  refine sw_getfield (pc := 310) dX12_message_310 (gCX12 _ _ _ _ _) 95 (by decide) wF_X12_478 rfl rfl rfl ?_
  refine sv_iconst (pc := 313) (v := 1) dX12_message_313 (by decide) ?_
  refine sw_iaload (pc := 314) (k := 1) (v := .int 0) dX12_message_314 rfl rfl rfl (by decide) (by decide) rfl rfl ?_
  refine sv_ldc (pc := 315) dX12_message_315 wG_X12_29 ?_
  refine sv_icmp_eq (pc := 317) (tgt := 324) dX12_message_317 (by decide) (fun h => absurd h (by decide)) (fun _ => ?_)
  refine sv_iconst (pc := 320) (v := 1) dX12_message_320 (by decide) ?_
  refine sv_goto (pc := 321) (tgt := 325) dX12_message_321 (by decide) ?_
  refine sw_putfield (pc := 325) dX12_message_325 (gCX12 _ _ _ _ _) 97 (by decide) wF_X12_665 rfl rfl rfl (fun _ => rfl) (fun _ => rfl) rfl ?_
  refine sv_aload_n (pc := 328) dX12_message_328 rfl rfl ?_
  refine sw_getfield (pc := 329) dX12_message_329 (gCX12 _ _ _ _ _) 97 (by decide) wF_X12_665 rfl rfl rfl ?_
  refine sv_if_ne (pc := 332) (tgt := 407) dX12_message_332 (by decide) (fun _ => ?_) (fun h => absurd h (by decide))
  refine sv_aload_n (pc := 407) dX12_message_407 rfl rfl ?_
  refine sv_aload_n (pc := 408) dX12_message_408 rfl rfl ?_
  refine sw_getfield (pc := 409) dX12_message_409 (gCX12 _ _ _ _ _) 95 (by decide) wF_X12_478 rfl rfl rfl ?_
  refine sv_iconst (pc := 412) (v := 1) dX12_message_412 (by decide) ?_
  refine sw_iaload (pc := 413) (k := 1) (v := .int 0) dX12_message_413 rfl rfl rfl (by decide) (by decide) rfl rfl ?_
  refine sv_ldc (pc := 414) dX12_message_414 wG_X12_29 ?_
  refine sv_icmp_eq (pc := 416) (tgt := 423) dX12_message_416 (by decide) (fun h => absurd h (by decide)) (fun _ => ?_)
  refine sv_iconst (pc := 419) (v := 1) dX12_message_419 (by decide) ?_
  refine sv_goto (pc := 420) (tgt := 454) dX12_message_420 (by decide) ?_
  refine sw_putfield (pc := 454) dX12_message_454 (gCX12 _ _ _ _ _) 102 (by decide) wF_X12_668 rfl rfl rfl (fun _ => rfl) (fun _ => rfl) rfl ?_
  refine sv_aload_n (pc := 457) dX12_message_457 rfl rfl ?_
  refine sw_getfield (pc := 458) dX12_message_458 (gCX12 _ _ _ _ _) 102 (by decide) wF_X12_668 rfl rfl rfl ?_
  refine sv_iret (pc := 461) dX12_message_461 rfl (le_t rfl) (le_t rfl) ?_
  refine sv_icmp_eq (pc := 1342) (tgt := 1799) dL_law_1342 (by decide) (fun _ => ?_) (fun h => absurd (by decide) h)
  exact kk _ _ _ (le_t rfl) (le_t rfl)
set_option maxHeartbeats 40000000 in
set_option maxRecDepth 100000 in
theorem op_31 (l : Launch) (D : va_G) (c : Nat → ClassId) (H0 : Heap) (b : Nat) (xs : Nat → Int32) (Z : sZT) (x1 x2 x3 x4 x5 x6 : Int32) (hx1 : xs 1 = x1) (hx2 : xs 2 = x2) (hx3 : xs 3 = x3) (hx4 : xs 4 = x4) (hx5 : xs 5 = x5) (hx6 : xs 6 = x6) (kk : ∀ (hp : sHp) (ce sl : Nat), ce ≤ 600000 → sl ≤ 7302250 → sV (gG l D c H0 (b, 7, xs)) mL room_1 Z 1799 [(3, .int 0), (2, .ref 106), (1, .ref 0), (0, .retAddr 0)] [] hp ce sl) : sV (gG l D c H0 (b, 7, xs)) mL room_1 Z 1347 [(3, .int 0), (2, .ref 106), (1, .ref 0), (0, .retAddr 0)] [] (192, tF) 192 297215 := by
  refine sv_aload_n (pc := 1347) dL_law_1347 rfl rfl ?_
  refine sv_aload_nS (pc := 1348) dL_law_1348 rfl rfl ?_
  refine sv_iload_n (pc := 1349) dL_law_1349 rfl rfl ?_
  refine sv_iconst (pc := 1350) (v := 1) dL_law_1350 (by decide) ?_
  refine sw_iadd (pc := 1351) (v := 1) dL_law_1351 (by decide) ?_
  refine sw_sld (pc := 1352) (v := x1) dL_law_1352 (k := 1) (by decide) (by decide) rfl hx1 ?_
  refine sv_callV (pc := 1353) (M' := mX11_part) (d' := 20) (C' := 0) (S' := 0) (av := [.int x1]) ?_ (gOk _ _ _ _ _) dL_law_1353 (tX11_part _ _ _ _ _) ⟨wV_X11_part, wL_X11_part⟩ wM_DomainHouseLaw_146 (gCX11 _ _ _ _ _) rfl (lt_t rfl) rfl ⟨le_t rfl, le_t rfl⟩ ⟨le_t rfl, le_t rfl⟩ rfl (le_t rfl) (fun _ _ h => h)
  refine sC.of rfl (by decide) (le_t rfl) ?_
  refine sv_aload_n (pc := 0) dX11_part_0 rfl rfl ?_
  refine sw_getfield (pc := 1) dX11_part_1 (gCX11 _ _ _ _ _) 7 (by decide) wF_X11_58 rfl rfl rfl ?_
  refine sv_iload_n (pc := 4) dX11_part_4 rfl rfl ?_
  refine sv_callV (pc := 5) (M' := mX3_told) (d' := 19) (C' := 0) (S' := 0) (av := [.int x1]) ?_ (gOk _ _ _ _ _) dX11_part_5 (tX3_told _ _ _ _ _) ⟨wV_X3_told, wL_X3_told⟩ wM_X11_341 (gCX3 _ _ _ _ _) rfl (lt_t rfl) rfl ⟨le_t rfl, le_t rfl⟩ ⟨le_t rfl, le_t rfl⟩ rfl (le_t rfl) (fun _ _ h => h)
  refine sC.of rfl (by decide) (le_t rfl) ?_
  refine sv_iload_n (pc := 0) dX3_told_0 rfl rfl ?_
  refine sv_if_ne (pc := 1) (tgt := 9) dX3_told_1 (by decide) (fun h_1 => ?_) (fun h_1 => ?_)
  · refine sv_aload_n (pc := 9) dX3_told_9 rfl rfl ?_
    refine sw_getfield (pc := 10) dX3_told_10 (gCX3 _ _ _ _ _) 16 (by decide) wF_X3_51 rfl rfl rfl ?_
    refine sv_if_eq (pc := 13) (tgt := 20) dX3_told_13 (by decide) (fun _ => ?_) (fun h => absurd (by decide) h)
    refine sv_ldc (pc := 20) dX3_told_20 wG_X3_21 ?_
    refine sv_iret (pc := 22) dX3_told_22 rfl (le_t rfl) (le_t rfl) ?_
    refine sv_iret (pc := 8) dX11_part_8 rfl (le_t rfl) (le_t rfl) ?_
    refine sv_aload_n (pc := 1356) dL_law_1356 rfl rfl ?_
    refine sv_aload_nS (pc := 1357) dL_law_1357 rfl rfl ?_
    refine sv_iload_n (pc := 1358) dL_law_1358 rfl rfl ?_
    refine sv_iconst (pc := 1359) (v := 1) dL_law_1359 (by decide) ?_
    refine sw_iadd (pc := 1360) (v := 1) dL_law_1360 (by decide) ?_
    refine sw_sld (pc := 1361) (v := x1) dL_law_1361 (k := 1) (by decide) (by decide) rfl hx1 ?_
    refine sv_callV (pc := 1362) (M' := mX12_part) (d' := 20) (C' := 0) (S' := 0) (av := [.int x1]) ?_ (gOk _ _ _ _ _) dL_law_1362 (tX12_part _ _ _ _ _) ⟨wV_X12_part, wL_X12_part⟩ wM_DomainHouseLaw_149 (gCX12 _ _ _ _ _) rfl (lt_t rfl) rfl ⟨le_t rfl, le_t rfl⟩ ⟨le_t rfl, le_t rfl⟩ rfl (le_t rfl) (fun _ _ h => h)
    refine sC.of rfl (by decide) (le_t rfl) ?_
    refine sv_aload_n (pc := 0) dX12_part_0 rfl rfl ?_
    refine sw_getfield (pc := 1) dX12_part_1 (gCX12 _ _ _ _ _) 96 (by decide) wF_X12_655 rfl rfl rfl ?_
    refine sv_if_ne (pc := 4) (tgt := 10) dX12_part_4 (by decide) (fun h => absurd (by decide) h) (fun _ => ?_)
    refine sv_ldc (pc := 7) dX12_part_7 wG_X12_29 ?_
    refine sv_iret (pc := 9) dX12_part_9 rfl (le_t rfl) (le_t rfl) ?_
    refine sv_icmp_eq (pc := 1365) (tgt := 1799) dL_law_1365 (by decide) (fun _ => ?_) (fun h => absurd (by decide) h)
    exact kk _ _ _ (le_t rfl) (le_t rfl)
  refine sv_aload_n (pc := 4) dX3_told_4 rfl rfl ?_
  refine sv_callV (pc := 5) (M' := mX3_placeTold) (d' := 18) (C' := 0) (S' := 0) (av := []) ?_ (gOk _ _ _ _ _) dX3_told_5 (tX3_placeTold _ _ _ _ _) ⟨wV_X3_placeTold, wL_X3_placeTold⟩ wM_X3_153 (gCX3 _ _ _ _ _) rfl (lt_t rfl) rfl ⟨le_t rfl, le_t rfl⟩ ⟨le_t rfl, le_t rfl⟩ rfl (le_t rfl) (fun _ _ h => h)
  refine sC.of rfl (by decide) (le_t rfl) ?_
  refine sv_iconst (pc := 0) (v := 1) dX3_placeTold_0 (by decide) ?_
  refine sv_istore_n (pc := 1) dX3_placeTold_1 rfl (by decide) ?_
  refine sv_iload_n (pc := 2) dX3_placeTold_2 rfl rfl ?_
  refine sv_iconst (pc := 3) (v := 3) dX3_placeTold_3 (by decide) ?_
  refine sv_icmp_gt (pc := 4) (tgt := 31) dX3_placeTold_4 (by decide) (fun h => absurd h (by decide)) (fun _ => ?_)
  refine sv_aload_n (pc := 7) dX3_placeTold_7 rfl rfl ?_
  refine sw_getfield (pc := 8) dX3_placeTold_8 (gCX3 _ _ _ _ _) 3 (by decide) wF_X3_22 rfl rfl rfl ?_
  refine sv_iload_n (pc := 11) dX3_placeTold_11 rfl rfl ?_
  refine sw_iaload (pc := 12) (k := 1) (v := .int (-99999999)) dX3_placeTold_12 rfl rfl rfl (by decide) (by decide) rfl rfl ?_
  refine sv_ldc (pc := 13) dX3_placeTold_13 wG_X3_21 ?_
  refine sv_icmp_eq (pc := 15) (tgt := 25) dX3_placeTold_15 (by decide) (fun _ => ?_) (fun h => absurd (by decide) h)
  refine sw_iinc (pc := 25) (v := 2) dX3_placeTold_25 rfl (by decide) (by decide) ?_
  refine sv_goto (pc := 28) (tgt := 2) dX3_placeTold_28 (by decide) ?_
  refine sv_iload_n (pc := 2) dX3_placeTold_2 rfl rfl ?_
  refine sv_iconst (pc := 3) (v := 3) dX3_placeTold_3 (by decide) ?_
  refine sv_icmp_gt (pc := 4) (tgt := 31) dX3_placeTold_4 (by decide) (fun h => absurd h (by decide)) (fun _ => ?_)
  refine sv_aload_n (pc := 7) dX3_placeTold_7 rfl rfl ?_
  refine sw_getfield (pc := 8) dX3_placeTold_8 (gCX3 _ _ _ _ _) 3 (by decide) wF_X3_22 rfl rfl rfl ?_
  refine sv_iload_n (pc := 11) dX3_placeTold_11 rfl rfl ?_
  refine sw_iaload (pc := 12) (k := 2) (v := .int (-99999999)) dX3_placeTold_12 rfl rfl rfl (by decide) (by decide) rfl rfl ?_
  refine sv_ldc (pc := 13) dX3_placeTold_13 wG_X3_21 ?_
  refine sv_icmp_eq (pc := 15) (tgt := 25) dX3_placeTold_15 (by decide) (fun _ => ?_) (fun h => absurd (by decide) h)
  refine sw_iinc (pc := 25) (v := 3) dX3_placeTold_25 rfl (by decide) (by decide) ?_
  refine sv_goto (pc := 28) (tgt := 2) dX3_placeTold_28 (by decide) ?_
  refine sv_iload_n (pc := 2) dX3_placeTold_2 rfl rfl ?_
  refine sv_iconst (pc := 3) (v := 3) dX3_placeTold_3 (by decide) ?_
  refine sv_icmp_gt (pc := 4) (tgt := 31) dX3_placeTold_4 (by decide) (fun h => absurd h (by decide)) (fun _ => ?_)
  refine sv_aload_n (pc := 7) dX3_placeTold_7 rfl rfl ?_
  refine sw_getfield (pc := 8) dX3_placeTold_8 (gCX3 _ _ _ _ _) 3 (by decide) wF_X3_22 rfl rfl rfl ?_
  refine sv_iload_n (pc := 11) dX3_placeTold_11 rfl rfl ?_
  refine sw_iaload (pc := 12) (k := 3) (v := .int (-99999999)) dX3_placeTold_12 rfl rfl rfl (by decide) (by decide) rfl rfl ?_
  refine sv_ldc (pc := 13) dX3_placeTold_13 wG_X3_21 ?_
  refine sv_icmp_eq (pc := 15) (tgt := 25) dX3_placeTold_15 (by decide) (fun _ => ?_) (fun h => absurd (by decide) h)
  refine sw_iinc (pc := 25) (v := 4) dX3_placeTold_25 rfl (by decide) (by decide) ?_
  refine sv_goto (pc := 28) (tgt := 2) dX3_placeTold_28 (by decide) ?_
  refine sv_iload_n (pc := 2) dX3_placeTold_2 rfl rfl ?_
  refine sv_iconst (pc := 3) (v := 3) dX3_placeTold_3 (by decide) ?_
  refine sv_icmp_gt (pc := 4) (tgt := 31) dX3_placeTold_4 (by decide) (fun _ => ?_) (fun h => absurd (by decide) h)
  refine sv_ldc (pc := 31) dX3_placeTold_31 wG_X3_21 ?_
  refine sv_iret (pc := 33) dX3_placeTold_33 rfl (le_t rfl) (le_t rfl) ?_
  refine sv_iret (pc := 8) dX3_told_8 rfl (le_t rfl) (le_t rfl) ?_
  refine sv_iret (pc := 8) dX11_part_8 rfl (le_t rfl) (le_t rfl) ?_
  refine sv_aload_n (pc := 1356) dL_law_1356 rfl rfl ?_
  refine sv_aload_nS (pc := 1357) dL_law_1357 rfl rfl ?_
  refine sv_iload_n (pc := 1358) dL_law_1358 rfl rfl ?_
  refine sv_iconst (pc := 1359) (v := 1) dL_law_1359 (by decide) ?_
  refine sw_iadd (pc := 1360) (v := 1) dL_law_1360 (by decide) ?_
  refine sw_sld (pc := 1361) (v := x1) dL_law_1361 (k := 1) (by decide) (by decide) rfl hx1 ?_
  refine sv_callV (pc := 1362) (M' := mX12_part) (d' := 20) (C' := 0) (S' := 0) (av := [.int x1]) ?_ (gOk _ _ _ _ _) dL_law_1362 (tX12_part _ _ _ _ _) ⟨wV_X12_part, wL_X12_part⟩ wM_DomainHouseLaw_149 (gCX12 _ _ _ _ _) rfl (lt_t rfl) rfl ⟨le_t rfl, le_t rfl⟩ ⟨le_t rfl, le_t rfl⟩ rfl (le_t rfl) (fun _ _ h => h)
  refine sC.of rfl (by decide) (le_t rfl) ?_
  refine sv_aload_n (pc := 0) dX12_part_0 rfl rfl ?_
  refine sw_getfield (pc := 1) dX12_part_1 (gCX12 _ _ _ _ _) 96 (by decide) wF_X12_655 rfl rfl rfl ?_
  refine sv_if_ne (pc := 4) (tgt := 10) dX12_part_4 (by decide) (fun h => absurd (by decide) h) (fun _ => ?_)
  refine sv_ldc (pc := 7) dX12_part_7 wG_X12_29 ?_
  refine sv_iret (pc := 9) dX12_part_9 rfl (le_t rfl) (le_t rfl) ?_
  refine sv_icmp_eq (pc := 1365) (tgt := 1799) dL_law_1365 (by decide) (fun _ => ?_) (fun h => absurd (by decide) h)
  exact kk _ _ _ (le_t rfl) (le_t rfl)
