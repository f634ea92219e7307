theorem vc_X8_threeInRing_1 {n0 p1 : Int} (h0 : p1 < n0) (h1 : 0 ≤ p1 ∧ p1 ≤ 9) : p1 < n0 := by omega
theorem vc_X8_threeInRing_2 {z5 : Int} (h0 : z5 = (-1)) (h1 : (-1) ≤ z5 ∧ z5 ≤ 2) : (-1) ≤ z5 ∧ z5 ≤ (-1) := by omega
theorem vc_X8_threeInRing_3 {z1211 : Int} (h0 : (11 - z1211) < ((0 : Nat) : Int)) (h1 : 0 ≤ z1211 ∧ z1211 ≤ 10) : False := by omega
theorem vc_X8_threeInRing_4 {n1 z1211 z1219 : Int} (h0 : z1211 < z1219) (h1 : (z1219 = 0 ∨ 0 < n1)) (h2 : 0 ≤ z1211 ∧ z1211 ≤ 10) (h3 : 0 ≤ z1219 ∧ z1219 ≤ 10) : 0 ≤ z1211 ∧ z1211 ≤ 9 := by omega
theorem vc_X8_threeInRing_5 {n1 z1211 z1219 : Int} (h0 : z1211 < z1219) (h1 : (z1219 = 0 ∨ 0 < n1)) (h2 : 0 ≤ z1211 ∧ z1211 ≤ 9) (h3 : 0 ≤ z1219 ∧ z1219 ≤ 10) : 1 ≤ z1219 ∧ z1219 ≤ 10 := by omega
theorem vc_X8_threeInRing_6 {z1798 : Int} (h0 : (11 - z1798) < ((0 : Nat) : Int)) (h1 : 0 ≤ z1798 ∧ z1798 ≤ 10) : False := by omega
theorem vc_X8_threeInRing_7 {n1 z1211 z1219 z1798 : Int} (h0 : z1219 ≤ z1798) (h1 : (z1219 = 0 ∨ 0 < n1)) (h2 : z1211 < z1219) (h3 : 0 ≤ z1211 ∧ z1211 ≤ 9) (h4 : 1 ≤ z1219 ∧ z1219 ≤ 10) (h5 : 0 ≤ z1798 ∧ z1798 ≤ 10) : 1 ≤ z1798 ∧ z1798 ≤ 10 := by omega
theorem vc_X8_threeInRing_8 {N n1 z1211 z1219 z1798 : Int} (h0 : (11 - z1211) < N + 1) (h1 : z1211 < z1219) (h2 : (z1219 = 0 ∨ 0 < n1)) (h3 : z1219 ≤ z1798) (h4 : 0 ≤ z1211 ∧ z1211 ≤ 9) (h5 : 1 ≤ z1219 ∧ z1219 ≤ 10) (h6 : 1 ≤ z1798 ∧ z1798 ≤ 10) : (11 - (z1211 + 1)) < N := by omega
theorem vc_X8_threeInRing_9 {n1 z1211 z1219 z1798 : Int} (h0 : z1798 < z1219) (h1 : (z1219 = 0 ∨ 0 < n1)) (h2 : z1211 < z1219) (h3 : 0 ≤ z1211 ∧ z1211 ≤ 9) (h4 : 1 ≤ z1219 ∧ z1219 ≤ 10) (h5 : 0 ≤ z1798 ∧ z1798 ≤ 10) : 0 ≤ z1798 ∧ z1798 ≤ 9 := by omega
theorem vc_X8_threeInRing_10 {z1819 : Int} (h0 : ¬ z1819 = 0) (h1 : 0 ≤ z1819 ∧ z1819 ≤ 1) : 1 ≤ z1819 ∧ z1819 ≤ 1 := by omega
theorem vc_X8_threeInRing_11 {z2051 : Int} (h0 : (11 - z2051) < ((0 : Nat) : Int)) (h1 : 0 ≤ z2051 ∧ z2051 ≤ 10) : False := by omega
theorem vc_X8_threeInRing_12 {n1 z1211 z1219 z1798 z2051 : Int} (h0 : z1219 ≤ z2051) (h1 : (z1219 = 0 ∨ 0 < n1)) (h2 : z1211 < z1219) (h3 : z1798 < z1219) (h4 : 0 ≤ z1211 ∧ z1211 ≤ 9) (h5 : 1 ≤ z1219 ∧ z1219 ≤ 10) (h6 : 0 ≤ z1798 ∧ z1798 ≤ 9) (h7 : 0 ≤ z2051 ∧ z2051 ≤ 10) : 1 ≤ z2051 ∧ z2051 ≤ 10 := by omega
theorem vc_X8_threeInRing_13 {N n1 z1211 z1219 z1798 z2051 : Int} (h0 : (11 - z1798) < N + 1) (h1 : z1798 < z1219) (h2 : (z1219 = 0 ∨ 0 < n1)) (h3 : z1211 < z1219) (h4 : z1219 ≤ z2051) (h5 : 0 ≤ z1211 ∧ z1211 ≤ 9) (h6 : 1 ≤ z1219 ∧ z1219 ≤ 10) (h7 : 0 ≤ z1798 ∧ z1798 ≤ 9) (h8 : 1 ≤ z2051 ∧ z2051 ≤ 10) : (11 - (z1798 + 1)) < N := by omega
theorem vc_X8_threeInRing_14 {n1 z1211 z1219 z1798 z2051 : Int} (h0 : z2051 < z1219) (h1 : (z1219 = 0 ∨ 0 < n1)) (h2 : z1211 < z1219) (h3 : z1798 < z1219) (h4 : 0 ≤ z1211 ∧ z1211 ≤ 9) (h5 : 1 ≤ z1219 ∧ z1219 ≤ 10) (h6 : 0 ≤ z1798 ∧ z1798 ≤ 9) (h7 : 0 ≤ z2051 ∧ z2051 ≤ 10) : 0 ≤ z2051 ∧ z2051 ≤ 9 := by omega
theorem vc_X8_threeInRing_15 {z2069 : Int} (h0 : z2069 = 0) (h1 : 0 ≤ z2069 ∧ z2069 ≤ 1) : 0 ≤ z2069 ∧ z2069 ≤ 0 := by omega
theorem vc_X8_threeInRing_16 {N n1 z1211 z1219 z1798 z2051 : Int} (h0 : (11 - z2051) < N + 1) (h1 : z2051 < z1219) (h2 : (z1219 = 0 ∨ 0 < n1)) (h3 : z1211 < z1219) (h4 : z1798 < z1219) (h5 : 0 ≤ z1211 ∧ z1211 ≤ 9) (h6 : 1 ≤ z1219 ∧ z1219 ≤ 10) (h7 : 0 ≤ z1798 ∧ z1798 ≤ 9) (h8 : 0 ≤ z2051 ∧ z2051 ≤ 9) : (11 - (z2051 + 1)) < N := by omega
theorem vc_X8_threeInRing_17 {z2069 : Int} (h0 : ¬ z2069 = 0) (h1 : 0 ≤ z2069 ∧ z2069 ≤ 1) : 1 ≤ z2069 ∧ z2069 ≤ 1 := by omega
theorem vc_X8_threeInRing_18 {z2077 : Int} (h0 : z2077 = 0) (h1 : 0 ≤ z2077 ∧ z2077 ≤ 1) : 0 ≤ z2077 ∧ z2077 ≤ 0 := by omega
theorem vc_X8_threeInRing_19 {z2077 : Int} (h0 : ¬ z2077 = 0) (h1 : 0 ≤ z2077 ∧ z2077 ≤ 1) : 1 ≤ z2077 ∧ z2077 ≤ 1 := by omega
theorem vc_X8_threeInRing_20 {p3 : Int} (h0 : ¬ p3 = 0) (h1 : 0 ≤ p3 ∧ p3 ≤ 2) : 1 ≤ p3 ∧ p3 ≤ 2 := by omega
theorem vc_X8_threeInRing_21 {p3 : Int} (h0 : ¬ p3 = 1) (h1 : ¬ p3 = 0) (h2 : 1 ≤ p3 ∧ p3 ≤ 2) : 2 ≤ p3 ∧ p3 ≤ 2 := by omega
theorem vc_X8_threeInRing_22 {p3 : Int} (h0 : p3 = 1) (h1 : ¬ p3 = 0) (h2 : 1 ≤ p3 ∧ p3 ≤ 2) : 1 ≤ p3 ∧ p3 ≤ 1 := by omega
theorem vc_X8_threeInRing_23 {p3 : Int} (h0 : p3 = 0) (h1 : 0 ≤ p3 ∧ p3 ≤ 2) : 0 ≤ p3 ∧ p3 ≤ 0 := by omega
theorem vc_X8_threeInRing_24  : (11 - 0) < ((12 : Nat) : Int) := by omega
theorem vc_X8_threeInRing_25 {z1819 : Int} (h0 : z1819 = 0) (h1 : 0 ≤ z1819 ∧ z1819 ≤ 1) : 0 ≤ z1819 ∧ z1819 ≤ 0 := by omega
theorem vc_X8_threeInRing_26 {N n1 z1211 z1219 z1798 : Int} (h0 : (11 - z1798) < N + 1) (h1 : z1798 < z1219) (h2 : (z1219 = 0 ∨ 0 < n1)) (h3 : z1211 < z1219) (h4 : 0 ≤ z1211 ∧ z1211 ≤ 9) (h5 : 1 ≤ z1219 ∧ z1219 ≤ 10) (h6 : 0 ≤ z1798 ∧ z1798 ≤ 9) : (11 - (z1798 + 1)) < N := by omega
theorem vc_X8_threeInRing_27 {z5 : Int} (h0 : ¬ z5 = (-1)) (h1 : (-1) ≤ z5 ∧ z5 ≤ 2) : 0 ≤ z5 ∧ z5 ≤ 2 := by omega
set_option maxRecDepth 4000 in
set_option maxHeartbeats 4000000 in
theorem c_X8_threeInRing {l : Launch} {D : va_G} {c : Nat → ClassId} {H0 : Heap} {sa : Nat × Nat × (Nat → Int32)} {w : mW} {μ : mM} (hw : mWF w) (hT : mT w μ) {p1 : Int} (hp1 : 0 ≤ p1 ∧ p1 ≤ 9) {p2 : Int} (hp2 : 0 ≤ p2 ∧ p2 ≤ 9) {p3 : Int} (hp3 : 0 ≤ p3 ∧ p3 ≤ 2) (hq0 : p1 < w.2.2.2 0) (hIPC : PC w μ) : sC (gG l D c H0 sa) mX8_threeInRing 42 0 0 [.ref 32, iv p1, iv p2, iv p3] (mk w μ) (qI w [21002, 21003, 21004, 21005, 21006, 21007, 32009, 200002, 200003, 200004, 200005, 200006, 200007, 200008, 200009, 200010, 200011, 201999, 202999] μ (fun z μ1 => ((-2147483648) ≤ z ∧ z ≤ 2147483647) ∧ True)) := by
  refine sC.of rfl (by decide) (le_t rfl) ?_
  refine mr_lvE (lv' := [(0, .ref 32), (1, iv p1), (2, iv p2), (3, iv p3)]) rfl ?_
  refine sv_aload_n (pc := 0) dX8_threeInRing_0 rfl rfl ?_
  refine gf_X8_0 (pc := 1) dX8_threeInRing_1 wF_X8_9 (A_32 hw) hT ?_
  refine gf_X10_3 (pc := 4) dX8_threeInRing_4 wF_X8_162 (A_6 hw) hT ?_
  refine mr_iload_n (pc := 7) (z := p1) dX8_threeInRing_7 rfl rfl ?_
  refine la_10 (pc := 8) dX8_threeInRing_8 (A_10 hw) hT (rIx (n := 10) hp1 rfl) (vc_X8_threeInRing_1 hq0 hp1) fun b1 q2 A3 => ?_
  refine mr_astore (pc := 9) (lv' := [(4, .ref b1), (0, .ref 32), (1, iv p1), (2, iv p2), (3, iv p3)]) dX8_threeInRing_9 (by decide) rfl ?_
  refine sv_aload (pc := 11) dX8_threeInRing_11 rfl ?_
  refine gf_X0_1 (pc := 13) dX8_threeInRing_13 wF_X8_167 A3 hT fun A4 => ?_
  refine mr_iload_n (pc := 16) (z := p2) dX8_threeInRing_16 rfl rfl ?_
  refine la_212 (pc := 17) dX8_threeInRing_17 A4 hT (rIx (n := 10) hp2 rfl) fun z5 q6 h7 => ?_
  refine mr_iconst (pc := 18) (z := (-1)) dX8_threeInRing_18 ?_
  refine mr_icmp_eq (pc := 19) (tgt := 25) dX8_threeInRing_19 (by decide) (r32 h7 rfl) (r32 (rR (x := (-1))) rfl) (fun h8 => ?_) (fun h8 => ?_)
  · have h9 : (-1) ≤ z5 ∧ z5 ≤ (-1) := (vc_X8_threeInRing_2 h8 h7)
    refine sv_aload_n (pc := 25) dX8_threeInRing_25 rfl rfl ?_
    refine mr_iload_n (pc := 26) (z := p1) dX8_threeInRing_26 rfl rfl ?_
    refine mr_iload_n (pc := 27) (z := p2) dX8_threeInRing_27 rfl rfl ?_
    refine mr_cVV (pc := 28) (c_X8_gather hw hT hp1 hp2 hIPC) (gOk _ _ _ _ _) dX8_threeInRing_28 (tX8_gather _ _ _ _ _) ⟨wV_X8_gather, wL_X8_gather⟩ wM_X8_175 (gCX8 _ _ _ _ _) rfl (A_32 hw) rfl ⟨le_t rfl, le_t rfl⟩ ⟨le_t rfl, le_t rfl⟩ rfl (le_t rfl) fun μ10 T11 F12 h13 => ?_
    refine mr_iconst (pc := 31) (z := 0) dX8_threeInRing_31 ?_
    refine mr_istore (pc := 32) (lv' := [(5, iv 0), (4, .ref b1), (0, .ref 32), (1, iv p1), (2, iv p2), (3, iv p3)]) dX8_threeInRing_32 (by decide) rfl ?_
    have L1212 : ∀ (nL1212 : Nat) (z1211 : Int), True → (0 ≤ z1211 ∧ z1211 ≤ 10) → (11 - z1211) < (nL1212 : Int) → sV (gG l D c H0 sa) mX8_threeInRing (sRm 42 0 0) (sZ (gG l D c H0 sa) 0 0 (qI w [21002, 21003, 21004, 21005, 21006, 21007, 32009, 200002, 200003, 200004, 200005, 200006, 200007, 200008, 200009, 200010, 200011, 201999, 202999] μ (fun z μ1 => ((-2147483648) ≤ z ∧ z ≤ 2147483647) ∧ True))) 34 [(0, .ref 32), (3, iv p3), (4, .ref b1), (5, iv z1211)] [] (mk w μ10) 0 0 := by
      intro nL1212
      induction nL1212 with
      | zero => intro z1211 _ h1213 h1217; exact ((vc_X8_threeInRing_3 h1217 h1213)).elim
      | succ nL1212 ih1218 =>
        intro z1211 _ h1213 h1217
        refine mr_iload (pc := 34) (z := z1211) dX8_threeInRing_34 rfl ?_
        refine sv_aload_n (pc := 36) dX8_threeInRing_36 rfl rfl ?_
        refine gf_X8_9 (pc := 37) dX8_threeInRing_37 wF_X8_200 (A_32 hw) T11 fun z1219 q1220 h1221 => ?_
        have h1222 : 0 ≤ z1219 ∧ z1219 ≤ 10 := ⟨h1221.1, h1221.2.1⟩
        refine mr_icmp_ge (pc := 40) (tgt := 188) dX8_threeInRing_40 (by decide) (r32 h1213 rfl) (r32 h1222 rfl) (fun h1223 => ?_) (fun h1223 => ?_)
        · refine mr_ldc (pc := 188) (z := (-99999999)) dX8_threeInRing_188 wG_X8_166 (by decide) ?_
          exact mr_iret dX8_threeInRing_190 rfl (le_t rfl) (le_t rfl) T11 (mF.call mF.refl F12 rfl) ⟨(rW (c := (-2147483648)) (d := 2147483647) (rR (x := (-99999999))) rfl), trivial⟩
        have h1224 : 0 ≤ z1211 ∧ z1211 ≤ 9 := (vc_X8_threeInRing_4 h1223 h1221.2.2 h1213 h1222)
        have h1225 : 1 ≤ z1219 ∧ z1219 ≤ 10 := (vc_X8_threeInRing_5 h1223 h1221.2.2 h1224 h1222)
        refine mr_iconst (pc := 43) (z := 0) dX8_threeInRing_43 ?_
        refine mr_istore (pc := 44) (lv' := [(6, iv 0), (0, .ref 32), (3, iv p3), (4, .ref b1), (5, iv z1211)]) dX8_threeInRing_44 (by decide) rfl ?_
        have L1799 : ∀ (nL1799 : Nat) (z1798 : Int), True → (0 ≤ z1798 ∧ z1798 ≤ 10) → (11 - z1798) < (nL1799 : Int) → sV (gG l D c H0 sa) mX8_threeInRing (sRm 42 0 0) (sZ (gG l D c H0 sa) 0 0 (qI w [21002, 21003, 21004, 21005, 21006, 21007, 32009, 200002, 200003, 200004, 200005, 200006, 200007, 200008, 200009, 200010, 200011, 201999, 202999] μ (fun z μ1 => ((-2147483648) ≤ z ∧ z ≤ 2147483647) ∧ True))) 46 [(0, .ref 32), (3, iv p3), (4, .ref b1), (5, iv z1211), (6, iv z1798)] [] (mk w μ10) 0 0 := by
          intro nL1799
          induction nL1799 with
          | zero => intro z1798 _ h1800 h1804; exact ((vc_X8_threeInRing_6 h1804 h1800)).elim
          | succ nL1799 ih1805 =>
            intro z1798 _ h1800 h1804
            refine mr_iload (pc := 46) (z := z1798) dX8_threeInRing_46 rfl ?_
            refine sv_aload_n (pc := 48) dX8_threeInRing_48 rfl rfl ?_
            refine gk_X8_9 (pc := 49) dX8_threeInRing_49 wF_X8_200 (A_32 hw) q1220 ?_
            refine mr_icmp_ge (pc := 52) (tgt := 182) dX8_threeInRing_52 (by decide) (r32 h1800 rfl) (r32 h1225 rfl) (fun h1806 => ?_) (fun h1806 => ?_)
            · have h1807 : 1 ≤ z1798 ∧ z1798 ≤ 10 := (vc_X8_threeInRing_7 h1806 h1221.2.2 h1223 h1224 h1225 h1800)
              refine mr_iinc (pc := 182) (lv' := [(5, iv (z1211 + 1)), (0, .ref 32), (3, iv p3), (4, .ref b1), (6, iv z1798)]) dX8_threeInRing_182 rfl (by decide) rfl ?_
              refine sv_goto (pc := 185) (tgt := 34) dX8_threeInRing_185 (by decide) ?_
              refine mr_lvS (lv' := [(0, .ref 32), (3, iv p3), (4, .ref b1), (5, iv (z1211 + 1))]) (List.forall_mem_cons.mpr ⟨rfl, List.forall_mem_cons.mpr ⟨rfl, List.forall_mem_cons.mpr ⟨rfl, List.forall_mem_cons.mpr ⟨rfl, fun _ h => absurd h List.not_mem_nil⟩⟩⟩⟩) ?_
              exact ih1218 (z1211 + 1) trivial (rW (c := 0) (d := 10) (rAdd (e := 1) (f := 10) h1224 (rR (x := 1)) rfl) rfl) (vc_X8_threeInRing_8 (nS h1217) h1223 h1221.2.2 h1806 h1224 h1225 h1807)
            have h1808 : 0 ≤ z1798 ∧ z1798 ≤ 9 := (vc_X8_threeInRing_9 h1806 h1221.2.2 h1223 h1224 h1225 h1800)
            refine sv_aload (pc := 55) dX8_threeInRing_55 rfl ?_
            refine sv_aload_n (pc := 57) dX8_threeInRing_57 rfl rfl ?_
            refine gf_X8_4 (pc := 58) dX8_threeInRing_58 wF_X8_34 (A_32 hw) T11 ?_
            refine mr_iload (pc := 61) (z := z1211) dX8_threeInRing_61 rfl ?_
            refine la_35 (pc := 63) dX8_threeInRing_63 (A_35 hw) T11 (rIx (n := 10) h1224 rfl) fun b1809 q1810 A1811 => ?_
            refine sv_aload_n (pc := 64) dX8_threeInRing_64 rfl rfl ?_
            refine gf_X8_4 (pc := 65) dX8_threeInRing_65 wF_X8_34 (A_32 hw) T11 ?_
            refine mr_iload (pc := 68) (z := z1798) dX8_threeInRing_68 rfl ?_
            refine la_35 (pc := 70) dX8_threeInRing_70 (A_35 hw) T11 (rIx (n := 10) h1808 rfl) fun b1812 q1813 A1814 => ?_
            refine mr_cVP (pc := 71) (c_X0_prefers hw T11 A3 A1811 A1814) (gOk _ _ _ _ _) dX8_threeInRing_71 (tX0_prefers _ _ _ _ _) ⟨wV_X0_prefers, wL_X0_prefers⟩ wM_X8_235 (gCX0 _ _ _ _ _) rfl A3 rfl ⟨le_t rfl, le_t rfl⟩ ⟨le_t rfl, le_t rfl⟩ rfl (le_t rfl) fun z1819 h1818 => ?_
            refine mr_if_ne (pc := 74) (tgt := 80) dX8_threeInRing_74 (by decide) (r32 h1818.1 rfl) (fun h1820 => ?_) (fun h1820 => ?_)
            · have h1821 : 1 ≤ z1819 ∧ z1819 ≤ 1 := (vc_X8_threeInRing_10 h1820 h1818.1)
              refine mr_iconst (pc := 80) (z := 0) dX8_threeInRing_80 ?_
              refine mr_istore (pc := 81) (lv' := [(7, iv 0), (0, .ref 32), (3, iv p3), (4, .ref b1), (5, iv z1211), (6, iv z1798)]) dX8_threeInRing_81 (by decide) rfl ?_
              have L2052 : ∀ (nL2052 : Nat) (z2051 : Int), True → (0 ≤ z2051 ∧ z2051 ≤ 10) → (11 - z2051) < (nL2052 : Int) → sV (gG l D c H0 sa) mX8_threeInRing (sRm 42 0 0) (sZ (gG l D c H0 sa) 0 0 (qI w [21002, 21003, 21004, 21005, 21006, 21007, 32009, 200002, 200003, 200004, 200005, 200006, 200007, 200008, 200009, 200010, 200011, 201999, 202999] μ (fun z μ1 => ((-2147483648) ≤ z ∧ z ≤ 2147483647) ∧ True))) 83 [(0, .ref 32), (3, iv p3), (4, .ref b1), (5, iv z1211), (6, iv z1798), (7, iv z2051)] [] (mk w μ10) 0 0 := by
                intro nL2052
                induction nL2052 with
                | zero => intro z2051 _ h2053 h2057; exact ((vc_X8_threeInRing_11 h2057 h2053)).elim
                | succ nL2052 ih2058 =>
                  intro z2051 _ h2053 h2057
                  refine mr_iload (pc := 83) (z := z2051) dX8_threeInRing_83 rfl ?_
                  refine sv_aload_n (pc := 85) dX8_threeInRing_85 rfl rfl ?_
                  refine gk_X8_9 (pc := 86) dX8_threeInRing_86 wF_X8_200 (A_32 hw) q1220 ?_
                  refine mr_icmp_ge (pc := 89) (tgt := 176) dX8_threeInRing_89 (by decide) (r32 h2053 rfl) (r32 h1225 rfl) (fun h2059 => ?_) (fun h2059 => ?_)
                  · have h2060 : 1 ≤ z2051 ∧ z2051 ≤ 10 := (vc_X8_threeInRing_12 h2059 h1221.2.2 h1223 h1806 h1224 h1225 h1808 h2053)
                    refine mr_iinc (pc := 176) (lv' := [(6, iv (z1798 + 1)), (0, .ref 32), (3, iv p3), (4, .ref b1), (5, iv z1211), (7, iv z2051)]) dX8_threeInRing_176 rfl (by decide) rfl ?_
                    refine sv_goto (pc := 179) (tgt := 46) dX8_threeInRing_179 (by decide) ?_
                    refine mr_lvS (lv' := [(0, .ref 32), (3, iv p3), (4, .ref b1), (5, iv z1211), (6, iv (z1798 + 1))]) (List.forall_mem_cons.mpr ⟨rfl, List.forall_mem_cons.mpr ⟨rfl, List.forall_mem_cons.mpr ⟨rfl, List.forall_mem_cons.mpr ⟨rfl, List.forall_mem_cons.mpr ⟨rfl, fun _ h => absurd h List.not_mem_nil⟩⟩⟩⟩⟩) ?_
                    exact ih1805 (z1798 + 1) trivial (rW (c := 0) (d := 10) (rAdd (e := 1) (f := 10) h1808 (rR (x := 1)) rfl) rfl) (vc_X8_threeInRing_13 (nS h1804) h1806 h1221.2.2 h1223 h2059 h1224 h1225 h1808 h2060)
                  have h2061 : 0 ≤ z2051 ∧ z2051 ≤ 9 := (vc_X8_threeInRing_14 h2059 h1221.2.2 h1223 h1806 h1224 h1225 h1808 h2053)
                  refine sv_aload (pc := 92) dX8_threeInRing_92 rfl ?_
                  refine sv_aload_n (pc := 94) dX8_threeInRing_94 rfl rfl ?_
                  refine gf_X8_4 (pc := 95) dX8_threeInRing_95 wF_X8_34 (A_32 hw) T11 ?_
                  refine mr_iload (pc := 98) (z := z1798) dX8_threeInRing_98 rfl ?_
                  refine lk_35 (pc := 100) dX8_threeInRing_100 (A_35 hw) (rIx (n := 10) h1808 rfl) q1813 ?_
                  refine sv_aload_n (pc := 101) dX8_threeInRing_101 rfl rfl ?_
                  refine gf_X8_4 (pc := 102) dX8_threeInRing_102 wF_X8_34 (A_32 hw) T11 ?_
                  refine mr_iload (pc := 105) (z := z2051) dX8_threeInRing_105 rfl ?_
                  refine la_35 (pc := 107) dX8_threeInRing_107 (A_35 hw) T11 (rIx (n := 10) h2061 rfl) fun b2062 q2063 A2064 => ?_
                  refine mr_cVP (pc := 108) (c_X0_prefers hw T11 A3 A1814 A2064) (gOk _ _ _ _ _) dX8_threeInRing_108 (tX0_prefers _ _ _ _ _) ⟨wV_X0_prefers, wL_X0_prefers⟩ wM_X8_235 (gCX0 _ _ _ _ _) rfl A3 rfl ⟨le_t rfl, le_t rfl⟩ ⟨le_t rfl, le_t rfl⟩ rfl (le_t rfl) fun z2069 h2068 => ?_
                  refine mr_if_eq (pc := 111) (tgt := 170) dX8_threeInRing_111 (by decide) (r32 h2068.1 rfl) (fun h2070 => ?_) (fun h2070 => ?_)
                  · have h2071 : 0 ≤ z2069 ∧ z2069 ≤ 0 := (vc_X8_threeInRing_15 h2070 h2068.1)
                    refine mr_iinc (pc := 170) (lv' := [(7, iv (z2051 + 1)), (0, .ref 32), (3, iv p3), (4, .ref b1), (5, iv z1211), (6, iv z1798)]) dX8_threeInRing_170 rfl (by decide) rfl ?_
                    refine sv_goto (pc := 173) (tgt := 83) dX8_threeInRing_173 (by decide) ?_
                    refine mr_lvS (lv' := [(0, .ref 32), (3, iv p3), (4, .ref b1), (5, iv z1211), (6, iv z1798), (7, iv (z2051 + 1))]) (List.forall_mem_cons.mpr ⟨rfl, List.forall_mem_cons.mpr ⟨rfl, List.forall_mem_cons.mpr ⟨rfl, List.forall_mem_cons.mpr ⟨rfl, List.forall_mem_cons.mpr ⟨rfl, List.forall_mem_cons.mpr ⟨rfl, fun _ h => absurd h List.not_mem_nil⟩⟩⟩⟩⟩⟩) ?_
                    exact ih2058 (z2051 + 1) trivial (rW (c := 0) (d := 10) (rAdd (e := 1) (f := 10) h2061 (rR (x := 1)) rfl) rfl) (vc_X8_threeInRing_16 (nS h2057) h2059 h1221.2.2 h1223 h1806 h1224 h1225 h1808 h2061)
                  have h2072 : 1 ≤ z2069 ∧ z2069 ≤ 1 := (vc_X8_threeInRing_17 h2070 h2068.1)
                  refine sv_aload (pc := 114) dX8_threeInRing_114 rfl ?_
                  refine sv_aload_n (pc := 116) dX8_threeInRing_116 rfl rfl ?_
                  refine gf_X8_4 (pc := 117) dX8_threeInRing_117 wF_X8_34 (A_32 hw) T11 ?_
                  refine mr_iload (pc := 120) (z := z2051) dX8_threeInRing_120 rfl ?_
                  refine lk_35 (pc := 122) dX8_threeInRing_122 (A_35 hw) (rIx (n := 10) h2061 rfl) q2063 ?_
                  refine sv_aload_n (pc := 123) dX8_threeInRing_123 rfl rfl ?_
                  refine gf_X8_4 (pc := 124) dX8_threeInRing_124 wF_X8_34 (A_32 hw) T11 ?_
                  refine mr_iload (pc := 127) (z := z1211) dX8_threeInRing_127 rfl ?_
                  refine lk_35 (pc := 129) dX8_threeInRing_129 (A_35 hw) (rIx (n := 10) h1224 rfl) q1810 ?_
                  refine mr_cVP (pc := 130) (c_X0_prefers hw T11 A3 A2064 A1811) (gOk _ _ _ _ _) dX8_threeInRing_130 (tX0_prefers _ _ _ _ _) ⟨wV_X0_prefers, wL_X0_prefers⟩ wM_X8_235 (gCX0 _ _ _ _ _) rfl A3 rfl ⟨le_t rfl, le_t rfl⟩ ⟨le_t rfl, le_t rfl⟩ rfl (le_t rfl) fun z2077 h2076 => ?_
                  refine mr_if_eq (pc := 133) (tgt := 170) dX8_threeInRing_133 (by decide) (r32 h2076.1 rfl) (fun h2078 => ?_) (fun h2078 => ?_)
                  · have h2079 : 0 ≤ z2077 ∧ z2077 ≤ 0 := (vc_X8_threeInRing_18 h2078 h2076.1)
                    refine mr_iinc (pc := 170) (lv' := [(7, iv (z2051 + 1)), (0, .ref 32), (3, iv p3), (4, .ref b1), (5, iv z1211), (6, iv z1798)]) dX8_threeInRing_170 rfl (by decide) rfl ?_
                    refine sv_goto (pc := 173) (tgt := 83) dX8_threeInRing_173 (by decide) ?_
                    refine mr_lvS (lv' := [(0, .ref 32), (3, iv p3), (4, .ref b1), (5, iv z1211), (6, iv z1798), (7, iv (z2051 + 1))]) (List.forall_mem_cons.mpr ⟨rfl, List.forall_mem_cons.mpr ⟨rfl, List.forall_mem_cons.mpr ⟨rfl, List.forall_mem_cons.mpr ⟨rfl, List.forall_mem_cons.mpr ⟨rfl, List.forall_mem_cons.mpr ⟨rfl, fun _ h => absurd h List.not_mem_nil⟩⟩⟩⟩⟩⟩) ?_
                    exact ih2058 (z2051 + 1) trivial (rW (c := 0) (d := 10) (rAdd (e := 1) (f := 10) h2061 (rR (x := 1)) rfl) rfl) (vc_X8_threeInRing_16 (nS h2057) h2059 h1221.2.2 h1223 h1806 h1224 h1225 h1808 h2061)
                  have h2080 : 1 ≤ z2077 ∧ z2077 ≤ 1 := (vc_X8_threeInRing_19 h2078 h2076.1)
                  refine mr_iload_n (pc := 136) (z := p3) dX8_threeInRing_136 rfl rfl ?_
                  have J2087 : ∀ (z2085 : Int), ((0 ≤ z2085 ∧ z2085 ≤ 9)) → sV (gG l D c H0 sa) mX8_threeInRing (sRm 42 0 0) (sZ (gG l D c H0 sa) 0 0 (qI w [21002, 21003, 21004, 21005, 21006, 21007, 32009, 200002, 200003, 200004, 200005, 200006, 200007, 200008, 200009, 200010, 200011, 201999, 202999] μ (fun z μ1 => ((-2147483648) ≤ z ∧ z ≤ 2147483647) ∧ True))) 157 [(0, .ref 32)] [iv z2085] (mk w μ10) 0 0 := by
                    intro z2085 h2086
                    refine mr_istore (pc := 157) (lv' := [(8, iv z2085), (0, .ref 32)]) dX8_threeInRing_157 (by decide) rfl ?_
                    refine sv_aload_n (pc := 159) dX8_threeInRing_159 rfl rfl ?_
                    refine gf_X8_4 (pc := 160) dX8_threeInRing_160 wF_X8_34 (A_32 hw) T11 ?_
                    refine mr_iload (pc := 163) (z := z2085) dX8_threeInRing_163 rfl ?_
                    refine la_35 (pc := 165) dX8_threeInRing_165 (A_35 hw) T11 (rIx (n := 10) h2086 rfl) fun b2088 q2089 A2090 => ?_
                    refine gf_X7_10 (pc := 166) dX8_threeInRing_166 wF_X8_188 A2090 T11 fun z2091 q2092 h2093 => ?_
                    have h2094 : 0 ≤ z2091 ∧ z2091 ≤ 19 := ⟨h2093.1, h2093.2.1⟩
                    exact mr_iret dX8_threeInRing_169 rfl (le_t rfl) (le_t rfl) T11 (mF.call mF.refl F12 rfl) ⟨(rW (c := (-2147483648)) (d := 2147483647) h2094 rfl), trivial⟩
                  refine mr_if_ne (pc := 137) (tgt := 145) dX8_threeInRing_137 (by decide) (r32 hp3 rfl) (fun h2095 => ?_) (fun h2095 => ?_)
                  · have h2096 : 1 ≤ p3 ∧ p3 ≤ 2 := (vc_X8_threeInRing_20 h2095 hp3)
                    refine mr_iload_n (pc := 145) (z := p3) dX8_threeInRing_145 rfl rfl ?_
                    refine mr_iconst (pc := 146) (z := 1) dX8_threeInRing_146 ?_
                    refine mr_icmp_ne (pc := 147) (tgt := 155) dX8_threeInRing_147 (by decide) (r32 h2096 rfl) (r32 (rR (x := 1)) rfl) (fun h2097 => ?_) (fun h2097 => ?_)
                    · have h2098 : 2 ≤ p3 ∧ p3 ≤ 2 := (vc_X8_threeInRing_21 h2097 h2095 h2096)
                      refine mr_iload (pc := 155) (z := z2051) dX8_threeInRing_155 rfl ?_
                      refine mr_lvS (lv' := [(0, .ref 32)]) (List.forall_mem_cons.mpr ⟨rfl, fun _ h => absurd h List.not_mem_nil⟩) ?_
                      exact J2087 z2051 h2061
                    have h2099 : 1 ≤ p3 ∧ p3 ≤ 1 := (vc_X8_threeInRing_22 h2097 h2095 h2096)
                    refine mr_iload (pc := 150) (z := z1798) dX8_threeInRing_150 rfl ?_
                    refine sv_goto (pc := 152) (tgt := 157) dX8_threeInRing_152 (by decide) ?_
                    refine mr_lvS (lv' := [(0, .ref 32)]) (List.forall_mem_cons.mpr ⟨rfl, fun _ h => absurd h List.not_mem_nil⟩) ?_
                    exact J2087 z1798 h1808
                  have h2100 : 0 ≤ p3 ∧ p3 ≤ 0 := (vc_X8_threeInRing_23 h2095 hp3)
                  refine mr_iload (pc := 140) (z := z1211) dX8_threeInRing_140 rfl ?_
                  refine sv_goto (pc := 142) (tgt := 157) dX8_threeInRing_142 (by decide) ?_
                  refine mr_lvS (lv' := [(0, .ref 32)]) (List.forall_mem_cons.mpr ⟨rfl, fun _ h => absurd h List.not_mem_nil⟩) ?_
                  exact J2087 z1211 h1224
              refine mr_lvS (lv' := [(0, .ref 32), (3, iv p3), (4, .ref b1), (5, iv z1211), (6, iv z1798), (7, iv 0)]) (List.forall_mem_cons.mpr ⟨rfl, List.forall_mem_cons.mpr ⟨rfl, List.forall_mem_cons.mpr ⟨rfl, List.forall_mem_cons.mpr ⟨rfl, List.forall_mem_cons.mpr ⟨rfl, List.forall_mem_cons.mpr ⟨rfl, fun _ h => absurd h List.not_mem_nil⟩⟩⟩⟩⟩⟩) ?_
              exact L2052 12 0 trivial (rW (c := 0) (d := 10) (rR (x := 0)) rfl) vc_X8_threeInRing_24
            have h2101 : 0 ≤ z1819 ∧ z1819 ≤ 0 := (vc_X8_threeInRing_25 h1820 h1818.1)
            refine sv_goto (pc := 77) (tgt := 176) dX8_threeInRing_77 (by decide) ?_
            refine mr_iinc (pc := 176) (lv' := [(6, iv (z1798 + 1)), (0, .ref 32), (3, iv p3), (4, .ref b1), (5, iv z1211)]) dX8_threeInRing_176 rfl (by decide) rfl ?_
            refine sv_goto (pc := 179) (tgt := 46) dX8_threeInRing_179 (by decide) ?_
            refine mr_lvS (lv' := [(0, .ref 32), (3, iv p3), (4, .ref b1), (5, iv z1211), (6, iv (z1798 + 1))]) (List.forall_mem_cons.mpr ⟨rfl, List.forall_mem_cons.mpr ⟨rfl, List.forall_mem_cons.mpr ⟨rfl, List.forall_mem_cons.mpr ⟨rfl, List.forall_mem_cons.mpr ⟨rfl, fun _ h => absurd h List.not_mem_nil⟩⟩⟩⟩⟩) ?_
            exact ih1805 (z1798 + 1) trivial (rW (c := 0) (d := 10) (rAdd (e := 1) (f := 10) h1808 (rR (x := 1)) rfl) rfl) (vc_X8_threeInRing_26 (nS h1804) h1806 h1221.2.2 h1223 h1224 h1225 h1808)
        refine mr_lvS (lv' := [(0, .ref 32), (3, iv p3), (4, .ref b1), (5, iv z1211), (6, iv 0)]) (List.forall_mem_cons.mpr ⟨rfl, List.forall_mem_cons.mpr ⟨rfl, List.forall_mem_cons.mpr ⟨rfl, List.forall_mem_cons.mpr ⟨rfl, List.forall_mem_cons.mpr ⟨rfl, fun _ h => absurd h List.not_mem_nil⟩⟩⟩⟩⟩) ?_
        exact L1799 12 0 trivial (rW (c := 0) (d := 10) (rR (x := 0)) rfl) vc_X8_threeInRing_24
    refine mr_lvS (lv' := [(0, .ref 32), (3, iv p3), (4, .ref b1), (5, iv 0)]) (List.forall_mem_cons.mpr ⟨rfl, List.forall_mem_cons.mpr ⟨rfl, List.forall_mem_cons.mpr ⟨rfl, List.forall_mem_cons.mpr ⟨rfl, fun _ h => absurd h List.not_mem_nil⟩⟩⟩⟩) ?_
    exact L1212 12 0 trivial (rW (c := 0) (d := 10) (rR (x := 0)) rfl) vc_X8_threeInRing_24
  have h2102 : 0 ≤ z5 ∧ z5 ≤ 2 := (vc_X8_threeInRing_27 h8 h7)
  refine mr_ldc (pc := 22) (z := (-99999999)) dX8_threeInRing_22 wG_X8_166 (by decide) ?_
  exact mr_iret dX8_threeInRing_24 rfl (le_t rfl) (le_t rfl) hT mF.refl ⟨(rW (c := (-2147483648)) (d := 2147483647) (rR (x := (-99999999))) rfl), trivial⟩
theorem vc_X11_raise_1 {p1 z1 z8 : Int} (h0 : ¬ z8 = 0) (h1 : (z8 = 1 → 0 ≤ p1 ∧ p1 < z1)) (h2 : (z8 = 0 → p1 < 0 ∨ z1 ≤ p1)) (h3 : (-2147483648) ≤ p1 ∧ p1 ≤ 2147483647) (h4 : 0 ≤ z1 ∧ z1 ≤ 20) (h5 : 0 ≤ z8 ∧ z8 ≤ 1) : 1 ≤ z8 ∧ z8 ≤ 1 := by omega
theorem vc_X11_raise_2 {n1 p1 z1 z8 : Int} (h0 : (z8 = 1 → 0 ≤ p1 ∧ p1 < z1)) (h1 : (z8 = 0 → p1 < 0 ∨ z1 ≤ p1)) (h2 : ¬ z8 = 0) (h3 : z1 = n1) (h4 : (-2147483648) ≤ p1 ∧ p1 ≤ 2147483647) (h5 : 0 ≤ z1 ∧ z1 ≤ 20) (h6 : 1 ≤ z8 ∧ z8 ≤ 1) : z8 = 1 := by omega
theorem vc_X11_raise_3 {n1 p1 z1 z8 : Int} (h0 : 0 ≤ p1 ∧ p1 < z1) (h1 : z1 = n1) (h2 : (z8 = 1 → 0 ≤ p1 ∧ p1 < z1)) (h3 : (z8 = 0 → p1 < 0 ∨ z1 ≤ p1)) (h4 : (-2147483648) ≤ p1 ∧ p1 ≤ 2147483647) (h5 : 0 ≤ z1 ∧ z1 ≤ 20) (h6 : 1 ≤ z8 ∧ z8 ≤ 1) : 0 ≤ p1 ∧ p1 ≤ 19 := by omega
theorem vc_X11_raise_4 {n1 p1 z1 z8 : Int} (h0 : 0 ≤ p1 ∧ p1 < z1) (h1 : z1 = n1) (h2 : (z8 = 1 → 0 ≤ p1 ∧ p1 < z1)) (h3 : (z8 = 0 → p1 < 0 ∨ z1 ≤ p1)) (h4 : 0 ≤ p1 ∧ p1 ≤ 19) (h5 : 0 ≤ z1 ∧ z1 ≤ 20) (h6 : 1 ≤ z8 ∧ z8 ≤ 1) : 1 ≤ z1 ∧ z1 ≤ 20 := by omega
theorem vc_X11_raise_5 {n1 p1 z1 z8 : Int} (h0 : z1 = n1) (h1 : (z8 = 1 → 0 ≤ p1 ∧ p1 < z1)) (h2 : (z8 = 0 → p1 < 0 ∨ z1 ≤ p1)) (h3 : 0 ≤ p1 ∧ p1 < z1) (h4 : ¬ z8 = 0) (h5 : 0 ≤ p1 ∧ p1 ≤ 19) (h6 : 1 ≤ z1 ∧ z1 ≤ 20) (h7 : 1 ≤ z8 ∧ z8 ≤ 1) : p1 < n1 := by omega
theorem vc_X11_raise_6 {p2 : Int} (h0 : p2 = 0) (h1 : 0 ≤ p2 ∧ p2 ≤ 1) : 0 ≤ p2 ∧ p2 ≤ 0 := by omega
theorem vc_X11_raise_7 {z22 : Int} (h0 : ¬ z22 = 1) (h1 : 0 ≤ z22 ∧ z22 ≤ 1) : 0 ≤ z22 ∧ z22 ≤ 0 := by omega
theorem vc_X11_raise_8 {z22 : Int} (h0 : z22 = 1) (h1 : 0 ≤ z22 ∧ z22 ≤ 1) : 1 ≤ z22 ∧ z22 ≤ 1 := by omega
theorem vc_X11_raise_9 {n0 z91 : Int} (h0 : z91 < n0) (h1 : 0 ≤ z91 ∧ z91 ≤ 9) : z91 < n0 := by omega
theorem vc_X11_raise_10 {n0 z91 z99 : Int} (h0 : z91 < n0) (h1 : z99 < n0) (h2 : 0 ≤ z91 ∧ z91 ≤ 9) (h3 : 0 ≤ z99 ∧ z99 ≤ 9) : z99 < n0 := by omega
theorem vc_X11_raise_11 {p2 : Int} (h0 : ¬ p2 = 0) (h1 : 0 ≤ p2 ∧ p2 ≤ 1) : 1 ≤ p2 ∧ p2 ≤ 1 := by omega
theorem vc_X11_raise_12 {z17 : Int} (h0 : z17 = 0) (h1 : 0 ≤ z17 ∧ z17 ≤ 1) : 0 ≤ z17 ∧ z17 ≤ 0 := by omega
theorem vc_X11_raise_13 {z17 : Int} (h0 : ¬ z17 = 0) (h1 : 0 ≤ z17 ∧ z17 ≤ 1) : 1 ≤ z17 ∧ z17 ≤ 1 := by omega
theorem vc_X11_raise_14 {p1 z1 z8 : Int} (h0 : z8 = 0) (h1 : (z8 = 1 → 0 ≤ p1 ∧ p1 < z1)) (h2 : (z8 = 0 → p1 < 0 ∨ z1 ≤ p1)) (h3 : (-2147483648) ≤ p1 ∧ p1 ≤ 2147483647) (h4 : 0 ≤ z1 ∧ z1 ≤ 20) (h5 : 0 ≤ z8 ∧ z8 ≤ 1) : 0 ≤ z8 ∧ z8 ≤ 0 := by omega
theorem vc_X11_raise_15 {n1 p1 z1 z8 : Int} (h0 : (z8 = 1 → 0 ≤ p1 ∧ p1 < z1)) (h1 : (z8 = 0 → p1 < 0 ∨ z1 ≤ p1)) (h2 : z8 = 0) (h3 : z1 = n1) (h4 : (-2147483648) ≤ p1 ∧ p1 ≤ 2147483647) (h5 : 0 ≤ z1 ∧ z1 ≤ 20) (h6 : 0 ≤ z8 ∧ z8 ≤ 0) : z8 = 0 := by omega
set_option maxRecDepth 4000 in
set_option maxHeartbeats 4000000 in
theorem c_X11_raise {l : Launch} {D : va_G} {c : Nat → ClassId} {H0 : Heap} {sa : Nat × Nat × (Nat → Int32)} {w : mW} {μ : mM} (hw : mWF w) (hT : mT w μ) {p1 : Int} (hp1 : (-2147483648) ≤ p1 ∧ p1 ≤ 2147483647) {p2 : Int} (hp2 : 0 ≤ p2 ∧ p2 ≤ 1) (hIPC : PC w μ) : sC (gG l D c H0 sa) mX11_raise 44 0 0 [.ref 0, iv p1, iv p2] (mk w μ) (qI w [21002, 21003, 21004, 21005, 21006, 21007, 32009, 32010, 33999, 34999, 66999, 200002, 200003, 200004, 200005, 200006, 200007, 200008, 200009, 200010, 200011, 201999, 202999, 213999, 220006] μ (fun z μ1 => ((-2147483648) ≤ z ∧ z ≤ 2147483647) ∧ True)) := by
  refine sC.of rfl (by decide) (le_t rfl) ?_
  refine mr_lvE (lv' := [(0, .ref 0), (1, iv p1), (2, iv p2)]) rfl ?_
  refine sv_aload_n (pc := 0) dX11_raise_0 rfl rfl ?_
  refine mr_iload_n (pc := 1) (z := p1) dX11_raise_1 rfl rfl ?_
  obtain ⟨z1, q2⟩ : ∃ z, μ 6 16 = z := ⟨_, rfl⟩
  have h3 : (z1 = w.2.2.2 1 ∧ 0 ≤ z1 ∧ z1 ≤ 20) := by rw [← q2]; exact hT 6 6 (A_6 hw) 16
  refine mr_cVP (pc := 2) (c_X11_isTie hw hT hp1 q2) (gOk _ _ _ _ _) dX11_raise_2 (tX11_isTie _ _ _ _ _) ⟨wV_X11_isTie, wL_X11_isTie⟩ wM_X11_119 (gCX11 _ _ _ _ _) rfl (A_0 hw) rfl ⟨le_t rfl, le_t rfl⟩ ⟨le_t rfl, le_t rfl⟩ rfl (le_t rfl) fun z8 h7 => ?_
  refine mr_if_ne (pc := 5) (tgt := 10) dX11_raise_5 (by decide) (r32 h7.1 rfl) (fun h9 => ?_) (fun h9 => ?_)
  · have h10 : 1 ≤ z8 ∧ z8 ≤ 1 := (vc_X11_raise_1 h9 h7.2.1 h7.2.2.1 hp1 h3.2 h7.1)
    have h11 : 0 ≤ p1 ∧ p1 < z1 := (h7.2.1 (vc_X11_raise_2 h7.2.1 h7.2.2.1 h9 h3.1 hp1 h3.2 h10))
    have h12 : 0 ≤ p1 ∧ p1 ≤ 19 := (vc_X11_raise_3 h11 h3.1 h7.2.1 h7.2.2.1 hp1 h3.2 h10)
    have h13 : 1 ≤ z1 ∧ z1 ≤ 20 := (vc_X11_raise_4 h11 h3.1 h7.2.1 h7.2.2.1 h12 h3.2 h10)
    refine sv_aload_n (pc := 10) dX11_raise_10 rfl rfl ?_
    refine gf_X11_3 (pc := 11) dX11_raise_11 wF_X11_26 (A_0 hw) hT ?_
    refine gf_X10_4 (pc := 14) dX11_raise_14 wF_X11_122 (A_6 hw) hT ?_
    refine mr_iload_n (pc := 17) (z := p1) dX11_raise_17 rfl rfl ?_
    refine la_11 (pc := 18) dX11_raise_18 (A_11 hw) hT (rIx (n := 20) h12 rfl) (vc_X11_raise_5 h3.1 h7.2.1 h7.2.2.1 h11 h9 h12 h13 h10) fun b14 q15 A16 => ?_
    refine gf_X9_6 (pc := 19) dX11_raise_19 wF_X11_134 A16 hT fun z17 q18 h19 => ?_
    have J24 : ∀ (z22 : Int), ((0 ≤ z22 ∧ z22 ≤ 1)) → sV (gG l D c H0 sa) mX11_raise (sRm 44 0 0) (sZ (gG l D c H0 sa) 0 0 (qI w [21002, 21003, 21004, 21005, 21006, 21007, 32009, 32010, 33999, 34999, 66999, 200002, 200003, 200004, 200005, 200006, 200007, 200008, 200009, 200010, 200011, 201999, 202999, 213999, 220006] μ (fun z μ1 => ((-2147483648) ≤ z ∧ z ≤ 2147483647) ∧ True))) 30 [(0, .ref 0), (1, iv p1), (2, iv p2)] [iv z22] (mk w μ) 0 0 := by
      intro z22 h23
      refine mr_istore_n (pc := 30) (lv' := [(3, iv z22), (0, .ref 0), (1, iv p1), (2, iv p2)]) dX11_raise_30 rfl (by decide) rfl ?_
      refine mr_iload_n (pc := 31) (z := p2) dX11_raise_31 rfl rfl ?_
      refine mr_if_eq (pc := 32) (tgt := 69) dX11_raise_32 (by decide) (r32 hp2 rfl) (fun h60 => ?_) (fun h60 => ?_)
      · have h61 : 0 ≤ p2 ∧ p2 ≤ 0 := (vc_X11_raise_6 h60 hp2)
        refine mr_iload_n (pc := 69) (z := z22) dX11_raise_69 rfl rfl ?_
        refine mr_iconst (pc := 70) (z := 1) dX11_raise_70 ?_
        refine mr_icmp_ne (pc := 71) (tgt := 120) dX11_raise_71 (by decide) (r32 h23 rfl) (r32 (rR (x := 1)) rfl) (fun h84 => ?_) (fun h84 => ?_)
        · have h85 : 0 ≤ z22 ∧ z22 ≤ 0 := (vc_X11_raise_7 h84 h23)
          refine mr_iload_n (pc := 120) (z := z22) dX11_raise_120 rfl rfl ?_
          exact mr_iret dX11_raise_121 rfl (le_t rfl) (le_t rfl) hT mF.refl ⟨(rW (c := (-2147483648)) (d := 2147483647) h85 rfl), trivial⟩
        have h86 : 1 ≤ z22 ∧ z22 ≤ 1 := (vc_X11_raise_8 h84 h23)
        refine sv_aload_n (pc := 74) dX11_raise_74 rfl rfl ?_
        refine gf_X11_6 (pc := 75) dX11_raise_75 wF_X11_51 (A_0 hw) hT ?_
        refine mr_iload_n (pc := 78) (z := p1) dX11_raise_78 rfl rfl ?_
        refine mr_cVV (pc := 79) (c_X8_silence hw hT h12 (vc_X11_raise_5 h3.1 h7.2.1 h7.2.2.1 h11 h9 h12 h13 h10)) (gOk _ _ _ _ _) dX11_raise_79 (tX8_silence _ _ _ _ _) ⟨wV_X8_silence, wL_X8_silence⟩ wM_X11_142 (gCX8 _ _ _ _ _) rfl (A_32 hw) rfl ⟨le_t rfl, le_t rfl⟩ ⟨le_t rfl, le_t rfl⟩ rfl (le_t rfl) fun μ87 T88 F89 h90 => ?_
        refine sv_aload_n (pc := 82) dX11_raise_82 rfl rfl ?_
        refine gf_X11_6 (pc := 83) dX11_raise_83 wF_X11_51 (A_0 hw) T88 ?_
        refine sv_aload_n (pc := 86) dX11_raise_86 rfl rfl ?_
        refine gf_X11_3 (pc := 87) dX11_raise_87 wF_X11_26 (A_0 hw) T88 ?_
        refine gf_X10_4 (pc := 90) dX11_raise_90 wF_X11_122 (A_6 hw) T88 ?_
        refine mr_iload_n (pc := 93) (z := p1) dX11_raise_93 rfl rfl ?_
        refine lk_11 (pc := 94) dX11_raise_94 (A_11 hw) (rIx (n := 20) h12 rfl) (F89.f (A_11 hw) rfl q15) ?_
        refine gf_X9_0 (pc := 95) dX11_raise_95 wF_X11_145 A16 T88 fun z91 q92 h93 => ?_
        have h94 : 0 ≤ z91 ∧ z91 ≤ 9 := ⟨h93.1, h93.2.1⟩
        refine mr_cVV (pc := 98) (c_X8_lookAtAll hw T88 h94 (vc_X11_raise_9 h93.2.2 h94) (PC.keep hIPC hw ((mF.call mF.refl F89 rfl) : mF [32010, 33999, 34999, 200002, 200009, 220006] w μ μ87) rfl)) (gOk _ _ _ _ _) dX11_raise_98 (tX8_lookAtAll _ _ _ _ _) ⟨wV_X8_lookAtAll, wL_X8_lookAtAll⟩ wM_X11_148 (gCX8 _ _ _ _ _) rfl (A_32 hw) rfl ⟨le_t rfl, le_t rfl⟩ ⟨le_t rfl, le_t rfl⟩ rfl (le_t rfl) fun μ95 T96 F97 h98 => ?_
        refine sv_aload_n (pc := 101) dX11_raise_101 rfl rfl ?_
        refine gf_X11_6 (pc := 102) dX11_raise_102 wF_X11_51 (A_0 hw) T96 ?_
        refine sv_aload_n (pc := 105) dX11_raise_105 rfl rfl ?_
        refine gf_X11_3 (pc := 106) dX11_raise_106 wF_X11_26 (A_0 hw) T96 ?_
        refine gf_X10_4 (pc := 109) dX11_raise_109 wF_X11_122 (A_6 hw) T96 ?_
        refine mr_iload_n (pc := 112) (z := p1) dX11_raise_112 rfl rfl ?_
        refine lk_11 (pc := 113) dX11_raise_113 (A_11 hw) (rIx (n := 20) h12 rfl) (F97.f (A_11 hw) rfl (F89.f (A_11 hw) rfl q15)) ?_
        refine gf_X9_1 (pc := 114) dX11_raise_114 wF_X11_151 A16 T96 fun z99 q100 h101 => ?_
        have h102 : 0 ≤ z99 ∧ z99 ≤ 9 := ⟨h101.1, h101.2.1⟩
        refine mr_cVV (pc := 117) (c_X8_lookAtAll hw T96 h102 (vc_X11_raise_10 h93.2.2 h101.2.2 h94 h102) (PC.keep hIPC hw ((mF.call (mF.call mF.refl F89 rfl) F97 rfl) : mF [21002, 21003, 21004, 21005, 21006, 21007, 32009, 32010, 33999, 34999, 66999, 200002, 200003, 200004, 200005, 200006, 200007, 200008, 200009, 200010, 200011, 201999, 202999, 213999, 220006] w μ μ95) rfl)) (gOk _ _ _ _ _) dX11_raise_117 (tX8_lookAtAll _ _ _ _ _) ⟨wV_X8_lookAtAll, wL_X8_lookAtAll⟩ wM_X11_148 (gCX8 _ _ _ _ _) rfl (A_32 hw) rfl ⟨le_t rfl, le_t rfl⟩ ⟨le_t rfl, le_t rfl⟩ rfl (le_t rfl) fun μ103 T104 F105 h106 => ?_
        refine mr_iload_n (pc := 120) (z := z22) dX11_raise_120 rfl rfl ?_
        exact mr_iret dX11_raise_121 rfl (le_t rfl) (le_t rfl) T104 (mF.call (mF.call (mF.call mF.refl F89 rfl) F97 rfl) F105 rfl) ⟨(rW (c := (-2147483648)) (d := 2147483647) h86 rfl), trivial⟩
      have h107 : 1 ≤ p2 ∧ p2 ≤ 1 := (vc_X11_raise_11 h60 hp2)
      refine sv_aload_n (pc := 35) dX11_raise_35 rfl rfl ?_
      refine gf_X11_3 (pc := 36) dX11_raise_36 wF_X11_26 (A_0 hw) hT ?_
      refine gf_X10_4 (pc := 39) dX11_raise_39 wF_X11_122 (A_6 hw) hT ?_
      refine mr_iload_n (pc := 42) (z := p1) dX11_raise_42 rfl rfl ?_
      refine lk_11 (pc := 43) dX11_raise_43 (A_11 hw) (rIx (n := 20) h12 rfl) q15 ?_
      refine mr_iconst (pc := 44) (z := 1) dX11_raise_44 ?_
      refine pf_X9_6 (pc := 45) dX11_raise_45 wF_X11_134 A16 hT (rW (c := 0) (d := 1) (rR (x := 1)) rfl) fun μ108 u109 T110 => ?_
      refine sv_aload_n (pc := 48) dX11_raise_48 rfl rfl ?_
      refine gf_X11_6 (pc := 49) dX11_raise_49 wF_X11_51 (A_0 hw) T110 ?_
      refine mr_iload_n (pc := 52) (z := p1) dX11_raise_52 rfl rfl ?_
      refine mr_iconst (pc := 53) (z := 0) dX11_raise_53 ?_
      refine mr_cVV (pc := 54) (c_X8_sayAll hw T110 h12 (rW (c := 0) (d := 1) (rR (x := 0)) rfl) (vc_X11_raise_5 h3.1 h7.2.1 h7.2.2.1 h11 h9 h12 h13 h10) (PC.keep hIPC hw ((mF.up mF.refl A16 u109 rfl) : mF [220006] w μ μ108) rfl)) (gOk _ _ _ _ _) dX11_raise_54 (tX8_sayAll _ _ _ _ _) ⟨wV_X8_sayAll, wL_X8_sayAll⟩ wM_X11_138 (gCX8 _ _ _ _ _) rfl (A_32 hw) rfl ⟨le_t rfl, le_t rfl⟩ ⟨le_t rfl, le_t rfl⟩ rfl (le_t rfl) fun μ111 T112 F113 h114 => ?_
      refine sv_aload_n (pc := 57) dX11_raise_57 rfl rfl ?_
      refine gf_X11_6 (pc := 58) dX11_raise_58 wF_X11_51 (A_0 hw) T112 ?_
      refine mr_iload_n (pc := 61) (z := p1) dX11_raise_61 rfl rfl ?_
      refine mr_iconst (pc := 62) (z := 1) dX11_raise_62 ?_
      refine mr_cVV (pc := 63) (c_X8_sayAll hw T112 h12 (rW (c := 0) (d := 1) (rR (x := 1)) rfl) (vc_X11_raise_5 h3.1 h7.2.1 h7.2.2.1 h11 h9 h12 h13 h10) (PC.keep hIPC hw ((mF.call (mF.up mF.refl A16 u109 rfl) F113 rfl) : mF [21002, 21003, 21004, 21005, 21006, 21007, 32010, 33999, 34999, 200002, 200003, 200004, 200005, 200006, 200007, 200008, 200009, 201999, 202999, 220006] w μ μ111) rfl)) (gOk _ _ _ _ _) dX11_raise_63 (tX8_sayAll _ _ _ _ _) ⟨wV_X8_sayAll, wL_X8_sayAll⟩ wM_X11_138 (gCX8 _ _ _ _ _) rfl (A_32 hw) rfl ⟨le_t rfl, le_t rfl⟩ ⟨le_t rfl, le_t rfl⟩ rfl (le_t rfl) fun μ115 T116 F117 h118 => ?_
      refine sv_goto (pc := 66) (tgt := 120) dX11_raise_66 (by decide) ?_
      refine mr_iload_n (pc := 120) (z := z22) dX11_raise_120 rfl rfl ?_
      exact mr_iret dX11_raise_121 rfl (le_t rfl) (le_t rfl) T116 (mF.call (mF.call (mF.up mF.refl A16 u109 rfl) F113 rfl) F117 rfl) ⟨(rW (c := (-2147483648)) (d := 2147483647) h23 rfl), trivial⟩
    refine mr_if_eq (pc := 22) (tgt := 29) dX11_raise_22 (by decide) (r32 h19 rfl) (fun h119 => ?_) (fun h119 => ?_)
    · have h120 : 0 ≤ z17 ∧ z17 ≤ 0 := (vc_X11_raise_12 h119 h19)
      refine mr_iconst (pc := 29) (z := 0) dX11_raise_29 ?_
      exact J24 0 (rW (c := 0) (d := 1) (rR (x := 0)) rfl)
    have h121 : 1 ≤ z17 ∧ z17 ≤ 1 := (vc_X11_raise_13 h119 h19)
    refine mr_iconst (pc := 25) (z := 1) dX11_raise_25 ?_
    refine sv_goto (pc := 26) (tgt := 30) dX11_raise_26 (by decide) ?_
    exact J24 1 (rW (c := 0) (d := 1) (rR (x := 1)) rfl)
  have h122 : 0 ≤ z8 ∧ z8 ≤ 0 := (vc_X11_raise_14 h9 h7.2.1 h7.2.2.1 hp1 h3.2 h7.1)
  have h123 : p1 < 0 ∨ z1 ≤ p1 := (h7.2.2.1 (vc_X11_raise_15 h7.2.1 h7.2.2.1 h9 h3.1 hp1 h3.2 h122))
  refine mr_iconst (pc := 8) (z := (-1)) dX11_raise_8 ?_
  exact mr_iret dX11_raise_9 rfl (le_t rfl) (le_t rfl) hT mF.refl ⟨(rW (c := (-2147483648)) (d := 2147483647) (rR (x := (-1))) rfl), trivial⟩
theorem vc_X11_right_1 {p1 z1 z8 : Int} (h0 : z8 = 0) (h1 : (z8 = 1 → 0 ≤ p1 ∧ p1 < z1)) (h2 : (z8 = 0 → p1 < 0 ∨ z1 ≤ p1)) (h3 : (-2147483648) ≤ p1 ∧ p1 ≤ 2147483647) (h4 : 0 ≤ z1 ∧ z1 ≤ 10) (h5 : 0 ≤ z8 ∧ z8 ≤ 1) : 0 ≤ z8 ∧ z8 ≤ 0 := by omega
theorem vc_X11_right_2 {p1 z1 z8 : Int} (h0 : (z8 = 1 → 0 ≤ p1 ∧ p1 < z1)) (h1 : (z8 = 0 → p1 < 0 ∨ z1 ≤ p1)) (h2 : z8 = 0) (h3 : (-2147483648) ≤ p1 ∧ p1 ≤ 2147483647) (h4 : 0 ≤ z1 ∧ z1 ≤ 10) (h5 : 0 ≤ z8 ∧ z8 ≤ 0) : z8 = 0 := by omega
theorem vc_X11_right_3 {p1 z1 z8 : Int} (h0 : ¬ z8 = 0) (h1 : (z8 = 1 → 0 ≤ p1 ∧ p1 < z1)) (h2 : (z8 = 0 → p1 < 0 ∨ z1 ≤ p1)) (h3 : (-2147483648) ≤ p1 ∧ p1 ≤ 2147483647) (h4 : 0 ≤ z1 ∧ z1 ≤ 10) (h5 : 0 ≤ z8 ∧ z8 ≤ 1) : 1 ≤ z8 ∧ z8 ≤ 1 := by omega
theorem vc_X11_right_4 {p1 z1 z8 : Int} (h0 : (z8 = 1 → 0 ≤ p1 ∧ p1 < z1)) (h1 : (z8 = 0 → p1 < 0 ∨ z1 ≤ p1)) (h2 : ¬ z8 = 0) (h3 : (-2147483648) ≤ p1 ∧ p1 ≤ 2147483647) (h4 : 0 ≤ z1 ∧ z1 ≤ 10) (h5 : 1 ≤ z8 ∧ z8 ≤ 1) : z8 = 1 := by omega
theorem vc_X11_right_5 {p1 z1 z8 : Int} (h0 : 0 ≤ p1 ∧ p1 < z1) (h1 : (z8 = 1 → 0 ≤ p1 ∧ p1 < z1)) (h2 : (z8 = 0 → p1 < 0 ∨ z1 ≤ p1)) (h3 : (-2147483648) ≤ p1 ∧ p1 ≤ 2147483647) (h4 : 0 ≤ z1 ∧ z1 ≤ 10) (h5 : 1 ≤ z8 ∧ z8 ≤ 1) : 0 ≤ p1 ∧ p1 ≤ 9 := by omega
theorem vc_X11_right_6 {p1 z1 z8 : Int} (h0 : 0 ≤ p1 ∧ p1 < z1) (h1 : (z8 = 1 → 0 ≤ p1 ∧ p1 < z1)) (h2 : (z8 = 0 → p1 < 0 ∨ z1 ≤ p1)) (h3 : 0 ≤ p1 ∧ p1 ≤ 9) (h4 : 0 ≤ z1 ∧ z1 ≤ 10) (h5 : 1 ≤ z8 ∧ z8 ≤ 1) : 1 ≤ z1 ∧ z1 ≤ 10 := by omega
theorem vc_X11_right_7 {p3 z16 z23 : Int} (h0 : z23 = 0) (h1 : (z23 = 1 → 0 ≤ p3 ∧ p3 < z16)) (h2 : (z23 = 0 → p3 < 0 ∨ z16 ≤ p3)) (h3 : (-2147483648) ≤ p3 ∧ p3 ≤ 2147483647) (h4 : 0 ≤ z16 ∧ z16 ≤ 10) (h5 : 0 ≤ z23 ∧ z23 ≤ 1) : 0 ≤ z23 ∧ z23 ≤ 0 := by omega
theorem vc_X11_right_8 {n0 p3 z16 z23 : Int} (h0 : (z23 = 1 → 0 ≤ p3 ∧ p3 < z16)) (h1 : (z23 = 0 → p3 < 0 ∨ z16 ≤ p3)) (h2 : z23 = 0) (h3 : z16 = n0) (h4 : (-2147483648) ≤ p3 ∧ p3 ≤ 2147483647) (h5 : 0 ≤ z16 ∧ z16 ≤ 10) (h6 : 0 ≤ z23 ∧ z23 ≤ 0) : z23 = 0 := by omega
theorem vc_X11_right_9 {p3 z16 z23 : Int} (h0 : ¬ z23 = 0) (h1 : (z23 = 1 → 0 ≤ p3 ∧ p3 < z16)) (h2 : (z23 = 0 → p3 < 0 ∨ z16 ≤ p3)) (h3 : (-2147483648) ≤ p3 ∧ p3 ≤ 2147483647) (h4 : 0 ≤ z16 ∧ z16 ≤ 10) (h5 : 0 ≤ z23 ∧ z23 ≤ 1) : 1 ≤ z23 ∧ z23 ≤ 1 := by omega
theorem vc_X11_right_10 {n0 p3 z16 z23 : Int} (h0 : (z23 = 1 → 0 ≤ p3 ∧ p3 < z16)) (h1 : (z23 = 0 → p3 < 0 ∨ z16 ≤ p3)) (h2 : ¬ z23 = 0) (h3 : z16 = n0) (h4 : (-2147483648) ≤ p3 ∧ p3 ≤ 2147483647) (h5 : 0 ≤ z16 ∧ z16 ≤ 10) (h6 : 1 ≤ z23 ∧ z23 ≤ 1) : z23 = 1 := by omega
theorem vc_X11_right_11 {n0 p3 z16 z23 : Int} (h0 : 0 ≤ p3 ∧ p3 < z16) (h1 : z16 = n0) (h2 : (z23 = 1 → 0 ≤ p3 ∧ p3 < z16)) (h3 : (z23 = 0 → p3 < 0 ∨ z16 ≤ p3)) (h4 : (-2147483648) ≤ p3 ∧ p3 ≤ 2147483647) (h5 : 0 ≤ z16 ∧ z16 ≤ 10) (h6 : 1 ≤ z23 ∧ z23 ≤ 1) : 0 ≤ p3 ∧ p3 ≤ 9 := by omega
theorem vc_X11_right_12 {p2 z30 : Int} (h0 : p2 < z30) (h1 : (-2147483648) ≤ p2 ∧ p2 ≤ 2147483647) (h2 : 0 ≤ z30 ∧ z30 ≤ 32) : (-2147483648) ≤ p2 ∧ p2 ≤ 31 := by omega
theorem vc_X11_right_13 {p2 z30 : Int} (h0 : z30 ≤ p2) (h1 : (-2147483648) ≤ p2 ∧ p2 ≤ 2147483647) (h2 : 0 ≤ z30 ∧ z30 ≤ 32) : 0 ≤ p2 ∧ p2 ≤ 2147483647 := by omega
theorem vc_X11_right_14 {p2 z30 : Int} (h0 : p2 ≤ 32) (h1 : z30 ≤ p2) (h2 : 0 ≤ p2 ∧ p2 ≤ 2147483647) (h3 : 0 ≤ z30 ∧ z30 ≤ 32) : 0 ≤ p2 ∧ p2 ≤ 32 := by omega
theorem vc_X11_right_15 {p4 : Int} (h0 : p4 < 0) (h1 : (-2147483648) ≤ p4 ∧ p4 ≤ 2147483647) : (-2147483648) ≤ p4 ∧ p4 ≤ (-1) := by omega
theorem vc_X11_right_16 {p4 : Int} (h0 : 0 ≤ p4) (h1 : (-2147483648) ≤ p4 ∧ p4 ≤ 2147483647) : 0 ≤ p4 ∧ p4 ≤ 2147483647 := by omega
theorem vc_X11_right_17 {p4 p5 : Int} (h0 : p4 < p5) (h1 : 0 ≤ p4) (h2 : 0 ≤ p4 ∧ p4 ≤ 2147483647) (h3 : (-2147483648) ≤ p5 ∧ p5 ≤ 2147483647) : 1 ≤ p5 ∧ p5 ≤ 2147483647 := by omega
theorem vc_X11_right_18 {p4 p5 : Int} (h0 : p4 < p5) (h1 : 0 ≤ p4) (h2 : 0 ≤ p4 ∧ p4 ≤ 2147483647) (h3 : 1 ≤ p5 ∧ p5 ≤ 2147483647) : 0 ≤ p4 ∧ p4 ≤ 2147483646 := by omega
theorem vc_X11_right_19 {p6 : Int} (h0 : 0 ≤ p6) (h1 : (-2147483648) ≤ p6 ∧ p6 ≤ 2147483647) : 0 ≤ p6 ∧ p6 ≤ 2147483647 := by omega
theorem vc_X11_right_20 {z46 : Int} (h0 : z46 < 30) (h1 : 0 ≤ z46 ∧ z46 ≤ 30) : 0 ≤ z46 ∧ z46 ≤ 29 := by omega
theorem vc_X11_right_21 {z46 : Int} (h0 : z46 < 30) (h1 : 0 ≤ z46 ∧ z46 ≤ 29) : z46 ≤ 29 := by omega
theorem vc_X11_right_22 {z46 : Int} (h0 : 30 ≤ z46) (h1 : 0 ≤ z46 ∧ z46 ≤ 30) : 30 ≤ z46 ∧ z46 ≤ 30 := by omega
theorem vc_X11_right_23 {p6 : Int} (h0 : p6 < 0) (h1 : (-2147483648) ≤ p6 ∧ p6 ≤ 2147483647) : (-2147483648) ≤ p6 ∧ p6 ≤ (-1) := by omega
theorem vc_X11_right_24 {p2 z30 : Int} (h0 : 32 < p2) (h1 : z30 ≤ p2) (h2 : 0 ≤ p2 ∧ p2 ≤ 2147483647) (h3 : 0 ≤ z30 ∧ z30 ≤ 32) : 33 ≤ p2 ∧ p2 ≤ 2147483647 := by omega
set_option maxRecDepth 4000 in
set_option maxHeartbeats 4000000 in
theorem c_X11_right {l : Launch} {D : va_G} {c : Nat → ClassId} {H0 : Heap} {sa : Nat × Nat × (Nat → Int32)} {w : mW} {μ : mM} (hw : mWF w) (hT : mT w μ) {p1 : Int} (hp1 : (-2147483648) ≤ p1 ∧ p1 ≤ 2147483647) {p2 : Int} (hp2 : (-2147483648) ≤ p2 ∧ p2 ≤ 2147483647) {p3 : Int} (hp3 : (-2147483648) ≤ p3 ∧ p3 ≤ 2147483647) {p4 : Int} (hp4 : (-2147483648) ≤ p4 ∧ p4 ≤ 2147483647) {p5 : Int} (hp5 : (-2147483648) ≤ p5 ∧ p5 ≤ 2147483647) {p6 : Int} (hp6 : (-2147483648) ≤ p6 ∧ p6 ≤ 2147483647) (hIPC : PC w μ) : sC (gG l D c H0 sa) mX11_right 44 0 0 [.ref 0, iv p1, iv p2, iv p3, iv p4, iv p5, iv p6] (mk w μ) (qI w [6017, 14999, 15999, 16999, 17999, 18999, 19999, 20999, 21002, 21003, 21004, 21005, 21006, 21007, 32009, 32010, 33999, 34999, 66999, 200002, 200003, 200004, 200005, 200006, 200007, 200008, 200009, 200010, 200011, 201999, 202999, 213999] μ (fun z μ1 => ((-2147483648) ≤ z ∧ z ≤ 2147483647) ∧ True)) := by
  refine sC.of rfl (by decide) (le_t rfl) ?_
  refine mr_lvE (lv' := [(0, .ref 0), (1, iv p1), (2, iv p2), (3, iv p3), (4, iv p4), (5, iv p5), (6, iv p6)]) rfl ?_
  refine sv_aload_n (pc := 0) dX11_right_0 rfl rfl ?_
  refine mr_iload_n (pc := 1) (z := p1) dX11_right_1 rfl rfl ?_
  obtain ⟨z1, q2⟩ : ∃ z, μ 6 14 = z := ⟨_, rfl⟩
  have h3 : (0 ≤ z1 ∧ z1 ≤ 10) := by rw [← q2]; exact hT 6 6 (A_6 hw) 14
  refine mr_cVP (pc := 2) (c_X11_isPrefix hw hT hp1 q2) (gOk _ _ _ _ _) dX11_right_2 (tX11_isPrefix _ _ _ _ _) ⟨wV_X11_isPrefix, wL_X11_isPrefix⟩ wM_X11_182 (gCX11 _ _ _ _ _) rfl (A_0 hw) rfl ⟨le_t rfl, le_t rfl⟩ ⟨le_t rfl, le_t rfl⟩ rfl (le_t rfl) fun z8 h7 => ?_
  refine mr_if_eq (pc := 5) (tgt := 35) dX11_right_5 (by decide) (r32 h7.1 rfl) (fun h9 => ?_) (fun h9 => ?_)
  · have h10 : 0 ≤ z8 ∧ z8 ≤ 0 := (vc_X11_right_1 h9 h7.2.1 h7.2.2.1 hp1 h3 h7.1)
    have h11 : p1 < 0 ∨ z1 ≤ p1 := (h7.2.2.1 (vc_X11_right_2 h7.2.1 h7.2.2.1 h9 hp1 h3 h10))
    refine mr_iconst (pc := 35) (z := (-1)) dX11_right_35 ?_
    exact mr_iret dX11_right_36 rfl (le_t rfl) (le_t rfl) hT mF.refl ⟨(rW (c := (-2147483648)) (d := 2147483647) (rR (x := (-1))) rfl), trivial⟩
  have h12 : 1 ≤ z8 ∧ z8 ≤ 1 := (vc_X11_right_3 h9 h7.2.1 h7.2.2.1 hp1 h3 h7.1)
  have h13 : 0 ≤ p1 ∧ p1 < z1 := (h7.2.1 (vc_X11_right_4 h7.2.1 h7.2.2.1 h9 hp1 h3 h12))
  have h14 : 0 ≤ p1 ∧ p1 ≤ 9 := (vc_X11_right_5 h13 h7.2.1 h7.2.2.1 hp1 h3 h12)
  have h15 : 1 ≤ z1 ∧ z1 ≤ 10 := (vc_X11_right_6 h13 h7.2.1 h7.2.2.1 h14 h3 h12)
  refine sv_aload_n (pc := 8) dX11_right_8 rfl rfl ?_
  refine mr_iload_n (pc := 9) (z := p3) dX11_right_9 rfl rfl ?_
  obtain ⟨z16, q17⟩ : ∃ z, μ 6 15 = z := ⟨_, rfl⟩
  have h18 : (z16 = w.2.2.2 0 ∧ 0 ≤ z16 ∧ z16 ≤ 10) := by rw [← q17]; exact hT 6 6 (A_6 hw) 15
  refine mr_cVP (pc := 10) (c_X11_isDomain hw hT hp3 q17) (gOk _ _ _ _ _) dX11_right_10 (tX11_isDomain _ _ _ _ _) ⟨wV_X11_isDomain, wL_X11_isDomain⟩ wM_X11_105 (gCX11 _ _ _ _ _) rfl (A_0 hw) rfl ⟨le_t rfl, le_t rfl⟩ ⟨le_t rfl, le_t rfl⟩ rfl (le_t rfl) fun z23 h22 => ?_
  refine mr_if_eq (pc := 13) (tgt := 35) dX11_right_13 (by decide) (r32 h22.1 rfl) (fun h24 => ?_) (fun h24 => ?_)
  · have h25 : 0 ≤ z23 ∧ z23 ≤ 0 := (vc_X11_right_7 h24 h22.2.1 h22.2.2.1 hp3 h18.2 h22.1)
    have h26 : p3 < 0 ∨ z16 ≤ p3 := (h22.2.2.1 (vc_X11_right_8 h22.2.1 h22.2.2.1 h24 h18.1 hp3 h18.2 h25))
    refine mr_iconst (pc := 35) (z := (-1)) dX11_right_35 ?_
    exact mr_iret dX11_right_36 rfl (le_t rfl) (le_t rfl) hT mF.refl ⟨(rW (c := (-2147483648)) (d := 2147483647) (rR (x := (-1))) rfl), trivial⟩
  have h27 : 1 ≤ z23 ∧ z23 ≤ 1 := (vc_X11_right_9 h24 h22.2.1 h22.2.2.1 hp3 h18.2 h22.1)
  have h28 : 0 ≤ p3 ∧ p3 < z16 := (h22.2.1 (vc_X11_right_10 h22.2.1 h22.2.2.1 h24 h18.1 hp3 h18.2 h27))
  have h29 : 0 ≤ p3 ∧ p3 ≤ 9 := (vc_X11_right_11 h28 h18.1 h22.2.1 h22.2.2.1 hp3 h18.2 h27)
  refine mr_iload_n (pc := 16) (z := p2) dX11_right_16 rfl rfl ?_
  refine sv_aload_n (pc := 17) dX11_right_17 rfl rfl ?_
  refine gf_X11_3 (pc := 18) dX11_right_18 wF_X11_26 (A_0 hw) hT ?_
  refine gf_X10_1 (pc := 21) dX11_right_21 wF_X11_185 (A_6 hw) hT ?_
  refine mr_iload_n (pc := 24) (z := p1) dX11_right_24 rfl rfl ?_
  refine la_8 (pc := 25) dX11_right_25 (A_8 hw) hT (rIx (n := 10) h14 rfl) fun z30 q31 h32 => ?_
  refine mr_icmp_lt (pc := 26) (tgt := 35) dX11_right_26 (by decide) hp2 (r32 h32 rfl) (fun h33 => ?_) (fun h33 => ?_)
  · have h34 : (-2147483648) ≤ p2 ∧ p2 ≤ 31 := (vc_X11_right_12 h33 hp2 h32)
    refine mr_iconst (pc := 35) (z := (-1)) dX11_right_35 ?_
    exact mr_iret dX11_right_36 rfl (le_t rfl) (le_t rfl) hT mF.refl ⟨(rW (c := (-2147483648)) (d := 2147483647) (rR (x := (-1))) rfl), trivial⟩
  have h35 : 0 ≤ p2 ∧ p2 ≤ 2147483647 := (vc_X11_right_13 h33 hp2 h32)
  refine mr_iload_n (pc := 29) (z := p2) dX11_right_29 rfl rfl ?_
  refine mr_bipush (pc := 30) (z := 32) dX11_right_30 (by decide) ?_
  refine mr_icmp_le (pc := 32) (tgt := 37) dX11_right_32 (by decide) (r32 h35 rfl) (r32 (rR (x := 32)) rfl) (fun h36 => ?_) (fun h36 => ?_)
  · have h37 : 0 ≤ p2 ∧ p2 ≤ 32 := (vc_X11_right_14 h36 h33 h35 h32)
    refine mr_iload (pc := 37) (z := p4) dX11_right_37 rfl ?_
    refine mr_if_lt (pc := 39) (tgt := 54) dX11_right_39 (by decide) hp4 (fun h38 => ?_) (fun h38 => ?_)
    · have h39 : (-2147483648) ≤ p4 ∧ p4 ≤ (-1) := (vc_X11_right_15 h38 hp4)
      refine mr_iconst (pc := 54) (z := (-1)) dX11_right_54 ?_
      exact mr_iret dX11_right_55 rfl (le_t rfl) (le_t rfl) hT mF.refl ⟨(rW (c := (-2147483648)) (d := 2147483647) (rR (x := (-1))) rfl), trivial⟩
    have h40 : 0 ≤ p4 ∧ p4 ≤ 2147483647 := (vc_X11_right_16 h38 hp4)
    refine mr_iload (pc := 42) (z := p5) dX11_right_42 rfl ?_
    refine mr_iload (pc := 44) (z := p4) dX11_right_44 rfl ?_
    refine mr_icmp_le (pc := 46) (tgt := 54) dX11_right_46 (by decide) hp5 (r32 h40 rfl) (fun h41 => ?_) (fun h41 => ?_)
    · refine mr_iconst (pc := 54) (z := (-1)) dX11_right_54 ?_
      exact mr_iret dX11_right_55 rfl (le_t rfl) (le_t rfl) hT mF.refl ⟨(rW (c := (-2147483648)) (d := 2147483647) (rR (x := (-1))) rfl), trivial⟩
    have h42 : 1 ≤ p5 ∧ p5 ≤ 2147483647 := (vc_X11_right_17 h41 h38 h40 hp5)
    have h43 : 0 ≤ p4 ∧ p4 ≤ 2147483646 := (vc_X11_right_18 h41 h38 h40 h42)
    refine mr_iload (pc := 49) (z := p6) dX11_right_49 rfl ?_
    refine mr_if_ge (pc := 51) (tgt := 56) dX11_right_51 (by decide) hp6 (fun h44 => ?_) (fun h44 => ?_)
    · have h45 : 0 ≤ p6 ∧ p6 ≤ 2147483647 := (vc_X11_right_19 h44 hp6)
      refine sv_aload_n (pc := 56) dX11_right_56 rfl rfl ?_
      refine gf_X11_3 (pc := 57) dX11_right_57 wF_X11_26 (A_0 hw) hT ?_
      refine gf_X10_17 (pc := 60) dX11_right_60 wF_X11_188 (A_6 hw) hT fun z46 q47 h48 => ?_
      refine mr_bipush (pc := 63) (z := 30) dX11_right_63 (by decide) ?_
      refine mr_icmp_lt (pc := 65) (tgt := 71) dX11_right_65 (by decide) (r32 h48 rfl) (r32 (rR (x := 30)) rfl) (fun h49 => ?_) (fun h49 => ?_)
      · have h50 : 0 ≤ z46 ∧ z46 ≤ 29 := (vc_X11_right_20 h49 h48)
        refine sv_aload_n (pc := 71) dX11_right_71 rfl rfl ?_
        refine gf_X11_3 (pc := 72) dX11_right_72 wF_X11_26 (A_0 hw) hT ?_
        refine mr_iload_n (pc := 75) (z := p1) dX11_right_75 rfl rfl ?_
        refine mr_iload_n (pc := 76) (z := p2) dX11_right_76 rfl rfl ?_
        refine mr_iload_n (pc := 77) (z := p3) dX11_right_77 rfl rfl ?_
        refine mr_iload (pc := 78) (z := p4) dX11_right_78 rfl ?_
        refine mr_iload (pc := 80) (z := p5) dX11_right_80 rfl ?_
        refine mr_iload (pc := 82) (z := p6) dX11_right_82 rfl ?_
        refine mr_cVI (pc := 84) (c_X10_addRight hw hT h14 (rW (c := (-2147483648)) (d := 2147483647) h37 rfl) (rW (c := (-2147483648)) (d := 2147483647) h29 rfl) (rW (c := (-2147483648)) (d := 2147483647) h43 rfl) (rW (c := (-2147483648)) (d := 2147483647) h42 rfl) (rW (c := (-2147483648)) (d := 2147483647) h45 rfl) q47 (vc_X11_right_21 h49 h50)) (gOk _ _ _ _ _) dX11_right_84 (tX10_addRight _ _ _ _ _) ⟨wV_X10_addRight, wL_X10_addRight⟩ wM_X11_191 (gCX10 _ _ _ _ _) rfl (A_6 hw) rfl ⟨le_t rfl, le_t rfl⟩ ⟨le_t rfl, le_t rfl⟩ rfl (le_t rfl) fun z55 μ51 T52 F53 h54 => ?_
        refine mr_istore (pc := 87) (lv' := [(7, iv z55), (0, .ref 0), (1, iv p1), (2, iv p2), (3, iv p3), (4, iv p4), (5, iv p5), (6, iv p6)]) dX11_right_87 (by decide) rfl ?_
        refine sv_aload_n (pc := 89) dX11_right_89 rfl rfl ?_
        refine gf_X11_6 (pc := 90) dX11_right_90 wF_X11_51 (A_0 hw) T52 ?_
        refine mr_cVV (pc := 93) (c_X8_tellAllAnew hw T52 (PC.keep hIPC hw ((mF.call mF.refl F53 rfl) : mF [6017, 14999, 15999, 16999, 17999, 18999, 19999, 20999] w μ μ51) rfl)) (gOk _ _ _ _ _) dX11_right_93 (tX8_tellAllAnew _ _ _ _ _) ⟨wV_X8_tellAllAnew, wL_X8_tellAllAnew⟩ wM_X11_179 (gCX8 _ _ _ _ _) rfl (A_32 hw) rfl ⟨le_t rfl, le_t rfl⟩ ⟨le_t rfl, le_t rfl⟩ rfl (le_t rfl) fun μ56 T57 F58 h59 => ?_
        refine mr_iload (pc := 96) (z := z55) dX11_right_96 rfl ?_
        exact mr_iret dX11_right_98 rfl (le_t rfl) (le_t rfl) T57 (mF.call (mF.call mF.refl F53 rfl) F58 rfl) ⟨h54.1, trivial⟩
      have h60 : 30 ≤ z46 ∧ z46 ≤ 30 := (vc_X11_right_22 h49 h48)
      refine mr_bipush (pc := 68) (z := (-3)) dX11_right_68 (by decide) ?_
      exact mr_iret dX11_right_70 rfl (le_t rfl) (le_t rfl) hT mF.refl ⟨(rW (c := (-2147483648)) (d := 2147483647) (rR (x := (-3))) rfl), trivial⟩
    have h61 : (-2147483648) ≤ p6 ∧ p6 ≤ (-1) := (vc_X11_right_23 h44 hp6)
    refine mr_iconst (pc := 54) (z := (-1)) dX11_right_54 ?_
    exact mr_iret dX11_right_55 rfl (le_t rfl) (le_t rfl) hT mF.refl ⟨(rW (c := (-2147483648)) (d := 2147483647) (rR (x := (-1))) rfl), trivial⟩
  have h62 : 33 ≤ p2 ∧ p2 ≤ 2147483647 := (vc_X11_right_24 h36 h33 h35 h32)
  refine mr_iconst (pc := 35) (z := (-1)) dX11_right_35 ?_
  exact mr_iret dX11_right_36 rfl (le_t rfl) (le_t rfl) hT mF.refl ⟨(rW (c := (-2147483648)) (d := 2147483647) (rR (x := (-1))) rfl), trivial⟩
theorem vc_X11_strike_1 {p1 : Int} (h0 : p1 < 0) (h1 : (-2147483648) ≤ p1 ∧ p1 ≤ 2147483647) : (-2147483648) ≤ p1 ∧ p1 ≤ (-1) := by omega
theorem vc_X11_strike_2 {p1 : Int} (h0 : 0 ≤ p1) (h1 : (-2147483648) ≤ p1 ∧ p1 ≤ 2147483647) : 0 ≤ p1 ∧ p1 ≤ 2147483647 := by omega
theorem vc_X11_strike_3 {p1 z4 : Int} (h0 : p1 < z4) (h1 : 0 ≤ p1) (h2 : 0 ≤ p1 ∧ p1 ≤ 2147483647) (h3 : 0 ≤ z4 ∧ z4 ≤ 30) : 0 ≤ p1 ∧ p1 ≤ 29 := by omega
theorem vc_X11_strike_4 {p1 z4 : Int} (h0 : p1 < z4) (h1 : 0 ≤ p1) (h2 : 0 ≤ p1 ∧ p1 ≤ 29) (h3 : 0 ≤ z4 ∧ z4 ≤ 30) : 1 ≤ z4 ∧ z4 ≤ 30 := by omega
theorem vc_X11_strike_5 {z14 : Int} (h0 : z14 = (-1)) (h1 : (-2147483648) ≤ z14 ∧ z14 ≤ 2147483647) : (-1) ≤ z14 ∧ z14 ≤ (-1) := by omega
theorem vc_X11_strike_6 {p2 z10 : Int} (h0 : p2 < z10) (h1 : (-2147483648) ≤ p2 ∧ p2 ≤ 2147483647) (h2 : (-2147483648) ≤ z10 ∧ z10 ≤ 2147483647) : (-2147483648) ≤ p2 ∧ p2 ≤ 2147483646 := by omega
theorem vc_X11_strike_7 {p2 z10 : Int} (h0 : p2 < z10) (h1 : (-2147483648) ≤ p2 ∧ p2 ≤ 2147483646) (h2 : (-2147483648) ≤ z10 ∧ z10 ≤ 2147483647) : (-2147483647) ≤ z10 ∧ z10 ≤ 2147483647 := by omega
set_option maxRecDepth 4000 in
set_option maxHeartbeats 4000000 in
theorem c_X11_strike {l : Launch} {D : va_G} {c : Nat → ClassId} {H0 : Heap} {sa : Nat × Nat × (Nat → Int32)} {w : mW} {μ : mM} (hw : mWF w) (hT : mT w μ) {p1 : Int} (hp1 : (-2147483648) ≤ p1 ∧ p1 ≤ 2147483647) {p2 : Int} (hp2 : (-2147483648) ≤ p2 ∧ p2 ≤ 2147483647) (hIPC : PC w μ) : sC (gG l D c H0 sa) mX11_strike 44 0 0 [.ref 0, iv p1, iv p2] (mk w μ) (qI w [20999, 21002, 21003, 21004, 21005, 21006, 21007, 32009, 32010, 33999, 34999, 66999, 200002, 200003, 200004, 200005, 200006, 200007, 200008, 200009, 200010, 200011, 201999, 202999, 213999] μ (fun z μ1 => ((-2147483648) ≤ z ∧ z ≤ 2147483647) ∧ True)) := by
  refine sC.of rfl (by decide) (le_t rfl) ?_
  refine mr_lvE (lv' := [(0, .ref 0), (1, iv p1), (2, iv p2)]) rfl ?_
  refine mr_iload_n (pc := 0) (z := p1) dX11_strike_0 rfl rfl ?_
  refine mr_if_lt (pc := 1) (tgt := 28) dX11_strike_1 (by decide) hp1 (fun h1 => ?_) (fun h1 => ?_)
  · have h2 : (-2147483648) ≤ p1 ∧ p1 ≤ (-1) := (vc_X11_strike_1 h1 hp1)
    refine mr_iconst (pc := 28) (z := (-1)) dX11_strike_28 ?_
    exact mr_iret dX11_strike_29 rfl (le_t rfl) (le_t rfl) hT mF.refl ⟨(rW (c := (-2147483648)) (d := 2147483647) (rR (x := (-1))) rfl), trivial⟩
  have h3 : 0 ≤ p1 ∧ p1 ≤ 2147483647 := (vc_X11_strike_2 h1 hp1)
  refine mr_iload_n (pc := 4) (z := p1) dX11_strike_4 rfl rfl ?_
  refine sv_aload_n (pc := 5) dX11_strike_5 rfl rfl ?_
  refine gf_X11_3 (pc := 6) dX11_strike_6 wF_X11_26 (A_0 hw) hT ?_
  refine gf_X10_17 (pc := 9) dX11_strike_9 wF_X11_188 (A_6 hw) hT fun z4 q5 h6 => ?_
  refine mr_icmp_ge (pc := 12) (tgt := 28) dX11_strike_12 (by decide) (r32 h3 rfl) (r32 h6 rfl) (fun h7 => ?_) (fun h7 => ?_)
  · refine mr_iconst (pc := 28) (z := (-1)) dX11_strike_28 ?_
    exact mr_iret dX11_strike_29 rfl (le_t rfl) (le_t rfl) hT mF.refl ⟨(rW (c := (-2147483648)) (d := 2147483647) (rR (x := (-1))) rfl), trivial⟩
  have h8 : 0 ≤ p1 ∧ p1 ≤ 29 := (vc_X11_strike_3 h7 h1 h3 h6)
  have h9 : 1 ≤ z4 ∧ z4 ≤ 30 := (vc_X11_strike_4 h7 h1 h8 h6)
  refine mr_iload_n (pc := 15) (z := p2) dX11_strike_15 rfl rfl ?_
  refine sv_aload_n (pc := 16) dX11_strike_16 rfl rfl ?_
  refine gf_X11_3 (pc := 17) dX11_strike_17 wF_X11_26 (A_0 hw) hT ?_
  refine gf_X10_12 (pc := 20) dX11_strike_20 wF_X11_195 (A_6 hw) hT ?_
  refine mr_iload_n (pc := 23) (z := p1) dX11_strike_23 rfl rfl ?_
  refine la_19 (pc := 24) dX11_strike_24 (A_19 hw) hT (rIx (n := 30) h8 rfl) fun z10 q11 h12 => ?_
  refine mr_icmp_ge (pc := 25) (tgt := 30) dX11_strike_25 (by decide) hp2 h12 (fun h13 => ?_) (fun h13 => ?_)
  · refine sv_aload_n (pc := 30) dX11_strike_30 rfl rfl ?_
    refine gf_X11_3 (pc := 31) dX11_strike_31 wF_X11_26 (A_0 hw) hT ?_
    refine gf_X10_13 (pc := 34) dX11_strike_34 wF_X11_198 (A_6 hw) hT ?_
    refine mr_iload_n (pc := 37) (z := p1) dX11_strike_37 rfl rfl ?_
    refine la_20 (pc := 38) dX11_strike_38 (A_20 hw) hT (rIx (n := 30) h8 rfl) fun z14 q15 h16 => ?_
    refine mr_iconst (pc := 39) (z := (-1)) dX11_strike_39 ?_
    refine mr_icmp_eq (pc := 40) (tgt := 46) dX11_strike_40 (by decide) h16 (r32 (rR (x := (-1))) rfl) (fun h17 => ?_) (fun h17 => ?_)
    · have h18 : (-1) ≤ z14 ∧ z14 ≤ (-1) := (vc_X11_strike_5 h17 h16)
      refine sv_aload_n (pc := 46) dX11_strike_46 rfl rfl ?_
      refine gf_X11_3 (pc := 47) dX11_strike_47 wF_X11_26 (A_0 hw) hT ?_
      refine gf_X10_13 (pc := 50) dX11_strike_50 wF_X11_198 (A_6 hw) hT ?_
      refine mr_iload_n (pc := 53) (z := p1) dX11_strike_53 rfl rfl ?_
      refine mr_iload_n (pc := 54) (z := p2) dX11_strike_54 rfl rfl ?_
      refine ss_20 (pc := 55) dX11_strike_55 (A_20 hw) hT (rIx (n := 30) h8 rfl) hp2 fun μ19 u20 T21 => ?_
      refine sv_aload_n (pc := 56) dX11_strike_56 rfl rfl ?_
      refine gf_X11_6 (pc := 57) dX11_strike_57 wF_X11_51 (A_0 hw) T21 ?_
      refine mr_cVV (pc := 60) (c_X8_tellAllAnew hw T21 (PC.keep hIPC hw ((mF.up mF.refl (A_20 hw) u20 rfl) : mF [20999] w μ μ19) rfl)) (gOk _ _ _ _ _) dX11_strike_60 (tX8_tellAllAnew _ _ _ _ _) ⟨wV_X8_tellAllAnew, wL_X8_tellAllAnew⟩ wM_X11_179 (gCX8 _ _ _ _ _) rfl (A_32 hw) rfl ⟨le_t rfl, le_t rfl⟩ ⟨le_t rfl, le_t rfl⟩ rfl (le_t rfl) fun μ22 T23 F24 h25 => ?_
      refine mr_iconst (pc := 63) (z := 0) dX11_strike_63 ?_
      exact mr_iret dX11_strike_64 rfl (le_t rfl) (le_t rfl) T23 (mF.call (mF.up mF.refl (A_20 hw) u20 rfl) F24 rfl) ⟨(rW (c := (-2147483648)) (d := 2147483647) (rR (x := 0)) rfl), trivial⟩
    refine mr_bipush (pc := 43) (z := (-2)) dX11_strike_43 (by decide) ?_
    exact mr_iret dX11_strike_45 rfl (le_t rfl) (le_t rfl) hT mF.refl ⟨(rW (c := (-2147483648)) (d := 2147483647) (rR (x := (-2))) rfl), trivial⟩
  have h26 : (-2147483648) ≤ p2 ∧ p2 ≤ 2147483646 := (vc_X11_strike_6 h13 hp2 h12)
  have h27 : (-2147483647) ≤ z10 ∧ z10 ≤ 2147483647 := (vc_X11_strike_7 h13 h26 h12)
  refine mr_iconst (pc := 28) (z := (-1)) dX11_strike_28 ?_
  exact mr_iret dX11_strike_29 rfl (le_t rfl) (le_t rfl) hT mF.refl ⟨(rW (c := (-2147483648)) (d := 2147483647) (rR (x := (-1))) rfl), trivial⟩
theorem vc_X11_use_1 {p1 z1 z8 : Int} (h0 : z8 = 0) (h1 : (z8 = 1 → 0 ≤ p1 ∧ p1 < z1)) (h2 : (z8 = 0 → p1 < 0 ∨ z1 ≤ p1)) (h3 : (-2147483648) ≤ p1 ∧ p1 ≤ 2147483647) (h4 : 0 ≤ z1 ∧ z1 ≤ 20) (h5 : 0 ≤ z8 ∧ z8 ≤ 1) : 0 ≤ z8 ∧ z8 ≤ 0 := by omega
theorem vc_X11_use_2 {n1 p1 z1 z8 : Int} (h0 : (z8 = 1 → 0 ≤ p1 ∧ p1 < z1)) (h1 : (z8 = 0 → p1 < 0 ∨ z1 ≤ p1)) (h2 : z8 = 0) (h3 : z1 = n1) (h4 : (-2147483648) ≤ p1 ∧ p1 ≤ 2147483647) (h5 : 0 ≤ z1 ∧ z1 ≤ 20) (h6 : 0 ≤ z8 ∧ z8 ≤ 0) : z8 = 0 := by omega
theorem vc_X11_use_3 {p1 z1 z8 : Int} (h0 : ¬ z8 = 0) (h1 : (z8 = 1 → 0 ≤ p1 ∧ p1 < z1)) (h2 : (z8 = 0 → p1 < 0 ∨ z1 ≤ p1)) (h3 : (-2147483648) ≤ p1 ∧ p1 ≤ 2147483647) (h4 : 0 ≤ z1 ∧ z1 ≤ 20) (h5 : 0 ≤ z8 ∧ z8 ≤ 1) : 1 ≤ z8 ∧ z8 ≤ 1 := by omega
theorem vc_X11_use_4 {n1 p1 z1 z8 : Int} (h0 : (z8 = 1 → 0 ≤ p1 ∧ p1 < z1)) (h1 : (z8 = 0 → p1 < 0 ∨ z1 ≤ p1)) (h2 : ¬ z8 = 0) (h3 : z1 = n1) (h4 : (-2147483648) ≤ p1 ∧ p1 ≤ 2147483647) (h5 : 0 ≤ z1 ∧ z1 ≤ 20) (h6 : 1 ≤ z8 ∧ z8 ≤ 1) : z8 = 1 := by omega
theorem vc_X11_use_5 {n1 p1 z1 z8 : Int} (h0 : 0 ≤ p1 ∧ p1 < z1) (h1 : z1 = n1) (h2 : (z8 = 1 → 0 ≤ p1 ∧ p1 < z1)) (h3 : (z8 = 0 → p1 < 0 ∨ z1 ≤ p1)) (h4 : (-2147483648) ≤ p1 ∧ p1 ≤ 2147483647) (h5 : 0 ≤ z1 ∧ z1 ≤ 20) (h6 : 1 ≤ z8 ∧ z8 ≤ 1) : 0 ≤ p1 ∧ p1 ≤ 19 := by omega
theorem vc_X11_use_6 {n1 p1 z1 z8 : Int} (h0 : 0 ≤ p1 ∧ p1 < z1) (h1 : z1 = n1) (h2 : (z8 = 1 → 0 ≤ p1 ∧ p1 < z1)) (h3 : (z8 = 0 → p1 < 0 ∨ z1 ≤ p1)) (h4 : 0 ≤ p1 ∧ p1 ≤ 19) (h5 : 0 ≤ z1 ∧ z1 ≤ 20) (h6 : 1 ≤ z8 ∧ z8 ≤ 1) : 1 ≤ z1 ∧ z1 ≤ 20 := by omega
theorem vc_X11_use_7 {p2 z20 : Int} (h0 : z20 = 0) (h1 : (z20 = 1 → 0 ≤ p2 ∧ p2 ≤ 1)) (h2 : (z20 = 0 → p2 < 0 ∨ 1 < p2)) (h3 : (-2147483648) ≤ p2 ∧ p2 ≤ 2147483647) (h4 : 0 ≤ z20 ∧ z20 ≤ 1) : 0 ≤ z20 ∧ z20 ≤ 0 := by omega
theorem vc_X11_use_8 {p2 z20 : Int} (h0 : (z20 = 1 → 0 ≤ p2 ∧ p2 ≤ 1)) (h1 : (z20 = 0 → p2 < 0 ∨ 1 < p2)) (h2 : z20 = 0) (h3 : (-2147483648) ≤ p2 ∧ p2 ≤ 2147483647) (h4 : 0 ≤ z20 ∧ z20 ≤ 0) : z20 = 0 := by omega
theorem vc_X11_use_9 {p2 z20 : Int} (h0 : ¬ z20 = 0) (h1 : (z20 = 1 → 0 ≤ p2 ∧ p2 ≤ 1)) (h2 : (z20 = 0 → p2 < 0 ∨ 1 < p2)) (h3 : (-2147483648) ≤ p2 ∧ p2 ≤ 2147483647) (h4 : 0 ≤ z20 ∧ z20 ≤ 1) : 1 ≤ z20 ∧ z20 ≤ 1 := by omega
theorem vc_X11_use_10 {p2 z20 : Int} (h0 : (z20 = 1 → 0 ≤ p2 ∧ p2 ≤ 1)) (h1 : (z20 = 0 → p2 < 0 ∨ 1 < p2)) (h2 : ¬ z20 = 0) (h3 : (-2147483648) ≤ p2 ∧ p2 ≤ 2147483647) (h4 : 1 ≤ z20 ∧ z20 ≤ 1) : z20 = 1 := by omega
theorem vc_X11_use_11 {p2 z20 : Int} (h0 : 0 ≤ p2 ∧ p2 ≤ 1) (h1 : (z20 = 1 → 0 ≤ p2 ∧ p2 ≤ 1)) (h2 : (z20 = 0 → p2 < 0 ∨ 1 < p2)) (h3 : (-2147483648) ≤ p2 ∧ p2 ≤ 2147483647) (h4 : 1 ≤ z20 ∧ z20 ≤ 1) : 0 ≤ p2 ∧ p2 ≤ 1 := by omega
theorem vc_X11_use_12 {p3 z31 : Int} (h0 : ¬ z31 = 0) (h1 : (z31 = 1 → 0 ≤ p3 ∧ p3 ≤ 1)) (h2 : (z31 = 0 → p3 < 0 ∨ 1 < p3)) (h3 : (-2147483648) ≤ p3 ∧ p3 ≤ 2147483647) (h4 : 0 ≤ z31 ∧ z31 ≤ 1) : 1 ≤ z31 ∧ z31 ≤ 1 := by omega
theorem vc_X11_use_13 {p3 z31 : Int} (h0 : (z31 = 1 → 0 ≤ p3 ∧ p3 ≤ 1)) (h1 : (z31 = 0 → p3 < 0 ∨ 1 < p3)) (h2 : ¬ z31 = 0) (h3 : (-2147483648) ≤ p3 ∧ p3 ≤ 2147483647) (h4 : 1 ≤ z31 ∧ z31 ≤ 1) : z31 = 1 := by omega
theorem vc_X11_use_14 {p3 z31 : Int} (h0 : 0 ≤ p3 ∧ p3 ≤ 1) (h1 : (z31 = 1 → 0 ≤ p3 ∧ p3 ≤ 1)) (h2 : (z31 = 0 → p3 < 0 ∨ 1 < p3)) (h3 : (-2147483648) ≤ p3 ∧ p3 ≤ 2147483647) (h4 : 1 ≤ z31 ∧ z31 ≤ 1) : 0 ≤ p3 ∧ p3 ≤ 1 := by omega
theorem vc_X11_use_15 {p4 : Int} (h0 : p4 = (-99999999)) (h1 : (-2147483648) ≤ p4 ∧ p4 ≤ 2147483647) : (-99999999) ≤ p4 ∧ p4 ≤ (-99999999) := by omega
theorem vc_X11_use_16 {n1 p1 z1 z8 : Int} (h0 : z1 = n1) (h1 : (z8 = 1 → 0 ≤ p1 ∧ p1 < z1)) (h2 : (z8 = 0 → p1 < 0 ∨ z1 ≤ p1)) (h3 : 0 ≤ p1 ∧ p1 < z1) (h4 : ¬ z8 = 0) (h5 : 0 ≤ p1 ∧ p1 ≤ 19) (h6 : 1 ≤ z1 ∧ z1 ≤ 20) (h7 : 1 ≤ z8 ∧ z8 ≤ 1) : p1 < n1 := by omega
theorem vc_X11_use_17 {p4 : Int} (h0 : p4 = (-99999999)) (h1 : (-99999999) ≤ p4 ∧ p4 ≤ (-99999999)) : p4 = -99999999 ∨ (0 ≤ p4 ∧ p4 ≤ 11) := by omega
theorem vc_X11_use_18 {p3 z31 : Int} (h0 : ¬ p3 = 0) (h1 : (z31 = 1 → 0 ≤ p3 ∧ p3 ≤ 1)) (h2 : (z31 = 0 → p3 < 0 ∨ 1 < p3)) (h3 : 0 ≤ p3 ∧ p3 ≤ 1) (h4 : 1 ≤ z31 ∧ z31 ≤ 1) : 1 ≤ p3 ∧ p3 ≤ 1 := by omega
theorem vc_X11_use_19 {p3 z31 : Int} (h0 : p3 = 0) (h1 : (z31 = 1 → 0 ≤ p3 ∧ p3 ≤ 1)) (h2 : (z31 = 0 → p3 < 0 ∨ 1 < p3)) (h3 : 0 ≤ p3 ∧ p3 ≤ 1) (h4 : 1 ≤ z31 ∧ z31 ≤ 1) : 0 ≤ p3 ∧ p3 ≤ 0 := by omega
theorem vc_X11_use_20 {n0 z71 : Int} (h0 : z71 < n0) (h1 : 0 ≤ z71 ∧ z71 ≤ 9) : z71 < n0 := by omega
theorem vc_X11_use_21 {p4 : Int} (h0 : p4 < 0) (h1 : ¬ p4 = (-99999999)) (h2 : (-2147483648) ≤ p4 ∧ p4 ≤ 2147483647) : (-2147483648) ≤ p4 ∧ p4 ≤ (-1) := by omega
theorem vc_X11_use_22 {p4 : Int} (h0 : 0 ≤ p4) (h1 : ¬ p4 = (-99999999)) (h2 : (-2147483648) ≤ p4 ∧ p4 ≤ 2147483647) : 0 ≤ p4 ∧ p4 ≤ 2147483647 := by omega
theorem vc_X11_use_23 {n2 p4 z79 : Int} (h0 : p4 < z79) (h1 : ¬ p4 = (-99999999)) (h2 : 0 ≤ p4) (h3 : z79 = n2) (h4 : 0 ≤ p4 ∧ p4 ≤ 2147483647) (h5 : 0 ≤ z79 ∧ z79 ≤ 12) : 0 ≤ p4 ∧ p4 ≤ 11 := by omega
theorem vc_X11_use_24 {n2 p4 z79 : Int} (h0 : p4 < z79) (h1 : ¬ p4 = (-99999999)) (h2 : 0 ≤ p4) (h3 : z79 = n2) (h4 : 0 ≤ p4 ∧ p4 ≤ 11) (h5 : 0 ≤ z79 ∧ z79 ≤ 12) : 1 ≤ z79 ∧ z79 ≤ 12 := by omega
theorem vc_X11_use_25 {n2 p4 z79 : Int} (h0 : ¬ p4 = (-99999999)) (h1 : 0 ≤ p4) (h2 : p4 < z79) (h3 : z79 = n2) (h4 : 0 ≤ p4 ∧ p4 ≤ 11) (h5 : 1 ≤ z79 ∧ z79 ≤ 12) : p4 = -99999999 ∨ (0 ≤ p4 ∧ p4 ≤ 11) := by omega
theorem vc_X11_use_26 {n0 z118 : Int} (h0 : z118 < n0) (h1 : 0 ≤ z118 ∧ z118 ≤ 9) : z118 < n0 := by omega
theorem vc_X11_use_27 {p3 z31 : Int} (h0 : z31 = 0) (h1 : (z31 = 1 → 0 ≤ p3 ∧ p3 ≤ 1)) (h2 : (z31 = 0 → p3 < 0 ∨ 1 < p3)) (h3 : (-2147483648) ≤ p3 ∧ p3 ≤ 2147483647) (h4 : 0 ≤ z31 ∧ z31 ≤ 1) : 0 ≤ z31 ∧ z31 ≤ 0 := by omega
theorem vc_X11_use_28 {p3 z31 : Int} (h0 : (z31 = 1 → 0 ≤ p3 ∧ p3 ≤ 1)) (h1 : (z31 = 0 → p3 < 0 ∨ 1 < p3)) (h2 : z31 = 0) (h3 : (-2147483648) ≤ p3 ∧ p3 ≤ 2147483647) (h4 : 0 ≤ z31 ∧ z31 ≤ 0) : z31 = 0 := by omega
set_option maxRecDepth 4000 in
set_option maxHeartbeats 4000000 in
theorem c_X11_use {l : Launch} {D : va_G} {c : Nat → ClassId} {H0 : Heap} {sa : Nat × Nat × (Nat → Int32)} {w : mW} {μ : mM} (hw : mWF w) (hT : mT w μ) {p1 : Int} (hp1 : (-2147483648) ≤ p1 ∧ p1 ≤ 2147483647) {p2 : Int} (hp2 : (-2147483648) ≤ p2 ∧ p2 ≤ 2147483647) {p3 : Int} (hp3 : (-2147483648) ≤ p3 ∧ p3 ≤ 2147483647) {p4 : Int} (hp4 : (-2147483648) ≤ p4 ∧ p4 ≤ 2147483647) (hIPC : PC w μ) : sC (gG l D c H0 sa) mX11_use 44 0 0 [.ref 0, iv p1, iv p2, iv p3, iv p4] (mk w μ) (qI w [21002, 21003, 21004, 21005, 21006, 21007, 32009, 32010, 33999, 34999, 66999, 200002, 200003, 200004, 200005, 200006, 200007, 200008, 200009, 200010, 200011, 201999, 202999, 213999, 221999] μ (fun z μ1 => ((-2147483648) ≤ z ∧ z ≤ 2147483647) ∧ True)) := by
  refine sC.of rfl (by decide) (le_t rfl) ?_
  refine mr_lvE (lv' := [(0, .ref 0), (1, iv p1), (2, iv p2), (3, iv p3), (4, iv p4)]) rfl ?_
  refine sv_aload_n (pc := 0) dX11_use_0 rfl rfl ?_
  refine mr_iload_n (pc := 1) (z := p1) dX11_use_1 rfl rfl ?_
  obtain ⟨z1, q2⟩ : ∃ z, μ 6 16 = z := ⟨_, rfl⟩
  have h3 : (z1 = w.2.2.2 1 ∧ 0 ≤ z1 ∧ z1 ≤ 20) := by rw [← q2]; exact hT 6 6 (A_6 hw) 16
  refine mr_cVP (pc := 2) (c_X11_isTie hw hT hp1 q2) (gOk _ _ _ _ _) dX11_use_2 (tX11_isTie _ _ _ _ _) ⟨wV_X11_isTie, wL_X11_isTie⟩ wM_X11_119 (gCX11 _ _ _ _ _) rfl (A_0 hw) rfl ⟨le_t rfl, le_t rfl⟩ ⟨le_t rfl, le_t rfl⟩ rfl (le_t rfl) fun z8 h7 => ?_
  refine mr_if_eq (pc := 5) (tgt := 22) dX11_use_5 (by decide) (r32 h7.1 rfl) (fun h9 => ?_) (fun h9 => ?_)
  · have h10 : 0 ≤ z8 ∧ z8 ≤ 0 := (vc_X11_use_1 h9 h7.2.1 h7.2.2.1 hp1 h3.2 h7.1)
    have h11 : p1 < 0 ∨ z1 ≤ p1 := (h7.2.2.1 (vc_X11_use_2 h7.2.1 h7.2.2.1 h9 h3.1 hp1 h3.2 h10))
    refine mr_iconst (pc := 22) (z := (-1)) dX11_use_22 ?_
    exact mr_iret dX11_use_23 rfl (le_t rfl) (le_t rfl) hT mF.refl ⟨(rW (c := (-2147483648)) (d := 2147483647) (rR (x := (-1))) rfl), trivial⟩
  have h12 : 1 ≤ z8 ∧ z8 ≤ 1 := (vc_X11_use_3 h9 h7.2.1 h7.2.2.1 hp1 h3.2 h7.1)
  have h13 : 0 ≤ p1 ∧ p1 < z1 := (h7.2.1 (vc_X11_use_4 h7.2.1 h7.2.2.1 h9 h3.1 hp1 h3.2 h12))
  have h14 : 0 ≤ p1 ∧ p1 ≤ 19 := (vc_X11_use_5 h13 h3.1 h7.2.1 h7.2.2.1 hp1 h3.2 h12)
  have h15 : 1 ≤ z1 ∧ z1 ≤ 20 := (vc_X11_use_6 h13 h3.1 h7.2.1 h7.2.2.1 h14 h3.2 h12)
  refine mr_iload_n (pc := 8) (z := p2) dX11_use_8 rfl rfl ?_
  refine mr_cSP (pc := 9) (c_X11_isEither hw hT hp2) (gOk _ _ _ _ _) dX11_use_9 (tX11_isEither _ _ _ _ _) wS_X11_isEither wM_X11_271 ⟨le_t rfl, le_t rfl⟩ ⟨le_t rfl, le_t rfl⟩ rfl (le_t rfl) fun z20 h19 => ?_
  refine mr_if_eq (pc := 12) (tgt := 22) dX11_use_12 (by decide) (r32 h19.1 rfl) (fun h21 => ?_) (fun h21 => ?_)
  · have h22 : 0 ≤ z20 ∧ z20 ≤ 0 := (vc_X11_use_7 h21 h19.2.1 h19.2.2.1 hp2 h19.1)
    have h23 : p2 < 0 ∨ 1 < p2 := (h19.2.2.1 (vc_X11_use_8 h19.2.1 h19.2.2.1 h21 hp2 h22))
    refine mr_iconst (pc := 22) (z := (-1)) dX11_use_22 ?_
    exact mr_iret dX11_use_23 rfl (le_t rfl) (le_t rfl) hT mF.refl ⟨(rW (c := (-2147483648)) (d := 2147483647) (rR (x := (-1))) rfl), trivial⟩
  have h24 : 1 ≤ z20 ∧ z20 ≤ 1 := (vc_X11_use_9 h21 h19.2.1 h19.2.2.1 hp2 h19.1)
  have h25 : 0 ≤ p2 ∧ p2 ≤ 1 := (h19.2.1 (vc_X11_use_10 h19.2.1 h19.2.2.1 h21 hp2 h24))
  have h26 : 0 ≤ p2 ∧ p2 ≤ 1 := (vc_X11_use_11 h25 h19.2.1 h19.2.2.1 hp2 h24)
  refine mr_iload_n (pc := 15) (z := p3) dX11_use_15 rfl rfl ?_
  refine mr_cSP (pc := 16) (c_X11_isEither hw hT hp3) (gOk _ _ _ _ _) dX11_use_16 (tX11_isEither _ _ _ _ _) wS_X11_isEither wM_X11_271 ⟨le_t rfl, le_t rfl⟩ ⟨le_t rfl, le_t rfl⟩ rfl (le_t rfl) fun z31 h30 => ?_
  refine mr_if_ne (pc := 19) (tgt := 24) dX11_use_19 (by decide) (r32 h30.1 rfl) (fun h32 => ?_) (fun h32 => ?_)
  · have h33 : 1 ≤ z31 ∧ z31 ≤ 1 := (vc_X11_use_12 h32 h30.2.1 h30.2.2.1 hp3 h30.1)
    have h34 : 0 ≤ p3 ∧ p3 ≤ 1 := (h30.2.1 (vc_X11_use_13 h30.2.1 h30.2.2.1 h32 hp3 h33))
    have h35 : 0 ≤ p3 ∧ p3 ≤ 1 := (vc_X11_use_14 h34 h30.2.1 h30.2.2.1 hp3 h33)
    refine mr_iload (pc := 24) (z := p4) dX11_use_24 rfl ?_
    refine mr_ldc (pc := 26) (z := (-99999999)) dX11_use_26 wG_X11_165 (by decide) ?_
    refine mr_icmp_eq (pc := 28) (tgt := 50) dX11_use_28 (by decide) hp4 (r32 (rR (x := (-99999999))) rfl) (fun h36 => ?_) (fun h36 => ?_)
    · have h37 : (-99999999) ≤ p4 ∧ p4 ≤ (-99999999) := (vc_X11_use_15 h36 hp4)
      refine sv_aload_n (pc := 50) dX11_use_50 rfl rfl ?_
      refine gf_X11_3 (pc := 51) dX11_use_51 wF_X11_26 (A_0 hw) hT ?_
      refine gf_X10_4 (pc := 54) dX11_use_54 wF_X11_122 (A_6 hw) hT ?_
      refine mr_iload_n (pc := 57) (z := p1) dX11_use_57 rfl rfl ?_
      refine la_11 (pc := 58) dX11_use_58 (A_11 hw) hT (rIx (n := 20) h14 rfl) (vc_X11_use_16 h3.1 h7.2.1 h7.2.2.1 h13 h9 h14 h15 h12) fun b38 q39 A40 => ?_
      refine gf_X9_3 (pc := 59) dX11_use_59 wF_X11_274 A40 hT fun A41 => ?_
      refine mr_iload_n (pc := 62) (z := p2) dX11_use_62 rfl rfl ?_
      refine mr_iconst (pc := 63) (z := 2) dX11_use_63 ?_
      refine mr_imul (pc := 64) (x := p2) (y := 2) dX11_use_64 ?_
      refine mr_iload_n (pc := 65) (z := p3) dX11_use_65 rfl rfl ?_
      refine mr_iadd (pc := 66) (x := (p2 * 2)) (y := p3) dX11_use_66 ?_
      refine mr_iload (pc := 67) (z := p4) dX11_use_67 rfl ?_
      refine ss_221 (pc := 69) dX11_use_69 A41 hT (rIx (n := 4) (rAdd (e := 0) (f := 3) (rMulR (n := 2) (e := 0) (f := 2) h26 rfl) h35 rfl) rfl) (vc_X11_use_17 h36 h37) fun μ42 u43 T44 => ?_
      refine mr_iload_n (pc := 70) (z := p3) dX11_use_70 rfl rfl ?_
      refine mr_if_ne (pc := 71) (tgt := 97) dX11_use_71 (by decide) (r32 h35 rfl) (fun h60 => ?_) (fun h60 => ?_)
      · have h61 : 1 ≤ p3 ∧ p3 ≤ 1 := (vc_X11_use_18 h60 h30.2.1 h30.2.2.1 h34 h33)
        refine sv_aload_n (pc := 97) dX11_use_97 rfl rfl ?_
        refine gf_X11_6 (pc := 98) dX11_use_98 wF_X11_51 (A_0 hw) T44 ?_
        refine mr_iload_n (pc := 101) (z := p1) dX11_use_101 rfl rfl ?_
        refine mr_iload_n (pc := 102) (z := p2) dX11_use_102 rfl rfl ?_
        refine mr_cVV (pc := 103) (c_X8_sayAll hw T44 h14 h26 (vc_X11_use_16 h3.1 h7.2.1 h7.2.2.1 h13 h9 h14 h15 h12) (PC.keep hIPC hw ((mF.up mF.refl A41 u43 rfl) : mF [221999] w μ μ42) rfl)) (gOk _ _ _ _ _) dX11_use_103 (tX8_sayAll _ _ _ _ _) ⟨wV_X8_sayAll, wL_X8_sayAll⟩ wM_X11_138 (gCX8 _ _ _ _ _) rfl (A_32 hw) rfl ⟨le_t rfl, le_t rfl⟩ ⟨le_t rfl, le_t rfl⟩ rfl (le_t rfl) fun μ62 T63 F64 h65 => ?_
        refine mr_iconst (pc := 106) (z := 0) dX11_use_106 ?_
        exact mr_iret dX11_use_107 rfl (le_t rfl) (le_t rfl) T63 (mF.call (mF.up mF.refl A41 u43 rfl) F64 rfl) ⟨(rW (c := (-2147483648)) (d := 2147483647) (rR (x := 0)) rfl), trivial⟩
      have h66 : 0 ≤ p3 ∧ p3 ≤ 0 := (vc_X11_use_19 h60 h30.2.1 h30.2.2.1 h34 h33)
      refine sv_aload_n (pc := 74) dX11_use_74 rfl rfl ?_
      refine gf_X11_6 (pc := 75) dX11_use_75 wF_X11_51 (A_0 hw) T44 ?_
      refine sv_aload_n (pc := 78) dX11_use_78 rfl rfl ?_
      refine gf_X11_3 (pc := 79) dX11_use_79 wF_X11_26 (A_0 hw) T44 ?_
      refine gf_X10_4 (pc := 82) dX11_use_82 wF_X11_122 (A_6 hw) T44 ?_
      refine mr_iload_n (pc := 85) (z := p1) dX11_use_85 rfl rfl ?_
      refine lk_11 (pc := 86) dX11_use_86 (A_11 hw) (rIx (n := 20) h14 rfl) (u43.f (Or.inl (mAt.ne A41 (A_11 hw) rfl)) q39) ?_
      refine mr_iload_n (pc := 87) (z := p2) dX11_use_87 rfl rfl ?_
      refine mr_cVP (pc := 88) (c_X9_end hw T44 A40 (rW (c := (-2147483648)) (d := 2147483647) h26 rfl)) (gOk _ _ _ _ _) dX11_use_88 (tX9_end _ _ _ _ _) ⟨wV_X9_end, wL_X9_end⟩ wM_X11_277 (gCX9 _ _ _ _ _) rfl A40 rfl ⟨le_t rfl, le_t rfl⟩ ⟨le_t rfl, le_t rfl⟩ rfl (le_t rfl) fun z71 h70 => ?_
      refine mr_cVV (pc := 91) (c_X8_lookAtAll hw T44 h70.1 (vc_X11_use_20 h70.2.1 h70.1) (PC.keep hIPC hw ((mF.up mF.refl A41 u43 rfl) : mF [221999] w μ μ42) rfl)) (gOk _ _ _ _ _) dX11_use_91 (tX8_lookAtAll _ _ _ _ _) ⟨wV_X8_lookAtAll, wL_X8_lookAtAll⟩ wM_X11_148 (gCX8 _ _ _ _ _) rfl (A_32 hw) rfl ⟨le_t rfl, le_t rfl⟩ ⟨le_t rfl, le_t rfl⟩ rfl (le_t rfl) fun μ72 T73 F74 h75 => ?_
      refine sv_goto (pc := 94) (tgt := 106) dX11_use_94 (by decide) ?_
      refine mr_iconst (pc := 106) (z := 0) dX11_use_106 ?_
      exact mr_iret dX11_use_107 rfl (le_t rfl) (le_t rfl) T73 (mF.call (mF.up mF.refl A41 u43 rfl) F74 rfl) ⟨(rW (c := (-2147483648)) (d := 2147483647) (rR (x := 0)) rfl), trivial⟩
    refine mr_iload (pc := 31) (z := p4) dX11_use_31 rfl ?_
    refine mr_if_lt (pc := 33) (tgt := 48) dX11_use_33 (by decide) hp4 (fun h76 => ?_) (fun h76 => ?_)
    · have h77 : (-2147483648) ≤ p4 ∧ p4 ≤ (-1) := (vc_X11_use_21 h76 h36 hp4)
      refine mr_iconst (pc := 48) (z := (-1)) dX11_use_48 ?_
      exact mr_iret dX11_use_49 rfl (le_t rfl) (le_t rfl) hT mF.refl ⟨(rW (c := (-2147483648)) (d := 2147483647) (rR (x := (-1))) rfl), trivial⟩
    have h78 : 0 ≤ p4 ∧ p4 ≤ 2147483647 := (vc_X11_use_22 h76 h36 hp4)
    refine mr_iload (pc := 36) (z := p4) dX11_use_36 rfl ?_
    refine sv_aload_n (pc := 38) dX11_use_38 rfl rfl ?_
    refine gf_X11_4 (pc := 39) dX11_use_39 wF_X11_35 (A_0 hw) hT ?_
    refine gf_X1_8 (pc := 42) dX11_use_42 wF_X11_205 (A_21 hw) hT fun z79 q80 h81 => ?_
    refine mr_icmp_lt (pc := 45) (tgt := 50) dX11_use_45 (by decide) (r32 h78 rfl) (r32 h81.2 rfl) (fun h82 => ?_) (fun h82 => ?_)
    · have h83 : 0 ≤ p4 ∧ p4 ≤ 11 := (vc_X11_use_23 h82 h36 h76 h81.1 h78 h81.2)
      have h84 : 1 ≤ z79 ∧ z79 ≤ 12 := (vc_X11_use_24 h82 h36 h76 h81.1 h83 h81.2)
      refine sv_aload_n (pc := 50) dX11_use_50 rfl rfl ?_
      refine gf_X11_3 (pc := 51) dX11_use_51 wF_X11_26 (A_0 hw) hT ?_
      refine gf_X10_4 (pc := 54) dX11_use_54 wF_X11_122 (A_6 hw) hT ?_
      refine mr_iload_n (pc := 57) (z := p1) dX11_use_57 rfl rfl ?_
      refine la_11 (pc := 58) dX11_use_58 (A_11 hw) hT (rIx (n := 20) h14 rfl) (vc_X11_use_16 h3.1 h7.2.1 h7.2.2.1 h13 h9 h14 h15 h12) fun b85 q86 A87 => ?_
      refine gf_X9_3 (pc := 59) dX11_use_59 wF_X11_274 A87 hT fun A88 => ?_
      refine mr_iload_n (pc := 62) (z := p2) dX11_use_62 rfl rfl ?_
      refine mr_iconst (pc := 63) (z := 2) dX11_use_63 ?_
      refine mr_imul (pc := 64) (x := p2) (y := 2) dX11_use_64 ?_
      refine mr_iload_n (pc := 65) (z := p3) dX11_use_65 rfl rfl ?_
      refine mr_iadd (pc := 66) (x := (p2 * 2)) (y := p3) dX11_use_66 ?_
      refine mr_iload (pc := 67) (z := p4) dX11_use_67 rfl ?_
      refine ss_221 (pc := 69) dX11_use_69 A88 hT (rIx (n := 4) (rAdd (e := 0) (f := 3) (rMulR (n := 2) (e := 0) (f := 2) h26 rfl) h35 rfl) rfl) (vc_X11_use_25 h36 h76 h82 h81.1 h83 h84) fun μ89 u90 T91 => ?_
      refine mr_iload_n (pc := 70) (z := p3) dX11_use_70 rfl rfl ?_
      refine mr_if_ne (pc := 71) (tgt := 97) dX11_use_71 (by decide) (r32 h35 rfl) (fun h107 => ?_) (fun h107 => ?_)
      · have h108 : 1 ≤ p3 ∧ p3 ≤ 1 := (vc_X11_use_18 h107 h30.2.1 h30.2.2.1 h34 h33)
        refine sv_aload_n (pc := 97) dX11_use_97 rfl rfl ?_
        refine gf_X11_6 (pc := 98) dX11_use_98 wF_X11_51 (A_0 hw) T91 ?_
        refine mr_iload_n (pc := 101) (z := p1) dX11_use_101 rfl rfl ?_
        refine mr_iload_n (pc := 102) (z := p2) dX11_use_102 rfl rfl ?_
        refine mr_cVV (pc := 103) (c_X8_sayAll hw T91 h14 h26 (vc_X11_use_16 h3.1 h7.2.1 h7.2.2.1 h13 h9 h14 h15 h12) (PC.keep hIPC hw ((mF.up mF.refl A88 u90 rfl) : mF [221999] w μ μ89) rfl)) (gOk _ _ _ _ _) dX11_use_103 (tX8_sayAll _ _ _ _ _) ⟨wV_X8_sayAll, wL_X8_sayAll⟩ wM_X11_138 (gCX8 _ _ _ _ _) rfl (A_32 hw) rfl ⟨le_t rfl, le_t rfl⟩ ⟨le_t rfl, le_t rfl⟩ rfl (le_t rfl) fun μ109 T110 F111 h112 => ?_
        refine mr_iconst (pc := 106) (z := 0) dX11_use_106 ?_
        exact mr_iret dX11_use_107 rfl (le_t rfl) (le_t rfl) T110 (mF.call (mF.up mF.refl A88 u90 rfl) F111 rfl) ⟨(rW (c := (-2147483648)) (d := 2147483647) (rR (x := 0)) rfl), trivial⟩
      have h113 : 0 ≤ p3 ∧ p3 ≤ 0 := (vc_X11_use_19 h107 h30.2.1 h30.2.2.1 h34 h33)
      refine sv_aload_n (pc := 74) dX11_use_74 rfl rfl ?_
      refine gf_X11_6 (pc := 75) dX11_use_75 wF_X11_51 (A_0 hw) T91 ?_
      refine sv_aload_n (pc := 78) dX11_use_78 rfl rfl ?_
      refine gf_X11_3 (pc := 79) dX11_use_79 wF_X11_26 (A_0 hw) T91 ?_
      refine gf_X10_4 (pc := 82) dX11_use_82 wF_X11_122 (A_6 hw) T91 ?_
      refine mr_iload_n (pc := 85) (z := p1) dX11_use_85 rfl rfl ?_
      refine lk_11 (pc := 86) dX11_use_86 (A_11 hw) (rIx (n := 20) h14 rfl) (u90.f (Or.inl (mAt.ne A88 (A_11 hw) rfl)) q86) ?_
      refine mr_iload_n (pc := 87) (z := p2) dX11_use_87 rfl rfl ?_
      refine mr_cVP (pc := 88) (c_X9_end hw T91 A87 (rW (c := (-2147483648)) (d := 2147483647) h26 rfl)) (gOk _ _ _ _ _) dX11_use_88 (tX9_end _ _ _ _ _) ⟨wV_X9_end, wL_X9_end⟩ wM_X11_277 (gCX9 _ _ _ _ _) rfl A87 rfl ⟨le_t rfl, le_t rfl⟩ ⟨le_t rfl, le_t rfl⟩ rfl (le_t rfl) fun z118 h117 => ?_
      refine mr_cVV (pc := 91) (c_X8_lookAtAll hw T91 h117.1 (vc_X11_use_26 h117.2.1 h117.1) (PC.keep hIPC hw ((mF.up mF.refl A88 u90 rfl) : mF [221999] w μ μ89) rfl)) (gOk _ _ _ _ _) dX11_use_91 (tX8_lookAtAll _ _ _ _ _) ⟨wV_X8_lookAtAll, wL_X8_lookAtAll⟩ wM_X11_148 (gCX8 _ _ _ _ _) rfl (A_32 hw) rfl ⟨le_t rfl, le_t rfl⟩ ⟨le_t rfl, le_t rfl⟩ rfl (le_t rfl) fun μ119 T120 F121 h122 => ?_
      refine sv_goto (pc := 94) (tgt := 106) dX11_use_94 (by decide) ?_
      refine mr_iconst (pc := 106) (z := 0) dX11_use_106 ?_
      exact mr_iret dX11_use_107 rfl (le_t rfl) (le_t rfl) T120 (mF.call (mF.up mF.refl A88 u90 rfl) F121 rfl) ⟨(rW (c := (-2147483648)) (d := 2147483647) (rR (x := 0)) rfl), trivial⟩
    refine mr_iconst (pc := 48) (z := (-1)) dX11_use_48 ?_
    exact mr_iret dX11_use_49 rfl (le_t rfl) (le_t rfl) hT mF.refl ⟨(rW (c := (-2147483648)) (d := 2147483647) (rR (x := (-1))) rfl), trivial⟩
  have h123 : 0 ≤ z31 ∧ z31 ≤ 0 := (vc_X11_use_27 h32 h30.2.1 h30.2.2.1 hp3 h30.1)
  have h124 : p3 < 0 ∨ 1 < p3 := (h30.2.2.1 (vc_X11_use_28 h30.2.1 h30.2.2.1 h32 hp3 h123))
  refine mr_iconst (pc := 22) (z := (-1)) dX11_use_22 ?_
  exact mr_iret dX11_use_23 rfl (le_t rfl) (le_t rfl) hT mF.refl ⟨(rW (c := (-2147483648)) (d := 2147483647) (rR (x := (-1))) rfl), trivial⟩
theorem vc_X11_rule_1 {p1 z1 z8 : Int} (h0 : z8 = 0) (h1 : (z8 = 1 → 0 ≤ p1 ∧ p1 < z1)) (h2 : (z8 = 0 → p1 < 0 ∨ z1 ≤ p1)) (h3 : (-2147483648) ≤ p1 ∧ p1 ≤ 2147483647) (h4 : 0 ≤ z1 ∧ z1 ≤ 10) (h5 : 0 ≤ z8 ∧ z8 ≤ 1) : 0 ≤ z8 ∧ z8 ≤ 0 := by omega
theorem vc_X11_rule_2 {n0 p1 z1 z8 : Int} (h0 : (z8 = 1 → 0 ≤ p1 ∧ p1 < z1)) (h1 : (z8 = 0 → p1 < 0 ∨ z1 ≤ p1)) (h2 : z8 = 0) (h3 : z1 = n0) (h4 : (-2147483648) ≤ p1 ∧ p1 ≤ 2147483647) (h5 : 0 ≤ z1 ∧ z1 ≤ 10) (h6 : 0 ≤ z8 ∧ z8 ≤ 0) : z8 = 0 := by omega
theorem vc_X11_rule_3 {p1 z1 z8 : Int} (h0 : ¬ z8 = 0) (h1 : (z8 = 1 → 0 ≤ p1 ∧ p1 < z1)) (h2 : (z8 = 0 → p1 < 0 ∨ z1 ≤ p1)) (h3 : (-2147483648) ≤ p1 ∧ p1 ≤ 2147483647) (h4 : 0 ≤ z1 ∧ z1 ≤ 10) (h5 : 0 ≤ z8 ∧ z8 ≤ 1) : 1 ≤ z8 ∧ z8 ≤ 1 := by omega
theorem vc_X11_rule_4 {n0 p1 z1 z8 : Int} (h0 : (z8 = 1 → 0 ≤ p1 ∧ p1 < z1)) (h1 : (z8 = 0 → p1 < 0 ∨ z1 ≤ p1)) (h2 : ¬ z8 = 0) (h3 : z1 = n0) (h4 : (-2147483648) ≤ p1 ∧ p1 ≤ 2147483647) (h5 : 0 ≤ z1 ∧ z1 ≤ 10) (h6 : 1 ≤ z8 ∧ z8 ≤ 1) : z8 = 1 := by omega
theorem vc_X11_rule_5 {n0 p1 z1 z8 : Int} (h0 : 0 ≤ p1 ∧ p1 < z1) (h1 : z1 = n0) (h2 : (z8 = 1 → 0 ≤ p1 ∧ p1 < z1)) (h3 : (z8 = 0 → p1 < 0 ∨ z1 ≤ p1)) (h4 : (-2147483648) ≤ p1 ∧ p1 ≤ 2147483647) (h5 : 0 ≤ z1 ∧ z1 ≤ 10) (h6 : 1 ≤ z8 ∧ z8 ≤ 1) : 0 ≤ p1 ∧ p1 ≤ 9 := by omega
theorem vc_X11_rule_6 {n0 p1 z1 z8 : Int} (h0 : 0 ≤ p1 ∧ p1 < z1) (h1 : z1 = n0) (h2 : (z8 = 1 → 0 ≤ p1 ∧ p1 < z1)) (h3 : (z8 = 0 → p1 < 0 ∨ z1 ≤ p1)) (h4 : 0 ≤ p1 ∧ p1 ≤ 9) (h5 : 0 ≤ z1 ∧ z1 ≤ 10) (h6 : 1 ≤ z8 ∧ z8 ≤ 1) : 1 ≤ z1 ∧ z1 ≤ 10 := by omega
theorem vc_X11_rule_7 {p2 z20 : Int} (h0 : ¬ z20 = 0) (h1 : (z20 = 1 → p2 ≤ 999999)) (h2 : (z20 = 1 → 0 ≤ p2)) (h3 : (-2147483648) ≤ p2 ∧ p2 ≤ 2147483647) (h4 : 0 ≤ z20 ∧ z20 ≤ 1) : 1 ≤ z20 ∧ z20 ≤ 1 := by omega
theorem vc_X11_rule_8 {p2 z20 : Int} (h0 : (z20 = 1 → p2 ≤ 999999)) (h1 : (z20 = 1 → 0 ≤ p2)) (h2 : ¬ z20 = 0) (h3 : (-2147483648) ≤ p2 ∧ p2 ≤ 2147483647) (h4 : 1 ≤ z20 ∧ z20 ≤ 1) : z20 = 1 := by omega
theorem vc_X11_rule_9 {p2 z20 : Int} (h0 : p2 ≤ 999999) (h1 : (z20 = 1 → p2 ≤ 999999)) (h2 : (z20 = 1 → 0 ≤ p2)) (h3 : (-2147483648) ≤ p2 ∧ p2 ≤ 2147483647) (h4 : 1 ≤ z20 ∧ z20 ≤ 1) : (-2147483648) ≤ p2 ∧ p2 ≤ 999999 := by omega
theorem vc_X11_rule_10 {p2 z20 : Int} (h0 : (z20 = 1 → p2 ≤ 999999)) (h1 : (z20 = 1 → 0 ≤ p2)) (h2 : ¬ z20 = 0) (h3 : p2 ≤ 999999) (h4 : (-2147483648) ≤ p2 ∧ p2 ≤ 999999) (h5 : 1 ≤ z20 ∧ z20 ≤ 1) : z20 = 1 := by omega
theorem vc_X11_rule_11 {p2 z20 : Int} (h0 : 0 ≤ p2) (h1 : (z20 = 1 → p2 ≤ 999999)) (h2 : (z20 = 1 → 0 ≤ p2)) (h3 : p2 ≤ 999999) (h4 : (-2147483648) ≤ p2 ∧ p2 ≤ 999999) (h5 : 1 ≤ z20 ∧ z20 ≤ 1) : 0 ≤ p2 ∧ p2 ≤ 999999 := by omega
theorem vc_X11_rule_12 {n0 p1 z1 z8 : Int} (h0 : z1 = n0) (h1 : (z8 = 1 → 0 ≤ p1 ∧ p1 < z1)) (h2 : (z8 = 0 → p1 < 0 ∨ z1 ≤ p1)) (h3 : 0 ≤ p1 ∧ p1 < z1) (h4 : ¬ z8 = 0) (h5 : 0 ≤ p1 ∧ p1 ≤ 9) (h6 : 1 ≤ z1 ∧ z1 ≤ 10) (h7 : 1 ≤ z8 ∧ z8 ≤ 1) : p1 < n0 := by omega
theorem vc_X11_rule_13 {p2 z20 : Int} (h0 : z20 = 0) (h1 : (z20 = 1 → p2 ≤ 999999)) (h2 : (z20 = 1 → 0 ≤ p2)) (h3 : (-2147483648) ≤ p2 ∧ p2 ≤ 2147483647) (h4 : 0 ≤ z20 ∧ z20 ≤ 1) : 0 ≤ z20 ∧ z20 ≤ 0 := by omega
set_option maxRecDepth 4000 in
set_option maxHeartbeats 4000000 in
theorem c_X11_rule {l : Launch} {D : va_G} {c : Nat → ClassId} {H0 : Heap} {sa : Nat × Nat × (Nat → Int32)} {w : mW} {μ : mM} (hw : mWF w) (hT : mT w μ) {p1 : Int} (hp1 : (-2147483648) ≤ p1 ∧ p1 ≤ 2147483647) {p2 : Int} (hp2 : (-2147483648) ≤ p2 ∧ p2 ≤ 2147483647) {p3 : Int} (hp3 : 0 ≤ p3 ∧ p3 ≤ 1) (hIPC : PC w μ) : sC (gG l D c H0 sa) mX11_rule 44 0 0 [.ref 0, iv p1, iv p2, iv p3] (mk w μ) (qI w [21002, 21003, 21004, 21005, 21006, 21007, 32009, 32010, 33999, 34999, 66999, 200002, 200003, 200004, 200005, 200006, 200007, 200008, 200009, 200010, 200011, 201999, 202999, 210004, 210005, 211999, 213999] μ (fun z μ1 => ((-2147483648) ≤ z ∧ z ≤ 2147483647) ∧ True)) := by
  refine sC.of rfl (by decide) (le_t rfl) ?_
  refine mr_lvE (lv' := [(0, .ref 0), (1, iv p1), (2, iv p2), (3, iv p3)]) rfl ?_
  refine sv_aload_n (pc := 0) dX11_rule_0 rfl rfl ?_
  refine mr_iload_n (pc := 1) (z := p1) dX11_rule_1 rfl rfl ?_
  obtain ⟨z1, q2⟩ : ∃ z, μ 6 15 = z := ⟨_, rfl⟩
  have h3 : (z1 = w.2.2.2 0 ∧ 0 ≤ z1 ∧ z1 ≤ 10) := by rw [← q2]; exact hT 6 6 (A_6 hw) 15
  refine mr_cVP (pc := 2) (c_X11_isDomain hw hT hp1 q2) (gOk _ _ _ _ _) dX11_rule_2 (tX11_isDomain _ _ _ _ _) ⟨wV_X11_isDomain, wL_X11_isDomain⟩ wM_X11_105 (gCX11 _ _ _ _ _) rfl (A_0 hw) rfl ⟨le_t rfl, le_t rfl⟩ ⟨le_t rfl, le_t rfl⟩ rfl (le_t rfl) fun z8 h7 => ?_
  refine mr_if_eq (pc := 5) (tgt := 15) dX11_rule_5 (by decide) (r32 h7.1 rfl) (fun h9 => ?_) (fun h9 => ?_)
  · have h10 : 0 ≤ z8 ∧ z8 ≤ 0 := (vc_X11_rule_1 h9 h7.2.1 h7.2.2.1 hp1 h3.2 h7.1)
    have h11 : p1 < 0 ∨ z1 ≤ p1 := (h7.2.2.1 (vc_X11_rule_2 h7.2.1 h7.2.2.1 h9 h3.1 hp1 h3.2 h10))
    refine mr_iconst (pc := 15) (z := (-1)) dX11_rule_15 ?_
    exact mr_iret dX11_rule_16 rfl (le_t rfl) (le_t rfl) hT mF.refl ⟨(rW (c := (-2147483648)) (d := 2147483647) (rR (x := (-1))) rfl), trivial⟩
  have h12 : 1 ≤ z8 ∧ z8 ≤ 1 := (vc_X11_rule_3 h9 h7.2.1 h7.2.2.1 hp1 h3.2 h7.1)
  have h13 : 0 ≤ p1 ∧ p1 < z1 := (h7.2.1 (vc_X11_rule_4 h7.2.1 h7.2.2.1 h9 h3.1 hp1 h3.2 h12))
  have h14 : 0 ≤ p1 ∧ p1 ≤ 9 := (vc_X11_rule_5 h13 h3.1 h7.2.1 h7.2.2.1 hp1 h3.2 h12)
  have h15 : 1 ≤ z1 ∧ z1 ≤ 10 := (vc_X11_rule_6 h13 h3.1 h7.2.1 h7.2.2.1 h14 h3.2 h12)
  refine mr_iload_n (pc := 8) (z := p2) dX11_rule_8 rfl rfl ?_
  refine mr_cSP (pc := 9) (c_X11_isRule hw hT hp2) (gOk _ _ _ _ _) dX11_rule_9 (tX11_isRule _ _ _ _ _) wS_X11_isRule wM_X11_280 ⟨le_t rfl, le_t rfl⟩ ⟨le_t rfl, le_t rfl⟩ rfl (le_t rfl) fun z20 h19 => ?_
  refine mr_if_ne (pc := 12) (tgt := 17) dX11_rule_12 (by decide) (r32 h19.1 rfl) (fun h21 => ?_) (fun h21 => ?_)
  · have h22 : 1 ≤ z20 ∧ z20 ≤ 1 := (vc_X11_rule_7 h21 h19.2.1 h19.2.2.1 hp2 h19.1)
    have h23 : p2 ≤ 999999 := (h19.2.1 (vc_X11_rule_8 h19.2.1 h19.2.2.1 h21 hp2 h22))
    have h24 : (-2147483648) ≤ p2 ∧ p2 ≤ 999999 := (vc_X11_rule_9 h23 h19.2.1 h19.2.2.1 hp2 h22)
    have h25 : 0 ≤ p2 := (h19.2.2.1 (vc_X11_rule_10 h19.2.1 h19.2.2.1 h21 h23 h24 h22))
    have h26 : 0 ≤ p2 ∧ p2 ≤ 999999 := (vc_X11_rule_11 h25 h19.2.1 h19.2.2.1 h23 h24 h22)
    refine sv_aload_n (pc := 17) dX11_rule_17 rfl rfl ?_
    refine gf_X11_3 (pc := 18) dX11_rule_18 wF_X11_26 (A_0 hw) hT ?_
    refine gf_X10_3 (pc := 21) dX11_rule_21 wF_X11_283 (A_6 hw) hT ?_
    refine mr_iload_n (pc := 24) (z := p1) dX11_rule_24 rfl rfl ?_
    refine la_10 (pc := 25) dX11_rule_25 (A_10 hw) hT (rIx (n := 10) h14 rfl) (vc_X11_rule_12 h3.1 h7.2.1 h7.2.2.1 h13 h9 h14 h15 h12) fun b27 q28 A29 => ?_
    refine mr_iload_n (pc := 26) (z := p2) dX11_rule_26 rfl rfl ?_
    refine mr_iload_n (pc := 27) (z := p3) dX11_rule_27 rfl rfl ?_
    refine mr_cVV (pc := 28) (c_X0_goBy hw hT A29 h26 hp3) (gOk _ _ _ _ _) dX11_rule_28 (tX0_goBy _ _ _ _ _) ⟨wV_X0_goBy, wL_X0_goBy⟩ wM_X11_287 (gCX0 _ _ _ _ _) rfl A29 rfl ⟨le_t rfl, le_t rfl⟩ ⟨le_t rfl, le_t rfl⟩ rfl (le_t rfl) fun μ30 T31 F32 h33 => ?_
    refine sv_aload_n (pc := 31) dX11_rule_31 rfl rfl ?_
    refine gf_X11_6 (pc := 32) dX11_rule_32 wF_X11_51 (A_0 hw) T31 ?_
    refine mr_iload_n (pc := 35) (z := p1) dX11_rule_35 rfl rfl ?_
    refine mr_cVV (pc := 36) (c_X8_lookAtAll hw T31 h14 (vc_X11_rule_12 h3.1 h7.2.1 h7.2.2.1 h13 h9 h14 h15 h12) (PC.keep hIPC hw ((mF.call mF.refl F32 rfl) : mF [210004, 210005, 211999] w μ μ30) rfl)) (gOk _ _ _ _ _) dX11_rule_36 (tX8_lookAtAll _ _ _ _ _) ⟨wV_X8_lookAtAll, wL_X8_lookAtAll⟩ wM_X11_148 (gCX8 _ _ _ _ _) rfl (A_32 hw) rfl ⟨le_t rfl, le_t rfl⟩ ⟨le_t rfl, le_t rfl⟩ rfl (le_t rfl) fun μ34 T35 F36 h37 => ?_
    refine mr_iconst (pc := 39) (z := 0) dX11_rule_39 ?_
    exact mr_iret dX11_rule_40 rfl (le_t rfl) (le_t rfl) T35 (mF.call (mF.call mF.refl F32 rfl) F36 rfl) ⟨(rW (c := (-2147483648)) (d := 2147483647) (rR (x := 0)) rfl), trivial⟩
  have h38 : 0 ≤ z20 ∧ z20 ≤ 0 := (vc_X11_rule_13 h21 h19.2.1 h19.2.2.1 hp2 h19.1)
  refine mr_iconst (pc := 15) (z := (-1)) dX11_rule_15 ?_
  exact mr_iret dX11_rule_16 rfl (le_t rfl) (le_t rfl) hT mF.refl ⟨(rW (c := (-2147483648)) (d := 2147483647) (rR (x := (-1))) rfl), trivial⟩
theorem vc_X11_announce_1 {p1 z1 z8 : Int} (h0 : z8 = 0) (h1 : (z8 = 1 → 0 ≤ p1 ∧ p1 < z1)) (h2 : (z8 = 0 → p1 < 0 ∨ z1 ≤ p1)) (h3 : (-2147483648) ≤ p1 ∧ p1 ≤ 2147483647) (h4 : 0 ≤ z1 ∧ z1 ≤ 10) (h5 : 0 ≤ z8 ∧ z8 ≤ 1) : 0 ≤ z8 ∧ z8 ≤ 0 := by omega
theorem vc_X11_announce_2 {n0 p1 z1 z8 : Int} (h0 : (z8 = 1 → 0 ≤ p1 ∧ p1 < z1)) (h1 : (z8 = 0 → p1 < 0 ∨ z1 ≤ p1)) (h2 : z8 = 0) (h3 : z1 = n0) (h4 : (-2147483648) ≤ p1 ∧ p1 ≤ 2147483647) (h5 : 0 ≤ z1 ∧ z1 ≤ 10) (h6 : 0 ≤ z8 ∧ z8 ≤ 0) : z8 = 0 := by omega
theorem vc_X11_announce_3 {p1 z1 z8 : Int} (h0 : ¬ z8 = 0) (h1 : (z8 = 1 → 0 ≤ p1 ∧ p1 < z1)) (h2 : (z8 = 0 → p1 < 0 ∨ z1 ≤ p1)) (h3 : (-2147483648) ≤ p1 ∧ p1 ≤ 2147483647) (h4 : 0 ≤ z1 ∧ z1 ≤ 10) (h5 : 0 ≤ z8 ∧ z8 ≤ 1) : 1 ≤ z8 ∧ z8 ≤ 1 := by omega
theorem vc_X11_announce_4 {n0 p1 z1 z8 : Int} (h0 : (z8 = 1 → 0 ≤ p1 ∧ p1 < z1)) (h1 : (z8 = 0 → p1 < 0 ∨ z1 ≤ p1)) (h2 : ¬ z8 = 0) (h3 : z1 = n0) (h4 : (-2147483648) ≤ p1 ∧ p1 ≤ 2147483647) (h5 : 0 ≤ z1 ∧ z1 ≤ 10) (h6 : 1 ≤ z8 ∧ z8 ≤ 1) : z8 = 1 := by omega
theorem vc_X11_announce_5 {n0 p1 z1 z8 : Int} (h0 : 0 ≤ p1 ∧ p1 < z1) (h1 : z1 = n0) (h2 : (z8 = 1 → 0 ≤ p1 ∧ p1 < z1)) (h3 : (z8 = 0 → p1 < 0 ∨ z1 ≤ p1)) (h4 : (-2147483648) ≤ p1 ∧ p1 ≤ 2147483647) (h5 : 0 ≤ z1 ∧ z1 ≤ 10) (h6 : 1 ≤ z8 ∧ z8 ≤ 1) : 0 ≤ p1 ∧ p1 ≤ 9 := by omega
theorem vc_X11_announce_6 {n0 p1 z1 z8 : Int} (h0 : 0 ≤ p1 ∧ p1 < z1) (h1 : z1 = n0) (h2 : (z8 = 1 → 0 ≤ p1 ∧ p1 < z1)) (h3 : (z8 = 0 → p1 < 0 ∨ z1 ≤ p1)) (h4 : 0 ≤ p1 ∧ p1 ≤ 9) (h5 : 0 ≤ z1 ∧ z1 ≤ 10) (h6 : 1 ≤ z8 ∧ z8 ≤ 1) : 1 ≤ z1 ∧ z1 ≤ 10 := by omega
theorem vc_X11_announce_7 {p2 z16 z23 : Int} (h0 : z23 = 0) (h1 : (z23 = 1 → 0 ≤ p2 ∧ p2 < z16)) (h2 : (z23 = 0 → p2 < 0 ∨ z16 ≤ p2)) (h3 : (-2147483648) ≤ p2 ∧ p2 ≤ 2147483647) (h4 : 0 ≤ z16 ∧ z16 ≤ 10) (h5 : 0 ≤ z23 ∧ z23 ≤ 1) : 0 ≤ z23 ∧ z23 ≤ 0 := by omega
theorem vc_X11_announce_8 {p2 z16 z23 : Int} (h0 : (z23 = 1 → 0 ≤ p2 ∧ p2 < z16)) (h1 : (z23 = 0 → p2 < 0 ∨ z16 ≤ p2)) (h2 : z23 = 0) (h3 : (-2147483648) ≤ p2 ∧ p2 ≤ 2147483647) (h4 : 0 ≤ z16 ∧ z16 ≤ 10) (h5 : 0 ≤ z23 ∧ z23 ≤ 0) : z23 = 0 := by omega
theorem vc_X11_announce_9 {p2 z16 z23 : Int} (h0 : ¬ z23 = 0) (h1 : (z23 = 1 → 0 ≤ p2 ∧ p2 < z16)) (h2 : (z23 = 0 → p2 < 0 ∨ z16 ≤ p2)) (h3 : (-2147483648) ≤ p2 ∧ p2 ≤ 2147483647) (h4 : 0 ≤ z16 ∧ z16 ≤ 10) (h5 : 0 ≤ z23 ∧ z23 ≤ 1) : 1 ≤ z23 ∧ z23 ≤ 1 := by omega
theorem vc_X11_announce_10 {p2 z16 z23 : Int} (h0 : (z23 = 1 → 0 ≤ p2 ∧ p2 < z16)) (h1 : (z23 = 0 → p2 < 0 ∨ z16 ≤ p2)) (h2 : ¬ z23 = 0) (h3 : (-2147483648) ≤ p2 ∧ p2 ≤ 2147483647) (h4 : 0 ≤ z16 ∧ z16 ≤ 10) (h5 : 1 ≤ z23 ∧ z23 ≤ 1) : z23 = 1 := by omega
theorem vc_X11_announce_11 {p2 z16 z23 : Int} (h0 : 0 ≤ p2 ∧ p2 < z16) (h1 : (z23 = 1 → 0 ≤ p2 ∧ p2 < z16)) (h2 : (z23 = 0 → p2 < 0 ∨ z16 ≤ p2)) (h3 : (-2147483648) ≤ p2 ∧ p2 ≤ 2147483647) (h4 : 0 ≤ z16 ∧ z16 ≤ 10) (h5 : 1 ≤ z23 ∧ z23 ≤ 1) : 0 ≤ p2 ∧ p2 ≤ 9 := by omega
theorem vc_X11_announce_12 {p3 : Int} (h0 : p3 < 0) (h1 : (-2147483648) ≤ p3 ∧ p3 ≤ 2147483647) : (-2147483648) ≤ p3 ∧ p3 ≤ (-1) := by omega
theorem vc_X11_announce_13 {p3 : Int} (h0 : 0 ≤ p3) (h1 : (-2147483648) ≤ p3 ∧ p3 ≤ 2147483647) : 0 ≤ p3 ∧ p3 ≤ 2147483647 := by omega
theorem vc_X11_announce_14 {p3 : Int} (h0 : p3 ≤ 2) (h1 : 0 ≤ p3) (h2 : 0 ≤ p3 ∧ p3 ≤ 2147483647) : 0 ≤ p3 ∧ p3 ≤ 2 := by omega
theorem vc_X11_announce_15 {n0 p1 z1 z8 : Int} (h0 : z1 = n0) (h1 : (z8 = 1 → 0 ≤ p1 ∧ p1 < z1)) (h2 : (z8 = 0 → p1 < 0 ∨ z1 ≤ p1)) (h3 : 0 ≤ p1 ∧ p1 < z1) (h4 : ¬ z8 = 0) (h5 : 0 ≤ p1 ∧ p1 ≤ 9) (h6 : 1 ≤ z1 ∧ z1 ≤ 10) (h7 : 1 ≤ z8 ∧ z8 ≤ 1) : p1 < n0 := by omega
theorem vc_X11_announce_16 {p3 z39 : Int} (h0 : z39 = p3) (h1 : 0 ≤ p3) (h2 : p3 ≤ 2) (h3 : 0 ≤ p3 ∧ p3 ≤ 2) (h4 : (-1) ≤ z39 ∧ z39 ≤ 2) : 0 ≤ z39 ∧ z39 ≤ 2 := by omega
theorem vc_X11_announce_17 {p3 : Int} (h0 : 2 < p3) (h1 : 0 ≤ p3) (h2 : 0 ≤ p3 ∧ p3 ≤ 2147483647) : 3 ≤ p3 ∧ p3 ≤ 2147483647 := by omega
set_option maxRecDepth 4000 in
set_option maxHeartbeats 4000000 in
theorem c_X11_announce {l : Launch} {D : va_G} {c : Nat → ClassId} {H0 : Heap} {sa : Nat × Nat × (Nat → Int32)} {w : mW} {μ : mM} (hw : mWF w) (hT : mT w μ) {p1 : Int} (hp1 : (-2147483648) ≤ p1 ∧ p1 ≤ 2147483647) {p2 : Int} (hp2 : (-2147483648) ≤ p2 ∧ p2 ≤ 2147483647) {p3 : Int} (hp3 : (-2147483648) ≤ p3 ∧ p3 ≤ 2147483647) (hIPC : PC w μ) : sC (gG l D c H0 sa) mX11_announce 43 0 0 [.ref 0, iv p1, iv p2, iv p3] (mk w μ) (qI w [21002, 21003, 21004, 21005, 21006, 21007, 32009, 32010, 33999, 34999, 66999, 200002, 200003, 200004, 200005, 200006, 200007, 200008, 200009, 200010, 200011, 201999, 202999, 212999, 213999] μ (fun z μ1 => ((-2147483648) ≤ z ∧ z ≤ 2147483647) ∧ True)) := by
  refine sC.of rfl (by decide) (le_t rfl) ?_
  refine mr_lvE (lv' := [(0, .ref 0), (1, iv p1), (2, iv p2), (3, iv p3)]) rfl ?_
  refine sv_aload_n (pc := 0) dX11_announce_0 rfl rfl ?_
  refine mr_iload_n (pc := 1) (z := p1) dX11_announce_1 rfl rfl ?_
  obtain ⟨z1, q2⟩ : ∃ z, μ 6 15 = z := ⟨_, rfl⟩
  have h3 : (z1 = w.2.2.2 0 ∧ 0 ≤ z1 ∧ z1 ≤ 10) := by rw [← q2]; exact hT 6 6 (A_6 hw) 15
  refine mr_cVP (pc := 2) (c_X11_isDomain hw hT hp1 q2) (gOk _ _ _ _ _) dX11_announce_2 (tX11_isDomain _ _ _ _ _) ⟨wV_X11_isDomain, wL_X11_isDomain⟩ wM_X11_105 (gCX11 _ _ _ _ _) rfl (A_0 hw) rfl ⟨le_t rfl, le_t rfl⟩ ⟨le_t rfl, le_t rfl⟩ rfl (le_t rfl) fun z8 h7 => ?_
  refine mr_if_eq (pc := 5) (tgt := 25) dX11_announce_5 (by decide) (r32 h7.1 rfl) (fun h9 => ?_) (fun h9 => ?_)
  · have h10 : 0 ≤ z8 ∧ z8 ≤ 0 := (vc_X11_announce_1 h9 h7.2.1 h7.2.2.1 hp1 h3.2 h7.1)
    have h11 : p1 < 0 ∨ z1 ≤ p1 := (h7.2.2.1 (vc_X11_announce_2 h7.2.1 h7.2.2.1 h9 h3.1 hp1 h3.2 h10))
    refine mr_iconst (pc := 25) (z := (-1)) dX11_announce_25 ?_
    exact mr_iret dX11_announce_26 rfl (le_t rfl) (le_t rfl) hT mF.refl ⟨(rW (c := (-2147483648)) (d := 2147483647) (rR (x := (-1))) rfl), trivial⟩
  have h12 : 1 ≤ z8 ∧ z8 ≤ 1 := (vc_X11_announce_3 h9 h7.2.1 h7.2.2.1 hp1 h3.2 h7.1)
  have h13 : 0 ≤ p1 ∧ p1 < z1 := (h7.2.1 (vc_X11_announce_4 h7.2.1 h7.2.2.1 h9 h3.1 hp1 h3.2 h12))
  have h14 : 0 ≤ p1 ∧ p1 ≤ 9 := (vc_X11_announce_5 h13 h3.1 h7.2.1 h7.2.2.1 hp1 h3.2 h12)
  have h15 : 1 ≤ z1 ∧ z1 ≤ 10 := (vc_X11_announce_6 h13 h3.1 h7.2.1 h7.2.2.1 h14 h3.2 h12)
  refine sv_aload_n (pc := 8) dX11_announce_8 rfl rfl ?_
  refine mr_iload_n (pc := 9) (z := p2) dX11_announce_9 rfl rfl ?_
  obtain ⟨z16, q17⟩ : ∃ z, μ 6 14 = z := ⟨_, rfl⟩
  have h18 : (0 ≤ z16 ∧ z16 ≤ 10) := by rw [← q17]; exact hT 6 6 (A_6 hw) 14
  refine mr_cVP (pc := 10) (c_X11_isPrefix hw hT hp2 q17) (gOk _ _ _ _ _) dX11_announce_10 (tX11_isPrefix _ _ _ _ _) ⟨wV_X11_isPrefix, wL_X11_isPrefix⟩ wM_X11_182 (gCX11 _ _ _ _ _) rfl (A_0 hw) rfl ⟨le_t rfl, le_t rfl⟩ ⟨le_t rfl, le_t rfl⟩ rfl (le_t rfl) fun z23 h22 => ?_
  refine mr_if_eq (pc := 13) (tgt := 25) dX11_announce_13 (by decide) (r32 h22.1 rfl) (fun h24 => ?_) (fun h24 => ?_)
  · have h25 : 0 ≤ z23 ∧ z23 ≤ 0 := (vc_X11_announce_7 h24 h22.2.1 h22.2.2.1 hp2 h18 h22.1)
    have h26 : p2 < 0 ∨ z16 ≤ p2 := (h22.2.2.1 (vc_X11_announce_8 h22.2.1 h22.2.2.1 h24 hp2 h18 h25))
    refine mr_iconst (pc := 25) (z := (-1)) dX11_announce_25 ?_
    exact mr_iret dX11_announce_26 rfl (le_t rfl) (le_t rfl) hT mF.refl ⟨(rW (c := (-2147483648)) (d := 2147483647) (rR (x := (-1))) rfl), trivial⟩
  have h27 : 1 ≤ z23 ∧ z23 ≤ 1 := (vc_X11_announce_9 h24 h22.2.1 h22.2.2.1 hp2 h18 h22.1)
  have h28 : 0 ≤ p2 ∧ p2 < z16 := (h22.2.1 (vc_X11_announce_10 h22.2.1 h22.2.2.1 h24 hp2 h18 h27))
  have h29 : 0 ≤ p2 ∧ p2 ≤ 9 := (vc_X11_announce_11 h28 h22.2.1 h22.2.2.1 hp2 h18 h27)
  refine mr_iload_n (pc := 16) (z := p3) dX11_announce_16 rfl rfl ?_
  refine mr_if_lt (pc := 17) (tgt := 25) dX11_announce_17 (by decide) hp3 (fun h30 => ?_) (fun h30 => ?_)
  · have h31 : (-2147483648) ≤ p3 ∧ p3 ≤ (-1) := (vc_X11_announce_12 h30 hp3)
    refine mr_iconst (pc := 25) (z := (-1)) dX11_announce_25 ?_
    exact mr_iret dX11_announce_26 rfl (le_t rfl) (le_t rfl) hT mF.refl ⟨(rW (c := (-2147483648)) (d := 2147483647) (rR (x := (-1))) rfl), trivial⟩
  have h32 : 0 ≤ p3 ∧ p3 ≤ 2147483647 := (vc_X11_announce_13 h30 hp3)
  refine mr_iload_n (pc := 20) (z := p3) dX11_announce_20 rfl rfl ?_
  refine mr_iconst (pc := 21) (z := 2) dX11_announce_21 ?_
  refine mr_icmp_le (pc := 22) (tgt := 27) dX11_announce_22 (by decide) (r32 h32 rfl) (r32 (rR (x := 2)) rfl) (fun h33 => ?_) (fun h33 => ?_)
  · have h34 : 0 ≤ p3 ∧ p3 ≤ 2 := (vc_X11_announce_14 h33 h30 h32)
    refine sv_aload_n (pc := 27) dX11_announce_27 rfl rfl ?_
    refine gf_X11_3 (pc := 28) dX11_announce_28 wF_X11_26 (A_0 hw) hT ?_
    refine gf_X10_3 (pc := 31) dX11_announce_31 wF_X11_283 (A_6 hw) hT ?_
    refine mr_iload_n (pc := 34) (z := p1) dX11_announce_34 rfl rfl ?_
    refine la_10 (pc := 35) dX11_announce_35 (A_10 hw) hT (rIx (n := 10) h14 rfl) (vc_X11_announce_15 h3.1 h7.2.1 h7.2.2.1 h13 h9 h14 h15 h12) fun b35 q36 A37 => ?_
    refine gf_X0_1 (pc := 36) dX11_announce_36 wF_X11_293 A37 hT fun A38 => ?_
    refine mr_iload_n (pc := 39) (z := p2) dX11_announce_39 rfl rfl ?_
    refine la_212 (pc := 40) dX11_announce_40 A38 hT (rIx (n := 10) h29 rfl) fun z39 q40 h41 => ?_
    refine mr_iload_n (pc := 41) (z := p3) dX11_announce_41 rfl rfl ?_
    refine mr_icmp_ne (pc := 42) (tgt := 48) dX11_announce_42 (by decide) (r32 h41 rfl) (r32 h34 rfl) (fun h42 => ?_) (fun h42 => ?_)
    · refine sv_aload_n (pc := 48) dX11_announce_48 rfl rfl ?_
      refine gf_X11_3 (pc := 49) dX11_announce_49 wF_X11_26 (A_0 hw) hT ?_
      refine gf_X10_3 (pc := 52) dX11_announce_52 wF_X11_283 (A_6 hw) hT ?_
      refine mr_iload_n (pc := 55) (z := p1) dX11_announce_55 rfl rfl ?_
      refine lk_10 (pc := 56) dX11_announce_56 (A_10 hw) (rIx (n := 10) h14 rfl) q36 ?_
      refine gf_X0_1 (pc := 57) dX11_announce_57 wF_X11_293 A37 hT fun A43 => ?_
      refine mr_iload_n (pc := 60) (z := p2) dX11_announce_60 rfl rfl ?_
      refine mr_iload_n (pc := 61) (z := p3) dX11_announce_61 rfl rfl ?_
      refine ss_212 (pc := 62) dX11_announce_62 A43 hT (rIx (n := 10) h29 rfl) (rW (c := (-1)) (d := 2) h34 rfl) fun μ44 u45 T46 => ?_
      refine sv_aload_n (pc := 63) dX11_announce_63 rfl rfl ?_
      refine gf_X11_6 (pc := 64) dX11_announce_64 wF_X11_51 (A_0 hw) T46 ?_
      refine mr_iload_n (pc := 67) (z := p1) dX11_announce_67 rfl rfl ?_
      refine mr_iload_n (pc := 68) (z := p2) dX11_announce_68 rfl rfl ?_
      refine mr_cVV (pc := 69) (c_X8_look hw T46 h14 h29 (vc_X11_announce_15 h3.1 h7.2.1 h7.2.2.1 h13 h9 h14 h15 h12) (PC.keep hIPC hw ((mF.up mF.refl A43 u45 rfl) : mF [212999] w μ μ44) rfl)) (gOk _ _ _ _ _) dX11_announce_69 (tX8_look _ _ _ _ _) ⟨wV_X8_look, wL_X8_look⟩ wM_X11_296 (gCX8 _ _ _ _ _) rfl (A_32 hw) rfl ⟨le_t rfl, le_t rfl⟩ ⟨le_t rfl, le_t rfl⟩ rfl (le_t rfl) fun μ47 T48 F49 h50 => ?_
      refine mr_iconst (pc := 72) (z := 0) dX11_announce_72 ?_
      exact mr_iret dX11_announce_73 rfl (le_t rfl) (le_t rfl) T48 (mF.call (mF.up mF.refl A43 u45 rfl) F49 rfl) ⟨(rW (c := (-2147483648)) (d := 2147483647) (rR (x := 0)) rfl), trivial⟩
    have h51 : 0 ≤ z39 ∧ z39 ≤ 2 := (vc_X11_announce_16 h42 h30 h33 h34 h41)
    refine mr_bipush (pc := 45) (z := (-2)) dX11_announce_45 (by decide) ?_
    exact mr_iret dX11_announce_47 rfl (le_t rfl) (le_t rfl) hT mF.refl ⟨(rW (c := (-2147483648)) (d := 2147483647) (rR (x := (-2))) rfl), trivial⟩
  have h52 : 3 ≤ p3 ∧ p3 ≤ 2147483647 := (vc_X11_announce_17 h33 h30 h32)
  refine mr_iconst (pc := 25) (z := (-1)) dX11_announce_25 ?_
  exact mr_iret dX11_announce_26 rfl (le_t rfl) (le_t rfl) hT mF.refl ⟨(rW (c := (-2147483648)) (d := 2147483647) (rR (x := (-1))) rfl), trivial⟩
theorem vc_X11_withdraw_1 {p1 z1 z8 : Int} (h0 : z8 = 0) (h1 : (z8 = 1 → 0 ≤ p1 ∧ p1 < z1)) (h2 : (z8 = 0 → p1 < 0 ∨ z1 ≤ p1)) (h3 : (-2147483648) ≤ p1 ∧ p1 ≤ 2147483647) (h4 : 0 ≤ z1 ∧ z1 ≤ 10) (h5 : 0 ≤ z8 ∧ z8 ≤ 1) : 0 ≤ z8 ∧ z8 ≤ 0 := by omega
theorem vc_X11_withdraw_2 {n0 p1 z1 z8 : Int} (h0 : (z8 = 1 → 0 ≤ p1 ∧ p1 < z1)) (h1 : (z8 = 0 → p1 < 0 ∨ z1 ≤ p1)) (h2 : z8 = 0) (h3 : z1 = n0) (h4 : (-2147483648) ≤ p1 ∧ p1 ≤ 2147483647) (h5 : 0 ≤ z1 ∧ z1 ≤ 10) (h6 : 0 ≤ z8 ∧ z8 ≤ 0) : z8 = 0 := by omega
theorem vc_X11_withdraw_3 {p1 z1 z8 : Int} (h0 : ¬ z8 = 0) (h1 : (z8 = 1 → 0 ≤ p1 ∧ p1 < z1)) (h2 : (z8 = 0 → p1 < 0 ∨ z1 ≤ p1)) (h3 : (-2147483648) ≤ p1 ∧ p1 ≤ 2147483647) (h4 : 0 ≤ z1 ∧ z1 ≤ 10) (h5 : 0 ≤ z8 ∧ z8 ≤ 1) : 1 ≤ z8 ∧ z8 ≤ 1 := by omega
theorem vc_X11_withdraw_4 {n0 p1 z1 z8 : Int} (h0 : (z8 = 1 → 0 ≤ p1 ∧ p1 < z1)) (h1 : (z8 = 0 → p1 < 0 ∨ z1 ≤ p1)) (h2 : ¬ z8 = 0) (h3 : z1 = n0) (h4 : (-2147483648) ≤ p1 ∧ p1 ≤ 2147483647) (h5 : 0 ≤ z1 ∧ z1 ≤ 10) (h6 : 1 ≤ z8 ∧ z8 ≤ 1) : z8 = 1 := by omega
theorem vc_X11_withdraw_5 {n0 p1 z1 z8 : Int} (h0 : 0 ≤ p1 ∧ p1 < z1) (h1 : z1 = n0) (h2 : (z8 = 1 → 0 ≤ p1 ∧ p1 < z1)) (h3 : (z8 = 0 → p1 < 0 ∨ z1 ≤ p1)) (h4 : (-2147483648) ≤ p1 ∧ p1 ≤ 2147483647) (h5 : 0 ≤ z1 ∧ z1 ≤ 10) (h6 : 1 ≤ z8 ∧ z8 ≤ 1) : 0 ≤ p1 ∧ p1 ≤ 9 := by omega
theorem vc_X11_withdraw_6 {n0 p1 z1 z8 : Int} (h0 : 0 ≤ p1 ∧ p1 < z1) (h1 : z1 = n0) (h2 : (z8 = 1 → 0 ≤ p1 ∧ p1 < z1)) (h3 : (z8 = 0 → p1 < 0 ∨ z1 ≤ p1)) (h4 : 0 ≤ p1 ∧ p1 ≤ 9) (h5 : 0 ≤ z1 ∧ z1 ≤ 10) (h6 : 1 ≤ z8 ∧ z8 ≤ 1) : 1 ≤ z1 ∧ z1 ≤ 10 := by omega
theorem vc_X11_withdraw_7 {p2 z16 z23 : Int} (h0 : ¬ z23 = 0) (h1 : (z23 = 1 → 0 ≤ p2 ∧ p2 < z16)) (h2 : (z23 = 0 → p2 < 0 ∨ z16 ≤ p2)) (h3 : (-2147483648) ≤ p2 ∧ p2 ≤ 2147483647) (h4 : 0 ≤ z16 ∧ z16 ≤ 10) (h5 : 0 ≤ z23 ∧ z23 ≤ 1) : 1 ≤ z23 ∧ z23 ≤ 1 := by omega
theorem vc_X11_withdraw_8 {p2 z16 z23 : Int} (h0 : (z23 = 1 → 0 ≤ p2 ∧ p2 < z16)) (h1 : (z23 = 0 → p2 < 0 ∨ z16 ≤ p2)) (h2 : ¬ z23 = 0) (h3 : (-2147483648) ≤ p2 ∧ p2 ≤ 2147483647) (h4 : 0 ≤ z16 ∧ z16 ≤ 10) (h5 : 1 ≤ z23 ∧ z23 ≤ 1) : z23 = 1 := by omega
theorem vc_X11_withdraw_9 {p2 z16 z23 : Int} (h0 : 0 ≤ p2 ∧ p2 < z16) (h1 : (z23 = 1 → 0 ≤ p2 ∧ p2 < z16)) (h2 : (z23 = 0 → p2 < 0 ∨ z16 ≤ p2)) (h3 : (-2147483648) ≤ p2 ∧ p2 ≤ 2147483647) (h4 : 0 ≤ z16 ∧ z16 ≤ 10) (h5 : 1 ≤ z23 ∧ z23 ≤ 1) : 0 ≤ p2 ∧ p2 ≤ 9 := by omega
theorem vc_X11_withdraw_10 {n0 p1 z1 z8 : Int} (h0 : z1 = n0) (h1 : (z8 = 1 → 0 ≤ p1 ∧ p1 < z1)) (h2 : (z8 = 0 → p1 < 0 ∨ z1 ≤ p1)) (h3 : 0 ≤ p1 ∧ p1 < z1) (h4 : ¬ z8 = 0) (h5 : 0 ≤ p1 ∧ p1 ≤ 9) (h6 : 1 ≤ z1 ∧ z1 ≤ 10) (h7 : 1 ≤ z8 ∧ z8 ≤ 1) : p1 < n0 := by omega
theorem vc_X11_withdraw_11 {z32 : Int} (h0 : ¬ z32 = (-1)) (h1 : (-1) ≤ z32 ∧ z32 ≤ 2) : 0 ≤ z32 ∧ z32 ≤ 2 := by omega
theorem vc_X11_withdraw_12 {z32 : Int} (h0 : z32 = (-1)) (h1 : (-1) ≤ z32 ∧ z32 ≤ 2) : (-1) ≤ z32 ∧ z32 ≤ (-1) := by omega
theorem vc_X11_withdraw_13 {p2 z16 z23 : Int} (h0 : z23 = 0) (h1 : (z23 = 1 → 0 ≤ p2 ∧ p2 < z16)) (h2 : (z23 = 0 → p2 < 0 ∨ z16 ≤ p2)) (h3 : (-2147483648) ≤ p2 ∧ p2 ≤ 2147483647) (h4 : 0 ≤ z16 ∧ z16 ≤ 10) (h5 : 0 ≤ z23 ∧ z23 ≤ 1) : 0 ≤ z23 ∧ z23 ≤ 0 := by omega
theorem vc_X11_withdraw_14 {p2 z16 z23 : Int} (h0 : (z23 = 1 → 0 ≤ p2 ∧ p2 < z16)) (h1 : (z23 = 0 → p2 < 0 ∨ z16 ≤ p2)) (h2 : z23 = 0) (h3 : (-2147483648) ≤ p2 ∧ p2 ≤ 2147483647) (h4 : 0 ≤ z16 ∧ z16 ≤ 10) (h5 : 0 ≤ z23 ∧ z23 ≤ 0) : z23 = 0 := by omega
set_option maxRecDepth 4000 in
set_option maxHeartbeats 4000000 in
theorem c_X11_withdraw {l : Launch} {D : va_G} {c : Nat → ClassId} {H0 : Heap} {sa : Nat × Nat × (Nat → Int32)} {w : mW} {μ : mM} (hw : mWF w) (hT : mT w μ) {p1 : Int} (hp1 : (-2147483648) ≤ p1 ∧ p1 ≤ 2147483647) {p2 : Int} (hp2 : (-2147483648) ≤ p2 ∧ p2 ≤ 2147483647) (hIPC : PC w μ) : sC (gG l D c H0 sa) mX11_withdraw 43 0 0 [.ref 0, iv p1, iv p2] (mk w μ) (qI w [21002, 21003, 21004, 21005, 21006, 21007, 32009, 32010, 33999, 34999, 66999, 200002, 200003, 200004, 200005, 200006, 200007, 200008, 200009, 200010, 200011, 201999, 202999, 212999, 213999] μ (fun z μ1 => ((-2147483648) ≤ z ∧ z ≤ 2147483647) ∧ True)) := by
  refine sC.of rfl (by decide) (le_t rfl) ?_
  refine mr_lvE (lv' := [(0, .ref 0), (1, iv p1), (2, iv p2)]) rfl ?_
  refine sv_aload_n (pc := 0) dX11_withdraw_0 rfl rfl ?_
  refine mr_iload_n (pc := 1) (z := p1) dX11_withdraw_1 rfl rfl ?_
  obtain ⟨z1, q2⟩ : ∃ z, μ 6 15 = z := ⟨_, rfl⟩
  have h3 : (z1 = w.2.2.2 0 ∧ 0 ≤ z1 ∧ z1 ≤ 10) := by rw [← q2]; exact hT 6 6 (A_6 hw) 15
  refine mr_cVP (pc := 2) (c_X11_isDomain hw hT hp1 q2) (gOk _ _ _ _ _) dX11_withdraw_2 (tX11_isDomain _ _ _ _ _) ⟨wV_X11_isDomain, wL_X11_isDomain⟩ wM_X11_105 (gCX11 _ _ _ _ _) rfl (A_0 hw) rfl ⟨le_t rfl, le_t rfl⟩ ⟨le_t rfl, le_t rfl⟩ rfl (le_t rfl) fun z8 h7 => ?_
  refine mr_if_eq (pc := 5) (tgt := 16) dX11_withdraw_5 (by decide) (r32 h7.1 rfl) (fun h9 => ?_) (fun h9 => ?_)
  · have h10 : 0 ≤ z8 ∧ z8 ≤ 0 := (vc_X11_withdraw_1 h9 h7.2.1 h7.2.2.1 hp1 h3.2 h7.1)
    have h11 : p1 < 0 ∨ z1 ≤ p1 := (h7.2.2.1 (vc_X11_withdraw_2 h7.2.1 h7.2.2.1 h9 h3.1 hp1 h3.2 h10))
    refine mr_iconst (pc := 16) (z := (-1)) dX11_withdraw_16 ?_
    exact mr_iret dX11_withdraw_17 rfl (le_t rfl) (le_t rfl) hT mF.refl ⟨(rW (c := (-2147483648)) (d := 2147483647) (rR (x := (-1))) rfl), trivial⟩
  have h12 : 1 ≤ z8 ∧ z8 ≤ 1 := (vc_X11_withdraw_3 h9 h7.2.1 h7.2.2.1 hp1 h3.2 h7.1)
  have h13 : 0 ≤ p1 ∧ p1 < z1 := (h7.2.1 (vc_X11_withdraw_4 h7.2.1 h7.2.2.1 h9 h3.1 hp1 h3.2 h12))
  have h14 : 0 ≤ p1 ∧ p1 ≤ 9 := (vc_X11_withdraw_5 h13 h3.1 h7.2.1 h7.2.2.1 hp1 h3.2 h12)
  have h15 : 1 ≤ z1 ∧ z1 ≤ 10 := (vc_X11_withdraw_6 h13 h3.1 h7.2.1 h7.2.2.1 h14 h3.2 h12)
  refine sv_aload_n (pc := 8) dX11_withdraw_8 rfl rfl ?_
  refine mr_iload_n (pc := 9) (z := p2) dX11_withdraw_9 rfl rfl ?_
  obtain ⟨z16, q17⟩ : ∃ z, μ 6 14 = z := ⟨_, rfl⟩
  have h18 : (0 ≤ z16 ∧ z16 ≤ 10) := by rw [← q17]; exact hT 6 6 (A_6 hw) 14
  refine mr_cVP (pc := 10) (c_X11_isPrefix hw hT hp2 q17) (gOk _ _ _ _ _) dX11_withdraw_10 (tX11_isPrefix _ _ _ _ _) ⟨wV_X11_isPrefix, wL_X11_isPrefix⟩ wM_X11_182 (gCX11 _ _ _ _ _) rfl (A_0 hw) rfl ⟨le_t rfl, le_t rfl⟩ ⟨le_t rfl, le_t rfl⟩ rfl (le_t rfl) fun z23 h22 => ?_
  refine mr_if_ne (pc := 13) (tgt := 18) dX11_withdraw_13 (by decide) (r32 h22.1 rfl) (fun h24 => ?_) (fun h24 => ?_)
  · have h25 : 1 ≤ z23 ∧ z23 ≤ 1 := (vc_X11_withdraw_7 h24 h22.2.1 h22.2.2.1 hp2 h18 h22.1)
    have h26 : 0 ≤ p2 ∧ p2 < z16 := (h22.2.1 (vc_X11_withdraw_8 h22.2.1 h22.2.2.1 h24 hp2 h18 h25))
    have h27 : 0 ≤ p2 ∧ p2 ≤ 9 := (vc_X11_withdraw_9 h26 h22.2.1 h22.2.2.1 hp2 h18 h25)
    refine sv_aload_n (pc := 18) dX11_withdraw_18 rfl rfl ?_
    refine gf_X11_3 (pc := 19) dX11_withdraw_19 wF_X11_26 (A_0 hw) hT ?_
    refine gf_X10_3 (pc := 22) dX11_withdraw_22 wF_X11_283 (A_6 hw) hT ?_
    refine mr_iload_n (pc := 25) (z := p1) dX11_withdraw_25 rfl rfl ?_
    refine la_10 (pc := 26) dX11_withdraw_26 (A_10 hw) hT (rIx (n := 10) h14 rfl) (vc_X11_withdraw_10 h3.1 h7.2.1 h7.2.2.1 h13 h9 h14 h15 h12) fun b28 q29 A30 => ?_
    refine gf_X0_1 (pc := 27) dX11_withdraw_27 wF_X11_293 A30 hT fun A31 => ?_
    refine mr_iload_n (pc := 30) (z := p2) dX11_withdraw_30 rfl rfl ?_
    refine la_212 (pc := 31) dX11_withdraw_31 A31 hT (rIx (n := 10) h27 rfl) fun z32 q33 h34 => ?_
    refine mr_iconst (pc := 32) (z := (-1)) dX11_withdraw_32 ?_
    refine mr_icmp_ne (pc := 33) (tgt := 39) dX11_withdraw_33 (by decide) (r32 h34 rfl) (r32 (rR (x := (-1))) rfl) (fun h35 => ?_) (fun h35 => ?_)
    · have h36 : 0 ≤ z32 ∧ z32 ≤ 2 := (vc_X11_withdraw_11 h35 h34)
      refine sv_aload_n (pc := 39) dX11_withdraw_39 rfl rfl ?_
      refine gf_X11_3 (pc := 40) dX11_withdraw_40 wF_X11_26 (A_0 hw) hT ?_
      refine gf_X10_3 (pc := 43) dX11_withdraw_43 wF_X11_283 (A_6 hw) hT ?_
      refine mr_iload_n (pc := 46) (z := p1) dX11_withdraw_46 rfl rfl ?_
      refine lk_10 (pc := 47) dX11_withdraw_47 (A_10 hw) (rIx (n := 10) h14 rfl) q29 ?_
      refine gf_X0_1 (pc := 48) dX11_withdraw_48 wF_X11_293 A30 hT fun A37 => ?_
      refine mr_iload_n (pc := 51) (z := p2) dX11_withdraw_51 rfl rfl ?_
      refine mr_iconst (pc := 52) (z := (-1)) dX11_withdraw_52 ?_
      refine ss_212 (pc := 53) dX11_withdraw_53 A37 hT (rIx (n := 10) h27 rfl) (rW (c := (-1)) (d := 2) (rR (x := (-1))) rfl) fun μ38 u39 T40 => ?_
      refine sv_aload_n (pc := 54) dX11_withdraw_54 rfl rfl ?_
      refine gf_X11_6 (pc := 55) dX11_withdraw_55 wF_X11_51 (A_0 hw) T40 ?_
      refine mr_iload_n (pc := 58) (z := p1) dX11_withdraw_58 rfl rfl ?_
      refine mr_iload_n (pc := 59) (z := p2) dX11_withdraw_59 rfl rfl ?_
      refine mr_cVV (pc := 60) (c_X8_look hw T40 h14 h27 (vc_X11_withdraw_10 h3.1 h7.2.1 h7.2.2.1 h13 h9 h14 h15 h12) (PC.keep hIPC hw ((mF.up mF.refl A37 u39 rfl) : mF [212999] w μ μ38) rfl)) (gOk _ _ _ _ _) dX11_withdraw_60 (tX8_look _ _ _ _ _) ⟨wV_X8_look, wL_X8_look⟩ wM_X11_296 (gCX8 _ _ _ _ _) rfl (A_32 hw) rfl ⟨le_t rfl, le_t rfl⟩ ⟨le_t rfl, le_t rfl⟩ rfl (le_t rfl) fun μ41 T42 F43 h44 => ?_
      refine mr_iconst (pc := 63) (z := 0) dX11_withdraw_63 ?_
      exact mr_iret dX11_withdraw_64 rfl (le_t rfl) (le_t rfl) T42 (mF.call (mF.up mF.refl A37 u39 rfl) F43 rfl) ⟨(rW (c := (-2147483648)) (d := 2147483647) (rR (x := 0)) rfl), trivial⟩
    have h45 : (-1) ≤ z32 ∧ z32 ≤ (-1) := (vc_X11_withdraw_12 h35 h34)
    refine mr_bipush (pc := 36) (z := (-2)) dX11_withdraw_36 (by decide) ?_
    exact mr_iret dX11_withdraw_38 rfl (le_t rfl) (le_t rfl) hT mF.refl ⟨(rW (c := (-2147483648)) (d := 2147483647) (rR (x := (-2))) rfl), trivial⟩
  have h46 : 0 ≤ z23 ∧ z23 ≤ 0 := (vc_X11_withdraw_13 h24 h22.2.1 h22.2.2.1 hp2 h18 h22.1)
  have h47 : p2 < 0 ∨ z16 ≤ p2 := (h22.2.2.1 (vc_X11_withdraw_14 h22.2.1 h22.2.2.1 h24 hp2 h18 h46))
  refine mr_iconst (pc := 16) (z := (-1)) dX11_withdraw_16 ?_
  exact mr_iret dX11_withdraw_17 rfl (le_t rfl) (le_t rfl) hT mF.refl ⟨(rW (c := (-2147483648)) (d := 2147483647) (rR (x := (-1))) rfl), trivial⟩
theorem vc_X11_go_1 {p1 : Int} (h0 : p1 < 1) (h1 : (-2147483648) ≤ p1 ∧ p1 ≤ 2147483647) : (-2147483648) ≤ p1 ∧ p1 ≤ 0 := by omega
theorem vc_X11_go_2 {p1 : Int} (h0 : 1 ≤ p1) (h1 : (-2147483648) ≤ p1 ∧ p1 ≤ 2147483647) : 1 ≤ p1 ∧ p1 ≤ 2147483647 := by omega
theorem vc_X11_go_3 {p1 : Int} (h0 : p1 ≤ 500) (h1 : 1 ≤ p1) (h2 : 1 ≤ p1 ∧ p1 ≤ 2147483647) : 1 ≤ p1 ∧ p1 ≤ 500 := by omega
theorem vc_X11_go_4 {z136 : Int} (h0 : (501 - z136) < ((0 : Nat) : Int)) (h1 : 0 ≤ z136 ∧ z136 ≤ 500) : False := by omega
theorem vc_X11_go_5 {p1 z136 : Int} (h0 : p1 ≤ z136) (h1 : 1 ≤ p1) (h2 : p1 ≤ 500) (h3 : 1 ≤ p1 ∧ p1 ≤ 500) (h4 : 0 ≤ z136 ∧ z136 ≤ 500) : 1 ≤ z136 ∧ z136 ≤ 500 := by omega
theorem vc_X11_go_6 {p1 z136 : Int} (h0 : z136 < p1) (h1 : 1 ≤ p1) (h2 : p1 ≤ 500) (h3 : 1 ≤ p1 ∧ p1 ≤ 500) (h4 : 0 ≤ z136 ∧ z136 ≤ 500) : 0 ≤ z136 ∧ z136 ≤ 499 := by omega
theorem vc_X11_go_7 {z162 : Int} (h0 : z162 = 0) (h1 : 0 ≤ z162 ∧ z162 ≤ 1) : 0 ≤ z162 ∧ z162 ≤ 0 := by omega
theorem vc_X11_go_8 {z162 : Int} (h0 : ¬ z162 = 0) (h1 : 0 ≤ z162 ∧ z162 ≤ 1) : 1 ≤ z162 ∧ z162 ≤ 1 := by omega
theorem vc_X11_go_9 {N p1 z136 : Int} (h0 : (501 - z136) < N + 1) (h1 : z136 < p1) (h2 : 1 ≤ p1) (h3 : p1 ≤ 500) (h4 : 1 ≤ p1 ∧ p1 ≤ 500) (h5 : 0 ≤ z136 ∧ z136 ≤ 499) : (501 - (z136 + 1)) < N := by omega
theorem vc_X11_go_10  : (501 - 0) < ((502 : Nat) : Int) := by omega
theorem vc_X11_go_11 {p1 : Int} (h0 : 500 < p1) (h1 : 1 ≤ p1) (h2 : 1 ≤ p1 ∧ p1 ≤ 2147483647) : 501 ≤ p1 ∧ p1 ≤ 2147483647 := by omega
set_option maxRecDepth 4000 in
set_option maxHeartbeats 4000000 in
theorem c_X11_go {l : Launch} {D : va_G} {c : Nat → ClassId} {H0 : Heap} {sa : Nat × Nat × (Nat → Int32)} {w : mW} {μ : mM} (hw : mWF w) (hT : mT w μ) {p1 : Int} (hp1 : (-2147483648) ≤ p1 ∧ p1 ≤ 2147483647) (hIPC : PC w μ) : sC (gG l D c H0 sa) mX11_go 44 0 0 [.ref 0, iv p1] (mk w μ) (qI w [21002, 21003, 21004, 21005, 21006, 21007, 32009, 32010, 32011, 32012, 33999, 34999, 66999, 200002, 200003, 200004, 200005, 200006, 200007, 200008, 200009, 200010, 200011, 201999, 202999, 213999] μ (fun z μ1 => ((-2147483648) ≤ z ∧ z ≤ 2147483647) ∧ True)) := by
  refine sC.of rfl (by decide) (le_t rfl) ?_
  refine mr_lvE (lv' := [(0, .ref 0), (1, iv p1)]) rfl ?_
  refine mr_iload_n (pc := 0) (z := p1) dX11_go_0 rfl rfl ?_
  refine mr_iconst (pc := 1) (z := 1) dX11_go_1 ?_
  refine mr_icmp_lt (pc := 2) (tgt := 12) dX11_go_2 (by decide) hp1 (r32 (rR (x := 1)) rfl) (fun h1 => ?_) (fun h1 => ?_)
  · have h2 : (-2147483648) ≤ p1 ∧ p1 ≤ 0 := (vc_X11_go_1 h1 hp1)
    refine mr_iconst (pc := 12) (z := (-1)) dX11_go_12 ?_
    exact mr_iret dX11_go_13 rfl (le_t rfl) (le_t rfl) hT mF.refl ⟨(rW (c := (-2147483648)) (d := 2147483647) (rR (x := (-1))) rfl), trivial⟩
  have h3 : 1 ≤ p1 ∧ p1 ≤ 2147483647 := (vc_X11_go_2 h1 hp1)
  refine mr_iload_n (pc := 5) (z := p1) dX11_go_5 rfl rfl ?_
  refine mr_sipush (pc := 6) (z := 500) dX11_go_6 (by decide) ?_
  refine mr_icmp_le (pc := 9) (tgt := 14) dX11_go_9 (by decide) (r32 h3 rfl) (r32 (rR (x := 500)) rfl) (fun h4 => ?_) (fun h4 => ?_)
  · have h5 : 1 ≤ p1 ∧ p1 ≤ 500 := (vc_X11_go_3 h4 h1 h3)
    refine mr_iconst (pc := 14) (z := 0) dX11_go_14 ?_
    refine mr_istore_n (pc := 15) (lv' := [(2, iv 0), (0, .ref 0), (1, iv p1)]) dX11_go_15 rfl (by decide) rfl ?_
    have L138 : ∀ (nL138 : Nat) (z136 : Int) (μ137 : mM), mT w μ137 → mF [21002, 21003, 21004, 21005, 21006, 21007, 32009, 32010, 32011, 32012, 33999, 34999, 66999, 200002, 200003, 200004, 200005, 200006, 200007, 200008, 200009, 200010, 200011, 201999, 202999, 213999] w μ μ137 → (0 ≤ z136 ∧ z136 ≤ 500) → PC w μ137 → (501 - z136) < (nL138 : Int) → sV (gG l D c H0 sa) mX11_go (sRm 44 0 0) (sZ (gG l D c H0 sa) 0 0 (qI w [21002, 21003, 21004, 21005, 21006, 21007, 32009, 32010, 32011, 32012, 33999, 34999, 66999, 200002, 200003, 200004, 200005, 200006, 200007, 200008, 200009, 200010, 200011, 201999, 202999, 213999] μ (fun z μ1 => ((-2147483648) ≤ z ∧ z ≤ 2147483647) ∧ True))) 16 [(0, .ref 0), (1, iv p1), (2, iv z136)] [] (mk w μ137) 0 0 := by
      intro nL138
      induction nL138 with
      | zero => intro z136 μ137 T140 F141 h139 I143 h144; exact ((vc_X11_go_4 h144 h139)).elim
      | succ nL138 ih145 =>
        intro z136 μ137 T140 F141 h139 I143 h144
        refine mr_iload_n (pc := 16) (z := z136) dX11_go_16 rfl rfl ?_
        refine mr_iload_n (pc := 17) (z := p1) dX11_go_17 rfl rfl ?_
        refine mr_icmp_ge (pc := 18) (tgt := 40) dX11_go_18 (by decide) (r32 h139 rfl) (r32 h5 rfl) (fun h155 => ?_) (fun h155 => ?_)
        · have h156 : 1 ≤ z136 ∧ z136 ≤ 500 := (vc_X11_go_5 h155 h1 h4 h5 h139)
          refine mr_iload_n (pc := 40) (z := z136) dX11_go_40 rfl rfl ?_
          exact mr_iret dX11_go_41 rfl (le_t rfl) (le_t rfl) T140 (mF.call mF.refl F141 rfl) ⟨(rW (c := (-2147483648)) (d := 2147483647) h156 rfl), trivial⟩
        have h157 : 0 ≤ z136 ∧ z136 ≤ 499 := (vc_X11_go_6 h155 h1 h4 h5 h139)
        refine sv_aload_n (pc := 21) dX11_go_21 rfl rfl ?_
        refine gf_X11_6 (pc := 22) dX11_go_22 wF_X11_51 (A_0 hw) T140 ?_
        refine mr_ldcw (pc := 25) (z := 2000000000) dX11_go_25 wG_X11_299 (by decide) ?_
        refine mr_cVI (pc := 28) (c_X8_doNext hw T140 (rW (c := (-1)) (d := 2000000000) (rR (x := 2000000000)) rfl) I143) (gOk _ _ _ _ _) dX11_go_28 (tX8_doNext _ _ _ _ _) ⟨wV_X8_doNext, wL_X8_doNext⟩ wM_X11_300 (gCX8 _ _ _ _ _) rfl (A_32 hw) rfl ⟨le_t rfl, le_t rfl⟩ ⟨le_t rfl, le_t rfl⟩ rfl (le_t rfl) fun z162 μ158 T159 F160 h161 => ?_
        refine mr_if_eq (pc := 31) (tgt := 40) dX11_go_31 (by decide) (r32 h161.1 rfl) (fun h165 => ?_) (fun h165 => ?_)
        · have h166 : 0 ≤ z162 ∧ z162 ≤ 0 := (vc_X11_go_7 h165 h161.1)
          refine mr_iload_n (pc := 40) (z := z136) dX11_go_40 rfl rfl ?_
          exact mr_iret dX11_go_41 rfl (le_t rfl) (le_t rfl) T159 (mF.call (mF.call mF.refl F141 rfl) F160 rfl) ⟨(rW (c := (-2147483648)) (d := 2147483647) h157 rfl), trivial⟩
        have h167 : 1 ≤ z162 ∧ z162 ≤ 1 := (vc_X11_go_8 h165 h161.1)
        refine mr_iinc (pc := 34) (lv' := [(2, iv (z136 + 1)), (0, .ref 0), (1, iv p1)]) dX11_go_34 rfl (by decide) rfl ?_
        refine sv_goto (pc := 37) (tgt := 16) dX11_go_37 (by decide) ?_
        refine mr_lvS (lv' := [(0, .ref 0), (1, iv p1), (2, iv (z136 + 1))]) (List.forall_mem_cons.mpr ⟨rfl, List.forall_mem_cons.mpr ⟨rfl, List.forall_mem_cons.mpr ⟨rfl, fun _ h => absurd h List.not_mem_nil⟩⟩⟩) ?_
        exact ih145 (z136 + 1) μ158 T159 (mF.call (mF.call mF.refl F141 rfl) F160 rfl) (rW (c := 0) (d := 500) (rAdd (e := 1) (f := 500) h157 (rR (x := 1)) rfl) rfl) (PC.keep I143 hw ((mF.call mF.refl F160 rfl) : mF [21002, 21003, 21004, 21005, 21006, 21007, 32009, 32010, 32011, 32012, 33999, 34999, 66999, 200002, 200003, 200004, 200005, 200006, 200007, 200008, 200009, 200010, 200011, 201999, 202999, 213999] w μ137 μ158) rfl) (vc_X11_go_9 (nS h144) h155 h1 h4 h5 h157)
    refine mr_lvS (lv' := [(0, .ref 0), (1, iv p1), (2, iv 0)]) (List.forall_mem_cons.mpr ⟨rfl, List.forall_mem_cons.mpr ⟨rfl, List.forall_mem_cons.mpr ⟨rfl, fun _ h => absurd h List.not_mem_nil⟩⟩⟩) ?_
    exact L138 502 0 μ hT mF.refl (rW (c := 0) (d := 500) (rR (x := 0)) rfl) hIPC vc_X11_go_10
  have h168 : 501 ≤ p1 ∧ p1 ≤ 2147483647 := (vc_X11_go_11 h4 h1 h3)
  refine mr_iconst (pc := 12) (z := (-1)) dX11_go_12 ?_
  exact mr_iret dX11_go_13 rfl (le_t rfl) (le_t rfl) hT mF.refl ⟨(rW (c := (-2147483648)) (d := 2147483647) (rR (x := (-1))) rfl), trivial⟩
theorem vc_X11_until_1 {p1 z1 : Int} (h0 : p1 < z1) (h1 : (-2147483648) ≤ p1 ∧ p1 ≤ 2147483647) (h2 : (-1) ≤ z1 ∧ z1 ≤ 2000000000) : (-2147483648) ≤ p1 ∧ p1 ≤ 1999999999 := by omega
theorem vc_X11_until_2 {p1 z1 : Int} (h0 : z1 ≤ p1) (h1 : (-2147483648) ≤ p1 ∧ p1 ≤ 2147483647) (h2 : (-1) ≤ z1 ∧ z1 ≤ 2000000000) : (-1) ≤ p1 ∧ p1 ≤ 2147483647 := by omega
theorem vc_X11_until_3 {p1 z1 : Int} (h0 : p1 ≤ 1000000000) (h1 : z1 ≤ p1) (h2 : (-1) ≤ p1 ∧ p1 ≤ 2147483647) (h3 : (-1) ≤ z1 ∧ z1 ≤ 2000000000) : (-1) ≤ p1 ∧ p1 ≤ 1000000000 := by omega
theorem vc_X11_until_4 {z164 : Int} (h0 : (501 - z164) < ((0 : Nat) : Int)) (h1 : 0 ≤ z164 ∧ z164 ≤ 500) : False := by omega
theorem vc_X11_until_5 {z164 : Int} (h0 : 500 ≤ z164) (h1 : 0 ≤ z164 ∧ z164 ≤ 500) : 500 ≤ z164 ∧ z164 ≤ 500 := by omega
theorem vc_X11_until_6 {z164 : Int} (h0 : z164 < 500) (h1 : 0 ≤ z164 ∧ z164 ≤ 500) : 0 ≤ z164 ∧ z164 ≤ 499 := by omega
theorem vc_X11_until_7 {z194 : Int} (h0 : z194 = 0) (h1 : 0 ≤ z194 ∧ z194 ≤ 1) : 0 ≤ z194 ∧ z194 ≤ 0 := by omega
theorem vc_X11_until_8 {z194 : Int} (h0 : ¬ z194 = 0) (h1 : 0 ≤ z194 ∧ z194 ≤ 1) : 1 ≤ z194 ∧ z194 ≤ 1 := by omega
theorem vc_X11_until_9 {N z164 : Int} (h0 : (501 - z164) < N + 1) (h1 : z164 < 500) (h2 : 0 ≤ z164 ∧ z164 ≤ 499) : (501 - (z164 + 1)) < N := by omega
theorem vc_X11_until_10  : (501 - 0) < ((502 : Nat) : Int) := by omega
theorem vc_X11_until_11 {p1 z1 : Int} (h0 : 1000000000 < p1) (h1 : z1 ≤ p1) (h2 : (-1) ≤ p1 ∧ p1 ≤ 2147483647) (h3 : (-1) ≤ z1 ∧ z1 ≤ 2000000000) : 1000000001 ≤ p1 ∧ p1 ≤ 2147483647 := by omega
set_option maxRecDepth 4000 in
set_option maxHeartbeats 4000000 in
theorem c_X11_until {l : Launch} {D : va_G} {c : Nat → ClassId} {H0 : Heap} {sa : Nat × Nat × (Nat → Int32)} {w : mW} {μ : mM} (hw : mWF w) (hT : mT w μ) {p1 : Int} (hp1 : (-2147483648) ≤ p1 ∧ p1 ≤ 2147483647) (hIPC : PC w μ) : sC (gG l D c H0 sa) mX11_until 44 0 0 [.ref 0, iv p1] (mk w μ) (qI w [21002, 21003, 21004, 21005, 21006, 21007, 32009, 32010, 32011, 32012, 33999, 34999, 66999, 200002, 200003, 200004, 200005, 200006, 200007, 200008, 200009, 200010, 200011, 201999, 202999, 213999] μ (fun z μ1 => ((-2147483648) ≤ z ∧ z ≤ 2147483647) ∧ True)) := by
  refine sC.of rfl (by decide) (le_t rfl) ?_
  refine mr_lvE (lv' := [(0, .ref 0), (1, iv p1)]) rfl ?_
  refine mr_iload_n (pc := 0) (z := p1) dX11_until_0 rfl rfl ?_
  refine sv_aload_n (pc := 1) dX11_until_1 rfl rfl ?_
  refine gf_X11_6 (pc := 2) dX11_until_2 wF_X11_51 (A_0 hw) hT ?_
  refine gf_X8_11 (pc := 5) dX11_until_5 wF_X11_303 (A_32 hw) hT fun z1 q2 h3 => ?_
  refine mr_icmp_lt (pc := 8) (tgt := 18) dX11_until_8 (by decide) hp1 (r32 h3 rfl) (fun h4 => ?_) (fun h4 => ?_)
  · have h5 : (-2147483648) ≤ p1 ∧ p1 ≤ 1999999999 := (vc_X11_until_1 h4 hp1 h3)
    refine mr_iconst (pc := 18) (z := (-1)) dX11_until_18 ?_
    exact mr_iret dX11_until_19 rfl (le_t rfl) (le_t rfl) hT mF.refl ⟨(rW (c := (-2147483648)) (d := 2147483647) (rR (x := (-1))) rfl), trivial⟩
  have h6 : (-1) ≤ p1 ∧ p1 ≤ 2147483647 := (vc_X11_until_2 h4 hp1 h3)
  refine mr_iload_n (pc := 11) (z := p1) dX11_until_11 rfl rfl ?_
  refine mr_ldcw (pc := 12) (z := 1000000000) dX11_until_12 wG_X11_306 (by decide) ?_
  refine mr_icmp_le (pc := 15) (tgt := 20) dX11_until_15 (by decide) (r32 h6 rfl) (r32 (rR (x := 1000000000)) rfl) (fun h7 => ?_) (fun h7 => ?_)
  · have h8 : (-1) ≤ p1 ∧ p1 ≤ 1000000000 := (vc_X11_until_3 h7 h4 h6 h3)
    refine mr_iconst (pc := 20) (z := 0) dX11_until_20 ?_
    refine mr_istore_n (pc := 21) (lv' := [(2, iv 0), (0, .ref 0), (1, iv p1)]) dX11_until_21 rfl (by decide) rfl ?_
    have L166 : ∀ (nL166 : Nat) (z164 : Int) (μ165 : mM), mT w μ165 → mF [21002, 21003, 21004, 21005, 21006, 21007, 32009, 32010, 32011, 32012, 33999, 34999, 66999, 200002, 200003, 200004, 200005, 200006, 200007, 200008, 200009, 200010, 200011, 201999, 202999, 213999] w μ μ165 → (0 ≤ z164 ∧ z164 ≤ 500) → PC w μ165 → (501 - z164) < (nL166 : Int) → sV (gG l D c H0 sa) mX11_until (sRm 44 0 0) (sZ (gG l D c H0 sa) 0 0 (qI w [21002, 21003, 21004, 21005, 21006, 21007, 32009, 32010, 32011, 32012, 33999, 34999, 66999, 200002, 200003, 200004, 200005, 200006, 200007, 200008, 200009, 200010, 200011, 201999, 202999, 213999] μ (fun z μ1 => ((-2147483648) ≤ z ∧ z ≤ 2147483647) ∧ True))) 22 [(0, .ref 0), (1, iv p1), (2, iv z164)] [] (mk w μ165) 0 0 := by
      intro nL166
      induction nL166 with
      | zero => intro z164 μ165 T168 F169 h167 I171 h172; exact ((vc_X11_until_4 h172 h167)).elim
      | succ nL166 ih173 =>
        intro z164 μ165 T168 F169 h167 I171 h172
        refine mr_iload_n (pc := 22) (z := z164) dX11_until_22 rfl rfl ?_
        refine mr_sipush (pc := 23) (z := 500) dX11_until_23 (by decide) ?_
        refine mr_icmp_ge (pc := 26) (tgt := 46) dX11_until_26 (by decide) (r32 h167 rfl) (r32 (rR (x := 500)) rfl) (fun h183 => ?_) (fun h183 => ?_)
        · have h184 : 500 ≤ z164 ∧ z164 ≤ 500 := (vc_X11_until_5 h183 h167)
          refine sv_aload_n (pc := 46) dX11_until_46 rfl rfl ?_
          refine gf_X11_6 (pc := 47) dX11_until_47 wF_X11_51 (A_0 hw) T168 ?_
          refine mr_iload_n (pc := 50) (z := p1) dX11_until_50 rfl rfl ?_
          refine mr_cVV (pc := 51) (c_X8_passTo hw T168 (rW (c := (-1)) (d := 2000000000) h8 rfl)) (gOk _ _ _ _ _) dX11_until_51 (tX8_passTo _ _ _ _ _) ⟨wV_X8_passTo, wL_X8_passTo⟩ wM_X11_307 (gCX8 _ _ _ _ _) rfl (A_32 hw) rfl ⟨le_t rfl, le_t rfl⟩ ⟨le_t rfl, le_t rfl⟩ rfl (le_t rfl) fun μ185 T186 F187 h188 => ?_
          refine mr_iload_n (pc := 54) (z := z164) dX11_until_54 rfl rfl ?_
          exact mr_iret dX11_until_55 rfl (le_t rfl) (le_t rfl) T186 (mF.call (mF.call mF.refl F169 rfl) F187 rfl) ⟨(rW (c := (-2147483648)) (d := 2147483647) h184 rfl), trivial⟩
        have h189 : 0 ≤ z164 ∧ z164 ≤ 499 := (vc_X11_until_6 h183 h167)
        refine sv_aload_n (pc := 29) dX11_until_29 rfl rfl ?_
        refine gf_X11_6 (pc := 30) dX11_until_30 wF_X11_51 (A_0 hw) T168 ?_
        refine mr_iload_n (pc := 33) (z := p1) dX11_until_33 rfl rfl ?_
        refine mr_cVI (pc := 34) (c_X8_doNext hw T168 (rW (c := (-1)) (d := 2000000000) h8 rfl) I171) (gOk _ _ _ _ _) dX11_until_34 (tX8_doNext _ _ _ _ _) ⟨wV_X8_doNext, wL_X8_doNext⟩ wM_X11_300 (gCX8 _ _ _ _ _) rfl (A_32 hw) rfl ⟨le_t rfl, le_t rfl⟩ ⟨le_t rfl, le_t rfl⟩ rfl (le_t rfl) fun z194 μ190 T191 F192 h193 => ?_
        refine mr_if_eq (pc := 37) (tgt := 46) dX11_until_37 (by decide) (r32 h193.1 rfl) (fun h197 => ?_) (fun h197 => ?_)
        · have h198 : 0 ≤ z194 ∧ z194 ≤ 0 := (vc_X11_until_7 h197 h193.1)
          refine sv_aload_n (pc := 46) dX11_until_46 rfl rfl ?_
          refine gf_X11_6 (pc := 47) dX11_until_47 wF_X11_51 (A_0 hw) T191 ?_
          refine mr_iload_n (pc := 50) (z := p1) dX11_until_50 rfl rfl ?_
          refine mr_cVV (pc := 51) (c_X8_passTo hw T191 (rW (c := (-1)) (d := 2000000000) h8 rfl)) (gOk _ _ _ _ _) dX11_until_51 (tX8_passTo _ _ _ _ _) ⟨wV_X8_passTo, wL_X8_passTo⟩ wM_X11_307 (gCX8 _ _ _ _ _) rfl (A_32 hw) rfl ⟨le_t rfl, le_t rfl⟩ ⟨le_t rfl, le_t rfl⟩ rfl (le_t rfl) fun μ199 T200 F201 h202 => ?_
          refine mr_iload_n (pc := 54) (z := z164) dX11_until_54 rfl rfl ?_
          exact mr_iret dX11_until_55 rfl (le_t rfl) (le_t rfl) T200 (mF.call (mF.call (mF.call mF.refl F169 rfl) F192 rfl) F201 rfl) ⟨(rW (c := (-2147483648)) (d := 2147483647) h189 rfl), trivial⟩
        have h203 : 1 ≤ z194 ∧ z194 ≤ 1 := (vc_X11_until_8 h197 h193.1)
        refine mr_iinc (pc := 40) (lv' := [(2, iv (z164 + 1)), (0, .ref 0), (1, iv p1)]) dX11_until_40 rfl (by decide) rfl ?_
        refine sv_goto (pc := 43) (tgt := 22) dX11_until_43 (by decide) ?_
        refine mr_lvS (lv' := [(0, .ref 0), (1, iv p1), (2, iv (z164 + 1))]) (List.forall_mem_cons.mpr ⟨rfl, List.forall_mem_cons.mpr ⟨rfl, List.forall_mem_cons.mpr ⟨rfl, fun _ h => absurd h List.not_mem_nil⟩⟩⟩) ?_
        exact ih173 (z164 + 1) μ190 T191 (mF.call (mF.call mF.refl F169 rfl) F192 rfl) (rW (c := 0) (d := 500) (rAdd (e := 1) (f := 500) h189 (rR (x := 1)) rfl) rfl) (PC.keep I171 hw ((mF.call mF.refl F192 rfl) : mF [21002, 21003, 21004, 21005, 21006, 21007, 32009, 32010, 32011, 32012, 33999, 34999, 66999, 200002, 200003, 200004, 200005, 200006, 200007, 200008, 200009, 200010, 200011, 201999, 202999, 213999] w μ165 μ190) rfl) (vc_X11_until_9 (nS h172) h183 h189)
    refine mr_lvS (lv' := [(0, .ref 0), (1, iv p1), (2, iv 0)]) (List.forall_mem_cons.mpr ⟨rfl, List.forall_mem_cons.mpr ⟨rfl, List.forall_mem_cons.mpr ⟨rfl, fun _ h => absurd h List.not_mem_nil⟩⟩⟩) ?_
    exact L166 502 0 μ hT mF.refl (rW (c := 0) (d := 500) (rR (x := 0)) rfl) hIPC vc_X11_until_10
  have h204 : 1000000001 ≤ p1 ∧ p1 ≤ 2147483647 := (vc_X11_until_11 h7 h4 h6 h3)
  refine mr_iconst (pc := 18) (z := (-1)) dX11_until_18 ?_
  exact mr_iret dX11_until_19 rfl (le_t rfl) (le_t rfl) hT mF.refl ⟨(rW (c := (-2147483648)) (d := 2147483647) (rR (x := (-1))) rfl), trivial⟩
theorem vc_X11_why_1 {p1 z1 z8 : Int} (h0 : z8 = 0) (h1 : (z8 = 1 → 0 ≤ p1 ∧ p1 < z1)) (h2 : (z8 = 0 → p1 < 0 ∨ z1 ≤ p1)) (h3 : (-2147483648) ≤ p1 ∧ p1 ≤ 2147483647) (h4 : 0 ≤ z1 ∧ z1 ≤ 20) (h5 : 0 ≤ z8 ∧ z8 ≤ 1) : 0 ≤ z8 ∧ z8 ≤ 0 := by omega
theorem vc_X11_why_2 {n1 p1 z1 z8 : Int} (h0 : (z8 = 1 → 0 ≤ p1 ∧ p1 < z1)) (h1 : (z8 = 0 → p1 < 0 ∨ z1 ≤ p1)) (h2 : z8 = 0) (h3 : z1 = n1) (h4 : (-2147483648) ≤ p1 ∧ p1 ≤ 2147483647) (h5 : 0 ≤ z1 ∧ z1 ≤ 20) (h6 : 0 ≤ z8 ∧ z8 ≤ 0) : z8 = 0 := by omega
theorem vc_X11_why_3 {p1 z1 z8 : Int} (h0 : ¬ z8 = 0) (h1 : (z8 = 1 → 0 ≤ p1 ∧ p1 < z1)) (h2 : (z8 = 0 → p1 < 0 ∨ z1 ≤ p1)) (h3 : (-2147483648) ≤ p1 ∧ p1 ≤ 2147483647) (h4 : 0 ≤ z1 ∧ z1 ≤ 20) (h5 : 0 ≤ z8 ∧ z8 ≤ 1) : 1 ≤ z8 ∧ z8 ≤ 1 := by omega
theorem vc_X11_why_4 {n1 p1 z1 z8 : Int} (h0 : (z8 = 1 → 0 ≤ p1 ∧ p1 < z1)) (h1 : (z8 = 0 → p1 < 0 ∨ z1 ≤ p1)) (h2 : ¬ z8 = 0) (h3 : z1 = n1) (h4 : (-2147483648) ≤ p1 ∧ p1 ≤ 2147483647) (h5 : 0 ≤ z1 ∧ z1 ≤ 20) (h6 : 1 ≤ z8 ∧ z8 ≤ 1) : z8 = 1 := by omega
theorem vc_X11_why_5 {n1 p1 z1 z8 : Int} (h0 : 0 ≤ p1 ∧ p1 < z1) (h1 : z1 = n1) (h2 : (z8 = 1 → 0 ≤ p1 ∧ p1 < z1)) (h3 : (z8 = 0 → p1 < 0 ∨ z1 ≤ p1)) (h4 : (-2147483648) ≤ p1 ∧ p1 ≤ 2147483647) (h5 : 0 ≤ z1 ∧ z1 ≤ 20) (h6 : 1 ≤ z8 ∧ z8 ≤ 1) : 0 ≤ p1 ∧ p1 ≤ 19 := by omega
theorem vc_X11_why_6 {n1 p1 z1 z8 : Int} (h0 : 0 ≤ p1 ∧ p1 < z1) (h1 : z1 = n1) (h2 : (z8 = 1 → 0 ≤ p1 ∧ p1 < z1)) (h3 : (z8 = 0 → p1 < 0 ∨ z1 ≤ p1)) (h4 : 0 ≤ p1 ∧ p1 ≤ 19) (h5 : 0 ≤ z1 ∧ z1 ≤ 20) (h6 : 1 ≤ z8 ∧ z8 ≤ 1) : 1 ≤ z1 ∧ z1 ≤ 20 := by omega
theorem vc_X11_why_7 {p2 z20 : Int} (h0 : z20 = 0) (h1 : (z20 = 1 → 0 ≤ p2 ∧ p2 ≤ 1)) (h2 : (z20 = 0 → p2 < 0 ∨ 1 < p2)) (h3 : (-2147483648) ≤ p2 ∧ p2 ≤ 2147483647) (h4 : 0 ≤ z20 ∧ z20 ≤ 1) : 0 ≤ z20 ∧ z20 ≤ 0 := by omega
theorem vc_X11_why_8 {p2 z20 : Int} (h0 : (z20 = 1 → 0 ≤ p2 ∧ p2 ≤ 1)) (h1 : (z20 = 0 → p2 < 0 ∨ 1 < p2)) (h2 : z20 = 0) (h3 : (-2147483648) ≤ p2 ∧ p2 ≤ 2147483647) (h4 : 0 ≤ z20 ∧ z20 ≤ 0) : z20 = 0 := by omega
theorem vc_X11_why_9 {p2 z20 : Int} (h0 : ¬ z20 = 0) (h1 : (z20 = 1 → 0 ≤ p2 ∧ p2 ≤ 1)) (h2 : (z20 = 0 → p2 < 0 ∨ 1 < p2)) (h3 : (-2147483648) ≤ p2 ∧ p2 ≤ 2147483647) (h4 : 0 ≤ z20 ∧ z20 ≤ 1) : 1 ≤ z20 ∧ z20 ≤ 1 := by omega
theorem vc_X11_why_10 {p2 z20 : Int} (h0 : (z20 = 1 → 0 ≤ p2 ∧ p2 ≤ 1)) (h1 : (z20 = 0 → p2 < 0 ∨ 1 < p2)) (h2 : ¬ z20 = 0) (h3 : (-2147483648) ≤ p2 ∧ p2 ≤ 2147483647) (h4 : 1 ≤ z20 ∧ z20 ≤ 1) : z20 = 1 := by omega
theorem vc_X11_why_11 {p2 z20 : Int} (h0 : 0 ≤ p2 ∧ p2 ≤ 1) (h1 : (z20 = 1 → 0 ≤ p2 ∧ p2 ≤ 1)) (h2 : (z20 = 0 → p2 < 0 ∨ 1 < p2)) (h3 : (-2147483648) ≤ p2 ∧ p2 ≤ 2147483647) (h4 : 1 ≤ z20 ∧ z20 ≤ 1) : 0 ≤ p2 ∧ p2 ≤ 1 := by omega
theorem vc_X11_why_12 {p3 z27 z34 : Int} (h0 : ¬ z34 = 0) (h1 : (z34 = 1 → 0 ≤ p3 ∧ p3 < z27)) (h2 : (z34 = 0 → p3 < 0 ∨ z27 ≤ p3)) (h3 : (-2147483648) ≤ p3 ∧ p3 ≤ 2147483647) (h4 : 0 ≤ z27 ∧ z27 ≤ 10) (h5 : 0 ≤ z34 ∧ z34 ≤ 1) : 1 ≤ z34 ∧ z34 ≤ 1 := by omega
theorem vc_X11_why_13 {p3 z27 z34 : Int} (h0 : (z34 = 1 → 0 ≤ p3 ∧ p3 < z27)) (h1 : (z34 = 0 → p3 < 0 ∨ z27 ≤ p3)) (h2 : ¬ z34 = 0) (h3 : (-2147483648) ≤ p3 ∧ p3 ≤ 2147483647) (h4 : 0 ≤ z27 ∧ z27 ≤ 10) (h5 : 1 ≤ z34 ∧ z34 ≤ 1) : z34 = 1 := by omega
theorem vc_X11_why_14 {p3 z27 z34 : Int} (h0 : 0 ≤ p3 ∧ p3 < z27) (h1 : (z34 = 1 → 0 ≤ p3 ∧ p3 < z27)) (h2 : (z34 = 0 → p3 < 0 ∨ z27 ≤ p3)) (h3 : (-2147483648) ≤ p3 ∧ p3 ≤ 2147483647) (h4 : 0 ≤ z27 ∧ z27 ≤ 10) (h5 : 1 ≤ z34 ∧ z34 ≤ 1) : 0 ≤ p3 ∧ p3 ≤ 9 := by omega
theorem vc_X11_why_15 {p3 z27 z34 : Int} (h0 : 0 ≤ p3 ∧ p3 < z27) (h1 : (z34 = 1 → 0 ≤ p3 ∧ p3 < z27)) (h2 : (z34 = 0 → p3 < 0 ∨ z27 ≤ p3)) (h3 : 0 ≤ p3 ∧ p3 ≤ 9) (h4 : 0 ≤ z27 ∧ z27 ≤ 10) (h5 : 1 ≤ z34 ∧ z34 ≤ 1) : 1 ≤ z27 ∧ z27 ≤ 10 := by omega
theorem vc_X11_why_16 {n1 p1 z1 z8 : Int} (h0 : z1 = n1) (h1 : (z8 = 1 → 0 ≤ p1 ∧ p1 < z1)) (h2 : (z8 = 0 → p1 < 0 ∨ z1 ≤ p1)) (h3 : 0 ≤ p1 ∧ p1 < z1) (h4 : ¬ z8 = 0) (h5 : 0 ≤ p1 ∧ p1 ≤ 19) (h6 : 1 ≤ z1 ∧ z1 ≤ 20) (h7 : 1 ≤ z8 ∧ z8 ≤ 1) : p1 < n1 := by omega
theorem vc_X11_why_17 {p3 z27 z34 : Int} (h0 : z34 = 0) (h1 : (z34 = 1 → 0 ≤ p3 ∧ p3 < z27)) (h2 : (z34 = 0 → p3 < 0 ∨ z27 ≤ p3)) (h3 : (-2147483648) ≤ p3 ∧ p3 ≤ 2147483647) (h4 : 0 ≤ z27 ∧ z27 ≤ 10) (h5 : 0 ≤ z34 ∧ z34 ≤ 1) : 0 ≤ z34 ∧ z34 ≤ 0 := by omega
theorem vc_X11_why_18 {p3 z27 z34 : Int} (h0 : (z34 = 1 → 0 ≤ p3 ∧ p3 < z27)) (h1 : (z34 = 0 → p3 < 0 ∨ z27 ≤ p3)) (h2 : z34 = 0) (h3 : (-2147483648) ≤ p3 ∧ p3 ≤ 2147483647) (h4 : 0 ≤ z27 ∧ z27 ≤ 10) (h5 : 0 ≤ z34 ∧ z34 ≤ 0) : z34 = 0 := by omega
set_option maxRecDepth 4000 in
set_option maxHeartbeats 4000000 in
theorem c_X11_why {l : Launch} {D : va_G} {c : Nat → ClassId} {H0 : Heap} {sa : Nat × Nat × (Nat → Int32)} {w : mW} {μ : mM} (hw : mWF w) (hT : mT w μ) {p1 : Int} (hp1 : (-2147483648) ≤ p1 ∧ p1 ≤ 2147483647) {p2 : Int} (hp2 : (-2147483648) ≤ p2 ∧ p2 ≤ 2147483647) {p3 : Int} (hp3 : (-2147483648) ≤ p3 ∧ p3 ≤ 2147483647) (hIPC : PC w μ) : sC (gG l D c H0 sa) mX11_why 43 0 0 [.ref 0, iv p1, iv p2, iv p3] (mk w μ) (qI w [21002, 21003, 21004, 21005, 21006, 21007, 32009, 200002, 200003, 200004, 200005, 200006, 200007, 200008, 200009, 200010, 200011, 201999, 202999] μ (fun z μ1 => ((-2147483648) ≤ z ∧ z ≤ 2147483647) ∧ True)) := by
  refine sC.of rfl (by decide) (le_t rfl) ?_
  refine mr_lvE (lv' := [(0, .ref 0), (1, iv p1), (2, iv p2), (3, iv p3)]) rfl ?_
  refine sv_aload_n (pc := 0) dX11_why_0 rfl rfl ?_
  refine mr_iload_n (pc := 1) (z := p1) dX11_why_1 rfl rfl ?_
  obtain ⟨z1, q2⟩ : ∃ z, μ 6 16 = z := ⟨_, rfl⟩
  have h3 : (z1 = w.2.2.2 1 ∧ 0 ≤ z1 ∧ z1 ≤ 20) := by rw [← q2]; exact hT 6 6 (A_6 hw) 16
  refine mr_cVP (pc := 2) (c_X11_isTie hw hT hp1 q2) (gOk _ _ _ _ _) dX11_why_2 (tX11_isTie _ _ _ _ _) ⟨wV_X11_isTie, wL_X11_isTie⟩ wM_X11_119 (gCX11 _ _ _ _ _) rfl (A_0 hw) rfl ⟨le_t rfl, le_t rfl⟩ ⟨le_t rfl, le_t rfl⟩ rfl (le_t rfl) fun z8 h7 => ?_
  refine mr_if_eq (pc := 5) (tgt := 23) dX11_why_5 (by decide) (r32 h7.1 rfl) (fun h9 => ?_) (fun h9 => ?_)
  · have h10 : 0 ≤ z8 ∧ z8 ≤ 0 := (vc_X11_why_1 h9 h7.2.1 h7.2.2.1 hp1 h3.2 h7.1)
    have h11 : p1 < 0 ∨ z1 ≤ p1 := (h7.2.2.1 (vc_X11_why_2 h7.2.1 h7.2.2.1 h9 h3.1 hp1 h3.2 h10))
    refine mr_iconst (pc := 23) (z := (-1)) dX11_why_23 ?_
    exact mr_iret dX11_why_24 rfl (le_t rfl) (le_t rfl) hT mF.refl ⟨(rW (c := (-2147483648)) (d := 2147483647) (rR (x := (-1))) rfl), trivial⟩
  have h12 : 1 ≤ z8 ∧ z8 ≤ 1 := (vc_X11_why_3 h9 h7.2.1 h7.2.2.1 hp1 h3.2 h7.1)
  have h13 : 0 ≤ p1 ∧ p1 < z1 := (h7.2.1 (vc_X11_why_4 h7.2.1 h7.2.2.1 h9 h3.1 hp1 h3.2 h12))
  have h14 : 0 ≤ p1 ∧ p1 ≤ 19 := (vc_X11_why_5 h13 h3.1 h7.2.1 h7.2.2.1 hp1 h3.2 h12)
  have h15 : 1 ≤ z1 ∧ z1 ≤ 20 := (vc_X11_why_6 h13 h3.1 h7.2.1 h7.2.2.1 h14 h3.2 h12)
  refine mr_iload_n (pc := 8) (z := p2) dX11_why_8 rfl rfl ?_
  refine mr_cSP (pc := 9) (c_X11_isEither hw hT hp2) (gOk _ _ _ _ _) dX11_why_9 (tX11_isEither _ _ _ _ _) wS_X11_isEither wM_X11_271 ⟨le_t rfl, le_t rfl⟩ ⟨le_t rfl, le_t rfl⟩ rfl (le_t rfl) fun z20 h19 => ?_
  refine mr_if_eq (pc := 12) (tgt := 23) dX11_why_12 (by decide) (r32 h19.1 rfl) (fun h21 => ?_) (fun h21 => ?_)
  · have h22 : 0 ≤ z20 ∧ z20 ≤ 0 := (vc_X11_why_7 h21 h19.2.1 h19.2.2.1 hp2 h19.1)
    have h23 : p2 < 0 ∨ 1 < p2 := (h19.2.2.1 (vc_X11_why_8 h19.2.1 h19.2.2.1 h21 hp2 h22))
    refine mr_iconst (pc := 23) (z := (-1)) dX11_why_23 ?_
    exact mr_iret dX11_why_24 rfl (le_t rfl) (le_t rfl) hT mF.refl ⟨(rW (c := (-2147483648)) (d := 2147483647) (rR (x := (-1))) rfl), trivial⟩
  have h24 : 1 ≤ z20 ∧ z20 ≤ 1 := (vc_X11_why_9 h21 h19.2.1 h19.2.2.1 hp2 h19.1)
  have h25 : 0 ≤ p2 ∧ p2 ≤ 1 := (h19.2.1 (vc_X11_why_10 h19.2.1 h19.2.2.1 h21 hp2 h24))
  have h26 : 0 ≤ p2 ∧ p2 ≤ 1 := (vc_X11_why_11 h25 h19.2.1 h19.2.2.1 hp2 h24)
  refine sv_aload_n (pc := 15) dX11_why_15 rfl rfl ?_
  refine mr_iload_n (pc := 16) (z := p3) dX11_why_16 rfl rfl ?_
  obtain ⟨z27, q28⟩ : ∃ z, μ 6 14 = z := ⟨_, rfl⟩
  have h29 : (0 ≤ z27 ∧ z27 ≤ 10) := by rw [← q28]; exact hT 6 6 (A_6 hw) 14
  refine mr_cVP (pc := 17) (c_X11_isPrefix hw hT hp3 q28) (gOk _ _ _ _ _) dX11_why_17 (tX11_isPrefix _ _ _ _ _) ⟨wV_X11_isPrefix, wL_X11_isPrefix⟩ wM_X11_182 (gCX11 _ _ _ _ _) rfl (A_0 hw) rfl ⟨le_t rfl, le_t rfl⟩ ⟨le_t rfl, le_t rfl⟩ rfl (le_t rfl) fun z34 h33 => ?_
  refine mr_if_ne (pc := 20) (tgt := 25) dX11_why_20 (by decide) (r32 h33.1 rfl) (fun h35 => ?_) (fun h35 => ?_)
  · have h36 : 1 ≤ z34 ∧ z34 ≤ 1 := (vc_X11_why_12 h35 h33.2.1 h33.2.2.1 hp3 h29 h33.1)
    have h37 : 0 ≤ p3 ∧ p3 < z27 := (h33.2.1 (vc_X11_why_13 h33.2.1 h33.2.2.1 h35 hp3 h29 h36))
    have h38 : 0 ≤ p3 ∧ p3 ≤ 9 := (vc_X11_why_14 h37 h33.2.1 h33.2.2.1 hp3 h29 h36)
    have h39 : 1 ≤ z27 ∧ z27 ≤ 10 := (vc_X11_why_15 h37 h33.2.1 h33.2.2.1 h38 h29 h36)
    refine sv_aload_n (pc := 25) dX11_why_25 rfl rfl ?_
    refine gf_X11_6 (pc := 26) dX11_why_26 wF_X11_51 (A_0 hw) hT ?_
    refine mr_iload_n (pc := 29) (z := p1) dX11_why_29 rfl rfl ?_
    refine mr_iload_n (pc := 30) (z := p2) dX11_why_30 rfl rfl ?_
    refine mr_iload_n (pc := 31) (z := p3) dX11_why_31 rfl rfl ?_
    refine mr_cVI (pc := 32) (c_X8_reason hw hT h14 h26 h38 (vc_X11_why_16 h3.1 h7.2.1 h7.2.2.1 h13 h9 h14 h15 h12) hIPC) (gOk _ _ _ _ _) dX11_why_32 (tX8_reason _ _ _ _ _) ⟨wV_X8_reason, wL_X8_reason⟩ wM_X11_333 (gCX8 _ _ _ _ _) rfl (A_32 hw) rfl ⟨le_t rfl, le_t rfl⟩ ⟨le_t rfl, le_t rfl⟩ rfl (le_t rfl) fun z44 μ40 T41 F42 h43 => ?_
    exact mr_iret dX11_why_35 rfl (le_t rfl) (le_t rfl) T41 (mF.call mF.refl F42 rfl) ⟨h43.1, trivial⟩
  have h45 : 0 ≤ z34 ∧ z34 ≤ 0 := (vc_X11_why_17 h35 h33.2.1 h33.2.2.1 hp3 h29 h33.1)
  have h46 : p3 < 0 ∨ z27 ≤ p3 := (h33.2.2.1 (vc_X11_why_18 h33.2.1 h33.2.2.1 h35 hp3 h29 h45))
  refine mr_iconst (pc := 23) (z := (-1)) dX11_why_23 ?_
  exact mr_iret dX11_why_24 rfl (le_t rfl) (le_t rfl) hT mF.refl ⟨(rW (c := (-2147483648)) (d := 2147483647) (rR (x := (-1))) rfl), trivial⟩
theorem vc_X11_three_1 {p1 z1 z8 : Int} (h0 : z8 = 0) (h1 : (z8 = 1 → 0 ≤ p1 ∧ p1 < z1)) (h2 : (z8 = 0 → p1 < 0 ∨ z1 ≤ p1)) (h3 : (-2147483648) ≤ p1 ∧ p1 ≤ 2147483647) (h4 : 0 ≤ z1 ∧ z1 ≤ 10) (h5 : 0 ≤ z8 ∧ z8 ≤ 1) : 0 ≤ z8 ∧ z8 ≤ 0 := by omega
theorem vc_X11_three_2 {n0 p1 z1 z8 : Int} (h0 : (z8 = 1 → 0 ≤ p1 ∧ p1 < z1)) (h1 : (z8 = 0 → p1 < 0 ∨ z1 ≤ p1)) (h2 : z8 = 0) (h3 : z1 = n0) (h4 : (-2147483648) ≤ p1 ∧ p1 ≤ 2147483647) (h5 : 0 ≤ z1 ∧ z1 ≤ 10) (h6 : 0 ≤ z8 ∧ z8 ≤ 0) : z8 = 0 := by omega
theorem vc_X11_three_3 {p1 z1 z8 : Int} (h0 : ¬ z8 = 0) (h1 : (z8 = 1 → 0 ≤ p1 ∧ p1 < z1)) (h2 : (z8 = 0 → p1 < 0 ∨ z1 ≤ p1)) (h3 : (-2147483648) ≤ p1 ∧ p1 ≤ 2147483647) (h4 : 0 ≤ z1 ∧ z1 ≤ 10) (h5 : 0 ≤ z8 ∧ z8 ≤ 1) : 1 ≤ z8 ∧ z8 ≤ 1 := by omega
theorem vc_X11_three_4 {n0 p1 z1 z8 : Int} (h0 : (z8 = 1 → 0 ≤ p1 ∧ p1 < z1)) (h1 : (z8 = 0 → p1 < 0 ∨ z1 ≤ p1)) (h2 : ¬ z8 = 0) (h3 : z1 = n0) (h4 : (-2147483648) ≤ p1 ∧ p1 ≤ 2147483647) (h5 : 0 ≤ z1 ∧ z1 ≤ 10) (h6 : 1 ≤ z8 ∧ z8 ≤ 1) : z8 = 1 := by omega
theorem vc_X11_three_5 {n0 p1 z1 z8 : Int} (h0 : 0 ≤ p1 ∧ p1 < z1) (h1 : z1 = n0) (h2 : (z8 = 1 → 0 ≤ p1 ∧ p1 < z1)) (h3 : (z8 = 0 → p1 < 0 ∨ z1 ≤ p1)) (h4 : (-2147483648) ≤ p1 ∧ p1 ≤ 2147483647) (h5 : 0 ≤ z1 ∧ z1 ≤ 10) (h6 : 1 ≤ z8 ∧ z8 ≤ 1) : 0 ≤ p1 ∧ p1 ≤ 9 := by omega
theorem vc_X11_three_6 {n0 p1 z1 z8 : Int} (h0 : 0 ≤ p1 ∧ p1 < z1) (h1 : z1 = n0) (h2 : (z8 = 1 → 0 ≤ p1 ∧ p1 < z1)) (h3 : (z8 = 0 → p1 < 0 ∨ z1 ≤ p1)) (h4 : 0 ≤ p1 ∧ p1 ≤ 9) (h5 : 0 ≤ z1 ∧ z1 ≤ 10) (h6 : 1 ≤ z8 ∧ z8 ≤ 1) : 1 ≤ z1 ∧ z1 ≤ 10 := by omega
theorem vc_X11_three_7 {p2 z16 z23 : Int} (h0 : ¬ z23 = 0) (h1 : (z23 = 1 → 0 ≤ p2 ∧ p2 < z16)) (h2 : (z23 = 0 → p2 < 0 ∨ z16 ≤ p2)) (h3 : (-2147483648) ≤ p2 ∧ p2 ≤ 2147483647) (h4 : 0 ≤ z16 ∧ z16 ≤ 10) (h5 : 0 ≤ z23 ∧ z23 ≤ 1) : 1 ≤ z23 ∧ z23 ≤ 1 := by omega
theorem vc_X11_three_8 {p2 z16 z23 : Int} (h0 : (z23 = 1 → 0 ≤ p2 ∧ p2 < z16)) (h1 : (z23 = 0 → p2 < 0 ∨ z16 ≤ p2)) (h2 : ¬ z23 = 0) (h3 : (-2147483648) ≤ p2 ∧ p2 ≤ 2147483647) (h4 : 0 ≤ z16 ∧ z16 ≤ 10) (h5 : 1 ≤ z23 ∧ z23 ≤ 1) : z23 = 1 := by omega
theorem vc_X11_three_9 {p2 z16 z23 : Int} (h0 : 0 ≤ p2 ∧ p2 < z16) (h1 : (z23 = 1 → 0 ≤ p2 ∧ p2 < z16)) (h2 : (z23 = 0 → p2 < 0 ∨ z16 ≤ p2)) (h3 : (-2147483648) ≤ p2 ∧ p2 ≤ 2147483647) (h4 : 0 ≤ z16 ∧ z16 ≤ 10) (h5 : 1 ≤ z23 ∧ z23 ≤ 1) : 0 ≤ p2 ∧ p2 ≤ 9 := by omega
theorem vc_X11_three_10 {p3 : Int} (h0 : p3 < 0) (h1 : (-2147483648) ≤ p3 ∧ p3 ≤ 2147483647) : (-2147483648) ≤ p3 ∧ p3 ≤ (-1) := by omega
theorem vc_X11_three_11 {p3 : Int} (h0 : 0 ≤ p3) (h1 : (-2147483648) ≤ p3 ∧ p3 ≤ 2147483647) : 0 ≤ p3 ∧ p3 ≤ 2147483647 := by omega
theorem vc_X11_three_12 {p3 : Int} (h0 : p3 ≤ 2) (h1 : 0 ≤ p3) (h2 : 0 ≤ p3 ∧ p3 ≤ 2147483647) : 0 ≤ p3 ∧ p3 ≤ 2 := by omega
theorem vc_X11_three_13 {n0 p1 z1 z8 : Int} (h0 : z1 = n0) (h1 : (z8 = 1 → 0 ≤ p1 ∧ p1 < z1)) (h2 : (z8 = 0 → p1 < 0 ∨ z1 ≤ p1)) (h3 : 0 ≤ p1 ∧ p1 < z1) (h4 : ¬ z8 = 0) (h5 : 0 ≤ p1 ∧ p1 ≤ 9) (h6 : 1 ≤ z1 ∧ z1 ≤ 10) (h7 : 1 ≤ z8 ∧ z8 ≤ 1) : p1 < n0 := by omega
theorem vc_X11_three_14 {p3 : Int} (h0 : 2 < p3) (h1 : 0 ≤ p3) (h2 : 0 ≤ p3 ∧ p3 ≤ 2147483647) : 3 ≤ p3 ∧ p3 ≤ 2147483647 := by omega
theorem vc_X11_three_15 {p2 z16 z23 : Int} (h0 : z23 = 0) (h1 : (z23 = 1 → 0 ≤ p2 ∧ p2 < z16)) (h2 : (z23 = 0 → p2 < 0 ∨ z16 ≤ p2)) (h3 : (-2147483648) ≤ p2 ∧ p2 ≤ 2147483647) (h4 : 0 ≤ z16 ∧ z16 ≤ 10) (h5 : 0 ≤ z23 ∧ z23 ≤ 1) : 0 ≤ z23 ∧ z23 ≤ 0 := by omega
theorem vc_X11_three_16 {p2 z16 z23 : Int} (h0 : (z23 = 1 → 0 ≤ p2 ∧ p2 < z16)) (h1 : (z23 = 0 → p2 < 0 ∨ z16 ≤ p2)) (h2 : z23 = 0) (h3 : (-2147483648) ≤ p2 ∧ p2 ≤ 2147483647) (h4 : 0 ≤ z16 ∧ z16 ≤ 10) (h5 : 0 ≤ z23 ∧ z23 ≤ 0) : z23 = 0 := by omega
set_option maxRecDepth 4000 in
set_option maxHeartbeats 4000000 in
theorem c_X11_three {l : Launch} {D : va_G} {c : Nat → ClassId} {H0 : Heap} {sa : Nat × Nat × (Nat → Int32)} {w : mW} {μ : mM} (hw : mWF w) (hT : mT w μ) {p1 : Int} (hp1 : (-2147483648) ≤ p1 ∧ p1 ≤ 2147483647) {p2 : Int} (hp2 : (-2147483648) ≤ p2 ∧ p2 ≤ 2147483647) {p3 : Int} (hp3 : (-2147483648) ≤ p3 ∧ p3 ≤ 2147483647) (hIPC : PC w μ) : sC (gG l D c H0 sa) mX11_three 43 0 0 [.ref 0, iv p1, iv p2, iv p3] (mk w μ) (qI w [21002, 21003, 21004, 21005, 21006, 21007, 32009, 200002, 200003, 200004, 200005, 200006, 200007, 200008, 200009, 200010, 200011, 201999, 202999] μ (fun z μ1 => ((-2147483648) ≤ z ∧ z ≤ 2147483647) ∧ True)) := by
  refine sC.of rfl (by decide) (le_t rfl) ?_
  refine mr_lvE (lv' := [(0, .ref 0), (1, iv p1), (2, iv p2), (3, iv p3)]) rfl ?_
  refine sv_aload_n (pc := 0) dX11_three_0 rfl rfl ?_
  refine mr_iload_n (pc := 1) (z := p1) dX11_three_1 rfl rfl ?_
  obtain ⟨z1, q2⟩ : ∃ z, μ 6 15 = z := ⟨_, rfl⟩
  have h3 : (z1 = w.2.2.2 0 ∧ 0 ≤ z1 ∧ z1 ≤ 10) := by rw [← q2]; exact hT 6 6 (A_6 hw) 15
  refine mr_cVP (pc := 2) (c_X11_isDomain hw hT hp1 q2) (gOk _ _ _ _ _) dX11_three_2 (tX11_isDomain _ _ _ _ _) ⟨wV_X11_isDomain, wL_X11_isDomain⟩ wM_X11_105 (gCX11 _ _ _ _ _) rfl (A_0 hw) rfl ⟨le_t rfl, le_t rfl⟩ ⟨le_t rfl, le_t rfl⟩ rfl (le_t rfl) fun z8 h7 => ?_
  refine mr_if_eq (pc := 5) (tgt := 16) dX11_three_5 (by decide) (r32 h7.1 rfl) (fun h9 => ?_) (fun h9 => ?_)
  · have h10 : 0 ≤ z8 ∧ z8 ≤ 0 := (vc_X11_three_1 h9 h7.2.1 h7.2.2.1 hp1 h3.2 h7.1)
    have h11 : p1 < 0 ∨ z1 ≤ p1 := (h7.2.2.1 (vc_X11_three_2 h7.2.1 h7.2.2.1 h9 h3.1 hp1 h3.2 h10))
    refine mr_iconst (pc := 16) (z := (-1)) dX11_three_16 ?_
    exact mr_iret dX11_three_17 rfl (le_t rfl) (le_t rfl) hT mF.refl ⟨(rW (c := (-2147483648)) (d := 2147483647) (rR (x := (-1))) rfl), trivial⟩
  have h12 : 1 ≤ z8 ∧ z8 ≤ 1 := (vc_X11_three_3 h9 h7.2.1 h7.2.2.1 hp1 h3.2 h7.1)
  have h13 : 0 ≤ p1 ∧ p1 < z1 := (h7.2.1 (vc_X11_three_4 h7.2.1 h7.2.2.1 h9 h3.1 hp1 h3.2 h12))
  have h14 : 0 ≤ p1 ∧ p1 ≤ 9 := (vc_X11_three_5 h13 h3.1 h7.2.1 h7.2.2.1 hp1 h3.2 h12)
  have h15 : 1 ≤ z1 ∧ z1 ≤ 10 := (vc_X11_three_6 h13 h3.1 h7.2.1 h7.2.2.1 h14 h3.2 h12)
  refine sv_aload_n (pc := 8) dX11_three_8 rfl rfl ?_
  refine mr_iload_n (pc := 9) (z := p2) dX11_three_9 rfl rfl ?_
  obtain ⟨z16, q17⟩ : ∃ z, μ 6 14 = z := ⟨_, rfl⟩
  have h18 : (0 ≤ z16 ∧ z16 ≤ 10) := by rw [← q17]; exact hT 6 6 (A_6 hw) 14
  refine mr_cVP (pc := 10) (c_X11_isPrefix hw hT hp2 q17) (gOk _ _ _ _ _) dX11_three_10 (tX11_isPrefix _ _ _ _ _) ⟨wV_X11_isPrefix, wL_X11_isPrefix⟩ wM_X11_182 (gCX11 _ _ _ _ _) rfl (A_0 hw) rfl ⟨le_t rfl, le_t rfl⟩ ⟨le_t rfl, le_t rfl⟩ rfl (le_t rfl) fun z23 h22 => ?_
  refine mr_if_ne (pc := 13) (tgt := 18) dX11_three_13 (by decide) (r32 h22.1 rfl) (fun h24 => ?_) (fun h24 => ?_)
  · have h25 : 1 ≤ z23 ∧ z23 ≤ 1 := (vc_X11_three_7 h24 h22.2.1 h22.2.2.1 hp2 h18 h22.1)
    have h26 : 0 ≤ p2 ∧ p2 < z16 := (h22.2.1 (vc_X11_three_8 h22.2.1 h22.2.2.1 h24 hp2 h18 h25))
    have h27 : 0 ≤ p2 ∧ p2 ≤ 9 := (vc_X11_three_9 h26 h22.2.1 h22.2.2.1 hp2 h18 h25)
    refine mr_iload_n (pc := 18) (z := p3) dX11_three_18 rfl rfl ?_
    refine mr_if_lt (pc := 19) (tgt := 27) dX11_three_19 (by decide) hp3 (fun h37 => ?_) (fun h37 => ?_)
    · have h38 : (-2147483648) ≤ p3 ∧ p3 ≤ (-1) := (vc_X11_three_10 h37 hp3)
      refine mr_ldc (pc := 27) (z := (-99999999)) dX11_three_27 wG_X11_165 (by decide) ?_
      refine sv_goto (pc := 29) (tgt := 42) dX11_three_29 (by decide) ?_
      exact mr_iret dX11_three_42 rfl (le_t rfl) (le_t rfl) hT mF.refl ⟨(rW (c := (-2147483648)) (d := 2147483647) (rR (x := (-99999999))) rfl), trivial⟩
    have h39 : 0 ≤ p3 ∧ p3 ≤ 2147483647 := (vc_X11_three_11 h37 hp3)
    refine mr_iload_n (pc := 22) (z := p3) dX11_three_22 rfl rfl ?_
    refine mr_iconst (pc := 23) (z := 2) dX11_three_23 ?_
    refine mr_icmp_le (pc := 24) (tgt := 32) dX11_three_24 (by decide) (r32 h39 rfl) (r32 (rR (x := 2)) rfl) (fun h47 => ?_) (fun h47 => ?_)
    · have h48 : 0 ≤ p3 ∧ p3 ≤ 2 := (vc_X11_three_12 h47 h37 h39)
      refine sv_aload_n (pc := 32) dX11_three_32 rfl rfl ?_
      refine gf_X11_6 (pc := 33) dX11_three_33 wF_X11_51 (A_0 hw) hT ?_
      refine mr_iload_n (pc := 36) (z := p1) dX11_three_36 rfl rfl ?_
      refine mr_iload_n (pc := 37) (z := p2) dX11_three_37 rfl rfl ?_
      refine mr_iload_n (pc := 38) (z := p3) dX11_three_38 rfl rfl ?_
      refine mr_cVI (pc := 39) (c_X8_threeInRing hw hT h14 h27 h48 (vc_X11_three_13 h3.1 h7.2.1 h7.2.2.1 h13 h9 h14 h15 h12) hIPC) (gOk _ _ _ _ _) dX11_three_39 (tX8_threeInRing _ _ _ _ _) ⟨wV_X8_threeInRing, wL_X8_threeInRing⟩ wM_X11_336 (gCX8 _ _ _ _ _) rfl (A_32 hw) rfl ⟨le_t rfl, le_t rfl⟩ ⟨le_t rfl, le_t rfl⟩ rfl (le_t rfl) fun z53 μ49 T50 F51 h52 => ?_
      exact mr_iret dX11_three_42 rfl (le_t rfl) (le_t rfl) T50 (mF.call mF.refl F51 rfl) ⟨h52.1, trivial⟩
    have h54 : 3 ≤ p3 ∧ p3 ≤ 2147483647 := (vc_X11_three_14 h47 h37 h39)
    refine mr_ldc (pc := 27) (z := (-99999999)) dX11_three_27 wG_X11_165 (by decide) ?_
    refine sv_goto (pc := 29) (tgt := 42) dX11_three_29 (by decide) ?_
    exact mr_iret dX11_three_42 rfl (le_t rfl) (le_t rfl) hT mF.refl ⟨(rW (c := (-2147483648)) (d := 2147483647) (rR (x := (-99999999))) rfl), trivial⟩
  have h55 : 0 ≤ z23 ∧ z23 ≤ 0 := (vc_X11_three_15 h24 h22.2.1 h22.2.2.1 hp2 h18 h22.1)
  have h56 : p2 < 0 ∨ z16 ≤ p2 := (h22.2.2.1 (vc_X11_three_16 h22.2.1 h22.2.2.1 h24 hp2 h18 h55))
  refine mr_iconst (pc := 16) (z := (-1)) dX11_three_16 ?_
  exact mr_iret dX11_three_17 rfl (le_t rfl) (le_t rfl) hT mF.refl ⟨(rW (c := (-2147483648)) (d := 2147483647) (rR (x := (-1))) rfl), trivial⟩
theorem vc_X11_hear_1 {p1 z125 z132 : Int} (h0 : z132 = 0) (h1 : (z132 = 1 → 0 ≤ p1 ∧ p1 < z125)) (h2 : (z132 = 0 → p1 < 0 ∨ z125 ≤ p1)) (h3 : (-2147483648) ≤ p1 ∧ p1 ≤ 2147483647) (h4 : 0 ≤ z125 ∧ z125 ≤ 20) (h5 : 0 ≤ z132 ∧ z132 ≤ 1) : 0 ≤ z132 ∧ z132 ≤ 0 := by omega
theorem vc_X11_hear_2 {n1 p1 z125 z132 : Int} (h0 : (z132 = 1 → 0 ≤ p1 ∧ p1 < z125)) (h1 : (z132 = 0 → p1 < 0 ∨ z125 ≤ p1)) (h2 : z132 = 0) (h3 : z125 = n1) (h4 : (-2147483648) ≤ p1 ∧ p1 ≤ 2147483647) (h5 : 0 ≤ z125 ∧ z125 ≤ 20) (h6 : 0 ≤ z132 ∧ z132 ≤ 0) : z132 = 0 := by omega
theorem vc_X11_hear_3 {p1 z125 z132 : Int} (h0 : ¬ z132 = 0) (h1 : (z132 = 1 → 0 ≤ p1 ∧ p1 < z125)) (h2 : (z132 = 0 → p1 < 0 ∨ z125 ≤ p1)) (h3 : (-2147483648) ≤ p1 ∧ p1 ≤ 2147483647) (h4 : 0 ≤ z125 ∧ z125 ≤ 20) (h5 : 0 ≤ z132 ∧ z132 ≤ 1) : 1 ≤ z132 ∧ z132 ≤ 1 := by omega
theorem vc_X11_hear_4 {n1 p1 z125 z132 : Int} (h0 : (z132 = 1 → 0 ≤ p1 ∧ p1 < z125)) (h1 : (z132 = 0 → p1 < 0 ∨ z125 ≤ p1)) (h2 : ¬ z132 = 0) (h3 : z125 = n1) (h4 : (-2147483648) ≤ p1 ∧ p1 ≤ 2147483647) (h5 : 0 ≤ z125 ∧ z125 ≤ 20) (h6 : 1 ≤ z132 ∧ z132 ≤ 1) : z132 = 1 := by omega
theorem vc_X11_hear_5 {n1 p1 z125 z132 : Int} (h0 : 0 ≤ p1 ∧ p1 < z125) (h1 : z125 = n1) (h2 : (z132 = 1 → 0 ≤ p1 ∧ p1 < z125)) (h3 : (z132 = 0 → p1 < 0 ∨ z125 ≤ p1)) (h4 : (-2147483648) ≤ p1 ∧ p1 ≤ 2147483647) (h5 : 0 ≤ z125 ∧ z125 ≤ 20) (h6 : 1 ≤ z132 ∧ z132 ≤ 1) : 0 ≤ p1 ∧ p1 ≤ 19 := by omega
theorem vc_X11_hear_6 {p2 z143 : Int} (h0 : ¬ z143 = 0) (h1 : (z143 = 1 → 0 ≤ p2 ∧ p2 ≤ 1)) (h2 : (z143 = 0 → p2 < 0 ∨ 1 < p2)) (h3 : (-2147483648) ≤ p2 ∧ p2 ≤ 2147483647) (h4 : 0 ≤ z143 ∧ z143 ≤ 1) : 1 ≤ z143 ∧ z143 ≤ 1 := by omega
theorem vc_X11_hear_7 {p2 z143 : Int} (h0 : (z143 = 1 → 0 ≤ p2 ∧ p2 ≤ 1)) (h1 : (z143 = 0 → p2 < 0 ∨ 1 < p2)) (h2 : ¬ z143 = 0) (h3 : (-2147483648) ≤ p2 ∧ p2 ≤ 2147483647) (h4 : 1 ≤ z143 ∧ z143 ≤ 1) : z143 = 1 := by omega
theorem vc_X11_hear_8 {p2 z143 : Int} (h0 : 0 ≤ p2 ∧ p2 ≤ 1) (h1 : (z143 = 1 → 0 ≤ p2 ∧ p2 ≤ 1)) (h2 : (z143 = 0 → p2 < 0 ∨ 1 < p2)) (h3 : (-2147483648) ≤ p2 ∧ p2 ≤ 2147483647) (h4 : 1 ≤ z143 ∧ z143 ≤ 1) : 0 ≤ p2 ∧ p2 ≤ 1 := by omega
theorem vc_X11_hear_9 {z148 : Int} (h0 : z148 = 0) (h1 : 0 ≤ z148 ∧ z148 ≤ 1) : 0 ≤ z148 ∧ z148 ≤ 0 := by omega
theorem vc_X11_hear_10 {z148 : Int} (h0 : ¬ z148 = 0) (h1 : 0 ≤ z148 ∧ z148 ≤ 1) : 1 ≤ z148 ∧ z148 ≤ 1 := by omega
theorem vc_X11_hear_11 {n1 p1 z125 z132 : Int} (h0 : z125 = n1) (h1 : (z132 = 1 → 0 ≤ p1 ∧ p1 < z125)) (h2 : (z132 = 0 → p1 < 0 ∨ z125 ≤ p1)) (h3 : 0 ≤ p1 ∧ p1 < z125) (h4 : ¬ z132 = 0) (h5 : 0 ≤ p1 ∧ p1 ≤ 19) (h6 : 0 ≤ z125 ∧ z125 ≤ 20) (h7 : 1 ≤ z132 ∧ z132 ≤ 1) : p1 < n1 := by omega
theorem vc_X11_hear_12 {z157 : Int} (h0 : ¬ z157 = 0) (h1 : 0 ≤ z157 ∧ z157 ≤ 1) : 1 ≤ z157 ∧ z157 ≤ 1 := by omega
theorem vc_X11_hear_13 {f_an f_wd : Int} (h0 : f_wd + f_an ≤ 1000) (h1 : 0 ≤ f_an ∧ f_an ≤ 1000) (h2 : 0 ≤ f_wd ∧ f_wd ≤ 1000) : f_wd + f_an ≤ 1000 := by omega
theorem vc_X11_hear_14 {z157 : Int} (h0 : z157 = 0) (h1 : 0 ≤ z157 ∧ z157 ≤ 1) : 0 ≤ z157 ∧ z157 ≤ 0 := by omega
theorem vc_X11_hear_15 {p2 z143 : Int} (h0 : z143 = 0) (h1 : (z143 = 1 → 0 ≤ p2 ∧ p2 ≤ 1)) (h2 : (z143 = 0 → p2 < 0 ∨ 1 < p2)) (h3 : (-2147483648) ≤ p2 ∧ p2 ≤ 2147483647) (h4 : 0 ≤ z143 ∧ z143 ≤ 1) : 0 ≤ z143 ∧ z143 ≤ 0 := by omega
theorem vc_X11_hear_16 {p2 z143 : Int} (h0 : (z143 = 1 → 0 ≤ p2 ∧ p2 ≤ 1)) (h1 : (z143 = 0 → p2 < 0 ∨ 1 < p2)) (h2 : z143 = 0) (h3 : (-2147483648) ≤ p2 ∧ p2 ≤ 2147483647) (h4 : 0 ≤ z143 ∧ z143 ≤ 0) : z143 = 0 := by omega
set_option maxRecDepth 4000 in
set_option maxHeartbeats 4000000 in
theorem c_X11_hear {l : Launch} {D : va_G} {c : Nat → ClassId} {H0 : Heap} {sa : Nat × Nat × (Nat → Int32)} {w : mW} {μ : mM} (hw : mWF w) (hT : mT w μ) {p1 : Int} (hp1 : (-2147483648) ≤ p1 ∧ p1 ≤ 2147483647) {p2 : Int} (hp2 : (-2147483648) ≤ p2 ∧ p2 ≤ 2147483647) {f_wd : Int} (q_f_wd : μ 76 13 = f_wd) {f_an : Int} (q_f_an : μ 76 14 = f_an) (hq0 : f_wd + f_an ≤ 1000) (hIPC : PC w μ) : sC (gG l D c H0 sa) mX11_hear 44 0 0 [.ref 0, iv p1, iv p2] (mk w μ) (qI w [21002, 21003, 21004, 21005, 21006, 21007, 32009, 32010, 33999, 34999, 66999, 200002, 200003, 200004, 200005, 200006, 200007, 200008, 200009, 200010, 200011, 201999, 202999, 213999] μ (fun z μ1 => ((-2147483648) ≤ z ∧ z ≤ 2147483647) ∧ True)) := by
  refine sC.of rfl (by decide) (le_t rfl) ?_
  have ht_f_wd : (0 ≤ f_wd ∧ f_wd ≤ 1000) := by rw [← q_f_wd]; exact hT 76 76 (A_76 hw) 13
  have ht_f_an : (0 ≤ f_an ∧ f_an ≤ 1000) := by rw [← q_f_an]; exact hT 76 76 (A_76 hw) 14
  refine mr_lvE (lv' := [(0, .ref 0), (1, iv p1), (2, iv p2)]) rfl ?_
  refine sv_aload_n (pc := 0) dX11_hear_0 rfl rfl ?_
  refine mr_iload_n (pc := 1) (z := p1) dX11_hear_1 rfl rfl ?_
  obtain ⟨z125, q126⟩ : ∃ z, μ 6 16 = z := ⟨_, rfl⟩
  have h127 : (z125 = w.2.2.2 1 ∧ 0 ≤ z125 ∧ z125 ≤ 20) := by rw [← q126]; exact hT 6 6 (A_6 hw) 16
  refine mr_cVP (pc := 2) (c_X11_isTie hw hT hp1 q126) (gOk _ _ _ _ _) dX11_hear_2 (tX11_isTie _ _ _ _ _) ⟨wV_X11_isTie, wL_X11_isTie⟩ wM_X11_119 (gCX11 _ _ _ _ _) rfl (A_0 hw) rfl ⟨le_t rfl, le_t rfl⟩ ⟨le_t rfl, le_t rfl⟩ rfl (le_t rfl) fun z132 h131 => ?_
  refine mr_if_eq (pc := 5) (tgt := 15) dX11_hear_5 (by decide) (r32 h131.1 rfl) (fun h133 => ?_) (fun h133 => ?_)
  · have h134 : 0 ≤ z132 ∧ z132 ≤ 0 := (vc_X11_hear_1 h133 h131.2.1 h131.2.2.1 hp1 h127.2 h131.1)
    have h135 : p1 < 0 ∨ z125 ≤ p1 := (h131.2.2.1 (vc_X11_hear_2 h131.2.1 h131.2.2.1 h133 h127.1 hp1 h127.2 h134))
    refine mr_iconst (pc := 15) (z := (-1)) dX11_hear_15 ?_
    exact mr_iret dX11_hear_16 rfl (le_t rfl) (le_t rfl) hT mF.refl ⟨(rW (c := (-2147483648)) (d := 2147483647) (rR (x := (-1))) rfl), trivial⟩
  have h136 : 1 ≤ z132 ∧ z132 ≤ 1 := (vc_X11_hear_3 h133 h131.2.1 h131.2.2.1 hp1 h127.2 h131.1)
  have h137 : 0 ≤ p1 ∧ p1 < z125 := (h131.2.1 (vc_X11_hear_4 h131.2.1 h131.2.2.1 h133 h127.1 hp1 h127.2 h136))
  have h138 : 0 ≤ p1 ∧ p1 ≤ 19 := (vc_X11_hear_5 h137 h127.1 h131.2.1 h131.2.2.1 hp1 h127.2 h136)
  refine mr_iload_n (pc := 8) (z := p2) dX11_hear_8 rfl rfl ?_
  refine mr_cSP (pc := 9) (c_X11_isEither hw hT hp2) (gOk _ _ _ _ _) dX11_hear_9 (tX11_isEither _ _ _ _ _) wS_X11_isEither wM_X11_271 ⟨le_t rfl, le_t rfl⟩ ⟨le_t rfl, le_t rfl⟩ rfl (le_t rfl) fun z143 h142 => ?_
  refine mr_if_ne (pc := 12) (tgt := 17) dX11_hear_12 (by decide) (r32 h142.1 rfl) (fun h144 => ?_) (fun h144 => ?_)
  · have h145 : 1 ≤ z143 ∧ z143 ≤ 1 := (vc_X11_hear_6 h144 h142.2.1 h142.2.2.1 hp2 h142.1)
    have h146 : 0 ≤ p2 ∧ p2 ≤ 1 := (h142.2.1 (vc_X11_hear_7 h142.2.1 h142.2.2.1 h144 hp2 h145))
    have h147 : 0 ≤ p2 ∧ p2 ≤ 1 := (vc_X11_hear_8 h146 h142.2.1 h142.2.2.1 hp2 h145)
    refine sv_aload_n (pc := 17) dX11_hear_17 rfl rfl ?_
    refine gf_X11_7 (pc := 18) dX11_hear_18 wF_X11_58 (A_0 hw) hT ?_
    refine gf_X3_16 (pc := 21) dX11_hear_21 wF_X11_344 (A_76 hw) hT fun z148 q149 h150 => ?_
    refine mr_if_eq (pc := 24) (tgt := 42) dX11_hear_24 (by decide) (r32 h150 rfl) (fun h151 => ?_) (fun h151 => ?_)
    · have h152 : 0 ≤ z148 ∧ z148 ≤ 0 := (vc_X11_hear_9 h151 h150)
      refine mr_bipush (pc := 42) (z := (-2)) dX11_hear_42 (by decide) ?_
      exact mr_iret dX11_hear_44 rfl (le_t rfl) (le_t rfl) hT mF.refl ⟨(rW (c := (-2147483648)) (d := 2147483647) (rR (x := (-2))) rfl), trivial⟩
    have h153 : 1 ≤ z148 ∧ z148 ≤ 1 := (vc_X11_hear_10 h151 h150)
    refine sv_aload_n (pc := 27) dX11_hear_27 rfl rfl ?_
    refine gf_X11_3 (pc := 28) dX11_hear_28 wF_X11_26 (A_0 hw) hT ?_
    refine gf_X10_4 (pc := 31) dX11_hear_31 wF_X11_122 (A_6 hw) hT ?_
    refine mr_iload_n (pc := 34) (z := p1) dX11_hear_34 rfl rfl ?_
    refine la_11 (pc := 35) dX11_hear_35 (A_11 hw) hT (rIx (n := 20) h138 rfl) (vc_X11_hear_11 h127.1 h131.2.1 h131.2.2.1 h137 h133 h138 h127.2 h136) fun b154 q155 A156 => ?_
    refine gf_X9_6 (pc := 36) dX11_hear_36 wF_X11_134 A156 hT fun z157 q158 h159 => ?_
    refine mr_if_ne (pc := 39) (tgt := 45) dX11_hear_39 (by decide) (r32 h159 rfl) (fun h160 => ?_) (fun h160 => ?_)
    · have h161 : 1 ≤ z157 ∧ z157 ≤ 1 := (vc_X11_hear_12 h160 h159)
      refine sv_aload_n (pc := 45) dX11_hear_45 rfl rfl ?_
      refine gf_X11_6 (pc := 46) dX11_hear_46 wF_X11_51 (A_0 hw) hT ?_
      refine sv_aload_n (pc := 49) dX11_hear_49 rfl rfl ?_
      refine gf_X11_7 (pc := 50) dX11_hear_50 wF_X11_58 (A_0 hw) hT ?_
      refine mr_iload_n (pc := 53) (z := p1) dX11_hear_53 rfl rfl ?_
      refine mr_iload_n (pc := 54) (z := p2) dX11_hear_54 rfl rfl ?_
      refine mr_cVI (pc := 55) (c_X8_takeIn hw hT (A_76 hw) h138 h147 q_f_wd q_f_an (vc_X11_hear_11 h127.1 h131.2.1 h131.2.2.1 h137 h133 h138 h127.2 h136) (vc_X11_hear_13 hq0 ht_f_an ht_f_wd) hIPC) (gOk _ _ _ _ _) dX11_hear_55 (tX8_takeIn _ _ _ _ _) ⟨wV_X8_takeIn, wL_X8_takeIn⟩ wM_X11_347 (gCX8 _ _ _ _ _) rfl (A_32 hw) rfl ⟨le_t rfl, le_t rfl⟩ ⟨le_t rfl, le_t rfl⟩ rfl (le_t rfl) fun z166 μ162 T163 F164 h165 => ?_
      exact mr_iret dX11_hear_58 rfl (le_t rfl) (le_t rfl) T163 (mF.call mF.refl F164 rfl) ⟨h165.1, trivial⟩
    have h167 : 0 ≤ z157 ∧ z157 ≤ 0 := (vc_X11_hear_14 h160 h159)
    refine mr_bipush (pc := 42) (z := (-2)) dX11_hear_42 (by decide) ?_
    exact mr_iret dX11_hear_44 rfl (le_t rfl) (le_t rfl) hT mF.refl ⟨(rW (c := (-2147483648)) (d := 2147483647) (rR (x := (-2))) rfl), trivial⟩
  have h168 : 0 ≤ z143 ∧ z143 ≤ 0 := (vc_X11_hear_15 h144 h142.2.1 h142.2.2.1 hp2 h142.1)
  have h169 : p2 < 0 ∨ 1 < p2 := (h142.2.2.1 (vc_X11_hear_16 h142.2.1 h142.2.2.1 h144 hp2 h168))
  refine mr_iconst (pc := 15) (z := (-1)) dX11_hear_15 ?_
  exact mr_iret dX11_hear_16 rfl (le_t rfl) (le_t rfl) hT mF.refl ⟨(rW (c := (-2147483648)) (d := 2147483647) (rR (x := (-1))) rfl), trivial⟩
theorem vc_X2_partnerFor_1 {n0 p1 : Int} (h0 : p1 < n0) (h1 : 0 ≤ p1 ∧ p1 ≤ 9) : p1 < n0 := by omega
theorem vc_X2_partnerFor_2 {n1 z5 : Int} (h0 : 0 ≤ z5) (h1 : z5 = -99999999 ∨ z5 = -4 ∨ (0 ≤ z5 ∧ z5 ≤ 19)) (h2 : 0 ≤ z5 → z5 < n1) (h3 : (-99999999) ≤ z5 ∧ z5 ≤ 19) : 0 ≤ z5 ∧ z5 ≤ 19 := by omega
theorem vc_X2_partnerFor_3 {n1 z5 : Int} (h0 : z5 = -99999999 ∨ z5 = -4 ∨ (0 ≤ z5 ∧ z5 ≤ 19)) (h1 : 0 ≤ z5 → z5 < n1) (h2 : 0 ≤ z5) (h3 : 0 ≤ z5 ∧ z5 ≤ 19) : z5 < n1 := by omega
theorem vc_X2_partnerFor_4 {n0 p1 z20 : Int} (h0 : z20 < n0) (h1 : p1 < n0) (h2 : 0 ≤ p1 ∧ p1 ≤ 9) (h3 : 0 ≤ z20 ∧ z20 ≤ 9) : z20 = -99999999 ∨ z20 = -4 ∨ (0 ≤ z20 ∧ z20 ≤ 9) := by omega
theorem vc_X2_partnerFor_5 {n0 p1 z20 : Int} (h0 : p1 < n0) (h1 : z20 < n0) (h2 : 0 ≤ p1 ∧ p1 ≤ 9) (h3 : 0 ≤ z20 ∧ z20 ≤ 9) : z20 < n0 := by omega
theorem vc_X2_partnerFor_6 {n1 z5 : Int} (h0 : z5 < 0) (h1 : z5 = -99999999 ∨ z5 = -4 ∨ (0 ≤ z5 ∧ z5 ≤ 19)) (h2 : 0 ≤ z5 → z5 < n1) (h3 : (-99999999) ≤ z5 ∧ z5 ≤ 19) : (-99999999) ≤ z5 ∧ z5 ≤ (-4) := by omega
theorem vc_X2_partnerFor_7 {n1 z5 : Int} (h0 : z5 = -99999999 ∨ z5 = -4 ∨ (0 ≤ z5 ∧ z5 ≤ 19)) (h1 : 0 ≤ z5 → z5 < n1) (h2 : z5 < 0) (h3 : (-99999999) ≤ z5 ∧ z5 ≤ (-4)) : z5 = -99999999 ∨ z5 = -4 ∨ (0 ≤ z5 ∧ z5 ≤ 9) := by omega
theorem vc_X2_partnerFor_8 {n0 n1 p1 z5 : Int} (h0 : p1 < n0) (h1 : z5 = -99999999 ∨ z5 = -4 ∨ (0 ≤ z5 ∧ z5 ≤ 19)) (h2 : 0 ≤ z5 → z5 < n1) (h3 : z5 < 0) (h4 : 0 ≤ p1 ∧ p1 ≤ 9) (h5 : (-99999999) ≤ z5 ∧ z5 ≤ (-4)) : z5 < n0 := by omega
set_option maxRecDepth 4000 in
set_option maxHeartbeats 4000000 in
theorem c_X2_partnerFor {l : Launch} {D : va_G} {c : Nat → ClassId} {H0 : Heap} {sa : Nat × Nat × (Nat → Int32)} {w : mW} {μ : mM} (hw : mWF w) (hT : mT w μ) {p1 : Int} (hp1 : 0 ≤ p1 ∧ p1 ≤ 9) {p2 : Int} (hp2 : (-2147483648) ≤ p2 ∧ p2 ≤ 2147483647) (hq0 : p1 < w.2.2.2 0) : sC (gG l D c H0 sa) mX2_partnerFor 2 0 0 [.ref 87, iv p1, iv p2] (mk w μ) (qP w μ (fun z => ((-99999999) ≤ z ∧ z ≤ 9) ∧ (z = -99999999 ∨ z = -4 ∨ (0 ≤ z ∧ z ≤ 9)) ∧ (z < w.2.2.2 0) ∧ True)) := by
  refine sC.of rfl (by decide) (le_t rfl) ?_
  refine mr_lvE (lv' := [(0, .ref 87), (1, iv p1), (2, iv p2)]) rfl ?_
  refine sv_aload_n (pc := 0) dX2_partnerFor_0 rfl rfl ?_
  refine mr_iload_n (pc := 1) (z := p1) dX2_partnerFor_1 rfl rfl ?_
  refine mr_iload_n (pc := 2) (z := p2) dX2_partnerFor_2 rfl rfl ?_
  refine mr_cVP (pc := 3) (c_X2_tieFor hw hT hp1 hp2 (vc_X2_partnerFor_1 hq0 hp1)) (gOk _ _ _ _ _) dX2_partnerFor_3 (tX2_tieFor _ _ _ _ _) ⟨wV_X2_tieFor, wL_X2_tieFor⟩ wM_X2_60 (gCX2 _ _ _ _ _) rfl (A_87 hw) rfl ⟨le_t rfl, le_t rfl⟩ ⟨le_t rfl, le_t rfl⟩ rfl (le_t rfl) fun z5 h4 => ?_
  refine mr_istore_n (pc := 6) (lv' := [(3, iv z5), (0, .ref 87), (1, iv p1), (2, iv p2)]) dX2_partnerFor_6 rfl (by decide) rfl ?_
  refine mr_iload_n (pc := 7) (z := z5) dX2_partnerFor_7 rfl rfl ?_
  refine mr_if_ge (pc := 8) (tgt := 13) dX2_partnerFor_8 (by decide) (r32 h4.1 rfl) (fun h6 => ?_) (fun h6 => ?_)
  · have h7 : 0 ≤ z5 ∧ z5 ≤ 19 := (vc_X2_partnerFor_2 h6 h4.2.1 h4.2.2.1 h4.1)
    refine sv_aload_n (pc := 13) dX2_partnerFor_13 rfl rfl ?_
    refine gf_X2_0 (pc := 14) dX2_partnerFor_14 wF_X2_9 (A_87 hw) hT ?_
    refine gf_X10_4 (pc := 17) dX2_partnerFor_17 wF_X2_64 (A_6 hw) hT ?_
    refine mr_iload_n (pc := 20) (z := z5) dX2_partnerFor_20 rfl rfl ?_
    refine la_11 (pc := 21) dX2_partnerFor_21 (A_11 hw) hT (rIx (n := 20) h7 rfl) (vc_X2_partnerFor_3 h4.2.1 h4.2.2.1 h6 h7) fun b8 q9 A10 => ?_
    refine mr_astore (pc := 22) (lv' := [(4, .ref b8), (3, iv z5), (0, .ref 87), (1, iv p1), (2, iv p2)]) dX2_partnerFor_22 (by decide) rfl ?_
    refine sv_aload (pc := 24) dX2_partnerFor_24 rfl ?_
    refine mr_iconst (pc := 26) (z := 1) dX2_partnerFor_26 ?_
    refine sv_aload (pc := 27) dX2_partnerFor_27 rfl ?_
    refine mr_iload_n (pc := 29) (z := p1) dX2_partnerFor_29 rfl rfl ?_
    refine mr_cVP (pc := 30) (c_X9_sideOf hw hT A10 (rW (c := (-2147483648)) (d := 2147483647) hp1 rfl)) (gOk _ _ _ _ _) dX2_partnerFor_30 (tX9_sideOf _ _ _ _ _) ⟨wV_X9_sideOf, wL_X9_sideOf⟩ wM_X2_68 (gCX9 _ _ _ _ _) rfl A10 rfl ⟨le_t rfl, le_t rfl⟩ ⟨le_t rfl, le_t rfl⟩ rfl (le_t rfl) fun z15 h14 => ?_
    refine mr_isub (pc := 33) (x := 1) (y := z15) dX2_partnerFor_33 ?_
    refine mr_cVP (pc := 34) (c_X9_end hw hT A10 (rW (c := (-2147483648)) (d := 2147483647) (rSub (e := 0) (f := 2) (rR (x := 1)) h14.1 rfl) rfl)) (gOk _ _ _ _ _) dX2_partnerFor_34 (tX9_end _ _ _ _ _) ⟨wV_X9_end, wL_X9_end⟩ wM_X2_74 (gCX9 _ _ _ _ _) rfl A10 rfl ⟨le_t rfl, le_t rfl⟩ ⟨le_t rfl, le_t rfl⟩ rfl (le_t rfl) fun z20 h19 => ?_
    exact mr_iretP dX2_partnerFor_37 rfl (le_t rfl) (le_t rfl) ⟨(rW (c := (-99999999)) (d := 9) h19.1 rfl), (vc_X2_partnerFor_4 h19.2.1 hq0 hp1 h19.1), (vc_X2_partnerFor_5 hq0 h19.2.1 hp1 h19.1), trivial⟩
  have h21 : (-99999999) ≤ z5 ∧ z5 ≤ (-4) := (vc_X2_partnerFor_6 h6 h4.2.1 h4.2.2.1 h4.1)
  refine mr_iload_n (pc := 11) (z := z5) dX2_partnerFor_11 rfl rfl ?_
  exact mr_iretP dX2_partnerFor_12 rfl (le_t rfl) (le_t rfl) ⟨(rW (c := (-99999999)) (d := 9) h21 rfl), (vc_X2_partnerFor_7 h4.2.1 h4.2.2.1 h6 h21), (vc_X2_partnerFor_8 hq0 h4.2.1 h4.2.2.1 h6 hp1 h21), trivial⟩
theorem vc_X2_travel_1 {n0 p1 : Int} (h0 : p1 < n0) (h1 : 0 ≤ p1 ∧ p1 ≤ 9) : 0 ≤ p1 ∧ p1 ≤ 9 ∧ (p1 = 0 ∨ p1 < n0) := by omega
theorem vc_X2_travel_2 {f_s z318 : Int} (h0 : (11 - z318) < ((0 : Nat) : Int)) (h1 : f_s = z318 + 1) (h2 : 0 ≤ z318 ∧ z318 ≤ 10) : False := by omega
theorem vc_X2_travel_3 {f_s z318 : Int} (h0 : 10 ≤ z318) (h1 : f_s = z318 + 1) (h2 : 0 ≤ f_s ∧ f_s ≤ 11) (h3 : 0 ≤ z318 ∧ z318 ≤ 10) : 10 ≤ z318 ∧ z318 ≤ 10 := by omega
theorem vc_X2_travel_4 {f_s z318 : Int} (h0 : z318 < 10) (h1 : f_s = z318 + 1) (h2 : 0 ≤ f_s ∧ f_s ≤ 11) (h3 : 0 ≤ z318 ∧ z318 ≤ 10) : 0 ≤ z318 ∧ z318 ≤ 9 := by omega
theorem vc_X2_travel_5 {n0 p1 z335 : Int} (h0 : p1 < n0) (h1 : (z335 = 0 ∨ z335 < n0)) (h2 : 0 ≤ p1 ∧ p1 ≤ 9) (h3 : 0 ≤ z335 ∧ z335 ≤ 9) : z335 < n0 := by omega
theorem vc_X2_travel_6 {n0 z343 : Int} (h0 : 0 ≤ z343) (h1 : z343 = -99999999 ∨ z343 = -4 ∨ (0 ≤ z343 ∧ z343 ≤ 9)) (h2 : z343 < n0) (h3 : (-99999999) ≤ z343 ∧ z343 ≤ 9) : 0 ≤ z343 ∧ z343 ≤ 9 := by omega
theorem vc_X2_travel_7 {f_s z318 : Int} (h0 : f_s = z318 + 1) (h1 : z318 < 10) (h2 : 0 ≤ f_s ∧ f_s ≤ 11) (h3 : 0 ≤ z318 ∧ z318 ≤ 9) : 0 ≤ f_s ∧ f_s < 11 := by omega
theorem vc_X2_travel_8 {n0 p1 z335 z343 : Int} (h0 : p1 < n0) (h1 : (z335 = 0 ∨ z335 < n0)) (h2 : z343 = -99999999 ∨ z343 = -4 ∨ (0 ≤ z343 ∧ z343 ≤ 9)) (h3 : z343 < n0) (h4 : 0 ≤ z343) (h5 : 0 ≤ p1 ∧ p1 ≤ 9) (h6 : 0 ≤ z335 ∧ z335 ≤ 9) (h7 : 0 ≤ z343 ∧ z343 ≤ 9) : 0 ≤ z343 ∧ z343 ≤ 9 ∧ (z343 = 0 ∨ z343 < n0) := by omega
theorem vc_X2_travel_9 {f_s z318 : Int} (h0 : f_s = z318 + 1) (h1 : z318 < 10) (h2 : 0 ≤ f_s ∧ f_s ≤ 11) (h3 : 0 ≤ z318 ∧ z318 ≤ 9) : 0 ≤ (f_s + 1) ∧ (f_s + 1) ≤ 11 := by omega
theorem vc_X2_travel_10 {z355 : Int} (h0 : z355 = 0) (h1 : 0 ≤ z355 ∧ z355 ≤ 1) : 0 ≤ z355 ∧ z355 ≤ 0 := by omega
theorem vc_X2_travel_11 {f_s z318 : Int} (h0 : f_s = z318 + 1) (h1 : z318 < 10) (h2 : 0 ≤ f_s ∧ f_s ≤ 11) (h3 : 0 ≤ z318 ∧ z318 ≤ 9) : (f_s + 1) = (z318 + 1) + 1 := by omega
theorem vc_X2_travel_12 {N f_s z318 : Int} (h0 : (11 - z318) < N + 1) (h1 : f_s = z318 + 1) (h2 : z318 < 10) (h3 : 0 ≤ f_s ∧ f_s ≤ 11) (h4 : 0 ≤ z318 ∧ z318 ≤ 9) : (11 - (z318 + 1)) < N := by omega
theorem vc_X2_travel_13 {z355 : Int} (h0 : ¬ z355 = 0) (h1 : 0 ≤ z355 ∧ z355 ≤ 1) : 1 ≤ z355 ∧ z355 ≤ 1 := by omega
theorem vc_X2_travel_14 {n0 z343 : Int} (h0 : z343 < 0) (h1 : z343 = -99999999 ∨ z343 = -4 ∨ (0 ≤ z343 ∧ z343 ≤ 9)) (h2 : z343 < n0) (h3 : (-99999999) ≤ z343 ∧ z343 ≤ 9) : (-99999999) ≤ z343 ∧ z343 ≤ (-4) := by omega
theorem vc_X2_travel_15 {n0 z343 : Int} (h0 : ¬ z343 = (-4)) (h1 : z343 = -99999999 ∨ z343 = -4 ∨ (0 ≤ z343 ∧ z343 ≤ 9)) (h2 : z343 < n0) (h3 : z343 < 0) (h4 : (-99999999) ≤ z343 ∧ z343 ≤ (-4)) : (-99999999) ≤ z343 ∧ z343 ≤ (-99999999) := by omega
theorem vc_X2_travel_16 {n0 z343 : Int} (h0 : z343 = (-4)) (h1 : z343 = -99999999 ∨ z343 = -4 ∨ (0 ≤ z343 ∧ z343 ≤ 9)) (h2 : z343 < n0) (h3 : z343 < 0) (h4 : (-99999999) ≤ z343 ∧ z343 ≤ (-4)) : (-4) ≤ z343 ∧ z343 ≤ (-4) := by omega
theorem vc_X2_travel_17  : ((1 : Int) : Int) = ((0 : Int) : Int) + (1 : Int) := by omega
theorem vc_X2_travel_18  : (11 - 0) < ((12 : Nat) : Int) := by omega
set_option maxRecDepth 4000 in
set_option maxHeartbeats 4000000 in
theorem c_X2_travel {l : Launch} {D : va_G} {c : Nat → ClassId} {H0 : Heap} {sa : Nat × Nat × (Nat → Int32)} {w : mW} {μ : mM} (hw : mWF w) (hT : mT w μ) {p1 : Int} (hp1 : 0 ≤ p1 ∧ p1 ≤ 9) {p2 : Int} (hp2 : (-2147483648) ≤ p2 ∧ p2 ≤ 2147483647) (hq0 : p1 < w.2.2.2 0) : sC (gG l D c H0 sa) mX2_travel 3 0 0 [.ref 87, iv p1, iv p2] (mk w μ) (qI w [87006, 88999] μ (fun z μ1 => ((-2147483648) ≤ z ∧ z ≤ 2147483647) ∧ True)) := by
  refine sC.of rfl (by decide) (le_t rfl) ?_
  refine mr_lvE (lv' := [(0, .ref 87), (1, iv p1), (2, iv p2)]) rfl ?_
  refine sv_aload_n (pc := 0) dX2_travel_0 rfl rfl ?_
  refine gf_X2_1 (pc := 1) dX2_travel_1 wF_X2_15 (A_87 hw) hT ?_
  refine mr_iconst (pc := 4) (z := 0) dX2_travel_4 ?_
  refine mr_iload_n (pc := 5) (z := p1) dX2_travel_5 rfl rfl ?_
  refine ss_88 (pc := 6) dX2_travel_6 (A_88 hw) hT (rIx (n := 11) (rR (x := 0)) rfl) (vc_X2_travel_1 hq0 hp1) fun μ1 u2 T3 => ?_
  refine sv_aload_n (pc := 7) dX2_travel_7 rfl rfl ?_
  refine mr_iconst (pc := 8) (z := 1) dX2_travel_8 ?_
  refine pf_X2_6 (pc := 9) dX2_travel_9 wF_X2_77 (A_87 hw) T3 (rW (c := 0) (d := 11) (rR (x := 1)) rfl) fun μ4 u5 T6 => ?_
  refine mr_iconst (pc := 12) (z := 1) dX2_travel_12 ?_
  refine mr_iload_n (pc := 13) (z := p1) dX2_travel_13 rfl rfl ?_
  refine mr_ishl (pc := 14) (x := 1) (y := p1) dX2_travel_14 ?_
  refine mr_gen (P := fun z => (-2147483648) ≤ z ∧ z ≤ 2147483647) (r32i _) fun z7 q8 h9 => ?_
  refine mr_istore_n (pc := 15) (lv' := [(3, iv z7), (0, .ref 87), (1, iv p1), (2, iv p2)]) dX2_travel_15 rfl (by decide) rfl ?_
  refine mr_iconst (pc := 16) (z := 0) dX2_travel_16 ?_
  refine mr_istore (pc := 17) (lv' := [(4, iv 0), (3, iv z7), (0, .ref 87), (1, iv p1), (2, iv p2)]) dX2_travel_17 (by decide) rfl ?_
  have L321 : ∀ (nL321 : Nat) (z319 z318 : Int) (μ320 : mM) (f_s : Int), mT w μ320 → mF [87006, 88999] w μ4 μ320 → μ320 87 (6) = f_s → ((-2147483648) ≤ z319 ∧ z319 ≤ 2147483647) → (0 ≤ z318 ∧ z318 ≤ 10) → (f_s = z318 + 1) → (11 - z318) < (nL321 : Int) → sV (gG l D c H0 sa) mX2_travel (sRm 3 0 0) (sZ (gG l D c H0 sa) 0 0 (qI w [87006, 88999] μ (fun z μ1 => ((-2147483648) ≤ z ∧ z ≤ 2147483647) ∧ True))) 19 [(0, .ref 87), (2, iv p2), (3, iv z319), (4, iv z318)] [] (mk w μ320) 0 0 := by
    intro nL321
    induction nL321 with
    | zero => intro z319 z318 μ320 f_s T324 F325 q329 h322 h323 h327 h328; exact ((vc_X2_travel_2 h328 h327 h323)).elim
    | succ nL321 ih330 =>
      intro z319 z318 μ320 f_s T324 F325 q329 h322 h323 h327 h328
      have h331 : (0 ≤ f_s ∧ f_s ≤ 11) := by rw [← q329]; exact T324 87 87 (A_87 hw) (6)
      refine mr_iload (pc := 19) (z := z318) dX2_travel_19 rfl ?_
      refine mr_bipush (pc := 21) (z := 10) dX2_travel_21 (by decide) ?_
      refine mr_icmp_ge (pc := 23) (tgt := 103) dX2_travel_23 (by decide) (r32 h323 rfl) (r32 (rR (x := 10)) rfl) (fun h332 => ?_) (fun h332 => ?_)
      · have h333 : 10 ≤ z318 ∧ z318 ≤ 10 := (vc_X2_travel_3 h332 h327 h331 h323)
        refine mr_iconst (pc := 103) (z := 2) dX2_travel_103 ?_
        exact mr_iret dX2_travel_104 rfl (le_t rfl) (le_t rfl) T324 (mF.call (mF.up (mF.up mF.refl (A_88 hw) u2 rfl) (A_87 hw) u5 rfl) F325 rfl) ⟨(rW (c := (-2147483648)) (d := 2147483647) (rR (x := 2)) rfl), trivial⟩
      have h334 : 0 ≤ z318 ∧ z318 ≤ 9 := (vc_X2_travel_4 h332 h327 h331 h323)
      refine sv_aload_n (pc := 26) dX2_travel_26 rfl rfl ?_
      refine sv_aload_n (pc := 27) dX2_travel_27 rfl rfl ?_
      refine gf_X2_1 (pc := 28) dX2_travel_28 wF_X2_15 (A_87 hw) T324 ?_
      refine mr_iload (pc := 31) (z := z318) dX2_travel_31 rfl ?_
      refine la_88 (pc := 33) dX2_travel_33 (A_88 hw) T324 (rIx (n := 11) h334 rfl) fun z335 q336 h337 => ?_
      have h338 : 0 ≤ z335 ∧ z335 ≤ 9 := ⟨h337.1, h337.2.1⟩
      refine mr_iload_n (pc := 34) (z := p2) dX2_travel_34 rfl rfl ?_
      refine mr_cVP (pc := 35) (c_X2_partnerFor hw T324 h338 hp2 (vc_X2_travel_5 hq0 h337.2.2 hp1 h338)) (gOk _ _ _ _ _) dX2_travel_35 (tX2_partnerFor _ _ _ _ _) ⟨wV_X2_partnerFor, wL_X2_partnerFor⟩ wM_X2_80 (gCX2 _ _ _ _ _) rfl (A_87 hw) rfl ⟨le_t rfl, le_t rfl⟩ ⟨le_t rfl, le_t rfl⟩ rfl (le_t rfl) fun z343 h342 => ?_
      refine mr_istore (pc := 38) (lv' := [(5, iv z343), (0, .ref 87), (2, iv p2), (3, iv z319), (4, iv z318)]) dX2_travel_38 (by decide) rfl ?_
      refine mr_iload (pc := 40) (z := z343) dX2_travel_40 rfl ?_
      refine mr_if_ge (pc := 42) (tgt := 58) dX2_travel_42 (by decide) (r32 h342.1 rfl) (fun h344 => ?_) (fun h344 => ?_)
      · have h345 : 0 ≤ z343 ∧ z343 ≤ 9 := (vc_X2_travel_6 h344 h342.2.1 h342.2.2.1 h342.1)
        refine sv_aload_n (pc := 58) dX2_travel_58 rfl rfl ?_
        refine gf_X2_1 (pc := 59) dX2_travel_59 wF_X2_15 (A_87 hw) T324 ?_
        refine sv_aload_n (pc := 62) dX2_travel_62 rfl rfl ?_
        refine gk_X2_6 (pc := 63) dX2_travel_63 wF_X2_77 (A_87 hw) q329 ?_
        refine mr_iload (pc := 66) (z := z343) dX2_travel_66 rfl ?_
        refine ss_88 (pc := 68) dX2_travel_68 (A_88 hw) T324 (vc_X2_travel_7 h327 h332 h331 h334) (vc_X2_travel_8 hq0 h337.2.2 h342.2.1 h342.2.2.1 h344 hp1 h338 h345) fun μ346 u347 T348 => ?_
        refine sv_aload_n (pc := 69) dX2_travel_69 rfl rfl ?_
        refine sv_dup (pc := 70) dX2_travel_70 rfl ?_
        refine gk_X2_6 (pc := 71) dX2_travel_71 wF_X2_77 (A_87 hw) (u347.f (Or.inl (mAt.ne (A_88 hw) (A_87 hw) rfl)) q329) ?_
        refine mr_iconst (pc := 74) (z := 1) dX2_travel_74 ?_
        refine mr_iadd (pc := 75) (x := f_s) (y := 1) dX2_travel_75 ?_
        refine pf_X2_6 (pc := 76) dX2_travel_76 wF_X2_77 (A_87 hw) T348 (vc_X2_travel_9 h327 h332 h331 h334) fun μ349 u350 T351 => ?_
        refine mr_iload_n (pc := 79) (z := z319) dX2_travel_79 rfl rfl ?_
        refine mr_iload (pc := 80) (z := z343) dX2_travel_80 rfl ?_
        refine mr_ishr (pc := 82) (x := z319) (y := z343) dX2_travel_82 ?_
        refine mr_gen (P := fun z => (-2147483648) ≤ z ∧ z ≤ 2147483647) (r32i _) fun z352 q353 h354 => ?_
        refine mr_iconst (pc := 83) (z := 1) dX2_travel_83 ?_
        refine mr_iand (pc := 84) (x := z352) (y := 1) dX2_travel_84 ?_
        refine mr_gen (P := fun z => 0 ≤ z ∧ z ≤ 1) (rAndR (rR (x := 1)) rfl) fun z355 q356 h357 => ?_
        refine mr_if_eq (pc := 85) (tgt := 90) dX2_travel_85 (by decide) (r32 h357 rfl) (fun h358 => ?_) (fun h358 => ?_)
        · have h359 : 0 ≤ z355 ∧ z355 ≤ 0 := (vc_X2_travel_10 h358 h357)
          refine mr_iload_n (pc := 90) (z := z319) dX2_travel_90 rfl rfl ?_
          refine mr_iconst (pc := 91) (z := 1) dX2_travel_91 ?_
          refine mr_iload (pc := 92) (z := z343) dX2_travel_92 rfl ?_
          refine mr_ishl (pc := 94) (x := 1) (y := z343) dX2_travel_94 ?_
          refine mr_gen (P := fun z => (-2147483648) ≤ z ∧ z ≤ 2147483647) (r32i _) fun z360 q361 h362 => ?_
          refine mr_ior (pc := 95) (x := z319) (y := z360) dX2_travel_95 ?_
          refine mr_gen (P := fun z => (-2147483648) ≤ z ∧ z ≤ 2147483647) (r32i _) fun z363 q364 h365 => ?_
          refine mr_istore_n (pc := 96) (lv' := [(3, iv z363), (5, iv z343), (0, .ref 87), (2, iv p2), (4, iv z318)]) dX2_travel_96 rfl (by decide) rfl ?_
          refine mr_iinc (pc := 97) (lv' := [(4, iv (z318 + 1)), (3, iv z363), (5, iv z343), (0, .ref 87), (2, iv p2)]) dX2_travel_97 rfl (by decide) rfl ?_
          refine sv_goto (pc := 100) (tgt := 19) dX2_travel_100 (by decide) ?_
          refine mr_lvS (lv' := [(0, .ref 87), (2, iv p2), (3, iv z363), (4, iv (z318 + 1))]) (List.forall_mem_cons.mpr ⟨rfl, List.forall_mem_cons.mpr ⟨rfl, List.forall_mem_cons.mpr ⟨rfl, List.forall_mem_cons.mpr ⟨rfl, fun _ h => absurd h List.not_mem_nil⟩⟩⟩⟩) ?_
          exact ih330 z363 (z318 + 1) μ349 (f_s + 1) T351 (mF.up (mF.up (mF.call mF.refl F325 rfl) (A_88 hw) u347 rfl) (A_87 hw) u350 rfl) u350.1 h365 (rW (c := 0) (d := 10) (rAdd (e := 1) (f := 10) h334 (rR (x := 1)) rfl) rfl) (vc_X2_travel_11 h327 h332 h331 h334) (vc_X2_travel_12 (nS h328) h327 h332 h331 h334)
        have h366 : 1 ≤ z355 ∧ z355 ≤ 1 := (vc_X2_travel_13 h358 h357)
        refine mr_iconst (pc := 88) (z := 2) dX2_travel_88 ?_
        exact mr_iret dX2_travel_89 rfl (le_t rfl) (le_t rfl) T351 (mF.up (mF.up (mF.call (mF.up (mF.up mF.refl (A_88 hw) u2 rfl) (A_87 hw) u5 rfl) F325 rfl) (A_88 hw) u347 rfl) (A_87 hw) u350 rfl) ⟨(rW (c := (-2147483648)) (d := 2147483647) (rR (x := 2)) rfl), trivial⟩
      have h367 : (-99999999) ≤ z343 ∧ z343 ≤ (-4) := (vc_X2_travel_14 h344 h342.2.1 h342.2.2.1 h342.1)
      refine mr_iload (pc := 45) (z := z343) dX2_travel_45 rfl ?_
      refine mr_bipush (pc := 47) (z := (-4)) dX2_travel_47 (by decide) ?_
      refine mr_icmp_ne (pc := 49) (tgt := 56) dX2_travel_49 (by decide) (r32 h367 rfl) (r32 (rR (x := (-4))) rfl) (fun h370 => ?_) (fun h370 => ?_)
      · have h371 : (-99999999) ≤ z343 ∧ z343 ≤ (-99999999) := (vc_X2_travel_15 h370 h342.2.1 h342.2.2.1 h344 h367)
        refine mr_iconst (pc := 56) (z := 1) dX2_travel_56 ?_
        exact mr_iret dX2_travel_57 rfl (le_t rfl) (le_t rfl) T324 (mF.call (mF.up (mF.up mF.refl (A_88 hw) u2 rfl) (A_87 hw) u5 rfl) F325 rfl) ⟨(rW (c := (-2147483648)) (d := 2147483647) (rR (x := 1)) rfl), trivial⟩
      have h372 : (-4) ≤ z343 ∧ z343 ≤ (-4) := (vc_X2_travel_16 h370 h342.2.1 h342.2.2.1 h344 h367)
      refine mr_iconst (pc := 52) (z := 0) dX2_travel_52 ?_
      refine sv_goto (pc := 53) (tgt := 57) dX2_travel_53 (by decide) ?_
      exact mr_iret dX2_travel_57 rfl (le_t rfl) (le_t rfl) T324 (mF.call (mF.up (mF.up mF.refl (A_88 hw) u2 rfl) (A_87 hw) u5 rfl) F325 rfl) ⟨(rW (c := (-2147483648)) (d := 2147483647) (rR (x := 0)) rfl), trivial⟩
  refine mr_lvS (lv' := [(0, .ref 87), (2, iv p2), (3, iv z7), (4, iv 0)]) (List.forall_mem_cons.mpr ⟨rfl, List.forall_mem_cons.mpr ⟨rfl, List.forall_mem_cons.mpr ⟨rfl, List.forall_mem_cons.mpr ⟨rfl, fun _ h => absurd h List.not_mem_nil⟩⟩⟩⟩) ?_
  exact L321 12 z7 0 μ4 1 T6 mF.refl u5.1 h9 (rW (c := 0) (d := 10) (rR (x := 0)) rfl) vc_X2_travel_17 vc_X2_travel_18
theorem vc_X2_send_1 {n0 p1 : Int} (h0 : p1 < n0) (h1 : 0 ≤ p1 ∧ p1 ≤ 9) : p1 < n0 := by omega
theorem vc_X2_send_2  : (0 : Int) ≤ (0 : Int) := by omega
theorem vc_X2_send_3 {z6 : Int} (h0 : 0 ≤ z6 ∧ z6 ≤ 11) : 0 ≤ z6 := by omega
theorem vc_X2_send_4 {z6 : Int} (h0 : 0 ≤ z6 ∧ z6 ≤ 11) : 0 + z6 ≤ ((11 : Nat) : Int) := by omega
set_option maxRecDepth 4000 in
set_option maxHeartbeats 4000000 in
theorem c_X2_send {l : Launch} {D : va_G} {c : Nat → ClassId} {H0 : Heap} {sa : Nat × Nat × (Nat → Int32)} {w : mW} {μ : mM} (hw : mWF w) (hT : mT w μ) {p1 : Int} (hp1 : 0 ≤ p1 ∧ p1 ≤ 9) {p2 : Int} (hp2 : (-2147483648) ≤ p2 ∧ p2 ≤ 2147483647) (hq0 : p1 < w.2.2.2 0) : sC (gG l D c H0 sa) mX2_send 4 0 0 [.ref 87, iv p1, iv p2] (mk w μ) (qI w [87006, 87009, 88999, 89999] μ (fun z μ1 => ((-2147483648) ≤ z ∧ z ≤ 2147483647) ∧ True)) := by
  refine sC.of rfl (by decide) (le_t rfl) ?_
  refine mr_lvE (lv' := [(0, .ref 87), (1, iv p1), (2, iv p2)]) rfl ?_
  refine sv_aload_n (pc := 0) dX2_send_0 rfl rfl ?_
  refine mr_iload_n (pc := 1) (z := p1) dX2_send_1 rfl rfl ?_
  refine mr_iload_n (pc := 2) (z := p2) dX2_send_2 rfl rfl ?_
  refine mr_cVI (pc := 3) (c_X2_travel hw hT hp1 hp2 (vc_X2_send_1 hq0 hp1)) (gOk _ _ _ _ _) dX2_send_3 (tX2_travel _ _ _ _ _) ⟨wV_X2_travel, wL_X2_travel⟩ wM_X2_83 (gCX2 _ _ _ _ _) rfl (A_87 hw) rfl ⟨le_t rfl, le_t rfl⟩ ⟨le_t rfl, le_t rfl⟩ rfl (le_t rfl) fun z5 μ1 T2 F3 h4 => ?_
  refine mr_istore_n (pc := 6) (lv' := [(3, iv z5), (0, .ref 87), (1, iv p1), (2, iv p2)]) dX2_send_6 rfl (by decide) rfl ?_
  refine sv_aload_n (pc := 7) dX2_send_7 rfl rfl ?_
  refine gf_X2_1 (pc := 8) dX2_send_8 wF_X2_15 (A_87 hw) T2 ?_
  refine mr_iconst (pc := 11) (z := 0) dX2_send_11 ?_
  refine sv_aload_n (pc := 12) dX2_send_12 rfl rfl ?_
  refine gf_X2_8 (pc := 13) dX2_send_13 wF_X2_19 (A_87 hw) T2 ?_
  refine mr_iconst (pc := 16) (z := 0) dX2_send_16 ?_
  refine sv_aload_n (pc := 17) dX2_send_17 rfl rfl ?_
  refine gf_X2_6 (pc := 18) dX2_send_18 wF_X2_77 (A_87 hw) T2 fun z6 q7 h8 => ?_
  refine mr_ac (pc := 21) (sp := 0) (dp := 0) (n := z6) dX2_send_21 wM_X2_86 wN_J_ac wS_J_ac wI_J_sys rfl (A_88 hw) rfl (A_89 hw) rfl vc_X2_send_2 vc_X2_send_2 (vc_X2_send_3 h8) (by have h := (A_88 hw).2.2.2 rfl; rw [h]; exact (vc_X2_send_4 h8)) (by have h := (A_89 hw).2.2.2 rfl; rw [h]; exact (vc_X2_send_4 h8)) (Nat.le_trans (A_88 hw).2.2.1 (le_t rfl)) (Nat.le_trans (A_89 hw).2.2.1 (le_t rfl)) (le_t rfl) (le_t rfl) (le_t rfl) T2 (fun i j _ _ => rW (a := 0) (b := 9) ⟨(T2 _ _ (A_88 hw) i).1, (T2 _ _ (A_88 hw) i).2.1⟩ rfl) fun μ9 q10 T11 => ?_
  have F12 : mF [89999] w μ1 μ9 := mF.cell q10.1 (A_89 hw) rfl
  refine sv_aload_n (pc := 24) dX2_send_24 rfl rfl ?_
  refine sv_aload_n (pc := 25) dX2_send_25 rfl rfl ?_
  refine gk_X2_6 (pc := 26) dX2_send_26 wF_X2_77 (A_87 hw) (F12.f (A_87 hw) rfl q7) ?_
  refine pf_X2_9 (pc := 29) dX2_send_29 wF_X2_92 (A_87 hw) T11 h8 fun μ13 u14 T15 => ?_
  refine mr_iload_n (pc := 32) (z := z5) dX2_send_32 rfl rfl ?_
  exact mr_iret dX2_send_33 rfl (le_t rfl) (le_t rfl) T15 (mF.up (mF.call (mF.call mF.refl F3 rfl) F12 rfl) (A_87 hw) u14 rfl) ⟨h4.1, trivial⟩
theorem vc_X2_unitsOver_1 {z651 : Int} (h0 : (17 - z651) < ((0 : Nat) : Int)) (h1 : 0 ≤ z651 ∧ z651 ≤ 16) : False := by omega
theorem vc_X2_unitsOver_2 {n0 z651 z662 : Int} (h0 : z651 < z662) (h1 : (z662 = 0 ∨ 0 < n0)) (h2 : 0 ≤ z651 ∧ z651 ≤ 16) (h3 : 0 ≤ z662 ∧ z662 ≤ 16) : 0 ≤ z651 ∧ z651 ≤ 15 := by omega
theorem vc_X2_unitsOver_3 {n0 z651 z662 : Int} (h0 : z651 < z662) (h1 : (z662 = 0 ∨ 0 < n0)) (h2 : 0 ≤ z651 ∧ z651 ≤ 15) (h3 : 0 ≤ z662 ∧ z662 ≤ 16) : 1 ≤ z662 ∧ z662 ≤ 16 := by omega
theorem vc_X2_unitsOver_4 {n0 z651 z662 z727 : Int} (h0 : (z662 = 0 ∨ 0 < n0)) (h1 : (z727 = 0 ∨ z727 < n0)) (h2 : z651 < z662) (h3 : 0 ≤ z651 ∧ z651 ≤ 15) (h4 : 1 ≤ z662 ∧ z662 ≤ 16) (h5 : 0 ≤ z727 ∧ z727 ≤ 9) : z727 < n0 := by omega
theorem vc_X2_unitsOver_5 {z893 : Int} (h0 : (11 - z893) < ((0 : Nat) : Int)) (h1 : 0 ≤ z893 ∧ z893 ≤ 10) : False := by omega
theorem vc_X2_unitsOver_6 {N n0 z651 z662 : Int} (h0 : (17 - z651) < N + 1) (h1 : z651 < z662) (h2 : (z662 = 0 ∨ 0 < n0)) (h3 : 0 ≤ z651 ∧ z651 ≤ 15) (h4 : 1 ≤ z662 ∧ z662 ≤ 16) : (17 - (z651 + 1)) < N := by omega
theorem vc_X2_unitsOver_7 {z893 z903 : Int} (h0 : (z893 + 1) < z903) (h1 : 0 ≤ z893 ∧ z893 ≤ 10) (h2 : 0 ≤ z903 ∧ z903 ≤ 11) : 0 ≤ z893 ∧ z893 ≤ 9 := by omega
theorem vc_X2_unitsOver_8 {z893 z903 : Int} (h0 : (z893 + 1) < z903) (h1 : 0 ≤ z893 ∧ z893 ≤ 9) (h2 : 0 ≤ z903 ∧ z903 ≤ 11) : 2 ≤ z903 ∧ z903 ≤ 11 := by omega
theorem vc_X2_unitsOver_9 {N z893 z903 : Int} (h0 : (11 - z893) < N + 1) (h1 : (z893 + 1) < z903) (h2 : 0 ≤ z893 ∧ z893 ≤ 9) (h3 : 2 ≤ z903 ∧ z903 ≤ 11) : (11 - (z893 + 1)) < N := by omega
theorem vc_X2_unitsOver_10 {n0 p1 z926 : Int} (h0 : z926 = p1) (h1 : (z926 = 0 ∨ z926 < n0)) (h2 : (-2147483648) ≤ p1 ∧ p1 ≤ 2147483647) (h3 : 0 ≤ z926 ∧ z926 ≤ 9) : 0 ≤ p1 ∧ p1 ≤ 9 := by omega
theorem vc_X2_unitsOver_11 {n0 p2 z943 : Int} (h0 : z943 = p2) (h1 : (z943 = 0 ∨ z943 < n0)) (h2 : (-2147483648) ≤ p2 ∧ p2 ≤ 2147483647) (h3 : 0 ≤ z943 ∧ z943 ≤ 9) : 0 ≤ p2 ∧ p2 ≤ 9 := by omega
theorem vc_X2_unitsOver_12  : (11 - 0) < ((12 : Nat) : Int) := by omega
theorem vc_X2_unitsOver_13  : (17 - 0) < ((18 : Nat) : Int) := by omega
set_option maxRecDepth 4000 in
set_option maxHeartbeats 4000000 in
theorem c_X2_unitsOver {l : Launch} {D : va_G} {c : Nat → ClassId} {H0 : Heap} {sa : Nat × Nat × (Nat → Int32)} {w : mW} {μ : mM} (hw : mWF w) (hT : mT w μ) {p1 : Int} (hp1 : (-2147483648) ≤ p1 ∧ p1 ≤ 2147483647) {p2 : Int} (hp2 : (-2147483648) ≤ p2 ∧ p2 ≤ 2147483647) : sC (gG l D c H0 sa) mX2_unitsOver 4 0 0 [.ref 87, iv p1, iv p2] (mk w μ) (qI w [87006, 88999] μ (fun z μ1 => ((-2147483648) ≤ z ∧ z ≤ 2147483647) ∧ True)) := by
  refine sC.of rfl (by decide) (le_t rfl) ?_
  refine mr_lvE (lv' := [(0, .ref 87), (1, iv p1), (2, iv p2)]) rfl ?_
  refine mr_iconst (pc := 0) (z := 0) dX2_unitsOver_0 ?_
  refine mr_istore_n (pc := 1) (lv' := [(3, iv 0), (0, .ref 87), (1, iv p1), (2, iv p2)]) dX2_unitsOver_1 rfl (by decide) rfl ?_
  refine mr_iconst (pc := 2) (z := 0) dX2_unitsOver_2 ?_
  refine mr_istore (pc := 3) (lv' := [(4, iv 0), (3, iv 0), (0, .ref 87), (1, iv p1), (2, iv p2)]) dX2_unitsOver_3 (by decide) rfl ?_
  have L654 : ∀ (nL654 : Nat) (z652 z651 : Int) (μ653 : mM), mT w μ653 → mF [87006, 88999] w μ μ653 → ((-2147483648) ≤ z652 ∧ z652 ≤ 2147483647) → (0 ≤ z651 ∧ z651 ≤ 16) → (17 - z651) < (nL654 : Int) → sV (gG l D c H0 sa) mX2_unitsOver (sRm 4 0 0) (sZ (gG l D c H0 sa) 0 0 (qI w [87006, 88999] μ (fun z μ1 => ((-2147483648) ≤ z ∧ z ≤ 2147483647) ∧ True))) 5 [(0, .ref 87), (1, iv p1), (2, iv p2), (3, iv z652), (4, iv z651)] [] (mk w μ653) 0 0 := by
    intro nL654
    induction nL654 with
    | zero => intro z652 z651 μ653 T657 F658 h655 h656 h660; exact ((vc_X2_unitsOver_1 h660 h656)).elim
    | succ nL654 ih661 =>
      intro z652 z651 μ653 T657 F658 h655 h656 h660
      refine mr_iload (pc := 5) (z := z651) dX2_unitsOver_5 rfl ?_
      refine sv_aload_n (pc := 7) dX2_unitsOver_7 rfl rfl ?_
      refine gf_X2_10 (pc := 8) dX2_unitsOver_8 wF_X2_95 (A_87 hw) T657 fun z662 q663 h664 => ?_
      have h665 : 0 ≤ z662 ∧ z662 ≤ 16 := ⟨h664.1, h664.2.1⟩
      refine mr_icmp_ge (pc := 11) (tgt := 93) dX2_unitsOver_11 (by decide) (r32 h656 rfl) (r32 h665 rfl) (fun h724 => ?_) (fun h724 => ?_)
      · refine mr_iload_n (pc := 93) (z := z652) dX2_unitsOver_93 rfl rfl ?_
        exact mr_iret dX2_unitsOver_94 rfl (le_t rfl) (le_t rfl) T657 (mF.call mF.refl F658 rfl) ⟨h655, trivial⟩
      have h725 : 0 ≤ z651 ∧ z651 ≤ 15 := (vc_X2_unitsOver_2 h724 h664.2.2 h656 h665)
      have h726 : 1 ≤ z662 ∧ z662 ≤ 16 := (vc_X2_unitsOver_3 h724 h664.2.2 h725 h665)
      refine sv_aload_n (pc := 14) dX2_unitsOver_14 rfl rfl ?_
      refine sv_aload_n (pc := 15) dX2_unitsOver_15 rfl rfl ?_
      refine gf_X2_2 (pc := 16) dX2_unitsOver_16 wF_X2_22 (A_87 hw) T657 ?_
      refine mr_iload (pc := 19) (z := z651) dX2_unitsOver_19 rfl ?_
      refine la_90 (pc := 21) dX2_unitsOver_21 (A_90 hw) T657 (rIx (n := 16) h725 rfl) fun z727 q728 h729 => ?_
      have h730 : 0 ≤ z727 ∧ z727 ≤ 9 := ⟨h729.1, h729.2.1⟩
      refine sv_aload_n (pc := 22) dX2_unitsOver_22 rfl rfl ?_
      refine gf_X2_3 (pc := 23) dX2_unitsOver_23 wF_X2_25 (A_87 hw) T657 ?_
      refine mr_iload (pc := 26) (z := z651) dX2_unitsOver_26 rfl ?_
      refine la_91 (pc := 28) dX2_unitsOver_28 (A_91 hw) T657 (rIx (n := 16) h725 rfl) fun z731 q732 h733 => ?_
      refine mr_cVI (pc := 29) (c_X2_travel hw T657 h730 h733 (vc_X2_unitsOver_4 h664.2.2 h729.2.2 h724 h725 h726 h730)) (gOk _ _ _ _ _) dX2_unitsOver_29 (tX2_travel _ _ _ _ _) ⟨wV_X2_travel, wL_X2_travel⟩ wM_X2_83 (gCX2 _ _ _ _ _) rfl (A_87 hw) rfl ⟨le_t rfl, le_t rfl⟩ ⟨le_t rfl, le_t rfl⟩ rfl (le_t rfl) fun z738 μ734 T735 F736 h737 => ?_
      refine sv_pop (pc := 32) dX2_unitsOver_32 rfl ?_
      refine mr_iconst (pc := 33) (z := 0) dX2_unitsOver_33 ?_
      refine mr_istore (pc := 34) (lv' := [(5, iv 0), (0, .ref 87), (1, iv p1), (2, iv p2), (3, iv z652), (4, iv z651)]) dX2_unitsOver_34 (by decide) rfl ?_
      have L895 : ∀ (nL895 : Nat) (z894 z893 : Int), True → ((-2147483648) ≤ z894 ∧ z894 ≤ 2147483647) → (0 ≤ z893 ∧ z893 ≤ 10) → (11 - z893) < (nL895 : Int) → sV (gG l D c H0 sa) mX2_unitsOver (sRm 4 0 0) (sZ (gG l D c H0 sa) 0 0 (qI w [87006, 88999] μ (fun z μ1 => ((-2147483648) ≤ z ∧ z ≤ 2147483647) ∧ True))) 36 [(0, .ref 87), (1, iv p1), (2, iv p2), (3, iv z894), (4, iv z651), (5, iv z893)] [] (mk w μ734) 0 0 := by
        intro nL895
        induction nL895 with
        | zero => intro z894 z893 _ h896 h897 h901; exact ((vc_X2_unitsOver_5 h901 h897)).elim
        | succ nL895 ih902 =>
          intro z894 z893 _ h896 h897 h901
          refine mr_iload (pc := 36) (z := z893) dX2_unitsOver_36 rfl ?_
          refine mr_iconst (pc := 38) (z := 1) dX2_unitsOver_38 ?_
          refine mr_iadd (pc := 39) (x := z893) (y := 1) dX2_unitsOver_39 ?_
          refine sv_aload_n (pc := 40) dX2_unitsOver_40 rfl rfl ?_
          refine gf_X2_6 (pc := 41) dX2_unitsOver_41 wF_X2_77 (A_87 hw) T735 fun z903 q904 h905 => ?_
          refine mr_icmp_ge (pc := 44) (tgt := 87) dX2_unitsOver_44 (by decide) (r32 (rAdd (e := 1) (f := 11) h897 (rR (x := 1)) rfl) rfl) (r32 h905 rfl) (fun h923 => ?_) (fun h923 => ?_)
          · refine mr_iinc (pc := 87) (lv' := [(4, iv (z651 + 1)), (0, .ref 87), (1, iv p1), (2, iv p2), (3, iv z894), (5, iv z893)]) dX2_unitsOver_87 rfl (by decide) rfl ?_
            refine sv_goto (pc := 90) (tgt := 5) dX2_unitsOver_90 (by decide) ?_
            refine mr_lvS (lv' := [(0, .ref 87), (1, iv p1), (2, iv p2), (3, iv z894), (4, iv (z651 + 1))]) (List.forall_mem_cons.mpr ⟨rfl, List.forall_mem_cons.mpr ⟨rfl, List.forall_mem_cons.mpr ⟨rfl, List.forall_mem_cons.mpr ⟨rfl, List.forall_mem_cons.mpr ⟨rfl, fun _ h => absurd h List.not_mem_nil⟩⟩⟩⟩⟩) ?_
            exact ih661 z894 (z651 + 1) μ734 T735 (mF.call (mF.call mF.refl F658 rfl) F736 rfl) h896 (rW (c := 0) (d := 16) (rAdd (e := 1) (f := 16) h725 (rR (x := 1)) rfl) rfl) (vc_X2_unitsOver_6 (nS h660) h724 h664.2.2 h725 h726)
          have h924 : 0 ≤ z893 ∧ z893 ≤ 9 := (vc_X2_unitsOver_7 h923 h897 h905)
          have h925 : 2 ≤ z903 ∧ z903 ≤ 11 := (vc_X2_unitsOver_8 h923 h924 h905)
          refine sv_aload_n (pc := 47) dX2_unitsOver_47 rfl rfl ?_
          refine gf_X2_1 (pc := 48) dX2_unitsOver_48 wF_X2_15 (A_87 hw) T735 ?_
          refine mr_iload (pc := 51) (z := z893) dX2_unitsOver_51 rfl ?_
          refine la_88 (pc := 53) dX2_unitsOver_53 (A_88 hw) T735 (rIx (n := 11) h924 rfl) fun z926 q927 h928 => ?_
          have h929 : 0 ≤ z926 ∧ z926 ≤ 9 := ⟨h928.1, h928.2.1⟩
          refine mr_iload_n (pc := 54) (z := p1) dX2_unitsOver_54 rfl rfl ?_
          refine mr_icmp_ne (pc := 55) (tgt := 81) dX2_unitsOver_55 (by decide) (r32 h929 rfl) hp1 (fun h941 => ?_) (fun h941 => ?_)
          · refine mr_iinc (pc := 81) (lv' := [(5, iv (z893 + 1)), (0, .ref 87), (1, iv p1), (2, iv p2), (3, iv z894), (4, iv z651)]) dX2_unitsOver_81 rfl (by decide) rfl ?_
            refine sv_goto (pc := 84) (tgt := 36) dX2_unitsOver_84 (by decide) ?_
            refine mr_lvS (lv' := [(0, .ref 87), (1, iv p1), (2, iv p2), (3, iv z894), (4, iv z651), (5, iv (z893 + 1))]) (List.forall_mem_cons.mpr ⟨rfl, List.forall_mem_cons.mpr ⟨rfl, List.forall_mem_cons.mpr ⟨rfl, List.forall_mem_cons.mpr ⟨rfl, List.forall_mem_cons.mpr ⟨rfl, List.forall_mem_cons.mpr ⟨rfl, fun _ h => absurd h List.not_mem_nil⟩⟩⟩⟩⟩⟩) ?_
            exact ih902 z894 (z893 + 1) trivial h896 (rW (c := 0) (d := 10) (rAdd (e := 1) (f := 10) h924 (rR (x := 1)) rfl) rfl) (vc_X2_unitsOver_9 (nS h901) h923 h924 h925)
          have h942 : 0 ≤ p1 ∧ p1 ≤ 9 := (vc_X2_unitsOver_10 h941 h928.2.2 hp1 h929)
          refine sv_aload_n (pc := 58) dX2_unitsOver_58 rfl rfl ?_
          refine gf_X2_1 (pc := 59) dX2_unitsOver_59 wF_X2_15 (A_87 hw) T735 ?_
          refine mr_iload (pc := 62) (z := z893) dX2_unitsOver_62 rfl ?_
          refine mr_iconst (pc := 64) (z := 1) dX2_unitsOver_64 ?_
          refine mr_iadd (pc := 65) (x := z893) (y := 1) dX2_unitsOver_65 ?_
          refine la_88 (pc := 66) dX2_unitsOver_66 (A_88 hw) T735 (rIx (n := 11) (rAdd (e := 1) (f := 10) h924 (rR (x := 1)) rfl) rfl) fun z943 q944 h945 => ?_
          have h946 : 0 ≤ z943 ∧ z943 ≤ 9 := ⟨h945.1, h945.2.1⟩
          refine mr_iload_n (pc := 67) (z := p2) dX2_unitsOver_67 rfl rfl ?_
          refine mr_icmp_ne (pc := 68) (tgt := 81) dX2_unitsOver_68 (by decide) (r32 h946 rfl) hp2 (fun h953 => ?_) (fun h953 => ?_)
          · refine mr_iinc (pc := 81) (lv' := [(5, iv (z893 + 1)), (0, .ref 87), (1, iv p1), (2, iv p2), (3, iv z894), (4, iv z651)]) dX2_unitsOver_81 rfl (by decide) rfl ?_
            refine sv_goto (pc := 84) (tgt := 36) dX2_unitsOver_84 (by decide) ?_
            refine mr_lvS (lv' := [(0, .ref 87), (1, iv p1), (2, iv p2), (3, iv z894), (4, iv z651), (5, iv (z893 + 1))]) (List.forall_mem_cons.mpr ⟨rfl, List.forall_mem_cons.mpr ⟨rfl, List.forall_mem_cons.mpr ⟨rfl, List.forall_mem_cons.mpr ⟨rfl, List.forall_mem_cons.mpr ⟨rfl, List.forall_mem_cons.mpr ⟨rfl, fun _ h => absurd h List.not_mem_nil⟩⟩⟩⟩⟩⟩) ?_
            exact ih902 z894 (z893 + 1) trivial h896 (rW (c := 0) (d := 10) (rAdd (e := 1) (f := 10) h924 (rR (x := 1)) rfl) rfl) (vc_X2_unitsOver_9 (nS h901) h923 h924 h925)
          have h954 : 0 ≤ p2 ∧ p2 ≤ 9 := (vc_X2_unitsOver_11 h953 h945.2.2 hp2 h946)
          refine mr_iload_n (pc := 71) (z := z894) dX2_unitsOver_71 rfl rfl ?_
          refine sv_aload_n (pc := 72) dX2_unitsOver_72 rfl rfl ?_
          refine gf_X2_4 (pc := 73) dX2_unitsOver_73 wF_X2_28 (A_87 hw) T735 ?_
          refine mr_iload (pc := 76) (z := z651) dX2_unitsOver_76 rfl ?_
          refine la_92 (pc := 78) dX2_unitsOver_78 (A_92 hw) T735 (rIx (n := 16) h725 rfl) fun z955 q956 h957 => ?_
          refine mr_iadd (pc := 79) (x := z894) (y := z955) dX2_unitsOver_79 ?_
          refine mr_wrap fun z958 h959 => ?_
          refine mr_istore_n (pc := 80) (lv' := [(3, iv z958), (0, .ref 87), (1, iv p1), (2, iv p2), (4, iv z651), (5, iv z893)]) dX2_unitsOver_80 rfl (by decide) rfl ?_
          refine mr_iinc (pc := 81) (lv' := [(5, iv (z893 + 1)), (3, iv z958), (0, .ref 87), (1, iv p1), (2, iv p2), (4, iv z651)]) dX2_unitsOver_81 rfl (by decide) rfl ?_
          refine sv_goto (pc := 84) (tgt := 36) dX2_unitsOver_84 (by decide) ?_
          refine mr_lvS (lv' := [(0, .ref 87), (1, iv p1), (2, iv p2), (3, iv z958), (4, iv z651), (5, iv (z893 + 1))]) (List.forall_mem_cons.mpr ⟨rfl, List.forall_mem_cons.mpr ⟨rfl, List.forall_mem_cons.mpr ⟨rfl, List.forall_mem_cons.mpr ⟨rfl, List.forall_mem_cons.mpr ⟨rfl, List.forall_mem_cons.mpr ⟨rfl, fun _ h => absurd h List.not_mem_nil⟩⟩⟩⟩⟩⟩) ?_
          exact ih902 z958 (z893 + 1) trivial h959 (rW (c := 0) (d := 10) (rAdd (e := 1) (f := 10) h924 (rR (x := 1)) rfl) rfl) (vc_X2_unitsOver_9 (nS h901) h923 h924 h925)
      refine mr_lvS (lv' := [(0, .ref 87), (1, iv p1), (2, iv p2), (3, iv z652), (4, iv z651), (5, iv 0)]) (List.forall_mem_cons.mpr ⟨rfl, List.forall_mem_cons.mpr ⟨rfl, List.forall_mem_cons.mpr ⟨rfl, List.forall_mem_cons.mpr ⟨rfl, List.forall_mem_cons.mpr ⟨rfl, List.forall_mem_cons.mpr ⟨rfl, fun _ h => absurd h List.not_mem_nil⟩⟩⟩⟩⟩⟩) ?_
      exact L895 12 z652 0 trivial h655 (rW (c := 0) (d := 10) (rR (x := 0)) rfl) vc_X2_unitsOver_12
  refine mr_lvS (lv' := [(0, .ref 87), (1, iv p1), (2, iv p2), (3, iv 0), (4, iv 0)]) (List.forall_mem_cons.mpr ⟨rfl, List.forall_mem_cons.mpr ⟨rfl, List.forall_mem_cons.mpr ⟨rfl, List.forall_mem_cons.mpr ⟨rfl, List.forall_mem_cons.mpr ⟨rfl, fun _ h => absurd h List.not_mem_nil⟩⟩⟩⟩⟩) ?_
  exact L654 18 0 0 μ hT mF.refl (rW (c := (-2147483648)) (d := 2147483647) (rR (x := 0)) rfl) (rW (c := 0) (d := 16) (rR (x := 0)) rfl) vc_X2_unitsOver_13
