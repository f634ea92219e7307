section
set_option maxRecDepth 4000 in
set_option maxHeartbeats 4000000 in
theorem c_X1_doActs_1 {l : Launch} {D : va_G} {c : Nat → ClassId} {H0 : Heap} {sa : Nat × Nat × (Nat → Int32)} {w : mW} {μ : mM} (hw : mWF w) (hT : mT w μ) {a1 : Nat} (hA1 : mAt w a1 231) {p2 : Int} (hp2 : 0 ≤ p2 ∧ p2 ≤ 2000) {p3 : Int} (hp3 : 0 ≤ p3 ∧ p3 ≤ 1000) {p4 : Int} (hp4 : 1 ≤ p4 ∧ p4 ≤ 1) (hIPC : PC w μ) (hIRT : RT μ) (hlen : p2 + 2 * p3 ≤ (w.2.2.1 a1 : Int)) (harg : ∀ i : Int, 0 ≤ i → i < p3 → 0 ≤ μ a1 (p2 + 2 * i + 1).toNat ∧ μ a1 (p2 + 2 * i + 1).toNat ≤ 1000000) : sC (gG l D c H0 sa) mX1_doActs 26 0 0 [.ref 21, .ref a1, iv p2, iv p3, iv p4] (mk w μ) (qV w [21006, 21007, 200004, 200006, 200007, 200008, 201999, 202999] μ (fun μ1 => True)) := by
  refine sC.of rfl (by decide) (le_t rfl) ?_
  refine mr_lvE (lv' := [(0, .ref 21), (1, .ref a1), (2, iv p2), (3, iv p3), (4, iv p4)]) rfl ?_
  obtain ⟨n_1, q2⟩ : ∃ n : Int, (w.2.2.1 a1 : Int) = n := ⟨_, rfl⟩
  have h3 : 0 ≤ n_1 ∧ n_1 ≤ 2000 := lnR (m := 2000) q2 hA1 rfl
  have h4 : p2 + 2 * p3 ≤ n_1 := lnLe q2 hlen
  refine mr_iconst (pc := 0) (z := 0) dX1_doActs_0 ?_
  refine mr_istore (pc := 1) (lv' := [(5, iv 0), (0, .ref 21), (1, .ref a1), (2, iv p2), (3, iv p3), (4, iv p4)]) dX1_doActs_1 (by decide) rfl ?_
  have L1991 : ∀ (nL1991 : Nat) (z1989 : Int) (μ1990 : mM), mT w μ1990 → mF [21006, 21007, 200004, 200006, 200007, 200008, 201999, 202999] w μ μ1990 → (0 ≤ z1989 ∧ z1989 ≤ 1000) → PC w μ1990 → RT μ1990 → (1001 - z1989) < (nL1991 : Int) → sV (gG l D c H0 sa) mX1_doActs (sRm 26 0 0) (sZ (gG l D c H0 sa) 0 0 (qV w [21006, 21007, 200004, 200006, 200007, 200008, 201999, 202999] μ (fun μ1 => True))) 3 [(0, .ref 21), (1, .ref a1), (2, iv p2), (3, iv p3), (4, iv p4), (5, iv z1989)] [] (mk w μ1990) 0 0 := by
    intro nL1991
    induction nL1991 with
    | zero => intro z1989 μ1990 T1993 F1994 h1992 I1996 I1997 h1998; exact ((vc_X1_doActs_12_1 h1998 h1992)).elim
    | succ nL1991 ih1999 =>
      intro z1989 μ1990 T1993 F1994 h1992 I1996 I1997 h1998
      refine mr_iload (pc := 3) (z := z1989) dX1_doActs_3 rfl ?_
      refine mr_iload_n (pc := 5) (z := p3) dX1_doActs_5 rfl rfl ?_
      refine mr_icmp_ge (pc := 6) (tgt := 266) dX1_doActs_6 (by decide) (r32 h1992 rfl) (r32 hp3 rfl) (fun h2000 => ?_) (fun h2000 => ?_)
      · exact mr_vret dX1_doActs_266 rfl (le_t rfl) (le_t rfl) T1993 (mF.call mF.refl F1994 rfl) trivial
      have h2001 : 0 ≤ z1989 ∧ z1989 ≤ 999 := (vc_X1_doActs_12_2 h2000 h4 h3 hp2 hp3 h1992)
      have h2002 : 1 ≤ p3 ∧ p3 ≤ 1000 := (vc_X1_doActs_12_3 h2000 h4 h3 hp2 hp3 h2001)
      refine sv_aload_n (pc := 9) dX1_doActs_9 rfl rfl ?_
      refine gf_X1_7 (pc := 10) dX1_doActs_10 wF_X1_50 (A_21 hw) T1993 fun z2003 q2004 h2005 => ?_
      refine mr_if_ne (pc := 13) (tgt := 266) dX1_doActs_13 (by decide) (r32 h2005 rfl) (fun h2006 => ?_) (fun h2006 => ?_)
      · have h2007 : 1 ≤ z2003 ∧ z2003 ≤ 2 := (vc_X12_provides_3 h2006 h2005)
        exact mr_vret dX1_doActs_266 rfl (le_t rfl) (le_t rfl) T1993 (mF.call mF.refl F1994 rfl) trivial
      have h2008 : 0 ≤ z2003 ∧ z2003 ≤ 0 := (vc_X12_provides_4 h2006 h2005)
      refine sv_aload_n (pc := 16) dX1_doActs_16 rfl rfl ?_
      refine mr_iload_n (pc := 17) (z := p2) dX1_doActs_17 rfl rfl ?_
      refine mr_iload (pc := 18) (z := z1989) dX1_doActs_18 rfl ?_
      refine mr_iconst (pc := 20) (z := 2) dX1_doActs_20 ?_
      refine mr_imul (pc := 21) (x := z1989) (y := 2) dX1_doActs_21 ?_
      refine mr_iadd (pc := 22) (x := p2) (y := (z1989 * 2)) dX1_doActs_22 ?_
      refine mr_iconst (pc := 23) (z := 1) dX1_doActs_23 ?_
      refine mr_iadd (pc := 24) (x := (p2 + (z1989 * 2))) (y := 1) dX1_doActs_24 ?_
      refine la_231 (pc := 25) dX1_doActs_25 hA1 T1993 (lnC q2 (vc_X1_doActs_12_6 h4 h2000 h3 hp2 h2002 h2001)) fun z2009 q2010 h2011 => ?_
      have h2012 : 0 ≤ z2009 ∧ z2009 ≤ 1000000 := argB harg (vc_X1_doActs_12_7 h2000 h4 h3 hp2 h2002 h2001) (vc_X1_doActs_12_8 h4 h2000 h3 hp2 h2002 h2001) (vc_X1_doActs_12_9 h4 h2000 h3 hp2 h2002 h2001) (((mF.call mF.refl F1994 rfl) : mF [21006, 21007, 200004, 200006, 200007, 200008, 201999, 202999] w μ μ1990).f hA1 rfl rfl) q2010
      refine mr_istore (pc := 26) (lv' := [(6, iv z2009), (0, .ref 21), (1, .ref a1), (2, iv p2), (3, iv p3), (4, iv p4), (5, iv z1989)]) dX1_doActs_26 (by decide) rfl ?_
      refine sv_aload_n (pc := 28) dX1_doActs_28 rfl rfl ?_
      refine gf_X1_6 (pc := 29) dX1_doActs_29 wF_X1_47 (A_21 hw) T1993 fun z2013 q2014 h2015 => ?_
      refine mr_sipush (pc := 32) (z := 500) dX1_doActs_32 (by decide) ?_
      refine mr_icmp_lt (pc := 35) (tgt := 44) dX1_doActs_35 (by decide) (r32 h2015 rfl) (r32 (rR (x := 500)) rfl) (fun h2016 => ?_) (fun h2016 => ?_)
      · have h2017 : 0 ≤ z2013 ∧ z2013 ≤ 499 := (vc_X1_doActs_12_10 h2016 h2015)
        refine sv_aload_n (pc := 44) dX1_doActs_44 rfl rfl ?_
        refine sv_dup (pc := 45) dX1_doActs_45 rfl ?_
        refine gk_X1_6 (pc := 46) dX1_doActs_46 wF_X1_47 (A_21 hw) q2014 ?_
        refine mr_iconst (pc := 49) (z := 1) dX1_doActs_49 ?_
        refine mr_iadd (pc := 50) (x := z2013) (y := 1) dX1_doActs_50 ?_
        refine pf_X1_6 (pc := 51) dX1_doActs_51 wF_X1_47 (A_21 hw) T1993 (rW (c := 0) (d := 500) (rAdd (e := 1) (f := 500) h2017 (rR (x := 1)) rfl) rfl) fun μ2018 u2019 T2020 => ?_
        refine sv_aload_n (pc := 54) dX1_doActs_54 rfl rfl ?_
        refine mr_iload_n (pc := 55) (z := p2) dX1_doActs_55 rfl rfl ?_
        refine mr_iload (pc := 56) (z := z1989) dX1_doActs_56 rfl ?_
        refine mr_iconst (pc := 58) (z := 2) dX1_doActs_58 ?_
        refine mr_imul (pc := 59) (x := z1989) (y := 2) dX1_doActs_59 ?_
        refine mr_iadd (pc := 60) (x := p2) (y := (z1989 * 2)) dX1_doActs_60 ?_
        refine la_231 (pc := 61) dX1_doActs_61 hA1 T2020 (lnC q2 (vc_X1_doActs_12_11 h4 h2000 h3 hp2 h2002 h2001)) fun z2021 q2022 h2023 => ?_
        by_cases h2024 : z2021 = 12
        · refine mr_tableIn (pc := 62) (v := 12) (tgt := 184) dX1_doActs_62 h2024 rfl rfl (by decide) ?_
          have h2025 : 12 ≤ z2021 ∧ z2021 ≤ 12 := (vc_X1_doActs_12_12 h2024 h2023)
          refine sv_aload_n (pc := 184) dX1_doActs_184 rfl rfl ?_
          refine gf_X1_2 (pc := 185) dX1_doActs_185 wF_X1_25 (A_21 hw) T2020 (RT.keep I1997 hw ((mF.up mF.refl (A_21 hw) u2019 rfl) : mF [21006] w μ1990 μ2018) rfl) fun b2026 q2027 A2028 => ?_
          refine mr_iload (pc := 188) (z := z2009) dX1_doActs_188 rfl ?_
          refine pf_X7_4 (pc := 190) dX1_doActs_190 wF_X1_105 A2028 T2020 (rW (c := (-2147483648)) (d := 2147483647) h2012 rfl) fun μ2029 u2030 T2031 => ?_
          refine sv_goto (pc := 193) (tgt := 260) dX1_doActs_193 (by decide) ?_
          refine mr_iinc (pc := 260) (lv' := [(5, iv (z1989 + 1)), (6, iv z2009), (0, .ref 21), (1, .ref a1), (2, iv p2), (3, iv p3), (4, iv p4)]) dX1_doActs_260 rfl (by decide) rfl ?_
          refine sv_goto (pc := 263) (tgt := 3) dX1_doActs_263 (by decide) ?_
          refine mr_lvS (lv' := [(0, .ref 21), (1, .ref a1), (2, iv p2), (3, iv p3), (4, iv p4), (5, iv (z1989 + 1))]) (List.forall_mem_cons.mpr ⟨rfl, List.forall_mem_cons.mpr ⟨rfl, List.forall_mem_cons.mpr ⟨rfl, List.forall_mem_cons.mpr ⟨rfl, List.forall_mem_cons.mpr ⟨rfl, List.forall_mem_cons.mpr ⟨rfl, fun _ h => absurd h List.not_mem_nil⟩⟩⟩⟩⟩⟩) ?_
          exact ih1999 (z1989 + 1) μ2029 T2031 (mF.up (mF.up (mF.call mF.refl F1994 rfl) (A_21 hw) u2019 rfl) A2028 u2030 rfl) (rW (c := 0) (d := 1000) (rAdd (e := 1) (f := 1000) h2001 (rR (x := 1)) rfl) rfl) (PC.keep I1996 hw ((mF.up (mF.up mF.refl (A_21 hw) u2019 rfl) A2028 u2030 rfl) : mF [21006, 200004] w μ1990 μ2029) rfl) (RT.keep I1997 hw ((mF.up (mF.up mF.refl (A_21 hw) u2019 rfl) A2028 u2030 rfl) : mF [21006, 200004] w μ1990 μ2029) rfl) (vc_X1_doActs_12_13 (nS h1998) h2000 h4 h3 hp2 h2002 h2001)
        by_cases h2032 : z2021 = 13
        · refine mr_tableIn (pc := 62) (v := 13) (tgt := 196) dX1_doActs_62 h2032 rfl rfl (by decide) ?_
          have h2033 : 13 ≤ z2021 ∧ z2021 ≤ 13 := (vc_X1_doActs_12_14 h2032 h2024 h2023)
          refine sv_aload_n (pc := 196) dX1_doActs_196 rfl rfl ?_
          refine gf_X1_2 (pc := 197) dX1_doActs_197 wF_X1_25 (A_21 hw) T2020 (RT.keep I1997 hw ((mF.up mF.refl (A_21 hw) u2019 rfl) : mF [21006] w μ1990 μ2018) rfl) fun b2034 q2035 A2036 => ?_
          refine mr_iload (pc := 200) (z := z2009) dX1_doActs_200 rfl ?_
          refine pf_X7_6 (pc := 202) dX1_doActs_202 wF_X1_108 A2036 T2020 (rW (c := (-2147483648)) (d := 2147483647) h2012 rfl) fun μ2037 u2038 T2039 => ?_
          refine sv_goto (pc := 205) (tgt := 260) dX1_doActs_205 (by decide) ?_
          refine mr_iinc (pc := 260) (lv' := [(5, iv (z1989 + 1)), (6, iv z2009), (0, .ref 21), (1, .ref a1), (2, iv p2), (3, iv p3), (4, iv p4)]) dX1_doActs_260 rfl (by decide) rfl ?_
          refine sv_goto (pc := 263) (tgt := 3) dX1_doActs_263 (by decide) ?_
          refine mr_lvS (lv' := [(0, .ref 21), (1, .ref a1), (2, iv p2), (3, iv p3), (4, iv p4), (5, iv (z1989 + 1))]) (List.forall_mem_cons.mpr ⟨rfl, List.forall_mem_cons.mpr ⟨rfl, List.forall_mem_cons.mpr ⟨rfl, List.forall_mem_cons.mpr ⟨rfl, List.forall_mem_cons.mpr ⟨rfl, List.forall_mem_cons.mpr ⟨rfl, fun _ h => absurd h List.not_mem_nil⟩⟩⟩⟩⟩⟩) ?_
          exact ih1999 (z1989 + 1) μ2037 T2039 (mF.up (mF.up (mF.call mF.refl F1994 rfl) (A_21 hw) u2019 rfl) A2036 u2038 rfl) (rW (c := 0) (d := 1000) (rAdd (e := 1) (f := 1000) h2001 (rR (x := 1)) rfl) rfl) (PC.keep I1996 hw ((mF.up (mF.up mF.refl (A_21 hw) u2019 rfl) A2036 u2038 rfl) : mF [21006, 200006] w μ1990 μ2037) rfl) (RT.keep I1997 hw ((mF.up (mF.up mF.refl (A_21 hw) u2019 rfl) A2036 u2038 rfl) : mF [21006, 200006] w μ1990 μ2037) rfl) (vc_X1_doActs_12_13 (nS h1998) h2000 h4 h3 hp2 h2002 h2001)
        by_cases h2040 : z2021 = 14
        · refine mr_tableIn (pc := 62) (v := 14) (tgt := 260) dX1_doActs_62 h2040 rfl rfl (by decide) ?_
          have h2041 : 14 ≤ z2021 ∧ z2021 ≤ 14 := (vc_X1_doActs_12_15 h2040 h2024 h2032 h2023)
          refine mr_iinc (pc := 260) (lv' := [(5, iv (z1989 + 1)), (6, iv z2009), (0, .ref 21), (1, .ref a1), (2, iv p2), (3, iv p3), (4, iv p4)]) dX1_doActs_260 rfl (by decide) rfl ?_
          refine sv_goto (pc := 263) (tgt := 3) dX1_doActs_263 (by decide) ?_
          refine mr_lvS (lv' := [(0, .ref 21), (1, .ref a1), (2, iv p2), (3, iv p3), (4, iv p4), (5, iv (z1989 + 1))]) (List.forall_mem_cons.mpr ⟨rfl, List.forall_mem_cons.mpr ⟨rfl, List.forall_mem_cons.mpr ⟨rfl, List.forall_mem_cons.mpr ⟨rfl, List.forall_mem_cons.mpr ⟨rfl, List.forall_mem_cons.mpr ⟨rfl, fun _ h => absurd h List.not_mem_nil⟩⟩⟩⟩⟩⟩) ?_
          exact ih1999 (z1989 + 1) μ2018 T2020 (mF.up (mF.call mF.refl F1994 rfl) (A_21 hw) u2019 rfl) (rW (c := 0) (d := 1000) (rAdd (e := 1) (f := 1000) h2001 (rR (x := 1)) rfl) rfl) (PC.keep I1996 hw ((mF.up mF.refl (A_21 hw) u2019 rfl) : mF [21006] w μ1990 μ2018) rfl) (RT.keep I1997 hw ((mF.up mF.refl (A_21 hw) u2019 rfl) : mF [21006] w μ1990 μ2018) rfl) (vc_X1_doActs_12_13 (nS h1998) h2000 h4 h3 hp2 h2002 h2001)
        by_cases h2042 : z2021 = 15
        · refine mr_tableIn (pc := 62) (v := 15) (tgt := 260) dX1_doActs_62 h2042 rfl rfl (by decide) ?_
          have h2043 : 15 ≤ z2021 ∧ z2021 ≤ 15 := (vc_X1_doActs_12_16 h2042 h2024 h2032 h2040 h2023)
          refine mr_iinc (pc := 260) (lv' := [(5, iv (z1989 + 1)), (6, iv z2009), (0, .ref 21), (1, .ref a1), (2, iv p2), (3, iv p3), (4, iv p4)]) dX1_doActs_260 rfl (by decide) rfl ?_
          refine sv_goto (pc := 263) (tgt := 3) dX1_doActs_263 (by decide) ?_
          refine mr_lvS (lv' := [(0, .ref 21), (1, .ref a1), (2, iv p2), (3, iv p3), (4, iv p4), (5, iv (z1989 + 1))]) (List.forall_mem_cons.mpr ⟨rfl, List.forall_mem_cons.mpr ⟨rfl, List.forall_mem_cons.mpr ⟨rfl, List.forall_mem_cons.mpr ⟨rfl, List.forall_mem_cons.mpr ⟨rfl, List.forall_mem_cons.mpr ⟨rfl, fun _ h => absurd h List.not_mem_nil⟩⟩⟩⟩⟩⟩) ?_
          exact ih1999 (z1989 + 1) μ2018 T2020 (mF.up (mF.call mF.refl F1994 rfl) (A_21 hw) u2019 rfl) (rW (c := 0) (d := 1000) (rAdd (e := 1) (f := 1000) h2001 (rR (x := 1)) rfl) rfl) (PC.keep I1996 hw ((mF.up mF.refl (A_21 hw) u2019 rfl) : mF [21006] w μ1990 μ2018) rfl) (RT.keep I1997 hw ((mF.up mF.refl (A_21 hw) u2019 rfl) : mF [21006] w μ1990 μ2018) rfl) (vc_X1_doActs_12_13 (nS h1998) h2000 h4 h3 hp2 h2002 h2001)
        by_cases h2044 : z2021 = 16
        · refine mr_tableIn (pc := 62) (v := 16) (tgt := 260) dX1_doActs_62 h2044 rfl rfl (by decide) ?_
          have h2045 : 16 ≤ z2021 ∧ z2021 ≤ 16 := (vc_X1_doActs_12_17 h2044 h2024 h2032 h2040 h2042 h2023)
          refine mr_iinc (pc := 260) (lv' := [(5, iv (z1989 + 1)), (6, iv z2009), (0, .ref 21), (1, .ref a1), (2, iv p2), (3, iv p3), (4, iv p4)]) dX1_doActs_260 rfl (by decide) rfl ?_
          refine sv_goto (pc := 263) (tgt := 3) dX1_doActs_263 (by decide) ?_
          refine mr_lvS (lv' := [(0, .ref 21), (1, .ref a1), (2, iv p2), (3, iv p3), (4, iv p4), (5, iv (z1989 + 1))]) (List.forall_mem_cons.mpr ⟨rfl, List.forall_mem_cons.mpr ⟨rfl, List.forall_mem_cons.mpr ⟨rfl, List.forall_mem_cons.mpr ⟨rfl, List.forall_mem_cons.mpr ⟨rfl, List.forall_mem_cons.mpr ⟨rfl, fun _ h => absurd h List.not_mem_nil⟩⟩⟩⟩⟩⟩) ?_
          exact ih1999 (z1989 + 1) μ2018 T2020 (mF.up (mF.call mF.refl F1994 rfl) (A_21 hw) u2019 rfl) (rW (c := 0) (d := 1000) (rAdd (e := 1) (f := 1000) h2001 (rR (x := 1)) rfl) rfl) (PC.keep I1996 hw ((mF.up mF.refl (A_21 hw) u2019 rfl) : mF [21006] w μ1990 μ2018) rfl) (RT.keep I1997 hw ((mF.up mF.refl (A_21 hw) u2019 rfl) : mF [21006] w μ1990 μ2018) rfl) (vc_X1_doActs_12_13 (nS h1998) h2000 h4 h3 hp2 h2002 h2001)
        by_cases h2046 : z2021 = 17
        · refine mr_tableIn (pc := 62) (v := 17) (tgt := 260) dX1_doActs_62 h2046 rfl rfl (by decide) ?_
          have h2047 : 17 ≤ z2021 ∧ z2021 ≤ 17 := (vc_X1_doActs_12_18 h2046 h2024 h2032 h2040 h2042 h2044 h2023)
          refine mr_iinc (pc := 260) (lv' := [(5, iv (z1989 + 1)), (6, iv z2009), (0, .ref 21), (1, .ref a1), (2, iv p2), (3, iv p3), (4, iv p4)]) dX1_doActs_260 rfl (by decide) rfl ?_
          refine sv_goto (pc := 263) (tgt := 3) dX1_doActs_263 (by decide) ?_
          refine mr_lvS (lv' := [(0, .ref 21), (1, .ref a1), (2, iv p2), (3, iv p3), (4, iv p4), (5, iv (z1989 + 1))]) (List.forall_mem_cons.mpr ⟨rfl, List.forall_mem_cons.mpr ⟨rfl, List.forall_mem_cons.mpr ⟨rfl, List.forall_mem_cons.mpr ⟨rfl, List.forall_mem_cons.mpr ⟨rfl, List.forall_mem_cons.mpr ⟨rfl, fun _ h => absurd h List.not_mem_nil⟩⟩⟩⟩⟩⟩) ?_
          exact ih1999 (z1989 + 1) μ2018 T2020 (mF.up (mF.call mF.refl F1994 rfl) (A_21 hw) u2019 rfl) (rW (c := 0) (d := 1000) (rAdd (e := 1) (f := 1000) h2001 (rR (x := 1)) rfl) rfl) (PC.keep I1996 hw ((mF.up mF.refl (A_21 hw) u2019 rfl) : mF [21006] w μ1990 μ2018) rfl) (RT.keep I1997 hw ((mF.up mF.refl (A_21 hw) u2019 rfl) : mF [21006] w μ1990 μ2018) rfl) (vc_X1_doActs_12_13 (nS h1998) h2000 h4 h3 hp2 h2002 h2001)
        by_cases h2048 : z2021 = 18
        · refine mr_tableIn (pc := 62) (v := 18) (tgt := 260) dX1_doActs_62 h2048 rfl rfl (by decide) ?_
          have h2049 : 18 ≤ z2021 ∧ z2021 ≤ 18 := (vc_X1_doActs_12_19 h2048 h2024 h2032 h2040 h2042 h2044 h2046 h2023)
          refine mr_iinc (pc := 260) (lv' := [(5, iv (z1989 + 1)), (6, iv z2009), (0, .ref 21), (1, .ref a1), (2, iv p2), (3, iv p3), (4, iv p4)]) dX1_doActs_260 rfl (by decide) rfl ?_
          refine sv_goto (pc := 263) (tgt := 3) dX1_doActs_263 (by decide) ?_
          refine mr_lvS (lv' := [(0, .ref 21), (1, .ref a1), (2, iv p2), (3, iv p3), (4, iv p4), (5, iv (z1989 + 1))]) (List.forall_mem_cons.mpr ⟨rfl, List.forall_mem_cons.mpr ⟨rfl, List.forall_mem_cons.mpr ⟨rfl, List.forall_mem_cons.mpr ⟨rfl, List.forall_mem_cons.mpr ⟨rfl, List.forall_mem_cons.mpr ⟨rfl, fun _ h => absurd h List.not_mem_nil⟩⟩⟩⟩⟩⟩) ?_
          exact ih1999 (z1989 + 1) μ2018 T2020 (mF.up (mF.call mF.refl F1994 rfl) (A_21 hw) u2019 rfl) (rW (c := 0) (d := 1000) (rAdd (e := 1) (f := 1000) h2001 (rR (x := 1)) rfl) rfl) (PC.keep I1996 hw ((mF.up mF.refl (A_21 hw) u2019 rfl) : mF [21006] w μ1990 μ2018) rfl) (RT.keep I1997 hw ((mF.up mF.refl (A_21 hw) u2019 rfl) : mF [21006] w μ1990 μ2018) rfl) (vc_X1_doActs_12_13 (nS h1998) h2000 h4 h3 hp2 h2002 h2001)
        by_cases h2050 : z2021 = 19
        · refine mr_tableIn (pc := 62) (v := 19) (tgt := 260) dX1_doActs_62 h2050 rfl rfl (by decide) ?_
          have h2051 : 19 ≤ z2021 ∧ z2021 ≤ 19 := (vc_X1_doActs_12_20 h2050 h2024 h2032 h2040 h2042 h2044 h2046 h2048 h2023)
          refine mr_iinc (pc := 260) (lv' := [(5, iv (z1989 + 1)), (6, iv z2009), (0, .ref 21), (1, .ref a1), (2, iv p2), (3, iv p3), (4, iv p4)]) dX1_doActs_260 rfl (by decide) rfl ?_
          refine sv_goto (pc := 263) (tgt := 3) dX1_doActs_263 (by decide) ?_
          refine mr_lvS (lv' := [(0, .ref 21), (1, .ref a1), (2, iv p2), (3, iv p3), (4, iv p4), (5, iv (z1989 + 1))]) (List.forall_mem_cons.mpr ⟨rfl, List.forall_mem_cons.mpr ⟨rfl, List.forall_mem_cons.mpr ⟨rfl, List.forall_mem_cons.mpr ⟨rfl, List.forall_mem_cons.mpr ⟨rfl, List.forall_mem_cons.mpr ⟨rfl, fun _ h => absurd h List.not_mem_nil⟩⟩⟩⟩⟩⟩) ?_
          exact ih1999 (z1989 + 1) μ2018 T2020 (mF.up (mF.call mF.refl F1994 rfl) (A_21 hw) u2019 rfl) (rW (c := 0) (d := 1000) (rAdd (e := 1) (f := 1000) h2001 (rR (x := 1)) rfl) rfl) (PC.keep I1996 hw ((mF.up mF.refl (A_21 hw) u2019 rfl) : mF [21006] w μ1990 μ2018) rfl) (RT.keep I1997 hw ((mF.up mF.refl (A_21 hw) u2019 rfl) : mF [21006] w μ1990 μ2018) rfl) (vc_X1_doActs_12_13 (nS h1998) h2000 h4 h3 hp2 h2002 h2001)
        by_cases h2052 : z2021 = 20
        · refine mr_tableIn (pc := 62) (v := 20) (tgt := 260) dX1_doActs_62 h2052 rfl rfl (by decide) ?_
          have h2053 : 20 ≤ z2021 ∧ z2021 ≤ 20 := (vc_X1_doActs_12_21 h2052 h2032 h2040 h2042 h2044 h2046 h2048 h2050 h2023)
          refine mr_iinc (pc := 260) (lv' := [(5, iv (z1989 + 1)), (6, iv z2009), (0, .ref 21), (1, .ref a1), (2, iv p2), (3, iv p3), (4, iv p4)]) dX1_doActs_260 rfl (by decide) rfl ?_
          refine sv_goto (pc := 263) (tgt := 3) dX1_doActs_263 (by decide) ?_
          refine mr_lvS (lv' := [(0, .ref 21), (1, .ref a1), (2, iv p2), (3, iv p3), (4, iv p4), (5, iv (z1989 + 1))]) (List.forall_mem_cons.mpr ⟨rfl, List.forall_mem_cons.mpr ⟨rfl, List.forall_mem_cons.mpr ⟨rfl, List.forall_mem_cons.mpr ⟨rfl, List.forall_mem_cons.mpr ⟨rfl, List.forall_mem_cons.mpr ⟨rfl, fun _ h => absurd h List.not_mem_nil⟩⟩⟩⟩⟩⟩) ?_
          exact ih1999 (z1989 + 1) μ2018 T2020 (mF.up (mF.call mF.refl F1994 rfl) (A_21 hw) u2019 rfl) (rW (c := 0) (d := 1000) (rAdd (e := 1) (f := 1000) h2001 (rR (x := 1)) rfl) rfl) (PC.keep I1996 hw ((mF.up mF.refl (A_21 hw) u2019 rfl) : mF [21006] w μ1990 μ2018) rfl) (RT.keep I1997 hw ((mF.up mF.refl (A_21 hw) u2019 rfl) : mF [21006] w μ1990 μ2018) rfl) (vc_X1_doActs_12_13 (nS h1998) h2000 h4 h3 hp2 h2002 h2001)
        by_cases h2054 : z2021 = 21
        · refine mr_tableIn (pc := 62) (v := 21) (tgt := 260) dX1_doActs_62 h2054 rfl rfl (by decide) ?_
          have h2055 : 21 ≤ z2021 ∧ z2021 ≤ 21 := (vc_X1_doActs_12_22 h2054 h2040 h2042 h2044 h2046 h2048 h2050 h2052 h2023)
          refine mr_iinc (pc := 260) (lv' := [(5, iv (z1989 + 1)), (6, iv z2009), (0, .ref 21), (1, .ref a1), (2, iv p2), (3, iv p3), (4, iv p4)]) dX1_doActs_260 rfl (by decide) rfl ?_
          refine sv_goto (pc := 263) (tgt := 3) dX1_doActs_263 (by decide) ?_
          refine mr_lvS (lv' := [(0, .ref 21), (1, .ref a1), (2, iv p2), (3, iv p3), (4, iv p4), (5, iv (z1989 + 1))]) (List.forall_mem_cons.mpr ⟨rfl, List.forall_mem_cons.mpr ⟨rfl, List.forall_mem_cons.mpr ⟨rfl, List.forall_mem_cons.mpr ⟨rfl, List.forall_mem_cons.mpr ⟨rfl, List.forall_mem_cons.mpr ⟨rfl, fun _ h => absurd h List.not_mem_nil⟩⟩⟩⟩⟩⟩) ?_
          exact ih1999 (z1989 + 1) μ2018 T2020 (mF.up (mF.call mF.refl F1994 rfl) (A_21 hw) u2019 rfl) (rW (c := 0) (d := 1000) (rAdd (e := 1) (f := 1000) h2001 (rR (x := 1)) rfl) rfl) (PC.keep I1996 hw ((mF.up mF.refl (A_21 hw) u2019 rfl) : mF [21006] w μ1990 μ2018) rfl) (RT.keep I1997 hw ((mF.up mF.refl (A_21 hw) u2019 rfl) : mF [21006] w μ1990 μ2018) rfl) (vc_X1_doActs_12_13 (nS h1998) h2000 h4 h3 hp2 h2002 h2001)
        by_cases h2056 : z2021 = 22
        · refine mr_tableIn (pc := 62) (v := 22) (tgt := 260) dX1_doActs_62 h2056 rfl rfl (by decide) ?_
          have h2057 : 22 ≤ z2021 ∧ z2021 ≤ 22 := (vc_X1_doActs_12_23 h2056 h2042 h2044 h2046 h2048 h2050 h2052 h2054 h2023)
          refine mr_iinc (pc := 260) (lv' := [(5, iv (z1989 + 1)), (6, iv z2009), (0, .ref 21), (1, .ref a1), (2, iv p2), (3, iv p3), (4, iv p4)]) dX1_doActs_260 rfl (by decide) rfl ?_
          refine sv_goto (pc := 263) (tgt := 3) dX1_doActs_263 (by decide) ?_
          refine mr_lvS (lv' := [(0, .ref 21), (1, .ref a1), (2, iv p2), (3, iv p3), (4, iv p4), (5, iv (z1989 + 1))]) (List.forall_mem_cons.mpr ⟨rfl, List.forall_mem_cons.mpr ⟨rfl, List.forall_mem_cons.mpr ⟨rfl, List.forall_mem_cons.mpr ⟨rfl, List.forall_mem_cons.mpr ⟨rfl, List.forall_mem_cons.mpr ⟨rfl, fun _ h => absurd h List.not_mem_nil⟩⟩⟩⟩⟩⟩) ?_
          exact ih1999 (z1989 + 1) μ2018 T2020 (mF.up (mF.call mF.refl F1994 rfl) (A_21 hw) u2019 rfl) (rW (c := 0) (d := 1000) (rAdd (e := 1) (f := 1000) h2001 (rR (x := 1)) rfl) rfl) (PC.keep I1996 hw ((mF.up mF.refl (A_21 hw) u2019 rfl) : mF [21006] w μ1990 μ2018) rfl) (RT.keep I1997 hw ((mF.up mF.refl (A_21 hw) u2019 rfl) : mF [21006] w μ1990 μ2018) rfl) (vc_X1_doActs_12_13 (nS h1998) h2000 h4 h3 hp2 h2002 h2001)
        by_cases h2058 : z2021 = 23
        · refine mr_tableIn (pc := 62) (v := 23) (tgt := 144) dX1_doActs_62 h2058 rfl rfl (by decide) ?_
          have h2059 : 23 ≤ z2021 ∧ z2021 ≤ 23 := (vc_X1_doActs_12_24 h2058 h2044 h2046 h2048 h2050 h2052 h2054 h2056 h2023)
          refine sv_aload_n (pc := 144) dX1_doActs_144 rfl rfl ?_
          refine mr_iconst (pc := 145) (z := 1) dX1_doActs_145 ?_
          refine pf_X1_7 (pc := 146) dX1_doActs_146 wF_X1_50 (A_21 hw) T2020 (rW (c := 0) (d := 2) (rR (x := 1)) rfl) fun μ2060 u2061 T2062 => ?_
          refine sv_goto (pc := 149) (tgt := 260) dX1_doActs_149 (by decide) ?_
          refine mr_iinc (pc := 260) (lv' := [(5, iv (z1989 + 1)), (6, iv z2009), (0, .ref 21), (1, .ref a1), (2, iv p2), (3, iv p3), (4, iv p4)]) dX1_doActs_260 rfl (by decide) rfl ?_
          refine sv_goto (pc := 263) (tgt := 3) dX1_doActs_263 (by decide) ?_
          refine mr_lvS (lv' := [(0, .ref 21), (1, .ref a1), (2, iv p2), (3, iv p3), (4, iv p4), (5, iv (z1989 + 1))]) (List.forall_mem_cons.mpr ⟨rfl, List.forall_mem_cons.mpr ⟨rfl, List.forall_mem_cons.mpr ⟨rfl, List.forall_mem_cons.mpr ⟨rfl, List.forall_mem_cons.mpr ⟨rfl, List.forall_mem_cons.mpr ⟨rfl, fun _ h => absurd h List.not_mem_nil⟩⟩⟩⟩⟩⟩) ?_
          exact ih1999 (z1989 + 1) μ2060 T2062 (mF.up (mF.up (mF.call mF.refl F1994 rfl) (A_21 hw) u2019 rfl) (A_21 hw) u2061 rfl) (rW (c := 0) (d := 1000) (rAdd (e := 1) (f := 1000) h2001 (rR (x := 1)) rfl) rfl) (PC.keep I1996 hw ((mF.up (mF.up mF.refl (A_21 hw) u2019 rfl) (A_21 hw) u2061 rfl) : mF [21006, 21007] w μ1990 μ2060) rfl) (RT.keep I1997 hw ((mF.up (mF.up mF.refl (A_21 hw) u2019 rfl) (A_21 hw) u2061 rfl) : mF [21006, 21007] w μ1990 μ2060) rfl) (vc_X1_doActs_12_13 (nS h1998) h2000 h4 h3 hp2 h2002 h2001)
        by_cases h2063 : z2021 = 24
        · refine mr_tableIn (pc := 62) (v := 24) (tgt := 152) dX1_doActs_62 h2063 rfl rfl (by decide) ?_
          have h2064 : 24 ≤ z2021 ∧ z2021 ≤ 24 := (vc_X1_doActs_12_25 h2063 h2046 h2048 h2050 h2052 h2054 h2056 h2058 h2023)
          refine sv_aload_n (pc := 152) dX1_doActs_152 rfl rfl ?_
          refine mr_iconst (pc := 153) (z := 2) dX1_doActs_153 ?_
          refine pf_X1_7 (pc := 154) dX1_doActs_154 wF_X1_50 (A_21 hw) T2020 (rW (c := 0) (d := 2) (rR (x := 2)) rfl) fun μ2065 u2066 T2067 => ?_
          refine sv_goto (pc := 157) (tgt := 260) dX1_doActs_157 (by decide) ?_
          refine mr_iinc (pc := 260) (lv' := [(5, iv (z1989 + 1)), (6, iv z2009), (0, .ref 21), (1, .ref a1), (2, iv p2), (3, iv p3), (4, iv p4)]) dX1_doActs_260 rfl (by decide) rfl ?_
          refine sv_goto (pc := 263) (tgt := 3) dX1_doActs_263 (by decide) ?_
          refine mr_lvS (lv' := [(0, .ref 21), (1, .ref a1), (2, iv p2), (3, iv p3), (4, iv p4), (5, iv (z1989 + 1))]) (List.forall_mem_cons.mpr ⟨rfl, List.forall_mem_cons.mpr ⟨rfl, List.forall_mem_cons.mpr ⟨rfl, List.forall_mem_cons.mpr ⟨rfl, List.forall_mem_cons.mpr ⟨rfl, List.forall_mem_cons.mpr ⟨rfl, fun _ h => absurd h List.not_mem_nil⟩⟩⟩⟩⟩⟩) ?_
          exact ih1999 (z1989 + 1) μ2065 T2067 (mF.up (mF.up (mF.call mF.refl F1994 rfl) (A_21 hw) u2019 rfl) (A_21 hw) u2066 rfl) (rW (c := 0) (d := 1000) (rAdd (e := 1) (f := 1000) h2001 (rR (x := 1)) rfl) rfl) (PC.keep I1996 hw ((mF.up (mF.up mF.refl (A_21 hw) u2019 rfl) (A_21 hw) u2066 rfl) : mF [21006, 21007] w μ1990 μ2065) rfl) (RT.keep I1997 hw ((mF.up (mF.up mF.refl (A_21 hw) u2019 rfl) (A_21 hw) u2066 rfl) : mF [21006, 21007] w μ1990 μ2065) rfl) (vc_X1_doActs_12_13 (nS h1998) h2000 h4 h3 hp2 h2002 h2001)
        by_cases h2068 : z2021 = 25
        · refine mr_tableIn (pc := 62) (v := 25) (tgt := 160) dX1_doActs_62 h2068 rfl rfl (by decide) ?_
          have h2069 : 25 ≤ z2021 ∧ z2021 ≤ 25 := (vc_X1_doActs_12_26 h2068 h2048 h2050 h2052 h2054 h2056 h2058 h2063 h2023)
          refine sv_aload_n (pc := 160) dX1_doActs_160 rfl rfl ?_
          refine gf_X1_2 (pc := 161) dX1_doActs_161 wF_X1_25 (A_21 hw) T2020 (RT.keep I1997 hw ((mF.up mF.refl (A_21 hw) u2019 rfl) : mF [21006] w μ1990 μ2018) rfl) fun b2070 q2071 A2072 => ?_
          refine mr_iload (pc := 164) (z := z2009) dX1_doActs_164 rfl ?_
          refine mr_cVV (pc := 166) (c_X7_addMark hw T2020 A2072 (rW (c := (-2147483648)) (d := 2147483647) h2012 rfl)) (gOk _ _ _ _ _) dX1_doActs_166 (tX7_addMark _ _ _ _ _) ⟨wV_X7_addMark, wL_X7_addMark⟩ wM_X1_124 (gCX7 _ _ _ _ _) rfl A2072 rfl ⟨le_t rfl, le_t rfl⟩ ⟨le_t rfl, le_t rfl⟩ rfl (le_t rfl) fun μ2073 T2074 F2075 h2076 => ?_
          refine sv_goto (pc := 169) (tgt := 260) dX1_doActs_169 (by decide) ?_
          refine mr_iinc (pc := 260) (lv' := [(5, iv (z1989 + 1)), (6, iv z2009), (0, .ref 21), (1, .ref a1), (2, iv p2), (3, iv p3), (4, iv p4)]) dX1_doActs_260 rfl (by decide) rfl ?_
          refine sv_goto (pc := 263) (tgt := 3) dX1_doActs_263 (by decide) ?_
          refine mr_lvS (lv' := [(0, .ref 21), (1, .ref a1), (2, iv p2), (3, iv p3), (4, iv p4), (5, iv (z1989 + 1))]) (List.forall_mem_cons.mpr ⟨rfl, List.forall_mem_cons.mpr ⟨rfl, List.forall_mem_cons.mpr ⟨rfl, List.forall_mem_cons.mpr ⟨rfl, List.forall_mem_cons.mpr ⟨rfl, List.forall_mem_cons.mpr ⟨rfl, fun _ h => absurd h List.not_mem_nil⟩⟩⟩⟩⟩⟩) ?_
          exact ih1999 (z1989 + 1) μ2073 T2074 (mF.call (mF.up (mF.call mF.refl F1994 rfl) (A_21 hw) u2019 rfl) F2075 rfl) (rW (c := 0) (d := 1000) (rAdd (e := 1) (f := 1000) h2001 (rR (x := 1)) rfl) rfl) (PC.keep I1996 hw ((mF.call (mF.up mF.refl (A_21 hw) u2019 rfl) F2075 rfl) : mF [21006, 200008, 202999] w μ1990 μ2073) rfl) (RT.keep I1997 hw ((mF.call (mF.up mF.refl (A_21 hw) u2019 rfl) F2075 rfl) : mF [21006, 200008, 202999] w μ1990 μ2073) rfl) (vc_X1_doActs_12_13 (nS h1998) h2000 h4 h3 hp2 h2002 h2001)
        by_cases h2077 : z2021 = 26
        · refine mr_tableIn (pc := 62) (v := 26) (tgt := 172) dX1_doActs_62 h2077 rfl rfl (by decide) ?_
          have h2078 : 26 ≤ z2021 ∧ z2021 ≤ 26 := (vc_X1_doActs_12_27 h2077 h2050 h2052 h2054 h2056 h2058 h2063 h2068 h2023)
          refine sv_aload_n (pc := 172) dX1_doActs_172 rfl rfl ?_
          refine gf_X1_2 (pc := 173) dX1_doActs_173 wF_X1_25 (A_21 hw) T2020 (RT.keep I1997 hw ((mF.up mF.refl (A_21 hw) u2019 rfl) : mF [21006] w μ1990 μ2018) rfl) fun b2079 q2080 A2081 => ?_
          refine mr_iload (pc := 176) (z := z2009) dX1_doActs_176 rfl ?_
          refine mr_cVV (pc := 178) (c_X7_dropMark hw T2020 A2081 (rW (c := (-2147483648)) (d := 2147483647) h2012 rfl)) (gOk _ _ _ _ _) dX1_doActs_178 (tX7_dropMark _ _ _ _ _) ⟨wV_X7_dropMark, wL_X7_dropMark⟩ wM_X1_128 (gCX7 _ _ _ _ _) rfl A2081 rfl ⟨le_t rfl, le_t rfl⟩ ⟨le_t rfl, le_t rfl⟩ rfl (le_t rfl) fun μ2082 T2083 F2084 h2085 => ?_
          refine sv_goto (pc := 181) (tgt := 260) dX1_doActs_181 (by decide) ?_
          refine mr_iinc (pc := 260) (lv' := [(5, iv (z1989 + 1)), (6, iv z2009), (0, .ref 21), (1, .ref a1), (2, iv p2), (3, iv p3), (4, iv p4)]) dX1_doActs_260 rfl (by decide) rfl ?_
          refine sv_goto (pc := 263) (tgt := 3) dX1_doActs_263 (by decide) ?_
          refine mr_lvS (lv' := [(0, .ref 21), (1, .ref a1), (2, iv p2), (3, iv p3), (4, iv p4), (5, iv (z1989 + 1))]) (List.forall_mem_cons.mpr ⟨rfl, List.forall_mem_cons.mpr ⟨rfl, List.forall_mem_cons.mpr ⟨rfl, List.forall_mem_cons.mpr ⟨rfl, List.forall_mem_cons.mpr ⟨rfl, List.forall_mem_cons.mpr ⟨rfl, fun _ h => absurd h List.not_mem_nil⟩⟩⟩⟩⟩⟩) ?_
          exact ih1999 (z1989 + 1) μ2082 T2083 (mF.call (mF.up (mF.call mF.refl F1994 rfl) (A_21 hw) u2019 rfl) F2084 rfl) (rW (c := 0) (d := 1000) (rAdd (e := 1) (f := 1000) h2001 (rR (x := 1)) rfl) rfl) (PC.keep I1996 hw ((mF.call (mF.up mF.refl (A_21 hw) u2019 rfl) F2084 rfl) : mF [21006, 200008, 202999] w μ1990 μ2082) rfl) (RT.keep I1997 hw ((mF.call (mF.up mF.refl (A_21 hw) u2019 rfl) F2084 rfl) : mF [21006, 200008, 202999] w μ1990 μ2082) rfl) (vc_X1_doActs_12_13 (nS h1998) h2000 h4 h3 hp2 h2002 h2001)
        by_cases h2086 : z2021 = 27
        · refine mr_tableIn (pc := 62) (v := 27) (tgt := 208) dX1_doActs_62 h2086 rfl rfl (by decide) ?_
          have h2087 : 27 ≤ z2021 ∧ z2021 ≤ 27 := (vc_X1_doActs_12_28 h2086 h2052 h2054 h2056 h2058 h2063 h2068 h2077 h2023)
          refine sv_aload_n (pc := 208) dX1_doActs_208 rfl rfl ?_
          refine gf_X1_2 (pc := 209) dX1_doActs_209 wF_X1_25 (A_21 hw) T2020 (RT.keep I1997 hw ((mF.up mF.refl (A_21 hw) u2019 rfl) : mF [21006] w μ1990 μ2018) rfl) fun b2088 q2089 A2090 => ?_
          refine gf_X7_7 (pc := 212) dX1_doActs_212 wF_X1_96 A2090 T2020 fun z2091 q2092 h2093 => ?_
          have J2116 : ∀ (μ2110 : mM), (mT w μ2110) → (mF [21007, 200007, 201999] w μ2018 μ2110) → (PC w μ2110) → (RT μ2110) → sV (gG l D c H0 sa) mX1_doActs (sRm 26 0 0) (sZ (gG l D c H0 sa) 0 0 (qV w [21006, 21007, 200004, 200006, 200007, 200008, 201999, 202999] μ (fun μ1 => True))) 260 [(0, .ref 21), (1, .ref a1), (2, iv p2), (3, iv p3), (4, iv p4), (5, iv z1989)] [] (mk w μ2110) 0 0 := by
            intro μ2110 T2111 F2112 I2114 I2115
            refine mr_iinc (pc := 260) (lv' := [(5, iv (z1989 + 1)), (0, .ref 21), (1, .ref a1), (2, iv p2), (3, iv p3), (4, iv p4)]) dX1_doActs_260 rfl (by decide) rfl ?_
            refine sv_goto (pc := 263) (tgt := 3) dX1_doActs_263 (by decide) ?_
            refine mr_lvS (lv' := [(0, .ref 21), (1, .ref a1), (2, iv p2), (3, iv p3), (4, iv p4), (5, iv (z1989 + 1))]) (List.forall_mem_cons.mpr ⟨rfl, List.forall_mem_cons.mpr ⟨rfl, List.forall_mem_cons.mpr ⟨rfl, List.forall_mem_cons.mpr ⟨rfl, List.forall_mem_cons.mpr ⟨rfl, List.forall_mem_cons.mpr ⟨rfl, fun _ h => absurd h List.not_mem_nil⟩⟩⟩⟩⟩⟩) ?_
            exact ih1999 (z1989 + 1) μ2110 T2111 (mF.call (mF.up (mF.call mF.refl F1994 rfl) (A_21 hw) u2019 rfl) F2112 rfl) (rW (c := 0) (d := 1000) (rAdd (e := 1) (f := 1000) h2001 (rR (x := 1)) rfl) rfl) I2114 I2115 (vc_X1_doActs_12_13 (nS h1998) h2000 h4 h3 hp2 h2002 h2001)
          refine mr_if_le (pc := 215) (tgt := 260) dX1_doActs_215 (by decide) (r32 h2093 rfl) (fun h2117 => ?_) (fun h2117 => ?_)
          · have h2118 : 0 ≤ z2091 ∧ z2091 ≤ 0 := (vc_X12_unlike_21 h2117 h2093)
            refine mr_lvS (lv' := [(0, .ref 21), (1, .ref a1), (2, iv p2), (3, iv p3), (4, iv p4), (5, iv z1989)]) (List.forall_mem_cons.mpr ⟨rfl, List.forall_mem_cons.mpr ⟨rfl, List.forall_mem_cons.mpr ⟨rfl, List.forall_mem_cons.mpr ⟨rfl, List.forall_mem_cons.mpr ⟨rfl, List.forall_mem_cons.mpr ⟨rfl, fun _ h => absurd h List.not_mem_nil⟩⟩⟩⟩⟩⟩) ?_
            exact J2116 μ2018 T2020 mF.refl (PC.keep I1996 hw ((mF.up mF.refl (A_21 hw) u2019 rfl) : mF [21006] w μ1990 μ2018) rfl) (RT.keep I1997 hw ((mF.up mF.refl (A_21 hw) u2019 rfl) : mF [21006] w μ1990 μ2018) rfl)
          have h2119 : 1 ≤ z2091 ∧ z2091 ≤ 20 := (vc_X12_unlike_22 h2117 h2093)
          refine sv_aload_n (pc := 218) dX1_doActs_218 rfl rfl ?_
          refine gk_X1_2 (pc := 219) dX1_doActs_219 wF_X1_25 (A_21 hw) q2089 ?_
          refine sv_aload_n (pc := 222) dX1_doActs_222 rfl rfl ?_
          refine gk_X1_2 (pc := 223) dX1_doActs_223 wF_X1_25 (A_21 hw) q2089 ?_
          refine gf_X7_0 (pc := 226) dX1_doActs_226 wF_X1_114 A2090 T2020 fun A2120 => ?_
          refine mr_iconst (pc := 229) (z := 0) dX1_doActs_229 ?_
          refine la_201 (pc := 230) dX1_doActs_230 A2120 T2020 (rIx (n := 20) (rR (x := 0)) rfl) fun z2121 q2122 h2123 => ?_
          refine mr_iload (pc := 231) (z := z2009) dX1_doActs_231 rfl ?_
          refine mr_cVI (pc := 233) (c_X7_putInFront hw T2020 A2090 h2123 (rW (c := (-2147483648)) (d := 1000000) h2012 rfl)) (gOk _ _ _ _ _) dX1_doActs_233 (tX7_putInFront _ _ _ _ _) ⟨wV_X7_putInFront, wL_X7_putInFront⟩ wM_X1_131 (gCX7 _ _ _ _ _) rfl A2090 rfl ⟨le_t rfl, le_t rfl⟩ ⟨le_t rfl, le_t rfl⟩ rfl (le_t rfl) fun z2128 μ2124 T2125 F2126 h2127 => ?_
          refine mr_if_ne (pc := 236) (tgt := 260) dX1_doActs_236 (by decide) (r32 h2127.1 rfl) (fun h2129 => ?_) (fun h2129 => ?_)
          · have h2130 : 1 ≤ z2128 ∧ z2128 ≤ 1 := (vc_X12_ring_24 h2129 h2127.1)
            refine mr_lvS (lv' := [(0, .ref 21), (1, .ref a1), (2, iv p2), (3, iv p3), (4, iv p4), (5, iv z1989)]) (List.forall_mem_cons.mpr ⟨rfl, List.forall_mem_cons.mpr ⟨rfl, List.forall_mem_cons.mpr ⟨rfl, List.forall_mem_cons.mpr ⟨rfl, List.forall_mem_cons.mpr ⟨rfl, List.forall_mem_cons.mpr ⟨rfl, fun _ h => absurd h List.not_mem_nil⟩⟩⟩⟩⟩⟩) ?_
            exact J2116 μ2124 T2125 (mF.call mF.refl F2126 rfl) (PC.keep I1996 hw ((mF.call (mF.up mF.refl (A_21 hw) u2019 rfl) F2126 rfl) : mF [21006, 200007, 201999] w μ1990 μ2124) rfl) (RT.keep I1997 hw ((mF.call (mF.up mF.refl (A_21 hw) u2019 rfl) F2126 rfl) : mF [21006, 200007, 201999] w μ1990 μ2124) rfl)
          have h2131 : 0 ≤ z2128 ∧ z2128 ≤ 0 := (vc_X12_ring_22 h2129 h2127.1)
          refine sv_aload_n (pc := 239) dX1_doActs_239 rfl rfl ?_
          refine mr_iconst (pc := 240) (z := 2) dX1_doActs_240 ?_
          refine pf_X1_7 (pc := 241) dX1_doActs_241 wF_X1_50 (A_21 hw) T2125 (rW (c := 0) (d := 2) (rR (x := 2)) rfl) fun μ2132 u2133 T2134 => ?_
          refine sv_goto (pc := 244) (tgt := 260) dX1_doActs_244 (by decide) ?_
          refine mr_lvS (lv' := [(0, .ref 21), (1, .ref a1), (2, iv p2), (3, iv p3), (4, iv p4), (5, iv z1989)]) (List.forall_mem_cons.mpr ⟨rfl, List.forall_mem_cons.mpr ⟨rfl, List.forall_mem_cons.mpr ⟨rfl, List.forall_mem_cons.mpr ⟨rfl, List.forall_mem_cons.mpr ⟨rfl, List.forall_mem_cons.mpr ⟨rfl, fun _ h => absurd h List.not_mem_nil⟩⟩⟩⟩⟩⟩) ?_
          exact J2116 μ2132 T2134 (mF.up (mF.call mF.refl F2126 rfl) (A_21 hw) u2133 rfl) (PC.keep I1996 hw ((mF.up (mF.call (mF.up mF.refl (A_21 hw) u2019 rfl) F2126 rfl) (A_21 hw) u2133 rfl) : mF [21006, 21007, 200007, 201999] w μ1990 μ2132) rfl) (RT.keep I1997 hw ((mF.up (mF.call (mF.up mF.refl (A_21 hw) u2019 rfl) F2126 rfl) (A_21 hw) u2133 rfl) : mF [21006, 21007, 200007, 201999] w μ1990 μ2132) rfl)
        by_cases h2135 : z2021 = 28
        · refine mr_tableIn (pc := 62) (v := 28) (tgt := 247) dX1_doActs_62 h2135 rfl rfl (by decide) ?_
          have h2136 : 28 ≤ z2021 ∧ z2021 ≤ 28 := (vc_X1_doActs_12_33 h2135 h2054 h2056 h2058 h2063 h2068 h2077 h2086 h2023)
          refine sv_aload_n (pc := 247) dX1_doActs_247 rfl rfl ?_
          refine mr_iload (pc := 248) (z := z2009) dX1_doActs_248 rfl ?_
          refine mr_iload (pc := 250) (z := p4) dX1_doActs_250 rfl ?_
          refine mr_iconst (pc := 252) (z := 1) dX1_doActs_252 ?_
          refine mr_iadd (pc := 253) (x := p4) (y := 1) dX1_doActs_253 ?_
          refine mr_cVV (pc := 254) (c_X1_goThrough_2 hw T2020 (rW (c := (-2147483648)) (d := 2147483647) h2012 rfl) (rAdd (e := 2) (f := 2) hp4 (rR (x := 1)) rfl) (PC.keep I1996 hw ((mF.up mF.refl (A_21 hw) u2019 rfl) : mF [21006] w μ1990 μ2018) rfl) (RT.keep I1997 hw ((mF.up mF.refl (A_21 hw) u2019 rfl) : mF [21006] w μ1990 μ2018) rfl)) (gOk _ _ _ _ _) dX1_doActs_254 (tX1_goThrough _ _ _ _ _) ⟨wV_X1_goThrough, wL_X1_goThrough⟩ wM_X1_53 (gCX1 _ _ _ _ _) rfl (A_21 hw) rfl ⟨le_t rfl, le_t rfl⟩ ⟨le_t rfl, le_t rfl⟩ rfl (le_t rfl) fun μ2137 T2138 F2139 h2140 => ?_
          refine sv_goto (pc := 257) (tgt := 260) dX1_doActs_257 (by decide) ?_
          refine mr_iinc (pc := 260) (lv' := [(5, iv (z1989 + 1)), (6, iv z2009), (0, .ref 21), (1, .ref a1), (2, iv p2), (3, iv p3), (4, iv p4)]) dX1_doActs_260 rfl (by decide) rfl ?_
          refine sv_goto (pc := 263) (tgt := 3) dX1_doActs_263 (by decide) ?_
          refine mr_lvS (lv' := [(0, .ref 21), (1, .ref a1), (2, iv p2), (3, iv p3), (4, iv p4), (5, iv (z1989 + 1))]) (List.forall_mem_cons.mpr ⟨rfl, List.forall_mem_cons.mpr ⟨rfl, List.forall_mem_cons.mpr ⟨rfl, List.forall_mem_cons.mpr ⟨rfl, List.forall_mem_cons.mpr ⟨rfl, List.forall_mem_cons.mpr ⟨rfl, fun _ h => absurd h List.not_mem_nil⟩⟩⟩⟩⟩⟩) ?_
          exact ih1999 (z1989 + 1) μ2137 T2138 (mF.call (mF.up (mF.call mF.refl F1994 rfl) (A_21 hw) u2019 rfl) F2139 rfl) (rW (c := 0) (d := 1000) (rAdd (e := 1) (f := 1000) h2001 (rR (x := 1)) rfl) rfl) (PC.keep I1996 hw ((mF.call (mF.up mF.refl (A_21 hw) u2019 rfl) F2139 rfl) : mF [21006, 21007, 200004, 200006, 200007, 200008, 201999, 202999] w μ1990 μ2137) rfl) (RT.keep I1997 hw ((mF.call (mF.up mF.refl (A_21 hw) u2019 rfl) F2139 rfl) : mF [21006, 21007, 200004, 200006, 200007, 200008, 201999, 202999] w μ1990 μ2137) rfl) (vc_X1_doActs_12_13 (nS h1998) h2000 h4 h3 hp2 h2002 h2001)
        refine mr_tableOut (pc := 62) (tgt := 260) dX1_doActs_62 h2023 (vc_X1_doActs_12_34 h2024 h2032 h2040 h2042 h2044 h2046 h2048 h2050 h2052 h2054 h2056 h2058 h2063 h2068 h2077 h2086 h2135 h2023) (by decide) ?_
        refine mr_iinc (pc := 260) (lv' := [(5, iv (z1989 + 1)), (6, iv z2009), (0, .ref 21), (1, .ref a1), (2, iv p2), (3, iv p3), (4, iv p4)]) dX1_doActs_260 rfl (by decide) rfl ?_
        refine sv_goto (pc := 263) (tgt := 3) dX1_doActs_263 (by decide) ?_
        refine mr_lvS (lv' := [(0, .ref 21), (1, .ref a1), (2, iv p2), (3, iv p3), (4, iv p4), (5, iv (z1989 + 1))]) (List.forall_mem_cons.mpr ⟨rfl, List.forall_mem_cons.mpr ⟨rfl, List.forall_mem_cons.mpr ⟨rfl, List.forall_mem_cons.mpr ⟨rfl, List.forall_mem_cons.mpr ⟨rfl, List.forall_mem_cons.mpr ⟨rfl, fun _ h => absurd h List.not_mem_nil⟩⟩⟩⟩⟩⟩) ?_
        exact ih1999 (z1989 + 1) μ2018 T2020 (mF.up (mF.call mF.refl F1994 rfl) (A_21 hw) u2019 rfl) (rW (c := 0) (d := 1000) (rAdd (e := 1) (f := 1000) h2001 (rR (x := 1)) rfl) rfl) (PC.keep I1996 hw ((mF.up mF.refl (A_21 hw) u2019 rfl) : mF [21006] w μ1990 μ2018) rfl) (RT.keep I1997 hw ((mF.up mF.refl (A_21 hw) u2019 rfl) : mF [21006] w μ1990 μ2018) rfl) (vc_X1_doActs_12_13 (nS h1998) h2000 h4 h3 hp2 h2002 h2001)
      have h2141 : 500 ≤ z2013 ∧ z2013 ≤ 500 := (vc_X1_doActs_12_35 h2016 h2015)
      refine sv_aload_n (pc := 38) dX1_doActs_38 rfl rfl ?_
      refine mr_iconst (pc := 39) (z := 2) dX1_doActs_39 ?_
      refine pf_X1_7 (pc := 40) dX1_doActs_40 wF_X1_50 (A_21 hw) T1993 (rW (c := 0) (d := 2) (rR (x := 2)) rfl) fun μ2142 u2143 T2144 => ?_
      exact mr_vret dX1_doActs_43 rfl (le_t rfl) (le_t rfl) T2144 (mF.up (mF.call mF.refl F1994 rfl) (A_21 hw) u2143 rfl) trivial
  refine mr_lvS (lv' := [(0, .ref 21), (1, .ref a1), (2, iv p2), (3, iv p3), (4, iv p4), (5, iv 0)]) (List.forall_mem_cons.mpr ⟨rfl, List.forall_mem_cons.mpr ⟨rfl, List.forall_mem_cons.mpr ⟨rfl, List.forall_mem_cons.mpr ⟨rfl, List.forall_mem_cons.mpr ⟨rfl, List.forall_mem_cons.mpr ⟨rfl, fun _ h => absurd h List.not_mem_nil⟩⟩⟩⟩⟩⟩) ?_
  exact L1991 1002 0 μ hT mF.refl (rW (c := 0) (d := 1000) (rR (x := 0)) rfl) hIPC hIRT vc_X1_doActs_12_36
theorem vc_X1_goThrough_1_5 {p2 : Int} (h0 : 12 < p2) (h1 : 1 ≤ p2 ∧ p2 ≤ 1) : False := by omega
set_option maxRecDepth 4000 in
set_option maxHeartbeats 4000000 in
theorem c_X1_goThrough_1 {l : Launch} {D : va_G} {c : Nat → ClassId} {H0 : Heap} {sa : Nat × Nat × (Nat → Int32)} {w : mW} {μ : mM} (hw : mWF w) (hT : mT w μ) {p1 : Int} (hp1 : (-2147483648) ≤ p1 ∧ p1 ≤ 2147483647) {p2 : Int} (hp2 : 1 ≤ p2 ∧ p2 ≤ 1) (hIPC : PC w μ) (hIRT : RT μ) : sC (gG l D c H0 sa) mX1_goThrough 27 0 0 [.ref 21, iv p1, iv p2] (mk w μ) (qV w [21006, 21007, 200004, 200006, 200007, 200008, 201999, 202999] μ (fun μ1 => True)) := by
  refine sC.of rfl (by decide) (le_t rfl) ?_
  refine mr_lvE (lv' := [(0, .ref 21), (1, iv p1), (2, iv p2)]) rfl ?_
  refine mr_iload_n (pc := 0) (z := p1) dX1_goThrough_0 rfl rfl ?_
  refine mr_if_lt (pc := 1) (tgt := 18) dX1_goThrough_1 (by decide) hp1 (fun h1 => ?_) (fun h1 => ?_)
  · have h2 : (-2147483648) ≤ p1 ∧ p1 ≤ (-1) := (vc_X12_ring_60 h1 hp1)
    exact mr_vret dX1_goThrough_18 rfl (le_t rfl) (le_t rfl) hT mF.refl trivial
  have h3 : 0 ≤ p1 ∧ p1 ≤ 2147483647 := (vc_X12_ring_1 h1 hp1)
  refine mr_iload_n (pc := 4) (z := p1) dX1_goThrough_4 rfl rfl ?_
  refine sv_aload_n (pc := 5) dX1_goThrough_5 rfl rfl ?_
  refine gf_X1_8 (pc := 6) dX1_goThrough_6 wF_X1_21 (A_21 hw) hT fun z4 q5 h6 => ?_
  refine mr_icmp_ge (pc := 9) (tgt := 18) dX1_goThrough_9 (by decide) (r32 h3 rfl) (r32 h6.2 rfl) (fun h7 => ?_) (fun h7 => ?_)
  · exact mr_vret dX1_goThrough_18 rfl (le_t rfl) (le_t rfl) hT mF.refl trivial
  have h8 : 0 ≤ p1 ∧ p1 ≤ 11 := (vc_X1_goThrough_13_3 h7 h1 h6.1 h3 h6.2)
  have h9 : 1 ≤ z4 ∧ z4 ≤ 12 := (vc_X1_goThrough_13_4 h7 h1 h6.1 h8 h6.2)
  refine mr_iload_n (pc := 12) (z := p2) dX1_goThrough_12 rfl rfl ?_
  refine mr_bipush (pc := 13) (z := 12) dX1_goThrough_13 (by decide) ?_
  refine mr_icmp_le (pc := 15) (tgt := 19) dX1_goThrough_15 (by decide) (r32 hp2 rfl) (r32 (rR (x := 12)) rfl) (fun _ => ?_) (fun h => ((vc_X1_goThrough_1_5 h hp2)).elim)
  refine sv_aload_n (pc := 19) dX1_goThrough_19 rfl rfl ?_
  refine gf_X1_1 (pc := 20) dX1_goThrough_20 wF_X1_17 (A_21 hw) hT ?_
  refine mr_iload_n (pc := 23) (z := p1) dX1_goThrough_23 rfl rfl ?_
  refine la_22 (pc := 24) dX1_goThrough_24 (A_22 hw) hT (rIx (n := 12) h8 rfl) (vc_X1_goThrough_12_6 h1 h6.1 h7 h8 h9) fun b10 q11 A12 => ?_
  refine mr_astore_n (pc := 25) (lv' := [(3, .ref b10), (0, .ref 21), (1, iv p1), (2, iv p2)]) dX1_goThrough_25 rfl (by decide) rfl ?_
  obtain ⟨c13, z14, q15, A16, q17, R18, e19, e20⟩ := PC.read hIPC hT A12 (vc_X1_goThrough_12_7 h1 h7 h6.1 h8 h9) (vc_X1_goThrough_12_6 h1 h6.1 h7 h8 h9) q11
  have h21 : 0 ≤ z14 ∧ z14 ≤ 30 := by rw [← q17]; exact hT _ _ A12 0
  refine mr_iconst (pc := 26) (z := 0) dX1_goThrough_26 ?_
  refine mr_istore (pc := 27) (lv' := [(4, iv 0), (3, .ref b10), (0, .ref 21), (1, iv p1), (2, iv p2)]) dX1_goThrough_27 (by decide) rfl ?_
  refine mr_iconst (pc := 29) (z := 0) dX1_goThrough_29 ?_
  refine mr_istore (pc := 30) (lv' := [(5, iv 0), (4, iv 0), (3, .ref b10), (0, .ref 21), (1, iv p1), (2, iv p2)]) dX1_goThrough_30 (by decide) rfl ?_
  have L1192 : ∀ (nL1192 : Nat) (z1190 z1189 : Int) (μ1191 : mM), mT w μ1191 → mF [21006, 21007, 200004, 200006, 200007, 200008, 201999, 202999] w μ μ1191 → (0 ≤ z1190 ∧ z1190 ≤ 2000) → (0 ≤ z1189 ∧ z1189 ≤ 30) → PC w μ1191 → RT μ1191 → wfR (μ c13) (w.2.2.1 c13) (z1190).toNat (z14 - z1189).toNat → (2001 - z1190) < (nL1192 : Int) → sV (gG l D c H0 sa) mX1_goThrough (sRm 27 0 0) (sZ (gG l D c H0 sa) 0 0 (qV w [21006, 21007, 200004, 200006, 200007, 200008, 201999, 202999] μ (fun μ1 => True))) 32 [(0, .ref 21), (2, iv p2), (3, .ref b10), (4, iv z1190), (5, iv z1189)] [] (mk w μ1191) 0 0 := by
    intro nL1192
    induction nL1192 with
    | zero => intro z1190 z1189 μ1191 T1195 F1196 h1193 h1194 I1198 I1199 R1200 h1201; exact ((vc_X1_goThrough_12_8 h1201 h1193)).elim
    | succ nL1192 ih1202 =>
      intro z1190 z1189 μ1191 T1195 F1196 h1193 h1194 I1198 I1199 R1200 h1201
      refine mr_iload (pc := 32) (z := z1189) dX1_goThrough_32 rfl ?_
      refine sv_aload_n (pc := 34) dX1_goThrough_34 rfl rfl ?_
      refine gk_X5_0 (pc := 35) dX1_goThrough_35 wF_X1_57 A12 (F1196.f A12 rfl q17) ?_
      refine mr_icmp_ge (pc := 38) (tgt := 174) dX1_goThrough_38 (by decide) (r32 h1194 rfl) (r32 h21 rfl) (fun h1267 => ?_) (fun h1267 => ?_)
      · exact mr_vret dX1_goThrough_174 rfl (le_t rfl) (le_t rfl) T1195 (mF.call mF.refl F1196 rfl) trivial
      have h1268 : 0 ≤ z1189 ∧ z1189 ≤ 29 := (vc_X12_judgedAnew_2 h1267 h1194 h21)
      have h1269 : 1 ≤ z14 ∧ z14 ≤ 30 := (vc_X12_judgedAnew_3 h1267 h1268 h21)
      refine sv_aload_n (pc := 41) dX1_goThrough_41 rfl rfl ?_
      refine gf_X1_7 (pc := 42) dX1_goThrough_42 wF_X1_50 (A_21 hw) T1195 fun z1270 q1271 h1272 => ?_
      refine mr_if_ne (pc := 45) (tgt := 174) dX1_goThrough_45 (by decide) (r32 h1272 rfl) (fun h1332 => ?_) (fun h1332 => ?_)
      · have h1333 : 1 ≤ z1270 ∧ z1270 ≤ 2 := (vc_X12_provides_3 h1332 h1272)
        exact mr_vret dX1_goThrough_174 rfl (le_t rfl) (le_t rfl) T1195 (mF.call mF.refl F1196 rfl) trivial
      have h1334 : 0 ≤ z1270 ∧ z1270 ≤ 0 := (vc_X12_provides_4 h1332 h1272)
      obtain ⟨n_1335, q1336⟩ : ∃ n : Int, (w.2.2.1 c13 : Int) = n := ⟨_, rfl⟩
      have h1337 : 0 ≤ n_1335 ∧ n_1335 ≤ 2000 := lnR (m := 2000) q1336 A16 rfl
      have h1338 : z1190 + 1 < n_1335 := lnLt q1336 (wfR.hd R1200 (vc_X1_goThrough_12_13 h1193) (vc_X1_goThrough_12_14 h1267 h1268 h1269))
      refine sv_aload_n (pc := 48) dX1_goThrough_48 rfl rfl ?_
      refine gk_X5_1 (pc := 49) dX1_goThrough_49 wF_X1_60 A12 (F1196.f A12 rfl q15) ?_
      refine mr_iload (pc := 52) (z := z1190) dX1_goThrough_52 rfl ?_
      refine la_231 (pc := 54) dX1_goThrough_54 A16 T1195 (lnC q1336 (vc_X1_goThrough_12_15 h1338 h1337 h1193)) fun z1339 q1340 h1341 => ?_
      refine mr_istore (pc := 55) (lv' := [(6, iv z1339), (0, .ref 21), (2, iv p2), (3, .ref b10), (4, iv z1190), (5, iv z1189)]) dX1_goThrough_55 (by decide) rfl ?_
      refine sv_aload_n (pc := 57) dX1_goThrough_57 rfl rfl ?_
      refine gk_X5_1 (pc := 58) dX1_goThrough_58 wF_X1_60 A12 (F1196.f A12 rfl q15) ?_
      refine mr_iload (pc := 61) (z := z1190) dX1_goThrough_61 rfl ?_
      refine mr_iconst (pc := 63) (z := 1) dX1_goThrough_63 ?_
      refine mr_iadd (pc := 64) (x := z1190) (y := 1) dX1_goThrough_64 ?_
      refine la_231 (pc := 65) dX1_goThrough_65 A16 T1195 (lnC q1336 (vc_X1_goThrough_12_16 h1338 h1337 h1193)) fun z1342 q1343 h1344 => ?_
      have B1345 := wfR.bd R1200 (vc_X1_goThrough_12_13 h1193) (vc_X1_goThrough_12_14 h1267 h1268 h1269) ((((mF.call mF.refl F1196 rfl) : mF [21006, 21007, 200004, 200006, 200007, 200008, 201999, 202999] w μ μ1191).f A16 rfl rfl).symm.trans q1340) ((((mF.call mF.refl F1196 rfl) : mF [21006, 21007, 200004, 200006, 200007, 200008, 201999, 202999] w μ μ1191).f A16 rfl rfl).symm.trans q1343)
      have h1346 : 0 ≤ z1339 ∧ 0 ≤ z1342 ∧ z1190 + 2 + 5 * z1339 + 2 * z1342 ≤ n_1335 := ⟨B1345.1.1, B1345.1.2.1, lnLe q1336 B1345.1.2.2⟩
      have h1347 : 0 ≤ z1339 ∧ z1339 ≤ 400 := (vc_X1_goThrough_12_17 h1346 h1338 h1337 h1193 h1341 h1344)
      have h1348 : 0 ≤ z1342 ∧ z1342 ≤ 1000 := (vc_X1_goThrough_12_18 h1346 h1338 h1337 h1193 h1347 h1344)
      refine mr_istore (pc := 66) (lv' := [(7, iv z1342), (6, iv z1339), (0, .ref 21), (2, iv p2), (3, .ref b10), (4, iv z1190), (5, iv z1189)]) dX1_goThrough_66 (by decide) rfl ?_
      refine mr_iload (pc := 68) (z := z1190) dX1_goThrough_68 rfl ?_
      refine mr_iconst (pc := 70) (z := 2) dX1_goThrough_70 ?_
      refine mr_iadd (pc := 71) (x := z1190) (y := 2) dX1_goThrough_71 ?_
      refine mr_iload (pc := 72) (z := z1339) dX1_goThrough_72 rfl ?_
      refine mr_iconst (pc := 74) (z := 5) dX1_goThrough_74 ?_
      refine mr_imul (pc := 75) (x := z1339) (y := 5) dX1_goThrough_75 ?_
      refine mr_iadd (pc := 76) (x := (z1190 + 2)) (y := (z1339 * 5)) dX1_goThrough_76 ?_
      refine mr_istore (pc := 77) (lv' := [(8, iv ((z1190 + 2) + (z1339 * 5))), (7, iv z1342), (6, iv z1339), (0, .ref 21), (2, iv p2), (3, .ref b10), (4, iv z1190), (5, iv z1189)]) dX1_goThrough_77 (by decide) rfl ?_
      refine mr_iconst (pc := 79) (z := 1) dX1_goThrough_79 ?_
      refine mr_istore (pc := 80) (lv' := [(9, iv 1), (8, iv ((z1190 + 2) + (z1339 * 5))), (7, iv z1342), (6, iv z1339), (0, .ref 21), (2, iv p2), (3, .ref b10), (4, iv z1190), (5, iv z1189)]) dX1_goThrough_80 (by decide) rfl ?_
      refine mr_iload (pc := 82) (z := z1190) dX1_goThrough_82 rfl ?_
      refine mr_iconst (pc := 84) (z := 2) dX1_goThrough_84 ?_
      refine mr_iadd (pc := 85) (x := z1190) (y := 2) dX1_goThrough_85 ?_
      refine mr_istore (pc := 86) (lv' := [(10, iv (z1190 + 2)), (9, iv 1), (8, iv ((z1190 + 2) + (z1339 * 5))), (7, iv z1342), (6, iv z1339), (0, .ref 21), (2, iv p2), (3, .ref b10), (4, iv z1190), (5, iv z1189)]) dX1_goThrough_86 (by decide) rfl ?_
      have L1468 : ∀ (nL1468 : Nat) (z1467 z1466 : Int), True → (0 ≤ z1467 ∧ z1467 ≤ 1) → (2 ≤ z1466 ∧ z1466 ≤ 2010) → ((((z1190 + 2) + (z1339 * 5)) - z1466) % 5 = 0) → (2011 - z1466) < (nL1468 : Int) → sV (gG l D c H0 sa) mX1_goThrough (sRm 27 0 0) (sZ (gG l D c H0 sa) 0 0 (qV w [21006, 21007, 200004, 200006, 200007, 200008, 201999, 202999] μ (fun μ1 => True))) 88 [(0, .ref 21), (2, iv p2), (3, .ref b10), (5, iv z1189), (7, iv z1342), (8, iv ((z1190 + 2) + (z1339 * 5))), (9, iv z1467), (10, iv z1466)] [] (mk w μ1191) 0 0 := by
        intro nL1468
        induction nL1468 with
        | zero => intro z1467 z1466 _ h1469 h1470 h1474 h1475; exact ((vc_X1_goThrough_12_19 h1475 h1474 h1338 h1346 h1337 h1193 h1347 h1348 h1470)).elim
        | succ nL1468 ih1476 =>
          intro z1467 z1466 _ h1469 h1470 h1474 h1475
          refine mr_iload (pc := 88) (z := z1466) dX1_goThrough_88 rfl ?_
          refine mr_iload (pc := 90) (z := ((z1190 + 2) + (z1339 * 5))) dX1_goThrough_90 rfl ?_
          have J1492 : sV (gG l D c H0 sa) mX1_goThrough (sRm 27 0 0) (sZ (gG l D c H0 sa) 0 0 (qV w [21006, 21007, 200004, 200006, 200007, 200008, 201999, 202999] μ (fun μ1 => True))) 141 [(0, .ref 21), (2, iv p2), (3, .ref b10), (5, iv z1189), (7, iv z1342), (8, iv ((z1190 + 2) + (z1339 * 5))), (9, iv z1467)] [] (mk w μ1191) 0 0 := by
            refine mr_iload (pc := 141) (z := z1467) dX1_goThrough_141 rfl ?_
            refine mr_if_eq (pc := 143) (tgt := 159) dX1_goThrough_143 (by decide) (r32 h1469 rfl) (fun h1499 => ?_) (fun h1499 => ?_)
            · have h1500 : 0 ≤ z1467 ∧ z1467 ≤ 0 := (vc_X12_ring_22 h1499 h1469)
              refine mr_iload (pc := 159) (z := ((z1190 + 2) + (z1339 * 5))) dX1_goThrough_159 rfl ?_
              refine mr_iload (pc := 161) (z := z1342) dX1_goThrough_161 rfl ?_
              refine mr_iconst (pc := 163) (z := 2) dX1_goThrough_163 ?_
              refine mr_imul (pc := 164) (x := z1342) (y := 2) dX1_goThrough_164 ?_
              refine mr_iadd (pc := 165) (x := ((z1190 + 2) + (z1339 * 5))) (y := (z1342 * 2)) dX1_goThrough_165 ?_
              refine mr_istore (pc := 166) (lv' := [(4, iv (((z1190 + 2) + (z1339 * 5)) + (z1342 * 2))), (0, .ref 21), (2, iv p2), (3, .ref b10), (5, iv z1189), (7, iv z1342), (8, iv ((z1190 + 2) + (z1339 * 5))), (9, iv z1467)]) dX1_goThrough_166 (by decide) rfl ?_
              refine mr_iinc (pc := 168) (lv' := [(5, iv (z1189 + 1)), (4, iv (((z1190 + 2) + (z1339 * 5)) + (z1342 * 2))), (0, .ref 21), (2, iv p2), (3, .ref b10), (7, iv z1342), (8, iv ((z1190 + 2) + (z1339 * 5))), (9, iv z1467)]) dX1_goThrough_168 rfl (by decide) rfl ?_
              refine sv_goto (pc := 171) (tgt := 32) dX1_goThrough_171 (by decide) ?_
              refine mr_lvS (lv' := [(0, .ref 21), (2, iv p2), (3, .ref b10), (4, iv (((z1190 + 2) + (z1339 * 5)) + (z1342 * 2))), (5, iv (z1189 + 1))]) (List.forall_mem_cons.mpr ⟨rfl, List.forall_mem_cons.mpr ⟨rfl, List.forall_mem_cons.mpr ⟨rfl, List.forall_mem_cons.mpr ⟨rfl, List.forall_mem_cons.mpr ⟨rfl, fun _ h => absurd h List.not_mem_nil⟩⟩⟩⟩⟩) ?_
              exact ih1202 (((z1190 + 2) + (z1339 * 5)) + (z1342 * 2)) (z1189 + 1) μ1191 T1195 (mF.call mF.refl F1196 rfl) (vc_X1_goThrough_12_21 h1338 h1346 h1474 h1337 h1193 h1347 h1348 h1470) (rW (c := 0) (d := 30) (rAdd (e := 1) (f := 30) h1268 (rR (x := 1)) rfl) rfl) I1198 I1199 (wfR.cg B1345.2.2 (vc_X1_goThrough_12_23 h1338 h1346 h1474 h1337 h1193 h1347 h1348 h1470)) (vc_X1_goThrough_12_22 (nS h1201) h1338 h1346 h1474 h1337 h1193 h1347 h1348 h1470)
            have h1501 : 1 ≤ z1467 ∧ z1467 ≤ 1 := (vc_X12_ring_24 h1499 h1469)
            refine sv_aload_n (pc := 146) dX1_goThrough_146 rfl rfl ?_
            refine sv_aload_n (pc := 147) dX1_goThrough_147 rfl rfl ?_
            refine gk_X5_1 (pc := 148) dX1_goThrough_148 wF_X1_60 A12 (F1196.f A12 rfl q15) ?_
            refine mr_iload (pc := 151) (z := ((z1190 + 2) + (z1339 * 5))) dX1_goThrough_151 rfl ?_
            refine mr_iload (pc := 153) (z := z1342) dX1_goThrough_153 rfl ?_
            refine mr_iload_n (pc := 155) (z := p2) dX1_goThrough_155 rfl rfl ?_
            refine mr_cVV (pc := 156) (c_X1_doActs_1 hw T1195 A16 (vc_X1_goThrough_12_25 h1338 h1346 h1474 h1337 h1193 h1347 h1348 h1470) h1348 hp2 I1198 I1199 (lnL q1336 (vc_X1_goThrough_12_26 h1338 h1346 h1474 h1337 h1193 h1347 h1348 h1470)) (argC B1345.2.1 (vc_X1_goThrough_12_27 h1338 h1346 h1474 h1337 h1193 h1347 h1348 h1470) (funext fun i => ((mF.call mF.refl F1196 rfl) : mF [21006, 21007, 200004, 200006, 200007, 200008, 201999, 202999] w μ μ1191).f A16 rfl rfl))) (gOk _ _ _ _ _) dX1_goThrough_156 (tX1_doActs _ _ _ _ _) ⟨wV_X1_doActs, wL_X1_doActs⟩ wM_X1_68 (gCX1 _ _ _ _ _) rfl (A_21 hw) rfl ⟨le_t rfl, le_t rfl⟩ ⟨le_t rfl, le_t rfl⟩ rfl (le_t rfl) fun μ1502 T1503 F1504 h1505 => ?_
            refine mr_iload (pc := 159) (z := ((z1190 + 2) + (z1339 * 5))) dX1_goThrough_159 rfl ?_
            refine mr_iload (pc := 161) (z := z1342) dX1_goThrough_161 rfl ?_
            refine mr_iconst (pc := 163) (z := 2) dX1_goThrough_163 ?_
            refine mr_imul (pc := 164) (x := z1342) (y := 2) dX1_goThrough_164 ?_
            refine mr_iadd (pc := 165) (x := ((z1190 + 2) + (z1339 * 5))) (y := (z1342 * 2)) dX1_goThrough_165 ?_
            refine mr_istore (pc := 166) (lv' := [(4, iv (((z1190 + 2) + (z1339 * 5)) + (z1342 * 2))), (0, .ref 21), (2, iv p2), (3, .ref b10), (5, iv z1189), (7, iv z1342), (8, iv ((z1190 + 2) + (z1339 * 5))), (9, iv z1467)]) dX1_goThrough_166 (by decide) rfl ?_
            refine mr_iinc (pc := 168) (lv' := [(5, iv (z1189 + 1)), (4, iv (((z1190 + 2) + (z1339 * 5)) + (z1342 * 2))), (0, .ref 21), (2, iv p2), (3, .ref b10), (7, iv z1342), (8, iv ((z1190 + 2) + (z1339 * 5))), (9, iv z1467)]) dX1_goThrough_168 rfl (by decide) rfl ?_
            refine sv_goto (pc := 171) (tgt := 32) dX1_goThrough_171 (by decide) ?_
            refine mr_lvS (lv' := [(0, .ref 21), (2, iv p2), (3, .ref b10), (4, iv (((z1190 + 2) + (z1339 * 5)) + (z1342 * 2))), (5, iv (z1189 + 1))]) (List.forall_mem_cons.mpr ⟨rfl, List.forall_mem_cons.mpr ⟨rfl, List.forall_mem_cons.mpr ⟨rfl, List.forall_mem_cons.mpr ⟨rfl, List.forall_mem_cons.mpr ⟨rfl, fun _ h => absurd h List.not_mem_nil⟩⟩⟩⟩⟩) ?_
            exact ih1202 (((z1190 + 2) + (z1339 * 5)) + (z1342 * 2)) (z1189 + 1) μ1502 T1503 (mF.call (mF.call mF.refl F1196 rfl) F1504 rfl) (vc_X1_goThrough_12_21 h1338 h1346 h1474 h1337 h1193 h1347 h1348 h1470) (rW (c := 0) (d := 30) (rAdd (e := 1) (f := 30) h1268 (rR (x := 1)) rfl) rfl) (PC.keep I1198 hw ((mF.call mF.refl F1504 rfl) : mF [21006, 21007, 200004, 200006, 200007, 200008, 201999, 202999] w μ1191 μ1502) rfl) (RT.keep I1199 hw ((mF.call mF.refl F1504 rfl) : mF [21006, 21007, 200004, 200006, 200007, 200008, 201999, 202999] w μ1191 μ1502) rfl) (wfR.cg B1345.2.2 (vc_X1_goThrough_12_23 h1338 h1346 h1474 h1337 h1193 h1347 h1348 h1470)) (vc_X1_goThrough_12_22 (nS h1201) h1338 h1346 h1474 h1337 h1193 h1347 h1348 h1470)
          refine mr_icmp_ge (pc := 92) (tgt := 141) dX1_goThrough_92 (by decide) (r32 h1470 rfl) (r32 (rAdd (e := 2) (f := 4002) (rAdd (e := 2) (f := 2002) h1193 (rR (x := 2)) rfl) (rMulR (n := 5) (e := 0) (f := 2000) h1347 rfl) rfl) rfl) (fun h1506 => ?_) (fun h1506 => ?_)
          · refine mr_lvS (lv' := [(0, .ref 21), (2, iv p2), (3, .ref b10), (5, iv z1189), (7, iv z1342), (8, iv ((z1190 + 2) + (z1339 * 5))), (9, iv z1467)]) (List.forall_mem_cons.mpr ⟨rfl, List.forall_mem_cons.mpr ⟨rfl, List.forall_mem_cons.mpr ⟨rfl, List.forall_mem_cons.mpr ⟨rfl, List.forall_mem_cons.mpr ⟨rfl, List.forall_mem_cons.mpr ⟨rfl, List.forall_mem_cons.mpr ⟨rfl, fun _ h => absurd h List.not_mem_nil⟩⟩⟩⟩⟩⟩⟩) ?_
            exact J1492 
          refine mr_iload (pc := 95) (z := z1467) dX1_goThrough_95 rfl ?_
          refine mr_if_eq (pc := 97) (tgt := 141) dX1_goThrough_97 (by decide) (r32 h1469 rfl) (fun h1507 => ?_) (fun h1507 => ?_)
          · have h1508 : 0 ≤ z1467 ∧ z1467 ≤ 0 := (vc_X12_ring_22 h1507 h1469)
            refine mr_lvS (lv' := [(0, .ref 21), (2, iv p2), (3, .ref b10), (5, iv z1189), (7, iv z1342), (8, iv ((z1190 + 2) + (z1339 * 5))), (9, iv z1467)]) (List.forall_mem_cons.mpr ⟨rfl, List.forall_mem_cons.mpr ⟨rfl, List.forall_mem_cons.mpr ⟨rfl, List.forall_mem_cons.mpr ⟨rfl, List.forall_mem_cons.mpr ⟨rfl, List.forall_mem_cons.mpr ⟨rfl, List.forall_mem_cons.mpr ⟨rfl, fun _ h => absurd h List.not_mem_nil⟩⟩⟩⟩⟩⟩⟩) ?_
            exact J1492 
          have h1509 : 1 ≤ z1467 ∧ z1467 ≤ 1 := (vc_X12_ring_24 h1507 h1469)
          refine sv_aload_n (pc := 100) dX1_goThrough_100 rfl rfl ?_
          refine sv_aload_n (pc := 101) dX1_goThrough_101 rfl rfl ?_
          refine mr_iload (pc := 102) (z := z1466) dX1_goThrough_102 rfl ?_
          refine mr_cVP (pc := 104) (c_X1_isSo hw T1195 A12 (vc_X1_goThrough_12_28 h1474 h1506 h1338 h1346 h1337 h1193 h1347 h1348 h1470) I1199 (lnF (F1196.f A12 rfl q15) q1336 (vc_X1_goThrough_12_29 h1338 h1346 h1474 h1506 h1337 h1193 h1347 h1348 h1470)) (by rw [((mF.call mF.refl F1196 rfl) : mF [21006, 21007, 200004, 200006, 200007, 200008, 201999, 202999] w μ μ1191).f (k := 2) A12 rfl rfl, ((mF.call mF.refl F1196 rfl) : mF [21006, 21007, 200004, 200006, 200007, 200008, 201999, 202999] w μ μ1191).f (k := 3) A12 rfl rfl]; exact e19) (by rw [((mF.call mF.refl F1196 rfl) : mF [21006, 21007, 200004, 200006, 200007, 200008, 201999, 202999] w μ μ1191).f (k := 4) A12 rfl rfl, ((mF.call mF.refl F1196 rfl) : mF [21006, 21007, 200004, 200006, 200007, 200008, 201999, 202999] w μ μ1191).f (k := 5) A12 rfl rfl]; exact e20)) (gOk _ _ _ _ _) dX1_goThrough_104 (tX1_isSo _ _ _ _ _) ⟨wV_X1_isSo, wL_X1_isSo⟩ wM_X1_64 (gCX1 _ _ _ _ _) rfl (A_21 hw) rfl ⟨le_t rfl, le_t rfl⟩ ⟨le_t rfl, le_t rfl⟩ rfl (le_t rfl) fun z1514 h1513 => ?_
          refine sv_aload_n (pc := 107) dX1_goThrough_107 rfl rfl ?_
          refine gk_X5_1 (pc := 108) dX1_goThrough_108 wF_X1_60 A12 (F1196.f A12 rfl q15) ?_
          refine mr_iload (pc := 111) (z := z1466) dX1_goThrough_111 rfl ?_
          refine mr_iconst (pc := 113) (z := 1) dX1_goThrough_113 ?_
          refine mr_iadd (pc := 114) (x := z1466) (y := 1) dX1_goThrough_114 ?_
          refine la_231 (pc := 115) dX1_goThrough_115 A16 T1195 (lnC q1336 (vc_X1_goThrough_12_30 h1338 h1346 h1474 h1506 h1337 h1193 h1347 h1348 h1470)) fun z1515 q1516 h1517 => ?_
          refine mr_iconst (pc := 116) (z := 1) dX1_goThrough_116 ?_
          refine mr_icmp_ne (pc := 117) (tgt := 124) dX1_goThrough_117 (by decide) h1517 (r32 (rR (x := 1)) rfl) (fun h1519 => ?_) (fun h1519 => ?_)
          · refine mr_iconst (pc := 124) (z := 0) dX1_goThrough_124 ?_
            refine mr_icmp_eq (pc := 125) (tgt := 132) dX1_goThrough_125 (by decide) (r32 h1513.1 rfl) (r32 (rR (x := 0)) rfl) (fun h1522 => ?_) (fun h1522 => ?_)
            · have h1523 : 0 ≤ z1514 ∧ z1514 ≤ 0 := (vc_X12_ring_22 h1522 h1513.1)
              refine mr_iconst (pc := 132) (z := 0) dX1_goThrough_132 ?_
              refine mr_istore (pc := 133) (lv' := [(9, iv 0), (0, .ref 21), (2, iv p2), (3, .ref b10), (5, iv z1189), (7, iv z1342), (8, iv ((z1190 + 2) + (z1339 * 5))), (10, iv z1466)]) dX1_goThrough_133 (by decide) rfl ?_
              refine mr_iinc (pc := 135) (lv' := [(10, iv (z1466 + 5)), (9, iv 0), (0, .ref 21), (2, iv p2), (3, .ref b10), (5, iv z1189), (7, iv z1342), (8, iv ((z1190 + 2) + (z1339 * 5)))]) dX1_goThrough_135 rfl (by decide) rfl ?_
              refine sv_goto (pc := 138) (tgt := 88) dX1_goThrough_138 (by decide) ?_
              refine mr_lvS (lv' := [(0, .ref 21), (2, iv p2), (3, .ref b10), (5, iv z1189), (7, iv z1342), (8, iv ((z1190 + 2) + (z1339 * 5))), (9, iv 0), (10, iv (z1466 + 5))]) (List.forall_mem_cons.mpr ⟨rfl, List.forall_mem_cons.mpr ⟨rfl, List.forall_mem_cons.mpr ⟨rfl, List.forall_mem_cons.mpr ⟨rfl, List.forall_mem_cons.mpr ⟨rfl, List.forall_mem_cons.mpr ⟨rfl, List.forall_mem_cons.mpr ⟨rfl, List.forall_mem_cons.mpr ⟨rfl, fun _ h => absurd h List.not_mem_nil⟩⟩⟩⟩⟩⟩⟩⟩) ?_
              exact ih1476 0 (z1466 + 5) trivial (rW (c := 0) (d := 1) (rR (x := 0)) rfl) (vc_X1_goThrough_12_32 h1474 h1506 h1338 h1346 h1337 h1193 h1347 h1348 h1470) (vc_X1_goThrough_12_33 h1338 h1346 h1474 h1506 h1337 h1193 h1347 h1348 h1470) (vc_X1_goThrough_12_34 (nS h1475) h1474 h1506 h1338 h1346 h1337 h1193 h1347 h1348 h1470)
            have h1524 : 1 ≤ z1514 ∧ z1514 ≤ 1 := (vc_X12_ring_24 h1522 h1513.1)
            refine mr_iconst (pc := 128) (z := 1) dX1_goThrough_128 ?_
            refine sv_goto (pc := 129) (tgt := 133) dX1_goThrough_129 (by decide) ?_
            refine mr_istore (pc := 133) (lv' := [(9, iv 1), (0, .ref 21), (2, iv p2), (3, .ref b10), (5, iv z1189), (7, iv z1342), (8, iv ((z1190 + 2) + (z1339 * 5))), (10, iv z1466)]) dX1_goThrough_133 (by decide) rfl ?_
            refine mr_iinc (pc := 135) (lv' := [(10, iv (z1466 + 5)), (9, iv 1), (0, .ref 21), (2, iv p2), (3, .ref b10), (5, iv z1189), (7, iv z1342), (8, iv ((z1190 + 2) + (z1339 * 5)))]) dX1_goThrough_135 rfl (by decide) rfl ?_
            refine sv_goto (pc := 138) (tgt := 88) dX1_goThrough_138 (by decide) ?_
            refine mr_lvS (lv' := [(0, .ref 21), (2, iv p2), (3, .ref b10), (5, iv z1189), (7, iv z1342), (8, iv ((z1190 + 2) + (z1339 * 5))), (9, iv 1), (10, iv (z1466 + 5))]) (List.forall_mem_cons.mpr ⟨rfl, List.forall_mem_cons.mpr ⟨rfl, List.forall_mem_cons.mpr ⟨rfl, List.forall_mem_cons.mpr ⟨rfl, List.forall_mem_cons.mpr ⟨rfl, List.forall_mem_cons.mpr ⟨rfl, List.forall_mem_cons.mpr ⟨rfl, List.forall_mem_cons.mpr ⟨rfl, fun _ h => absurd h List.not_mem_nil⟩⟩⟩⟩⟩⟩⟩⟩) ?_
            exact ih1476 1 (z1466 + 5) trivial (rW (c := 0) (d := 1) (rR (x := 1)) rfl) (vc_X1_goThrough_12_32 h1474 h1506 h1338 h1346 h1337 h1193 h1347 h1348 h1470) (vc_X1_goThrough_12_33 h1338 h1346 h1474 h1506 h1337 h1193 h1347 h1348 h1470) (vc_X1_goThrough_12_34 (nS h1475) h1474 h1506 h1338 h1346 h1337 h1193 h1347 h1348 h1470)
          have h1525 : 1 ≤ z1515 ∧ z1515 ≤ 1 := (vc_X0_compareAt_1 h1519 h1517)
          refine mr_iconst (pc := 120) (z := 1) dX1_goThrough_120 ?_
          refine sv_goto (pc := 121) (tgt := 125) dX1_goThrough_121 (by decide) ?_
          refine mr_icmp_eq (pc := 125) (tgt := 132) dX1_goThrough_125 (by decide) (r32 h1513.1 rfl) (r32 (rR (x := 1)) rfl) (fun h1528 => ?_) (fun h1528 => ?_)
          · have h1529 : 1 ≤ z1514 ∧ z1514 ≤ 1 := (vc_X1_goThrough_12_37 h1528 h1513.1)
            refine mr_iconst (pc := 132) (z := 0) dX1_goThrough_132 ?_
            refine mr_istore (pc := 133) (lv' := [(9, iv 0), (0, .ref 21), (2, iv p2), (3, .ref b10), (5, iv z1189), (7, iv z1342), (8, iv ((z1190 + 2) + (z1339 * 5))), (10, iv z1466)]) dX1_goThrough_133 (by decide) rfl ?_
            refine mr_iinc (pc := 135) (lv' := [(10, iv (z1466 + 5)), (9, iv 0), (0, .ref 21), (2, iv p2), (3, .ref b10), (5, iv z1189), (7, iv z1342), (8, iv ((z1190 + 2) + (z1339 * 5)))]) dX1_goThrough_135 rfl (by decide) rfl ?_
            refine sv_goto (pc := 138) (tgt := 88) dX1_goThrough_138 (by decide) ?_
            refine mr_lvS (lv' := [(0, .ref 21), (2, iv p2), (3, .ref b10), (5, iv z1189), (7, iv z1342), (8, iv ((z1190 + 2) + (z1339 * 5))), (9, iv 0), (10, iv (z1466 + 5))]) (List.forall_mem_cons.mpr ⟨rfl, List.forall_mem_cons.mpr ⟨rfl, List.forall_mem_cons.mpr ⟨rfl, List.forall_mem_cons.mpr ⟨rfl, List.forall_mem_cons.mpr ⟨rfl, List.forall_mem_cons.mpr ⟨rfl, List.forall_mem_cons.mpr ⟨rfl, List.forall_mem_cons.mpr ⟨rfl, fun _ h => absurd h List.not_mem_nil⟩⟩⟩⟩⟩⟩⟩⟩) ?_
            exact ih1476 0 (z1466 + 5) trivial (rW (c := 0) (d := 1) (rR (x := 0)) rfl) (vc_X1_goThrough_12_32 h1474 h1506 h1338 h1346 h1337 h1193 h1347 h1348 h1470) (vc_X1_goThrough_12_33 h1338 h1346 h1474 h1506 h1337 h1193 h1347 h1348 h1470) (vc_X1_goThrough_12_34 (nS h1475) h1474 h1506 h1338 h1346 h1337 h1193 h1347 h1348 h1470)
          have h1530 : 0 ≤ z1514 ∧ z1514 ≤ 0 := (vc_X1_goThrough_12_38 h1528 h1513.1)
          refine mr_iconst (pc := 128) (z := 1) dX1_goThrough_128 ?_
          refine sv_goto (pc := 129) (tgt := 133) dX1_goThrough_129 (by decide) ?_
          refine mr_istore (pc := 133) (lv' := [(9, iv 1), (0, .ref 21), (2, iv p2), (3, .ref b10), (5, iv z1189), (7, iv z1342), (8, iv ((z1190 + 2) + (z1339 * 5))), (10, iv z1466)]) dX1_goThrough_133 (by decide) rfl ?_
          refine mr_iinc (pc := 135) (lv' := [(10, iv (z1466 + 5)), (9, iv 1), (0, .ref 21), (2, iv p2), (3, .ref b10), (5, iv z1189), (7, iv z1342), (8, iv ((z1190 + 2) + (z1339 * 5)))]) dX1_goThrough_135 rfl (by decide) rfl ?_
          refine sv_goto (pc := 138) (tgt := 88) dX1_goThrough_138 (by decide) ?_
          refine mr_lvS (lv' := [(0, .ref 21), (2, iv p2), (3, .ref b10), (5, iv z1189), (7, iv z1342), (8, iv ((z1190 + 2) + (z1339 * 5))), (9, iv 1), (10, iv (z1466 + 5))]) (List.forall_mem_cons.mpr ⟨rfl, List.forall_mem_cons.mpr ⟨rfl, List.forall_mem_cons.mpr ⟨rfl, List.forall_mem_cons.mpr ⟨rfl, List.forall_mem_cons.mpr ⟨rfl, List.forall_mem_cons.mpr ⟨rfl, List.forall_mem_cons.mpr ⟨rfl, List.forall_mem_cons.mpr ⟨rfl, fun _ h => absurd h List.not_mem_nil⟩⟩⟩⟩⟩⟩⟩⟩) ?_
          exact ih1476 1 (z1466 + 5) trivial (rW (c := 0) (d := 1) (rR (x := 1)) rfl) (vc_X1_goThrough_12_32 h1474 h1506 h1338 h1346 h1337 h1193 h1347 h1348 h1470) (vc_X1_goThrough_12_33 h1338 h1346 h1474 h1506 h1337 h1193 h1347 h1348 h1470) (vc_X1_goThrough_12_34 (nS h1475) h1474 h1506 h1338 h1346 h1337 h1193 h1347 h1348 h1470)
      refine mr_lvS (lv' := [(0, .ref 21), (2, iv p2), (3, .ref b10), (5, iv z1189), (7, iv z1342), (8, iv ((z1190 + 2) + (z1339 * 5))), (9, iv 1), (10, iv (z1190 + 2))]) (List.forall_mem_cons.mpr ⟨rfl, List.forall_mem_cons.mpr ⟨rfl, List.forall_mem_cons.mpr ⟨rfl, List.forall_mem_cons.mpr ⟨rfl, List.forall_mem_cons.mpr ⟨rfl, List.forall_mem_cons.mpr ⟨rfl, List.forall_mem_cons.mpr ⟨rfl, List.forall_mem_cons.mpr ⟨rfl, fun _ h => absurd h List.not_mem_nil⟩⟩⟩⟩⟩⟩⟩⟩) ?_
      exact L1468 2010 1 (z1190 + 2) trivial (rW (c := 0) (d := 1) (rR (x := 1)) rfl) (rW (c := 2) (d := 2010) (rAdd (e := 2) (f := 2002) h1193 (rR (x := 2)) rfl) rfl) (vc_X1_goThrough_12_39 h1338 h1346 h1337 h1193 h1347 h1348) (vc_X1_goThrough_12_40 h1338 h1346 h1337 h1193 h1347 h1348)
  refine mr_lvS (lv' := [(0, .ref 21), (2, iv p2), (3, .ref b10), (4, iv 0), (5, iv 0)]) (List.forall_mem_cons.mpr ⟨rfl, List.forall_mem_cons.mpr ⟨rfl, List.forall_mem_cons.mpr ⟨rfl, List.forall_mem_cons.mpr ⟨rfl, List.forall_mem_cons.mpr ⟨rfl, fun _ h => absurd h List.not_mem_nil⟩⟩⟩⟩⟩) ?_
  exact L1192 2002 0 0 μ hT mF.refl (rW (c := 0) (d := 2000) (rR (x := 0)) rfl) (rW (c := 0) (d := 30) (rR (x := 0)) rfl) hIPC hIRT R18 vc_X1_goThrough_12_41
set_option maxRecDepth 4000 in
set_option maxHeartbeats 4000000 in
theorem c_X1_doActs_0 {l : Launch} {D : va_G} {c : Nat → ClassId} {H0 : Heap} {sa : Nat × Nat × (Nat → Int32)} {w : mW} {μ : mM} (hw : mWF w) (hT : mT w μ) {a1 : Nat} (hA1 : mAt w a1 231) {p2 : Int} (hp2 : 0 ≤ p2 ∧ p2 ≤ 2000) {p3 : Int} (hp3 : 0 ≤ p3 ∧ p3 ≤ 1000) {p4 : Int} (hp4 : 0 ≤ p4 ∧ p4 ≤ 0) (hIPC : PC w μ) (hIRT : RT μ) (hlen : p2 + 2 * p3 ≤ (w.2.2.1 a1 : Int)) (harg : ∀ i : Int, 0 ≤ i → i < p3 → 0 ≤ μ a1 (p2 + 2 * i + 1).toNat ∧ μ a1 (p2 + 2 * i + 1).toNat ≤ 1000000) : sC (gG l D c H0 sa) mX1_doActs 28 0 0 [.ref 21, .ref a1, iv p2, iv p3, iv p4] (mk w μ) (qV w [21006, 21007, 200004, 200006, 200007, 200008, 201999, 202999] μ (fun μ1 => True)) := by
  refine sC.of rfl (by decide) (le_t rfl) ?_
  refine mr_lvE (lv' := [(0, .ref 21), (1, .ref a1), (2, iv p2), (3, iv p3), (4, iv p4)]) rfl ?_
  obtain ⟨n_1, q2⟩ : ∃ n : Int, (w.2.2.1 a1 : Int) = n := ⟨_, rfl⟩
  have h3 : 0 ≤ n_1 ∧ n_1 ≤ 2000 := lnR (m := 2000) q2 hA1 rfl
  have h4 : p2 + 2 * p3 ≤ n_1 := lnLe q2 hlen
  refine mr_iconst (pc := 0) (z := 0) dX1_doActs_0 ?_
  refine mr_istore (pc := 1) (lv' := [(5, iv 0), (0, .ref 21), (1, .ref a1), (2, iv p2), (3, iv p3), (4, iv p4)]) dX1_doActs_1 (by decide) rfl ?_
  have L1991 : ∀ (nL1991 : Nat) (z1989 : Int) (μ1990 : mM), mT w μ1990 → mF [21006, 21007, 200004, 200006, 200007, 200008, 201999, 202999] w μ μ1990 → (0 ≤ z1989 ∧ z1989 ≤ 1000) → PC w μ1990 → RT μ1990 → (1001 - z1989) < (nL1991 : Int) → sV (gG l D c H0 sa) mX1_doActs (sRm 28 0 0) (sZ (gG l D c H0 sa) 0 0 (qV w [21006, 21007, 200004, 200006, 200007, 200008, 201999, 202999] μ (fun μ1 => True))) 3 [(0, .ref 21), (1, .ref a1), (2, iv p2), (3, iv p3), (4, iv p4), (5, iv z1989)] [] (mk w μ1990) 0 0 := by
    intro nL1991
    induction nL1991 with
    | zero => intro z1989 μ1990 T1993 F1994 h1992 I1996 I1997 h1998; exact ((vc_X1_doActs_12_1 h1998 h1992)).elim
    | succ nL1991 ih1999 =>
      intro z1989 μ1990 T1993 F1994 h1992 I1996 I1997 h1998
      refine mr_iload (pc := 3) (z := z1989) dX1_doActs_3 rfl ?_
      refine mr_iload_n (pc := 5) (z := p3) dX1_doActs_5 rfl rfl ?_
      refine mr_icmp_ge (pc := 6) (tgt := 266) dX1_doActs_6 (by decide) (r32 h1992 rfl) (r32 hp3 rfl) (fun h2000 => ?_) (fun h2000 => ?_)
      · exact mr_vret dX1_doActs_266 rfl (le_t rfl) (le_t rfl) T1993 (mF.call mF.refl F1994 rfl) trivial
      have h2001 : 0 ≤ z1989 ∧ z1989 ≤ 999 := (vc_X1_doActs_12_2 h2000 h4 h3 hp2 hp3 h1992)
      have h2002 : 1 ≤ p3 ∧ p3 ≤ 1000 := (vc_X1_doActs_12_3 h2000 h4 h3 hp2 hp3 h2001)
      refine sv_aload_n (pc := 9) dX1_doActs_9 rfl rfl ?_
      refine gf_X1_7 (pc := 10) dX1_doActs_10 wF_X1_50 (A_21 hw) T1993 fun z2003 q2004 h2005 => ?_
      refine mr_if_ne (pc := 13) (tgt := 266) dX1_doActs_13 (by decide) (r32 h2005 rfl) (fun h2006 => ?_) (fun h2006 => ?_)
      · have h2007 : 1 ≤ z2003 ∧ z2003 ≤ 2 := (vc_X12_provides_3 h2006 h2005)
        exact mr_vret dX1_doActs_266 rfl (le_t rfl) (le_t rfl) T1993 (mF.call mF.refl F1994 rfl) trivial
      have h2008 : 0 ≤ z2003 ∧ z2003 ≤ 0 := (vc_X12_provides_4 h2006 h2005)
      refine sv_aload_n (pc := 16) dX1_doActs_16 rfl rfl ?_
      refine mr_iload_n (pc := 17) (z := p2) dX1_doActs_17 rfl rfl ?_
      refine mr_iload (pc := 18) (z := z1989) dX1_doActs_18 rfl ?_
      refine mr_iconst (pc := 20) (z := 2) dX1_doActs_20 ?_
      refine mr_imul (pc := 21) (x := z1989) (y := 2) dX1_doActs_21 ?_
      refine mr_iadd (pc := 22) (x := p2) (y := (z1989 * 2)) dX1_doActs_22 ?_
      refine mr_iconst (pc := 23) (z := 1) dX1_doActs_23 ?_
      refine mr_iadd (pc := 24) (x := (p2 + (z1989 * 2))) (y := 1) dX1_doActs_24 ?_
      refine la_231 (pc := 25) dX1_doActs_25 hA1 T1993 (lnC q2 (vc_X1_doActs_12_6 h4 h2000 h3 hp2 h2002 h2001)) fun z2009 q2010 h2011 => ?_
      have h2012 : 0 ≤ z2009 ∧ z2009 ≤ 1000000 := argB harg (vc_X1_doActs_12_7 h2000 h4 h3 hp2 h2002 h2001) (vc_X1_doActs_12_8 h4 h2000 h3 hp2 h2002 h2001) (vc_X1_doActs_12_9 h4 h2000 h3 hp2 h2002 h2001) (((mF.call mF.refl F1994 rfl) : mF [21006, 21007, 200004, 200006, 200007, 200008, 201999, 202999] w μ μ1990).f hA1 rfl rfl) q2010
      refine mr_istore (pc := 26) (lv' := [(6, iv z2009), (0, .ref 21), (1, .ref a1), (2, iv p2), (3, iv p3), (4, iv p4), (5, iv z1989)]) dX1_doActs_26 (by decide) rfl ?_
      refine sv_aload_n (pc := 28) dX1_doActs_28 rfl rfl ?_
      refine gf_X1_6 (pc := 29) dX1_doActs_29 wF_X1_47 (A_21 hw) T1993 fun z2013 q2014 h2015 => ?_
      refine mr_sipush (pc := 32) (z := 500) dX1_doActs_32 (by decide) ?_
      refine mr_icmp_lt (pc := 35) (tgt := 44) dX1_doActs_35 (by decide) (r32 h2015 rfl) (r32 (rR (x := 500)) rfl) (fun h2016 => ?_) (fun h2016 => ?_)
      · have h2017 : 0 ≤ z2013 ∧ z2013 ≤ 499 := (vc_X1_doActs_12_10 h2016 h2015)
        refine sv_aload_n (pc := 44) dX1_doActs_44 rfl rfl ?_
        refine sv_dup (pc := 45) dX1_doActs_45 rfl ?_
        refine gk_X1_6 (pc := 46) dX1_doActs_46 wF_X1_47 (A_21 hw) q2014 ?_
        refine mr_iconst (pc := 49) (z := 1) dX1_doActs_49 ?_
        refine mr_iadd (pc := 50) (x := z2013) (y := 1) dX1_doActs_50 ?_
        refine pf_X1_6 (pc := 51) dX1_doActs_51 wF_X1_47 (A_21 hw) T1993 (rW (c := 0) (d := 500) (rAdd (e := 1) (f := 500) h2017 (rR (x := 1)) rfl) rfl) fun μ2018 u2019 T2020 => ?_
        refine sv_aload_n (pc := 54) dX1_doActs_54 rfl rfl ?_
        refine mr_iload_n (pc := 55) (z := p2) dX1_doActs_55 rfl rfl ?_
        refine mr_iload (pc := 56) (z := z1989) dX1_doActs_56 rfl ?_
        refine mr_iconst (pc := 58) (z := 2) dX1_doActs_58 ?_
        refine mr_imul (pc := 59) (x := z1989) (y := 2) dX1_doActs_59 ?_
        refine mr_iadd (pc := 60) (x := p2) (y := (z1989 * 2)) dX1_doActs_60 ?_
        refine la_231 (pc := 61) dX1_doActs_61 hA1 T2020 (lnC q2 (vc_X1_doActs_12_11 h4 h2000 h3 hp2 h2002 h2001)) fun z2021 q2022 h2023 => ?_
        by_cases h2024 : z2021 = 12
        · refine mr_tableIn (pc := 62) (v := 12) (tgt := 184) dX1_doActs_62 h2024 rfl rfl (by decide) ?_
          have h2025 : 12 ≤ z2021 ∧ z2021 ≤ 12 := (vc_X1_doActs_12_12 h2024 h2023)
          refine sv_aload_n (pc := 184) dX1_doActs_184 rfl rfl ?_
          refine gf_X1_2 (pc := 185) dX1_doActs_185 wF_X1_25 (A_21 hw) T2020 (RT.keep I1997 hw ((mF.up mF.refl (A_21 hw) u2019 rfl) : mF [21006] w μ1990 μ2018) rfl) fun b2026 q2027 A2028 => ?_
          refine mr_iload (pc := 188) (z := z2009) dX1_doActs_188 rfl ?_
          refine pf_X7_4 (pc := 190) dX1_doActs_190 wF_X1_105 A2028 T2020 (rW (c := (-2147483648)) (d := 2147483647) h2012 rfl) fun μ2029 u2030 T2031 => ?_
          refine sv_goto (pc := 193) (tgt := 260) dX1_doActs_193 (by decide) ?_
          refine mr_iinc (pc := 260) (lv' := [(5, iv (z1989 + 1)), (6, iv z2009), (0, .ref 21), (1, .ref a1), (2, iv p2), (3, iv p3), (4, iv p4)]) dX1_doActs_260 rfl (by decide) rfl ?_
          refine sv_goto (pc := 263) (tgt := 3) dX1_doActs_263 (by decide) ?_
          refine mr_lvS (lv' := [(0, .ref 21), (1, .ref a1), (2, iv p2), (3, iv p3), (4, iv p4), (5, iv (z1989 + 1))]) (List.forall_mem_cons.mpr ⟨rfl, List.forall_mem_cons.mpr ⟨rfl, List.forall_mem_cons.mpr ⟨rfl, List.forall_mem_cons.mpr ⟨rfl, List.forall_mem_cons.mpr ⟨rfl, List.forall_mem_cons.mpr ⟨rfl, fun _ h => absurd h List.not_mem_nil⟩⟩⟩⟩⟩⟩) ?_
          exact ih1999 (z1989 + 1) μ2029 T2031 (mF.up (mF.up (mF.call mF.refl F1994 rfl) (A_21 hw) u2019 rfl) A2028 u2030 rfl) (rW (c := 0) (d := 1000) (rAdd (e := 1) (f := 1000) h2001 (rR (x := 1)) rfl) rfl) (PC.keep I1996 hw ((mF.up (mF.up mF.refl (A_21 hw) u2019 rfl) A2028 u2030 rfl) : mF [21006, 200004] w μ1990 μ2029) rfl) (RT.keep I1997 hw ((mF.up (mF.up mF.refl (A_21 hw) u2019 rfl) A2028 u2030 rfl) : mF [21006, 200004] w μ1990 μ2029) rfl) (vc_X1_doActs_12_13 (nS h1998) h2000 h4 h3 hp2 h2002 h2001)
        by_cases h2032 : z2021 = 13
        · refine mr_tableIn (pc := 62) (v := 13) (tgt := 196) dX1_doActs_62 h2032 rfl rfl (by decide) ?_
          have h2033 : 13 ≤ z2021 ∧ z2021 ≤ 13 := (vc_X1_doActs_12_14 h2032 h2024 h2023)
          refine sv_aload_n (pc := 196) dX1_doActs_196 rfl rfl ?_
          refine gf_X1_2 (pc := 197) dX1_doActs_197 wF_X1_25 (A_21 hw) T2020 (RT.keep I1997 hw ((mF.up mF.refl (A_21 hw) u2019 rfl) : mF [21006] w μ1990 μ2018) rfl) fun b2034 q2035 A2036 => ?_
          refine mr_iload (pc := 200) (z := z2009) dX1_doActs_200 rfl ?_
          refine pf_X7_6 (pc := 202) dX1_doActs_202 wF_X1_108 A2036 T2020 (rW (c := (-2147483648)) (d := 2147483647) h2012 rfl) fun μ2037 u2038 T2039 => ?_
          refine sv_goto (pc := 205) (tgt := 260) dX1_doActs_205 (by decide) ?_
          refine mr_iinc (pc := 260) (lv' := [(5, iv (z1989 + 1)), (6, iv z2009), (0, .ref 21), (1, .ref a1), (2, iv p2), (3, iv p3), (4, iv p4)]) dX1_doActs_260 rfl (by decide) rfl ?_
          refine sv_goto (pc := 263) (tgt := 3) dX1_doActs_263 (by decide) ?_
          refine mr_lvS (lv' := [(0, .ref 21), (1, .ref a1), (2, iv p2), (3, iv p3), (4, iv p4), (5, iv (z1989 + 1))]) (List.forall_mem_cons.mpr ⟨rfl, List.forall_mem_cons.mpr ⟨rfl, List.forall_mem_cons.mpr ⟨rfl, List.forall_mem_cons.mpr ⟨rfl, List.forall_mem_cons.mpr ⟨rfl, List.forall_mem_cons.mpr ⟨rfl, fun _ h => absurd h List.not_mem_nil⟩⟩⟩⟩⟩⟩) ?_
          exact ih1999 (z1989 + 1) μ2037 T2039 (mF.up (mF.up (mF.call mF.refl F1994 rfl) (A_21 hw) u2019 rfl) A2036 u2038 rfl) (rW (c := 0) (d := 1000) (rAdd (e := 1) (f := 1000) h2001 (rR (x := 1)) rfl) rfl) (PC.keep I1996 hw ((mF.up (mF.up mF.refl (A_21 hw) u2019 rfl) A2036 u2038 rfl) : mF [21006, 200006] w μ1990 μ2037) rfl) (RT.keep I1997 hw ((mF.up (mF.up mF.refl (A_21 hw) u2019 rfl) A2036 u2038 rfl) : mF [21006, 200006] w μ1990 μ2037) rfl) (vc_X1_doActs_12_13 (nS h1998) h2000 h4 h3 hp2 h2002 h2001)
        by_cases h2040 : z2021 = 14
        · refine mr_tableIn (pc := 62) (v := 14) (tgt := 260) dX1_doActs_62 h2040 rfl rfl (by decide) ?_
          have h2041 : 14 ≤ z2021 ∧ z2021 ≤ 14 := (vc_X1_doActs_12_15 h2040 h2024 h2032 h2023)
          refine mr_iinc (pc := 260) (lv' := [(5, iv (z1989 + 1)), (6, iv z2009), (0, .ref 21), (1, .ref a1), (2, iv p2), (3, iv p3), (4, iv p4)]) dX1_doActs_260 rfl (by decide) rfl ?_
          refine sv_goto (pc := 263) (tgt := 3) dX1_doActs_263 (by decide) ?_
          refine mr_lvS (lv' := [(0, .ref 21), (1, .ref a1), (2, iv p2), (3, iv p3), (4, iv p4), (5, iv (z1989 + 1))]) (List.forall_mem_cons.mpr ⟨rfl, List.forall_mem_cons.mpr ⟨rfl, List.forall_mem_cons.mpr ⟨rfl, List.forall_mem_cons.mpr ⟨rfl, List.forall_mem_cons.mpr ⟨rfl, List.forall_mem_cons.mpr ⟨rfl, fun _ h => absurd h List.not_mem_nil⟩⟩⟩⟩⟩⟩) ?_
          exact ih1999 (z1989 + 1) μ2018 T2020 (mF.up (mF.call mF.refl F1994 rfl) (A_21 hw) u2019 rfl) (rW (c := 0) (d := 1000) (rAdd (e := 1) (f := 1000) h2001 (rR (x := 1)) rfl) rfl) (PC.keep I1996 hw ((mF.up mF.refl (A_21 hw) u2019 rfl) : mF [21006] w μ1990 μ2018) rfl) (RT.keep I1997 hw ((mF.up mF.refl (A_21 hw) u2019 rfl) : mF [21006] w μ1990 μ2018) rfl) (vc_X1_doActs_12_13 (nS h1998) h2000 h4 h3 hp2 h2002 h2001)
        by_cases h2042 : z2021 = 15
        · refine mr_tableIn (pc := 62) (v := 15) (tgt := 260) dX1_doActs_62 h2042 rfl rfl (by decide) ?_
          have h2043 : 15 ≤ z2021 ∧ z2021 ≤ 15 := (vc_X1_doActs_12_16 h2042 h2024 h2032 h2040 h2023)
          refine mr_iinc (pc := 260) (lv' := [(5, iv (z1989 + 1)), (6, iv z2009), (0, .ref 21), (1, .ref a1), (2, iv p2), (3, iv p3), (4, iv p4)]) dX1_doActs_260 rfl (by decide) rfl ?_
          refine sv_goto (pc := 263) (tgt := 3) dX1_doActs_263 (by decide) ?_
          refine mr_lvS (lv' := [(0, .ref 21), (1, .ref a1), (2, iv p2), (3, iv p3), (4, iv p4), (5, iv (z1989 + 1))]) (List.forall_mem_cons.mpr ⟨rfl, List.forall_mem_cons.mpr ⟨rfl, List.forall_mem_cons.mpr ⟨rfl, List.forall_mem_cons.mpr ⟨rfl, List.forall_mem_cons.mpr ⟨rfl, List.forall_mem_cons.mpr ⟨rfl, fun _ h => absurd h List.not_mem_nil⟩⟩⟩⟩⟩⟩) ?_
          exact ih1999 (z1989 + 1) μ2018 T2020 (mF.up (mF.call mF.refl F1994 rfl) (A_21 hw) u2019 rfl) (rW (c := 0) (d := 1000) (rAdd (e := 1) (f := 1000) h2001 (rR (x := 1)) rfl) rfl) (PC.keep I1996 hw ((mF.up mF.refl (A_21 hw) u2019 rfl) : mF [21006] w μ1990 μ2018) rfl) (RT.keep I1997 hw ((mF.up mF.refl (A_21 hw) u2019 rfl) : mF [21006] w μ1990 μ2018) rfl) (vc_X1_doActs_12_13 (nS h1998) h2000 h4 h3 hp2 h2002 h2001)
        by_cases h2044 : z2021 = 16
        · refine mr_tableIn (pc := 62) (v := 16) (tgt := 260) dX1_doActs_62 h2044 rfl rfl (by decide) ?_
          have h2045 : 16 ≤ z2021 ∧ z2021 ≤ 16 := (vc_X1_doActs_12_17 h2044 h2024 h2032 h2040 h2042 h2023)
          refine mr_iinc (pc := 260) (lv' := [(5, iv (z1989 + 1)), (6, iv z2009), (0, .ref 21), (1, .ref a1), (2, iv p2), (3, iv p3), (4, iv p4)]) dX1_doActs_260 rfl (by decide) rfl ?_
          refine sv_goto (pc := 263) (tgt := 3) dX1_doActs_263 (by decide) ?_
          refine mr_lvS (lv' := [(0, .ref 21), (1, .ref a1), (2, iv p2), (3, iv p3), (4, iv p4), (5, iv (z1989 + 1))]) (List.forall_mem_cons.mpr ⟨rfl, List.forall_mem_cons.mpr ⟨rfl, List.forall_mem_cons.mpr ⟨rfl, List.forall_mem_cons.mpr ⟨rfl, List.forall_mem_cons.mpr ⟨rfl, List.forall_mem_cons.mpr ⟨rfl, fun _ h => absurd h List.not_mem_nil⟩⟩⟩⟩⟩⟩) ?_
          exact ih1999 (z1989 + 1) μ2018 T2020 (mF.up (mF.call mF.refl F1994 rfl) (A_21 hw) u2019 rfl) (rW (c := 0) (d := 1000) (rAdd (e := 1) (f := 1000) h2001 (rR (x := 1)) rfl) rfl) (PC.keep I1996 hw ((mF.up mF.refl (A_21 hw) u2019 rfl) : mF [21006] w μ1990 μ2018) rfl) (RT.keep I1997 hw ((mF.up mF.refl (A_21 hw) u2019 rfl) : mF [21006] w μ1990 μ2018) rfl) (vc_X1_doActs_12_13 (nS h1998) h2000 h4 h3 hp2 h2002 h2001)
        by_cases h2046 : z2021 = 17
        · refine mr_tableIn (pc := 62) (v := 17) (tgt := 260) dX1_doActs_62 h2046 rfl rfl (by decide) ?_
          have h2047 : 17 ≤ z2021 ∧ z2021 ≤ 17 := (vc_X1_doActs_12_18 h2046 h2024 h2032 h2040 h2042 h2044 h2023)
          refine mr_iinc (pc := 260) (lv' := [(5, iv (z1989 + 1)), (6, iv z2009), (0, .ref 21), (1, .ref a1), (2, iv p2), (3, iv p3), (4, iv p4)]) dX1_doActs_260 rfl (by decide) rfl ?_
          refine sv_goto (pc := 263) (tgt := 3) dX1_doActs_263 (by decide) ?_
          refine mr_lvS (lv' := [(0, .ref 21), (1, .ref a1), (2, iv p2), (3, iv p3), (4, iv p4), (5, iv (z1989 + 1))]) (List.forall_mem_cons.mpr ⟨rfl, List.forall_mem_cons.mpr ⟨rfl, List.forall_mem_cons.mpr ⟨rfl, List.forall_mem_cons.mpr ⟨rfl, List.forall_mem_cons.mpr ⟨rfl, List.forall_mem_cons.mpr ⟨rfl, fun _ h => absurd h List.not_mem_nil⟩⟩⟩⟩⟩⟩) ?_
          exact ih1999 (z1989 + 1) μ2018 T2020 (mF.up (mF.call mF.refl F1994 rfl) (A_21 hw) u2019 rfl) (rW (c := 0) (d := 1000) (rAdd (e := 1) (f := 1000) h2001 (rR (x := 1)) rfl) rfl) (PC.keep I1996 hw ((mF.up mF.refl (A_21 hw) u2019 rfl) : mF [21006] w μ1990 μ2018) rfl) (RT.keep I1997 hw ((mF.up mF.refl (A_21 hw) u2019 rfl) : mF [21006] w μ1990 μ2018) rfl) (vc_X1_doActs_12_13 (nS h1998) h2000 h4 h3 hp2 h2002 h2001)
        by_cases h2048 : z2021 = 18
        · refine mr_tableIn (pc := 62) (v := 18) (tgt := 260) dX1_doActs_62 h2048 rfl rfl (by decide) ?_
          have h2049 : 18 ≤ z2021 ∧ z2021 ≤ 18 := (vc_X1_doActs_12_19 h2048 h2024 h2032 h2040 h2042 h2044 h2046 h2023)
          refine mr_iinc (pc := 260) (lv' := [(5, iv (z1989 + 1)), (6, iv z2009), (0, .ref 21), (1, .ref a1), (2, iv p2), (3, iv p3), (4, iv p4)]) dX1_doActs_260 rfl (by decide) rfl ?_
          refine sv_goto (pc := 263) (tgt := 3) dX1_doActs_263 (by decide) ?_
          refine mr_lvS (lv' := [(0, .ref 21), (1, .ref a1), (2, iv p2), (3, iv p3), (4, iv p4), (5, iv (z1989 + 1))]) (List.forall_mem_cons.mpr ⟨rfl, List.forall_mem_cons.mpr ⟨rfl, List.forall_mem_cons.mpr ⟨rfl, List.forall_mem_cons.mpr ⟨rfl, List.forall_mem_cons.mpr ⟨rfl, List.forall_mem_cons.mpr ⟨rfl, fun _ h => absurd h List.not_mem_nil⟩⟩⟩⟩⟩⟩) ?_
          exact ih1999 (z1989 + 1) μ2018 T2020 (mF.up (mF.call mF.refl F1994 rfl) (A_21 hw) u2019 rfl) (rW (c := 0) (d := 1000) (rAdd (e := 1) (f := 1000) h2001 (rR (x := 1)) rfl) rfl) (PC.keep I1996 hw ((mF.up mF.refl (A_21 hw) u2019 rfl) : mF [21006] w μ1990 μ2018) rfl) (RT.keep I1997 hw ((mF.up mF.refl (A_21 hw) u2019 rfl) : mF [21006] w μ1990 μ2018) rfl) (vc_X1_doActs_12_13 (nS h1998) h2000 h4 h3 hp2 h2002 h2001)
        by_cases h2050 : z2021 = 19
        · refine mr_tableIn (pc := 62) (v := 19) (tgt := 260) dX1_doActs_62 h2050 rfl rfl (by decide) ?_
          have h2051 : 19 ≤ z2021 ∧ z2021 ≤ 19 := (vc_X1_doActs_12_20 h2050 h2024 h2032 h2040 h2042 h2044 h2046 h2048 h2023)
          refine mr_iinc (pc := 260) (lv' := [(5, iv (z1989 + 1)), (6, iv z2009), (0, .ref 21), (1, .ref a1), (2, iv p2), (3, iv p3), (4, iv p4)]) dX1_doActs_260 rfl (by decide) rfl ?_
          refine sv_goto (pc := 263) (tgt := 3) dX1_doActs_263 (by decide) ?_
          refine mr_lvS (lv' := [(0, .ref 21), (1, .ref a1), (2, iv p2), (3, iv p3), (4, iv p4), (5, iv (z1989 + 1))]) (List.forall_mem_cons.mpr ⟨rfl, List.forall_mem_cons.mpr ⟨rfl, List.forall_mem_cons.mpr ⟨rfl, List.forall_mem_cons.mpr ⟨rfl, List.forall_mem_cons.mpr ⟨rfl, List.forall_mem_cons.mpr ⟨rfl, fun _ h => absurd h List.not_mem_nil⟩⟩⟩⟩⟩⟩) ?_
          exact ih1999 (z1989 + 1) μ2018 T2020 (mF.up (mF.call mF.refl F1994 rfl) (A_21 hw) u2019 rfl) (rW (c := 0) (d := 1000) (rAdd (e := 1) (f := 1000) h2001 (rR (x := 1)) rfl) rfl) (PC.keep I1996 hw ((mF.up mF.refl (A_21 hw) u2019 rfl) : mF [21006] w μ1990 μ2018) rfl) (RT.keep I1997 hw ((mF.up mF.refl (A_21 hw) u2019 rfl) : mF [21006] w μ1990 μ2018) rfl) (vc_X1_doActs_12_13 (nS h1998) h2000 h4 h3 hp2 h2002 h2001)
        by_cases h2052 : z2021 = 20
        · refine mr_tableIn (pc := 62) (v := 20) (tgt := 260) dX1_doActs_62 h2052 rfl rfl (by decide) ?_
          have h2053 : 20 ≤ z2021 ∧ z2021 ≤ 20 := (vc_X1_doActs_12_21 h2052 h2032 h2040 h2042 h2044 h2046 h2048 h2050 h2023)
          refine mr_iinc (pc := 260) (lv' := [(5, iv (z1989 + 1)), (6, iv z2009), (0, .ref 21), (1, .ref a1), (2, iv p2), (3, iv p3), (4, iv p4)]) dX1_doActs_260 rfl (by decide) rfl ?_
          refine sv_goto (pc := 263) (tgt := 3) dX1_doActs_263 (by decide) ?_
          refine mr_lvS (lv' := [(0, .ref 21), (1, .ref a1), (2, iv p2), (3, iv p3), (4, iv p4), (5, iv (z1989 + 1))]) (List.forall_mem_cons.mpr ⟨rfl, List.forall_mem_cons.mpr ⟨rfl, List.forall_mem_cons.mpr ⟨rfl, List.forall_mem_cons.mpr ⟨rfl, List.forall_mem_cons.mpr ⟨rfl, List.forall_mem_cons.mpr ⟨rfl, fun _ h => absurd h List.not_mem_nil⟩⟩⟩⟩⟩⟩) ?_
          exact ih1999 (z1989 + 1) μ2018 T2020 (mF.up (mF.call mF.refl F1994 rfl) (A_21 hw) u2019 rfl) (rW (c := 0) (d := 1000) (rAdd (e := 1) (f := 1000) h2001 (rR (x := 1)) rfl) rfl) (PC.keep I1996 hw ((mF.up mF.refl (A_21 hw) u2019 rfl) : mF [21006] w μ1990 μ2018) rfl) (RT.keep I1997 hw ((mF.up mF.refl (A_21 hw) u2019 rfl) : mF [21006] w μ1990 μ2018) rfl) (vc_X1_doActs_12_13 (nS h1998) h2000 h4 h3 hp2 h2002 h2001)
        by_cases h2054 : z2021 = 21
        · refine mr_tableIn (pc := 62) (v := 21) (tgt := 260) dX1_doActs_62 h2054 rfl rfl (by decide) ?_
          have h2055 : 21 ≤ z2021 ∧ z2021 ≤ 21 := (vc_X1_doActs_12_22 h2054 h2040 h2042 h2044 h2046 h2048 h2050 h2052 h2023)
          refine mr_iinc (pc := 260) (lv' := [(5, iv (z1989 + 1)), (6, iv z2009), (0, .ref 21), (1, .ref a1), (2, iv p2), (3, iv p3), (4, iv p4)]) dX1_doActs_260 rfl (by decide) rfl ?_
          refine sv_goto (pc := 263) (tgt := 3) dX1_doActs_263 (by decide) ?_
          refine mr_lvS (lv' := [(0, .ref 21), (1, .ref a1), (2, iv p2), (3, iv p3), (4, iv p4), (5, iv (z1989 + 1))]) (List.forall_mem_cons.mpr ⟨rfl, List.forall_mem_cons.mpr ⟨rfl, List.forall_mem_cons.mpr ⟨rfl, List.forall_mem_cons.mpr ⟨rfl, List.forall_mem_cons.mpr ⟨rfl, List.forall_mem_cons.mpr ⟨rfl, fun _ h => absurd h List.not_mem_nil⟩⟩⟩⟩⟩⟩) ?_
          exact ih1999 (z1989 + 1) μ2018 T2020 (mF.up (mF.call mF.refl F1994 rfl) (A_21 hw) u2019 rfl) (rW (c := 0) (d := 1000) (rAdd (e := 1) (f := 1000) h2001 (rR (x := 1)) rfl) rfl) (PC.keep I1996 hw ((mF.up mF.refl (A_21 hw) u2019 rfl) : mF [21006] w μ1990 μ2018) rfl) (RT.keep I1997 hw ((mF.up mF.refl (A_21 hw) u2019 rfl) : mF [21006] w μ1990 μ2018) rfl) (vc_X1_doActs_12_13 (nS h1998) h2000 h4 h3 hp2 h2002 h2001)
        by_cases h2056 : z2021 = 22
        · refine mr_tableIn (pc := 62) (v := 22) (tgt := 260) dX1_doActs_62 h2056 rfl rfl (by decide) ?_
          have h2057 : 22 ≤ z2021 ∧ z2021 ≤ 22 := (vc_X1_doActs_12_23 h2056 h2042 h2044 h2046 h2048 h2050 h2052 h2054 h2023)
          refine mr_iinc (pc := 260) (lv' := [(5, iv (z1989 + 1)), (6, iv z2009), (0, .ref 21), (1, .ref a1), (2, iv p2), (3, iv p3), (4, iv p4)]) dX1_doActs_260 rfl (by decide) rfl ?_
          refine sv_goto (pc := 263) (tgt := 3) dX1_doActs_263 (by decide) ?_
          refine mr_lvS (lv' := [(0, .ref 21), (1, .ref a1), (2, iv p2), (3, iv p3), (4, iv p4), (5, iv (z1989 + 1))]) (List.forall_mem_cons.mpr ⟨rfl, List.forall_mem_cons.mpr ⟨rfl, List.forall_mem_cons.mpr ⟨rfl, List.forall_mem_cons.mpr ⟨rfl, List.forall_mem_cons.mpr ⟨rfl, List.forall_mem_cons.mpr ⟨rfl, fun _ h => absurd h List.not_mem_nil⟩⟩⟩⟩⟩⟩) ?_
          exact ih1999 (z1989 + 1) μ2018 T2020 (mF.up (mF.call mF.refl F1994 rfl) (A_21 hw) u2019 rfl) (rW (c := 0) (d := 1000) (rAdd (e := 1) (f := 1000) h2001 (rR (x := 1)) rfl) rfl) (PC.keep I1996 hw ((mF.up mF.refl (A_21 hw) u2019 rfl) : mF [21006] w μ1990 μ2018) rfl) (RT.keep I1997 hw ((mF.up mF.refl (A_21 hw) u2019 rfl) : mF [21006] w μ1990 μ2018) rfl) (vc_X1_doActs_12_13 (nS h1998) h2000 h4 h3 hp2 h2002 h2001)
        by_cases h2058 : z2021 = 23
        · refine mr_tableIn (pc := 62) (v := 23) (tgt := 144) dX1_doActs_62 h2058 rfl rfl (by decide) ?_
          have h2059 : 23 ≤ z2021 ∧ z2021 ≤ 23 := (vc_X1_doActs_12_24 h2058 h2044 h2046 h2048 h2050 h2052 h2054 h2056 h2023)
          refine sv_aload_n (pc := 144) dX1_doActs_144 rfl rfl ?_
          refine mr_iconst (pc := 145) (z := 1) dX1_doActs_145 ?_
          refine pf_X1_7 (pc := 146) dX1_doActs_146 wF_X1_50 (A_21 hw) T2020 (rW (c := 0) (d := 2) (rR (x := 1)) rfl) fun μ2060 u2061 T2062 => ?_
          refine sv_goto (pc := 149) (tgt := 260) dX1_doActs_149 (by decide) ?_
          refine mr_iinc (pc := 260) (lv' := [(5, iv (z1989 + 1)), (6, iv z2009), (0, .ref 21), (1, .ref a1), (2, iv p2), (3, iv p3), (4, iv p4)]) dX1_doActs_260 rfl (by decide) rfl ?_
          refine sv_goto (pc := 263) (tgt := 3) dX1_doActs_263 (by decide) ?_
          refine mr_lvS (lv' := [(0, .ref 21), (1, .ref a1), (2, iv p2), (3, iv p3), (4, iv p4), (5, iv (z1989 + 1))]) (List.forall_mem_cons.mpr ⟨rfl, List.forall_mem_cons.mpr ⟨rfl, List.forall_mem_cons.mpr ⟨rfl, List.forall_mem_cons.mpr ⟨rfl, List.forall_mem_cons.mpr ⟨rfl, List.forall_mem_cons.mpr ⟨rfl, fun _ h => absurd h List.not_mem_nil⟩⟩⟩⟩⟩⟩) ?_
          exact ih1999 (z1989 + 1) μ2060 T2062 (mF.up (mF.up (mF.call mF.refl F1994 rfl) (A_21 hw) u2019 rfl) (A_21 hw) u2061 rfl) (rW (c := 0) (d := 1000) (rAdd (e := 1) (f := 1000) h2001 (rR (x := 1)) rfl) rfl) (PC.keep I1996 hw ((mF.up (mF.up mF.refl (A_21 hw) u2019 rfl) (A_21 hw) u2061 rfl) : mF [21006, 21007] w μ1990 μ2060) rfl) (RT.keep I1997 hw ((mF.up (mF.up mF.refl (A_21 hw) u2019 rfl) (A_21 hw) u2061 rfl) : mF [21006, 21007] w μ1990 μ2060) rfl) (vc_X1_doActs_12_13 (nS h1998) h2000 h4 h3 hp2 h2002 h2001)
        by_cases h2063 : z2021 = 24
        · refine mr_tableIn (pc := 62) (v := 24) (tgt := 152) dX1_doActs_62 h2063 rfl rfl (by decide) ?_
          have h2064 : 24 ≤ z2021 ∧ z2021 ≤ 24 := (vc_X1_doActs_12_25 h2063 h2046 h2048 h2050 h2052 h2054 h2056 h2058 h2023)
          refine sv_aload_n (pc := 152) dX1_doActs_152 rfl rfl ?_
          refine mr_iconst (pc := 153) (z := 2) dX1_doActs_153 ?_
          refine pf_X1_7 (pc := 154) dX1_doActs_154 wF_X1_50 (A_21 hw) T2020 (rW (c := 0) (d := 2) (rR (x := 2)) rfl) fun μ2065 u2066 T2067 => ?_
          refine sv_goto (pc := 157) (tgt := 260) dX1_doActs_157 (by decide) ?_
          refine mr_iinc (pc := 260) (lv' := [(5, iv (z1989 + 1)), (6, iv z2009), (0, .ref 21), (1, .ref a1), (2, iv p2), (3, iv p3), (4, iv p4)]) dX1_doActs_260 rfl (by decide) rfl ?_
          refine sv_goto (pc := 263) (tgt := 3) dX1_doActs_263 (by decide) ?_
          refine mr_lvS (lv' := [(0, .ref 21), (1, .ref a1), (2, iv p2), (3, iv p3), (4, iv p4), (5, iv (z1989 + 1))]) (List.forall_mem_cons.mpr ⟨rfl, List.forall_mem_cons.mpr ⟨rfl, List.forall_mem_cons.mpr ⟨rfl, List.forall_mem_cons.mpr ⟨rfl, List.forall_mem_cons.mpr ⟨rfl, List.forall_mem_cons.mpr ⟨rfl, fun _ h => absurd h List.not_mem_nil⟩⟩⟩⟩⟩⟩) ?_
          exact ih1999 (z1989 + 1) μ2065 T2067 (mF.up (mF.up (mF.call mF.refl F1994 rfl) (A_21 hw) u2019 rfl) (A_21 hw) u2066 rfl) (rW (c := 0) (d := 1000) (rAdd (e := 1) (f := 1000) h2001 (rR (x := 1)) rfl) rfl) (PC.keep I1996 hw ((mF.up (mF.up mF.refl (A_21 hw) u2019 rfl) (A_21 hw) u2066 rfl) : mF [21006, 21007] w μ1990 μ2065) rfl) (RT.keep I1997 hw ((mF.up (mF.up mF.refl (A_21 hw) u2019 rfl) (A_21 hw) u2066 rfl) : mF [21006, 21007] w μ1990 μ2065) rfl) (vc_X1_doActs_12_13 (nS h1998) h2000 h4 h3 hp2 h2002 h2001)
        by_cases h2068 : z2021 = 25
        · refine mr_tableIn (pc := 62) (v := 25) (tgt := 160) dX1_doActs_62 h2068 rfl rfl (by decide) ?_
          have h2069 : 25 ≤ z2021 ∧ z2021 ≤ 25 := (vc_X1_doActs_12_26 h2068 h2048 h2050 h2052 h2054 h2056 h2058 h2063 h2023)
          refine sv_aload_n (pc := 160) dX1_doActs_160 rfl rfl ?_
          refine gf_X1_2 (pc := 161) dX1_doActs_161 wF_X1_25 (A_21 hw) T2020 (RT.keep I1997 hw ((mF.up mF.refl (A_21 hw) u2019 rfl) : mF [21006] w μ1990 μ2018) rfl) fun b2070 q2071 A2072 => ?_
          refine mr_iload (pc := 164) (z := z2009) dX1_doActs_164 rfl ?_
          refine mr_cVV (pc := 166) (c_X7_addMark hw T2020 A2072 (rW (c := (-2147483648)) (d := 2147483647) h2012 rfl)) (gOk _ _ _ _ _) dX1_doActs_166 (tX7_addMark _ _ _ _ _) ⟨wV_X7_addMark, wL_X7_addMark⟩ wM_X1_124 (gCX7 _ _ _ _ _) rfl A2072 rfl ⟨le_t rfl, le_t rfl⟩ ⟨le_t rfl, le_t rfl⟩ rfl (le_t rfl) fun μ2073 T2074 F2075 h2076 => ?_
          refine sv_goto (pc := 169) (tgt := 260) dX1_doActs_169 (by decide) ?_
          refine mr_iinc (pc := 260) (lv' := [(5, iv (z1989 + 1)), (6, iv z2009), (0, .ref 21), (1, .ref a1), (2, iv p2), (3, iv p3), (4, iv p4)]) dX1_doActs_260 rfl (by decide) rfl ?_
          refine sv_goto (pc := 263) (tgt := 3) dX1_doActs_263 (by decide) ?_
          refine mr_lvS (lv' := [(0, .ref 21), (1, .ref a1), (2, iv p2), (3, iv p3), (4, iv p4), (5, iv (z1989 + 1))]) (List.forall_mem_cons.mpr ⟨rfl, List.forall_mem_cons.mpr ⟨rfl, List.forall_mem_cons.mpr ⟨rfl, List.forall_mem_cons.mpr ⟨rfl, List.forall_mem_cons.mpr ⟨rfl, List.forall_mem_cons.mpr ⟨rfl, fun _ h => absurd h List.not_mem_nil⟩⟩⟩⟩⟩⟩) ?_
          exact ih1999 (z1989 + 1) μ2073 T2074 (mF.call (mF.up (mF.call mF.refl F1994 rfl) (A_21 hw) u2019 rfl) F2075 rfl) (rW (c := 0) (d := 1000) (rAdd (e := 1) (f := 1000) h2001 (rR (x := 1)) rfl) rfl) (PC.keep I1996 hw ((mF.call (mF.up mF.refl (A_21 hw) u2019 rfl) F2075 rfl) : mF [21006, 200008, 202999] w μ1990 μ2073) rfl) (RT.keep I1997 hw ((mF.call (mF.up mF.refl (A_21 hw) u2019 rfl) F2075 rfl) : mF [21006, 200008, 202999] w μ1990 μ2073) rfl) (vc_X1_doActs_12_13 (nS h1998) h2000 h4 h3 hp2 h2002 h2001)
        by_cases h2077 : z2021 = 26
        · refine mr_tableIn (pc := 62) (v := 26) (tgt := 172) dX1_doActs_62 h2077 rfl rfl (by decide) ?_
          have h2078 : 26 ≤ z2021 ∧ z2021 ≤ 26 := (vc_X1_doActs_12_27 h2077 h2050 h2052 h2054 h2056 h2058 h2063 h2068 h2023)
          refine sv_aload_n (pc := 172) dX1_doActs_172 rfl rfl ?_
          refine gf_X1_2 (pc := 173) dX1_doActs_173 wF_X1_25 (A_21 hw) T2020 (RT.keep I1997 hw ((mF.up mF.refl (A_21 hw) u2019 rfl) : mF [21006] w μ1990 μ2018) rfl) fun b2079 q2080 A2081 => ?_
          refine mr_iload (pc := 176) (z := z2009) dX1_doActs_176 rfl ?_
          refine mr_cVV (pc := 178) (c_X7_dropMark hw T2020 A2081 (rW (c := (-2147483648)) (d := 2147483647) h2012 rfl)) (gOk _ _ _ _ _) dX1_doActs_178 (tX7_dropMark _ _ _ _ _) ⟨wV_X7_dropMark, wL_X7_dropMark⟩ wM_X1_128 (gCX7 _ _ _ _ _) rfl A2081 rfl ⟨le_t rfl, le_t rfl⟩ ⟨le_t rfl, le_t rfl⟩ rfl (le_t rfl) fun μ2082 T2083 F2084 h2085 => ?_
          refine sv_goto (pc := 181) (tgt := 260) dX1_doActs_181 (by decide) ?_
          refine mr_iinc (pc := 260) (lv' := [(5, iv (z1989 + 1)), (6, iv z2009), (0, .ref 21), (1, .ref a1), (2, iv p2), (3, iv p3), (4, iv p4)]) dX1_doActs_260 rfl (by decide) rfl ?_
          refine sv_goto (pc := 263) (tgt := 3) dX1_doActs_263 (by decide) ?_
          refine mr_lvS (lv' := [(0, .ref 21), (1, .ref a1), (2, iv p2), (3, iv p3), (4, iv p4), (5, iv (z1989 + 1))]) (List.forall_mem_cons.mpr ⟨rfl, List.forall_mem_cons.mpr ⟨rfl, List.forall_mem_cons.mpr ⟨rfl, List.forall_mem_cons.mpr ⟨rfl, List.forall_mem_cons.mpr ⟨rfl, List.forall_mem_cons.mpr ⟨rfl, fun _ h => absurd h List.not_mem_nil⟩⟩⟩⟩⟩⟩) ?_
          exact ih1999 (z1989 + 1) μ2082 T2083 (mF.call (mF.up (mF.call mF.refl F1994 rfl) (A_21 hw) u2019 rfl) F2084 rfl) (rW (c := 0) (d := 1000) (rAdd (e := 1) (f := 1000) h2001 (rR (x := 1)) rfl) rfl) (PC.keep I1996 hw ((mF.call (mF.up mF.refl (A_21 hw) u2019 rfl) F2084 rfl) : mF [21006, 200008, 202999] w μ1990 μ2082) rfl) (RT.keep I1997 hw ((mF.call (mF.up mF.refl (A_21 hw) u2019 rfl) F2084 rfl) : mF [21006, 200008, 202999] w μ1990 μ2082) rfl) (vc_X1_doActs_12_13 (nS h1998) h2000 h4 h3 hp2 h2002 h2001)
        by_cases h2086 : z2021 = 27
        · refine mr_tableIn (pc := 62) (v := 27) (tgt := 208) dX1_doActs_62 h2086 rfl rfl (by decide) ?_
          have h2087 : 27 ≤ z2021 ∧ z2021 ≤ 27 := (vc_X1_doActs_12_28 h2086 h2052 h2054 h2056 h2058 h2063 h2068 h2077 h2023)
          refine sv_aload_n (pc := 208) dX1_doActs_208 rfl rfl ?_
          refine gf_X1_2 (pc := 209) dX1_doActs_209 wF_X1_25 (A_21 hw) T2020 (RT.keep I1997 hw ((mF.up mF.refl (A_21 hw) u2019 rfl) : mF [21006] w μ1990 μ2018) rfl) fun b2088 q2089 A2090 => ?_
          refine gf_X7_7 (pc := 212) dX1_doActs_212 wF_X1_96 A2090 T2020 fun z2091 q2092 h2093 => ?_
          have J2116 : ∀ (μ2110 : mM), (mT w μ2110) → (mF [21007, 200007, 201999] w μ2018 μ2110) → (PC w μ2110) → (RT μ2110) → sV (gG l D c H0 sa) mX1_doActs (sRm 28 0 0) (sZ (gG l D c H0 sa) 0 0 (qV w [21006, 21007, 200004, 200006, 200007, 200008, 201999, 202999] μ (fun μ1 => True))) 260 [(0, .ref 21), (1, .ref a1), (2, iv p2), (3, iv p3), (4, iv p4), (5, iv z1989)] [] (mk w μ2110) 0 0 := by
            intro μ2110 T2111 F2112 I2114 I2115
            refine mr_iinc (pc := 260) (lv' := [(5, iv (z1989 + 1)), (0, .ref 21), (1, .ref a1), (2, iv p2), (3, iv p3), (4, iv p4)]) dX1_doActs_260 rfl (by decide) rfl ?_
            refine sv_goto (pc := 263) (tgt := 3) dX1_doActs_263 (by decide) ?_
            refine mr_lvS (lv' := [(0, .ref 21), (1, .ref a1), (2, iv p2), (3, iv p3), (4, iv p4), (5, iv (z1989 + 1))]) (List.forall_mem_cons.mpr ⟨rfl, List.forall_mem_cons.mpr ⟨rfl, List.forall_mem_cons.mpr ⟨rfl, List.forall_mem_cons.mpr ⟨rfl, List.forall_mem_cons.mpr ⟨rfl, List.forall_mem_cons.mpr ⟨rfl, fun _ h => absurd h List.not_mem_nil⟩⟩⟩⟩⟩⟩) ?_
            exact ih1999 (z1989 + 1) μ2110 T2111 (mF.call (mF.up (mF.call mF.refl F1994 rfl) (A_21 hw) u2019 rfl) F2112 rfl) (rW (c := 0) (d := 1000) (rAdd (e := 1) (f := 1000) h2001 (rR (x := 1)) rfl) rfl) I2114 I2115 (vc_X1_doActs_12_13 (nS h1998) h2000 h4 h3 hp2 h2002 h2001)
          refine mr_if_le (pc := 215) (tgt := 260) dX1_doActs_215 (by decide) (r32 h2093 rfl) (fun h2117 => ?_) (fun h2117 => ?_)
          · have h2118 : 0 ≤ z2091 ∧ z2091 ≤ 0 := (vc_X12_unlike_21 h2117 h2093)
            refine mr_lvS (lv' := [(0, .ref 21), (1, .ref a1), (2, iv p2), (3, iv p3), (4, iv p4), (5, iv z1989)]) (List.forall_mem_cons.mpr ⟨rfl, List.forall_mem_cons.mpr ⟨rfl, List.forall_mem_cons.mpr ⟨rfl, List.forall_mem_cons.mpr ⟨rfl, List.forall_mem_cons.mpr ⟨rfl, List.forall_mem_cons.mpr ⟨rfl, fun _ h => absurd h List.not_mem_nil⟩⟩⟩⟩⟩⟩) ?_
            exact J2116 μ2018 T2020 mF.refl (PC.keep I1996 hw ((mF.up mF.refl (A_21 hw) u2019 rfl) : mF [21006] w μ1990 μ2018) rfl) (RT.keep I1997 hw ((mF.up mF.refl (A_21 hw) u2019 rfl) : mF [21006] w μ1990 μ2018) rfl)
          have h2119 : 1 ≤ z2091 ∧ z2091 ≤ 20 := (vc_X12_unlike_22 h2117 h2093)
          refine sv_aload_n (pc := 218) dX1_doActs_218 rfl rfl ?_
          refine gk_X1_2 (pc := 219) dX1_doActs_219 wF_X1_25 (A_21 hw) q2089 ?_
          refine sv_aload_n (pc := 222) dX1_doActs_222 rfl rfl ?_
          refine gk_X1_2 (pc := 223) dX1_doActs_223 wF_X1_25 (A_21 hw) q2089 ?_
          refine gf_X7_0 (pc := 226) dX1_doActs_226 wF_X1_114 A2090 T2020 fun A2120 => ?_
          refine mr_iconst (pc := 229) (z := 0) dX1_doActs_229 ?_
          refine la_201 (pc := 230) dX1_doActs_230 A2120 T2020 (rIx (n := 20) (rR (x := 0)) rfl) fun z2121 q2122 h2123 => ?_
          refine mr_iload (pc := 231) (z := z2009) dX1_doActs_231 rfl ?_
          refine mr_cVI (pc := 233) (c_X7_putInFront hw T2020 A2090 h2123 (rW (c := (-2147483648)) (d := 1000000) h2012 rfl)) (gOk _ _ _ _ _) dX1_doActs_233 (tX7_putInFront _ _ _ _ _) ⟨wV_X7_putInFront, wL_X7_putInFront⟩ wM_X1_131 (gCX7 _ _ _ _ _) rfl A2090 rfl ⟨le_t rfl, le_t rfl⟩ ⟨le_t rfl, le_t rfl⟩ rfl (le_t rfl) fun z2128 μ2124 T2125 F2126 h2127 => ?_
          refine mr_if_ne (pc := 236) (tgt := 260) dX1_doActs_236 (by decide) (r32 h2127.1 rfl) (fun h2129 => ?_) (fun h2129 => ?_)
          · have h2130 : 1 ≤ z2128 ∧ z2128 ≤ 1 := (vc_X12_ring_24 h2129 h2127.1)
            refine mr_lvS (lv' := [(0, .ref 21), (1, .ref a1), (2, iv p2), (3, iv p3), (4, iv p4), (5, iv z1989)]) (List.forall_mem_cons.mpr ⟨rfl, List.forall_mem_cons.mpr ⟨rfl, List.forall_mem_cons.mpr ⟨rfl, List.forall_mem_cons.mpr ⟨rfl, List.forall_mem_cons.mpr ⟨rfl, List.forall_mem_cons.mpr ⟨rfl, fun _ h => absurd h List.not_mem_nil⟩⟩⟩⟩⟩⟩) ?_
            exact J2116 μ2124 T2125 (mF.call mF.refl F2126 rfl) (PC.keep I1996 hw ((mF.call (mF.up mF.refl (A_21 hw) u2019 rfl) F2126 rfl) : mF [21006, 200007, 201999] w μ1990 μ2124) rfl) (RT.keep I1997 hw ((mF.call (mF.up mF.refl (A_21 hw) u2019 rfl) F2126 rfl) : mF [21006, 200007, 201999] w μ1990 μ2124) rfl)
          have h2131 : 0 ≤ z2128 ∧ z2128 ≤ 0 := (vc_X12_ring_22 h2129 h2127.1)
          refine sv_aload_n (pc := 239) dX1_doActs_239 rfl rfl ?_
          refine mr_iconst (pc := 240) (z := 2) dX1_doActs_240 ?_
          refine pf_X1_7 (pc := 241) dX1_doActs_241 wF_X1_50 (A_21 hw) T2125 (rW (c := 0) (d := 2) (rR (x := 2)) rfl) fun μ2132 u2133 T2134 => ?_
          refine sv_goto (pc := 244) (tgt := 260) dX1_doActs_244 (by decide) ?_
          refine mr_lvS (lv' := [(0, .ref 21), (1, .ref a1), (2, iv p2), (3, iv p3), (4, iv p4), (5, iv z1989)]) (List.forall_mem_cons.mpr ⟨rfl, List.forall_mem_cons.mpr ⟨rfl, List.forall_mem_cons.mpr ⟨rfl, List.forall_mem_cons.mpr ⟨rfl, List.forall_mem_cons.mpr ⟨rfl, List.forall_mem_cons.mpr ⟨rfl, fun _ h => absurd h List.not_mem_nil⟩⟩⟩⟩⟩⟩) ?_
          exact J2116 μ2132 T2134 (mF.up (mF.call mF.refl F2126 rfl) (A_21 hw) u2133 rfl) (PC.keep I1996 hw ((mF.up (mF.call (mF.up mF.refl (A_21 hw) u2019 rfl) F2126 rfl) (A_21 hw) u2133 rfl) : mF [21006, 21007, 200007, 201999] w μ1990 μ2132) rfl) (RT.keep I1997 hw ((mF.up (mF.call (mF.up mF.refl (A_21 hw) u2019 rfl) F2126 rfl) (A_21 hw) u2133 rfl) : mF [21006, 21007, 200007, 201999] w μ1990 μ2132) rfl)
        by_cases h2135 : z2021 = 28
        · refine mr_tableIn (pc := 62) (v := 28) (tgt := 247) dX1_doActs_62 h2135 rfl rfl (by decide) ?_
          have h2136 : 28 ≤ z2021 ∧ z2021 ≤ 28 := (vc_X1_doActs_12_33 h2135 h2054 h2056 h2058 h2063 h2068 h2077 h2086 h2023)
          refine sv_aload_n (pc := 247) dX1_doActs_247 rfl rfl ?_
          refine mr_iload (pc := 248) (z := z2009) dX1_doActs_248 rfl ?_
          refine mr_iload (pc := 250) (z := p4) dX1_doActs_250 rfl ?_
          refine mr_iconst (pc := 252) (z := 1) dX1_doActs_252 ?_
          refine mr_iadd (pc := 253) (x := p4) (y := 1) dX1_doActs_253 ?_
          refine mr_cVV (pc := 254) (c_X1_goThrough_1 hw T2020 (rW (c := (-2147483648)) (d := 2147483647) h2012 rfl) (rAdd (e := 1) (f := 1) hp4 (rR (x := 1)) rfl) (PC.keep I1996 hw ((mF.up mF.refl (A_21 hw) u2019 rfl) : mF [21006] w μ1990 μ2018) rfl) (RT.keep I1997 hw ((mF.up mF.refl (A_21 hw) u2019 rfl) : mF [21006] w μ1990 μ2018) rfl)) (gOk _ _ _ _ _) dX1_doActs_254 (tX1_goThrough _ _ _ _ _) ⟨wV_X1_goThrough, wL_X1_goThrough⟩ wM_X1_53 (gCX1 _ _ _ _ _) rfl (A_21 hw) rfl ⟨le_t rfl, le_t rfl⟩ ⟨le_t rfl, le_t rfl⟩ rfl (le_t rfl) fun μ2137 T2138 F2139 h2140 => ?_
          refine sv_goto (pc := 257) (tgt := 260) dX1_doActs_257 (by decide) ?_
          refine mr_iinc (pc := 260) (lv' := [(5, iv (z1989 + 1)), (6, iv z2009), (0, .ref 21), (1, .ref a1), (2, iv p2), (3, iv p3), (4, iv p4)]) dX1_doActs_260 rfl (by decide) rfl ?_
          refine sv_goto (pc := 263) (tgt := 3) dX1_doActs_263 (by decide) ?_
          refine mr_lvS (lv' := [(0, .ref 21), (1, .ref a1), (2, iv p2), (3, iv p3), (4, iv p4), (5, iv (z1989 + 1))]) (List.forall_mem_cons.mpr ⟨rfl, List.forall_mem_cons.mpr ⟨rfl, List.forall_mem_cons.mpr ⟨rfl, List.forall_mem_cons.mpr ⟨rfl, List.forall_mem_cons.mpr ⟨rfl, List.forall_mem_cons.mpr ⟨rfl, fun _ h => absurd h List.not_mem_nil⟩⟩⟩⟩⟩⟩) ?_
          exact ih1999 (z1989 + 1) μ2137 T2138 (mF.call (mF.up (mF.call mF.refl F1994 rfl) (A_21 hw) u2019 rfl) F2139 rfl) (rW (c := 0) (d := 1000) (rAdd (e := 1) (f := 1000) h2001 (rR (x := 1)) rfl) rfl) (PC.keep I1996 hw ((mF.call (mF.up mF.refl (A_21 hw) u2019 rfl) F2139 rfl) : mF [21006, 21007, 200004, 200006, 200007, 200008, 201999, 202999] w μ1990 μ2137) rfl) (RT.keep I1997 hw ((mF.call (mF.up mF.refl (A_21 hw) u2019 rfl) F2139 rfl) : mF [21006, 21007, 200004, 200006, 200007, 200008, 201999, 202999] w μ1990 μ2137) rfl) (vc_X1_doActs_12_13 (nS h1998) h2000 h4 h3 hp2 h2002 h2001)
        refine mr_tableOut (pc := 62) (tgt := 260) dX1_doActs_62 h2023 (vc_X1_doActs_12_34 h2024 h2032 h2040 h2042 h2044 h2046 h2048 h2050 h2052 h2054 h2056 h2058 h2063 h2068 h2077 h2086 h2135 h2023) (by decide) ?_
        refine mr_iinc (pc := 260) (lv' := [(5, iv (z1989 + 1)), (6, iv z2009), (0, .ref 21), (1, .ref a1), (2, iv p2), (3, iv p3), (4, iv p4)]) dX1_doActs_260 rfl (by decide) rfl ?_
        refine sv_goto (pc := 263) (tgt := 3) dX1_doActs_263 (by decide) ?_
        refine mr_lvS (lv' := [(0, .ref 21), (1, .ref a1), (2, iv p2), (3, iv p3), (4, iv p4), (5, iv (z1989 + 1))]) (List.forall_mem_cons.mpr ⟨rfl, List.forall_mem_cons.mpr ⟨rfl, List.forall_mem_cons.mpr ⟨rfl, List.forall_mem_cons.mpr ⟨rfl, List.forall_mem_cons.mpr ⟨rfl, List.forall_mem_cons.mpr ⟨rfl, fun _ h => absurd h List.not_mem_nil⟩⟩⟩⟩⟩⟩) ?_
        exact ih1999 (z1989 + 1) μ2018 T2020 (mF.up (mF.call mF.refl F1994 rfl) (A_21 hw) u2019 rfl) (rW (c := 0) (d := 1000) (rAdd (e := 1) (f := 1000) h2001 (rR (x := 1)) rfl) rfl) (PC.keep I1996 hw ((mF.up mF.refl (A_21 hw) u2019 rfl) : mF [21006] w μ1990 μ2018) rfl) (RT.keep I1997 hw ((mF.up mF.refl (A_21 hw) u2019 rfl) : mF [21006] w μ1990 μ2018) rfl) (vc_X1_doActs_12_13 (nS h1998) h2000 h4 h3 hp2 h2002 h2001)
      have h2141 : 500 ≤ z2013 ∧ z2013 ≤ 500 := (vc_X1_doActs_12_35 h2016 h2015)
      refine sv_aload_n (pc := 38) dX1_doActs_38 rfl rfl ?_
      refine mr_iconst (pc := 39) (z := 2) dX1_doActs_39 ?_
      refine pf_X1_7 (pc := 40) dX1_doActs_40 wF_X1_50 (A_21 hw) T1993 (rW (c := 0) (d := 2) (rR (x := 2)) rfl) fun μ2142 u2143 T2144 => ?_
      exact mr_vret dX1_doActs_43 rfl (le_t rfl) (le_t rfl) T2144 (mF.up (mF.call mF.refl F1994 rfl) (A_21 hw) u2143 rfl) trivial
  refine mr_lvS (lv' := [(0, .ref 21), (1, .ref a1), (2, iv p2), (3, iv p3), (4, iv p4), (5, iv 0)]) (List.forall_mem_cons.mpr ⟨rfl, List.forall_mem_cons.mpr ⟨rfl, List.forall_mem_cons.mpr ⟨rfl, List.forall_mem_cons.mpr ⟨rfl, List.forall_mem_cons.mpr ⟨rfl, List.forall_mem_cons.mpr ⟨rfl, fun _ h => absurd h List.not_mem_nil⟩⟩⟩⟩⟩⟩) ?_
  exact L1991 1002 0 μ hT mF.refl (rW (c := 0) (d := 1000) (rR (x := 0)) rfl) hIPC hIRT vc_X1_doActs_12_36
theorem vc_X1_goThrough_0_5 {p2 : Int} (h0 : 12 < p2) (h1 : 0 ≤ p2 ∧ p2 ≤ 0) : False := by omega
set_option maxRecDepth 4000 in
set_option maxHeartbeats 4000000 in
theorem c_X1_goThrough_0 {l : Launch} {D : va_G} {c : Nat → ClassId} {H0 : Heap} {sa : Nat × Nat × (Nat → Int32)} {w : mW} {μ : mM} (hw : mWF w) (hT : mT w μ) {p1 : Int} (hp1 : (-2147483648) ≤ p1 ∧ p1 ≤ 2147483647) {p2 : Int} (hp2 : 0 ≤ p2 ∧ p2 ≤ 0) (hIPC : PC w μ) (hIRT : RT μ) : sC (gG l D c H0 sa) mX1_goThrough 29 0 0 [.ref 21, iv p1, iv p2] (mk w μ) (qV w [21006, 21007, 200004, 200006, 200007, 200008, 201999, 202999] μ (fun μ1 => True)) := by
  refine sC.of rfl (by decide) (le_t rfl) ?_
  refine mr_lvE (lv' := [(0, .ref 21), (1, iv p1), (2, iv p2)]) rfl ?_
  refine mr_iload_n (pc := 0) (z := p1) dX1_goThrough_0 rfl rfl ?_
  refine mr_if_lt (pc := 1) (tgt := 18) dX1_goThrough_1 (by decide) hp1 (fun h1 => ?_) (fun h1 => ?_)
  · have h2 : (-2147483648) ≤ p1 ∧ p1 ≤ (-1) := (vc_X12_ring_60 h1 hp1)
    exact mr_vret dX1_goThrough_18 rfl (le_t rfl) (le_t rfl) hT mF.refl trivial
  have h3 : 0 ≤ p1 ∧ p1 ≤ 2147483647 := (vc_X12_ring_1 h1 hp1)
  refine mr_iload_n (pc := 4) (z := p1) dX1_goThrough_4 rfl rfl ?_
  refine sv_aload_n (pc := 5) dX1_goThrough_5 rfl rfl ?_
  refine gf_X1_8 (pc := 6) dX1_goThrough_6 wF_X1_21 (A_21 hw) hT fun z4 q5 h6 => ?_
  refine mr_icmp_ge (pc := 9) (tgt := 18) dX1_goThrough_9 (by decide) (r32 h3 rfl) (r32 h6.2 rfl) (fun h7 => ?_) (fun h7 => ?_)
  · exact mr_vret dX1_goThrough_18 rfl (le_t rfl) (le_t rfl) hT mF.refl trivial
  have h8 : 0 ≤ p1 ∧ p1 ≤ 11 := (vc_X1_goThrough_13_3 h7 h1 h6.1 h3 h6.2)
  have h9 : 1 ≤ z4 ∧ z4 ≤ 12 := (vc_X1_goThrough_13_4 h7 h1 h6.1 h8 h6.2)
  refine mr_iload_n (pc := 12) (z := p2) dX1_goThrough_12 rfl rfl ?_
  refine mr_bipush (pc := 13) (z := 12) dX1_goThrough_13 (by decide) ?_
  refine mr_icmp_le (pc := 15) (tgt := 19) dX1_goThrough_15 (by decide) (r32 hp2 rfl) (r32 (rR (x := 12)) rfl) (fun _ => ?_) (fun h => ((vc_X1_goThrough_0_5 h hp2)).elim)
  refine sv_aload_n (pc := 19) dX1_goThrough_19 rfl rfl ?_
  refine gf_X1_1 (pc := 20) dX1_goThrough_20 wF_X1_17 (A_21 hw) hT ?_
  refine mr_iload_n (pc := 23) (z := p1) dX1_goThrough_23 rfl rfl ?_
  refine la_22 (pc := 24) dX1_goThrough_24 (A_22 hw) hT (rIx (n := 12) h8 rfl) (vc_X1_goThrough_12_6 h1 h6.1 h7 h8 h9) fun b10 q11 A12 => ?_
  refine mr_astore_n (pc := 25) (lv' := [(3, .ref b10), (0, .ref 21), (1, iv p1), (2, iv p2)]) dX1_goThrough_25 rfl (by decide) rfl ?_
  obtain ⟨c13, z14, q15, A16, q17, R18, e19, e20⟩ := PC.read hIPC hT A12 (vc_X1_goThrough_12_7 h1 h7 h6.1 h8 h9) (vc_X1_goThrough_12_6 h1 h6.1 h7 h8 h9) q11
  have h21 : 0 ≤ z14 ∧ z14 ≤ 30 := by rw [← q17]; exact hT _ _ A12 0
  refine mr_iconst (pc := 26) (z := 0) dX1_goThrough_26 ?_
  refine mr_istore (pc := 27) (lv' := [(4, iv 0), (3, .ref b10), (0, .ref 21), (1, iv p1), (2, iv p2)]) dX1_goThrough_27 (by decide) rfl ?_
  refine mr_iconst (pc := 29) (z := 0) dX1_goThrough_29 ?_
  refine mr_istore (pc := 30) (lv' := [(5, iv 0), (4, iv 0), (3, .ref b10), (0, .ref 21), (1, iv p1), (2, iv p2)]) dX1_goThrough_30 (by decide) rfl ?_
  have L1192 : ∀ (nL1192 : Nat) (z1190 z1189 : Int) (μ1191 : mM), mT w μ1191 → mF [21006, 21007, 200004, 200006, 200007, 200008, 201999, 202999] w μ μ1191 → (0 ≤ z1190 ∧ z1190 ≤ 2000) → (0 ≤ z1189 ∧ z1189 ≤ 30) → PC w μ1191 → RT μ1191 → wfR (μ c13) (w.2.2.1 c13) (z1190).toNat (z14 - z1189).toNat → (2001 - z1190) < (nL1192 : Int) → sV (gG l D c H0 sa) mX1_goThrough (sRm 29 0 0) (sZ (gG l D c H0 sa) 0 0 (qV w [21006, 21007, 200004, 200006, 200007, 200008, 201999, 202999] μ (fun μ1 => True))) 32 [(0, .ref 21), (2, iv p2), (3, .ref b10), (4, iv z1190), (5, iv z1189)] [] (mk w μ1191) 0 0 := by
    intro nL1192
    induction nL1192 with
    | zero => intro z1190 z1189 μ1191 T1195 F1196 h1193 h1194 I1198 I1199 R1200 h1201; exact ((vc_X1_goThrough_12_8 h1201 h1193)).elim
    | succ nL1192 ih1202 =>
      intro z1190 z1189 μ1191 T1195 F1196 h1193 h1194 I1198 I1199 R1200 h1201
      refine mr_iload (pc := 32) (z := z1189) dX1_goThrough_32 rfl ?_
      refine sv_aload_n (pc := 34) dX1_goThrough_34 rfl rfl ?_
      refine gk_X5_0 (pc := 35) dX1_goThrough_35 wF_X1_57 A12 (F1196.f A12 rfl q17) ?_
      refine mr_icmp_ge (pc := 38) (tgt := 174) dX1_goThrough_38 (by decide) (r32 h1194 rfl) (r32 h21 rfl) (fun h1267 => ?_) (fun h1267 => ?_)
      · exact mr_vret dX1_goThrough_174 rfl (le_t rfl) (le_t rfl) T1195 (mF.call mF.refl F1196 rfl) trivial
      have h1268 : 0 ≤ z1189 ∧ z1189 ≤ 29 := (vc_X12_judgedAnew_2 h1267 h1194 h21)
      have h1269 : 1 ≤ z14 ∧ z14 ≤ 30 := (vc_X12_judgedAnew_3 h1267 h1268 h21)
      refine sv_aload_n (pc := 41) dX1_goThrough_41 rfl rfl ?_
      refine gf_X1_7 (pc := 42) dX1_goThrough_42 wF_X1_50 (A_21 hw) T1195 fun z1270 q1271 h1272 => ?_
      refine mr_if_ne (pc := 45) (tgt := 174) dX1_goThrough_45 (by decide) (r32 h1272 rfl) (fun h1332 => ?_) (fun h1332 => ?_)
      · have h1333 : 1 ≤ z1270 ∧ z1270 ≤ 2 := (vc_X12_provides_3 h1332 h1272)
        exact mr_vret dX1_goThrough_174 rfl (le_t rfl) (le_t rfl) T1195 (mF.call mF.refl F1196 rfl) trivial
      have h1334 : 0 ≤ z1270 ∧ z1270 ≤ 0 := (vc_X12_provides_4 h1332 h1272)
      obtain ⟨n_1335, q1336⟩ : ∃ n : Int, (w.2.2.1 c13 : Int) = n := ⟨_, rfl⟩
      have h1337 : 0 ≤ n_1335 ∧ n_1335 ≤ 2000 := lnR (m := 2000) q1336 A16 rfl
      have h1338 : z1190 + 1 < n_1335 := lnLt q1336 (wfR.hd R1200 (vc_X1_goThrough_12_13 h1193) (vc_X1_goThrough_12_14 h1267 h1268 h1269))
      refine sv_aload_n (pc := 48) dX1_goThrough_48 rfl rfl ?_
      refine gk_X5_1 (pc := 49) dX1_goThrough_49 wF_X1_60 A12 (F1196.f A12 rfl q15) ?_
      refine mr_iload (pc := 52) (z := z1190) dX1_goThrough_52 rfl ?_
      refine la_231 (pc := 54) dX1_goThrough_54 A16 T1195 (lnC q1336 (vc_X1_goThrough_12_15 h1338 h1337 h1193)) fun z1339 q1340 h1341 => ?_
      refine mr_istore (pc := 55) (lv' := [(6, iv z1339), (0, .ref 21), (2, iv p2), (3, .ref b10), (4, iv z1190), (5, iv z1189)]) dX1_goThrough_55 (by decide) rfl ?_
      refine sv_aload_n (pc := 57) dX1_goThrough_57 rfl rfl ?_
      refine gk_X5_1 (pc := 58) dX1_goThrough_58 wF_X1_60 A12 (F1196.f A12 rfl q15) ?_
      refine mr_iload (pc := 61) (z := z1190) dX1_goThrough_61 rfl ?_
      refine mr_iconst (pc := 63) (z := 1) dX1_goThrough_63 ?_
      refine mr_iadd (pc := 64) (x := z1190) (y := 1) dX1_goThrough_64 ?_
      refine la_231 (pc := 65) dX1_goThrough_65 A16 T1195 (lnC q1336 (vc_X1_goThrough_12_16 h1338 h1337 h1193)) fun z1342 q1343 h1344 => ?_
      have B1345 := wfR.bd R1200 (vc_X1_goThrough_12_13 h1193) (vc_X1_goThrough_12_14 h1267 h1268 h1269) ((((mF.call mF.refl F1196 rfl) : mF [21006, 21007, 200004, 200006, 200007, 200008, 201999, 202999] w μ μ1191).f A16 rfl rfl).symm.trans q1340) ((((mF.call mF.refl F1196 rfl) : mF [21006, 21007, 200004, 200006, 200007, 200008, 201999, 202999] w μ μ1191).f A16 rfl rfl).symm.trans q1343)
      have h1346 : 0 ≤ z1339 ∧ 0 ≤ z1342 ∧ z1190 + 2 + 5 * z1339 + 2 * z1342 ≤ n_1335 := ⟨B1345.1.1, B1345.1.2.1, lnLe q1336 B1345.1.2.2⟩
      have h1347 : 0 ≤ z1339 ∧ z1339 ≤ 400 := (vc_X1_goThrough_12_17 h1346 h1338 h1337 h1193 h1341 h1344)
      have h1348 : 0 ≤ z1342 ∧ z1342 ≤ 1000 := (vc_X1_goThrough_12_18 h1346 h1338 h1337 h1193 h1347 h1344)
      refine mr_istore (pc := 66) (lv' := [(7, iv z1342), (6, iv z1339), (0, .ref 21), (2, iv p2), (3, .ref b10), (4, iv z1190), (5, iv z1189)]) dX1_goThrough_66 (by decide) rfl ?_
      refine mr_iload (pc := 68) (z := z1190) dX1_goThrough_68 rfl ?_
      refine mr_iconst (pc := 70) (z := 2) dX1_goThrough_70 ?_
      refine mr_iadd (pc := 71) (x := z1190) (y := 2) dX1_goThrough_71 ?_
      refine mr_iload (pc := 72) (z := z1339) dX1_goThrough_72 rfl ?_
      refine mr_iconst (pc := 74) (z := 5) dX1_goThrough_74 ?_
      refine mr_imul (pc := 75) (x := z1339) (y := 5) dX1_goThrough_75 ?_
      refine mr_iadd (pc := 76) (x := (z1190 + 2)) (y := (z1339 * 5)) dX1_goThrough_76 ?_
      refine mr_istore (pc := 77) (lv' := [(8, iv ((z1190 + 2) + (z1339 * 5))), (7, iv z1342), (6, iv z1339), (0, .ref 21), (2, iv p2), (3, .ref b10), (4, iv z1190), (5, iv z1189)]) dX1_goThrough_77 (by decide) rfl ?_
      refine mr_iconst (pc := 79) (z := 1) dX1_goThrough_79 ?_
      refine mr_istore (pc := 80) (lv' := [(9, iv 1), (8, iv ((z1190 + 2) + (z1339 * 5))), (7, iv z1342), (6, iv z1339), (0, .ref 21), (2, iv p2), (3, .ref b10), (4, iv z1190), (5, iv z1189)]) dX1_goThrough_80 (by decide) rfl ?_
      refine mr_iload (pc := 82) (z := z1190) dX1_goThrough_82 rfl ?_
      refine mr_iconst (pc := 84) (z := 2) dX1_goThrough_84 ?_
      refine mr_iadd (pc := 85) (x := z1190) (y := 2) dX1_goThrough_85 ?_
      refine mr_istore (pc := 86) (lv' := [(10, iv (z1190 + 2)), (9, iv 1), (8, iv ((z1190 + 2) + (z1339 * 5))), (7, iv z1342), (6, iv z1339), (0, .ref 21), (2, iv p2), (3, .ref b10), (4, iv z1190), (5, iv z1189)]) dX1_goThrough_86 (by decide) rfl ?_
      have L1468 : ∀ (nL1468 : Nat) (z1467 z1466 : Int), True → (0 ≤ z1467 ∧ z1467 ≤ 1) → (2 ≤ z1466 ∧ z1466 ≤ 2010) → ((((z1190 + 2) + (z1339 * 5)) - z1466) % 5 = 0) → (2011 - z1466) < (nL1468 : Int) → sV (gG l D c H0 sa) mX1_goThrough (sRm 29 0 0) (sZ (gG l D c H0 sa) 0 0 (qV w [21006, 21007, 200004, 200006, 200007, 200008, 201999, 202999] μ (fun μ1 => True))) 88 [(0, .ref 21), (2, iv p2), (3, .ref b10), (5, iv z1189), (7, iv z1342), (8, iv ((z1190 + 2) + (z1339 * 5))), (9, iv z1467), (10, iv z1466)] [] (mk w μ1191) 0 0 := by
        intro nL1468
        induction nL1468 with
        | zero => intro z1467 z1466 _ h1469 h1470 h1474 h1475; exact ((vc_X1_goThrough_12_19 h1475 h1474 h1338 h1346 h1337 h1193 h1347 h1348 h1470)).elim
        | succ nL1468 ih1476 =>
          intro z1467 z1466 _ h1469 h1470 h1474 h1475
          refine mr_iload (pc := 88) (z := z1466) dX1_goThrough_88 rfl ?_
          refine mr_iload (pc := 90) (z := ((z1190 + 2) + (z1339 * 5))) dX1_goThrough_90 rfl ?_
          have J1492 : sV (gG l D c H0 sa) mX1_goThrough (sRm 29 0 0) (sZ (gG l D c H0 sa) 0 0 (qV w [21006, 21007, 200004, 200006, 200007, 200008, 201999, 202999] μ (fun μ1 => True))) 141 [(0, .ref 21), (2, iv p2), (3, .ref b10), (5, iv z1189), (7, iv z1342), (8, iv ((z1190 + 2) + (z1339 * 5))), (9, iv z1467)] [] (mk w μ1191) 0 0 := by
            refine mr_iload (pc := 141) (z := z1467) dX1_goThrough_141 rfl ?_
            refine mr_if_eq (pc := 143) (tgt := 159) dX1_goThrough_143 (by decide) (r32 h1469 rfl) (fun h1499 => ?_) (fun h1499 => ?_)
            · have h1500 : 0 ≤ z1467 ∧ z1467 ≤ 0 := (vc_X12_ring_22 h1499 h1469)
              refine mr_iload (pc := 159) (z := ((z1190 + 2) + (z1339 * 5))) dX1_goThrough_159 rfl ?_
              refine mr_iload (pc := 161) (z := z1342) dX1_goThrough_161 rfl ?_
              refine mr_iconst (pc := 163) (z := 2) dX1_goThrough_163 ?_
              refine mr_imul (pc := 164) (x := z1342) (y := 2) dX1_goThrough_164 ?_
              refine mr_iadd (pc := 165) (x := ((z1190 + 2) + (z1339 * 5))) (y := (z1342 * 2)) dX1_goThrough_165 ?_
              refine mr_istore (pc := 166) (lv' := [(4, iv (((z1190 + 2) + (z1339 * 5)) + (z1342 * 2))), (0, .ref 21), (2, iv p2), (3, .ref b10), (5, iv z1189), (7, iv z1342), (8, iv ((z1190 + 2) + (z1339 * 5))), (9, iv z1467)]) dX1_goThrough_166 (by decide) rfl ?_
              refine mr_iinc (pc := 168) (lv' := [(5, iv (z1189 + 1)), (4, iv (((z1190 + 2) + (z1339 * 5)) + (z1342 * 2))), (0, .ref 21), (2, iv p2), (3, .ref b10), (7, iv z1342), (8, iv ((z1190 + 2) + (z1339 * 5))), (9, iv z1467)]) dX1_goThrough_168 rfl (by decide) rfl ?_
              refine sv_goto (pc := 171) (tgt := 32) dX1_goThrough_171 (by decide) ?_
              refine mr_lvS (lv' := [(0, .ref 21), (2, iv p2), (3, .ref b10), (4, iv (((z1190 + 2) + (z1339 * 5)) + (z1342 * 2))), (5, iv (z1189 + 1))]) (List.forall_mem_cons.mpr ⟨rfl, List.forall_mem_cons.mpr ⟨rfl, List.forall_mem_cons.mpr ⟨rfl, List.forall_mem_cons.mpr ⟨rfl, List.forall_mem_cons.mpr ⟨rfl, fun _ h => absurd h List.not_mem_nil⟩⟩⟩⟩⟩) ?_
              exact ih1202 (((z1190 + 2) + (z1339 * 5)) + (z1342 * 2)) (z1189 + 1) μ1191 T1195 (mF.call mF.refl F1196 rfl) (vc_X1_goThrough_12_21 h1338 h1346 h1474 h1337 h1193 h1347 h1348 h1470) (rW (c := 0) (d := 30) (rAdd (e := 1) (f := 30) h1268 (rR (x := 1)) rfl) rfl) I1198 I1199 (wfR.cg B1345.2.2 (vc_X1_goThrough_12_23 h1338 h1346 h1474 h1337 h1193 h1347 h1348 h1470)) (vc_X1_goThrough_12_22 (nS h1201) h1338 h1346 h1474 h1337 h1193 h1347 h1348 h1470)
            have h1501 : 1 ≤ z1467 ∧ z1467 ≤ 1 := (vc_X12_ring_24 h1499 h1469)
            refine sv_aload_n (pc := 146) dX1_goThrough_146 rfl rfl ?_
            refine sv_aload_n (pc := 147) dX1_goThrough_147 rfl rfl ?_
            refine gk_X5_1 (pc := 148) dX1_goThrough_148 wF_X1_60 A12 (F1196.f A12 rfl q15) ?_
            refine mr_iload (pc := 151) (z := ((z1190 + 2) + (z1339 * 5))) dX1_goThrough_151 rfl ?_
            refine mr_iload (pc := 153) (z := z1342) dX1_goThrough_153 rfl ?_
            refine mr_iload_n (pc := 155) (z := p2) dX1_goThrough_155 rfl rfl ?_
            refine mr_cVV (pc := 156) (c_X1_doActs_0 hw T1195 A16 (vc_X1_goThrough_12_25 h1338 h1346 h1474 h1337 h1193 h1347 h1348 h1470) h1348 hp2 I1198 I1199 (lnL q1336 (vc_X1_goThrough_12_26 h1338 h1346 h1474 h1337 h1193 h1347 h1348 h1470)) (argC B1345.2.1 (vc_X1_goThrough_12_27 h1338 h1346 h1474 h1337 h1193 h1347 h1348 h1470) (funext fun i => ((mF.call mF.refl F1196 rfl) : mF [21006, 21007, 200004, 200006, 200007, 200008, 201999, 202999] w μ μ1191).f A16 rfl rfl))) (gOk _ _ _ _ _) dX1_goThrough_156 (tX1_doActs _ _ _ _ _) ⟨wV_X1_doActs, wL_X1_doActs⟩ wM_X1_68 (gCX1 _ _ _ _ _) rfl (A_21 hw) rfl ⟨le_t rfl, le_t rfl⟩ ⟨le_t rfl, le_t rfl⟩ rfl (le_t rfl) fun μ1502 T1503 F1504 h1505 => ?_
            refine mr_iload (pc := 159) (z := ((z1190 + 2) + (z1339 * 5))) dX1_goThrough_159 rfl ?_
            refine mr_iload (pc := 161) (z := z1342) dX1_goThrough_161 rfl ?_
            refine mr_iconst (pc := 163) (z := 2) dX1_goThrough_163 ?_
            refine mr_imul (pc := 164) (x := z1342) (y := 2) dX1_goThrough_164 ?_
            refine mr_iadd (pc := 165) (x := ((z1190 + 2) + (z1339 * 5))) (y := (z1342 * 2)) dX1_goThrough_165 ?_
            refine mr_istore (pc := 166) (lv' := [(4, iv (((z1190 + 2) + (z1339 * 5)) + (z1342 * 2))), (0, .ref 21), (2, iv p2), (3, .ref b10), (5, iv z1189), (7, iv z1342), (8, iv ((z1190 + 2) + (z1339 * 5))), (9, iv z1467)]) dX1_goThrough_166 (by decide) rfl ?_
            refine mr_iinc (pc := 168) (lv' := [(5, iv (z1189 + 1)), (4, iv (((z1190 + 2) + (z1339 * 5)) + (z1342 * 2))), (0, .ref 21), (2, iv p2), (3, .ref b10), (7, iv z1342), (8, iv ((z1190 + 2) + (z1339 * 5))), (9, iv z1467)]) dX1_goThrough_168 rfl (by decide) rfl ?_
            refine sv_goto (pc := 171) (tgt := 32) dX1_goThrough_171 (by decide) ?_
            refine mr_lvS (lv' := [(0, .ref 21), (2, iv p2), (3, .ref b10), (4, iv (((z1190 + 2) + (z1339 * 5)) + (z1342 * 2))), (5, iv (z1189 + 1))]) (List.forall_mem_cons.mpr ⟨rfl, List.forall_mem_cons.mpr ⟨rfl, List.forall_mem_cons.mpr ⟨rfl, List.forall_mem_cons.mpr ⟨rfl, List.forall_mem_cons.mpr ⟨rfl, fun _ h => absurd h List.not_mem_nil⟩⟩⟩⟩⟩) ?_
            exact ih1202 (((z1190 + 2) + (z1339 * 5)) + (z1342 * 2)) (z1189 + 1) μ1502 T1503 (mF.call (mF.call mF.refl F1196 rfl) F1504 rfl) (vc_X1_goThrough_12_21 h1338 h1346 h1474 h1337 h1193 h1347 h1348 h1470) (rW (c := 0) (d := 30) (rAdd (e := 1) (f := 30) h1268 (rR (x := 1)) rfl) rfl) (PC.keep I1198 hw ((mF.call mF.refl F1504 rfl) : mF [21006, 21007, 200004, 200006, 200007, 200008, 201999, 202999] w μ1191 μ1502) rfl) (RT.keep I1199 hw ((mF.call mF.refl F1504 rfl) : mF [21006, 21007, 200004, 200006, 200007, 200008, 201999, 202999] w μ1191 μ1502) rfl) (wfR.cg B1345.2.2 (vc_X1_goThrough_12_23 h1338 h1346 h1474 h1337 h1193 h1347 h1348 h1470)) (vc_X1_goThrough_12_22 (nS h1201) h1338 h1346 h1474 h1337 h1193 h1347 h1348 h1470)
          refine mr_icmp_ge (pc := 92) (tgt := 141) dX1_goThrough_92 (by decide) (r32 h1470 rfl) (r32 (rAdd (e := 2) (f := 4002) (rAdd (e := 2) (f := 2002) h1193 (rR (x := 2)) rfl) (rMulR (n := 5) (e := 0) (f := 2000) h1347 rfl) rfl) rfl) (fun h1506 => ?_) (fun h1506 => ?_)
          · refine mr_lvS (lv' := [(0, .ref 21), (2, iv p2), (3, .ref b10), (5, iv z1189), (7, iv z1342), (8, iv ((z1190 + 2) + (z1339 * 5))), (9, iv z1467)]) (List.forall_mem_cons.mpr ⟨rfl, List.forall_mem_cons.mpr ⟨rfl, List.forall_mem_cons.mpr ⟨rfl, List.forall_mem_cons.mpr ⟨rfl, List.forall_mem_cons.mpr ⟨rfl, List.forall_mem_cons.mpr ⟨rfl, List.forall_mem_cons.mpr ⟨rfl, fun _ h => absurd h List.not_mem_nil⟩⟩⟩⟩⟩⟩⟩) ?_
            exact J1492 
          refine mr_iload (pc := 95) (z := z1467) dX1_goThrough_95 rfl ?_
          refine mr_if_eq (pc := 97) (tgt := 141) dX1_goThrough_97 (by decide) (r32 h1469 rfl) (fun h1507 => ?_) (fun h1507 => ?_)
          · have h1508 : 0 ≤ z1467 ∧ z1467 ≤ 0 := (vc_X12_ring_22 h1507 h1469)
            refine mr_lvS (lv' := [(0, .ref 21), (2, iv p2), (3, .ref b10), (5, iv z1189), (7, iv z1342), (8, iv ((z1190 + 2) + (z1339 * 5))), (9, iv z1467)]) (List.forall_mem_cons.mpr ⟨rfl, List.forall_mem_cons.mpr ⟨rfl, List.forall_mem_cons.mpr ⟨rfl, List.forall_mem_cons.mpr ⟨rfl, List.forall_mem_cons.mpr ⟨rfl, List.forall_mem_cons.mpr ⟨rfl, List.forall_mem_cons.mpr ⟨rfl, fun _ h => absurd h List.not_mem_nil⟩⟩⟩⟩⟩⟩⟩) ?_
            exact J1492 
          have h1509 : 1 ≤ z1467 ∧ z1467 ≤ 1 := (vc_X12_ring_24 h1507 h1469)
          refine sv_aload_n (pc := 100) dX1_goThrough_100 rfl rfl ?_
          refine sv_aload_n (pc := 101) dX1_goThrough_101 rfl rfl ?_
          refine mr_iload (pc := 102) (z := z1466) dX1_goThrough_102 rfl ?_
          refine mr_cVP (pc := 104) (c_X1_isSo hw T1195 A12 (vc_X1_goThrough_12_28 h1474 h1506 h1338 h1346 h1337 h1193 h1347 h1348 h1470) I1199 (lnF (F1196.f A12 rfl q15) q1336 (vc_X1_goThrough_12_29 h1338 h1346 h1474 h1506 h1337 h1193 h1347 h1348 h1470)) (by rw [((mF.call mF.refl F1196 rfl) : mF [21006, 21007, 200004, 200006, 200007, 200008, 201999, 202999] w μ μ1191).f (k := 2) A12 rfl rfl, ((mF.call mF.refl F1196 rfl) : mF [21006, 21007, 200004, 200006, 200007, 200008, 201999, 202999] w μ μ1191).f (k := 3) A12 rfl rfl]; exact e19) (by rw [((mF.call mF.refl F1196 rfl) : mF [21006, 21007, 200004, 200006, 200007, 200008, 201999, 202999] w μ μ1191).f (k := 4) A12 rfl rfl, ((mF.call mF.refl F1196 rfl) : mF [21006, 21007, 200004, 200006, 200007, 200008, 201999, 202999] w μ μ1191).f (k := 5) A12 rfl rfl]; exact e20)) (gOk _ _ _ _ _) dX1_goThrough_104 (tX1_isSo _ _ _ _ _) ⟨wV_X1_isSo, wL_X1_isSo⟩ wM_X1_64 (gCX1 _ _ _ _ _) rfl (A_21 hw) rfl ⟨le_t rfl, le_t rfl⟩ ⟨le_t rfl, le_t rfl⟩ rfl (le_t rfl) fun z1514 h1513 => ?_
          refine sv_aload_n (pc := 107) dX1_goThrough_107 rfl rfl ?_
          refine gk_X5_1 (pc := 108) dX1_goThrough_108 wF_X1_60 A12 (F1196.f A12 rfl q15) ?_
          refine mr_iload (pc := 111) (z := z1466) dX1_goThrough_111 rfl ?_
          refine mr_iconst (pc := 113) (z := 1) dX1_goThrough_113 ?_
          refine mr_iadd (pc := 114) (x := z1466) (y := 1) dX1_goThrough_114 ?_
          refine la_231 (pc := 115) dX1_goThrough_115 A16 T1195 (lnC q1336 (vc_X1_goThrough_12_30 h1338 h1346 h1474 h1506 h1337 h1193 h1347 h1348 h1470)) fun z1515 q1516 h1517 => ?_
          refine mr_iconst (pc := 116) (z := 1) dX1_goThrough_116 ?_
          refine mr_icmp_ne (pc := 117) (tgt := 124) dX1_goThrough_117 (by decide) h1517 (r32 (rR (x := 1)) rfl) (fun h1519 => ?_) (fun h1519 => ?_)
          · refine mr_iconst (pc := 124) (z := 0) dX1_goThrough_124 ?_
            refine mr_icmp_eq (pc := 125) (tgt := 132) dX1_goThrough_125 (by decide) (r32 h1513.1 rfl) (r32 (rR (x := 0)) rfl) (fun h1522 => ?_) (fun h1522 => ?_)
            · have h1523 : 0 ≤ z1514 ∧ z1514 ≤ 0 := (vc_X12_ring_22 h1522 h1513.1)
              refine mr_iconst (pc := 132) (z := 0) dX1_goThrough_132 ?_
              refine mr_istore (pc := 133) (lv' := [(9, iv 0), (0, .ref 21), (2, iv p2), (3, .ref b10), (5, iv z1189), (7, iv z1342), (8, iv ((z1190 + 2) + (z1339 * 5))), (10, iv z1466)]) dX1_goThrough_133 (by decide) rfl ?_
              refine mr_iinc (pc := 135) (lv' := [(10, iv (z1466 + 5)), (9, iv 0), (0, .ref 21), (2, iv p2), (3, .ref b10), (5, iv z1189), (7, iv z1342), (8, iv ((z1190 + 2) + (z1339 * 5)))]) dX1_goThrough_135 rfl (by decide) rfl ?_
              refine sv_goto (pc := 138) (tgt := 88) dX1_goThrough_138 (by decide) ?_
              refine mr_lvS (lv' := [(0, .ref 21), (2, iv p2), (3, .ref b10), (5, iv z1189), (7, iv z1342), (8, iv ((z1190 + 2) + (z1339 * 5))), (9, iv 0), (10, iv (z1466 + 5))]) (List.forall_mem_cons.mpr ⟨rfl, List.forall_mem_cons.mpr ⟨rfl, List.forall_mem_cons.mpr ⟨rfl, List.forall_mem_cons.mpr ⟨rfl, List.forall_mem_cons.mpr ⟨rfl, List.forall_mem_cons.mpr ⟨rfl, List.forall_mem_cons.mpr ⟨rfl, List.forall_mem_cons.mpr ⟨rfl, fun _ h => absurd h List.not_mem_nil⟩⟩⟩⟩⟩⟩⟩⟩) ?_
              exact ih1476 0 (z1466 + 5) trivial (rW (c := 0) (d := 1) (rR (x := 0)) rfl) (vc_X1_goThrough_12_32 h1474 h1506 h1338 h1346 h1337 h1193 h1347 h1348 h1470) (vc_X1_goThrough_12_33 h1338 h1346 h1474 h1506 h1337 h1193 h1347 h1348 h1470) (vc_X1_goThrough_12_34 (nS h1475) h1474 h1506 h1338 h1346 h1337 h1193 h1347 h1348 h1470)
            have h1524 : 1 ≤ z1514 ∧ z1514 ≤ 1 := (vc_X12_ring_24 h1522 h1513.1)
            refine mr_iconst (pc := 128) (z := 1) dX1_goThrough_128 ?_
            refine sv_goto (pc := 129) (tgt := 133) dX1_goThrough_129 (by decide) ?_
            refine mr_istore (pc := 133) (lv' := [(9, iv 1), (0, .ref 21), (2, iv p2), (3, .ref b10), (5, iv z1189), (7, iv z1342), (8, iv ((z1190 + 2) + (z1339 * 5))), (10, iv z1466)]) dX1_goThrough_133 (by decide) rfl ?_
            refine mr_iinc (pc := 135) (lv' := [(10, iv (z1466 + 5)), (9, iv 1), (0, .ref 21), (2, iv p2), (3, .ref b10), (5, iv z1189), (7, iv z1342), (8, iv ((z1190 + 2) + (z1339 * 5)))]) dX1_goThrough_135 rfl (by decide) rfl ?_
            refine sv_goto (pc := 138) (tgt := 88) dX1_goThrough_138 (by decide) ?_
            refine mr_lvS (lv' := [(0, .ref 21), (2, iv p2), (3, .ref b10), (5, iv z1189), (7, iv z1342), (8, iv ((z1190 + 2) + (z1339 * 5))), (9, iv 1), (10, iv (z1466 + 5))]) (List.forall_mem_cons.mpr ⟨rfl, List.forall_mem_cons.mpr ⟨rfl, List.forall_mem_cons.mpr ⟨rfl, List.forall_mem_cons.mpr ⟨rfl, List.forall_mem_cons.mpr ⟨rfl, List.forall_mem_cons.mpr ⟨rfl, List.forall_mem_cons.mpr ⟨rfl, List.forall_mem_cons.mpr ⟨rfl, fun _ h => absurd h List.not_mem_nil⟩⟩⟩⟩⟩⟩⟩⟩) ?_
            exact ih1476 1 (z1466 + 5) trivial (rW (c := 0) (d := 1) (rR (x := 1)) rfl) (vc_X1_goThrough_12_32 h1474 h1506 h1338 h1346 h1337 h1193 h1347 h1348 h1470) (vc_X1_goThrough_12_33 h1338 h1346 h1474 h1506 h1337 h1193 h1347 h1348 h1470) (vc_X1_goThrough_12_34 (nS h1475) h1474 h1506 h1338 h1346 h1337 h1193 h1347 h1348 h1470)
          have h1525 : 1 ≤ z1515 ∧ z1515 ≤ 1 := (vc_X0_compareAt_1 h1519 h1517)
          refine mr_iconst (pc := 120) (z := 1) dX1_goThrough_120 ?_
          refine sv_goto (pc := 121) (tgt := 125) dX1_goThrough_121 (by decide) ?_
          refine mr_icmp_eq (pc := 125) (tgt := 132) dX1_goThrough_125 (by decide) (r32 h1513.1 rfl) (r32 (rR (x := 1)) rfl) (fun h1528 => ?_) (fun h1528 => ?_)
          · have h1529 : 1 ≤ z1514 ∧ z1514 ≤ 1 := (vc_X1_goThrough_12_37 h1528 h1513.1)
            refine mr_iconst (pc := 132) (z := 0) dX1_goThrough_132 ?_
            refine mr_istore (pc := 133) (lv' := [(9, iv 0), (0, .ref 21), (2, iv p2), (3, .ref b10), (5, iv z1189), (7, iv z1342), (8, iv ((z1190 + 2) + (z1339 * 5))), (10, iv z1466)]) dX1_goThrough_133 (by decide) rfl ?_
            refine mr_iinc (pc := 135) (lv' := [(10, iv (z1466 + 5)), (9, iv 0), (0, .ref 21), (2, iv p2), (3, .ref b10), (5, iv z1189), (7, iv z1342), (8, iv ((z1190 + 2) + (z1339 * 5)))]) dX1_goThrough_135 rfl (by decide) rfl ?_
            refine sv_goto (pc := 138) (tgt := 88) dX1_goThrough_138 (by decide) ?_
            refine mr_lvS (lv' := [(0, .ref 21), (2, iv p2), (3, .ref b10), (5, iv z1189), (7, iv z1342), (8, iv ((z1190 + 2) + (z1339 * 5))), (9, iv 0), (10, iv (z1466 + 5))]) (List.forall_mem_cons.mpr ⟨rfl, List.forall_mem_cons.mpr ⟨rfl, List.forall_mem_cons.mpr ⟨rfl, List.forall_mem_cons.mpr ⟨rfl, List.forall_mem_cons.mpr ⟨rfl, List.forall_mem_cons.mpr ⟨rfl, List.forall_mem_cons.mpr ⟨rfl, List.forall_mem_cons.mpr ⟨rfl, fun _ h => absurd h List.not_mem_nil⟩⟩⟩⟩⟩⟩⟩⟩) ?_
            exact ih1476 0 (z1466 + 5) trivial (rW (c := 0) (d := 1) (rR (x := 0)) rfl) (vc_X1_goThrough_12_32 h1474 h1506 h1338 h1346 h1337 h1193 h1347 h1348 h1470) (vc_X1_goThrough_12_33 h1338 h1346 h1474 h1506 h1337 h1193 h1347 h1348 h1470) (vc_X1_goThrough_12_34 (nS h1475) h1474 h1506 h1338 h1346 h1337 h1193 h1347 h1348 h1470)
          have h1530 : 0 ≤ z1514 ∧ z1514 ≤ 0 := (vc_X1_goThrough_12_38 h1528 h1513.1)
          refine mr_iconst (pc := 128) (z := 1) dX1_goThrough_128 ?_
          refine sv_goto (pc := 129) (tgt := 133) dX1_goThrough_129 (by decide) ?_
          refine mr_istore (pc := 133) (lv' := [(9, iv 1), (0, .ref 21), (2, iv p2), (3, .ref b10), (5, iv z1189), (7, iv z1342), (8, iv ((z1190 + 2) + (z1339 * 5))), (10, iv z1466)]) dX1_goThrough_133 (by decide) rfl ?_
          refine mr_iinc (pc := 135) (lv' := [(10, iv (z1466 + 5)), (9, iv 1), (0, .ref 21), (2, iv p2), (3, .ref b10), (5, iv z1189), (7, iv z1342), (8, iv ((z1190 + 2) + (z1339 * 5)))]) dX1_goThrough_135 rfl (by decide) rfl ?_
          refine sv_goto (pc := 138) (tgt := 88) dX1_goThrough_138 (by decide) ?_
          refine mr_lvS (lv' := [(0, .ref 21), (2, iv p2), (3, .ref b10), (5, iv z1189), (7, iv z1342), (8, iv ((z1190 + 2) + (z1339 * 5))), (9, iv 1), (10, iv (z1466 + 5))]) (List.forall_mem_cons.mpr ⟨rfl, List.forall_mem_cons.mpr ⟨rfl, List.forall_mem_cons.mpr ⟨rfl, List.forall_mem_cons.mpr ⟨rfl, List.forall_mem_cons.mpr ⟨rfl, List.forall_mem_cons.mpr ⟨rfl, List.forall_mem_cons.mpr ⟨rfl, List.forall_mem_cons.mpr ⟨rfl, fun _ h => absurd h List.not_mem_nil⟩⟩⟩⟩⟩⟩⟩⟩) ?_
          exact ih1476 1 (z1466 + 5) trivial (rW (c := 0) (d := 1) (rR (x := 1)) rfl) (vc_X1_goThrough_12_32 h1474 h1506 h1338 h1346 h1337 h1193 h1347 h1348 h1470) (vc_X1_goThrough_12_33 h1338 h1346 h1474 h1506 h1337 h1193 h1347 h1348 h1470) (vc_X1_goThrough_12_34 (nS h1475) h1474 h1506 h1338 h1346 h1337 h1193 h1347 h1348 h1470)
      refine mr_lvS (lv' := [(0, .ref 21), (2, iv p2), (3, .ref b10), (5, iv z1189), (7, iv z1342), (8, iv ((z1190 + 2) + (z1339 * 5))), (9, iv 1), (10, iv (z1190 + 2))]) (List.forall_mem_cons.mpr ⟨rfl, List.forall_mem_cons.mpr ⟨rfl, List.forall_mem_cons.mpr ⟨rfl, List.forall_mem_cons.mpr ⟨rfl, List.forall_mem_cons.mpr ⟨rfl, List.forall_mem_cons.mpr ⟨rfl, List.forall_mem_cons.mpr ⟨rfl, List.forall_mem_cons.mpr ⟨rfl, fun _ h => absurd h List.not_mem_nil⟩⟩⟩⟩⟩⟩⟩⟩) ?_
      exact L1468 2010 1 (z1190 + 2) trivial (rW (c := 0) (d := 1) (rR (x := 1)) rfl) (rW (c := 2) (d := 2010) (rAdd (e := 2) (f := 2002) h1193 (rR (x := 2)) rfl) rfl) (vc_X1_goThrough_12_39 h1338 h1346 h1337 h1193 h1347 h1348) (vc_X1_goThrough_12_40 h1338 h1346 h1337 h1193 h1347 h1348)
  refine mr_lvS (lv' := [(0, .ref 21), (2, iv p2), (3, .ref b10), (4, iv 0), (5, iv 0)]) (List.forall_mem_cons.mpr ⟨rfl, List.forall_mem_cons.mpr ⟨rfl, List.forall_mem_cons.mpr ⟨rfl, List.forall_mem_cons.mpr ⟨rfl, List.forall_mem_cons.mpr ⟨rfl, fun _ h => absurd h List.not_mem_nil⟩⟩⟩⟩⟩) ?_
  exact L1192 2002 0 0 μ hT mF.refl (rW (c := 0) (d := 2000) (rR (x := 0)) rfl) (rW (c := 0) (d := 30) (rR (x := 0)) rfl) hIPC hIRT R18 vc_X1_goThrough_12_41
set_option maxRecDepth 4000 in
set_option maxHeartbeats 4000000 in
theorem c_X1_lets {l : Launch} {D : va_G} {c : Nat → ClassId} {H0 : Heap} {sa : Nat × Nat × (Nat → Int32)} {w : mW} {μ : mM} (hw : mWF w) (hT : mT w μ) {p1 : Int} (hp1 : (-2147483648) ≤ p1 ∧ p1 ≤ 2147483647) {a2 : Nat} (hA2 : mAt w a2 200) {a3 : Nat} (hA3 : mAt w a3 220) {p4 : Int} (hp4 : 0 ≤ p4 ∧ p4 ≤ 1) (hIPC : PC w μ) : sC (gG l D c H0 sa) mX1_lets 40 0 0 [.ref 21, iv p1, .ref a2, .ref a3, iv p4] (mk w μ) (qI w [21002, 21003, 21004, 21005, 21006, 21007, 200004, 200006, 200007, 200008, 201999, 202999] μ (fun z μ1 => (0 ≤ z ∧ z ≤ 1) ∧ True)) := by
  refine sC.of rfl (by decide) (le_t rfl) ?_
  refine mr_lvE (lv' := [(0, .ref 21), (1, iv p1), (2, .ref a2), (3, .ref a3), (4, iv p4)]) rfl ?_
  refine mr_iload_n (pc := 0) (z := p1) dX1_lets_0 rfl rfl ?_
  refine mr_if_lt (pc := 1) (tgt := 12) dX1_lets_1 (by decide) hp1 (fun h1 => ?_) (fun h1 => ?_)
  · have h2 : (-2147483648) ≤ p1 ∧ p1 ≤ (-1) := (vc_X12_ring_60 h1 hp1)
    refine mr_iconst (pc := 12) (z := 1) dX1_lets_12 ?_
    exact mr_zret dX1_lets_13 rfl (rW (c := 0) (d := 1) (rR (x := 1)) rfl) (le_t rfl) (le_t rfl) hT mF.refl ⟨(rW (c := 0) (d := 1) (rR (x := 1)) rfl), trivial⟩
  have h3 : 0 ≤ p1 ∧ p1 ≤ 2147483647 := (vc_X12_ring_1 h1 hp1)
  refine mr_iload_n (pc := 4) (z := p1) dX1_lets_4 rfl rfl ?_
  refine sv_aload_n (pc := 5) dX1_lets_5 rfl rfl ?_
  refine gf_X1_8 (pc := 6) dX1_lets_6 wF_X1_21 (A_21 hw) hT fun z4 q5 h6 => ?_
  refine mr_icmp_lt (pc := 9) (tgt := 14) dX1_lets_9 (by decide) (r32 h3 rfl) (r32 h6.2 rfl) (fun h7 => ?_) (fun h7 => ?_)
  · have h8 : 0 ≤ p1 ∧ p1 ≤ 11 := (vc_X1_goThrough_13_3 h7 h1 h6.1 h3 h6.2)
    have h9 : 1 ≤ z4 ∧ z4 ≤ 12 := (vc_X1_goThrough_13_4 h7 h1 h6.1 h8 h6.2)
    refine sv_aload_n (pc := 14) dX1_lets_14 rfl rfl ?_
    refine sv_aload_n (pc := 15) dX1_lets_15 rfl rfl ?_
    refine pf_X1_2 (pc := 16) dX1_lets_16 wF_X1_25 (A_21 hw) hT hA2 fun μ10 u11 T12 => ?_
    refine sv_aload_n (pc := 19) dX1_lets_19 rfl rfl ?_
    refine sv_aload_n (pc := 20) dX1_lets_20 rfl rfl ?_
    refine mr_iload (pc := 21) (z := p4) dX1_lets_21 rfl ?_
    refine mr_cVP (pc := 23) (c_X9_end hw T12 hA3 (rW (c := (-2147483648)) (d := 2147483647) hp4 rfl)) (gOk _ _ _ _ _) dX1_lets_23 (tX9_end _ _ _ _ _) ⟨wV_X9_end, wL_X9_end⟩ wM_X1_29 (gCX9 _ _ _ _ _) rfl hA3 rfl ⟨le_t rfl, le_t rfl⟩ ⟨le_t rfl, le_t rfl⟩ rfl (le_t rfl) fun z17 h16 => ?_
    refine pf_X1_3 (pc := 26) dX1_lets_26 wF_X1_35 (A_21 hw) T12 (rW (c := (-2147483648)) (d := 2147483647) h16.1 rfl) fun μ18 u19 T20 => ?_
    refine sv_aload_n (pc := 29) dX1_lets_29 rfl rfl ?_
    refine sv_aload_n (pc := 30) dX1_lets_30 rfl rfl ?_
    refine mr_iconst (pc := 31) (z := 1) dX1_lets_31 ?_
    refine mr_iload (pc := 32) (z := p4) dX1_lets_32 rfl ?_
    refine mr_isub (pc := 34) (x := 1) (y := p4) dX1_lets_34 ?_
    refine mr_cVP (pc := 35) (c_X9_end hw T20 hA3 (rW (c := (-2147483648)) (d := 2147483647) (rSub (e := 0) (f := 1) (rR (x := 1)) hp4 rfl) rfl)) (gOk _ _ _ _ _) dX1_lets_35 (tX9_end _ _ _ _ _) ⟨wV_X9_end, wL_X9_end⟩ wM_X1_29 (gCX9 _ _ _ _ _) rfl hA3 rfl ⟨le_t rfl, le_t rfl⟩ ⟨le_t rfl, le_t rfl⟩ rfl (le_t rfl) fun z25 h24 => ?_
    refine pf_X1_4 (pc := 38) dX1_lets_38 wF_X1_38 (A_21 hw) T20 (rW (c := (-2147483648)) (d := 2147483647) h24.1 rfl) fun μ26 u27 T28 => ?_
    refine sv_aload_n (pc := 41) dX1_lets_41 rfl rfl ?_
    refine sv_aload_n (pc := 42) dX1_lets_42 rfl rfl ?_
    refine mr_iload (pc := 43) (z := p4) dX1_lets_43 rfl ?_
    refine mr_cVP (pc := 45) (c_X9_partnerRole hw T28 hA3 (rW (c := (-2147483648)) (d := 2147483647) hp4 rfl)) (gOk _ _ _ _ _) dX1_lets_45 (tX9_partnerRole _ _ _ _ _) ⟨wV_X9_partnerRole, wL_X9_partnerRole⟩ wM_X1_41 (gCX9 _ _ _ _ _) rfl hA3 rfl ⟨le_t rfl, le_t rfl⟩ ⟨le_t rfl, le_t rfl⟩ rfl (le_t rfl) fun z33 h32 => ?_
    refine pf_X1_5 (pc := 48) dX1_lets_48 wF_X1_44 (A_21 hw) T28 (rW (c := (-2147483648)) (d := 2147483647) h32.1 rfl) fun μ34 u35 T36 => ?_
    refine sv_aload_n (pc := 51) dX1_lets_51 rfl rfl ?_
    refine mr_iconst (pc := 52) (z := 0) dX1_lets_52 ?_
    refine pf_X1_6 (pc := 53) dX1_lets_53 wF_X1_47 (A_21 hw) T36 (rW (c := 0) (d := 500) (rR (x := 0)) rfl) fun μ37 u38 T39 => ?_
    refine sv_aload_n (pc := 56) dX1_lets_56 rfl rfl ?_
    refine mr_iconst (pc := 57) (z := 0) dX1_lets_57 ?_
    refine pf_X1_7 (pc := 58) dX1_lets_58 wF_X1_50 (A_21 hw) T39 (rW (c := 0) (d := 2) (rR (x := 0)) rfl) fun μ40 u41 T42 => ?_
    refine sv_aload_n (pc := 61) dX1_lets_61 rfl rfl ?_
    refine mr_iload_n (pc := 62) (z := p1) dX1_lets_62 rfl rfl ?_
    refine mr_iconst (pc := 63) (z := 0) dX1_lets_63 ?_
    refine mr_cVV (pc := 64) (c_X1_goThrough_0 hw T42 (rW (c := (-2147483648)) (d := 2147483647) h8 rfl) (rR (x := 0)) (PC.keep hIPC hw ((mF.up (mF.up (mF.up (mF.up (mF.up (mF.up mF.refl (A_21 hw) u11 rfl) (A_21 hw) u19 rfl) (A_21 hw) u27 rfl) (A_21 hw) u35 rfl) (A_21 hw) u38 rfl) (A_21 hw) u41 rfl) : mF [21002, 21003, 21004, 21005, 21006, 21007] w μ μ40) rfl) (RT.keep (by show 0 ≤ μ10 21 2; rw [u11.1]; exact Int.natCast_nonneg _) hw ((mF.up (mF.up (mF.up (mF.up (mF.up mF.refl (A_21 hw) u19 rfl) (A_21 hw) u27 rfl) (A_21 hw) u35 rfl) (A_21 hw) u38 rfl) (A_21 hw) u41 rfl) : mF [21003, 21004, 21005, 21006, 21007] w μ10 μ40) rfl)) (gOk _ _ _ _ _) dX1_lets_64 (tX1_goThrough _ _ _ _ _) ⟨wV_X1_goThrough, wL_X1_goThrough⟩ wM_X1_53 (gCX1 _ _ _ _ _) rfl (A_21 hw) rfl ⟨le_t rfl, le_t rfl⟩ ⟨le_t rfl, le_t rfl⟩ rfl (le_t rfl) fun μ43 T44 F45 h46 => ?_
    refine sv_aload_n (pc := 67) dX1_lets_67 rfl rfl ?_
    refine gf_X1_7 (pc := 68) dX1_lets_68 wF_X1_50 (A_21 hw) T44 fun z47 q48 h49 => ?_
    refine mr_iconst (pc := 71) (z := 2) dX1_lets_71 ?_
    refine mr_icmp_eq (pc := 72) (tgt := 79) dX1_lets_72 (by decide) (r32 h49 rfl) (r32 (rR (x := 2)) rfl) (fun h52 => ?_) (fun h52 => ?_)
    · have h53 : 2 ≤ z47 ∧ z47 ≤ 2 := (vc_X12_letWay_16 h52 h49)
      refine mr_iconst (pc := 79) (z := 0) dX1_lets_79 ?_
      exact mr_zret dX1_lets_80 rfl (rW (c := 0) (d := 1) (rR (x := 0)) rfl) (le_t rfl) (le_t rfl) T44 (mF.call (mF.up (mF.up (mF.up (mF.up (mF.up (mF.up mF.refl (A_21 hw) u11 rfl) (A_21 hw) u19 rfl) (A_21 hw) u27 rfl) (A_21 hw) u35 rfl) (A_21 hw) u38 rfl) (A_21 hw) u41 rfl) F45 rfl) ⟨(rW (c := 0) (d := 1) (rR (x := 0)) rfl), trivial⟩
    have h54 : 0 ≤ z47 ∧ z47 ≤ 1 := (vc_X12_letWay_5 h52 h49)
    refine mr_iconst (pc := 75) (z := 1) dX1_lets_75 ?_
    refine sv_goto (pc := 76) (tgt := 80) dX1_lets_76 (by decide) ?_
    exact mr_zret dX1_lets_80 rfl (rW (c := 0) (d := 1) (rR (x := 1)) rfl) (le_t rfl) (le_t rfl) T44 (mF.call (mF.up (mF.up (mF.up (mF.up (mF.up (mF.up mF.refl (A_21 hw) u11 rfl) (A_21 hw) u19 rfl) (A_21 hw) u27 rfl) (A_21 hw) u35 rfl) (A_21 hw) u38 rfl) (A_21 hw) u41 rfl) F45 rfl) ⟨(rW (c := 0) (d := 1) (rR (x := 1)) rfl), trivial⟩
  refine mr_iconst (pc := 12) (z := 1) dX1_lets_12 ?_
  exact mr_zret dX1_lets_13 rfl (rW (c := 0) (d := 1) (rR (x := 1)) rfl) (le_t rfl) (le_t rfl) hT mF.refl ⟨(rW (c := 0) (d := 1) (rR (x := 1)) rfl), trivial⟩
end
section
theorem dX0_goBy_0 : decode cX0_goBy 0 = .ok (.aload_n 0, 1) := dc0 dO_42 (by decide +kernel)
theorem dX0_goBy_1 : decode cX0_goBy 1 = .ok (.iload_n 2, 1) := dc0 dO_28 (by decide +kernel)
theorem dX0_goBy_2 : decode cX0_goBy 2 = .ok (.putfield 33, 3) := dcU2 dO_181 (by decide +kernel)
theorem dX0_goBy_5 : decode cX0_goBy 5 = .ok (.aload_n 0, 1) := dc0 dO_42 (by decide +kernel)
theorem dX0_goBy_6 : decode cX0_goBy 6 = .ok (.iconst 0, 1) := dc0 dO_3 (by decide +kernel)
theorem dX0_goBy_7 : decode cX0_goBy 7 = .ok (.putfield 37, 3) := dcU2 dO_181 (by decide +kernel)
theorem dX0_goBy_10 : decode cX0_goBy 10 = .ok (.iload_n 1, 1) := dc0 dO_27 (by decide +kernel)
theorem dX0_goBy_11 : decode cX0_goBy 11 = .ok (.istore_n 3, 1) := dc0 dO_62 (by decide +kernel)
theorem dX0_goBy_12 : decode cX0_goBy 12 = .ok (.iload_n 3, 1) := dc0 dO_29 (by decide +kernel)
theorem dX0_goBy_13 : decode cX0_goBy 13 = .ok (.ifCond .le 21, 3) := dcS2 dO_158 (by decide +kernel)
theorem dX0_goBy_16 : decode cX0_goBy 16 = .ok (.aload_n 0, 1) := dc0 dO_42 (by decide +kernel)
theorem dX0_goBy_17 : decode cX0_goBy 17 = .ok (.dup, 1) := dc0 dO_89 (by decide +kernel)
theorem dX0_goBy_18 : decode cX0_goBy 18 = .ok (.getfield 37, 3) := dcU2 dO_180 (by decide +kernel)
theorem dX0_goBy_21 : decode cX0_goBy 21 = .ok (.iconst 1, 1) := dc0 dO_4 (by decide +kernel)
theorem dX0_goBy_22 : decode cX0_goBy 22 = .ok (.iadd, 1) := dc0 dO_96 (by decide +kernel)
theorem dX0_goBy_23 : decode cX0_goBy 23 = .ok (.putfield 37, 3) := dcU2 dO_181 (by decide +kernel)
theorem dX0_goBy_26 : decode cX0_goBy 26 = .ok (.iload_n 3, 1) := dc0 dO_29 (by decide +kernel)
theorem dX0_goBy_27 : decode cX0_goBy 27 = .ok (.bipush 10, 2) := dcS1 dO_16 (by decide +kernel)
theorem dX0_goBy_29 : decode cX0_goBy 29 = .ok (.idiv, 1) := dc0 dO_108 (by decide +kernel)
theorem dX0_goBy_30 : decode cX0_goBy 30 = .ok (.istore_n 3, 1) := dc0 dO_62 (by decide +kernel)
theorem dX0_goBy_31 : decode cX0_goBy 31 = .ok (.goto (-19), 3) := dcS2 dO_167 (by decide +kernel)
theorem dX0_goBy_34 : decode cX0_goBy 34 = .ok (.iload_n 1, 1) := dc0 dO_27 (by decide +kernel)
theorem dX0_goBy_35 : decode cX0_goBy 35 = .ok (.istore_n 3, 1) := dc0 dO_62 (by decide +kernel)
theorem dX0_goBy_36 : decode cX0_goBy 36 = .ok (.aload_n 0, 1) := dc0 dO_42 (by decide +kernel)
theorem dX0_goBy_37 : decode cX0_goBy 37 = .ok (.getfield 37, 3) := dcU2 dO_180 (by decide +kernel)
theorem dX0_goBy_40 : decode cX0_goBy 40 = .ok (.iconst 1, 1) := dc0 dO_4 (by decide +kernel)
theorem dX0_goBy_41 : decode cX0_goBy 41 = .ok (.isub, 1) := dc0 dO_100 (by decide +kernel)
theorem dX0_goBy_42 : decode cX0_goBy 42 = .ok (.istore 4, 2) := dcU1 dO_54 (by decide +kernel)
theorem dX0_goBy_44 : decode cX0_goBy 44 = .ok (.iload 4, 2) := dcU1 dO_21 (by decide +kernel)
theorem dX0_goBy_46 : decode cX0_goBy 46 = .ok (.ifCond .lt 25, 3) := dcS2 dO_155 (by decide +kernel)
theorem dX0_goBy_49 : decode cX0_goBy 49 = .ok (.aload_n 0, 1) := dc0 dO_42 (by decide +kernel)
theorem dX0_goBy_50 : decode cX0_goBy 50 = .ok (.getfield 9, 3) := dcU2 dO_180 (by decide +kernel)
theorem dX0_goBy_53 : decode cX0_goBy 53 = .ok (.iload 4, 2) := dcU1 dO_21 (by decide +kernel)
theorem dX0_goBy_55 : decode cX0_goBy 55 = .ok (.iload_n 3, 1) := dc0 dO_29 (by decide +kernel)
theorem dX0_goBy_56 : decode cX0_goBy 56 = .ok (.bipush 10, 2) := dcS1 dO_16 (by decide +kernel)
theorem dX0_goBy_58 : decode cX0_goBy 58 = .ok (.irem, 1) := dc0 dO_112 (by decide +kernel)
theorem dX0_goBy_59 : decode cX0_goBy 59 = .ok (.iastore, 1) := dc0 dO_79 (by decide +kernel)
theorem dX0_goBy_60 : decode cX0_goBy 60 = .ok (.iload_n 3, 1) := dc0 dO_29 (by decide +kernel)
theorem dX0_goBy_61 : decode cX0_goBy 61 = .ok (.bipush 10, 2) := dcS1 dO_16 (by decide +kernel)
theorem dX0_goBy_63 : decode cX0_goBy 63 = .ok (.idiv, 1) := dc0 dO_108 (by decide +kernel)
theorem dX0_goBy_64 : decode cX0_goBy 64 = .ok (.istore_n 3, 1) := dc0 dO_62 (by decide +kernel)
theorem dX0_goBy_65 : decode cX0_goBy 65 = .ok (.iinc 4 (-1), 3) := dcI dO_132 (by decide +kernel)
theorem dX0_goBy_68 : decode cX0_goBy 68 = .ok (.goto (-24), 3) := dcS2 dO_167 (by decide +kernel)
theorem dX0_goBy_71 : decode cX0_goBy 71 = .ok (.return_, 1) := dc0 dO_177 (by decide +kernel)
theorem dX11_announce_0 : decode cX11_announce 0 = .ok (.aload_n 0, 1) := dc0 dO_42 (by decide +kernel)
theorem dX11_announce_1 : decode cX11_announce 1 = .ok (.iload_n 1, 1) := dc0 dO_27 (by decide +kernel)
theorem dX11_announce_2 : decode cX11_announce 2 = .ok (.invokevirtual 105, 3) := dcU2 dO_182 (by decide +kernel)
theorem dX11_announce_5 : decode cX11_announce 5 = .ok (.ifCond .eq 20, 3) := dcS2 dO_153 (by decide +kernel)
theorem dX11_announce_8 : decode cX11_announce 8 = .ok (.aload_n 0, 1) := dc0 dO_42 (by decide +kernel)
theorem dX11_announce_9 : decode cX11_announce 9 = .ok (.iload_n 2, 1) := dc0 dO_28 (by decide +kernel)
theorem dX11_announce_10 : decode cX11_announce 10 = .ok (.invokevirtual 182, 3) := dcU2 dO_182 (by decide +kernel)
theorem dX11_announce_13 : decode cX11_announce 13 = .ok (.ifCond .eq 12, 3) := dcS2 dO_153 (by decide +kernel)
theorem dX11_announce_16 : decode cX11_announce 16 = .ok (.iload_n 3, 1) := dc0 dO_29 (by decide +kernel)
theorem dX11_announce_17 : decode cX11_announce 17 = .ok (.ifCond .lt 8, 3) := dcS2 dO_155 (by decide +kernel)
theorem dX11_announce_20 : decode cX11_announce 20 = .ok (.iload_n 3, 1) := dc0 dO_29 (by decide +kernel)
theorem dX11_announce_21 : decode cX11_announce 21 = .ok (.iconst 2, 1) := dc0 dO_5 (by decide +kernel)
theorem dX11_announce_22 : decode cX11_announce 22 = .ok (.if_icmp .le 5, 3) := dcS2 dO_164 (by decide +kernel)
theorem dX11_announce_25 : decode cX11_announce 25 = .ok (.iconst (-1), 1) := dc0 dO_2 (by decide +kernel)
theorem dX11_announce_26 : decode cX11_announce 26 = .ok (.ireturn, 1) := dc0 dO_172 (by decide +kernel)
theorem dX11_announce_27 : decode cX11_announce 27 = .ok (.aload_n 0, 1) := dc0 dO_42 (by decide +kernel)
theorem dX11_announce_28 : decode cX11_announce 28 = .ok (.getfield 26, 3) := dcU2 dO_180 (by decide +kernel)
theorem dX11_announce_31 : decode cX11_announce 31 = .ok (.getfield 283, 3) := dcU2 dO_180 (by decide +kernel)
theorem dX11_announce_34 : decode cX11_announce 34 = .ok (.iload_n 1, 1) := dc0 dO_27 (by decide +kernel)
theorem dX11_announce_35 : decode cX11_announce 35 = .ok (.aaload, 1) := dc0 dO_50 (by decide +kernel)
theorem dX11_announce_36 : decode cX11_announce 36 = .ok (.getfield 293, 3) := dcU2 dO_180 (by decide +kernel)
theorem dX11_announce_39 : decode cX11_announce 39 = .ok (.iload_n 2, 1) := dc0 dO_28 (by decide +kernel)
theorem dX11_announce_40 : decode cX11_announce 40 = .ok (.iaload, 1) := dc0 dO_46 (by decide +kernel)
theorem dX11_announce_41 : decode cX11_announce 41 = .ok (.iload_n 3, 1) := dc0 dO_29 (by decide +kernel)
theorem dX11_announce_42 : decode cX11_announce 42 = .ok (.if_icmp .ne 6, 3) := dcS2 dO_160 (by decide +kernel)
theorem dX11_announce_45 : decode cX11_announce 45 = .ok (.bipush (-2), 2) := dcS1 dO_16 (by decide +kernel)
theorem dX11_announce_47 : decode cX11_announce 47 = .ok (.ireturn, 1) := dc0 dO_172 (by decide +kernel)
theorem dX11_announce_48 : decode cX11_announce 48 = .ok (.aload_n 0, 1) := dc0 dO_42 (by decide +kernel)
theorem dX11_announce_49 : decode cX11_announce 49 = .ok (.getfield 26, 3) := dcU2 dO_180 (by decide +kernel)
theorem dX11_announce_52 : decode cX11_announce 52 = .ok (.getfield 283, 3) := dcU2 dO_180 (by decide +kernel)
theorem dX11_announce_55 : decode cX11_announce 55 = .ok (.iload_n 1, 1) := dc0 dO_27 (by decide +kernel)
theorem dX11_announce_56 : decode cX11_announce 56 = .ok (.aaload, 1) := dc0 dO_50 (by decide +kernel)
theorem dX11_announce_57 : decode cX11_announce 57 = .ok (.getfield 293, 3) := dcU2 dO_180 (by decide +kernel)
theorem dX11_announce_60 : decode cX11_announce 60 = .ok (.iload_n 2, 1) := dc0 dO_28 (by decide +kernel)
theorem dX11_announce_61 : decode cX11_announce 61 = .ok (.iload_n 3, 1) := dc0 dO_29 (by decide +kernel)
theorem dX11_announce_62 : decode cX11_announce 62 = .ok (.iastore, 1) := dc0 dO_79 (by decide +kernel)
theorem dX11_announce_63 : decode cX11_announce 63 = .ok (.aload_n 0, 1) := dc0 dO_42 (by decide +kernel)
theorem dX11_announce_64 : decode cX11_announce 64 = .ok (.getfield 51, 3) := dcU2 dO_180 (by decide +kernel)
theorem dX11_announce_67 : decode cX11_announce 67 = .ok (.iload_n 1, 1) := dc0 dO_27 (by decide +kernel)
theorem dX11_announce_68 : decode cX11_announce 68 = .ok (.iload_n 2, 1) := dc0 dO_28 (by decide +kernel)
theorem dX11_announce_69 : decode cX11_announce 69 = .ok (.invokevirtual 296, 3) := dcU2 dO_182 (by decide +kernel)
theorem dX11_announce_72 : decode cX11_announce 72 = .ok (.iconst 0, 1) := dc0 dO_3 (by decide +kernel)
theorem dX11_announce_73 : decode cX11_announce 73 = .ok (.ireturn, 1) := dc0 dO_172 (by decide +kernel)
theorem dX11_demand_0 : decode cX11_demand 0 = .ok (.aload_n 0, 1) := dc0 dO_42 (by decide +kernel)
theorem dX11_demand_1 : decode cX11_demand 1 = .ok (.iload_n 1, 1) := dc0 dO_27 (by decide +kernel)
theorem dX11_demand_2 : decode cX11_demand 2 = .ok (.invokevirtual 105, 3) := dcU2 dO_182 (by decide +kernel)
theorem dX11_demand_5 : decode cX11_demand 5 = .ok (.ifCond .eq 14, 3) := dcS2 dO_153 (by decide +kernel)
theorem dX11_demand_8 : decode cX11_demand 8 = .ok (.iload_n 3, 1) := dc0 dO_29 (by decide +kernel)
theorem dX11_demand_9 : decode cX11_demand 9 = .ok (.iconst 1, 1) := dc0 dO_4 (by decide +kernel)
theorem dX11_demand_10 : decode cX11_demand 10 = .ok (.if_icmp .lt 9, 3) := dcS2 dO_161 (by decide +kernel)
theorem dX11_demand_13 : decode cX11_demand 13 = .ok (.iload_n 3, 1) := dc0 dO_29 (by decide +kernel)
theorem dX11_demand_14 : decode cX11_demand 14 = .ok (.ldc 226, 2) := dcU1 dO_18 (by decide +kernel)
theorem dX11_demand_16 : decode cX11_demand 16 = .ok (.if_icmp .le 5, 3) := dcS2 dO_164 (by decide +kernel)
theorem dX11_demand_19 : decode cX11_demand 19 = .ok (.iconst (-1), 1) := dc0 dO_2 (by decide +kernel)
theorem dX11_demand_20 : decode cX11_demand 20 = .ok (.ireturn, 1) := dc0 dO_172 (by decide +kernel)
theorem dX11_demand_21 : decode cX11_demand 21 = .ok (.aload_n 0, 1) := dc0 dO_42 (by decide +kernel)
theorem dX11_demand_22 : decode cX11_demand 22 = .ok (.getfield 65, 3) := dcU2 dO_180 (by decide +kernel)
theorem dX11_demand_25 : decode cX11_demand 25 = .ok (.getfield 373, 3) := dcU2 dO_180 (by decide +kernel)
theorem dX11_demand_28 : decode cX11_demand 28 = .ok (.bipush 16, 2) := dcS1 dO_16 (by decide +kernel)
theorem dX11_demand_30 : decode cX11_demand 30 = .ok (.if_icmp .lt 6, 3) := dcS2 dO_161 (by decide +kernel)
theorem dX11_demand_33 : decode cX11_demand 33 = .ok (.bipush (-3), 2) := dcS1 dO_16 (by decide +kernel)
theorem dX11_demand_35 : decode cX11_demand 35 = .ok (.ireturn, 1) := dc0 dO_172 (by decide +kernel)
theorem dX11_demand_36 : decode cX11_demand 36 = .ok (.aload_n 0, 1) := dc0 dO_42 (by decide +kernel)
theorem dX11_demand_37 : decode cX11_demand 37 = .ok (.getfield 65, 3) := dcU2 dO_180 (by decide +kernel)
theorem dX11_demand_40 : decode cX11_demand 40 = .ok (.iload_n 1, 1) := dc0 dO_27 (by decide +kernel)
theorem dX11_demand_41 : decode cX11_demand 41 = .ok (.iload_n 2, 1) := dc0 dO_28 (by decide +kernel)
theorem dX11_demand_42 : decode cX11_demand 42 = .ok (.iload_n 3, 1) := dc0 dO_29 (by decide +kernel)
theorem dX11_demand_43 : decode cX11_demand 43 = .ok (.invokevirtual 376, 3) := dcU2 dO_182 (by decide +kernel)
theorem dX11_demand_46 : decode cX11_demand 46 = .ok (.ireturn, 1) := dc0 dO_172 (by decide +kernel)
theorem dX11_differ_0 : decode cX11_differ 0 = .ok (.aload_n 0, 1) := dc0 dO_42 (by decide +kernel)
theorem dX11_differ_1 : decode cX11_differ 1 = .ok (.iload_n 1, 1) := dc0 dO_27 (by decide +kernel)
theorem dX11_differ_2 : decode cX11_differ 2 = .ok (.invokevirtual 105, 3) := dcU2 dO_182 (by decide +kernel)
theorem dX11_differ_5 : decode cX11_differ 5 = .ok (.ifCond .eq 23, 3) := dcS2 dO_153 (by decide +kernel)
theorem dX11_differ_8 : decode cX11_differ 8 = .ok (.aload_n 0, 1) := dc0 dO_42 (by decide +kernel)
theorem dX11_differ_9 : decode cX11_differ 9 = .ok (.iload_n 2, 1) := dc0 dO_28 (by decide +kernel)
theorem dX11_differ_10 : decode cX11_differ 10 = .ok (.invokevirtual 105, 3) := dcU2 dO_182 (by decide +kernel)
theorem dX11_differ_13 : decode cX11_differ 13 = .ok (.ifCond .eq 15, 3) := dcS2 dO_153 (by decide +kernel)
theorem dX11_differ_16 : decode cX11_differ 16 = .ok (.aload_n 0, 1) := dc0 dO_42 (by decide +kernel)
theorem dX11_differ_17 : decode cX11_differ 17 = .ok (.getfield 65, 3) := dcU2 dO_180 (by decide +kernel)
theorem dX11_differ_20 : decode cX11_differ 20 = .ok (.iload_n 1, 1) := dc0 dO_27 (by decide +kernel)
theorem dX11_differ_21 : decode cX11_differ 21 = .ok (.iload_n 2, 1) := dc0 dO_28 (by decide +kernel)
theorem dX11_differ_22 : decode cX11_differ 22 = .ok (.invokevirtual 388, 3) := dcU2 dO_182 (by decide +kernel)
theorem dX11_differ_25 : decode cX11_differ 25 = .ok (.goto 6, 3) := dcS2 dO_167 (by decide +kernel)
theorem dX11_differ_28 : decode cX11_differ 28 = .ok (.ldc2_w 392, 3) := dcU2 dO_20 (by decide +kernel)
theorem dX11_differ_31 : decode cX11_differ 31 = .ok (.lreturn, 1) := dc0 dO_173 (by decide +kernel)
theorem dX11_go_0 : decode cX11_go 0 = .ok (.iload_n 1, 1) := dc0 dO_27 (by decide +kernel)
theorem dX11_go_1 : decode cX11_go 1 = .ok (.iconst 1, 1) := dc0 dO_4 (by decide +kernel)
theorem dX11_go_2 : decode cX11_go 2 = .ok (.if_icmp .lt 10, 3) := dcS2 dO_161 (by decide +kernel)
theorem dX11_go_5 : decode cX11_go 5 = .ok (.iload_n 1, 1) := dc0 dO_27 (by decide +kernel)
theorem dX11_go_6 : decode cX11_go 6 = .ok (.sipush 500, 3) := dcS2 dO_17 (by decide +kernel)
theorem dX11_go_9 : decode cX11_go 9 = .ok (.if_icmp .le 5, 3) := dcS2 dO_164 (by decide +kernel)
theorem dX11_go_12 : decode cX11_go 12 = .ok (.iconst (-1), 1) := dc0 dO_2 (by decide +kernel)
theorem dX11_go_13 : decode cX11_go 13 = .ok (.ireturn, 1) := dc0 dO_172 (by decide +kernel)
theorem dX11_go_14 : decode cX11_go 14 = .ok (.iconst 0, 1) := dc0 dO_3 (by decide +kernel)
theorem dX11_go_15 : decode cX11_go 15 = .ok (.istore_n 2, 1) := dc0 dO_61 (by decide +kernel)
theorem dX11_go_16 : decode cX11_go 16 = .ok (.iload_n 2, 1) := dc0 dO_28 (by decide +kernel)
theorem dX11_go_17 : decode cX11_go 17 = .ok (.iload_n 1, 1) := dc0 dO_27 (by decide +kernel)
theorem dX11_go_18 : decode cX11_go 18 = .ok (.if_icmp .ge 22, 3) := dcS2 dO_162 (by decide +kernel)
theorem dX11_go_21 : decode cX11_go 21 = .ok (.aload_n 0, 1) := dc0 dO_42 (by decide +kernel)
theorem dX11_go_22 : decode cX11_go 22 = .ok (.getfield 51, 3) := dcU2 dO_180 (by decide +kernel)
theorem dX11_go_25 : decode cX11_go 25 = .ok (.ldc_w 299, 3) := dcU2 dO_19 (by decide +kernel)
theorem dX11_go_28 : decode cX11_go 28 = .ok (.invokevirtual 300, 3) := dcU2 dO_182 (by decide +kernel)
theorem dX11_go_31 : decode cX11_go 31 = .ok (.ifCond .eq 9, 3) := dcS2 dO_153 (by decide +kernel)
theorem dX11_go_34 : decode cX11_go 34 = .ok (.iinc 2 1, 3) := dcI dO_132 (by decide +kernel)
theorem dX11_go_37 : decode cX11_go 37 = .ok (.goto (-21), 3) := dcS2 dO_167 (by decide +kernel)
theorem dX11_go_40 : decode cX11_go 40 = .ok (.iload_n 2, 1) := dc0 dO_28 (by decide +kernel)
theorem dX11_go_41 : decode cX11_go 41 = .ok (.ireturn, 1) := dc0 dO_172 (by decide +kernel)
theorem dX11_hear_0 : decode cX11_hear 0 = .ok (.aload_n 0, 1) := dc0 dO_42 (by decide +kernel)
theorem dX11_hear_1 : decode cX11_hear 1 = .ok (.iload_n 1, 1) := dc0 dO_27 (by decide +kernel)
theorem dX11_hear_2 : decode cX11_hear 2 = .ok (.invokevirtual 119, 3) := dcU2 dO_182 (by decide +kernel)
theorem dX11_hear_5 : decode cX11_hear 5 = .ok (.ifCond .eq 10, 3) := dcS2 dO_153 (by decide +kernel)
theorem dX11_hear_8 : decode cX11_hear 8 = .ok (.iload_n 2, 1) := dc0 dO_28 (by decide +kernel)
theorem dX11_hear_9 : decode cX11_hear 9 = .ok (.invokestatic 271, 3) := dcU2 dO_184 (by decide +kernel)
theorem dX11_hear_12 : decode cX11_hear 12 = .ok (.ifCond .ne 5, 3) := dcS2 dO_154 (by decide +kernel)
theorem dX11_hear_15 : decode cX11_hear 15 = .ok (.iconst (-1), 1) := dc0 dO_2 (by decide +kernel)
theorem dX11_hear_16 : decode cX11_hear 16 = .ok (.ireturn, 1) := dc0 dO_172 (by decide +kernel)
theorem dX11_hear_17 : decode cX11_hear 17 = .ok (.aload_n 0, 1) := dc0 dO_42 (by decide +kernel)
theorem dX11_hear_18 : decode cX11_hear 18 = .ok (.getfield 58, 3) := dcU2 dO_180 (by decide +kernel)
theorem dX11_hear_21 : decode cX11_hear 21 = .ok (.getfield 344, 3) := dcU2 dO_180 (by decide +kernel)
theorem dX11_hear_24 : decode cX11_hear 24 = .ok (.ifCond .eq 18, 3) := dcS2 dO_153 (by decide +kernel)
theorem dX11_hear_27 : decode cX11_hear 27 = .ok (.aload_n 0, 1) := dc0 dO_42 (by decide +kernel)
theorem dX11_hear_28 : decode cX11_hear 28 = .ok (.getfield 26, 3) := dcU2 dO_180 (by decide +kernel)
theorem dX11_hear_31 : decode cX11_hear 31 = .ok (.getfield 122, 3) := dcU2 dO_180 (by decide +kernel)
theorem dX11_hear_34 : decode cX11_hear 34 = .ok (.iload_n 1, 1) := dc0 dO_27 (by decide +kernel)
theorem dX11_hear_35 : decode cX11_hear 35 = .ok (.aaload, 1) := dc0 dO_50 (by decide +kernel)
theorem dX11_hear_36 : decode cX11_hear 36 = .ok (.getfield 134, 3) := dcU2 dO_180 (by decide +kernel)
theorem dX11_hear_39 : decode cX11_hear 39 = .ok (.ifCond .ne 6, 3) := dcS2 dO_154 (by decide +kernel)
theorem dX11_hear_42 : decode cX11_hear 42 = .ok (.bipush (-2), 2) := dcS1 dO_16 (by decide +kernel)
theorem dX11_hear_44 : decode cX11_hear 44 = .ok (.ireturn, 1) := dc0 dO_172 (by decide +kernel)
theorem dX11_hear_45 : decode cX11_hear 45 = .ok (.aload_n 0, 1) := dc0 dO_42 (by decide +kernel)
theorem dX11_hear_46 : decode cX11_hear 46 = .ok (.getfield 51, 3) := dcU2 dO_180 (by decide +kernel)
theorem dX11_hear_49 : decode cX11_hear 49 = .ok (.aload_n 0, 1) := dc0 dO_42 (by decide +kernel)
theorem dX11_hear_50 : decode cX11_hear 50 = .ok (.getfield 58, 3) := dcU2 dO_180 (by decide +kernel)
theorem dX11_hear_53 : decode cX11_hear 53 = .ok (.iload_n 1, 1) := dc0 dO_27 (by decide +kernel)
theorem dX11_hear_54 : decode cX11_hear 54 = .ok (.iload_n 2, 1) := dc0 dO_28 (by decide +kernel)
theorem dX11_hear_55 : decode cX11_hear 55 = .ok (.invokevirtual 347, 3) := dcU2 dO_182 (by decide +kernel)
theorem dX11_hear_58 : decode cX11_hear 58 = .ok (.ireturn, 1) := dc0 dO_172 (by decide +kernel)
theorem dX11_isRule_0 : decode cX11_isRule 0 = .ok (.iload_n 0, 1) := dc0 dO_26 (by decide +kernel)
theorem dX11_isRule_1 : decode cX11_isRule 1 = .ok (.ifCond .ge 5, 3) := dcS2 dO_156 (by decide +kernel)
theorem dX11_isRule_4 : decode cX11_isRule 4 = .ok (.iconst 0, 1) := dc0 dO_3 (by decide +kernel)
theorem dX11_isRule_5 : decode cX11_isRule 5 = .ok (.ireturn, 1) := dc0 dO_172 (by decide +kernel)
theorem dX11_isRule_6 : decode cX11_isRule 6 = .ok (.iconst 0, 1) := dc0 dO_3 (by decide +kernel)
theorem dX11_isRule_7 : decode cX11_isRule 7 = .ok (.istore_n 1, 1) := dc0 dO_60 (by decide +kernel)
theorem dX11_isRule_8 : decode cX11_isRule 8 = .ok (.iload_n 0, 1) := dc0 dO_26 (by decide +kernel)
theorem dX11_isRule_9 : decode cX11_isRule 9 = .ok (.istore_n 2, 1) := dc0 dO_61 (by decide +kernel)
theorem dX11_isRule_10 : decode cX11_isRule 10 = .ok (.iload_n 2, 1) := dc0 dO_28 (by decide +kernel)
theorem dX11_isRule_11 : decode cX11_isRule 11 = .ok (.ifCond .le 43, 3) := dcS2 dO_158 (by decide +kernel)
theorem dX11_isRule_14 : decode cX11_isRule 14 = .ok (.iload_n 2, 1) := dc0 dO_28 (by decide +kernel)
theorem dX11_isRule_15 : decode cX11_isRule 15 = .ok (.bipush 10, 2) := dcS1 dO_16 (by decide +kernel)
theorem dX11_isRule_17 : decode cX11_isRule 17 = .ok (.irem, 1) := dc0 dO_112 (by decide +kernel)
theorem dX11_isRule_18 : decode cX11_isRule 18 = .ok (.istore_n 3, 1) := dc0 dO_62 (by decide +kernel)
theorem dX11_isRule_19 : decode cX11_isRule 19 = .ok (.iload_n 3, 1) := dc0 dO_29 (by decide +kernel)
theorem dX11_isRule_20 : decode cX11_isRule 20 = .ok (.iconst 1, 1) := dc0 dO_4 (by decide +kernel)
theorem dX11_isRule_21 : decode cX11_isRule 21 = .ok (.if_icmp .lt 17, 3) := dcS2 dO_161 (by decide +kernel)
theorem dX11_isRule_24 : decode cX11_isRule 24 = .ok (.iload_n 3, 1) := dc0 dO_29 (by decide +kernel)
theorem dX11_isRule_25 : decode cX11_isRule 25 = .ok (.bipush 6, 2) := dcS1 dO_16 (by decide +kernel)
theorem dX11_isRule_27 : decode cX11_isRule 27 = .ok (.if_icmp .gt 11, 3) := dcS2 dO_163 (by decide +kernel)
theorem dX11_isRule_30 : decode cX11_isRule 30 = .ok (.iload_n 1, 1) := dc0 dO_27 (by decide +kernel)
theorem dX11_isRule_31 : decode cX11_isRule 31 = .ok (.iload_n 3, 1) := dc0 dO_29 (by decide +kernel)
theorem dX11_isRule_32 : decode cX11_isRule 32 = .ok (.ishr, 1) := dc0 dO_122 (by decide +kernel)
theorem dX11_isRule_33 : decode cX11_isRule 33 = .ok (.iconst 1, 1) := dc0 dO_4 (by decide +kernel)
theorem dX11_isRule_34 : decode cX11_isRule 34 = .ok (.iand, 1) := dc0 dO_126 (by decide +kernel)
theorem dX11_isRule_35 : decode cX11_isRule 35 = .ok (.ifCond .eq 5, 3) := dcS2 dO_153 (by decide +kernel)
theorem dX11_isRule_38 : decode cX11_isRule 38 = .ok (.iconst 0, 1) := dc0 dO_3 (by decide +kernel)
theorem dX11_isRule_39 : decode cX11_isRule 39 = .ok (.ireturn, 1) := dc0 dO_172 (by decide +kernel)
theorem dX11_isRule_40 : decode cX11_isRule 40 = .ok (.iload_n 1, 1) := dc0 dO_27 (by decide +kernel)
theorem dX11_isRule_41 : decode cX11_isRule 41 = .ok (.iconst 1, 1) := dc0 dO_4 (by decide +kernel)
theorem dX11_isRule_42 : decode cX11_isRule 42 = .ok (.iload_n 3, 1) := dc0 dO_29 (by decide +kernel)
theorem dX11_isRule_43 : decode cX11_isRule 43 = .ok (.ishl, 1) := dc0 dO_120 (by decide +kernel)
theorem dX11_isRule_44 : decode cX11_isRule 44 = .ok (.ior, 1) := dc0 dO_128 (by decide +kernel)
theorem dX11_isRule_45 : decode cX11_isRule 45 = .ok (.istore_n 1, 1) := dc0 dO_60 (by decide +kernel)
theorem dX11_isRule_46 : decode cX11_isRule 46 = .ok (.iload_n 2, 1) := dc0 dO_28 (by decide +kernel)
theorem dX11_isRule_47 : decode cX11_isRule 47 = .ok (.bipush 10, 2) := dcS1 dO_16 (by decide +kernel)
theorem dX11_isRule_49 : decode cX11_isRule 49 = .ok (.idiv, 1) := dc0 dO_108 (by decide +kernel)
theorem dX11_isRule_50 : decode cX11_isRule 50 = .ok (.istore_n 2, 1) := dc0 dO_61 (by decide +kernel)
theorem dX11_isRule_51 : decode cX11_isRule 51 = .ok (.goto (-41), 3) := dcS2 dO_167 (by decide +kernel)
theorem dX11_isRule_54 : decode cX11_isRule 54 = .ok (.iconst 1, 1) := dc0 dO_4 (by decide +kernel)
theorem dX11_isRule_55 : decode cX11_isRule 55 = .ok (.ireturn, 1) := dc0 dO_172 (by decide +kernel)
theorem dX11_letter_0 : decode cX11_letter 0 = .ok (.aload_n 0, 1) := dc0 dO_42 (by decide +kernel)
theorem dX11_letter_1 : decode cX11_letter 1 = .ok (.iload_n 1, 1) := dc0 dO_27 (by decide +kernel)
theorem dX11_letter_2 : decode cX11_letter 2 = .ok (.invokevirtual 105, 3) := dcU2 dO_182 (by decide +kernel)
theorem dX11_letter_5 : decode cX11_letter 5 = .ok (.ifCond .eq 15, 3) := dcS2 dO_153 (by decide +kernel)
theorem dX11_letter_8 : decode cX11_letter 8 = .ok (.aload_n 0, 1) := dc0 dO_42 (by decide +kernel)
theorem dX11_letter_9 : decode cX11_letter 9 = .ok (.getfield 65, 3) := dcU2 dO_180 (by decide +kernel)
theorem dX11_letter_12 : decode cX11_letter 12 = .ok (.iload_n 1, 1) := dc0 dO_27 (by decide +kernel)
theorem dX11_letter_13 : decode cX11_letter 13 = .ok (.iload_n 2, 1) := dc0 dO_28 (by decide +kernel)
theorem dX11_letter_14 : decode cX11_letter 14 = .ok (.invokevirtual 364, 3) := dcU2 dO_182 (by decide +kernel)
theorem dX11_letter_17 : decode cX11_letter 17 = .ok (.goto 4, 3) := dcS2 dO_167 (by decide +kernel)
theorem dX11_letter_20 : decode cX11_letter 20 = .ok (.iconst (-1), 1) := dc0 dO_2 (by decide +kernel)
theorem dX11_letter_21 : decode cX11_letter 21 = .ok (.ireturn, 1) := dc0 dO_172 (by decide +kernel)
theorem dX11_load_0 : decode cX11_load 0 = .ok (.aload_n 0, 1) := dc0 dO_42 (by decide +kernel)
theorem dX11_load_1 : decode cX11_load 1 = .ok (.iload_n 1, 1) := dc0 dO_27 (by decide +kernel)
theorem dX11_load_2 : decode cX11_load 2 = .ok (.invokevirtual 119, 3) := dcU2 dO_182 (by decide +kernel)
theorem dX11_load_5 : decode cX11_load 5 = .ok (.ifCond .eq 10, 3) := dcS2 dO_153 (by decide +kernel)
theorem dX11_load_8 : decode cX11_load 8 = .ok (.iload_n 2, 1) := dc0 dO_28 (by decide +kernel)
theorem dX11_load_9 : decode cX11_load 9 = .ok (.invokestatic 271, 3) := dcU2 dO_184 (by decide +kernel)
theorem dX11_load_12 : decode cX11_load 12 = .ok (.ifCond .ne 5, 3) := dcS2 dO_154 (by decide +kernel)
theorem dX11_load_15 : decode cX11_load 15 = .ok (.iconst (-1), 1) := dc0 dO_2 (by decide +kernel)
theorem dX11_load_16 : decode cX11_load 16 = .ok (.ireturn, 1) := dc0 dO_172 (by decide +kernel)
theorem dX11_load_17 : decode cX11_load 17 = .ok (.aload_n 0, 1) := dc0 dO_42 (by decide +kernel)
theorem dX11_load_18 : decode cX11_load 18 = .ok (.getfield 26, 3) := dcU2 dO_180 (by decide +kernel)
theorem dX11_load_21 : decode cX11_load 21 = .ok (.getfield 122, 3) := dcU2 dO_180 (by decide +kernel)
theorem dX11_load_24 : decode cX11_load 24 = .ok (.iload_n 1, 1) := dc0 dO_27 (by decide +kernel)
theorem dX11_load_25 : decode cX11_load 25 = .ok (.aaload, 1) := dc0 dO_50 (by decide +kernel)
theorem dX11_load_26 : decode cX11_load 26 = .ok (.astore_n 3, 1) := dc0 dO_78 (by decide +kernel)
theorem dX11_load_27 : decode cX11_load 27 = .ok (.aload_n 0, 1) := dc0 dO_42 (by decide +kernel)
theorem dX11_load_28 : decode cX11_load 28 = .ok (.getfield 65, 3) := dcU2 dO_180 (by decide +kernel)
theorem dX11_load_31 : decode cX11_load 31 = .ok (.aload_n 3, 1) := dc0 dO_45 (by decide +kernel)
theorem dX11_load_32 : decode cX11_load 32 = .ok (.iload_n 2, 1) := dc0 dO_28 (by decide +kernel)
theorem dX11_load_33 : decode cX11_load 33 = .ok (.invokevirtual 277, 3) := dcU2 dO_182 (by decide +kernel)
theorem dX11_load_36 : decode cX11_load 36 = .ok (.aload_n 3, 1) := dc0 dO_45 (by decide +kernel)
theorem dX11_load_37 : decode cX11_load 37 = .ok (.iconst 1, 1) := dc0 dO_4 (by decide +kernel)
theorem dX11_load_38 : decode cX11_load 38 = .ok (.iload_n 2, 1) := dc0 dO_28 (by decide +kernel)
theorem dX11_load_39 : decode cX11_load 39 = .ok (.isub, 1) := dc0 dO_100 (by decide +kernel)
theorem dX11_load_40 : decode cX11_load 40 = .ok (.invokevirtual 277, 3) := dcU2 dO_182 (by decide +kernel)
theorem dX11_load_43 : decode cX11_load 43 = .ok (.invokevirtual 379, 3) := dcU2 dO_182 (by decide +kernel)
theorem dX11_load_46 : decode cX11_load 46 = .ok (.ireturn, 1) := dc0 dO_172 (by decide +kernel)
theorem dX11_raise_0 : decode cX11_raise 0 = .ok (.aload_n 0, 1) := dc0 dO_42 (by decide +kernel)
theorem dX11_raise_1 : decode cX11_raise 1 = .ok (.iload_n 1, 1) := dc0 dO_27 (by decide +kernel)
theorem dX11_raise_2 : decode cX11_raise 2 = .ok (.invokevirtual 119, 3) := dcU2 dO_182 (by decide +kernel)
theorem dX11_raise_5 : decode cX11_raise 5 = .ok (.ifCond .ne 5, 3) := dcS2 dO_154 (by decide +kernel)
theorem dX11_raise_8 : decode cX11_raise 8 = .ok (.iconst (-1), 1) := dc0 dO_2 (by decide +kernel)
theorem dX11_raise_9 : decode cX11_raise 9 = .ok (.ireturn, 1) := dc0 dO_172 (by decide +kernel)
theorem dX11_raise_10 : decode cX11_raise 10 = .ok (.aload_n 0, 1) := dc0 dO_42 (by decide +kernel)
theorem dX11_raise_11 : decode cX11_raise 11 = .ok (.getfield 26, 3) := dcU2 dO_180 (by decide +kernel)
theorem dX11_raise_14 : decode cX11_raise 14 = .ok (.getfield 122, 3) := dcU2 dO_180 (by decide +kernel)
theorem dX11_raise_17 : decode cX11_raise 17 = .ok (.iload_n 1, 1) := dc0 dO_27 (by decide +kernel)
theorem dX11_raise_18 : decode cX11_raise 18 = .ok (.aaload, 1) := dc0 dO_50 (by decide +kernel)
theorem dX11_raise_19 : decode cX11_raise 19 = .ok (.getfield 134, 3) := dcU2 dO_180 (by decide +kernel)
theorem dX11_raise_22 : decode cX11_raise 22 = .ok (.ifCond .eq 7, 3) := dcS2 dO_153 (by decide +kernel)
theorem dX11_raise_25 : decode cX11_raise 25 = .ok (.iconst 1, 1) := dc0 dO_4 (by decide +kernel)
theorem dX11_raise_26 : decode cX11_raise 26 = .ok (.goto 4, 3) := dcS2 dO_167 (by decide +kernel)
theorem dX11_raise_29 : decode cX11_raise 29 = .ok (.iconst 0, 1) := dc0 dO_3 (by decide +kernel)
theorem dX11_raise_30 : decode cX11_raise 30 = .ok (.istore_n 3, 1) := dc0 dO_62 (by decide +kernel)
theorem dX11_raise_31 : decode cX11_raise 31 = .ok (.iload_n 2, 1) := dc0 dO_28 (by decide +kernel)
theorem dX11_raise_32 : decode cX11_raise 32 = .ok (.ifCond .eq 37, 3) := dcS2 dO_153 (by decide +kernel)
theorem dX11_raise_35 : decode cX11_raise 35 = .ok (.aload_n 0, 1) := dc0 dO_42 (by decide +kernel)
theorem dX11_raise_36 : decode cX11_raise 36 = .ok (.getfield 26, 3) := dcU2 dO_180 (by decide +kernel)
theorem dX11_raise_39 : decode cX11_raise 39 = .ok (.getfield 122, 3) := dcU2 dO_180 (by decide +kernel)
theorem dX11_raise_42 : decode cX11_raise 42 = .ok (.iload_n 1, 1) := dc0 dO_27 (by decide +kernel)
theorem dX11_raise_43 : decode cX11_raise 43 = .ok (.aaload, 1) := dc0 dO_50 (by decide +kernel)
theorem dX11_raise_44 : decode cX11_raise 44 = .ok (.iconst 1, 1) := dc0 dO_4 (by decide +kernel)
theorem dX11_raise_45 : decode cX11_raise 45 = .ok (.putfield 134, 3) := dcU2 dO_181 (by decide +kernel)
theorem dX11_raise_48 : decode cX11_raise 48 = .ok (.aload_n 0, 1) := dc0 dO_42 (by decide +kernel)
theorem dX11_raise_49 : decode cX11_raise 49 = .ok (.getfield 51, 3) := dcU2 dO_180 (by decide +kernel)
theorem dX11_raise_52 : decode cX11_raise 52 = .ok (.iload_n 1, 1) := dc0 dO_27 (by decide +kernel)
theorem dX11_raise_53 : decode cX11_raise 53 = .ok (.iconst 0, 1) := dc0 dO_3 (by decide +kernel)
theorem dX11_raise_54 : decode cX11_raise 54 = .ok (.invokevirtual 138, 3) := dcU2 dO_182 (by decide +kernel)
theorem dX11_raise_57 : decode cX11_raise 57 = .ok (.aload_n 0, 1) := dc0 dO_42 (by decide +kernel)
theorem dX11_raise_58 : decode cX11_raise 58 = .ok (.getfield 51, 3) := dcU2 dO_180 (by decide +kernel)
theorem dX11_raise_61 : decode cX11_raise 61 = .ok (.iload_n 1, 1) := dc0 dO_27 (by decide +kernel)
theorem dX11_raise_62 : decode cX11_raise 62 = .ok (.iconst 1, 1) := dc0 dO_4 (by decide +kernel)
theorem dX11_raise_63 : decode cX11_raise 63 = .ok (.invokevirtual 138, 3) := dcU2 dO_182 (by decide +kernel)
theorem dX11_raise_66 : decode cX11_raise 66 = .ok (.goto 54, 3) := dcS2 dO_167 (by decide +kernel)
theorem dX11_raise_69 : decode cX11_raise 69 = .ok (.iload_n 3, 1) := dc0 dO_29 (by decide +kernel)
theorem dX11_raise_70 : decode cX11_raise 70 = .ok (.iconst 1, 1) := dc0 dO_4 (by decide +kernel)
theorem dX11_raise_71 : decode cX11_raise 71 = .ok (.if_icmp .ne 49, 3) := dcS2 dO_160 (by decide +kernel)
theorem dX11_raise_74 : decode cX11_raise 74 = .ok (.aload_n 0, 1) := dc0 dO_42 (by decide +kernel)
theorem dX11_raise_75 : decode cX11_raise 75 = .ok (.getfield 51, 3) := dcU2 dO_180 (by decide +kernel)
theorem dX11_raise_78 : decode cX11_raise 78 = .ok (.iload_n 1, 1) := dc0 dO_27 (by decide +kernel)
theorem dX11_raise_79 : decode cX11_raise 79 = .ok (.invokevirtual 142, 3) := dcU2 dO_182 (by decide +kernel)
theorem dX11_raise_82 : decode cX11_raise 82 = .ok (.aload_n 0, 1) := dc0 dO_42 (by decide +kernel)
theorem dX11_raise_83 : decode cX11_raise 83 = .ok (.getfield 51, 3) := dcU2 dO_180 (by decide +kernel)
theorem dX11_raise_86 : decode cX11_raise 86 = .ok (.aload_n 0, 1) := dc0 dO_42 (by decide +kernel)
theorem dX11_raise_87 : decode cX11_raise 87 = .ok (.getfield 26, 3) := dcU2 dO_180 (by decide +kernel)
theorem dX11_raise_90 : decode cX11_raise 90 = .ok (.getfield 122, 3) := dcU2 dO_180 (by decide +kernel)
theorem dX11_raise_93 : decode cX11_raise 93 = .ok (.iload_n 1, 1) := dc0 dO_27 (by decide +kernel)
theorem dX11_raise_94 : decode cX11_raise 94 = .ok (.aaload, 1) := dc0 dO_50 (by decide +kernel)
theorem dX11_raise_95 : decode cX11_raise 95 = .ok (.getfield 145, 3) := dcU2 dO_180 (by decide +kernel)
theorem dX11_raise_98 : decode cX11_raise 98 = .ok (.invokevirtual 148, 3) := dcU2 dO_182 (by decide +kernel)
theorem dX11_raise_101 : decode cX11_raise 101 = .ok (.aload_n 0, 1) := dc0 dO_42 (by decide +kernel)
theorem dX11_raise_102 : decode cX11_raise 102 = .ok (.getfield 51, 3) := dcU2 dO_180 (by decide +kernel)
theorem dX11_raise_105 : decode cX11_raise 105 = .ok (.aload_n 0, 1) := dc0 dO_42 (by decide +kernel)
theorem dX11_raise_106 : decode cX11_raise 106 = .ok (.getfield 26, 3) := dcU2 dO_180 (by decide +kernel)
theorem dX11_raise_109 : decode cX11_raise 109 = .ok (.getfield 122, 3) := dcU2 dO_180 (by decide +kernel)
theorem dX11_raise_112 : decode cX11_raise 112 = .ok (.iload_n 1, 1) := dc0 dO_27 (by decide +kernel)
theorem dX11_raise_113 : decode cX11_raise 113 = .ok (.aaload, 1) := dc0 dO_50 (by decide +kernel)
theorem dX11_raise_114 : decode cX11_raise 114 = .ok (.getfield 151, 3) := dcU2 dO_180 (by decide +kernel)
theorem dX11_raise_117 : decode cX11_raise 117 = .ok (.invokevirtual 148, 3) := dcU2 dO_182 (by decide +kernel)
theorem dX11_raise_120 : decode cX11_raise 120 = .ok (.iload_n 3, 1) := dc0 dO_29 (by decide +kernel)
theorem dX11_raise_121 : decode cX11_raise 121 = .ok (.ireturn, 1) := dc0 dO_172 (by decide +kernel)
theorem dX11_right_0 : decode cX11_right 0 = .ok (.aload_n 0, 1) := dc0 dO_42 (by decide +kernel)
theorem dX11_right_1 : decode cX11_right 1 = .ok (.iload_n 1, 1) := dc0 dO_27 (by decide +kernel)
theorem dX11_right_2 : decode cX11_right 2 = .ok (.invokevirtual 182, 3) := dcU2 dO_182 (by decide +kernel)
theorem dX11_right_5 : decode cX11_right 5 = .ok (.ifCond .eq 30, 3) := dcS2 dO_153 (by decide +kernel)
theorem dX11_right_8 : decode cX11_right 8 = .ok (.aload_n 0, 1) := dc0 dO_42 (by decide +kernel)
theorem dX11_right_9 : decode cX11_right 9 = .ok (.iload_n 3, 1) := dc0 dO_29 (by decide +kernel)
theorem dX11_right_10 : decode cX11_right 10 = .ok (.invokevirtual 105, 3) := dcU2 dO_182 (by decide +kernel)
theorem dX11_right_13 : decode cX11_right 13 = .ok (.ifCond .eq 22, 3) := dcS2 dO_153 (by decide +kernel)
theorem dX11_right_16 : decode cX11_right 16 = .ok (.iload_n 2, 1) := dc0 dO_28 (by decide +kernel)
theorem dX11_right_17 : decode cX11_right 17 = .ok (.aload_n 0, 1) := dc0 dO_42 (by decide +kernel)
theorem dX11_right_18 : decode cX11_right 18 = .ok (.getfield 26, 3) := dcU2 dO_180 (by decide +kernel)
theorem dX11_right_21 : decode cX11_right 21 = .ok (.getfield 185, 3) := dcU2 dO_180 (by decide +kernel)
theorem dX11_right_24 : decode cX11_right 24 = .ok (.iload_n 1, 1) := dc0 dO_27 (by decide +kernel)
theorem dX11_right_25 : decode cX11_right 25 = .ok (.iaload, 1) := dc0 dO_46 (by decide +kernel)
theorem dX11_right_26 : decode cX11_right 26 = .ok (.if_icmp .lt 9, 3) := dcS2 dO_161 (by decide +kernel)
theorem dX11_right_29 : decode cX11_right 29 = .ok (.iload_n 2, 1) := dc0 dO_28 (by decide +kernel)
theorem dX11_right_30 : decode cX11_right 30 = .ok (.bipush 32, 2) := dcS1 dO_16 (by decide +kernel)
theorem dX11_right_32 : decode cX11_right 32 = .ok (.if_icmp .le 5, 3) := dcS2 dO_164 (by decide +kernel)
theorem dX11_right_35 : decode cX11_right 35 = .ok (.iconst (-1), 1) := dc0 dO_2 (by decide +kernel)
theorem dX11_right_36 : decode cX11_right 36 = .ok (.ireturn, 1) := dc0 dO_172 (by decide +kernel)
theorem dX11_right_37 : decode cX11_right 37 = .ok (.iload 4, 2) := dcU1 dO_21 (by decide +kernel)
theorem dX11_right_39 : decode cX11_right 39 = .ok (.ifCond .lt 15, 3) := dcS2 dO_155 (by decide +kernel)
theorem dX11_right_42 : decode cX11_right 42 = .ok (.iload 5, 2) := dcU1 dO_21 (by decide +kernel)
theorem dX11_right_44 : decode cX11_right 44 = .ok (.iload 4, 2) := dcU1 dO_21 (by decide +kernel)
theorem dX11_right_46 : decode cX11_right 46 = .ok (.if_icmp .le 8, 3) := dcS2 dO_164 (by decide +kernel)
theorem dX11_right_49 : decode cX11_right 49 = .ok (.iload 6, 2) := dcU1 dO_21 (by decide +kernel)
theorem dX11_right_51 : decode cX11_right 51 = .ok (.ifCond .ge 5, 3) := dcS2 dO_156 (by decide +kernel)
theorem dX11_right_54 : decode cX11_right 54 = .ok (.iconst (-1), 1) := dc0 dO_2 (by decide +kernel)
theorem dX11_right_55 : decode cX11_right 55 = .ok (.ireturn, 1) := dc0 dO_172 (by decide +kernel)
theorem dX11_right_56 : decode cX11_right 56 = .ok (.aload_n 0, 1) := dc0 dO_42 (by decide +kernel)
theorem dX11_right_57 : decode cX11_right 57 = .ok (.getfield 26, 3) := dcU2 dO_180 (by decide +kernel)
theorem dX11_right_60 : decode cX11_right 60 = .ok (.getfield 188, 3) := dcU2 dO_180 (by decide +kernel)
theorem dX11_right_63 : decode cX11_right 63 = .ok (.bipush 30, 2) := dcS1 dO_16 (by decide +kernel)
theorem dX11_right_65 : decode cX11_right 65 = .ok (.if_icmp .lt 6, 3) := dcS2 dO_161 (by decide +kernel)
theorem dX11_right_68 : decode cX11_right 68 = .ok (.bipush (-3), 2) := dcS1 dO_16 (by decide +kernel)
theorem dX11_right_70 : decode cX11_right 70 = .ok (.ireturn, 1) := dc0 dO_172 (by decide +kernel)
theorem dX11_right_71 : decode cX11_right 71 = .ok (.aload_n 0, 1) := dc0 dO_42 (by decide +kernel)
theorem dX11_right_72 : decode cX11_right 72 = .ok (.getfield 26, 3) := dcU2 dO_180 (by decide +kernel)
theorem dX11_right_75 : decode cX11_right 75 = .ok (.iload_n 1, 1) := dc0 dO_27 (by decide +kernel)
theorem dX11_right_76 : decode cX11_right 76 = .ok (.iload_n 2, 1) := dc0 dO_28 (by decide +kernel)
theorem dX11_right_77 : decode cX11_right 77 = .ok (.iload_n 3, 1) := dc0 dO_29 (by decide +kernel)
theorem dX11_right_78 : decode cX11_right 78 = .ok (.iload 4, 2) := dcU1 dO_21 (by decide +kernel)
theorem dX11_right_80 : decode cX11_right 80 = .ok (.iload 5, 2) := dcU1 dO_21 (by decide +kernel)
theorem dX11_right_82 : decode cX11_right 82 = .ok (.iload 6, 2) := dcU1 dO_21 (by decide +kernel)
theorem dX11_right_84 : decode cX11_right 84 = .ok (.invokevirtual 191, 3) := dcU2 dO_182 (by decide +kernel)
theorem dX11_right_87 : decode cX11_right 87 = .ok (.istore 7, 2) := dcU1 dO_54 (by decide +kernel)
theorem dX11_right_89 : decode cX11_right 89 = .ok (.aload_n 0, 1) := dc0 dO_42 (by decide +kernel)
theorem dX11_right_90 : decode cX11_right 90 = .ok (.getfield 51, 3) := dcU2 dO_180 (by decide +kernel)
theorem dX11_right_93 : decode cX11_right 93 = .ok (.invokevirtual 179, 3) := dcU2 dO_182 (by decide +kernel)
theorem dX11_right_96 : decode cX11_right 96 = .ok (.iload 7, 2) := dcU1 dO_21 (by decide +kernel)
theorem dX11_right_98 : decode cX11_right 98 = .ok (.ireturn, 1) := dc0 dO_172 (by decide +kernel)
theorem dX11_rule_0 : decode cX11_rule 0 = .ok (.aload_n 0, 1) := dc0 dO_42 (by decide +kernel)
theorem dX11_rule_1 : decode cX11_rule 1 = .ok (.iload_n 1, 1) := dc0 dO_27 (by decide +kernel)
theorem dX11_rule_2 : decode cX11_rule 2 = .ok (.invokevirtual 105, 3) := dcU2 dO_182 (by decide +kernel)
theorem dX11_rule_5 : decode cX11_rule 5 = .ok (.ifCond .eq 10, 3) := dcS2 dO_153 (by decide +kernel)
theorem dX11_rule_8 : decode cX11_rule 8 = .ok (.iload_n 2, 1) := dc0 dO_28 (by decide +kernel)
theorem dX11_rule_9 : decode cX11_rule 9 = .ok (.invokestatic 280, 3) := dcU2 dO_184 (by decide +kernel)
theorem dX11_rule_12 : decode cX11_rule 12 = .ok (.ifCond .ne 5, 3) := dcS2 dO_154 (by decide +kernel)
theorem dX11_rule_15 : decode cX11_rule 15 = .ok (.iconst (-1), 1) := dc0 dO_2 (by decide +kernel)
theorem dX11_rule_16 : decode cX11_rule 16 = .ok (.ireturn, 1) := dc0 dO_172 (by decide +kernel)
theorem dX11_rule_17 : decode cX11_rule 17 = .ok (.aload_n 0, 1) := dc0 dO_42 (by decide +kernel)
theorem dX11_rule_18 : decode cX11_rule 18 = .ok (.getfield 26, 3) := dcU2 dO_180 (by decide +kernel)
theorem dX11_rule_21 : decode cX11_rule 21 = .ok (.getfield 283, 3) := dcU2 dO_180 (by decide +kernel)
theorem dX11_rule_24 : decode cX11_rule 24 = .ok (.iload_n 1, 1) := dc0 dO_27 (by decide +kernel)
theorem dX11_rule_25 : decode cX11_rule 25 = .ok (.aaload, 1) := dc0 dO_50 (by decide +kernel)
theorem dX11_rule_26 : decode cX11_rule 26 = .ok (.iload_n 2, 1) := dc0 dO_28 (by decide +kernel)
theorem dX11_rule_27 : decode cX11_rule 27 = .ok (.iload_n 3, 1) := dc0 dO_29 (by decide +kernel)
theorem dX11_rule_28 : decode cX11_rule 28 = .ok (.invokevirtual 287, 3) := dcU2 dO_182 (by decide +kernel)
theorem dX11_rule_31 : decode cX11_rule 31 = .ok (.aload_n 0, 1) := dc0 dO_42 (by decide +kernel)
theorem dX11_rule_32 : decode cX11_rule 32 = .ok (.getfield 51, 3) := dcU2 dO_180 (by decide +kernel)
theorem dX11_rule_35 : decode cX11_rule 35 = .ok (.iload_n 1, 1) := dc0 dO_27 (by decide +kernel)
theorem dX11_rule_36 : decode cX11_rule 36 = .ok (.invokevirtual 148, 3) := dcU2 dO_182 (by decide +kernel)
theorem dX11_rule_39 : decode cX11_rule 39 = .ok (.iconst 0, 1) := dc0 dO_3 (by decide +kernel)
theorem dX11_rule_40 : decode cX11_rule 40 = .ok (.ireturn, 1) := dc0 dO_172 (by decide +kernel)
theorem dX11_strike_0 : decode cX11_strike 0 = .ok (.iload_n 1, 1) := dc0 dO_27 (by decide +kernel)
theorem dX11_strike_1 : decode cX11_strike 1 = .ok (.ifCond .lt 27, 3) := dcS2 dO_155 (by decide +kernel)
theorem dX11_strike_4 : decode cX11_strike 4 = .ok (.iload_n 1, 1) := dc0 dO_27 (by decide +kernel)
theorem dX11_strike_5 : decode cX11_strike 5 = .ok (.aload_n 0, 1) := dc0 dO_42 (by decide +kernel)
theorem dX11_strike_6 : decode cX11_strike 6 = .ok (.getfield 26, 3) := dcU2 dO_180 (by decide +kernel)
theorem dX11_strike_9 : decode cX11_strike 9 = .ok (.getfield 188, 3) := dcU2 dO_180 (by decide +kernel)
theorem dX11_strike_12 : decode cX11_strike 12 = .ok (.if_icmp .ge 16, 3) := dcS2 dO_162 (by decide +kernel)
theorem dX11_strike_15 : decode cX11_strike 15 = .ok (.iload_n 2, 1) := dc0 dO_28 (by decide +kernel)
theorem dX11_strike_16 : decode cX11_strike 16 = .ok (.aload_n 0, 1) := dc0 dO_42 (by decide +kernel)
theorem dX11_strike_17 : decode cX11_strike 17 = .ok (.getfield 26, 3) := dcU2 dO_180 (by decide +kernel)
theorem dX11_strike_20 : decode cX11_strike 20 = .ok (.getfield 195, 3) := dcU2 dO_180 (by decide +kernel)
theorem dX11_strike_23 : decode cX11_strike 23 = .ok (.iload_n 1, 1) := dc0 dO_27 (by decide +kernel)
theorem dX11_strike_24 : decode cX11_strike 24 = .ok (.iaload, 1) := dc0 dO_46 (by decide +kernel)
theorem dX11_strike_25 : decode cX11_strike 25 = .ok (.if_icmp .ge 5, 3) := dcS2 dO_162 (by decide +kernel)
theorem dX11_strike_28 : decode cX11_strike 28 = .ok (.iconst (-1), 1) := dc0 dO_2 (by decide +kernel)
theorem dX11_strike_29 : decode cX11_strike 29 = .ok (.ireturn, 1) := dc0 dO_172 (by decide +kernel)
theorem dX11_strike_30 : decode cX11_strike 30 = .ok (.aload_n 0, 1) := dc0 dO_42 (by decide +kernel)
theorem dX11_strike_31 : decode cX11_strike 31 = .ok (.getfield 26, 3) := dcU2 dO_180 (by decide +kernel)
theorem dX11_strike_34 : decode cX11_strike 34 = .ok (.getfield 198, 3) := dcU2 dO_180 (by decide +kernel)
theorem dX11_strike_37 : decode cX11_strike 37 = .ok (.iload_n 1, 1) := dc0 dO_27 (by decide +kernel)
theorem dX11_strike_38 : decode cX11_strike 38 = .ok (.iaload, 1) := dc0 dO_46 (by decide +kernel)
theorem dX11_strike_39 : decode cX11_strike 39 = .ok (.iconst (-1), 1) := dc0 dO_2 (by decide +kernel)
theorem dX11_strike_40 : decode cX11_strike 40 = .ok (.if_icmp .eq 6, 3) := dcS2 dO_159 (by decide +kernel)
theorem dX11_strike_43 : decode cX11_strike 43 = .ok (.bipush (-2), 2) := dcS1 dO_16 (by decide +kernel)
theorem dX11_strike_45 : decode cX11_strike 45 = .ok (.ireturn, 1) := dc0 dO_172 (by decide +kernel)
theorem dX11_strike_46 : decode cX11_strike 46 = .ok (.aload_n 0, 1) := dc0 dO_42 (by decide +kernel)
theorem dX11_strike_47 : decode cX11_strike 47 = .ok (.getfield 26, 3) := dcU2 dO_180 (by decide +kernel)
theorem dX11_strike_50 : decode cX11_strike 50 = .ok (.getfield 198, 3) := dcU2 dO_180 (by decide +kernel)
theorem dX11_strike_53 : decode cX11_strike 53 = .ok (.iload_n 1, 1) := dc0 dO_27 (by decide +kernel)
theorem dX11_strike_54 : decode cX11_strike 54 = .ok (.iload_n 2, 1) := dc0 dO_28 (by decide +kernel)
theorem dX11_strike_55 : decode cX11_strike 55 = .ok (.iastore, 1) := dc0 dO_79 (by decide +kernel)
theorem dX11_strike_56 : decode cX11_strike 56 = .ok (.aload_n 0, 1) := dc0 dO_42 (by decide +kernel)
theorem dX11_strike_57 : decode cX11_strike 57 = .ok (.getfield 51, 3) := dcU2 dO_180 (by decide +kernel)
theorem dX11_strike_60 : decode cX11_strike 60 = .ok (.invokevirtual 179, 3) := dcU2 dO_182 (by decide +kernel)
theorem dX11_strike_63 : decode cX11_strike 63 = .ok (.iconst 0, 1) := dc0 dO_3 (by decide +kernel)
theorem dX11_strike_64 : decode cX11_strike 64 = .ok (.ireturn, 1) := dc0 dO_172 (by decide +kernel)
theorem dX11_three_0 : decode cX11_three 0 = .ok (.aload_n 0, 1) := dc0 dO_42 (by decide +kernel)
theorem dX11_three_1 : decode cX11_three 1 = .ok (.iload_n 1, 1) := dc0 dO_27 (by decide +kernel)
theorem dX11_three_2 : decode cX11_three 2 = .ok (.invokevirtual 105, 3) := dcU2 dO_182 (by decide +kernel)
theorem dX11_three_5 : decode cX11_three 5 = .ok (.ifCond .eq 11, 3) := dcS2 dO_153 (by decide +kernel)
theorem dX11_three_8 : decode cX11_three 8 = .ok (.aload_n 0, 1) := dc0 dO_42 (by decide +kernel)
theorem dX11_three_9 : decode cX11_three 9 = .ok (.iload_n 2, 1) := dc0 dO_28 (by decide +kernel)
theorem dX11_three_10 : decode cX11_three 10 = .ok (.invokevirtual 182, 3) := dcU2 dO_182 (by decide +kernel)
theorem dX11_three_13 : decode cX11_three 13 = .ok (.ifCond .ne 5, 3) := dcS2 dO_154 (by decide +kernel)
theorem dX11_three_16 : decode cX11_three 16 = .ok (.iconst (-1), 1) := dc0 dO_2 (by decide +kernel)
theorem dX11_three_17 : decode cX11_three 17 = .ok (.ireturn, 1) := dc0 dO_172 (by decide +kernel)
theorem dX11_three_18 : decode cX11_three 18 = .ok (.iload_n 3, 1) := dc0 dO_29 (by decide +kernel)
theorem dX11_three_19 : decode cX11_three 19 = .ok (.ifCond .lt 8, 3) := dcS2 dO_155 (by decide +kernel)
theorem dX11_three_22 : decode cX11_three 22 = .ok (.iload_n 3, 1) := dc0 dO_29 (by decide +kernel)
theorem dX11_three_23 : decode cX11_three 23 = .ok (.iconst 2, 1) := dc0 dO_5 (by decide +kernel)
theorem dX11_three_24 : decode cX11_three 24 = .ok (.if_icmp .le 8, 3) := dcS2 dO_164 (by decide +kernel)
theorem dX11_three_27 : decode cX11_three 27 = .ok (.ldc 165, 2) := dcU1 dO_18 (by decide +kernel)
theorem dX11_three_29 : decode cX11_three 29 = .ok (.goto 13, 3) := dcS2 dO_167 (by decide +kernel)
theorem dX11_three_32 : decode cX11_three 32 = .ok (.aload_n 0, 1) := dc0 dO_42 (by decide +kernel)
theorem dX11_three_33 : decode cX11_three 33 = .ok (.getfield 51, 3) := dcU2 dO_180 (by decide +kernel)
theorem dX11_three_36 : decode cX11_three 36 = .ok (.iload_n 1, 1) := dc0 dO_27 (by decide +kernel)
theorem dX11_three_37 : decode cX11_three 37 = .ok (.iload_n 2, 1) := dc0 dO_28 (by decide +kernel)
theorem dX11_three_38 : decode cX11_three 38 = .ok (.iload_n 3, 1) := dc0 dO_29 (by decide +kernel)
theorem dX11_three_39 : decode cX11_three 39 = .ok (.invokevirtual 336, 3) := dcU2 dO_182 (by decide +kernel)
theorem dX11_three_42 : decode cX11_three 42 = .ok (.ireturn, 1) := dc0 dO_172 (by decide +kernel)
theorem dX11_today_0 : decode cX11_today 0 = .ok (.iload_n 1, 1) := dc0 dO_27 (by decide +kernel)
theorem dX11_today_1 : decode cX11_today 1 = .ok (.ifCond .ge 5, 3) := dcS2 dO_156 (by decide +kernel)
theorem dX11_today_4 : decode cX11_today 4 = .ok (.iconst (-1), 1) := dc0 dO_2 (by decide +kernel)
theorem dX11_today_5 : decode cX11_today 5 = .ok (.ireturn, 1) := dc0 dO_172 (by decide +kernel)
theorem dX11_today_6 : decode cX11_today 6 = .ok (.aload_n 0, 1) := dc0 dO_42 (by decide +kernel)
theorem dX11_today_7 : decode cX11_today 7 = .ok (.getfield 26, 3) := dcU2 dO_180 (by decide +kernel)
theorem dX11_today_10 : decode cX11_today 10 = .ok (.getfield 176, 3) := dcU2 dO_180 (by decide +kernel)
theorem dX11_today_13 : decode cX11_today 13 = .ok (.istore_n 2, 1) := dc0 dO_61 (by decide +kernel)
theorem dX11_today_14 : decode cX11_today 14 = .ok (.aload_n 0, 1) := dc0 dO_42 (by decide +kernel)
theorem dX11_today_15 : decode cX11_today 15 = .ok (.getfield 26, 3) := dcU2 dO_180 (by decide +kernel)
theorem dX11_today_18 : decode cX11_today 18 = .ok (.iload_n 1, 1) := dc0 dO_27 (by decide +kernel)
theorem dX11_today_19 : decode cX11_today 19 = .ok (.putfield 176, 3) := dcU2 dO_181 (by decide +kernel)
theorem dX11_today_22 : decode cX11_today 22 = .ok (.aload_n 0, 1) := dc0 dO_42 (by decide +kernel)
theorem dX11_today_23 : decode cX11_today 23 = .ok (.getfield 51, 3) := dcU2 dO_180 (by decide +kernel)
theorem dX11_today_26 : decode cX11_today 26 = .ok (.invokevirtual 179, 3) := dcU2 dO_182 (by decide +kernel)
theorem dX11_today_29 : decode cX11_today 29 = .ok (.iload_n 2, 1) := dc0 dO_28 (by decide +kernel)
theorem dX11_today_30 : decode cX11_today 30 = .ok (.ireturn, 1) := dc0 dO_172 (by decide +kernel)
theorem dX11_units_0 : decode cX11_units 0 = .ok (.iload_n 1, 1) := dc0 dO_27 (by decide +kernel)
theorem dX11_units_1 : decode cX11_units 1 = .ok (.ifCond .lt 8, 3) := dcS2 dO_155 (by decide +kernel)
theorem dX11_units_4 : decode cX11_units 4 = .ok (.iload_n 1, 1) := dc0 dO_27 (by decide +kernel)
theorem dX11_units_5 : decode cX11_units 5 = .ok (.iconst 2, 1) := dc0 dO_5 (by decide +kernel)
theorem dX11_units_6 : decode cX11_units 6 = .ok (.if_icmp .le 7, 3) := dcS2 dO_164 (by decide +kernel)
theorem dX11_units_9 : decode cX11_units 9 = .ok (.iconst (-1), 1) := dc0 dO_2 (by decide +kernel)
theorem dX11_units_10 : decode cX11_units 10 = .ok (.goto 11, 3) := dcS2 dO_167 (by decide +kernel)
theorem dX11_units_13 : decode cX11_units 13 = .ok (.aload_n 0, 1) := dc0 dO_42 (by decide +kernel)
theorem dX11_units_14 : decode cX11_units 14 = .ok (.getfield 65, 3) := dcU2 dO_180 (by decide +kernel)
theorem dX11_units_17 : decode cX11_units 17 = .ok (.iload_n 1, 1) := dc0 dO_27 (by decide +kernel)
theorem dX11_units_18 : decode cX11_units 18 = .ok (.invokevirtual 382, 3) := dcU2 dO_182 (by decide +kernel)
theorem dX11_units_21 : decode cX11_units 21 = .ok (.ireturn, 1) := dc0 dO_172 (by decide +kernel)
theorem dX11_until_0 : decode cX11_until 0 = .ok (.iload_n 1, 1) := dc0 dO_27 (by decide +kernel)
theorem dX11_until_1 : decode cX11_until 1 = .ok (.aload_n 0, 1) := dc0 dO_42 (by decide +kernel)
theorem dX11_until_2 : decode cX11_until 2 = .ok (.getfield 51, 3) := dcU2 dO_180 (by decide +kernel)
theorem dX11_until_5 : decode cX11_until 5 = .ok (.getfield 303, 3) := dcU2 dO_180 (by decide +kernel)
theorem dX11_until_8 : decode cX11_until 8 = .ok (.if_icmp .lt 10, 3) := dcS2 dO_161 (by decide +kernel)
theorem dX11_until_11 : decode cX11_until 11 = .ok (.iload_n 1, 1) := dc0 dO_27 (by decide +kernel)
theorem dX11_until_12 : decode cX11_until 12 = .ok (.ldc_w 306, 3) := dcU2 dO_19 (by decide +kernel)
theorem dX11_until_15 : decode cX11_until 15 = .ok (.if_icmp .le 5, 3) := dcS2 dO_164 (by decide +kernel)
theorem dX11_until_18 : decode cX11_until 18 = .ok (.iconst (-1), 1) := dc0 dO_2 (by decide +kernel)
theorem dX11_until_19 : decode cX11_until 19 = .ok (.ireturn, 1) := dc0 dO_172 (by decide +kernel)
theorem dX11_until_20 : decode cX11_until 20 = .ok (.iconst 0, 1) := dc0 dO_3 (by decide +kernel)
theorem dX11_until_21 : decode cX11_until 21 = .ok (.istore_n 2, 1) := dc0 dO_61 (by decide +kernel)
theorem dX11_until_22 : decode cX11_until 22 = .ok (.iload_n 2, 1) := dc0 dO_28 (by decide +kernel)
theorem dX11_until_23 : decode cX11_until 23 = .ok (.sipush 500, 3) := dcS2 dO_17 (by decide +kernel)
theorem dX11_until_26 : decode cX11_until 26 = .ok (.if_icmp .ge 20, 3) := dcS2 dO_162 (by decide +kernel)
theorem dX11_until_29 : decode cX11_until 29 = .ok (.aload_n 0, 1) := dc0 dO_42 (by decide +kernel)
theorem dX11_until_30 : decode cX11_until 30 = .ok (.getfield 51, 3) := dcU2 dO_180 (by decide +kernel)
theorem dX11_until_33 : decode cX11_until 33 = .ok (.iload_n 1, 1) := dc0 dO_27 (by decide +kernel)
theorem dX11_until_34 : decode cX11_until 34 = .ok (.invokevirtual 300, 3) := dcU2 dO_182 (by decide +kernel)
theorem dX11_until_37 : decode cX11_until 37 = .ok (.ifCond .eq 9, 3) := dcS2 dO_153 (by decide +kernel)
theorem dX11_until_40 : decode cX11_until 40 = .ok (.iinc 2 1, 3) := dcI dO_132 (by decide +kernel)
theorem dX11_until_43 : decode cX11_until 43 = .ok (.goto (-21), 3) := dcS2 dO_167 (by decide +kernel)
theorem dX11_until_46 : decode cX11_until 46 = .ok (.aload_n 0, 1) := dc0 dO_42 (by decide +kernel)
theorem dX11_until_47 : decode cX11_until 47 = .ok (.getfield 51, 3) := dcU2 dO_180 (by decide +kernel)
theorem dX11_until_50 : decode cX11_until 50 = .ok (.iload_n 1, 1) := dc0 dO_27 (by decide +kernel)
theorem dX11_until_51 : decode cX11_until 51 = .ok (.invokevirtual 307, 3) := dcU2 dO_182 (by decide +kernel)
theorem dX11_until_54 : decode cX11_until 54 = .ok (.iload_n 2, 1) := dc0 dO_28 (by decide +kernel)
theorem dX11_until_55 : decode cX11_until 55 = .ok (.ireturn, 1) := dc0 dO_172 (by decide +kernel)
theorem dX11_use_0 : decode cX11_use 0 = .ok (.aload_n 0, 1) := dc0 dO_42 (by decide +kernel)
theorem dX11_use_1 : decode cX11_use 1 = .ok (.iload_n 1, 1) := dc0 dO_27 (by decide +kernel)
theorem dX11_use_2 : decode cX11_use 2 = .ok (.invokevirtual 119, 3) := dcU2 dO_182 (by decide +kernel)
theorem dX11_use_5 : decode cX11_use 5 = .ok (.ifCond .eq 17, 3) := dcS2 dO_153 (by decide +kernel)
theorem dX11_use_8 : decode cX11_use 8 = .ok (.iload_n 2, 1) := dc0 dO_28 (by decide +kernel)
theorem dX11_use_9 : decode cX11_use 9 = .ok (.invokestatic 271, 3) := dcU2 dO_184 (by decide +kernel)
theorem dX11_use_12 : decode cX11_use 12 = .ok (.ifCond .eq 10, 3) := dcS2 dO_153 (by decide +kernel)
theorem dX11_use_15 : decode cX11_use 15 = .ok (.iload_n 3, 1) := dc0 dO_29 (by decide +kernel)
theorem dX11_use_16 : decode cX11_use 16 = .ok (.invokestatic 271, 3) := dcU2 dO_184 (by decide +kernel)
theorem dX11_use_19 : decode cX11_use 19 = .ok (.ifCond .ne 5, 3) := dcS2 dO_154 (by decide +kernel)
theorem dX11_use_22 : decode cX11_use 22 = .ok (.iconst (-1), 1) := dc0 dO_2 (by decide +kernel)
theorem dX11_use_23 : decode cX11_use 23 = .ok (.ireturn, 1) := dc0 dO_172 (by decide +kernel)
theorem dX11_use_24 : decode cX11_use 24 = .ok (.iload 4, 2) := dcU1 dO_21 (by decide +kernel)
theorem dX11_use_26 : decode cX11_use 26 = .ok (.ldc 165, 2) := dcU1 dO_18 (by decide +kernel)
theorem dX11_use_28 : decode cX11_use 28 = .ok (.if_icmp .eq 22, 3) := dcS2 dO_159 (by decide +kernel)
theorem dX11_use_31 : decode cX11_use 31 = .ok (.iload 4, 2) := dcU1 dO_21 (by decide +kernel)
theorem dX11_use_33 : decode cX11_use 33 = .ok (.ifCond .lt 15, 3) := dcS2 dO_155 (by decide +kernel)
theorem dX11_use_36 : decode cX11_use 36 = .ok (.iload 4, 2) := dcU1 dO_21 (by decide +kernel)
theorem dX11_use_38 : decode cX11_use 38 = .ok (.aload_n 0, 1) := dc0 dO_42 (by decide +kernel)
theorem dX11_use_39 : decode cX11_use 39 = .ok (.getfield 35, 3) := dcU2 dO_180 (by decide +kernel)
theorem dX11_use_42 : decode cX11_use 42 = .ok (.getfield 205, 3) := dcU2 dO_180 (by decide +kernel)
theorem dX11_use_45 : decode cX11_use 45 = .ok (.if_icmp .lt 5, 3) := dcS2 dO_161 (by decide +kernel)
theorem dX11_use_48 : decode cX11_use 48 = .ok (.iconst (-1), 1) := dc0 dO_2 (by decide +kernel)
theorem dX11_use_49 : decode cX11_use 49 = .ok (.ireturn, 1) := dc0 dO_172 (by decide +kernel)
theorem dX11_use_50 : decode cX11_use 50 = .ok (.aload_n 0, 1) := dc0 dO_42 (by decide +kernel)
theorem dX11_use_51 : decode cX11_use 51 = .ok (.getfield 26, 3) := dcU2 dO_180 (by decide +kernel)
theorem dX11_use_54 : decode cX11_use 54 = .ok (.getfield 122, 3) := dcU2 dO_180 (by decide +kernel)
theorem dX11_use_57 : decode cX11_use 57 = .ok (.iload_n 1, 1) := dc0 dO_27 (by decide +kernel)
theorem dX11_use_58 : decode cX11_use 58 = .ok (.aaload, 1) := dc0 dO_50 (by decide +kernel)
theorem dX11_use_59 : decode cX11_use 59 = .ok (.getfield 274, 3) := dcU2 dO_180 (by decide +kernel)
theorem dX11_use_62 : decode cX11_use 62 = .ok (.iload_n 2, 1) := dc0 dO_28 (by decide +kernel)
theorem dX11_use_63 : decode cX11_use 63 = .ok (.iconst 2, 1) := dc0 dO_5 (by decide +kernel)
theorem dX11_use_64 : decode cX11_use 64 = .ok (.imul, 1) := dc0 dO_104 (by decide +kernel)
theorem dX11_use_65 : decode cX11_use 65 = .ok (.iload_n 3, 1) := dc0 dO_29 (by decide +kernel)
theorem dX11_use_66 : decode cX11_use 66 = .ok (.iadd, 1) := dc0 dO_96 (by decide +kernel)
theorem dX11_use_67 : decode cX11_use 67 = .ok (.iload 4, 2) := dcU1 dO_21 (by decide +kernel)
theorem dX11_use_69 : decode cX11_use 69 = .ok (.iastore, 1) := dc0 dO_79 (by decide +kernel)
theorem dX11_use_70 : decode cX11_use 70 = .ok (.iload_n 3, 1) := dc0 dO_29 (by decide +kernel)
theorem dX11_use_71 : decode cX11_use 71 = .ok (.ifCond .ne 26, 3) := dcS2 dO_154 (by decide +kernel)
theorem dX11_use_74 : decode cX11_use 74 = .ok (.aload_n 0, 1) := dc0 dO_42 (by decide +kernel)
theorem dX11_use_75 : decode cX11_use 75 = .ok (.getfield 51, 3) := dcU2 dO_180 (by decide +kernel)
theorem dX11_use_78 : decode cX11_use 78 = .ok (.aload_n 0, 1) := dc0 dO_42 (by decide +kernel)
theorem dX11_use_79 : decode cX11_use 79 = .ok (.getfield 26, 3) := dcU2 dO_180 (by decide +kernel)
theorem dX11_use_82 : decode cX11_use 82 = .ok (.getfield 122, 3) := dcU2 dO_180 (by decide +kernel)
theorem dX11_use_85 : decode cX11_use 85 = .ok (.iload_n 1, 1) := dc0 dO_27 (by decide +kernel)
theorem dX11_use_86 : decode cX11_use 86 = .ok (.aaload, 1) := dc0 dO_50 (by decide +kernel)
theorem dX11_use_87 : decode cX11_use 87 = .ok (.iload_n 2, 1) := dc0 dO_28 (by decide +kernel)
theorem dX11_use_88 : decode cX11_use 88 = .ok (.invokevirtual 277, 3) := dcU2 dO_182 (by decide +kernel)
theorem dX11_use_91 : decode cX11_use 91 = .ok (.invokevirtual 148, 3) := dcU2 dO_182 (by decide +kernel)
theorem dX11_use_94 : decode cX11_use 94 = .ok (.goto 12, 3) := dcS2 dO_167 (by decide +kernel)
theorem dX11_use_97 : decode cX11_use 97 = .ok (.aload_n 0, 1) := dc0 dO_42 (by decide +kernel)
theorem dX11_use_98 : decode cX11_use 98 = .ok (.getfield 51, 3) := dcU2 dO_180 (by decide +kernel)
theorem dX11_use_101 : decode cX11_use 101 = .ok (.iload_n 1, 1) := dc0 dO_27 (by decide +kernel)
theorem dX11_use_102 : decode cX11_use 102 = .ok (.iload_n 2, 1) := dc0 dO_28 (by decide +kernel)
theorem dX11_use_103 : decode cX11_use 103 = .ok (.invokevirtual 138, 3) := dcU2 dO_182 (by decide +kernel)
theorem dX11_use_106 : decode cX11_use 106 = .ok (.iconst 0, 1) := dc0 dO_3 (by decide +kernel)
theorem dX11_use_107 : decode cX11_use 107 = .ok (.ireturn, 1) := dc0 dO_172 (by decide +kernel)
theorem dX11_why_0 : decode cX11_why 0 = .ok (.aload_n 0, 1) := dc0 dO_42 (by decide +kernel)
theorem dX11_why_1 : decode cX11_why 1 = .ok (.iload_n 1, 1) := dc0 dO_27 (by decide +kernel)
theorem dX11_why_2 : decode cX11_why 2 = .ok (.invokevirtual 119, 3) := dcU2 dO_182 (by decide +kernel)
theorem dX11_why_5 : decode cX11_why 5 = .ok (.ifCond .eq 18, 3) := dcS2 dO_153 (by decide +kernel)
theorem dX11_why_8 : decode cX11_why 8 = .ok (.iload_n 2, 1) := dc0 dO_28 (by decide +kernel)
theorem dX11_why_9 : decode cX11_why 9 = .ok (.invokestatic 271, 3) := dcU2 dO_184 (by decide +kernel)
theorem dX11_why_12 : decode cX11_why 12 = .ok (.ifCond .eq 11, 3) := dcS2 dO_153 (by decide +kernel)
theorem dX11_why_15 : decode cX11_why 15 = .ok (.aload_n 0, 1) := dc0 dO_42 (by decide +kernel)
theorem dX11_why_16 : decode cX11_why 16 = .ok (.iload_n 3, 1) := dc0 dO_29 (by decide +kernel)
theorem dX11_why_17 : decode cX11_why 17 = .ok (.invokevirtual 182, 3) := dcU2 dO_182 (by decide +kernel)
theorem dX11_why_20 : decode cX11_why 20 = .ok (.ifCond .ne 5, 3) := dcS2 dO_154 (by decide +kernel)
theorem dX11_why_23 : decode cX11_why 23 = .ok (.iconst (-1), 1) := dc0 dO_2 (by decide +kernel)
theorem dX11_why_24 : decode cX11_why 24 = .ok (.ireturn, 1) := dc0 dO_172 (by decide +kernel)
theorem dX11_why_25 : decode cX11_why 25 = .ok (.aload_n 0, 1) := dc0 dO_42 (by decide +kernel)
theorem dX11_why_26 : decode cX11_why 26 = .ok (.getfield 51, 3) := dcU2 dO_180 (by decide +kernel)
theorem dX11_why_29 : decode cX11_why 29 = .ok (.iload_n 1, 1) := dc0 dO_27 (by decide +kernel)
theorem dX11_why_30 : decode cX11_why 30 = .ok (.iload_n 2, 1) := dc0 dO_28 (by decide +kernel)
theorem dX11_why_31 : decode cX11_why 31 = .ok (.iload_n 3, 1) := dc0 dO_29 (by decide +kernel)
theorem dX11_why_32 : decode cX11_why 32 = .ok (.invokevirtual 333, 3) := dcU2 dO_182 (by decide +kernel)
theorem dX11_why_35 : decode cX11_why 35 = .ok (.ireturn, 1) := dc0 dO_172 (by decide +kernel)
theorem dX11_withdraw_0 : decode cX11_withdraw 0 = .ok (.aload_n 0, 1) := dc0 dO_42 (by decide +kernel)
theorem dX11_withdraw_1 : decode cX11_withdraw 1 = .ok (.iload_n 1, 1) := dc0 dO_27 (by decide +kernel)
theorem dX11_withdraw_2 : decode cX11_withdraw 2 = .ok (.invokevirtual 105, 3) := dcU2 dO_182 (by decide +kernel)
theorem dX11_withdraw_5 : decode cX11_withdraw 5 = .ok (.ifCond .eq 11, 3) := dcS2 dO_153 (by decide +kernel)
theorem dX11_withdraw_8 : decode cX11_withdraw 8 = .ok (.aload_n 0, 1) := dc0 dO_42 (by decide +kernel)
theorem dX11_withdraw_9 : decode cX11_withdraw 9 = .ok (.iload_n 2, 1) := dc0 dO_28 (by decide +kernel)
theorem dX11_withdraw_10 : decode cX11_withdraw 10 = .ok (.invokevirtual 182, 3) := dcU2 dO_182 (by decide +kernel)
theorem dX11_withdraw_13 : decode cX11_withdraw 13 = .ok (.ifCond .ne 5, 3) := dcS2 dO_154 (by decide +kernel)
theorem dX11_withdraw_16 : decode cX11_withdraw 16 = .ok (.iconst (-1), 1) := dc0 dO_2 (by decide +kernel)
theorem dX11_withdraw_17 : decode cX11_withdraw 17 = .ok (.ireturn, 1) := dc0 dO_172 (by decide +kernel)
theorem dX11_withdraw_18 : decode cX11_withdraw 18 = .ok (.aload_n 0, 1) := dc0 dO_42 (by decide +kernel)
theorem dX11_withdraw_19 : decode cX11_withdraw 19 = .ok (.getfield 26, 3) := dcU2 dO_180 (by decide +kernel)
theorem dX11_withdraw_22 : decode cX11_withdraw 22 = .ok (.getfield 283, 3) := dcU2 dO_180 (by decide +kernel)
theorem dX11_withdraw_25 : decode cX11_withdraw 25 = .ok (.iload_n 1, 1) := dc0 dO_27 (by decide +kernel)
theorem dX11_withdraw_26 : decode cX11_withdraw 26 = .ok (.aaload, 1) := dc0 dO_50 (by decide +kernel)
theorem dX11_withdraw_27 : decode cX11_withdraw 27 = .ok (.getfield 293, 3) := dcU2 dO_180 (by decide +kernel)
theorem dX11_withdraw_30 : decode cX11_withdraw 30 = .ok (.iload_n 2, 1) := dc0 dO_28 (by decide +kernel)
theorem dX11_withdraw_31 : decode cX11_withdraw 31 = .ok (.iaload, 1) := dc0 dO_46 (by decide +kernel)
theorem dX11_withdraw_32 : decode cX11_withdraw 32 = .ok (.iconst (-1), 1) := dc0 dO_2 (by decide +kernel)
theorem dX11_withdraw_33 : decode cX11_withdraw 33 = .ok (.if_icmp .ne 6, 3) := dcS2 dO_160 (by decide +kernel)
theorem dX11_withdraw_36 : decode cX11_withdraw 36 = .ok (.bipush (-2), 2) := dcS1 dO_16 (by decide +kernel)
theorem dX11_withdraw_38 : decode cX11_withdraw 38 = .ok (.ireturn, 1) := dc0 dO_172 (by decide +kernel)
theorem dX11_withdraw_39 : decode cX11_withdraw 39 = .ok (.aload_n 0, 1) := dc0 dO_42 (by decide +kernel)
theorem dX11_withdraw_40 : decode cX11_withdraw 40 = .ok (.getfield 26, 3) := dcU2 dO_180 (by decide +kernel)
theorem dX11_withdraw_43 : decode cX11_withdraw 43 = .ok (.getfield 283, 3) := dcU2 dO_180 (by decide +kernel)
theorem dX11_withdraw_46 : decode cX11_withdraw 46 = .ok (.iload_n 1, 1) := dc0 dO_27 (by decide +kernel)
theorem dX11_withdraw_47 : decode cX11_withdraw 47 = .ok (.aaload, 1) := dc0 dO_50 (by decide +kernel)
theorem dX11_withdraw_48 : decode cX11_withdraw 48 = .ok (.getfield 293, 3) := dcU2 dO_180 (by decide +kernel)
theorem dX11_withdraw_51 : decode cX11_withdraw 51 = .ok (.iload_n 2, 1) := dc0 dO_28 (by decide +kernel)
theorem dX11_withdraw_52 : decode cX11_withdraw 52 = .ok (.iconst (-1), 1) := dc0 dO_2 (by decide +kernel)
theorem dX11_withdraw_53 : decode cX11_withdraw 53 = .ok (.iastore, 1) := dc0 dO_79 (by decide +kernel)
theorem dX11_withdraw_54 : decode cX11_withdraw 54 = .ok (.aload_n 0, 1) := dc0 dO_42 (by decide +kernel)
theorem dX11_withdraw_55 : decode cX11_withdraw 55 = .ok (.getfield 51, 3) := dcU2 dO_180 (by decide +kernel)
theorem dX11_withdraw_58 : decode cX11_withdraw 58 = .ok (.iload_n 1, 1) := dc0 dO_27 (by decide +kernel)
theorem dX11_withdraw_59 : decode cX11_withdraw 59 = .ok (.iload_n 2, 1) := dc0 dO_28 (by decide +kernel)
theorem dX11_withdraw_60 : decode cX11_withdraw 60 = .ok (.invokevirtual 296, 3) := dcU2 dO_182 (by decide +kernel)
theorem dX11_withdraw_63 : decode cX11_withdraw 63 = .ok (.iconst 0, 1) := dc0 dO_3 (by decide +kernel)
theorem dX11_withdraw_64 : decode cX11_withdraw 64 = .ok (.ireturn, 1) := dc0 dO_172 (by decide +kernel)
theorem dX2_partnerFor_0 : decode cX2_partnerFor 0 = .ok (.aload_n 0, 1) := dc0 dO_42 (by decide +kernel)
theorem dX2_partnerFor_1 : decode cX2_partnerFor 1 = .ok (.iload_n 1, 1) := dc0 dO_27 (by decide +kernel)
theorem dX2_partnerFor_2 : decode cX2_partnerFor 2 = .ok (.iload_n 2, 1) := dc0 dO_28 (by decide +kernel)
theorem dX2_partnerFor_3 : decode cX2_partnerFor 3 = .ok (.invokevirtual 60, 3) := dcU2 dO_182 (by decide +kernel)
theorem dX2_partnerFor_6 : decode cX2_partnerFor 6 = .ok (.istore_n 3, 1) := dc0 dO_62 (by decide +kernel)
theorem dX2_partnerFor_7 : decode cX2_partnerFor 7 = .ok (.iload_n 3, 1) := dc0 dO_29 (by decide +kernel)
theorem dX2_partnerFor_8 : decode cX2_partnerFor 8 = .ok (.ifCond .ge 5, 3) := dcS2 dO_156 (by decide +kernel)
theorem dX2_partnerFor_11 : decode cX2_partnerFor 11 = .ok (.iload_n 3, 1) := dc0 dO_29 (by decide +kernel)
theorem dX2_partnerFor_12 : decode cX2_partnerFor 12 = .ok (.ireturn, 1) := dc0 dO_172 (by decide +kernel)
theorem dX2_partnerFor_13 : decode cX2_partnerFor 13 = .ok (.aload_n 0, 1) := dc0 dO_42 (by decide +kernel)
theorem dX2_partnerFor_14 : decode cX2_partnerFor 14 = .ok (.getfield 9, 3) := dcU2 dO_180 (by decide +kernel)
theorem dX2_partnerFor_17 : decode cX2_partnerFor 17 = .ok (.getfield 64, 3) := dcU2 dO_180 (by decide +kernel)
theorem dX2_partnerFor_20 : decode cX2_partnerFor 20 = .ok (.iload_n 3, 1) := dc0 dO_29 (by decide +kernel)
theorem dX2_partnerFor_21 : decode cX2_partnerFor 21 = .ok (.aaload, 1) := dc0 dO_50 (by decide +kernel)
theorem dX2_partnerFor_22 : decode cX2_partnerFor 22 = .ok (.astore 4, 2) := dcU1 dO_58 (by decide +kernel)
theorem dX2_partnerFor_24 : decode cX2_partnerFor 24 = .ok (.aload 4, 2) := dcU1 dO_25 (by decide +kernel)
theorem dX2_partnerFor_26 : decode cX2_partnerFor 26 = .ok (.iconst 1, 1) := dc0 dO_4 (by decide +kernel)
theorem dX2_partnerFor_27 : decode cX2_partnerFor 27 = .ok (.aload 4, 2) := dcU1 dO_25 (by decide +kernel)
theorem dX2_partnerFor_29 : decode cX2_partnerFor 29 = .ok (.iload_n 1, 1) := dc0 dO_27 (by decide +kernel)
theorem dX2_partnerFor_30 : decode cX2_partnerFor 30 = .ok (.invokevirtual 68, 3) := dcU2 dO_182 (by decide +kernel)
theorem dX2_partnerFor_33 : decode cX2_partnerFor 33 = .ok (.isub, 1) := dc0 dO_100 (by decide +kernel)
theorem dX2_partnerFor_34 : decode cX2_partnerFor 34 = .ok (.invokevirtual 74, 3) := dcU2 dO_182 (by decide +kernel)
theorem dX2_partnerFor_37 : decode cX2_partnerFor 37 = .ok (.ireturn, 1) := dc0 dO_172 (by decide +kernel)
theorem dX2_send_0 : decode cX2_send 0 = .ok (.aload_n 0, 1) := dc0 dO_42 (by decide +kernel)
theorem dX2_send_1 : decode cX2_send 1 = .ok (.iload_n 1, 1) := dc0 dO_27 (by decide +kernel)
theorem dX2_send_2 : decode cX2_send 2 = .ok (.iload_n 2, 1) := dc0 dO_28 (by decide +kernel)
theorem dX2_send_3 : decode cX2_send 3 = .ok (.invokevirtual 83, 3) := dcU2 dO_182 (by decide +kernel)
theorem dX2_send_6 : decode cX2_send 6 = .ok (.istore_n 3, 1) := dc0 dO_62 (by decide +kernel)
theorem dX2_send_7 : decode cX2_send 7 = .ok (.aload_n 0, 1) := dc0 dO_42 (by decide +kernel)
theorem dX2_send_8 : decode cX2_send 8 = .ok (.getfield 15, 3) := dcU2 dO_180 (by decide +kernel)
theorem dX2_send_11 : decode cX2_send 11 = .ok (.iconst 0, 1) := dc0 dO_3 (by decide +kernel)
theorem dX2_send_12 : decode cX2_send 12 = .ok (.aload_n 0, 1) := dc0 dO_42 (by decide +kernel)
theorem dX2_send_13 : decode cX2_send 13 = .ok (.getfield 19, 3) := dcU2 dO_180 (by decide +kernel)
theorem dX2_send_16 : decode cX2_send 16 = .ok (.iconst 0, 1) := dc0 dO_3 (by decide +kernel)
theorem dX2_send_17 : decode cX2_send 17 = .ok (.aload_n 0, 1) := dc0 dO_42 (by decide +kernel)
theorem dX2_send_18 : decode cX2_send 18 = .ok (.getfield 77, 3) := dcU2 dO_180 (by decide +kernel)
theorem dX2_send_21 : decode cX2_send 21 = .ok (.invokestatic 86, 3) := dcU2 dO_184 (by decide +kernel)
theorem dX2_send_24 : decode cX2_send 24 = .ok (.aload_n 0, 1) := dc0 dO_42 (by decide +kernel)
theorem dX2_send_25 : decode cX2_send 25 = .ok (.aload_n 0, 1) := dc0 dO_42 (by decide +kernel)
theorem dX2_send_26 : decode cX2_send 26 = .ok (.getfield 77, 3) := dcU2 dO_180 (by decide +kernel)
theorem dX2_send_29 : decode cX2_send 29 = .ok (.putfield 92, 3) := dcU2 dO_181 (by decide +kernel)
theorem dX2_send_32 : decode cX2_send 32 = .ok (.iload_n 3, 1) := dc0 dO_29 (by decide +kernel)
theorem dX2_send_33 : decode cX2_send 33 = .ok (.ireturn, 1) := dc0 dO_172 (by decide +kernel)
theorem dX2_travel_0 : decode cX2_travel 0 = .ok (.aload_n 0, 1) := dc0 dO_42 (by decide +kernel)
theorem dX2_travel_1 : decode cX2_travel 1 = .ok (.getfield 15, 3) := dcU2 dO_180 (by decide +kernel)
theorem dX2_travel_4 : decode cX2_travel 4 = .ok (.iconst 0, 1) := dc0 dO_3 (by decide +kernel)
theorem dX2_travel_5 : decode cX2_travel 5 = .ok (.iload_n 1, 1) := dc0 dO_27 (by decide +kernel)
theorem dX2_travel_6 : decode cX2_travel 6 = .ok (.iastore, 1) := dc0 dO_79 (by decide +kernel)
theorem dX2_travel_7 : decode cX2_travel 7 = .ok (.aload_n 0, 1) := dc0 dO_42 (by decide +kernel)
theorem dX2_travel_8 : decode cX2_travel 8 = .ok (.iconst 1, 1) := dc0 dO_4 (by decide +kernel)
theorem dX2_travel_9 : decode cX2_travel 9 = .ok (.putfield 77, 3) := dcU2 dO_181 (by decide +kernel)
theorem dX2_travel_12 : decode cX2_travel 12 = .ok (.iconst 1, 1) := dc0 dO_4 (by decide +kernel)
theorem dX2_travel_13 : decode cX2_travel 13 = .ok (.iload_n 1, 1) := dc0 dO_27 (by decide +kernel)
theorem dX2_travel_14 : decode cX2_travel 14 = .ok (.ishl, 1) := dc0 dO_120 (by decide +kernel)
theorem dX2_travel_15 : decode cX2_travel 15 = .ok (.istore_n 3, 1) := dc0 dO_62 (by decide +kernel)
theorem dX2_travel_16 : decode cX2_travel 16 = .ok (.iconst 0, 1) := dc0 dO_3 (by decide +kernel)
theorem dX2_travel_17 : decode cX2_travel 17 = .ok (.istore 4, 2) := dcU1 dO_54 (by decide +kernel)
theorem dX2_travel_19 : decode cX2_travel 19 = .ok (.iload 4, 2) := dcU1 dO_21 (by decide +kernel)
theorem dX2_travel_21 : decode cX2_travel 21 = .ok (.bipush 10, 2) := dcS1 dO_16 (by decide +kernel)
theorem dX2_travel_23 : decode cX2_travel 23 = .ok (.if_icmp .ge 80, 3) := dcS2 dO_162 (by decide +kernel)
theorem dX2_travel_26 : decode cX2_travel 26 = .ok (.aload_n 0, 1) := dc0 dO_42 (by decide +kernel)
theorem dX2_travel_27 : decode cX2_travel 27 = .ok (.aload_n 0, 1) := dc0 dO_42 (by decide +kernel)
theorem dX2_travel_28 : decode cX2_travel 28 = .ok (.getfield 15, 3) := dcU2 dO_180 (by decide +kernel)
theorem dX2_travel_31 : decode cX2_travel 31 = .ok (.iload 4, 2) := dcU1 dO_21 (by decide +kernel)
theorem dX2_travel_33 : decode cX2_travel 33 = .ok (.iaload, 1) := dc0 dO_46 (by decide +kernel)
theorem dX2_travel_34 : decode cX2_travel 34 = .ok (.iload_n 2, 1) := dc0 dO_28 (by decide +kernel)
theorem dX2_travel_35 : decode cX2_travel 35 = .ok (.invokevirtual 80, 3) := dcU2 dO_182 (by decide +kernel)
theorem dX2_travel_38 : decode cX2_travel 38 = .ok (.istore 5, 2) := dcU1 dO_54 (by decide +kernel)
theorem dX2_travel_40 : decode cX2_travel 40 = .ok (.iload 5, 2) := dcU1 dO_21 (by decide +kernel)
theorem dX2_travel_42 : decode cX2_travel 42 = .ok (.ifCond .ge 16, 3) := dcS2 dO_156 (by decide +kernel)
theorem dX2_travel_45 : decode cX2_travel 45 = .ok (.iload 5, 2) := dcU1 dO_21 (by decide +kernel)
theorem dX2_travel_47 : decode cX2_travel 47 = .ok (.bipush (-4), 2) := dcS1 dO_16 (by decide +kernel)
theorem dX2_travel_49 : decode cX2_travel 49 = .ok (.if_icmp .ne 7, 3) := dcS2 dO_160 (by decide +kernel)
theorem dX2_travel_52 : decode cX2_travel 52 = .ok (.iconst 0, 1) := dc0 dO_3 (by decide +kernel)
theorem dX2_travel_53 : decode cX2_travel 53 = .ok (.goto 4, 3) := dcS2 dO_167 (by decide +kernel)
theorem dX2_travel_56 : decode cX2_travel 56 = .ok (.iconst 1, 1) := dc0 dO_4 (by decide +kernel)
theorem dX2_travel_57 : decode cX2_travel 57 = .ok (.ireturn, 1) := dc0 dO_172 (by decide +kernel)
theorem dX2_travel_58 : decode cX2_travel 58 = .ok (.aload_n 0, 1) := dc0 dO_42 (by decide +kernel)
theorem dX2_travel_59 : decode cX2_travel 59 = .ok (.getfield 15, 3) := dcU2 dO_180 (by decide +kernel)
theorem dX2_travel_62 : decode cX2_travel 62 = .ok (.aload_n 0, 1) := dc0 dO_42 (by decide +kernel)
theorem dX2_travel_63 : decode cX2_travel 63 = .ok (.getfield 77, 3) := dcU2 dO_180 (by decide +kernel)
theorem dX2_travel_66 : decode cX2_travel 66 = .ok (.iload 5, 2) := dcU1 dO_21 (by decide +kernel)
theorem dX2_travel_68 : decode cX2_travel 68 = .ok (.iastore, 1) := dc0 dO_79 (by decide +kernel)
theorem dX2_travel_69 : decode cX2_travel 69 = .ok (.aload_n 0, 1) := dc0 dO_42 (by decide +kernel)
theorem dX2_travel_70 : decode cX2_travel 70 = .ok (.dup, 1) := dc0 dO_89 (by decide +kernel)
theorem dX2_travel_71 : decode cX2_travel 71 = .ok (.getfield 77, 3) := dcU2 dO_180 (by decide +kernel)
theorem dX2_travel_74 : decode cX2_travel 74 = .ok (.iconst 1, 1) := dc0 dO_4 (by decide +kernel)
theorem dX2_travel_75 : decode cX2_travel 75 = .ok (.iadd, 1) := dc0 dO_96 (by decide +kernel)
theorem dX2_travel_76 : decode cX2_travel 76 = .ok (.putfield 77, 3) := dcU2 dO_181 (by decide +kernel)
theorem dX2_travel_79 : decode cX2_travel 79 = .ok (.iload_n 3, 1) := dc0 dO_29 (by decide +kernel)
theorem dX2_travel_80 : decode cX2_travel 80 = .ok (.iload 5, 2) := dcU1 dO_21 (by decide +kernel)
theorem dX2_travel_82 : decode cX2_travel 82 = .ok (.ishr, 1) := dc0 dO_122 (by decide +kernel)
theorem dX2_travel_83 : decode cX2_travel 83 = .ok (.iconst 1, 1) := dc0 dO_4 (by decide +kernel)
theorem dX2_travel_84 : decode cX2_travel 84 = .ok (.iand, 1) := dc0 dO_126 (by decide +kernel)
theorem dX2_travel_85 : decode cX2_travel 85 = .ok (.ifCond .eq 5, 3) := dcS2 dO_153 (by decide +kernel)
theorem dX2_travel_88 : decode cX2_travel 88 = .ok (.iconst 2, 1) := dc0 dO_5 (by decide +kernel)
theorem dX2_travel_89 : decode cX2_travel 89 = .ok (.ireturn, 1) := dc0 dO_172 (by decide +kernel)
theorem dX2_travel_90 : decode cX2_travel 90 = .ok (.iload_n 3, 1) := dc0 dO_29 (by decide +kernel)
theorem dX2_travel_91 : decode cX2_travel 91 = .ok (.iconst 1, 1) := dc0 dO_4 (by decide +kernel)
theorem dX2_travel_92 : decode cX2_travel 92 = .ok (.iload 5, 2) := dcU1 dO_21 (by decide +kernel)
theorem dX2_travel_94 : decode cX2_travel 94 = .ok (.ishl, 1) := dc0 dO_120 (by decide +kernel)
theorem dX2_travel_95 : decode cX2_travel 95 = .ok (.ior, 1) := dc0 dO_128 (by decide +kernel)
theorem dX2_travel_96 : decode cX2_travel 96 = .ok (.istore_n 3, 1) := dc0 dO_62 (by decide +kernel)
theorem dX2_travel_97 : decode cX2_travel 97 = .ok (.iinc 4 1, 3) := dcI dO_132 (by decide +kernel)
theorem dX2_travel_100 : decode cX2_travel 100 = .ok (.goto (-81), 3) := dcS2 dO_167 (by decide +kernel)
theorem dX2_travel_103 : decode cX2_travel 103 = .ok (.iconst 2, 1) := dc0 dO_5 (by decide +kernel)
theorem dX2_travel_104 : decode cX2_travel 104 = .ok (.ireturn, 1) := dc0 dO_172 (by decide +kernel)
theorem dX2_unitsOver_0 : decode cX2_unitsOver 0 = .ok (.iconst 0, 1) := dc0 dO_3 (by decide +kernel)
theorem dX2_unitsOver_1 : decode cX2_unitsOver 1 = .ok (.istore_n 3, 1) := dc0 dO_62 (by decide +kernel)
theorem dX2_unitsOver_2 : decode cX2_unitsOver 2 = .ok (.iconst 0, 1) := dc0 dO_3 (by decide +kernel)
theorem dX2_unitsOver_3 : decode cX2_unitsOver 3 = .ok (.istore 4, 2) := dcU1 dO_54 (by decide +kernel)
theorem dX2_unitsOver_5 : decode cX2_unitsOver 5 = .ok (.iload 4, 2) := dcU1 dO_21 (by decide +kernel)
theorem dX2_unitsOver_7 : decode cX2_unitsOver 7 = .ok (.aload_n 0, 1) := dc0 dO_42 (by decide +kernel)
theorem dX2_unitsOver_8 : decode cX2_unitsOver 8 = .ok (.getfield 95, 3) := dcU2 dO_180 (by decide +kernel)
theorem dX2_unitsOver_11 : decode cX2_unitsOver 11 = .ok (.if_icmp .ge 82, 3) := dcS2 dO_162 (by decide +kernel)
theorem dX2_unitsOver_14 : decode cX2_unitsOver 14 = .ok (.aload_n 0, 1) := dc0 dO_42 (by decide +kernel)
theorem dX2_unitsOver_15 : decode cX2_unitsOver 15 = .ok (.aload_n 0, 1) := dc0 dO_42 (by decide +kernel)
theorem dX2_unitsOver_16 : decode cX2_unitsOver 16 = .ok (.getfield 22, 3) := dcU2 dO_180 (by decide +kernel)
theorem dX2_unitsOver_19 : decode cX2_unitsOver 19 = .ok (.iload 4, 2) := dcU1 dO_21 (by decide +kernel)
theorem dX2_unitsOver_21 : decode cX2_unitsOver 21 = .ok (.iaload, 1) := dc0 dO_46 (by decide +kernel)
theorem dX2_unitsOver_22 : decode cX2_unitsOver 22 = .ok (.aload_n 0, 1) := dc0 dO_42 (by decide +kernel)
theorem dX2_unitsOver_23 : decode cX2_unitsOver 23 = .ok (.getfield 25, 3) := dcU2 dO_180 (by decide +kernel)
theorem dX2_unitsOver_26 : decode cX2_unitsOver 26 = .ok (.iload 4, 2) := dcU1 dO_21 (by decide +kernel)
theorem dX2_unitsOver_28 : decode cX2_unitsOver 28 = .ok (.iaload, 1) := dc0 dO_46 (by decide +kernel)
theorem dX2_unitsOver_29 : decode cX2_unitsOver 29 = .ok (.invokevirtual 83, 3) := dcU2 dO_182 (by decide +kernel)
theorem dX2_unitsOver_32 : decode cX2_unitsOver 32 = .ok (.pop, 1) := dc0 dO_87 (by decide +kernel)
theorem dX2_unitsOver_33 : decode cX2_unitsOver 33 = .ok (.iconst 0, 1) := dc0 dO_3 (by decide +kernel)
theorem dX2_unitsOver_34 : decode cX2_unitsOver 34 = .ok (.istore 5, 2) := dcU1 dO_54 (by decide +kernel)
theorem dX2_unitsOver_36 : decode cX2_unitsOver 36 = .ok (.iload 5, 2) := dcU1 dO_21 (by decide +kernel)
theorem dX2_unitsOver_38 : decode cX2_unitsOver 38 = .ok (.iconst 1, 1) := dc0 dO_4 (by decide +kernel)
theorem dX2_unitsOver_39 : decode cX2_unitsOver 39 = .ok (.iadd, 1) := dc0 dO_96 (by decide +kernel)
theorem dX2_unitsOver_40 : decode cX2_unitsOver 40 = .ok (.aload_n 0, 1) := dc0 dO_42 (by decide +kernel)
theorem dX2_unitsOver_41 : decode cX2_unitsOver 41 = .ok (.getfield 77, 3) := dcU2 dO_180 (by decide +kernel)
theorem dX2_unitsOver_44 : decode cX2_unitsOver 44 = .ok (.if_icmp .ge 43, 3) := dcS2 dO_162 (by decide +kernel)
theorem dX2_unitsOver_47 : decode cX2_unitsOver 47 = .ok (.aload_n 0, 1) := dc0 dO_42 (by decide +kernel)
theorem dX2_unitsOver_48 : decode cX2_unitsOver 48 = .ok (.getfield 15, 3) := dcU2 dO_180 (by decide +kernel)
theorem dX2_unitsOver_51 : decode cX2_unitsOver 51 = .ok (.iload 5, 2) := dcU1 dO_21 (by decide +kernel)
theorem dX2_unitsOver_53 : decode cX2_unitsOver 53 = .ok (.iaload, 1) := dc0 dO_46 (by decide +kernel)
theorem dX2_unitsOver_54 : decode cX2_unitsOver 54 = .ok (.iload_n 1, 1) := dc0 dO_27 (by decide +kernel)
theorem dX2_unitsOver_55 : decode cX2_unitsOver 55 = .ok (.if_icmp .ne 26, 3) := dcS2 dO_160 (by decide +kernel)
theorem dX2_unitsOver_58 : decode cX2_unitsOver 58 = .ok (.aload_n 0, 1) := dc0 dO_42 (by decide +kernel)
theorem dX2_unitsOver_59 : decode cX2_unitsOver 59 = .ok (.getfield 15, 3) := dcU2 dO_180 (by decide +kernel)
theorem dX2_unitsOver_62 : decode cX2_unitsOver 62 = .ok (.iload 5, 2) := dcU1 dO_21 (by decide +kernel)
theorem dX2_unitsOver_64 : decode cX2_unitsOver 64 = .ok (.iconst 1, 1) := dc0 dO_4 (by decide +kernel)
theorem dX2_unitsOver_65 : decode cX2_unitsOver 65 = .ok (.iadd, 1) := dc0 dO_96 (by decide +kernel)
theorem dX2_unitsOver_66 : decode cX2_unitsOver 66 = .ok (.iaload, 1) := dc0 dO_46 (by decide +kernel)
theorem dX2_unitsOver_67 : decode cX2_unitsOver 67 = .ok (.iload_n 2, 1) := dc0 dO_28 (by decide +kernel)
theorem dX2_unitsOver_68 : decode cX2_unitsOver 68 = .ok (.if_icmp .ne 13, 3) := dcS2 dO_160 (by decide +kernel)
theorem dX2_unitsOver_71 : decode cX2_unitsOver 71 = .ok (.iload_n 3, 1) := dc0 dO_29 (by decide +kernel)
theorem dX2_unitsOver_72 : decode cX2_unitsOver 72 = .ok (.aload_n 0, 1) := dc0 dO_42 (by decide +kernel)
theorem dX2_unitsOver_73 : decode cX2_unitsOver 73 = .ok (.getfield 28, 3) := dcU2 dO_180 (by decide +kernel)
theorem dX2_unitsOver_76 : decode cX2_unitsOver 76 = .ok (.iload 4, 2) := dcU1 dO_21 (by decide +kernel)
theorem dX2_unitsOver_78 : decode cX2_unitsOver 78 = .ok (.iaload, 1) := dc0 dO_46 (by decide +kernel)
theorem dX2_unitsOver_79 : decode cX2_unitsOver 79 = .ok (.iadd, 1) := dc0 dO_96 (by decide +kernel)
theorem dX2_unitsOver_80 : decode cX2_unitsOver 80 = .ok (.istore_n 3, 1) := dc0 dO_62 (by decide +kernel)
theorem dX2_unitsOver_81 : decode cX2_unitsOver 81 = .ok (.iinc 5 1, 3) := dcI dO_132 (by decide +kernel)
theorem dX2_unitsOver_84 : decode cX2_unitsOver 84 = .ok (.goto (-48), 3) := dcS2 dO_167 (by decide +kernel)
theorem dX2_unitsOver_87 : decode cX2_unitsOver 87 = .ok (.iinc 4 1, 3) := dcI dO_132 (by decide +kernel)
theorem dX2_unitsOver_90 : decode cX2_unitsOver 90 = .ok (.goto (-85), 3) := dcS2 dO_167 (by decide +kernel)
theorem dX2_unitsOver_93 : decode cX2_unitsOver 93 = .ok (.iload_n 3, 1) := dc0 dO_29 (by decide +kernel)
theorem dX2_unitsOver_94 : decode cX2_unitsOver 94 = .ok (.ireturn, 1) := dc0 dO_172 (by decide +kernel)
theorem dX2_unitsThat_0 : decode cX2_unitsThat 0 = .ok (.iconst 0, 1) := dc0 dO_3 (by decide +kernel)
theorem dX2_unitsThat_1 : decode cX2_unitsThat 1 = .ok (.istore_n 2, 1) := dc0 dO_61 (by decide +kernel)
theorem dX2_unitsThat_2 : decode cX2_unitsThat 2 = .ok (.iconst 0, 1) := dc0 dO_3 (by decide +kernel)
theorem dX2_unitsThat_3 : decode cX2_unitsThat 3 = .ok (.istore_n 3, 1) := dc0 dO_62 (by decide +kernel)
theorem dX2_unitsThat_4 : decode cX2_unitsThat 4 = .ok (.iload_n 3, 1) := dc0 dO_29 (by decide +kernel)
theorem dX2_unitsThat_5 : decode cX2_unitsThat 5 = .ok (.aload_n 0, 1) := dc0 dO_42 (by decide +kernel)
theorem dX2_unitsThat_6 : decode cX2_unitsThat 6 = .ok (.getfield 95, 3) := dcU2 dO_180 (by decide +kernel)
theorem dX2_unitsThat_9 : decode cX2_unitsThat 9 = .ok (.if_icmp .ge 38, 3) := dcS2 dO_162 (by decide +kernel)
theorem dX2_unitsThat_12 : decode cX2_unitsThat 12 = .ok (.aload_n 0, 1) := dc0 dO_42 (by decide +kernel)
theorem dX2_unitsThat_13 : decode cX2_unitsThat 13 = .ok (.aload_n 0, 1) := dc0 dO_42 (by decide +kernel)
theorem dX2_unitsThat_14 : decode cX2_unitsThat 14 = .ok (.getfield 22, 3) := dcU2 dO_180 (by decide +kernel)
theorem dX2_unitsThat_17 : decode cX2_unitsThat 17 = .ok (.iload_n 3, 1) := dc0 dO_29 (by decide +kernel)
theorem dX2_unitsThat_18 : decode cX2_unitsThat 18 = .ok (.iaload, 1) := dc0 dO_46 (by decide +kernel)
theorem dX2_unitsThat_19 : decode cX2_unitsThat 19 = .ok (.aload_n 0, 1) := dc0 dO_42 (by decide +kernel)
theorem dX2_unitsThat_20 : decode cX2_unitsThat 20 = .ok (.getfield 25, 3) := dcU2 dO_180 (by decide +kernel)
theorem dX2_unitsThat_23 : decode cX2_unitsThat 23 = .ok (.iload_n 3, 1) := dc0 dO_29 (by decide +kernel)
theorem dX2_unitsThat_24 : decode cX2_unitsThat 24 = .ok (.iaload, 1) := dc0 dO_46 (by decide +kernel)
theorem dX2_unitsThat_25 : decode cX2_unitsThat 25 = .ok (.invokevirtual 83, 3) := dcU2 dO_182 (by decide +kernel)
theorem dX2_unitsThat_28 : decode cX2_unitsThat 28 = .ok (.iload_n 1, 1) := dc0 dO_27 (by decide +kernel)
theorem dX2_unitsThat_29 : decode cX2_unitsThat 29 = .ok (.if_icmp .ne 12, 3) := dcS2 dO_160 (by decide +kernel)
theorem dX2_unitsThat_32 : decode cX2_unitsThat 32 = .ok (.iload_n 2, 1) := dc0 dO_28 (by decide +kernel)
theorem dX2_unitsThat_33 : decode cX2_unitsThat 33 = .ok (.aload_n 0, 1) := dc0 dO_42 (by decide +kernel)
theorem dX2_unitsThat_34 : decode cX2_unitsThat 34 = .ok (.getfield 28, 3) := dcU2 dO_180 (by decide +kernel)
theorem dX2_unitsThat_37 : decode cX2_unitsThat 37 = .ok (.iload_n 3, 1) := dc0 dO_29 (by decide +kernel)
theorem dX2_unitsThat_38 : decode cX2_unitsThat 38 = .ok (.iaload, 1) := dc0 dO_46 (by decide +kernel)
theorem dX2_unitsThat_39 : decode cX2_unitsThat 39 = .ok (.iadd, 1) := dc0 dO_96 (by decide +kernel)
theorem dX2_unitsThat_40 : decode cX2_unitsThat 40 = .ok (.istore_n 2, 1) := dc0 dO_61 (by decide +kernel)
theorem dX2_unitsThat_41 : decode cX2_unitsThat 41 = .ok (.iinc 3 1, 3) := dcI dO_132 (by decide +kernel)
theorem dX2_unitsThat_44 : decode cX2_unitsThat 44 = .ok (.goto (-40), 3) := dcS2 dO_167 (by decide +kernel)
theorem dX2_unitsThat_47 : decode cX2_unitsThat 47 = .ok (.iload_n 2, 1) := dc0 dO_28 (by decide +kernel)
theorem dX2_unitsThat_48 : decode cX2_unitsThat 48 = .ok (.ireturn, 1) := dc0 dO_172 (by decide +kernel)
theorem dX2_unlikeAddresses_0 : decode cX2_unlikeAddresses 0 = .ok (.aload_n 0, 1) := dc0 dO_42 (by decide +kernel)
theorem dX2_unlikeAddresses_1 : decode cX2_unlikeAddresses 1 = .ok (.invokevirtual 117, 3) := dcU2 dO_182 (by decide +kernel)
theorem dX2_unlikeAddresses_4 : decode cX2_unlikeAddresses 4 = .ok (.istore_n 3, 1) := dc0 dO_62 (by decide +kernel)
theorem dX2_unlikeAddresses_5 : decode cX2_unlikeAddresses 5 = .ok (.lconst 0, 1) := dc0 dO_9 (by decide +kernel)
theorem dX2_unlikeAddresses_6 : decode cX2_unlikeAddresses 6 = .ok (.lstore 4, 2) := dcU1 dO_55 (by decide +kernel)
theorem dX2_unlikeAddresses_8 : decode cX2_unlikeAddresses 8 = .ok (.iconst 0, 1) := dc0 dO_3 (by decide +kernel)
theorem dX2_unlikeAddresses_9 : decode cX2_unlikeAddresses 9 = .ok (.istore 6, 2) := dcU1 dO_54 (by decide +kernel)
theorem dX2_unlikeAddresses_11 : decode cX2_unlikeAddresses 11 = .ok (.iload 6, 2) := dcU1 dO_21 (by decide +kernel)
theorem dX2_unlikeAddresses_13 : decode cX2_unlikeAddresses 13 = .ok (.iconst 1, 1) := dc0 dO_4 (by decide +kernel)
theorem dX2_unlikeAddresses_14 : decode cX2_unlikeAddresses 14 = .ok (.iadd, 1) := dc0 dO_96 (by decide +kernel)
theorem dX2_unlikeAddresses_15 : decode cX2_unlikeAddresses 15 = .ok (.iload_n 3, 1) := dc0 dO_29 (by decide +kernel)
theorem dX2_unlikeAddresses_16 : decode cX2_unlikeAddresses 16 = .ok (.if_icmp .ge 58, 3) := dcS2 dO_162 (by decide +kernel)
theorem dX2_unlikeAddresses_19 : decode cX2_unlikeAddresses 19 = .ok (.aload_n 0, 1) := dc0 dO_42 (by decide +kernel)
theorem dX2_unlikeAddresses_20 : decode cX2_unlikeAddresses 20 = .ok (.getfield 31, 3) := dcU2 dO_180 (by decide +kernel)
theorem dX2_unlikeAddresses_23 : decode cX2_unlikeAddresses 23 = .ok (.iload 6, 2) := dcU1 dO_21 (by decide +kernel)
theorem dX2_unlikeAddresses_25 : decode cX2_unlikeAddresses 25 = .ok (.laload, 1) := dc0 dO_47 (by decide +kernel)
theorem dX2_unlikeAddresses_26 : decode cX2_unlikeAddresses 26 = .ok (.l2i, 1) := dc0 dO_136 (by decide +kernel)
theorem dX2_unlikeAddresses_27 : decode cX2_unlikeAddresses 27 = .ok (.istore 7, 2) := dcU1 dO_54 (by decide +kernel)
theorem dX2_unlikeAddresses_29 : decode cX2_unlikeAddresses 29 = .ok (.aload_n 0, 1) := dc0 dO_42 (by decide +kernel)
theorem dX2_unlikeAddresses_30 : decode cX2_unlikeAddresses 30 = .ok (.iload_n 1, 1) := dc0 dO_27 (by decide +kernel)
theorem dX2_unlikeAddresses_31 : decode cX2_unlikeAddresses 31 = .ok (.iload 7, 2) := dcU1 dO_21 (by decide +kernel)
theorem dX2_unlikeAddresses_33 : decode cX2_unlikeAddresses 33 = .ok (.invokevirtual 80, 3) := dcU2 dO_182 (by decide +kernel)
theorem dX2_unlikeAddresses_36 : decode cX2_unlikeAddresses 36 = .ok (.aload_n 0, 1) := dc0 dO_42 (by decide +kernel)
theorem dX2_unlikeAddresses_37 : decode cX2_unlikeAddresses 37 = .ok (.iload_n 2, 1) := dc0 dO_28 (by decide +kernel)
theorem dX2_unlikeAddresses_38 : decode cX2_unlikeAddresses 38 = .ok (.iload 7, 2) := dcU1 dO_21 (by decide +kernel)
theorem dX2_unlikeAddresses_40 : decode cX2_unlikeAddresses 40 = .ok (.invokevirtual 80, 3) := dcU2 dO_182 (by decide +kernel)
theorem dX2_unlikeAddresses_43 : decode cX2_unlikeAddresses 43 = .ok (.if_icmp .eq 25, 3) := dcS2 dO_159 (by decide +kernel)
theorem dX2_unlikeAddresses_46 : decode cX2_unlikeAddresses 46 = .ok (.lload 4, 2) := dcU1 dO_22 (by decide +kernel)
theorem dX2_unlikeAddresses_48 : decode cX2_unlikeAddresses 48 = .ok (.aload_n 0, 1) := dc0 dO_42 (by decide +kernel)
theorem dX2_unlikeAddresses_49 : decode cX2_unlikeAddresses 49 = .ok (.getfield 31, 3) := dcU2 dO_180 (by decide +kernel)
theorem dX2_unlikeAddresses_52 : decode cX2_unlikeAddresses 52 = .ok (.iload 6, 2) := dcU1 dO_21 (by decide +kernel)
theorem dX2_unlikeAddresses_54 : decode cX2_unlikeAddresses 54 = .ok (.iconst 1, 1) := dc0 dO_4 (by decide +kernel)
theorem dX2_unlikeAddresses_55 : decode cX2_unlikeAddresses 55 = .ok (.iadd, 1) := dc0 dO_96 (by decide +kernel)
theorem dX2_unlikeAddresses_56 : decode cX2_unlikeAddresses 56 = .ok (.laload, 1) := dc0 dO_47 (by decide +kernel)
theorem dX2_unlikeAddresses_57 : decode cX2_unlikeAddresses 57 = .ok (.aload_n 0, 1) := dc0 dO_42 (by decide +kernel)
theorem dX2_unlikeAddresses_58 : decode cX2_unlikeAddresses 58 = .ok (.getfield 31, 3) := dcU2 dO_180 (by decide +kernel)
theorem dX2_unlikeAddresses_61 : decode cX2_unlikeAddresses 61 = .ok (.iload 6, 2) := dcU1 dO_21 (by decide +kernel)
theorem dX2_unlikeAddresses_63 : decode cX2_unlikeAddresses 63 = .ok (.laload, 1) := dc0 dO_47 (by decide +kernel)
theorem dX2_unlikeAddresses_64 : decode cX2_unlikeAddresses 64 = .ok (.lsub, 1) := dc0 dO_101 (by decide +kernel)
theorem dX2_unlikeAddresses_65 : decode cX2_unlikeAddresses 65 = .ok (.ladd, 1) := dc0 dO_97 (by decide +kernel)
theorem dX2_unlikeAddresses_66 : decode cX2_unlikeAddresses 66 = .ok (.lstore 4, 2) := dcU1 dO_55 (by decide +kernel)
theorem dX2_unlikeAddresses_68 : decode cX2_unlikeAddresses 68 = .ok (.iinc 6 1, 3) := dcI dO_132 (by decide +kernel)
theorem dX2_unlikeAddresses_71 : decode cX2_unlikeAddresses 71 = .ok (.goto (-60), 3) := dcS2 dO_167 (by decide +kernel)
theorem dX2_unlikeAddresses_74 : decode cX2_unlikeAddresses 74 = .ok (.lload 4, 2) := dcU1 dO_22 (by decide +kernel)
theorem dX2_unlikeAddresses_76 : decode cX2_unlikeAddresses 76 = .ok (.lreturn, 1) := dc0 dO_173 (by decide +kernel)
theorem dX3_fourAt_0 : decode cX3_fourAt 0 = .ok (.aload_n 0, 1) := dc0 dO_42 (by decide +kernel)
theorem dX3_fourAt_1 : decode cX3_fourAt 1 = .ok (.iload_n 1, 1) := dc0 dO_27 (by decide +kernel)
theorem dX3_fourAt_2 : decode cX3_fourAt 2 = .ok (.invokevirtual 88, 3) := dcU2 dO_182 (by decide +kernel)
theorem dX3_fourAt_5 : decode cX3_fourAt 5 = .ok (.bipush 16, 2) := dcS1 dO_16 (by decide +kernel)
theorem dX3_fourAt_7 : decode cX3_fourAt 7 = .ok (.ishl, 1) := dc0 dO_120 (by decide +kernel)
theorem dX3_fourAt_8 : decode cX3_fourAt 8 = .ok (.aload_n 0, 1) := dc0 dO_42 (by decide +kernel)
theorem dX3_fourAt_9 : decode cX3_fourAt 9 = .ok (.iload_n 1, 1) := dc0 dO_27 (by decide +kernel)
theorem dX3_fourAt_10 : decode cX3_fourAt 10 = .ok (.iconst 2, 1) := dc0 dO_5 (by decide +kernel)
theorem dX3_fourAt_11 : decode cX3_fourAt 11 = .ok (.iadd, 1) := dc0 dO_96 (by decide +kernel)
theorem dX3_fourAt_12 : decode cX3_fourAt 12 = .ok (.invokevirtual 88, 3) := dcU2 dO_182 (by decide +kernel)
theorem dX3_fourAt_15 : decode cX3_fourAt 15 = .ok (.ior, 1) := dc0 dO_128 (by decide +kernel)
theorem dX3_fourAt_16 : decode cX3_fourAt 16 = .ok (.ireturn, 1) := dc0 dO_172 (by decide +kernel)
theorem dX3_pairAt_0 : decode cX3_pairAt 0 = .ok (.aload_n 0, 1) := dc0 dO_42 (by decide +kernel)
theorem dX3_pairAt_1 : decode cX3_pairAt 1 = .ok (.getfield 41, 3) := dcU2 dO_180 (by decide +kernel)
theorem dX3_pairAt_4 : decode cX3_pairAt 4 = .ok (.iload_n 1, 1) := dc0 dO_27 (by decide +kernel)
theorem dX3_pairAt_5 : decode cX3_pairAt 5 = .ok (.iaload, 1) := dc0 dO_46 (by decide +kernel)
theorem dX3_pairAt_6 : decode cX3_pairAt 6 = .ok (.bipush 8, 2) := dcS1 dO_16 (by decide +kernel)
theorem dX3_pairAt_8 : decode cX3_pairAt 8 = .ok (.ishl, 1) := dc0 dO_120 (by decide +kernel)
theorem dX3_pairAt_9 : decode cX3_pairAt 9 = .ok (.aload_n 0, 1) := dc0 dO_42 (by decide +kernel)
theorem dX3_pairAt_10 : decode cX3_pairAt 10 = .ok (.getfield 41, 3) := dcU2 dO_180 (by decide +kernel)
theorem dX3_pairAt_13 : decode cX3_pairAt 13 = .ok (.iload_n 1, 1) := dc0 dO_27 (by decide +kernel)
theorem dX3_pairAt_14 : decode cX3_pairAt 14 = .ok (.iconst 1, 1) := dc0 dO_4 (by decide +kernel)
theorem dX3_pairAt_15 : decode cX3_pairAt 15 = .ok (.iadd, 1) := dc0 dO_96 (by decide +kernel)
theorem dX3_pairAt_16 : decode cX3_pairAt 16 = .ok (.iaload, 1) := dc0 dO_46 (by decide +kernel)
theorem dX3_pairAt_17 : decode cX3_pairAt 17 = .ok (.ior, 1) := dc0 dO_128 (by decide +kernel)
theorem dX3_pairAt_18 : decode cX3_pairAt 18 = .ok (.ireturn, 1) := dc0 dO_172 (by decide +kernel)
theorem dX3_readCost_0 : decode cX3_readCost 0 = .ok (.iload_n 2, 1) := dc0 dO_28 (by decide +kernel)
theorem dX3_readCost_1 : decode cX3_readCost 1 = .ok (.iconst 4, 1) := dc0 dO_7 (by decide +kernel)
theorem dX3_readCost_2 : decode cX3_readCost 2 = .ok (.if_icmp .eq 5, 3) := dcS2 dO_159 (by decide +kernel)
theorem dX3_readCost_5 : decode cX3_readCost 5 = .ok (.iconst 0, 1) := dc0 dO_3 (by decide +kernel)
theorem dX3_readCost_6 : decode cX3_readCost 6 = .ok (.ireturn, 1) := dc0 dO_172 (by decide +kernel)
theorem dX3_readCost_7 : decode cX3_readCost 7 = .ok (.aload_n 0, 1) := dc0 dO_42 (by decide +kernel)
theorem dX3_readCost_8 : decode cX3_readCost 8 = .ok (.iload_n 1, 1) := dc0 dO_27 (by decide +kernel)
theorem dX3_readCost_9 : decode cX3_readCost 9 = .ok (.invokevirtual 130, 3) := dcU2 dO_182 (by decide +kernel)
theorem dX3_readCost_12 : decode cX3_readCost 12 = .ok (.istore_n 3, 1) := dc0 dO_62 (by decide +kernel)
theorem dX3_readCost_13 : decode cX3_readCost 13 = .ok (.aload_n 0, 1) := dc0 dO_42 (by decide +kernel)
theorem dX3_readCost_14 : decode cX3_readCost 14 = .ok (.getfield 28, 3) := dcU2 dO_180 (by decide +kernel)
theorem dX3_readCost_17 : decode cX3_readCost 17 = .ok (.iload_n 3, 1) := dc0 dO_29 (by decide +kernel)
theorem dX3_readCost_18 : decode cX3_readCost 18 = .ok (.ifCond .lt 9, 3) := dcS2 dO_155 (by decide +kernel)
theorem dX3_readCost_21 : decode cX3_readCost 21 = .ok (.iload_n 3, 1) := dc0 dO_29 (by decide +kernel)
theorem dX3_readCost_22 : decode cX3_readCost 22 = .ok (.ldc 133, 2) := dcU1 dO_18 (by decide +kernel)
theorem dX3_readCost_24 : decode cX3_readCost 24 = .ok (.if_icmp .le 8, 3) := dcS2 dO_164 (by decide +kernel)
theorem dX3_readCost_27 : decode cX3_readCost 27 = .ok (.ldc 133, 2) := dcU1 dO_18 (by decide +kernel)
theorem dX3_readCost_29 : decode cX3_readCost 29 = .ok (.goto 4, 3) := dcS2 dO_167 (by decide +kernel)
theorem dX3_readCost_32 : decode cX3_readCost 32 = .ok (.iload_n 3, 1) := dc0 dO_29 (by decide +kernel)
theorem dX3_readCost_33 : decode cX3_readCost 33 = .ok (.putfield 134, 3) := dcU2 dO_181 (by decide +kernel)
theorem dX3_readCost_36 : decode cX3_readCost 36 = .ok (.iconst 1, 1) := dc0 dO_4 (by decide +kernel)
theorem dX3_readCost_37 : decode cX3_readCost 37 = .ok (.ireturn, 1) := dc0 dO_172 (by decide +kernel)
theorem dX3_readMarks_0 : decode cX3_readMarks 0 = .ok (.iload_n 2, 1) := dc0 dO_28 (by decide +kernel)
theorem dX3_readMarks_1 : decode cX3_readMarks 1 = .ok (.iconst 4, 1) := dc0 dO_7 (by decide +kernel)
theorem dX3_readMarks_2 : decode cX3_readMarks 2 = .ok (.irem, 1) := dc0 dO_112 (by decide +kernel)
theorem dX3_readMarks_3 : decode cX3_readMarks 3 = .ok (.ifCond .eq 5, 3) := dcS2 dO_153 (by decide +kernel)
theorem dX3_readMarks_6 : decode cX3_readMarks 6 = .ok (.iconst 0, 1) := dc0 dO_3 (by decide +kernel)
theorem dX3_readMarks_7 : decode cX3_readMarks 7 = .ok (.ireturn, 1) := dc0 dO_172 (by decide +kernel)
theorem dX3_readMarks_8 : decode cX3_readMarks 8 = .ok (.iload_n 1, 1) := dc0 dO_27 (by decide +kernel)
theorem dX3_readMarks_9 : decode cX3_readMarks 9 = .ok (.istore_n 3, 1) := dc0 dO_62 (by decide +kernel)
theorem dX3_readMarks_10 : decode cX3_readMarks 10 = .ok (.iload_n 3, 1) := dc0 dO_29 (by decide +kernel)
theorem dX3_readMarks_11 : decode cX3_readMarks 11 = .ok (.iload_n 1, 1) := dc0 dO_27 (by decide +kernel)
theorem dX3_readMarks_12 : decode cX3_readMarks 12 = .ok (.iload_n 2, 1) := dc0 dO_28 (by decide +kernel)
theorem dX3_readMarks_13 : decode cX3_readMarks 13 = .ok (.iadd, 1) := dc0 dO_96 (by decide +kernel)
theorem dX3_readMarks_14 : decode cX3_readMarks 14 = .ok (.if_icmp .ge 20, 3) := dcS2 dO_162 (by decide +kernel)
theorem dX3_readMarks_17 : decode cX3_readMarks 17 = .ok (.aload_n 0, 1) := dc0 dO_42 (by decide +kernel)
theorem dX3_readMarks_18 : decode cX3_readMarks 18 = .ok (.aload_n 0, 1) := dc0 dO_42 (by decide +kernel)
theorem dX3_readMarks_19 : decode cX3_readMarks 19 = .ok (.iload_n 3, 1) := dc0 dO_29 (by decide +kernel)
theorem dX3_readMarks_20 : decode cX3_readMarks 20 = .ok (.iconst 2, 1) := dc0 dO_5 (by decide +kernel)
theorem dX3_readMarks_21 : decode cX3_readMarks 21 = .ok (.iadd, 1) := dc0 dO_96 (by decide +kernel)
theorem dX3_readMarks_22 : decode cX3_readMarks 22 = .ok (.invokevirtual 88, 3) := dcU2 dO_182 (by decide +kernel)
theorem dX3_readMarks_25 : decode cX3_readMarks 25 = .ok (.invokevirtual 137, 3) := dcU2 dO_182 (by decide +kernel)
theorem dX3_readMarks_28 : decode cX3_readMarks 28 = .ok (.iinc 3 4, 3) := dcI dO_132 (by decide +kernel)
theorem dX3_readMarks_31 : decode cX3_readMarks 31 = .ok (.goto (-21), 3) := dcS2 dO_167 (by decide +kernel)
theorem dX3_readMarks_34 : decode cX3_readMarks 34 = .ok (.iconst 1, 1) := dc0 dO_4 (by decide +kernel)
theorem dX3_readMarks_35 : decode cX3_readMarks 35 = .ok (.ireturn, 1) := dc0 dO_172 (by decide +kernel)
theorem dX3_readOrigin_0 : decode cX3_readOrigin 0 = .ok (.iload_n 2, 1) := dc0 dO_28 (by decide +kernel)
theorem dX3_readOrigin_1 : decode cX3_readOrigin 1 = .ok (.iconst 1, 1) := dc0 dO_4 (by decide +kernel)
theorem dX3_readOrigin_2 : decode cX3_readOrigin 2 = .ok (.if_icmp .ne 13, 3) := dcS2 dO_160 (by decide +kernel)
theorem dX3_readOrigin_5 : decode cX3_readOrigin 5 = .ok (.aload_n 0, 1) := dc0 dO_42 (by decide +kernel)
theorem dX3_readOrigin_6 : decode cX3_readOrigin 6 = .ok (.getfield 41, 3) := dcU2 dO_180 (by decide +kernel)
theorem dX3_readOrigin_9 : decode cX3_readOrigin 9 = .ok (.iload_n 1, 1) := dc0 dO_27 (by decide +kernel)
theorem dX3_readOrigin_10 : decode cX3_readOrigin 10 = .ok (.iaload, 1) := dc0 dO_46 (by decide +kernel)
theorem dX3_readOrigin_11 : decode cX3_readOrigin 11 = .ok (.iconst 2, 1) := dc0 dO_5 (by decide +kernel)
theorem dX3_readOrigin_12 : decode cX3_readOrigin 12 = .ok (.if_icmp .le 5, 3) := dcS2 dO_164 (by decide +kernel)
theorem dX3_readOrigin_15 : decode cX3_readOrigin 15 = .ok (.iconst 0, 1) := dc0 dO_3 (by decide +kernel)
theorem dX3_readOrigin_16 : decode cX3_readOrigin 16 = .ok (.ireturn, 1) := dc0 dO_172 (by decide +kernel)
theorem dX3_readOrigin_17 : decode cX3_readOrigin 17 = .ok (.aload_n 0, 1) := dc0 dO_42 (by decide +kernel)
theorem dX3_readOrigin_18 : decode cX3_readOrigin 18 = .ok (.getfield 28, 3) := dcU2 dO_180 (by decide +kernel)
theorem dX3_readOrigin_21 : decode cX3_readOrigin 21 = .ok (.aload_n 0, 1) := dc0 dO_42 (by decide +kernel)
theorem dX3_readOrigin_22 : decode cX3_readOrigin 22 = .ok (.getfield 41, 3) := dcU2 dO_180 (by decide +kernel)
theorem dX3_readOrigin_25 : decode cX3_readOrigin 25 = .ok (.iload_n 1, 1) := dc0 dO_27 (by decide +kernel)
theorem dX3_readOrigin_26 : decode cX3_readOrigin 26 = .ok (.iaload, 1) := dc0 dO_46 (by decide +kernel)
theorem dX3_readOrigin_27 : decode cX3_readOrigin 27 = .ok (.putfield 127, 3) := dcU2 dO_181 (by decide +kernel)
theorem dX3_readOrigin_30 : decode cX3_readOrigin 30 = .ok (.iconst 1, 1) := dc0 dO_4 (by decide +kernel)
theorem dX3_readOrigin_31 : decode cX3_readOrigin 31 = .ok (.ireturn, 1) := dc0 dO_172 (by decide +kernel)
theorem dX3_readPrefixes_0 : decode cX3_readPrefixes 0 = .ok (.iload_n 1, 1) := dc0 dO_27 (by decide +kernel)
theorem dX3_readPrefixes_1 : decode cX3_readPrefixes 1 = .ok (.istore 4, 2) := dcU1 dO_54 (by decide +kernel)
theorem dX3_readPrefixes_3 : decode cX3_readPrefixes 3 = .ok (.iconst 0, 1) := dc0 dO_3 (by decide +kernel)
theorem dX3_readPrefixes_4 : decode cX3_readPrefixes 4 = .ok (.istore 5, 2) := dcU1 dO_54 (by decide +kernel)
theorem dX3_readPrefixes_6 : decode cX3_readPrefixes 6 = .ok (.iload 4, 2) := dcU1 dO_21 (by decide +kernel)
theorem dX3_readPrefixes_8 : decode cX3_readPrefixes 8 = .ok (.iload_n 2, 1) := dc0 dO_28 (by decide +kernel)
theorem dX3_readPrefixes_9 : decode cX3_readPrefixes 9 = .ok (.if_icmp .ge 148, 3) := dcS2 dO_162 (by decide +kernel)
theorem dX3_readPrefixes_12 : decode cX3_readPrefixes 12 = .ok (.aload_n 0, 1) := dc0 dO_42 (by decide +kernel)
theorem dX3_readPrefixes_13 : decode cX3_readPrefixes 13 = .ok (.getfield 41, 3) := dcU2 dO_180 (by decide +kernel)
theorem dX3_readPrefixes_16 : decode cX3_readPrefixes 16 = .ok (.iload 4, 2) := dcU1 dO_21 (by decide +kernel)
theorem dX3_readPrefixes_18 : decode cX3_readPrefixes 18 = .ok (.iaload, 1) := dc0 dO_46 (by decide +kernel)
theorem dX3_readPrefixes_19 : decode cX3_readPrefixes 19 = .ok (.istore 6, 2) := dcU1 dO_54 (by decide +kernel)
theorem dX3_readPrefixes_21 : decode cX3_readPrefixes 21 = .ok (.iload 6, 2) := dcU1 dO_21 (by decide +kernel)
theorem dX3_readPrefixes_23 : decode cX3_readPrefixes 23 = .ok (.bipush 7, 2) := dcS1 dO_16 (by decide +kernel)
theorem dX3_readPrefixes_25 : decode cX3_readPrefixes 25 = .ok (.iadd, 1) := dc0 dO_96 (by decide +kernel)
theorem dX3_readPrefixes_26 : decode cX3_readPrefixes 26 = .ok (.bipush 8, 2) := dcS1 dO_16 (by decide +kernel)
theorem dX3_readPrefixes_28 : decode cX3_readPrefixes 28 = .ok (.idiv, 1) := dc0 dO_108 (by decide +kernel)
theorem dX3_readPrefixes_29 : decode cX3_readPrefixes 29 = .ok (.istore 7, 2) := dcU1 dO_54 (by decide +kernel)
theorem dX3_readPrefixes_31 : decode cX3_readPrefixes 31 = .ok (.iload 6, 2) := dcU1 dO_21 (by decide +kernel)
theorem dX3_readPrefixes_33 : decode cX3_readPrefixes 33 = .ok (.bipush 32, 2) := dcS1 dO_16 (by decide +kernel)
theorem dX3_readPrefixes_35 : decode cX3_readPrefixes 35 = .ok (.if_icmp .gt 24, 3) := dcS2 dO_163 (by decide +kernel)
theorem dX3_readPrefixes_38 : decode cX3_readPrefixes 38 = .ok (.iload 4, 2) := dcU1 dO_21 (by decide +kernel)
theorem dX3_readPrefixes_40 : decode cX3_readPrefixes 40 = .ok (.iconst 1, 1) := dc0 dO_4 (by decide +kernel)
theorem dX3_readPrefixes_41 : decode cX3_readPrefixes 41 = .ok (.iadd, 1) := dc0 dO_96 (by decide +kernel)
theorem dX3_readPrefixes_42 : decode cX3_readPrefixes 42 = .ok (.iload 7, 2) := dcU1 dO_21 (by decide +kernel)
theorem dX3_readPrefixes_44 : decode cX3_readPrefixes 44 = .ok (.iadd, 1) := dc0 dO_96 (by decide +kernel)
theorem dX3_readPrefixes_45 : decode cX3_readPrefixes 45 = .ok (.iload_n 2, 1) := dc0 dO_28 (by decide +kernel)
theorem dX3_readPrefixes_46 : decode cX3_readPrefixes 46 = .ok (.if_icmp .gt 13, 3) := dcS2 dO_163 (by decide +kernel)
theorem dX3_readPrefixes_49 : decode cX3_readPrefixes 49 = .ok (.iload_n 3, 1) := dc0 dO_29 (by decide +kernel)
theorem dX3_readPrefixes_50 : decode cX3_readPrefixes 50 = .ok (.iload 5, 2) := dcU1 dO_21 (by decide +kernel)
theorem dX3_readPrefixes_52 : decode cX3_readPrefixes 52 = .ok (.iadd, 1) := dc0 dO_96 (by decide +kernel)
theorem dX3_readPrefixes_53 : decode cX3_readPrefixes 53 = .ok (.sipush 1000, 3) := dcS2 dO_17 (by decide +kernel)
theorem dX3_readPrefixes_56 : decode cX3_readPrefixes 56 = .ok (.if_icmp .lt 13, 3) := dcS2 dO_161 (by decide +kernel)
theorem dX3_readPrefixes_59 : decode cX3_readPrefixes 59 = .ok (.aload_n 0, 1) := dc0 dO_42 (by decide +kernel)
theorem dX3_readPrefixes_60 : decode cX3_readPrefixes 60 = .ok (.iconst 1, 1) := dc0 dO_4 (by decide +kernel)
theorem dX3_readPrefixes_61 : decode cX3_readPrefixes 61 = .ok (.iload 4, 2) := dcU1 dO_21 (by decide +kernel)
theorem dX3_readPrefixes_63 : decode cX3_readPrefixes 63 = .ok (.invokevirtual 92, 3) := dcU2 dO_182 (by decide +kernel)
theorem dX3_readPrefixes_66 : decode cX3_readPrefixes 66 = .ok (.iload 5, 2) := dcU1 dO_21 (by decide +kernel)
theorem dX3_readPrefixes_68 : decode cX3_readPrefixes 68 = .ok (.ireturn, 1) := dc0 dO_172 (by decide +kernel)
theorem dX3_readPrefixes_69 : decode cX3_readPrefixes 69 = .ok (.iconst 0, 1) := dc0 dO_3 (by decide +kernel)
theorem dX3_readPrefixes_70 : decode cX3_readPrefixes 70 = .ok (.istore 8, 2) := dcU1 dO_54 (by decide +kernel)
theorem dX3_readPrefixes_72 : decode cX3_readPrefixes 72 = .ok (.iconst 0, 1) := dc0 dO_3 (by decide +kernel)
theorem dX3_readPrefixes_73 : decode cX3_readPrefixes 73 = .ok (.istore 9, 2) := dcU1 dO_54 (by decide +kernel)
theorem dX3_readPrefixes_75 : decode cX3_readPrefixes 75 = .ok (.iload 9, 2) := dcU1 dO_21 (by decide +kernel)
theorem dX3_readPrefixes_77 : decode cX3_readPrefixes 77 = .ok (.iload 7, 2) := dcU1 dO_21 (by decide +kernel)
theorem dX3_readPrefixes_79 : decode cX3_readPrefixes 79 = .ok (.if_icmp .ge 35, 3) := dcS2 dO_162 (by decide +kernel)
theorem dX3_readPrefixes_82 : decode cX3_readPrefixes 82 = .ok (.iload 8, 2) := dcU1 dO_21 (by decide +kernel)
theorem dX3_readPrefixes_84 : decode cX3_readPrefixes 84 = .ok (.aload_n 0, 1) := dc0 dO_42 (by decide +kernel)
theorem dX3_readPrefixes_85 : decode cX3_readPrefixes 85 = .ok (.getfield 41, 3) := dcU2 dO_180 (by decide +kernel)
theorem dX3_readPrefixes_88 : decode cX3_readPrefixes 88 = .ok (.iload 4, 2) := dcU1 dO_21 (by decide +kernel)
theorem dX3_readPrefixes_90 : decode cX3_readPrefixes 90 = .ok (.iconst 1, 1) := dc0 dO_4 (by decide +kernel)
theorem dX3_readPrefixes_91 : decode cX3_readPrefixes 91 = .ok (.iadd, 1) := dc0 dO_96 (by decide +kernel)
theorem dX3_readPrefixes_92 : decode cX3_readPrefixes 92 = .ok (.iload 9, 2) := dcU1 dO_21 (by decide +kernel)
theorem dX3_readPrefixes_94 : decode cX3_readPrefixes 94 = .ok (.iadd, 1) := dc0 dO_96 (by decide +kernel)
theorem dX3_readPrefixes_95 : decode cX3_readPrefixes 95 = .ok (.iaload, 1) := dc0 dO_46 (by decide +kernel)
theorem dX3_readPrefixes_96 : decode cX3_readPrefixes 96 = .ok (.bipush 24, 2) := dcS1 dO_16 (by decide +kernel)
theorem dX3_readPrefixes_98 : decode cX3_readPrefixes 98 = .ok (.bipush 8, 2) := dcS1 dO_16 (by decide +kernel)
theorem dX3_readPrefixes_100 : decode cX3_readPrefixes 100 = .ok (.iload 9, 2) := dcU1 dO_21 (by decide +kernel)
theorem dX3_readPrefixes_102 : decode cX3_readPrefixes 102 = .ok (.imul, 1) := dc0 dO_104 (by decide +kernel)
theorem dX3_readPrefixes_103 : decode cX3_readPrefixes 103 = .ok (.isub, 1) := dc0 dO_100 (by decide +kernel)
theorem dX3_readPrefixes_104 : decode cX3_readPrefixes 104 = .ok (.ishl, 1) := dc0 dO_120 (by decide +kernel)
theorem dX3_readPrefixes_105 : decode cX3_readPrefixes 105 = .ok (.ior, 1) := dc0 dO_128 (by decide +kernel)
theorem dX3_readPrefixes_106 : decode cX3_readPrefixes 106 = .ok (.istore 8, 2) := dcU1 dO_54 (by decide +kernel)
theorem dX3_readPrefixes_108 : decode cX3_readPrefixes 108 = .ok (.iinc 9 1, 3) := dcI dO_132 (by decide +kernel)
theorem dX3_readPrefixes_111 : decode cX3_readPrefixes 111 = .ok (.goto (-36), 3) := dcS2 dO_167 (by decide +kernel)
theorem dX3_readPrefixes_114 : decode cX3_readPrefixes 114 = .ok (.aload_n 0, 1) := dc0 dO_42 (by decide +kernel)
theorem dX3_readPrefixes_115 : decode cX3_readPrefixes 115 = .ok (.getfield 32, 3) := dcU2 dO_180 (by decide +kernel)
theorem dX3_readPrefixes_118 : decode cX3_readPrefixes 118 = .ok (.iload_n 3, 1) := dc0 dO_29 (by decide +kernel)
theorem dX3_readPrefixes_119 : decode cX3_readPrefixes 119 = .ok (.iload 5, 2) := dcU1 dO_21 (by decide +kernel)
theorem dX3_readPrefixes_121 : decode cX3_readPrefixes 121 = .ok (.iadd, 1) := dc0 dO_96 (by decide +kernel)
theorem dX3_readPrefixes_122 : decode cX3_readPrefixes 122 = .ok (.iload 8, 2) := dcU1 dO_21 (by decide +kernel)
theorem dX3_readPrefixes_124 : decode cX3_readPrefixes 124 = .ok (.iload 6, 2) := dcU1 dO_21 (by decide +kernel)
theorem dX3_readPrefixes_126 : decode cX3_readPrefixes 126 = .ok (.invokestatic 102, 3) := dcU2 dO_184 (by decide +kernel)
theorem sfx_cX3_readPrefixes_128 : (cX3_readPrefixes.data.toList.drop 128).take 67 = [102, 126, 79, 42, 180, 0, 35, 29, 21, 5, 96, 21, 6, 79, 132, 5, 1, 21, 4, 4, 21, 7, 96, 96, 54, 4, 167, 255, 108, 21, 5, 172] := by decide +kernel
theorem dX3_readPrefixes_129 : decode cX3_readPrefixes 129 = .ok (.iand, 1) := dc0 dO_126 (rdB.ch sfx_cX3_readPrefixes_128 1 rfl (by decide +kernel))
theorem dX3_readPrefixes_130 : decode cX3_readPrefixes 130 = .ok (.iastore, 1) := dc0 dO_79 (rdB.ch sfx_cX3_readPrefixes_128 2 rfl (by decide +kernel))
theorem dX3_readPrefixes_131 : decode cX3_readPrefixes 131 = .ok (.aload_n 0, 1) := dc0 dO_42 (rdB.ch sfx_cX3_readPrefixes_128 3 rfl (by decide +kernel))
theorem dX3_readPrefixes_132 : decode cX3_readPrefixes 132 = .ok (.getfield 35, 3) := dcU2 dO_180 (rdU2.ch sfx_cX3_readPrefixes_128 4 rfl (by decide +kernel))
theorem dX3_readPrefixes_135 : decode cX3_readPrefixes 135 = .ok (.iload_n 3, 1) := dc0 dO_29 (rdB.ch sfx_cX3_readPrefixes_128 7 rfl (by decide +kernel))
theorem dX3_readPrefixes_136 : decode cX3_readPrefixes 136 = .ok (.iload 5, 2) := dcU1 dO_21 (rdU1.ch sfx_cX3_readPrefixes_128 8 rfl (by decide +kernel))
theorem dX3_readPrefixes_138 : decode cX3_readPrefixes 138 = .ok (.iadd, 1) := dc0 dO_96 (rdB.ch sfx_cX3_readPrefixes_128 10 rfl (by decide +kernel))
theorem dX3_readPrefixes_139 : decode cX3_readPrefixes 139 = .ok (.iload 6, 2) := dcU1 dO_21 (rdU1.ch sfx_cX3_readPrefixes_128 11 rfl (by decide +kernel))
theorem dX3_readPrefixes_141 : decode cX3_readPrefixes 141 = .ok (.iastore, 1) := dc0 dO_79 (rdB.ch sfx_cX3_readPrefixes_128 13 rfl (by decide +kernel))
theorem dX3_readPrefixes_142 : decode cX3_readPrefixes 142 = .ok (.iinc 5 1, 3) := dcI dO_132 (rdI.ch sfx_cX3_readPrefixes_128 14 rfl (by decide +kernel))
theorem dX3_readPrefixes_145 : decode cX3_readPrefixes 145 = .ok (.iload 4, 2) := dcU1 dO_21 (rdU1.ch sfx_cX3_readPrefixes_128 17 rfl (by decide +kernel))
theorem dX3_readPrefixes_147 : decode cX3_readPrefixes 147 = .ok (.iconst 1, 1) := dc0 dO_4 (rdB.ch sfx_cX3_readPrefixes_128 19 rfl (by decide +kernel))
theorem dX3_readPrefixes_148 : decode cX3_readPrefixes 148 = .ok (.iload 7, 2) := dcU1 dO_21 (rdU1.ch sfx_cX3_readPrefixes_128 20 rfl (by decide +kernel))
theorem dX3_readPrefixes_150 : decode cX3_readPrefixes 150 = .ok (.iadd, 1) := dc0 dO_96 (rdB.ch sfx_cX3_readPrefixes_128 22 rfl (by decide +kernel))
theorem dX3_readPrefixes_151 : decode cX3_readPrefixes 151 = .ok (.iadd, 1) := dc0 dO_96 (rdB.ch sfx_cX3_readPrefixes_128 23 rfl (by decide +kernel))
theorem dX3_readPrefixes_152 : decode cX3_readPrefixes 152 = .ok (.istore 4, 2) := dcU1 dO_54 (rdU1.ch sfx_cX3_readPrefixes_128 24 rfl (by decide +kernel))
theorem dX3_readPrefixes_154 : decode cX3_readPrefixes 154 = .ok (.goto (-148), 3) := dcS2 dO_167 (rdS2.ch sfx_cX3_readPrefixes_128 26 rfl (by decide +kernel))
theorem dX3_readPrefixes_157 : decode cX3_readPrefixes 157 = .ok (.iload 5, 2) := dcU1 dO_21 (rdU1.ch sfx_cX3_readPrefixes_128 29 rfl (by decide +kernel))
theorem dX3_readPrefixes_159 : decode cX3_readPrefixes 159 = .ok (.ireturn, 1) := dc0 dO_172 (rdB.ch sfx_cX3_readPrefixes_128 31 rfl (by decide +kernel))
theorem dX3_readWay_0 : decode cX3_readWay 0 = .ok (.iload_n 1, 1) := dc0 dO_27 (by decide +kernel)
theorem dX3_readWay_1 : decode cX3_readWay 1 = .ok (.iload_n 2, 1) := dc0 dO_28 (by decide +kernel)
theorem dX3_readWay_2 : decode cX3_readWay 2 = .ok (.iadd, 1) := dc0 dO_96 (by decide +kernel)
theorem dX3_readWay_3 : decode cX3_readWay 3 = .ok (.istore_n 3, 1) := dc0 dO_62 (by decide +kernel)
theorem dX3_readWay_4 : decode cX3_readWay 4 = .ok (.iload_n 1, 1) := dc0 dO_27 (by decide +kernel)
theorem dX3_readWay_5 : decode cX3_readWay 5 = .ok (.istore 4, 2) := dcU1 dO_54 (by decide +kernel)
theorem dX3_readWay_7 : decode cX3_readWay 7 = .ok (.iconst 0, 1) := dc0 dO_3 (by decide +kernel)
theorem dX3_readWay_8 : decode cX3_readWay 8 = .ok (.istore 5, 2) := dcU1 dO_54 (by decide +kernel)
theorem dX3_readWay_10 : decode cX3_readWay 10 = .ok (.iload 4, 2) := dcU1 dO_21 (by decide +kernel)
theorem dX3_readWay_12 : decode cX3_readWay 12 = .ok (.iload_n 3, 1) := dc0 dO_29 (by decide +kernel)
theorem dX3_readWay_13 : decode cX3_readWay 13 = .ok (.if_icmp .ge 164, 3) := dcS2 dO_162 (by decide +kernel)
theorem dX3_readWay_16 : decode cX3_readWay 16 = .ok (.iload 4, 2) := dcU1 dO_21 (by decide +kernel)
theorem dX3_readWay_18 : decode cX3_readWay 18 = .ok (.iconst 2, 1) := dc0 dO_5 (by decide +kernel)
theorem dX3_readWay_19 : decode cX3_readWay 19 = .ok (.iadd, 1) := dc0 dO_96 (by decide +kernel)
theorem dX3_readWay_20 : decode cX3_readWay 20 = .ok (.iload_n 3, 1) := dc0 dO_29 (by decide +kernel)
theorem dX3_readWay_21 : decode cX3_readWay 21 = .ok (.if_icmp .le 5, 3) := dcS2 dO_164 (by decide +kernel)
theorem dX3_readWay_24 : decode cX3_readWay 24 = .ok (.iconst 0, 1) := dc0 dO_3 (by decide +kernel)
theorem dX3_readWay_25 : decode cX3_readWay 25 = .ok (.ireturn, 1) := dc0 dO_172 (by decide +kernel)
theorem dX3_readWay_26 : decode cX3_readWay 26 = .ok (.aload_n 0, 1) := dc0 dO_42 (by decide +kernel)
theorem dX3_readWay_27 : decode cX3_readWay 27 = .ok (.getfield 41, 3) := dcU2 dO_180 (by decide +kernel)
theorem dX3_readWay_30 : decode cX3_readWay 30 = .ok (.iload 4, 2) := dcU1 dO_21 (by decide +kernel)
theorem dX3_readWay_32 : decode cX3_readWay 32 = .ok (.iaload, 1) := dc0 dO_46 (by decide +kernel)
theorem dX3_readWay_33 : decode cX3_readWay 33 = .ok (.istore 6, 2) := dcU1 dO_54 (by decide +kernel)
theorem dX3_readWay_35 : decode cX3_readWay 35 = .ok (.aload_n 0, 1) := dc0 dO_42 (by decide +kernel)
theorem dX3_readWay_36 : decode cX3_readWay 36 = .ok (.getfield 41, 3) := dcU2 dO_180 (by decide +kernel)
theorem dX3_readWay_39 : decode cX3_readWay 39 = .ok (.iload 4, 2) := dcU1 dO_21 (by decide +kernel)
theorem dX3_readWay_41 : decode cX3_readWay 41 = .ok (.iconst 1, 1) := dc0 dO_4 (by decide +kernel)
theorem dX3_readWay_42 : decode cX3_readWay 42 = .ok (.iadd, 1) := dc0 dO_96 (by decide +kernel)
theorem dX3_readWay_43 : decode cX3_readWay 43 = .ok (.iaload, 1) := dc0 dO_46 (by decide +kernel)
theorem dX3_readWay_44 : decode cX3_readWay 44 = .ok (.istore 7, 2) := dcU1 dO_54 (by decide +kernel)
theorem dX3_readWay_46 : decode cX3_readWay 46 = .ok (.iload 6, 2) := dcU1 dO_21 (by decide +kernel)
theorem dX3_readWay_48 : decode cX3_readWay 48 = .ok (.iconst 1, 1) := dc0 dO_4 (by decide +kernel)
theorem dX3_readWay_49 : decode cX3_readWay 49 = .ok (.if_icmp .lt 15, 3) := dcS2 dO_161 (by decide +kernel)
theorem dX3_readWay_52 : decode cX3_readWay 52 = .ok (.iload 6, 2) := dcU1 dO_21 (by decide +kernel)
theorem dX3_readWay_54 : decode cX3_readWay 54 = .ok (.iconst 2, 1) := dc0 dO_5 (by decide +kernel)
theorem dX3_readWay_55 : decode cX3_readWay 55 = .ok (.if_icmp .gt 9, 3) := dcS2 dO_163 (by decide +kernel)
theorem dX3_readWay_58 : decode cX3_readWay 58 = .ok (.iload 7, 2) := dcU1 dO_21 (by decide +kernel)
theorem dX3_readWay_60 : decode cX3_readWay 60 = .ok (.iconst 1, 1) := dc0 dO_4 (by decide +kernel)
theorem dX3_readWay_61 : decode cX3_readWay 61 = .ok (.if_icmp .ge 5, 3) := dcS2 dO_162 (by decide +kernel)
theorem dX3_readWay_64 : decode cX3_readWay 64 = .ok (.iconst 0, 1) := dc0 dO_3 (by decide +kernel)
theorem dX3_readWay_65 : decode cX3_readWay 65 = .ok (.ireturn, 1) := dc0 dO_172 (by decide +kernel)
theorem dX3_readWay_66 : decode cX3_readWay 66 = .ok (.iload 4, 2) := dcU1 dO_21 (by decide +kernel)
theorem dX3_readWay_68 : decode cX3_readWay 68 = .ok (.iconst 2, 1) := dc0 dO_5 (by decide +kernel)
theorem dX3_readWay_69 : decode cX3_readWay 69 = .ok (.iadd, 1) := dc0 dO_96 (by decide +kernel)
theorem dX3_readWay_70 : decode cX3_readWay 70 = .ok (.iconst 4, 1) := dc0 dO_7 (by decide +kernel)
theorem dX3_readWay_71 : decode cX3_readWay 71 = .ok (.iload 7, 2) := dcU1 dO_21 (by decide +kernel)
theorem dX3_readWay_73 : decode cX3_readWay 73 = .ok (.imul, 1) := dc0 dO_104 (by decide +kernel)
theorem dX3_readWay_74 : decode cX3_readWay 74 = .ok (.iadd, 1) := dc0 dO_96 (by decide +kernel)
theorem dX3_readWay_75 : decode cX3_readWay 75 = .ok (.iload_n 3, 1) := dc0 dO_29 (by decide +kernel)
theorem dX3_readWay_76 : decode cX3_readWay 76 = .ok (.if_icmp .gt 13, 3) := dcS2 dO_163 (by decide +kernel)
theorem dX3_readWay_79 : decode cX3_readWay 79 = .ok (.iload 5, 2) := dcU1 dO_21 (by decide +kernel)
theorem dX3_readWay_81 : decode cX3_readWay 81 = .ok (.iload 7, 2) := dcU1 dO_21 (by decide +kernel)
theorem dX3_readWay_83 : decode cX3_readWay 83 = .ok (.iadd, 1) := dc0 dO_96 (by decide +kernel)
theorem dX3_readWay_84 : decode cX3_readWay 84 = .ok (.bipush 20, 2) := dcS1 dO_16 (by decide +kernel)
theorem dX3_readWay_86 : decode cX3_readWay 86 = .ok (.if_icmp .le 5, 3) := dcS2 dO_164 (by decide +kernel)
theorem dX3_readWay_89 : decode cX3_readWay 89 = .ok (.iconst 0, 1) := dc0 dO_3 (by decide +kernel)
theorem dX3_readWay_90 : decode cX3_readWay 90 = .ok (.ireturn, 1) := dc0 dO_172 (by decide +kernel)
theorem dX3_readWay_91 : decode cX3_readWay 91 = .ok (.iconst 0, 1) := dc0 dO_3 (by decide +kernel)
theorem dX3_readWay_92 : decode cX3_readWay 92 = .ok (.istore 8, 2) := dcU1 dO_54 (by decide +kernel)
theorem dX3_readWay_94 : decode cX3_readWay 94 = .ok (.iload 8, 2) := dcU1 dO_21 (by decide +kernel)
theorem dX3_readWay_96 : decode cX3_readWay 96 = .ok (.iload 7, 2) := dcU1 dO_21 (by decide +kernel)
theorem dX3_readWay_98 : decode cX3_readWay 98 = .ok (.if_icmp .ge 35, 3) := dcS2 dO_162 (by decide +kernel)
theorem dX3_readWay_101 : decode cX3_readWay 101 = .ok (.aload_n 0, 1) := dc0 dO_42 (by decide +kernel)
theorem dX3_readWay_102 : decode cX3_readWay 102 = .ok (.getfield 28, 3) := dcU2 dO_180 (by decide +kernel)
theorem dX3_readWay_105 : decode cX3_readWay 105 = .ok (.getfield 140, 3) := dcU2 dO_180 (by decide +kernel)
theorem dX3_readWay_108 : decode cX3_readWay 108 = .ok (.iload 5, 2) := dcU1 dO_21 (by decide +kernel)
theorem dX3_readWay_110 : decode cX3_readWay 110 = .ok (.iload 8, 2) := dcU1 dO_21 (by decide +kernel)
theorem dX3_readWay_112 : decode cX3_readWay 112 = .ok (.iadd, 1) := dc0 dO_96 (by decide +kernel)
theorem dX3_readWay_113 : decode cX3_readWay 113 = .ok (.aload_n 0, 1) := dc0 dO_42 (by decide +kernel)
theorem dX3_readWay_114 : decode cX3_readWay 114 = .ok (.iload 4, 2) := dcU1 dO_21 (by decide +kernel)
theorem dX3_readWay_116 : decode cX3_readWay 116 = .ok (.iconst 2, 1) := dc0 dO_5 (by decide +kernel)
theorem dX3_readWay_117 : decode cX3_readWay 117 = .ok (.iadd, 1) := dc0 dO_96 (by decide +kernel)
theorem dX3_readWay_118 : decode cX3_readWay 118 = .ok (.iconst 4, 1) := dc0 dO_7 (by decide +kernel)
theorem dX3_readWay_119 : decode cX3_readWay 119 = .ok (.iload 8, 2) := dcU1 dO_21 (by decide +kernel)
theorem dX3_readWay_121 : decode cX3_readWay 121 = .ok (.imul, 1) := dc0 dO_104 (by decide +kernel)
theorem dX3_readWay_122 : decode cX3_readWay 122 = .ok (.iadd, 1) := dc0 dO_96 (by decide +kernel)
theorem dX3_readWay_123 : decode cX3_readWay 123 = .ok (.invokevirtual 130, 3) := dcU2 dO_182 (by decide +kernel)
theorem dX3_readWay_126 : decode cX3_readWay 126 = .ok (.iastore, 1) := dc0 dO_79 (by decide +kernel)
theorem dX3_readWay_127 : decode cX3_readWay 127 = .ok (.iinc 8 1, 3) := dcI dO_132 (by decide +kernel)
theorem sfx_cX3_readWay_128 : (cX3_readWay.data.toList.drop 128).take 67 = [8, 1, 167, 255, 220, 21, 6, 4, 160, 0, 20, 42, 180, 0, 28, 180, 0, 140, 21, 5, 21, 5, 21, 7, 96, 184, 0, 143, 21, 5, 21, 7, 96, 54, 5, 21, 4, 5, 7, 21, 7, 104, 96, 96, 54, 4, 167, 255, 92, 42, 180, 0, 28, 21, 5, 181, 0, 147, 4, 172] := by decide +kernel
theorem dX3_readWay_130 : decode cX3_readWay 130 = .ok (.goto (-36), 3) := dcS2 dO_167 (rdS2.ch sfx_cX3_readWay_128 2 rfl (by decide +kernel))
theorem dX3_readWay_133 : decode cX3_readWay 133 = .ok (.iload 6, 2) := dcU1 dO_21 (rdU1.ch sfx_cX3_readWay_128 5 rfl (by decide +kernel))
theorem dX3_readWay_135 : decode cX3_readWay 135 = .ok (.iconst 1, 1) := dc0 dO_4 (rdB.ch sfx_cX3_readWay_128 7 rfl (by decide +kernel))
theorem dX3_readWay_136 : decode cX3_readWay 136 = .ok (.if_icmp .ne 20, 3) := dcS2 dO_160 (rdS2.ch sfx_cX3_readWay_128 8 rfl (by decide +kernel))
theorem dX3_readWay_139 : decode cX3_readWay 139 = .ok (.aload_n 0, 1) := dc0 dO_42 (rdB.ch sfx_cX3_readWay_128 11 rfl (by decide +kernel))
theorem dX3_readWay_140 : decode cX3_readWay 140 = .ok (.getfield 28, 3) := dcU2 dO_180 (rdU2.ch sfx_cX3_readWay_128 12 rfl (by decide +kernel))
theorem dX3_readWay_143 : decode cX3_readWay 143 = .ok (.getfield 140, 3) := dcU2 dO_180 (rdU2.ch sfx_cX3_readWay_128 15 rfl (by decide +kernel))
theorem dX3_readWay_146 : decode cX3_readWay 146 = .ok (.iload 5, 2) := dcU1 dO_21 (rdU1.ch sfx_cX3_readWay_128 18 rfl (by decide +kernel))
theorem dX3_readWay_148 : decode cX3_readWay 148 = .ok (.iload 5, 2) := dcU1 dO_21 (rdU1.ch sfx_cX3_readWay_128 20 rfl (by decide +kernel))
theorem dX3_readWay_150 : decode cX3_readWay 150 = .ok (.iload 7, 2) := dcU1 dO_21 (rdU1.ch sfx_cX3_readWay_128 22 rfl (by decide +kernel))
theorem dX3_readWay_152 : decode cX3_readWay 152 = .ok (.iadd, 1) := dc0 dO_96 (rdB.ch sfx_cX3_readWay_128 24 rfl (by decide +kernel))
theorem dX3_readWay_153 : decode cX3_readWay 153 = .ok (.invokestatic 143, 3) := dcU2 dO_184 (rdU2.ch sfx_cX3_readWay_128 25 rfl (by decide +kernel))
theorem dX3_readWay_156 : decode cX3_readWay 156 = .ok (.iload 5, 2) := dcU1 dO_21 (rdU1.ch sfx_cX3_readWay_128 28 rfl (by decide +kernel))
theorem dX3_readWay_158 : decode cX3_readWay 158 = .ok (.iload 7, 2) := dcU1 dO_21 (rdU1.ch sfx_cX3_readWay_128 30 rfl (by decide +kernel))
theorem dX3_readWay_160 : decode cX3_readWay 160 = .ok (.iadd, 1) := dc0 dO_96 (rdB.ch sfx_cX3_readWay_128 32 rfl (by decide +kernel))
theorem dX3_readWay_161 : decode cX3_readWay 161 = .ok (.istore 5, 2) := dcU1 dO_54 (rdU1.ch sfx_cX3_readWay_128 33 rfl (by decide +kernel))
theorem dX3_readWay_163 : decode cX3_readWay 163 = .ok (.iload 4, 2) := dcU1 dO_21 (rdU1.ch sfx_cX3_readWay_128 35 rfl (by decide +kernel))
theorem dX3_readWay_165 : decode cX3_readWay 165 = .ok (.iconst 2, 1) := dc0 dO_5 (rdB.ch sfx_cX3_readWay_128 37 rfl (by decide +kernel))
theorem dX3_readWay_166 : decode cX3_readWay 166 = .ok (.iconst 4, 1) := dc0 dO_7 (rdB.ch sfx_cX3_readWay_128 38 rfl (by decide +kernel))
theorem dX3_readWay_167 : decode cX3_readWay 167 = .ok (.iload 7, 2) := dcU1 dO_21 (rdU1.ch sfx_cX3_readWay_128 39 rfl (by decide +kernel))
theorem dX3_readWay_169 : decode cX3_readWay 169 = .ok (.imul, 1) := dc0 dO_104 (rdB.ch sfx_cX3_readWay_128 41 rfl (by decide +kernel))
theorem dX3_readWay_170 : decode cX3_readWay 170 = .ok (.iadd, 1) := dc0 dO_96 (rdB.ch sfx_cX3_readWay_128 42 rfl (by decide +kernel))
theorem dX3_readWay_171 : decode cX3_readWay 171 = .ok (.iadd, 1) := dc0 dO_96 (rdB.ch sfx_cX3_readWay_128 43 rfl (by decide +kernel))
theorem dX3_readWay_172 : decode cX3_readWay 172 = .ok (.istore 4, 2) := dcU1 dO_54 (rdU1.ch sfx_cX3_readWay_128 44 rfl (by decide +kernel))
theorem dX3_readWay_174 : decode cX3_readWay 174 = .ok (.goto (-164), 3) := dcS2 dO_167 (rdS2.ch sfx_cX3_readWay_128 46 rfl (by decide +kernel))
theorem dX3_readWay_177 : decode cX3_readWay 177 = .ok (.aload_n 0, 1) := dc0 dO_42 (rdB.ch sfx_cX3_readWay_128 49 rfl (by decide +kernel))
theorem dX3_readWay_178 : decode cX3_readWay 178 = .ok (.getfield 28, 3) := dcU2 dO_180 (rdU2.ch sfx_cX3_readWay_128 50 rfl (by decide +kernel))
theorem dX3_readWay_181 : decode cX3_readWay 181 = .ok (.iload 5, 2) := dcU1 dO_21 (rdU1.ch sfx_cX3_readWay_128 53 rfl (by decide +kernel))
theorem dX3_readWay_183 : decode cX3_readWay 183 = .ok (.putfield 147, 3) := dcU2 dO_181 (rdU2.ch sfx_cX3_readWay_128 55 rfl (by decide +kernel))
theorem dX3_readWay_186 : decode cX3_readWay 186 = .ok (.iconst 1, 1) := dc0 dO_4 (rdB.ch sfx_cX3_readWay_128 58 rfl (by decide +kernel))
theorem dX3_readWay_187 : decode cX3_readWay 187 = .ok (.ireturn, 1) := dc0 dO_172 (rdB.ch sfx_cX3_readWay_128 59 rfl (by decide +kernel))
theorem dX8_compose_0 : decode cX8_compose 0 = .ok (.aload_n 1, 1) := dc0 dO_43 (by decide +kernel)
theorem dX8_compose_1 : decode cX8_compose 1 = .ok (.iload_n 3, 1) := dc0 dO_29 (by decide +kernel)
theorem dX8_compose_2 : decode cX8_compose 2 = .ok (.invokevirtual 86, 3) := dcU2 dO_182 (by decide +kernel)
theorem dX8_compose_5 : decode cX8_compose 5 = .ok (.istore 5, 2) := dcU1 dO_54 (by decide +kernel)
theorem dX8_compose_7 : decode cX8_compose 7 = .ok (.aload_n 0, 1) := dc0 dO_42 (by decide +kernel)
theorem dX8_compose_8 : decode cX8_compose 8 = .ok (.getfield 9, 3) := dcU2 dO_180 (by decide +kernel)
theorem dX8_compose_11 : decode cX8_compose 11 = .ok (.getfield 162, 3) := dcU2 dO_180 (by decide +kernel)
theorem dX8_compose_14 : decode cX8_compose 14 = .ok (.iload 5, 2) := dcU1 dO_21 (by decide +kernel)
theorem dX8_compose_16 : decode cX8_compose 16 = .ok (.aaload, 1) := dc0 dO_50 (by decide +kernel)
theorem dX8_compose_17 : decode cX8_compose 17 = .ok (.astore 6, 2) := dcU1 dO_58 (by decide +kernel)
theorem dX8_compose_19 : decode cX8_compose 19 = .ok (.aload_n 0, 1) := dc0 dO_42 (by decide +kernel)
theorem dX8_compose_20 : decode cX8_compose 20 = .ok (.getfield 49, 3) := dcU2 dO_180 (by decide +kernel)
theorem dX8_compose_23 : decode cX8_compose 23 = .ok (.aload 6, 2) := dcU1 dO_25 (by decide +kernel)
theorem dX8_compose_25 : decode cX8_compose 25 = .ok (.getfield 193, 3) := dcU2 dO_180 (by decide +kernel)
theorem dX8_compose_28 : decode cX8_compose 28 = .ok (.iload 4, 2) := dcU1 dO_21 (by decide +kernel)
theorem dX8_compose_30 : decode cX8_compose 30 = .ok (.aaload, 1) := dc0 dO_50 (by decide +kernel)
theorem dX8_compose_31 : decode cX8_compose 31 = .ok (.invokevirtual 106, 3) := dcU2 dO_182 (by decide +kernel)
theorem dX8_compose_34 : decode cX8_compose 34 = .ok (.aload_n 0, 1) := dc0 dO_42 (by decide +kernel)
theorem dX8_compose_35 : decode cX8_compose 35 = .ok (.getfield 49, 3) := dcU2 dO_180 (by decide +kernel)
theorem dX8_compose_38 : decode cX8_compose 38 = .ok (.bipush 100, 2) := dcS1 dO_16 (by decide +kernel)
theorem dX8_compose_40 : decode cX8_compose 40 = .ok (.putfield 260, 3) := dcU2 dO_181 (by decide +kernel)
theorem dX8_compose_43 : decode cX8_compose 43 = .ok (.aload 6, 2) := dcU1 dO_25 (by decide +kernel)
theorem dX8_compose_45 : decode cX8_compose 45 = .ok (.getfield 190, 3) := dcU2 dO_180 (by decide +kernel)
theorem dX8_compose_48 : decode cX8_compose 48 = .ok (.iload 4, 2) := dcU1 dO_21 (by decide +kernel)
theorem dX8_compose_50 : decode cX8_compose 50 = .ok (.iaload, 1) := dc0 dO_46 (by decide +kernel)
theorem dX8_compose_51 : decode cX8_compose 51 = .ok (.iload_n 2, 1) := dc0 dO_28 (by decide +kernel)
theorem dX8_compose_52 : decode cX8_compose 52 = .ok (.if_icmp .eq 16, 3) := dcS2 dO_159 (by decide +kernel)
theorem dX8_compose_55 : decode cX8_compose 55 = .ok (.aload_n 0, 1) := dc0 dO_42 (by decide +kernel)
theorem dX8_compose_56 : decode cX8_compose 56 = .ok (.getfield 49, 3) := dcU2 dO_180 (by decide +kernel)
theorem dX8_compose_59 : decode cX8_compose 59 = .ok (.iload 5, 2) := dcU1 dO_21 (by decide +kernel)
theorem dX8_compose_61 : decode cX8_compose 61 = .ok (.iconst 1, 1) := dc0 dO_4 (by decide +kernel)
theorem dX8_compose_62 : decode cX8_compose 62 = .ok (.invokevirtual 272, 3) := dcU2 dO_182 (by decide +kernel)
theorem dX8_compose_65 : decode cX8_compose 65 = .ok (.ifCond .ne 11, 3) := dcS2 dO_154 (by decide +kernel)
theorem dX8_compose_68 : decode cX8_compose 68 = .ok (.aload_n 0, 1) := dc0 dO_42 (by decide +kernel)
theorem dX8_compose_69 : decode cX8_compose 69 = .ok (.getfield 49, 3) := dcU2 dO_180 (by decide +kernel)
theorem dX8_compose_72 : decode cX8_compose 72 = .ok (.iconst 0, 1) := dc0 dO_3 (by decide +kernel)
theorem dX8_compose_73 : decode cX8_compose 73 = .ok (.putfield 203, 3) := dcU2 dO_181 (by decide +kernel)
theorem dX8_compose_76 : decode cX8_compose 76 = .ok (.return_, 1) := dc0 dO_177 (by decide +kernel)
theorem dX8_doNext_0 : decode cX8_doNext 0 = .ok (.aload_n 0, 1) := dc0 dO_42 (by decide +kernel)
theorem dX8_doNext_1 : decode cX8_doNext 1 = .ok (.getfield 52, 3) := dcU2 dO_180 (by decide +kernel)
theorem dX8_doNext_4 : decode cX8_doNext 4 = .ok (.ifCond .eq 18, 3) := dcS2 dO_153 (by decide +kernel)
theorem dX8_doNext_7 : decode cX8_doNext 7 = .ok (.aload_n 0, 1) := dc0 dO_42 (by decide +kernel)
theorem dX8_doNext_8 : decode cX8_doNext 8 = .ok (.getfield 23, 3) := dcU2 dO_180 (by decide +kernel)
theorem dX8_doNext_11 : decode cX8_doNext 11 = .ok (.aload_n 0, 1) := dc0 dO_42 (by decide +kernel)
theorem dX8_doNext_12 : decode cX8_doNext 12 = .ok (.getfield 19, 3) := dcU2 dO_180 (by decide +kernel)
theorem dX8_doNext_15 : decode cX8_doNext 15 = .ok (.iconst 0, 1) := dc0 dO_3 (by decide +kernel)
theorem dX8_doNext_16 : decode cX8_doNext 16 = .ok (.iaload, 1) := dc0 dO_46 (by decide +kernel)
theorem dX8_doNext_17 : decode cX8_doNext 17 = .ok (.iaload, 1) := dc0 dO_46 (by decide +kernel)
theorem dX8_doNext_18 : decode cX8_doNext 18 = .ok (.iload_n 1, 1) := dc0 dO_27 (by decide +kernel)
theorem dX8_doNext_19 : decode cX8_doNext 19 = .ok (.if_icmp .le 5, 3) := dcS2 dO_164 (by decide +kernel)
theorem dX8_doNext_22 : decode cX8_doNext 22 = .ok (.iconst 0, 1) := dc0 dO_3 (by decide +kernel)
theorem dX8_doNext_23 : decode cX8_doNext 23 = .ok (.ireturn, 1) := dc0 dO_172 (by decide +kernel)
theorem dX8_doNext_24 : decode cX8_doNext 24 = .ok (.aload_n 0, 1) := dc0 dO_42 (by decide +kernel)
theorem dX8_doNext_25 : decode cX8_doNext 25 = .ok (.getfield 19, 3) := dcU2 dO_180 (by decide +kernel)
theorem dX8_doNext_28 : decode cX8_doNext 28 = .ok (.iconst 0, 1) := dc0 dO_3 (by decide +kernel)
theorem dX8_doNext_29 : decode cX8_doNext 29 = .ok (.iaload, 1) := dc0 dO_46 (by decide +kernel)
theorem dX8_doNext_30 : decode cX8_doNext 30 = .ok (.istore_n 2, 1) := dc0 dO_61 (by decide +kernel)
theorem dX8_doNext_31 : decode cX8_doNext 31 = .ok (.aload_n 0, 1) := dc0 dO_42 (by decide +kernel)
theorem dX8_doNext_32 : decode cX8_doNext 32 = .ok (.aload_n 0, 1) := dc0 dO_42 (by decide +kernel)
theorem dX8_doNext_33 : decode cX8_doNext 33 = .ok (.getfield 23, 3) := dcU2 dO_180 (by decide +kernel)
theorem dX8_doNext_36 : decode cX8_doNext 36 = .ok (.iload_n 2, 1) := dc0 dO_28 (by decide +kernel)
theorem dX8_doNext_37 : decode cX8_doNext 37 = .ok (.iaload, 1) := dc0 dO_46 (by decide +kernel)
theorem dX8_doNext_38 : decode cX8_doNext 38 = .ok (.putfield 62, 3) := dcU2 dO_181 (by decide +kernel)
theorem dX8_doNext_41 : decode cX8_doNext 41 = .ok (.aload_n 0, 1) := dc0 dO_42 (by decide +kernel)
theorem dX8_doNext_42 : decode cX8_doNext 42 = .ok (.iload_n 2, 1) := dc0 dO_28 (by decide +kernel)
theorem dX8_doNext_43 : decode cX8_doNext 43 = .ok (.invokevirtual 65, 3) := dcU2 dO_182 (by decide +kernel)
theorem dX8_doNext_46 : decode cX8_doNext 46 = .ok (.aload_n 0, 1) := dc0 dO_42 (by decide +kernel)
theorem dX8_doNext_47 : decode cX8_doNext 47 = .ok (.dup, 1) := dc0 dO_89 (by decide +kernel)
theorem dX8_doNext_48 : decode cX8_doNext 48 = .ok (.getfield 69, 3) := dcU2 dO_180 (by decide +kernel)
theorem dX8_doNext_51 : decode cX8_doNext 51 = .ok (.iconst 1, 1) := dc0 dO_4 (by decide +kernel)
theorem dX8_doNext_52 : decode cX8_doNext 52 = .ok (.iadd, 1) := dc0 dO_96 (by decide +kernel)
theorem dX8_doNext_53 : decode cX8_doNext 53 = .ok (.putfield 69, 3) := dcU2 dO_181 (by decide +kernel)
theorem dX8_doNext_56 : decode cX8_doNext 56 = .ok (.iload_n 2, 1) := dc0 dO_28 (by decide +kernel)
theorem dX8_doNext_57 : decode cX8_doNext 57 = .ok (.iconst 2, 1) := dc0 dO_5 (by decide +kernel)
theorem dX8_doNext_58 : decode cX8_doNext 58 = .ok (.idiv, 1) := dc0 dO_108 (by decide +kernel)
theorem dX8_doNext_59 : decode cX8_doNext 59 = .ok (.bipush 10, 2) := dcS1 dO_16 (by decide +kernel)
theorem dX8_doNext_61 : decode cX8_doNext 61 = .ok (.irem, 1) := dc0 dO_112 (by decide +kernel)
theorem dX8_doNext_62 : decode cX8_doNext 62 = .ok (.istore_n 3, 1) := dc0 dO_62 (by decide +kernel)
theorem dX8_doNext_63 : decode cX8_doNext 63 = .ok (.iload_n 2, 1) := dc0 dO_28 (by decide +kernel)
theorem dX8_doNext_64 : decode cX8_doNext 64 = .ok (.iconst 2, 1) := dc0 dO_5 (by decide +kernel)
theorem dX8_doNext_65 : decode cX8_doNext 65 = .ok (.idiv, 1) := dc0 dO_108 (by decide +kernel)
theorem dX8_doNext_66 : decode cX8_doNext 66 = .ok (.bipush 10, 2) := dcS1 dO_16 (by decide +kernel)
theorem dX8_doNext_68 : decode cX8_doNext 68 = .ok (.idiv, 1) := dc0 dO_108 (by decide +kernel)
theorem dX8_doNext_69 : decode cX8_doNext 69 = .ok (.iconst 2, 1) := dc0 dO_5 (by decide +kernel)
theorem dX8_doNext_70 : decode cX8_doNext 70 = .ok (.irem, 1) := dc0 dO_112 (by decide +kernel)
theorem dX8_doNext_71 : decode cX8_doNext 71 = .ok (.istore 4, 2) := dcU1 dO_54 (by decide +kernel)
theorem dX8_doNext_73 : decode cX8_doNext 73 = .ok (.iload_n 2, 1) := dc0 dO_28 (by decide +kernel)
theorem dX8_doNext_74 : decode cX8_doNext 74 = .ok (.iconst 2, 1) := dc0 dO_5 (by decide +kernel)
theorem dX8_doNext_75 : decode cX8_doNext 75 = .ok (.idiv, 1) := dc0 dO_108 (by decide +kernel)
theorem dX8_doNext_76 : decode cX8_doNext 76 = .ok (.bipush 10, 2) := dcS1 dO_16 (by decide +kernel)
theorem dX8_doNext_78 : decode cX8_doNext 78 = .ok (.idiv, 1) := dc0 dO_108 (by decide +kernel)
theorem dX8_doNext_79 : decode cX8_doNext 79 = .ok (.iconst 2, 1) := dc0 dO_5 (by decide +kernel)
theorem dX8_doNext_80 : decode cX8_doNext 80 = .ok (.idiv, 1) := dc0 dO_108 (by decide +kernel)
theorem dX8_doNext_81 : decode cX8_doNext 81 = .ok (.istore 5, 2) := dcU1 dO_54 (by decide +kernel)
theorem dX8_doNext_83 : decode cX8_doNext 83 = .ok (.iload_n 2, 1) := dc0 dO_28 (by decide +kernel)
theorem dX8_doNext_84 : decode cX8_doNext 84 = .ok (.iconst 2, 1) := dc0 dO_5 (by decide +kernel)
theorem dX8_doNext_85 : decode cX8_doNext 85 = .ok (.irem, 1) := dc0 dO_112 (by decide +kernel)
theorem dX8_doNext_86 : decode cX8_doNext 86 = .ok (.iconst 1, 1) := dc0 dO_4 (by decide +kernel)
theorem dX8_doNext_87 : decode cX8_doNext 87 = .ok (.if_icmp .ne 15, 3) := dcS2 dO_160 (by decide +kernel)
theorem dX8_doNext_90 : decode cX8_doNext 90 = .ok (.aload_n 0, 1) := dc0 dO_42 (by decide +kernel)
theorem dX8_doNext_91 : decode cX8_doNext 91 = .ok (.iload 5, 2) := dcU1 dO_21 (by decide +kernel)
theorem dX8_doNext_93 : decode cX8_doNext 93 = .ok (.iload 4, 2) := dcU1 dO_21 (by decide +kernel)
theorem dX8_doNext_95 : decode cX8_doNext 95 = .ok (.iload_n 3, 1) := dc0 dO_29 (by decide +kernel)
theorem dX8_doNext_96 : decode cX8_doNext 96 = .ok (.invokevirtual 72, 3) := dcU2 dO_182 (by decide +kernel)
theorem dX8_doNext_99 : decode cX8_doNext 99 = .ok (.goto 42, 3) := dcS2 dO_167 (by decide +kernel)
theorem dX8_doNext_102 : decode cX8_doNext 102 = .ok (.aload_n 0, 1) := dc0 dO_42 (by decide +kernel)
theorem dX8_doNext_103 : decode cX8_doNext 103 = .ok (.aload_n 0, 1) := dc0 dO_42 (by decide +kernel)
theorem dX8_doNext_104 : decode cX8_doNext 104 = .ok (.getfield 9, 3) := dcU2 dO_180 (by decide +kernel)
theorem dX8_doNext_107 : decode cX8_doNext 107 = .ok (.getfield 76, 3) := dcU2 dO_180 (by decide +kernel)
theorem dX8_doNext_110 : decode cX8_doNext 110 = .ok (.iload 5, 2) := dcU1 dO_21 (by decide +kernel)
theorem dX8_doNext_112 : decode cX8_doNext 112 = .ok (.aaload, 1) := dc0 dO_50 (by decide +kernel)
theorem dX8_doNext_113 : decode cX8_doNext 113 = .ok (.iload 4, 2) := dcU1 dO_21 (by decide +kernel)
theorem dX8_doNext_115 : decode cX8_doNext 115 = .ok (.iload_n 3, 1) := dc0 dO_29 (by decide +kernel)
theorem dX8_doNext_116 : decode cX8_doNext 116 = .ok (.invokevirtual 82, 3) := dcU2 dO_182 (by decide +kernel)
theorem dX8_doNext_119 : decode cX8_doNext 119 = .ok (.aload_n 0, 1) := dc0 dO_42 (by decide +kernel)
theorem dX8_doNext_120 : decode cX8_doNext 120 = .ok (.aload_n 0, 1) := dc0 dO_42 (by decide +kernel)
theorem dX8_doNext_121 : decode cX8_doNext 121 = .ok (.getfield 9, 3) := dcU2 dO_180 (by decide +kernel)
theorem dX8_doNext_124 : decode cX8_doNext 124 = .ok (.getfield 76, 3) := dcU2 dO_180 (by decide +kernel)
theorem dX8_doNext_127 : decode cX8_doNext 127 = .ok (.iload 5, 2) := dcU1 dO_21 (by decide +kernel)
theorem sfx_cX8_doNext_128 : (cX8_doNext.data.toList.drop 128).take 67 = [5, 50, 4, 21, 4, 100, 182, 0, 86, 29, 182, 0, 92, 4, 172] := by decide +kernel
theorem dX8_doNext_129 : decode cX8_doNext 129 = .ok (.aaload, 1) := dc0 dO_50 (rdB.ch sfx_cX8_doNext_128 1 rfl (by decide +kernel))
theorem dX8_doNext_130 : decode cX8_doNext 130 = .ok (.iconst 1, 1) := dc0 dO_4 (rdB.ch sfx_cX8_doNext_128 2 rfl (by decide +kernel))
theorem dX8_doNext_131 : decode cX8_doNext 131 = .ok (.iload 4, 2) := dcU1 dO_21 (rdU1.ch sfx_cX8_doNext_128 3 rfl (by decide +kernel))
theorem dX8_doNext_133 : decode cX8_doNext 133 = .ok (.isub, 1) := dc0 dO_100 (rdB.ch sfx_cX8_doNext_128 5 rfl (by decide +kernel))
theorem dX8_doNext_134 : decode cX8_doNext 134 = .ok (.invokevirtual 86, 3) := dcU2 dO_182 (rdU2.ch sfx_cX8_doNext_128 6 rfl (by decide +kernel))
theorem dX8_doNext_137 : decode cX8_doNext 137 = .ok (.iload_n 3, 1) := dc0 dO_29 (rdB.ch sfx_cX8_doNext_128 9 rfl (by decide +kernel))
theorem dX8_doNext_138 : decode cX8_doNext 138 = .ok (.invokevirtual 92, 3) := dcU2 dO_182 (rdU2.ch sfx_cX8_doNext_128 10 rfl (by decide +kernel))
theorem dX8_doNext_141 : decode cX8_doNext 141 = .ok (.iconst 1, 1) := dc0 dO_4 (rdB.ch sfx_cX8_doNext_128 13 rfl (by decide +kernel))
theorem dX8_doNext_142 : decode cX8_doNext 142 = .ok (.ireturn, 1) := dc0 dO_172 (rdB.ch sfx_cX8_doNext_128 14 rfl (by decide +kernel))
theorem dX8_gather_0 : decode cX8_gather 0 = .ok (.aload_n 0, 1) := dc0 dO_42 (by decide +kernel)
theorem dX8_gather_1 : decode cX8_gather 1 = .ok (.iconst 0, 1) := dc0 dO_3 (by decide +kernel)
theorem dX8_gather_2 : decode cX8_gather 2 = .ok (.putfield 200, 3) := dcU2 dO_181 (by decide +kernel)
theorem dX8_gather_5 : decode cX8_gather 5 = .ok (.iconst 0, 1) := dc0 dO_3 (by decide +kernel)
theorem dX8_gather_6 : decode cX8_gather 6 = .ok (.istore_n 3, 1) := dc0 dO_62 (by decide +kernel)
theorem dX8_gather_7 : decode cX8_gather 7 = .ok (.iload_n 3, 1) := dc0 dO_29 (by decide +kernel)
theorem dX8_gather_8 : decode cX8_gather 8 = .ok (.aload_n 0, 1) := dc0 dO_42 (by decide +kernel)
theorem dX8_gather_9 : decode cX8_gather 9 = .ok (.getfield 9, 3) := dcU2 dO_180 (by decide +kernel)
theorem dX8_gather_12 : decode cX8_gather 12 = .ok (.getfield 153, 3) := dcU2 dO_180 (by decide +kernel)
theorem dX8_gather_15 : decode cX8_gather 15 = .ok (.if_icmp .ge 173, 3) := dcS2 dO_162 (by decide +kernel)
theorem dX8_gather_18 : decode cX8_gather 18 = .ok (.aload_n 0, 1) := dc0 dO_42 (by decide +kernel)
theorem dX8_gather_19 : decode cX8_gather 19 = .ok (.getfield 9, 3) := dcU2 dO_180 (by decide +kernel)
theorem dX8_gather_22 : decode cX8_gather 22 = .ok (.getfield 76, 3) := dcU2 dO_180 (by decide +kernel)
theorem dX8_gather_25 : decode cX8_gather 25 = .ok (.iload_n 3, 1) := dc0 dO_29 (by decide +kernel)
theorem dX8_gather_26 : decode cX8_gather 26 = .ok (.aaload, 1) := dc0 dO_50 (by decide +kernel)
theorem dX8_gather_27 : decode cX8_gather 27 = .ok (.astore 4, 2) := dcU1 dO_58 (by decide +kernel)
theorem dX8_gather_29 : decode cX8_gather 29 = .ok (.aload 4, 2) := dcU1 dO_25 (by decide +kernel)
theorem dX8_gather_31 : decode cX8_gather 31 = .ok (.iload_n 1, 1) := dc0 dO_27 (by decide +kernel)
theorem dX8_gather_32 : decode cX8_gather 32 = .ok (.invokevirtual 156, 3) := dcU2 dO_182 (by decide +kernel)
theorem dX8_gather_35 : decode cX8_gather 35 = .ok (.istore 5, 2) := dcU1 dO_54 (by decide +kernel)
theorem dX8_gather_37 : decode cX8_gather 37 = .ok (.iload 5, 2) := dcU1 dO_21 (by decide +kernel)
theorem dX8_gather_39 : decode cX8_gather 39 = .ok (.ifCond .lt 143, 3) := dcS2 dO_155 (by decide +kernel)
theorem dX8_gather_42 : decode cX8_gather 42 = .ok (.aload 4, 2) := dcU1 dO_25 (by decide +kernel)
theorem dX8_gather_44 : decode cX8_gather 44 = .ok (.getfield 136, 3) := dcU2 dO_180 (by decide +kernel)
theorem dX8_gather_47 : decode cX8_gather 47 = .ok (.ifCond .eq 135, 3) := dcS2 dO_153 (by decide +kernel)
theorem dX8_gather_50 : decode cX8_gather 50 = .ok (.aload_n 0, 1) := dc0 dO_42 (by decide +kernel)
theorem dX8_gather_51 : decode cX8_gather 51 = .ok (.getfield 200, 3) := dcU2 dO_180 (by decide +kernel)
theorem dX8_gather_54 : decode cX8_gather 54 = .ok (.bipush 10, 2) := dcS1 dO_16 (by decide +kernel)
theorem dX8_gather_56 : decode cX8_gather 56 = .ok (.if_icmp .lt 6, 3) := dcS2 dO_161 (by decide +kernel)
theorem dX8_gather_59 : decode cX8_gather 59 = .ok (.goto 123, 3) := dcS2 dO_167 (by decide +kernel)
theorem dX8_gather_62 : decode cX8_gather 62 = .ok (.aload 4, 2) := dcU1 dO_25 (by decide +kernel)
theorem dX8_gather_64 : decode cX8_gather 64 = .ok (.getfield 96, 3) := dcU2 dO_180 (by decide +kernel)
theorem dX8_gather_67 : decode cX8_gather 67 = .ok (.iload 5, 2) := dcU1 dO_21 (by decide +kernel)
theorem dX8_gather_69 : decode cX8_gather 69 = .ok (.iload_n 2, 1) := dc0 dO_28 (by decide +kernel)
theorem dX8_gather_70 : decode cX8_gather 70 = .ok (.invokestatic 99, 3) := dcU2 dO_184 (by decide +kernel)
theorem dX8_gather_73 : decode cX8_gather 73 = .ok (.aaload, 1) := dc0 dO_50 (by decide +kernel)
theorem dX8_gather_74 : decode cX8_gather 74 = .ok (.astore 6, 2) := dcU1 dO_58 (by decide +kernel)
theorem dX8_gather_76 : decode cX8_gather 76 = .ok (.aload 6, 2) := dcU1 dO_25 (by decide +kernel)
theorem dX8_gather_78 : decode cX8_gather 78 = .ok (.getfield 203, 3) := dcU2 dO_180 (by decide +kernel)
theorem dX8_gather_81 : decode cX8_gather 81 = .ok (.ifCond .eq 101, 3) := dcS2 dO_153 (by decide +kernel)
theorem dX8_gather_84 : decode cX8_gather 84 = .ok (.aload 6, 2) := dcU1 dO_25 (by decide +kernel)
theorem dX8_gather_86 : decode cX8_gather 86 = .ok (.iload_n 1, 1) := dc0 dO_27 (by decide +kernel)
theorem dX8_gather_87 : decode cX8_gather 87 = .ok (.invokevirtual 206, 3) := dcU2 dO_182 (by decide +kernel)
theorem dX8_gather_90 : decode cX8_gather 90 = .ok (.ifCond .eq 6, 3) := dcS2 dO_153 (by decide +kernel)
theorem dX8_gather_93 : decode cX8_gather 93 = .ok (.goto 89, 3) := dcS2 dO_167 (by decide +kernel)
theorem dX8_gather_96 : decode cX8_gather 96 = .ok (.aload_n 0, 1) := dc0 dO_42 (by decide +kernel)
theorem dX8_gather_97 : decode cX8_gather 97 = .ok (.getfield 34, 3) := dcU2 dO_180 (by decide +kernel)
theorem dX8_gather_100 : decode cX8_gather 100 = .ok (.aload_n 0, 1) := dc0 dO_42 (by decide +kernel)
theorem dX8_gather_101 : decode cX8_gather 101 = .ok (.getfield 200, 3) := dcU2 dO_180 (by decide +kernel)
theorem dX8_gather_104 : decode cX8_gather 104 = .ok (.aaload, 1) := dc0 dO_50 (by decide +kernel)
theorem dX8_gather_105 : decode cX8_gather 105 = .ok (.astore 7, 2) := dcU1 dO_58 (by decide +kernel)
theorem dX8_gather_107 : decode cX8_gather 107 = .ok (.aload 7, 2) := dcU1 dO_25 (by decide +kernel)
theorem dX8_gather_109 : decode cX8_gather 109 = .ok (.aload 6, 2) := dcU1 dO_25 (by decide +kernel)
theorem dX8_gather_111 : decode cX8_gather 111 = .ok (.invokevirtual 106, 3) := dcU2 dO_182 (by decide +kernel)
theorem dX8_gather_114 : decode cX8_gather 114 = .ok (.aload 7, 2) := dcU1 dO_25 (by decide +kernel)
theorem dX8_gather_116 : decode cX8_gather 116 = .ok (.aload 6, 2) := dcU1 dO_25 (by decide +kernel)
theorem dX8_gather_118 : decode cX8_gather 118 = .ok (.getfield 110, 3) := dcU2 dO_180 (by decide +kernel)
theorem dX8_gather_121 : decode cX8_gather 121 = .ok (.putfield 110, 3) := dcU2 dO_181 (by decide +kernel)
theorem dX8_gather_124 : decode cX8_gather 124 = .ok (.aload 7, 2) := dcU1 dO_25 (by decide +kernel)
theorem dX8_gather_126 : decode cX8_gather 126 = .ok (.iload_n 3, 1) := dc0 dO_29 (by decide +kernel)
theorem dX8_gather_127 : decode cX8_gather 127 = .ok (.putfield 188, 3) := dcU2 dO_181 (by decide +kernel)
theorem sfx_cX8_gather_128 : (cX8_gather.data.toList.drop 128).take 67 = [0, 188, 25, 7, 25, 4, 4, 21, 5, 100, 182, 0, 86, 181, 0, 210, 42, 180, 0, 15, 25, 4, 180, 0, 213, 21, 5, 5, 104, 3, 96, 46, 25, 7, 25, 4, 21, 5, 182, 0, 216, 153, 0, 13, 42, 89, 180, 0, 200, 4, 96, 181, 0, 200, 132, 3, 1, 167, 255, 78, 177] := by decide +kernel
theorem dX8_gather_130 : decode cX8_gather 130 = .ok (.aload 7, 2) := dcU1 dO_25 (rdU1.ch sfx_cX8_gather_128 2 rfl (by decide +kernel))
theorem dX8_gather_132 : decode cX8_gather 132 = .ok (.aload 4, 2) := dcU1 dO_25 (rdU1.ch sfx_cX8_gather_128 4 rfl (by decide +kernel))
theorem dX8_gather_134 : decode cX8_gather 134 = .ok (.iconst 1, 1) := dc0 dO_4 (rdB.ch sfx_cX8_gather_128 6 rfl (by decide +kernel))
theorem dX8_gather_135 : decode cX8_gather 135 = .ok (.iload 5, 2) := dcU1 dO_21 (rdU1.ch sfx_cX8_gather_128 7 rfl (by decide +kernel))
theorem dX8_gather_137 : decode cX8_gather 137 = .ok (.isub, 1) := dc0 dO_100 (rdB.ch sfx_cX8_gather_128 9 rfl (by decide +kernel))
theorem dX8_gather_138 : decode cX8_gather 138 = .ok (.invokevirtual 86, 3) := dcU2 dO_182 (rdU2.ch sfx_cX8_gather_128 10 rfl (by decide +kernel))
theorem dX8_gather_141 : decode cX8_gather 141 = .ok (.putfield 210, 3) := dcU2 dO_181 (rdU2.ch sfx_cX8_gather_128 13 rfl (by decide +kernel))
theorem dX8_gather_144 : decode cX8_gather 144 = .ok (.aload_n 0, 1) := dc0 dO_42 (rdB.ch sfx_cX8_gather_128 16 rfl (by decide +kernel))
theorem dX8_gather_145 : decode cX8_gather 145 = .ok (.getfield 15, 3) := dcU2 dO_180 (rdU2.ch sfx_cX8_gather_128 17 rfl (by decide +kernel))
theorem dX8_gather_148 : decode cX8_gather 148 = .ok (.aload 4, 2) := dcU1 dO_25 (rdU1.ch sfx_cX8_gather_128 20 rfl (by decide +kernel))
theorem dX8_gather_150 : decode cX8_gather 150 = .ok (.getfield 213, 3) := dcU2 dO_180 (rdU2.ch sfx_cX8_gather_128 22 rfl (by decide +kernel))
theorem dX8_gather_153 : decode cX8_gather 153 = .ok (.iload 5, 2) := dcU1 dO_21 (rdU1.ch sfx_cX8_gather_128 25 rfl (by decide +kernel))
theorem dX8_gather_155 : decode cX8_gather 155 = .ok (.iconst 2, 1) := dc0 dO_5 (rdB.ch sfx_cX8_gather_128 27 rfl (by decide +kernel))
theorem dX8_gather_156 : decode cX8_gather 156 = .ok (.imul, 1) := dc0 dO_104 (rdB.ch sfx_cX8_gather_128 28 rfl (by decide +kernel))
theorem dX8_gather_157 : decode cX8_gather 157 = .ok (.iconst 0, 1) := dc0 dO_3 (rdB.ch sfx_cX8_gather_128 29 rfl (by decide +kernel))
theorem dX8_gather_158 : decode cX8_gather 158 = .ok (.iadd, 1) := dc0 dO_96 (rdB.ch sfx_cX8_gather_128 30 rfl (by decide +kernel))
theorem dX8_gather_159 : decode cX8_gather 159 = .ok (.iaload, 1) := dc0 dO_46 (rdB.ch sfx_cX8_gather_128 31 rfl (by decide +kernel))
theorem dX8_gather_160 : decode cX8_gather 160 = .ok (.aload 7, 2) := dcU1 dO_25 (rdU1.ch sfx_cX8_gather_128 32 rfl (by decide +kernel))
theorem dX8_gather_162 : decode cX8_gather 162 = .ok (.aload 4, 2) := dcU1 dO_25 (rdU1.ch sfx_cX8_gather_128 34 rfl (by decide +kernel))
theorem dX8_gather_164 : decode cX8_gather 164 = .ok (.iload 5, 2) := dcU1 dO_21 (rdU1.ch sfx_cX8_gather_128 36 rfl (by decide +kernel))
theorem dX8_gather_166 : decode cX8_gather 166 = .ok (.invokevirtual 216, 3) := dcU2 dO_182 (rdU2.ch sfx_cX8_gather_128 38 rfl (by decide +kernel))
theorem dX8_gather_169 : decode cX8_gather 169 = .ok (.ifCond .eq 13, 3) := dcS2 dO_153 (rdS2.ch sfx_cX8_gather_128 41 rfl (by decide +kernel))
theorem dX8_gather_172 : decode cX8_gather 172 = .ok (.aload_n 0, 1) := dc0 dO_42 (rdB.ch sfx_cX8_gather_128 44 rfl (by decide +kernel))
theorem dX8_gather_173 : decode cX8_gather 173 = .ok (.dup, 1) := dc0 dO_89 (rdB.ch sfx_cX8_gather_128 45 rfl (by decide +kernel))
theorem dX8_gather_174 : decode cX8_gather 174 = .ok (.getfield 200, 3) := dcU2 dO_180 (rdU2.ch sfx_cX8_gather_128 46 rfl (by decide +kernel))
theorem dX8_gather_177 : decode cX8_gather 177 = .ok (.iconst 1, 1) := dc0 dO_4 (rdB.ch sfx_cX8_gather_128 49 rfl (by decide +kernel))
theorem dX8_gather_178 : decode cX8_gather 178 = .ok (.iadd, 1) := dc0 dO_96 (rdB.ch sfx_cX8_gather_128 50 rfl (by decide +kernel))
theorem dX8_gather_179 : decode cX8_gather 179 = .ok (.putfield 200, 3) := dcU2 dO_181 (rdU2.ch sfx_cX8_gather_128 51 rfl (by decide +kernel))
theorem dX8_gather_182 : decode cX8_gather 182 = .ok (.iinc 3 1, 3) := dcI dO_132 (rdI.ch sfx_cX8_gather_128 54 rfl (by decide +kernel))
theorem dX8_gather_185 : decode cX8_gather 185 = .ok (.goto (-178), 3) := dcS2 dO_167 (rdS2.ch sfx_cX8_gather_128 57 rfl (by decide +kernel))
theorem dX8_gather_188 : decode cX8_gather 188 = .ok (.return_, 1) := dc0 dO_177 (rdB.ch sfx_cX8_gather_128 60 rfl (by decide +kernel))
theorem dX8_handOver_0 : decode cX8_handOver 0 = .ok (.aload_n 1, 1) := dc0 dO_43 (by decide +kernel)
theorem dX8_handOver_1 : decode cX8_handOver 1 = .ok (.getfield 96, 3) := dcU2 dO_180 (by decide +kernel)
theorem dX8_handOver_4 : decode cX8_handOver 4 = .ok (.iconst 1, 1) := dc0 dO_4 (by decide +kernel)
theorem dX8_handOver_5 : decode cX8_handOver 5 = .ok (.iload_n 2, 1) := dc0 dO_28 (by decide +kernel)
theorem dX8_handOver_6 : decode cX8_handOver 6 = .ok (.isub, 1) := dc0 dO_100 (by decide +kernel)
theorem dX8_handOver_7 : decode cX8_handOver 7 = .ok (.iload_n 3, 1) := dc0 dO_29 (by decide +kernel)
theorem dX8_handOver_8 : decode cX8_handOver 8 = .ok (.invokestatic 99, 3) := dcU2 dO_184 (by decide +kernel)
theorem dX8_handOver_11 : decode cX8_handOver 11 = .ok (.aaload, 1) := dc0 dO_50 (by decide +kernel)
theorem dX8_handOver_12 : decode cX8_handOver 12 = .ok (.astore 4, 2) := dcU1 dO_58 (by decide +kernel)
theorem dX8_handOver_14 : decode cX8_handOver 14 = .ok (.aload 4, 2) := dcU1 dO_25 (by decide +kernel)
theorem dX8_handOver_16 : decode cX8_handOver 16 = .ok (.aload_n 1, 1) := dc0 dO_43 (by decide +kernel)
theorem dX8_handOver_17 : decode cX8_handOver 17 = .ok (.getfield 103, 3) := dcU2 dO_180 (by decide +kernel)
theorem dX8_handOver_20 : decode cX8_handOver 20 = .ok (.iload_n 2, 1) := dc0 dO_28 (by decide +kernel)
theorem dX8_handOver_21 : decode cX8_handOver 21 = .ok (.iload_n 3, 1) := dc0 dO_29 (by decide +kernel)
theorem dX8_handOver_22 : decode cX8_handOver 22 = .ok (.invokestatic 99, 3) := dcU2 dO_184 (by decide +kernel)
theorem dX8_handOver_25 : decode cX8_handOver 25 = .ok (.aaload, 1) := dc0 dO_50 (by decide +kernel)
theorem dX8_handOver_26 : decode cX8_handOver 26 = .ok (.invokevirtual 106, 3) := dcU2 dO_182 (by decide +kernel)
theorem dX8_handOver_29 : decode cX8_handOver 29 = .ok (.aload 4, 2) := dcU1 dO_25 (by decide +kernel)
theorem dX8_handOver_31 : decode cX8_handOver 31 = .ok (.aload_n 0, 1) := dc0 dO_42 (by decide +kernel)
theorem dX8_handOver_32 : decode cX8_handOver 32 = .ok (.getfield 62, 3) := dcU2 dO_180 (by decide +kernel)
theorem dX8_handOver_35 : decode cX8_handOver 35 = .ok (.putfield 110, 3) := dcU2 dO_181 (by decide +kernel)
theorem dX8_handOver_38 : decode cX8_handOver 38 = .ok (.return_, 1) := dc0 dO_177 (by decide +kernel)
theorem dX8_look_0 : decode cX8_look 0 = .ok (.aload_n 0, 1) := dc0 dO_42 (by decide +kernel)
theorem dX8_look_1 : decode cX8_look 1 = .ok (.getfield 9, 3) := dcU2 dO_180 (by decide +kernel)
theorem dX8_look_4 : decode cX8_look 4 = .ok (.getfield 162, 3) := dcU2 dO_180 (by decide +kernel)
theorem dX8_look_7 : decode cX8_look 7 = .ok (.iload_n 1, 1) := dc0 dO_27 (by decide +kernel)
theorem dX8_look_8 : decode cX8_look 8 = .ok (.aaload, 1) := dc0 dO_50 (by decide +kernel)
theorem dX8_look_9 : decode cX8_look 9 = .ok (.astore_n 3, 1) := dc0 dO_78 (by decide +kernel)
theorem dX8_look_10 : decode cX8_look 10 = .ok (.aload_n 0, 1) := dc0 dO_42 (by decide +kernel)
theorem dX8_look_11 : decode cX8_look 11 = .ok (.getfield 46, 3) := dcU2 dO_180 (by decide +kernel)
theorem dX8_look_14 : decode cX8_look 14 = .ok (.astore 4, 2) := dcU1 dO_58 (by decide +kernel)
theorem dX8_look_16 : decode cX8_look 16 = .ok (.ldc 166, 2) := dcU1 dO_18 (by decide +kernel)
theorem dX8_look_18 : decode cX8_look 18 = .ok (.istore 5, 2) := dcU1 dO_54 (by decide +kernel)
theorem dX8_look_20 : decode cX8_look 20 = .ok (.aload_n 3, 1) := dc0 dO_45 (by decide +kernel)
theorem dX8_look_21 : decode cX8_look 21 = .ok (.getfield 167, 3) := dcU2 dO_180 (by decide +kernel)
theorem dX8_look_24 : decode cX8_look 24 = .ok (.iload_n 2, 1) := dc0 dO_28 (by decide +kernel)
theorem dX8_look_25 : decode cX8_look 25 = .ok (.iaload, 1) := dc0 dO_46 (by decide +kernel)
theorem dX8_look_26 : decode cX8_look 26 = .ok (.iconst (-1), 1) := dc0 dO_2 (by decide +kernel)
theorem dX8_look_27 : decode cX8_look 27 = .ok (.if_icmp .eq 30, 3) := dcS2 dO_159 (by decide +kernel)
theorem dX8_look_30 : decode cX8_look 30 = .ok (.aload_n 0, 1) := dc0 dO_42 (by decide +kernel)
theorem dX8_look_31 : decode cX8_look 31 = .ok (.getfield 42, 3) := dcU2 dO_180 (by decide +kernel)
theorem dX8_look_34 : decode cX8_look 34 = .ok (.iload_n 2, 1) := dc0 dO_28 (by decide +kernel)
theorem dX8_look_35 : decode cX8_look 35 = .ok (.aload_n 3, 1) := dc0 dO_45 (by decide +kernel)
theorem dX8_look_36 : decode cX8_look 36 = .ok (.getfield 167, 3) := dcU2 dO_180 (by decide +kernel)
theorem dX8_look_39 : decode cX8_look 39 = .ok (.iload_n 2, 1) := dc0 dO_28 (by decide +kernel)
theorem dX8_look_40 : decode cX8_look 40 = .ok (.iaload, 1) := dc0 dO_46 (by decide +kernel)
theorem dX8_look_41 : decode cX8_look 41 = .ok (.invokevirtual 172, 3) := dcU2 dO_182 (by decide +kernel)
theorem dX8_look_44 : decode cX8_look 44 = .ok (.aload_n 0, 1) := dc0 dO_42 (by decide +kernel)
theorem dX8_look_45 : decode cX8_look 45 = .ok (.getfield 42, 3) := dcU2 dO_180 (by decide +kernel)
theorem dX8_look_48 : decode cX8_look 48 = .ok (.astore 4, 2) := dcU1 dO_58 (by decide +kernel)
theorem dX8_look_50 : decode cX8_look 50 = .ok (.bipush (-4), 2) := dcS1 dO_16 (by decide +kernel)
theorem dX8_look_52 : decode cX8_look 52 = .ok (.istore 5, 2) := dcU1 dO_54 (by decide +kernel)
theorem dX8_look_54 : decode cX8_look 54 = .ok (.goto 52, 3) := dcS2 dO_167 (by decide +kernel)
theorem dX8_look_57 : decode cX8_look 57 = .ok (.aload_n 0, 1) := dc0 dO_42 (by decide +kernel)
theorem dX8_look_58 : decode cX8_look 58 = .ok (.iload_n 1, 1) := dc0 dO_27 (by decide +kernel)
theorem dX8_look_59 : decode cX8_look 59 = .ok (.iload_n 2, 1) := dc0 dO_28 (by decide +kernel)
theorem dX8_look_60 : decode cX8_look 60 = .ok (.invokevirtual 175, 3) := dcU2 dO_182 (by decide +kernel)
theorem dX8_look_63 : decode cX8_look 63 = .ok (.aload_n 3, 1) := dc0 dO_45 (by decide +kernel)
theorem dX8_look_64 : decode cX8_look 64 = .ok (.getfield 178, 3) := dcU2 dO_180 (by decide +kernel)
theorem dX8_look_67 : decode cX8_look 67 = .ok (.ifCond .eq 11, 3) := dcS2 dO_153 (by decide +kernel)
theorem dX8_look_70 : decode cX8_look 70 = .ok (.aload_n 0, 1) := dc0 dO_42 (by decide +kernel)
theorem dX8_look_71 : decode cX8_look 71 = .ok (.aload_n 3, 1) := dc0 dO_45 (by decide +kernel)
theorem dX8_look_72 : decode cX8_look 72 = .ok (.invokevirtual 181, 3) := dcU2 dO_182 (by decide +kernel)
theorem dX8_look_75 : decode cX8_look 75 = .ok (.goto 8, 3) := dcS2 dO_167 (by decide +kernel)
theorem dX8_look_78 : decode cX8_look 78 = .ok (.aload_n 0, 1) := dc0 dO_42 (by decide +kernel)
theorem dX8_look_79 : decode cX8_look 79 = .ok (.aload_n 3, 1) := dc0 dO_45 (by decide +kernel)
theorem dX8_look_80 : decode cX8_look 80 = .ok (.invokevirtual 185, 3) := dcU2 dO_182 (by decide +kernel)
theorem dX8_look_83 : decode cX8_look 83 = .ok (.istore 6, 2) := dcU1 dO_54 (by decide +kernel)
theorem dX8_look_85 : decode cX8_look 85 = .ok (.iload 6, 2) := dcU1 dO_21 (by decide +kernel)
theorem dX8_look_87 : decode cX8_look 87 = .ok (.ifCond .lt 19, 3) := dcS2 dO_155 (by decide +kernel)
theorem dX8_look_90 : decode cX8_look 90 = .ok (.aload_n 0, 1) := dc0 dO_42 (by decide +kernel)
theorem dX8_look_91 : decode cX8_look 91 = .ok (.getfield 34, 3) := dcU2 dO_180 (by decide +kernel)
theorem dX8_look_94 : decode cX8_look 94 = .ok (.iload 6, 2) := dcU1 dO_21 (by decide +kernel)
theorem dX8_look_96 : decode cX8_look 96 = .ok (.aaload, 1) := dc0 dO_50 (by decide +kernel)
theorem dX8_look_97 : decode cX8_look 97 = .ok (.astore 4, 2) := dcU1 dO_58 (by decide +kernel)
theorem dX8_look_99 : decode cX8_look 99 = .ok (.aload 4, 2) := dcU1 dO_25 (by decide +kernel)
theorem dX8_look_101 : decode cX8_look 101 = .ok (.getfield 188, 3) := dcU2 dO_180 (by decide +kernel)
theorem dX8_look_104 : decode cX8_look 104 = .ok (.istore 5, 2) := dcU1 dO_54 (by decide +kernel)
theorem dX8_look_106 : decode cX8_look 106 = .ok (.iload 5, 2) := dcU1 dO_21 (by decide +kernel)
theorem dX8_look_108 : decode cX8_look 108 = .ok (.aload_n 3, 1) := dc0 dO_45 (by decide +kernel)
theorem dX8_look_109 : decode cX8_look 109 = .ok (.getfield 190, 3) := dcU2 dO_180 (by decide +kernel)
theorem dX8_look_112 : decode cX8_look 112 = .ok (.iload_n 2, 1) := dc0 dO_28 (by decide +kernel)
theorem dX8_look_113 : decode cX8_look 113 = .ok (.iaload, 1) := dc0 dO_46 (by decide +kernel)
theorem dX8_look_114 : decode cX8_look 114 = .ok (.if_icmp .ne 18, 3) := dcS2 dO_160 (by decide +kernel)
theorem dX8_look_117 : decode cX8_look 117 = .ok (.aload 4, 2) := dcU1 dO_25 (by decide +kernel)
theorem dX8_look_119 : decode cX8_look 119 = .ok (.aload_n 3, 1) := dc0 dO_45 (by decide +kernel)
theorem dX8_look_120 : decode cX8_look 120 = .ok (.getfield 193, 3) := dcU2 dO_180 (by decide +kernel)
theorem dX8_look_123 : decode cX8_look 123 = .ok (.iload_n 2, 1) := dc0 dO_28 (by decide +kernel)
theorem dX8_look_124 : decode cX8_look 124 = .ok (.aaload, 1) := dc0 dO_50 (by decide +kernel)
theorem dX8_look_125 : decode cX8_look 125 = .ok (.invokevirtual 196, 3) := dcU2 dO_182 (by decide +kernel)
theorem sfx_cX8_look_128 : (cX8_look.data.toList.drop 128).take 67 = [153, 0, 4, 177, 45, 180, 0, 190, 28, 21, 5, 79, 45, 180, 0, 193, 28, 50, 25, 4, 182, 0, 106, 3, 54, 6, 21, 6, 42, 180, 0, 9, 180, 0, 153, 162, 0, 39, 42, 180, 0, 9, 180, 0, 76, 21, 6, 50, 27, 182, 0, 156, 54, 7, 21, 7, 155, 0, 12, 42, 21, 6, 21, 7, 28, 182, 0] := by decide +kernel
theorem dX8_look_128 : decode cX8_look 128 = .ok (.ifCond .eq 4, 3) := dcS2 dO_153 (rdS2.ch sfx_cX8_look_128 0 rfl (by decide +kernel))
theorem dX8_look_131 : decode cX8_look 131 = .ok (.return_, 1) := dc0 dO_177 (rdB.ch sfx_cX8_look_128 3 rfl (by decide +kernel))
theorem dX8_look_132 : decode cX8_look 132 = .ok (.aload_n 3, 1) := dc0 dO_45 (rdB.ch sfx_cX8_look_128 4 rfl (by decide +kernel))
theorem dX8_look_133 : decode cX8_look 133 = .ok (.getfield 190, 3) := dcU2 dO_180 (rdU2.ch sfx_cX8_look_128 5 rfl (by decide +kernel))
theorem dX8_look_136 : decode cX8_look 136 = .ok (.iload_n 2, 1) := dc0 dO_28 (rdB.ch sfx_cX8_look_128 8 rfl (by decide +kernel))
theorem dX8_look_137 : decode cX8_look 137 = .ok (.iload 5, 2) := dcU1 dO_21 (rdU1.ch sfx_cX8_look_128 9 rfl (by decide +kernel))
theorem dX8_look_139 : decode cX8_look 139 = .ok (.iastore, 1) := dc0 dO_79 (rdB.ch sfx_cX8_look_128 11 rfl (by decide +kernel))
theorem dX8_look_140 : decode cX8_look 140 = .ok (.aload_n 3, 1) := dc0 dO_45 (rdB.ch sfx_cX8_look_128 12 rfl (by decide +kernel))
theorem dX8_look_141 : decode cX8_look 141 = .ok (.getfield 193, 3) := dcU2 dO_180 (rdU2.ch sfx_cX8_look_128 13 rfl (by decide +kernel))
theorem dX8_look_144 : decode cX8_look 144 = .ok (.iload_n 2, 1) := dc0 dO_28 (rdB.ch sfx_cX8_look_128 16 rfl (by decide +kernel))
theorem dX8_look_145 : decode cX8_look 145 = .ok (.aaload, 1) := dc0 dO_50 (rdB.ch sfx_cX8_look_128 17 rfl (by decide +kernel))
theorem dX8_look_146 : decode cX8_look 146 = .ok (.aload 4, 2) := dcU1 dO_25 (rdU1.ch sfx_cX8_look_128 18 rfl (by decide +kernel))
theorem dX8_look_148 : decode cX8_look 148 = .ok (.invokevirtual 106, 3) := dcU2 dO_182 (rdU2.ch sfx_cX8_look_128 20 rfl (by decide +kernel))
theorem dX8_look_151 : decode cX8_look 151 = .ok (.iconst 0, 1) := dc0 dO_3 (rdB.ch sfx_cX8_look_128 23 rfl (by decide +kernel))
theorem dX8_look_152 : decode cX8_look 152 = .ok (.istore 6, 2) := dcU1 dO_54 (rdU1.ch sfx_cX8_look_128 24 rfl (by decide +kernel))
theorem dX8_look_154 : decode cX8_look 154 = .ok (.iload 6, 2) := dcU1 dO_21 (rdU1.ch sfx_cX8_look_128 26 rfl (by decide +kernel))
theorem dX8_look_156 : decode cX8_look 156 = .ok (.aload_n 0, 1) := dc0 dO_42 (rdB.ch sfx_cX8_look_128 28 rfl (by decide +kernel))
theorem dX8_look_157 : decode cX8_look 157 = .ok (.getfield 9, 3) := dcU2 dO_180 (rdU2.ch sfx_cX8_look_128 29 rfl (by decide +kernel))
theorem dX8_look_160 : decode cX8_look 160 = .ok (.getfield 153, 3) := dcU2 dO_180 (rdU2.ch sfx_cX8_look_128 32 rfl (by decide +kernel))
theorem dX8_look_163 : decode cX8_look 163 = .ok (.if_icmp .ge 39, 3) := dcS2 dO_162 (rdS2.ch sfx_cX8_look_128 35 rfl (by decide +kernel))
theorem dX8_look_166 : decode cX8_look 166 = .ok (.aload_n 0, 1) := dc0 dO_42 (rdB.ch sfx_cX8_look_128 38 rfl (by decide +kernel))
theorem dX8_look_167 : decode cX8_look 167 = .ok (.getfield 9, 3) := dcU2 dO_180 (rdU2.ch sfx_cX8_look_128 39 rfl (by decide +kernel))
theorem dX8_look_170 : decode cX8_look 170 = .ok (.getfield 76, 3) := dcU2 dO_180 (rdU2.ch sfx_cX8_look_128 42 rfl (by decide +kernel))
theorem dX8_look_173 : decode cX8_look 173 = .ok (.iload 6, 2) := dcU1 dO_21 (rdU1.ch sfx_cX8_look_128 45 rfl (by decide +kernel))
theorem dX8_look_175 : decode cX8_look 175 = .ok (.aaload, 1) := dc0 dO_50 (rdB.ch sfx_cX8_look_128 47 rfl (by decide +kernel))
theorem dX8_look_176 : decode cX8_look 176 = .ok (.iload_n 1, 1) := dc0 dO_27 (rdB.ch sfx_cX8_look_128 48 rfl (by decide +kernel))
theorem dX8_look_177 : decode cX8_look 177 = .ok (.invokevirtual 156, 3) := dcU2 dO_182 (rdU2.ch sfx_cX8_look_128 49 rfl (by decide +kernel))
theorem dX8_look_180 : decode cX8_look 180 = .ok (.istore 7, 2) := dcU1 dO_54 (rdU1.ch sfx_cX8_look_128 52 rfl (by decide +kernel))
theorem dX8_look_182 : decode cX8_look 182 = .ok (.iload 7, 2) := dcU1 dO_21 (rdU1.ch sfx_cX8_look_128 54 rfl (by decide +kernel))
theorem dX8_look_184 : decode cX8_look 184 = .ok (.ifCond .lt 12, 3) := dcS2 dO_155 (rdS2.ch sfx_cX8_look_128 56 rfl (by decide +kernel))
theorem dX8_look_187 : decode cX8_look 187 = .ok (.aload_n 0, 1) := dc0 dO_42 (rdB.ch sfx_cX8_look_128 59 rfl (by decide +kernel))
theorem dX8_look_188 : decode cX8_look 188 = .ok (.iload 6, 2) := dcU1 dO_21 (rdU1.ch sfx_cX8_look_128 60 rfl (by decide +kernel))
theorem dX8_look_190 : decode cX8_look 190 = .ok (.iload 7, 2) := dcU1 dO_21 (rdU1.ch sfx_cX8_look_128 62 rfl (by decide +kernel))
theorem sfx_cX8_look_192 : (cX8_look.data.toList.drop 192).take 67 = [28, 182, 0, 72, 132, 6, 1, 167, 255, 211, 177] := by decide +kernel
theorem dX8_look_192 : decode cX8_look 192 = .ok (.iload_n 2, 1) := dc0 dO_28 (rdB.ch sfx_cX8_look_192 0 rfl (by decide +kernel))
theorem dX8_look_193 : decode cX8_look 193 = .ok (.invokevirtual 72, 3) := dcU2 dO_182 (rdU2.ch sfx_cX8_look_192 1 rfl (by decide +kernel))
theorem dX8_look_196 : decode cX8_look 196 = .ok (.iinc 6 1, 3) := dcI dO_132 (rdI.ch sfx_cX8_look_192 4 rfl (by decide +kernel))
theorem dX8_look_199 : decode cX8_look 199 = .ok (.goto (-45), 3) := dcS2 dO_167 (rdS2.ch sfx_cX8_look_192 7 rfl (by decide +kernel))
theorem dX8_look_202 : decode cX8_look 202 = .ok (.return_, 1) := dc0 dO_177 (rdB.ch sfx_cX8_look_192 10 rfl (by decide +kernel))
theorem dX8_lookAtAll_0 : decode cX8_lookAtAll 0 = .ok (.iconst 0, 1) := dc0 dO_3 (by decide +kernel)
theorem dX8_lookAtAll_1 : decode cX8_lookAtAll 1 = .ok (.istore_n 2, 1) := dc0 dO_61 (by decide +kernel)
theorem dX8_lookAtAll_2 : decode cX8_lookAtAll 2 = .ok (.iload_n 2, 1) := dc0 dO_28 (by decide +kernel)
theorem dX8_lookAtAll_3 : decode cX8_lookAtAll 3 = .ok (.aload_n 0, 1) := dc0 dO_42 (by decide +kernel)
theorem dX8_lookAtAll_4 : decode cX8_lookAtAll 4 = .ok (.getfield 9, 3) := dcU2 dO_180 (by decide +kernel)
theorem dX8_lookAtAll_7 : decode cX8_lookAtAll 7 = .ok (.getfield 150, 3) := dcU2 dO_180 (by decide +kernel)
theorem dX8_lookAtAll_10 : decode cX8_lookAtAll 10 = .ok (.if_icmp .ge 15, 3) := dcS2 dO_162 (by decide +kernel)
theorem dX8_lookAtAll_13 : decode cX8_lookAtAll 13 = .ok (.aload_n 0, 1) := dc0 dO_42 (by decide +kernel)
theorem dX8_lookAtAll_14 : decode cX8_lookAtAll 14 = .ok (.iload_n 1, 1) := dc0 dO_27 (by decide +kernel)
theorem dX8_lookAtAll_15 : decode cX8_lookAtAll 15 = .ok (.iload_n 2, 1) := dc0 dO_28 (by decide +kernel)
theorem dX8_lookAtAll_16 : decode cX8_lookAtAll 16 = .ok (.invokevirtual 92, 3) := dcU2 dO_182 (by decide +kernel)
theorem dX8_lookAtAll_19 : decode cX8_lookAtAll 19 = .ok (.iinc 2 1, 3) := dcI dO_132 (by decide +kernel)
theorem dX8_lookAtAll_22 : decode cX8_lookAtAll 22 = .ok (.goto (-20), 3) := dcS2 dO_167 (by decide +kernel)
theorem dX8_lookAtAll_25 : decode cX8_lookAtAll 25 = .ok (.return_, 1) := dc0 dO_177 (by decide +kernel)
theorem dX8_reason_0 : decode cX8_reason 0 = .ok (.aload_n 0, 1) := dc0 dO_42 (by decide +kernel)
theorem dX8_reason_1 : decode cX8_reason 1 = .ok (.getfield 9, 3) := dcU2 dO_180 (by decide +kernel)
theorem dX8_reason_4 : decode cX8_reason 4 = .ok (.getfield 76, 3) := dcU2 dO_180 (by decide +kernel)
theorem dX8_reason_7 : decode cX8_reason 7 = .ok (.iload_n 1, 1) := dc0 dO_27 (by decide +kernel)
theorem dX8_reason_8 : decode cX8_reason 8 = .ok (.aaload, 1) := dc0 dO_50 (by decide +kernel)
theorem dX8_reason_9 : decode cX8_reason 9 = .ok (.astore 4, 2) := dcU1 dO_58 (by decide +kernel)
theorem dX8_reason_11 : decode cX8_reason 11 = .ok (.aload 4, 2) := dcU1 dO_25 (by decide +kernel)
theorem dX8_reason_13 : decode cX8_reason 13 = .ok (.getfield 96, 3) := dcU2 dO_180 (by decide +kernel)
theorem dX8_reason_16 : decode cX8_reason 16 = .ok (.iload_n 2, 1) := dc0 dO_28 (by decide +kernel)
theorem dX8_reason_17 : decode cX8_reason 17 = .ok (.iload_n 3, 1) := dc0 dO_29 (by decide +kernel)
theorem dX8_reason_18 : decode cX8_reason 18 = .ok (.invokestatic 99, 3) := dcU2 dO_184 (by decide +kernel)
theorem dX8_reason_21 : decode cX8_reason 21 = .ok (.aaload, 1) := dc0 dO_50 (by decide +kernel)
theorem dX8_reason_22 : decode cX8_reason 22 = .ok (.astore 5, 2) := dcU1 dO_58 (by decide +kernel)
theorem dX8_reason_24 : decode cX8_reason 24 = .ok (.aload 4, 2) := dcU1 dO_25 (by decide +kernel)
theorem dX8_reason_26 : decode cX8_reason 26 = .ok (.iload_n 2, 1) := dc0 dO_28 (by decide +kernel)
theorem dX8_reason_27 : decode cX8_reason 27 = .ok (.invokevirtual 86, 3) := dcU2 dO_182 (by decide +kernel)
theorem dX8_reason_30 : decode cX8_reason 30 = .ok (.istore 6, 2) := dcU1 dO_54 (by decide +kernel)
theorem dX8_reason_32 : decode cX8_reason 32 = .ok (.aload_n 0, 1) := dc0 dO_42 (by decide +kernel)
theorem dX8_reason_33 : decode cX8_reason 33 = .ok (.getfield 9, 3) := dcU2 dO_180 (by decide +kernel)
theorem dX8_reason_36 : decode cX8_reason 36 = .ok (.getfield 162, 3) := dcU2 dO_180 (by decide +kernel)
theorem dX8_reason_39 : decode cX8_reason 39 = .ok (.iload 6, 2) := dcU1 dO_21 (by decide +kernel)
theorem dX8_reason_41 : decode cX8_reason 41 = .ok (.aaload, 1) := dc0 dO_50 (by decide +kernel)
theorem dX8_reason_42 : decode cX8_reason 42 = .ok (.astore 7, 2) := dcU1 dO_58 (by decide +kernel)
theorem dX8_reason_44 : decode cX8_reason 44 = .ok (.aload 5, 2) := dcU1 dO_25 (by decide +kernel)
theorem dX8_reason_46 : decode cX8_reason 46 = .ok (.getfield 203, 3) := dcU2 dO_180 (by decide +kernel)
theorem dX8_reason_49 : decode cX8_reason 49 = .ok (.ifCond .ne 6, 3) := dcS2 dO_154 (by decide +kernel)
theorem dX8_reason_52 : decode cX8_reason 52 = .ok (.ldc 166, 2) := dcU1 dO_18 (by decide +kernel)
theorem dX8_reason_54 : decode cX8_reason 54 = .ok (.ireturn, 1) := dc0 dO_172 (by decide +kernel)
theorem dX8_reason_55 : decode cX8_reason 55 = .ok (.aload 7, 2) := dcU1 dO_25 (by decide +kernel)
theorem dX8_reason_57 : decode cX8_reason 57 = .ok (.getfield 167, 3) := dcU2 dO_180 (by decide +kernel)
theorem dX8_reason_60 : decode cX8_reason 60 = .ok (.iload_n 3, 1) := dc0 dO_29 (by decide +kernel)
theorem dX8_reason_61 : decode cX8_reason 61 = .ok (.iaload, 1) := dc0 dO_46 (by decide +kernel)
theorem dX8_reason_62 : decode cX8_reason 62 = .ok (.iconst (-1), 1) := dc0 dO_2 (by decide +kernel)
theorem dX8_reason_63 : decode cX8_reason 63 = .ok (.if_icmp .eq 6, 3) := dcS2 dO_159 (by decide +kernel)
theorem dX8_reason_66 : decode cX8_reason 66 = .ok (.bipush 8, 2) := dcS1 dO_16 (by decide +kernel)
theorem dX8_reason_68 : decode cX8_reason 68 = .ok (.ireturn, 1) := dc0 dO_172 (by decide +kernel)
theorem dX8_reason_69 : decode cX8_reason 69 = .ok (.aload 5, 2) := dcU1 dO_25 (by decide +kernel)
theorem dX8_reason_71 : decode cX8_reason 71 = .ok (.iload 6, 2) := dcU1 dO_21 (by decide +kernel)
theorem dX8_reason_73 : decode cX8_reason 73 = .ok (.invokevirtual 206, 3) := dcU2 dO_182 (by decide +kernel)
theorem dX8_reason_76 : decode cX8_reason 76 = .ok (.ifCond .eq 6, 3) := dcS2 dO_153 (by decide +kernel)
theorem dX8_reason_79 : decode cX8_reason 79 = .ok (.bipush 9, 2) := dcS1 dO_16 (by decide +kernel)
theorem dX8_reason_81 : decode cX8_reason 81 = .ok (.ireturn, 1) := dc0 dO_172 (by decide +kernel)
theorem dX8_reason_82 : decode cX8_reason 82 = .ok (.aload_n 0, 1) := dc0 dO_42 (by decide +kernel)
theorem dX8_reason_83 : decode cX8_reason 83 = .ok (.iload 6, 2) := dcU1 dO_21 (by decide +kernel)
theorem dX8_reason_85 : decode cX8_reason 85 = .ok (.iload_n 3, 1) := dc0 dO_29 (by decide +kernel)
theorem dX8_reason_86 : decode cX8_reason 86 = .ok (.invokevirtual 175, 3) := dcU2 dO_182 (by decide +kernel)
theorem dX8_reason_89 : decode cX8_reason 89 = .ok (.aload_n 0, 1) := dc0 dO_42 (by decide +kernel)
theorem dX8_reason_90 : decode cX8_reason 90 = .ok (.iload_n 1, 1) := dc0 dO_27 (by decide +kernel)
theorem dX8_reason_91 : decode cX8_reason 91 = .ok (.invokevirtual 276, 3) := dcU2 dO_182 (by decide +kernel)
theorem dX8_reason_94 : decode cX8_reason 94 = .ok (.istore 8, 2) := dcU1 dO_54 (by decide +kernel)
theorem dX8_reason_96 : decode cX8_reason 96 = .ok (.aload_n 0, 1) := dc0 dO_42 (by decide +kernel)
theorem dX8_reason_97 : decode cX8_reason 97 = .ok (.aload 7, 2) := dcU1 dO_25 (by decide +kernel)
theorem dX8_reason_99 : decode cX8_reason 99 = .ok (.getfield 190, 3) := dcU2 dO_180 (by decide +kernel)
theorem dX8_reason_102 : decode cX8_reason 102 = .ok (.iload_n 3, 1) := dc0 dO_29 (by decide +kernel)
theorem dX8_reason_103 : decode cX8_reason 103 = .ok (.iaload, 1) := dc0 dO_46 (by decide +kernel)
theorem dX8_reason_104 : decode cX8_reason 104 = .ok (.invokevirtual 276, 3) := dcU2 dO_182 (by decide +kernel)
theorem dX8_reason_107 : decode cX8_reason 107 = .ok (.istore 9, 2) := dcU1 dO_54 (by decide +kernel)
theorem dX8_reason_109 : decode cX8_reason 109 = .ok (.iload 8, 2) := dcU1 dO_21 (by decide +kernel)
theorem dX8_reason_111 : decode cX8_reason 111 = .ok (.ifCond .ge 6, 3) := dcS2 dO_156 (by decide +kernel)
theorem dX8_reason_114 : decode cX8_reason 114 = .ok (.bipush 10, 2) := dcS1 dO_16 (by decide +kernel)
theorem dX8_reason_116 : decode cX8_reason 116 = .ok (.ireturn, 1) := dc0 dO_172 (by decide +kernel)
theorem dX8_reason_117 : decode cX8_reason 117 = .ok (.iload 8, 2) := dcU1 dO_21 (by decide +kernel)
theorem dX8_reason_119 : decode cX8_reason 119 = .ok (.iload 9, 2) := dcU1 dO_21 (by decide +kernel)
theorem dX8_reason_121 : decode cX8_reason 121 = .ok (.if_icmp .eq 8, 3) := dcS2 dO_159 (by decide +kernel)
theorem dX8_reason_124 : decode cX8_reason 124 = .ok (.iload 9, 2) := dcU1 dO_21 (by decide +kernel)
theorem dX8_reason_126 : decode cX8_reason 126 = .ok (.ifCond .ge 5, 3) := dcS2 dO_156 (by decide +kernel)
theorem sfx_cX8_reason_128 : (cX8_reason.data.toList.drop 128).take 67 = [5, 3, 172, 25, 7, 42, 180, 0, 34, 21, 8, 50, 42, 180, 0, 34, 21, 9, 50, 182, 1, 23, 172] := by decide +kernel
theorem dX8_reason_129 : decode cX8_reason 129 = .ok (.iconst 0, 1) := dc0 dO_3 (rdB.ch sfx_cX8_reason_128 1 rfl (by decide +kernel))
theorem dX8_reason_130 : decode cX8_reason 130 = .ok (.ireturn, 1) := dc0 dO_172 (rdB.ch sfx_cX8_reason_128 2 rfl (by decide +kernel))
theorem dX8_reason_131 : decode cX8_reason 131 = .ok (.aload 7, 2) := dcU1 dO_25 (rdU1.ch sfx_cX8_reason_128 3 rfl (by decide +kernel))
theorem dX8_reason_133 : decode cX8_reason 133 = .ok (.aload_n 0, 1) := dc0 dO_42 (rdB.ch sfx_cX8_reason_128 5 rfl (by decide +kernel))
theorem dX8_reason_134 : decode cX8_reason 134 = .ok (.getfield 34, 3) := dcU2 dO_180 (rdU2.ch sfx_cX8_reason_128 6 rfl (by decide +kernel))
theorem dX8_reason_137 : decode cX8_reason 137 = .ok (.iload 8, 2) := dcU1 dO_21 (rdU1.ch sfx_cX8_reason_128 9 rfl (by decide +kernel))
theorem dX8_reason_139 : decode cX8_reason 139 = .ok (.aaload, 1) := dc0 dO_50 (rdB.ch sfx_cX8_reason_128 11 rfl (by decide +kernel))
theorem dX8_reason_140 : decode cX8_reason 140 = .ok (.aload_n 0, 1) := dc0 dO_42 (rdB.ch sfx_cX8_reason_128 12 rfl (by decide +kernel))
theorem dX8_reason_141 : decode cX8_reason 141 = .ok (.getfield 34, 3) := dcU2 dO_180 (rdU2.ch sfx_cX8_reason_128 13 rfl (by decide +kernel))
theorem dX8_reason_144 : decode cX8_reason 144 = .ok (.iload 9, 2) := dcU1 dO_21 (rdU1.ch sfx_cX8_reason_128 16 rfl (by decide +kernel))
theorem dX8_reason_146 : decode cX8_reason 146 = .ok (.aaload, 1) := dc0 dO_50 (rdB.ch sfx_cX8_reason_128 18 rfl (by decide +kernel))
theorem dX8_reason_147 : decode cX8_reason 147 = .ok (.invokevirtual 279, 3) := dcU2 dO_182 (rdU2.ch sfx_cX8_reason_128 19 rfl (by decide +kernel))
theorem dX8_reason_150 : decode cX8_reason 150 = .ok (.ireturn, 1) := dc0 dO_172 (rdB.ch sfx_cX8_reason_128 22 rfl (by decide +kernel))
theorem dX8_say_0 : decode cX8_say 0 = .ok (.aload_n 0, 1) := dc0 dO_42 (by decide +kernel)
theorem dX8_say_1 : decode cX8_say 1 = .ok (.getfield 9, 3) := dcU2 dO_180 (by decide +kernel)
theorem dX8_say_4 : decode cX8_say 4 = .ok (.getfield 76, 3) := dcU2 dO_180 (by decide +kernel)
theorem dX8_say_7 : decode cX8_say 7 = .ok (.iload_n 1, 1) := dc0 dO_27 (by decide +kernel)
theorem dX8_say_8 : decode cX8_say 8 = .ok (.aaload, 1) := dc0 dO_50 (by decide +kernel)
theorem dX8_say_9 : decode cX8_say 9 = .ok (.astore 4, 2) := dcU1 dO_58 (by decide +kernel)
theorem dX8_say_11 : decode cX8_say 11 = .ok (.aload 4, 2) := dcU1 dO_25 (by decide +kernel)
theorem dX8_say_13 : decode cX8_say 13 = .ok (.getfield 136, 3) := dcU2 dO_180 (by decide +kernel)
theorem dX8_say_16 : decode cX8_say 16 = .ok (.ifCond .ne 4, 3) := dcS2 dO_154 (by decide +kernel)
theorem dX8_say_19 : decode cX8_say 19 = .ok (.return_, 1) := dc0 dO_177 (by decide +kernel)
theorem dX8_say_20 : decode cX8_say 20 = .ok (.aload_n 0, 1) := dc0 dO_42 (by decide +kernel)
theorem dX8_say_21 : decode cX8_say 21 = .ok (.aload 4, 2) := dcU1 dO_25 (by decide +kernel)
theorem dX8_say_23 : decode cX8_say 23 = .ok (.iload_n 1, 1) := dc0 dO_27 (by decide +kernel)
theorem dX8_say_24 : decode cX8_say 24 = .ok (.iload_n 2, 1) := dc0 dO_28 (by decide +kernel)
theorem dX8_say_25 : decode cX8_say 25 = .ok (.iload_n 3, 1) := dc0 dO_29 (by decide +kernel)
theorem dX8_say_26 : decode cX8_say 26 = .ok (.invokevirtual 256, 3) := dcU2 dO_182 (by decide +kernel)
theorem dX8_say_29 : decode cX8_say 29 = .ok (.aload_n 0, 1) := dc0 dO_42 (by decide +kernel)
theorem dX8_say_30 : decode cX8_say 30 = .ok (.getfield 49, 3) := dcU2 dO_180 (by decide +kernel)
theorem dX8_say_33 : decode cX8_say 33 = .ok (.getfield 203, 3) := dcU2 dO_180 (by decide +kernel)
theorem dX8_say_36 : decode cX8_say 36 = .ok (.ifCond .eq 39, 3) := dcS2 dO_153 (by decide +kernel)
theorem dX8_say_39 : decode cX8_say 39 = .ok (.aload_n 0, 1) := dc0 dO_42 (by decide +kernel)
theorem dX8_say_40 : decode cX8_say 40 = .ok (.getfield 15, 3) := dcU2 dO_180 (by decide +kernel)
theorem dX8_say_43 : decode cX8_say 43 = .ok (.aload 4, 2) := dcU1 dO_25 (by decide +kernel)
theorem dX8_say_45 : decode cX8_say 45 = .ok (.getfield 213, 3) := dcU2 dO_180 (by decide +kernel)
theorem dX8_say_48 : decode cX8_say 48 = .ok (.iload_n 2, 1) := dc0 dO_28 (by decide +kernel)
theorem dX8_say_49 : decode cX8_say 49 = .ok (.iconst 2, 1) := dc0 dO_5 (by decide +kernel)
theorem dX8_say_50 : decode cX8_say 50 = .ok (.imul, 1) := dc0 dO_104 (by decide +kernel)
theorem dX8_say_51 : decode cX8_say 51 = .ok (.iconst 1, 1) := dc0 dO_4 (by decide +kernel)
theorem dX8_say_52 : decode cX8_say 52 = .ok (.iadd, 1) := dc0 dO_96 (by decide +kernel)
theorem dX8_say_53 : decode cX8_say 53 = .ok (.iaload, 1) := dc0 dO_46 (by decide +kernel)
theorem dX8_say_54 : decode cX8_say 54 = .ok (.aload_n 0, 1) := dc0 dO_42 (by decide +kernel)
theorem dX8_say_55 : decode cX8_say 55 = .ok (.getfield 49, 3) := dcU2 dO_180 (by decide +kernel)
theorem dX8_say_58 : decode cX8_say 58 = .ok (.aload 4, 2) := dcU1 dO_25 (by decide +kernel)
theorem dX8_say_60 : decode cX8_say 60 = .ok (.iload_n 2, 1) := dc0 dO_28 (by decide +kernel)
theorem dX8_say_61 : decode cX8_say 61 = .ok (.invokevirtual 216, 3) := dcU2 dO_182 (by decide +kernel)
theorem dX8_say_64 : decode cX8_say 64 = .ok (.ifCond .ne 11, 3) := dcS2 dO_154 (by decide +kernel)
theorem dX8_say_67 : decode cX8_say 67 = .ok (.aload_n 0, 1) := dc0 dO_42 (by decide +kernel)
theorem dX8_say_68 : decode cX8_say 68 = .ok (.getfield 49, 3) := dcU2 dO_180 (by decide +kernel)
theorem dX8_say_71 : decode cX8_say 71 = .ok (.iconst 0, 1) := dc0 dO_3 (by decide +kernel)
theorem dX8_say_72 : decode cX8_say 72 = .ok (.putfield 203, 3) := dcU2 dO_181 (by decide +kernel)
theorem dX8_say_75 : decode cX8_say 75 = .ok (.aload_n 0, 1) := dc0 dO_42 (by decide +kernel)
theorem dX8_say_76 : decode cX8_say 76 = .ok (.getfield 49, 3) := dcU2 dO_180 (by decide +kernel)
theorem dX8_say_79 : decode cX8_say 79 = .ok (.bipush 100, 2) := dcS1 dO_16 (by decide +kernel)
theorem dX8_say_81 : decode cX8_say 81 = .ok (.putfield 260, 3) := dcU2 dO_181 (by decide +kernel)
theorem dX8_say_84 : decode cX8_say 84 = .ok (.aload 4, 2) := dcU1 dO_25 (by decide +kernel)
theorem dX8_say_86 : decode cX8_say 86 = .ok (.getfield 103, 3) := dcU2 dO_180 (by decide +kernel)
theorem dX8_say_89 : decode cX8_say 89 = .ok (.iload_n 2, 1) := dc0 dO_28 (by decide +kernel)
theorem dX8_say_90 : decode cX8_say 90 = .ok (.iload_n 3, 1) := dc0 dO_29 (by decide +kernel)
theorem dX8_say_91 : decode cX8_say 91 = .ok (.invokestatic 99, 3) := dcU2 dO_184 (by decide +kernel)
theorem dX8_say_94 : decode cX8_say 94 = .ok (.aaload, 1) := dc0 dO_50 (by decide +kernel)
theorem dX8_say_95 : decode cX8_say 95 = .ok (.astore 5, 2) := dcU1 dO_58 (by decide +kernel)
theorem dX8_say_97 : decode cX8_say 97 = .ok (.aload_n 0, 1) := dc0 dO_42 (by decide +kernel)
theorem dX8_say_98 : decode cX8_say 98 = .ok (.getfield 49, 3) := dcU2 dO_180 (by decide +kernel)
theorem dX8_say_101 : decode cX8_say 101 = .ok (.aload 5, 2) := dcU1 dO_25 (by decide +kernel)
theorem dX8_say_103 : decode cX8_say 103 = .ok (.invokevirtual 196, 3) := dcU2 dO_182 (by decide +kernel)
theorem dX8_say_106 : decode cX8_say 106 = .ok (.ifCond .eq 4, 3) := dcS2 dO_153 (by decide +kernel)
theorem dX8_say_109 : decode cX8_say 109 = .ok (.return_, 1) := dc0 dO_177 (by decide +kernel)
theorem dX8_say_110 : decode cX8_say 110 = .ok (.aload 5, 2) := dcU1 dO_25 (by decide +kernel)
theorem dX8_say_112 : decode cX8_say 112 = .ok (.getfield 110, 3) := dcU2 dO_180 (by decide +kernel)
theorem dX8_say_115 : decode cX8_say 115 = .ok (.iconst (-1), 1) := dc0 dO_2 (by decide +kernel)
theorem dX8_say_116 : decode cX8_say 116 = .ok (.if_icmp .eq 59, 3) := dcS2 dO_159 (by decide +kernel)
theorem dX8_say_119 : decode cX8_say 119 = .ok (.aload_n 0, 1) := dc0 dO_42 (by decide +kernel)
theorem dX8_say_120 : decode cX8_say 120 = .ok (.getfield 62, 3) := dcU2 dO_180 (by decide +kernel)
theorem dX8_say_123 : decode cX8_say 123 = .ok (.aload 5, 2) := dcU1 dO_25 (by decide +kernel)
theorem dX8_say_125 : decode cX8_say 125 = .ok (.getfield 110, 3) := dcU2 dO_180 (by decide +kernel)
theorem sfx_cX8_say_128 : (cX8_say.data.toList.drop 128).take 67 = [25, 4, 180, 1, 7, 96, 162, 0, 41, 27, 28, 29, 4, 184, 0, 143, 54, 6, 42, 180, 0, 23, 21, 6, 46, 2, 160, 0, 20, 42, 21, 6, 25, 5, 180, 0, 110, 25, 4, 180, 1, 7, 96, 182, 1, 10, 177, 25, 5, 42, 180, 0, 49, 182, 0, 106, 25, 5, 42, 180, 0, 62, 181, 0, 110, 27, 28] := by decide +kernel
theorem dX8_say_128 : decode cX8_say 128 = .ok (.aload 4, 2) := dcU1 dO_25 (rdU1.ch sfx_cX8_say_128 0 rfl (by decide +kernel))
theorem dX8_say_130 : decode cX8_say 130 = .ok (.getfield 263, 3) := dcU2 dO_180 (rdU2.ch sfx_cX8_say_128 2 rfl (by decide +kernel))
theorem dX8_say_133 : decode cX8_say 133 = .ok (.iadd, 1) := dc0 dO_96 (rdB.ch sfx_cX8_say_128 5 rfl (by decide +kernel))
theorem dX8_say_134 : decode cX8_say 134 = .ok (.if_icmp .ge 41, 3) := dcS2 dO_162 (rdS2.ch sfx_cX8_say_128 6 rfl (by decide +kernel))
theorem dX8_say_137 : decode cX8_say 137 = .ok (.iload_n 1, 1) := dc0 dO_27 (rdB.ch sfx_cX8_say_128 9 rfl (by decide +kernel))
theorem dX8_say_138 : decode cX8_say 138 = .ok (.iload_n 2, 1) := dc0 dO_28 (rdB.ch sfx_cX8_say_128 10 rfl (by decide +kernel))
theorem dX8_say_139 : decode cX8_say 139 = .ok (.iload_n 3, 1) := dc0 dO_29 (rdB.ch sfx_cX8_say_128 11 rfl (by decide +kernel))
theorem dX8_say_140 : decode cX8_say 140 = .ok (.iconst 1, 1) := dc0 dO_4 (rdB.ch sfx_cX8_say_128 12 rfl (by decide +kernel))
theorem dX8_say_141 : decode cX8_say 141 = .ok (.invokestatic 143, 3) := dcU2 dO_184 (rdU2.ch sfx_cX8_say_128 13 rfl (by decide +kernel))
theorem dX8_say_144 : decode cX8_say 144 = .ok (.istore 6, 2) := dcU1 dO_54 (rdU1.ch sfx_cX8_say_128 16 rfl (by decide +kernel))
theorem dX8_say_146 : decode cX8_say 146 = .ok (.aload_n 0, 1) := dc0 dO_42 (rdB.ch sfx_cX8_say_128 18 rfl (by decide +kernel))
theorem dX8_say_147 : decode cX8_say 147 = .ok (.getfield 23, 3) := dcU2 dO_180 (rdU2.ch sfx_cX8_say_128 19 rfl (by decide +kernel))
theorem dX8_say_150 : decode cX8_say 150 = .ok (.iload 6, 2) := dcU1 dO_21 (rdU1.ch sfx_cX8_say_128 22 rfl (by decide +kernel))
theorem dX8_say_152 : decode cX8_say 152 = .ok (.iaload, 1) := dc0 dO_46 (rdB.ch sfx_cX8_say_128 24 rfl (by decide +kernel))
theorem dX8_say_153 : decode cX8_say 153 = .ok (.iconst (-1), 1) := dc0 dO_2 (rdB.ch sfx_cX8_say_128 25 rfl (by decide +kernel))
theorem dX8_say_154 : decode cX8_say 154 = .ok (.if_icmp .ne 20, 3) := dcS2 dO_160 (rdS2.ch sfx_cX8_say_128 26 rfl (by decide +kernel))
theorem dX8_say_157 : decode cX8_say 157 = .ok (.aload_n 0, 1) := dc0 dO_42 (rdB.ch sfx_cX8_say_128 29 rfl (by decide +kernel))
theorem dX8_say_158 : decode cX8_say 158 = .ok (.iload 6, 2) := dcU1 dO_21 (rdU1.ch sfx_cX8_say_128 30 rfl (by decide +kernel))
theorem dX8_say_160 : decode cX8_say 160 = .ok (.aload 5, 2) := dcU1 dO_25 (rdU1.ch sfx_cX8_say_128 32 rfl (by decide +kernel))
theorem dX8_say_162 : decode cX8_say 162 = .ok (.getfield 110, 3) := dcU2 dO_180 (rdU2.ch sfx_cX8_say_128 34 rfl (by decide +kernel))
theorem dX8_say_165 : decode cX8_say 165 = .ok (.aload 4, 2) := dcU1 dO_25 (rdU1.ch sfx_cX8_say_128 37 rfl (by decide +kernel))
theorem dX8_say_167 : decode cX8_say 167 = .ok (.getfield 263, 3) := dcU2 dO_180 (rdU2.ch sfx_cX8_say_128 39 rfl (by decide +kernel))
theorem dX8_say_170 : decode cX8_say 170 = .ok (.iadd, 1) := dc0 dO_96 (rdB.ch sfx_cX8_say_128 42 rfl (by decide +kernel))
theorem dX8_say_171 : decode cX8_say 171 = .ok (.invokevirtual 266, 3) := dcU2 dO_182 (rdU2.ch sfx_cX8_say_128 43 rfl (by decide +kernel))
theorem dX8_say_174 : decode cX8_say 174 = .ok (.return_, 1) := dc0 dO_177 (rdB.ch sfx_cX8_say_128 46 rfl (by decide +kernel))
theorem dX8_say_175 : decode cX8_say 175 = .ok (.aload 5, 2) := dcU1 dO_25 (rdU1.ch sfx_cX8_say_128 47 rfl (by decide +kernel))
theorem dX8_say_177 : decode cX8_say 177 = .ok (.aload_n 0, 1) := dc0 dO_42 (rdB.ch sfx_cX8_say_128 49 rfl (by decide +kernel))
theorem dX8_say_178 : decode cX8_say 178 = .ok (.getfield 49, 3) := dcU2 dO_180 (rdU2.ch sfx_cX8_say_128 50 rfl (by decide +kernel))
theorem dX8_say_181 : decode cX8_say 181 = .ok (.invokevirtual 106, 3) := dcU2 dO_182 (rdU2.ch sfx_cX8_say_128 53 rfl (by decide +kernel))
theorem dX8_say_184 : decode cX8_say 184 = .ok (.aload 5, 2) := dcU1 dO_25 (rdU1.ch sfx_cX8_say_128 56 rfl (by decide +kernel))
theorem dX8_say_186 : decode cX8_say 186 = .ok (.aload_n 0, 1) := dc0 dO_42 (rdB.ch sfx_cX8_say_128 58 rfl (by decide +kernel))
theorem dX8_say_187 : decode cX8_say 187 = .ok (.getfield 62, 3) := dcU2 dO_180 (rdU2.ch sfx_cX8_say_128 59 rfl (by decide +kernel))
theorem dX8_say_190 : decode cX8_say 190 = .ok (.putfield 110, 3) := dcU2 dO_181 (rdU2.ch sfx_cX8_say_128 62 rfl (by decide +kernel))
theorem sfx_cX8_say_192 : (cX8_say.data.toList.drop 192).take 67 = [110, 27, 28, 29, 3, 184, 0, 143, 54, 6, 42, 21, 6, 182, 0, 65, 42, 21, 6, 42, 180, 0, 62, 25, 4, 180, 1, 13, 96, 182, 1, 10, 177] := by decide +kernel
theorem dX8_say_193 : decode cX8_say 193 = .ok (.iload_n 1, 1) := dc0 dO_27 (rdB.ch sfx_cX8_say_192 1 rfl (by decide +kernel))
theorem dX8_say_194 : decode cX8_say 194 = .ok (.iload_n 2, 1) := dc0 dO_28 (rdB.ch sfx_cX8_say_192 2 rfl (by decide +kernel))
theorem dX8_say_195 : decode cX8_say 195 = .ok (.iload_n 3, 1) := dc0 dO_29 (rdB.ch sfx_cX8_say_192 3 rfl (by decide +kernel))
theorem dX8_say_196 : decode cX8_say 196 = .ok (.iconst 0, 1) := dc0 dO_3 (rdB.ch sfx_cX8_say_192 4 rfl (by decide +kernel))
theorem dX8_say_197 : decode cX8_say 197 = .ok (.invokestatic 143, 3) := dcU2 dO_184 (rdU2.ch sfx_cX8_say_192 5 rfl (by decide +kernel))
theorem dX8_say_200 : decode cX8_say 200 = .ok (.istore 6, 2) := dcU1 dO_54 (rdU1.ch sfx_cX8_say_192 8 rfl (by decide +kernel))
theorem dX8_say_202 : decode cX8_say 202 = .ok (.aload_n 0, 1) := dc0 dO_42 (rdB.ch sfx_cX8_say_192 10 rfl (by decide +kernel))
theorem dX8_say_203 : decode cX8_say 203 = .ok (.iload 6, 2) := dcU1 dO_21 (rdU1.ch sfx_cX8_say_192 11 rfl (by decide +kernel))
theorem dX8_say_205 : decode cX8_say 205 = .ok (.invokevirtual 65, 3) := dcU2 dO_182 (rdU2.ch sfx_cX8_say_192 13 rfl (by decide +kernel))
theorem dX8_say_208 : decode cX8_say 208 = .ok (.aload_n 0, 1) := dc0 dO_42 (rdB.ch sfx_cX8_say_192 16 rfl (by decide +kernel))
theorem dX8_say_209 : decode cX8_say 209 = .ok (.iload 6, 2) := dcU1 dO_21 (rdU1.ch sfx_cX8_say_192 17 rfl (by decide +kernel))
theorem dX8_say_211 : decode cX8_say 211 = .ok (.aload_n 0, 1) := dc0 dO_42 (rdB.ch sfx_cX8_say_192 19 rfl (by decide +kernel))
theorem dX8_say_212 : decode cX8_say 212 = .ok (.getfield 62, 3) := dcU2 dO_180 (rdU2.ch sfx_cX8_say_192 20 rfl (by decide +kernel))
theorem dX8_say_215 : decode cX8_say 215 = .ok (.aload 4, 2) := dcU1 dO_25 (rdU1.ch sfx_cX8_say_192 23 rfl (by decide +kernel))
theorem dX8_say_217 : decode cX8_say 217 = .ok (.getfield 269, 3) := dcU2 dO_180 (rdU2.ch sfx_cX8_say_192 25 rfl (by decide +kernel))
theorem dX8_say_220 : decode cX8_say 220 = .ok (.iadd, 1) := dc0 dO_96 (rdB.ch sfx_cX8_say_192 28 rfl (by decide +kernel))
theorem dX8_say_221 : decode cX8_say 221 = .ok (.invokevirtual 266, 3) := dcU2 dO_182 (rdU2.ch sfx_cX8_say_192 29 rfl (by decide +kernel))
theorem dX8_say_224 : decode cX8_say 224 = .ok (.return_, 1) := dc0 dO_177 (rdB.ch sfx_cX8_say_192 32 rfl (by decide +kernel))
theorem dX8_sayAll_0 : decode cX8_sayAll 0 = .ok (.iconst 0, 1) := dc0 dO_3 (by decide +kernel)
theorem dX8_sayAll_1 : decode cX8_sayAll 1 = .ok (.istore_n 3, 1) := dc0 dO_62 (by decide +kernel)
theorem dX8_sayAll_2 : decode cX8_sayAll 2 = .ok (.iload_n 3, 1) := dc0 dO_29 (by decide +kernel)
theorem dX8_sayAll_3 : decode cX8_sayAll 3 = .ok (.aload_n 0, 1) := dc0 dO_42 (by decide +kernel)
theorem dX8_sayAll_4 : decode cX8_sayAll 4 = .ok (.getfield 9, 3) := dcU2 dO_180 (by decide +kernel)
theorem dX8_sayAll_7 : decode cX8_sayAll 7 = .ok (.getfield 150, 3) := dcU2 dO_180 (by decide +kernel)
theorem dX8_sayAll_10 : decode cX8_sayAll 10 = .ok (.if_icmp .ge 16, 3) := dcS2 dO_162 (by decide +kernel)
theorem dX8_sayAll_13 : decode cX8_sayAll 13 = .ok (.aload_n 0, 1) := dc0 dO_42 (by decide +kernel)
theorem dX8_sayAll_14 : decode cX8_sayAll 14 = .ok (.iload_n 1, 1) := dc0 dO_27 (by decide +kernel)
theorem dX8_sayAll_15 : decode cX8_sayAll 15 = .ok (.iload_n 2, 1) := dc0 dO_28 (by decide +kernel)
theorem dX8_sayAll_16 : decode cX8_sayAll 16 = .ok (.iload_n 3, 1) := dc0 dO_29 (by decide +kernel)
theorem dX8_sayAll_17 : decode cX8_sayAll 17 = .ok (.invokevirtual 72, 3) := dcU2 dO_182 (by decide +kernel)
theorem dX8_sayAll_20 : decode cX8_sayAll 20 = .ok (.iinc 3 1, 3) := dcI dO_132 (by decide +kernel)
theorem dX8_sayAll_23 : decode cX8_sayAll 23 = .ok (.goto (-21), 3) := dcS2 dO_167 (by decide +kernel)
theorem dX8_sayAll_26 : decode cX8_sayAll 26 = .ok (.return_, 1) := dc0 dO_177 (by decide +kernel)
theorem dX8_silence_0 : decode cX8_silence 0 = .ok (.aload_n 0, 1) := dc0 dO_42 (by decide +kernel)
theorem dX8_silence_1 : decode cX8_silence 1 = .ok (.getfield 9, 3) := dcU2 dO_180 (by decide +kernel)
theorem dX8_silence_4 : decode cX8_silence 4 = .ok (.getfield 76, 3) := dcU2 dO_180 (by decide +kernel)
theorem dX8_silence_7 : decode cX8_silence 7 = .ok (.iload_n 1, 1) := dc0 dO_27 (by decide +kernel)
theorem dX8_silence_8 : decode cX8_silence 8 = .ok (.aaload, 1) := dc0 dO_50 (by decide +kernel)
theorem dX8_silence_9 : decode cX8_silence 9 = .ok (.astore_n 2, 1) := dc0 dO_77 (by decide +kernel)
theorem dX8_silence_10 : decode cX8_silence 10 = .ok (.aload_n 2, 1) := dc0 dO_44 (by decide +kernel)
theorem dX8_silence_11 : decode cX8_silence 11 = .ok (.iconst 0, 1) := dc0 dO_3 (by decide +kernel)
theorem dX8_silence_12 : decode cX8_silence 12 = .ok (.putfield 136, 3) := dcU2 dO_181 (by decide +kernel)
theorem dX8_silence_15 : decode cX8_silence 15 = .ok (.iconst 0, 1) := dc0 dO_3 (by decide +kernel)
theorem dX8_silence_16 : decode cX8_silence 16 = .ok (.istore_n 3, 1) := dc0 dO_62 (by decide +kernel)
theorem dX8_silence_17 : decode cX8_silence 17 = .ok (.iload_n 3, 1) := dc0 dO_29 (by decide +kernel)
theorem dX8_silence_18 : decode cX8_silence 18 = .ok (.bipush 20, 2) := dcS1 dO_16 (by decide +kernel)
theorem dX8_silence_20 : decode cX8_silence 20 = .ok (.if_icmp .ge 27, 3) := dcS2 dO_162 (by decide +kernel)
theorem dX8_silence_23 : decode cX8_silence 23 = .ok (.aload_n 2, 1) := dc0 dO_44 (by decide +kernel)
theorem dX8_silence_24 : decode cX8_silence 24 = .ok (.getfield 96, 3) := dcU2 dO_180 (by decide +kernel)
theorem dX8_silence_27 : decode cX8_silence 27 = .ok (.iload_n 3, 1) := dc0 dO_29 (by decide +kernel)
theorem dX8_silence_28 : decode cX8_silence 28 = .ok (.aaload, 1) := dc0 dO_50 (by decide +kernel)
theorem dX8_silence_29 : decode cX8_silence 29 = .ok (.invokevirtual 140, 3) := dcU2 dO_182 (by decide +kernel)
theorem dX8_silence_32 : decode cX8_silence 32 = .ok (.aload_n 2, 1) := dc0 dO_44 (by decide +kernel)
theorem dX8_silence_33 : decode cX8_silence 33 = .ok (.getfield 103, 3) := dcU2 dO_180 (by decide +kernel)
theorem dX8_silence_36 : decode cX8_silence 36 = .ok (.iload_n 3, 1) := dc0 dO_29 (by decide +kernel)
theorem dX8_silence_37 : decode cX8_silence 37 = .ok (.aaload, 1) := dc0 dO_50 (by decide +kernel)
theorem dX8_silence_38 : decode cX8_silence 38 = .ok (.invokevirtual 140, 3) := dcU2 dO_182 (by decide +kernel)
theorem dX8_silence_41 : decode cX8_silence 41 = .ok (.iinc 3 1, 3) := dcI dO_132 (by decide +kernel)
theorem dX8_silence_44 : decode cX8_silence 44 = .ok (.goto (-27), 3) := dcS2 dO_167 (by decide +kernel)
theorem dX8_silence_47 : decode cX8_silence 47 = .ok (.iload_n 1, 1) := dc0 dO_27 (by decide +kernel)
theorem dX8_silence_48 : decode cX8_silence 48 = .ok (.iconst 0, 1) := dc0 dO_3 (by decide +kernel)
theorem dX8_silence_49 : decode cX8_silence 49 = .ok (.iconst 0, 1) := dc0 dO_3 (by decide +kernel)
theorem dX8_silence_50 : decode cX8_silence 50 = .ok (.iconst 0, 1) := dc0 dO_3 (by decide +kernel)
theorem dX8_silence_51 : decode cX8_silence 51 = .ok (.invokestatic 143, 3) := dcU2 dO_184 (by decide +kernel)
theorem dX8_silence_54 : decode cX8_silence 54 = .ok (.istore_n 3, 1) := dc0 dO_62 (by decide +kernel)
theorem dX8_silence_55 : decode cX8_silence 55 = .ok (.iload_n 1, 1) := dc0 dO_27 (by decide +kernel)
theorem dX8_silence_56 : decode cX8_silence 56 = .ok (.iconst 1, 1) := dc0 dO_4 (by decide +kernel)
theorem dX8_silence_57 : decode cX8_silence 57 = .ok (.iadd, 1) := dc0 dO_96 (by decide +kernel)
theorem dX8_silence_58 : decode cX8_silence 58 = .ok (.iconst 0, 1) := dc0 dO_3 (by decide +kernel)
theorem dX8_silence_59 : decode cX8_silence 59 = .ok (.iconst 0, 1) := dc0 dO_3 (by decide +kernel)
theorem dX8_silence_60 : decode cX8_silence 60 = .ok (.iconst 0, 1) := dc0 dO_3 (by decide +kernel)
theorem dX8_silence_61 : decode cX8_silence 61 = .ok (.invokestatic 143, 3) := dcU2 dO_184 (by decide +kernel)
theorem dX8_silence_64 : decode cX8_silence 64 = .ok (.istore 4, 2) := dcU1 dO_54 (by decide +kernel)
theorem dX8_silence_66 : decode cX8_silence 66 = .ok (.iload_n 3, 1) := dc0 dO_29 (by decide +kernel)
theorem dX8_silence_67 : decode cX8_silence 67 = .ok (.istore 5, 2) := dcU1 dO_54 (by decide +kernel)
theorem dX8_silence_69 : decode cX8_silence 69 = .ok (.iload 5, 2) := dcU1 dO_21 (by decide +kernel)
theorem dX8_silence_71 : decode cX8_silence 71 = .ok (.iload 4, 2) := dcU1 dO_21 (by decide +kernel)
theorem dX8_silence_73 : decode cX8_silence 73 = .ok (.if_icmp .ge 15, 3) := dcS2 dO_162 (by decide +kernel)
theorem dX8_silence_76 : decode cX8_silence 76 = .ok (.aload_n 0, 1) := dc0 dO_42 (by decide +kernel)
theorem dX8_silence_77 : decode cX8_silence 77 = .ok (.iload 5, 2) := dcU1 dO_21 (by decide +kernel)
theorem dX8_silence_79 : decode cX8_silence 79 = .ok (.invokevirtual 65, 3) := dcU2 dO_182 (by decide +kernel)
theorem dX8_silence_82 : decode cX8_silence 82 = .ok (.iinc 5 1, 3) := dcI dO_132 (by decide +kernel)
theorem dX8_silence_85 : decode cX8_silence 85 = .ok (.goto (-16), 3) := dcS2 dO_167 (by decide +kernel)
theorem dX8_silence_88 : decode cX8_silence 88 = .ok (.return_, 1) := dc0 dO_177 (by decide +kernel)
theorem dX8_takeIn_0 : decode cX8_takeIn 0 = .ok (.aload_n 0, 1) := dc0 dO_42 (by decide +kernel)
theorem dX8_takeIn_1 : decode cX8_takeIn 1 = .ok (.getfield 9, 3) := dcU2 dO_180 (by decide +kernel)
theorem dX8_takeIn_4 : decode cX8_takeIn 4 = .ok (.getfield 76, 3) := dcU2 dO_180 (by decide +kernel)
theorem dX8_takeIn_7 : decode cX8_takeIn 7 = .ok (.iload_n 2, 1) := dc0 dO_28 (by decide +kernel)
theorem dX8_takeIn_8 : decode cX8_takeIn 8 = .ok (.aaload, 1) := dc0 dO_50 (by decide +kernel)
theorem dX8_takeIn_9 : decode cX8_takeIn 9 = .ok (.astore 4, 2) := dcU1 dO_58 (by decide +kernel)
theorem dX8_takeIn_11 : decode cX8_takeIn 11 = .ok (.aload_n 1, 1) := dc0 dO_43 (by decide +kernel)
theorem dX8_takeIn_12 : decode cX8_takeIn 12 = .ok (.getfield 113, 3) := dcU2 dO_180 (by decide +kernel)
theorem dX8_takeIn_15 : decode cX8_takeIn 15 = .ok (.aload_n 1, 1) := dc0 dO_43 (by decide +kernel)
theorem dX8_takeIn_16 : decode cX8_takeIn 16 = .ok (.getfield 118, 3) := dcU2 dO_180 (by decide +kernel)
theorem dX8_takeIn_19 : decode cX8_takeIn 19 = .ok (.iadd, 1) := dc0 dO_96 (by decide +kernel)
theorem dX8_takeIn_20 : decode cX8_takeIn 20 = .ok (.istore 5, 2) := dcU1 dO_54 (by decide +kernel)
theorem dX8_takeIn_22 : decode cX8_takeIn 22 = .ok (.iconst 0, 1) := dc0 dO_3 (by decide +kernel)
theorem dX8_takeIn_23 : decode cX8_takeIn 23 = .ok (.istore 6, 2) := dcU1 dO_54 (by decide +kernel)
theorem dX8_takeIn_25 : decode cX8_takeIn 25 = .ok (.iconst 0, 1) := dc0 dO_3 (by decide +kernel)
theorem dX8_takeIn_26 : decode cX8_takeIn 26 = .ok (.istore 7, 2) := dcU1 dO_54 (by decide +kernel)
theorem dX8_takeIn_28 : decode cX8_takeIn 28 = .ok (.iload 7, 2) := dcU1 dO_21 (by decide +kernel)
theorem dX8_takeIn_30 : decode cX8_takeIn 30 = .ok (.iload 5, 2) := dcU1 dO_21 (by decide +kernel)
theorem dX8_takeIn_32 : decode cX8_takeIn 32 = .ok (.if_icmp .ge 110, 3) := dcS2 dO_162 (by decide +kernel)
theorem dX8_takeIn_35 : decode cX8_takeIn 35 = .ok (.aload_n 0, 1) := dc0 dO_42 (by decide +kernel)
theorem dX8_takeIn_36 : decode cX8_takeIn 36 = .ok (.getfield 9, 3) := dcU2 dO_180 (by decide +kernel)
theorem dX8_takeIn_39 : decode cX8_takeIn 39 = .ok (.aload_n 1, 1) := dc0 dO_43 (by decide +kernel)
theorem dX8_takeIn_40 : decode cX8_takeIn 40 = .ok (.getfield 121, 3) := dcU2 dO_180 (by decide +kernel)
theorem dX8_takeIn_43 : decode cX8_takeIn 43 = .ok (.iload 7, 2) := dcU1 dO_21 (by decide +kernel)
theorem dX8_takeIn_45 : decode cX8_takeIn 45 = .ok (.iaload, 1) := dc0 dO_46 (by decide +kernel)
theorem dX8_takeIn_46 : decode cX8_takeIn 46 = .ok (.aload_n 1, 1) := dc0 dO_43 (by decide +kernel)
theorem dX8_takeIn_47 : decode cX8_takeIn 47 = .ok (.getfield 124, 3) := dcU2 dO_180 (by decide +kernel)
theorem dX8_takeIn_50 : decode cX8_takeIn 50 = .ok (.iload 7, 2) := dcU1 dO_21 (by decide +kernel)
theorem dX8_takeIn_52 : decode cX8_takeIn 52 = .ok (.iaload, 1) := dc0 dO_46 (by decide +kernel)
theorem dX8_takeIn_53 : decode cX8_takeIn 53 = .ok (.invokevirtual 127, 3) := dcU2 dO_182 (by decide +kernel)
theorem dX8_takeIn_56 : decode cX8_takeIn 56 = .ok (.istore 8, 2) := dcU1 dO_54 (by decide +kernel)
theorem dX8_takeIn_58 : decode cX8_takeIn 58 = .ok (.iload 8, 2) := dcU1 dO_21 (by decide +kernel)
theorem dX8_takeIn_60 : decode cX8_takeIn 60 = .ok (.ifCond .ge 6, 3) := dcS2 dO_156 (by decide +kernel)
theorem dX8_takeIn_63 : decode cX8_takeIn 63 = .ok (.goto 73, 3) := dcS2 dO_167 (by decide +kernel)
theorem dX8_takeIn_66 : decode cX8_takeIn 66 = .ok (.aload 4, 2) := dcU1 dO_25 (by decide +kernel)
theorem dX8_takeIn_68 : decode cX8_takeIn 68 = .ok (.getfield 96, 3) := dcU2 dO_180 (by decide +kernel)
theorem dX8_takeIn_71 : decode cX8_takeIn 71 = .ok (.iload_n 3, 1) := dc0 dO_29 (by decide +kernel)
theorem dX8_takeIn_72 : decode cX8_takeIn 72 = .ok (.iload 8, 2) := dcU1 dO_21 (by decide +kernel)
theorem dX8_takeIn_74 : decode cX8_takeIn 74 = .ok (.invokestatic 99, 3) := dcU2 dO_184 (by decide +kernel)
theorem dX8_takeIn_77 : decode cX8_takeIn 77 = .ok (.aaload, 1) := dc0 dO_50 (by decide +kernel)
theorem dX8_takeIn_78 : decode cX8_takeIn 78 = .ok (.astore 9, 2) := dcU1 dO_58 (by decide +kernel)
theorem dX8_takeIn_80 : decode cX8_takeIn 80 = .ok (.aload 9, 2) := dcU1 dO_25 (by decide +kernel)
theorem dX8_takeIn_82 : decode cX8_takeIn 82 = .ok (.iload 7, 2) := dcU1 dO_21 (by decide +kernel)
theorem dX8_takeIn_84 : decode cX8_takeIn 84 = .ok (.aload_n 1, 1) := dc0 dO_43 (by decide +kernel)
theorem dX8_takeIn_85 : decode cX8_takeIn 85 = .ok (.getfield 113, 3) := dcU2 dO_180 (by decide +kernel)
theorem dX8_takeIn_88 : decode cX8_takeIn 88 = .ok (.if_icmp .ge 10, 3) := dcS2 dO_162 (by decide +kernel)
theorem dX8_takeIn_91 : decode cX8_takeIn 91 = .ok (.aload_n 0, 1) := dc0 dO_42 (by decide +kernel)
theorem dX8_takeIn_92 : decode cX8_takeIn 92 = .ok (.getfield 46, 3) := dcU2 dO_180 (by decide +kernel)
theorem dX8_takeIn_95 : decode cX8_takeIn 95 = .ok (.goto 7, 3) := dcS2 dO_167 (by decide +kernel)
theorem dX8_takeIn_98 : decode cX8_takeIn 98 = .ok (.aload_n 1, 1) := dc0 dO_43 (by decide +kernel)
theorem dX8_takeIn_99 : decode cX8_takeIn 99 = .ok (.getfield 130, 3) := dcU2 dO_180 (by decide +kernel)
theorem dX8_takeIn_102 : decode cX8_takeIn 102 = .ok (.invokevirtual 106, 3) := dcU2 dO_182 (by decide +kernel)
theorem dX8_takeIn_105 : decode cX8_takeIn 105 = .ok (.aload 9, 2) := dcU1 dO_25 (by decide +kernel)
theorem dX8_takeIn_107 : decode cX8_takeIn 107 = .ok (.iload 8, 2) := dcU1 dO_21 (by decide +kernel)
theorem dX8_takeIn_109 : decode cX8_takeIn 109 = .ok (.putfield 133, 3) := dcU2 dO_181 (by decide +kernel)
theorem dX8_takeIn_112 : decode cX8_takeIn 112 = .ok (.aload 9, 2) := dcU1 dO_25 (by decide +kernel)
theorem dX8_takeIn_114 : decode cX8_takeIn 114 = .ok (.aload_n 0, 1) := dc0 dO_42 (by decide +kernel)
theorem dX8_takeIn_115 : decode cX8_takeIn 115 = .ok (.getfield 62, 3) := dcU2 dO_180 (by decide +kernel)
theorem dX8_takeIn_118 : decode cX8_takeIn 118 = .ok (.putfield 110, 3) := dcU2 dO_181 (by decide +kernel)
theorem dX8_takeIn_121 : decode cX8_takeIn 121 = .ok (.aload_n 0, 1) := dc0 dO_42 (by decide +kernel)
theorem dX8_takeIn_122 : decode cX8_takeIn 122 = .ok (.aload 4, 2) := dcU1 dO_25 (by decide +kernel)
theorem dX8_takeIn_124 : decode cX8_takeIn 124 = .ok (.iload_n 3, 1) := dc0 dO_29 (by decide +kernel)
theorem dX8_takeIn_125 : decode cX8_takeIn 125 = .ok (.invokevirtual 86, 3) := dcU2 dO_182 (by decide +kernel)
theorem sfx_cX8_takeIn_128 : (cX8_takeIn.data.toList.drop 128).take 67 = [21, 8, 182, 0, 92, 132, 6, 1, 132, 7, 1, 167, 255, 145, 21, 6, 172] := by decide +kernel
theorem dX8_takeIn_128 : decode cX8_takeIn 128 = .ok (.iload 8, 2) := dcU1 dO_21 (rdU1.ch sfx_cX8_takeIn_128 0 rfl (by decide +kernel))
theorem dX8_takeIn_130 : decode cX8_takeIn 130 = .ok (.invokevirtual 92, 3) := dcU2 dO_182 (rdU2.ch sfx_cX8_takeIn_128 2 rfl (by decide +kernel))
theorem dX8_takeIn_133 : decode cX8_takeIn 133 = .ok (.iinc 6 1, 3) := dcI dO_132 (rdI.ch sfx_cX8_takeIn_128 5 rfl (by decide +kernel))
theorem dX8_takeIn_136 : decode cX8_takeIn 136 = .ok (.iinc 7 1, 3) := dcI dO_132 (rdI.ch sfx_cX8_takeIn_128 8 rfl (by decide +kernel))
theorem dX8_takeIn_139 : decode cX8_takeIn 139 = .ok (.goto (-111), 3) := dcS2 dO_167 (rdS2.ch sfx_cX8_takeIn_128 11 rfl (by decide +kernel))
theorem dX8_takeIn_142 : decode cX8_takeIn 142 = .ok (.iload 6, 2) := dcU1 dO_21 (rdU1.ch sfx_cX8_takeIn_128 14 rfl (by decide +kernel))
theorem dX8_takeIn_144 : decode cX8_takeIn 144 = .ok (.ireturn, 1) := dc0 dO_172 (rdB.ch sfx_cX8_takeIn_128 16 rfl (by decide +kernel))
theorem dX8_tellAllAnew_0 : decode cX8_tellAllAnew 0 = .ok (.iconst 0, 1) := dc0 dO_3 (by decide +kernel)
theorem dX8_tellAllAnew_1 : decode cX8_tellAllAnew 1 = .ok (.istore_n 1, 1) := dc0 dO_60 (by decide +kernel)
theorem dX8_tellAllAnew_2 : decode cX8_tellAllAnew 2 = .ok (.iload_n 1, 1) := dc0 dO_27 (by decide +kernel)
theorem dX8_tellAllAnew_3 : decode cX8_tellAllAnew 3 = .ok (.aload_n 0, 1) := dc0 dO_42 (by decide +kernel)
theorem dX8_tellAllAnew_4 : decode cX8_tellAllAnew 4 = .ok (.getfield 9, 3) := dcU2 dO_180 (by decide +kernel)
theorem dX8_tellAllAnew_7 : decode cX8_tellAllAnew 7 = .ok (.getfield 147, 3) := dcU2 dO_180 (by decide +kernel)
theorem dX8_tellAllAnew_10 : decode cX8_tellAllAnew 10 = .ok (.if_icmp .ge 34, 3) := dcS2 dO_162 (by decide +kernel)
theorem dX8_tellAllAnew_13 : decode cX8_tellAllAnew 13 = .ok (.iconst 0, 1) := dc0 dO_3 (by decide +kernel)
theorem dX8_tellAllAnew_14 : decode cX8_tellAllAnew 14 = .ok (.istore_n 2, 1) := dc0 dO_61 (by decide +kernel)
theorem dX8_tellAllAnew_15 : decode cX8_tellAllAnew 15 = .ok (.iload_n 2, 1) := dc0 dO_28 (by decide +kernel)
theorem dX8_tellAllAnew_16 : decode cX8_tellAllAnew 16 = .ok (.aload_n 0, 1) := dc0 dO_42 (by decide +kernel)
theorem dX8_tellAllAnew_17 : decode cX8_tellAllAnew 17 = .ok (.getfield 9, 3) := dcU2 dO_180 (by decide +kernel)
theorem dX8_tellAllAnew_20 : decode cX8_tellAllAnew 20 = .ok (.getfield 150, 3) := dcU2 dO_180 (by decide +kernel)
theorem dX8_tellAllAnew_23 : decode cX8_tellAllAnew 23 = .ok (.if_icmp .ge 15, 3) := dcS2 dO_162 (by decide +kernel)
theorem dX8_tellAllAnew_26 : decode cX8_tellAllAnew 26 = .ok (.aload_n 0, 1) := dc0 dO_42 (by decide +kernel)
theorem dX8_tellAllAnew_27 : decode cX8_tellAllAnew 27 = .ok (.iload_n 1, 1) := dc0 dO_27 (by decide +kernel)
theorem dX8_tellAllAnew_28 : decode cX8_tellAllAnew 28 = .ok (.iload_n 2, 1) := dc0 dO_28 (by decide +kernel)
theorem dX8_tellAllAnew_29 : decode cX8_tellAllAnew 29 = .ok (.invokevirtual 92, 3) := dcU2 dO_182 (by decide +kernel)
theorem dX8_tellAllAnew_32 : decode cX8_tellAllAnew 32 = .ok (.iinc 2 1, 3) := dcI dO_132 (by decide +kernel)
theorem dX8_tellAllAnew_35 : decode cX8_tellAllAnew 35 = .ok (.goto (-20), 3) := dcS2 dO_167 (by decide +kernel)
theorem dX8_tellAllAnew_38 : decode cX8_tellAllAnew 38 = .ok (.iinc 1 1, 3) := dcI dO_132 (by decide +kernel)
theorem dX8_tellAllAnew_41 : decode cX8_tellAllAnew 41 = .ok (.goto (-39), 3) := dcS2 dO_167 (by decide +kernel)
theorem dX8_tellAllAnew_44 : decode cX8_tellAllAnew 44 = .ok (.iconst 0, 1) := dc0 dO_3 (by decide +kernel)
theorem dX8_tellAllAnew_45 : decode cX8_tellAllAnew 45 = .ok (.istore_n 1, 1) := dc0 dO_60 (by decide +kernel)
theorem dX8_tellAllAnew_46 : decode cX8_tellAllAnew 46 = .ok (.iload_n 1, 1) := dc0 dO_27 (by decide +kernel)
theorem dX8_tellAllAnew_47 : decode cX8_tellAllAnew 47 = .ok (.aload_n 0, 1) := dc0 dO_42 (by decide +kernel)
theorem dX8_tellAllAnew_48 : decode cX8_tellAllAnew 48 = .ok (.getfield 9, 3) := dcU2 dO_180 (by decide +kernel)
theorem dX8_tellAllAnew_51 : decode cX8_tellAllAnew 51 = .ok (.getfield 147, 3) := dcU2 dO_180 (by decide +kernel)
theorem dX8_tellAllAnew_54 : decode cX8_tellAllAnew 54 = .ok (.if_icmp .ge 52, 3) := dcS2 dO_162 (by decide +kernel)
theorem dX8_tellAllAnew_57 : decode cX8_tellAllAnew 57 = .ok (.iconst 0, 1) := dc0 dO_3 (by decide +kernel)
theorem dX8_tellAllAnew_58 : decode cX8_tellAllAnew 58 = .ok (.istore_n 2, 1) := dc0 dO_61 (by decide +kernel)
theorem dX8_tellAllAnew_59 : decode cX8_tellAllAnew 59 = .ok (.iload_n 2, 1) := dc0 dO_28 (by decide +kernel)
theorem dX8_tellAllAnew_60 : decode cX8_tellAllAnew 60 = .ok (.aload_n 0, 1) := dc0 dO_42 (by decide +kernel)
theorem dX8_tellAllAnew_61 : decode cX8_tellAllAnew 61 = .ok (.getfield 9, 3) := dcU2 dO_180 (by decide +kernel)
theorem dX8_tellAllAnew_64 : decode cX8_tellAllAnew 64 = .ok (.getfield 153, 3) := dcU2 dO_180 (by decide +kernel)
theorem dX8_tellAllAnew_67 : decode cX8_tellAllAnew 67 = .ok (.if_icmp .ge 33, 3) := dcS2 dO_162 (by decide +kernel)
theorem dX8_tellAllAnew_70 : decode cX8_tellAllAnew 70 = .ok (.aload_n 0, 1) := dc0 dO_42 (by decide +kernel)
theorem dX8_tellAllAnew_71 : decode cX8_tellAllAnew 71 = .ok (.getfield 9, 3) := dcU2 dO_180 (by decide +kernel)
theorem dX8_tellAllAnew_74 : decode cX8_tellAllAnew 74 = .ok (.getfield 76, 3) := dcU2 dO_180 (by decide +kernel)
theorem dX8_tellAllAnew_77 : decode cX8_tellAllAnew 77 = .ok (.iload_n 2, 1) := dc0 dO_28 (by decide +kernel)
theorem dX8_tellAllAnew_78 : decode cX8_tellAllAnew 78 = .ok (.aaload, 1) := dc0 dO_50 (by decide +kernel)
theorem dX8_tellAllAnew_79 : decode cX8_tellAllAnew 79 = .ok (.iload_n 1, 1) := dc0 dO_27 (by decide +kernel)
theorem dX8_tellAllAnew_80 : decode cX8_tellAllAnew 80 = .ok (.invokevirtual 156, 3) := dcU2 dO_182 (by decide +kernel)
theorem dX8_tellAllAnew_83 : decode cX8_tellAllAnew 83 = .ok (.istore_n 3, 1) := dc0 dO_62 (by decide +kernel)
theorem dX8_tellAllAnew_84 : decode cX8_tellAllAnew 84 = .ok (.iload_n 3, 1) := dc0 dO_29 (by decide +kernel)
theorem dX8_tellAllAnew_85 : decode cX8_tellAllAnew 85 = .ok (.ifCond .lt 9, 3) := dcS2 dO_155 (by decide +kernel)
theorem dX8_tellAllAnew_88 : decode cX8_tellAllAnew 88 = .ok (.aload_n 0, 1) := dc0 dO_42 (by decide +kernel)
theorem dX8_tellAllAnew_89 : decode cX8_tellAllAnew 89 = .ok (.iload_n 2, 1) := dc0 dO_28 (by decide +kernel)
theorem dX8_tellAllAnew_90 : decode cX8_tellAllAnew 90 = .ok (.iload_n 3, 1) := dc0 dO_29 (by decide +kernel)
theorem dX8_tellAllAnew_91 : decode cX8_tellAllAnew 91 = .ok (.invokevirtual 159, 3) := dcU2 dO_182 (by decide +kernel)
theorem dX8_tellAllAnew_94 : decode cX8_tellAllAnew 94 = .ok (.iinc 2 1, 3) := dcI dO_132 (by decide +kernel)
theorem dX8_tellAllAnew_97 : decode cX8_tellAllAnew 97 = .ok (.goto (-38), 3) := dcS2 dO_167 (by decide +kernel)
theorem dX8_tellAllAnew_100 : decode cX8_tellAllAnew 100 = .ok (.iinc 1 1, 3) := dcI dO_132 (by decide +kernel)
theorem dX8_tellAllAnew_103 : decode cX8_tellAllAnew 103 = .ok (.goto (-57), 3) := dcS2 dO_167 (by decide +kernel)
theorem dX8_tellAllAnew_106 : decode cX8_tellAllAnew 106 = .ok (.return_, 1) := dc0 dO_177 (by decide +kernel)
theorem dX8_threeInRing_0 : decode cX8_threeInRing 0 = .ok (.aload_n 0, 1) := dc0 dO_42 (by decide +kernel)
theorem dX8_threeInRing_1 : decode cX8_threeInRing 1 = .ok (.getfield 9, 3) := dcU2 dO_180 (by decide +kernel)
theorem dX8_threeInRing_4 : decode cX8_threeInRing 4 = .ok (.getfield 162, 3) := dcU2 dO_180 (by decide +kernel)
theorem dX8_threeInRing_7 : decode cX8_threeInRing 7 = .ok (.iload_n 1, 1) := dc0 dO_27 (by decide +kernel)
theorem dX8_threeInRing_8 : decode cX8_threeInRing 8 = .ok (.aaload, 1) := dc0 dO_50 (by decide +kernel)
theorem dX8_threeInRing_9 : decode cX8_threeInRing 9 = .ok (.astore 4, 2) := dcU1 dO_58 (by decide +kernel)
theorem dX8_threeInRing_11 : decode cX8_threeInRing 11 = .ok (.aload 4, 2) := dcU1 dO_25 (by decide +kernel)
theorem dX8_threeInRing_13 : decode cX8_threeInRing 13 = .ok (.getfield 167, 3) := dcU2 dO_180 (by decide +kernel)
theorem dX8_threeInRing_16 : decode cX8_threeInRing 16 = .ok (.iload_n 2, 1) := dc0 dO_28 (by decide +kernel)
theorem dX8_threeInRing_17 : decode cX8_threeInRing 17 = .ok (.iaload, 1) := dc0 dO_46 (by decide +kernel)
theorem dX8_threeInRing_18 : decode cX8_threeInRing 18 = .ok (.iconst (-1), 1) := dc0 dO_2 (by decide +kernel)
theorem dX8_threeInRing_19 : decode cX8_threeInRing 19 = .ok (.if_icmp .eq 6, 3) := dcS2 dO_159 (by decide +kernel)
theorem dX8_threeInRing_22 : decode cX8_threeInRing 22 = .ok (.ldc 166, 2) := dcU1 dO_18 (by decide +kernel)
theorem dX8_threeInRing_24 : decode cX8_threeInRing 24 = .ok (.ireturn, 1) := dc0 dO_172 (by decide +kernel)
theorem dX8_threeInRing_25 : decode cX8_threeInRing 25 = .ok (.aload_n 0, 1) := dc0 dO_42 (by decide +kernel)
theorem dX8_threeInRing_26 : decode cX8_threeInRing 26 = .ok (.iload_n 1, 1) := dc0 dO_27 (by decide +kernel)
theorem dX8_threeInRing_27 : decode cX8_threeInRing 27 = .ok (.iload_n 2, 1) := dc0 dO_28 (by decide +kernel)
theorem dX8_threeInRing_28 : decode cX8_threeInRing 28 = .ok (.invokevirtual 175, 3) := dcU2 dO_182 (by decide +kernel)
theorem dX8_threeInRing_31 : decode cX8_threeInRing 31 = .ok (.iconst 0, 1) := dc0 dO_3 (by decide +kernel)
theorem dX8_threeInRing_32 : decode cX8_threeInRing 32 = .ok (.istore 5, 2) := dcU1 dO_54 (by decide +kernel)
theorem dX8_threeInRing_34 : decode cX8_threeInRing 34 = .ok (.iload 5, 2) := dcU1 dO_21 (by decide +kernel)
theorem dX8_threeInRing_36 : decode cX8_threeInRing 36 = .ok (.aload_n 0, 1) := dc0 dO_42 (by decide +kernel)
theorem dX8_threeInRing_37 : decode cX8_threeInRing 37 = .ok (.getfield 200, 3) := dcU2 dO_180 (by decide +kernel)
theorem dX8_threeInRing_40 : decode cX8_threeInRing 40 = .ok (.if_icmp .ge 148, 3) := dcS2 dO_162 (by decide +kernel)
theorem dX8_threeInRing_43 : decode cX8_threeInRing 43 = .ok (.iconst 0, 1) := dc0 dO_3 (by decide +kernel)
theorem dX8_threeInRing_44 : decode cX8_threeInRing 44 = .ok (.istore 6, 2) := dcU1 dO_54 (by decide +kernel)
theorem dX8_threeInRing_46 : decode cX8_threeInRing 46 = .ok (.iload 6, 2) := dcU1 dO_21 (by decide +kernel)
theorem dX8_threeInRing_48 : decode cX8_threeInRing 48 = .ok (.aload_n 0, 1) := dc0 dO_42 (by decide +kernel)
theorem dX8_threeInRing_49 : decode cX8_threeInRing 49 = .ok (.getfield 200, 3) := dcU2 dO_180 (by decide +kernel)
theorem dX8_threeInRing_52 : decode cX8_threeInRing 52 = .ok (.if_icmp .ge 130, 3) := dcS2 dO_162 (by decide +kernel)
theorem dX8_threeInRing_55 : decode cX8_threeInRing 55 = .ok (.aload 4, 2) := dcU1 dO_25 (by decide +kernel)
theorem dX8_threeInRing_57 : decode cX8_threeInRing 57 = .ok (.aload_n 0, 1) := dc0 dO_42 (by decide +kernel)
theorem dX8_threeInRing_58 : decode cX8_threeInRing 58 = .ok (.getfield 34, 3) := dcU2 dO_180 (by decide +kernel)
theorem dX8_threeInRing_61 : decode cX8_threeInRing 61 = .ok (.iload 5, 2) := dcU1 dO_21 (by decide +kernel)
theorem dX8_threeInRing_63 : decode cX8_threeInRing 63 = .ok (.aaload, 1) := dc0 dO_50 (by decide +kernel)
theorem dX8_threeInRing_64 : decode cX8_threeInRing 64 = .ok (.aload_n 0, 1) := dc0 dO_42 (by decide +kernel)
theorem dX8_threeInRing_65 : decode cX8_threeInRing 65 = .ok (.getfield 34, 3) := dcU2 dO_180 (by decide +kernel)
theorem dX8_threeInRing_68 : decode cX8_threeInRing 68 = .ok (.iload 6, 2) := dcU1 dO_21 (by decide +kernel)
theorem dX8_threeInRing_70 : decode cX8_threeInRing 70 = .ok (.aaload, 1) := dc0 dO_50 (by decide +kernel)
theorem dX8_threeInRing_71 : decode cX8_threeInRing 71 = .ok (.invokevirtual 235, 3) := dcU2 dO_182 (by decide +kernel)
theorem dX8_threeInRing_74 : decode cX8_threeInRing 74 = .ok (.ifCond .ne 6, 3) := dcS2 dO_154 (by decide +kernel)
theorem dX8_threeInRing_77 : decode cX8_threeInRing 77 = .ok (.goto 99, 3) := dcS2 dO_167 (by decide +kernel)
theorem dX8_threeInRing_80 : decode cX8_threeInRing 80 = .ok (.iconst 0, 1) := dc0 dO_3 (by decide +kernel)
theorem dX8_threeInRing_81 : decode cX8_threeInRing 81 = .ok (.istore 7, 2) := dcU1 dO_54 (by decide +kernel)
theorem dX8_threeInRing_83 : decode cX8_threeInRing 83 = .ok (.iload 7, 2) := dcU1 dO_21 (by decide +kernel)
theorem dX8_threeInRing_85 : decode cX8_threeInRing 85 = .ok (.aload_n 0, 1) := dc0 dO_42 (by decide +kernel)
theorem dX8_threeInRing_86 : decode cX8_threeInRing 86 = .ok (.getfield 200, 3) := dcU2 dO_180 (by decide +kernel)
theorem dX8_threeInRing_89 : decode cX8_threeInRing 89 = .ok (.if_icmp .ge 87, 3) := dcS2 dO_162 (by decide +kernel)
theorem dX8_threeInRing_92 : decode cX8_threeInRing 92 = .ok (.aload 4, 2) := dcU1 dO_25 (by decide +kernel)
theorem dX8_threeInRing_94 : decode cX8_threeInRing 94 = .ok (.aload_n 0, 1) := dc0 dO_42 (by decide +kernel)
theorem dX8_threeInRing_95 : decode cX8_threeInRing 95 = .ok (.getfield 34, 3) := dcU2 dO_180 (by decide +kernel)
theorem dX8_threeInRing_98 : decode cX8_threeInRing 98 = .ok (.iload 6, 2) := dcU1 dO_21 (by decide +kernel)
theorem dX8_threeInRing_100 : decode cX8_threeInRing 100 = .ok (.aaload, 1) := dc0 dO_50 (by decide +kernel)
theorem dX8_threeInRing_101 : decode cX8_threeInRing 101 = .ok (.aload_n 0, 1) := dc0 dO_42 (by decide +kernel)
theorem dX8_threeInRing_102 : decode cX8_threeInRing 102 = .ok (.getfield 34, 3) := dcU2 dO_180 (by decide +kernel)
theorem dX8_threeInRing_105 : decode cX8_threeInRing 105 = .ok (.iload 7, 2) := dcU1 dO_21 (by decide +kernel)
theorem dX8_threeInRing_107 : decode cX8_threeInRing 107 = .ok (.aaload, 1) := dc0 dO_50 (by decide +kernel)
theorem dX8_threeInRing_108 : decode cX8_threeInRing 108 = .ok (.invokevirtual 235, 3) := dcU2 dO_182 (by decide +kernel)
theorem dX8_threeInRing_111 : decode cX8_threeInRing 111 = .ok (.ifCond .eq 59, 3) := dcS2 dO_153 (by decide +kernel)
theorem dX8_threeInRing_114 : decode cX8_threeInRing 114 = .ok (.aload 4, 2) := dcU1 dO_25 (by decide +kernel)
theorem dX8_threeInRing_116 : decode cX8_threeInRing 116 = .ok (.aload_n 0, 1) := dc0 dO_42 (by decide +kernel)
theorem dX8_threeInRing_117 : decode cX8_threeInRing 117 = .ok (.getfield 34, 3) := dcU2 dO_180 (by decide +kernel)
theorem dX8_threeInRing_120 : decode cX8_threeInRing 120 = .ok (.iload 7, 2) := dcU1 dO_21 (by decide +kernel)
theorem dX8_threeInRing_122 : decode cX8_threeInRing 122 = .ok (.aaload, 1) := dc0 dO_50 (by decide +kernel)
theorem dX8_threeInRing_123 : decode cX8_threeInRing 123 = .ok (.aload_n 0, 1) := dc0 dO_42 (by decide +kernel)
theorem dX8_threeInRing_124 : decode cX8_threeInRing 124 = .ok (.getfield 34, 3) := dcU2 dO_180 (by decide +kernel)
theorem dX8_threeInRing_127 : decode cX8_threeInRing 127 = .ok (.iload 5, 2) := dcU1 dO_21 (by decide +kernel)
theorem sfx_cX8_threeInRing_128 : (cX8_threeInRing.data.toList.drop 128).take 67 = [5, 50, 182, 0, 235, 153, 0, 37, 29, 154, 0, 8, 21, 5, 167, 0, 15, 29, 4, 160, 0, 8, 21, 6, 167, 0, 5, 21, 7, 54, 8, 42, 180, 0, 34, 21, 8, 50, 180, 0, 188, 172, 132, 7, 1, 167, 255, 166, 132, 6, 1, 167, 255, 123, 132, 5, 1, 167, 255, 105, 18, 166, 172] := by decide +kernel
theorem dX8_threeInRing_129 : decode cX8_threeInRing 129 = .ok (.aaload, 1) := dc0 dO_50 (rdB.ch sfx_cX8_threeInRing_128 1 rfl (by decide +kernel))
theorem dX8_threeInRing_130 : decode cX8_threeInRing 130 = .ok (.invokevirtual 235, 3) := dcU2 dO_182 (rdU2.ch sfx_cX8_threeInRing_128 2 rfl (by decide +kernel))
theorem dX8_threeInRing_133 : decode cX8_threeInRing 133 = .ok (.ifCond .eq 37, 3) := dcS2 dO_153 (rdS2.ch sfx_cX8_threeInRing_128 5 rfl (by decide +kernel))
theorem dX8_threeInRing_136 : decode cX8_threeInRing 136 = .ok (.iload_n 3, 1) := dc0 dO_29 (rdB.ch sfx_cX8_threeInRing_128 8 rfl (by decide +kernel))
theorem dX8_threeInRing_137 : decode cX8_threeInRing 137 = .ok (.ifCond .ne 8, 3) := dcS2 dO_154 (rdS2.ch sfx_cX8_threeInRing_128 9 rfl (by decide +kernel))
theorem dX8_threeInRing_140 : decode cX8_threeInRing 140 = .ok (.iload 5, 2) := dcU1 dO_21 (rdU1.ch sfx_cX8_threeInRing_128 12 rfl (by decide +kernel))
theorem dX8_threeInRing_142 : decode cX8_threeInRing 142 = .ok (.goto 15, 3) := dcS2 dO_167 (rdS2.ch sfx_cX8_threeInRing_128 14 rfl (by decide +kernel))
theorem dX8_threeInRing_145 : decode cX8_threeInRing 145 = .ok (.iload_n 3, 1) := dc0 dO_29 (rdB.ch sfx_cX8_threeInRing_128 17 rfl (by decide +kernel))
theorem dX8_threeInRing_146 : decode cX8_threeInRing 146 = .ok (.iconst 1, 1) := dc0 dO_4 (rdB.ch sfx_cX8_threeInRing_128 18 rfl (by decide +kernel))
theorem dX8_threeInRing_147 : decode cX8_threeInRing 147 = .ok (.if_icmp .ne 8, 3) := dcS2 dO_160 (rdS2.ch sfx_cX8_threeInRing_128 19 rfl (by decide +kernel))
theorem dX8_threeInRing_150 : decode cX8_threeInRing 150 = .ok (.iload 6, 2) := dcU1 dO_21 (rdU1.ch sfx_cX8_threeInRing_128 22 rfl (by decide +kernel))
theorem dX8_threeInRing_152 : decode cX8_threeInRing 152 = .ok (.goto 5, 3) := dcS2 dO_167 (rdS2.ch sfx_cX8_threeInRing_128 24 rfl (by decide +kernel))
theorem dX8_threeInRing_155 : decode cX8_threeInRing 155 = .ok (.iload 7, 2) := dcU1 dO_21 (rdU1.ch sfx_cX8_threeInRing_128 27 rfl (by decide +kernel))
theorem dX8_threeInRing_157 : decode cX8_threeInRing 157 = .ok (.istore 8, 2) := dcU1 dO_54 (rdU1.ch sfx_cX8_threeInRing_128 29 rfl (by decide +kernel))
theorem dX8_threeInRing_159 : decode cX8_threeInRing 159 = .ok (.aload_n 0, 1) := dc0 dO_42 (rdB.ch sfx_cX8_threeInRing_128 31 rfl (by decide +kernel))
theorem dX8_threeInRing_160 : decode cX8_threeInRing 160 = .ok (.getfield 34, 3) := dcU2 dO_180 (rdU2.ch sfx_cX8_threeInRing_128 32 rfl (by decide +kernel))
theorem dX8_threeInRing_163 : decode cX8_threeInRing 163 = .ok (.iload 8, 2) := dcU1 dO_21 (rdU1.ch sfx_cX8_threeInRing_128 35 rfl (by decide +kernel))
theorem dX8_threeInRing_165 : decode cX8_threeInRing 165 = .ok (.aaload, 1) := dc0 dO_50 (rdB.ch sfx_cX8_threeInRing_128 37 rfl (by decide +kernel))
theorem dX8_threeInRing_166 : decode cX8_threeInRing 166 = .ok (.getfield 188, 3) := dcU2 dO_180 (rdU2.ch sfx_cX8_threeInRing_128 38 rfl (by decide +kernel))
theorem dX8_threeInRing_169 : decode cX8_threeInRing 169 = .ok (.ireturn, 1) := dc0 dO_172 (rdB.ch sfx_cX8_threeInRing_128 41 rfl (by decide +kernel))
theorem dX8_threeInRing_170 : decode cX8_threeInRing 170 = .ok (.iinc 7 1, 3) := dcI dO_132 (rdI.ch sfx_cX8_threeInRing_128 42 rfl (by decide +kernel))
theorem dX8_threeInRing_173 : decode cX8_threeInRing 173 = .ok (.goto (-90), 3) := dcS2 dO_167 (rdS2.ch sfx_cX8_threeInRing_128 45 rfl (by decide +kernel))
theorem dX8_threeInRing_176 : decode cX8_threeInRing 176 = .ok (.iinc 6 1, 3) := dcI dO_132 (rdI.ch sfx_cX8_threeInRing_128 48 rfl (by decide +kernel))
theorem dX8_threeInRing_179 : decode cX8_threeInRing 179 = .ok (.goto (-133), 3) := dcS2 dO_167 (rdS2.ch sfx_cX8_threeInRing_128 51 rfl (by decide +kernel))
theorem dX8_threeInRing_182 : decode cX8_threeInRing 182 = .ok (.iinc 5 1, 3) := dcI dO_132 (rdI.ch sfx_cX8_threeInRing_128 54 rfl (by decide +kernel))
theorem dX8_threeInRing_185 : decode cX8_threeInRing 185 = .ok (.goto (-151), 3) := dcS2 dO_167 (rdS2.ch sfx_cX8_threeInRing_128 57 rfl (by decide +kernel))
theorem dX8_threeInRing_188 : decode cX8_threeInRing 188 = .ok (.ldc 166, 2) := dcU1 dO_18 (rdU1.ch sfx_cX8_threeInRing_128 60 rfl (by decide +kernel))
theorem dX8_threeInRing_190 : decode cX8_threeInRing 190 = .ok (.ireturn, 1) := dc0 dO_172 (rdB.ch sfx_cX8_threeInRing_128 62 rfl (by decide +kernel))
end
