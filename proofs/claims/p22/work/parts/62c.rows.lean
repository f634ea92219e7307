section
set_option maxRecDepth 4000 in
set_option maxHeartbeats 4000000 in
theorem c_X1_doActs_7 {l : Launch} {D : va_G} {c : Nat → ClassId} {H0 : Heap} {sa : Nat × Nat × (Nat → Int32)} {w : mW} {μ : mM} (hw : mWF w) (hT : mT w μ) {a1 : Nat} (hA1 : mAt w a1 231) {p2 : Int} (hp2 : 0 ≤ p2 ∧ p2 ≤ 2000) {p3 : Int} (hp3 : 0 ≤ p3 ∧ p3 ≤ 1000) {p4 : Int} (hp4 : 7 ≤ p4 ∧ p4 ≤ 7) (hIPC : PC w μ) (hIRT : RT μ) (hlen : p2 + 2 * p3 ≤ (w.2.2.1 a1 : Int)) (harg : ∀ i : Int, 0 ≤ i → i < p3 → 0 ≤ μ a1 (p2 + 2 * i + 1).toNat ∧ μ a1 (p2 + 2 * i + 1).toNat ≤ 1000000) : sC (gG l D c H0 sa) mX1_doActs 14 0 0 [.ref 21, .ref a1, iv p2, iv p3, iv p4] (mk w μ) (qV w [21006, 21007, 200004, 200006, 200007, 200008, 201999, 202999] μ (fun μ1 => True)) := by
  refine sC.of rfl (by decide) (le_t rfl) ?_
  refine mr_lvE (lv' := [(0, .ref 21), (1, .ref a1), (2, iv p2), (3, iv p3), (4, iv p4)]) rfl ?_
  obtain ⟨n_1, q2⟩ : ∃ n : Int, (w.2.2.1 a1 : Int) = n := ⟨_, rfl⟩
  have h3 : 0 ≤ n_1 ∧ n_1 ≤ 2000 := lnR (m := 2000) q2 hA1 rfl
  have h4 : p2 + 2 * p3 ≤ n_1 := lnLe q2 hlen
  refine mr_iconst (pc := 0) (z := 0) dX1_doActs_0 ?_
  refine mr_istore (pc := 1) (lv' := [(5, iv 0), (0, .ref 21), (1, .ref a1), (2, iv p2), (3, iv p3), (4, iv p4)]) dX1_doActs_1 (by decide) rfl ?_
  have L1991 : ∀ (nL1991 : Nat) (z1989 : Int) (μ1990 : mM), mT w μ1990 → mF [21006, 21007, 200004, 200006, 200007, 200008, 201999, 202999] w μ μ1990 → (0 ≤ z1989 ∧ z1989 ≤ 1000) → PC w μ1990 → RT μ1990 → (1001 - z1989) < (nL1991 : Int) → sV (gG l D c H0 sa) mX1_doActs (sRm 14 0 0) (sZ (gG l D c H0 sa) 0 0 (qV w [21006, 21007, 200004, 200006, 200007, 200008, 201999, 202999] μ (fun μ1 => True))) 3 [(0, .ref 21), (1, .ref a1), (2, iv p2), (3, iv p3), (4, iv p4), (5, iv z1989)] [] (mk w μ1990) 0 0 := by
    intro nL1991
    induction nL1991 with
    | zero => intro z1989 μ1990 T1993 F1994 h1992 I1996 I1997 h1998; exact ((vc_X1_doActs_12_1 h1998 h1992)).elim
    | succ nL1991 ih1999 =>
      intro z1989 μ1990 T1993 F1994 h1992 I1996 I1997 h1998
      refine mr_iload (pc := 3) (z := z1989) dX1_doActs_3 rfl ?_
      refine mr_iload_n (pc := 5) (z := p3) dX1_doActs_5 rfl rfl ?_
      refine mr_icmp_ge (pc := 6) (tgt := 266) dX1_doActs_6 (by decide) (r32 h1992 rfl) (r32 hp3 rfl) (fun h2000 => ?_) (fun h2000 => ?_)
      · exact mr_vret dX1_doActs_266 rfl (le_t rfl) (le_t rfl) T1993 (mF.call mF.refl F1994 rfl) trivial
      have h2001 : 0 ≤ z1989 ∧ z1989 ≤ 999 := (vc_X1_doActs_12_2 h2000 h4 h3 hp2 hp3 h1992)
      have h2002 : 1 ≤ p3 ∧ p3 ≤ 1000 := (vc_X1_doActs_12_3 h2000 h4 h3 hp2 hp3 h2001)
      refine sv_aload_n (pc := 9) dX1_doActs_9 rfl rfl ?_
      refine gf_X1_7 (pc := 10) dX1_doActs_10 wF_X1_50 (A_21 hw) T1993 fun z2003 q2004 h2005 => ?_
      refine mr_if_ne (pc := 13) (tgt := 266) dX1_doActs_13 (by decide) (r32 h2005 rfl) (fun h2006 => ?_) (fun h2006 => ?_)
      · have h2007 : 1 ≤ z2003 ∧ z2003 ≤ 2 := (vc_X12_provides_3 h2006 h2005)
        exact mr_vret dX1_doActs_266 rfl (le_t rfl) (le_t rfl) T1993 (mF.call mF.refl F1994 rfl) trivial
      have h2008 : 0 ≤ z2003 ∧ z2003 ≤ 0 := (vc_X12_provides_4 h2006 h2005)
      refine sv_aload_n (pc := 16) dX1_doActs_16 rfl rfl ?_
      refine mr_iload_n (pc := 17) (z := p2) dX1_doActs_17 rfl rfl ?_
      refine mr_iload (pc := 18) (z := z1989) dX1_doActs_18 rfl ?_
      refine mr_iconst (pc := 20) (z := 2) dX1_doActs_20 ?_
      refine mr_imul (pc := 21) (x := z1989) (y := 2) dX1_doActs_21 ?_
      refine mr_iadd (pc := 22) (x := p2) (y := (z1989 * 2)) dX1_doActs_22 ?_
      refine mr_iconst (pc := 23) (z := 1) dX1_doActs_23 ?_
      refine mr_iadd (pc := 24) (x := (p2 + (z1989 * 2))) (y := 1) dX1_doActs_24 ?_
      refine la_231 (pc := 25) dX1_doActs_25 hA1 T1993 (lnC q2 (vc_X1_doActs_12_6 h4 h2000 h3 hp2 h2002 h2001)) fun z2009 q2010 h2011 => ?_
      have h2012 : 0 ≤ z2009 ∧ z2009 ≤ 1000000 := argB harg (vc_X1_doActs_12_7 h2000 h4 h3 hp2 h2002 h2001) (vc_X1_doActs_12_8 h4 h2000 h3 hp2 h2002 h2001) (vc_X1_doActs_12_9 h4 h2000 h3 hp2 h2002 h2001) (((mF.call mF.refl F1994 rfl) : mF [21006, 21007, 200004, 200006, 200007, 200008, 201999, 202999] w μ μ1990).f hA1 rfl rfl) q2010
      refine mr_istore (pc := 26) (lv' := [(6, iv z2009), (0, .ref 21), (1, .ref a1), (2, iv p2), (3, iv p3), (4, iv p4), (5, iv z1989)]) dX1_doActs_26 (by decide) rfl ?_
      refine sv_aload_n (pc := 28) dX1_doActs_28 rfl rfl ?_
      refine gf_X1_6 (pc := 29) dX1_doActs_29 wF_X1_47 (A_21 hw) T1993 fun z2013 q2014 h2015 => ?_
      refine mr_sipush (pc := 32) (z := 500) dX1_doActs_32 (by decide) ?_
      refine mr_icmp_lt (pc := 35) (tgt := 44) dX1_doActs_35 (by decide) (r32 h2015 rfl) (r32 (rR (x := 500)) rfl) (fun h2016 => ?_) (fun h2016 => ?_)
      · have h2017 : 0 ≤ z2013 ∧ z2013 ≤ 499 := (vc_X1_doActs_12_10 h2016 h2015)
        refine sv_aload_n (pc := 44) dX1_doActs_44 rfl rfl ?_
        refine sv_dup (pc := 45) dX1_doActs_45 rfl ?_
        refine gk_X1_6 (pc := 46) dX1_doActs_46 wF_X1_47 (A_21 hw) q2014 ?_
        refine mr_iconst (pc := 49) (z := 1) dX1_doActs_49 ?_
        refine mr_iadd (pc := 50) (x := z2013) (y := 1) dX1_doActs_50 ?_
        refine pf_X1_6 (pc := 51) dX1_doActs_51 wF_X1_47 (A_21 hw) T1993 (rW (c := 0) (d := 500) (rAdd (e := 1) (f := 500) h2017 (rR (x := 1)) rfl) rfl) fun μ2018 u2019 T2020 => ?_
        refine sv_aload_n (pc := 54) dX1_doActs_54 rfl rfl ?_
        refine mr_iload_n (pc := 55) (z := p2) dX1_doActs_55 rfl rfl ?_
        refine mr_iload (pc := 56) (z := z1989) dX1_doActs_56 rfl ?_
        refine mr_iconst (pc := 58) (z := 2) dX1_doActs_58 ?_
        refine mr_imul (pc := 59) (x := z1989) (y := 2) dX1_doActs_59 ?_
        refine mr_iadd (pc := 60) (x := p2) (y := (z1989 * 2)) dX1_doActs_60 ?_
        refine la_231 (pc := 61) dX1_doActs_61 hA1 T2020 (lnC q2 (vc_X1_doActs_12_11 h4 h2000 h3 hp2 h2002 h2001)) fun z2021 q2022 h2023 => ?_
        by_cases h2024 : z2021 = 12
        · refine mr_tableIn (pc := 62) (v := 12) (tgt := 184) dX1_doActs_62 h2024 rfl rfl (by decide) ?_
          have h2025 : 12 ≤ z2021 ∧ z2021 ≤ 12 := (vc_X1_doActs_12_12 h2024 h2023)
          refine sv_aload_n (pc := 184) dX1_doActs_184 rfl rfl ?_
          refine gf_X1_2 (pc := 185) dX1_doActs_185 wF_X1_25 (A_21 hw) T2020 (RT.keep I1997 hw ((mF.up mF.refl (A_21 hw) u2019 rfl) : mF [21006] w μ1990 μ2018) rfl) fun b2026 q2027 A2028 => ?_
          refine mr_iload (pc := 188) (z := z2009) dX1_doActs_188 rfl ?_
          refine pf_X7_4 (pc := 190) dX1_doActs_190 wF_X1_105 A2028 T2020 (rW (c := (-2147483648)) (d := 2147483647) h2012 rfl) fun μ2029 u2030 T2031 => ?_
          refine sv_goto (pc := 193) (tgt := 260) dX1_doActs_193 (by decide) ?_
          refine mr_iinc (pc := 260) (lv' := [(5, iv (z1989 + 1)), (6, iv z2009), (0, .ref 21), (1, .ref a1), (2, iv p2), (3, iv p3), (4, iv p4)]) dX1_doActs_260 rfl (by decide) rfl ?_
          refine sv_goto (pc := 263) (tgt := 3) dX1_doActs_263 (by decide) ?_
          refine mr_lvS (lv' := [(0, .ref 21), (1, .ref a1), (2, iv p2), (3, iv p3), (4, iv p4), (5, iv (z1989 + 1))]) (List.forall_mem_cons.mpr ⟨rfl, List.forall_mem_cons.mpr ⟨rfl, List.forall_mem_cons.mpr ⟨rfl, List.forall_mem_cons.mpr ⟨rfl, List.forall_mem_cons.mpr ⟨rfl, List.forall_mem_cons.mpr ⟨rfl, fun _ h => absurd h List.not_mem_nil⟩⟩⟩⟩⟩⟩) ?_
          exact ih1999 (z1989 + 1) μ2029 T2031 (mF.up (mF.up (mF.call mF.refl F1994 rfl) (A_21 hw) u2019 rfl) A2028 u2030 rfl) (rW (c := 0) (d := 1000) (rAdd (e := 1) (f := 1000) h2001 (rR (x := 1)) rfl) rfl) (PC.keep I1996 hw ((mF.up (mF.up mF.refl (A_21 hw) u2019 rfl) A2028 u2030 rfl) : mF [21006, 200004] w μ1990 μ2029) rfl) (RT.keep I1997 hw ((mF.up (mF.up mF.refl (A_21 hw) u2019 rfl) A2028 u2030 rfl) : mF [21006, 200004] w μ1990 μ2029) rfl) (vc_X1_doActs_12_13 (nS h1998) h2000 h4 h3 hp2 h2002 h2001)
        by_cases h2032 : z2021 = 13
        · refine mr_tableIn (pc := 62) (v := 13) (tgt := 196) dX1_doActs_62 h2032 rfl rfl (by decide) ?_
          have h2033 : 13 ≤ z2021 ∧ z2021 ≤ 13 := (vc_X1_doActs_12_14 h2032 h2024 h2023)
          refine sv_aload_n (pc := 196) dX1_doActs_196 rfl rfl ?_
          refine gf_X1_2 (pc := 197) dX1_doActs_197 wF_X1_25 (A_21 hw) T2020 (RT.keep I1997 hw ((mF.up mF.refl (A_21 hw) u2019 rfl) : mF [21006] w μ1990 μ2018) rfl) fun b2034 q2035 A2036 => ?_
          refine mr_iload (pc := 200) (z := z2009) dX1_doActs_200 rfl ?_
          refine pf_X7_6 (pc := 202) dX1_doActs_202 wF_X1_108 A2036 T2020 (rW (c := (-2147483648)) (d := 2147483647) h2012 rfl) fun μ2037 u2038 T2039 => ?_
          refine sv_goto (pc := 205) (tgt := 260) dX1_doActs_205 (by decide) ?_
          refine mr_iinc (pc := 260) (lv' := [(5, iv (z1989 + 1)), (6, iv z2009), (0, .ref 21), (1, .ref a1), (2, iv p2), (3, iv p3), (4, iv p4)]) dX1_doActs_260 rfl (by decide) rfl ?_
          refine sv_goto (pc := 263) (tgt := 3) dX1_doActs_263 (by decide) ?_
          refine mr_lvS (lv' := [(0, .ref 21), (1, .ref a1), (2, iv p2), (3, iv p3), (4, iv p4), (5, iv (z1989 + 1))]) (List.forall_mem_cons.mpr ⟨rfl, List.forall_mem_cons.mpr ⟨rfl, List.forall_mem_cons.mpr ⟨rfl, List.forall_mem_cons.mpr ⟨rfl, List.forall_mem_cons.mpr ⟨rfl, List.forall_mem_cons.mpr ⟨rfl, fun _ h => absurd h List.not_mem_nil⟩⟩⟩⟩⟩⟩) ?_
          exact ih1999 (z1989 + 1) μ2037 T2039 (mF.up (mF.up (mF.call mF.refl F1994 rfl) (A_21 hw) u2019 rfl) A2036 u2038 rfl) (rW (c := 0) (d := 1000) (rAdd (e := 1) (f := 1000) h2001 (rR (x := 1)) rfl) rfl) (PC.keep I1996 hw ((mF.up (mF.up mF.refl (A_21 hw) u2019 rfl) A2036 u2038 rfl) : mF [21006, 200006] w μ1990 μ2037) rfl) (RT.keep I1997 hw ((mF.up (mF.up mF.refl (A_21 hw) u2019 rfl) A2036 u2038 rfl) : mF [21006, 200006] w μ1990 μ2037) rfl) (vc_X1_doActs_12_13 (nS h1998) h2000 h4 h3 hp2 h2002 h2001)
        by_cases h2040 : z2021 = 14
        · refine mr_tableIn (pc := 62) (v := 14) (tgt := 260) dX1_doActs_62 h2040 rfl rfl (by decide) ?_
          have h2041 : 14 ≤ z2021 ∧ z2021 ≤ 14 := (vc_X1_doActs_12_15 h2040 h2024 h2032 h2023)
          refine mr_iinc (pc := 260) (lv' := [(5, iv (z1989 + 1)), (6, iv z2009), (0, .ref 21), (1, .ref a1), (2, iv p2), (3, iv p3), (4, iv p4)]) dX1_doActs_260 rfl (by decide) rfl ?_
          refine sv_goto (pc := 263) (tgt := 3) dX1_doActs_263 (by decide) ?_
          refine mr_lvS (lv' := [(0, .ref 21), (1, .ref a1), (2, iv p2), (3, iv p3), (4, iv p4), (5, iv (z1989 + 1))]) (List.forall_mem_cons.mpr ⟨rfl, List.forall_mem_cons.mpr ⟨rfl, List.forall_mem_cons.mpr ⟨rfl, List.forall_mem_cons.mpr ⟨rfl, List.forall_mem_cons.mpr ⟨rfl, List.forall_mem_cons.mpr ⟨rfl, fun _ h => absurd h List.not_mem_nil⟩⟩⟩⟩⟩⟩) ?_
          exact ih1999 (z1989 + 1) μ2018 T2020 (mF.up (mF.call mF.refl F1994 rfl) (A_21 hw) u2019 rfl) (rW (c := 0) (d := 1000) (rAdd (e := 1) (f := 1000) h2001 (rR (x := 1)) rfl) rfl) (PC.keep I1996 hw ((mF.up mF.refl (A_21 hw) u2019 rfl) : mF [21006] w μ1990 μ2018) rfl) (RT.keep I1997 hw ((mF.up mF.refl (A_21 hw) u2019 rfl) : mF [21006] w μ1990 μ2018) rfl) (vc_X1_doActs_12_13 (nS h1998) h2000 h4 h3 hp2 h2002 h2001)
        by_cases h2042 : z2021 = 15
        · refine mr_tableIn (pc := 62) (v := 15) (tgt := 260) dX1_doActs_62 h2042 rfl rfl (by decide) ?_
          have h2043 : 15 ≤ z2021 ∧ z2021 ≤ 15 := (vc_X1_doActs_12_16 h2042 h2024 h2032 h2040 h2023)
          refine mr_iinc (pc := 260) (lv' := [(5, iv (z1989 + 1)), (6, iv z2009), (0, .ref 21), (1, .ref a1), (2, iv p2), (3, iv p3), (4, iv p4)]) dX1_doActs_260 rfl (by decide) rfl ?_
          refine sv_goto (pc := 263) (tgt := 3) dX1_doActs_263 (by decide) ?_
          refine mr_lvS (lv' := [(0, .ref 21), (1, .ref a1), (2, iv p2), (3, iv p3), (4, iv p4), (5, iv (z1989 + 1))]) (List.forall_mem_cons.mpr ⟨rfl, List.forall_mem_cons.mpr ⟨rfl, List.forall_mem_cons.mpr ⟨rfl, List.forall_mem_cons.mpr ⟨rfl, List.forall_mem_cons.mpr ⟨rfl, List.forall_mem_cons.mpr ⟨rfl, fun _ h => absurd h List.not_mem_nil⟩⟩⟩⟩⟩⟩) ?_
          exact ih1999 (z1989 + 1) μ2018 T2020 (mF.up (mF.call mF.refl F1994 rfl) (A_21 hw) u2019 rfl) (rW (c := 0) (d := 1000) (rAdd (e := 1) (f := 1000) h2001 (rR (x := 1)) rfl) rfl) (PC.keep I1996 hw ((mF.up mF.refl (A_21 hw) u2019 rfl) : mF [21006] w μ1990 μ2018) rfl) (RT.keep I1997 hw ((mF.up mF.refl (A_21 hw) u2019 rfl) : mF [21006] w μ1990 μ2018) rfl) (vc_X1_doActs_12_13 (nS h1998) h2000 h4 h3 hp2 h2002 h2001)
        by_cases h2044 : z2021 = 16
        · refine mr_tableIn (pc := 62) (v := 16) (tgt := 260) dX1_doActs_62 h2044 rfl rfl (by decide) ?_
          have h2045 : 16 ≤ z2021 ∧ z2021 ≤ 16 := (vc_X1_doActs_12_17 h2044 h2024 h2032 h2040 h2042 h2023)
          refine mr_iinc (pc := 260) (lv' := [(5, iv (z1989 + 1)), (6, iv z2009), (0, .ref 21), (1, .ref a1), (2, iv p2), (3, iv p3), (4, iv p4)]) dX1_doActs_260 rfl (by decide) rfl ?_
          refine sv_goto (pc := 263) (tgt := 3) dX1_doActs_263 (by decide) ?_
          refine mr_lvS (lv' := [(0, .ref 21), (1, .ref a1), (2, iv p2), (3, iv p3), (4, iv p4), (5, iv (z1989 + 1))]) (List.forall_mem_cons.mpr ⟨rfl, List.forall_mem_cons.mpr ⟨rfl, List.forall_mem_cons.mpr ⟨rfl, List.forall_mem_cons.mpr ⟨rfl, List.forall_mem_cons.mpr ⟨rfl, List.forall_mem_cons.mpr ⟨rfl, fun _ h => absurd h List.not_mem_nil⟩⟩⟩⟩⟩⟩) ?_
          exact ih1999 (z1989 + 1) μ2018 T2020 (mF.up (mF.call mF.refl F1994 rfl) (A_21 hw) u2019 rfl) (rW (c := 0) (d := 1000) (rAdd (e := 1) (f := 1000) h2001 (rR (x := 1)) rfl) rfl) (PC.keep I1996 hw ((mF.up mF.refl (A_21 hw) u2019 rfl) : mF [21006] w μ1990 μ2018) rfl) (RT.keep I1997 hw ((mF.up mF.refl (A_21 hw) u2019 rfl) : mF [21006] w μ1990 μ2018) rfl) (vc_X1_doActs_12_13 (nS h1998) h2000 h4 h3 hp2 h2002 h2001)
        by_cases h2046 : z2021 = 17
        · refine mr_tableIn (pc := 62) (v := 17) (tgt := 260) dX1_doActs_62 h2046 rfl rfl (by decide) ?_
          have h2047 : 17 ≤ z2021 ∧ z2021 ≤ 17 := (vc_X1_doActs_12_18 h2046 h2024 h2032 h2040 h2042 h2044 h2023)
          refine mr_iinc (pc := 260) (lv' := [(5, iv (z1989 + 1)), (6, iv z2009), (0, .ref 21), (1, .ref a1), (2, iv p2), (3, iv p3), (4, iv p4)]) dX1_doActs_260 rfl (by decide) rfl ?_
          refine sv_goto (pc := 263) (tgt := 3) dX1_doActs_263 (by decide) ?_
          refine mr_lvS (lv' := [(0, .ref 21), (1, .ref a1), (2, iv p2), (3, iv p3), (4, iv p4), (5, iv (z1989 + 1))]) (List.forall_mem_cons.mpr ⟨rfl, List.forall_mem_cons.mpr ⟨rfl, List.forall_mem_cons.mpr ⟨rfl, List.forall_mem_cons.mpr ⟨rfl, List.forall_mem_cons.mpr ⟨rfl, List.forall_mem_cons.mpr ⟨rfl, fun _ h => absurd h List.not_mem_nil⟩⟩⟩⟩⟩⟩) ?_
          exact ih1999 (z1989 + 1) μ2018 T2020 (mF.up (mF.call mF.refl F1994 rfl) (A_21 hw) u2019 rfl) (rW (c := 0) (d := 1000) (rAdd (e := 1) (f := 1000) h2001 (rR (x := 1)) rfl) rfl) (PC.keep I1996 hw ((mF.up mF.refl (A_21 hw) u2019 rfl) : mF [21006] w μ1990 μ2018) rfl) (RT.keep I1997 hw ((mF.up mF.refl (A_21 hw) u2019 rfl) : mF [21006] w μ1990 μ2018) rfl) (vc_X1_doActs_12_13 (nS h1998) h2000 h4 h3 hp2 h2002 h2001)
        by_cases h2048 : z2021 = 18
        · refine mr_tableIn (pc := 62) (v := 18) (tgt := 260) dX1_doActs_62 h2048 rfl rfl (by decide) ?_
          have h2049 : 18 ≤ z2021 ∧ z2021 ≤ 18 := (vc_X1_doActs_12_19 h2048 h2024 h2032 h2040 h2042 h2044 h2046 h2023)
          refine mr_iinc (pc := 260) (lv' := [(5, iv (z1989 + 1)), (6, iv z2009), (0, .ref 21), (1, .ref a1), (2, iv p2), (3, iv p3), (4, iv p4)]) dX1_doActs_260 rfl (by decide) rfl ?_
          refine sv_goto (pc := 263) (tgt := 3) dX1_doActs_263 (by decide) ?_
          refine mr_lvS (lv' := [(0, .ref 21), (1, .ref a1), (2, iv p2), (3, iv p3), (4, iv p4), (5, iv (z1989 + 1))]) (List.forall_mem_cons.mpr ⟨rfl, List.forall_mem_cons.mpr ⟨rfl, List.forall_mem_cons.mpr ⟨rfl, List.forall_mem_cons.mpr ⟨rfl, List.forall_mem_cons.mpr ⟨rfl, List.forall_mem_cons.mpr ⟨rfl, fun _ h => absurd h List.not_mem_nil⟩⟩⟩⟩⟩⟩) ?_
          exact ih1999 (z1989 + 1) μ2018 T2020 (mF.up (mF.call mF.refl F1994 rfl) (A_21 hw) u2019 rfl) (rW (c := 0) (d := 1000) (rAdd (e := 1) (f := 1000) h2001 (rR (x := 1)) rfl) rfl) (PC.keep I1996 hw ((mF.up mF.refl (A_21 hw) u2019 rfl) : mF [21006] w μ1990 μ2018) rfl) (RT.keep I1997 hw ((mF.up mF.refl (A_21 hw) u2019 rfl) : mF [21006] w μ1990 μ2018) rfl) (vc_X1_doActs_12_13 (nS h1998) h2000 h4 h3 hp2 h2002 h2001)
        by_cases h2050 : z2021 = 19
        · refine mr_tableIn (pc := 62) (v := 19) (tgt := 260) dX1_doActs_62 h2050 rfl rfl (by decide) ?_
          have h2051 : 19 ≤ z2021 ∧ z2021 ≤ 19 := (vc_X1_doActs_12_20 h2050 h2024 h2032 h2040 h2042 h2044 h2046 h2048 h2023)
          refine mr_iinc (pc := 260) (lv' := [(5, iv (z1989 + 1)), (6, iv z2009), (0, .ref 21), (1, .ref a1), (2, iv p2), (3, iv p3), (4, iv p4)]) dX1_doActs_260 rfl (by decide) rfl ?_
          refine sv_goto (pc := 263) (tgt := 3) dX1_doActs_263 (by decide) ?_
          refine mr_lvS (lv' := [(0, .ref 21), (1, .ref a1), (2, iv p2), (3, iv p3), (4, iv p4), (5, iv (z1989 + 1))]) (List.forall_mem_cons.mpr ⟨rfl, List.forall_mem_cons.mpr ⟨rfl, List.forall_mem_cons.mpr ⟨rfl, List.forall_mem_cons.mpr ⟨rfl, List.forall_mem_cons.mpr ⟨rfl, List.forall_mem_cons.mpr ⟨rfl, fun _ h => absurd h List.not_mem_nil⟩⟩⟩⟩⟩⟩) ?_
          exact ih1999 (z1989 + 1) μ2018 T2020 (mF.up (mF.call mF.refl F1994 rfl) (A_21 hw) u2019 rfl) (rW (c := 0) (d := 1000) (rAdd (e := 1) (f := 1000) h2001 (rR (x := 1)) rfl) rfl) (PC.keep I1996 hw ((mF.up mF.refl (A_21 hw) u2019 rfl) : mF [21006] w μ1990 μ2018) rfl) (RT.keep I1997 hw ((mF.up mF.refl (A_21 hw) u2019 rfl) : mF [21006] w μ1990 μ2018) rfl) (vc_X1_doActs_12_13 (nS h1998) h2000 h4 h3 hp2 h2002 h2001)
        by_cases h2052 : z2021 = 20
        · refine mr_tableIn (pc := 62) (v := 20) (tgt := 260) dX1_doActs_62 h2052 rfl rfl (by decide) ?_
          have h2053 : 20 ≤ z2021 ∧ z2021 ≤ 20 := (vc_X1_doActs_12_21 h2052 h2032 h2040 h2042 h2044 h2046 h2048 h2050 h2023)
          refine mr_iinc (pc := 260) (lv' := [(5, iv (z1989 + 1)), (6, iv z2009), (0, .ref 21), (1, .ref a1), (2, iv p2), (3, iv p3), (4, iv p4)]) dX1_doActs_260 rfl (by decide) rfl ?_
          refine sv_goto (pc := 263) (tgt := 3) dX1_doActs_263 (by decide) ?_
          refine mr_lvS (lv' := [(0, .ref 21), (1, .ref a1), (2, iv p2), (3, iv p3), (4, iv p4), (5, iv (z1989 + 1))]) (List.forall_mem_cons.mpr ⟨rfl, List.forall_mem_cons.mpr ⟨rfl, List.forall_mem_cons.mpr ⟨rfl, List.forall_mem_cons.mpr ⟨rfl, List.forall_mem_cons.mpr ⟨rfl, List.forall_mem_cons.mpr ⟨rfl, fun _ h => absurd h List.not_mem_nil⟩⟩⟩⟩⟩⟩) ?_
          exact ih1999 (z1989 + 1) μ2018 T2020 (mF.up (mF.call mF.refl F1994 rfl) (A_21 hw) u2019 rfl) (rW (c := 0) (d := 1000) (rAdd (e := 1) (f := 1000) h2001 (rR (x := 1)) rfl) rfl) (PC.keep I1996 hw ((mF.up mF.refl (A_21 hw) u2019 rfl) : mF [21006] w μ1990 μ2018) rfl) (RT.keep I1997 hw ((mF.up mF.refl (A_21 hw) u2019 rfl) : mF [21006] w μ1990 μ2018) rfl) (vc_X1_doActs_12_13 (nS h1998) h2000 h4 h3 hp2 h2002 h2001)
        by_cases h2054 : z2021 = 21
        · refine mr_tableIn (pc := 62) (v := 21) (tgt := 260) dX1_doActs_62 h2054 rfl rfl (by decide) ?_
          have h2055 : 21 ≤ z2021 ∧ z2021 ≤ 21 := (vc_X1_doActs_12_22 h2054 h2040 h2042 h2044 h2046 h2048 h2050 h2052 h2023)
          refine mr_iinc (pc := 260) (lv' := [(5, iv (z1989 + 1)), (6, iv z2009), (0, .ref 21), (1, .ref a1), (2, iv p2), (3, iv p3), (4, iv p4)]) dX1_doActs_260 rfl (by decide) rfl ?_
          refine sv_goto (pc := 263) (tgt := 3) dX1_doActs_263 (by decide) ?_
          refine mr_lvS (lv' := [(0, .ref 21), (1, .ref a1), (2, iv p2), (3, iv p3), (4, iv p4), (5, iv (z1989 + 1))]) (List.forall_mem_cons.mpr ⟨rfl, List.forall_mem_cons.mpr ⟨rfl, List.forall_mem_cons.mpr ⟨rfl, List.forall_mem_cons.mpr ⟨rfl, List.forall_mem_cons.mpr ⟨rfl, List.forall_mem_cons.mpr ⟨rfl, fun _ h => absurd h List.not_mem_nil⟩⟩⟩⟩⟩⟩) ?_
          exact ih1999 (z1989 + 1) μ2018 T2020 (mF.up (mF.call mF.refl F1994 rfl) (A_21 hw) u2019 rfl) (rW (c := 0) (d := 1000) (rAdd (e := 1) (f := 1000) h2001 (rR (x := 1)) rfl) rfl) (PC.keep I1996 hw ((mF.up mF.refl (A_21 hw) u2019 rfl) : mF [21006] w μ1990 μ2018) rfl) (RT.keep I1997 hw ((mF.up mF.refl (A_21 hw) u2019 rfl) : mF [21006] w μ1990 μ2018) rfl) (vc_X1_doActs_12_13 (nS h1998) h2000 h4 h3 hp2 h2002 h2001)
        by_cases h2056 : z2021 = 22
        · refine mr_tableIn (pc := 62) (v := 22) (tgt := 260) dX1_doActs_62 h2056 rfl rfl (by decide) ?_
          have h2057 : 22 ≤ z2021 ∧ z2021 ≤ 22 := (vc_X1_doActs_12_23 h2056 h2042 h2044 h2046 h2048 h2050 h2052 h2054 h2023)
          refine mr_iinc (pc := 260) (lv' := [(5, iv (z1989 + 1)), (6, iv z2009), (0, .ref 21), (1, .ref a1), (2, iv p2), (3, iv p3), (4, iv p4)]) dX1_doActs_260 rfl (by decide) rfl ?_
          refine sv_goto (pc := 263) (tgt := 3) dX1_doActs_263 (by decide) ?_
          refine mr_lvS (lv' := [(0, .ref 21), (1, .ref a1), (2, iv p2), (3, iv p3), (4, iv p4), (5, iv (z1989 + 1))]) (List.forall_mem_cons.mpr ⟨rfl, List.forall_mem_cons.mpr ⟨rfl, List.forall_mem_cons.mpr ⟨rfl, List.forall_mem_cons.mpr ⟨rfl, List.forall_mem_cons.mpr ⟨rfl, List.forall_mem_cons.mpr ⟨rfl, fun _ h => absurd h List.not_mem_nil⟩⟩⟩⟩⟩⟩) ?_
          exact ih1999 (z1989 + 1) μ2018 T2020 (mF.up (mF.call mF.refl F1994 rfl) (A_21 hw) u2019 rfl) (rW (c := 0) (d := 1000) (rAdd (e := 1) (f := 1000) h2001 (rR (x := 1)) rfl) rfl) (PC.keep I1996 hw ((mF.up mF.refl (A_21 hw) u2019 rfl) : mF [21006] w μ1990 μ2018) rfl) (RT.keep I1997 hw ((mF.up mF.refl (A_21 hw) u2019 rfl) : mF [21006] w μ1990 μ2018) rfl) (vc_X1_doActs_12_13 (nS h1998) h2000 h4 h3 hp2 h2002 h2001)
        by_cases h2058 : z2021 = 23
        · refine mr_tableIn (pc := 62) (v := 23) (tgt := 144) dX1_doActs_62 h2058 rfl rfl (by decide) ?_
          have h2059 : 23 ≤ z2021 ∧ z2021 ≤ 23 := (vc_X1_doActs_12_24 h2058 h2044 h2046 h2048 h2050 h2052 h2054 h2056 h2023)
          refine sv_aload_n (pc := 144) dX1_doActs_144 rfl rfl ?_
          refine mr_iconst (pc := 145) (z := 1) dX1_doActs_145 ?_
          refine pf_X1_7 (pc := 146) dX1_doActs_146 wF_X1_50 (A_21 hw) T2020 (rW (c := 0) (d := 2) (rR (x := 1)) rfl) fun μ2060 u2061 T2062 => ?_
          refine sv_goto (pc := 149) (tgt := 260) dX1_doActs_149 (by decide) ?_
          refine mr_iinc (pc := 260) (lv' := [(5, iv (z1989 + 1)), (6, iv z2009), (0, .ref 21), (1, .ref a1), (2, iv p2), (3, iv p3), (4, iv p4)]) dX1_doActs_260 rfl (by decide) rfl ?_
          refine sv_goto (pc := 263) (tgt := 3) dX1_doActs_263 (by decide) ?_
          refine mr_lvS (lv' := [(0, .ref 21), (1, .ref a1), (2, iv p2), (3, iv p3), (4, iv p4), (5, iv (z1989 + 1))]) (List.forall_mem_cons.mpr ⟨rfl, List.forall_mem_cons.mpr ⟨rfl, List.forall_mem_cons.mpr ⟨rfl, List.forall_mem_cons.mpr ⟨rfl, List.forall_mem_cons.mpr ⟨rfl, List.forall_mem_cons.mpr ⟨rfl, fun _ h => absurd h List.not_mem_nil⟩⟩⟩⟩⟩⟩) ?_
          exact ih1999 (z1989 + 1) μ2060 T2062 (mF.up (mF.up (mF.call mF.refl F1994 rfl) (A_21 hw) u2019 rfl) (A_21 hw) u2061 rfl) (rW (c := 0) (d := 1000) (rAdd (e := 1) (f := 1000) h2001 (rR (x := 1)) rfl) rfl) (PC.keep I1996 hw ((mF.up (mF.up mF.refl (A_21 hw) u2019 rfl) (A_21 hw) u2061 rfl) : mF [21006, 21007] w μ1990 μ2060) rfl) (RT.keep I1997 hw ((mF.up (mF.up mF.refl (A_21 hw) u2019 rfl) (A_21 hw) u2061 rfl) : mF [21006, 21007] w μ1990 μ2060) rfl) (vc_X1_doActs_12_13 (nS h1998) h2000 h4 h3 hp2 h2002 h2001)
        by_cases h2063 : z2021 = 24
        · refine mr_tableIn (pc := 62) (v := 24) (tgt := 152) dX1_doActs_62 h2063 rfl rfl (by decide) ?_
          have h2064 : 24 ≤ z2021 ∧ z2021 ≤ 24 := (vc_X1_doActs_12_25 h2063 h2046 h2048 h2050 h2052 h2054 h2056 h2058 h2023)
          refine sv_aload_n (pc := 152) dX1_doActs_152 rfl rfl ?_
          refine mr_iconst (pc := 153) (z := 2) dX1_doActs_153 ?_
          refine pf_X1_7 (pc := 154) dX1_doActs_154 wF_X1_50 (A_21 hw) T2020 (rW (c := 0) (d := 2) (rR (x := 2)) rfl) fun μ2065 u2066 T2067 => ?_
          refine sv_goto (pc := 157) (tgt := 260) dX1_doActs_157 (by decide) ?_
          refine mr_iinc (pc := 260) (lv' := [(5, iv (z1989 + 1)), (6, iv z2009), (0, .ref 21), (1, .ref a1), (2, iv p2), (3, iv p3), (4, iv p4)]) dX1_doActs_260 rfl (by decide) rfl ?_
          refine sv_goto (pc := 263) (tgt := 3) dX1_doActs_263 (by decide) ?_
          refine mr_lvS (lv' := [(0, .ref 21), (1, .ref a1), (2, iv p2), (3, iv p3), (4, iv p4), (5, iv (z1989 + 1))]) (List.forall_mem_cons.mpr ⟨rfl, List.forall_mem_cons.mpr ⟨rfl, List.forall_mem_cons.mpr ⟨rfl, List.forall_mem_cons.mpr ⟨rfl, List.forall_mem_cons.mpr ⟨rfl, List.forall_mem_cons.mpr ⟨rfl, fun _ h => absurd h List.not_mem_nil⟩⟩⟩⟩⟩⟩) ?_
          exact ih1999 (z1989 + 1) μ2065 T2067 (mF.up (mF.up (mF.call mF.refl F1994 rfl) (A_21 hw) u2019 rfl) (A_21 hw) u2066 rfl) (rW (c := 0) (d := 1000) (rAdd (e := 1) (f := 1000) h2001 (rR (x := 1)) rfl) rfl) (PC.keep I1996 hw ((mF.up (mF.up mF.refl (A_21 hw) u2019 rfl) (A_21 hw) u2066 rfl) : mF [21006, 21007] w μ1990 μ2065) rfl) (RT.keep I1997 hw ((mF.up (mF.up mF.refl (A_21 hw) u2019 rfl) (A_21 hw) u2066 rfl) : mF [21006, 21007] w μ1990 μ2065) rfl) (vc_X1_doActs_12_13 (nS h1998) h2000 h4 h3 hp2 h2002 h2001)
        by_cases h2068 : z2021 = 25
        · refine mr_tableIn (pc := 62) (v := 25) (tgt := 160) dX1_doActs_62 h2068 rfl rfl (by decide) ?_
          have h2069 : 25 ≤ z2021 ∧ z2021 ≤ 25 := (vc_X1_doActs_12_26 h2068 h2048 h2050 h2052 h2054 h2056 h2058 h2063 h2023)
          refine sv_aload_n (pc := 160) dX1_doActs_160 rfl rfl ?_
          refine gf_X1_2 (pc := 161) dX1_doActs_161 wF_X1_25 (A_21 hw) T2020 (RT.keep I1997 hw ((mF.up mF.refl (A_21 hw) u2019 rfl) : mF [21006] w μ1990 μ2018) rfl) fun b2070 q2071 A2072 => ?_
          refine mr_iload (pc := 164) (z := z2009) dX1_doActs_164 rfl ?_
          refine mr_cVV (pc := 166) (c_X7_addMark hw T2020 A2072 (rW (c := (-2147483648)) (d := 2147483647) h2012 rfl)) (gOk _ _ _ _ _) dX1_doActs_166 (tX7_addMark _ _ _ _ _) ⟨wV_X7_addMark, wL_X7_addMark⟩ wM_X1_124 (gCX7 _ _ _ _ _) rfl A2072 rfl ⟨le_t rfl, le_t rfl⟩ ⟨le_t rfl, le_t rfl⟩ rfl (le_t rfl) fun μ2073 T2074 F2075 h2076 => ?_
          refine sv_goto (pc := 169) (tgt := 260) dX1_doActs_169 (by decide) ?_
          refine mr_iinc (pc := 260) (lv' := [(5, iv (z1989 + 1)), (6, iv z2009), (0, .ref 21), (1, .ref a1), (2, iv p2), (3, iv p3), (4, iv p4)]) dX1_doActs_260 rfl (by decide) rfl ?_
          refine sv_goto (pc := 263) (tgt := 3) dX1_doActs_263 (by decide) ?_
          refine mr_lvS (lv' := [(0, .ref 21), (1, .ref a1), (2, iv p2), (3, iv p3), (4, iv p4), (5, iv (z1989 + 1))]) (List.forall_mem_cons.mpr ⟨rfl, List.forall_mem_cons.mpr ⟨rfl, List.forall_mem_cons.mpr ⟨rfl, List.forall_mem_cons.mpr ⟨rfl, List.forall_mem_cons.mpr ⟨rfl, List.forall_mem_cons.mpr ⟨rfl, fun _ h => absurd h List.not_mem_nil⟩⟩⟩⟩⟩⟩) ?_
          exact ih1999 (z1989 + 1) μ2073 T2074 (mF.call (mF.up (mF.call mF.refl F1994 rfl) (A_21 hw) u2019 rfl) F2075 rfl) (rW (c := 0) (d := 1000) (rAdd (e := 1) (f := 1000) h2001 (rR (x := 1)) rfl) rfl) (PC.keep I1996 hw ((mF.call (mF.up mF.refl (A_21 hw) u2019 rfl) F2075 rfl) : mF [21006, 200008, 202999] w μ1990 μ2073) rfl) (RT.keep I1997 hw ((mF.call (mF.up mF.refl (A_21 hw) u2019 rfl) F2075 rfl) : mF [21006, 200008, 202999] w μ1990 μ2073) rfl) (vc_X1_doActs_12_13 (nS h1998) h2000 h4 h3 hp2 h2002 h2001)
        by_cases h2077 : z2021 = 26
        · refine mr_tableIn (pc := 62) (v := 26) (tgt := 172) dX1_doActs_62 h2077 rfl rfl (by decide) ?_
          have h2078 : 26 ≤ z2021 ∧ z2021 ≤ 26 := (vc_X1_doActs_12_27 h2077 h2050 h2052 h2054 h2056 h2058 h2063 h2068 h2023)
          refine sv_aload_n (pc := 172) dX1_doActs_172 rfl rfl ?_
          refine gf_X1_2 (pc := 173) dX1_doActs_173 wF_X1_25 (A_21 hw) T2020 (RT.keep I1997 hw ((mF.up mF.refl (A_21 hw) u2019 rfl) : mF [21006] w μ1990 μ2018) rfl) fun b2079 q2080 A2081 => ?_
          refine mr_iload (pc := 176) (z := z2009) dX1_doActs_176 rfl ?_
          refine mr_cVV (pc := 178) (c_X7_dropMark hw T2020 A2081 (rW (c := (-2147483648)) (d := 2147483647) h2012 rfl)) (gOk _ _ _ _ _) dX1_doActs_178 (tX7_dropMark _ _ _ _ _) ⟨wV_X7_dropMark, wL_X7_dropMark⟩ wM_X1_128 (gCX7 _ _ _ _ _) rfl A2081 rfl ⟨le_t rfl, le_t rfl⟩ ⟨le_t rfl, le_t rfl⟩ rfl (le_t rfl) fun μ2082 T2083 F2084 h2085 => ?_
          refine sv_goto (pc := 181) (tgt := 260) dX1_doActs_181 (by decide) ?_
          refine mr_iinc (pc := 260) (lv' := [(5, iv (z1989 + 1)), (6, iv z2009), (0, .ref 21), (1, .ref a1), (2, iv p2), (3, iv p3), (4, iv p4)]) dX1_doActs_260 rfl (by decide) rfl ?_
          refine sv_goto (pc := 263) (tgt := 3) dX1_doActs_263 (by decide) ?_
          refine mr_lvS (lv' := [(0, .ref 21), (1, .ref a1), (2, iv p2), (3, iv p3), (4, iv p4), (5, iv (z1989 + 1))]) (List.forall_mem_cons.mpr ⟨rfl, List.forall_mem_cons.mpr ⟨rfl, List.forall_mem_cons.mpr ⟨rfl, List.forall_mem_cons.mpr ⟨rfl, List.forall_mem_cons.mpr ⟨rfl, List.forall_mem_cons.mpr ⟨rfl, fun _ h => absurd h List.not_mem_nil⟩⟩⟩⟩⟩⟩) ?_
          exact ih1999 (z1989 + 1) μ2082 T2083 (mF.call (mF.up (mF.call mF.refl F1994 rfl) (A_21 hw) u2019 rfl) F2084 rfl) (rW (c := 0) (d := 1000) (rAdd (e := 1) (f := 1000) h2001 (rR (x := 1)) rfl) rfl) (PC.keep I1996 hw ((mF.call (mF.up mF.refl (A_21 hw) u2019 rfl) F2084 rfl) : mF [21006, 200008, 202999] w μ1990 μ2082) rfl) (RT.keep I1997 hw ((mF.call (mF.up mF.refl (A_21 hw) u2019 rfl) F2084 rfl) : mF [21006, 200008, 202999] w μ1990 μ2082) rfl) (vc_X1_doActs_12_13 (nS h1998) h2000 h4 h3 hp2 h2002 h2001)
        by_cases h2086 : z2021 = 27
        · refine mr_tableIn (pc := 62) (v := 27) (tgt := 208) dX1_doActs_62 h2086 rfl rfl (by decide) ?_
          have h2087 : 27 ≤ z2021 ∧ z2021 ≤ 27 := (vc_X1_doActs_12_28 h2086 h2052 h2054 h2056 h2058 h2063 h2068 h2077 h2023)
          refine sv_aload_n (pc := 208) dX1_doActs_208 rfl rfl ?_
          refine gf_X1_2 (pc := 209) dX1_doActs_209 wF_X1_25 (A_21 hw) T2020 (RT.keep I1997 hw ((mF.up mF.refl (A_21 hw) u2019 rfl) : mF [21006] w μ1990 μ2018) rfl) fun b2088 q2089 A2090 => ?_
          refine gf_X7_7 (pc := 212) dX1_doActs_212 wF_X1_96 A2090 T2020 fun z2091 q2092 h2093 => ?_
          have J2116 : ∀ (μ2110 : mM), (mT w μ2110) → (mF [21007, 200007, 201999] w μ2018 μ2110) → (PC w μ2110) → (RT μ2110) → sV (gG l D c H0 sa) mX1_doActs (sRm 14 0 0) (sZ (gG l D c H0 sa) 0 0 (qV w [21006, 21007, 200004, 200006, 200007, 200008, 201999, 202999] μ (fun μ1 => True))) 260 [(0, .ref 21), (1, .ref a1), (2, iv p2), (3, iv p3), (4, iv p4), (5, iv z1989)] [] (mk w μ2110) 0 0 := by
            intro μ2110 T2111 F2112 I2114 I2115
            refine mr_iinc (pc := 260) (lv' := [(5, iv (z1989 + 1)), (0, .ref 21), (1, .ref a1), (2, iv p2), (3, iv p3), (4, iv p4)]) dX1_doActs_260 rfl (by decide) rfl ?_
            refine sv_goto (pc := 263) (tgt := 3) dX1_doActs_263 (by decide) ?_
            refine mr_lvS (lv' := [(0, .ref 21), (1, .ref a1), (2, iv p2), (3, iv p3), (4, iv p4), (5, iv (z1989 + 1))]) (List.forall_mem_cons.mpr ⟨rfl, List.forall_mem_cons.mpr ⟨rfl, List.forall_mem_cons.mpr ⟨rfl, List.forall_mem_cons.mpr ⟨rfl, List.forall_mem_cons.mpr ⟨rfl, List.forall_mem_cons.mpr ⟨rfl, fun _ h => absurd h List.not_mem_nil⟩⟩⟩⟩⟩⟩) ?_
            exact ih1999 (z1989 + 1) μ2110 T2111 (mF.call (mF.up (mF.call mF.refl F1994 rfl) (A_21 hw) u2019 rfl) F2112 rfl) (rW (c := 0) (d := 1000) (rAdd (e := 1) (f := 1000) h2001 (rR (x := 1)) rfl) rfl) I2114 I2115 (vc_X1_doActs_12_13 (nS h1998) h2000 h4 h3 hp2 h2002 h2001)
          refine mr_if_le (pc := 215) (tgt := 260) dX1_doActs_215 (by decide) (r32 h2093 rfl) (fun h2117 => ?_) (fun h2117 => ?_)
          · have h2118 : 0 ≤ z2091 ∧ z2091 ≤ 0 := (vc_X12_unlike_21 h2117 h2093)
            refine mr_lvS (lv' := [(0, .ref 21), (1, .ref a1), (2, iv p2), (3, iv p3), (4, iv p4), (5, iv z1989)]) (List.forall_mem_cons.mpr ⟨rfl, List.forall_mem_cons.mpr ⟨rfl, List.forall_mem_cons.mpr ⟨rfl, List.forall_mem_cons.mpr ⟨rfl, List.forall_mem_cons.mpr ⟨rfl, List.forall_mem_cons.mpr ⟨rfl, fun _ h => absurd h List.not_mem_nil⟩⟩⟩⟩⟩⟩) ?_
            exact J2116 μ2018 T2020 mF.refl (PC.keep I1996 hw ((mF.up mF.refl (A_21 hw) u2019 rfl) : mF [21006] w μ1990 μ2018) rfl) (RT.keep I1997 hw ((mF.up mF.refl (A_21 hw) u2019 rfl) : mF [21006] w μ1990 μ2018) rfl)
          have h2119 : 1 ≤ z2091 ∧ z2091 ≤ 20 := (vc_X12_unlike_22 h2117 h2093)
          refine sv_aload_n (pc := 218) dX1_doActs_218 rfl rfl ?_
          refine gk_X1_2 (pc := 219) dX1_doActs_219 wF_X1_25 (A_21 hw) q2089 ?_
          refine sv_aload_n (pc := 222) dX1_doActs_222 rfl rfl ?_
          refine gk_X1_2 (pc := 223) dX1_doActs_223 wF_X1_25 (A_21 hw) q2089 ?_
          refine gf_X7_0 (pc := 226) dX1_doActs_226 wF_X1_114 A2090 T2020 fun A2120 => ?_
          refine mr_iconst (pc := 229) (z := 0) dX1_doActs_229 ?_
          refine la_201 (pc := 230) dX1_doActs_230 A2120 T2020 (rIx (n := 20) (rR (x := 0)) rfl) fun z2121 q2122 h2123 => ?_
          refine mr_iload (pc := 231) (z := z2009) dX1_doActs_231 rfl ?_
          refine mr_cVI (pc := 233) (c_X7_putInFront hw T2020 A2090 h2123 (rW (c := (-2147483648)) (d := 1000000) h2012 rfl)) (gOk _ _ _ _ _) dX1_doActs_233 (tX7_putInFront _ _ _ _ _) ⟨wV_X7_putInFront, wL_X7_putInFront⟩ wM_X1_131 (gCX7 _ _ _ _ _) rfl A2090 rfl ⟨le_t rfl, le_t rfl⟩ ⟨le_t rfl, le_t rfl⟩ rfl (le_t rfl) fun z2128 μ2124 T2125 F2126 h2127 => ?_
          refine mr_if_ne (pc := 236) (tgt := 260) dX1_doActs_236 (by decide) (r32 h2127.1 rfl) (fun h2129 => ?_) (fun h2129 => ?_)
          · have h2130 : 1 ≤ z2128 ∧ z2128 ≤ 1 := (vc_X12_ring_24 h2129 h2127.1)
            refine mr_lvS (lv' := [(0, .ref 21), (1, .ref a1), (2, iv p2), (3, iv p3), (4, iv p4), (5, iv z1989)]) (List.forall_mem_cons.mpr ⟨rfl, List.forall_mem_cons.mpr ⟨rfl, List.forall_mem_cons.mpr ⟨rfl, List.forall_mem_cons.mpr ⟨rfl, List.forall_mem_cons.mpr ⟨rfl, List.forall_mem_cons.mpr ⟨rfl, fun _ h => absurd h List.not_mem_nil⟩⟩⟩⟩⟩⟩) ?_
            exact J2116 μ2124 T2125 (mF.call mF.refl F2126 rfl) (PC.keep I1996 hw ((mF.call (mF.up mF.refl (A_21 hw) u2019 rfl) F2126 rfl) : mF [21006, 200007, 201999] w μ1990 μ2124) rfl) (RT.keep I1997 hw ((mF.call (mF.up mF.refl (A_21 hw) u2019 rfl) F2126 rfl) : mF [21006, 200007, 201999] w μ1990 μ2124) rfl)
          have h2131 : 0 ≤ z2128 ∧ z2128 ≤ 0 := (vc_X12_ring_22 h2129 h2127.1)
          refine sv_aload_n (pc := 239) dX1_doActs_239 rfl rfl ?_
          refine mr_iconst (pc := 240) (z := 2) dX1_doActs_240 ?_
          refine pf_X1_7 (pc := 241) dX1_doActs_241 wF_X1_50 (A_21 hw) T2125 (rW (c := 0) (d := 2) (rR (x := 2)) rfl) fun μ2132 u2133 T2134 => ?_
          refine sv_goto (pc := 244) (tgt := 260) dX1_doActs_244 (by decide) ?_
          refine mr_lvS (lv' := [(0, .ref 21), (1, .ref a1), (2, iv p2), (3, iv p3), (4, iv p4), (5, iv z1989)]) (List.forall_mem_cons.mpr ⟨rfl, List.forall_mem_cons.mpr ⟨rfl, List.forall_mem_cons.mpr ⟨rfl, List.forall_mem_cons.mpr ⟨rfl, List.forall_mem_cons.mpr ⟨rfl, List.forall_mem_cons.mpr ⟨rfl, fun _ h => absurd h List.not_mem_nil⟩⟩⟩⟩⟩⟩) ?_
          exact J2116 μ2132 T2134 (mF.up (mF.call mF.refl F2126 rfl) (A_21 hw) u2133 rfl) (PC.keep I1996 hw ((mF.up (mF.call (mF.up mF.refl (A_21 hw) u2019 rfl) F2126 rfl) (A_21 hw) u2133 rfl) : mF [21006, 21007, 200007, 201999] w μ1990 μ2132) rfl) (RT.keep I1997 hw ((mF.up (mF.call (mF.up mF.refl (A_21 hw) u2019 rfl) F2126 rfl) (A_21 hw) u2133 rfl) : mF [21006, 21007, 200007, 201999] w μ1990 μ2132) rfl)
        by_cases h2135 : z2021 = 28
        · refine mr_tableIn (pc := 62) (v := 28) (tgt := 247) dX1_doActs_62 h2135 rfl rfl (by decide) ?_
          have h2136 : 28 ≤ z2021 ∧ z2021 ≤ 28 := (vc_X1_doActs_12_33 h2135 h2054 h2056 h2058 h2063 h2068 h2077 h2086 h2023)
          refine sv_aload_n (pc := 247) dX1_doActs_247 rfl rfl ?_
          refine mr_iload (pc := 248) (z := z2009) dX1_doActs_248 rfl ?_
          refine mr_iload (pc := 250) (z := p4) dX1_doActs_250 rfl ?_
          refine mr_iconst (pc := 252) (z := 1) dX1_doActs_252 ?_
          refine mr_iadd (pc := 253) (x := p4) (y := 1) dX1_doActs_253 ?_
          refine mr_cVV (pc := 254) (c_X1_goThrough_8 hw T2020 (rW (c := (-2147483648)) (d := 2147483647) h2012 rfl) (rAdd (e := 8) (f := 8) hp4 (rR (x := 1)) rfl) (PC.keep I1996 hw ((mF.up mF.refl (A_21 hw) u2019 rfl) : mF [21006] w μ1990 μ2018) rfl) (RT.keep I1997 hw ((mF.up mF.refl (A_21 hw) u2019 rfl) : mF [21006] w μ1990 μ2018) rfl)) (gOk _ _ _ _ _) dX1_doActs_254 (tX1_goThrough _ _ _ _ _) ⟨wV_X1_goThrough, wL_X1_goThrough⟩ wM_X1_53 (gCX1 _ _ _ _ _) rfl (A_21 hw) rfl ⟨le_t rfl, le_t rfl⟩ ⟨le_t rfl, le_t rfl⟩ rfl (le_t rfl) fun μ2137 T2138 F2139 h2140 => ?_
          refine sv_goto (pc := 257) (tgt := 260) dX1_doActs_257 (by decide) ?_
          refine mr_iinc (pc := 260) (lv' := [(5, iv (z1989 + 1)), (6, iv z2009), (0, .ref 21), (1, .ref a1), (2, iv p2), (3, iv p3), (4, iv p4)]) dX1_doActs_260 rfl (by decide) rfl ?_
          refine sv_goto (pc := 263) (tgt := 3) dX1_doActs_263 (by decide) ?_
          refine mr_lvS (lv' := [(0, .ref 21), (1, .ref a1), (2, iv p2), (3, iv p3), (4, iv p4), (5, iv (z1989 + 1))]) (List.forall_mem_cons.mpr ⟨rfl, List.forall_mem_cons.mpr ⟨rfl, List.forall_mem_cons.mpr ⟨rfl, List.forall_mem_cons.mpr ⟨rfl, List.forall_mem_cons.mpr ⟨rfl, List.forall_mem_cons.mpr ⟨rfl, fun _ h => absurd h List.not_mem_nil⟩⟩⟩⟩⟩⟩) ?_
          exact ih1999 (z1989 + 1) μ2137 T2138 (mF.call (mF.up (mF.call mF.refl F1994 rfl) (A_21 hw) u2019 rfl) F2139 rfl) (rW (c := 0) (d := 1000) (rAdd (e := 1) (f := 1000) h2001 (rR (x := 1)) rfl) rfl) (PC.keep I1996 hw ((mF.call (mF.up mF.refl (A_21 hw) u2019 rfl) F2139 rfl) : mF [21006, 21007, 200004, 200006, 200007, 200008, 201999, 202999] w μ1990 μ2137) rfl) (RT.keep I1997 hw ((mF.call (mF.up mF.refl (A_21 hw) u2019 rfl) F2139 rfl) : mF [21006, 21007, 200004, 200006, 200007, 200008, 201999, 202999] w μ1990 μ2137) rfl) (vc_X1_doActs_12_13 (nS h1998) h2000 h4 h3 hp2 h2002 h2001)
        refine mr_tableOut (pc := 62) (tgt := 260) dX1_doActs_62 h2023 (vc_X1_doActs_12_34 h2024 h2032 h2040 h2042 h2044 h2046 h2048 h2050 h2052 h2054 h2056 h2058 h2063 h2068 h2077 h2086 h2135 h2023) (by decide) ?_
        refine mr_iinc (pc := 260) (lv' := [(5, iv (z1989 + 1)), (6, iv z2009), (0, .ref 21), (1, .ref a1), (2, iv p2), (3, iv p3), (4, iv p4)]) dX1_doActs_260 rfl (by decide) rfl ?_
        refine sv_goto (pc := 263) (tgt := 3) dX1_doActs_263 (by decide) ?_
        refine mr_lvS (lv' := [(0, .ref 21), (1, .ref a1), (2, iv p2), (3, iv p3), (4, iv p4), (5, iv (z1989 + 1))]) (List.forall_mem_cons.mpr ⟨rfl, List.forall_mem_cons.mpr ⟨rfl, List.forall_mem_cons.mpr ⟨rfl, List.forall_mem_cons.mpr ⟨rfl, List.forall_mem_cons.mpr ⟨rfl, List.forall_mem_cons.mpr ⟨rfl, fun _ h => absurd h List.not_mem_nil⟩⟩⟩⟩⟩⟩) ?_
        exact ih1999 (z1989 + 1) μ2018 T2020 (mF.up (mF.call mF.refl F1994 rfl) (A_21 hw) u2019 rfl) (rW (c := 0) (d := 1000) (rAdd (e := 1) (f := 1000) h2001 (rR (x := 1)) rfl) rfl) (PC.keep I1996 hw ((mF.up mF.refl (A_21 hw) u2019 rfl) : mF [21006] w μ1990 μ2018) rfl) (RT.keep I1997 hw ((mF.up mF.refl (A_21 hw) u2019 rfl) : mF [21006] w μ1990 μ2018) rfl) (vc_X1_doActs_12_13 (nS h1998) h2000 h4 h3 hp2 h2002 h2001)
      have h2141 : 500 ≤ z2013 ∧ z2013 ≤ 500 := (vc_X1_doActs_12_35 h2016 h2015)
      refine sv_aload_n (pc := 38) dX1_doActs_38 rfl rfl ?_
      refine mr_iconst (pc := 39) (z := 2) dX1_doActs_39 ?_
      refine pf_X1_7 (pc := 40) dX1_doActs_40 wF_X1_50 (A_21 hw) T1993 (rW (c := 0) (d := 2) (rR (x := 2)) rfl) fun μ2142 u2143 T2144 => ?_
      exact mr_vret dX1_doActs_43 rfl (le_t rfl) (le_t rfl) T2144 (mF.up (mF.call mF.refl F1994 rfl) (A_21 hw) u2143 rfl) trivial
  refine mr_lvS (lv' := [(0, .ref 21), (1, .ref a1), (2, iv p2), (3, iv p3), (4, iv p4), (5, iv 0)]) (List.forall_mem_cons.mpr ⟨rfl, List.forall_mem_cons.mpr ⟨rfl, List.forall_mem_cons.mpr ⟨rfl, List.forall_mem_cons.mpr ⟨rfl, List.forall_mem_cons.mpr ⟨rfl, List.forall_mem_cons.mpr ⟨rfl, fun _ h => absurd h List.not_mem_nil⟩⟩⟩⟩⟩⟩) ?_
  exact L1991 1002 0 μ hT mF.refl (rW (c := 0) (d := 1000) (rR (x := 0)) rfl) hIPC hIRT vc_X1_doActs_12_36
theorem vc_X1_goThrough_7_5 {p2 : Int} (h0 : 12 < p2) (h1 : 7 ≤ p2 ∧ p2 ≤ 7) : False := by omega
set_option maxRecDepth 4000 in
set_option maxHeartbeats 4000000 in
theorem c_X1_goThrough_7 {l : Launch} {D : va_G} {c : Nat → ClassId} {H0 : Heap} {sa : Nat × Nat × (Nat → Int32)} {w : mW} {μ : mM} (hw : mWF w) (hT : mT w μ) {p1 : Int} (hp1 : (-2147483648) ≤ p1 ∧ p1 ≤ 2147483647) {p2 : Int} (hp2 : 7 ≤ p2 ∧ p2 ≤ 7) (hIPC : PC w μ) (hIRT : RT μ) : sC (gG l D c H0 sa) mX1_goThrough 15 0 0 [.ref 21, iv p1, iv p2] (mk w μ) (qV w [21006, 21007, 200004, 200006, 200007, 200008, 201999, 202999] μ (fun μ1 => True)) := by
  refine sC.of rfl (by decide) (le_t rfl) ?_
  refine mr_lvE (lv' := [(0, .ref 21), (1, iv p1), (2, iv p2)]) rfl ?_
  refine mr_iload_n (pc := 0) (z := p1) dX1_goThrough_0 rfl rfl ?_
  refine mr_if_lt (pc := 1) (tgt := 18) dX1_goThrough_1 (by decide) hp1 (fun h1 => ?_) (fun h1 => ?_)
  · have h2 : (-2147483648) ≤ p1 ∧ p1 ≤ (-1) := (vc_X12_ring_60 h1 hp1)
    exact mr_vret dX1_goThrough_18 rfl (le_t rfl) (le_t rfl) hT mF.refl trivial
  have h3 : 0 ≤ p1 ∧ p1 ≤ 2147483647 := (vc_X12_ring_1 h1 hp1)
  refine mr_iload_n (pc := 4) (z := p1) dX1_goThrough_4 rfl rfl ?_
  refine sv_aload_n (pc := 5) dX1_goThrough_5 rfl rfl ?_
  refine gf_X1_8 (pc := 6) dX1_goThrough_6 wF_X1_21 (A_21 hw) hT fun z4 q5 h6 => ?_
  refine mr_icmp_ge (pc := 9) (tgt := 18) dX1_goThrough_9 (by decide) (r32 h3 rfl) (r32 h6.2 rfl) (fun h7 => ?_) (fun h7 => ?_)
  · exact mr_vret dX1_goThrough_18 rfl (le_t rfl) (le_t rfl) hT mF.refl trivial
  have h8 : 0 ≤ p1 ∧ p1 ≤ 11 := (vc_X1_goThrough_13_3 h7 h1 h6.1 h3 h6.2)
  have h9 : 1 ≤ z4 ∧ z4 ≤ 12 := (vc_X1_goThrough_13_4 h7 h1 h6.1 h8 h6.2)
  refine mr_iload_n (pc := 12) (z := p2) dX1_goThrough_12 rfl rfl ?_
  refine mr_bipush (pc := 13) (z := 12) dX1_goThrough_13 (by decide) ?_
  refine mr_icmp_le (pc := 15) (tgt := 19) dX1_goThrough_15 (by decide) (r32 hp2 rfl) (r32 (rR (x := 12)) rfl) (fun _ => ?_) (fun h => ((vc_X1_goThrough_7_5 h hp2)).elim)
  refine sv_aload_n (pc := 19) dX1_goThrough_19 rfl rfl ?_
  refine gf_X1_1 (pc := 20) dX1_goThrough_20 wF_X1_17 (A_21 hw) hT ?_
  refine mr_iload_n (pc := 23) (z := p1) dX1_goThrough_23 rfl rfl ?_
  refine la_22 (pc := 24) dX1_goThrough_24 (A_22 hw) hT (rIx (n := 12) h8 rfl) (vc_X1_goThrough_12_6 h1 h6.1 h7 h8 h9) fun b10 q11 A12 => ?_
  refine mr_astore_n (pc := 25) (lv' := [(3, .ref b10), (0, .ref 21), (1, iv p1), (2, iv p2)]) dX1_goThrough_25 rfl (by decide) rfl ?_
  obtain ⟨c13, z14, q15, A16, q17, R18, e19, e20⟩ := PC.read hIPC hT A12 (vc_X1_goThrough_12_7 h1 h7 h6.1 h8 h9) (vc_X1_goThrough_12_6 h1 h6.1 h7 h8 h9) q11
  have h21 : 0 ≤ z14 ∧ z14 ≤ 30 := by rw [← q17]; exact hT _ _ A12 0
  refine mr_iconst (pc := 26) (z := 0) dX1_goThrough_26 ?_
  refine mr_istore (pc := 27) (lv' := [(4, iv 0), (3, .ref b10), (0, .ref 21), (1, iv p1), (2, iv p2)]) dX1_goThrough_27 (by decide) rfl ?_
  refine mr_iconst (pc := 29) (z := 0) dX1_goThrough_29 ?_
  refine mr_istore (pc := 30) (lv' := [(5, iv 0), (4, iv 0), (3, .ref b10), (0, .ref 21), (1, iv p1), (2, iv p2)]) dX1_goThrough_30 (by decide) rfl ?_
  have L1192 : ∀ (nL1192 : Nat) (z1190 z1189 : Int) (μ1191 : mM), mT w μ1191 → mF [21006, 21007, 200004, 200006, 200007, 200008, 201999, 202999] w μ μ1191 → (0 ≤ z1190 ∧ z1190 ≤ 2000) → (0 ≤ z1189 ∧ z1189 ≤ 30) → PC w μ1191 → RT μ1191 → wfR (μ c13) (w.2.2.1 c13) (z1190).toNat (z14 - z1189).toNat → (2001 - z1190) < (nL1192 : Int) → sV (gG l D c H0 sa) mX1_goThrough (sRm 15 0 0) (sZ (gG l D c H0 sa) 0 0 (qV w [21006, 21007, 200004, 200006, 200007, 200008, 201999, 202999] μ (fun μ1 => True))) 32 [(0, .ref 21), (2, iv p2), (3, .ref b10), (4, iv z1190), (5, iv z1189)] [] (mk w μ1191) 0 0 := by
    intro nL1192
    induction nL1192 with
    | zero => intro z1190 z1189 μ1191 T1195 F1196 h1193 h1194 I1198 I1199 R1200 h1201; exact ((vc_X1_goThrough_12_8 h1201 h1193)).elim
    | succ nL1192 ih1202 =>
      intro z1190 z1189 μ1191 T1195 F1196 h1193 h1194 I1198 I1199 R1200 h1201
      refine mr_iload (pc := 32) (z := z1189) dX1_goThrough_32 rfl ?_
      refine sv_aload_n (pc := 34) dX1_goThrough_34 rfl rfl ?_
      refine gk_X5_0 (pc := 35) dX1_goThrough_35 wF_X1_57 A12 (F1196.f A12 rfl q17) ?_
      refine mr_icmp_ge (pc := 38) (tgt := 174) dX1_goThrough_38 (by decide) (r32 h1194 rfl) (r32 h21 rfl) (fun h1267 => ?_) (fun h1267 => ?_)
      · exact mr_vret dX1_goThrough_174 rfl (le_t rfl) (le_t rfl) T1195 (mF.call mF.refl F1196 rfl) trivial
      have h1268 : 0 ≤ z1189 ∧ z1189 ≤ 29 := (vc_X12_judgedAnew_2 h1267 h1194 h21)
      have h1269 : 1 ≤ z14 ∧ z14 ≤ 30 := (vc_X12_judgedAnew_3 h1267 h1268 h21)
      refine sv_aload_n (pc := 41) dX1_goThrough_41 rfl rfl ?_
      refine gf_X1_7 (pc := 42) dX1_goThrough_42 wF_X1_50 (A_21 hw) T1195 fun z1270 q1271 h1272 => ?_
      refine mr_if_ne (pc := 45) (tgt := 174) dX1_goThrough_45 (by decide) (r32 h1272 rfl) (fun h1332 => ?_) (fun h1332 => ?_)
      · have h1333 : 1 ≤ z1270 ∧ z1270 ≤ 2 := (vc_X12_provides_3 h1332 h1272)
        exact mr_vret dX1_goThrough_174 rfl (le_t rfl) (le_t rfl) T1195 (mF.call mF.refl F1196 rfl) trivial
      have h1334 : 0 ≤ z1270 ∧ z1270 ≤ 0 := (vc_X12_provides_4 h1332 h1272)
      obtain ⟨n_1335, q1336⟩ : ∃ n : Int, (w.2.2.1 c13 : Int) = n := ⟨_, rfl⟩
      have h1337 : 0 ≤ n_1335 ∧ n_1335 ≤ 2000 := lnR (m := 2000) q1336 A16 rfl
      have h1338 : z1190 + 1 < n_1335 := lnLt q1336 (wfR.hd R1200 (vc_X1_goThrough_12_13 h1193) (vc_X1_goThrough_12_14 h1267 h1268 h1269))
      refine sv_aload_n (pc := 48) dX1_goThrough_48 rfl rfl ?_
      refine gk_X5_1 (pc := 49) dX1_goThrough_49 wF_X1_60 A12 (F1196.f A12 rfl q15) ?_
      refine mr_iload (pc := 52) (z := z1190) dX1_goThrough_52 rfl ?_
      refine la_231 (pc := 54) dX1_goThrough_54 A16 T1195 (lnC q1336 (vc_X1_goThrough_12_15 h1338 h1337 h1193)) fun z1339 q1340 h1341 => ?_
      refine mr_istore (pc := 55) (lv' := [(6, iv z1339), (0, .ref 21), (2, iv p2), (3, .ref b10), (4, iv z1190), (5, iv z1189)]) dX1_goThrough_55 (by decide) rfl ?_
      refine sv_aload_n (pc := 57) dX1_goThrough_57 rfl rfl ?_
      refine gk_X5_1 (pc := 58) dX1_goThrough_58 wF_X1_60 A12 (F1196.f A12 rfl q15) ?_
      refine mr_iload (pc := 61) (z := z1190) dX1_goThrough_61 rfl ?_
      refine mr_iconst (pc := 63) (z := 1) dX1_goThrough_63 ?_
      refine mr_iadd (pc := 64) (x := z1190) (y := 1) dX1_goThrough_64 ?_
      refine la_231 (pc := 65) dX1_goThrough_65 A16 T1195 (lnC q1336 (vc_X1_goThrough_12_16 h1338 h1337 h1193)) fun z1342 q1343 h1344 => ?_
      have B1345 := wfR.bd R1200 (vc_X1_goThrough_12_13 h1193) (vc_X1_goThrough_12_14 h1267 h1268 h1269) ((((mF.call mF.refl F1196 rfl) : mF [21006, 21007, 200004, 200006, 200007, 200008, 201999, 202999] w μ μ1191).f A16 rfl rfl).symm.trans q1340) ((((mF.call mF.refl F1196 rfl) : mF [21006, 21007, 200004, 200006, 200007, 200008, 201999, 202999] w μ μ1191).f A16 rfl rfl).symm.trans q1343)
      have h1346 : 0 ≤ z1339 ∧ 0 ≤ z1342 ∧ z1190 + 2 + 5 * z1339 + 2 * z1342 ≤ n_1335 := ⟨B1345.1.1, B1345.1.2.1, lnLe q1336 B1345.1.2.2⟩
      have h1347 : 0 ≤ z1339 ∧ z1339 ≤ 400 := (vc_X1_goThrough_12_17 h1346 h1338 h1337 h1193 h1341 h1344)
      have h1348 : 0 ≤ z1342 ∧ z1342 ≤ 1000 := (vc_X1_goThrough_12_18 h1346 h1338 h1337 h1193 h1347 h1344)
      refine mr_istore (pc := 66) (lv' := [(7, iv z1342), (6, iv z1339), (0, .ref 21), (2, iv p2), (3, .ref b10), (4, iv z1190), (5, iv z1189)]) dX1_goThrough_66 (by decide) rfl ?_
      refine mr_iload (pc := 68) (z := z1190) dX1_goThrough_68 rfl ?_
      refine mr_iconst (pc := 70) (z := 2) dX1_goThrough_70 ?_
      refine mr_iadd (pc := 71) (x := z1190) (y := 2) dX1_goThrough_71 ?_
      refine mr_iload (pc := 72) (z := z1339) dX1_goThrough_72 rfl ?_
      refine mr_iconst (pc := 74) (z := 5) dX1_goThrough_74 ?_
      refine mr_imul (pc := 75) (x := z1339) (y := 5) dX1_goThrough_75 ?_
      refine mr_iadd (pc := 76) (x := (z1190 + 2)) (y := (z1339 * 5)) dX1_goThrough_76 ?_
      refine mr_istore (pc := 77) (lv' := [(8, iv ((z1190 + 2) + (z1339 * 5))), (7, iv z1342), (6, iv z1339), (0, .ref 21), (2, iv p2), (3, .ref b10), (4, iv z1190), (5, iv z1189)]) dX1_goThrough_77 (by decide) rfl ?_
      refine mr_iconst (pc := 79) (z := 1) dX1_goThrough_79 ?_
      refine mr_istore (pc := 80) (lv' := [(9, iv 1), (8, iv ((z1190 + 2) + (z1339 * 5))), (7, iv z1342), (6, iv z1339), (0, .ref 21), (2, iv p2), (3, .ref b10), (4, iv z1190), (5, iv z1189)]) dX1_goThrough_80 (by decide) rfl ?_
      refine mr_iload (pc := 82) (z := z1190) dX1_goThrough_82 rfl ?_
      refine mr_iconst (pc := 84) (z := 2) dX1_goThrough_84 ?_
      refine mr_iadd (pc := 85) (x := z1190) (y := 2) dX1_goThrough_85 ?_
      refine mr_istore (pc := 86) (lv' := [(10, iv (z1190 + 2)), (9, iv 1), (8, iv ((z1190 + 2) + (z1339 * 5))), (7, iv z1342), (6, iv z1339), (0, .ref 21), (2, iv p2), (3, .ref b10), (4, iv z1190), (5, iv z1189)]) dX1_goThrough_86 (by decide) rfl ?_
      have L1468 : ∀ (nL1468 : Nat) (z1467 z1466 : Int), True → (0 ≤ z1467 ∧ z1467 ≤ 1) → (2 ≤ z1466 ∧ z1466 ≤ 2010) → ((((z1190 + 2) + (z1339 * 5)) - z1466) % 5 = 0) → (2011 - z1466) < (nL1468 : Int) → sV (gG l D c H0 sa) mX1_goThrough (sRm 15 0 0) (sZ (gG l D c H0 sa) 0 0 (qV w [21006, 21007, 200004, 200006, 200007, 200008, 201999, 202999] μ (fun μ1 => True))) 88 [(0, .ref 21), (2, iv p2), (3, .ref b10), (5, iv z1189), (7, iv z1342), (8, iv ((z1190 + 2) + (z1339 * 5))), (9, iv z1467), (10, iv z1466)] [] (mk w μ1191) 0 0 := by
        intro nL1468
        induction nL1468 with
        | zero => intro z1467 z1466 _ h1469 h1470 h1474 h1475; exact ((vc_X1_goThrough_12_19 h1475 h1474 h1338 h1346 h1337 h1193 h1347 h1348 h1470)).elim
        | succ nL1468 ih1476 =>
          intro z1467 z1466 _ h1469 h1470 h1474 h1475
          refine mr_iload (pc := 88) (z := z1466) dX1_goThrough_88 rfl ?_
          refine mr_iload (pc := 90) (z := ((z1190 + 2) + (z1339 * 5))) dX1_goThrough_90 rfl ?_
          have J1492 : sV (gG l D c H0 sa) mX1_goThrough (sRm 15 0 0) (sZ (gG l D c H0 sa) 0 0 (qV w [21006, 21007, 200004, 200006, 200007, 200008, 201999, 202999] μ (fun μ1 => True))) 141 [(0, .ref 21), (2, iv p2), (3, .ref b10), (5, iv z1189), (7, iv z1342), (8, iv ((z1190 + 2) + (z1339 * 5))), (9, iv z1467)] [] (mk w μ1191) 0 0 := by
            refine mr_iload (pc := 141) (z := z1467) dX1_goThrough_141 rfl ?_
            refine mr_if_eq (pc := 143) (tgt := 159) dX1_goThrough_143 (by decide) (r32 h1469 rfl) (fun h1499 => ?_) (fun h1499 => ?_)
            · have h1500 : 0 ≤ z1467 ∧ z1467 ≤ 0 := (vc_X12_ring_22 h1499 h1469)
              refine mr_iload (pc := 159) (z := ((z1190 + 2) + (z1339 * 5))) dX1_goThrough_159 rfl ?_
              refine mr_iload (pc := 161) (z := z1342) dX1_goThrough_161 rfl ?_
              refine mr_iconst (pc := 163) (z := 2) dX1_goThrough_163 ?_
              refine mr_imul (pc := 164) (x := z1342) (y := 2) dX1_goThrough_164 ?_
              refine mr_iadd (pc := 165) (x := ((z1190 + 2) + (z1339 * 5))) (y := (z1342 * 2)) dX1_goThrough_165 ?_
              refine mr_istore (pc := 166) (lv' := [(4, iv (((z1190 + 2) + (z1339 * 5)) + (z1342 * 2))), (0, .ref 21), (2, iv p2), (3, .ref b10), (5, iv z1189), (7, iv z1342), (8, iv ((z1190 + 2) + (z1339 * 5))), (9, iv z1467)]) dX1_goThrough_166 (by decide) rfl ?_
              refine mr_iinc (pc := 168) (lv' := [(5, iv (z1189 + 1)), (4, iv (((z1190 + 2) + (z1339 * 5)) + (z1342 * 2))), (0, .ref 21), (2, iv p2), (3, .ref b10), (7, iv z1342), (8, iv ((z1190 + 2) + (z1339 * 5))), (9, iv z1467)]) dX1_goThrough_168 rfl (by decide) rfl ?_
              refine sv_goto (pc := 171) (tgt := 32) dX1_goThrough_171 (by decide) ?_
              refine mr_lvS (lv' := [(0, .ref 21), (2, iv p2), (3, .ref b10), (4, iv (((z1190 + 2) + (z1339 * 5)) + (z1342 * 2))), (5, iv (z1189 + 1))]) (List.forall_mem_cons.mpr ⟨rfl, List.forall_mem_cons.mpr ⟨rfl, List.forall_mem_cons.mpr ⟨rfl, List.forall_mem_cons.mpr ⟨rfl, List.forall_mem_cons.mpr ⟨rfl, fun _ h => absurd h List.not_mem_nil⟩⟩⟩⟩⟩) ?_
              exact ih1202 (((z1190 + 2) + (z1339 * 5)) + (z1342 * 2)) (z1189 + 1) μ1191 T1195 (mF.call mF.refl F1196 rfl) (vc_X1_goThrough_12_21 h1338 h1346 h1474 h1337 h1193 h1347 h1348 h1470) (rW (c := 0) (d := 30) (rAdd (e := 1) (f := 30) h1268 (rR (x := 1)) rfl) rfl) I1198 I1199 (wfR.cg B1345.2.2 (vc_X1_goThrough_12_23 h1338 h1346 h1474 h1337 h1193 h1347 h1348 h1470)) (vc_X1_goThrough_12_22 (nS h1201) h1338 h1346 h1474 h1337 h1193 h1347 h1348 h1470)
            have h1501 : 1 ≤ z1467 ∧ z1467 ≤ 1 := (vc_X12_ring_24 h1499 h1469)
            refine sv_aload_n (pc := 146) dX1_goThrough_146 rfl rfl ?_
            refine sv_aload_n (pc := 147) dX1_goThrough_147 rfl rfl ?_
            refine gk_X5_1 (pc := 148) dX1_goThrough_148 wF_X1_60 A12 (F1196.f A12 rfl q15) ?_
            refine mr_iload (pc := 151) (z := ((z1190 + 2) + (z1339 * 5))) dX1_goThrough_151 rfl ?_
            refine mr_iload (pc := 153) (z := z1342) dX1_goThrough_153 rfl ?_
            refine mr_iload_n (pc := 155) (z := p2) dX1_goThrough_155 rfl rfl ?_
            refine mr_cVV (pc := 156) (c_X1_doActs_7 hw T1195 A16 (vc_X1_goThrough_12_25 h1338 h1346 h1474 h1337 h1193 h1347 h1348 h1470) h1348 hp2 I1198 I1199 (lnL q1336 (vc_X1_goThrough_12_26 h1338 h1346 h1474 h1337 h1193 h1347 h1348 h1470)) (argC B1345.2.1 (vc_X1_goThrough_12_27 h1338 h1346 h1474 h1337 h1193 h1347 h1348 h1470) (funext fun i => ((mF.call mF.refl F1196 rfl) : mF [21006, 21007, 200004, 200006, 200007, 200008, 201999, 202999] w μ μ1191).f A16 rfl rfl))) (gOk _ _ _ _ _) dX1_goThrough_156 (tX1_doActs _ _ _ _ _) ⟨wV_X1_doActs, wL_X1_doActs⟩ wM_X1_68 (gCX1 _ _ _ _ _) rfl (A_21 hw) rfl ⟨le_t rfl, le_t rfl⟩ ⟨le_t rfl, le_t rfl⟩ rfl (le_t rfl) fun μ1502 T1503 F1504 h1505 => ?_
            refine mr_iload (pc := 159) (z := ((z1190 + 2) + (z1339 * 5))) dX1_goThrough_159 rfl ?_
            refine mr_iload (pc := 161) (z := z1342) dX1_goThrough_161 rfl ?_
            refine mr_iconst (pc := 163) (z := 2) dX1_goThrough_163 ?_
            refine mr_imul (pc := 164) (x := z1342) (y := 2) dX1_goThrough_164 ?_
            refine mr_iadd (pc := 165) (x := ((z1190 + 2) + (z1339 * 5))) (y := (z1342 * 2)) dX1_goThrough_165 ?_
            refine mr_istore (pc := 166) (lv' := [(4, iv (((z1190 + 2) + (z1339 * 5)) + (z1342 * 2))), (0, .ref 21), (2, iv p2), (3, .ref b10), (5, iv z1189), (7, iv z1342), (8, iv ((z1190 + 2) + (z1339 * 5))), (9, iv z1467)]) dX1_goThrough_166 (by decide) rfl ?_
            refine mr_iinc (pc := 168) (lv' := [(5, iv (z1189 + 1)), (4, iv (((z1190 + 2) + (z1339 * 5)) + (z1342 * 2))), (0, .ref 21), (2, iv p2), (3, .ref b10), (7, iv z1342), (8, iv ((z1190 + 2) + (z1339 * 5))), (9, iv z1467)]) dX1_goThrough_168 rfl (by decide) rfl ?_
            refine sv_goto (pc := 171) (tgt := 32) dX1_goThrough_171 (by decide) ?_
            refine mr_lvS (lv' := [(0, .ref 21), (2, iv p2), (3, .ref b10), (4, iv (((z1190 + 2) + (z1339 * 5)) + (z1342 * 2))), (5, iv (z1189 + 1))]) (List.forall_mem_cons.mpr ⟨rfl, List.forall_mem_cons.mpr ⟨rfl, List.forall_mem_cons.mpr ⟨rfl, List.forall_mem_cons.mpr ⟨rfl, List.forall_mem_cons.mpr ⟨rfl, fun _ h => absurd h List.not_mem_nil⟩⟩⟩⟩⟩) ?_
            exact ih1202 (((z1190 + 2) + (z1339 * 5)) + (z1342 * 2)) (z1189 + 1) μ1502 T1503 (mF.call (mF.call mF.refl F1196 rfl) F1504 rfl) (vc_X1_goThrough_12_21 h1338 h1346 h1474 h1337 h1193 h1347 h1348 h1470) (rW (c := 0) (d := 30) (rAdd (e := 1) (f := 30) h1268 (rR (x := 1)) rfl) rfl) (PC.keep I1198 hw ((mF.call mF.refl F1504 rfl) : mF [21006, 21007, 200004, 200006, 200007, 200008, 201999, 202999] w μ1191 μ1502) rfl) (RT.keep I1199 hw ((mF.call mF.refl F1504 rfl) : mF [21006, 21007, 200004, 200006, 200007, 200008, 201999, 202999] w μ1191 μ1502) rfl) (wfR.cg B1345.2.2 (vc_X1_goThrough_12_23 h1338 h1346 h1474 h1337 h1193 h1347 h1348 h1470)) (vc_X1_goThrough_12_22 (nS h1201) h1338 h1346 h1474 h1337 h1193 h1347 h1348 h1470)
          refine mr_icmp_ge (pc := 92) (tgt := 141) dX1_goThrough_92 (by decide) (r32 h1470 rfl) (r32 (rAdd (e := 2) (f := 4002) (rAdd (e := 2) (f := 2002) h1193 (rR (x := 2)) rfl) (rMulR (n := 5) (e := 0) (f := 2000) h1347 rfl) rfl) rfl) (fun h1506 => ?_) (fun h1506 => ?_)
          · refine mr_lvS (lv' := [(0, .ref 21), (2, iv p2), (3, .ref b10), (5, iv z1189), (7, iv z1342), (8, iv ((z1190 + 2) + (z1339 * 5))), (9, iv z1467)]) (List.forall_mem_cons.mpr ⟨rfl, List.forall_mem_cons.mpr ⟨rfl, List.forall_mem_cons.mpr ⟨rfl, List.forall_mem_cons.mpr ⟨rfl, List.forall_mem_cons.mpr ⟨rfl, List.forall_mem_cons.mpr ⟨rfl, List.forall_mem_cons.mpr ⟨rfl, fun _ h => absurd h List.not_mem_nil⟩⟩⟩⟩⟩⟩⟩) ?_
            exact J1492 
          refine mr_iload (pc := 95) (z := z1467) dX1_goThrough_95 rfl ?_
          refine mr_if_eq (pc := 97) (tgt := 141) dX1_goThrough_97 (by decide) (r32 h1469 rfl) (fun h1507 => ?_) (fun h1507 => ?_)
          · have h1508 : 0 ≤ z1467 ∧ z1467 ≤ 0 := (vc_X12_ring_22 h1507 h1469)
            refine mr_lvS (lv' := [(0, .ref 21), (2, iv p2), (3, .ref b10), (5, iv z1189), (7, iv z1342), (8, iv ((z1190 + 2) + (z1339 * 5))), (9, iv z1467)]) (List.forall_mem_cons.mpr ⟨rfl, List.forall_mem_cons.mpr ⟨rfl, List.forall_mem_cons.mpr ⟨rfl, List.forall_mem_cons.mpr ⟨rfl, List.forall_mem_cons.mpr ⟨rfl, List.forall_mem_cons.mpr ⟨rfl, List.forall_mem_cons.mpr ⟨rfl, fun _ h => absurd h List.not_mem_nil⟩⟩⟩⟩⟩⟩⟩) ?_
            exact J1492 
          have h1509 : 1 ≤ z1467 ∧ z1467 ≤ 1 := (vc_X12_ring_24 h1507 h1469)
          refine sv_aload_n (pc := 100) dX1_goThrough_100 rfl rfl ?_
          refine sv_aload_n (pc := 101) dX1_goThrough_101 rfl rfl ?_
          refine mr_iload (pc := 102) (z := z1466) dX1_goThrough_102 rfl ?_
          refine mr_cVP (pc := 104) (c_X1_isSo hw T1195 A12 (vc_X1_goThrough_12_28 h1474 h1506 h1338 h1346 h1337 h1193 h1347 h1348 h1470) I1199 (lnF (F1196.f A12 rfl q15) q1336 (vc_X1_goThrough_12_29 h1338 h1346 h1474 h1506 h1337 h1193 h1347 h1348 h1470)) (by rw [((mF.call mF.refl F1196 rfl) : mF [21006, 21007, 200004, 200006, 200007, 200008, 201999, 202999] w μ μ1191).f (k := 2) A12 rfl rfl, ((mF.call mF.refl F1196 rfl) : mF [21006, 21007, 200004, 200006, 200007, 200008, 201999, 202999] w μ μ1191).f (k := 3) A12 rfl rfl]; exact e19) (by rw [((mF.call mF.refl F1196 rfl) : mF [21006, 21007, 200004, 200006, 200007, 200008, 201999, 202999] w μ μ1191).f (k := 4) A12 rfl rfl, ((mF.call mF.refl F1196 rfl) : mF [21006, 21007, 200004, 200006, 200007, 200008, 201999, 202999] w μ μ1191).f (k := 5) A12 rfl rfl]; exact e20)) (gOk _ _ _ _ _) dX1_goThrough_104 (tX1_isSo _ _ _ _ _) ⟨wV_X1_isSo, wL_X1_isSo⟩ wM_X1_64 (gCX1 _ _ _ _ _) rfl (A_21 hw) rfl ⟨le_t rfl, le_t rfl⟩ ⟨le_t rfl, le_t rfl⟩ rfl (le_t rfl) fun z1514 h1513 => ?_
          refine sv_aload_n (pc := 107) dX1_goThrough_107 rfl rfl ?_
          refine gk_X5_1 (pc := 108) dX1_goThrough_108 wF_X1_60 A12 (F1196.f A12 rfl q15) ?_
          refine mr_iload (pc := 111) (z := z1466) dX1_goThrough_111 rfl ?_
          refine mr_iconst (pc := 113) (z := 1) dX1_goThrough_113 ?_
          refine mr_iadd (pc := 114) (x := z1466) (y := 1) dX1_goThrough_114 ?_
          refine la_231 (pc := 115) dX1_goThrough_115 A16 T1195 (lnC q1336 (vc_X1_goThrough_12_30 h1338 h1346 h1474 h1506 h1337 h1193 h1347 h1348 h1470)) fun z1515 q1516 h1517 => ?_
          refine mr_iconst (pc := 116) (z := 1) dX1_goThrough_116 ?_
          refine mr_icmp_ne (pc := 117) (tgt := 124) dX1_goThrough_117 (by decide) h1517 (r32 (rR (x := 1)) rfl) (fun h1519 => ?_) (fun h1519 => ?_)
          · refine mr_iconst (pc := 124) (z := 0) dX1_goThrough_124 ?_
            refine mr_icmp_eq (pc := 125) (tgt := 132) dX1_goThrough_125 (by decide) (r32 h1513.1 rfl) (r32 (rR (x := 0)) rfl) (fun h1522 => ?_) (fun h1522 => ?_)
            · have h1523 : 0 ≤ z1514 ∧ z1514 ≤ 0 := (vc_X12_ring_22 h1522 h1513.1)
              refine mr_iconst (pc := 132) (z := 0) dX1_goThrough_132 ?_
              refine mr_istore (pc := 133) (lv' := [(9, iv 0), (0, .ref 21), (2, iv p2), (3, .ref b10), (5, iv z1189), (7, iv z1342), (8, iv ((z1190 + 2) + (z1339 * 5))), (10, iv z1466)]) dX1_goThrough_133 (by decide) rfl ?_
              refine mr_iinc (pc := 135) (lv' := [(10, iv (z1466 + 5)), (9, iv 0), (0, .ref 21), (2, iv p2), (3, .ref b10), (5, iv z1189), (7, iv z1342), (8, iv ((z1190 + 2) + (z1339 * 5)))]) dX1_goThrough_135 rfl (by decide) rfl ?_
              refine sv_goto (pc := 138) (tgt := 88) dX1_goThrough_138 (by decide) ?_
              refine mr_lvS (lv' := [(0, .ref 21), (2, iv p2), (3, .ref b10), (5, iv z1189), (7, iv z1342), (8, iv ((z1190 + 2) + (z1339 * 5))), (9, iv 0), (10, iv (z1466 + 5))]) (List.forall_mem_cons.mpr ⟨rfl, List.forall_mem_cons.mpr ⟨rfl, List.forall_mem_cons.mpr ⟨rfl, List.forall_mem_cons.mpr ⟨rfl, List.forall_mem_cons.mpr ⟨rfl, List.forall_mem_cons.mpr ⟨rfl, List.forall_mem_cons.mpr ⟨rfl, List.forall_mem_cons.mpr ⟨rfl, fun _ h => absurd h List.not_mem_nil⟩⟩⟩⟩⟩⟩⟩⟩) ?_
              exact ih1476 0 (z1466 + 5) trivial (rW (c := 0) (d := 1) (rR (x := 0)) rfl) (vc_X1_goThrough_12_32 h1474 h1506 h1338 h1346 h1337 h1193 h1347 h1348 h1470) (vc_X1_goThrough_12_33 h1338 h1346 h1474 h1506 h1337 h1193 h1347 h1348 h1470) (vc_X1_goThrough_12_34 (nS h1475) h1474 h1506 h1338 h1346 h1337 h1193 h1347 h1348 h1470)
            have h1524 : 1 ≤ z1514 ∧ z1514 ≤ 1 := (vc_X12_ring_24 h1522 h1513.1)
            refine mr_iconst (pc := 128) (z := 1) dX1_goThrough_128 ?_
            refine sv_goto (pc := 129) (tgt := 133) dX1_goThrough_129 (by decide) ?_
            refine mr_istore (pc := 133) (lv' := [(9, iv 1), (0, .ref 21), (2, iv p2), (3, .ref b10), (5, iv z1189), (7, iv z1342), (8, iv ((z1190 + 2) + (z1339 * 5))), (10, iv z1466)]) dX1_goThrough_133 (by decide) rfl ?_
            refine mr_iinc (pc := 135) (lv' := [(10, iv (z1466 + 5)), (9, iv 1), (0, .ref 21), (2, iv p2), (3, .ref b10), (5, iv z1189), (7, iv z1342), (8, iv ((z1190 + 2) + (z1339 * 5)))]) dX1_goThrough_135 rfl (by decide) rfl ?_
            refine sv_goto (pc := 138) (tgt := 88) dX1_goThrough_138 (by decide) ?_
            refine mr_lvS (lv' := [(0, .ref 21), (2, iv p2), (3, .ref b10), (5, iv z1189), (7, iv z1342), (8, iv ((z1190 + 2) + (z1339 * 5))), (9, iv 1), (10, iv (z1466 + 5))]) (List.forall_mem_cons.mpr ⟨rfl, List.forall_mem_cons.mpr ⟨rfl, List.forall_mem_cons.mpr ⟨rfl, List.forall_mem_cons.mpr ⟨rfl, List.forall_mem_cons.mpr ⟨rfl, List.forall_mem_cons.mpr ⟨rfl, List.forall_mem_cons.mpr ⟨rfl, List.forall_mem_cons.mpr ⟨rfl, fun _ h => absurd h List.not_mem_nil⟩⟩⟩⟩⟩⟩⟩⟩) ?_
            exact ih1476 1 (z1466 + 5) trivial (rW (c := 0) (d := 1) (rR (x := 1)) rfl) (vc_X1_goThrough_12_32 h1474 h1506 h1338 h1346 h1337 h1193 h1347 h1348 h1470) (vc_X1_goThrough_12_33 h1338 h1346 h1474 h1506 h1337 h1193 h1347 h1348 h1470) (vc_X1_goThrough_12_34 (nS h1475) h1474 h1506 h1338 h1346 h1337 h1193 h1347 h1348 h1470)
          have h1525 : 1 ≤ z1515 ∧ z1515 ≤ 1 := (vc_X0_compareAt_1 h1519 h1517)
          refine mr_iconst (pc := 120) (z := 1) dX1_goThrough_120 ?_
          refine sv_goto (pc := 121) (tgt := 125) dX1_goThrough_121 (by decide) ?_
          refine mr_icmp_eq (pc := 125) (tgt := 132) dX1_goThrough_125 (by decide) (r32 h1513.1 rfl) (r32 (rR (x := 1)) rfl) (fun h1528 => ?_) (fun h1528 => ?_)
          · have h1529 : 1 ≤ z1514 ∧ z1514 ≤ 1 := (vc_X1_goThrough_12_37 h1528 h1513.1)
            refine mr_iconst (pc := 132) (z := 0) dX1_goThrough_132 ?_
            refine mr_istore (pc := 133) (lv' := [(9, iv 0), (0, .ref 21), (2, iv p2), (3, .ref b10), (5, iv z1189), (7, iv z1342), (8, iv ((z1190 + 2) + (z1339 * 5))), (10, iv z1466)]) dX1_goThrough_133 (by decide) rfl ?_
            refine mr_iinc (pc := 135) (lv' := [(10, iv (z1466 + 5)), (9, iv 0), (0, .ref 21), (2, iv p2), (3, .ref b10), (5, iv z1189), (7, iv z1342), (8, iv ((z1190 + 2) + (z1339 * 5)))]) dX1_goThrough_135 rfl (by decide) rfl ?_
            refine sv_goto (pc := 138) (tgt := 88) dX1_goThrough_138 (by decide) ?_
            refine mr_lvS (lv' := [(0, .ref 21), (2, iv p2), (3, .ref b10), (5, iv z1189), (7, iv z1342), (8, iv ((z1190 + 2) + (z1339 * 5))), (9, iv 0), (10, iv (z1466 + 5))]) (List.forall_mem_cons.mpr ⟨rfl, List.forall_mem_cons.mpr ⟨rfl, List.forall_mem_cons.mpr ⟨rfl, List.forall_mem_cons.mpr ⟨rfl, List.forall_mem_cons.mpr ⟨rfl, List.forall_mem_cons.mpr ⟨rfl, List.forall_mem_cons.mpr ⟨rfl, List.forall_mem_cons.mpr ⟨rfl, fun _ h => absurd h List.not_mem_nil⟩⟩⟩⟩⟩⟩⟩⟩) ?_
            exact ih1476 0 (z1466 + 5) trivial (rW (c := 0) (d := 1) (rR (x := 0)) rfl) (vc_X1_goThrough_12_32 h1474 h1506 h1338 h1346 h1337 h1193 h1347 h1348 h1470) (vc_X1_goThrough_12_33 h1338 h1346 h1474 h1506 h1337 h1193 h1347 h1348 h1470) (vc_X1_goThrough_12_34 (nS h1475) h1474 h1506 h1338 h1346 h1337 h1193 h1347 h1348 h1470)
          have h1530 : 0 ≤ z1514 ∧ z1514 ≤ 0 := (vc_X1_goThrough_12_38 h1528 h1513.1)
          refine mr_iconst (pc := 128) (z := 1) dX1_goThrough_128 ?_
          refine sv_goto (pc := 129) (tgt := 133) dX1_goThrough_129 (by decide) ?_
          refine mr_istore (pc := 133) (lv' := [(9, iv 1), (0, .ref 21), (2, iv p2), (3, .ref b10), (5, iv z1189), (7, iv z1342), (8, iv ((z1190 + 2) + (z1339 * 5))), (10, iv z1466)]) dX1_goThrough_133 (by decide) rfl ?_
          refine mr_iinc (pc := 135) (lv' := [(10, iv (z1466 + 5)), (9, iv 1), (0, .ref 21), (2, iv p2), (3, .ref b10), (5, iv z1189), (7, iv z1342), (8, iv ((z1190 + 2) + (z1339 * 5)))]) dX1_goThrough_135 rfl (by decide) rfl ?_
          refine sv_goto (pc := 138) (tgt := 88) dX1_goThrough_138 (by decide) ?_
          refine mr_lvS (lv' := [(0, .ref 21), (2, iv p2), (3, .ref b10), (5, iv z1189), (7, iv z1342), (8, iv ((z1190 + 2) + (z1339 * 5))), (9, iv 1), (10, iv (z1466 + 5))]) (List.forall_mem_cons.mpr ⟨rfl, List.forall_mem_cons.mpr ⟨rfl, List.forall_mem_cons.mpr ⟨rfl, List.forall_mem_cons.mpr ⟨rfl, List.forall_mem_cons.mpr ⟨rfl, List.forall_mem_cons.mpr ⟨rfl, List.forall_mem_cons.mpr ⟨rfl, List.forall_mem_cons.mpr ⟨rfl, fun _ h => absurd h List.not_mem_nil⟩⟩⟩⟩⟩⟩⟩⟩) ?_
          exact ih1476 1 (z1466 + 5) trivial (rW (c := 0) (d := 1) (rR (x := 1)) rfl) (vc_X1_goThrough_12_32 h1474 h1506 h1338 h1346 h1337 h1193 h1347 h1348 h1470) (vc_X1_goThrough_12_33 h1338 h1346 h1474 h1506 h1337 h1193 h1347 h1348 h1470) (vc_X1_goThrough_12_34 (nS h1475) h1474 h1506 h1338 h1346 h1337 h1193 h1347 h1348 h1470)
      refine mr_lvS (lv' := [(0, .ref 21), (2, iv p2), (3, .ref b10), (5, iv z1189), (7, iv z1342), (8, iv ((z1190 + 2) + (z1339 * 5))), (9, iv 1), (10, iv (z1190 + 2))]) (List.forall_mem_cons.mpr ⟨rfl, List.forall_mem_cons.mpr ⟨rfl, List.forall_mem_cons.mpr ⟨rfl, List.forall_mem_cons.mpr ⟨rfl, List.forall_mem_cons.mpr ⟨rfl, List.forall_mem_cons.mpr ⟨rfl, List.forall_mem_cons.mpr ⟨rfl, List.forall_mem_cons.mpr ⟨rfl, fun _ h => absurd h List.not_mem_nil⟩⟩⟩⟩⟩⟩⟩⟩) ?_
      exact L1468 2010 1 (z1190 + 2) trivial (rW (c := 0) (d := 1) (rR (x := 1)) rfl) (rW (c := 2) (d := 2010) (rAdd (e := 2) (f := 2002) h1193 (rR (x := 2)) rfl) rfl) (vc_X1_goThrough_12_39 h1338 h1346 h1337 h1193 h1347 h1348) (vc_X1_goThrough_12_40 h1338 h1346 h1337 h1193 h1347 h1348)
  refine mr_lvS (lv' := [(0, .ref 21), (2, iv p2), (3, .ref b10), (4, iv 0), (5, iv 0)]) (List.forall_mem_cons.mpr ⟨rfl, List.forall_mem_cons.mpr ⟨rfl, List.forall_mem_cons.mpr ⟨rfl, List.forall_mem_cons.mpr ⟨rfl, List.forall_mem_cons.mpr ⟨rfl, fun _ h => absurd h List.not_mem_nil⟩⟩⟩⟩⟩) ?_
  exact L1192 2002 0 0 μ hT mF.refl (rW (c := 0) (d := 2000) (rR (x := 0)) rfl) (rW (c := 0) (d := 30) (rR (x := 0)) rfl) hIPC hIRT R18 vc_X1_goThrough_12_41
set_option maxRecDepth 4000 in
set_option maxHeartbeats 4000000 in
theorem c_X1_doActs_6 {l : Launch} {D : va_G} {c : Nat → ClassId} {H0 : Heap} {sa : Nat × Nat × (Nat → Int32)} {w : mW} {μ : mM} (hw : mWF w) (hT : mT w μ) {a1 : Nat} (hA1 : mAt w a1 231) {p2 : Int} (hp2 : 0 ≤ p2 ∧ p2 ≤ 2000) {p3 : Int} (hp3 : 0 ≤ p3 ∧ p3 ≤ 1000) {p4 : Int} (hp4 : 6 ≤ p4 ∧ p4 ≤ 6) (hIPC : PC w μ) (hIRT : RT μ) (hlen : p2 + 2 * p3 ≤ (w.2.2.1 a1 : Int)) (harg : ∀ i : Int, 0 ≤ i → i < p3 → 0 ≤ μ a1 (p2 + 2 * i + 1).toNat ∧ μ a1 (p2 + 2 * i + 1).toNat ≤ 1000000) : sC (gG l D c H0 sa) mX1_doActs 16 0 0 [.ref 21, .ref a1, iv p2, iv p3, iv p4] (mk w μ) (qV w [21006, 21007, 200004, 200006, 200007, 200008, 201999, 202999] μ (fun μ1 => True)) := by
  refine sC.of rfl (by decide) (le_t rfl) ?_
  refine mr_lvE (lv' := [(0, .ref 21), (1, .ref a1), (2, iv p2), (3, iv p3), (4, iv p4)]) rfl ?_
  obtain ⟨n_1, q2⟩ : ∃ n : Int, (w.2.2.1 a1 : Int) = n := ⟨_, rfl⟩
  have h3 : 0 ≤ n_1 ∧ n_1 ≤ 2000 := lnR (m := 2000) q2 hA1 rfl
  have h4 : p2 + 2 * p3 ≤ n_1 := lnLe q2 hlen
  refine mr_iconst (pc := 0) (z := 0) dX1_doActs_0 ?_
  refine mr_istore (pc := 1) (lv' := [(5, iv 0), (0, .ref 21), (1, .ref a1), (2, iv p2), (3, iv p3), (4, iv p4)]) dX1_doActs_1 (by decide) rfl ?_
  have L1991 : ∀ (nL1991 : Nat) (z1989 : Int) (μ1990 : mM), mT w μ1990 → mF [21006, 21007, 200004, 200006, 200007, 200008, 201999, 202999] w μ μ1990 → (0 ≤ z1989 ∧ z1989 ≤ 1000) → PC w μ1990 → RT μ1990 → (1001 - z1989) < (nL1991 : Int) → sV (gG l D c H0 sa) mX1_doActs (sRm 16 0 0) (sZ (gG l D c H0 sa) 0 0 (qV w [21006, 21007, 200004, 200006, 200007, 200008, 201999, 202999] μ (fun μ1 => True))) 3 [(0, .ref 21), (1, .ref a1), (2, iv p2), (3, iv p3), (4, iv p4), (5, iv z1989)] [] (mk w μ1990) 0 0 := by
    intro nL1991
    induction nL1991 with
    | zero => intro z1989 μ1990 T1993 F1994 h1992 I1996 I1997 h1998; exact ((vc_X1_doActs_12_1 h1998 h1992)).elim
    | succ nL1991 ih1999 =>
      intro z1989 μ1990 T1993 F1994 h1992 I1996 I1997 h1998
      refine mr_iload (pc := 3) (z := z1989) dX1_doActs_3 rfl ?_
      refine mr_iload_n (pc := 5) (z := p3) dX1_doActs_5 rfl rfl ?_
      refine mr_icmp_ge (pc := 6) (tgt := 266) dX1_doActs_6 (by decide) (r32 h1992 rfl) (r32 hp3 rfl) (fun h2000 => ?_) (fun h2000 => ?_)
      · exact mr_vret dX1_doActs_266 rfl (le_t rfl) (le_t rfl) T1993 (mF.call mF.refl F1994 rfl) trivial
      have h2001 : 0 ≤ z1989 ∧ z1989 ≤ 999 := (vc_X1_doActs_12_2 h2000 h4 h3 hp2 hp3 h1992)
      have h2002 : 1 ≤ p3 ∧ p3 ≤ 1000 := (vc_X1_doActs_12_3 h2000 h4 h3 hp2 hp3 h2001)
      refine sv_aload_n (pc := 9) dX1_doActs_9 rfl rfl ?_
      refine gf_X1_7 (pc := 10) dX1_doActs_10 wF_X1_50 (A_21 hw) T1993 fun z2003 q2004 h2005 => ?_
      refine mr_if_ne (pc := 13) (tgt := 266) dX1_doActs_13 (by decide) (r32 h2005 rfl) (fun h2006 => ?_) (fun h2006 => ?_)
      · have h2007 : 1 ≤ z2003 ∧ z2003 ≤ 2 := (vc_X12_provides_3 h2006 h2005)
        exact mr_vret dX1_doActs_266 rfl (le_t rfl) (le_t rfl) T1993 (mF.call mF.refl F1994 rfl) trivial
      have h2008 : 0 ≤ z2003 ∧ z2003 ≤ 0 := (vc_X12_provides_4 h2006 h2005)
      refine sv_aload_n (pc := 16) dX1_doActs_16 rfl rfl ?_
      refine mr_iload_n (pc := 17) (z := p2) dX1_doActs_17 rfl rfl ?_
      refine mr_iload (pc := 18) (z := z1989) dX1_doActs_18 rfl ?_
      refine mr_iconst (pc := 20) (z := 2) dX1_doActs_20 ?_
      refine mr_imul (pc := 21) (x := z1989) (y := 2) dX1_doActs_21 ?_
      refine mr_iadd (pc := 22) (x := p2) (y := (z1989 * 2)) dX1_doActs_22 ?_
      refine mr_iconst (pc := 23) (z := 1) dX1_doActs_23 ?_
      refine mr_iadd (pc := 24) (x := (p2 + (z1989 * 2))) (y := 1) dX1_doActs_24 ?_
      refine la_231 (pc := 25) dX1_doActs_25 hA1 T1993 (lnC q2 (vc_X1_doActs_12_6 h4 h2000 h3 hp2 h2002 h2001)) fun z2009 q2010 h2011 => ?_
      have h2012 : 0 ≤ z2009 ∧ z2009 ≤ 1000000 := argB harg (vc_X1_doActs_12_7 h2000 h4 h3 hp2 h2002 h2001) (vc_X1_doActs_12_8 h4 h2000 h3 hp2 h2002 h2001) (vc_X1_doActs_12_9 h4 h2000 h3 hp2 h2002 h2001) (((mF.call mF.refl F1994 rfl) : mF [21006, 21007, 200004, 200006, 200007, 200008, 201999, 202999] w μ μ1990).f hA1 rfl rfl) q2010
      refine mr_istore (pc := 26) (lv' := [(6, iv z2009), (0, .ref 21), (1, .ref a1), (2, iv p2), (3, iv p3), (4, iv p4), (5, iv z1989)]) dX1_doActs_26 (by decide) rfl ?_
      refine sv_aload_n (pc := 28) dX1_doActs_28 rfl rfl ?_
      refine gf_X1_6 (pc := 29) dX1_doActs_29 wF_X1_47 (A_21 hw) T1993 fun z2013 q2014 h2015 => ?_
      refine mr_sipush (pc := 32) (z := 500) dX1_doActs_32 (by decide) ?_
      refine mr_icmp_lt (pc := 35) (tgt := 44) dX1_doActs_35 (by decide) (r32 h2015 rfl) (r32 (rR (x := 500)) rfl) (fun h2016 => ?_) (fun h2016 => ?_)
      · have h2017 : 0 ≤ z2013 ∧ z2013 ≤ 499 := (vc_X1_doActs_12_10 h2016 h2015)
        refine sv_aload_n (pc := 44) dX1_doActs_44 rfl rfl ?_
        refine sv_dup (pc := 45) dX1_doActs_45 rfl ?_
        refine gk_X1_6 (pc := 46) dX1_doActs_46 wF_X1_47 (A_21 hw) q2014 ?_
        refine mr_iconst (pc := 49) (z := 1) dX1_doActs_49 ?_
        refine mr_iadd (pc := 50) (x := z2013) (y := 1) dX1_doActs_50 ?_
        refine pf_X1_6 (pc := 51) dX1_doActs_51 wF_X1_47 (A_21 hw) T1993 (rW (c := 0) (d := 500) (rAdd (e := 1) (f := 500) h2017 (rR (x := 1)) rfl) rfl) fun μ2018 u2019 T2020 => ?_
        refine sv_aload_n (pc := 54) dX1_doActs_54 rfl rfl ?_
        refine mr_iload_n (pc := 55) (z := p2) dX1_doActs_55 rfl rfl ?_
        refine mr_iload (pc := 56) (z := z1989) dX1_doActs_56 rfl ?_
        refine mr_iconst (pc := 58) (z := 2) dX1_doActs_58 ?_
        refine mr_imul (pc := 59) (x := z1989) (y := 2) dX1_doActs_59 ?_
        refine mr_iadd (pc := 60) (x := p2) (y := (z1989 * 2)) dX1_doActs_60 ?_
        refine la_231 (pc := 61) dX1_doActs_61 hA1 T2020 (lnC q2 (vc_X1_doActs_12_11 h4 h2000 h3 hp2 h2002 h2001)) fun z2021 q2022 h2023 => ?_
        by_cases h2024 : z2021 = 12
        · refine mr_tableIn (pc := 62) (v := 12) (tgt := 184) dX1_doActs_62 h2024 rfl rfl (by decide) ?_
          have h2025 : 12 ≤ z2021 ∧ z2021 ≤ 12 := (vc_X1_doActs_12_12 h2024 h2023)
          refine sv_aload_n (pc := 184) dX1_doActs_184 rfl rfl ?_
          refine gf_X1_2 (pc := 185) dX1_doActs_185 wF_X1_25 (A_21 hw) T2020 (RT.keep I1997 hw ((mF.up mF.refl (A_21 hw) u2019 rfl) : mF [21006] w μ1990 μ2018) rfl) fun b2026 q2027 A2028 => ?_
          refine mr_iload (pc := 188) (z := z2009) dX1_doActs_188 rfl ?_
          refine pf_X7_4 (pc := 190) dX1_doActs_190 wF_X1_105 A2028 T2020 (rW (c := (-2147483648)) (d := 2147483647) h2012 rfl) fun μ2029 u2030 T2031 => ?_
          refine sv_goto (pc := 193) (tgt := 260) dX1_doActs_193 (by decide) ?_
          refine mr_iinc (pc := 260) (lv' := [(5, iv (z1989 + 1)), (6, iv z2009), (0, .ref 21), (1, .ref a1), (2, iv p2), (3, iv p3), (4, iv p4)]) dX1_doActs_260 rfl (by decide) rfl ?_
          refine sv_goto (pc := 263) (tgt := 3) dX1_doActs_263 (by decide) ?_
          refine mr_lvS (lv' := [(0, .ref 21), (1, .ref a1), (2, iv p2), (3, iv p3), (4, iv p4), (5, iv (z1989 + 1))]) (List.forall_mem_cons.mpr ⟨rfl, List.forall_mem_cons.mpr ⟨rfl, List.forall_mem_cons.mpr ⟨rfl, List.forall_mem_cons.mpr ⟨rfl, List.forall_mem_cons.mpr ⟨rfl, List.forall_mem_cons.mpr ⟨rfl, fun _ h => absurd h List.not_mem_nil⟩⟩⟩⟩⟩⟩) ?_
          exact ih1999 (z1989 + 1) μ2029 T2031 (mF.up (mF.up (mF.call mF.refl F1994 rfl) (A_21 hw) u2019 rfl) A2028 u2030 rfl) (rW (c := 0) (d := 1000) (rAdd (e := 1) (f := 1000) h2001 (rR (x := 1)) rfl) rfl) (PC.keep I1996 hw ((mF.up (mF.up mF.refl (A_21 hw) u2019 rfl) A2028 u2030 rfl) : mF [21006, 200004] w μ1990 μ2029) rfl) (RT.keep I1997 hw ((mF.up (mF.up mF.refl (A_21 hw) u2019 rfl) A2028 u2030 rfl) : mF [21006, 200004] w μ1990 μ2029) rfl) (vc_X1_doActs_12_13 (nS h1998) h2000 h4 h3 hp2 h2002 h2001)
        by_cases h2032 : z2021 = 13
        · refine mr_tableIn (pc := 62) (v := 13) (tgt := 196) dX1_doActs_62 h2032 rfl rfl (by decide) ?_
          have h2033 : 13 ≤ z2021 ∧ z2021 ≤ 13 := (vc_X1_doActs_12_14 h2032 h2024 h2023)
          refine sv_aload_n (pc := 196) dX1_doActs_196 rfl rfl ?_
          refine gf_X1_2 (pc := 197) dX1_doActs_197 wF_X1_25 (A_21 hw) T2020 (RT.keep I1997 hw ((mF.up mF.refl (A_21 hw) u2019 rfl) : mF [21006] w μ1990 μ2018) rfl) fun b2034 q2035 A2036 => ?_
          refine mr_iload (pc := 200) (z := z2009) dX1_doActs_200 rfl ?_
          refine pf_X7_6 (pc := 202) dX1_doActs_202 wF_X1_108 A2036 T2020 (rW (c := (-2147483648)) (d := 2147483647) h2012 rfl) fun μ2037 u2038 T2039 => ?_
          refine sv_goto (pc := 205) (tgt := 260) dX1_doActs_205 (by decide) ?_
          refine mr_iinc (pc := 260) (lv' := [(5, iv (z1989 + 1)), (6, iv z2009), (0, .ref 21), (1, .ref a1), (2, iv p2), (3, iv p3), (4, iv p4)]) dX1_doActs_260 rfl (by decide) rfl ?_
          refine sv_goto (pc := 263) (tgt := 3) dX1_doActs_263 (by decide) ?_
          refine mr_lvS (lv' := [(0, .ref 21), (1, .ref a1), (2, iv p2), (3, iv p3), (4, iv p4), (5, iv (z1989 + 1))]) (List.forall_mem_cons.mpr ⟨rfl, List.forall_mem_cons.mpr ⟨rfl, List.forall_mem_cons.mpr ⟨rfl, List.forall_mem_cons.mpr ⟨rfl, List.forall_mem_cons.mpr ⟨rfl, List.forall_mem_cons.mpr ⟨rfl, fun _ h => absurd h List.not_mem_nil⟩⟩⟩⟩⟩⟩) ?_
          exact ih1999 (z1989 + 1) μ2037 T2039 (mF.up (mF.up (mF.call mF.refl F1994 rfl) (A_21 hw) u2019 rfl) A2036 u2038 rfl) (rW (c := 0) (d := 1000) (rAdd (e := 1) (f := 1000) h2001 (rR (x := 1)) rfl) rfl) (PC.keep I1996 hw ((mF.up (mF.up mF.refl (A_21 hw) u2019 rfl) A2036 u2038 rfl) : mF [21006, 200006] w μ1990 μ2037) rfl) (RT.keep I1997 hw ((mF.up (mF.up mF.refl (A_21 hw) u2019 rfl) A2036 u2038 rfl) : mF [21006, 200006] w μ1990 μ2037) rfl) (vc_X1_doActs_12_13 (nS h1998) h2000 h4 h3 hp2 h2002 h2001)
        by_cases h2040 : z2021 = 14
        · refine mr_tableIn (pc := 62) (v := 14) (tgt := 260) dX1_doActs_62 h2040 rfl rfl (by decide) ?_
          have h2041 : 14 ≤ z2021 ∧ z2021 ≤ 14 := (vc_X1_doActs_12_15 h2040 h2024 h2032 h2023)
          refine mr_iinc (pc := 260) (lv' := [(5, iv (z1989 + 1)), (6, iv z2009), (0, .ref 21), (1, .ref a1), (2, iv p2), (3, iv p3), (4, iv p4)]) dX1_doActs_260 rfl (by decide) rfl ?_
          refine sv_goto (pc := 263) (tgt := 3) dX1_doActs_263 (by decide) ?_
          refine mr_lvS (lv' := [(0, .ref 21), (1, .ref a1), (2, iv p2), (3, iv p3), (4, iv p4), (5, iv (z1989 + 1))]) (List.forall_mem_cons.mpr ⟨rfl, List.forall_mem_cons.mpr ⟨rfl, List.forall_mem_cons.mpr ⟨rfl, List.forall_mem_cons.mpr ⟨rfl, List.forall_mem_cons.mpr ⟨rfl, List.forall_mem_cons.mpr ⟨rfl, fun _ h => absurd h List.not_mem_nil⟩⟩⟩⟩⟩⟩) ?_
          exact ih1999 (z1989 + 1) μ2018 T2020 (mF.up (mF.call mF.refl F1994 rfl) (A_21 hw) u2019 rfl) (rW (c := 0) (d := 1000) (rAdd (e := 1) (f := 1000) h2001 (rR (x := 1)) rfl) rfl) (PC.keep I1996 hw ((mF.up mF.refl (A_21 hw) u2019 rfl) : mF [21006] w μ1990 μ2018) rfl) (RT.keep I1997 hw ((mF.up mF.refl (A_21 hw) u2019 rfl) : mF [21006] w μ1990 μ2018) rfl) (vc_X1_doActs_12_13 (nS h1998) h2000 h4 h3 hp2 h2002 h2001)
        by_cases h2042 : z2021 = 15
        · refine mr_tableIn (pc := 62) (v := 15) (tgt := 260) dX1_doActs_62 h2042 rfl rfl (by decide) ?_
          have h2043 : 15 ≤ z2021 ∧ z2021 ≤ 15 := (vc_X1_doActs_12_16 h2042 h2024 h2032 h2040 h2023)
          refine mr_iinc (pc := 260) (lv' := [(5, iv (z1989 + 1)), (6, iv z2009), (0, .ref 21), (1, .ref a1), (2, iv p2), (3, iv p3), (4, iv p4)]) dX1_doActs_260 rfl (by decide) rfl ?_
          refine sv_goto (pc := 263) (tgt := 3) dX1_doActs_263 (by decide) ?_
          refine mr_lvS (lv' := [(0, .ref 21), (1, .ref a1), (2, iv p2), (3, iv p3), (4, iv p4), (5, iv (z1989 + 1))]) (List.forall_mem_cons.mpr ⟨rfl, List.forall_mem_cons.mpr ⟨rfl, List.forall_mem_cons.mpr ⟨rfl, List.forall_mem_cons.mpr ⟨rfl, List.forall_mem_cons.mpr ⟨rfl, List.forall_mem_cons.mpr ⟨rfl, fun _ h => absurd h List.not_mem_nil⟩⟩⟩⟩⟩⟩) ?_
          exact ih1999 (z1989 + 1) μ2018 T2020 (mF.up (mF.call mF.refl F1994 rfl) (A_21 hw) u2019 rfl) (rW (c := 0) (d := 1000) (rAdd (e := 1) (f := 1000) h2001 (rR (x := 1)) rfl) rfl) (PC.keep I1996 hw ((mF.up mF.refl (A_21 hw) u2019 rfl) : mF [21006] w μ1990 μ2018) rfl) (RT.keep I1997 hw ((mF.up mF.refl (A_21 hw) u2019 rfl) : mF [21006] w μ1990 μ2018) rfl) (vc_X1_doActs_12_13 (nS h1998) h2000 h4 h3 hp2 h2002 h2001)
        by_cases h2044 : z2021 = 16
        · refine mr_tableIn (pc := 62) (v := 16) (tgt := 260) dX1_doActs_62 h2044 rfl rfl (by decide) ?_
          have h2045 : 16 ≤ z2021 ∧ z2021 ≤ 16 := (vc_X1_doActs_12_17 h2044 h2024 h2032 h2040 h2042 h2023)
          refine mr_iinc (pc := 260) (lv' := [(5, iv (z1989 + 1)), (6, iv z2009), (0, .ref 21), (1, .ref a1), (2, iv p2), (3, iv p3), (4, iv p4)]) dX1_doActs_260 rfl (by decide) rfl ?_
          refine sv_goto (pc := 263) (tgt := 3) dX1_doActs_263 (by decide) ?_
          refine mr_lvS (lv' := [(0, .ref 21), (1, .ref a1), (2, iv p2), (3, iv p3), (4, iv p4), (5, iv (z1989 + 1))]) (List.forall_mem_cons.mpr ⟨rfl, List.forall_mem_cons.mpr ⟨rfl, List.forall_mem_cons.mpr ⟨rfl, List.forall_mem_cons.mpr ⟨rfl, List.forall_mem_cons.mpr ⟨rfl, List.forall_mem_cons.mpr ⟨rfl, fun _ h => absurd h List.not_mem_nil⟩⟩⟩⟩⟩⟩) ?_
          exact ih1999 (z1989 + 1) μ2018 T2020 (mF.up (mF.call mF.refl F1994 rfl) (A_21 hw) u2019 rfl) (rW (c := 0) (d := 1000) (rAdd (e := 1) (f := 1000) h2001 (rR (x := 1)) rfl) rfl) (PC.keep I1996 hw ((mF.up mF.refl (A_21 hw) u2019 rfl) : mF [21006] w μ1990 μ2018) rfl) (RT.keep I1997 hw ((mF.up mF.refl (A_21 hw) u2019 rfl) : mF [21006] w μ1990 μ2018) rfl) (vc_X1_doActs_12_13 (nS h1998) h2000 h4 h3 hp2 h2002 h2001)
        by_cases h2046 : z2021 = 17
        · refine mr_tableIn (pc := 62) (v := 17) (tgt := 260) dX1_doActs_62 h2046 rfl rfl (by decide) ?_
          have h2047 : 17 ≤ z2021 ∧ z2021 ≤ 17 := (vc_X1_doActs_12_18 h2046 h2024 h2032 h2040 h2042 h2044 h2023)
          refine mr_iinc (pc := 260) (lv' := [(5, iv (z1989 + 1)), (6, iv z2009), (0, .ref 21), (1, .ref a1), (2, iv p2), (3, iv p3), (4, iv p4)]) dX1_doActs_260 rfl (by decide) rfl ?_
          refine sv_goto (pc := 263) (tgt := 3) dX1_doActs_263 (by decide) ?_
          refine mr_lvS (lv' := [(0, .ref 21), (1, .ref a1), (2, iv p2), (3, iv p3), (4, iv p4), (5, iv (z1989 + 1))]) (List.forall_mem_cons.mpr ⟨rfl, List.forall_mem_cons.mpr ⟨rfl, List.forall_mem_cons.mpr ⟨rfl, List.forall_mem_cons.mpr ⟨rfl, List.forall_mem_cons.mpr ⟨rfl, List.forall_mem_cons.mpr ⟨rfl, fun _ h => absurd h List.not_mem_nil⟩⟩⟩⟩⟩⟩) ?_
          exact ih1999 (z1989 + 1) μ2018 T2020 (mF.up (mF.call mF.refl F1994 rfl) (A_21 hw) u2019 rfl) (rW (c := 0) (d := 1000) (rAdd (e := 1) (f := 1000) h2001 (rR (x := 1)) rfl) rfl) (PC.keep I1996 hw ((mF.up mF.refl (A_21 hw) u2019 rfl) : mF [21006] w μ1990 μ2018) rfl) (RT.keep I1997 hw ((mF.up mF.refl (A_21 hw) u2019 rfl) : mF [21006] w μ1990 μ2018) rfl) (vc_X1_doActs_12_13 (nS h1998) h2000 h4 h3 hp2 h2002 h2001)
        by_cases h2048 : z2021 = 18
        · refine mr_tableIn (pc := 62) (v := 18) (tgt := 260) dX1_doActs_62 h2048 rfl rfl (by decide) ?_
          have h2049 : 18 ≤ z2021 ∧ z2021 ≤ 18 := (vc_X1_doActs_12_19 h2048 h2024 h2032 h2040 h2042 h2044 h2046 h2023)
          refine mr_iinc (pc := 260) (lv' := [(5, iv (z1989 + 1)), (6, iv z2009), (0, .ref 21), (1, .ref a1), (2, iv p2), (3, iv p3), (4, iv p4)]) dX1_doActs_260 rfl (by decide) rfl ?_
          refine sv_goto (pc := 263) (tgt := 3) dX1_doActs_263 (by decide) ?_
          refine mr_lvS (lv' := [(0, .ref 21), (1, .ref a1), (2, iv p2), (3, iv p3), (4, iv p4), (5, iv (z1989 + 1))]) (List.forall_mem_cons.mpr ⟨rfl, List.forall_mem_cons.mpr ⟨rfl, List.forall_mem_cons.mpr ⟨rfl, List.forall_mem_cons.mpr ⟨rfl, List.forall_mem_cons.mpr ⟨rfl, List.forall_mem_cons.mpr ⟨rfl, fun _ h => absurd h List.not_mem_nil⟩⟩⟩⟩⟩⟩) ?_
          exact ih1999 (z1989 + 1) μ2018 T2020 (mF.up (mF.call mF.refl F1994 rfl) (A_21 hw) u2019 rfl) (rW (c := 0) (d := 1000) (rAdd (e := 1) (f := 1000) h2001 (rR (x := 1)) rfl) rfl) (PC.keep I1996 hw ((mF.up mF.refl (A_21 hw) u2019 rfl) : mF [21006] w μ1990 μ2018) rfl) (RT.keep I1997 hw ((mF.up mF.refl (A_21 hw) u2019 rfl) : mF [21006] w μ1990 μ2018) rfl) (vc_X1_doActs_12_13 (nS h1998) h2000 h4 h3 hp2 h2002 h2001)
        by_cases h2050 : z2021 = 19
        · refine mr_tableIn (pc := 62) (v := 19) (tgt := 260) dX1_doActs_62 h2050 rfl rfl (by decide) ?_
          have h2051 : 19 ≤ z2021 ∧ z2021 ≤ 19 := (vc_X1_doActs_12_20 h2050 h2024 h2032 h2040 h2042 h2044 h2046 h2048 h2023)
          refine mr_iinc (pc := 260) (lv' := [(5, iv (z1989 + 1)), (6, iv z2009), (0, .ref 21), (1, .ref a1), (2, iv p2), (3, iv p3), (4, iv p4)]) dX1_doActs_260 rfl (by decide) rfl ?_
          refine sv_goto (pc := 263) (tgt := 3) dX1_doActs_263 (by decide) ?_
          refine mr_lvS (lv' := [(0, .ref 21), (1, .ref a1), (2, iv p2), (3, iv p3), (4, iv p4), (5, iv (z1989 + 1))]) (List.forall_mem_cons.mpr ⟨rfl, List.forall_mem_cons.mpr ⟨rfl, List.forall_mem_cons.mpr ⟨rfl, List.forall_mem_cons.mpr ⟨rfl, List.forall_mem_cons.mpr ⟨rfl, List.forall_mem_cons.mpr ⟨rfl, fun _ h => absurd h List.not_mem_nil⟩⟩⟩⟩⟩⟩) ?_
          exact ih1999 (z1989 + 1) μ2018 T2020 (mF.up (mF.call mF.refl F1994 rfl) (A_21 hw) u2019 rfl) (rW (c := 0) (d := 1000) (rAdd (e := 1) (f := 1000) h2001 (rR (x := 1)) rfl) rfl) (PC.keep I1996 hw ((mF.up mF.refl (A_21 hw) u2019 rfl) : mF [21006] w μ1990 μ2018) rfl) (RT.keep I1997 hw ((mF.up mF.refl (A_21 hw) u2019 rfl) : mF [21006] w μ1990 μ2018) rfl) (vc_X1_doActs_12_13 (nS h1998) h2000 h4 h3 hp2 h2002 h2001)
        by_cases h2052 : z2021 = 20
        · refine mr_tableIn (pc := 62) (v := 20) (tgt := 260) dX1_doActs_62 h2052 rfl rfl (by decide) ?_
          have h2053 : 20 ≤ z2021 ∧ z2021 ≤ 20 := (vc_X1_doActs_12_21 h2052 h2032 h2040 h2042 h2044 h2046 h2048 h2050 h2023)
          refine mr_iinc (pc := 260) (lv' := [(5, iv (z1989 + 1)), (6, iv z2009), (0, .ref 21), (1, .ref a1), (2, iv p2), (3, iv p3), (4, iv p4)]) dX1_doActs_260 rfl (by decide) rfl ?_
          refine sv_goto (pc := 263) (tgt := 3) dX1_doActs_263 (by decide) ?_
          refine mr_lvS (lv' := [(0, .ref 21), (1, .ref a1), (2, iv p2), (3, iv p3), (4, iv p4), (5, iv (z1989 + 1))]) (List.forall_mem_cons.mpr ⟨rfl, List.forall_mem_cons.mpr ⟨rfl, List.forall_mem_cons.mpr ⟨rfl, List.forall_mem_cons.mpr ⟨rfl, List.forall_mem_cons.mpr ⟨rfl, List.forall_mem_cons.mpr ⟨rfl, fun _ h => absurd h List.not_mem_nil⟩⟩⟩⟩⟩⟩) ?_
          exact ih1999 (z1989 + 1) μ2018 T2020 (mF.up (mF.call mF.refl F1994 rfl) (A_21 hw) u2019 rfl) (rW (c := 0) (d := 1000) (rAdd (e := 1) (f := 1000) h2001 (rR (x := 1)) rfl) rfl) (PC.keep I1996 hw ((mF.up mF.refl (A_21 hw) u2019 rfl) : mF [21006] w μ1990 μ2018) rfl) (RT.keep I1997 hw ((mF.up mF.refl (A_21 hw) u2019 rfl) : mF [21006] w μ1990 μ2018) rfl) (vc_X1_doActs_12_13 (nS h1998) h2000 h4 h3 hp2 h2002 h2001)
        by_cases h2054 : z2021 = 21
        · refine mr_tableIn (pc := 62) (v := 21) (tgt := 260) dX1_doActs_62 h2054 rfl rfl (by decide) ?_
          have h2055 : 21 ≤ z2021 ∧ z2021 ≤ 21 := (vc_X1_doActs_12_22 h2054 h2040 h2042 h2044 h2046 h2048 h2050 h2052 h2023)
          refine mr_iinc (pc := 260) (lv' := [(5, iv (z1989 + 1)), (6, iv z2009), (0, .ref 21), (1, .ref a1), (2, iv p2), (3, iv p3), (4, iv p4)]) dX1_doActs_260 rfl (by decide) rfl ?_
          refine sv_goto (pc := 263) (tgt := 3) dX1_doActs_263 (by decide) ?_
          refine mr_lvS (lv' := [(0, .ref 21), (1, .ref a1), (2, iv p2), (3, iv p3), (4, iv p4), (5, iv (z1989 + 1))]) (List.forall_mem_cons.mpr ⟨rfl, List.forall_mem_cons.mpr ⟨rfl, List.forall_mem_cons.mpr ⟨rfl, List.forall_mem_cons.mpr ⟨rfl, List.forall_mem_cons.mpr ⟨rfl, List.forall_mem_cons.mpr ⟨rfl, fun _ h => absurd h List.not_mem_nil⟩⟩⟩⟩⟩⟩) ?_
          exact ih1999 (z1989 + 1) μ2018 T2020 (mF.up (mF.call mF.refl F1994 rfl) (A_21 hw) u2019 rfl) (rW (c := 0) (d := 1000) (rAdd (e := 1) (f := 1000) h2001 (rR (x := 1)) rfl) rfl) (PC.keep I1996 hw ((mF.up mF.refl (A_21 hw) u2019 rfl) : mF [21006] w μ1990 μ2018) rfl) (RT.keep I1997 hw ((mF.up mF.refl (A_21 hw) u2019 rfl) : mF [21006] w μ1990 μ2018) rfl) (vc_X1_doActs_12_13 (nS h1998) h2000 h4 h3 hp2 h2002 h2001)
        by_cases h2056 : z2021 = 22
        · refine mr_tableIn (pc := 62) (v := 22) (tgt := 260) dX1_doActs_62 h2056 rfl rfl (by decide) ?_
          have h2057 : 22 ≤ z2021 ∧ z2021 ≤ 22 := (vc_X1_doActs_12_23 h2056 h2042 h2044 h2046 h2048 h2050 h2052 h2054 h2023)
          refine mr_iinc (pc := 260) (lv' := [(5, iv (z1989 + 1)), (6, iv z2009), (0, .ref 21), (1, .ref a1), (2, iv p2), (3, iv p3), (4, iv p4)]) dX1_doActs_260 rfl (by decide) rfl ?_
          refine sv_goto (pc := 263) (tgt := 3) dX1_doActs_263 (by decide) ?_
          refine mr_lvS (lv' := [(0, .ref 21), (1, .ref a1), (2, iv p2), (3, iv p3), (4, iv p4), (5, iv (z1989 + 1))]) (List.forall_mem_cons.mpr ⟨rfl, List.forall_mem_cons.mpr ⟨rfl, List.forall_mem_cons.mpr ⟨rfl, List.forall_mem_cons.mpr ⟨rfl, List.forall_mem_cons.mpr ⟨rfl, List.forall_mem_cons.mpr ⟨rfl, fun _ h => absurd h List.not_mem_nil⟩⟩⟩⟩⟩⟩) ?_
          exact ih1999 (z1989 + 1) μ2018 T2020 (mF.up (mF.call mF.refl F1994 rfl) (A_21 hw) u2019 rfl) (rW (c := 0) (d := 1000) (rAdd (e := 1) (f := 1000) h2001 (rR (x := 1)) rfl) rfl) (PC.keep I1996 hw ((mF.up mF.refl (A_21 hw) u2019 rfl) : mF [21006] w μ1990 μ2018) rfl) (RT.keep I1997 hw ((mF.up mF.refl (A_21 hw) u2019 rfl) : mF [21006] w μ1990 μ2018) rfl) (vc_X1_doActs_12_13 (nS h1998) h2000 h4 h3 hp2 h2002 h2001)
        by_cases h2058 : z2021 = 23
        · refine mr_tableIn (pc := 62) (v := 23) (tgt := 144) dX1_doActs_62 h2058 rfl rfl (by decide) ?_
          have h2059 : 23 ≤ z2021 ∧ z2021 ≤ 23 := (vc_X1_doActs_12_24 h2058 h2044 h2046 h2048 h2050 h2052 h2054 h2056 h2023)
          refine sv_aload_n (pc := 144) dX1_doActs_144 rfl rfl ?_
          refine mr_iconst (pc := 145) (z := 1) dX1_doActs_145 ?_
          refine pf_X1_7 (pc := 146) dX1_doActs_146 wF_X1_50 (A_21 hw) T2020 (rW (c := 0) (d := 2) (rR (x := 1)) rfl) fun μ2060 u2061 T2062 => ?_
          refine sv_goto (pc := 149) (tgt := 260) dX1_doActs_149 (by decide) ?_
          refine mr_iinc (pc := 260) (lv' := [(5, iv (z1989 + 1)), (6, iv z2009), (0, .ref 21), (1, .ref a1), (2, iv p2), (3, iv p3), (4, iv p4)]) dX1_doActs_260 rfl (by decide) rfl ?_
          refine sv_goto (pc := 263) (tgt := 3) dX1_doActs_263 (by decide) ?_
          refine mr_lvS (lv' := [(0, .ref 21), (1, .ref a1), (2, iv p2), (3, iv p3), (4, iv p4), (5, iv (z1989 + 1))]) (List.forall_mem_cons.mpr ⟨rfl, List.forall_mem_cons.mpr ⟨rfl, List.forall_mem_cons.mpr ⟨rfl, List.forall_mem_cons.mpr ⟨rfl, List.forall_mem_cons.mpr ⟨rfl, List.forall_mem_cons.mpr ⟨rfl, fun _ h => absurd h List.not_mem_nil⟩⟩⟩⟩⟩⟩) ?_
          exact ih1999 (z1989 + 1) μ2060 T2062 (mF.up (mF.up (mF.call mF.refl F1994 rfl) (A_21 hw) u2019 rfl) (A_21 hw) u2061 rfl) (rW (c := 0) (d := 1000) (rAdd (e := 1) (f := 1000) h2001 (rR (x := 1)) rfl) rfl) (PC.keep I1996 hw ((mF.up (mF.up mF.refl (A_21 hw) u2019 rfl) (A_21 hw) u2061 rfl) : mF [21006, 21007] w μ1990 μ2060) rfl) (RT.keep I1997 hw ((mF.up (mF.up mF.refl (A_21 hw) u2019 rfl) (A_21 hw) u2061 rfl) : mF [21006, 21007] w μ1990 μ2060) rfl) (vc_X1_doActs_12_13 (nS h1998) h2000 h4 h3 hp2 h2002 h2001)
        by_cases h2063 : z2021 = 24
        · refine mr_tableIn (pc := 62) (v := 24) (tgt := 152) dX1_doActs_62 h2063 rfl rfl (by decide) ?_
          have h2064 : 24 ≤ z2021 ∧ z2021 ≤ 24 := (vc_X1_doActs_12_25 h2063 h2046 h2048 h2050 h2052 h2054 h2056 h2058 h2023)
          refine sv_aload_n (pc := 152) dX1_doActs_152 rfl rfl ?_
          refine mr_iconst (pc := 153) (z := 2) dX1_doActs_153 ?_
          refine pf_X1_7 (pc := 154) dX1_doActs_154 wF_X1_50 (A_21 hw) T2020 (rW (c := 0) (d := 2) (rR (x := 2)) rfl) fun μ2065 u2066 T2067 => ?_
          refine sv_goto (pc := 157) (tgt := 260) dX1_doActs_157 (by decide) ?_
          refine mr_iinc (pc := 260) (lv' := [(5, iv (z1989 + 1)), (6, iv z2009), (0, .ref 21), (1, .ref a1), (2, iv p2), (3, iv p3), (4, iv p4)]) dX1_doActs_260 rfl (by decide) rfl ?_
          refine sv_goto (pc := 263) (tgt := 3) dX1_doActs_263 (by decide) ?_
          refine mr_lvS (lv' := [(0, .ref 21), (1, .ref a1), (2, iv p2), (3, iv p3), (4, iv p4), (5, iv (z1989 + 1))]) (List.forall_mem_cons.mpr ⟨rfl, List.forall_mem_cons.mpr ⟨rfl, List.forall_mem_cons.mpr ⟨rfl, List.forall_mem_cons.mpr ⟨rfl, List.forall_mem_cons.mpr ⟨rfl, List.forall_mem_cons.mpr ⟨rfl, fun _ h => absurd h List.not_mem_nil⟩⟩⟩⟩⟩⟩) ?_
          exact ih1999 (z1989 + 1) μ2065 T2067 (mF.up (mF.up (mF.call mF.refl F1994 rfl) (A_21 hw) u2019 rfl) (A_21 hw) u2066 rfl) (rW (c := 0) (d := 1000) (rAdd (e := 1) (f := 1000) h2001 (rR (x := 1)) rfl) rfl) (PC.keep I1996 hw ((mF.up (mF.up mF.refl (A_21 hw) u2019 rfl) (A_21 hw) u2066 rfl) : mF [21006, 21007] w μ1990 μ2065) rfl) (RT.keep I1997 hw ((mF.up (mF.up mF.refl (A_21 hw) u2019 rfl) (A_21 hw) u2066 rfl) : mF [21006, 21007] w μ1990 μ2065) rfl) (vc_X1_doActs_12_13 (nS h1998) h2000 h4 h3 hp2 h2002 h2001)
        by_cases h2068 : z2021 = 25
        · refine mr_tableIn (pc := 62) (v := 25) (tgt := 160) dX1_doActs_62 h2068 rfl rfl (by decide) ?_
          have h2069 : 25 ≤ z2021 ∧ z2021 ≤ 25 := (vc_X1_doActs_12_26 h2068 h2048 h2050 h2052 h2054 h2056 h2058 h2063 h2023)
          refine sv_aload_n (pc := 160) dX1_doActs_160 rfl rfl ?_
          refine gf_X1_2 (pc := 161) dX1_doActs_161 wF_X1_25 (A_21 hw) T2020 (RT.keep I1997 hw ((mF.up mF.refl (A_21 hw) u2019 rfl) : mF [21006] w μ1990 μ2018) rfl) fun b2070 q2071 A2072 => ?_
          refine mr_iload (pc := 164) (z := z2009) dX1_doActs_164 rfl ?_
          refine mr_cVV (pc := 166) (c_X7_addMark hw T2020 A2072 (rW (c := (-2147483648)) (d := 2147483647) h2012 rfl)) (gOk _ _ _ _ _) dX1_doActs_166 (tX7_addMark _ _ _ _ _) ⟨wV_X7_addMark, wL_X7_addMark⟩ wM_X1_124 (gCX7 _ _ _ _ _) rfl A2072 rfl ⟨le_t rfl, le_t rfl⟩ ⟨le_t rfl, le_t rfl⟩ rfl (le_t rfl) fun μ2073 T2074 F2075 h2076 => ?_
          refine sv_goto (pc := 169) (tgt := 260) dX1_doActs_169 (by decide) ?_
          refine mr_iinc (pc := 260) (lv' := [(5, iv (z1989 + 1)), (6, iv z2009), (0, .ref 21), (1, .ref a1), (2, iv p2), (3, iv p3), (4, iv p4)]) dX1_doActs_260 rfl (by decide) rfl ?_
          refine sv_goto (pc := 263) (tgt := 3) dX1_doActs_263 (by decide) ?_
          refine mr_lvS (lv' := [(0, .ref 21), (1, .ref a1), (2, iv p2), (3, iv p3), (4, iv p4), (5, iv (z1989 + 1))]) (List.forall_mem_cons.mpr ⟨rfl, List.forall_mem_cons.mpr ⟨rfl, List.forall_mem_cons.mpr ⟨rfl, List.forall_mem_cons.mpr ⟨rfl, List.forall_mem_cons.mpr ⟨rfl, List.forall_mem_cons.mpr ⟨rfl, fun _ h => absurd h List.not_mem_nil⟩⟩⟩⟩⟩⟩) ?_
          exact ih1999 (z1989 + 1) μ2073 T2074 (mF.call (mF.up (mF.call mF.refl F1994 rfl) (A_21 hw) u2019 rfl) F2075 rfl) (rW (c := 0) (d := 1000) (rAdd (e := 1) (f := 1000) h2001 (rR (x := 1)) rfl) rfl) (PC.keep I1996 hw ((mF.call (mF.up mF.refl (A_21 hw) u2019 rfl) F2075 rfl) : mF [21006, 200008, 202999] w μ1990 μ2073) rfl) (RT.keep I1997 hw ((mF.call (mF.up mF.refl (A_21 hw) u2019 rfl) F2075 rfl) : mF [21006, 200008, 202999] w μ1990 μ2073) rfl) (vc_X1_doActs_12_13 (nS h1998) h2000 h4 h3 hp2 h2002 h2001)
        by_cases h2077 : z2021 = 26
        · refine mr_tableIn (pc := 62) (v := 26) (tgt := 172) dX1_doActs_62 h2077 rfl rfl (by decide) ?_
          have h2078 : 26 ≤ z2021 ∧ z2021 ≤ 26 := (vc_X1_doActs_12_27 h2077 h2050 h2052 h2054 h2056 h2058 h2063 h2068 h2023)
          refine sv_aload_n (pc := 172) dX1_doActs_172 rfl rfl ?_
          refine gf_X1_2 (pc := 173) dX1_doActs_173 wF_X1_25 (A_21 hw) T2020 (RT.keep I1997 hw ((mF.up mF.refl (A_21 hw) u2019 rfl) : mF [21006] w μ1990 μ2018) rfl) fun b2079 q2080 A2081 => ?_
          refine mr_iload (pc := 176) (z := z2009) dX1_doActs_176 rfl ?_
          refine mr_cVV (pc := 178) (c_X7_dropMark hw T2020 A2081 (rW (c := (-2147483648)) (d := 2147483647) h2012 rfl)) (gOk _ _ _ _ _) dX1_doActs_178 (tX7_dropMark _ _ _ _ _) ⟨wV_X7_dropMark, wL_X7_dropMark⟩ wM_X1_128 (gCX7 _ _ _ _ _) rfl A2081 rfl ⟨le_t rfl, le_t rfl⟩ ⟨le_t rfl, le_t rfl⟩ rfl (le_t rfl) fun μ2082 T2083 F2084 h2085 => ?_
          refine sv_goto (pc := 181) (tgt := 260) dX1_doActs_181 (by decide) ?_
          refine mr_iinc (pc := 260) (lv' := [(5, iv (z1989 + 1)), (6, iv z2009), (0, .ref 21), (1, .ref a1), (2, iv p2), (3, iv p3), (4, iv p4)]) dX1_doActs_260 rfl (by decide) rfl ?_
          refine sv_goto (pc := 263) (tgt := 3) dX1_doActs_263 (by decide) ?_
          refine mr_lvS (lv' := [(0, .ref 21), (1, .ref a1), (2, iv p2), (3, iv p3), (4, iv p4), (5, iv (z1989 + 1))]) (List.forall_mem_cons.mpr ⟨rfl, List.forall_mem_cons.mpr ⟨rfl, List.forall_mem_cons.mpr ⟨rfl, List.forall_mem_cons.mpr ⟨rfl, List.forall_mem_cons.mpr ⟨rfl, List.forall_mem_cons.mpr ⟨rfl, fun _ h => absurd h List.not_mem_nil⟩⟩⟩⟩⟩⟩) ?_
          exact ih1999 (z1989 + 1) μ2082 T2083 (mF.call (mF.up (mF.call mF.refl F1994 rfl) (A_21 hw) u2019 rfl) F2084 rfl) (rW (c := 0) (d := 1000) (rAdd (e := 1) (f := 1000) h2001 (rR (x := 1)) rfl) rfl) (PC.keep I1996 hw ((mF.call (mF.up mF.refl (A_21 hw) u2019 rfl) F2084 rfl) : mF [21006, 200008, 202999] w μ1990 μ2082) rfl) (RT.keep I1997 hw ((mF.call (mF.up mF.refl (A_21 hw) u2019 rfl) F2084 rfl) : mF [21006, 200008, 202999] w μ1990 μ2082) rfl) (vc_X1_doActs_12_13 (nS h1998) h2000 h4 h3 hp2 h2002 h2001)
        by_cases h2086 : z2021 = 27
        · refine mr_tableIn (pc := 62) (v := 27) (tgt := 208) dX1_doActs_62 h2086 rfl rfl (by decide) ?_
          have h2087 : 27 ≤ z2021 ∧ z2021 ≤ 27 := (vc_X1_doActs_12_28 h2086 h2052 h2054 h2056 h2058 h2063 h2068 h2077 h2023)
          refine sv_aload_n (pc := 208) dX1_doActs_208 rfl rfl ?_
          refine gf_X1_2 (pc := 209) dX1_doActs_209 wF_X1_25 (A_21 hw) T2020 (RT.keep I1997 hw ((mF.up mF.refl (A_21 hw) u2019 rfl) : mF [21006] w μ1990 μ2018) rfl) fun b2088 q2089 A2090 => ?_
          refine gf_X7_7 (pc := 212) dX1_doActs_212 wF_X1_96 A2090 T2020 fun z2091 q2092 h2093 => ?_
          have J2116 : ∀ (μ2110 : mM), (mT w μ2110) → (mF [21007, 200007, 201999] w μ2018 μ2110) → (PC w μ2110) → (RT μ2110) → sV (gG l D c H0 sa) mX1_doActs (sRm 16 0 0) (sZ (gG l D c H0 sa) 0 0 (qV w [21006, 21007, 200004, 200006, 200007, 200008, 201999, 202999] μ (fun μ1 => True))) 260 [(0, .ref 21), (1, .ref a1), (2, iv p2), (3, iv p3), (4, iv p4), (5, iv z1989)] [] (mk w μ2110) 0 0 := by
            intro μ2110 T2111 F2112 I2114 I2115
            refine mr_iinc (pc := 260) (lv' := [(5, iv (z1989 + 1)), (0, .ref 21), (1, .ref a1), (2, iv p2), (3, iv p3), (4, iv p4)]) dX1_doActs_260 rfl (by decide) rfl ?_
            refine sv_goto (pc := 263) (tgt := 3) dX1_doActs_263 (by decide) ?_
            refine mr_lvS (lv' := [(0, .ref 21), (1, .ref a1), (2, iv p2), (3, iv p3), (4, iv p4), (5, iv (z1989 + 1))]) (List.forall_mem_cons.mpr ⟨rfl, List.forall_mem_cons.mpr ⟨rfl, List.forall_mem_cons.mpr ⟨rfl, List.forall_mem_cons.mpr ⟨rfl, List.forall_mem_cons.mpr ⟨rfl, List.forall_mem_cons.mpr ⟨rfl, fun _ h => absurd h List.not_mem_nil⟩⟩⟩⟩⟩⟩) ?_
            exact ih1999 (z1989 + 1) μ2110 T2111 (mF.call (mF.up (mF.call mF.refl F1994 rfl) (A_21 hw) u2019 rfl) F2112 rfl) (rW (c := 0) (d := 1000) (rAdd (e := 1) (f := 1000) h2001 (rR (x := 1)) rfl) rfl) I2114 I2115 (vc_X1_doActs_12_13 (nS h1998) h2000 h4 h3 hp2 h2002 h2001)
          refine mr_if_le (pc := 215) (tgt := 260) dX1_doActs_215 (by decide) (r32 h2093 rfl) (fun h2117 => ?_) (fun h2117 => ?_)
          · have h2118 : 0 ≤ z2091 ∧ z2091 ≤ 0 := (vc_X12_unlike_21 h2117 h2093)
            refine mr_lvS (lv' := [(0, .ref 21), (1, .ref a1), (2, iv p2), (3, iv p3), (4, iv p4), (5, iv z1989)]) (List.forall_mem_cons.mpr ⟨rfl, List.forall_mem_cons.mpr ⟨rfl, List.forall_mem_cons.mpr ⟨rfl, List.forall_mem_cons.mpr ⟨rfl, List.forall_mem_cons.mpr ⟨rfl, List.forall_mem_cons.mpr ⟨rfl, fun _ h => absurd h List.not_mem_nil⟩⟩⟩⟩⟩⟩) ?_
            exact J2116 μ2018 T2020 mF.refl (PC.keep I1996 hw ((mF.up mF.refl (A_21 hw) u2019 rfl) : mF [21006] w μ1990 μ2018) rfl) (RT.keep I1997 hw ((mF.up mF.refl (A_21 hw) u2019 rfl) : mF [21006] w μ1990 μ2018) rfl)
          have h2119 : 1 ≤ z2091 ∧ z2091 ≤ 20 := (vc_X12_unlike_22 h2117 h2093)
          refine sv_aload_n (pc := 218) dX1_doActs_218 rfl rfl ?_
          refine gk_X1_2 (pc := 219) dX1_doActs_219 wF_X1_25 (A_21 hw) q2089 ?_
          refine sv_aload_n (pc := 222) dX1_doActs_222 rfl rfl ?_
          refine gk_X1_2 (pc := 223) dX1_doActs_223 wF_X1_25 (A_21 hw) q2089 ?_
          refine gf_X7_0 (pc := 226) dX1_doActs_226 wF_X1_114 A2090 T2020 fun A2120 => ?_
          refine mr_iconst (pc := 229) (z := 0) dX1_doActs_229 ?_
          refine la_201 (pc := 230) dX1_doActs_230 A2120 T2020 (rIx (n := 20) (rR (x := 0)) rfl) fun z2121 q2122 h2123 => ?_
          refine mr_iload (pc := 231) (z := z2009) dX1_doActs_231 rfl ?_
          refine mr_cVI (pc := 233) (c_X7_putInFront hw T2020 A2090 h2123 (rW (c := (-2147483648)) (d := 1000000) h2012 rfl)) (gOk _ _ _ _ _) dX1_doActs_233 (tX7_putInFront _ _ _ _ _) ⟨wV_X7_putInFront, wL_X7_putInFront⟩ wM_X1_131 (gCX7 _ _ _ _ _) rfl A2090 rfl ⟨le_t rfl, le_t rfl⟩ ⟨le_t rfl, le_t rfl⟩ rfl (le_t rfl) fun z2128 μ2124 T2125 F2126 h2127 => ?_
          refine mr_if_ne (pc := 236) (tgt := 260) dX1_doActs_236 (by decide) (r32 h2127.1 rfl) (fun h2129 => ?_) (fun h2129 => ?_)
          · have h2130 : 1 ≤ z2128 ∧ z2128 ≤ 1 := (vc_X12_ring_24 h2129 h2127.1)
            refine mr_lvS (lv' := [(0, .ref 21), (1, .ref a1), (2, iv p2), (3, iv p3), (4, iv p4), (5, iv z1989)]) (List.forall_mem_cons.mpr ⟨rfl, List.forall_mem_cons.mpr ⟨rfl, List.forall_mem_cons.mpr ⟨rfl, List.forall_mem_cons.mpr ⟨rfl, List.forall_mem_cons.mpr ⟨rfl, List.forall_mem_cons.mpr ⟨rfl, fun _ h => absurd h List.not_mem_nil⟩⟩⟩⟩⟩⟩) ?_
            exact J2116 μ2124 T2125 (mF.call mF.refl F2126 rfl) (PC.keep I1996 hw ((mF.call (mF.up mF.refl (A_21 hw) u2019 rfl) F2126 rfl) : mF [21006, 200007, 201999] w μ1990 μ2124) rfl) (RT.keep I1997 hw ((mF.call (mF.up mF.refl (A_21 hw) u2019 rfl) F2126 rfl) : mF [21006, 200007, 201999] w μ1990 μ2124) rfl)
          have h2131 : 0 ≤ z2128 ∧ z2128 ≤ 0 := (vc_X12_ring_22 h2129 h2127.1)
          refine sv_aload_n (pc := 239) dX1_doActs_239 rfl rfl ?_
          refine mr_iconst (pc := 240) (z := 2) dX1_doActs_240 ?_
          refine pf_X1_7 (pc := 241) dX1_doActs_241 wF_X1_50 (A_21 hw) T2125 (rW (c := 0) (d := 2) (rR (x := 2)) rfl) fun μ2132 u2133 T2134 => ?_
          refine sv_goto (pc := 244) (tgt := 260) dX1_doActs_244 (by decide) ?_
          refine mr_lvS (lv' := [(0, .ref 21), (1, .ref a1), (2, iv p2), (3, iv p3), (4, iv p4), (5, iv z1989)]) (List.forall_mem_cons.mpr ⟨rfl, List.forall_mem_cons.mpr ⟨rfl, List.forall_mem_cons.mpr ⟨rfl, List.forall_mem_cons.mpr ⟨rfl, List.forall_mem_cons.mpr ⟨rfl, List.forall_mem_cons.mpr ⟨rfl, fun _ h => absurd h List.not_mem_nil⟩⟩⟩⟩⟩⟩) ?_
          exact J2116 μ2132 T2134 (mF.up (mF.call mF.refl F2126 rfl) (A_21 hw) u2133 rfl) (PC.keep I1996 hw ((mF.up (mF.call (mF.up mF.refl (A_21 hw) u2019 rfl) F2126 rfl) (A_21 hw) u2133 rfl) : mF [21006, 21007, 200007, 201999] w μ1990 μ2132) rfl) (RT.keep I1997 hw ((mF.up (mF.call (mF.up mF.refl (A_21 hw) u2019 rfl) F2126 rfl) (A_21 hw) u2133 rfl) : mF [21006, 21007, 200007, 201999] w μ1990 μ2132) rfl)
        by_cases h2135 : z2021 = 28
        · refine mr_tableIn (pc := 62) (v := 28) (tgt := 247) dX1_doActs_62 h2135 rfl rfl (by decide) ?_
          have h2136 : 28 ≤ z2021 ∧ z2021 ≤ 28 := (vc_X1_doActs_12_33 h2135 h2054 h2056 h2058 h2063 h2068 h2077 h2086 h2023)
          refine sv_aload_n (pc := 247) dX1_doActs_247 rfl rfl ?_
          refine mr_iload (pc := 248) (z := z2009) dX1_doActs_248 rfl ?_
          refine mr_iload (pc := 250) (z := p4) dX1_doActs_250 rfl ?_
          refine mr_iconst (pc := 252) (z := 1) dX1_doActs_252 ?_
          refine mr_iadd (pc := 253) (x := p4) (y := 1) dX1_doActs_253 ?_
          refine mr_cVV (pc := 254) (c_X1_goThrough_7 hw T2020 (rW (c := (-2147483648)) (d := 2147483647) h2012 rfl) (rAdd (e := 7) (f := 7) hp4 (rR (x := 1)) rfl) (PC.keep I1996 hw ((mF.up mF.refl (A_21 hw) u2019 rfl) : mF [21006] w μ1990 μ2018) rfl) (RT.keep I1997 hw ((mF.up mF.refl (A_21 hw) u2019 rfl) : mF [21006] w μ1990 μ2018) rfl)) (gOk _ _ _ _ _) dX1_doActs_254 (tX1_goThrough _ _ _ _ _) ⟨wV_X1_goThrough, wL_X1_goThrough⟩ wM_X1_53 (gCX1 _ _ _ _ _) rfl (A_21 hw) rfl ⟨le_t rfl, le_t rfl⟩ ⟨le_t rfl, le_t rfl⟩ rfl (le_t rfl) fun μ2137 T2138 F2139 h2140 => ?_
          refine sv_goto (pc := 257) (tgt := 260) dX1_doActs_257 (by decide) ?_
          refine mr_iinc (pc := 260) (lv' := [(5, iv (z1989 + 1)), (6, iv z2009), (0, .ref 21), (1, .ref a1), (2, iv p2), (3, iv p3), (4, iv p4)]) dX1_doActs_260 rfl (by decide) rfl ?_
          refine sv_goto (pc := 263) (tgt := 3) dX1_doActs_263 (by decide) ?_
          refine mr_lvS (lv' := [(0, .ref 21), (1, .ref a1), (2, iv p2), (3, iv p3), (4, iv p4), (5, iv (z1989 + 1))]) (List.forall_mem_cons.mpr ⟨rfl, List.forall_mem_cons.mpr ⟨rfl, List.forall_mem_cons.mpr ⟨rfl, List.forall_mem_cons.mpr ⟨rfl, List.forall_mem_cons.mpr ⟨rfl, List.forall_mem_cons.mpr ⟨rfl, fun _ h => absurd h List.not_mem_nil⟩⟩⟩⟩⟩⟩) ?_
          exact ih1999 (z1989 + 1) μ2137 T2138 (mF.call (mF.up (mF.call mF.refl F1994 rfl) (A_21 hw) u2019 rfl) F2139 rfl) (rW (c := 0) (d := 1000) (rAdd (e := 1) (f := 1000) h2001 (rR (x := 1)) rfl) rfl) (PC.keep I1996 hw ((mF.call (mF.up mF.refl (A_21 hw) u2019 rfl) F2139 rfl) : mF [21006, 21007, 200004, 200006, 200007, 200008, 201999, 202999] w μ1990 μ2137) rfl) (RT.keep I1997 hw ((mF.call (mF.up mF.refl (A_21 hw) u2019 rfl) F2139 rfl) : mF [21006, 21007, 200004, 200006, 200007, 200008, 201999, 202999] w μ1990 μ2137) rfl) (vc_X1_doActs_12_13 (nS h1998) h2000 h4 h3 hp2 h2002 h2001)
        refine mr_tableOut (pc := 62) (tgt := 260) dX1_doActs_62 h2023 (vc_X1_doActs_12_34 h2024 h2032 h2040 h2042 h2044 h2046 h2048 h2050 h2052 h2054 h2056 h2058 h2063 h2068 h2077 h2086 h2135 h2023) (by decide) ?_
        refine mr_iinc (pc := 260) (lv' := [(5, iv (z1989 + 1)), (6, iv z2009), (0, .ref 21), (1, .ref a1), (2, iv p2), (3, iv p3), (4, iv p4)]) dX1_doActs_260 rfl (by decide) rfl ?_
        refine sv_goto (pc := 263) (tgt := 3) dX1_doActs_263 (by decide) ?_
        refine mr_lvS (lv' := [(0, .ref 21), (1, .ref a1), (2, iv p2), (3, iv p3), (4, iv p4), (5, iv (z1989 + 1))]) (List.forall_mem_cons.mpr ⟨rfl, List.forall_mem_cons.mpr ⟨rfl, List.forall_mem_cons.mpr ⟨rfl, List.forall_mem_cons.mpr ⟨rfl, List.forall_mem_cons.mpr ⟨rfl, List.forall_mem_cons.mpr ⟨rfl, fun _ h => absurd h List.not_mem_nil⟩⟩⟩⟩⟩⟩) ?_
        exact ih1999 (z1989 + 1) μ2018 T2020 (mF.up (mF.call mF.refl F1994 rfl) (A_21 hw) u2019 rfl) (rW (c := 0) (d := 1000) (rAdd (e := 1) (f := 1000) h2001 (rR (x := 1)) rfl) rfl) (PC.keep I1996 hw ((mF.up mF.refl (A_21 hw) u2019 rfl) : mF [21006] w μ1990 μ2018) rfl) (RT.keep I1997 hw ((mF.up mF.refl (A_21 hw) u2019 rfl) : mF [21006] w μ1990 μ2018) rfl) (vc_X1_doActs_12_13 (nS h1998) h2000 h4 h3 hp2 h2002 h2001)
      have h2141 : 500 ≤ z2013 ∧ z2013 ≤ 500 := (vc_X1_doActs_12_35 h2016 h2015)
      refine sv_aload_n (pc := 38) dX1_doActs_38 rfl rfl ?_
      refine mr_iconst (pc := 39) (z := 2) dX1_doActs_39 ?_
      refine pf_X1_7 (pc := 40) dX1_doActs_40 wF_X1_50 (A_21 hw) T1993 (rW (c := 0) (d := 2) (rR (x := 2)) rfl) fun μ2142 u2143 T2144 => ?_
      exact mr_vret dX1_doActs_43 rfl (le_t rfl) (le_t rfl) T2144 (mF.up (mF.call mF.refl F1994 rfl) (A_21 hw) u2143 rfl) trivial
  refine mr_lvS (lv' := [(0, .ref 21), (1, .ref a1), (2, iv p2), (3, iv p3), (4, iv p4), (5, iv 0)]) (List.forall_mem_cons.mpr ⟨rfl, List.forall_mem_cons.mpr ⟨rfl, List.forall_mem_cons.mpr ⟨rfl, List.forall_mem_cons.mpr ⟨rfl, List.forall_mem_cons.mpr ⟨rfl, List.forall_mem_cons.mpr ⟨rfl, fun _ h => absurd h List.not_mem_nil⟩⟩⟩⟩⟩⟩) ?_
  exact L1991 1002 0 μ hT mF.refl (rW (c := 0) (d := 1000) (rR (x := 0)) rfl) hIPC hIRT vc_X1_doActs_12_36
theorem vc_X1_goThrough_6_5 {p2 : Int} (h0 : 12 < p2) (h1 : 6 ≤ p2 ∧ p2 ≤ 6) : False := by omega
set_option maxRecDepth 4000 in
set_option maxHeartbeats 4000000 in
theorem c_X1_goThrough_6 {l : Launch} {D : va_G} {c : Nat → ClassId} {H0 : Heap} {sa : Nat × Nat × (Nat → Int32)} {w : mW} {μ : mM} (hw : mWF w) (hT : mT w μ) {p1 : Int} (hp1 : (-2147483648) ≤ p1 ∧ p1 ≤ 2147483647) {p2 : Int} (hp2 : 6 ≤ p2 ∧ p2 ≤ 6) (hIPC : PC w μ) (hIRT : RT μ) : sC (gG l D c H0 sa) mX1_goThrough 17 0 0 [.ref 21, iv p1, iv p2] (mk w μ) (qV w [21006, 21007, 200004, 200006, 200007, 200008, 201999, 202999] μ (fun μ1 => True)) := by
  refine sC.of rfl (by decide) (le_t rfl) ?_
  refine mr_lvE (lv' := [(0, .ref 21), (1, iv p1), (2, iv p2)]) rfl ?_
  refine mr_iload_n (pc := 0) (z := p1) dX1_goThrough_0 rfl rfl ?_
  refine mr_if_lt (pc := 1) (tgt := 18) dX1_goThrough_1 (by decide) hp1 (fun h1 => ?_) (fun h1 => ?_)
  · have h2 : (-2147483648) ≤ p1 ∧ p1 ≤ (-1) := (vc_X12_ring_60 h1 hp1)
    exact mr_vret dX1_goThrough_18 rfl (le_t rfl) (le_t rfl) hT mF.refl trivial
  have h3 : 0 ≤ p1 ∧ p1 ≤ 2147483647 := (vc_X12_ring_1 h1 hp1)
  refine mr_iload_n (pc := 4) (z := p1) dX1_goThrough_4 rfl rfl ?_
  refine sv_aload_n (pc := 5) dX1_goThrough_5 rfl rfl ?_
  refine gf_X1_8 (pc := 6) dX1_goThrough_6 wF_X1_21 (A_21 hw) hT fun z4 q5 h6 => ?_
  refine mr_icmp_ge (pc := 9) (tgt := 18) dX1_goThrough_9 (by decide) (r32 h3 rfl) (r32 h6.2 rfl) (fun h7 => ?_) (fun h7 => ?_)
  · exact mr_vret dX1_goThrough_18 rfl (le_t rfl) (le_t rfl) hT mF.refl trivial
  have h8 : 0 ≤ p1 ∧ p1 ≤ 11 := (vc_X1_goThrough_13_3 h7 h1 h6.1 h3 h6.2)
  have h9 : 1 ≤ z4 ∧ z4 ≤ 12 := (vc_X1_goThrough_13_4 h7 h1 h6.1 h8 h6.2)
  refine mr_iload_n (pc := 12) (z := p2) dX1_goThrough_12 rfl rfl ?_
  refine mr_bipush (pc := 13) (z := 12) dX1_goThrough_13 (by decide) ?_
  refine mr_icmp_le (pc := 15) (tgt := 19) dX1_goThrough_15 (by decide) (r32 hp2 rfl) (r32 (rR (x := 12)) rfl) (fun _ => ?_) (fun h => ((vc_X1_goThrough_6_5 h hp2)).elim)
  refine sv_aload_n (pc := 19) dX1_goThrough_19 rfl rfl ?_
  refine gf_X1_1 (pc := 20) dX1_goThrough_20 wF_X1_17 (A_21 hw) hT ?_
  refine mr_iload_n (pc := 23) (z := p1) dX1_goThrough_23 rfl rfl ?_
  refine la_22 (pc := 24) dX1_goThrough_24 (A_22 hw) hT (rIx (n := 12) h8 rfl) (vc_X1_goThrough_12_6 h1 h6.1 h7 h8 h9) fun b10 q11 A12 => ?_
  refine mr_astore_n (pc := 25) (lv' := [(3, .ref b10), (0, .ref 21), (1, iv p1), (2, iv p2)]) dX1_goThrough_25 rfl (by decide) rfl ?_
  obtain ⟨c13, z14, q15, A16, q17, R18, e19, e20⟩ := PC.read hIPC hT A12 (vc_X1_goThrough_12_7 h1 h7 h6.1 h8 h9) (vc_X1_goThrough_12_6 h1 h6.1 h7 h8 h9) q11
  have h21 : 0 ≤ z14 ∧ z14 ≤ 30 := by rw [← q17]; exact hT _ _ A12 0
  refine mr_iconst (pc := 26) (z := 0) dX1_goThrough_26 ?_
  refine mr_istore (pc := 27) (lv' := [(4, iv 0), (3, .ref b10), (0, .ref 21), (1, iv p1), (2, iv p2)]) dX1_goThrough_27 (by decide) rfl ?_
  refine mr_iconst (pc := 29) (z := 0) dX1_goThrough_29 ?_
  refine mr_istore (pc := 30) (lv' := [(5, iv 0), (4, iv 0), (3, .ref b10), (0, .ref 21), (1, iv p1), (2, iv p2)]) dX1_goThrough_30 (by decide) rfl ?_
  have L1192 : ∀ (nL1192 : Nat) (z1190 z1189 : Int) (μ1191 : mM), mT w μ1191 → mF [21006, 21007, 200004, 200006, 200007, 200008, 201999, 202999] w μ μ1191 → (0 ≤ z1190 ∧ z1190 ≤ 2000) → (0 ≤ z1189 ∧ z1189 ≤ 30) → PC w μ1191 → RT μ1191 → wfR (μ c13) (w.2.2.1 c13) (z1190).toNat (z14 - z1189).toNat → (2001 - z1190) < (nL1192 : Int) → sV (gG l D c H0 sa) mX1_goThrough (sRm 17 0 0) (sZ (gG l D c H0 sa) 0 0 (qV w [21006, 21007, 200004, 200006, 200007, 200008, 201999, 202999] μ (fun μ1 => True))) 32 [(0, .ref 21), (2, iv p2), (3, .ref b10), (4, iv z1190), (5, iv z1189)] [] (mk w μ1191) 0 0 := by
    intro nL1192
    induction nL1192 with
    | zero => intro z1190 z1189 μ1191 T1195 F1196 h1193 h1194 I1198 I1199 R1200 h1201; exact ((vc_X1_goThrough_12_8 h1201 h1193)).elim
    | succ nL1192 ih1202 =>
      intro z1190 z1189 μ1191 T1195 F1196 h1193 h1194 I1198 I1199 R1200 h1201
      refine mr_iload (pc := 32) (z := z1189) dX1_goThrough_32 rfl ?_
      refine sv_aload_n (pc := 34) dX1_goThrough_34 rfl rfl ?_
      refine gk_X5_0 (pc := 35) dX1_goThrough_35 wF_X1_57 A12 (F1196.f A12 rfl q17) ?_
      refine mr_icmp_ge (pc := 38) (tgt := 174) dX1_goThrough_38 (by decide) (r32 h1194 rfl) (r32 h21 rfl) (fun h1267 => ?_) (fun h1267 => ?_)
      · exact mr_vret dX1_goThrough_174 rfl (le_t rfl) (le_t rfl) T1195 (mF.call mF.refl F1196 rfl) trivial
      have h1268 : 0 ≤ z1189 ∧ z1189 ≤ 29 := (vc_X12_judgedAnew_2 h1267 h1194 h21)
      have h1269 : 1 ≤ z14 ∧ z14 ≤ 30 := (vc_X12_judgedAnew_3 h1267 h1268 h21)
      refine sv_aload_n (pc := 41) dX1_goThrough_41 rfl rfl ?_
      refine gf_X1_7 (pc := 42) dX1_goThrough_42 wF_X1_50 (A_21 hw) T1195 fun z1270 q1271 h1272 => ?_
      refine mr_if_ne (pc := 45) (tgt := 174) dX1_goThrough_45 (by decide) (r32 h1272 rfl) (fun h1332 => ?_) (fun h1332 => ?_)
      · have h1333 : 1 ≤ z1270 ∧ z1270 ≤ 2 := (vc_X12_provides_3 h1332 h1272)
        exact mr_vret dX1_goThrough_174 rfl (le_t rfl) (le_t rfl) T1195 (mF.call mF.refl F1196 rfl) trivial
      have h1334 : 0 ≤ z1270 ∧ z1270 ≤ 0 := (vc_X12_provides_4 h1332 h1272)
      obtain ⟨n_1335, q1336⟩ : ∃ n : Int, (w.2.2.1 c13 : Int) = n := ⟨_, rfl⟩
      have h1337 : 0 ≤ n_1335 ∧ n_1335 ≤ 2000 := lnR (m := 2000) q1336 A16 rfl
      have h1338 : z1190 + 1 < n_1335 := lnLt q1336 (wfR.hd R1200 (vc_X1_goThrough_12_13 h1193) (vc_X1_goThrough_12_14 h1267 h1268 h1269))
      refine sv_aload_n (pc := 48) dX1_goThrough_48 rfl rfl ?_
      refine gk_X5_1 (pc := 49) dX1_goThrough_49 wF_X1_60 A12 (F1196.f A12 rfl q15) ?_
      refine mr_iload (pc := 52) (z := z1190) dX1_goThrough_52 rfl ?_
      refine la_231 (pc := 54) dX1_goThrough_54 A16 T1195 (lnC q1336 (vc_X1_goThrough_12_15 h1338 h1337 h1193)) fun z1339 q1340 h1341 => ?_
      refine mr_istore (pc := 55) (lv' := [(6, iv z1339), (0, .ref 21), (2, iv p2), (3, .ref b10), (4, iv z1190), (5, iv z1189)]) dX1_goThrough_55 (by decide) rfl ?_
      refine sv_aload_n (pc := 57) dX1_goThrough_57 rfl rfl ?_
      refine gk_X5_1 (pc := 58) dX1_goThrough_58 wF_X1_60 A12 (F1196.f A12 rfl q15) ?_
      refine mr_iload (pc := 61) (z := z1190) dX1_goThrough_61 rfl ?_
      refine mr_iconst (pc := 63) (z := 1) dX1_goThrough_63 ?_
      refine mr_iadd (pc := 64) (x := z1190) (y := 1) dX1_goThrough_64 ?_
      refine la_231 (pc := 65) dX1_goThrough_65 A16 T1195 (lnC q1336 (vc_X1_goThrough_12_16 h1338 h1337 h1193)) fun z1342 q1343 h1344 => ?_
      have B1345 := wfR.bd R1200 (vc_X1_goThrough_12_13 h1193) (vc_X1_goThrough_12_14 h1267 h1268 h1269) ((((mF.call mF.refl F1196 rfl) : mF [21006, 21007, 200004, 200006, 200007, 200008, 201999, 202999] w μ μ1191).f A16 rfl rfl).symm.trans q1340) ((((mF.call mF.refl F1196 rfl) : mF [21006, 21007, 200004, 200006, 200007, 200008, 201999, 202999] w μ μ1191).f A16 rfl rfl).symm.trans q1343)
      have h1346 : 0 ≤ z1339 ∧ 0 ≤ z1342 ∧ z1190 + 2 + 5 * z1339 + 2 * z1342 ≤ n_1335 := ⟨B1345.1.1, B1345.1.2.1, lnLe q1336 B1345.1.2.2⟩
      have h1347 : 0 ≤ z1339 ∧ z1339 ≤ 400 := (vc_X1_goThrough_12_17 h1346 h1338 h1337 h1193 h1341 h1344)
      have h1348 : 0 ≤ z1342 ∧ z1342 ≤ 1000 := (vc_X1_goThrough_12_18 h1346 h1338 h1337 h1193 h1347 h1344)
      refine mr_istore (pc := 66) (lv' := [(7, iv z1342), (6, iv z1339), (0, .ref 21), (2, iv p2), (3, .ref b10), (4, iv z1190), (5, iv z1189)]) dX1_goThrough_66 (by decide) rfl ?_
      refine mr_iload (pc := 68) (z := z1190) dX1_goThrough_68 rfl ?_
      refine mr_iconst (pc := 70) (z := 2) dX1_goThrough_70 ?_
      refine mr_iadd (pc := 71) (x := z1190) (y := 2) dX1_goThrough_71 ?_
      refine mr_iload (pc := 72) (z := z1339) dX1_goThrough_72 rfl ?_
      refine mr_iconst (pc := 74) (z := 5) dX1_goThrough_74 ?_
      refine mr_imul (pc := 75) (x := z1339) (y := 5) dX1_goThrough_75 ?_
      refine mr_iadd (pc := 76) (x := (z1190 + 2)) (y := (z1339 * 5)) dX1_goThrough_76 ?_
      refine mr_istore (pc := 77) (lv' := [(8, iv ((z1190 + 2) + (z1339 * 5))), (7, iv z1342), (6, iv z1339), (0, .ref 21), (2, iv p2), (3, .ref b10), (4, iv z1190), (5, iv z1189)]) dX1_goThrough_77 (by decide) rfl ?_
      refine mr_iconst (pc := 79) (z := 1) dX1_goThrough_79 ?_
      refine mr_istore (pc := 80) (lv' := [(9, iv 1), (8, iv ((z1190 + 2) + (z1339 * 5))), (7, iv z1342), (6, iv z1339), (0, .ref 21), (2, iv p2), (3, .ref b10), (4, iv z1190), (5, iv z1189)]) dX1_goThrough_80 (by decide) rfl ?_
      refine mr_iload (pc := 82) (z := z1190) dX1_goThrough_82 rfl ?_
      refine mr_iconst (pc := 84) (z := 2) dX1_goThrough_84 ?_
      refine mr_iadd (pc := 85) (x := z1190) (y := 2) dX1_goThrough_85 ?_
      refine mr_istore (pc := 86) (lv' := [(10, iv (z1190 + 2)), (9, iv 1), (8, iv ((z1190 + 2) + (z1339 * 5))), (7, iv z1342), (6, iv z1339), (0, .ref 21), (2, iv p2), (3, .ref b10), (4, iv z1190), (5, iv z1189)]) dX1_goThrough_86 (by decide) rfl ?_
      have L1468 : ∀ (nL1468 : Nat) (z1467 z1466 : Int), True → (0 ≤ z1467 ∧ z1467 ≤ 1) → (2 ≤ z1466 ∧ z1466 ≤ 2010) → ((((z1190 + 2) + (z1339 * 5)) - z1466) % 5 = 0) → (2011 - z1466) < (nL1468 : Int) → sV (gG l D c H0 sa) mX1_goThrough (sRm 17 0 0) (sZ (gG l D c H0 sa) 0 0 (qV w [21006, 21007, 200004, 200006, 200007, 200008, 201999, 202999] μ (fun μ1 => True))) 88 [(0, .ref 21), (2, iv p2), (3, .ref b10), (5, iv z1189), (7, iv z1342), (8, iv ((z1190 + 2) + (z1339 * 5))), (9, iv z1467), (10, iv z1466)] [] (mk w μ1191) 0 0 := by
        intro nL1468
        induction nL1468 with
        | zero => intro z1467 z1466 _ h1469 h1470 h1474 h1475; exact ((vc_X1_goThrough_12_19 h1475 h1474 h1338 h1346 h1337 h1193 h1347 h1348 h1470)).elim
        | succ nL1468 ih1476 =>
          intro z1467 z1466 _ h1469 h1470 h1474 h1475
          refine mr_iload (pc := 88) (z := z1466) dX1_goThrough_88 rfl ?_
          refine mr_iload (pc := 90) (z := ((z1190 + 2) + (z1339 * 5))) dX1_goThrough_90 rfl ?_
          have J1492 : sV (gG l D c H0 sa) mX1_goThrough (sRm 17 0 0) (sZ (gG l D c H0 sa) 0 0 (qV w [21006, 21007, 200004, 200006, 200007, 200008, 201999, 202999] μ (fun μ1 => True))) 141 [(0, .ref 21), (2, iv p2), (3, .ref b10), (5, iv z1189), (7, iv z1342), (8, iv ((z1190 + 2) + (z1339 * 5))), (9, iv z1467)] [] (mk w μ1191) 0 0 := by
            refine mr_iload (pc := 141) (z := z1467) dX1_goThrough_141 rfl ?_
            refine mr_if_eq (pc := 143) (tgt := 159) dX1_goThrough_143 (by decide) (r32 h1469 rfl) (fun h1499 => ?_) (fun h1499 => ?_)
            · have h1500 : 0 ≤ z1467 ∧ z1467 ≤ 0 := (vc_X12_ring_22 h1499 h1469)
              refine mr_iload (pc := 159) (z := ((z1190 + 2) + (z1339 * 5))) dX1_goThrough_159 rfl ?_
              refine mr_iload (pc := 161) (z := z1342) dX1_goThrough_161 rfl ?_
              refine mr_iconst (pc := 163) (z := 2) dX1_goThrough_163 ?_
              refine mr_imul (pc := 164) (x := z1342) (y := 2) dX1_goThrough_164 ?_
              refine mr_iadd (pc := 165) (x := ((z1190 + 2) + (z1339 * 5))) (y := (z1342 * 2)) dX1_goThrough_165 ?_
              refine mr_istore (pc := 166) (lv' := [(4, iv (((z1190 + 2) + (z1339 * 5)) + (z1342 * 2))), (0, .ref 21), (2, iv p2), (3, .ref b10), (5, iv z1189), (7, iv z1342), (8, iv ((z1190 + 2) + (z1339 * 5))), (9, iv z1467)]) dX1_goThrough_166 (by decide) rfl ?_
              refine mr_iinc (pc := 168) (lv' := [(5, iv (z1189 + 1)), (4, iv (((z1190 + 2) + (z1339 * 5)) + (z1342 * 2))), (0, .ref 21), (2, iv p2), (3, .ref b10), (7, iv z1342), (8, iv ((z1190 + 2) + (z1339 * 5))), (9, iv z1467)]) dX1_goThrough_168 rfl (by decide) rfl ?_
              refine sv_goto (pc := 171) (tgt := 32) dX1_goThrough_171 (by decide) ?_
              refine mr_lvS (lv' := [(0, .ref 21), (2, iv p2), (3, .ref b10), (4, iv (((z1190 + 2) + (z1339 * 5)) + (z1342 * 2))), (5, iv (z1189 + 1))]) (List.forall_mem_cons.mpr ⟨rfl, List.forall_mem_cons.mpr ⟨rfl, List.forall_mem_cons.mpr ⟨rfl, List.forall_mem_cons.mpr ⟨rfl, List.forall_mem_cons.mpr ⟨rfl, fun _ h => absurd h List.not_mem_nil⟩⟩⟩⟩⟩) ?_
              exact ih1202 (((z1190 + 2) + (z1339 * 5)) + (z1342 * 2)) (z1189 + 1) μ1191 T1195 (mF.call mF.refl F1196 rfl) (vc_X1_goThrough_12_21 h1338 h1346 h1474 h1337 h1193 h1347 h1348 h1470) (rW (c := 0) (d := 30) (rAdd (e := 1) (f := 30) h1268 (rR (x := 1)) rfl) rfl) I1198 I1199 (wfR.cg B1345.2.2 (vc_X1_goThrough_12_23 h1338 h1346 h1474 h1337 h1193 h1347 h1348 h1470)) (vc_X1_goThrough_12_22 (nS h1201) h1338 h1346 h1474 h1337 h1193 h1347 h1348 h1470)
            have h1501 : 1 ≤ z1467 ∧ z1467 ≤ 1 := (vc_X12_ring_24 h1499 h1469)
            refine sv_aload_n (pc := 146) dX1_goThrough_146 rfl rfl ?_
            refine sv_aload_n (pc := 147) dX1_goThrough_147 rfl rfl ?_
            refine gk_X5_1 (pc := 148) dX1_goThrough_148 wF_X1_60 A12 (F1196.f A12 rfl q15) ?_
            refine mr_iload (pc := 151) (z := ((z1190 + 2) + (z1339 * 5))) dX1_goThrough_151 rfl ?_
            refine mr_iload (pc := 153) (z := z1342) dX1_goThrough_153 rfl ?_
            refine mr_iload_n (pc := 155) (z := p2) dX1_goThrough_155 rfl rfl ?_
            refine mr_cVV (pc := 156) (c_X1_doActs_6 hw T1195 A16 (vc_X1_goThrough_12_25 h1338 h1346 h1474 h1337 h1193 h1347 h1348 h1470) h1348 hp2 I1198 I1199 (lnL q1336 (vc_X1_goThrough_12_26 h1338 h1346 h1474 h1337 h1193 h1347 h1348 h1470)) (argC B1345.2.1 (vc_X1_goThrough_12_27 h1338 h1346 h1474 h1337 h1193 h1347 h1348 h1470) (funext fun i => ((mF.call mF.refl F1196 rfl) : mF [21006, 21007, 200004, 200006, 200007, 200008, 201999, 202999] w μ μ1191).f A16 rfl rfl))) (gOk _ _ _ _ _) dX1_goThrough_156 (tX1_doActs _ _ _ _ _) ⟨wV_X1_doActs, wL_X1_doActs⟩ wM_X1_68 (gCX1 _ _ _ _ _) rfl (A_21 hw) rfl ⟨le_t rfl, le_t rfl⟩ ⟨le_t rfl, le_t rfl⟩ rfl (le_t rfl) fun μ1502 T1503 F1504 h1505 => ?_
            refine mr_iload (pc := 159) (z := ((z1190 + 2) + (z1339 * 5))) dX1_goThrough_159 rfl ?_
            refine mr_iload (pc := 161) (z := z1342) dX1_goThrough_161 rfl ?_
            refine mr_iconst (pc := 163) (z := 2) dX1_goThrough_163 ?_
            refine mr_imul (pc := 164) (x := z1342) (y := 2) dX1_goThrough_164 ?_
            refine mr_iadd (pc := 165) (x := ((z1190 + 2) + (z1339 * 5))) (y := (z1342 * 2)) dX1_goThrough_165 ?_
            refine mr_istore (pc := 166) (lv' := [(4, iv (((z1190 + 2) + (z1339 * 5)) + (z1342 * 2))), (0, .ref 21), (2, iv p2), (3, .ref b10), (5, iv z1189), (7, iv z1342), (8, iv ((z1190 + 2) + (z1339 * 5))), (9, iv z1467)]) dX1_goThrough_166 (by decide) rfl ?_
            refine mr_iinc (pc := 168) (lv' := [(5, iv (z1189 + 1)), (4, iv (((z1190 + 2) + (z1339 * 5)) + (z1342 * 2))), (0, .ref 21), (2, iv p2), (3, .ref b10), (7, iv z1342), (8, iv ((z1190 + 2) + (z1339 * 5))), (9, iv z1467)]) dX1_goThrough_168 rfl (by decide) rfl ?_
            refine sv_goto (pc := 171) (tgt := 32) dX1_goThrough_171 (by decide) ?_
            refine mr_lvS (lv' := [(0, .ref 21), (2, iv p2), (3, .ref b10), (4, iv (((z1190 + 2) + (z1339 * 5)) + (z1342 * 2))), (5, iv (z1189 + 1))]) (List.forall_mem_cons.mpr ⟨rfl, List.forall_mem_cons.mpr ⟨rfl, List.forall_mem_cons.mpr ⟨rfl, List.forall_mem_cons.mpr ⟨rfl, List.forall_mem_cons.mpr ⟨rfl, fun _ h => absurd h List.not_mem_nil⟩⟩⟩⟩⟩) ?_
            exact ih1202 (((z1190 + 2) + (z1339 * 5)) + (z1342 * 2)) (z1189 + 1) μ1502 T1503 (mF.call (mF.call mF.refl F1196 rfl) F1504 rfl) (vc_X1_goThrough_12_21 h1338 h1346 h1474 h1337 h1193 h1347 h1348 h1470) (rW (c := 0) (d := 30) (rAdd (e := 1) (f := 30) h1268 (rR (x := 1)) rfl) rfl) (PC.keep I1198 hw ((mF.call mF.refl F1504 rfl) : mF [21006, 21007, 200004, 200006, 200007, 200008, 201999, 202999] w μ1191 μ1502) rfl) (RT.keep I1199 hw ((mF.call mF.refl F1504 rfl) : mF [21006, 21007, 200004, 200006, 200007, 200008, 201999, 202999] w μ1191 μ1502) rfl) (wfR.cg B1345.2.2 (vc_X1_goThrough_12_23 h1338 h1346 h1474 h1337 h1193 h1347 h1348 h1470)) (vc_X1_goThrough_12_22 (nS h1201) h1338 h1346 h1474 h1337 h1193 h1347 h1348 h1470)
          refine mr_icmp_ge (pc := 92) (tgt := 141) dX1_goThrough_92 (by decide) (r32 h1470 rfl) (r32 (rAdd (e := 2) (f := 4002) (rAdd (e := 2) (f := 2002) h1193 (rR (x := 2)) rfl) (rMulR (n := 5) (e := 0) (f := 2000) h1347 rfl) rfl) rfl) (fun h1506 => ?_) (fun h1506 => ?_)
          · refine mr_lvS (lv' := [(0, .ref 21), (2, iv p2), (3, .ref b10), (5, iv z1189), (7, iv z1342), (8, iv ((z1190 + 2) + (z1339 * 5))), (9, iv z1467)]) (List.forall_mem_cons.mpr ⟨rfl, List.forall_mem_cons.mpr ⟨rfl, List.forall_mem_cons.mpr ⟨rfl, List.forall_mem_cons.mpr ⟨rfl, List.forall_mem_cons.mpr ⟨rfl, List.forall_mem_cons.mpr ⟨rfl, List.forall_mem_cons.mpr ⟨rfl, fun _ h => absurd h List.not_mem_nil⟩⟩⟩⟩⟩⟩⟩) ?_
            exact J1492 
          refine mr_iload (pc := 95) (z := z1467) dX1_goThrough_95 rfl ?_
          refine mr_if_eq (pc := 97) (tgt := 141) dX1_goThrough_97 (by decide) (r32 h1469 rfl) (fun h1507 => ?_) (fun h1507 => ?_)
          · have h1508 : 0 ≤ z1467 ∧ z1467 ≤ 0 := (vc_X12_ring_22 h1507 h1469)
            refine mr_lvS (lv' := [(0, .ref 21), (2, iv p2), (3, .ref b10), (5, iv z1189), (7, iv z1342), (8, iv ((z1190 + 2) + (z1339 * 5))), (9, iv z1467)]) (List.forall_mem_cons.mpr ⟨rfl, List.forall_mem_cons.mpr ⟨rfl, List.forall_mem_cons.mpr ⟨rfl, List.forall_mem_cons.mpr ⟨rfl, List.forall_mem_cons.mpr ⟨rfl, List.forall_mem_cons.mpr ⟨rfl, List.forall_mem_cons.mpr ⟨rfl, fun _ h => absurd h List.not_mem_nil⟩⟩⟩⟩⟩⟩⟩) ?_
            exact J1492 
          have h1509 : 1 ≤ z1467 ∧ z1467 ≤ 1 := (vc_X12_ring_24 h1507 h1469)
          refine sv_aload_n (pc := 100) dX1_goThrough_100 rfl rfl ?_
          refine sv_aload_n (pc := 101) dX1_goThrough_101 rfl rfl ?_
          refine mr_iload (pc := 102) (z := z1466) dX1_goThrough_102 rfl ?_
          refine mr_cVP (pc := 104) (c_X1_isSo hw T1195 A12 (vc_X1_goThrough_12_28 h1474 h1506 h1338 h1346 h1337 h1193 h1347 h1348 h1470) I1199 (lnF (F1196.f A12 rfl q15) q1336 (vc_X1_goThrough_12_29 h1338 h1346 h1474 h1506 h1337 h1193 h1347 h1348 h1470)) (by rw [((mF.call mF.refl F1196 rfl) : mF [21006, 21007, 200004, 200006, 200007, 200008, 201999, 202999] w μ μ1191).f (k := 2) A12 rfl rfl, ((mF.call mF.refl F1196 rfl) : mF [21006, 21007, 200004, 200006, 200007, 200008, 201999, 202999] w μ μ1191).f (k := 3) A12 rfl rfl]; exact e19) (by rw [((mF.call mF.refl F1196 rfl) : mF [21006, 21007, 200004, 200006, 200007, 200008, 201999, 202999] w μ μ1191).f (k := 4) A12 rfl rfl, ((mF.call mF.refl F1196 rfl) : mF [21006, 21007, 200004, 200006, 200007, 200008, 201999, 202999] w μ μ1191).f (k := 5) A12 rfl rfl]; exact e20)) (gOk _ _ _ _ _) dX1_goThrough_104 (tX1_isSo _ _ _ _ _) ⟨wV_X1_isSo, wL_X1_isSo⟩ wM_X1_64 (gCX1 _ _ _ _ _) rfl (A_21 hw) rfl ⟨le_t rfl, le_t rfl⟩ ⟨le_t rfl, le_t rfl⟩ rfl (le_t rfl) fun z1514 h1513 => ?_
          refine sv_aload_n (pc := 107) dX1_goThrough_107 rfl rfl ?_
          refine gk_X5_1 (pc := 108) dX1_goThrough_108 wF_X1_60 A12 (F1196.f A12 rfl q15) ?_
          refine mr_iload (pc := 111) (z := z1466) dX1_goThrough_111 rfl ?_
          refine mr_iconst (pc := 113) (z := 1) dX1_goThrough_113 ?_
          refine mr_iadd (pc := 114) (x := z1466) (y := 1) dX1_goThrough_114 ?_
          refine la_231 (pc := 115) dX1_goThrough_115 A16 T1195 (lnC q1336 (vc_X1_goThrough_12_30 h1338 h1346 h1474 h1506 h1337 h1193 h1347 h1348 h1470)) fun z1515 q1516 h1517 => ?_
          refine mr_iconst (pc := 116) (z := 1) dX1_goThrough_116 ?_
          refine mr_icmp_ne (pc := 117) (tgt := 124) dX1_goThrough_117 (by decide) h1517 (r32 (rR (x := 1)) rfl) (fun h1519 => ?_) (fun h1519 => ?_)
          · refine mr_iconst (pc := 124) (z := 0) dX1_goThrough_124 ?_
            refine mr_icmp_eq (pc := 125) (tgt := 132) dX1_goThrough_125 (by decide) (r32 h1513.1 rfl) (r32 (rR (x := 0)) rfl) (fun h1522 => ?_) (fun h1522 => ?_)
            · have h1523 : 0 ≤ z1514 ∧ z1514 ≤ 0 := (vc_X12_ring_22 h1522 h1513.1)
              refine mr_iconst (pc := 132) (z := 0) dX1_goThrough_132 ?_
              refine mr_istore (pc := 133) (lv' := [(9, iv 0), (0, .ref 21), (2, iv p2), (3, .ref b10), (5, iv z1189), (7, iv z1342), (8, iv ((z1190 + 2) + (z1339 * 5))), (10, iv z1466)]) dX1_goThrough_133 (by decide) rfl ?_
              refine mr_iinc (pc := 135) (lv' := [(10, iv (z1466 + 5)), (9, iv 0), (0, .ref 21), (2, iv p2), (3, .ref b10), (5, iv z1189), (7, iv z1342), (8, iv ((z1190 + 2) + (z1339 * 5)))]) dX1_goThrough_135 rfl (by decide) rfl ?_
              refine sv_goto (pc := 138) (tgt := 88) dX1_goThrough_138 (by decide) ?_
              refine mr_lvS (lv' := [(0, .ref 21), (2, iv p2), (3, .ref b10), (5, iv z1189), (7, iv z1342), (8, iv ((z1190 + 2) + (z1339 * 5))), (9, iv 0), (10, iv (z1466 + 5))]) (List.forall_mem_cons.mpr ⟨rfl, List.forall_mem_cons.mpr ⟨rfl, List.forall_mem_cons.mpr ⟨rfl, List.forall_mem_cons.mpr ⟨rfl, List.forall_mem_cons.mpr ⟨rfl, List.forall_mem_cons.mpr ⟨rfl, List.forall_mem_cons.mpr ⟨rfl, List.forall_mem_cons.mpr ⟨rfl, fun _ h => absurd h List.not_mem_nil⟩⟩⟩⟩⟩⟩⟩⟩) ?_
              exact ih1476 0 (z1466 + 5) trivial (rW (c := 0) (d := 1) (rR (x := 0)) rfl) (vc_X1_goThrough_12_32 h1474 h1506 h1338 h1346 h1337 h1193 h1347 h1348 h1470) (vc_X1_goThrough_12_33 h1338 h1346 h1474 h1506 h1337 h1193 h1347 h1348 h1470) (vc_X1_goThrough_12_34 (nS h1475) h1474 h1506 h1338 h1346 h1337 h1193 h1347 h1348 h1470)
            have h1524 : 1 ≤ z1514 ∧ z1514 ≤ 1 := (vc_X12_ring_24 h1522 h1513.1)
            refine mr_iconst (pc := 128) (z := 1) dX1_goThrough_128 ?_
            refine sv_goto (pc := 129) (tgt := 133) dX1_goThrough_129 (by decide) ?_
            refine mr_istore (pc := 133) (lv' := [(9, iv 1), (0, .ref 21), (2, iv p2), (3, .ref b10), (5, iv z1189), (7, iv z1342), (8, iv ((z1190 + 2) + (z1339 * 5))), (10, iv z1466)]) dX1_goThrough_133 (by decide) rfl ?_
            refine mr_iinc (pc := 135) (lv' := [(10, iv (z1466 + 5)), (9, iv 1), (0, .ref 21), (2, iv p2), (3, .ref b10), (5, iv z1189), (7, iv z1342), (8, iv ((z1190 + 2) + (z1339 * 5)))]) dX1_goThrough_135 rfl (by decide) rfl ?_
            refine sv_goto (pc := 138) (tgt := 88) dX1_goThrough_138 (by decide) ?_
            refine mr_lvS (lv' := [(0, .ref 21), (2, iv p2), (3, .ref b10), (5, iv z1189), (7, iv z1342), (8, iv ((z1190 + 2) + (z1339 * 5))), (9, iv 1), (10, iv (z1466 + 5))]) (List.forall_mem_cons.mpr ⟨rfl, List.forall_mem_cons.mpr ⟨rfl, List.forall_mem_cons.mpr ⟨rfl, List.forall_mem_cons.mpr ⟨rfl, List.forall_mem_cons.mpr ⟨rfl, List.forall_mem_cons.mpr ⟨rfl, List.forall_mem_cons.mpr ⟨rfl, List.forall_mem_cons.mpr ⟨rfl, fun _ h => absurd h List.not_mem_nil⟩⟩⟩⟩⟩⟩⟩⟩) ?_
            exact ih1476 1 (z1466 + 5) trivial (rW (c := 0) (d := 1) (rR (x := 1)) rfl) (vc_X1_goThrough_12_32 h1474 h1506 h1338 h1346 h1337 h1193 h1347 h1348 h1470) (vc_X1_goThrough_12_33 h1338 h1346 h1474 h1506 h1337 h1193 h1347 h1348 h1470) (vc_X1_goThrough_12_34 (nS h1475) h1474 h1506 h1338 h1346 h1337 h1193 h1347 h1348 h1470)
          have h1525 : 1 ≤ z1515 ∧ z1515 ≤ 1 := (vc_X0_compareAt_1 h1519 h1517)
          refine mr_iconst (pc := 120) (z := 1) dX1_goThrough_120 ?_
          refine sv_goto (pc := 121) (tgt := 125) dX1_goThrough_121 (by decide) ?_
          refine mr_icmp_eq (pc := 125) (tgt := 132) dX1_goThrough_125 (by decide) (r32 h1513.1 rfl) (r32 (rR (x := 1)) rfl) (fun h1528 => ?_) (fun h1528 => ?_)
          · have h1529 : 1 ≤ z1514 ∧ z1514 ≤ 1 := (vc_X1_goThrough_12_37 h1528 h1513.1)
            refine mr_iconst (pc := 132) (z := 0) dX1_goThrough_132 ?_
            refine mr_istore (pc := 133) (lv' := [(9, iv 0), (0, .ref 21), (2, iv p2), (3, .ref b10), (5, iv z1189), (7, iv z1342), (8, iv ((z1190 + 2) + (z1339 * 5))), (10, iv z1466)]) dX1_goThrough_133 (by decide) rfl ?_
            refine mr_iinc (pc := 135) (lv' := [(10, iv (z1466 + 5)), (9, iv 0), (0, .ref 21), (2, iv p2), (3, .ref b10), (5, iv z1189), (7, iv z1342), (8, iv ((z1190 + 2) + (z1339 * 5)))]) dX1_goThrough_135 rfl (by decide) rfl ?_
            refine sv_goto (pc := 138) (tgt := 88) dX1_goThrough_138 (by decide) ?_
            refine mr_lvS (lv' := [(0, .ref 21), (2, iv p2), (3, .ref b10), (5, iv z1189), (7, iv z1342), (8, iv ((z1190 + 2) + (z1339 * 5))), (9, iv 0), (10, iv (z1466 + 5))]) (List.forall_mem_cons.mpr ⟨rfl, List.forall_mem_cons.mpr ⟨rfl, List.forall_mem_cons.mpr ⟨rfl, List.forall_mem_cons.mpr ⟨rfl, List.forall_mem_cons.mpr ⟨rfl, List.forall_mem_cons.mpr ⟨rfl, List.forall_mem_cons.mpr ⟨rfl, List.forall_mem_cons.mpr ⟨rfl, fun _ h => absurd h List.not_mem_nil⟩⟩⟩⟩⟩⟩⟩⟩) ?_
            exact ih1476 0 (z1466 + 5) trivial (rW (c := 0) (d := 1) (rR (x := 0)) rfl) (vc_X1_goThrough_12_32 h1474 h1506 h1338 h1346 h1337 h1193 h1347 h1348 h1470) (vc_X1_goThrough_12_33 h1338 h1346 h1474 h1506 h1337 h1193 h1347 h1348 h1470) (vc_X1_goThrough_12_34 (nS h1475) h1474 h1506 h1338 h1346 h1337 h1193 h1347 h1348 h1470)
          have h1530 : 0 ≤ z1514 ∧ z1514 ≤ 0 := (vc_X1_goThrough_12_38 h1528 h1513.1)
          refine mr_iconst (pc := 128) (z := 1) dX1_goThrough_128 ?_
          refine sv_goto (pc := 129) (tgt := 133) dX1_goThrough_129 (by decide) ?_
          refine mr_istore (pc := 133) (lv' := [(9, iv 1), (0, .ref 21), (2, iv p2), (3, .ref b10), (5, iv z1189), (7, iv z1342), (8, iv ((z1190 + 2) + (z1339 * 5))), (10, iv z1466)]) dX1_goThrough_133 (by decide) rfl ?_
          refine mr_iinc (pc := 135) (lv' := [(10, iv (z1466 + 5)), (9, iv 1), (0, .ref 21), (2, iv p2), (3, .ref b10), (5, iv z1189), (7, iv z1342), (8, iv ((z1190 + 2) + (z1339 * 5)))]) dX1_goThrough_135 rfl (by decide) rfl ?_
          refine sv_goto (pc := 138) (tgt := 88) dX1_goThrough_138 (by decide) ?_
          refine mr_lvS (lv' := [(0, .ref 21), (2, iv p2), (3, .ref b10), (5, iv z1189), (7, iv z1342), (8, iv ((z1190 + 2) + (z1339 * 5))), (9, iv 1), (10, iv (z1466 + 5))]) (List.forall_mem_cons.mpr ⟨rfl, List.forall_mem_cons.mpr ⟨rfl, List.forall_mem_cons.mpr ⟨rfl, List.forall_mem_cons.mpr ⟨rfl, List.forall_mem_cons.mpr ⟨rfl, List.forall_mem_cons.mpr ⟨rfl, List.forall_mem_cons.mpr ⟨rfl, List.forall_mem_cons.mpr ⟨rfl, fun _ h => absurd h List.not_mem_nil⟩⟩⟩⟩⟩⟩⟩⟩) ?_
          exact ih1476 1 (z1466 + 5) trivial (rW (c := 0) (d := 1) (rR (x := 1)) rfl) (vc_X1_goThrough_12_32 h1474 h1506 h1338 h1346 h1337 h1193 h1347 h1348 h1470) (vc_X1_goThrough_12_33 h1338 h1346 h1474 h1506 h1337 h1193 h1347 h1348 h1470) (vc_X1_goThrough_12_34 (nS h1475) h1474 h1506 h1338 h1346 h1337 h1193 h1347 h1348 h1470)
      refine mr_lvS (lv' := [(0, .ref 21), (2, iv p2), (3, .ref b10), (5, iv z1189), (7, iv z1342), (8, iv ((z1190 + 2) + (z1339 * 5))), (9, iv 1), (10, iv (z1190 + 2))]) (List.forall_mem_cons.mpr ⟨rfl, List.forall_mem_cons.mpr ⟨rfl, List.forall_mem_cons.mpr ⟨rfl, List.forall_mem_cons.mpr ⟨rfl, List.forall_mem_cons.mpr ⟨rfl, List.forall_mem_cons.mpr ⟨rfl, List.forall_mem_cons.mpr ⟨rfl, List.forall_mem_cons.mpr ⟨rfl, fun _ h => absurd h List.not_mem_nil⟩⟩⟩⟩⟩⟩⟩⟩) ?_
      exact L1468 2010 1 (z1190 + 2) trivial (rW (c := 0) (d := 1) (rR (x := 1)) rfl) (rW (c := 2) (d := 2010) (rAdd (e := 2) (f := 2002) h1193 (rR (x := 2)) rfl) rfl) (vc_X1_goThrough_12_39 h1338 h1346 h1337 h1193 h1347 h1348) (vc_X1_goThrough_12_40 h1338 h1346 h1337 h1193 h1347 h1348)
  refine mr_lvS (lv' := [(0, .ref 21), (2, iv p2), (3, .ref b10), (4, iv 0), (5, iv 0)]) (List.forall_mem_cons.mpr ⟨rfl, List.forall_mem_cons.mpr ⟨rfl, List.forall_mem_cons.mpr ⟨rfl, List.forall_mem_cons.mpr ⟨rfl, List.forall_mem_cons.mpr ⟨rfl, fun _ h => absurd h List.not_mem_nil⟩⟩⟩⟩⟩) ?_
  exact L1192 2002 0 0 μ hT mF.refl (rW (c := 0) (d := 2000) (rR (x := 0)) rfl) (rW (c := 0) (d := 30) (rR (x := 0)) rfl) hIPC hIRT R18 vc_X1_goThrough_12_41
set_option maxRecDepth 4000 in
set_option maxHeartbeats 4000000 in
theorem c_X1_doActs_5 {l : Launch} {D : va_G} {c : Nat → ClassId} {H0 : Heap} {sa : Nat × Nat × (Nat → Int32)} {w : mW} {μ : mM} (hw : mWF w) (hT : mT w μ) {a1 : Nat} (hA1 : mAt w a1 231) {p2 : Int} (hp2 : 0 ≤ p2 ∧ p2 ≤ 2000) {p3 : Int} (hp3 : 0 ≤ p3 ∧ p3 ≤ 1000) {p4 : Int} (hp4 : 5 ≤ p4 ∧ p4 ≤ 5) (hIPC : PC w μ) (hIRT : RT μ) (hlen : p2 + 2 * p3 ≤ (w.2.2.1 a1 : Int)) (harg : ∀ i : Int, 0 ≤ i → i < p3 → 0 ≤ μ a1 (p2 + 2 * i + 1).toNat ∧ μ a1 (p2 + 2 * i + 1).toNat ≤ 1000000) : sC (gG l D c H0 sa) mX1_doActs 18 0 0 [.ref 21, .ref a1, iv p2, iv p3, iv p4] (mk w μ) (qV w [21006, 21007, 200004, 200006, 200007, 200008, 201999, 202999] μ (fun μ1 => True)) := by
  refine sC.of rfl (by decide) (le_t rfl) ?_
  refine mr_lvE (lv' := [(0, .ref 21), (1, .ref a1), (2, iv p2), (3, iv p3), (4, iv p4)]) rfl ?_
  obtain ⟨n_1, q2⟩ : ∃ n : Int, (w.2.2.1 a1 : Int) = n := ⟨_, rfl⟩
  have h3 : 0 ≤ n_1 ∧ n_1 ≤ 2000 := lnR (m := 2000) q2 hA1 rfl
  have h4 : p2 + 2 * p3 ≤ n_1 := lnLe q2 hlen
  refine mr_iconst (pc := 0) (z := 0) dX1_doActs_0 ?_
  refine mr_istore (pc := 1) (lv' := [(5, iv 0), (0, .ref 21), (1, .ref a1), (2, iv p2), (3, iv p3), (4, iv p4)]) dX1_doActs_1 (by decide) rfl ?_
  have L1991 : ∀ (nL1991 : Nat) (z1989 : Int) (μ1990 : mM), mT w μ1990 → mF [21006, 21007, 200004, 200006, 200007, 200008, 201999, 202999] w μ μ1990 → (0 ≤ z1989 ∧ z1989 ≤ 1000) → PC w μ1990 → RT μ1990 → (1001 - z1989) < (nL1991 : Int) → sV (gG l D c H0 sa) mX1_doActs (sRm 18 0 0) (sZ (gG l D c H0 sa) 0 0 (qV w [21006, 21007, 200004, 200006, 200007, 200008, 201999, 202999] μ (fun μ1 => True))) 3 [(0, .ref 21), (1, .ref a1), (2, iv p2), (3, iv p3), (4, iv p4), (5, iv z1989)] [] (mk w μ1990) 0 0 := by
    intro nL1991
    induction nL1991 with
    | zero => intro z1989 μ1990 T1993 F1994 h1992 I1996 I1997 h1998; exact ((vc_X1_doActs_12_1 h1998 h1992)).elim
    | succ nL1991 ih1999 =>
      intro z1989 μ1990 T1993 F1994 h1992 I1996 I1997 h1998
      refine mr_iload (pc := 3) (z := z1989) dX1_doActs_3 rfl ?_
      refine mr_iload_n (pc := 5) (z := p3) dX1_doActs_5 rfl rfl ?_
      refine mr_icmp_ge (pc := 6) (tgt := 266) dX1_doActs_6 (by decide) (r32 h1992 rfl) (r32 hp3 rfl) (fun h2000 => ?_) (fun h2000 => ?_)
      · exact mr_vret dX1_doActs_266 rfl (le_t rfl) (le_t rfl) T1993 (mF.call mF.refl F1994 rfl) trivial
      have h2001 : 0 ≤ z1989 ∧ z1989 ≤ 999 := (vc_X1_doActs_12_2 h2000 h4 h3 hp2 hp3 h1992)
      have h2002 : 1 ≤ p3 ∧ p3 ≤ 1000 := (vc_X1_doActs_12_3 h2000 h4 h3 hp2 hp3 h2001)
      refine sv_aload_n (pc := 9) dX1_doActs_9 rfl rfl ?_
      refine gf_X1_7 (pc := 10) dX1_doActs_10 wF_X1_50 (A_21 hw) T1993 fun z2003 q2004 h2005 => ?_
      refine mr_if_ne (pc := 13) (tgt := 266) dX1_doActs_13 (by decide) (r32 h2005 rfl) (fun h2006 => ?_) (fun h2006 => ?_)
      · have h2007 : 1 ≤ z2003 ∧ z2003 ≤ 2 := (vc_X12_provides_3 h2006 h2005)
        exact mr_vret dX1_doActs_266 rfl (le_t rfl) (le_t rfl) T1993 (mF.call mF.refl F1994 rfl) trivial
      have h2008 : 0 ≤ z2003 ∧ z2003 ≤ 0 := (vc_X12_provides_4 h2006 h2005)
      refine sv_aload_n (pc := 16) dX1_doActs_16 rfl rfl ?_
      refine mr_iload_n (pc := 17) (z := p2) dX1_doActs_17 rfl rfl ?_
      refine mr_iload (pc := 18) (z := z1989) dX1_doActs_18 rfl ?_
      refine mr_iconst (pc := 20) (z := 2) dX1_doActs_20 ?_
      refine mr_imul (pc := 21) (x := z1989) (y := 2) dX1_doActs_21 ?_
      refine mr_iadd (pc := 22) (x := p2) (y := (z1989 * 2)) dX1_doActs_22 ?_
      refine mr_iconst (pc := 23) (z := 1) dX1_doActs_23 ?_
      refine mr_iadd (pc := 24) (x := (p2 + (z1989 * 2))) (y := 1) dX1_doActs_24 ?_
      refine la_231 (pc := 25) dX1_doActs_25 hA1 T1993 (lnC q2 (vc_X1_doActs_12_6 h4 h2000 h3 hp2 h2002 h2001)) fun z2009 q2010 h2011 => ?_
      have h2012 : 0 ≤ z2009 ∧ z2009 ≤ 1000000 := argB harg (vc_X1_doActs_12_7 h2000 h4 h3 hp2 h2002 h2001) (vc_X1_doActs_12_8 h4 h2000 h3 hp2 h2002 h2001) (vc_X1_doActs_12_9 h4 h2000 h3 hp2 h2002 h2001) (((mF.call mF.refl F1994 rfl) : mF [21006, 21007, 200004, 200006, 200007, 200008, 201999, 202999] w μ μ1990).f hA1 rfl rfl) q2010
      refine mr_istore (pc := 26) (lv' := [(6, iv z2009), (0, .ref 21), (1, .ref a1), (2, iv p2), (3, iv p3), (4, iv p4), (5, iv z1989)]) dX1_doActs_26 (by decide) rfl ?_
      refine sv_aload_n (pc := 28) dX1_doActs_28 rfl rfl ?_
      refine gf_X1_6 (pc := 29) dX1_doActs_29 wF_X1_47 (A_21 hw) T1993 fun z2013 q2014 h2015 => ?_
      refine mr_sipush (pc := 32) (z := 500) dX1_doActs_32 (by decide) ?_
      refine mr_icmp_lt (pc := 35) (tgt := 44) dX1_doActs_35 (by decide) (r32 h2015 rfl) (r32 (rR (x := 500)) rfl) (fun h2016 => ?_) (fun h2016 => ?_)
      · have h2017 : 0 ≤ z2013 ∧ z2013 ≤ 499 := (vc_X1_doActs_12_10 h2016 h2015)
        refine sv_aload_n (pc := 44) dX1_doActs_44 rfl rfl ?_
        refine sv_dup (pc := 45) dX1_doActs_45 rfl ?_
        refine gk_X1_6 (pc := 46) dX1_doActs_46 wF_X1_47 (A_21 hw) q2014 ?_
        refine mr_iconst (pc := 49) (z := 1) dX1_doActs_49 ?_
        refine mr_iadd (pc := 50) (x := z2013) (y := 1) dX1_doActs_50 ?_
        refine pf_X1_6 (pc := 51) dX1_doActs_51 wF_X1_47 (A_21 hw) T1993 (rW (c := 0) (d := 500) (rAdd (e := 1) (f := 500) h2017 (rR (x := 1)) rfl) rfl) fun μ2018 u2019 T2020 => ?_
        refine sv_aload_n (pc := 54) dX1_doActs_54 rfl rfl ?_
        refine mr_iload_n (pc := 55) (z := p2) dX1_doActs_55 rfl rfl ?_
        refine mr_iload (pc := 56) (z := z1989) dX1_doActs_56 rfl ?_
        refine mr_iconst (pc := 58) (z := 2) dX1_doActs_58 ?_
        refine mr_imul (pc := 59) (x := z1989) (y := 2) dX1_doActs_59 ?_
        refine mr_iadd (pc := 60) (x := p2) (y := (z1989 * 2)) dX1_doActs_60 ?_
        refine la_231 (pc := 61) dX1_doActs_61 hA1 T2020 (lnC q2 (vc_X1_doActs_12_11 h4 h2000 h3 hp2 h2002 h2001)) fun z2021 q2022 h2023 => ?_
        by_cases h2024 : z2021 = 12
        · refine mr_tableIn (pc := 62) (v := 12) (tgt := 184) dX1_doActs_62 h2024 rfl rfl (by decide) ?_
          have h2025 : 12 ≤ z2021 ∧ z2021 ≤ 12 := (vc_X1_doActs_12_12 h2024 h2023)
          refine sv_aload_n (pc := 184) dX1_doActs_184 rfl rfl ?_
          refine gf_X1_2 (pc := 185) dX1_doActs_185 wF_X1_25 (A_21 hw) T2020 (RT.keep I1997 hw ((mF.up mF.refl (A_21 hw) u2019 rfl) : mF [21006] w μ1990 μ2018) rfl) fun b2026 q2027 A2028 => ?_
          refine mr_iload (pc := 188) (z := z2009) dX1_doActs_188 rfl ?_
          refine pf_X7_4 (pc := 190) dX1_doActs_190 wF_X1_105 A2028 T2020 (rW (c := (-2147483648)) (d := 2147483647) h2012 rfl) fun μ2029 u2030 T2031 => ?_
          refine sv_goto (pc := 193) (tgt := 260) dX1_doActs_193 (by decide) ?_
          refine mr_iinc (pc := 260) (lv' := [(5, iv (z1989 + 1)), (6, iv z2009), (0, .ref 21), (1, .ref a1), (2, iv p2), (3, iv p3), (4, iv p4)]) dX1_doActs_260 rfl (by decide) rfl ?_
          refine sv_goto (pc := 263) (tgt := 3) dX1_doActs_263 (by decide) ?_
          refine mr_lvS (lv' := [(0, .ref 21), (1, .ref a1), (2, iv p2), (3, iv p3), (4, iv p4), (5, iv (z1989 + 1))]) (List.forall_mem_cons.mpr ⟨rfl, List.forall_mem_cons.mpr ⟨rfl, List.forall_mem_cons.mpr ⟨rfl, List.forall_mem_cons.mpr ⟨rfl, List.forall_mem_cons.mpr ⟨rfl, List.forall_mem_cons.mpr ⟨rfl, fun _ h => absurd h List.not_mem_nil⟩⟩⟩⟩⟩⟩) ?_
          exact ih1999 (z1989 + 1) μ2029 T2031 (mF.up (mF.up (mF.call mF.refl F1994 rfl) (A_21 hw) u2019 rfl) A2028 u2030 rfl) (rW (c := 0) (d := 1000) (rAdd (e := 1) (f := 1000) h2001 (rR (x := 1)) rfl) rfl) (PC.keep I1996 hw ((mF.up (mF.up mF.refl (A_21 hw) u2019 rfl) A2028 u2030 rfl) : mF [21006, 200004] w μ1990 μ2029) rfl) (RT.keep I1997 hw ((mF.up (mF.up mF.refl (A_21 hw) u2019 rfl) A2028 u2030 rfl) : mF [21006, 200004] w μ1990 μ2029) rfl) (vc_X1_doActs_12_13 (nS h1998) h2000 h4 h3 hp2 h2002 h2001)
        by_cases h2032 : z2021 = 13
        · refine mr_tableIn (pc := 62) (v := 13) (tgt := 196) dX1_doActs_62 h2032 rfl rfl (by decide) ?_
          have h2033 : 13 ≤ z2021 ∧ z2021 ≤ 13 := (vc_X1_doActs_12_14 h2032 h2024 h2023)
          refine sv_aload_n (pc := 196) dX1_doActs_196 rfl rfl ?_
          refine gf_X1_2 (pc := 197) dX1_doActs_197 wF_X1_25 (A_21 hw) T2020 (RT.keep I1997 hw ((mF.up mF.refl (A_21 hw) u2019 rfl) : mF [21006] w μ1990 μ2018) rfl) fun b2034 q2035 A2036 => ?_
          refine mr_iload (pc := 200) (z := z2009) dX1_doActs_200 rfl ?_
          refine pf_X7_6 (pc := 202) dX1_doActs_202 wF_X1_108 A2036 T2020 (rW (c := (-2147483648)) (d := 2147483647) h2012 rfl) fun μ2037 u2038 T2039 => ?_
          refine sv_goto (pc := 205) (tgt := 260) dX1_doActs_205 (by decide) ?_
          refine mr_iinc (pc := 260) (lv' := [(5, iv (z1989 + 1)), (6, iv z2009), (0, .ref 21), (1, .ref a1), (2, iv p2), (3, iv p3), (4, iv p4)]) dX1_doActs_260 rfl (by decide) rfl ?_
          refine sv_goto (pc := 263) (tgt := 3) dX1_doActs_263 (by decide) ?_
          refine mr_lvS (lv' := [(0, .ref 21), (1, .ref a1), (2, iv p2), (3, iv p3), (4, iv p4), (5, iv (z1989 + 1))]) (List.forall_mem_cons.mpr ⟨rfl, List.forall_mem_cons.mpr ⟨rfl, List.forall_mem_cons.mpr ⟨rfl, List.forall_mem_cons.mpr ⟨rfl, List.forall_mem_cons.mpr ⟨rfl, List.forall_mem_cons.mpr ⟨rfl, fun _ h => absurd h List.not_mem_nil⟩⟩⟩⟩⟩⟩) ?_
          exact ih1999 (z1989 + 1) μ2037 T2039 (mF.up (mF.up (mF.call mF.refl F1994 rfl) (A_21 hw) u2019 rfl) A2036 u2038 rfl) (rW (c := 0) (d := 1000) (rAdd (e := 1) (f := 1000) h2001 (rR (x := 1)) rfl) rfl) (PC.keep I1996 hw ((mF.up (mF.up mF.refl (A_21 hw) u2019 rfl) A2036 u2038 rfl) : mF [21006, 200006] w μ1990 μ2037) rfl) (RT.keep I1997 hw ((mF.up (mF.up mF.refl (A_21 hw) u2019 rfl) A2036 u2038 rfl) : mF [21006, 200006] w μ1990 μ2037) rfl) (vc_X1_doActs_12_13 (nS h1998) h2000 h4 h3 hp2 h2002 h2001)
        by_cases h2040 : z2021 = 14
        · refine mr_tableIn (pc := 62) (v := 14) (tgt := 260) dX1_doActs_62 h2040 rfl rfl (by decide) ?_
          have h2041 : 14 ≤ z2021 ∧ z2021 ≤ 14 := (vc_X1_doActs_12_15 h2040 h2024 h2032 h2023)
          refine mr_iinc (pc := 260) (lv' := [(5, iv (z1989 + 1)), (6, iv z2009), (0, .ref 21), (1, .ref a1), (2, iv p2), (3, iv p3), (4, iv p4)]) dX1_doActs_260 rfl (by decide) rfl ?_
          refine sv_goto (pc := 263) (tgt := 3) dX1_doActs_263 (by decide) ?_
          refine mr_lvS (lv' := [(0, .ref 21), (1, .ref a1), (2, iv p2), (3, iv p3), (4, iv p4), (5, iv (z1989 + 1))]) (List.forall_mem_cons.mpr ⟨rfl, List.forall_mem_cons.mpr ⟨rfl, List.forall_mem_cons.mpr ⟨rfl, List.forall_mem_cons.mpr ⟨rfl, List.forall_mem_cons.mpr ⟨rfl, List.forall_mem_cons.mpr ⟨rfl, fun _ h => absurd h List.not_mem_nil⟩⟩⟩⟩⟩⟩) ?_
          exact ih1999 (z1989 + 1) μ2018 T2020 (mF.up (mF.call mF.refl F1994 rfl) (A_21 hw) u2019 rfl) (rW (c := 0) (d := 1000) (rAdd (e := 1) (f := 1000) h2001 (rR (x := 1)) rfl) rfl) (PC.keep I1996 hw ((mF.up mF.refl (A_21 hw) u2019 rfl) : mF [21006] w μ1990 μ2018) rfl) (RT.keep I1997 hw ((mF.up mF.refl (A_21 hw) u2019 rfl) : mF [21006] w μ1990 μ2018) rfl) (vc_X1_doActs_12_13 (nS h1998) h2000 h4 h3 hp2 h2002 h2001)
        by_cases h2042 : z2021 = 15
        · refine mr_tableIn (pc := 62) (v := 15) (tgt := 260) dX1_doActs_62 h2042 rfl rfl (by decide) ?_
          have h2043 : 15 ≤ z2021 ∧ z2021 ≤ 15 := (vc_X1_doActs_12_16 h2042 h2024 h2032 h2040 h2023)
          refine mr_iinc (pc := 260) (lv' := [(5, iv (z1989 + 1)), (6, iv z2009), (0, .ref 21), (1, .ref a1), (2, iv p2), (3, iv p3), (4, iv p4)]) dX1_doActs_260 rfl (by decide) rfl ?_
          refine sv_goto (pc := 263) (tgt := 3) dX1_doActs_263 (by decide) ?_
          refine mr_lvS (lv' := [(0, .ref 21), (1, .ref a1), (2, iv p2), (3, iv p3), (4, iv p4), (5, iv (z1989 + 1))]) (List.forall_mem_cons.mpr ⟨rfl, List.forall_mem_cons.mpr ⟨rfl, List.forall_mem_cons.mpr ⟨rfl, List.forall_mem_cons.mpr ⟨rfl, List.forall_mem_cons.mpr ⟨rfl, List.forall_mem_cons.mpr ⟨rfl, fun _ h => absurd h List.not_mem_nil⟩⟩⟩⟩⟩⟩) ?_
          exact ih1999 (z1989 + 1) μ2018 T2020 (mF.up (mF.call mF.refl F1994 rfl) (A_21 hw) u2019 rfl) (rW (c := 0) (d := 1000) (rAdd (e := 1) (f := 1000) h2001 (rR (x := 1)) rfl) rfl) (PC.keep I1996 hw ((mF.up mF.refl (A_21 hw) u2019 rfl) : mF [21006] w μ1990 μ2018) rfl) (RT.keep I1997 hw ((mF.up mF.refl (A_21 hw) u2019 rfl) : mF [21006] w μ1990 μ2018) rfl) (vc_X1_doActs_12_13 (nS h1998) h2000 h4 h3 hp2 h2002 h2001)
        by_cases h2044 : z2021 = 16
        · refine mr_tableIn (pc := 62) (v := 16) (tgt := 260) dX1_doActs_62 h2044 rfl rfl (by decide) ?_
          have h2045 : 16 ≤ z2021 ∧ z2021 ≤ 16 := (vc_X1_doActs_12_17 h2044 h2024 h2032 h2040 h2042 h2023)
          refine mr_iinc (pc := 260) (lv' := [(5, iv (z1989 + 1)), (6, iv z2009), (0, .ref 21), (1, .ref a1), (2, iv p2), (3, iv p3), (4, iv p4)]) dX1_doActs_260 rfl (by decide) rfl ?_
          refine sv_goto (pc := 263) (tgt := 3) dX1_doActs_263 (by decide) ?_
          refine mr_lvS (lv' := [(0, .ref 21), (1, .ref a1), (2, iv p2), (3, iv p3), (4, iv p4), (5, iv (z1989 + 1))]) (List.forall_mem_cons.mpr ⟨rfl, List.forall_mem_cons.mpr ⟨rfl, List.forall_mem_cons.mpr ⟨rfl, List.forall_mem_cons.mpr ⟨rfl, List.forall_mem_cons.mpr ⟨rfl, List.forall_mem_cons.mpr ⟨rfl, fun _ h => absurd h List.not_mem_nil⟩⟩⟩⟩⟩⟩) ?_
          exact ih1999 (z1989 + 1) μ2018 T2020 (mF.up (mF.call mF.refl F1994 rfl) (A_21 hw) u2019 rfl) (rW (c := 0) (d := 1000) (rAdd (e := 1) (f := 1000) h2001 (rR (x := 1)) rfl) rfl) (PC.keep I1996 hw ((mF.up mF.refl (A_21 hw) u2019 rfl) : mF [21006] w μ1990 μ2018) rfl) (RT.keep I1997 hw ((mF.up mF.refl (A_21 hw) u2019 rfl) : mF [21006] w μ1990 μ2018) rfl) (vc_X1_doActs_12_13 (nS h1998) h2000 h4 h3 hp2 h2002 h2001)
        by_cases h2046 : z2021 = 17
        · refine mr_tableIn (pc := 62) (v := 17) (tgt := 260) dX1_doActs_62 h2046 rfl rfl (by decide) ?_
          have h2047 : 17 ≤ z2021 ∧ z2021 ≤ 17 := (vc_X1_doActs_12_18 h2046 h2024 h2032 h2040 h2042 h2044 h2023)
          refine mr_iinc (pc := 260) (lv' := [(5, iv (z1989 + 1)), (6, iv z2009), (0, .ref 21), (1, .ref a1), (2, iv p2), (3, iv p3), (4, iv p4)]) dX1_doActs_260 rfl (by decide) rfl ?_
          refine sv_goto (pc := 263) (tgt := 3) dX1_doActs_263 (by decide) ?_
          refine mr_lvS (lv' := [(0, .ref 21), (1, .ref a1), (2, iv p2), (3, iv p3), (4, iv p4), (5, iv (z1989 + 1))]) (List.forall_mem_cons.mpr ⟨rfl, List.forall_mem_cons.mpr ⟨rfl, List.forall_mem_cons.mpr ⟨rfl, List.forall_mem_cons.mpr ⟨rfl, List.forall_mem_cons.mpr ⟨rfl, List.forall_mem_cons.mpr ⟨rfl, fun _ h => absurd h List.not_mem_nil⟩⟩⟩⟩⟩⟩) ?_
          exact ih1999 (z1989 + 1) μ2018 T2020 (mF.up (mF.call mF.refl F1994 rfl) (A_21 hw) u2019 rfl) (rW (c := 0) (d := 1000) (rAdd (e := 1) (f := 1000) h2001 (rR (x := 1)) rfl) rfl) (PC.keep I1996 hw ((mF.up mF.refl (A_21 hw) u2019 rfl) : mF [21006] w μ1990 μ2018) rfl) (RT.keep I1997 hw ((mF.up mF.refl (A_21 hw) u2019 rfl) : mF [21006] w μ1990 μ2018) rfl) (vc_X1_doActs_12_13 (nS h1998) h2000 h4 h3 hp2 h2002 h2001)
        by_cases h2048 : z2021 = 18
        · refine mr_tableIn (pc := 62) (v := 18) (tgt := 260) dX1_doActs_62 h2048 rfl rfl (by decide) ?_
          have h2049 : 18 ≤ z2021 ∧ z2021 ≤ 18 := (vc_X1_doActs_12_19 h2048 h2024 h2032 h2040 h2042 h2044 h2046 h2023)
          refine mr_iinc (pc := 260) (lv' := [(5, iv (z1989 + 1)), (6, iv z2009), (0, .ref 21), (1, .ref a1), (2, iv p2), (3, iv p3), (4, iv p4)]) dX1_doActs_260 rfl (by decide) rfl ?_
          refine sv_goto (pc := 263) (tgt := 3) dX1_doActs_263 (by decide) ?_
          refine mr_lvS (lv' := [(0, .ref 21), (1, .ref a1), (2, iv p2), (3, iv p3), (4, iv p4), (5, iv (z1989 + 1))]) (List.forall_mem_cons.mpr ⟨rfl, List.forall_mem_cons.mpr ⟨rfl, List.forall_mem_cons.mpr ⟨rfl, List.forall_mem_cons.mpr ⟨rfl, List.forall_mem_cons.mpr ⟨rfl, List.forall_mem_cons.mpr ⟨rfl, fun _ h => absurd h List.not_mem_nil⟩⟩⟩⟩⟩⟩) ?_
          exact ih1999 (z1989 + 1) μ2018 T2020 (mF.up (mF.call mF.refl F1994 rfl) (A_21 hw) u2019 rfl) (rW (c := 0) (d := 1000) (rAdd (e := 1) (f := 1000) h2001 (rR (x := 1)) rfl) rfl) (PC.keep I1996 hw ((mF.up mF.refl (A_21 hw) u2019 rfl) : mF [21006] w μ1990 μ2018) rfl) (RT.keep I1997 hw ((mF.up mF.refl (A_21 hw) u2019 rfl) : mF [21006] w μ1990 μ2018) rfl) (vc_X1_doActs_12_13 (nS h1998) h2000 h4 h3 hp2 h2002 h2001)
        by_cases h2050 : z2021 = 19
        · refine mr_tableIn (pc := 62) (v := 19) (tgt := 260) dX1_doActs_62 h2050 rfl rfl (by decide) ?_
          have h2051 : 19 ≤ z2021 ∧ z2021 ≤ 19 := (vc_X1_doActs_12_20 h2050 h2024 h2032 h2040 h2042 h2044 h2046 h2048 h2023)
          refine mr_iinc (pc := 260) (lv' := [(5, iv (z1989 + 1)), (6, iv z2009), (0, .ref 21), (1, .ref a1), (2, iv p2), (3, iv p3), (4, iv p4)]) dX1_doActs_260 rfl (by decide) rfl ?_
          refine sv_goto (pc := 263) (tgt := 3) dX1_doActs_263 (by decide) ?_
          refine mr_lvS (lv' := [(0, .ref 21), (1, .ref a1), (2, iv p2), (3, iv p3), (4, iv p4), (5, iv (z1989 + 1))]) (List.forall_mem_cons.mpr ⟨rfl, List.forall_mem_cons.mpr ⟨rfl, List.forall_mem_cons.mpr ⟨rfl, List.forall_mem_cons.mpr ⟨rfl, List.forall_mem_cons.mpr ⟨rfl, List.forall_mem_cons.mpr ⟨rfl, fun _ h => absurd h List.not_mem_nil⟩⟩⟩⟩⟩⟩) ?_
          exact ih1999 (z1989 + 1) μ2018 T2020 (mF.up (mF.call mF.refl F1994 rfl) (A_21 hw) u2019 rfl) (rW (c := 0) (d := 1000) (rAdd (e := 1) (f := 1000) h2001 (rR (x := 1)) rfl) rfl) (PC.keep I1996 hw ((mF.up mF.refl (A_21 hw) u2019 rfl) : mF [21006] w μ1990 μ2018) rfl) (RT.keep I1997 hw ((mF.up mF.refl (A_21 hw) u2019 rfl) : mF [21006] w μ1990 μ2018) rfl) (vc_X1_doActs_12_13 (nS h1998) h2000 h4 h3 hp2 h2002 h2001)
        by_cases h2052 : z2021 = 20
        · refine mr_tableIn (pc := 62) (v := 20) (tgt := 260) dX1_doActs_62 h2052 rfl rfl (by decide) ?_
          have h2053 : 20 ≤ z2021 ∧ z2021 ≤ 20 := (vc_X1_doActs_12_21 h2052 h2032 h2040 h2042 h2044 h2046 h2048 h2050 h2023)
          refine mr_iinc (pc := 260) (lv' := [(5, iv (z1989 + 1)), (6, iv z2009), (0, .ref 21), (1, .ref a1), (2, iv p2), (3, iv p3), (4, iv p4)]) dX1_doActs_260 rfl (by decide) rfl ?_
          refine sv_goto (pc := 263) (tgt := 3) dX1_doActs_263 (by decide) ?_
          refine mr_lvS (lv' := [(0, .ref 21), (1, .ref a1), (2, iv p2), (3, iv p3), (4, iv p4), (5, iv (z1989 + 1))]) (List.forall_mem_cons.mpr ⟨rfl, List.forall_mem_cons.mpr ⟨rfl, List.forall_mem_cons.mpr ⟨rfl, List.forall_mem_cons.mpr ⟨rfl, List.forall_mem_cons.mpr ⟨rfl, List.forall_mem_cons.mpr ⟨rfl, fun _ h => absurd h List.not_mem_nil⟩⟩⟩⟩⟩⟩) ?_
          exact ih1999 (z1989 + 1) μ2018 T2020 (mF.up (mF.call mF.refl F1994 rfl) (A_21 hw) u2019 rfl) (rW (c := 0) (d := 1000) (rAdd (e := 1) (f := 1000) h2001 (rR (x := 1)) rfl) rfl) (PC.keep I1996 hw ((mF.up mF.refl (A_21 hw) u2019 rfl) : mF [21006] w μ1990 μ2018) rfl) (RT.keep I1997 hw ((mF.up mF.refl (A_21 hw) u2019 rfl) : mF [21006] w μ1990 μ2018) rfl) (vc_X1_doActs_12_13 (nS h1998) h2000 h4 h3 hp2 h2002 h2001)
        by_cases h2054 : z2021 = 21
        · refine mr_tableIn (pc := 62) (v := 21) (tgt := 260) dX1_doActs_62 h2054 rfl rfl (by decide) ?_
          have h2055 : 21 ≤ z2021 ∧ z2021 ≤ 21 := (vc_X1_doActs_12_22 h2054 h2040 h2042 h2044 h2046 h2048 h2050 h2052 h2023)
          refine mr_iinc (pc := 260) (lv' := [(5, iv (z1989 + 1)), (6, iv z2009), (0, .ref 21), (1, .ref a1), (2, iv p2), (3, iv p3), (4, iv p4)]) dX1_doActs_260 rfl (by decide) rfl ?_
          refine sv_goto (pc := 263) (tgt := 3) dX1_doActs_263 (by decide) ?_
          refine mr_lvS (lv' := [(0, .ref 21), (1, .ref a1), (2, iv p2), (3, iv p3), (4, iv p4), (5, iv (z1989 + 1))]) (List.forall_mem_cons.mpr ⟨rfl, List.forall_mem_cons.mpr ⟨rfl, List.forall_mem_cons.mpr ⟨rfl, List.forall_mem_cons.mpr ⟨rfl, List.forall_mem_cons.mpr ⟨rfl, List.forall_mem_cons.mpr ⟨rfl, fun _ h => absurd h List.not_mem_nil⟩⟩⟩⟩⟩⟩) ?_
          exact ih1999 (z1989 + 1) μ2018 T2020 (mF.up (mF.call mF.refl F1994 rfl) (A_21 hw) u2019 rfl) (rW (c := 0) (d := 1000) (rAdd (e := 1) (f := 1000) h2001 (rR (x := 1)) rfl) rfl) (PC.keep I1996 hw ((mF.up mF.refl (A_21 hw) u2019 rfl) : mF [21006] w μ1990 μ2018) rfl) (RT.keep I1997 hw ((mF.up mF.refl (A_21 hw) u2019 rfl) : mF [21006] w μ1990 μ2018) rfl) (vc_X1_doActs_12_13 (nS h1998) h2000 h4 h3 hp2 h2002 h2001)
        by_cases h2056 : z2021 = 22
        · refine mr_tableIn (pc := 62) (v := 22) (tgt := 260) dX1_doActs_62 h2056 rfl rfl (by decide) ?_
          have h2057 : 22 ≤ z2021 ∧ z2021 ≤ 22 := (vc_X1_doActs_12_23 h2056 h2042 h2044 h2046 h2048 h2050 h2052 h2054 h2023)
          refine mr_iinc (pc := 260) (lv' := [(5, iv (z1989 + 1)), (6, iv z2009), (0, .ref 21), (1, .ref a1), (2, iv p2), (3, iv p3), (4, iv p4)]) dX1_doActs_260 rfl (by decide) rfl ?_
          refine sv_goto (pc := 263) (tgt := 3) dX1_doActs_263 (by decide) ?_
          refine mr_lvS (lv' := [(0, .ref 21), (1, .ref a1), (2, iv p2), (3, iv p3), (4, iv p4), (5, iv (z1989 + 1))]) (List.forall_mem_cons.mpr ⟨rfl, List.forall_mem_cons.mpr ⟨rfl, List.forall_mem_cons.mpr ⟨rfl, List.forall_mem_cons.mpr ⟨rfl, List.forall_mem_cons.mpr ⟨rfl, List.forall_mem_cons.mpr ⟨rfl, fun _ h => absurd h List.not_mem_nil⟩⟩⟩⟩⟩⟩) ?_
          exact ih1999 (z1989 + 1) μ2018 T2020 (mF.up (mF.call mF.refl F1994 rfl) (A_21 hw) u2019 rfl) (rW (c := 0) (d := 1000) (rAdd (e := 1) (f := 1000) h2001 (rR (x := 1)) rfl) rfl) (PC.keep I1996 hw ((mF.up mF.refl (A_21 hw) u2019 rfl) : mF [21006] w μ1990 μ2018) rfl) (RT.keep I1997 hw ((mF.up mF.refl (A_21 hw) u2019 rfl) : mF [21006] w μ1990 μ2018) rfl) (vc_X1_doActs_12_13 (nS h1998) h2000 h4 h3 hp2 h2002 h2001)
        by_cases h2058 : z2021 = 23
        · refine mr_tableIn (pc := 62) (v := 23) (tgt := 144) dX1_doActs_62 h2058 rfl rfl (by decide) ?_
          have h2059 : 23 ≤ z2021 ∧ z2021 ≤ 23 := (vc_X1_doActs_12_24 h2058 h2044 h2046 h2048 h2050 h2052 h2054 h2056 h2023)
          refine sv_aload_n (pc := 144) dX1_doActs_144 rfl rfl ?_
          refine mr_iconst (pc := 145) (z := 1) dX1_doActs_145 ?_
          refine pf_X1_7 (pc := 146) dX1_doActs_146 wF_X1_50 (A_21 hw) T2020 (rW (c := 0) (d := 2) (rR (x := 1)) rfl) fun μ2060 u2061 T2062 => ?_
          refine sv_goto (pc := 149) (tgt := 260) dX1_doActs_149 (by decide) ?_
          refine mr_iinc (pc := 260) (lv' := [(5, iv (z1989 + 1)), (6, iv z2009), (0, .ref 21), (1, .ref a1), (2, iv p2), (3, iv p3), (4, iv p4)]) dX1_doActs_260 rfl (by decide) rfl ?_
          refine sv_goto (pc := 263) (tgt := 3) dX1_doActs_263 (by decide) ?_
          refine mr_lvS (lv' := [(0, .ref 21), (1, .ref a1), (2, iv p2), (3, iv p3), (4, iv p4), (5, iv (z1989 + 1))]) (List.forall_mem_cons.mpr ⟨rfl, List.forall_mem_cons.mpr ⟨rfl, List.forall_mem_cons.mpr ⟨rfl, List.forall_mem_cons.mpr ⟨rfl, List.forall_mem_cons.mpr ⟨rfl, List.forall_mem_cons.mpr ⟨rfl, fun _ h => absurd h List.not_mem_nil⟩⟩⟩⟩⟩⟩) ?_
          exact ih1999 (z1989 + 1) μ2060 T2062 (mF.up (mF.up (mF.call mF.refl F1994 rfl) (A_21 hw) u2019 rfl) (A_21 hw) u2061 rfl) (rW (c := 0) (d := 1000) (rAdd (e := 1) (f := 1000) h2001 (rR (x := 1)) rfl) rfl) (PC.keep I1996 hw ((mF.up (mF.up mF.refl (A_21 hw) u2019 rfl) (A_21 hw) u2061 rfl) : mF [21006, 21007] w μ1990 μ2060) rfl) (RT.keep I1997 hw ((mF.up (mF.up mF.refl (A_21 hw) u2019 rfl) (A_21 hw) u2061 rfl) : mF [21006, 21007] w μ1990 μ2060) rfl) (vc_X1_doActs_12_13 (nS h1998) h2000 h4 h3 hp2 h2002 h2001)
        by_cases h2063 : z2021 = 24
        · refine mr_tableIn (pc := 62) (v := 24) (tgt := 152) dX1_doActs_62 h2063 rfl rfl (by decide) ?_
          have h2064 : 24 ≤ z2021 ∧ z2021 ≤ 24 := (vc_X1_doActs_12_25 h2063 h2046 h2048 h2050 h2052 h2054 h2056 h2058 h2023)
          refine sv_aload_n (pc := 152) dX1_doActs_152 rfl rfl ?_
          refine mr_iconst (pc := 153) (z := 2) dX1_doActs_153 ?_
          refine pf_X1_7 (pc := 154) dX1_doActs_154 wF_X1_50 (A_21 hw) T2020 (rW (c := 0) (d := 2) (rR (x := 2)) rfl) fun μ2065 u2066 T2067 => ?_
          refine sv_goto (pc := 157) (tgt := 260) dX1_doActs_157 (by decide) ?_
          refine mr_iinc (pc := 260) (lv' := [(5, iv (z1989 + 1)), (6, iv z2009), (0, .ref 21), (1, .ref a1), (2, iv p2), (3, iv p3), (4, iv p4)]) dX1_doActs_260 rfl (by decide) rfl ?_
          refine sv_goto (pc := 263) (tgt := 3) dX1_doActs_263 (by decide) ?_
          refine mr_lvS (lv' := [(0, .ref 21), (1, .ref a1), (2, iv p2), (3, iv p3), (4, iv p4), (5, iv (z1989 + 1))]) (List.forall_mem_cons.mpr ⟨rfl, List.forall_mem_cons.mpr ⟨rfl, List.forall_mem_cons.mpr ⟨rfl, List.forall_mem_cons.mpr ⟨rfl, List.forall_mem_cons.mpr ⟨rfl, List.forall_mem_cons.mpr ⟨rfl, fun _ h => absurd h List.not_mem_nil⟩⟩⟩⟩⟩⟩) ?_
          exact ih1999 (z1989 + 1) μ2065 T2067 (mF.up (mF.up (mF.call mF.refl F1994 rfl) (A_21 hw) u2019 rfl) (A_21 hw) u2066 rfl) (rW (c := 0) (d := 1000) (rAdd (e := 1) (f := 1000) h2001 (rR (x := 1)) rfl) rfl) (PC.keep I1996 hw ((mF.up (mF.up mF.refl (A_21 hw) u2019 rfl) (A_21 hw) u2066 rfl) : mF [21006, 21007] w μ1990 μ2065) rfl) (RT.keep I1997 hw ((mF.up (mF.up mF.refl (A_21 hw) u2019 rfl) (A_21 hw) u2066 rfl) : mF [21006, 21007] w μ1990 μ2065) rfl) (vc_X1_doActs_12_13 (nS h1998) h2000 h4 h3 hp2 h2002 h2001)
        by_cases h2068 : z2021 = 25
        · refine mr_tableIn (pc := 62) (v := 25) (tgt := 160) dX1_doActs_62 h2068 rfl rfl (by decide) ?_
          have h2069 : 25 ≤ z2021 ∧ z2021 ≤ 25 := (vc_X1_doActs_12_26 h2068 h2048 h2050 h2052 h2054 h2056 h2058 h2063 h2023)
          refine sv_aload_n (pc := 160) dX1_doActs_160 rfl rfl ?_
          refine gf_X1_2 (pc := 161) dX1_doActs_161 wF_X1_25 (A_21 hw) T2020 (RT.keep I1997 hw ((mF.up mF.refl (A_21 hw) u2019 rfl) : mF [21006] w μ1990 μ2018) rfl) fun b2070 q2071 A2072 => ?_
          refine mr_iload (pc := 164) (z := z2009) dX1_doActs_164 rfl ?_
          refine mr_cVV (pc := 166) (c_X7_addMark hw T2020 A2072 (rW (c := (-2147483648)) (d := 2147483647) h2012 rfl)) (gOk _ _ _ _ _) dX1_doActs_166 (tX7_addMark _ _ _ _ _) ⟨wV_X7_addMark, wL_X7_addMark⟩ wM_X1_124 (gCX7 _ _ _ _ _) rfl A2072 rfl ⟨le_t rfl, le_t rfl⟩ ⟨le_t rfl, le_t rfl⟩ rfl (le_t rfl) fun μ2073 T2074 F2075 h2076 => ?_
          refine sv_goto (pc := 169) (tgt := 260) dX1_doActs_169 (by decide) ?_
          refine mr_iinc (pc := 260) (lv' := [(5, iv (z1989 + 1)), (6, iv z2009), (0, .ref 21), (1, .ref a1), (2, iv p2), (3, iv p3), (4, iv p4)]) dX1_doActs_260 rfl (by decide) rfl ?_
          refine sv_goto (pc := 263) (tgt := 3) dX1_doActs_263 (by decide) ?_
          refine mr_lvS (lv' := [(0, .ref 21), (1, .ref a1), (2, iv p2), (3, iv p3), (4, iv p4), (5, iv (z1989 + 1))]) (List.forall_mem_cons.mpr ⟨rfl, List.forall_mem_cons.mpr ⟨rfl, List.forall_mem_cons.mpr ⟨rfl, List.forall_mem_cons.mpr ⟨rfl, List.forall_mem_cons.mpr ⟨rfl, List.forall_mem_cons.mpr ⟨rfl, fun _ h => absurd h List.not_mem_nil⟩⟩⟩⟩⟩⟩) ?_
          exact ih1999 (z1989 + 1) μ2073 T2074 (mF.call (mF.up (mF.call mF.refl F1994 rfl) (A_21 hw) u2019 rfl) F2075 rfl) (rW (c := 0) (d := 1000) (rAdd (e := 1) (f := 1000) h2001 (rR (x := 1)) rfl) rfl) (PC.keep I1996 hw ((mF.call (mF.up mF.refl (A_21 hw) u2019 rfl) F2075 rfl) : mF [21006, 200008, 202999] w μ1990 μ2073) rfl) (RT.keep I1997 hw ((mF.call (mF.up mF.refl (A_21 hw) u2019 rfl) F2075 rfl) : mF [21006, 200008, 202999] w μ1990 μ2073) rfl) (vc_X1_doActs_12_13 (nS h1998) h2000 h4 h3 hp2 h2002 h2001)
        by_cases h2077 : z2021 = 26
        · refine mr_tableIn (pc := 62) (v := 26) (tgt := 172) dX1_doActs_62 h2077 rfl rfl (by decide) ?_
          have h2078 : 26 ≤ z2021 ∧ z2021 ≤ 26 := (vc_X1_doActs_12_27 h2077 h2050 h2052 h2054 h2056 h2058 h2063 h2068 h2023)
          refine sv_aload_n (pc := 172) dX1_doActs_172 rfl rfl ?_
          refine gf_X1_2 (pc := 173) dX1_doActs_173 wF_X1_25 (A_21 hw) T2020 (RT.keep I1997 hw ((mF.up mF.refl (A_21 hw) u2019 rfl) : mF [21006] w μ1990 μ2018) rfl) fun b2079 q2080 A2081 => ?_
          refine mr_iload (pc := 176) (z := z2009) dX1_doActs_176 rfl ?_
          refine mr_cVV (pc := 178) (c_X7_dropMark hw T2020 A2081 (rW (c := (-2147483648)) (d := 2147483647) h2012 rfl)) (gOk _ _ _ _ _) dX1_doActs_178 (tX7_dropMark _ _ _ _ _) ⟨wV_X7_dropMark, wL_X7_dropMark⟩ wM_X1_128 (gCX7 _ _ _ _ _) rfl A2081 rfl ⟨le_t rfl, le_t rfl⟩ ⟨le_t rfl, le_t rfl⟩ rfl (le_t rfl) fun μ2082 T2083 F2084 h2085 => ?_
          refine sv_goto (pc := 181) (tgt := 260) dX1_doActs_181 (by decide) ?_
          refine mr_iinc (pc := 260) (lv' := [(5, iv (z1989 + 1)), (6, iv z2009), (0, .ref 21), (1, .ref a1), (2, iv p2), (3, iv p3), (4, iv p4)]) dX1_doActs_260 rfl (by decide) rfl ?_
          refine sv_goto (pc := 263) (tgt := 3) dX1_doActs_263 (by decide) ?_
          refine mr_lvS (lv' := [(0, .ref 21), (1, .ref a1), (2, iv p2), (3, iv p3), (4, iv p4), (5, iv (z1989 + 1))]) (List.forall_mem_cons.mpr ⟨rfl, List.forall_mem_cons.mpr ⟨rfl, List.forall_mem_cons.mpr ⟨rfl, List.forall_mem_cons.mpr ⟨rfl, List.forall_mem_cons.mpr ⟨rfl, List.forall_mem_cons.mpr ⟨rfl, fun _ h => absurd h List.not_mem_nil⟩⟩⟩⟩⟩⟩) ?_
          exact ih1999 (z1989 + 1) μ2082 T2083 (mF.call (mF.up (mF.call mF.refl F1994 rfl) (A_21 hw) u2019 rfl) F2084 rfl) (rW (c := 0) (d := 1000) (rAdd (e := 1) (f := 1000) h2001 (rR (x := 1)) rfl) rfl) (PC.keep I1996 hw ((mF.call (mF.up mF.refl (A_21 hw) u2019 rfl) F2084 rfl) : mF [21006, 200008, 202999] w μ1990 μ2082) rfl) (RT.keep I1997 hw ((mF.call (mF.up mF.refl (A_21 hw) u2019 rfl) F2084 rfl) : mF [21006, 200008, 202999] w μ1990 μ2082) rfl) (vc_X1_doActs_12_13 (nS h1998) h2000 h4 h3 hp2 h2002 h2001)
        by_cases h2086 : z2021 = 27
        · refine mr_tableIn (pc := 62) (v := 27) (tgt := 208) dX1_doActs_62 h2086 rfl rfl (by decide) ?_
          have h2087 : 27 ≤ z2021 ∧ z2021 ≤ 27 := (vc_X1_doActs_12_28 h2086 h2052 h2054 h2056 h2058 h2063 h2068 h2077 h2023)
          refine sv_aload_n (pc := 208) dX1_doActs_208 rfl rfl ?_
          refine gf_X1_2 (pc := 209) dX1_doActs_209 wF_X1_25 (A_21 hw) T2020 (RT.keep I1997 hw ((mF.up mF.refl (A_21 hw) u2019 rfl) : mF [21006] w μ1990 μ2018) rfl) fun b2088 q2089 A2090 => ?_
          refine gf_X7_7 (pc := 212) dX1_doActs_212 wF_X1_96 A2090 T2020 fun z2091 q2092 h2093 => ?_
          have J2116 : ∀ (μ2110 : mM), (mT w μ2110) → (mF [21007, 200007, 201999] w μ2018 μ2110) → (PC w μ2110) → (RT μ2110) → sV (gG l D c H0 sa) mX1_doActs (sRm 18 0 0) (sZ (gG l D c H0 sa) 0 0 (qV w [21006, 21007, 200004, 200006, 200007, 200008, 201999, 202999] μ (fun μ1 => True))) 260 [(0, .ref 21), (1, .ref a1), (2, iv p2), (3, iv p3), (4, iv p4), (5, iv z1989)] [] (mk w μ2110) 0 0 := by
            intro μ2110 T2111 F2112 I2114 I2115
            refine mr_iinc (pc := 260) (lv' := [(5, iv (z1989 + 1)), (0, .ref 21), (1, .ref a1), (2, iv p2), (3, iv p3), (4, iv p4)]) dX1_doActs_260 rfl (by decide) rfl ?_
            refine sv_goto (pc := 263) (tgt := 3) dX1_doActs_263 (by decide) ?_
            refine mr_lvS (lv' := [(0, .ref 21), (1, .ref a1), (2, iv p2), (3, iv p3), (4, iv p4), (5, iv (z1989 + 1))]) (List.forall_mem_cons.mpr ⟨rfl, List.forall_mem_cons.mpr ⟨rfl, List.forall_mem_cons.mpr ⟨rfl, List.forall_mem_cons.mpr ⟨rfl, List.forall_mem_cons.mpr ⟨rfl, List.forall_mem_cons.mpr ⟨rfl, fun _ h => absurd h List.not_mem_nil⟩⟩⟩⟩⟩⟩) ?_
            exact ih1999 (z1989 + 1) μ2110 T2111 (mF.call (mF.up (mF.call mF.refl F1994 rfl) (A_21 hw) u2019 rfl) F2112 rfl) (rW (c := 0) (d := 1000) (rAdd (e := 1) (f := 1000) h2001 (rR (x := 1)) rfl) rfl) I2114 I2115 (vc_X1_doActs_12_13 (nS h1998) h2000 h4 h3 hp2 h2002 h2001)
          refine mr_if_le (pc := 215) (tgt := 260) dX1_doActs_215 (by decide) (r32 h2093 rfl) (fun h2117 => ?_) (fun h2117 => ?_)
          · have h2118 : 0 ≤ z2091 ∧ z2091 ≤ 0 := (vc_X12_unlike_21 h2117 h2093)
            refine mr_lvS (lv' := [(0, .ref 21), (1, .ref a1), (2, iv p2), (3, iv p3), (4, iv p4), (5, iv z1989)]) (List.forall_mem_cons.mpr ⟨rfl, List.forall_mem_cons.mpr ⟨rfl, List.forall_mem_cons.mpr ⟨rfl, List.forall_mem_cons.mpr ⟨rfl, List.forall_mem_cons.mpr ⟨rfl, List.forall_mem_cons.mpr ⟨rfl, fun _ h => absurd h List.not_mem_nil⟩⟩⟩⟩⟩⟩) ?_
            exact J2116 μ2018 T2020 mF.refl (PC.keep I1996 hw ((mF.up mF.refl (A_21 hw) u2019 rfl) : mF [21006] w μ1990 μ2018) rfl) (RT.keep I1997 hw ((mF.up mF.refl (A_21 hw) u2019 rfl) : mF [21006] w μ1990 μ2018) rfl)
          have h2119 : 1 ≤ z2091 ∧ z2091 ≤ 20 := (vc_X12_unlike_22 h2117 h2093)
          refine sv_aload_n (pc := 218) dX1_doActs_218 rfl rfl ?_
          refine gk_X1_2 (pc := 219) dX1_doActs_219 wF_X1_25 (A_21 hw) q2089 ?_
          refine sv_aload_n (pc := 222) dX1_doActs_222 rfl rfl ?_
          refine gk_X1_2 (pc := 223) dX1_doActs_223 wF_X1_25 (A_21 hw) q2089 ?_
          refine gf_X7_0 (pc := 226) dX1_doActs_226 wF_X1_114 A2090 T2020 fun A2120 => ?_
          refine mr_iconst (pc := 229) (z := 0) dX1_doActs_229 ?_
          refine la_201 (pc := 230) dX1_doActs_230 A2120 T2020 (rIx (n := 20) (rR (x := 0)) rfl) fun z2121 q2122 h2123 => ?_
          refine mr_iload (pc := 231) (z := z2009) dX1_doActs_231 rfl ?_
          refine mr_cVI (pc := 233) (c_X7_putInFront hw T2020 A2090 h2123 (rW (c := (-2147483648)) (d := 1000000) h2012 rfl)) (gOk _ _ _ _ _) dX1_doActs_233 (tX7_putInFront _ _ _ _ _) ⟨wV_X7_putInFront, wL_X7_putInFront⟩ wM_X1_131 (gCX7 _ _ _ _ _) rfl A2090 rfl ⟨le_t rfl, le_t rfl⟩ ⟨le_t rfl, le_t rfl⟩ rfl (le_t rfl) fun z2128 μ2124 T2125 F2126 h2127 => ?_
          refine mr_if_ne (pc := 236) (tgt := 260) dX1_doActs_236 (by decide) (r32 h2127.1 rfl) (fun h2129 => ?_) (fun h2129 => ?_)
          · have h2130 : 1 ≤ z2128 ∧ z2128 ≤ 1 := (vc_X12_ring_24 h2129 h2127.1)
            refine mr_lvS (lv' := [(0, .ref 21), (1, .ref a1), (2, iv p2), (3, iv p3), (4, iv p4), (5, iv z1989)]) (List.forall_mem_cons.mpr ⟨rfl, List.forall_mem_cons.mpr ⟨rfl, List.forall_mem_cons.mpr ⟨rfl, List.forall_mem_cons.mpr ⟨rfl, List.forall_mem_cons.mpr ⟨rfl, List.forall_mem_cons.mpr ⟨rfl, fun _ h => absurd h List.not_mem_nil⟩⟩⟩⟩⟩⟩) ?_
            exact J2116 μ2124 T2125 (mF.call mF.refl F2126 rfl) (PC.keep I1996 hw ((mF.call (mF.up mF.refl (A_21 hw) u2019 rfl) F2126 rfl) : mF [21006, 200007, 201999] w μ1990 μ2124) rfl) (RT.keep I1997 hw ((mF.call (mF.up mF.refl (A_21 hw) u2019 rfl) F2126 rfl) : mF [21006, 200007, 201999] w μ1990 μ2124) rfl)
          have h2131 : 0 ≤ z2128 ∧ z2128 ≤ 0 := (vc_X12_ring_22 h2129 h2127.1)
          refine sv_aload_n (pc := 239) dX1_doActs_239 rfl rfl ?_
          refine mr_iconst (pc := 240) (z := 2) dX1_doActs_240 ?_
          refine pf_X1_7 (pc := 241) dX1_doActs_241 wF_X1_50 (A_21 hw) T2125 (rW (c := 0) (d := 2) (rR (x := 2)) rfl) fun μ2132 u2133 T2134 => ?_
          refine sv_goto (pc := 244) (tgt := 260) dX1_doActs_244 (by decide) ?_
          refine mr_lvS (lv' := [(0, .ref 21), (1, .ref a1), (2, iv p2), (3, iv p3), (4, iv p4), (5, iv z1989)]) (List.forall_mem_cons.mpr ⟨rfl, List.forall_mem_cons.mpr ⟨rfl, List.forall_mem_cons.mpr ⟨rfl, List.forall_mem_cons.mpr ⟨rfl, List.forall_mem_cons.mpr ⟨rfl, List.forall_mem_cons.mpr ⟨rfl, fun _ h => absurd h List.not_mem_nil⟩⟩⟩⟩⟩⟩) ?_
          exact J2116 μ2132 T2134 (mF.up (mF.call mF.refl F2126 rfl) (A_21 hw) u2133 rfl) (PC.keep I1996 hw ((mF.up (mF.call (mF.up mF.refl (A_21 hw) u2019 rfl) F2126 rfl) (A_21 hw) u2133 rfl) : mF [21006, 21007, 200007, 201999] w μ1990 μ2132) rfl) (RT.keep I1997 hw ((mF.up (mF.call (mF.up mF.refl (A_21 hw) u2019 rfl) F2126 rfl) (A_21 hw) u2133 rfl) : mF [21006, 21007, 200007, 201999] w μ1990 μ2132) rfl)
        by_cases h2135 : z2021 = 28
        · refine mr_tableIn (pc := 62) (v := 28) (tgt := 247) dX1_doActs_62 h2135 rfl rfl (by decide) ?_
          have h2136 : 28 ≤ z2021 ∧ z2021 ≤ 28 := (vc_X1_doActs_12_33 h2135 h2054 h2056 h2058 h2063 h2068 h2077 h2086 h2023)
          refine sv_aload_n (pc := 247) dX1_doActs_247 rfl rfl ?_
          refine mr_iload (pc := 248) (z := z2009) dX1_doActs_248 rfl ?_
          refine mr_iload (pc := 250) (z := p4) dX1_doActs_250 rfl ?_
          refine mr_iconst (pc := 252) (z := 1) dX1_doActs_252 ?_
          refine mr_iadd (pc := 253) (x := p4) (y := 1) dX1_doActs_253 ?_
          refine mr_cVV (pc := 254) (c_X1_goThrough_6 hw T2020 (rW (c := (-2147483648)) (d := 2147483647) h2012 rfl) (rAdd (e := 6) (f := 6) hp4 (rR (x := 1)) rfl) (PC.keep I1996 hw ((mF.up mF.refl (A_21 hw) u2019 rfl) : mF [21006] w μ1990 μ2018) rfl) (RT.keep I1997 hw ((mF.up mF.refl (A_21 hw) u2019 rfl) : mF [21006] w μ1990 μ2018) rfl)) (gOk _ _ _ _ _) dX1_doActs_254 (tX1_goThrough _ _ _ _ _) ⟨wV_X1_goThrough, wL_X1_goThrough⟩ wM_X1_53 (gCX1 _ _ _ _ _) rfl (A_21 hw) rfl ⟨le_t rfl, le_t rfl⟩ ⟨le_t rfl, le_t rfl⟩ rfl (le_t rfl) fun μ2137 T2138 F2139 h2140 => ?_
          refine sv_goto (pc := 257) (tgt := 260) dX1_doActs_257 (by decide) ?_
          refine mr_iinc (pc := 260) (lv' := [(5, iv (z1989 + 1)), (6, iv z2009), (0, .ref 21), (1, .ref a1), (2, iv p2), (3, iv p3), (4, iv p4)]) dX1_doActs_260 rfl (by decide) rfl ?_
          refine sv_goto (pc := 263) (tgt := 3) dX1_doActs_263 (by decide) ?_
          refine mr_lvS (lv' := [(0, .ref 21), (1, .ref a1), (2, iv p2), (3, iv p3), (4, iv p4), (5, iv (z1989 + 1))]) (List.forall_mem_cons.mpr ⟨rfl, List.forall_mem_cons.mpr ⟨rfl, List.forall_mem_cons.mpr ⟨rfl, List.forall_mem_cons.mpr ⟨rfl, List.forall_mem_cons.mpr ⟨rfl, List.forall_mem_cons.mpr ⟨rfl, fun _ h => absurd h List.not_mem_nil⟩⟩⟩⟩⟩⟩) ?_
          exact ih1999 (z1989 + 1) μ2137 T2138 (mF.call (mF.up (mF.call mF.refl F1994 rfl) (A_21 hw) u2019 rfl) F2139 rfl) (rW (c := 0) (d := 1000) (rAdd (e := 1) (f := 1000) h2001 (rR (x := 1)) rfl) rfl) (PC.keep I1996 hw ((mF.call (mF.up mF.refl (A_21 hw) u2019 rfl) F2139 rfl) : mF [21006, 21007, 200004, 200006, 200007, 200008, 201999, 202999] w μ1990 μ2137) rfl) (RT.keep I1997 hw ((mF.call (mF.up mF.refl (A_21 hw) u2019 rfl) F2139 rfl) : mF [21006, 21007, 200004, 200006, 200007, 200008, 201999, 202999] w μ1990 μ2137) rfl) (vc_X1_doActs_12_13 (nS h1998) h2000 h4 h3 hp2 h2002 h2001)
        refine mr_tableOut (pc := 62) (tgt := 260) dX1_doActs_62 h2023 (vc_X1_doActs_12_34 h2024 h2032 h2040 h2042 h2044 h2046 h2048 h2050 h2052 h2054 h2056 h2058 h2063 h2068 h2077 h2086 h2135 h2023) (by decide) ?_
        refine mr_iinc (pc := 260) (lv' := [(5, iv (z1989 + 1)), (6, iv z2009), (0, .ref 21), (1, .ref a1), (2, iv p2), (3, iv p3), (4, iv p4)]) dX1_doActs_260 rfl (by decide) rfl ?_
        refine sv_goto (pc := 263) (tgt := 3) dX1_doActs_263 (by decide) ?_
        refine mr_lvS (lv' := [(0, .ref 21), (1, .ref a1), (2, iv p2), (3, iv p3), (4, iv p4), (5, iv (z1989 + 1))]) (List.forall_mem_cons.mpr ⟨rfl, List.forall_mem_cons.mpr ⟨rfl, List.forall_mem_cons.mpr ⟨rfl, List.forall_mem_cons.mpr ⟨rfl, List.forall_mem_cons.mpr ⟨rfl, List.forall_mem_cons.mpr ⟨rfl, fun _ h => absurd h List.not_mem_nil⟩⟩⟩⟩⟩⟩) ?_
        exact ih1999 (z1989 + 1) μ2018 T2020 (mF.up (mF.call mF.refl F1994 rfl) (A_21 hw) u2019 rfl) (rW (c := 0) (d := 1000) (rAdd (e := 1) (f := 1000) h2001 (rR (x := 1)) rfl) rfl) (PC.keep I1996 hw ((mF.up mF.refl (A_21 hw) u2019 rfl) : mF [21006] w μ1990 μ2018) rfl) (RT.keep I1997 hw ((mF.up mF.refl (A_21 hw) u2019 rfl) : mF [21006] w μ1990 μ2018) rfl) (vc_X1_doActs_12_13 (nS h1998) h2000 h4 h3 hp2 h2002 h2001)
      have h2141 : 500 ≤ z2013 ∧ z2013 ≤ 500 := (vc_X1_doActs_12_35 h2016 h2015)
      refine sv_aload_n (pc := 38) dX1_doActs_38 rfl rfl ?_
      refine mr_iconst (pc := 39) (z := 2) dX1_doActs_39 ?_
      refine pf_X1_7 (pc := 40) dX1_doActs_40 wF_X1_50 (A_21 hw) T1993 (rW (c := 0) (d := 2) (rR (x := 2)) rfl) fun μ2142 u2143 T2144 => ?_
      exact mr_vret dX1_doActs_43 rfl (le_t rfl) (le_t rfl) T2144 (mF.up (mF.call mF.refl F1994 rfl) (A_21 hw) u2143 rfl) trivial
  refine mr_lvS (lv' := [(0, .ref 21), (1, .ref a1), (2, iv p2), (3, iv p3), (4, iv p4), (5, iv 0)]) (List.forall_mem_cons.mpr ⟨rfl, List.forall_mem_cons.mpr ⟨rfl, List.forall_mem_cons.mpr ⟨rfl, List.forall_mem_cons.mpr ⟨rfl, List.forall_mem_cons.mpr ⟨rfl, List.forall_mem_cons.mpr ⟨rfl, fun _ h => absurd h List.not_mem_nil⟩⟩⟩⟩⟩⟩) ?_
  exact L1991 1002 0 μ hT mF.refl (rW (c := 0) (d := 1000) (rR (x := 0)) rfl) hIPC hIRT vc_X1_doActs_12_36
theorem vc_X1_goThrough_5_5 {p2 : Int} (h0 : 12 < p2) (h1 : 5 ≤ p2 ∧ p2 ≤ 5) : False := by omega
set_option maxRecDepth 4000 in
set_option maxHeartbeats 4000000 in
theorem c_X1_goThrough_5 {l : Launch} {D : va_G} {c : Nat → ClassId} {H0 : Heap} {sa : Nat × Nat × (Nat → Int32)} {w : mW} {μ : mM} (hw : mWF w) (hT : mT w μ) {p1 : Int} (hp1 : (-2147483648) ≤ p1 ∧ p1 ≤ 2147483647) {p2 : Int} (hp2 : 5 ≤ p2 ∧ p2 ≤ 5) (hIPC : PC w μ) (hIRT : RT μ) : sC (gG l D c H0 sa) mX1_goThrough 19 0 0 [.ref 21, iv p1, iv p2] (mk w μ) (qV w [21006, 21007, 200004, 200006, 200007, 200008, 201999, 202999] μ (fun μ1 => True)) := by
  refine sC.of rfl (by decide) (le_t rfl) ?_
  refine mr_lvE (lv' := [(0, .ref 21), (1, iv p1), (2, iv p2)]) rfl ?_
  refine mr_iload_n (pc := 0) (z := p1) dX1_goThrough_0 rfl rfl ?_
  refine mr_if_lt (pc := 1) (tgt := 18) dX1_goThrough_1 (by decide) hp1 (fun h1 => ?_) (fun h1 => ?_)
  · have h2 : (-2147483648) ≤ p1 ∧ p1 ≤ (-1) := (vc_X12_ring_60 h1 hp1)
    exact mr_vret dX1_goThrough_18 rfl (le_t rfl) (le_t rfl) hT mF.refl trivial
  have h3 : 0 ≤ p1 ∧ p1 ≤ 2147483647 := (vc_X12_ring_1 h1 hp1)
  refine mr_iload_n (pc := 4) (z := p1) dX1_goThrough_4 rfl rfl ?_
  refine sv_aload_n (pc := 5) dX1_goThrough_5 rfl rfl ?_
  refine gf_X1_8 (pc := 6) dX1_goThrough_6 wF_X1_21 (A_21 hw) hT fun z4 q5 h6 => ?_
  refine mr_icmp_ge (pc := 9) (tgt := 18) dX1_goThrough_9 (by decide) (r32 h3 rfl) (r32 h6.2 rfl) (fun h7 => ?_) (fun h7 => ?_)
  · exact mr_vret dX1_goThrough_18 rfl (le_t rfl) (le_t rfl) hT mF.refl trivial
  have h8 : 0 ≤ p1 ∧ p1 ≤ 11 := (vc_X1_goThrough_13_3 h7 h1 h6.1 h3 h6.2)
  have h9 : 1 ≤ z4 ∧ z4 ≤ 12 := (vc_X1_goThrough_13_4 h7 h1 h6.1 h8 h6.2)
  refine mr_iload_n (pc := 12) (z := p2) dX1_goThrough_12 rfl rfl ?_
  refine mr_bipush (pc := 13) (z := 12) dX1_goThrough_13 (by decide) ?_
  refine mr_icmp_le (pc := 15) (tgt := 19) dX1_goThrough_15 (by decide) (r32 hp2 rfl) (r32 (rR (x := 12)) rfl) (fun _ => ?_) (fun h => ((vc_X1_goThrough_5_5 h hp2)).elim)
  refine sv_aload_n (pc := 19) dX1_goThrough_19 rfl rfl ?_
  refine gf_X1_1 (pc := 20) dX1_goThrough_20 wF_X1_17 (A_21 hw) hT ?_
  refine mr_iload_n (pc := 23) (z := p1) dX1_goThrough_23 rfl rfl ?_
  refine la_22 (pc := 24) dX1_goThrough_24 (A_22 hw) hT (rIx (n := 12) h8 rfl) (vc_X1_goThrough_12_6 h1 h6.1 h7 h8 h9) fun b10 q11 A12 => ?_
  refine mr_astore_n (pc := 25) (lv' := [(3, .ref b10), (0, .ref 21), (1, iv p1), (2, iv p2)]) dX1_goThrough_25 rfl (by decide) rfl ?_
  obtain ⟨c13, z14, q15, A16, q17, R18, e19, e20⟩ := PC.read hIPC hT A12 (vc_X1_goThrough_12_7 h1 h7 h6.1 h8 h9) (vc_X1_goThrough_12_6 h1 h6.1 h7 h8 h9) q11
  have h21 : 0 ≤ z14 ∧ z14 ≤ 30 := by rw [← q17]; exact hT _ _ A12 0
  refine mr_iconst (pc := 26) (z := 0) dX1_goThrough_26 ?_
  refine mr_istore (pc := 27) (lv' := [(4, iv 0), (3, .ref b10), (0, .ref 21), (1, iv p1), (2, iv p2)]) dX1_goThrough_27 (by decide) rfl ?_
  refine mr_iconst (pc := 29) (z := 0) dX1_goThrough_29 ?_
  refine mr_istore (pc := 30) (lv' := [(5, iv 0), (4, iv 0), (3, .ref b10), (0, .ref 21), (1, iv p1), (2, iv p2)]) dX1_goThrough_30 (by decide) rfl ?_
  have L1192 : ∀ (nL1192 : Nat) (z1190 z1189 : Int) (μ1191 : mM), mT w μ1191 → mF [21006, 21007, 200004, 200006, 200007, 200008, 201999, 202999] w μ μ1191 → (0 ≤ z1190 ∧ z1190 ≤ 2000) → (0 ≤ z1189 ∧ z1189 ≤ 30) → PC w μ1191 → RT μ1191 → wfR (μ c13) (w.2.2.1 c13) (z1190).toNat (z14 - z1189).toNat → (2001 - z1190) < (nL1192 : Int) → sV (gG l D c H0 sa) mX1_goThrough (sRm 19 0 0) (sZ (gG l D c H0 sa) 0 0 (qV w [21006, 21007, 200004, 200006, 200007, 200008, 201999, 202999] μ (fun μ1 => True))) 32 [(0, .ref 21), (2, iv p2), (3, .ref b10), (4, iv z1190), (5, iv z1189)] [] (mk w μ1191) 0 0 := by
    intro nL1192
    induction nL1192 with
    | zero => intro z1190 z1189 μ1191 T1195 F1196 h1193 h1194 I1198 I1199 R1200 h1201; exact ((vc_X1_goThrough_12_8 h1201 h1193)).elim
    | succ nL1192 ih1202 =>
      intro z1190 z1189 μ1191 T1195 F1196 h1193 h1194 I1198 I1199 R1200 h1201
      refine mr_iload (pc := 32) (z := z1189) dX1_goThrough_32 rfl ?_
      refine sv_aload_n (pc := 34) dX1_goThrough_34 rfl rfl ?_
      refine gk_X5_0 (pc := 35) dX1_goThrough_35 wF_X1_57 A12 (F1196.f A12 rfl q17) ?_
      refine mr_icmp_ge (pc := 38) (tgt := 174) dX1_goThrough_38 (by decide) (r32 h1194 rfl) (r32 h21 rfl) (fun h1267 => ?_) (fun h1267 => ?_)
      · exact mr_vret dX1_goThrough_174 rfl (le_t rfl) (le_t rfl) T1195 (mF.call mF.refl F1196 rfl) trivial
      have h1268 : 0 ≤ z1189 ∧ z1189 ≤ 29 := (vc_X12_judgedAnew_2 h1267 h1194 h21)
      have h1269 : 1 ≤ z14 ∧ z14 ≤ 30 := (vc_X12_judgedAnew_3 h1267 h1268 h21)
      refine sv_aload_n (pc := 41) dX1_goThrough_41 rfl rfl ?_
      refine gf_X1_7 (pc := 42) dX1_goThrough_42 wF_X1_50 (A_21 hw) T1195 fun z1270 q1271 h1272 => ?_
      refine mr_if_ne (pc := 45) (tgt := 174) dX1_goThrough_45 (by decide) (r32 h1272 rfl) (fun h1332 => ?_) (fun h1332 => ?_)
      · have h1333 : 1 ≤ z1270 ∧ z1270 ≤ 2 := (vc_X12_provides_3 h1332 h1272)
        exact mr_vret dX1_goThrough_174 rfl (le_t rfl) (le_t rfl) T1195 (mF.call mF.refl F1196 rfl) trivial
      have h1334 : 0 ≤ z1270 ∧ z1270 ≤ 0 := (vc_X12_provides_4 h1332 h1272)
      obtain ⟨n_1335, q1336⟩ : ∃ n : Int, (w.2.2.1 c13 : Int) = n := ⟨_, rfl⟩
      have h1337 : 0 ≤ n_1335 ∧ n_1335 ≤ 2000 := lnR (m := 2000) q1336 A16 rfl
      have h1338 : z1190 + 1 < n_1335 := lnLt q1336 (wfR.hd R1200 (vc_X1_goThrough_12_13 h1193) (vc_X1_goThrough_12_14 h1267 h1268 h1269))
      refine sv_aload_n (pc := 48) dX1_goThrough_48 rfl rfl ?_
      refine gk_X5_1 (pc := 49) dX1_goThrough_49 wF_X1_60 A12 (F1196.f A12 rfl q15) ?_
      refine mr_iload (pc := 52) (z := z1190) dX1_goThrough_52 rfl ?_
      refine la_231 (pc := 54) dX1_goThrough_54 A16 T1195 (lnC q1336 (vc_X1_goThrough_12_15 h1338 h1337 h1193)) fun z1339 q1340 h1341 => ?_
      refine mr_istore (pc := 55) (lv' := [(6, iv z1339), (0, .ref 21), (2, iv p2), (3, .ref b10), (4, iv z1190), (5, iv z1189)]) dX1_goThrough_55 (by decide) rfl ?_
      refine sv_aload_n (pc := 57) dX1_goThrough_57 rfl rfl ?_
      refine gk_X5_1 (pc := 58) dX1_goThrough_58 wF_X1_60 A12 (F1196.f A12 rfl q15) ?_
      refine mr_iload (pc := 61) (z := z1190) dX1_goThrough_61 rfl ?_
      refine mr_iconst (pc := 63) (z := 1) dX1_goThrough_63 ?_
      refine mr_iadd (pc := 64) (x := z1190) (y := 1) dX1_goThrough_64 ?_
      refine la_231 (pc := 65) dX1_goThrough_65 A16 T1195 (lnC q1336 (vc_X1_goThrough_12_16 h1338 h1337 h1193)) fun z1342 q1343 h1344 => ?_
      have B1345 := wfR.bd R1200 (vc_X1_goThrough_12_13 h1193) (vc_X1_goThrough_12_14 h1267 h1268 h1269) ((((mF.call mF.refl F1196 rfl) : mF [21006, 21007, 200004, 200006, 200007, 200008, 201999, 202999] w μ μ1191).f A16 rfl rfl).symm.trans q1340) ((((mF.call mF.refl F1196 rfl) : mF [21006, 21007, 200004, 200006, 200007, 200008, 201999, 202999] w μ μ1191).f A16 rfl rfl).symm.trans q1343)
      have h1346 : 0 ≤ z1339 ∧ 0 ≤ z1342 ∧ z1190 + 2 + 5 * z1339 + 2 * z1342 ≤ n_1335 := ⟨B1345.1.1, B1345.1.2.1, lnLe q1336 B1345.1.2.2⟩
      have h1347 : 0 ≤ z1339 ∧ z1339 ≤ 400 := (vc_X1_goThrough_12_17 h1346 h1338 h1337 h1193 h1341 h1344)
      have h1348 : 0 ≤ z1342 ∧ z1342 ≤ 1000 := (vc_X1_goThrough_12_18 h1346 h1338 h1337 h1193 h1347 h1344)
      refine mr_istore (pc := 66) (lv' := [(7, iv z1342), (6, iv z1339), (0, .ref 21), (2, iv p2), (3, .ref b10), (4, iv z1190), (5, iv z1189)]) dX1_goThrough_66 (by decide) rfl ?_
      refine mr_iload (pc := 68) (z := z1190) dX1_goThrough_68 rfl ?_
      refine mr_iconst (pc := 70) (z := 2) dX1_goThrough_70 ?_
      refine mr_iadd (pc := 71) (x := z1190) (y := 2) dX1_goThrough_71 ?_
      refine mr_iload (pc := 72) (z := z1339) dX1_goThrough_72 rfl ?_
      refine mr_iconst (pc := 74) (z := 5) dX1_goThrough_74 ?_
      refine mr_imul (pc := 75) (x := z1339) (y := 5) dX1_goThrough_75 ?_
      refine mr_iadd (pc := 76) (x := (z1190 + 2)) (y := (z1339 * 5)) dX1_goThrough_76 ?_
      refine mr_istore (pc := 77) (lv' := [(8, iv ((z1190 + 2) + (z1339 * 5))), (7, iv z1342), (6, iv z1339), (0, .ref 21), (2, iv p2), (3, .ref b10), (4, iv z1190), (5, iv z1189)]) dX1_goThrough_77 (by decide) rfl ?_
      refine mr_iconst (pc := 79) (z := 1) dX1_goThrough_79 ?_
      refine mr_istore (pc := 80) (lv' := [(9, iv 1), (8, iv ((z1190 + 2) + (z1339 * 5))), (7, iv z1342), (6, iv z1339), (0, .ref 21), (2, iv p2), (3, .ref b10), (4, iv z1190), (5, iv z1189)]) dX1_goThrough_80 (by decide) rfl ?_
      refine mr_iload (pc := 82) (z := z1190) dX1_goThrough_82 rfl ?_
      refine mr_iconst (pc := 84) (z := 2) dX1_goThrough_84 ?_
      refine mr_iadd (pc := 85) (x := z1190) (y := 2) dX1_goThrough_85 ?_
      refine mr_istore (pc := 86) (lv' := [(10, iv (z1190 + 2)), (9, iv 1), (8, iv ((z1190 + 2) + (z1339 * 5))), (7, iv z1342), (6, iv z1339), (0, .ref 21), (2, iv p2), (3, .ref b10), (4, iv z1190), (5, iv z1189)]) dX1_goThrough_86 (by decide) rfl ?_
      have L1468 : ∀ (nL1468 : Nat) (z1467 z1466 : Int), True → (0 ≤ z1467 ∧ z1467 ≤ 1) → (2 ≤ z1466 ∧ z1466 ≤ 2010) → ((((z1190 + 2) + (z1339 * 5)) - z1466) % 5 = 0) → (2011 - z1466) < (nL1468 : Int) → sV (gG l D c H0 sa) mX1_goThrough (sRm 19 0 0) (sZ (gG l D c H0 sa) 0 0 (qV w [21006, 21007, 200004, 200006, 200007, 200008, 201999, 202999] μ (fun μ1 => True))) 88 [(0, .ref 21), (2, iv p2), (3, .ref b10), (5, iv z1189), (7, iv z1342), (8, iv ((z1190 + 2) + (z1339 * 5))), (9, iv z1467), (10, iv z1466)] [] (mk w μ1191) 0 0 := by
        intro nL1468
        induction nL1468 with
        | zero => intro z1467 z1466 _ h1469 h1470 h1474 h1475; exact ((vc_X1_goThrough_12_19 h1475 h1474 h1338 h1346 h1337 h1193 h1347 h1348 h1470)).elim
        | succ nL1468 ih1476 =>
          intro z1467 z1466 _ h1469 h1470 h1474 h1475
          refine mr_iload (pc := 88) (z := z1466) dX1_goThrough_88 rfl ?_
          refine mr_iload (pc := 90) (z := ((z1190 + 2) + (z1339 * 5))) dX1_goThrough_90 rfl ?_
          have J1492 : sV (gG l D c H0 sa) mX1_goThrough (sRm 19 0 0) (sZ (gG l D c H0 sa) 0 0 (qV w [21006, 21007, 200004, 200006, 200007, 200008, 201999, 202999] μ (fun μ1 => True))) 141 [(0, .ref 21), (2, iv p2), (3, .ref b10), (5, iv z1189), (7, iv z1342), (8, iv ((z1190 + 2) + (z1339 * 5))), (9, iv z1467)] [] (mk w μ1191) 0 0 := by
            refine mr_iload (pc := 141) (z := z1467) dX1_goThrough_141 rfl ?_
            refine mr_if_eq (pc := 143) (tgt := 159) dX1_goThrough_143 (by decide) (r32 h1469 rfl) (fun h1499 => ?_) (fun h1499 => ?_)
            · have h1500 : 0 ≤ z1467 ∧ z1467 ≤ 0 := (vc_X12_ring_22 h1499 h1469)
              refine mr_iload (pc := 159) (z := ((z1190 + 2) + (z1339 * 5))) dX1_goThrough_159 rfl ?_
              refine mr_iload (pc := 161) (z := z1342) dX1_goThrough_161 rfl ?_
              refine mr_iconst (pc := 163) (z := 2) dX1_goThrough_163 ?_
              refine mr_imul (pc := 164) (x := z1342) (y := 2) dX1_goThrough_164 ?_
              refine mr_iadd (pc := 165) (x := ((z1190 + 2) + (z1339 * 5))) (y := (z1342 * 2)) dX1_goThrough_165 ?_
              refine mr_istore (pc := 166) (lv' := [(4, iv (((z1190 + 2) + (z1339 * 5)) + (z1342 * 2))), (0, .ref 21), (2, iv p2), (3, .ref b10), (5, iv z1189), (7, iv z1342), (8, iv ((z1190 + 2) + (z1339 * 5))), (9, iv z1467)]) dX1_goThrough_166 (by decide) rfl ?_
              refine mr_iinc (pc := 168) (lv' := [(5, iv (z1189 + 1)), (4, iv (((z1190 + 2) + (z1339 * 5)) + (z1342 * 2))), (0, .ref 21), (2, iv p2), (3, .ref b10), (7, iv z1342), (8, iv ((z1190 + 2) + (z1339 * 5))), (9, iv z1467)]) dX1_goThrough_168 rfl (by decide) rfl ?_
              refine sv_goto (pc := 171) (tgt := 32) dX1_goThrough_171 (by decide) ?_
              refine mr_lvS (lv' := [(0, .ref 21), (2, iv p2), (3, .ref b10), (4, iv (((z1190 + 2) + (z1339 * 5)) + (z1342 * 2))), (5, iv (z1189 + 1))]) (List.forall_mem_cons.mpr ⟨rfl, List.forall_mem_cons.mpr ⟨rfl, List.forall_mem_cons.mpr ⟨rfl, List.forall_mem_cons.mpr ⟨rfl, List.forall_mem_cons.mpr ⟨rfl, fun _ h => absurd h List.not_mem_nil⟩⟩⟩⟩⟩) ?_
              exact ih1202 (((z1190 + 2) + (z1339 * 5)) + (z1342 * 2)) (z1189 + 1) μ1191 T1195 (mF.call mF.refl F1196 rfl) (vc_X1_goThrough_12_21 h1338 h1346 h1474 h1337 h1193 h1347 h1348 h1470) (rW (c := 0) (d := 30) (rAdd (e := 1) (f := 30) h1268 (rR (x := 1)) rfl) rfl) I1198 I1199 (wfR.cg B1345.2.2 (vc_X1_goThrough_12_23 h1338 h1346 h1474 h1337 h1193 h1347 h1348 h1470)) (vc_X1_goThrough_12_22 (nS h1201) h1338 h1346 h1474 h1337 h1193 h1347 h1348 h1470)
            have h1501 : 1 ≤ z1467 ∧ z1467 ≤ 1 := (vc_X12_ring_24 h1499 h1469)
            refine sv_aload_n (pc := 146) dX1_goThrough_146 rfl rfl ?_
            refine sv_aload_n (pc := 147) dX1_goThrough_147 rfl rfl ?_
            refine gk_X5_1 (pc := 148) dX1_goThrough_148 wF_X1_60 A12 (F1196.f A12 rfl q15) ?_
            refine mr_iload (pc := 151) (z := ((z1190 + 2) + (z1339 * 5))) dX1_goThrough_151 rfl ?_
            refine mr_iload (pc := 153) (z := z1342) dX1_goThrough_153 rfl ?_
            refine mr_iload_n (pc := 155) (z := p2) dX1_goThrough_155 rfl rfl ?_
            refine mr_cVV (pc := 156) (c_X1_doActs_5 hw T1195 A16 (vc_X1_goThrough_12_25 h1338 h1346 h1474 h1337 h1193 h1347 h1348 h1470) h1348 hp2 I1198 I1199 (lnL q1336 (vc_X1_goThrough_12_26 h1338 h1346 h1474 h1337 h1193 h1347 h1348 h1470)) (argC B1345.2.1 (vc_X1_goThrough_12_27 h1338 h1346 h1474 h1337 h1193 h1347 h1348 h1470) (funext fun i => ((mF.call mF.refl F1196 rfl) : mF [21006, 21007, 200004, 200006, 200007, 200008, 201999, 202999] w μ μ1191).f A16 rfl rfl))) (gOk _ _ _ _ _) dX1_goThrough_156 (tX1_doActs _ _ _ _ _) ⟨wV_X1_doActs, wL_X1_doActs⟩ wM_X1_68 (gCX1 _ _ _ _ _) rfl (A_21 hw) rfl ⟨le_t rfl, le_t rfl⟩ ⟨le_t rfl, le_t rfl⟩ rfl (le_t rfl) fun μ1502 T1503 F1504 h1505 => ?_
            refine mr_iload (pc := 159) (z := ((z1190 + 2) + (z1339 * 5))) dX1_goThrough_159 rfl ?_
            refine mr_iload (pc := 161) (z := z1342) dX1_goThrough_161 rfl ?_
            refine mr_iconst (pc := 163) (z := 2) dX1_goThrough_163 ?_
            refine mr_imul (pc := 164) (x := z1342) (y := 2) dX1_goThrough_164 ?_
            refine mr_iadd (pc := 165) (x := ((z1190 + 2) + (z1339 * 5))) (y := (z1342 * 2)) dX1_goThrough_165 ?_
            refine mr_istore (pc := 166) (lv' := [(4, iv (((z1190 + 2) + (z1339 * 5)) + (z1342 * 2))), (0, .ref 21), (2, iv p2), (3, .ref b10), (5, iv z1189), (7, iv z1342), (8, iv ((z1190 + 2) + (z1339 * 5))), (9, iv z1467)]) dX1_goThrough_166 (by decide) rfl ?_
            refine mr_iinc (pc := 168) (lv' := [(5, iv (z1189 + 1)), (4, iv (((z1190 + 2) + (z1339 * 5)) + (z1342 * 2))), (0, .ref 21), (2, iv p2), (3, .ref b10), (7, iv z1342), (8, iv ((z1190 + 2) + (z1339 * 5))), (9, iv z1467)]) dX1_goThrough_168 rfl (by decide) rfl ?_
            refine sv_goto (pc := 171) (tgt := 32) dX1_goThrough_171 (by decide) ?_
            refine mr_lvS (lv' := [(0, .ref 21), (2, iv p2), (3, .ref b10), (4, iv (((z1190 + 2) + (z1339 * 5)) + (z1342 * 2))), (5, iv (z1189 + 1))]) (List.forall_mem_cons.mpr ⟨rfl, List.forall_mem_cons.mpr ⟨rfl, List.forall_mem_cons.mpr ⟨rfl, List.forall_mem_cons.mpr ⟨rfl, List.forall_mem_cons.mpr ⟨rfl, fun _ h => absurd h List.not_mem_nil⟩⟩⟩⟩⟩) ?_
            exact ih1202 (((z1190 + 2) + (z1339 * 5)) + (z1342 * 2)) (z1189 + 1) μ1502 T1503 (mF.call (mF.call mF.refl F1196 rfl) F1504 rfl) (vc_X1_goThrough_12_21 h1338 h1346 h1474 h1337 h1193 h1347 h1348 h1470) (rW (c := 0) (d := 30) (rAdd (e := 1) (f := 30) h1268 (rR (x := 1)) rfl) rfl) (PC.keep I1198 hw ((mF.call mF.refl F1504 rfl) : mF [21006, 21007, 200004, 200006, 200007, 200008, 201999, 202999] w μ1191 μ1502) rfl) (RT.keep I1199 hw ((mF.call mF.refl F1504 rfl) : mF [21006, 21007, 200004, 200006, 200007, 200008, 201999, 202999] w μ1191 μ1502) rfl) (wfR.cg B1345.2.2 (vc_X1_goThrough_12_23 h1338 h1346 h1474 h1337 h1193 h1347 h1348 h1470)) (vc_X1_goThrough_12_22 (nS h1201) h1338 h1346 h1474 h1337 h1193 h1347 h1348 h1470)
          refine mr_icmp_ge (pc := 92) (tgt := 141) dX1_goThrough_92 (by decide) (r32 h1470 rfl) (r32 (rAdd (e := 2) (f := 4002) (rAdd (e := 2) (f := 2002) h1193 (rR (x := 2)) rfl) (rMulR (n := 5) (e := 0) (f := 2000) h1347 rfl) rfl) rfl) (fun h1506 => ?_) (fun h1506 => ?_)
          · refine mr_lvS (lv' := [(0, .ref 21), (2, iv p2), (3, .ref b10), (5, iv z1189), (7, iv z1342), (8, iv ((z1190 + 2) + (z1339 * 5))), (9, iv z1467)]) (List.forall_mem_cons.mpr ⟨rfl, List.forall_mem_cons.mpr ⟨rfl, List.forall_mem_cons.mpr ⟨rfl, List.forall_mem_cons.mpr ⟨rfl, List.forall_mem_cons.mpr ⟨rfl, List.forall_mem_cons.mpr ⟨rfl, List.forall_mem_cons.mpr ⟨rfl, fun _ h => absurd h List.not_mem_nil⟩⟩⟩⟩⟩⟩⟩) ?_
            exact J1492 
          refine mr_iload (pc := 95) (z := z1467) dX1_goThrough_95 rfl ?_
          refine mr_if_eq (pc := 97) (tgt := 141) dX1_goThrough_97 (by decide) (r32 h1469 rfl) (fun h1507 => ?_) (fun h1507 => ?_)
          · have h1508 : 0 ≤ z1467 ∧ z1467 ≤ 0 := (vc_X12_ring_22 h1507 h1469)
            refine mr_lvS (lv' := [(0, .ref 21), (2, iv p2), (3, .ref b10), (5, iv z1189), (7, iv z1342), (8, iv ((z1190 + 2) + (z1339 * 5))), (9, iv z1467)]) (List.forall_mem_cons.mpr ⟨rfl, List.forall_mem_cons.mpr ⟨rfl, List.forall_mem_cons.mpr ⟨rfl, List.forall_mem_cons.mpr ⟨rfl, List.forall_mem_cons.mpr ⟨rfl, List.forall_mem_cons.mpr ⟨rfl, List.forall_mem_cons.mpr ⟨rfl, fun _ h => absurd h List.not_mem_nil⟩⟩⟩⟩⟩⟩⟩) ?_
            exact J1492 
          have h1509 : 1 ≤ z1467 ∧ z1467 ≤ 1 := (vc_X12_ring_24 h1507 h1469)
          refine sv_aload_n (pc := 100) dX1_goThrough_100 rfl rfl ?_
          refine sv_aload_n (pc := 101) dX1_goThrough_101 rfl rfl ?_
          refine mr_iload (pc := 102) (z := z1466) dX1_goThrough_102 rfl ?_
          refine mr_cVP (pc := 104) (c_X1_isSo hw T1195 A12 (vc_X1_goThrough_12_28 h1474 h1506 h1338 h1346 h1337 h1193 h1347 h1348 h1470) I1199 (lnF (F1196.f A12 rfl q15) q1336 (vc_X1_goThrough_12_29 h1338 h1346 h1474 h1506 h1337 h1193 h1347 h1348 h1470)) (by rw [((mF.call mF.refl F1196 rfl) : mF [21006, 21007, 200004, 200006, 200007, 200008, 201999, 202999] w μ μ1191).f (k := 2) A12 rfl rfl, ((mF.call mF.refl F1196 rfl) : mF [21006, 21007, 200004, 200006, 200007, 200008, 201999, 202999] w μ μ1191).f (k := 3) A12 rfl rfl]; exact e19) (by rw [((mF.call mF.refl F1196 rfl) : mF [21006, 21007, 200004, 200006, 200007, 200008, 201999, 202999] w μ μ1191).f (k := 4) A12 rfl rfl, ((mF.call mF.refl F1196 rfl) : mF [21006, 21007, 200004, 200006, 200007, 200008, 201999, 202999] w μ μ1191).f (k := 5) A12 rfl rfl]; exact e20)) (gOk _ _ _ _ _) dX1_goThrough_104 (tX1_isSo _ _ _ _ _) ⟨wV_X1_isSo, wL_X1_isSo⟩ wM_X1_64 (gCX1 _ _ _ _ _) rfl (A_21 hw) rfl ⟨le_t rfl, le_t rfl⟩ ⟨le_t rfl, le_t rfl⟩ rfl (le_t rfl) fun z1514 h1513 => ?_
          refine sv_aload_n (pc := 107) dX1_goThrough_107 rfl rfl ?_
          refine gk_X5_1 (pc := 108) dX1_goThrough_108 wF_X1_60 A12 (F1196.f A12 rfl q15) ?_
          refine mr_iload (pc := 111) (z := z1466) dX1_goThrough_111 rfl ?_
          refine mr_iconst (pc := 113) (z := 1) dX1_goThrough_113 ?_
          refine mr_iadd (pc := 114) (x := z1466) (y := 1) dX1_goThrough_114 ?_
          refine la_231 (pc := 115) dX1_goThrough_115 A16 T1195 (lnC q1336 (vc_X1_goThrough_12_30 h1338 h1346 h1474 h1506 h1337 h1193 h1347 h1348 h1470)) fun z1515 q1516 h1517 => ?_
          refine mr_iconst (pc := 116) (z := 1) dX1_goThrough_116 ?_
          refine mr_icmp_ne (pc := 117) (tgt := 124) dX1_goThrough_117 (by decide) h1517 (r32 (rR (x := 1)) rfl) (fun h1519 => ?_) (fun h1519 => ?_)
          · refine mr_iconst (pc := 124) (z := 0) dX1_goThrough_124 ?_
            refine mr_icmp_eq (pc := 125) (tgt := 132) dX1_goThrough_125 (by decide) (r32 h1513.1 rfl) (r32 (rR (x := 0)) rfl) (fun h1522 => ?_) (fun h1522 => ?_)
            · have h1523 : 0 ≤ z1514 ∧ z1514 ≤ 0 := (vc_X12_ring_22 h1522 h1513.1)
              refine mr_iconst (pc := 132) (z := 0) dX1_goThrough_132 ?_
              refine mr_istore (pc := 133) (lv' := [(9, iv 0), (0, .ref 21), (2, iv p2), (3, .ref b10), (5, iv z1189), (7, iv z1342), (8, iv ((z1190 + 2) + (z1339 * 5))), (10, iv z1466)]) dX1_goThrough_133 (by decide) rfl ?_
              refine mr_iinc (pc := 135) (lv' := [(10, iv (z1466 + 5)), (9, iv 0), (0, .ref 21), (2, iv p2), (3, .ref b10), (5, iv z1189), (7, iv z1342), (8, iv ((z1190 + 2) + (z1339 * 5)))]) dX1_goThrough_135 rfl (by decide) rfl ?_
              refine sv_goto (pc := 138) (tgt := 88) dX1_goThrough_138 (by decide) ?_
              refine mr_lvS (lv' := [(0, .ref 21), (2, iv p2), (3, .ref b10), (5, iv z1189), (7, iv z1342), (8, iv ((z1190 + 2) + (z1339 * 5))), (9, iv 0), (10, iv (z1466 + 5))]) (List.forall_mem_cons.mpr ⟨rfl, List.forall_mem_cons.mpr ⟨rfl, List.forall_mem_cons.mpr ⟨rfl, List.forall_mem_cons.mpr ⟨rfl, List.forall_mem_cons.mpr ⟨rfl, List.forall_mem_cons.mpr ⟨rfl, List.forall_mem_cons.mpr ⟨rfl, List.forall_mem_cons.mpr ⟨rfl, fun _ h => absurd h List.not_mem_nil⟩⟩⟩⟩⟩⟩⟩⟩) ?_
              exact ih1476 0 (z1466 + 5) trivial (rW (c := 0) (d := 1) (rR (x := 0)) rfl) (vc_X1_goThrough_12_32 h1474 h1506 h1338 h1346 h1337 h1193 h1347 h1348 h1470) (vc_X1_goThrough_12_33 h1338 h1346 h1474 h1506 h1337 h1193 h1347 h1348 h1470) (vc_X1_goThrough_12_34 (nS h1475) h1474 h1506 h1338 h1346 h1337 h1193 h1347 h1348 h1470)
            have h1524 : 1 ≤ z1514 ∧ z1514 ≤ 1 := (vc_X12_ring_24 h1522 h1513.1)
            refine mr_iconst (pc := 128) (z := 1) dX1_goThrough_128 ?_
            refine sv_goto (pc := 129) (tgt := 133) dX1_goThrough_129 (by decide) ?_
            refine mr_istore (pc := 133) (lv' := [(9, iv 1), (0, .ref 21), (2, iv p2), (3, .ref b10), (5, iv z1189), (7, iv z1342), (8, iv ((z1190 + 2) + (z1339 * 5))), (10, iv z1466)]) dX1_goThrough_133 (by decide) rfl ?_
            refine mr_iinc (pc := 135) (lv' := [(10, iv (z1466 + 5)), (9, iv 1), (0, .ref 21), (2, iv p2), (3, .ref b10), (5, iv z1189), (7, iv z1342), (8, iv ((z1190 + 2) + (z1339 * 5)))]) dX1_goThrough_135 rfl (by decide) rfl ?_
            refine sv_goto (pc := 138) (tgt := 88) dX1_goThrough_138 (by decide) ?_
            refine mr_lvS (lv' := [(0, .ref 21), (2, iv p2), (3, .ref b10), (5, iv z1189), (7, iv z1342), (8, iv ((z1190 + 2) + (z1339 * 5))), (9, iv 1), (10, iv (z1466 + 5))]) (List.forall_mem_cons.mpr ⟨rfl, List.forall_mem_cons.mpr ⟨rfl, List.forall_mem_cons.mpr ⟨rfl, List.forall_mem_cons.mpr ⟨rfl, List.forall_mem_cons.mpr ⟨rfl, List.forall_mem_cons.mpr ⟨rfl, List.forall_mem_cons.mpr ⟨rfl, List.forall_mem_cons.mpr ⟨rfl, fun _ h => absurd h List.not_mem_nil⟩⟩⟩⟩⟩⟩⟩⟩) ?_
            exact ih1476 1 (z1466 + 5) trivial (rW (c := 0) (d := 1) (rR (x := 1)) rfl) (vc_X1_goThrough_12_32 h1474 h1506 h1338 h1346 h1337 h1193 h1347 h1348 h1470) (vc_X1_goThrough_12_33 h1338 h1346 h1474 h1506 h1337 h1193 h1347 h1348 h1470) (vc_X1_goThrough_12_34 (nS h1475) h1474 h1506 h1338 h1346 h1337 h1193 h1347 h1348 h1470)
          have h1525 : 1 ≤ z1515 ∧ z1515 ≤ 1 := (vc_X0_compareAt_1 h1519 h1517)
          refine mr_iconst (pc := 120) (z := 1) dX1_goThrough_120 ?_
          refine sv_goto (pc := 121) (tgt := 125) dX1_goThrough_121 (by decide) ?_
          refine mr_icmp_eq (pc := 125) (tgt := 132) dX1_goThrough_125 (by decide) (r32 h1513.1 rfl) (r32 (rR (x := 1)) rfl) (fun h1528 => ?_) (fun h1528 => ?_)
          · have h1529 : 1 ≤ z1514 ∧ z1514 ≤ 1 := (vc_X1_goThrough_12_37 h1528 h1513.1)
            refine mr_iconst (pc := 132) (z := 0) dX1_goThrough_132 ?_
            refine mr_istore (pc := 133) (lv' := [(9, iv 0), (0, .ref 21), (2, iv p2), (3, .ref b10), (5, iv z1189), (7, iv z1342), (8, iv ((z1190 + 2) + (z1339 * 5))), (10, iv z1466)]) dX1_goThrough_133 (by decide) rfl ?_
            refine mr_iinc (pc := 135) (lv' := [(10, iv (z1466 + 5)), (9, iv 0), (0, .ref 21), (2, iv p2), (3, .ref b10), (5, iv z1189), (7, iv z1342), (8, iv ((z1190 + 2) + (z1339 * 5)))]) dX1_goThrough_135 rfl (by decide) rfl ?_
            refine sv_goto (pc := 138) (tgt := 88) dX1_goThrough_138 (by decide) ?_
            refine mr_lvS (lv' := [(0, .ref 21), (2, iv p2), (3, .ref b10), (5, iv z1189), (7, iv z1342), (8, iv ((z1190 + 2) + (z1339 * 5))), (9, iv 0), (10, iv (z1466 + 5))]) (List.forall_mem_cons.mpr ⟨rfl, List.forall_mem_cons.mpr ⟨rfl, List.forall_mem_cons.mpr ⟨rfl, List.forall_mem_cons.mpr ⟨rfl, List.forall_mem_cons.mpr ⟨rfl, List.forall_mem_cons.mpr ⟨rfl, List.forall_mem_cons.mpr ⟨rfl, List.forall_mem_cons.mpr ⟨rfl, fun _ h => absurd h List.not_mem_nil⟩⟩⟩⟩⟩⟩⟩⟩) ?_
            exact ih1476 0 (z1466 + 5) trivial (rW (c := 0) (d := 1) (rR (x := 0)) rfl) (vc_X1_goThrough_12_32 h1474 h1506 h1338 h1346 h1337 h1193 h1347 h1348 h1470) (vc_X1_goThrough_12_33 h1338 h1346 h1474 h1506 h1337 h1193 h1347 h1348 h1470) (vc_X1_goThrough_12_34 (nS h1475) h1474 h1506 h1338 h1346 h1337 h1193 h1347 h1348 h1470)
          have h1530 : 0 ≤ z1514 ∧ z1514 ≤ 0 := (vc_X1_goThrough_12_38 h1528 h1513.1)
          refine mr_iconst (pc := 128) (z := 1) dX1_goThrough_128 ?_
          refine sv_goto (pc := 129) (tgt := 133) dX1_goThrough_129 (by decide) ?_
          refine mr_istore (pc := 133) (lv' := [(9, iv 1), (0, .ref 21), (2, iv p2), (3, .ref b10), (5, iv z1189), (7, iv z1342), (8, iv ((z1190 + 2) + (z1339 * 5))), (10, iv z1466)]) dX1_goThrough_133 (by decide) rfl ?_
          refine mr_iinc (pc := 135) (lv' := [(10, iv (z1466 + 5)), (9, iv 1), (0, .ref 21), (2, iv p2), (3, .ref b10), (5, iv z1189), (7, iv z1342), (8, iv ((z1190 + 2) + (z1339 * 5)))]) dX1_goThrough_135 rfl (by decide) rfl ?_
          refine sv_goto (pc := 138) (tgt := 88) dX1_goThrough_138 (by decide) ?_
          refine mr_lvS (lv' := [(0, .ref 21), (2, iv p2), (3, .ref b10), (5, iv z1189), (7, iv z1342), (8, iv ((z1190 + 2) + (z1339 * 5))), (9, iv 1), (10, iv (z1466 + 5))]) (List.forall_mem_cons.mpr ⟨rfl, List.forall_mem_cons.mpr ⟨rfl, List.forall_mem_cons.mpr ⟨rfl, List.forall_mem_cons.mpr ⟨rfl, List.forall_mem_cons.mpr ⟨rfl, List.forall_mem_cons.mpr ⟨rfl, List.forall_mem_cons.mpr ⟨rfl, List.forall_mem_cons.mpr ⟨rfl, fun _ h => absurd h List.not_mem_nil⟩⟩⟩⟩⟩⟩⟩⟩) ?_
          exact ih1476 1 (z1466 + 5) trivial (rW (c := 0) (d := 1) (rR (x := 1)) rfl) (vc_X1_goThrough_12_32 h1474 h1506 h1338 h1346 h1337 h1193 h1347 h1348 h1470) (vc_X1_goThrough_12_33 h1338 h1346 h1474 h1506 h1337 h1193 h1347 h1348 h1470) (vc_X1_goThrough_12_34 (nS h1475) h1474 h1506 h1338 h1346 h1337 h1193 h1347 h1348 h1470)
      refine mr_lvS (lv' := [(0, .ref 21), (2, iv p2), (3, .ref b10), (5, iv z1189), (7, iv z1342), (8, iv ((z1190 + 2) + (z1339 * 5))), (9, iv 1), (10, iv (z1190 + 2))]) (List.forall_mem_cons.mpr ⟨rfl, List.forall_mem_cons.mpr ⟨rfl, List.forall_mem_cons.mpr ⟨rfl, List.forall_mem_cons.mpr ⟨rfl, List.forall_mem_cons.mpr ⟨rfl, List.forall_mem_cons.mpr ⟨rfl, List.forall_mem_cons.mpr ⟨rfl, List.forall_mem_cons.mpr ⟨rfl, fun _ h => absurd h List.not_mem_nil⟩⟩⟩⟩⟩⟩⟩⟩) ?_
      exact L1468 2010 1 (z1190 + 2) trivial (rW (c := 0) (d := 1) (rR (x := 1)) rfl) (rW (c := 2) (d := 2010) (rAdd (e := 2) (f := 2002) h1193 (rR (x := 2)) rfl) rfl) (vc_X1_goThrough_12_39 h1338 h1346 h1337 h1193 h1347 h1348) (vc_X1_goThrough_12_40 h1338 h1346 h1337 h1193 h1347 h1348)
  refine mr_lvS (lv' := [(0, .ref 21), (2, iv p2), (3, .ref b10), (4, iv 0), (5, iv 0)]) (List.forall_mem_cons.mpr ⟨rfl, List.forall_mem_cons.mpr ⟨rfl, List.forall_mem_cons.mpr ⟨rfl, List.forall_mem_cons.mpr ⟨rfl, List.forall_mem_cons.mpr ⟨rfl, fun _ h => absurd h List.not_mem_nil⟩⟩⟩⟩⟩) ?_
  exact L1192 2002 0 0 μ hT mF.refl (rW (c := 0) (d := 2000) (rR (x := 0)) rfl) (rW (c := 0) (d := 30) (rR (x := 0)) rfl) hIPC hIRT R18 vc_X1_goThrough_12_41
end
section
set_option maxRecDepth 4000 in
set_option maxHeartbeats 4000000 in
theorem c_X1_doActs_4 {l : Launch} {D : va_G} {c : Nat → ClassId} {H0 : Heap} {sa : Nat × Nat × (Nat → Int32)} {w : mW} {μ : mM} (hw : mWF w) (hT : mT w μ) {a1 : Nat} (hA1 : mAt w a1 231) {p2 : Int} (hp2 : 0 ≤ p2 ∧ p2 ≤ 2000) {p3 : Int} (hp3 : 0 ≤ p3 ∧ p3 ≤ 1000) {p4 : Int} (hp4 : 4 ≤ p4 ∧ p4 ≤ 4) (hIPC : PC w μ) (hIRT : RT μ) (hlen : p2 + 2 * p3 ≤ (w.2.2.1 a1 : Int)) (harg : ∀ i : Int, 0 ≤ i → i < p3 → 0 ≤ μ a1 (p2 + 2 * i + 1).toNat ∧ μ a1 (p2 + 2 * i + 1).toNat ≤ 1000000) : sC (gG l D c H0 sa) mX1_doActs 20 0 0 [.ref 21, .ref a1, iv p2, iv p3, iv p4] (mk w μ) (qV w [21006, 21007, 200004, 200006, 200007, 200008, 201999, 202999] μ (fun μ1 => True)) := by
  refine sC.of rfl (by decide) (le_t rfl) ?_
  refine mr_lvE (lv' := [(0, .ref 21), (1, .ref a1), (2, iv p2), (3, iv p3), (4, iv p4)]) rfl ?_
  obtain ⟨n_1, q2⟩ : ∃ n : Int, (w.2.2.1 a1 : Int) = n := ⟨_, rfl⟩
  have h3 : 0 ≤ n_1 ∧ n_1 ≤ 2000 := lnR (m := 2000) q2 hA1 rfl
  have h4 : p2 + 2 * p3 ≤ n_1 := lnLe q2 hlen
  refine mr_iconst (pc := 0) (z := 0) dX1_doActs_0 ?_
  refine mr_istore (pc := 1) (lv' := [(5, iv 0), (0, .ref 21), (1, .ref a1), (2, iv p2), (3, iv p3), (4, iv p4)]) dX1_doActs_1 (by decide) rfl ?_
  have L1991 : ∀ (nL1991 : Nat) (z1989 : Int) (μ1990 : mM), mT w μ1990 → mF [21006, 21007, 200004, 200006, 200007, 200008, 201999, 202999] w μ μ1990 → (0 ≤ z1989 ∧ z1989 ≤ 1000) → PC w μ1990 → RT μ1990 → (1001 - z1989) < (nL1991 : Int) → sV (gG l D c H0 sa) mX1_doActs (sRm 20 0 0) (sZ (gG l D c H0 sa) 0 0 (qV w [21006, 21007, 200004, 200006, 200007, 200008, 201999, 202999] μ (fun μ1 => True))) 3 [(0, .ref 21), (1, .ref a1), (2, iv p2), (3, iv p3), (4, iv p4), (5, iv z1989)] [] (mk w μ1990) 0 0 := by
    intro nL1991
    induction nL1991 with
    | zero => intro z1989 μ1990 T1993 F1994 h1992 I1996 I1997 h1998; exact ((vc_X1_doActs_12_1 h1998 h1992)).elim
    | succ nL1991 ih1999 =>
      intro z1989 μ1990 T1993 F1994 h1992 I1996 I1997 h1998
      refine mr_iload (pc := 3) (z := z1989) dX1_doActs_3 rfl ?_
      refine mr_iload_n (pc := 5) (z := p3) dX1_doActs_5 rfl rfl ?_
      refine mr_icmp_ge (pc := 6) (tgt := 266) dX1_doActs_6 (by decide) (r32 h1992 rfl) (r32 hp3 rfl) (fun h2000 => ?_) (fun h2000 => ?_)
      · exact mr_vret dX1_doActs_266 rfl (le_t rfl) (le_t rfl) T1993 (mF.call mF.refl F1994 rfl) trivial
      have h2001 : 0 ≤ z1989 ∧ z1989 ≤ 999 := (vc_X1_doActs_12_2 h2000 h4 h3 hp2 hp3 h1992)
      have h2002 : 1 ≤ p3 ∧ p3 ≤ 1000 := (vc_X1_doActs_12_3 h2000 h4 h3 hp2 hp3 h2001)
      refine sv_aload_n (pc := 9) dX1_doActs_9 rfl rfl ?_
      refine gf_X1_7 (pc := 10) dX1_doActs_10 wF_X1_50 (A_21 hw) T1993 fun z2003 q2004 h2005 => ?_
      refine mr_if_ne (pc := 13) (tgt := 266) dX1_doActs_13 (by decide) (r32 h2005 rfl) (fun h2006 => ?_) (fun h2006 => ?_)
      · have h2007 : 1 ≤ z2003 ∧ z2003 ≤ 2 := (vc_X12_provides_3 h2006 h2005)
        exact mr_vret dX1_doActs_266 rfl (le_t rfl) (le_t rfl) T1993 (mF.call mF.refl F1994 rfl) trivial
      have h2008 : 0 ≤ z2003 ∧ z2003 ≤ 0 := (vc_X12_provides_4 h2006 h2005)
      refine sv_aload_n (pc := 16) dX1_doActs_16 rfl rfl ?_
      refine mr_iload_n (pc := 17) (z := p2) dX1_doActs_17 rfl rfl ?_
      refine mr_iload (pc := 18) (z := z1989) dX1_doActs_18 rfl ?_
      refine mr_iconst (pc := 20) (z := 2) dX1_doActs_20 ?_
      refine mr_imul (pc := 21) (x := z1989) (y := 2) dX1_doActs_21 ?_
      refine mr_iadd (pc := 22) (x := p2) (y := (z1989 * 2)) dX1_doActs_22 ?_
      refine mr_iconst (pc := 23) (z := 1) dX1_doActs_23 ?_
      refine mr_iadd (pc := 24) (x := (p2 + (z1989 * 2))) (y := 1) dX1_doActs_24 ?_
      refine la_231 (pc := 25) dX1_doActs_25 hA1 T1993 (lnC q2 (vc_X1_doActs_12_6 h4 h2000 h3 hp2 h2002 h2001)) fun z2009 q2010 h2011 => ?_
      have h2012 : 0 ≤ z2009 ∧ z2009 ≤ 1000000 := argB harg (vc_X1_doActs_12_7 h2000 h4 h3 hp2 h2002 h2001) (vc_X1_doActs_12_8 h4 h2000 h3 hp2 h2002 h2001) (vc_X1_doActs_12_9 h4 h2000 h3 hp2 h2002 h2001) (((mF.call mF.refl F1994 rfl) : mF [21006, 21007, 200004, 200006, 200007, 200008, 201999, 202999] w μ μ1990).f hA1 rfl rfl) q2010
      refine mr_istore (pc := 26) (lv' := [(6, iv z2009), (0, .ref 21), (1, .ref a1), (2, iv p2), (3, iv p3), (4, iv p4), (5, iv z1989)]) dX1_doActs_26 (by decide) rfl ?_
      refine sv_aload_n (pc := 28) dX1_doActs_28 rfl rfl ?_
      refine gf_X1_6 (pc := 29) dX1_doActs_29 wF_X1_47 (A_21 hw) T1993 fun z2013 q2014 h2015 => ?_
      refine mr_sipush (pc := 32) (z := 500) dX1_doActs_32 (by decide) ?_
      refine mr_icmp_lt (pc := 35) (tgt := 44) dX1_doActs_35 (by decide) (r32 h2015 rfl) (r32 (rR (x := 500)) rfl) (fun h2016 => ?_) (fun h2016 => ?_)
      · have h2017 : 0 ≤ z2013 ∧ z2013 ≤ 499 := (vc_X1_doActs_12_10 h2016 h2015)
        refine sv_aload_n (pc := 44) dX1_doActs_44 rfl rfl ?_
        refine sv_dup (pc := 45) dX1_doActs_45 rfl ?_
        refine gk_X1_6 (pc := 46) dX1_doActs_46 wF_X1_47 (A_21 hw) q2014 ?_
        refine mr_iconst (pc := 49) (z := 1) dX1_doActs_49 ?_
        refine mr_iadd (pc := 50) (x := z2013) (y := 1) dX1_doActs_50 ?_
        refine pf_X1_6 (pc := 51) dX1_doActs_51 wF_X1_47 (A_21 hw) T1993 (rW (c := 0) (d := 500) (rAdd (e := 1) (f := 500) h2017 (rR (x := 1)) rfl) rfl) fun μ2018 u2019 T2020 => ?_
        refine sv_aload_n (pc := 54) dX1_doActs_54 rfl rfl ?_
        refine mr_iload_n (pc := 55) (z := p2) dX1_doActs_55 rfl rfl ?_
        refine mr_iload (pc := 56) (z := z1989) dX1_doActs_56 rfl ?_
        refine mr_iconst (pc := 58) (z := 2) dX1_doActs_58 ?_
        refine mr_imul (pc := 59) (x := z1989) (y := 2) dX1_doActs_59 ?_
        refine mr_iadd (pc := 60) (x := p2) (y := (z1989 * 2)) dX1_doActs_60 ?_
        refine la_231 (pc := 61) dX1_doActs_61 hA1 T2020 (lnC q2 (vc_X1_doActs_12_11 h4 h2000 h3 hp2 h2002 h2001)) fun z2021 q2022 h2023 => ?_
        by_cases h2024 : z2021 = 12
        · refine mr_tableIn (pc := 62) (v := 12) (tgt := 184) dX1_doActs_62 h2024 rfl rfl (by decide) ?_
          have h2025 : 12 ≤ z2021 ∧ z2021 ≤ 12 := (vc_X1_doActs_12_12 h2024 h2023)
          refine sv_aload_n (pc := 184) dX1_doActs_184 rfl rfl ?_
          refine gf_X1_2 (pc := 185) dX1_doActs_185 wF_X1_25 (A_21 hw) T2020 (RT.keep I1997 hw ((mF.up mF.refl (A_21 hw) u2019 rfl) : mF [21006] w μ1990 μ2018) rfl) fun b2026 q2027 A2028 => ?_
          refine mr_iload (pc := 188) (z := z2009) dX1_doActs_188 rfl ?_
          refine pf_X7_4 (pc := 190) dX1_doActs_190 wF_X1_105 A2028 T2020 (rW (c := (-2147483648)) (d := 2147483647) h2012 rfl) fun μ2029 u2030 T2031 => ?_
          refine sv_goto (pc := 193) (tgt := 260) dX1_doActs_193 (by decide) ?_
          refine mr_iinc (pc := 260) (lv' := [(5, iv (z1989 + 1)), (6, iv z2009), (0, .ref 21), (1, .ref a1), (2, iv p2), (3, iv p3), (4, iv p4)]) dX1_doActs_260 rfl (by decide) rfl ?_
          refine sv_goto (pc := 263) (tgt := 3) dX1_doActs_263 (by decide) ?_
          refine mr_lvS (lv' := [(0, .ref 21), (1, .ref a1), (2, iv p2), (3, iv p3), (4, iv p4), (5, iv (z1989 + 1))]) (List.forall_mem_cons.mpr ⟨rfl, List.forall_mem_cons.mpr ⟨rfl, List.forall_mem_cons.mpr ⟨rfl, List.forall_mem_cons.mpr ⟨rfl, List.forall_mem_cons.mpr ⟨rfl, List.forall_mem_cons.mpr ⟨rfl, fun _ h => absurd h List.not_mem_nil⟩⟩⟩⟩⟩⟩) ?_
          exact ih1999 (z1989 + 1) μ2029 T2031 (mF.up (mF.up (mF.call mF.refl F1994 rfl) (A_21 hw) u2019 rfl) A2028 u2030 rfl) (rW (c := 0) (d := 1000) (rAdd (e := 1) (f := 1000) h2001 (rR (x := 1)) rfl) rfl) (PC.keep I1996 hw ((mF.up (mF.up mF.refl (A_21 hw) u2019 rfl) A2028 u2030 rfl) : mF [21006, 200004] w μ1990 μ2029) rfl) (RT.keep I1997 hw ((mF.up (mF.up mF.refl (A_21 hw) u2019 rfl) A2028 u2030 rfl) : mF [21006, 200004] w μ1990 μ2029) rfl) (vc_X1_doActs_12_13 (nS h1998) h2000 h4 h3 hp2 h2002 h2001)
        by_cases h2032 : z2021 = 13
        · refine mr_tableIn (pc := 62) (v := 13) (tgt := 196) dX1_doActs_62 h2032 rfl rfl (by decide) ?_
          have h2033 : 13 ≤ z2021 ∧ z2021 ≤ 13 := (vc_X1_doActs_12_14 h2032 h2024 h2023)
          refine sv_aload_n (pc := 196) dX1_doActs_196 rfl rfl ?_
          refine gf_X1_2 (pc := 197) dX1_doActs_197 wF_X1_25 (A_21 hw) T2020 (RT.keep I1997 hw ((mF.up mF.refl (A_21 hw) u2019 rfl) : mF [21006] w μ1990 μ2018) rfl) fun b2034 q2035 A2036 => ?_
          refine mr_iload (pc := 200) (z := z2009) dX1_doActs_200 rfl ?_
          refine pf_X7_6 (pc := 202) dX1_doActs_202 wF_X1_108 A2036 T2020 (rW (c := (-2147483648)) (d := 2147483647) h2012 rfl) fun μ2037 u2038 T2039 => ?_
          refine sv_goto (pc := 205) (tgt := 260) dX1_doActs_205 (by decide) ?_
          refine mr_iinc (pc := 260) (lv' := [(5, iv (z1989 + 1)), (6, iv z2009), (0, .ref 21), (1, .ref a1), (2, iv p2), (3, iv p3), (4, iv p4)]) dX1_doActs_260 rfl (by decide) rfl ?_
          refine sv_goto (pc := 263) (tgt := 3) dX1_doActs_263 (by decide) ?_
          refine mr_lvS (lv' := [(0, .ref 21), (1, .ref a1), (2, iv p2), (3, iv p3), (4, iv p4), (5, iv (z1989 + 1))]) (List.forall_mem_cons.mpr ⟨rfl, List.forall_mem_cons.mpr ⟨rfl, List.forall_mem_cons.mpr ⟨rfl, List.forall_mem_cons.mpr ⟨rfl, List.forall_mem_cons.mpr ⟨rfl, List.forall_mem_cons.mpr ⟨rfl, fun _ h => absurd h List.not_mem_nil⟩⟩⟩⟩⟩⟩) ?_
          exact ih1999 (z1989 + 1) μ2037 T2039 (mF.up (mF.up (mF.call mF.refl F1994 rfl) (A_21 hw) u2019 rfl) A2036 u2038 rfl) (rW (c := 0) (d := 1000) (rAdd (e := 1) (f := 1000) h2001 (rR (x := 1)) rfl) rfl) (PC.keep I1996 hw ((mF.up (mF.up mF.refl (A_21 hw) u2019 rfl) A2036 u2038 rfl) : mF [21006, 200006] w μ1990 μ2037) rfl) (RT.keep I1997 hw ((mF.up (mF.up mF.refl (A_21 hw) u2019 rfl) A2036 u2038 rfl) : mF [21006, 200006] w μ1990 μ2037) rfl) (vc_X1_doActs_12_13 (nS h1998) h2000 h4 h3 hp2 h2002 h2001)
        by_cases h2040 : z2021 = 14
        · refine mr_tableIn (pc := 62) (v := 14) (tgt := 260) dX1_doActs_62 h2040 rfl rfl (by decide) ?_
          have h2041 : 14 ≤ z2021 ∧ z2021 ≤ 14 := (vc_X1_doActs_12_15 h2040 h2024 h2032 h2023)
          refine mr_iinc (pc := 260) (lv' := [(5, iv (z1989 + 1)), (6, iv z2009), (0, .ref 21), (1, .ref a1), (2, iv p2), (3, iv p3), (4, iv p4)]) dX1_doActs_260 rfl (by decide) rfl ?_
          refine sv_goto (pc := 263) (tgt := 3) dX1_doActs_263 (by decide) ?_
          refine mr_lvS (lv' := [(0, .ref 21), (1, .ref a1), (2, iv p2), (3, iv p3), (4, iv p4), (5, iv (z1989 + 1))]) (List.forall_mem_cons.mpr ⟨rfl, List.forall_mem_cons.mpr ⟨rfl, List.forall_mem_cons.mpr ⟨rfl, List.forall_mem_cons.mpr ⟨rfl, List.forall_mem_cons.mpr ⟨rfl, List.forall_mem_cons.mpr ⟨rfl, fun _ h => absurd h List.not_mem_nil⟩⟩⟩⟩⟩⟩) ?_
          exact ih1999 (z1989 + 1) μ2018 T2020 (mF.up (mF.call mF.refl F1994 rfl) (A_21 hw) u2019 rfl) (rW (c := 0) (d := 1000) (rAdd (e := 1) (f := 1000) h2001 (rR (x := 1)) rfl) rfl) (PC.keep I1996 hw ((mF.up mF.refl (A_21 hw) u2019 rfl) : mF [21006] w μ1990 μ2018) rfl) (RT.keep I1997 hw ((mF.up mF.refl (A_21 hw) u2019 rfl) : mF [21006] w μ1990 μ2018) rfl) (vc_X1_doActs_12_13 (nS h1998) h2000 h4 h3 hp2 h2002 h2001)
        by_cases h2042 : z2021 = 15
        · refine mr_tableIn (pc := 62) (v := 15) (tgt := 260) dX1_doActs_62 h2042 rfl rfl (by decide) ?_
          have h2043 : 15 ≤ z2021 ∧ z2021 ≤ 15 := (vc_X1_doActs_12_16 h2042 h2024 h2032 h2040 h2023)
          refine mr_iinc (pc := 260) (lv' := [(5, iv (z1989 + 1)), (6, iv z2009), (0, .ref 21), (1, .ref a1), (2, iv p2), (3, iv p3), (4, iv p4)]) dX1_doActs_260 rfl (by decide) rfl ?_
          refine sv_goto (pc := 263) (tgt := 3) dX1_doActs_263 (by decide) ?_
          refine mr_lvS (lv' := [(0, .ref 21), (1, .ref a1), (2, iv p2), (3, iv p3), (4, iv p4), (5, iv (z1989 + 1))]) (List.forall_mem_cons.mpr ⟨rfl, List.forall_mem_cons.mpr ⟨rfl, List.forall_mem_cons.mpr ⟨rfl, List.forall_mem_cons.mpr ⟨rfl, List.forall_mem_cons.mpr ⟨rfl, List.forall_mem_cons.mpr ⟨rfl, fun _ h => absurd h List.not_mem_nil⟩⟩⟩⟩⟩⟩) ?_
          exact ih1999 (z1989 + 1) μ2018 T2020 (mF.up (mF.call mF.refl F1994 rfl) (A_21 hw) u2019 rfl) (rW (c := 0) (d := 1000) (rAdd (e := 1) (f := 1000) h2001 (rR (x := 1)) rfl) rfl) (PC.keep I1996 hw ((mF.up mF.refl (A_21 hw) u2019 rfl) : mF [21006] w μ1990 μ2018) rfl) (RT.keep I1997 hw ((mF.up mF.refl (A_21 hw) u2019 rfl) : mF [21006] w μ1990 μ2018) rfl) (vc_X1_doActs_12_13 (nS h1998) h2000 h4 h3 hp2 h2002 h2001)
        by_cases h2044 : z2021 = 16
        · refine mr_tableIn (pc := 62) (v := 16) (tgt := 260) dX1_doActs_62 h2044 rfl rfl (by decide) ?_
          have h2045 : 16 ≤ z2021 ∧ z2021 ≤ 16 := (vc_X1_doActs_12_17 h2044 h2024 h2032 h2040 h2042 h2023)
          refine mr_iinc (pc := 260) (lv' := [(5, iv (z1989 + 1)), (6, iv z2009), (0, .ref 21), (1, .ref a1), (2, iv p2), (3, iv p3), (4, iv p4)]) dX1_doActs_260 rfl (by decide) rfl ?_
          refine sv_goto (pc := 263) (tgt := 3) dX1_doActs_263 (by decide) ?_
          refine mr_lvS (lv' := [(0, .ref 21), (1, .ref a1), (2, iv p2), (3, iv p3), (4, iv p4), (5, iv (z1989 + 1))]) (List.forall_mem_cons.mpr ⟨rfl, List.forall_mem_cons.mpr ⟨rfl, List.forall_mem_cons.mpr ⟨rfl, List.forall_mem_cons.mpr ⟨rfl, List.forall_mem_cons.mpr ⟨rfl, List.forall_mem_cons.mpr ⟨rfl, fun _ h => absurd h List.not_mem_nil⟩⟩⟩⟩⟩⟩) ?_
          exact ih1999 (z1989 + 1) μ2018 T2020 (mF.up (mF.call mF.refl F1994 rfl) (A_21 hw) u2019 rfl) (rW (c := 0) (d := 1000) (rAdd (e := 1) (f := 1000) h2001 (rR (x := 1)) rfl) rfl) (PC.keep I1996 hw ((mF.up mF.refl (A_21 hw) u2019 rfl) : mF [21006] w μ1990 μ2018) rfl) (RT.keep I1997 hw ((mF.up mF.refl (A_21 hw) u2019 rfl) : mF [21006] w μ1990 μ2018) rfl) (vc_X1_doActs_12_13 (nS h1998) h2000 h4 h3 hp2 h2002 h2001)
        by_cases h2046 : z2021 = 17
        · refine mr_tableIn (pc := 62) (v := 17) (tgt := 260) dX1_doActs_62 h2046 rfl rfl (by decide) ?_
          have h2047 : 17 ≤ z2021 ∧ z2021 ≤ 17 := (vc_X1_doActs_12_18 h2046 h2024 h2032 h2040 h2042 h2044 h2023)
          refine mr_iinc (pc := 260) (lv' := [(5, iv (z1989 + 1)), (6, iv z2009), (0, .ref 21), (1, .ref a1), (2, iv p2), (3, iv p3), (4, iv p4)]) dX1_doActs_260 rfl (by decide) rfl ?_
          refine sv_goto (pc := 263) (tgt := 3) dX1_doActs_263 (by decide) ?_
          refine mr_lvS (lv' := [(0, .ref 21), (1, .ref a1), (2, iv p2), (3, iv p3), (4, iv p4), (5, iv (z1989 + 1))]) (List.forall_mem_cons.mpr ⟨rfl, List.forall_mem_cons.mpr ⟨rfl, List.forall_mem_cons.mpr ⟨rfl, List.forall_mem_cons.mpr ⟨rfl, List.forall_mem_cons.mpr ⟨rfl, List.forall_mem_cons.mpr ⟨rfl, fun _ h => absurd h List.not_mem_nil⟩⟩⟩⟩⟩⟩) ?_
          exact ih1999 (z1989 + 1) μ2018 T2020 (mF.up (mF.call mF.refl F1994 rfl) (A_21 hw) u2019 rfl) (rW (c := 0) (d := 1000) (rAdd (e := 1) (f := 1000) h2001 (rR (x := 1)) rfl) rfl) (PC.keep I1996 hw ((mF.up mF.refl (A_21 hw) u2019 rfl) : mF [21006] w μ1990 μ2018) rfl) (RT.keep I1997 hw ((mF.up mF.refl (A_21 hw) u2019 rfl) : mF [21006] w μ1990 μ2018) rfl) (vc_X1_doActs_12_13 (nS h1998) h2000 h4 h3 hp2 h2002 h2001)
        by_cases h2048 : z2021 = 18
        · refine mr_tableIn (pc := 62) (v := 18) (tgt := 260) dX1_doActs_62 h2048 rfl rfl (by decide) ?_
          have h2049 : 18 ≤ z2021 ∧ z2021 ≤ 18 := (vc_X1_doActs_12_19 h2048 h2024 h2032 h2040 h2042 h2044 h2046 h2023)
          refine mr_iinc (pc := 260) (lv' := [(5, iv (z1989 + 1)), (6, iv z2009), (0, .ref 21), (1, .ref a1), (2, iv p2), (3, iv p3), (4, iv p4)]) dX1_doActs_260 rfl (by decide) rfl ?_
          refine sv_goto (pc := 263) (tgt := 3) dX1_doActs_263 (by decide) ?_
          refine mr_lvS (lv' := [(0, .ref 21), (1, .ref a1), (2, iv p2), (3, iv p3), (4, iv p4), (5, iv (z1989 + 1))]) (List.forall_mem_cons.mpr ⟨rfl, List.forall_mem_cons.mpr ⟨rfl, List.forall_mem_cons.mpr ⟨rfl, List.forall_mem_cons.mpr ⟨rfl, List.forall_mem_cons.mpr ⟨rfl, List.forall_mem_cons.mpr ⟨rfl, fun _ h => absurd h List.not_mem_nil⟩⟩⟩⟩⟩⟩) ?_
          exact ih1999 (z1989 + 1) μ2018 T2020 (mF.up (mF.call mF.refl F1994 rfl) (A_21 hw) u2019 rfl) (rW (c := 0) (d := 1000) (rAdd (e := 1) (f := 1000) h2001 (rR (x := 1)) rfl) rfl) (PC.keep I1996 hw ((mF.up mF.refl (A_21 hw) u2019 rfl) : mF [21006] w μ1990 μ2018) rfl) (RT.keep I1997 hw ((mF.up mF.refl (A_21 hw) u2019 rfl) : mF [21006] w μ1990 μ2018) rfl) (vc_X1_doActs_12_13 (nS h1998) h2000 h4 h3 hp2 h2002 h2001)
        by_cases h2050 : z2021 = 19
        · refine mr_tableIn (pc := 62) (v := 19) (tgt := 260) dX1_doActs_62 h2050 rfl rfl (by decide) ?_
          have h2051 : 19 ≤ z2021 ∧ z2021 ≤ 19 := (vc_X1_doActs_12_20 h2050 h2024 h2032 h2040 h2042 h2044 h2046 h2048 h2023)
          refine mr_iinc (pc := 260) (lv' := [(5, iv (z1989 + 1)), (6, iv z2009), (0, .ref 21), (1, .ref a1), (2, iv p2), (3, iv p3), (4, iv p4)]) dX1_doActs_260 rfl (by decide) rfl ?_
          refine sv_goto (pc := 263) (tgt := 3) dX1_doActs_263 (by decide) ?_
          refine mr_lvS (lv' := [(0, .ref 21), (1, .ref a1), (2, iv p2), (3, iv p3), (4, iv p4), (5, iv (z1989 + 1))]) (List.forall_mem_cons.mpr ⟨rfl, List.forall_mem_cons.mpr ⟨rfl, List.forall_mem_cons.mpr ⟨rfl, List.forall_mem_cons.mpr ⟨rfl, List.forall_mem_cons.mpr ⟨rfl, List.forall_mem_cons.mpr ⟨rfl, fun _ h => absurd h List.not_mem_nil⟩⟩⟩⟩⟩⟩) ?_
          exact ih1999 (z1989 + 1) μ2018 T2020 (mF.up (mF.call mF.refl F1994 rfl) (A_21 hw) u2019 rfl) (rW (c := 0) (d := 1000) (rAdd (e := 1) (f := 1000) h2001 (rR (x := 1)) rfl) rfl) (PC.keep I1996 hw ((mF.up mF.refl (A_21 hw) u2019 rfl) : mF [21006] w μ1990 μ2018) rfl) (RT.keep I1997 hw ((mF.up mF.refl (A_21 hw) u2019 rfl) : mF [21006] w μ1990 μ2018) rfl) (vc_X1_doActs_12_13 (nS h1998) h2000 h4 h3 hp2 h2002 h2001)
        by_cases h2052 : z2021 = 20
        · refine mr_tableIn (pc := 62) (v := 20) (tgt := 260) dX1_doActs_62 h2052 rfl rfl (by decide) ?_
          have h2053 : 20 ≤ z2021 ∧ z2021 ≤ 20 := (vc_X1_doActs_12_21 h2052 h2032 h2040 h2042 h2044 h2046 h2048 h2050 h2023)
          refine mr_iinc (pc := 260) (lv' := [(5, iv (z1989 + 1)), (6, iv z2009), (0, .ref 21), (1, .ref a1), (2, iv p2), (3, iv p3), (4, iv p4)]) dX1_doActs_260 rfl (by decide) rfl ?_
          refine sv_goto (pc := 263) (tgt := 3) dX1_doActs_263 (by decide) ?_
          refine mr_lvS (lv' := [(0, .ref 21), (1, .ref a1), (2, iv p2), (3, iv p3), (4, iv p4), (5, iv (z1989 + 1))]) (List.forall_mem_cons.mpr ⟨rfl, List.forall_mem_cons.mpr ⟨rfl, List.forall_mem_cons.mpr ⟨rfl, List.forall_mem_cons.mpr ⟨rfl, List.forall_mem_cons.mpr ⟨rfl, List.forall_mem_cons.mpr ⟨rfl, fun _ h => absurd h List.not_mem_nil⟩⟩⟩⟩⟩⟩) ?_
          exact ih1999 (z1989 + 1) μ2018 T2020 (mF.up (mF.call mF.refl F1994 rfl) (A_21 hw) u2019 rfl) (rW (c := 0) (d := 1000) (rAdd (e := 1) (f := 1000) h2001 (rR (x := 1)) rfl) rfl) (PC.keep I1996 hw ((mF.up mF.refl (A_21 hw) u2019 rfl) : mF [21006] w μ1990 μ2018) rfl) (RT.keep I1997 hw ((mF.up mF.refl (A_21 hw) u2019 rfl) : mF [21006] w μ1990 μ2018) rfl) (vc_X1_doActs_12_13 (nS h1998) h2000 h4 h3 hp2 h2002 h2001)
        by_cases h2054 : z2021 = 21
        · refine mr_tableIn (pc := 62) (v := 21) (tgt := 260) dX1_doActs_62 h2054 rfl rfl (by decide) ?_
          have h2055 : 21 ≤ z2021 ∧ z2021 ≤ 21 := (vc_X1_doActs_12_22 h2054 h2040 h2042 h2044 h2046 h2048 h2050 h2052 h2023)
          refine mr_iinc (pc := 260) (lv' := [(5, iv (z1989 + 1)), (6, iv z2009), (0, .ref 21), (1, .ref a1), (2, iv p2), (3, iv p3), (4, iv p4)]) dX1_doActs_260 rfl (by decide) rfl ?_
          refine sv_goto (pc := 263) (tgt := 3) dX1_doActs_263 (by decide) ?_
          refine mr_lvS (lv' := [(0, .ref 21), (1, .ref a1), (2, iv p2), (3, iv p3), (4, iv p4), (5, iv (z1989 + 1))]) (List.forall_mem_cons.mpr ⟨rfl, List.forall_mem_cons.mpr ⟨rfl, List.forall_mem_cons.mpr ⟨rfl, List.forall_mem_cons.mpr ⟨rfl, List.forall_mem_cons.mpr ⟨rfl, List.forall_mem_cons.mpr ⟨rfl, fun _ h => absurd h List.not_mem_nil⟩⟩⟩⟩⟩⟩) ?_
          exact ih1999 (z1989 + 1) μ2018 T2020 (mF.up (mF.call mF.refl F1994 rfl) (A_21 hw) u2019 rfl) (rW (c := 0) (d := 1000) (rAdd (e := 1) (f := 1000) h2001 (rR (x := 1)) rfl) rfl) (PC.keep I1996 hw ((mF.up mF.refl (A_21 hw) u2019 rfl) : mF [21006] w μ1990 μ2018) rfl) (RT.keep I1997 hw ((mF.up mF.refl (A_21 hw) u2019 rfl) : mF [21006] w μ1990 μ2018) rfl) (vc_X1_doActs_12_13 (nS h1998) h2000 h4 h3 hp2 h2002 h2001)
        by_cases h2056 : z2021 = 22
        · refine mr_tableIn (pc := 62) (v := 22) (tgt := 260) dX1_doActs_62 h2056 rfl rfl (by decide) ?_
          have h2057 : 22 ≤ z2021 ∧ z2021 ≤ 22 := (vc_X1_doActs_12_23 h2056 h2042 h2044 h2046 h2048 h2050 h2052 h2054 h2023)
          refine mr_iinc (pc := 260) (lv' := [(5, iv (z1989 + 1)), (6, iv z2009), (0, .ref 21), (1, .ref a1), (2, iv p2), (3, iv p3), (4, iv p4)]) dX1_doActs_260 rfl (by decide) rfl ?_
          refine sv_goto (pc := 263) (tgt := 3) dX1_doActs_263 (by decide) ?_
          refine mr_lvS (lv' := [(0, .ref 21), (1, .ref a1), (2, iv p2), (3, iv p3), (4, iv p4), (5, iv (z1989 + 1))]) (List.forall_mem_cons.mpr ⟨rfl, List.forall_mem_cons.mpr ⟨rfl, List.forall_mem_cons.mpr ⟨rfl, List.forall_mem_cons.mpr ⟨rfl, List.forall_mem_cons.mpr ⟨rfl, List.forall_mem_cons.mpr ⟨rfl, fun _ h => absurd h List.not_mem_nil⟩⟩⟩⟩⟩⟩) ?_
          exact ih1999 (z1989 + 1) μ2018 T2020 (mF.up (mF.call mF.refl F1994 rfl) (A_21 hw) u2019 rfl) (rW (c := 0) (d := 1000) (rAdd (e := 1) (f := 1000) h2001 (rR (x := 1)) rfl) rfl) (PC.keep I1996 hw ((mF.up mF.refl (A_21 hw) u2019 rfl) : mF [21006] w μ1990 μ2018) rfl) (RT.keep I1997 hw ((mF.up mF.refl (A_21 hw) u2019 rfl) : mF [21006] w μ1990 μ2018) rfl) (vc_X1_doActs_12_13 (nS h1998) h2000 h4 h3 hp2 h2002 h2001)
        by_cases h2058 : z2021 = 23
        · refine mr_tableIn (pc := 62) (v := 23) (tgt := 144) dX1_doActs_62 h2058 rfl rfl (by decide) ?_
          have h2059 : 23 ≤ z2021 ∧ z2021 ≤ 23 := (vc_X1_doActs_12_24 h2058 h2044 h2046 h2048 h2050 h2052 h2054 h2056 h2023)
          refine sv_aload_n (pc := 144) dX1_doActs_144 rfl rfl ?_
          refine mr_iconst (pc := 145) (z := 1) dX1_doActs_145 ?_
          refine pf_X1_7 (pc := 146) dX1_doActs_146 wF_X1_50 (A_21 hw) T2020 (rW (c := 0) (d := 2) (rR (x := 1)) rfl) fun μ2060 u2061 T2062 => ?_
          refine sv_goto (pc := 149) (tgt := 260) dX1_doActs_149 (by decide) ?_
          refine mr_iinc (pc := 260) (lv' := [(5, iv (z1989 + 1)), (6, iv z2009), (0, .ref 21), (1, .ref a1), (2, iv p2), (3, iv p3), (4, iv p4)]) dX1_doActs_260 rfl (by decide) rfl ?_
          refine sv_goto (pc := 263) (tgt := 3) dX1_doActs_263 (by decide) ?_
          refine mr_lvS (lv' := [(0, .ref 21), (1, .ref a1), (2, iv p2), (3, iv p3), (4, iv p4), (5, iv (z1989 + 1))]) (List.forall_mem_cons.mpr ⟨rfl, List.forall_mem_cons.mpr ⟨rfl, List.forall_mem_cons.mpr ⟨rfl, List.forall_mem_cons.mpr ⟨rfl, List.forall_mem_cons.mpr ⟨rfl, List.forall_mem_cons.mpr ⟨rfl, fun _ h => absurd h List.not_mem_nil⟩⟩⟩⟩⟩⟩) ?_
          exact ih1999 (z1989 + 1) μ2060 T2062 (mF.up (mF.up (mF.call mF.refl F1994 rfl) (A_21 hw) u2019 rfl) (A_21 hw) u2061 rfl) (rW (c := 0) (d := 1000) (rAdd (e := 1) (f := 1000) h2001 (rR (x := 1)) rfl) rfl) (PC.keep I1996 hw ((mF.up (mF.up mF.refl (A_21 hw) u2019 rfl) (A_21 hw) u2061 rfl) : mF [21006, 21007] w μ1990 μ2060) rfl) (RT.keep I1997 hw ((mF.up (mF.up mF.refl (A_21 hw) u2019 rfl) (A_21 hw) u2061 rfl) : mF [21006, 21007] w μ1990 μ2060) rfl) (vc_X1_doActs_12_13 (nS h1998) h2000 h4 h3 hp2 h2002 h2001)
        by_cases h2063 : z2021 = 24
        · refine mr_tableIn (pc := 62) (v := 24) (tgt := 152) dX1_doActs_62 h2063 rfl rfl (by decide) ?_
          have h2064 : 24 ≤ z2021 ∧ z2021 ≤ 24 := (vc_X1_doActs_12_25 h2063 h2046 h2048 h2050 h2052 h2054 h2056 h2058 h2023)
          refine sv_aload_n (pc := 152) dX1_doActs_152 rfl rfl ?_
          refine mr_iconst (pc := 153) (z := 2) dX1_doActs_153 ?_
          refine pf_X1_7 (pc := 154) dX1_doActs_154 wF_X1_50 (A_21 hw) T2020 (rW (c := 0) (d := 2) (rR (x := 2)) rfl) fun μ2065 u2066 T2067 => ?_
          refine sv_goto (pc := 157) (tgt := 260) dX1_doActs_157 (by decide) ?_
          refine mr_iinc (pc := 260) (lv' := [(5, iv (z1989 + 1)), (6, iv z2009), (0, .ref 21), (1, .ref a1), (2, iv p2), (3, iv p3), (4, iv p4)]) dX1_doActs_260 rfl (by decide) rfl ?_
          refine sv_goto (pc := 263) (tgt := 3) dX1_doActs_263 (by decide) ?_
          refine mr_lvS (lv' := [(0, .ref 21), (1, .ref a1), (2, iv p2), (3, iv p3), (4, iv p4), (5, iv (z1989 + 1))]) (List.forall_mem_cons.mpr ⟨rfl, List.forall_mem_cons.mpr ⟨rfl, List.forall_mem_cons.mpr ⟨rfl, List.forall_mem_cons.mpr ⟨rfl, List.forall_mem_cons.mpr ⟨rfl, List.forall_mem_cons.mpr ⟨rfl, fun _ h => absurd h List.not_mem_nil⟩⟩⟩⟩⟩⟩) ?_
          exact ih1999 (z1989 + 1) μ2065 T2067 (mF.up (mF.up (mF.call mF.refl F1994 rfl) (A_21 hw) u2019 rfl) (A_21 hw) u2066 rfl) (rW (c := 0) (d := 1000) (rAdd (e := 1) (f := 1000) h2001 (rR (x := 1)) rfl) rfl) (PC.keep I1996 hw ((mF.up (mF.up mF.refl (A_21 hw) u2019 rfl) (A_21 hw) u2066 rfl) : mF [21006, 21007] w μ1990 μ2065) rfl) (RT.keep I1997 hw ((mF.up (mF.up mF.refl (A_21 hw) u2019 rfl) (A_21 hw) u2066 rfl) : mF [21006, 21007] w μ1990 μ2065) rfl) (vc_X1_doActs_12_13 (nS h1998) h2000 h4 h3 hp2 h2002 h2001)
        by_cases h2068 : z2021 = 25
        · refine mr_tableIn (pc := 62) (v := 25) (tgt := 160) dX1_doActs_62 h2068 rfl rfl (by decide) ?_
          have h2069 : 25 ≤ z2021 ∧ z2021 ≤ 25 := (vc_X1_doActs_12_26 h2068 h2048 h2050 h2052 h2054 h2056 h2058 h2063 h2023)
          refine sv_aload_n (pc := 160) dX1_doActs_160 rfl rfl ?_
          refine gf_X1_2 (pc := 161) dX1_doActs_161 wF_X1_25 (A_21 hw) T2020 (RT.keep I1997 hw ((mF.up mF.refl (A_21 hw) u2019 rfl) : mF [21006] w μ1990 μ2018) rfl) fun b2070 q2071 A2072 => ?_
          refine mr_iload (pc := 164) (z := z2009) dX1_doActs_164 rfl ?_
          refine mr_cVV (pc := 166) (c_X7_addMark hw T2020 A2072 (rW (c := (-2147483648)) (d := 2147483647) h2012 rfl)) (gOk _ _ _ _ _) dX1_doActs_166 (tX7_addMark _ _ _ _ _) ⟨wV_X7_addMark, wL_X7_addMark⟩ wM_X1_124 (gCX7 _ _ _ _ _) rfl A2072 rfl ⟨le_t rfl, le_t rfl⟩ ⟨le_t rfl, le_t rfl⟩ rfl (le_t rfl) fun μ2073 T2074 F2075 h2076 => ?_
          refine sv_goto (pc := 169) (tgt := 260) dX1_doActs_169 (by decide) ?_
          refine mr_iinc (pc := 260) (lv' := [(5, iv (z1989 + 1)), (6, iv z2009), (0, .ref 21), (1, .ref a1), (2, iv p2), (3, iv p3), (4, iv p4)]) dX1_doActs_260 rfl (by decide) rfl ?_
          refine sv_goto (pc := 263) (tgt := 3) dX1_doActs_263 (by decide) ?_
          refine mr_lvS (lv' := [(0, .ref 21), (1, .ref a1), (2, iv p2), (3, iv p3), (4, iv p4), (5, iv (z1989 + 1))]) (List.forall_mem_cons.mpr ⟨rfl, List.forall_mem_cons.mpr ⟨rfl, List.forall_mem_cons.mpr ⟨rfl, List.forall_mem_cons.mpr ⟨rfl, List.forall_mem_cons.mpr ⟨rfl, List.forall_mem_cons.mpr ⟨rfl, fun _ h => absurd h List.not_mem_nil⟩⟩⟩⟩⟩⟩) ?_
          exact ih1999 (z1989 + 1) μ2073 T2074 (mF.call (mF.up (mF.call mF.refl F1994 rfl) (A_21 hw) u2019 rfl) F2075 rfl) (rW (c := 0) (d := 1000) (rAdd (e := 1) (f := 1000) h2001 (rR (x := 1)) rfl) rfl) (PC.keep I1996 hw ((mF.call (mF.up mF.refl (A_21 hw) u2019 rfl) F2075 rfl) : mF [21006, 200008, 202999] w μ1990 μ2073) rfl) (RT.keep I1997 hw ((mF.call (mF.up mF.refl (A_21 hw) u2019 rfl) F2075 rfl) : mF [21006, 200008, 202999] w μ1990 μ2073) rfl) (vc_X1_doActs_12_13 (nS h1998) h2000 h4 h3 hp2 h2002 h2001)
        by_cases h2077 : z2021 = 26
        · refine mr_tableIn (pc := 62) (v := 26) (tgt := 172) dX1_doActs_62 h2077 rfl rfl (by decide) ?_
          have h2078 : 26 ≤ z2021 ∧ z2021 ≤ 26 := (vc_X1_doActs_12_27 h2077 h2050 h2052 h2054 h2056 h2058 h2063 h2068 h2023)
          refine sv_aload_n (pc := 172) dX1_doActs_172 rfl rfl ?_
          refine gf_X1_2 (pc := 173) dX1_doActs_173 wF_X1_25 (A_21 hw) T2020 (RT.keep I1997 hw ((mF.up mF.refl (A_21 hw) u2019 rfl) : mF [21006] w μ1990 μ2018) rfl) fun b2079 q2080 A2081 => ?_
          refine mr_iload (pc := 176) (z := z2009) dX1_doActs_176 rfl ?_
          refine mr_cVV (pc := 178) (c_X7_dropMark hw T2020 A2081 (rW (c := (-2147483648)) (d := 2147483647) h2012 rfl)) (gOk _ _ _ _ _) dX1_doActs_178 (tX7_dropMark _ _ _ _ _) ⟨wV_X7_dropMark, wL_X7_dropMark⟩ wM_X1_128 (gCX7 _ _ _ _ _) rfl A2081 rfl ⟨le_t rfl, le_t rfl⟩ ⟨le_t rfl, le_t rfl⟩ rfl (le_t rfl) fun μ2082 T2083 F2084 h2085 => ?_
          refine sv_goto (pc := 181) (tgt := 260) dX1_doActs_181 (by decide) ?_
          refine mr_iinc (pc := 260) (lv' := [(5, iv (z1989 + 1)), (6, iv z2009), (0, .ref 21), (1, .ref a1), (2, iv p2), (3, iv p3), (4, iv p4)]) dX1_doActs_260 rfl (by decide) rfl ?_
          refine sv_goto (pc := 263) (tgt := 3) dX1_doActs_263 (by decide) ?_
          refine mr_lvS (lv' := [(0, .ref 21), (1, .ref a1), (2, iv p2), (3, iv p3), (4, iv p4), (5, iv (z1989 + 1))]) (List.forall_mem_cons.mpr ⟨rfl, List.forall_mem_cons.mpr ⟨rfl, List.forall_mem_cons.mpr ⟨rfl, List.forall_mem_cons.mpr ⟨rfl, List.forall_mem_cons.mpr ⟨rfl, List.forall_mem_cons.mpr ⟨rfl, fun _ h => absurd h List.not_mem_nil⟩⟩⟩⟩⟩⟩) ?_
          exact ih1999 (z1989 + 1) μ2082 T2083 (mF.call (mF.up (mF.call mF.refl F1994 rfl) (A_21 hw) u2019 rfl) F2084 rfl) (rW (c := 0) (d := 1000) (rAdd (e := 1) (f := 1000) h2001 (rR (x := 1)) rfl) rfl) (PC.keep I1996 hw ((mF.call (mF.up mF.refl (A_21 hw) u2019 rfl) F2084 rfl) : mF [21006, 200008, 202999] w μ1990 μ2082) rfl) (RT.keep I1997 hw ((mF.call (mF.up mF.refl (A_21 hw) u2019 rfl) F2084 rfl) : mF [21006, 200008, 202999] w μ1990 μ2082) rfl) (vc_X1_doActs_12_13 (nS h1998) h2000 h4 h3 hp2 h2002 h2001)
        by_cases h2086 : z2021 = 27
        · refine mr_tableIn (pc := 62) (v := 27) (tgt := 208) dX1_doActs_62 h2086 rfl rfl (by decide) ?_
          have h2087 : 27 ≤ z2021 ∧ z2021 ≤ 27 := (vc_X1_doActs_12_28 h2086 h2052 h2054 h2056 h2058 h2063 h2068 h2077 h2023)
          refine sv_aload_n (pc := 208) dX1_doActs_208 rfl rfl ?_
          refine gf_X1_2 (pc := 209) dX1_doActs_209 wF_X1_25 (A_21 hw) T2020 (RT.keep I1997 hw ((mF.up mF.refl (A_21 hw) u2019 rfl) : mF [21006] w μ1990 μ2018) rfl) fun b2088 q2089 A2090 => ?_
          refine gf_X7_7 (pc := 212) dX1_doActs_212 wF_X1_96 A2090 T2020 fun z2091 q2092 h2093 => ?_
          have J2116 : ∀ (μ2110 : mM), (mT w μ2110) → (mF [21007, 200007, 201999] w μ2018 μ2110) → (PC w μ2110) → (RT μ2110) → sV (gG l D c H0 sa) mX1_doActs (sRm 20 0 0) (sZ (gG l D c H0 sa) 0 0 (qV w [21006, 21007, 200004, 200006, 200007, 200008, 201999, 202999] μ (fun μ1 => True))) 260 [(0, .ref 21), (1, .ref a1), (2, iv p2), (3, iv p3), (4, iv p4), (5, iv z1989)] [] (mk w μ2110) 0 0 := by
            intro μ2110 T2111 F2112 I2114 I2115
            refine mr_iinc (pc := 260) (lv' := [(5, iv (z1989 + 1)), (0, .ref 21), (1, .ref a1), (2, iv p2), (3, iv p3), (4, iv p4)]) dX1_doActs_260 rfl (by decide) rfl ?_
            refine sv_goto (pc := 263) (tgt := 3) dX1_doActs_263 (by decide) ?_
            refine mr_lvS (lv' := [(0, .ref 21), (1, .ref a1), (2, iv p2), (3, iv p3), (4, iv p4), (5, iv (z1989 + 1))]) (List.forall_mem_cons.mpr ⟨rfl, List.forall_mem_cons.mpr ⟨rfl, List.forall_mem_cons.mpr ⟨rfl, List.forall_mem_cons.mpr ⟨rfl, List.forall_mem_cons.mpr ⟨rfl, List.forall_mem_cons.mpr ⟨rfl, fun _ h => absurd h List.not_mem_nil⟩⟩⟩⟩⟩⟩) ?_
            exact ih1999 (z1989 + 1) μ2110 T2111 (mF.call (mF.up (mF.call mF.refl F1994 rfl) (A_21 hw) u2019 rfl) F2112 rfl) (rW (c := 0) (d := 1000) (rAdd (e := 1) (f := 1000) h2001 (rR (x := 1)) rfl) rfl) I2114 I2115 (vc_X1_doActs_12_13 (nS h1998) h2000 h4 h3 hp2 h2002 h2001)
          refine mr_if_le (pc := 215) (tgt := 260) dX1_doActs_215 (by decide) (r32 h2093 rfl) (fun h2117 => ?_) (fun h2117 => ?_)
          · have h2118 : 0 ≤ z2091 ∧ z2091 ≤ 0 := (vc_X12_unlike_21 h2117 h2093)
            refine mr_lvS (lv' := [(0, .ref 21), (1, .ref a1), (2, iv p2), (3, iv p3), (4, iv p4), (5, iv z1989)]) (List.forall_mem_cons.mpr ⟨rfl, List.forall_mem_cons.mpr ⟨rfl, List.forall_mem_cons.mpr ⟨rfl, List.forall_mem_cons.mpr ⟨rfl, List.forall_mem_cons.mpr ⟨rfl, List.forall_mem_cons.mpr ⟨rfl, fun _ h => absurd h List.not_mem_nil⟩⟩⟩⟩⟩⟩) ?_
            exact J2116 μ2018 T2020 mF.refl (PC.keep I1996 hw ((mF.up mF.refl (A_21 hw) u2019 rfl) : mF [21006] w μ1990 μ2018) rfl) (RT.keep I1997 hw ((mF.up mF.refl (A_21 hw) u2019 rfl) : mF [21006] w μ1990 μ2018) rfl)
          have h2119 : 1 ≤ z2091 ∧ z2091 ≤ 20 := (vc_X12_unlike_22 h2117 h2093)
          refine sv_aload_n (pc := 218) dX1_doActs_218 rfl rfl ?_
          refine gk_X1_2 (pc := 219) dX1_doActs_219 wF_X1_25 (A_21 hw) q2089 ?_
          refine sv_aload_n (pc := 222) dX1_doActs_222 rfl rfl ?_
          refine gk_X1_2 (pc := 223) dX1_doActs_223 wF_X1_25 (A_21 hw) q2089 ?_
          refine gf_X7_0 (pc := 226) dX1_doActs_226 wF_X1_114 A2090 T2020 fun A2120 => ?_
          refine mr_iconst (pc := 229) (z := 0) dX1_doActs_229 ?_
          refine la_201 (pc := 230) dX1_doActs_230 A2120 T2020 (rIx (n := 20) (rR (x := 0)) rfl) fun z2121 q2122 h2123 => ?_
          refine mr_iload (pc := 231) (z := z2009) dX1_doActs_231 rfl ?_
          refine mr_cVI (pc := 233) (c_X7_putInFront hw T2020 A2090 h2123 (rW (c := (-2147483648)) (d := 1000000) h2012 rfl)) (gOk _ _ _ _ _) dX1_doActs_233 (tX7_putInFront _ _ _ _ _) ⟨wV_X7_putInFront, wL_X7_putInFront⟩ wM_X1_131 (gCX7 _ _ _ _ _) rfl A2090 rfl ⟨le_t rfl, le_t rfl⟩ ⟨le_t rfl, le_t rfl⟩ rfl (le_t rfl) fun z2128 μ2124 T2125 F2126 h2127 => ?_
          refine mr_if_ne (pc := 236) (tgt := 260) dX1_doActs_236 (by decide) (r32 h2127.1 rfl) (fun h2129 => ?_) (fun h2129 => ?_)
          · have h2130 : 1 ≤ z2128 ∧ z2128 ≤ 1 := (vc_X12_ring_24 h2129 h2127.1)
            refine mr_lvS (lv' := [(0, .ref 21), (1, .ref a1), (2, iv p2), (3, iv p3), (4, iv p4), (5, iv z1989)]) (List.forall_mem_cons.mpr ⟨rfl, List.forall_mem_cons.mpr ⟨rfl, List.forall_mem_cons.mpr ⟨rfl, List.forall_mem_cons.mpr ⟨rfl, List.forall_mem_cons.mpr ⟨rfl, List.forall_mem_cons.mpr ⟨rfl, fun _ h => absurd h List.not_mem_nil⟩⟩⟩⟩⟩⟩) ?_
            exact J2116 μ2124 T2125 (mF.call mF.refl F2126 rfl) (PC.keep I1996 hw ((mF.call (mF.up mF.refl (A_21 hw) u2019 rfl) F2126 rfl) : mF [21006, 200007, 201999] w μ1990 μ2124) rfl) (RT.keep I1997 hw ((mF.call (mF.up mF.refl (A_21 hw) u2019 rfl) F2126 rfl) : mF [21006, 200007, 201999] w μ1990 μ2124) rfl)
          have h2131 : 0 ≤ z2128 ∧ z2128 ≤ 0 := (vc_X12_ring_22 h2129 h2127.1)
          refine sv_aload_n (pc := 239) dX1_doActs_239 rfl rfl ?_
          refine mr_iconst (pc := 240) (z := 2) dX1_doActs_240 ?_
          refine pf_X1_7 (pc := 241) dX1_doActs_241 wF_X1_50 (A_21 hw) T2125 (rW (c := 0) (d := 2) (rR (x := 2)) rfl) fun μ2132 u2133 T2134 => ?_
          refine sv_goto (pc := 244) (tgt := 260) dX1_doActs_244 (by decide) ?_
          refine mr_lvS (lv' := [(0, .ref 21), (1, .ref a1), (2, iv p2), (3, iv p3), (4, iv p4), (5, iv z1989)]) (List.forall_mem_cons.mpr ⟨rfl, List.forall_mem_cons.mpr ⟨rfl, List.forall_mem_cons.mpr ⟨rfl, List.forall_mem_cons.mpr ⟨rfl, List.forall_mem_cons.mpr ⟨rfl, List.forall_mem_cons.mpr ⟨rfl, fun _ h => absurd h List.not_mem_nil⟩⟩⟩⟩⟩⟩) ?_
          exact J2116 μ2132 T2134 (mF.up (mF.call mF.refl F2126 rfl) (A_21 hw) u2133 rfl) (PC.keep I1996 hw ((mF.up (mF.call (mF.up mF.refl (A_21 hw) u2019 rfl) F2126 rfl) (A_21 hw) u2133 rfl) : mF [21006, 21007, 200007, 201999] w μ1990 μ2132) rfl) (RT.keep I1997 hw ((mF.up (mF.call (mF.up mF.refl (A_21 hw) u2019 rfl) F2126 rfl) (A_21 hw) u2133 rfl) : mF [21006, 21007, 200007, 201999] w μ1990 μ2132) rfl)
        by_cases h2135 : z2021 = 28
        · refine mr_tableIn (pc := 62) (v := 28) (tgt := 247) dX1_doActs_62 h2135 rfl rfl (by decide) ?_
          have h2136 : 28 ≤ z2021 ∧ z2021 ≤ 28 := (vc_X1_doActs_12_33 h2135 h2054 h2056 h2058 h2063 h2068 h2077 h2086 h2023)
          refine sv_aload_n (pc := 247) dX1_doActs_247 rfl rfl ?_
          refine mr_iload (pc := 248) (z := z2009) dX1_doActs_248 rfl ?_
          refine mr_iload (pc := 250) (z := p4) dX1_doActs_250 rfl ?_
          refine mr_iconst (pc := 252) (z := 1) dX1_doActs_252 ?_
          refine mr_iadd (pc := 253) (x := p4) (y := 1) dX1_doActs_253 ?_
          refine mr_cVV (pc := 254) (c_X1_goThrough_5 hw T2020 (rW (c := (-2147483648)) (d := 2147483647) h2012 rfl) (rAdd (e := 5) (f := 5) hp4 (rR (x := 1)) rfl) (PC.keep I1996 hw ((mF.up mF.refl (A_21 hw) u2019 rfl) : mF [21006] w μ1990 μ2018) rfl) (RT.keep I1997 hw ((mF.up mF.refl (A_21 hw) u2019 rfl) : mF [21006] w μ1990 μ2018) rfl)) (gOk _ _ _ _ _) dX1_doActs_254 (tX1_goThrough _ _ _ _ _) ⟨wV_X1_goThrough, wL_X1_goThrough⟩ wM_X1_53 (gCX1 _ _ _ _ _) rfl (A_21 hw) rfl ⟨le_t rfl, le_t rfl⟩ ⟨le_t rfl, le_t rfl⟩ rfl (le_t rfl) fun μ2137 T2138 F2139 h2140 => ?_
          refine sv_goto (pc := 257) (tgt := 260) dX1_doActs_257 (by decide) ?_
          refine mr_iinc (pc := 260) (lv' := [(5, iv (z1989 + 1)), (6, iv z2009), (0, .ref 21), (1, .ref a1), (2, iv p2), (3, iv p3), (4, iv p4)]) dX1_doActs_260 rfl (by decide) rfl ?_
          refine sv_goto (pc := 263) (tgt := 3) dX1_doActs_263 (by decide) ?_
          refine mr_lvS (lv' := [(0, .ref 21), (1, .ref a1), (2, iv p2), (3, iv p3), (4, iv p4), (5, iv (z1989 + 1))]) (List.forall_mem_cons.mpr ⟨rfl, List.forall_mem_cons.mpr ⟨rfl, List.forall_mem_cons.mpr ⟨rfl, List.forall_mem_cons.mpr ⟨rfl, List.forall_mem_cons.mpr ⟨rfl, List.forall_mem_cons.mpr ⟨rfl, fun _ h => absurd h List.not_mem_nil⟩⟩⟩⟩⟩⟩) ?_
          exact ih1999 (z1989 + 1) μ2137 T2138 (mF.call (mF.up (mF.call mF.refl F1994 rfl) (A_21 hw) u2019 rfl) F2139 rfl) (rW (c := 0) (d := 1000) (rAdd (e := 1) (f := 1000) h2001 (rR (x := 1)) rfl) rfl) (PC.keep I1996 hw ((mF.call (mF.up mF.refl (A_21 hw) u2019 rfl) F2139 rfl) : mF [21006, 21007, 200004, 200006, 200007, 200008, 201999, 202999] w μ1990 μ2137) rfl) (RT.keep I1997 hw ((mF.call (mF.up mF.refl (A_21 hw) u2019 rfl) F2139 rfl) : mF [21006, 21007, 200004, 200006, 200007, 200008, 201999, 202999] w μ1990 μ2137) rfl) (vc_X1_doActs_12_13 (nS h1998) h2000 h4 h3 hp2 h2002 h2001)
        refine mr_tableOut (pc := 62) (tgt := 260) dX1_doActs_62 h2023 (vc_X1_doActs_12_34 h2024 h2032 h2040 h2042 h2044 h2046 h2048 h2050 h2052 h2054 h2056 h2058 h2063 h2068 h2077 h2086 h2135 h2023) (by decide) ?_
        refine mr_iinc (pc := 260) (lv' := [(5, iv (z1989 + 1)), (6, iv z2009), (0, .ref 21), (1, .ref a1), (2, iv p2), (3, iv p3), (4, iv p4)]) dX1_doActs_260 rfl (by decide) rfl ?_
        refine sv_goto (pc := 263) (tgt := 3) dX1_doActs_263 (by decide) ?_
        refine mr_lvS (lv' := [(0, .ref 21), (1, .ref a1), (2, iv p2), (3, iv p3), (4, iv p4), (5, iv (z1989 + 1))]) (List.forall_mem_cons.mpr ⟨rfl, List.forall_mem_cons.mpr ⟨rfl, List.forall_mem_cons.mpr ⟨rfl, List.forall_mem_cons.mpr ⟨rfl, List.forall_mem_cons.mpr ⟨rfl, List.forall_mem_cons.mpr ⟨rfl, fun _ h => absurd h List.not_mem_nil⟩⟩⟩⟩⟩⟩) ?_
        exact ih1999 (z1989 + 1) μ2018 T2020 (mF.up (mF.call mF.refl F1994 rfl) (A_21 hw) u2019 rfl) (rW (c := 0) (d := 1000) (rAdd (e := 1) (f := 1000) h2001 (rR (x := 1)) rfl) rfl) (PC.keep I1996 hw ((mF.up mF.refl (A_21 hw) u2019 rfl) : mF [21006] w μ1990 μ2018) rfl) (RT.keep I1997 hw ((mF.up mF.refl (A_21 hw) u2019 rfl) : mF [21006] w μ1990 μ2018) rfl) (vc_X1_doActs_12_13 (nS h1998) h2000 h4 h3 hp2 h2002 h2001)
      have h2141 : 500 ≤ z2013 ∧ z2013 ≤ 500 := (vc_X1_doActs_12_35 h2016 h2015)
      refine sv_aload_n (pc := 38) dX1_doActs_38 rfl rfl ?_
      refine mr_iconst (pc := 39) (z := 2) dX1_doActs_39 ?_
      refine pf_X1_7 (pc := 40) dX1_doActs_40 wF_X1_50 (A_21 hw) T1993 (rW (c := 0) (d := 2) (rR (x := 2)) rfl) fun μ2142 u2143 T2144 => ?_
      exact mr_vret dX1_doActs_43 rfl (le_t rfl) (le_t rfl) T2144 (mF.up (mF.call mF.refl F1994 rfl) (A_21 hw) u2143 rfl) trivial
  refine mr_lvS (lv' := [(0, .ref 21), (1, .ref a1), (2, iv p2), (3, iv p3), (4, iv p4), (5, iv 0)]) (List.forall_mem_cons.mpr ⟨rfl, List.forall_mem_cons.mpr ⟨rfl, List.forall_mem_cons.mpr ⟨rfl, List.forall_mem_cons.mpr ⟨rfl, List.forall_mem_cons.mpr ⟨rfl, List.forall_mem_cons.mpr ⟨rfl, fun _ h => absurd h List.not_mem_nil⟩⟩⟩⟩⟩⟩) ?_
  exact L1991 1002 0 μ hT mF.refl (rW (c := 0) (d := 1000) (rR (x := 0)) rfl) hIPC hIRT vc_X1_doActs_12_36
theorem vc_X1_goThrough_4_5 {p2 : Int} (h0 : 12 < p2) (h1 : 4 ≤ p2 ∧ p2 ≤ 4) : False := by omega
set_option maxRecDepth 4000 in
set_option maxHeartbeats 4000000 in
theorem c_X1_goThrough_4 {l : Launch} {D : va_G} {c : Nat → ClassId} {H0 : Heap} {sa : Nat × Nat × (Nat → Int32)} {w : mW} {μ : mM} (hw : mWF w) (hT : mT w μ) {p1 : Int} (hp1 : (-2147483648) ≤ p1 ∧ p1 ≤ 2147483647) {p2 : Int} (hp2 : 4 ≤ p2 ∧ p2 ≤ 4) (hIPC : PC w μ) (hIRT : RT μ) : sC (gG l D c H0 sa) mX1_goThrough 21 0 0 [.ref 21, iv p1, iv p2] (mk w μ) (qV w [21006, 21007, 200004, 200006, 200007, 200008, 201999, 202999] μ (fun μ1 => True)) := by
  refine sC.of rfl (by decide) (le_t rfl) ?_
  refine mr_lvE (lv' := [(0, .ref 21), (1, iv p1), (2, iv p2)]) rfl ?_
  refine mr_iload_n (pc := 0) (z := p1) dX1_goThrough_0 rfl rfl ?_
  refine mr_if_lt (pc := 1) (tgt := 18) dX1_goThrough_1 (by decide) hp1 (fun h1 => ?_) (fun h1 => ?_)
  · have h2 : (-2147483648) ≤ p1 ∧ p1 ≤ (-1) := (vc_X12_ring_60 h1 hp1)
    exact mr_vret dX1_goThrough_18 rfl (le_t rfl) (le_t rfl) hT mF.refl trivial
  have h3 : 0 ≤ p1 ∧ p1 ≤ 2147483647 := (vc_X12_ring_1 h1 hp1)
  refine mr_iload_n (pc := 4) (z := p1) dX1_goThrough_4 rfl rfl ?_
  refine sv_aload_n (pc := 5) dX1_goThrough_5 rfl rfl ?_
  refine gf_X1_8 (pc := 6) dX1_goThrough_6 wF_X1_21 (A_21 hw) hT fun z4 q5 h6 => ?_
  refine mr_icmp_ge (pc := 9) (tgt := 18) dX1_goThrough_9 (by decide) (r32 h3 rfl) (r32 h6.2 rfl) (fun h7 => ?_) (fun h7 => ?_)
  · exact mr_vret dX1_goThrough_18 rfl (le_t rfl) (le_t rfl) hT mF.refl trivial
  have h8 : 0 ≤ p1 ∧ p1 ≤ 11 := (vc_X1_goThrough_13_3 h7 h1 h6.1 h3 h6.2)
  have h9 : 1 ≤ z4 ∧ z4 ≤ 12 := (vc_X1_goThrough_13_4 h7 h1 h6.1 h8 h6.2)
  refine mr_iload_n (pc := 12) (z := p2) dX1_goThrough_12 rfl rfl ?_
  refine mr_bipush (pc := 13) (z := 12) dX1_goThrough_13 (by decide) ?_
  refine mr_icmp_le (pc := 15) (tgt := 19) dX1_goThrough_15 (by decide) (r32 hp2 rfl) (r32 (rR (x := 12)) rfl) (fun _ => ?_) (fun h => ((vc_X1_goThrough_4_5 h hp2)).elim)
  refine sv_aload_n (pc := 19) dX1_goThrough_19 rfl rfl ?_
  refine gf_X1_1 (pc := 20) dX1_goThrough_20 wF_X1_17 (A_21 hw) hT ?_
  refine mr_iload_n (pc := 23) (z := p1) dX1_goThrough_23 rfl rfl ?_
  refine la_22 (pc := 24) dX1_goThrough_24 (A_22 hw) hT (rIx (n := 12) h8 rfl) (vc_X1_goThrough_12_6 h1 h6.1 h7 h8 h9) fun b10 q11 A12 => ?_
  refine mr_astore_n (pc := 25) (lv' := [(3, .ref b10), (0, .ref 21), (1, iv p1), (2, iv p2)]) dX1_goThrough_25 rfl (by decide) rfl ?_
  obtain ⟨c13, z14, q15, A16, q17, R18, e19, e20⟩ := PC.read hIPC hT A12 (vc_X1_goThrough_12_7 h1 h7 h6.1 h8 h9) (vc_X1_goThrough_12_6 h1 h6.1 h7 h8 h9) q11
  have h21 : 0 ≤ z14 ∧ z14 ≤ 30 := by rw [← q17]; exact hT _ _ A12 0
  refine mr_iconst (pc := 26) (z := 0) dX1_goThrough_26 ?_
  refine mr_istore (pc := 27) (lv' := [(4, iv 0), (3, .ref b10), (0, .ref 21), (1, iv p1), (2, iv p2)]) dX1_goThrough_27 (by decide) rfl ?_
  refine mr_iconst (pc := 29) (z := 0) dX1_goThrough_29 ?_
  refine mr_istore (pc := 30) (lv' := [(5, iv 0), (4, iv 0), (3, .ref b10), (0, .ref 21), (1, iv p1), (2, iv p2)]) dX1_goThrough_30 (by decide) rfl ?_
  have L1192 : ∀ (nL1192 : Nat) (z1190 z1189 : Int) (μ1191 : mM), mT w μ1191 → mF [21006, 21007, 200004, 200006, 200007, 200008, 201999, 202999] w μ μ1191 → (0 ≤ z1190 ∧ z1190 ≤ 2000) → (0 ≤ z1189 ∧ z1189 ≤ 30) → PC w μ1191 → RT μ1191 → wfR (μ c13) (w.2.2.1 c13) (z1190).toNat (z14 - z1189).toNat → (2001 - z1190) < (nL1192 : Int) → sV (gG l D c H0 sa) mX1_goThrough (sRm 21 0 0) (sZ (gG l D c H0 sa) 0 0 (qV w [21006, 21007, 200004, 200006, 200007, 200008, 201999, 202999] μ (fun μ1 => True))) 32 [(0, .ref 21), (2, iv p2), (3, .ref b10), (4, iv z1190), (5, iv z1189)] [] (mk w μ1191) 0 0 := by
    intro nL1192
    induction nL1192 with
    | zero => intro z1190 z1189 μ1191 T1195 F1196 h1193 h1194 I1198 I1199 R1200 h1201; exact ((vc_X1_goThrough_12_8 h1201 h1193)).elim
    | succ nL1192 ih1202 =>
      intro z1190 z1189 μ1191 T1195 F1196 h1193 h1194 I1198 I1199 R1200 h1201
      refine mr_iload (pc := 32) (z := z1189) dX1_goThrough_32 rfl ?_
      refine sv_aload_n (pc := 34) dX1_goThrough_34 rfl rfl ?_
      refine gk_X5_0 (pc := 35) dX1_goThrough_35 wF_X1_57 A12 (F1196.f A12 rfl q17) ?_
      refine mr_icmp_ge (pc := 38) (tgt := 174) dX1_goThrough_38 (by decide) (r32 h1194 rfl) (r32 h21 rfl) (fun h1267 => ?_) (fun h1267 => ?_)
      · exact mr_vret dX1_goThrough_174 rfl (le_t rfl) (le_t rfl) T1195 (mF.call mF.refl F1196 rfl) trivial
      have h1268 : 0 ≤ z1189 ∧ z1189 ≤ 29 := (vc_X12_judgedAnew_2 h1267 h1194 h21)
      have h1269 : 1 ≤ z14 ∧ z14 ≤ 30 := (vc_X12_judgedAnew_3 h1267 h1268 h21)
      refine sv_aload_n (pc := 41) dX1_goThrough_41 rfl rfl ?_
      refine gf_X1_7 (pc := 42) dX1_goThrough_42 wF_X1_50 (A_21 hw) T1195 fun z1270 q1271 h1272 => ?_
      refine mr_if_ne (pc := 45) (tgt := 174) dX1_goThrough_45 (by decide) (r32 h1272 rfl) (fun h1332 => ?_) (fun h1332 => ?_)
      · have h1333 : 1 ≤ z1270 ∧ z1270 ≤ 2 := (vc_X12_provides_3 h1332 h1272)
        exact mr_vret dX1_goThrough_174 rfl (le_t rfl) (le_t rfl) T1195 (mF.call mF.refl F1196 rfl) trivial
      have h1334 : 0 ≤ z1270 ∧ z1270 ≤ 0 := (vc_X12_provides_4 h1332 h1272)
      obtain ⟨n_1335, q1336⟩ : ∃ n : Int, (w.2.2.1 c13 : Int) = n := ⟨_, rfl⟩
      have h1337 : 0 ≤ n_1335 ∧ n_1335 ≤ 2000 := lnR (m := 2000) q1336 A16 rfl
      have h1338 : z1190 + 1 < n_1335 := lnLt q1336 (wfR.hd R1200 (vc_X1_goThrough_12_13 h1193) (vc_X1_goThrough_12_14 h1267 h1268 h1269))
      refine sv_aload_n (pc := 48) dX1_goThrough_48 rfl rfl ?_
      refine gk_X5_1 (pc := 49) dX1_goThrough_49 wF_X1_60 A12 (F1196.f A12 rfl q15) ?_
      refine mr_iload (pc := 52) (z := z1190) dX1_goThrough_52 rfl ?_
      refine la_231 (pc := 54) dX1_goThrough_54 A16 T1195 (lnC q1336 (vc_X1_goThrough_12_15 h1338 h1337 h1193)) fun z1339 q1340 h1341 => ?_
      refine mr_istore (pc := 55) (lv' := [(6, iv z1339), (0, .ref 21), (2, iv p2), (3, .ref b10), (4, iv z1190), (5, iv z1189)]) dX1_goThrough_55 (by decide) rfl ?_
      refine sv_aload_n (pc := 57) dX1_goThrough_57 rfl rfl ?_
      refine gk_X5_1 (pc := 58) dX1_goThrough_58 wF_X1_60 A12 (F1196.f A12 rfl q15) ?_
      refine mr_iload (pc := 61) (z := z1190) dX1_goThrough_61 rfl ?_
      refine mr_iconst (pc := 63) (z := 1) dX1_goThrough_63 ?_
      refine mr_iadd (pc := 64) (x := z1190) (y := 1) dX1_goThrough_64 ?_
      refine la_231 (pc := 65) dX1_goThrough_65 A16 T1195 (lnC q1336 (vc_X1_goThrough_12_16 h1338 h1337 h1193)) fun z1342 q1343 h1344 => ?_
      have B1345 := wfR.bd R1200 (vc_X1_goThrough_12_13 h1193) (vc_X1_goThrough_12_14 h1267 h1268 h1269) ((((mF.call mF.refl F1196 rfl) : mF [21006, 21007, 200004, 200006, 200007, 200008, 201999, 202999] w μ μ1191).f A16 rfl rfl).symm.trans q1340) ((((mF.call mF.refl F1196 rfl) : mF [21006, 21007, 200004, 200006, 200007, 200008, 201999, 202999] w μ μ1191).f A16 rfl rfl).symm.trans q1343)
      have h1346 : 0 ≤ z1339 ∧ 0 ≤ z1342 ∧ z1190 + 2 + 5 * z1339 + 2 * z1342 ≤ n_1335 := ⟨B1345.1.1, B1345.1.2.1, lnLe q1336 B1345.1.2.2⟩
      have h1347 : 0 ≤ z1339 ∧ z1339 ≤ 400 := (vc_X1_goThrough_12_17 h1346 h1338 h1337 h1193 h1341 h1344)
      have h1348 : 0 ≤ z1342 ∧ z1342 ≤ 1000 := (vc_X1_goThrough_12_18 h1346 h1338 h1337 h1193 h1347 h1344)
      refine mr_istore (pc := 66) (lv' := [(7, iv z1342), (6, iv z1339), (0, .ref 21), (2, iv p2), (3, .ref b10), (4, iv z1190), (5, iv z1189)]) dX1_goThrough_66 (by decide) rfl ?_
      refine mr_iload (pc := 68) (z := z1190) dX1_goThrough_68 rfl ?_
      refine mr_iconst (pc := 70) (z := 2) dX1_goThrough_70 ?_
      refine mr_iadd (pc := 71) (x := z1190) (y := 2) dX1_goThrough_71 ?_
      refine mr_iload (pc := 72) (z := z1339) dX1_goThrough_72 rfl ?_
      refine mr_iconst (pc := 74) (z := 5) dX1_goThrough_74 ?_
      refine mr_imul (pc := 75) (x := z1339) (y := 5) dX1_goThrough_75 ?_
      refine mr_iadd (pc := 76) (x := (z1190 + 2)) (y := (z1339 * 5)) dX1_goThrough_76 ?_
      refine mr_istore (pc := 77) (lv' := [(8, iv ((z1190 + 2) + (z1339 * 5))), (7, iv z1342), (6, iv z1339), (0, .ref 21), (2, iv p2), (3, .ref b10), (4, iv z1190), (5, iv z1189)]) dX1_goThrough_77 (by decide) rfl ?_
      refine mr_iconst (pc := 79) (z := 1) dX1_goThrough_79 ?_
      refine mr_istore (pc := 80) (lv' := [(9, iv 1), (8, iv ((z1190 + 2) + (z1339 * 5))), (7, iv z1342), (6, iv z1339), (0, .ref 21), (2, iv p2), (3, .ref b10), (4, iv z1190), (5, iv z1189)]) dX1_goThrough_80 (by decide) rfl ?_
      refine mr_iload (pc := 82) (z := z1190) dX1_goThrough_82 rfl ?_
      refine mr_iconst (pc := 84) (z := 2) dX1_goThrough_84 ?_
      refine mr_iadd (pc := 85) (x := z1190) (y := 2) dX1_goThrough_85 ?_
      refine mr_istore (pc := 86) (lv' := [(10, iv (z1190 + 2)), (9, iv 1), (8, iv ((z1190 + 2) + (z1339 * 5))), (7, iv z1342), (6, iv z1339), (0, .ref 21), (2, iv p2), (3, .ref b10), (4, iv z1190), (5, iv z1189)]) dX1_goThrough_86 (by decide) rfl ?_
      have L1468 : ∀ (nL1468 : Nat) (z1467 z1466 : Int), True → (0 ≤ z1467 ∧ z1467 ≤ 1) → (2 ≤ z1466 ∧ z1466 ≤ 2010) → ((((z1190 + 2) + (z1339 * 5)) - z1466) % 5 = 0) → (2011 - z1466) < (nL1468 : Int) → sV (gG l D c H0 sa) mX1_goThrough (sRm 21 0 0) (sZ (gG l D c H0 sa) 0 0 (qV w [21006, 21007, 200004, 200006, 200007, 200008, 201999, 202999] μ (fun μ1 => True))) 88 [(0, .ref 21), (2, iv p2), (3, .ref b10), (5, iv z1189), (7, iv z1342), (8, iv ((z1190 + 2) + (z1339 * 5))), (9, iv z1467), (10, iv z1466)] [] (mk w μ1191) 0 0 := by
        intro nL1468
        induction nL1468 with
        | zero => intro z1467 z1466 _ h1469 h1470 h1474 h1475; exact ((vc_X1_goThrough_12_19 h1475 h1474 h1338 h1346 h1337 h1193 h1347 h1348 h1470)).elim
        | succ nL1468 ih1476 =>
          intro z1467 z1466 _ h1469 h1470 h1474 h1475
          refine mr_iload (pc := 88) (z := z1466) dX1_goThrough_88 rfl ?_
          refine mr_iload (pc := 90) (z := ((z1190 + 2) + (z1339 * 5))) dX1_goThrough_90 rfl ?_
          have J1492 : sV (gG l D c H0 sa) mX1_goThrough (sRm 21 0 0) (sZ (gG l D c H0 sa) 0 0 (qV w [21006, 21007, 200004, 200006, 200007, 200008, 201999, 202999] μ (fun μ1 => True))) 141 [(0, .ref 21), (2, iv p2), (3, .ref b10), (5, iv z1189), (7, iv z1342), (8, iv ((z1190 + 2) + (z1339 * 5))), (9, iv z1467)] [] (mk w μ1191) 0 0 := by
            refine mr_iload (pc := 141) (z := z1467) dX1_goThrough_141 rfl ?_
            refine mr_if_eq (pc := 143) (tgt := 159) dX1_goThrough_143 (by decide) (r32 h1469 rfl) (fun h1499 => ?_) (fun h1499 => ?_)
            · have h1500 : 0 ≤ z1467 ∧ z1467 ≤ 0 := (vc_X12_ring_22 h1499 h1469)
              refine mr_iload (pc := 159) (z := ((z1190 + 2) + (z1339 * 5))) dX1_goThrough_159 rfl ?_
              refine mr_iload (pc := 161) (z := z1342) dX1_goThrough_161 rfl ?_
              refine mr_iconst (pc := 163) (z := 2) dX1_goThrough_163 ?_
              refine mr_imul (pc := 164) (x := z1342) (y := 2) dX1_goThrough_164 ?_
              refine mr_iadd (pc := 165) (x := ((z1190 + 2) + (z1339 * 5))) (y := (z1342 * 2)) dX1_goThrough_165 ?_
              refine mr_istore (pc := 166) (lv' := [(4, iv (((z1190 + 2) + (z1339 * 5)) + (z1342 * 2))), (0, .ref 21), (2, iv p2), (3, .ref b10), (5, iv z1189), (7, iv z1342), (8, iv ((z1190 + 2) + (z1339 * 5))), (9, iv z1467)]) dX1_goThrough_166 (by decide) rfl ?_
              refine mr_iinc (pc := 168) (lv' := [(5, iv (z1189 + 1)), (4, iv (((z1190 + 2) + (z1339 * 5)) + (z1342 * 2))), (0, .ref 21), (2, iv p2), (3, .ref b10), (7, iv z1342), (8, iv ((z1190 + 2) + (z1339 * 5))), (9, iv z1467)]) dX1_goThrough_168 rfl (by decide) rfl ?_
              refine sv_goto (pc := 171) (tgt := 32) dX1_goThrough_171 (by decide) ?_
              refine mr_lvS (lv' := [(0, .ref 21), (2, iv p2), (3, .ref b10), (4, iv (((z1190 + 2) + (z1339 * 5)) + (z1342 * 2))), (5, iv (z1189 + 1))]) (List.forall_mem_cons.mpr ⟨rfl, List.forall_mem_cons.mpr ⟨rfl, List.forall_mem_cons.mpr ⟨rfl, List.forall_mem_cons.mpr ⟨rfl, List.forall_mem_cons.mpr ⟨rfl, fun _ h => absurd h List.not_mem_nil⟩⟩⟩⟩⟩) ?_
              exact ih1202 (((z1190 + 2) + (z1339 * 5)) + (z1342 * 2)) (z1189 + 1) μ1191 T1195 (mF.call mF.refl F1196 rfl) (vc_X1_goThrough_12_21 h1338 h1346 h1474 h1337 h1193 h1347 h1348 h1470) (rW (c := 0) (d := 30) (rAdd (e := 1) (f := 30) h1268 (rR (x := 1)) rfl) rfl) I1198 I1199 (wfR.cg B1345.2.2 (vc_X1_goThrough_12_23 h1338 h1346 h1474 h1337 h1193 h1347 h1348 h1470)) (vc_X1_goThrough_12_22 (nS h1201) h1338 h1346 h1474 h1337 h1193 h1347 h1348 h1470)
            have h1501 : 1 ≤ z1467 ∧ z1467 ≤ 1 := (vc_X12_ring_24 h1499 h1469)
            refine sv_aload_n (pc := 146) dX1_goThrough_146 rfl rfl ?_
            refine sv_aload_n (pc := 147) dX1_goThrough_147 rfl rfl ?_
            refine gk_X5_1 (pc := 148) dX1_goThrough_148 wF_X1_60 A12 (F1196.f A12 rfl q15) ?_
            refine mr_iload (pc := 151) (z := ((z1190 + 2) + (z1339 * 5))) dX1_goThrough_151 rfl ?_
            refine mr_iload (pc := 153) (z := z1342) dX1_goThrough_153 rfl ?_
            refine mr_iload_n (pc := 155) (z := p2) dX1_goThrough_155 rfl rfl ?_
            refine mr_cVV (pc := 156) (c_X1_doActs_4 hw T1195 A16 (vc_X1_goThrough_12_25 h1338 h1346 h1474 h1337 h1193 h1347 h1348 h1470) h1348 hp2 I1198 I1199 (lnL q1336 (vc_X1_goThrough_12_26 h1338 h1346 h1474 h1337 h1193 h1347 h1348 h1470)) (argC B1345.2.1 (vc_X1_goThrough_12_27 h1338 h1346 h1474 h1337 h1193 h1347 h1348 h1470) (funext fun i => ((mF.call mF.refl F1196 rfl) : mF [21006, 21007, 200004, 200006, 200007, 200008, 201999, 202999] w μ μ1191).f A16 rfl rfl))) (gOk _ _ _ _ _) dX1_goThrough_156 (tX1_doActs _ _ _ _ _) ⟨wV_X1_doActs, wL_X1_doActs⟩ wM_X1_68 (gCX1 _ _ _ _ _) rfl (A_21 hw) rfl ⟨le_t rfl, le_t rfl⟩ ⟨le_t rfl, le_t rfl⟩ rfl (le_t rfl) fun μ1502 T1503 F1504 h1505 => ?_
            refine mr_iload (pc := 159) (z := ((z1190 + 2) + (z1339 * 5))) dX1_goThrough_159 rfl ?_
            refine mr_iload (pc := 161) (z := z1342) dX1_goThrough_161 rfl ?_
            refine mr_iconst (pc := 163) (z := 2) dX1_goThrough_163 ?_
            refine mr_imul (pc := 164) (x := z1342) (y := 2) dX1_goThrough_164 ?_
            refine mr_iadd (pc := 165) (x := ((z1190 + 2) + (z1339 * 5))) (y := (z1342 * 2)) dX1_goThrough_165 ?_
            refine mr_istore (pc := 166) (lv' := [(4, iv (((z1190 + 2) + (z1339 * 5)) + (z1342 * 2))), (0, .ref 21), (2, iv p2), (3, .ref b10), (5, iv z1189), (7, iv z1342), (8, iv ((z1190 + 2) + (z1339 * 5))), (9, iv z1467)]) dX1_goThrough_166 (by decide) rfl ?_
            refine mr_iinc (pc := 168) (lv' := [(5, iv (z1189 + 1)), (4, iv (((z1190 + 2) + (z1339 * 5)) + (z1342 * 2))), (0, .ref 21), (2, iv p2), (3, .ref b10), (7, iv z1342), (8, iv ((z1190 + 2) + (z1339 * 5))), (9, iv z1467)]) dX1_goThrough_168 rfl (by decide) rfl ?_
            refine sv_goto (pc := 171) (tgt := 32) dX1_goThrough_171 (by decide) ?_
            refine mr_lvS (lv' := [(0, .ref 21), (2, iv p2), (3, .ref b10), (4, iv (((z1190 + 2) + (z1339 * 5)) + (z1342 * 2))), (5, iv (z1189 + 1))]) (List.forall_mem_cons.mpr ⟨rfl, List.forall_mem_cons.mpr ⟨rfl, List.forall_mem_cons.mpr ⟨rfl, List.forall_mem_cons.mpr ⟨rfl, List.forall_mem_cons.mpr ⟨rfl, fun _ h => absurd h List.not_mem_nil⟩⟩⟩⟩⟩) ?_
            exact ih1202 (((z1190 + 2) + (z1339 * 5)) + (z1342 * 2)) (z1189 + 1) μ1502 T1503 (mF.call (mF.call mF.refl F1196 rfl) F1504 rfl) (vc_X1_goThrough_12_21 h1338 h1346 h1474 h1337 h1193 h1347 h1348 h1470) (rW (c := 0) (d := 30) (rAdd (e := 1) (f := 30) h1268 (rR (x := 1)) rfl) rfl) (PC.keep I1198 hw ((mF.call mF.refl F1504 rfl) : mF [21006, 21007, 200004, 200006, 200007, 200008, 201999, 202999] w μ1191 μ1502) rfl) (RT.keep I1199 hw ((mF.call mF.refl F1504 rfl) : mF [21006, 21007, 200004, 200006, 200007, 200008, 201999, 202999] w μ1191 μ1502) rfl) (wfR.cg B1345.2.2 (vc_X1_goThrough_12_23 h1338 h1346 h1474 h1337 h1193 h1347 h1348 h1470)) (vc_X1_goThrough_12_22 (nS h1201) h1338 h1346 h1474 h1337 h1193 h1347 h1348 h1470)
          refine mr_icmp_ge (pc := 92) (tgt := 141) dX1_goThrough_92 (by decide) (r32 h1470 rfl) (r32 (rAdd (e := 2) (f := 4002) (rAdd (e := 2) (f := 2002) h1193 (rR (x := 2)) rfl) (rMulR (n := 5) (e := 0) (f := 2000) h1347 rfl) rfl) rfl) (fun h1506 => ?_) (fun h1506 => ?_)
          · refine mr_lvS (lv' := [(0, .ref 21), (2, iv p2), (3, .ref b10), (5, iv z1189), (7, iv z1342), (8, iv ((z1190 + 2) + (z1339 * 5))), (9, iv z1467)]) (List.forall_mem_cons.mpr ⟨rfl, List.forall_mem_cons.mpr ⟨rfl, List.forall_mem_cons.mpr ⟨rfl, List.forall_mem_cons.mpr ⟨rfl, List.forall_mem_cons.mpr ⟨rfl, List.forall_mem_cons.mpr ⟨rfl, List.forall_mem_cons.mpr ⟨rfl, fun _ h => absurd h List.not_mem_nil⟩⟩⟩⟩⟩⟩⟩) ?_
            exact J1492 
          refine mr_iload (pc := 95) (z := z1467) dX1_goThrough_95 rfl ?_
          refine mr_if_eq (pc := 97) (tgt := 141) dX1_goThrough_97 (by decide) (r32 h1469 rfl) (fun h1507 => ?_) (fun h1507 => ?_)
          · have h1508 : 0 ≤ z1467 ∧ z1467 ≤ 0 := (vc_X12_ring_22 h1507 h1469)
            refine mr_lvS (lv' := [(0, .ref 21), (2, iv p2), (3, .ref b10), (5, iv z1189), (7, iv z1342), (8, iv ((z1190 + 2) + (z1339 * 5))), (9, iv z1467)]) (List.forall_mem_cons.mpr ⟨rfl, List.forall_mem_cons.mpr ⟨rfl, List.forall_mem_cons.mpr ⟨rfl, List.forall_mem_cons.mpr ⟨rfl, List.forall_mem_cons.mpr ⟨rfl, List.forall_mem_cons.mpr ⟨rfl, List.forall_mem_cons.mpr ⟨rfl, fun _ h => absurd h List.not_mem_nil⟩⟩⟩⟩⟩⟩⟩) ?_
            exact J1492 
          have h1509 : 1 ≤ z1467 ∧ z1467 ≤ 1 := (vc_X12_ring_24 h1507 h1469)
          refine sv_aload_n (pc := 100) dX1_goThrough_100 rfl rfl ?_
          refine sv_aload_n (pc := 101) dX1_goThrough_101 rfl rfl ?_
          refine mr_iload (pc := 102) (z := z1466) dX1_goThrough_102 rfl ?_
          refine mr_cVP (pc := 104) (c_X1_isSo hw T1195 A12 (vc_X1_goThrough_12_28 h1474 h1506 h1338 h1346 h1337 h1193 h1347 h1348 h1470) I1199 (lnF (F1196.f A12 rfl q15) q1336 (vc_X1_goThrough_12_29 h1338 h1346 h1474 h1506 h1337 h1193 h1347 h1348 h1470)) (by rw [((mF.call mF.refl F1196 rfl) : mF [21006, 21007, 200004, 200006, 200007, 200008, 201999, 202999] w μ μ1191).f (k := 2) A12 rfl rfl, ((mF.call mF.refl F1196 rfl) : mF [21006, 21007, 200004, 200006, 200007, 200008, 201999, 202999] w μ μ1191).f (k := 3) A12 rfl rfl]; exact e19) (by rw [((mF.call mF.refl F1196 rfl) : mF [21006, 21007, 200004, 200006, 200007, 200008, 201999, 202999] w μ μ1191).f (k := 4) A12 rfl rfl, ((mF.call mF.refl F1196 rfl) : mF [21006, 21007, 200004, 200006, 200007, 200008, 201999, 202999] w μ μ1191).f (k := 5) A12 rfl rfl]; exact e20)) (gOk _ _ _ _ _) dX1_goThrough_104 (tX1_isSo _ _ _ _ _) ⟨wV_X1_isSo, wL_X1_isSo⟩ wM_X1_64 (gCX1 _ _ _ _ _) rfl (A_21 hw) rfl ⟨le_t rfl, le_t rfl⟩ ⟨le_t rfl, le_t rfl⟩ rfl (le_t rfl) fun z1514 h1513 => ?_
          refine sv_aload_n (pc := 107) dX1_goThrough_107 rfl rfl ?_
          refine gk_X5_1 (pc := 108) dX1_goThrough_108 wF_X1_60 A12 (F1196.f A12 rfl q15) ?_
          refine mr_iload (pc := 111) (z := z1466) dX1_goThrough_111 rfl ?_
          refine mr_iconst (pc := 113) (z := 1) dX1_goThrough_113 ?_
          refine mr_iadd (pc := 114) (x := z1466) (y := 1) dX1_goThrough_114 ?_
          refine la_231 (pc := 115) dX1_goThrough_115 A16 T1195 (lnC q1336 (vc_X1_goThrough_12_30 h1338 h1346 h1474 h1506 h1337 h1193 h1347 h1348 h1470)) fun z1515 q1516 h1517 => ?_
          refine mr_iconst (pc := 116) (z := 1) dX1_goThrough_116 ?_
          refine mr_icmp_ne (pc := 117) (tgt := 124) dX1_goThrough_117 (by decide) h1517 (r32 (rR (x := 1)) rfl) (fun h1519 => ?_) (fun h1519 => ?_)
          · refine mr_iconst (pc := 124) (z := 0) dX1_goThrough_124 ?_
            refine mr_icmp_eq (pc := 125) (tgt := 132) dX1_goThrough_125 (by decide) (r32 h1513.1 rfl) (r32 (rR (x := 0)) rfl) (fun h1522 => ?_) (fun h1522 => ?_)
            · have h1523 : 0 ≤ z1514 ∧ z1514 ≤ 0 := (vc_X12_ring_22 h1522 h1513.1)
              refine mr_iconst (pc := 132) (z := 0) dX1_goThrough_132 ?_
              refine mr_istore (pc := 133) (lv' := [(9, iv 0), (0, .ref 21), (2, iv p2), (3, .ref b10), (5, iv z1189), (7, iv z1342), (8, iv ((z1190 + 2) + (z1339 * 5))), (10, iv z1466)]) dX1_goThrough_133 (by decide) rfl ?_
              refine mr_iinc (pc := 135) (lv' := [(10, iv (z1466 + 5)), (9, iv 0), (0, .ref 21), (2, iv p2), (3, .ref b10), (5, iv z1189), (7, iv z1342), (8, iv ((z1190 + 2) + (z1339 * 5)))]) dX1_goThrough_135 rfl (by decide) rfl ?_
              refine sv_goto (pc := 138) (tgt := 88) dX1_goThrough_138 (by decide) ?_
              refine mr_lvS (lv' := [(0, .ref 21), (2, iv p2), (3, .ref b10), (5, iv z1189), (7, iv z1342), (8, iv ((z1190 + 2) + (z1339 * 5))), (9, iv 0), (10, iv (z1466 + 5))]) (List.forall_mem_cons.mpr ⟨rfl, List.forall_mem_cons.mpr ⟨rfl, List.forall_mem_cons.mpr ⟨rfl, List.forall_mem_cons.mpr ⟨rfl, List.forall_mem_cons.mpr ⟨rfl, List.forall_mem_cons.mpr ⟨rfl, List.forall_mem_cons.mpr ⟨rfl, List.forall_mem_cons.mpr ⟨rfl, fun _ h => absurd h List.not_mem_nil⟩⟩⟩⟩⟩⟩⟩⟩) ?_
              exact ih1476 0 (z1466 + 5) trivial (rW (c := 0) (d := 1) (rR (x := 0)) rfl) (vc_X1_goThrough_12_32 h1474 h1506 h1338 h1346 h1337 h1193 h1347 h1348 h1470) (vc_X1_goThrough_12_33 h1338 h1346 h1474 h1506 h1337 h1193 h1347 h1348 h1470) (vc_X1_goThrough_12_34 (nS h1475) h1474 h1506 h1338 h1346 h1337 h1193 h1347 h1348 h1470)
            have h1524 : 1 ≤ z1514 ∧ z1514 ≤ 1 := (vc_X12_ring_24 h1522 h1513.1)
            refine mr_iconst (pc := 128) (z := 1) dX1_goThrough_128 ?_
            refine sv_goto (pc := 129) (tgt := 133) dX1_goThrough_129 (by decide) ?_
            refine mr_istore (pc := 133) (lv' := [(9, iv 1), (0, .ref 21), (2, iv p2), (3, .ref b10), (5, iv z1189), (7, iv z1342), (8, iv ((z1190 + 2) + (z1339 * 5))), (10, iv z1466)]) dX1_goThrough_133 (by decide) rfl ?_
            refine mr_iinc (pc := 135) (lv' := [(10, iv (z1466 + 5)), (9, iv 1), (0, .ref 21), (2, iv p2), (3, .ref b10), (5, iv z1189), (7, iv z1342), (8, iv ((z1190 + 2) + (z1339 * 5)))]) dX1_goThrough_135 rfl (by decide) rfl ?_
            refine sv_goto (pc := 138) (tgt := 88) dX1_goThrough_138 (by decide) ?_
            refine mr_lvS (lv' := [(0, .ref 21), (2, iv p2), (3, .ref b10), (5, iv z1189), (7, iv z1342), (8, iv ((z1190 + 2) + (z1339 * 5))), (9, iv 1), (10, iv (z1466 + 5))]) (List.forall_mem_cons.mpr ⟨rfl, List.forall_mem_cons.mpr ⟨rfl, List.forall_mem_cons.mpr ⟨rfl, List.forall_mem_cons.mpr ⟨rfl, List.forall_mem_cons.mpr ⟨rfl, List.forall_mem_cons.mpr ⟨rfl, List.forall_mem_cons.mpr ⟨rfl, List.forall_mem_cons.mpr ⟨rfl, fun _ h => absurd h List.not_mem_nil⟩⟩⟩⟩⟩⟩⟩⟩) ?_
            exact ih1476 1 (z1466 + 5) trivial (rW (c := 0) (d := 1) (rR (x := 1)) rfl) (vc_X1_goThrough_12_32 h1474 h1506 h1338 h1346 h1337 h1193 h1347 h1348 h1470) (vc_X1_goThrough_12_33 h1338 h1346 h1474 h1506 h1337 h1193 h1347 h1348 h1470) (vc_X1_goThrough_12_34 (nS h1475) h1474 h1506 h1338 h1346 h1337 h1193 h1347 h1348 h1470)
          have h1525 : 1 ≤ z1515 ∧ z1515 ≤ 1 := (vc_X0_compareAt_1 h1519 h1517)
          refine mr_iconst (pc := 120) (z := 1) dX1_goThrough_120 ?_
          refine sv_goto (pc := 121) (tgt := 125) dX1_goThrough_121 (by decide) ?_
          refine mr_icmp_eq (pc := 125) (tgt := 132) dX1_goThrough_125 (by decide) (r32 h1513.1 rfl) (r32 (rR (x := 1)) rfl) (fun h1528 => ?_) (fun h1528 => ?_)
          · have h1529 : 1 ≤ z1514 ∧ z1514 ≤ 1 := (vc_X1_goThrough_12_37 h1528 h1513.1)
            refine mr_iconst (pc := 132) (z := 0) dX1_goThrough_132 ?_
            refine mr_istore (pc := 133) (lv' := [(9, iv 0), (0, .ref 21), (2, iv p2), (3, .ref b10), (5, iv z1189), (7, iv z1342), (8, iv ((z1190 + 2) + (z1339 * 5))), (10, iv z1466)]) dX1_goThrough_133 (by decide) rfl ?_
            refine mr_iinc (pc := 135) (lv' := [(10, iv (z1466 + 5)), (9, iv 0), (0, .ref 21), (2, iv p2), (3, .ref b10), (5, iv z1189), (7, iv z1342), (8, iv ((z1190 + 2) + (z1339 * 5)))]) dX1_goThrough_135 rfl (by decide) rfl ?_
            refine sv_goto (pc := 138) (tgt := 88) dX1_goThrough_138 (by decide) ?_
            refine mr_lvS (lv' := [(0, .ref 21), (2, iv p2), (3, .ref b10), (5, iv z1189), (7, iv z1342), (8, iv ((z1190 + 2) + (z1339 * 5))), (9, iv 0), (10, iv (z1466 + 5))]) (List.forall_mem_cons.mpr ⟨rfl, List.forall_mem_cons.mpr ⟨rfl, List.forall_mem_cons.mpr ⟨rfl, List.forall_mem_cons.mpr ⟨rfl, List.forall_mem_cons.mpr ⟨rfl, List.forall_mem_cons.mpr ⟨rfl, List.forall_mem_cons.mpr ⟨rfl, List.forall_mem_cons.mpr ⟨rfl, fun _ h => absurd h List.not_mem_nil⟩⟩⟩⟩⟩⟩⟩⟩) ?_
            exact ih1476 0 (z1466 + 5) trivial (rW (c := 0) (d := 1) (rR (x := 0)) rfl) (vc_X1_goThrough_12_32 h1474 h1506 h1338 h1346 h1337 h1193 h1347 h1348 h1470) (vc_X1_goThrough_12_33 h1338 h1346 h1474 h1506 h1337 h1193 h1347 h1348 h1470) (vc_X1_goThrough_12_34 (nS h1475) h1474 h1506 h1338 h1346 h1337 h1193 h1347 h1348 h1470)
          have h1530 : 0 ≤ z1514 ∧ z1514 ≤ 0 := (vc_X1_goThrough_12_38 h1528 h1513.1)
          refine mr_iconst (pc := 128) (z := 1) dX1_goThrough_128 ?_
          refine sv_goto (pc := 129) (tgt := 133) dX1_goThrough_129 (by decide) ?_
          refine mr_istore (pc := 133) (lv' := [(9, iv 1), (0, .ref 21), (2, iv p2), (3, .ref b10), (5, iv z1189), (7, iv z1342), (8, iv ((z1190 + 2) + (z1339 * 5))), (10, iv z1466)]) dX1_goThrough_133 (by decide) rfl ?_
          refine mr_iinc (pc := 135) (lv' := [(10, iv (z1466 + 5)), (9, iv 1), (0, .ref 21), (2, iv p2), (3, .ref b10), (5, iv z1189), (7, iv z1342), (8, iv ((z1190 + 2) + (z1339 * 5)))]) dX1_goThrough_135 rfl (by decide) rfl ?_
          refine sv_goto (pc := 138) (tgt := 88) dX1_goThrough_138 (by decide) ?_
          refine mr_lvS (lv' := [(0, .ref 21), (2, iv p2), (3, .ref b10), (5, iv z1189), (7, iv z1342), (8, iv ((z1190 + 2) + (z1339 * 5))), (9, iv 1), (10, iv (z1466 + 5))]) (List.forall_mem_cons.mpr ⟨rfl, List.forall_mem_cons.mpr ⟨rfl, List.forall_mem_cons.mpr ⟨rfl, List.forall_mem_cons.mpr ⟨rfl, List.forall_mem_cons.mpr ⟨rfl, List.forall_mem_cons.mpr ⟨rfl, List.forall_mem_cons.mpr ⟨rfl, List.forall_mem_cons.mpr ⟨rfl, fun _ h => absurd h List.not_mem_nil⟩⟩⟩⟩⟩⟩⟩⟩) ?_
          exact ih1476 1 (z1466 + 5) trivial (rW (c := 0) (d := 1) (rR (x := 1)) rfl) (vc_X1_goThrough_12_32 h1474 h1506 h1338 h1346 h1337 h1193 h1347 h1348 h1470) (vc_X1_goThrough_12_33 h1338 h1346 h1474 h1506 h1337 h1193 h1347 h1348 h1470) (vc_X1_goThrough_12_34 (nS h1475) h1474 h1506 h1338 h1346 h1337 h1193 h1347 h1348 h1470)
      refine mr_lvS (lv' := [(0, .ref 21), (2, iv p2), (3, .ref b10), (5, iv z1189), (7, iv z1342), (8, iv ((z1190 + 2) + (z1339 * 5))), (9, iv 1), (10, iv (z1190 + 2))]) (List.forall_mem_cons.mpr ⟨rfl, List.forall_mem_cons.mpr ⟨rfl, List.forall_mem_cons.mpr ⟨rfl, List.forall_mem_cons.mpr ⟨rfl, List.forall_mem_cons.mpr ⟨rfl, List.forall_mem_cons.mpr ⟨rfl, List.forall_mem_cons.mpr ⟨rfl, List.forall_mem_cons.mpr ⟨rfl, fun _ h => absurd h List.not_mem_nil⟩⟩⟩⟩⟩⟩⟩⟩) ?_
      exact L1468 2010 1 (z1190 + 2) trivial (rW (c := 0) (d := 1) (rR (x := 1)) rfl) (rW (c := 2) (d := 2010) (rAdd (e := 2) (f := 2002) h1193 (rR (x := 2)) rfl) rfl) (vc_X1_goThrough_12_39 h1338 h1346 h1337 h1193 h1347 h1348) (vc_X1_goThrough_12_40 h1338 h1346 h1337 h1193 h1347 h1348)
  refine mr_lvS (lv' := [(0, .ref 21), (2, iv p2), (3, .ref b10), (4, iv 0), (5, iv 0)]) (List.forall_mem_cons.mpr ⟨rfl, List.forall_mem_cons.mpr ⟨rfl, List.forall_mem_cons.mpr ⟨rfl, List.forall_mem_cons.mpr ⟨rfl, List.forall_mem_cons.mpr ⟨rfl, fun _ h => absurd h List.not_mem_nil⟩⟩⟩⟩⟩) ?_
  exact L1192 2002 0 0 μ hT mF.refl (rW (c := 0) (d := 2000) (rR (x := 0)) rfl) (rW (c := 0) (d := 30) (rR (x := 0)) rfl) hIPC hIRT R18 vc_X1_goThrough_12_41
set_option maxRecDepth 4000 in
set_option maxHeartbeats 4000000 in
theorem c_X1_doActs_3 {l : Launch} {D : va_G} {c : Nat → ClassId} {H0 : Heap} {sa : Nat × Nat × (Nat → Int32)} {w : mW} {μ : mM} (hw : mWF w) (hT : mT w μ) {a1 : Nat} (hA1 : mAt w a1 231) {p2 : Int} (hp2 : 0 ≤ p2 ∧ p2 ≤ 2000) {p3 : Int} (hp3 : 0 ≤ p3 ∧ p3 ≤ 1000) {p4 : Int} (hp4 : 3 ≤ p4 ∧ p4 ≤ 3) (hIPC : PC w μ) (hIRT : RT μ) (hlen : p2 + 2 * p3 ≤ (w.2.2.1 a1 : Int)) (harg : ∀ i : Int, 0 ≤ i → i < p3 → 0 ≤ μ a1 (p2 + 2 * i + 1).toNat ∧ μ a1 (p2 + 2 * i + 1).toNat ≤ 1000000) : sC (gG l D c H0 sa) mX1_doActs 22 0 0 [.ref 21, .ref a1, iv p2, iv p3, iv p4] (mk w μ) (qV w [21006, 21007, 200004, 200006, 200007, 200008, 201999, 202999] μ (fun μ1 => True)) := by
  refine sC.of rfl (by decide) (le_t rfl) ?_
  refine mr_lvE (lv' := [(0, .ref 21), (1, .ref a1), (2, iv p2), (3, iv p3), (4, iv p4)]) rfl ?_
  obtain ⟨n_1, q2⟩ : ∃ n : Int, (w.2.2.1 a1 : Int) = n := ⟨_, rfl⟩
  have h3 : 0 ≤ n_1 ∧ n_1 ≤ 2000 := lnR (m := 2000) q2 hA1 rfl
  have h4 : p2 + 2 * p3 ≤ n_1 := lnLe q2 hlen
  refine mr_iconst (pc := 0) (z := 0) dX1_doActs_0 ?_
  refine mr_istore (pc := 1) (lv' := [(5, iv 0), (0, .ref 21), (1, .ref a1), (2, iv p2), (3, iv p3), (4, iv p4)]) dX1_doActs_1 (by decide) rfl ?_
  have L1991 : ∀ (nL1991 : Nat) (z1989 : Int) (μ1990 : mM), mT w μ1990 → mF [21006, 21007, 200004, 200006, 200007, 200008, 201999, 202999] w μ μ1990 → (0 ≤ z1989 ∧ z1989 ≤ 1000) → PC w μ1990 → RT μ1990 → (1001 - z1989) < (nL1991 : Int) → sV (gG l D c H0 sa) mX1_doActs (sRm 22 0 0) (sZ (gG l D c H0 sa) 0 0 (qV w [21006, 21007, 200004, 200006, 200007, 200008, 201999, 202999] μ (fun μ1 => True))) 3 [(0, .ref 21), (1, .ref a1), (2, iv p2), (3, iv p3), (4, iv p4), (5, iv z1989)] [] (mk w μ1990) 0 0 := by
    intro nL1991
    induction nL1991 with
    | zero => intro z1989 μ1990 T1993 F1994 h1992 I1996 I1997 h1998; exact ((vc_X1_doActs_12_1 h1998 h1992)).elim
    | succ nL1991 ih1999 =>
      intro z1989 μ1990 T1993 F1994 h1992 I1996 I1997 h1998
      refine mr_iload (pc := 3) (z := z1989) dX1_doActs_3 rfl ?_
      refine mr_iload_n (pc := 5) (z := p3) dX1_doActs_5 rfl rfl ?_
      refine mr_icmp_ge (pc := 6) (tgt := 266) dX1_doActs_6 (by decide) (r32 h1992 rfl) (r32 hp3 rfl) (fun h2000 => ?_) (fun h2000 => ?_)
      · exact mr_vret dX1_doActs_266 rfl (le_t rfl) (le_t rfl) T1993 (mF.call mF.refl F1994 rfl) trivial
      have h2001 : 0 ≤ z1989 ∧ z1989 ≤ 999 := (vc_X1_doActs_12_2 h2000 h4 h3 hp2 hp3 h1992)
      have h2002 : 1 ≤ p3 ∧ p3 ≤ 1000 := (vc_X1_doActs_12_3 h2000 h4 h3 hp2 hp3 h2001)
      refine sv_aload_n (pc := 9) dX1_doActs_9 rfl rfl ?_
      refine gf_X1_7 (pc := 10) dX1_doActs_10 wF_X1_50 (A_21 hw) T1993 fun z2003 q2004 h2005 => ?_
      refine mr_if_ne (pc := 13) (tgt := 266) dX1_doActs_13 (by decide) (r32 h2005 rfl) (fun h2006 => ?_) (fun h2006 => ?_)
      · have h2007 : 1 ≤ z2003 ∧ z2003 ≤ 2 := (vc_X12_provides_3 h2006 h2005)
        exact mr_vret dX1_doActs_266 rfl (le_t rfl) (le_t rfl) T1993 (mF.call mF.refl F1994 rfl) trivial
      have h2008 : 0 ≤ z2003 ∧ z2003 ≤ 0 := (vc_X12_provides_4 h2006 h2005)
      refine sv_aload_n (pc := 16) dX1_doActs_16 rfl rfl ?_
      refine mr_iload_n (pc := 17) (z := p2) dX1_doActs_17 rfl rfl ?_
      refine mr_iload (pc := 18) (z := z1989) dX1_doActs_18 rfl ?_
      refine mr_iconst (pc := 20) (z := 2) dX1_doActs_20 ?_
      refine mr_imul (pc := 21) (x := z1989) (y := 2) dX1_doActs_21 ?_
      refine mr_iadd (pc := 22) (x := p2) (y := (z1989 * 2)) dX1_doActs_22 ?_
      refine mr_iconst (pc := 23) (z := 1) dX1_doActs_23 ?_
      refine mr_iadd (pc := 24) (x := (p2 + (z1989 * 2))) (y := 1) dX1_doActs_24 ?_
      refine la_231 (pc := 25) dX1_doActs_25 hA1 T1993 (lnC q2 (vc_X1_doActs_12_6 h4 h2000 h3 hp2 h2002 h2001)) fun z2009 q2010 h2011 => ?_
      have h2012 : 0 ≤ z2009 ∧ z2009 ≤ 1000000 := argB harg (vc_X1_doActs_12_7 h2000 h4 h3 hp2 h2002 h2001) (vc_X1_doActs_12_8 h4 h2000 h3 hp2 h2002 h2001) (vc_X1_doActs_12_9 h4 h2000 h3 hp2 h2002 h2001) (((mF.call mF.refl F1994 rfl) : mF [21006, 21007, 200004, 200006, 200007, 200008, 201999, 202999] w μ μ1990).f hA1 rfl rfl) q2010
      refine mr_istore (pc := 26) (lv' := [(6, iv z2009), (0, .ref 21), (1, .ref a1), (2, iv p2), (3, iv p3), (4, iv p4), (5, iv z1989)]) dX1_doActs_26 (by decide) rfl ?_
      refine sv_aload_n (pc := 28) dX1_doActs_28 rfl rfl ?_
      refine gf_X1_6 (pc := 29) dX1_doActs_29 wF_X1_47 (A_21 hw) T1993 fun z2013 q2014 h2015 => ?_
      refine mr_sipush (pc := 32) (z := 500) dX1_doActs_32 (by decide) ?_
      refine mr_icmp_lt (pc := 35) (tgt := 44) dX1_doActs_35 (by decide) (r32 h2015 rfl) (r32 (rR (x := 500)) rfl) (fun h2016 => ?_) (fun h2016 => ?_)
      · have h2017 : 0 ≤ z2013 ∧ z2013 ≤ 499 := (vc_X1_doActs_12_10 h2016 h2015)
        refine sv_aload_n (pc := 44) dX1_doActs_44 rfl rfl ?_
        refine sv_dup (pc := 45) dX1_doActs_45 rfl ?_
        refine gk_X1_6 (pc := 46) dX1_doActs_46 wF_X1_47 (A_21 hw) q2014 ?_
        refine mr_iconst (pc := 49) (z := 1) dX1_doActs_49 ?_
        refine mr_iadd (pc := 50) (x := z2013) (y := 1) dX1_doActs_50 ?_
        refine pf_X1_6 (pc := 51) dX1_doActs_51 wF_X1_47 (A_21 hw) T1993 (rW (c := 0) (d := 500) (rAdd (e := 1) (f := 500) h2017 (rR (x := 1)) rfl) rfl) fun μ2018 u2019 T2020 => ?_
        refine sv_aload_n (pc := 54) dX1_doActs_54 rfl rfl ?_
        refine mr_iload_n (pc := 55) (z := p2) dX1_doActs_55 rfl rfl ?_
        refine mr_iload (pc := 56) (z := z1989) dX1_doActs_56 rfl ?_
        refine mr_iconst (pc := 58) (z := 2) dX1_doActs_58 ?_
        refine mr_imul (pc := 59) (x := z1989) (y := 2) dX1_doActs_59 ?_
        refine mr_iadd (pc := 60) (x := p2) (y := (z1989 * 2)) dX1_doActs_60 ?_
        refine la_231 (pc := 61) dX1_doActs_61 hA1 T2020 (lnC q2 (vc_X1_doActs_12_11 h4 h2000 h3 hp2 h2002 h2001)) fun z2021 q2022 h2023 => ?_
        by_cases h2024 : z2021 = 12
        · refine mr_tableIn (pc := 62) (v := 12) (tgt := 184) dX1_doActs_62 h2024 rfl rfl (by decide) ?_
          have h2025 : 12 ≤ z2021 ∧ z2021 ≤ 12 := (vc_X1_doActs_12_12 h2024 h2023)
          refine sv_aload_n (pc := 184) dX1_doActs_184 rfl rfl ?_
          refine gf_X1_2 (pc := 185) dX1_doActs_185 wF_X1_25 (A_21 hw) T2020 (RT.keep I1997 hw ((mF.up mF.refl (A_21 hw) u2019 rfl) : mF [21006] w μ1990 μ2018) rfl) fun b2026 q2027 A2028 => ?_
          refine mr_iload (pc := 188) (z := z2009) dX1_doActs_188 rfl ?_
          refine pf_X7_4 (pc := 190) dX1_doActs_190 wF_X1_105 A2028 T2020 (rW (c := (-2147483648)) (d := 2147483647) h2012 rfl) fun μ2029 u2030 T2031 => ?_
          refine sv_goto (pc := 193) (tgt := 260) dX1_doActs_193 (by decide) ?_
          refine mr_iinc (pc := 260) (lv' := [(5, iv (z1989 + 1)), (6, iv z2009), (0, .ref 21), (1, .ref a1), (2, iv p2), (3, iv p3), (4, iv p4)]) dX1_doActs_260 rfl (by decide) rfl ?_
          refine sv_goto (pc := 263) (tgt := 3) dX1_doActs_263 (by decide) ?_
          refine mr_lvS (lv' := [(0, .ref 21), (1, .ref a1), (2, iv p2), (3, iv p3), (4, iv p4), (5, iv (z1989 + 1))]) (List.forall_mem_cons.mpr ⟨rfl, List.forall_mem_cons.mpr ⟨rfl, List.forall_mem_cons.mpr ⟨rfl, List.forall_mem_cons.mpr ⟨rfl, List.forall_mem_cons.mpr ⟨rfl, List.forall_mem_cons.mpr ⟨rfl, fun _ h => absurd h List.not_mem_nil⟩⟩⟩⟩⟩⟩) ?_
          exact ih1999 (z1989 + 1) μ2029 T2031 (mF.up (mF.up (mF.call mF.refl F1994 rfl) (A_21 hw) u2019 rfl) A2028 u2030 rfl) (rW (c := 0) (d := 1000) (rAdd (e := 1) (f := 1000) h2001 (rR (x := 1)) rfl) rfl) (PC.keep I1996 hw ((mF.up (mF.up mF.refl (A_21 hw) u2019 rfl) A2028 u2030 rfl) : mF [21006, 200004] w μ1990 μ2029) rfl) (RT.keep I1997 hw ((mF.up (mF.up mF.refl (A_21 hw) u2019 rfl) A2028 u2030 rfl) : mF [21006, 200004] w μ1990 μ2029) rfl) (vc_X1_doActs_12_13 (nS h1998) h2000 h4 h3 hp2 h2002 h2001)
        by_cases h2032 : z2021 = 13
        · refine mr_tableIn (pc := 62) (v := 13) (tgt := 196) dX1_doActs_62 h2032 rfl rfl (by decide) ?_
          have h2033 : 13 ≤ z2021 ∧ z2021 ≤ 13 := (vc_X1_doActs_12_14 h2032 h2024 h2023)
          refine sv_aload_n (pc := 196) dX1_doActs_196 rfl rfl ?_
          refine gf_X1_2 (pc := 197) dX1_doActs_197 wF_X1_25 (A_21 hw) T2020 (RT.keep I1997 hw ((mF.up mF.refl (A_21 hw) u2019 rfl) : mF [21006] w μ1990 μ2018) rfl) fun b2034 q2035 A2036 => ?_
          refine mr_iload (pc := 200) (z := z2009) dX1_doActs_200 rfl ?_
          refine pf_X7_6 (pc := 202) dX1_doActs_202 wF_X1_108 A2036 T2020 (rW (c := (-2147483648)) (d := 2147483647) h2012 rfl) fun μ2037 u2038 T2039 => ?_
          refine sv_goto (pc := 205) (tgt := 260) dX1_doActs_205 (by decide) ?_
          refine mr_iinc (pc := 260) (lv' := [(5, iv (z1989 + 1)), (6, iv z2009), (0, .ref 21), (1, .ref a1), (2, iv p2), (3, iv p3), (4, iv p4)]) dX1_doActs_260 rfl (by decide) rfl ?_
          refine sv_goto (pc := 263) (tgt := 3) dX1_doActs_263 (by decide) ?_
          refine mr_lvS (lv' := [(0, .ref 21), (1, .ref a1), (2, iv p2), (3, iv p3), (4, iv p4), (5, iv (z1989 + 1))]) (List.forall_mem_cons.mpr ⟨rfl, List.forall_mem_cons.mpr ⟨rfl, List.forall_mem_cons.mpr ⟨rfl, List.forall_mem_cons.mpr ⟨rfl, List.forall_mem_cons.mpr ⟨rfl, List.forall_mem_cons.mpr ⟨rfl, fun _ h => absurd h List.not_mem_nil⟩⟩⟩⟩⟩⟩) ?_
          exact ih1999 (z1989 + 1) μ2037 T2039 (mF.up (mF.up (mF.call mF.refl F1994 rfl) (A_21 hw) u2019 rfl) A2036 u2038 rfl) (rW (c := 0) (d := 1000) (rAdd (e := 1) (f := 1000) h2001 (rR (x := 1)) rfl) rfl) (PC.keep I1996 hw ((mF.up (mF.up mF.refl (A_21 hw) u2019 rfl) A2036 u2038 rfl) : mF [21006, 200006] w μ1990 μ2037) rfl) (RT.keep I1997 hw ((mF.up (mF.up mF.refl (A_21 hw) u2019 rfl) A2036 u2038 rfl) : mF [21006, 200006] w μ1990 μ2037) rfl) (vc_X1_doActs_12_13 (nS h1998) h2000 h4 h3 hp2 h2002 h2001)
        by_cases h2040 : z2021 = 14
        · refine mr_tableIn (pc := 62) (v := 14) (tgt := 260) dX1_doActs_62 h2040 rfl rfl (by decide) ?_
          have h2041 : 14 ≤ z2021 ∧ z2021 ≤ 14 := (vc_X1_doActs_12_15 h2040 h2024 h2032 h2023)
          refine mr_iinc (pc := 260) (lv' := [(5, iv (z1989 + 1)), (6, iv z2009), (0, .ref 21), (1, .ref a1), (2, iv p2), (3, iv p3), (4, iv p4)]) dX1_doActs_260 rfl (by decide) rfl ?_
          refine sv_goto (pc := 263) (tgt := 3) dX1_doActs_263 (by decide) ?_
          refine mr_lvS (lv' := [(0, .ref 21), (1, .ref a1), (2, iv p2), (3, iv p3), (4, iv p4), (5, iv (z1989 + 1))]) (List.forall_mem_cons.mpr ⟨rfl, List.forall_mem_cons.mpr ⟨rfl, List.forall_mem_cons.mpr ⟨rfl, List.forall_mem_cons.mpr ⟨rfl, List.forall_mem_cons.mpr ⟨rfl, List.forall_mem_cons.mpr ⟨rfl, fun _ h => absurd h List.not_mem_nil⟩⟩⟩⟩⟩⟩) ?_
          exact ih1999 (z1989 + 1) μ2018 T2020 (mF.up (mF.call mF.refl F1994 rfl) (A_21 hw) u2019 rfl) (rW (c := 0) (d := 1000) (rAdd (e := 1) (f := 1000) h2001 (rR (x := 1)) rfl) rfl) (PC.keep I1996 hw ((mF.up mF.refl (A_21 hw) u2019 rfl) : mF [21006] w μ1990 μ2018) rfl) (RT.keep I1997 hw ((mF.up mF.refl (A_21 hw) u2019 rfl) : mF [21006] w μ1990 μ2018) rfl) (vc_X1_doActs_12_13 (nS h1998) h2000 h4 h3 hp2 h2002 h2001)
        by_cases h2042 : z2021 = 15
        · refine mr_tableIn (pc := 62) (v := 15) (tgt := 260) dX1_doActs_62 h2042 rfl rfl (by decide) ?_
          have h2043 : 15 ≤ z2021 ∧ z2021 ≤ 15 := (vc_X1_doActs_12_16 h2042 h2024 h2032 h2040 h2023)
          refine mr_iinc (pc := 260) (lv' := [(5, iv (z1989 + 1)), (6, iv z2009), (0, .ref 21), (1, .ref a1), (2, iv p2), (3, iv p3), (4, iv p4)]) dX1_doActs_260 rfl (by decide) rfl ?_
          refine sv_goto (pc := 263) (tgt := 3) dX1_doActs_263 (by decide) ?_
          refine mr_lvS (lv' := [(0, .ref 21), (1, .ref a1), (2, iv p2), (3, iv p3), (4, iv p4), (5, iv (z1989 + 1))]) (List.forall_mem_cons.mpr ⟨rfl, List.forall_mem_cons.mpr ⟨rfl, List.forall_mem_cons.mpr ⟨rfl, List.forall_mem_cons.mpr ⟨rfl, List.forall_mem_cons.mpr ⟨rfl, List.forall_mem_cons.mpr ⟨rfl, fun _ h => absurd h List.not_mem_nil⟩⟩⟩⟩⟩⟩) ?_
          exact ih1999 (z1989 + 1) μ2018 T2020 (mF.up (mF.call mF.refl F1994 rfl) (A_21 hw) u2019 rfl) (rW (c := 0) (d := 1000) (rAdd (e := 1) (f := 1000) h2001 (rR (x := 1)) rfl) rfl) (PC.keep I1996 hw ((mF.up mF.refl (A_21 hw) u2019 rfl) : mF [21006] w μ1990 μ2018) rfl) (RT.keep I1997 hw ((mF.up mF.refl (A_21 hw) u2019 rfl) : mF [21006] w μ1990 μ2018) rfl) (vc_X1_doActs_12_13 (nS h1998) h2000 h4 h3 hp2 h2002 h2001)
        by_cases h2044 : z2021 = 16
        · refine mr_tableIn (pc := 62) (v := 16) (tgt := 260) dX1_doActs_62 h2044 rfl rfl (by decide) ?_
          have h2045 : 16 ≤ z2021 ∧ z2021 ≤ 16 := (vc_X1_doActs_12_17 h2044 h2024 h2032 h2040 h2042 h2023)
          refine mr_iinc (pc := 260) (lv' := [(5, iv (z1989 + 1)), (6, iv z2009), (0, .ref 21), (1, .ref a1), (2, iv p2), (3, iv p3), (4, iv p4)]) dX1_doActs_260 rfl (by decide) rfl ?_
          refine sv_goto (pc := 263) (tgt := 3) dX1_doActs_263 (by decide) ?_
          refine mr_lvS (lv' := [(0, .ref 21), (1, .ref a1), (2, iv p2), (3, iv p3), (4, iv p4), (5, iv (z1989 + 1))]) (List.forall_mem_cons.mpr ⟨rfl, List.forall_mem_cons.mpr ⟨rfl, List.forall_mem_cons.mpr ⟨rfl, List.forall_mem_cons.mpr ⟨rfl, List.forall_mem_cons.mpr ⟨rfl, List.forall_mem_cons.mpr ⟨rfl, fun _ h => absurd h List.not_mem_nil⟩⟩⟩⟩⟩⟩) ?_
          exact ih1999 (z1989 + 1) μ2018 T2020 (mF.up (mF.call mF.refl F1994 rfl) (A_21 hw) u2019 rfl) (rW (c := 0) (d := 1000) (rAdd (e := 1) (f := 1000) h2001 (rR (x := 1)) rfl) rfl) (PC.keep I1996 hw ((mF.up mF.refl (A_21 hw) u2019 rfl) : mF [21006] w μ1990 μ2018) rfl) (RT.keep I1997 hw ((mF.up mF.refl (A_21 hw) u2019 rfl) : mF [21006] w μ1990 μ2018) rfl) (vc_X1_doActs_12_13 (nS h1998) h2000 h4 h3 hp2 h2002 h2001)
        by_cases h2046 : z2021 = 17
        · refine mr_tableIn (pc := 62) (v := 17) (tgt := 260) dX1_doActs_62 h2046 rfl rfl (by decide) ?_
          have h2047 : 17 ≤ z2021 ∧ z2021 ≤ 17 := (vc_X1_doActs_12_18 h2046 h2024 h2032 h2040 h2042 h2044 h2023)
          refine mr_iinc (pc := 260) (lv' := [(5, iv (z1989 + 1)), (6, iv z2009), (0, .ref 21), (1, .ref a1), (2, iv p2), (3, iv p3), (4, iv p4)]) dX1_doActs_260 rfl (by decide) rfl ?_
          refine sv_goto (pc := 263) (tgt := 3) dX1_doActs_263 (by decide) ?_
          refine mr_lvS (lv' := [(0, .ref 21), (1, .ref a1), (2, iv p2), (3, iv p3), (4, iv p4), (5, iv (z1989 + 1))]) (List.forall_mem_cons.mpr ⟨rfl, List.forall_mem_cons.mpr ⟨rfl, List.forall_mem_cons.mpr ⟨rfl, List.forall_mem_cons.mpr ⟨rfl, List.forall_mem_cons.mpr ⟨rfl, List.forall_mem_cons.mpr ⟨rfl, fun _ h => absurd h List.not_mem_nil⟩⟩⟩⟩⟩⟩) ?_
          exact ih1999 (z1989 + 1) μ2018 T2020 (mF.up (mF.call mF.refl F1994 rfl) (A_21 hw) u2019 rfl) (rW (c := 0) (d := 1000) (rAdd (e := 1) (f := 1000) h2001 (rR (x := 1)) rfl) rfl) (PC.keep I1996 hw ((mF.up mF.refl (A_21 hw) u2019 rfl) : mF [21006] w μ1990 μ2018) rfl) (RT.keep I1997 hw ((mF.up mF.refl (A_21 hw) u2019 rfl) : mF [21006] w μ1990 μ2018) rfl) (vc_X1_doActs_12_13 (nS h1998) h2000 h4 h3 hp2 h2002 h2001)
        by_cases h2048 : z2021 = 18
        · refine mr_tableIn (pc := 62) (v := 18) (tgt := 260) dX1_doActs_62 h2048 rfl rfl (by decide) ?_
          have h2049 : 18 ≤ z2021 ∧ z2021 ≤ 18 := (vc_X1_doActs_12_19 h2048 h2024 h2032 h2040 h2042 h2044 h2046 h2023)
          refine mr_iinc (pc := 260) (lv' := [(5, iv (z1989 + 1)), (6, iv z2009), (0, .ref 21), (1, .ref a1), (2, iv p2), (3, iv p3), (4, iv p4)]) dX1_doActs_260 rfl (by decide) rfl ?_
          refine sv_goto (pc := 263) (tgt := 3) dX1_doActs_263 (by decide) ?_
          refine mr_lvS (lv' := [(0, .ref 21), (1, .ref a1), (2, iv p2), (3, iv p3), (4, iv p4), (5, iv (z1989 + 1))]) (List.forall_mem_cons.mpr ⟨rfl, List.forall_mem_cons.mpr ⟨rfl, List.forall_mem_cons.mpr ⟨rfl, List.forall_mem_cons.mpr ⟨rfl, List.forall_mem_cons.mpr ⟨rfl, List.forall_mem_cons.mpr ⟨rfl, fun _ h => absurd h List.not_mem_nil⟩⟩⟩⟩⟩⟩) ?_
          exact ih1999 (z1989 + 1) μ2018 T2020 (mF.up (mF.call mF.refl F1994 rfl) (A_21 hw) u2019 rfl) (rW (c := 0) (d := 1000) (rAdd (e := 1) (f := 1000) h2001 (rR (x := 1)) rfl) rfl) (PC.keep I1996 hw ((mF.up mF.refl (A_21 hw) u2019 rfl) : mF [21006] w μ1990 μ2018) rfl) (RT.keep I1997 hw ((mF.up mF.refl (A_21 hw) u2019 rfl) : mF [21006] w μ1990 μ2018) rfl) (vc_X1_doActs_12_13 (nS h1998) h2000 h4 h3 hp2 h2002 h2001)
        by_cases h2050 : z2021 = 19
        · refine mr_tableIn (pc := 62) (v := 19) (tgt := 260) dX1_doActs_62 h2050 rfl rfl (by decide) ?_
          have h2051 : 19 ≤ z2021 ∧ z2021 ≤ 19 := (vc_X1_doActs_12_20 h2050 h2024 h2032 h2040 h2042 h2044 h2046 h2048 h2023)
          refine mr_iinc (pc := 260) (lv' := [(5, iv (z1989 + 1)), (6, iv z2009), (0, .ref 21), (1, .ref a1), (2, iv p2), (3, iv p3), (4, iv p4)]) dX1_doActs_260 rfl (by decide) rfl ?_
          refine sv_goto (pc := 263) (tgt := 3) dX1_doActs_263 (by decide) ?_
          refine mr_lvS (lv' := [(0, .ref 21), (1, .ref a1), (2, iv p2), (3, iv p3), (4, iv p4), (5, iv (z1989 + 1))]) (List.forall_mem_cons.mpr ⟨rfl, List.forall_mem_cons.mpr ⟨rfl, List.forall_mem_cons.mpr ⟨rfl, List.forall_mem_cons.mpr ⟨rfl, List.forall_mem_cons.mpr ⟨rfl, List.forall_mem_cons.mpr ⟨rfl, fun _ h => absurd h List.not_mem_nil⟩⟩⟩⟩⟩⟩) ?_
          exact ih1999 (z1989 + 1) μ2018 T2020 (mF.up (mF.call mF.refl F1994 rfl) (A_21 hw) u2019 rfl) (rW (c := 0) (d := 1000) (rAdd (e := 1) (f := 1000) h2001 (rR (x := 1)) rfl) rfl) (PC.keep I1996 hw ((mF.up mF.refl (A_21 hw) u2019 rfl) : mF [21006] w μ1990 μ2018) rfl) (RT.keep I1997 hw ((mF.up mF.refl (A_21 hw) u2019 rfl) : mF [21006] w μ1990 μ2018) rfl) (vc_X1_doActs_12_13 (nS h1998) h2000 h4 h3 hp2 h2002 h2001)
        by_cases h2052 : z2021 = 20
        · refine mr_tableIn (pc := 62) (v := 20) (tgt := 260) dX1_doActs_62 h2052 rfl rfl (by decide) ?_
          have h2053 : 20 ≤ z2021 ∧ z2021 ≤ 20 := (vc_X1_doActs_12_21 h2052 h2032 h2040 h2042 h2044 h2046 h2048 h2050 h2023)
          refine mr_iinc (pc := 260) (lv' := [(5, iv (z1989 + 1)), (6, iv z2009), (0, .ref 21), (1, .ref a1), (2, iv p2), (3, iv p3), (4, iv p4)]) dX1_doActs_260 rfl (by decide) rfl ?_
          refine sv_goto (pc := 263) (tgt := 3) dX1_doActs_263 (by decide) ?_
          refine mr_lvS (lv' := [(0, .ref 21), (1, .ref a1), (2, iv p2), (3, iv p3), (4, iv p4), (5, iv (z1989 + 1))]) (List.forall_mem_cons.mpr ⟨rfl, List.forall_mem_cons.mpr ⟨rfl, List.forall_mem_cons.mpr ⟨rfl, List.forall_mem_cons.mpr ⟨rfl, List.forall_mem_cons.mpr ⟨rfl, List.forall_mem_cons.mpr ⟨rfl, fun _ h => absurd h List.not_mem_nil⟩⟩⟩⟩⟩⟩) ?_
          exact ih1999 (z1989 + 1) μ2018 T2020 (mF.up (mF.call mF.refl F1994 rfl) (A_21 hw) u2019 rfl) (rW (c := 0) (d := 1000) (rAdd (e := 1) (f := 1000) h2001 (rR (x := 1)) rfl) rfl) (PC.keep I1996 hw ((mF.up mF.refl (A_21 hw) u2019 rfl) : mF [21006] w μ1990 μ2018) rfl) (RT.keep I1997 hw ((mF.up mF.refl (A_21 hw) u2019 rfl) : mF [21006] w μ1990 μ2018) rfl) (vc_X1_doActs_12_13 (nS h1998) h2000 h4 h3 hp2 h2002 h2001)
        by_cases h2054 : z2021 = 21
        · refine mr_tableIn (pc := 62) (v := 21) (tgt := 260) dX1_doActs_62 h2054 rfl rfl (by decide) ?_
          have h2055 : 21 ≤ z2021 ∧ z2021 ≤ 21 := (vc_X1_doActs_12_22 h2054 h2040 h2042 h2044 h2046 h2048 h2050 h2052 h2023)
          refine mr_iinc (pc := 260) (lv' := [(5, iv (z1989 + 1)), (6, iv z2009), (0, .ref 21), (1, .ref a1), (2, iv p2), (3, iv p3), (4, iv p4)]) dX1_doActs_260 rfl (by decide) rfl ?_
          refine sv_goto (pc := 263) (tgt := 3) dX1_doActs_263 (by decide) ?_
          refine mr_lvS (lv' := [(0, .ref 21), (1, .ref a1), (2, iv p2), (3, iv p3), (4, iv p4), (5, iv (z1989 + 1))]) (List.forall_mem_cons.mpr ⟨rfl, List.forall_mem_cons.mpr ⟨rfl, List.forall_mem_cons.mpr ⟨rfl, List.forall_mem_cons.mpr ⟨rfl, List.forall_mem_cons.mpr ⟨rfl, List.forall_mem_cons.mpr ⟨rfl, fun _ h => absurd h List.not_mem_nil⟩⟩⟩⟩⟩⟩) ?_
          exact ih1999 (z1989 + 1) μ2018 T2020 (mF.up (mF.call mF.refl F1994 rfl) (A_21 hw) u2019 rfl) (rW (c := 0) (d := 1000) (rAdd (e := 1) (f := 1000) h2001 (rR (x := 1)) rfl) rfl) (PC.keep I1996 hw ((mF.up mF.refl (A_21 hw) u2019 rfl) : mF [21006] w μ1990 μ2018) rfl) (RT.keep I1997 hw ((mF.up mF.refl (A_21 hw) u2019 rfl) : mF [21006] w μ1990 μ2018) rfl) (vc_X1_doActs_12_13 (nS h1998) h2000 h4 h3 hp2 h2002 h2001)
        by_cases h2056 : z2021 = 22
        · refine mr_tableIn (pc := 62) (v := 22) (tgt := 260) dX1_doActs_62 h2056 rfl rfl (by decide) ?_
          have h2057 : 22 ≤ z2021 ∧ z2021 ≤ 22 := (vc_X1_doActs_12_23 h2056 h2042 h2044 h2046 h2048 h2050 h2052 h2054 h2023)
          refine mr_iinc (pc := 260) (lv' := [(5, iv (z1989 + 1)), (6, iv z2009), (0, .ref 21), (1, .ref a1), (2, iv p2), (3, iv p3), (4, iv p4)]) dX1_doActs_260 rfl (by decide) rfl ?_
          refine sv_goto (pc := 263) (tgt := 3) dX1_doActs_263 (by decide) ?_
          refine mr_lvS (lv' := [(0, .ref 21), (1, .ref a1), (2, iv p2), (3, iv p3), (4, iv p4), (5, iv (z1989 + 1))]) (List.forall_mem_cons.mpr ⟨rfl, List.forall_mem_cons.mpr ⟨rfl, List.forall_mem_cons.mpr ⟨rfl, List.forall_mem_cons.mpr ⟨rfl, List.forall_mem_cons.mpr ⟨rfl, List.forall_mem_cons.mpr ⟨rfl, fun _ h => absurd h List.not_mem_nil⟩⟩⟩⟩⟩⟩) ?_
          exact ih1999 (z1989 + 1) μ2018 T2020 (mF.up (mF.call mF.refl F1994 rfl) (A_21 hw) u2019 rfl) (rW (c := 0) (d := 1000) (rAdd (e := 1) (f := 1000) h2001 (rR (x := 1)) rfl) rfl) (PC.keep I1996 hw ((mF.up mF.refl (A_21 hw) u2019 rfl) : mF [21006] w μ1990 μ2018) rfl) (RT.keep I1997 hw ((mF.up mF.refl (A_21 hw) u2019 rfl) : mF [21006] w μ1990 μ2018) rfl) (vc_X1_doActs_12_13 (nS h1998) h2000 h4 h3 hp2 h2002 h2001)
        by_cases h2058 : z2021 = 23
        · refine mr_tableIn (pc := 62) (v := 23) (tgt := 144) dX1_doActs_62 h2058 rfl rfl (by decide) ?_
          have h2059 : 23 ≤ z2021 ∧ z2021 ≤ 23 := (vc_X1_doActs_12_24 h2058 h2044 h2046 h2048 h2050 h2052 h2054 h2056 h2023)
          refine sv_aload_n (pc := 144) dX1_doActs_144 rfl rfl ?_
          refine mr_iconst (pc := 145) (z := 1) dX1_doActs_145 ?_
          refine pf_X1_7 (pc := 146) dX1_doActs_146 wF_X1_50 (A_21 hw) T2020 (rW (c := 0) (d := 2) (rR (x := 1)) rfl) fun μ2060 u2061 T2062 => ?_
          refine sv_goto (pc := 149) (tgt := 260) dX1_doActs_149 (by decide) ?_
          refine mr_iinc (pc := 260) (lv' := [(5, iv (z1989 + 1)), (6, iv z2009), (0, .ref 21), (1, .ref a1), (2, iv p2), (3, iv p3), (4, iv p4)]) dX1_doActs_260 rfl (by decide) rfl ?_
          refine sv_goto (pc := 263) (tgt := 3) dX1_doActs_263 (by decide) ?_
          refine mr_lvS (lv' := [(0, .ref 21), (1, .ref a1), (2, iv p2), (3, iv p3), (4, iv p4), (5, iv (z1989 + 1))]) (List.forall_mem_cons.mpr ⟨rfl, List.forall_mem_cons.mpr ⟨rfl, List.forall_mem_cons.mpr ⟨rfl, List.forall_mem_cons.mpr ⟨rfl, List.forall_mem_cons.mpr ⟨rfl, List.forall_mem_cons.mpr ⟨rfl, fun _ h => absurd h List.not_mem_nil⟩⟩⟩⟩⟩⟩) ?_
          exact ih1999 (z1989 + 1) μ2060 T2062 (mF.up (mF.up (mF.call mF.refl F1994 rfl) (A_21 hw) u2019 rfl) (A_21 hw) u2061 rfl) (rW (c := 0) (d := 1000) (rAdd (e := 1) (f := 1000) h2001 (rR (x := 1)) rfl) rfl) (PC.keep I1996 hw ((mF.up (mF.up mF.refl (A_21 hw) u2019 rfl) (A_21 hw) u2061 rfl) : mF [21006, 21007] w μ1990 μ2060) rfl) (RT.keep I1997 hw ((mF.up (mF.up mF.refl (A_21 hw) u2019 rfl) (A_21 hw) u2061 rfl) : mF [21006, 21007] w μ1990 μ2060) rfl) (vc_X1_doActs_12_13 (nS h1998) h2000 h4 h3 hp2 h2002 h2001)
        by_cases h2063 : z2021 = 24
        · refine mr_tableIn (pc := 62) (v := 24) (tgt := 152) dX1_doActs_62 h2063 rfl rfl (by decide) ?_
          have h2064 : 24 ≤ z2021 ∧ z2021 ≤ 24 := (vc_X1_doActs_12_25 h2063 h2046 h2048 h2050 h2052 h2054 h2056 h2058 h2023)
          refine sv_aload_n (pc := 152) dX1_doActs_152 rfl rfl ?_
          refine mr_iconst (pc := 153) (z := 2) dX1_doActs_153 ?_
          refine pf_X1_7 (pc := 154) dX1_doActs_154 wF_X1_50 (A_21 hw) T2020 (rW (c := 0) (d := 2) (rR (x := 2)) rfl) fun μ2065 u2066 T2067 => ?_
          refine sv_goto (pc := 157) (tgt := 260) dX1_doActs_157 (by decide) ?_
          refine mr_iinc (pc := 260) (lv' := [(5, iv (z1989 + 1)), (6, iv z2009), (0, .ref 21), (1, .ref a1), (2, iv p2), (3, iv p3), (4, iv p4)]) dX1_doActs_260 rfl (by decide) rfl ?_
          refine sv_goto (pc := 263) (tgt := 3) dX1_doActs_263 (by decide) ?_
          refine mr_lvS (lv' := [(0, .ref 21), (1, .ref a1), (2, iv p2), (3, iv p3), (4, iv p4), (5, iv (z1989 + 1))]) (List.forall_mem_cons.mpr ⟨rfl, List.forall_mem_cons.mpr ⟨rfl, List.forall_mem_cons.mpr ⟨rfl, List.forall_mem_cons.mpr ⟨rfl, List.forall_mem_cons.mpr ⟨rfl, List.forall_mem_cons.mpr ⟨rfl, fun _ h => absurd h List.not_mem_nil⟩⟩⟩⟩⟩⟩) ?_
          exact ih1999 (z1989 + 1) μ2065 T2067 (mF.up (mF.up (mF.call mF.refl F1994 rfl) (A_21 hw) u2019 rfl) (A_21 hw) u2066 rfl) (rW (c := 0) (d := 1000) (rAdd (e := 1) (f := 1000) h2001 (rR (x := 1)) rfl) rfl) (PC.keep I1996 hw ((mF.up (mF.up mF.refl (A_21 hw) u2019 rfl) (A_21 hw) u2066 rfl) : mF [21006, 21007] w μ1990 μ2065) rfl) (RT.keep I1997 hw ((mF.up (mF.up mF.refl (A_21 hw) u2019 rfl) (A_21 hw) u2066 rfl) : mF [21006, 21007] w μ1990 μ2065) rfl) (vc_X1_doActs_12_13 (nS h1998) h2000 h4 h3 hp2 h2002 h2001)
        by_cases h2068 : z2021 = 25
        · refine mr_tableIn (pc := 62) (v := 25) (tgt := 160) dX1_doActs_62 h2068 rfl rfl (by decide) ?_
          have h2069 : 25 ≤ z2021 ∧ z2021 ≤ 25 := (vc_X1_doActs_12_26 h2068 h2048 h2050 h2052 h2054 h2056 h2058 h2063 h2023)
          refine sv_aload_n (pc := 160) dX1_doActs_160 rfl rfl ?_
          refine gf_X1_2 (pc := 161) dX1_doActs_161 wF_X1_25 (A_21 hw) T2020 (RT.keep I1997 hw ((mF.up mF.refl (A_21 hw) u2019 rfl) : mF [21006] w μ1990 μ2018) rfl) fun b2070 q2071 A2072 => ?_
          refine mr_iload (pc := 164) (z := z2009) dX1_doActs_164 rfl ?_
          refine mr_cVV (pc := 166) (c_X7_addMark hw T2020 A2072 (rW (c := (-2147483648)) (d := 2147483647) h2012 rfl)) (gOk _ _ _ _ _) dX1_doActs_166 (tX7_addMark _ _ _ _ _) ⟨wV_X7_addMark, wL_X7_addMark⟩ wM_X1_124 (gCX7 _ _ _ _ _) rfl A2072 rfl ⟨le_t rfl, le_t rfl⟩ ⟨le_t rfl, le_t rfl⟩ rfl (le_t rfl) fun μ2073 T2074 F2075 h2076 => ?_
          refine sv_goto (pc := 169) (tgt := 260) dX1_doActs_169 (by decide) ?_
          refine mr_iinc (pc := 260) (lv' := [(5, iv (z1989 + 1)), (6, iv z2009), (0, .ref 21), (1, .ref a1), (2, iv p2), (3, iv p3), (4, iv p4)]) dX1_doActs_260 rfl (by decide) rfl ?_
          refine sv_goto (pc := 263) (tgt := 3) dX1_doActs_263 (by decide) ?_
          refine mr_lvS (lv' := [(0, .ref 21), (1, .ref a1), (2, iv p2), (3, iv p3), (4, iv p4), (5, iv (z1989 + 1))]) (List.forall_mem_cons.mpr ⟨rfl, List.forall_mem_cons.mpr ⟨rfl, List.forall_mem_cons.mpr ⟨rfl, List.forall_mem_cons.mpr ⟨rfl, List.forall_mem_cons.mpr ⟨rfl, List.forall_mem_cons.mpr ⟨rfl, fun _ h => absurd h List.not_mem_nil⟩⟩⟩⟩⟩⟩) ?_
          exact ih1999 (z1989 + 1) μ2073 T2074 (mF.call (mF.up (mF.call mF.refl F1994 rfl) (A_21 hw) u2019 rfl) F2075 rfl) (rW (c := 0) (d := 1000) (rAdd (e := 1) (f := 1000) h2001 (rR (x := 1)) rfl) rfl) (PC.keep I1996 hw ((mF.call (mF.up mF.refl (A_21 hw) u2019 rfl) F2075 rfl) : mF [21006, 200008, 202999] w μ1990 μ2073) rfl) (RT.keep I1997 hw ((mF.call (mF.up mF.refl (A_21 hw) u2019 rfl) F2075 rfl) : mF [21006, 200008, 202999] w μ1990 μ2073) rfl) (vc_X1_doActs_12_13 (nS h1998) h2000 h4 h3 hp2 h2002 h2001)
        by_cases h2077 : z2021 = 26
        · refine mr_tableIn (pc := 62) (v := 26) (tgt := 172) dX1_doActs_62 h2077 rfl rfl (by decide) ?_
          have h2078 : 26 ≤ z2021 ∧ z2021 ≤ 26 := (vc_X1_doActs_12_27 h2077 h2050 h2052 h2054 h2056 h2058 h2063 h2068 h2023)
          refine sv_aload_n (pc := 172) dX1_doActs_172 rfl rfl ?_
          refine gf_X1_2 (pc := 173) dX1_doActs_173 wF_X1_25 (A_21 hw) T2020 (RT.keep I1997 hw ((mF.up mF.refl (A_21 hw) u2019 rfl) : mF [21006] w μ1990 μ2018) rfl) fun b2079 q2080 A2081 => ?_
          refine mr_iload (pc := 176) (z := z2009) dX1_doActs_176 rfl ?_
          refine mr_cVV (pc := 178) (c_X7_dropMark hw T2020 A2081 (rW (c := (-2147483648)) (d := 2147483647) h2012 rfl)) (gOk _ _ _ _ _) dX1_doActs_178 (tX7_dropMark _ _ _ _ _) ⟨wV_X7_dropMark, wL_X7_dropMark⟩ wM_X1_128 (gCX7 _ _ _ _ _) rfl A2081 rfl ⟨le_t rfl, le_t rfl⟩ ⟨le_t rfl, le_t rfl⟩ rfl (le_t rfl) fun μ2082 T2083 F2084 h2085 => ?_
          refine sv_goto (pc := 181) (tgt := 260) dX1_doActs_181 (by decide) ?_
          refine mr_iinc (pc := 260) (lv' := [(5, iv (z1989 + 1)), (6, iv z2009), (0, .ref 21), (1, .ref a1), (2, iv p2), (3, iv p3), (4, iv p4)]) dX1_doActs_260 rfl (by decide) rfl ?_
          refine sv_goto (pc := 263) (tgt := 3) dX1_doActs_263 (by decide) ?_
          refine mr_lvS (lv' := [(0, .ref 21), (1, .ref a1), (2, iv p2), (3, iv p3), (4, iv p4), (5, iv (z1989 + 1))]) (List.forall_mem_cons.mpr ⟨rfl, List.forall_mem_cons.mpr ⟨rfl, List.forall_mem_cons.mpr ⟨rfl, List.forall_mem_cons.mpr ⟨rfl, List.forall_mem_cons.mpr ⟨rfl, List.forall_mem_cons.mpr ⟨rfl, fun _ h => absurd h List.not_mem_nil⟩⟩⟩⟩⟩⟩) ?_
          exact ih1999 (z1989 + 1) μ2082 T2083 (mF.call (mF.up (mF.call mF.refl F1994 rfl) (A_21 hw) u2019 rfl) F2084 rfl) (rW (c := 0) (d := 1000) (rAdd (e := 1) (f := 1000) h2001 (rR (x := 1)) rfl) rfl) (PC.keep I1996 hw ((mF.call (mF.up mF.refl (A_21 hw) u2019 rfl) F2084 rfl) : mF [21006, 200008, 202999] w μ1990 μ2082) rfl) (RT.keep I1997 hw ((mF.call (mF.up mF.refl (A_21 hw) u2019 rfl) F2084 rfl) : mF [21006, 200008, 202999] w μ1990 μ2082) rfl) (vc_X1_doActs_12_13 (nS h1998) h2000 h4 h3 hp2 h2002 h2001)
        by_cases h2086 : z2021 = 27
        · refine mr_tableIn (pc := 62) (v := 27) (tgt := 208) dX1_doActs_62 h2086 rfl rfl (by decide) ?_
          have h2087 : 27 ≤ z2021 ∧ z2021 ≤ 27 := (vc_X1_doActs_12_28 h2086 h2052 h2054 h2056 h2058 h2063 h2068 h2077 h2023)
          refine sv_aload_n (pc := 208) dX1_doActs_208 rfl rfl ?_
          refine gf_X1_2 (pc := 209) dX1_doActs_209 wF_X1_25 (A_21 hw) T2020 (RT.keep I1997 hw ((mF.up mF.refl (A_21 hw) u2019 rfl) : mF [21006] w μ1990 μ2018) rfl) fun b2088 q2089 A2090 => ?_
          refine gf_X7_7 (pc := 212) dX1_doActs_212 wF_X1_96 A2090 T2020 fun z2091 q2092 h2093 => ?_
          have J2116 : ∀ (μ2110 : mM), (mT w μ2110) → (mF [21007, 200007, 201999] w μ2018 μ2110) → (PC w μ2110) → (RT μ2110) → sV (gG l D c H0 sa) mX1_doActs (sRm 22 0 0) (sZ (gG l D c H0 sa) 0 0 (qV w [21006, 21007, 200004, 200006, 200007, 200008, 201999, 202999] μ (fun μ1 => True))) 260 [(0, .ref 21), (1, .ref a1), (2, iv p2), (3, iv p3), (4, iv p4), (5, iv z1989)] [] (mk w μ2110) 0 0 := by
            intro μ2110 T2111 F2112 I2114 I2115
            refine mr_iinc (pc := 260) (lv' := [(5, iv (z1989 + 1)), (0, .ref 21), (1, .ref a1), (2, iv p2), (3, iv p3), (4, iv p4)]) dX1_doActs_260 rfl (by decide) rfl ?_
            refine sv_goto (pc := 263) (tgt := 3) dX1_doActs_263 (by decide) ?_
            refine mr_lvS (lv' := [(0, .ref 21), (1, .ref a1), (2, iv p2), (3, iv p3), (4, iv p4), (5, iv (z1989 + 1))]) (List.forall_mem_cons.mpr ⟨rfl, List.forall_mem_cons.mpr ⟨rfl, List.forall_mem_cons.mpr ⟨rfl, List.forall_mem_cons.mpr ⟨rfl, List.forall_mem_cons.mpr ⟨rfl, List.forall_mem_cons.mpr ⟨rfl, fun _ h => absurd h List.not_mem_nil⟩⟩⟩⟩⟩⟩) ?_
            exact ih1999 (z1989 + 1) μ2110 T2111 (mF.call (mF.up (mF.call mF.refl F1994 rfl) (A_21 hw) u2019 rfl) F2112 rfl) (rW (c := 0) (d := 1000) (rAdd (e := 1) (f := 1000) h2001 (rR (x := 1)) rfl) rfl) I2114 I2115 (vc_X1_doActs_12_13 (nS h1998) h2000 h4 h3 hp2 h2002 h2001)
          refine mr_if_le (pc := 215) (tgt := 260) dX1_doActs_215 (by decide) (r32 h2093 rfl) (fun h2117 => ?_) (fun h2117 => ?_)
          · have h2118 : 0 ≤ z2091 ∧ z2091 ≤ 0 := (vc_X12_unlike_21 h2117 h2093)
            refine mr_lvS (lv' := [(0, .ref 21), (1, .ref a1), (2, iv p2), (3, iv p3), (4, iv p4), (5, iv z1989)]) (List.forall_mem_cons.mpr ⟨rfl, List.forall_mem_cons.mpr ⟨rfl, List.forall_mem_cons.mpr ⟨rfl, List.forall_mem_cons.mpr ⟨rfl, List.forall_mem_cons.mpr ⟨rfl, List.forall_mem_cons.mpr ⟨rfl, fun _ h => absurd h List.not_mem_nil⟩⟩⟩⟩⟩⟩) ?_
            exact J2116 μ2018 T2020 mF.refl (PC.keep I1996 hw ((mF.up mF.refl (A_21 hw) u2019 rfl) : mF [21006] w μ1990 μ2018) rfl) (RT.keep I1997 hw ((mF.up mF.refl (A_21 hw) u2019 rfl) : mF [21006] w μ1990 μ2018) rfl)
          have h2119 : 1 ≤ z2091 ∧ z2091 ≤ 20 := (vc_X12_unlike_22 h2117 h2093)
          refine sv_aload_n (pc := 218) dX1_doActs_218 rfl rfl ?_
          refine gk_X1_2 (pc := 219) dX1_doActs_219 wF_X1_25 (A_21 hw) q2089 ?_
          refine sv_aload_n (pc := 222) dX1_doActs_222 rfl rfl ?_
          refine gk_X1_2 (pc := 223) dX1_doActs_223 wF_X1_25 (A_21 hw) q2089 ?_
          refine gf_X7_0 (pc := 226) dX1_doActs_226 wF_X1_114 A2090 T2020 fun A2120 => ?_
          refine mr_iconst (pc := 229) (z := 0) dX1_doActs_229 ?_
          refine la_201 (pc := 230) dX1_doActs_230 A2120 T2020 (rIx (n := 20) (rR (x := 0)) rfl) fun z2121 q2122 h2123 => ?_
          refine mr_iload (pc := 231) (z := z2009) dX1_doActs_231 rfl ?_
          refine mr_cVI (pc := 233) (c_X7_putInFront hw T2020 A2090 h2123 (rW (c := (-2147483648)) (d := 1000000) h2012 rfl)) (gOk _ _ _ _ _) dX1_doActs_233 (tX7_putInFront _ _ _ _ _) ⟨wV_X7_putInFront, wL_X7_putInFront⟩ wM_X1_131 (gCX7 _ _ _ _ _) rfl A2090 rfl ⟨le_t rfl, le_t rfl⟩ ⟨le_t rfl, le_t rfl⟩ rfl (le_t rfl) fun z2128 μ2124 T2125 F2126 h2127 => ?_
          refine mr_if_ne (pc := 236) (tgt := 260) dX1_doActs_236 (by decide) (r32 h2127.1 rfl) (fun h2129 => ?_) (fun h2129 => ?_)
          · have h2130 : 1 ≤ z2128 ∧ z2128 ≤ 1 := (vc_X12_ring_24 h2129 h2127.1)
            refine mr_lvS (lv' := [(0, .ref 21), (1, .ref a1), (2, iv p2), (3, iv p3), (4, iv p4), (5, iv z1989)]) (List.forall_mem_cons.mpr ⟨rfl, List.forall_mem_cons.mpr ⟨rfl, List.forall_mem_cons.mpr ⟨rfl, List.forall_mem_cons.mpr ⟨rfl, List.forall_mem_cons.mpr ⟨rfl, List.forall_mem_cons.mpr ⟨rfl, fun _ h => absurd h List.not_mem_nil⟩⟩⟩⟩⟩⟩) ?_
            exact J2116 μ2124 T2125 (mF.call mF.refl F2126 rfl) (PC.keep I1996 hw ((mF.call (mF.up mF.refl (A_21 hw) u2019 rfl) F2126 rfl) : mF [21006, 200007, 201999] w μ1990 μ2124) rfl) (RT.keep I1997 hw ((mF.call (mF.up mF.refl (A_21 hw) u2019 rfl) F2126 rfl) : mF [21006, 200007, 201999] w μ1990 μ2124) rfl)
          have h2131 : 0 ≤ z2128 ∧ z2128 ≤ 0 := (vc_X12_ring_22 h2129 h2127.1)
          refine sv_aload_n (pc := 239) dX1_doActs_239 rfl rfl ?_
          refine mr_iconst (pc := 240) (z := 2) dX1_doActs_240 ?_
          refine pf_X1_7 (pc := 241) dX1_doActs_241 wF_X1_50 (A_21 hw) T2125 (rW (c := 0) (d := 2) (rR (x := 2)) rfl) fun μ2132 u2133 T2134 => ?_
          refine sv_goto (pc := 244) (tgt := 260) dX1_doActs_244 (by decide) ?_
          refine mr_lvS (lv' := [(0, .ref 21), (1, .ref a1), (2, iv p2), (3, iv p3), (4, iv p4), (5, iv z1989)]) (List.forall_mem_cons.mpr ⟨rfl, List.forall_mem_cons.mpr ⟨rfl, List.forall_mem_cons.mpr ⟨rfl, List.forall_mem_cons.mpr ⟨rfl, List.forall_mem_cons.mpr ⟨rfl, List.forall_mem_cons.mpr ⟨rfl, fun _ h => absurd h List.not_mem_nil⟩⟩⟩⟩⟩⟩) ?_
          exact J2116 μ2132 T2134 (mF.up (mF.call mF.refl F2126 rfl) (A_21 hw) u2133 rfl) (PC.keep I1996 hw ((mF.up (mF.call (mF.up mF.refl (A_21 hw) u2019 rfl) F2126 rfl) (A_21 hw) u2133 rfl) : mF [21006, 21007, 200007, 201999] w μ1990 μ2132) rfl) (RT.keep I1997 hw ((mF.up (mF.call (mF.up mF.refl (A_21 hw) u2019 rfl) F2126 rfl) (A_21 hw) u2133 rfl) : mF [21006, 21007, 200007, 201999] w μ1990 μ2132) rfl)
        by_cases h2135 : z2021 = 28
        · refine mr_tableIn (pc := 62) (v := 28) (tgt := 247) dX1_doActs_62 h2135 rfl rfl (by decide) ?_
          have h2136 : 28 ≤ z2021 ∧ z2021 ≤ 28 := (vc_X1_doActs_12_33 h2135 h2054 h2056 h2058 h2063 h2068 h2077 h2086 h2023)
          refine sv_aload_n (pc := 247) dX1_doActs_247 rfl rfl ?_
          refine mr_iload (pc := 248) (z := z2009) dX1_doActs_248 rfl ?_
          refine mr_iload (pc := 250) (z := p4) dX1_doActs_250 rfl ?_
          refine mr_iconst (pc := 252) (z := 1) dX1_doActs_252 ?_
          refine mr_iadd (pc := 253) (x := p4) (y := 1) dX1_doActs_253 ?_
          refine mr_cVV (pc := 254) (c_X1_goThrough_4 hw T2020 (rW (c := (-2147483648)) (d := 2147483647) h2012 rfl) (rAdd (e := 4) (f := 4) hp4 (rR (x := 1)) rfl) (PC.keep I1996 hw ((mF.up mF.refl (A_21 hw) u2019 rfl) : mF [21006] w μ1990 μ2018) rfl) (RT.keep I1997 hw ((mF.up mF.refl (A_21 hw) u2019 rfl) : mF [21006] w μ1990 μ2018) rfl)) (gOk _ _ _ _ _) dX1_doActs_254 (tX1_goThrough _ _ _ _ _) ⟨wV_X1_goThrough, wL_X1_goThrough⟩ wM_X1_53 (gCX1 _ _ _ _ _) rfl (A_21 hw) rfl ⟨le_t rfl, le_t rfl⟩ ⟨le_t rfl, le_t rfl⟩ rfl (le_t rfl) fun μ2137 T2138 F2139 h2140 => ?_
          refine sv_goto (pc := 257) (tgt := 260) dX1_doActs_257 (by decide) ?_
          refine mr_iinc (pc := 260) (lv' := [(5, iv (z1989 + 1)), (6, iv z2009), (0, .ref 21), (1, .ref a1), (2, iv p2), (3, iv p3), (4, iv p4)]) dX1_doActs_260 rfl (by decide) rfl ?_
          refine sv_goto (pc := 263) (tgt := 3) dX1_doActs_263 (by decide) ?_
          refine mr_lvS (lv' := [(0, .ref 21), (1, .ref a1), (2, iv p2), (3, iv p3), (4, iv p4), (5, iv (z1989 + 1))]) (List.forall_mem_cons.mpr ⟨rfl, List.forall_mem_cons.mpr ⟨rfl, List.forall_mem_cons.mpr ⟨rfl, List.forall_mem_cons.mpr ⟨rfl, List.forall_mem_cons.mpr ⟨rfl, List.forall_mem_cons.mpr ⟨rfl, fun _ h => absurd h List.not_mem_nil⟩⟩⟩⟩⟩⟩) ?_
          exact ih1999 (z1989 + 1) μ2137 T2138 (mF.call (mF.up (mF.call mF.refl F1994 rfl) (A_21 hw) u2019 rfl) F2139 rfl) (rW (c := 0) (d := 1000) (rAdd (e := 1) (f := 1000) h2001 (rR (x := 1)) rfl) rfl) (PC.keep I1996 hw ((mF.call (mF.up mF.refl (A_21 hw) u2019 rfl) F2139 rfl) : mF [21006, 21007, 200004, 200006, 200007, 200008, 201999, 202999] w μ1990 μ2137) rfl) (RT.keep I1997 hw ((mF.call (mF.up mF.refl (A_21 hw) u2019 rfl) F2139 rfl) : mF [21006, 21007, 200004, 200006, 200007, 200008, 201999, 202999] w μ1990 μ2137) rfl) (vc_X1_doActs_12_13 (nS h1998) h2000 h4 h3 hp2 h2002 h2001)
        refine mr_tableOut (pc := 62) (tgt := 260) dX1_doActs_62 h2023 (vc_X1_doActs_12_34 h2024 h2032 h2040 h2042 h2044 h2046 h2048 h2050 h2052 h2054 h2056 h2058 h2063 h2068 h2077 h2086 h2135 h2023) (by decide) ?_
        refine mr_iinc (pc := 260) (lv' := [(5, iv (z1989 + 1)), (6, iv z2009), (0, .ref 21), (1, .ref a1), (2, iv p2), (3, iv p3), (4, iv p4)]) dX1_doActs_260 rfl (by decide) rfl ?_
        refine sv_goto (pc := 263) (tgt := 3) dX1_doActs_263 (by decide) ?_
        refine mr_lvS (lv' := [(0, .ref 21), (1, .ref a1), (2, iv p2), (3, iv p3), (4, iv p4), (5, iv (z1989 + 1))]) (List.forall_mem_cons.mpr ⟨rfl, List.forall_mem_cons.mpr ⟨rfl, List.forall_mem_cons.mpr ⟨rfl, List.forall_mem_cons.mpr ⟨rfl, List.forall_mem_cons.mpr ⟨rfl, List.forall_mem_cons.mpr ⟨rfl, fun _ h => absurd h List.not_mem_nil⟩⟩⟩⟩⟩⟩) ?_
        exact ih1999 (z1989 + 1) μ2018 T2020 (mF.up (mF.call mF.refl F1994 rfl) (A_21 hw) u2019 rfl) (rW (c := 0) (d := 1000) (rAdd (e := 1) (f := 1000) h2001 (rR (x := 1)) rfl) rfl) (PC.keep I1996 hw ((mF.up mF.refl (A_21 hw) u2019 rfl) : mF [21006] w μ1990 μ2018) rfl) (RT.keep I1997 hw ((mF.up mF.refl (A_21 hw) u2019 rfl) : mF [21006] w μ1990 μ2018) rfl) (vc_X1_doActs_12_13 (nS h1998) h2000 h4 h3 hp2 h2002 h2001)
      have h2141 : 500 ≤ z2013 ∧ z2013 ≤ 500 := (vc_X1_doActs_12_35 h2016 h2015)
      refine sv_aload_n (pc := 38) dX1_doActs_38 rfl rfl ?_
      refine mr_iconst (pc := 39) (z := 2) dX1_doActs_39 ?_
      refine pf_X1_7 (pc := 40) dX1_doActs_40 wF_X1_50 (A_21 hw) T1993 (rW (c := 0) (d := 2) (rR (x := 2)) rfl) fun μ2142 u2143 T2144 => ?_
      exact mr_vret dX1_doActs_43 rfl (le_t rfl) (le_t rfl) T2144 (mF.up (mF.call mF.refl F1994 rfl) (A_21 hw) u2143 rfl) trivial
  refine mr_lvS (lv' := [(0, .ref 21), (1, .ref a1), (2, iv p2), (3, iv p3), (4, iv p4), (5, iv 0)]) (List.forall_mem_cons.mpr ⟨rfl, List.forall_mem_cons.mpr ⟨rfl, List.forall_mem_cons.mpr ⟨rfl, List.forall_mem_cons.mpr ⟨rfl, List.forall_mem_cons.mpr ⟨rfl, List.forall_mem_cons.mpr ⟨rfl, fun _ h => absurd h List.not_mem_nil⟩⟩⟩⟩⟩⟩) ?_
  exact L1991 1002 0 μ hT mF.refl (rW (c := 0) (d := 1000) (rR (x := 0)) rfl) hIPC hIRT vc_X1_doActs_12_36
theorem vc_X1_goThrough_3_5 {p2 : Int} (h0 : 12 < p2) (h1 : 3 ≤ p2 ∧ p2 ≤ 3) : False := by omega
set_option maxRecDepth 4000 in
set_option maxHeartbeats 4000000 in
theorem c_X1_goThrough_3 {l : Launch} {D : va_G} {c : Nat → ClassId} {H0 : Heap} {sa : Nat × Nat × (Nat → Int32)} {w : mW} {μ : mM} (hw : mWF w) (hT : mT w μ) {p1 : Int} (hp1 : (-2147483648) ≤ p1 ∧ p1 ≤ 2147483647) {p2 : Int} (hp2 : 3 ≤ p2 ∧ p2 ≤ 3) (hIPC : PC w μ) (hIRT : RT μ) : sC (gG l D c H0 sa) mX1_goThrough 23 0 0 [.ref 21, iv p1, iv p2] (mk w μ) (qV w [21006, 21007, 200004, 200006, 200007, 200008, 201999, 202999] μ (fun μ1 => True)) := by
  refine sC.of rfl (by decide) (le_t rfl) ?_
  refine mr_lvE (lv' := [(0, .ref 21), (1, iv p1), (2, iv p2)]) rfl ?_
  refine mr_iload_n (pc := 0) (z := p1) dX1_goThrough_0 rfl rfl ?_
  refine mr_if_lt (pc := 1) (tgt := 18) dX1_goThrough_1 (by decide) hp1 (fun h1 => ?_) (fun h1 => ?_)
  · have h2 : (-2147483648) ≤ p1 ∧ p1 ≤ (-1) := (vc_X12_ring_60 h1 hp1)
    exact mr_vret dX1_goThrough_18 rfl (le_t rfl) (le_t rfl) hT mF.refl trivial
  have h3 : 0 ≤ p1 ∧ p1 ≤ 2147483647 := (vc_X12_ring_1 h1 hp1)
  refine mr_iload_n (pc := 4) (z := p1) dX1_goThrough_4 rfl rfl ?_
  refine sv_aload_n (pc := 5) dX1_goThrough_5 rfl rfl ?_
  refine gf_X1_8 (pc := 6) dX1_goThrough_6 wF_X1_21 (A_21 hw) hT fun z4 q5 h6 => ?_
  refine mr_icmp_ge (pc := 9) (tgt := 18) dX1_goThrough_9 (by decide) (r32 h3 rfl) (r32 h6.2 rfl) (fun h7 => ?_) (fun h7 => ?_)
  · exact mr_vret dX1_goThrough_18 rfl (le_t rfl) (le_t rfl) hT mF.refl trivial
  have h8 : 0 ≤ p1 ∧ p1 ≤ 11 := (vc_X1_goThrough_13_3 h7 h1 h6.1 h3 h6.2)
  have h9 : 1 ≤ z4 ∧ z4 ≤ 12 := (vc_X1_goThrough_13_4 h7 h1 h6.1 h8 h6.2)
  refine mr_iload_n (pc := 12) (z := p2) dX1_goThrough_12 rfl rfl ?_
  refine mr_bipush (pc := 13) (z := 12) dX1_goThrough_13 (by decide) ?_
  refine mr_icmp_le (pc := 15) (tgt := 19) dX1_goThrough_15 (by decide) (r32 hp2 rfl) (r32 (rR (x := 12)) rfl) (fun _ => ?_) (fun h => ((vc_X1_goThrough_3_5 h hp2)).elim)
  refine sv_aload_n (pc := 19) dX1_goThrough_19 rfl rfl ?_
  refine gf_X1_1 (pc := 20) dX1_goThrough_20 wF_X1_17 (A_21 hw) hT ?_
  refine mr_iload_n (pc := 23) (z := p1) dX1_goThrough_23 rfl rfl ?_
  refine la_22 (pc := 24) dX1_goThrough_24 (A_22 hw) hT (rIx (n := 12) h8 rfl) (vc_X1_goThrough_12_6 h1 h6.1 h7 h8 h9) fun b10 q11 A12 => ?_
  refine mr_astore_n (pc := 25) (lv' := [(3, .ref b10), (0, .ref 21), (1, iv p1), (2, iv p2)]) dX1_goThrough_25 rfl (by decide) rfl ?_
  obtain ⟨c13, z14, q15, A16, q17, R18, e19, e20⟩ := PC.read hIPC hT A12 (vc_X1_goThrough_12_7 h1 h7 h6.1 h8 h9) (vc_X1_goThrough_12_6 h1 h6.1 h7 h8 h9) q11
  have h21 : 0 ≤ z14 ∧ z14 ≤ 30 := by rw [← q17]; exact hT _ _ A12 0
  refine mr_iconst (pc := 26) (z := 0) dX1_goThrough_26 ?_
  refine mr_istore (pc := 27) (lv' := [(4, iv 0), (3, .ref b10), (0, .ref 21), (1, iv p1), (2, iv p2)]) dX1_goThrough_27 (by decide) rfl ?_
  refine mr_iconst (pc := 29) (z := 0) dX1_goThrough_29 ?_
  refine mr_istore (pc := 30) (lv' := [(5, iv 0), (4, iv 0), (3, .ref b10), (0, .ref 21), (1, iv p1), (2, iv p2)]) dX1_goThrough_30 (by decide) rfl ?_
  have L1192 : ∀ (nL1192 : Nat) (z1190 z1189 : Int) (μ1191 : mM), mT w μ1191 → mF [21006, 21007, 200004, 200006, 200007, 200008, 201999, 202999] w μ μ1191 → (0 ≤ z1190 ∧ z1190 ≤ 2000) → (0 ≤ z1189 ∧ z1189 ≤ 30) → PC w μ1191 → RT μ1191 → wfR (μ c13) (w.2.2.1 c13) (z1190).toNat (z14 - z1189).toNat → (2001 - z1190) < (nL1192 : Int) → sV (gG l D c H0 sa) mX1_goThrough (sRm 23 0 0) (sZ (gG l D c H0 sa) 0 0 (qV w [21006, 21007, 200004, 200006, 200007, 200008, 201999, 202999] μ (fun μ1 => True))) 32 [(0, .ref 21), (2, iv p2), (3, .ref b10), (4, iv z1190), (5, iv z1189)] [] (mk w μ1191) 0 0 := by
    intro nL1192
    induction nL1192 with
    | zero => intro z1190 z1189 μ1191 T1195 F1196 h1193 h1194 I1198 I1199 R1200 h1201; exact ((vc_X1_goThrough_12_8 h1201 h1193)).elim
    | succ nL1192 ih1202 =>
      intro z1190 z1189 μ1191 T1195 F1196 h1193 h1194 I1198 I1199 R1200 h1201
      refine mr_iload (pc := 32) (z := z1189) dX1_goThrough_32 rfl ?_
      refine sv_aload_n (pc := 34) dX1_goThrough_34 rfl rfl ?_
      refine gk_X5_0 (pc := 35) dX1_goThrough_35 wF_X1_57 A12 (F1196.f A12 rfl q17) ?_
      refine mr_icmp_ge (pc := 38) (tgt := 174) dX1_goThrough_38 (by decide) (r32 h1194 rfl) (r32 h21 rfl) (fun h1267 => ?_) (fun h1267 => ?_)
      · exact mr_vret dX1_goThrough_174 rfl (le_t rfl) (le_t rfl) T1195 (mF.call mF.refl F1196 rfl) trivial
      have h1268 : 0 ≤ z1189 ∧ z1189 ≤ 29 := (vc_X12_judgedAnew_2 h1267 h1194 h21)
      have h1269 : 1 ≤ z14 ∧ z14 ≤ 30 := (vc_X12_judgedAnew_3 h1267 h1268 h21)
      refine sv_aload_n (pc := 41) dX1_goThrough_41 rfl rfl ?_
      refine gf_X1_7 (pc := 42) dX1_goThrough_42 wF_X1_50 (A_21 hw) T1195 fun z1270 q1271 h1272 => ?_
      refine mr_if_ne (pc := 45) (tgt := 174) dX1_goThrough_45 (by decide) (r32 h1272 rfl) (fun h1332 => ?_) (fun h1332 => ?_)
      · have h1333 : 1 ≤ z1270 ∧ z1270 ≤ 2 := (vc_X12_provides_3 h1332 h1272)
        exact mr_vret dX1_goThrough_174 rfl (le_t rfl) (le_t rfl) T1195 (mF.call mF.refl F1196 rfl) trivial
      have h1334 : 0 ≤ z1270 ∧ z1270 ≤ 0 := (vc_X12_provides_4 h1332 h1272)
      obtain ⟨n_1335, q1336⟩ : ∃ n : Int, (w.2.2.1 c13 : Int) = n := ⟨_, rfl⟩
      have h1337 : 0 ≤ n_1335 ∧ n_1335 ≤ 2000 := lnR (m := 2000) q1336 A16 rfl
      have h1338 : z1190 + 1 < n_1335 := lnLt q1336 (wfR.hd R1200 (vc_X1_goThrough_12_13 h1193) (vc_X1_goThrough_12_14 h1267 h1268 h1269))
      refine sv_aload_n (pc := 48) dX1_goThrough_48 rfl rfl ?_
      refine gk_X5_1 (pc := 49) dX1_goThrough_49 wF_X1_60 A12 (F1196.f A12 rfl q15) ?_
      refine mr_iload (pc := 52) (z := z1190) dX1_goThrough_52 rfl ?_
      refine la_231 (pc := 54) dX1_goThrough_54 A16 T1195 (lnC q1336 (vc_X1_goThrough_12_15 h1338 h1337 h1193)) fun z1339 q1340 h1341 => ?_
      refine mr_istore (pc := 55) (lv' := [(6, iv z1339), (0, .ref 21), (2, iv p2), (3, .ref b10), (4, iv z1190), (5, iv z1189)]) dX1_goThrough_55 (by decide) rfl ?_
      refine sv_aload_n (pc := 57) dX1_goThrough_57 rfl rfl ?_
      refine gk_X5_1 (pc := 58) dX1_goThrough_58 wF_X1_60 A12 (F1196.f A12 rfl q15) ?_
      refine mr_iload (pc := 61) (z := z1190) dX1_goThrough_61 rfl ?_
      refine mr_iconst (pc := 63) (z := 1) dX1_goThrough_63 ?_
      refine mr_iadd (pc := 64) (x := z1190) (y := 1) dX1_goThrough_64 ?_
      refine la_231 (pc := 65) dX1_goThrough_65 A16 T1195 (lnC q1336 (vc_X1_goThrough_12_16 h1338 h1337 h1193)) fun z1342 q1343 h1344 => ?_
      have B1345 := wfR.bd R1200 (vc_X1_goThrough_12_13 h1193) (vc_X1_goThrough_12_14 h1267 h1268 h1269) ((((mF.call mF.refl F1196 rfl) : mF [21006, 21007, 200004, 200006, 200007, 200008, 201999, 202999] w μ μ1191).f A16 rfl rfl).symm.trans q1340) ((((mF.call mF.refl F1196 rfl) : mF [21006, 21007, 200004, 200006, 200007, 200008, 201999, 202999] w μ μ1191).f A16 rfl rfl).symm.trans q1343)
      have h1346 : 0 ≤ z1339 ∧ 0 ≤ z1342 ∧ z1190 + 2 + 5 * z1339 + 2 * z1342 ≤ n_1335 := ⟨B1345.1.1, B1345.1.2.1, lnLe q1336 B1345.1.2.2⟩
      have h1347 : 0 ≤ z1339 ∧ z1339 ≤ 400 := (vc_X1_goThrough_12_17 h1346 h1338 h1337 h1193 h1341 h1344)
      have h1348 : 0 ≤ z1342 ∧ z1342 ≤ 1000 := (vc_X1_goThrough_12_18 h1346 h1338 h1337 h1193 h1347 h1344)
      refine mr_istore (pc := 66) (lv' := [(7, iv z1342), (6, iv z1339), (0, .ref 21), (2, iv p2), (3, .ref b10), (4, iv z1190), (5, iv z1189)]) dX1_goThrough_66 (by decide) rfl ?_
      refine mr_iload (pc := 68) (z := z1190) dX1_goThrough_68 rfl ?_
      refine mr_iconst (pc := 70) (z := 2) dX1_goThrough_70 ?_
      refine mr_iadd (pc := 71) (x := z1190) (y := 2) dX1_goThrough_71 ?_
      refine mr_iload (pc := 72) (z := z1339) dX1_goThrough_72 rfl ?_
      refine mr_iconst (pc := 74) (z := 5) dX1_goThrough_74 ?_
      refine mr_imul (pc := 75) (x := z1339) (y := 5) dX1_goThrough_75 ?_
      refine mr_iadd (pc := 76) (x := (z1190 + 2)) (y := (z1339 * 5)) dX1_goThrough_76 ?_
      refine mr_istore (pc := 77) (lv' := [(8, iv ((z1190 + 2) + (z1339 * 5))), (7, iv z1342), (6, iv z1339), (0, .ref 21), (2, iv p2), (3, .ref b10), (4, iv z1190), (5, iv z1189)]) dX1_goThrough_77 (by decide) rfl ?_
      refine mr_iconst (pc := 79) (z := 1) dX1_goThrough_79 ?_
      refine mr_istore (pc := 80) (lv' := [(9, iv 1), (8, iv ((z1190 + 2) + (z1339 * 5))), (7, iv z1342), (6, iv z1339), (0, .ref 21), (2, iv p2), (3, .ref b10), (4, iv z1190), (5, iv z1189)]) dX1_goThrough_80 (by decide) rfl ?_
      refine mr_iload (pc := 82) (z := z1190) dX1_goThrough_82 rfl ?_
      refine mr_iconst (pc := 84) (z := 2) dX1_goThrough_84 ?_
      refine mr_iadd (pc := 85) (x := z1190) (y := 2) dX1_goThrough_85 ?_
      refine mr_istore (pc := 86) (lv' := [(10, iv (z1190 + 2)), (9, iv 1), (8, iv ((z1190 + 2) + (z1339 * 5))), (7, iv z1342), (6, iv z1339), (0, .ref 21), (2, iv p2), (3, .ref b10), (4, iv z1190), (5, iv z1189)]) dX1_goThrough_86 (by decide) rfl ?_
      have L1468 : ∀ (nL1468 : Nat) (z1467 z1466 : Int), True → (0 ≤ z1467 ∧ z1467 ≤ 1) → (2 ≤ z1466 ∧ z1466 ≤ 2010) → ((((z1190 + 2) + (z1339 * 5)) - z1466) % 5 = 0) → (2011 - z1466) < (nL1468 : Int) → sV (gG l D c H0 sa) mX1_goThrough (sRm 23 0 0) (sZ (gG l D c H0 sa) 0 0 (qV w [21006, 21007, 200004, 200006, 200007, 200008, 201999, 202999] μ (fun μ1 => True))) 88 [(0, .ref 21), (2, iv p2), (3, .ref b10), (5, iv z1189), (7, iv z1342), (8, iv ((z1190 + 2) + (z1339 * 5))), (9, iv z1467), (10, iv z1466)] [] (mk w μ1191) 0 0 := by
        intro nL1468
        induction nL1468 with
        | zero => intro z1467 z1466 _ h1469 h1470 h1474 h1475; exact ((vc_X1_goThrough_12_19 h1475 h1474 h1338 h1346 h1337 h1193 h1347 h1348 h1470)).elim
        | succ nL1468 ih1476 =>
          intro z1467 z1466 _ h1469 h1470 h1474 h1475
          refine mr_iload (pc := 88) (z := z1466) dX1_goThrough_88 rfl ?_
          refine mr_iload (pc := 90) (z := ((z1190 + 2) + (z1339 * 5))) dX1_goThrough_90 rfl ?_
          have J1492 : sV (gG l D c H0 sa) mX1_goThrough (sRm 23 0 0) (sZ (gG l D c H0 sa) 0 0 (qV w [21006, 21007, 200004, 200006, 200007, 200008, 201999, 202999] μ (fun μ1 => True))) 141 [(0, .ref 21), (2, iv p2), (3, .ref b10), (5, iv z1189), (7, iv z1342), (8, iv ((z1190 + 2) + (z1339 * 5))), (9, iv z1467)] [] (mk w μ1191) 0 0 := by
            refine mr_iload (pc := 141) (z := z1467) dX1_goThrough_141 rfl ?_
            refine mr_if_eq (pc := 143) (tgt := 159) dX1_goThrough_143 (by decide) (r32 h1469 rfl) (fun h1499 => ?_) (fun h1499 => ?_)
            · have h1500 : 0 ≤ z1467 ∧ z1467 ≤ 0 := (vc_X12_ring_22 h1499 h1469)
              refine mr_iload (pc := 159) (z := ((z1190 + 2) + (z1339 * 5))) dX1_goThrough_159 rfl ?_
              refine mr_iload (pc := 161) (z := z1342) dX1_goThrough_161 rfl ?_
              refine mr_iconst (pc := 163) (z := 2) dX1_goThrough_163 ?_
              refine mr_imul (pc := 164) (x := z1342) (y := 2) dX1_goThrough_164 ?_
              refine mr_iadd (pc := 165) (x := ((z1190 + 2) + (z1339 * 5))) (y := (z1342 * 2)) dX1_goThrough_165 ?_
              refine mr_istore (pc := 166) (lv' := [(4, iv (((z1190 + 2) + (z1339 * 5)) + (z1342 * 2))), (0, .ref 21), (2, iv p2), (3, .ref b10), (5, iv z1189), (7, iv z1342), (8, iv ((z1190 + 2) + (z1339 * 5))), (9, iv z1467)]) dX1_goThrough_166 (by decide) rfl ?_
              refine mr_iinc (pc := 168) (lv' := [(5, iv (z1189 + 1)), (4, iv (((z1190 + 2) + (z1339 * 5)) + (z1342 * 2))), (0, .ref 21), (2, iv p2), (3, .ref b10), (7, iv z1342), (8, iv ((z1190 + 2) + (z1339 * 5))), (9, iv z1467)]) dX1_goThrough_168 rfl (by decide) rfl ?_
              refine sv_goto (pc := 171) (tgt := 32) dX1_goThrough_171 (by decide) ?_
              refine mr_lvS (lv' := [(0, .ref 21), (2, iv p2), (3, .ref b10), (4, iv (((z1190 + 2) + (z1339 * 5)) + (z1342 * 2))), (5, iv (z1189 + 1))]) (List.forall_mem_cons.mpr ⟨rfl, List.forall_mem_cons.mpr ⟨rfl, List.forall_mem_cons.mpr ⟨rfl, List.forall_mem_cons.mpr ⟨rfl, List.forall_mem_cons.mpr ⟨rfl, fun _ h => absurd h List.not_mem_nil⟩⟩⟩⟩⟩) ?_
              exact ih1202 (((z1190 + 2) + (z1339 * 5)) + (z1342 * 2)) (z1189 + 1) μ1191 T1195 (mF.call mF.refl F1196 rfl) (vc_X1_goThrough_12_21 h1338 h1346 h1474 h1337 h1193 h1347 h1348 h1470) (rW (c := 0) (d := 30) (rAdd (e := 1) (f := 30) h1268 (rR (x := 1)) rfl) rfl) I1198 I1199 (wfR.cg B1345.2.2 (vc_X1_goThrough_12_23 h1338 h1346 h1474 h1337 h1193 h1347 h1348 h1470)) (vc_X1_goThrough_12_22 (nS h1201) h1338 h1346 h1474 h1337 h1193 h1347 h1348 h1470)
            have h1501 : 1 ≤ z1467 ∧ z1467 ≤ 1 := (vc_X12_ring_24 h1499 h1469)
            refine sv_aload_n (pc := 146) dX1_goThrough_146 rfl rfl ?_
            refine sv_aload_n (pc := 147) dX1_goThrough_147 rfl rfl ?_
            refine gk_X5_1 (pc := 148) dX1_goThrough_148 wF_X1_60 A12 (F1196.f A12 rfl q15) ?_
            refine mr_iload (pc := 151) (z := ((z1190 + 2) + (z1339 * 5))) dX1_goThrough_151 rfl ?_
            refine mr_iload (pc := 153) (z := z1342) dX1_goThrough_153 rfl ?_
            refine mr_iload_n (pc := 155) (z := p2) dX1_goThrough_155 rfl rfl ?_
            refine mr_cVV (pc := 156) (c_X1_doActs_3 hw T1195 A16 (vc_X1_goThrough_12_25 h1338 h1346 h1474 h1337 h1193 h1347 h1348 h1470) h1348 hp2 I1198 I1199 (lnL q1336 (vc_X1_goThrough_12_26 h1338 h1346 h1474 h1337 h1193 h1347 h1348 h1470)) (argC B1345.2.1 (vc_X1_goThrough_12_27 h1338 h1346 h1474 h1337 h1193 h1347 h1348 h1470) (funext fun i => ((mF.call mF.refl F1196 rfl) : mF [21006, 21007, 200004, 200006, 200007, 200008, 201999, 202999] w μ μ1191).f A16 rfl rfl))) (gOk _ _ _ _ _) dX1_goThrough_156 (tX1_doActs _ _ _ _ _) ⟨wV_X1_doActs, wL_X1_doActs⟩ wM_X1_68 (gCX1 _ _ _ _ _) rfl (A_21 hw) rfl ⟨le_t rfl, le_t rfl⟩ ⟨le_t rfl, le_t rfl⟩ rfl (le_t rfl) fun μ1502 T1503 F1504 h1505 => ?_
            refine mr_iload (pc := 159) (z := ((z1190 + 2) + (z1339 * 5))) dX1_goThrough_159 rfl ?_
            refine mr_iload (pc := 161) (z := z1342) dX1_goThrough_161 rfl ?_
            refine mr_iconst (pc := 163) (z := 2) dX1_goThrough_163 ?_
            refine mr_imul (pc := 164) (x := z1342) (y := 2) dX1_goThrough_164 ?_
            refine mr_iadd (pc := 165) (x := ((z1190 + 2) + (z1339 * 5))) (y := (z1342 * 2)) dX1_goThrough_165 ?_
            refine mr_istore (pc := 166) (lv' := [(4, iv (((z1190 + 2) + (z1339 * 5)) + (z1342 * 2))), (0, .ref 21), (2, iv p2), (3, .ref b10), (5, iv z1189), (7, iv z1342), (8, iv ((z1190 + 2) + (z1339 * 5))), (9, iv z1467)]) dX1_goThrough_166 (by decide) rfl ?_
            refine mr_iinc (pc := 168) (lv' := [(5, iv (z1189 + 1)), (4, iv (((z1190 + 2) + (z1339 * 5)) + (z1342 * 2))), (0, .ref 21), (2, iv p2), (3, .ref b10), (7, iv z1342), (8, iv ((z1190 + 2) + (z1339 * 5))), (9, iv z1467)]) dX1_goThrough_168 rfl (by decide) rfl ?_
            refine sv_goto (pc := 171) (tgt := 32) dX1_goThrough_171 (by decide) ?_
            refine mr_lvS (lv' := [(0, .ref 21), (2, iv p2), (3, .ref b10), (4, iv (((z1190 + 2) + (z1339 * 5)) + (z1342 * 2))), (5, iv (z1189 + 1))]) (List.forall_mem_cons.mpr ⟨rfl, List.forall_mem_cons.mpr ⟨rfl, List.forall_mem_cons.mpr ⟨rfl, List.forall_mem_cons.mpr ⟨rfl, List.forall_mem_cons.mpr ⟨rfl, fun _ h => absurd h List.not_mem_nil⟩⟩⟩⟩⟩) ?_
            exact ih1202 (((z1190 + 2) + (z1339 * 5)) + (z1342 * 2)) (z1189 + 1) μ1502 T1503 (mF.call (mF.call mF.refl F1196 rfl) F1504 rfl) (vc_X1_goThrough_12_21 h1338 h1346 h1474 h1337 h1193 h1347 h1348 h1470) (rW (c := 0) (d := 30) (rAdd (e := 1) (f := 30) h1268 (rR (x := 1)) rfl) rfl) (PC.keep I1198 hw ((mF.call mF.refl F1504 rfl) : mF [21006, 21007, 200004, 200006, 200007, 200008, 201999, 202999] w μ1191 μ1502) rfl) (RT.keep I1199 hw ((mF.call mF.refl F1504 rfl) : mF [21006, 21007, 200004, 200006, 200007, 200008, 201999, 202999] w μ1191 μ1502) rfl) (wfR.cg B1345.2.2 (vc_X1_goThrough_12_23 h1338 h1346 h1474 h1337 h1193 h1347 h1348 h1470)) (vc_X1_goThrough_12_22 (nS h1201) h1338 h1346 h1474 h1337 h1193 h1347 h1348 h1470)
          refine mr_icmp_ge (pc := 92) (tgt := 141) dX1_goThrough_92 (by decide) (r32 h1470 rfl) (r32 (rAdd (e := 2) (f := 4002) (rAdd (e := 2) (f := 2002) h1193 (rR (x := 2)) rfl) (rMulR (n := 5) (e := 0) (f := 2000) h1347 rfl) rfl) rfl) (fun h1506 => ?_) (fun h1506 => ?_)
          · refine mr_lvS (lv' := [(0, .ref 21), (2, iv p2), (3, .ref b10), (5, iv z1189), (7, iv z1342), (8, iv ((z1190 + 2) + (z1339 * 5))), (9, iv z1467)]) (List.forall_mem_cons.mpr ⟨rfl, List.forall_mem_cons.mpr ⟨rfl, List.forall_mem_cons.mpr ⟨rfl, List.forall_mem_cons.mpr ⟨rfl, List.forall_mem_cons.mpr ⟨rfl, List.forall_mem_cons.mpr ⟨rfl, List.forall_mem_cons.mpr ⟨rfl, fun _ h => absurd h List.not_mem_nil⟩⟩⟩⟩⟩⟩⟩) ?_
            exact J1492 
          refine mr_iload (pc := 95) (z := z1467) dX1_goThrough_95 rfl ?_
          refine mr_if_eq (pc := 97) (tgt := 141) dX1_goThrough_97 (by decide) (r32 h1469 rfl) (fun h1507 => ?_) (fun h1507 => ?_)
          · have h1508 : 0 ≤ z1467 ∧ z1467 ≤ 0 := (vc_X12_ring_22 h1507 h1469)
            refine mr_lvS (lv' := [(0, .ref 21), (2, iv p2), (3, .ref b10), (5, iv z1189), (7, iv z1342), (8, iv ((z1190 + 2) + (z1339 * 5))), (9, iv z1467)]) (List.forall_mem_cons.mpr ⟨rfl, List.forall_mem_cons.mpr ⟨rfl, List.forall_mem_cons.mpr ⟨rfl, List.forall_mem_cons.mpr ⟨rfl, List.forall_mem_cons.mpr ⟨rfl, List.forall_mem_cons.mpr ⟨rfl, List.forall_mem_cons.mpr ⟨rfl, fun _ h => absurd h List.not_mem_nil⟩⟩⟩⟩⟩⟩⟩) ?_
            exact J1492 
          have h1509 : 1 ≤ z1467 ∧ z1467 ≤ 1 := (vc_X12_ring_24 h1507 h1469)
          refine sv_aload_n (pc := 100) dX1_goThrough_100 rfl rfl ?_
          refine sv_aload_n (pc := 101) dX1_goThrough_101 rfl rfl ?_
          refine mr_iload (pc := 102) (z := z1466) dX1_goThrough_102 rfl ?_
          refine mr_cVP (pc := 104) (c_X1_isSo hw T1195 A12 (vc_X1_goThrough_12_28 h1474 h1506 h1338 h1346 h1337 h1193 h1347 h1348 h1470) I1199 (lnF (F1196.f A12 rfl q15) q1336 (vc_X1_goThrough_12_29 h1338 h1346 h1474 h1506 h1337 h1193 h1347 h1348 h1470)) (by rw [((mF.call mF.refl F1196 rfl) : mF [21006, 21007, 200004, 200006, 200007, 200008, 201999, 202999] w μ μ1191).f (k := 2) A12 rfl rfl, ((mF.call mF.refl F1196 rfl) : mF [21006, 21007, 200004, 200006, 200007, 200008, 201999, 202999] w μ μ1191).f (k := 3) A12 rfl rfl]; exact e19) (by rw [((mF.call mF.refl F1196 rfl) : mF [21006, 21007, 200004, 200006, 200007, 200008, 201999, 202999] w μ μ1191).f (k := 4) A12 rfl rfl, ((mF.call mF.refl F1196 rfl) : mF [21006, 21007, 200004, 200006, 200007, 200008, 201999, 202999] w μ μ1191).f (k := 5) A12 rfl rfl]; exact e20)) (gOk _ _ _ _ _) dX1_goThrough_104 (tX1_isSo _ _ _ _ _) ⟨wV_X1_isSo, wL_X1_isSo⟩ wM_X1_64 (gCX1 _ _ _ _ _) rfl (A_21 hw) rfl ⟨le_t rfl, le_t rfl⟩ ⟨le_t rfl, le_t rfl⟩ rfl (le_t rfl) fun z1514 h1513 => ?_
          refine sv_aload_n (pc := 107) dX1_goThrough_107 rfl rfl ?_
          refine gk_X5_1 (pc := 108) dX1_goThrough_108 wF_X1_60 A12 (F1196.f A12 rfl q15) ?_
          refine mr_iload (pc := 111) (z := z1466) dX1_goThrough_111 rfl ?_
          refine mr_iconst (pc := 113) (z := 1) dX1_goThrough_113 ?_
          refine mr_iadd (pc := 114) (x := z1466) (y := 1) dX1_goThrough_114 ?_
          refine la_231 (pc := 115) dX1_goThrough_115 A16 T1195 (lnC q1336 (vc_X1_goThrough_12_30 h1338 h1346 h1474 h1506 h1337 h1193 h1347 h1348 h1470)) fun z1515 q1516 h1517 => ?_
          refine mr_iconst (pc := 116) (z := 1) dX1_goThrough_116 ?_
          refine mr_icmp_ne (pc := 117) (tgt := 124) dX1_goThrough_117 (by decide) h1517 (r32 (rR (x := 1)) rfl) (fun h1519 => ?_) (fun h1519 => ?_)
          · refine mr_iconst (pc := 124) (z := 0) dX1_goThrough_124 ?_
            refine mr_icmp_eq (pc := 125) (tgt := 132) dX1_goThrough_125 (by decide) (r32 h1513.1 rfl) (r32 (rR (x := 0)) rfl) (fun h1522 => ?_) (fun h1522 => ?_)
            · have h1523 : 0 ≤ z1514 ∧ z1514 ≤ 0 := (vc_X12_ring_22 h1522 h1513.1)
              refine mr_iconst (pc := 132) (z := 0) dX1_goThrough_132 ?_
              refine mr_istore (pc := 133) (lv' := [(9, iv 0), (0, .ref 21), (2, iv p2), (3, .ref b10), (5, iv z1189), (7, iv z1342), (8, iv ((z1190 + 2) + (z1339 * 5))), (10, iv z1466)]) dX1_goThrough_133 (by decide) rfl ?_
              refine mr_iinc (pc := 135) (lv' := [(10, iv (z1466 + 5)), (9, iv 0), (0, .ref 21), (2, iv p2), (3, .ref b10), (5, iv z1189), (7, iv z1342), (8, iv ((z1190 + 2) + (z1339 * 5)))]) dX1_goThrough_135 rfl (by decide) rfl ?_
              refine sv_goto (pc := 138) (tgt := 88) dX1_goThrough_138 (by decide) ?_
              refine mr_lvS (lv' := [(0, .ref 21), (2, iv p2), (3, .ref b10), (5, iv z1189), (7, iv z1342), (8, iv ((z1190 + 2) + (z1339 * 5))), (9, iv 0), (10, iv (z1466 + 5))]) (List.forall_mem_cons.mpr ⟨rfl, List.forall_mem_cons.mpr ⟨rfl, List.forall_mem_cons.mpr ⟨rfl, List.forall_mem_cons.mpr ⟨rfl, List.forall_mem_cons.mpr ⟨rfl, List.forall_mem_cons.mpr ⟨rfl, List.forall_mem_cons.mpr ⟨rfl, List.forall_mem_cons.mpr ⟨rfl, fun _ h => absurd h List.not_mem_nil⟩⟩⟩⟩⟩⟩⟩⟩) ?_
              exact ih1476 0 (z1466 + 5) trivial (rW (c := 0) (d := 1) (rR (x := 0)) rfl) (vc_X1_goThrough_12_32 h1474 h1506 h1338 h1346 h1337 h1193 h1347 h1348 h1470) (vc_X1_goThrough_12_33 h1338 h1346 h1474 h1506 h1337 h1193 h1347 h1348 h1470) (vc_X1_goThrough_12_34 (nS h1475) h1474 h1506 h1338 h1346 h1337 h1193 h1347 h1348 h1470)
            have h1524 : 1 ≤ z1514 ∧ z1514 ≤ 1 := (vc_X12_ring_24 h1522 h1513.1)
            refine mr_iconst (pc := 128) (z := 1) dX1_goThrough_128 ?_
            refine sv_goto (pc := 129) (tgt := 133) dX1_goThrough_129 (by decide) ?_
            refine mr_istore (pc := 133) (lv' := [(9, iv 1), (0, .ref 21), (2, iv p2), (3, .ref b10), (5, iv z1189), (7, iv z1342), (8, iv ((z1190 + 2) + (z1339 * 5))), (10, iv z1466)]) dX1_goThrough_133 (by decide) rfl ?_
            refine mr_iinc (pc := 135) (lv' := [(10, iv (z1466 + 5)), (9, iv 1), (0, .ref 21), (2, iv p2), (3, .ref b10), (5, iv z1189), (7, iv z1342), (8, iv ((z1190 + 2) + (z1339 * 5)))]) dX1_goThrough_135 rfl (by decide) rfl ?_
            refine sv_goto (pc := 138) (tgt := 88) dX1_goThrough_138 (by decide) ?_
            refine mr_lvS (lv' := [(0, .ref 21), (2, iv p2), (3, .ref b10), (5, iv z1189), (7, iv z1342), (8, iv ((z1190 + 2) + (z1339 * 5))), (9, iv 1), (10, iv (z1466 + 5))]) (List.forall_mem_cons.mpr ⟨rfl, List.forall_mem_cons.mpr ⟨rfl, List.forall_mem_cons.mpr ⟨rfl, List.forall_mem_cons.mpr ⟨rfl, List.forall_mem_cons.mpr ⟨rfl, List.forall_mem_cons.mpr ⟨rfl, List.forall_mem_cons.mpr ⟨rfl, List.forall_mem_cons.mpr ⟨rfl, fun _ h => absurd h List.not_mem_nil⟩⟩⟩⟩⟩⟩⟩⟩) ?_
            exact ih1476 1 (z1466 + 5) trivial (rW (c := 0) (d := 1) (rR (x := 1)) rfl) (vc_X1_goThrough_12_32 h1474 h1506 h1338 h1346 h1337 h1193 h1347 h1348 h1470) (vc_X1_goThrough_12_33 h1338 h1346 h1474 h1506 h1337 h1193 h1347 h1348 h1470) (vc_X1_goThrough_12_34 (nS h1475) h1474 h1506 h1338 h1346 h1337 h1193 h1347 h1348 h1470)
          have h1525 : 1 ≤ z1515 ∧ z1515 ≤ 1 := (vc_X0_compareAt_1 h1519 h1517)
          refine mr_iconst (pc := 120) (z := 1) dX1_goThrough_120 ?_
          refine sv_goto (pc := 121) (tgt := 125) dX1_goThrough_121 (by decide) ?_
          refine mr_icmp_eq (pc := 125) (tgt := 132) dX1_goThrough_125 (by decide) (r32 h1513.1 rfl) (r32 (rR (x := 1)) rfl) (fun h1528 => ?_) (fun h1528 => ?_)
          · have h1529 : 1 ≤ z1514 ∧ z1514 ≤ 1 := (vc_X1_goThrough_12_37 h1528 h1513.1)
            refine mr_iconst (pc := 132) (z := 0) dX1_goThrough_132 ?_
            refine mr_istore (pc := 133) (lv' := [(9, iv 0), (0, .ref 21), (2, iv p2), (3, .ref b10), (5, iv z1189), (7, iv z1342), (8, iv ((z1190 + 2) + (z1339 * 5))), (10, iv z1466)]) dX1_goThrough_133 (by decide) rfl ?_
            refine mr_iinc (pc := 135) (lv' := [(10, iv (z1466 + 5)), (9, iv 0), (0, .ref 21), (2, iv p2), (3, .ref b10), (5, iv z1189), (7, iv z1342), (8, iv ((z1190 + 2) + (z1339 * 5)))]) dX1_goThrough_135 rfl (by decide) rfl ?_
            refine sv_goto (pc := 138) (tgt := 88) dX1_goThrough_138 (by decide) ?_
            refine mr_lvS (lv' := [(0, .ref 21), (2, iv p2), (3, .ref b10), (5, iv z1189), (7, iv z1342), (8, iv ((z1190 + 2) + (z1339 * 5))), (9, iv 0), (10, iv (z1466 + 5))]) (List.forall_mem_cons.mpr ⟨rfl, List.forall_mem_cons.mpr ⟨rfl, List.forall_mem_cons.mpr ⟨rfl, List.forall_mem_cons.mpr ⟨rfl, List.forall_mem_cons.mpr ⟨rfl, List.forall_mem_cons.mpr ⟨rfl, List.forall_mem_cons.mpr ⟨rfl, List.forall_mem_cons.mpr ⟨rfl, fun _ h => absurd h List.not_mem_nil⟩⟩⟩⟩⟩⟩⟩⟩) ?_
            exact ih1476 0 (z1466 + 5) trivial (rW (c := 0) (d := 1) (rR (x := 0)) rfl) (vc_X1_goThrough_12_32 h1474 h1506 h1338 h1346 h1337 h1193 h1347 h1348 h1470) (vc_X1_goThrough_12_33 h1338 h1346 h1474 h1506 h1337 h1193 h1347 h1348 h1470) (vc_X1_goThrough_12_34 (nS h1475) h1474 h1506 h1338 h1346 h1337 h1193 h1347 h1348 h1470)
          have h1530 : 0 ≤ z1514 ∧ z1514 ≤ 0 := (vc_X1_goThrough_12_38 h1528 h1513.1)
          refine mr_iconst (pc := 128) (z := 1) dX1_goThrough_128 ?_
          refine sv_goto (pc := 129) (tgt := 133) dX1_goThrough_129 (by decide) ?_
          refine mr_istore (pc := 133) (lv' := [(9, iv 1), (0, .ref 21), (2, iv p2), (3, .ref b10), (5, iv z1189), (7, iv z1342), (8, iv ((z1190 + 2) + (z1339 * 5))), (10, iv z1466)]) dX1_goThrough_133 (by decide) rfl ?_
          refine mr_iinc (pc := 135) (lv' := [(10, iv (z1466 + 5)), (9, iv 1), (0, .ref 21), (2, iv p2), (3, .ref b10), (5, iv z1189), (7, iv z1342), (8, iv ((z1190 + 2) + (z1339 * 5)))]) dX1_goThrough_135 rfl (by decide) rfl ?_
          refine sv_goto (pc := 138) (tgt := 88) dX1_goThrough_138 (by decide) ?_
          refine mr_lvS (lv' := [(0, .ref 21), (2, iv p2), (3, .ref b10), (5, iv z1189), (7, iv z1342), (8, iv ((z1190 + 2) + (z1339 * 5))), (9, iv 1), (10, iv (z1466 + 5))]) (List.forall_mem_cons.mpr ⟨rfl, List.forall_mem_cons.mpr ⟨rfl, List.forall_mem_cons.mpr ⟨rfl, List.forall_mem_cons.mpr ⟨rfl, List.forall_mem_cons.mpr ⟨rfl, List.forall_mem_cons.mpr ⟨rfl, List.forall_mem_cons.mpr ⟨rfl, List.forall_mem_cons.mpr ⟨rfl, fun _ h => absurd h List.not_mem_nil⟩⟩⟩⟩⟩⟩⟩⟩) ?_
          exact ih1476 1 (z1466 + 5) trivial (rW (c := 0) (d := 1) (rR (x := 1)) rfl) (vc_X1_goThrough_12_32 h1474 h1506 h1338 h1346 h1337 h1193 h1347 h1348 h1470) (vc_X1_goThrough_12_33 h1338 h1346 h1474 h1506 h1337 h1193 h1347 h1348 h1470) (vc_X1_goThrough_12_34 (nS h1475) h1474 h1506 h1338 h1346 h1337 h1193 h1347 h1348 h1470)
      refine mr_lvS (lv' := [(0, .ref 21), (2, iv p2), (3, .ref b10), (5, iv z1189), (7, iv z1342), (8, iv ((z1190 + 2) + (z1339 * 5))), (9, iv 1), (10, iv (z1190 + 2))]) (List.forall_mem_cons.mpr ⟨rfl, List.forall_mem_cons.mpr ⟨rfl, List.forall_mem_cons.mpr ⟨rfl, List.forall_mem_cons.mpr ⟨rfl, List.forall_mem_cons.mpr ⟨rfl, List.forall_mem_cons.mpr ⟨rfl, List.forall_mem_cons.mpr ⟨rfl, List.forall_mem_cons.mpr ⟨rfl, fun _ h => absurd h List.not_mem_nil⟩⟩⟩⟩⟩⟩⟩⟩) ?_
      exact L1468 2010 1 (z1190 + 2) trivial (rW (c := 0) (d := 1) (rR (x := 1)) rfl) (rW (c := 2) (d := 2010) (rAdd (e := 2) (f := 2002) h1193 (rR (x := 2)) rfl) rfl) (vc_X1_goThrough_12_39 h1338 h1346 h1337 h1193 h1347 h1348) (vc_X1_goThrough_12_40 h1338 h1346 h1337 h1193 h1347 h1348)
  refine mr_lvS (lv' := [(0, .ref 21), (2, iv p2), (3, .ref b10), (4, iv 0), (5, iv 0)]) (List.forall_mem_cons.mpr ⟨rfl, List.forall_mem_cons.mpr ⟨rfl, List.forall_mem_cons.mpr ⟨rfl, List.forall_mem_cons.mpr ⟨rfl, List.forall_mem_cons.mpr ⟨rfl, fun _ h => absurd h List.not_mem_nil⟩⟩⟩⟩⟩) ?_
  exact L1192 2002 0 0 μ hT mF.refl (rW (c := 0) (d := 2000) (rR (x := 0)) rfl) (rW (c := 0) (d := 30) (rR (x := 0)) rfl) hIPC hIRT R18 vc_X1_goThrough_12_41
set_option maxRecDepth 4000 in
set_option maxHeartbeats 4000000 in
theorem c_X1_doActs_2 {l : Launch} {D : va_G} {c : Nat → ClassId} {H0 : Heap} {sa : Nat × Nat × (Nat → Int32)} {w : mW} {μ : mM} (hw : mWF w) (hT : mT w μ) {a1 : Nat} (hA1 : mAt w a1 231) {p2 : Int} (hp2 : 0 ≤ p2 ∧ p2 ≤ 2000) {p3 : Int} (hp3 : 0 ≤ p3 ∧ p3 ≤ 1000) {p4 : Int} (hp4 : 2 ≤ p4 ∧ p4 ≤ 2) (hIPC : PC w μ) (hIRT : RT μ) (hlen : p2 + 2 * p3 ≤ (w.2.2.1 a1 : Int)) (harg : ∀ i : Int, 0 ≤ i → i < p3 → 0 ≤ μ a1 (p2 + 2 * i + 1).toNat ∧ μ a1 (p2 + 2 * i + 1).toNat ≤ 1000000) : sC (gG l D c H0 sa) mX1_doActs 24 0 0 [.ref 21, .ref a1, iv p2, iv p3, iv p4] (mk w μ) (qV w [21006, 21007, 200004, 200006, 200007, 200008, 201999, 202999] μ (fun μ1 => True)) := by
  refine sC.of rfl (by decide) (le_t rfl) ?_
  refine mr_lvE (lv' := [(0, .ref 21), (1, .ref a1), (2, iv p2), (3, iv p3), (4, iv p4)]) rfl ?_
  obtain ⟨n_1, q2⟩ : ∃ n : Int, (w.2.2.1 a1 : Int) = n := ⟨_, rfl⟩
  have h3 : 0 ≤ n_1 ∧ n_1 ≤ 2000 := lnR (m := 2000) q2 hA1 rfl
  have h4 : p2 + 2 * p3 ≤ n_1 := lnLe q2 hlen
  refine mr_iconst (pc := 0) (z := 0) dX1_doActs_0 ?_
  refine mr_istore (pc := 1) (lv' := [(5, iv 0), (0, .ref 21), (1, .ref a1), (2, iv p2), (3, iv p3), (4, iv p4)]) dX1_doActs_1 (by decide) rfl ?_
  have L1991 : ∀ (nL1991 : Nat) (z1989 : Int) (μ1990 : mM), mT w μ1990 → mF [21006, 21007, 200004, 200006, 200007, 200008, 201999, 202999] w μ μ1990 → (0 ≤ z1989 ∧ z1989 ≤ 1000) → PC w μ1990 → RT μ1990 → (1001 - z1989) < (nL1991 : Int) → sV (gG l D c H0 sa) mX1_doActs (sRm 24 0 0) (sZ (gG l D c H0 sa) 0 0 (qV w [21006, 21007, 200004, 200006, 200007, 200008, 201999, 202999] μ (fun μ1 => True))) 3 [(0, .ref 21), (1, .ref a1), (2, iv p2), (3, iv p3), (4, iv p4), (5, iv z1989)] [] (mk w μ1990) 0 0 := by
    intro nL1991
    induction nL1991 with
    | zero => intro z1989 μ1990 T1993 F1994 h1992 I1996 I1997 h1998; exact ((vc_X1_doActs_12_1 h1998 h1992)).elim
    | succ nL1991 ih1999 =>
      intro z1989 μ1990 T1993 F1994 h1992 I1996 I1997 h1998
      refine mr_iload (pc := 3) (z := z1989) dX1_doActs_3 rfl ?_
      refine mr_iload_n (pc := 5) (z := p3) dX1_doActs_5 rfl rfl ?_
      refine mr_icmp_ge (pc := 6) (tgt := 266) dX1_doActs_6 (by decide) (r32 h1992 rfl) (r32 hp3 rfl) (fun h2000 => ?_) (fun h2000 => ?_)
      · exact mr_vret dX1_doActs_266 rfl (le_t rfl) (le_t rfl) T1993 (mF.call mF.refl F1994 rfl) trivial
      have h2001 : 0 ≤ z1989 ∧ z1989 ≤ 999 := (vc_X1_doActs_12_2 h2000 h4 h3 hp2 hp3 h1992)
      have h2002 : 1 ≤ p3 ∧ p3 ≤ 1000 := (vc_X1_doActs_12_3 h2000 h4 h3 hp2 hp3 h2001)
      refine sv_aload_n (pc := 9) dX1_doActs_9 rfl rfl ?_
      refine gf_X1_7 (pc := 10) dX1_doActs_10 wF_X1_50 (A_21 hw) T1993 fun z2003 q2004 h2005 => ?_
      refine mr_if_ne (pc := 13) (tgt := 266) dX1_doActs_13 (by decide) (r32 h2005 rfl) (fun h2006 => ?_) (fun h2006 => ?_)
      · have h2007 : 1 ≤ z2003 ∧ z2003 ≤ 2 := (vc_X12_provides_3 h2006 h2005)
        exact mr_vret dX1_doActs_266 rfl (le_t rfl) (le_t rfl) T1993 (mF.call mF.refl F1994 rfl) trivial
      have h2008 : 0 ≤ z2003 ∧ z2003 ≤ 0 := (vc_X12_provides_4 h2006 h2005)
      refine sv_aload_n (pc := 16) dX1_doActs_16 rfl rfl ?_
      refine mr_iload_n (pc := 17) (z := p2) dX1_doActs_17 rfl rfl ?_
      refine mr_iload (pc := 18) (z := z1989) dX1_doActs_18 rfl ?_
      refine mr_iconst (pc := 20) (z := 2) dX1_doActs_20 ?_
      refine mr_imul (pc := 21) (x := z1989) (y := 2) dX1_doActs_21 ?_
      refine mr_iadd (pc := 22) (x := p2) (y := (z1989 * 2)) dX1_doActs_22 ?_
      refine mr_iconst (pc := 23) (z := 1) dX1_doActs_23 ?_
      refine mr_iadd (pc := 24) (x := (p2 + (z1989 * 2))) (y := 1) dX1_doActs_24 ?_
      refine la_231 (pc := 25) dX1_doActs_25 hA1 T1993 (lnC q2 (vc_X1_doActs_12_6 h4 h2000 h3 hp2 h2002 h2001)) fun z2009 q2010 h2011 => ?_
      have h2012 : 0 ≤ z2009 ∧ z2009 ≤ 1000000 := argB harg (vc_X1_doActs_12_7 h2000 h4 h3 hp2 h2002 h2001) (vc_X1_doActs_12_8 h4 h2000 h3 hp2 h2002 h2001) (vc_X1_doActs_12_9 h4 h2000 h3 hp2 h2002 h2001) (((mF.call mF.refl F1994 rfl) : mF [21006, 21007, 200004, 200006, 200007, 200008, 201999, 202999] w μ μ1990).f hA1 rfl rfl) q2010
      refine mr_istore (pc := 26) (lv' := [(6, iv z2009), (0, .ref 21), (1, .ref a1), (2, iv p2), (3, iv p3), (4, iv p4), (5, iv z1989)]) dX1_doActs_26 (by decide) rfl ?_
      refine sv_aload_n (pc := 28) dX1_doActs_28 rfl rfl ?_
      refine gf_X1_6 (pc := 29) dX1_doActs_29 wF_X1_47 (A_21 hw) T1993 fun z2013 q2014 h2015 => ?_
      refine mr_sipush (pc := 32) (z := 500) dX1_doActs_32 (by decide) ?_
      refine mr_icmp_lt (pc := 35) (tgt := 44) dX1_doActs_35 (by decide) (r32 h2015 rfl) (r32 (rR (x := 500)) rfl) (fun h2016 => ?_) (fun h2016 => ?_)
      · have h2017 : 0 ≤ z2013 ∧ z2013 ≤ 499 := (vc_X1_doActs_12_10 h2016 h2015)
        refine sv_aload_n (pc := 44) dX1_doActs_44 rfl rfl ?_
        refine sv_dup (pc := 45) dX1_doActs_45 rfl ?_
        refine gk_X1_6 (pc := 46) dX1_doActs_46 wF_X1_47 (A_21 hw) q2014 ?_
        refine mr_iconst (pc := 49) (z := 1) dX1_doActs_49 ?_
        refine mr_iadd (pc := 50) (x := z2013) (y := 1) dX1_doActs_50 ?_
        refine pf_X1_6 (pc := 51) dX1_doActs_51 wF_X1_47 (A_21 hw) T1993 (rW (c := 0) (d := 500) (rAdd (e := 1) (f := 500) h2017 (rR (x := 1)) rfl) rfl) fun μ2018 u2019 T2020 => ?_
        refine sv_aload_n (pc := 54) dX1_doActs_54 rfl rfl ?_
        refine mr_iload_n (pc := 55) (z := p2) dX1_doActs_55 rfl rfl ?_
        refine mr_iload (pc := 56) (z := z1989) dX1_doActs_56 rfl ?_
        refine mr_iconst (pc := 58) (z := 2) dX1_doActs_58 ?_
        refine mr_imul (pc := 59) (x := z1989) (y := 2) dX1_doActs_59 ?_
        refine mr_iadd (pc := 60) (x := p2) (y := (z1989 * 2)) dX1_doActs_60 ?_
        refine la_231 (pc := 61) dX1_doActs_61 hA1 T2020 (lnC q2 (vc_X1_doActs_12_11 h4 h2000 h3 hp2 h2002 h2001)) fun z2021 q2022 h2023 => ?_
        by_cases h2024 : z2021 = 12
        · refine mr_tableIn (pc := 62) (v := 12) (tgt := 184) dX1_doActs_62 h2024 rfl rfl (by decide) ?_
          have h2025 : 12 ≤ z2021 ∧ z2021 ≤ 12 := (vc_X1_doActs_12_12 h2024 h2023)
          refine sv_aload_n (pc := 184) dX1_doActs_184 rfl rfl ?_
          refine gf_X1_2 (pc := 185) dX1_doActs_185 wF_X1_25 (A_21 hw) T2020 (RT.keep I1997 hw ((mF.up mF.refl (A_21 hw) u2019 rfl) : mF [21006] w μ1990 μ2018) rfl) fun b2026 q2027 A2028 => ?_
          refine mr_iload (pc := 188) (z := z2009) dX1_doActs_188 rfl ?_
          refine pf_X7_4 (pc := 190) dX1_doActs_190 wF_X1_105 A2028 T2020 (rW (c := (-2147483648)) (d := 2147483647) h2012 rfl) fun μ2029 u2030 T2031 => ?_
          refine sv_goto (pc := 193) (tgt := 260) dX1_doActs_193 (by decide) ?_
          refine mr_iinc (pc := 260) (lv' := [(5, iv (z1989 + 1)), (6, iv z2009), (0, .ref 21), (1, .ref a1), (2, iv p2), (3, iv p3), (4, iv p4)]) dX1_doActs_260 rfl (by decide) rfl ?_
          refine sv_goto (pc := 263) (tgt := 3) dX1_doActs_263 (by decide) ?_
          refine mr_lvS (lv' := [(0, .ref 21), (1, .ref a1), (2, iv p2), (3, iv p3), (4, iv p4), (5, iv (z1989 + 1))]) (List.forall_mem_cons.mpr ⟨rfl, List.forall_mem_cons.mpr ⟨rfl, List.forall_mem_cons.mpr ⟨rfl, List.forall_mem_cons.mpr ⟨rfl, List.forall_mem_cons.mpr ⟨rfl, List.forall_mem_cons.mpr ⟨rfl, fun _ h => absurd h List.not_mem_nil⟩⟩⟩⟩⟩⟩) ?_
          exact ih1999 (z1989 + 1) μ2029 T2031 (mF.up (mF.up (mF.call mF.refl F1994 rfl) (A_21 hw) u2019 rfl) A2028 u2030 rfl) (rW (c := 0) (d := 1000) (rAdd (e := 1) (f := 1000) h2001 (rR (x := 1)) rfl) rfl) (PC.keep I1996 hw ((mF.up (mF.up mF.refl (A_21 hw) u2019 rfl) A2028 u2030 rfl) : mF [21006, 200004] w μ1990 μ2029) rfl) (RT.keep I1997 hw ((mF.up (mF.up mF.refl (A_21 hw) u2019 rfl) A2028 u2030 rfl) : mF [21006, 200004] w μ1990 μ2029) rfl) (vc_X1_doActs_12_13 (nS h1998) h2000 h4 h3 hp2 h2002 h2001)
        by_cases h2032 : z2021 = 13
        · refine mr_tableIn (pc := 62) (v := 13) (tgt := 196) dX1_doActs_62 h2032 rfl rfl (by decide) ?_
          have h2033 : 13 ≤ z2021 ∧ z2021 ≤ 13 := (vc_X1_doActs_12_14 h2032 h2024 h2023)
          refine sv_aload_n (pc := 196) dX1_doActs_196 rfl rfl ?_
          refine gf_X1_2 (pc := 197) dX1_doActs_197 wF_X1_25 (A_21 hw) T2020 (RT.keep I1997 hw ((mF.up mF.refl (A_21 hw) u2019 rfl) : mF [21006] w μ1990 μ2018) rfl) fun b2034 q2035 A2036 => ?_
          refine mr_iload (pc := 200) (z := z2009) dX1_doActs_200 rfl ?_
          refine pf_X7_6 (pc := 202) dX1_doActs_202 wF_X1_108 A2036 T2020 (rW (c := (-2147483648)) (d := 2147483647) h2012 rfl) fun μ2037 u2038 T2039 => ?_
          refine sv_goto (pc := 205) (tgt := 260) dX1_doActs_205 (by decide) ?_
          refine mr_iinc (pc := 260) (lv' := [(5, iv (z1989 + 1)), (6, iv z2009), (0, .ref 21), (1, .ref a1), (2, iv p2), (3, iv p3), (4, iv p4)]) dX1_doActs_260 rfl (by decide) rfl ?_
          refine sv_goto (pc := 263) (tgt := 3) dX1_doActs_263 (by decide) ?_
          refine mr_lvS (lv' := [(0, .ref 21), (1, .ref a1), (2, iv p2), (3, iv p3), (4, iv p4), (5, iv (z1989 + 1))]) (List.forall_mem_cons.mpr ⟨rfl, List.forall_mem_cons.mpr ⟨rfl, List.forall_mem_cons.mpr ⟨rfl, List.forall_mem_cons.mpr ⟨rfl, List.forall_mem_cons.mpr ⟨rfl, List.forall_mem_cons.mpr ⟨rfl, fun _ h => absurd h List.not_mem_nil⟩⟩⟩⟩⟩⟩) ?_
          exact ih1999 (z1989 + 1) μ2037 T2039 (mF.up (mF.up (mF.call mF.refl F1994 rfl) (A_21 hw) u2019 rfl) A2036 u2038 rfl) (rW (c := 0) (d := 1000) (rAdd (e := 1) (f := 1000) h2001 (rR (x := 1)) rfl) rfl) (PC.keep I1996 hw ((mF.up (mF.up mF.refl (A_21 hw) u2019 rfl) A2036 u2038 rfl) : mF [21006, 200006] w μ1990 μ2037) rfl) (RT.keep I1997 hw ((mF.up (mF.up mF.refl (A_21 hw) u2019 rfl) A2036 u2038 rfl) : mF [21006, 200006] w μ1990 μ2037) rfl) (vc_X1_doActs_12_13 (nS h1998) h2000 h4 h3 hp2 h2002 h2001)
        by_cases h2040 : z2021 = 14
        · refine mr_tableIn (pc := 62) (v := 14) (tgt := 260) dX1_doActs_62 h2040 rfl rfl (by decide) ?_
          have h2041 : 14 ≤ z2021 ∧ z2021 ≤ 14 := (vc_X1_doActs_12_15 h2040 h2024 h2032 h2023)
          refine mr_iinc (pc := 260) (lv' := [(5, iv (z1989 + 1)), (6, iv z2009), (0, .ref 21), (1, .ref a1), (2, iv p2), (3, iv p3), (4, iv p4)]) dX1_doActs_260 rfl (by decide) rfl ?_
          refine sv_goto (pc := 263) (tgt := 3) dX1_doActs_263 (by decide) ?_
          refine mr_lvS (lv' := [(0, .ref 21), (1, .ref a1), (2, iv p2), (3, iv p3), (4, iv p4), (5, iv (z1989 + 1))]) (List.forall_mem_cons.mpr ⟨rfl, List.forall_mem_cons.mpr ⟨rfl, List.forall_mem_cons.mpr ⟨rfl, List.forall_mem_cons.mpr ⟨rfl, List.forall_mem_cons.mpr ⟨rfl, List.forall_mem_cons.mpr ⟨rfl, fun _ h => absurd h List.not_mem_nil⟩⟩⟩⟩⟩⟩) ?_
          exact ih1999 (z1989 + 1) μ2018 T2020 (mF.up (mF.call mF.refl F1994 rfl) (A_21 hw) u2019 rfl) (rW (c := 0) (d := 1000) (rAdd (e := 1) (f := 1000) h2001 (rR (x := 1)) rfl) rfl) (PC.keep I1996 hw ((mF.up mF.refl (A_21 hw) u2019 rfl) : mF [21006] w μ1990 μ2018) rfl) (RT.keep I1997 hw ((mF.up mF.refl (A_21 hw) u2019 rfl) : mF [21006] w μ1990 μ2018) rfl) (vc_X1_doActs_12_13 (nS h1998) h2000 h4 h3 hp2 h2002 h2001)
        by_cases h2042 : z2021 = 15
        · refine mr_tableIn (pc := 62) (v := 15) (tgt := 260) dX1_doActs_62 h2042 rfl rfl (by decide) ?_
          have h2043 : 15 ≤ z2021 ∧ z2021 ≤ 15 := (vc_X1_doActs_12_16 h2042 h2024 h2032 h2040 h2023)
          refine mr_iinc (pc := 260) (lv' := [(5, iv (z1989 + 1)), (6, iv z2009), (0, .ref 21), (1, .ref a1), (2, iv p2), (3, iv p3), (4, iv p4)]) dX1_doActs_260 rfl (by decide) rfl ?_
          refine sv_goto (pc := 263) (tgt := 3) dX1_doActs_263 (by decide) ?_
          refine mr_lvS (lv' := [(0, .ref 21), (1, .ref a1), (2, iv p2), (3, iv p3), (4, iv p4), (5, iv (z1989 + 1))]) (List.forall_mem_cons.mpr ⟨rfl, List.forall_mem_cons.mpr ⟨rfl, List.forall_mem_cons.mpr ⟨rfl, List.forall_mem_cons.mpr ⟨rfl, List.forall_mem_cons.mpr ⟨rfl, List.forall_mem_cons.mpr ⟨rfl, fun _ h => absurd h List.not_mem_nil⟩⟩⟩⟩⟩⟩) ?_
          exact ih1999 (z1989 + 1) μ2018 T2020 (mF.up (mF.call mF.refl F1994 rfl) (A_21 hw) u2019 rfl) (rW (c := 0) (d := 1000) (rAdd (e := 1) (f := 1000) h2001 (rR (x := 1)) rfl) rfl) (PC.keep I1996 hw ((mF.up mF.refl (A_21 hw) u2019 rfl) : mF [21006] w μ1990 μ2018) rfl) (RT.keep I1997 hw ((mF.up mF.refl (A_21 hw) u2019 rfl) : mF [21006] w μ1990 μ2018) rfl) (vc_X1_doActs_12_13 (nS h1998) h2000 h4 h3 hp2 h2002 h2001)
        by_cases h2044 : z2021 = 16
        · refine mr_tableIn (pc := 62) (v := 16) (tgt := 260) dX1_doActs_62 h2044 rfl rfl (by decide) ?_
          have h2045 : 16 ≤ z2021 ∧ z2021 ≤ 16 := (vc_X1_doActs_12_17 h2044 h2024 h2032 h2040 h2042 h2023)
          refine mr_iinc (pc := 260) (lv' := [(5, iv (z1989 + 1)), (6, iv z2009), (0, .ref 21), (1, .ref a1), (2, iv p2), (3, iv p3), (4, iv p4)]) dX1_doActs_260 rfl (by decide) rfl ?_
          refine sv_goto (pc := 263) (tgt := 3) dX1_doActs_263 (by decide) ?_
          refine mr_lvS (lv' := [(0, .ref 21), (1, .ref a1), (2, iv p2), (3, iv p3), (4, iv p4), (5, iv (z1989 + 1))]) (List.forall_mem_cons.mpr ⟨rfl, List.forall_mem_cons.mpr ⟨rfl, List.forall_mem_cons.mpr ⟨rfl, List.forall_mem_cons.mpr ⟨rfl, List.forall_mem_cons.mpr ⟨rfl, List.forall_mem_cons.mpr ⟨rfl, fun _ h => absurd h List.not_mem_nil⟩⟩⟩⟩⟩⟩) ?_
          exact ih1999 (z1989 + 1) μ2018 T2020 (mF.up (mF.call mF.refl F1994 rfl) (A_21 hw) u2019 rfl) (rW (c := 0) (d := 1000) (rAdd (e := 1) (f := 1000) h2001 (rR (x := 1)) rfl) rfl) (PC.keep I1996 hw ((mF.up mF.refl (A_21 hw) u2019 rfl) : mF [21006] w μ1990 μ2018) rfl) (RT.keep I1997 hw ((mF.up mF.refl (A_21 hw) u2019 rfl) : mF [21006] w μ1990 μ2018) rfl) (vc_X1_doActs_12_13 (nS h1998) h2000 h4 h3 hp2 h2002 h2001)
        by_cases h2046 : z2021 = 17
        · refine mr_tableIn (pc := 62) (v := 17) (tgt := 260) dX1_doActs_62 h2046 rfl rfl (by decide) ?_
          have h2047 : 17 ≤ z2021 ∧ z2021 ≤ 17 := (vc_X1_doActs_12_18 h2046 h2024 h2032 h2040 h2042 h2044 h2023)
          refine mr_iinc (pc := 260) (lv' := [(5, iv (z1989 + 1)), (6, iv z2009), (0, .ref 21), (1, .ref a1), (2, iv p2), (3, iv p3), (4, iv p4)]) dX1_doActs_260 rfl (by decide) rfl ?_
          refine sv_goto (pc := 263) (tgt := 3) dX1_doActs_263 (by decide) ?_
          refine mr_lvS (lv' := [(0, .ref 21), (1, .ref a1), (2, iv p2), (3, iv p3), (4, iv p4), (5, iv (z1989 + 1))]) (List.forall_mem_cons.mpr ⟨rfl, List.forall_mem_cons.mpr ⟨rfl, List.forall_mem_cons.mpr ⟨rfl, List.forall_mem_cons.mpr ⟨rfl, List.forall_mem_cons.mpr ⟨rfl, List.forall_mem_cons.mpr ⟨rfl, fun _ h => absurd h List.not_mem_nil⟩⟩⟩⟩⟩⟩) ?_
          exact ih1999 (z1989 + 1) μ2018 T2020 (mF.up (mF.call mF.refl F1994 rfl) (A_21 hw) u2019 rfl) (rW (c := 0) (d := 1000) (rAdd (e := 1) (f := 1000) h2001 (rR (x := 1)) rfl) rfl) (PC.keep I1996 hw ((mF.up mF.refl (A_21 hw) u2019 rfl) : mF [21006] w μ1990 μ2018) rfl) (RT.keep I1997 hw ((mF.up mF.refl (A_21 hw) u2019 rfl) : mF [21006] w μ1990 μ2018) rfl) (vc_X1_doActs_12_13 (nS h1998) h2000 h4 h3 hp2 h2002 h2001)
        by_cases h2048 : z2021 = 18
        · refine mr_tableIn (pc := 62) (v := 18) (tgt := 260) dX1_doActs_62 h2048 rfl rfl (by decide) ?_
          have h2049 : 18 ≤ z2021 ∧ z2021 ≤ 18 := (vc_X1_doActs_12_19 h2048 h2024 h2032 h2040 h2042 h2044 h2046 h2023)
          refine mr_iinc (pc := 260) (lv' := [(5, iv (z1989 + 1)), (6, iv z2009), (0, .ref 21), (1, .ref a1), (2, iv p2), (3, iv p3), (4, iv p4)]) dX1_doActs_260 rfl (by decide) rfl ?_
          refine sv_goto (pc := 263) (tgt := 3) dX1_doActs_263 (by decide) ?_
          refine mr_lvS (lv' := [(0, .ref 21), (1, .ref a1), (2, iv p2), (3, iv p3), (4, iv p4), (5, iv (z1989 + 1))]) (List.forall_mem_cons.mpr ⟨rfl, List.forall_mem_cons.mpr ⟨rfl, List.forall_mem_cons.mpr ⟨rfl, List.forall_mem_cons.mpr ⟨rfl, List.forall_mem_cons.mpr ⟨rfl, List.forall_mem_cons.mpr ⟨rfl, fun _ h => absurd h List.not_mem_nil⟩⟩⟩⟩⟩⟩) ?_
          exact ih1999 (z1989 + 1) μ2018 T2020 (mF.up (mF.call mF.refl F1994 rfl) (A_21 hw) u2019 rfl) (rW (c := 0) (d := 1000) (rAdd (e := 1) (f := 1000) h2001 (rR (x := 1)) rfl) rfl) (PC.keep I1996 hw ((mF.up mF.refl (A_21 hw) u2019 rfl) : mF [21006] w μ1990 μ2018) rfl) (RT.keep I1997 hw ((mF.up mF.refl (A_21 hw) u2019 rfl) : mF [21006] w μ1990 μ2018) rfl) (vc_X1_doActs_12_13 (nS h1998) h2000 h4 h3 hp2 h2002 h2001)
        by_cases h2050 : z2021 = 19
        · refine mr_tableIn (pc := 62) (v := 19) (tgt := 260) dX1_doActs_62 h2050 rfl rfl (by decide) ?_
          have h2051 : 19 ≤ z2021 ∧ z2021 ≤ 19 := (vc_X1_doActs_12_20 h2050 h2024 h2032 h2040 h2042 h2044 h2046 h2048 h2023)
          refine mr_iinc (pc := 260) (lv' := [(5, iv (z1989 + 1)), (6, iv z2009), (0, .ref 21), (1, .ref a1), (2, iv p2), (3, iv p3), (4, iv p4)]) dX1_doActs_260 rfl (by decide) rfl ?_
          refine sv_goto (pc := 263) (tgt := 3) dX1_doActs_263 (by decide) ?_
          refine mr_lvS (lv' := [(0, .ref 21), (1, .ref a1), (2, iv p2), (3, iv p3), (4, iv p4), (5, iv (z1989 + 1))]) (List.forall_mem_cons.mpr ⟨rfl, List.forall_mem_cons.mpr ⟨rfl, List.forall_mem_cons.mpr ⟨rfl, List.forall_mem_cons.mpr ⟨rfl, List.forall_mem_cons.mpr ⟨rfl, List.forall_mem_cons.mpr ⟨rfl, fun _ h => absurd h List.not_mem_nil⟩⟩⟩⟩⟩⟩) ?_
          exact ih1999 (z1989 + 1) μ2018 T2020 (mF.up (mF.call mF.refl F1994 rfl) (A_21 hw) u2019 rfl) (rW (c := 0) (d := 1000) (rAdd (e := 1) (f := 1000) h2001 (rR (x := 1)) rfl) rfl) (PC.keep I1996 hw ((mF.up mF.refl (A_21 hw) u2019 rfl) : mF [21006] w μ1990 μ2018) rfl) (RT.keep I1997 hw ((mF.up mF.refl (A_21 hw) u2019 rfl) : mF [21006] w μ1990 μ2018) rfl) (vc_X1_doActs_12_13 (nS h1998) h2000 h4 h3 hp2 h2002 h2001)
        by_cases h2052 : z2021 = 20
        · refine mr_tableIn (pc := 62) (v := 20) (tgt := 260) dX1_doActs_62 h2052 rfl rfl (by decide) ?_
          have h2053 : 20 ≤ z2021 ∧ z2021 ≤ 20 := (vc_X1_doActs_12_21 h2052 h2032 h2040 h2042 h2044 h2046 h2048 h2050 h2023)
          refine mr_iinc (pc := 260) (lv' := [(5, iv (z1989 + 1)), (6, iv z2009), (0, .ref 21), (1, .ref a1), (2, iv p2), (3, iv p3), (4, iv p4)]) dX1_doActs_260 rfl (by decide) rfl ?_
          refine sv_goto (pc := 263) (tgt := 3) dX1_doActs_263 (by decide) ?_
          refine mr_lvS (lv' := [(0, .ref 21), (1, .ref a1), (2, iv p2), (3, iv p3), (4, iv p4), (5, iv (z1989 + 1))]) (List.forall_mem_cons.mpr ⟨rfl, List.forall_mem_cons.mpr ⟨rfl, List.forall_mem_cons.mpr ⟨rfl, List.forall_mem_cons.mpr ⟨rfl, List.forall_mem_cons.mpr ⟨rfl, List.forall_mem_cons.mpr ⟨rfl, fun _ h => absurd h List.not_mem_nil⟩⟩⟩⟩⟩⟩) ?_
          exact ih1999 (z1989 + 1) μ2018 T2020 (mF.up (mF.call mF.refl F1994 rfl) (A_21 hw) u2019 rfl) (rW (c := 0) (d := 1000) (rAdd (e := 1) (f := 1000) h2001 (rR (x := 1)) rfl) rfl) (PC.keep I1996 hw ((mF.up mF.refl (A_21 hw) u2019 rfl) : mF [21006] w μ1990 μ2018) rfl) (RT.keep I1997 hw ((mF.up mF.refl (A_21 hw) u2019 rfl) : mF [21006] w μ1990 μ2018) rfl) (vc_X1_doActs_12_13 (nS h1998) h2000 h4 h3 hp2 h2002 h2001)
        by_cases h2054 : z2021 = 21
        · refine mr_tableIn (pc := 62) (v := 21) (tgt := 260) dX1_doActs_62 h2054 rfl rfl (by decide) ?_
          have h2055 : 21 ≤ z2021 ∧ z2021 ≤ 21 := (vc_X1_doActs_12_22 h2054 h2040 h2042 h2044 h2046 h2048 h2050 h2052 h2023)
          refine mr_iinc (pc := 260) (lv' := [(5, iv (z1989 + 1)), (6, iv z2009), (0, .ref 21), (1, .ref a1), (2, iv p2), (3, iv p3), (4, iv p4)]) dX1_doActs_260 rfl (by decide) rfl ?_
          refine sv_goto (pc := 263) (tgt := 3) dX1_doActs_263 (by decide) ?_
          refine mr_lvS (lv' := [(0, .ref 21), (1, .ref a1), (2, iv p2), (3, iv p3), (4, iv p4), (5, iv (z1989 + 1))]) (List.forall_mem_cons.mpr ⟨rfl, List.forall_mem_cons.mpr ⟨rfl, List.forall_mem_cons.mpr ⟨rfl, List.forall_mem_cons.mpr ⟨rfl, List.forall_mem_cons.mpr ⟨rfl, List.forall_mem_cons.mpr ⟨rfl, fun _ h => absurd h List.not_mem_nil⟩⟩⟩⟩⟩⟩) ?_
          exact ih1999 (z1989 + 1) μ2018 T2020 (mF.up (mF.call mF.refl F1994 rfl) (A_21 hw) u2019 rfl) (rW (c := 0) (d := 1000) (rAdd (e := 1) (f := 1000) h2001 (rR (x := 1)) rfl) rfl) (PC.keep I1996 hw ((mF.up mF.refl (A_21 hw) u2019 rfl) : mF [21006] w μ1990 μ2018) rfl) (RT.keep I1997 hw ((mF.up mF.refl (A_21 hw) u2019 rfl) : mF [21006] w μ1990 μ2018) rfl) (vc_X1_doActs_12_13 (nS h1998) h2000 h4 h3 hp2 h2002 h2001)
        by_cases h2056 : z2021 = 22
        · refine mr_tableIn (pc := 62) (v := 22) (tgt := 260) dX1_doActs_62 h2056 rfl rfl (by decide) ?_
          have h2057 : 22 ≤ z2021 ∧ z2021 ≤ 22 := (vc_X1_doActs_12_23 h2056 h2042 h2044 h2046 h2048 h2050 h2052 h2054 h2023)
          refine mr_iinc (pc := 260) (lv' := [(5, iv (z1989 + 1)), (6, iv z2009), (0, .ref 21), (1, .ref a1), (2, iv p2), (3, iv p3), (4, iv p4)]) dX1_doActs_260 rfl (by decide) rfl ?_
          refine sv_goto (pc := 263) (tgt := 3) dX1_doActs_263 (by decide) ?_
          refine mr_lvS (lv' := [(0, .ref 21), (1, .ref a1), (2, iv p2), (3, iv p3), (4, iv p4), (5, iv (z1989 + 1))]) (List.forall_mem_cons.mpr ⟨rfl, List.forall_mem_cons.mpr ⟨rfl, List.forall_mem_cons.mpr ⟨rfl, List.forall_mem_cons.mpr ⟨rfl, List.forall_mem_cons.mpr ⟨rfl, List.forall_mem_cons.mpr ⟨rfl, fun _ h => absurd h List.not_mem_nil⟩⟩⟩⟩⟩⟩) ?_
          exact ih1999 (z1989 + 1) μ2018 T2020 (mF.up (mF.call mF.refl F1994 rfl) (A_21 hw) u2019 rfl) (rW (c := 0) (d := 1000) (rAdd (e := 1) (f := 1000) h2001 (rR (x := 1)) rfl) rfl) (PC.keep I1996 hw ((mF.up mF.refl (A_21 hw) u2019 rfl) : mF [21006] w μ1990 μ2018) rfl) (RT.keep I1997 hw ((mF.up mF.refl (A_21 hw) u2019 rfl) : mF [21006] w μ1990 μ2018) rfl) (vc_X1_doActs_12_13 (nS h1998) h2000 h4 h3 hp2 h2002 h2001)
        by_cases h2058 : z2021 = 23
        · refine mr_tableIn (pc := 62) (v := 23) (tgt := 144) dX1_doActs_62 h2058 rfl rfl (by decide) ?_
          have h2059 : 23 ≤ z2021 ∧ z2021 ≤ 23 := (vc_X1_doActs_12_24 h2058 h2044 h2046 h2048 h2050 h2052 h2054 h2056 h2023)
          refine sv_aload_n (pc := 144) dX1_doActs_144 rfl rfl ?_
          refine mr_iconst (pc := 145) (z := 1) dX1_doActs_145 ?_
          refine pf_X1_7 (pc := 146) dX1_doActs_146 wF_X1_50 (A_21 hw) T2020 (rW (c := 0) (d := 2) (rR (x := 1)) rfl) fun μ2060 u2061 T2062 => ?_
          refine sv_goto (pc := 149) (tgt := 260) dX1_doActs_149 (by decide) ?_
          refine mr_iinc (pc := 260) (lv' := [(5, iv (z1989 + 1)), (6, iv z2009), (0, .ref 21), (1, .ref a1), (2, iv p2), (3, iv p3), (4, iv p4)]) dX1_doActs_260 rfl (by decide) rfl ?_
          refine sv_goto (pc := 263) (tgt := 3) dX1_doActs_263 (by decide) ?_
          refine mr_lvS (lv' := [(0, .ref 21), (1, .ref a1), (2, iv p2), (3, iv p3), (4, iv p4), (5, iv (z1989 + 1))]) (List.forall_mem_cons.mpr ⟨rfl, List.forall_mem_cons.mpr ⟨rfl, List.forall_mem_cons.mpr ⟨rfl, List.forall_mem_cons.mpr ⟨rfl, List.forall_mem_cons.mpr ⟨rfl, List.forall_mem_cons.mpr ⟨rfl, fun _ h => absurd h List.not_mem_nil⟩⟩⟩⟩⟩⟩) ?_
          exact ih1999 (z1989 + 1) μ2060 T2062 (mF.up (mF.up (mF.call mF.refl F1994 rfl) (A_21 hw) u2019 rfl) (A_21 hw) u2061 rfl) (rW (c := 0) (d := 1000) (rAdd (e := 1) (f := 1000) h2001 (rR (x := 1)) rfl) rfl) (PC.keep I1996 hw ((mF.up (mF.up mF.refl (A_21 hw) u2019 rfl) (A_21 hw) u2061 rfl) : mF [21006, 21007] w μ1990 μ2060) rfl) (RT.keep I1997 hw ((mF.up (mF.up mF.refl (A_21 hw) u2019 rfl) (A_21 hw) u2061 rfl) : mF [21006, 21007] w μ1990 μ2060) rfl) (vc_X1_doActs_12_13 (nS h1998) h2000 h4 h3 hp2 h2002 h2001)
        by_cases h2063 : z2021 = 24
        · refine mr_tableIn (pc := 62) (v := 24) (tgt := 152) dX1_doActs_62 h2063 rfl rfl (by decide) ?_
          have h2064 : 24 ≤ z2021 ∧ z2021 ≤ 24 := (vc_X1_doActs_12_25 h2063 h2046 h2048 h2050 h2052 h2054 h2056 h2058 h2023)
          refine sv_aload_n (pc := 152) dX1_doActs_152 rfl rfl ?_
          refine mr_iconst (pc := 153) (z := 2) dX1_doActs_153 ?_
          refine pf_X1_7 (pc := 154) dX1_doActs_154 wF_X1_50 (A_21 hw) T2020 (rW (c := 0) (d := 2) (rR (x := 2)) rfl) fun μ2065 u2066 T2067 => ?_
          refine sv_goto (pc := 157) (tgt := 260) dX1_doActs_157 (by decide) ?_
          refine mr_iinc (pc := 260) (lv' := [(5, iv (z1989 + 1)), (6, iv z2009), (0, .ref 21), (1, .ref a1), (2, iv p2), (3, iv p3), (4, iv p4)]) dX1_doActs_260 rfl (by decide) rfl ?_
          refine sv_goto (pc := 263) (tgt := 3) dX1_doActs_263 (by decide) ?_
          refine mr_lvS (lv' := [(0, .ref 21), (1, .ref a1), (2, iv p2), (3, iv p3), (4, iv p4), (5, iv (z1989 + 1))]) (List.forall_mem_cons.mpr ⟨rfl, List.forall_mem_cons.mpr ⟨rfl, List.forall_mem_cons.mpr ⟨rfl, List.forall_mem_cons.mpr ⟨rfl, List.forall_mem_cons.mpr ⟨rfl, List.forall_mem_cons.mpr ⟨rfl, fun _ h => absurd h List.not_mem_nil⟩⟩⟩⟩⟩⟩) ?_
          exact ih1999 (z1989 + 1) μ2065 T2067 (mF.up (mF.up (mF.call mF.refl F1994 rfl) (A_21 hw) u2019 rfl) (A_21 hw) u2066 rfl) (rW (c := 0) (d := 1000) (rAdd (e := 1) (f := 1000) h2001 (rR (x := 1)) rfl) rfl) (PC.keep I1996 hw ((mF.up (mF.up mF.refl (A_21 hw) u2019 rfl) (A_21 hw) u2066 rfl) : mF [21006, 21007] w μ1990 μ2065) rfl) (RT.keep I1997 hw ((mF.up (mF.up mF.refl (A_21 hw) u2019 rfl) (A_21 hw) u2066 rfl) : mF [21006, 21007] w μ1990 μ2065) rfl) (vc_X1_doActs_12_13 (nS h1998) h2000 h4 h3 hp2 h2002 h2001)
        by_cases h2068 : z2021 = 25
        · refine mr_tableIn (pc := 62) (v := 25) (tgt := 160) dX1_doActs_62 h2068 rfl rfl (by decide) ?_
          have h2069 : 25 ≤ z2021 ∧ z2021 ≤ 25 := (vc_X1_doActs_12_26 h2068 h2048 h2050 h2052 h2054 h2056 h2058 h2063 h2023)
          refine sv_aload_n (pc := 160) dX1_doActs_160 rfl rfl ?_
          refine gf_X1_2 (pc := 161) dX1_doActs_161 wF_X1_25 (A_21 hw) T2020 (RT.keep I1997 hw ((mF.up mF.refl (A_21 hw) u2019 rfl) : mF [21006] w μ1990 μ2018) rfl) fun b2070 q2071 A2072 => ?_
          refine mr_iload (pc := 164) (z := z2009) dX1_doActs_164 rfl ?_
          refine mr_cVV (pc := 166) (c_X7_addMark hw T2020 A2072 (rW (c := (-2147483648)) (d := 2147483647) h2012 rfl)) (gOk _ _ _ _ _) dX1_doActs_166 (tX7_addMark _ _ _ _ _) ⟨wV_X7_addMark, wL_X7_addMark⟩ wM_X1_124 (gCX7 _ _ _ _ _) rfl A2072 rfl ⟨le_t rfl, le_t rfl⟩ ⟨le_t rfl, le_t rfl⟩ rfl (le_t rfl) fun μ2073 T2074 F2075 h2076 => ?_
          refine sv_goto (pc := 169) (tgt := 260) dX1_doActs_169 (by decide) ?_
          refine mr_iinc (pc := 260) (lv' := [(5, iv (z1989 + 1)), (6, iv z2009), (0, .ref 21), (1, .ref a1), (2, iv p2), (3, iv p3), (4, iv p4)]) dX1_doActs_260 rfl (by decide) rfl ?_
          refine sv_goto (pc := 263) (tgt := 3) dX1_doActs_263 (by decide) ?_
          refine mr_lvS (lv' := [(0, .ref 21), (1, .ref a1), (2, iv p2), (3, iv p3), (4, iv p4), (5, iv (z1989 + 1))]) (List.forall_mem_cons.mpr ⟨rfl, List.forall_mem_cons.mpr ⟨rfl, List.forall_mem_cons.mpr ⟨rfl, List.forall_mem_cons.mpr ⟨rfl, List.forall_mem_cons.mpr ⟨rfl, List.forall_mem_cons.mpr ⟨rfl, fun _ h => absurd h List.not_mem_nil⟩⟩⟩⟩⟩⟩) ?_
          exact ih1999 (z1989 + 1) μ2073 T2074 (mF.call (mF.up (mF.call mF.refl F1994 rfl) (A_21 hw) u2019 rfl) F2075 rfl) (rW (c := 0) (d := 1000) (rAdd (e := 1) (f := 1000) h2001 (rR (x := 1)) rfl) rfl) (PC.keep I1996 hw ((mF.call (mF.up mF.refl (A_21 hw) u2019 rfl) F2075 rfl) : mF [21006, 200008, 202999] w μ1990 μ2073) rfl) (RT.keep I1997 hw ((mF.call (mF.up mF.refl (A_21 hw) u2019 rfl) F2075 rfl) : mF [21006, 200008, 202999] w μ1990 μ2073) rfl) (vc_X1_doActs_12_13 (nS h1998) h2000 h4 h3 hp2 h2002 h2001)
        by_cases h2077 : z2021 = 26
        · refine mr_tableIn (pc := 62) (v := 26) (tgt := 172) dX1_doActs_62 h2077 rfl rfl (by decide) ?_
          have h2078 : 26 ≤ z2021 ∧ z2021 ≤ 26 := (vc_X1_doActs_12_27 h2077 h2050 h2052 h2054 h2056 h2058 h2063 h2068 h2023)
          refine sv_aload_n (pc := 172) dX1_doActs_172 rfl rfl ?_
          refine gf_X1_2 (pc := 173) dX1_doActs_173 wF_X1_25 (A_21 hw) T2020 (RT.keep I1997 hw ((mF.up mF.refl (A_21 hw) u2019 rfl) : mF [21006] w μ1990 μ2018) rfl) fun b2079 q2080 A2081 => ?_
          refine mr_iload (pc := 176) (z := z2009) dX1_doActs_176 rfl ?_
          refine mr_cVV (pc := 178) (c_X7_dropMark hw T2020 A2081 (rW (c := (-2147483648)) (d := 2147483647) h2012 rfl)) (gOk _ _ _ _ _) dX1_doActs_178 (tX7_dropMark _ _ _ _ _) ⟨wV_X7_dropMark, wL_X7_dropMark⟩ wM_X1_128 (gCX7 _ _ _ _ _) rfl A2081 rfl ⟨le_t rfl, le_t rfl⟩ ⟨le_t rfl, le_t rfl⟩ rfl (le_t rfl) fun μ2082 T2083 F2084 h2085 => ?_
          refine sv_goto (pc := 181) (tgt := 260) dX1_doActs_181 (by decide) ?_
          refine mr_iinc (pc := 260) (lv' := [(5, iv (z1989 + 1)), (6, iv z2009), (0, .ref 21), (1, .ref a1), (2, iv p2), (3, iv p3), (4, iv p4)]) dX1_doActs_260 rfl (by decide) rfl ?_
          refine sv_goto (pc := 263) (tgt := 3) dX1_doActs_263 (by decide) ?_
          refine mr_lvS (lv' := [(0, .ref 21), (1, .ref a1), (2, iv p2), (3, iv p3), (4, iv p4), (5, iv (z1989 + 1))]) (List.forall_mem_cons.mpr ⟨rfl, List.forall_mem_cons.mpr ⟨rfl, List.forall_mem_cons.mpr ⟨rfl, List.forall_mem_cons.mpr ⟨rfl, List.forall_mem_cons.mpr ⟨rfl, List.forall_mem_cons.mpr ⟨rfl, fun _ h => absurd h List.not_mem_nil⟩⟩⟩⟩⟩⟩) ?_
          exact ih1999 (z1989 + 1) μ2082 T2083 (mF.call (mF.up (mF.call mF.refl F1994 rfl) (A_21 hw) u2019 rfl) F2084 rfl) (rW (c := 0) (d := 1000) (rAdd (e := 1) (f := 1000) h2001 (rR (x := 1)) rfl) rfl) (PC.keep I1996 hw ((mF.call (mF.up mF.refl (A_21 hw) u2019 rfl) F2084 rfl) : mF [21006, 200008, 202999] w μ1990 μ2082) rfl) (RT.keep I1997 hw ((mF.call (mF.up mF.refl (A_21 hw) u2019 rfl) F2084 rfl) : mF [21006, 200008, 202999] w μ1990 μ2082) rfl) (vc_X1_doActs_12_13 (nS h1998) h2000 h4 h3 hp2 h2002 h2001)
        by_cases h2086 : z2021 = 27
        · refine mr_tableIn (pc := 62) (v := 27) (tgt := 208) dX1_doActs_62 h2086 rfl rfl (by decide) ?_
          have h2087 : 27 ≤ z2021 ∧ z2021 ≤ 27 := (vc_X1_doActs_12_28 h2086 h2052 h2054 h2056 h2058 h2063 h2068 h2077 h2023)
          refine sv_aload_n (pc := 208) dX1_doActs_208 rfl rfl ?_
          refine gf_X1_2 (pc := 209) dX1_doActs_209 wF_X1_25 (A_21 hw) T2020 (RT.keep I1997 hw ((mF.up mF.refl (A_21 hw) u2019 rfl) : mF [21006] w μ1990 μ2018) rfl) fun b2088 q2089 A2090 => ?_
          refine gf_X7_7 (pc := 212) dX1_doActs_212 wF_X1_96 A2090 T2020 fun z2091 q2092 h2093 => ?_
          have J2116 : ∀ (μ2110 : mM), (mT w μ2110) → (mF [21007, 200007, 201999] w μ2018 μ2110) → (PC w μ2110) → (RT μ2110) → sV (gG l D c H0 sa) mX1_doActs (sRm 24 0 0) (sZ (gG l D c H0 sa) 0 0 (qV w [21006, 21007, 200004, 200006, 200007, 200008, 201999, 202999] μ (fun μ1 => True))) 260 [(0, .ref 21), (1, .ref a1), (2, iv p2), (3, iv p3), (4, iv p4), (5, iv z1989)] [] (mk w μ2110) 0 0 := by
            intro μ2110 T2111 F2112 I2114 I2115
            refine mr_iinc (pc := 260) (lv' := [(5, iv (z1989 + 1)), (0, .ref 21), (1, .ref a1), (2, iv p2), (3, iv p3), (4, iv p4)]) dX1_doActs_260 rfl (by decide) rfl ?_
            refine sv_goto (pc := 263) (tgt := 3) dX1_doActs_263 (by decide) ?_
            refine mr_lvS (lv' := [(0, .ref 21), (1, .ref a1), (2, iv p2), (3, iv p3), (4, iv p4), (5, iv (z1989 + 1))]) (List.forall_mem_cons.mpr ⟨rfl, List.forall_mem_cons.mpr ⟨rfl, List.forall_mem_cons.mpr ⟨rfl, List.forall_mem_cons.mpr ⟨rfl, List.forall_mem_cons.mpr ⟨rfl, List.forall_mem_cons.mpr ⟨rfl, fun _ h => absurd h List.not_mem_nil⟩⟩⟩⟩⟩⟩) ?_
            exact ih1999 (z1989 + 1) μ2110 T2111 (mF.call (mF.up (mF.call mF.refl F1994 rfl) (A_21 hw) u2019 rfl) F2112 rfl) (rW (c := 0) (d := 1000) (rAdd (e := 1) (f := 1000) h2001 (rR (x := 1)) rfl) rfl) I2114 I2115 (vc_X1_doActs_12_13 (nS h1998) h2000 h4 h3 hp2 h2002 h2001)
          refine mr_if_le (pc := 215) (tgt := 260) dX1_doActs_215 (by decide) (r32 h2093 rfl) (fun h2117 => ?_) (fun h2117 => ?_)
          · have h2118 : 0 ≤ z2091 ∧ z2091 ≤ 0 := (vc_X12_unlike_21 h2117 h2093)
            refine mr_lvS (lv' := [(0, .ref 21), (1, .ref a1), (2, iv p2), (3, iv p3), (4, iv p4), (5, iv z1989)]) (List.forall_mem_cons.mpr ⟨rfl, List.forall_mem_cons.mpr ⟨rfl, List.forall_mem_cons.mpr ⟨rfl, List.forall_mem_cons.mpr ⟨rfl, List.forall_mem_cons.mpr ⟨rfl, List.forall_mem_cons.mpr ⟨rfl, fun _ h => absurd h List.not_mem_nil⟩⟩⟩⟩⟩⟩) ?_
            exact J2116 μ2018 T2020 mF.refl (PC.keep I1996 hw ((mF.up mF.refl (A_21 hw) u2019 rfl) : mF [21006] w μ1990 μ2018) rfl) (RT.keep I1997 hw ((mF.up mF.refl (A_21 hw) u2019 rfl) : mF [21006] w μ1990 μ2018) rfl)
          have h2119 : 1 ≤ z2091 ∧ z2091 ≤ 20 := (vc_X12_unlike_22 h2117 h2093)
          refine sv_aload_n (pc := 218) dX1_doActs_218 rfl rfl ?_
          refine gk_X1_2 (pc := 219) dX1_doActs_219 wF_X1_25 (A_21 hw) q2089 ?_
          refine sv_aload_n (pc := 222) dX1_doActs_222 rfl rfl ?_
          refine gk_X1_2 (pc := 223) dX1_doActs_223 wF_X1_25 (A_21 hw) q2089 ?_
          refine gf_X7_0 (pc := 226) dX1_doActs_226 wF_X1_114 A2090 T2020 fun A2120 => ?_
          refine mr_iconst (pc := 229) (z := 0) dX1_doActs_229 ?_
          refine la_201 (pc := 230) dX1_doActs_230 A2120 T2020 (rIx (n := 20) (rR (x := 0)) rfl) fun z2121 q2122 h2123 => ?_
          refine mr_iload (pc := 231) (z := z2009) dX1_doActs_231 rfl ?_
          refine mr_cVI (pc := 233) (c_X7_putInFront hw T2020 A2090 h2123 (rW (c := (-2147483648)) (d := 1000000) h2012 rfl)) (gOk _ _ _ _ _) dX1_doActs_233 (tX7_putInFront _ _ _ _ _) ⟨wV_X7_putInFront, wL_X7_putInFront⟩ wM_X1_131 (gCX7 _ _ _ _ _) rfl A2090 rfl ⟨le_t rfl, le_t rfl⟩ ⟨le_t rfl, le_t rfl⟩ rfl (le_t rfl) fun z2128 μ2124 T2125 F2126 h2127 => ?_
          refine mr_if_ne (pc := 236) (tgt := 260) dX1_doActs_236 (by decide) (r32 h2127.1 rfl) (fun h2129 => ?_) (fun h2129 => ?_)
          · have h2130 : 1 ≤ z2128 ∧ z2128 ≤ 1 := (vc_X12_ring_24 h2129 h2127.1)
            refine mr_lvS (lv' := [(0, .ref 21), (1, .ref a1), (2, iv p2), (3, iv p3), (4, iv p4), (5, iv z1989)]) (List.forall_mem_cons.mpr ⟨rfl, List.forall_mem_cons.mpr ⟨rfl, List.forall_mem_cons.mpr ⟨rfl, List.forall_mem_cons.mpr ⟨rfl, List.forall_mem_cons.mpr ⟨rfl, List.forall_mem_cons.mpr ⟨rfl, fun _ h => absurd h List.not_mem_nil⟩⟩⟩⟩⟩⟩) ?_
            exact J2116 μ2124 T2125 (mF.call mF.refl F2126 rfl) (PC.keep I1996 hw ((mF.call (mF.up mF.refl (A_21 hw) u2019 rfl) F2126 rfl) : mF [21006, 200007, 201999] w μ1990 μ2124) rfl) (RT.keep I1997 hw ((mF.call (mF.up mF.refl (A_21 hw) u2019 rfl) F2126 rfl) : mF [21006, 200007, 201999] w μ1990 μ2124) rfl)
          have h2131 : 0 ≤ z2128 ∧ z2128 ≤ 0 := (vc_X12_ring_22 h2129 h2127.1)
          refine sv_aload_n (pc := 239) dX1_doActs_239 rfl rfl ?_
          refine mr_iconst (pc := 240) (z := 2) dX1_doActs_240 ?_
          refine pf_X1_7 (pc := 241) dX1_doActs_241 wF_X1_50 (A_21 hw) T2125 (rW (c := 0) (d := 2) (rR (x := 2)) rfl) fun μ2132 u2133 T2134 => ?_
          refine sv_goto (pc := 244) (tgt := 260) dX1_doActs_244 (by decide) ?_
          refine mr_lvS (lv' := [(0, .ref 21), (1, .ref a1), (2, iv p2), (3, iv p3), (4, iv p4), (5, iv z1989)]) (List.forall_mem_cons.mpr ⟨rfl, List.forall_mem_cons.mpr ⟨rfl, List.forall_mem_cons.mpr ⟨rfl, List.forall_mem_cons.mpr ⟨rfl, List.forall_mem_cons.mpr ⟨rfl, List.forall_mem_cons.mpr ⟨rfl, fun _ h => absurd h List.not_mem_nil⟩⟩⟩⟩⟩⟩) ?_
          exact J2116 μ2132 T2134 (mF.up (mF.call mF.refl F2126 rfl) (A_21 hw) u2133 rfl) (PC.keep I1996 hw ((mF.up (mF.call (mF.up mF.refl (A_21 hw) u2019 rfl) F2126 rfl) (A_21 hw) u2133 rfl) : mF [21006, 21007, 200007, 201999] w μ1990 μ2132) rfl) (RT.keep I1997 hw ((mF.up (mF.call (mF.up mF.refl (A_21 hw) u2019 rfl) F2126 rfl) (A_21 hw) u2133 rfl) : mF [21006, 21007, 200007, 201999] w μ1990 μ2132) rfl)
        by_cases h2135 : z2021 = 28
        · refine mr_tableIn (pc := 62) (v := 28) (tgt := 247) dX1_doActs_62 h2135 rfl rfl (by decide) ?_
          have h2136 : 28 ≤ z2021 ∧ z2021 ≤ 28 := (vc_X1_doActs_12_33 h2135 h2054 h2056 h2058 h2063 h2068 h2077 h2086 h2023)
          refine sv_aload_n (pc := 247) dX1_doActs_247 rfl rfl ?_
          refine mr_iload (pc := 248) (z := z2009) dX1_doActs_248 rfl ?_
          refine mr_iload (pc := 250) (z := p4) dX1_doActs_250 rfl ?_
          refine mr_iconst (pc := 252) (z := 1) dX1_doActs_252 ?_
          refine mr_iadd (pc := 253) (x := p4) (y := 1) dX1_doActs_253 ?_
          refine mr_cVV (pc := 254) (c_X1_goThrough_3 hw T2020 (rW (c := (-2147483648)) (d := 2147483647) h2012 rfl) (rAdd (e := 3) (f := 3) hp4 (rR (x := 1)) rfl) (PC.keep I1996 hw ((mF.up mF.refl (A_21 hw) u2019 rfl) : mF [21006] w μ1990 μ2018) rfl) (RT.keep I1997 hw ((mF.up mF.refl (A_21 hw) u2019 rfl) : mF [21006] w μ1990 μ2018) rfl)) (gOk _ _ _ _ _) dX1_doActs_254 (tX1_goThrough _ _ _ _ _) ⟨wV_X1_goThrough, wL_X1_goThrough⟩ wM_X1_53 (gCX1 _ _ _ _ _) rfl (A_21 hw) rfl ⟨le_t rfl, le_t rfl⟩ ⟨le_t rfl, le_t rfl⟩ rfl (le_t rfl) fun μ2137 T2138 F2139 h2140 => ?_
          refine sv_goto (pc := 257) (tgt := 260) dX1_doActs_257 (by decide) ?_
          refine mr_iinc (pc := 260) (lv' := [(5, iv (z1989 + 1)), (6, iv z2009), (0, .ref 21), (1, .ref a1), (2, iv p2), (3, iv p3), (4, iv p4)]) dX1_doActs_260 rfl (by decide) rfl ?_
          refine sv_goto (pc := 263) (tgt := 3) dX1_doActs_263 (by decide) ?_
          refine mr_lvS (lv' := [(0, .ref 21), (1, .ref a1), (2, iv p2), (3, iv p3), (4, iv p4), (5, iv (z1989 + 1))]) (List.forall_mem_cons.mpr ⟨rfl, List.forall_mem_cons.mpr ⟨rfl, List.forall_mem_cons.mpr ⟨rfl, List.forall_mem_cons.mpr ⟨rfl, List.forall_mem_cons.mpr ⟨rfl, List.forall_mem_cons.mpr ⟨rfl, fun _ h => absurd h List.not_mem_nil⟩⟩⟩⟩⟩⟩) ?_
          exact ih1999 (z1989 + 1) μ2137 T2138 (mF.call (mF.up (mF.call mF.refl F1994 rfl) (A_21 hw) u2019 rfl) F2139 rfl) (rW (c := 0) (d := 1000) (rAdd (e := 1) (f := 1000) h2001 (rR (x := 1)) rfl) rfl) (PC.keep I1996 hw ((mF.call (mF.up mF.refl (A_21 hw) u2019 rfl) F2139 rfl) : mF [21006, 21007, 200004, 200006, 200007, 200008, 201999, 202999] w μ1990 μ2137) rfl) (RT.keep I1997 hw ((mF.call (mF.up mF.refl (A_21 hw) u2019 rfl) F2139 rfl) : mF [21006, 21007, 200004, 200006, 200007, 200008, 201999, 202999] w μ1990 μ2137) rfl) (vc_X1_doActs_12_13 (nS h1998) h2000 h4 h3 hp2 h2002 h2001)
        refine mr_tableOut (pc := 62) (tgt := 260) dX1_doActs_62 h2023 (vc_X1_doActs_12_34 h2024 h2032 h2040 h2042 h2044 h2046 h2048 h2050 h2052 h2054 h2056 h2058 h2063 h2068 h2077 h2086 h2135 h2023) (by decide) ?_
        refine mr_iinc (pc := 260) (lv' := [(5, iv (z1989 + 1)), (6, iv z2009), (0, .ref 21), (1, .ref a1), (2, iv p2), (3, iv p3), (4, iv p4)]) dX1_doActs_260 rfl (by decide) rfl ?_
        refine sv_goto (pc := 263) (tgt := 3) dX1_doActs_263 (by decide) ?_
        refine mr_lvS (lv' := [(0, .ref 21), (1, .ref a1), (2, iv p2), (3, iv p3), (4, iv p4), (5, iv (z1989 + 1))]) (List.forall_mem_cons.mpr ⟨rfl, List.forall_mem_cons.mpr ⟨rfl, List.forall_mem_cons.mpr ⟨rfl, List.forall_mem_cons.mpr ⟨rfl, List.forall_mem_cons.mpr ⟨rfl, List.forall_mem_cons.mpr ⟨rfl, fun _ h => absurd h List.not_mem_nil⟩⟩⟩⟩⟩⟩) ?_
        exact ih1999 (z1989 + 1) μ2018 T2020 (mF.up (mF.call mF.refl F1994 rfl) (A_21 hw) u2019 rfl) (rW (c := 0) (d := 1000) (rAdd (e := 1) (f := 1000) h2001 (rR (x := 1)) rfl) rfl) (PC.keep I1996 hw ((mF.up mF.refl (A_21 hw) u2019 rfl) : mF [21006] w μ1990 μ2018) rfl) (RT.keep I1997 hw ((mF.up mF.refl (A_21 hw) u2019 rfl) : mF [21006] w μ1990 μ2018) rfl) (vc_X1_doActs_12_13 (nS h1998) h2000 h4 h3 hp2 h2002 h2001)
      have h2141 : 500 ≤ z2013 ∧ z2013 ≤ 500 := (vc_X1_doActs_12_35 h2016 h2015)
      refine sv_aload_n (pc := 38) dX1_doActs_38 rfl rfl ?_
      refine mr_iconst (pc := 39) (z := 2) dX1_doActs_39 ?_
      refine pf_X1_7 (pc := 40) dX1_doActs_40 wF_X1_50 (A_21 hw) T1993 (rW (c := 0) (d := 2) (rR (x := 2)) rfl) fun μ2142 u2143 T2144 => ?_
      exact mr_vret dX1_doActs_43 rfl (le_t rfl) (le_t rfl) T2144 (mF.up (mF.call mF.refl F1994 rfl) (A_21 hw) u2143 rfl) trivial
  refine mr_lvS (lv' := [(0, .ref 21), (1, .ref a1), (2, iv p2), (3, iv p3), (4, iv p4), (5, iv 0)]) (List.forall_mem_cons.mpr ⟨rfl, List.forall_mem_cons.mpr ⟨rfl, List.forall_mem_cons.mpr ⟨rfl, List.forall_mem_cons.mpr ⟨rfl, List.forall_mem_cons.mpr ⟨rfl, List.forall_mem_cons.mpr ⟨rfl, fun _ h => absurd h List.not_mem_nil⟩⟩⟩⟩⟩⟩) ?_
  exact L1991 1002 0 μ hT mF.refl (rW (c := 0) (d := 1000) (rR (x := 0)) rfl) hIPC hIRT vc_X1_doActs_12_36
theorem vc_X1_goThrough_2_5 {p2 : Int} (h0 : 12 < p2) (h1 : 2 ≤ p2 ∧ p2 ≤ 2) : False := by omega
set_option maxRecDepth 4000 in
set_option maxHeartbeats 4000000 in
theorem c_X1_goThrough_2 {l : Launch} {D : va_G} {c : Nat → ClassId} {H0 : Heap} {sa : Nat × Nat × (Nat → Int32)} {w : mW} {μ : mM} (hw : mWF w) (hT : mT w μ) {p1 : Int} (hp1 : (-2147483648) ≤ p1 ∧ p1 ≤ 2147483647) {p2 : Int} (hp2 : 2 ≤ p2 ∧ p2 ≤ 2) (hIPC : PC w μ) (hIRT : RT μ) : sC (gG l D c H0 sa) mX1_goThrough 25 0 0 [.ref 21, iv p1, iv p2] (mk w μ) (qV w [21006, 21007, 200004, 200006, 200007, 200008, 201999, 202999] μ (fun μ1 => True)) := by
  refine sC.of rfl (by decide) (le_t rfl) ?_
  refine mr_lvE (lv' := [(0, .ref 21), (1, iv p1), (2, iv p2)]) rfl ?_
  refine mr_iload_n (pc := 0) (z := p1) dX1_goThrough_0 rfl rfl ?_
  refine mr_if_lt (pc := 1) (tgt := 18) dX1_goThrough_1 (by decide) hp1 (fun h1 => ?_) (fun h1 => ?_)
  · have h2 : (-2147483648) ≤ p1 ∧ p1 ≤ (-1) := (vc_X12_ring_60 h1 hp1)
    exact mr_vret dX1_goThrough_18 rfl (le_t rfl) (le_t rfl) hT mF.refl trivial
  have h3 : 0 ≤ p1 ∧ p1 ≤ 2147483647 := (vc_X12_ring_1 h1 hp1)
  refine mr_iload_n (pc := 4) (z := p1) dX1_goThrough_4 rfl rfl ?_
  refine sv_aload_n (pc := 5) dX1_goThrough_5 rfl rfl ?_
  refine gf_X1_8 (pc := 6) dX1_goThrough_6 wF_X1_21 (A_21 hw) hT fun z4 q5 h6 => ?_
  refine mr_icmp_ge (pc := 9) (tgt := 18) dX1_goThrough_9 (by decide) (r32 h3 rfl) (r32 h6.2 rfl) (fun h7 => ?_) (fun h7 => ?_)
  · exact mr_vret dX1_goThrough_18 rfl (le_t rfl) (le_t rfl) hT mF.refl trivial
  have h8 : 0 ≤ p1 ∧ p1 ≤ 11 := (vc_X1_goThrough_13_3 h7 h1 h6.1 h3 h6.2)
  have h9 : 1 ≤ z4 ∧ z4 ≤ 12 := (vc_X1_goThrough_13_4 h7 h1 h6.1 h8 h6.2)
  refine mr_iload_n (pc := 12) (z := p2) dX1_goThrough_12 rfl rfl ?_
  refine mr_bipush (pc := 13) (z := 12) dX1_goThrough_13 (by decide) ?_
  refine mr_icmp_le (pc := 15) (tgt := 19) dX1_goThrough_15 (by decide) (r32 hp2 rfl) (r32 (rR (x := 12)) rfl) (fun _ => ?_) (fun h => ((vc_X1_goThrough_2_5 h hp2)).elim)
  refine sv_aload_n (pc := 19) dX1_goThrough_19 rfl rfl ?_
  refine gf_X1_1 (pc := 20) dX1_goThrough_20 wF_X1_17 (A_21 hw) hT ?_
  refine mr_iload_n (pc := 23) (z := p1) dX1_goThrough_23 rfl rfl ?_
  refine la_22 (pc := 24) dX1_goThrough_24 (A_22 hw) hT (rIx (n := 12) h8 rfl) (vc_X1_goThrough_12_6 h1 h6.1 h7 h8 h9) fun b10 q11 A12 => ?_
  refine mr_astore_n (pc := 25) (lv' := [(3, .ref b10), (0, .ref 21), (1, iv p1), (2, iv p2)]) dX1_goThrough_25 rfl (by decide) rfl ?_
  obtain ⟨c13, z14, q15, A16, q17, R18, e19, e20⟩ := PC.read hIPC hT A12 (vc_X1_goThrough_12_7 h1 h7 h6.1 h8 h9) (vc_X1_goThrough_12_6 h1 h6.1 h7 h8 h9) q11
  have h21 : 0 ≤ z14 ∧ z14 ≤ 30 := by rw [← q17]; exact hT _ _ A12 0
  refine mr_iconst (pc := 26) (z := 0) dX1_goThrough_26 ?_
  refine mr_istore (pc := 27) (lv' := [(4, iv 0), (3, .ref b10), (0, .ref 21), (1, iv p1), (2, iv p2)]) dX1_goThrough_27 (by decide) rfl ?_
  refine mr_iconst (pc := 29) (z := 0) dX1_goThrough_29 ?_
  refine mr_istore (pc := 30) (lv' := [(5, iv 0), (4, iv 0), (3, .ref b10), (0, .ref 21), (1, iv p1), (2, iv p2)]) dX1_goThrough_30 (by decide) rfl ?_
  have L1192 : ∀ (nL1192 : Nat) (z1190 z1189 : Int) (μ1191 : mM), mT w μ1191 → mF [21006, 21007, 200004, 200006, 200007, 200008, 201999, 202999] w μ μ1191 → (0 ≤ z1190 ∧ z1190 ≤ 2000) → (0 ≤ z1189 ∧ z1189 ≤ 30) → PC w μ1191 → RT μ1191 → wfR (μ c13) (w.2.2.1 c13) (z1190).toNat (z14 - z1189).toNat → (2001 - z1190) < (nL1192 : Int) → sV (gG l D c H0 sa) mX1_goThrough (sRm 25 0 0) (sZ (gG l D c H0 sa) 0 0 (qV w [21006, 21007, 200004, 200006, 200007, 200008, 201999, 202999] μ (fun μ1 => True))) 32 [(0, .ref 21), (2, iv p2), (3, .ref b10), (4, iv z1190), (5, iv z1189)] [] (mk w μ1191) 0 0 := by
    intro nL1192
    induction nL1192 with
    | zero => intro z1190 z1189 μ1191 T1195 F1196 h1193 h1194 I1198 I1199 R1200 h1201; exact ((vc_X1_goThrough_12_8 h1201 h1193)).elim
    | succ nL1192 ih1202 =>
      intro z1190 z1189 μ1191 T1195 F1196 h1193 h1194 I1198 I1199 R1200 h1201
      refine mr_iload (pc := 32) (z := z1189) dX1_goThrough_32 rfl ?_
      refine sv_aload_n (pc := 34) dX1_goThrough_34 rfl rfl ?_
      refine gk_X5_0 (pc := 35) dX1_goThrough_35 wF_X1_57 A12 (F1196.f A12 rfl q17) ?_
      refine mr_icmp_ge (pc := 38) (tgt := 174) dX1_goThrough_38 (by decide) (r32 h1194 rfl) (r32 h21 rfl) (fun h1267 => ?_) (fun h1267 => ?_)
      · exact mr_vret dX1_goThrough_174 rfl (le_t rfl) (le_t rfl) T1195 (mF.call mF.refl F1196 rfl) trivial
      have h1268 : 0 ≤ z1189 ∧ z1189 ≤ 29 := (vc_X12_judgedAnew_2 h1267 h1194 h21)
      have h1269 : 1 ≤ z14 ∧ z14 ≤ 30 := (vc_X12_judgedAnew_3 h1267 h1268 h21)
      refine sv_aload_n (pc := 41) dX1_goThrough_41 rfl rfl ?_
      refine gf_X1_7 (pc := 42) dX1_goThrough_42 wF_X1_50 (A_21 hw) T1195 fun z1270 q1271 h1272 => ?_
      refine mr_if_ne (pc := 45) (tgt := 174) dX1_goThrough_45 (by decide) (r32 h1272 rfl) (fun h1332 => ?_) (fun h1332 => ?_)
      · have h1333 : 1 ≤ z1270 ∧ z1270 ≤ 2 := (vc_X12_provides_3 h1332 h1272)
        exact mr_vret dX1_goThrough_174 rfl (le_t rfl) (le_t rfl) T1195 (mF.call mF.refl F1196 rfl) trivial
      have h1334 : 0 ≤ z1270 ∧ z1270 ≤ 0 := (vc_X12_provides_4 h1332 h1272)
      obtain ⟨n_1335, q1336⟩ : ∃ n : Int, (w.2.2.1 c13 : Int) = n := ⟨_, rfl⟩
      have h1337 : 0 ≤ n_1335 ∧ n_1335 ≤ 2000 := lnR (m := 2000) q1336 A16 rfl
      have h1338 : z1190 + 1 < n_1335 := lnLt q1336 (wfR.hd R1200 (vc_X1_goThrough_12_13 h1193) (vc_X1_goThrough_12_14 h1267 h1268 h1269))
      refine sv_aload_n (pc := 48) dX1_goThrough_48 rfl rfl ?_
      refine gk_X5_1 (pc := 49) dX1_goThrough_49 wF_X1_60 A12 (F1196.f A12 rfl q15) ?_
      refine mr_iload (pc := 52) (z := z1190) dX1_goThrough_52 rfl ?_
      refine la_231 (pc := 54) dX1_goThrough_54 A16 T1195 (lnC q1336 (vc_X1_goThrough_12_15 h1338 h1337 h1193)) fun z1339 q1340 h1341 => ?_
      refine mr_istore (pc := 55) (lv' := [(6, iv z1339), (0, .ref 21), (2, iv p2), (3, .ref b10), (4, iv z1190), (5, iv z1189)]) dX1_goThrough_55 (by decide) rfl ?_
      refine sv_aload_n (pc := 57) dX1_goThrough_57 rfl rfl ?_
      refine gk_X5_1 (pc := 58) dX1_goThrough_58 wF_X1_60 A12 (F1196.f A12 rfl q15) ?_
      refine mr_iload (pc := 61) (z := z1190) dX1_goThrough_61 rfl ?_
      refine mr_iconst (pc := 63) (z := 1) dX1_goThrough_63 ?_
      refine mr_iadd (pc := 64) (x := z1190) (y := 1) dX1_goThrough_64 ?_
      refine la_231 (pc := 65) dX1_goThrough_65 A16 T1195 (lnC q1336 (vc_X1_goThrough_12_16 h1338 h1337 h1193)) fun z1342 q1343 h1344 => ?_
      have B1345 := wfR.bd R1200 (vc_X1_goThrough_12_13 h1193) (vc_X1_goThrough_12_14 h1267 h1268 h1269) ((((mF.call mF.refl F1196 rfl) : mF [21006, 21007, 200004, 200006, 200007, 200008, 201999, 202999] w μ μ1191).f A16 rfl rfl).symm.trans q1340) ((((mF.call mF.refl F1196 rfl) : mF [21006, 21007, 200004, 200006, 200007, 200008, 201999, 202999] w μ μ1191).f A16 rfl rfl).symm.trans q1343)
      have h1346 : 0 ≤ z1339 ∧ 0 ≤ z1342 ∧ z1190 + 2 + 5 * z1339 + 2 * z1342 ≤ n_1335 := ⟨B1345.1.1, B1345.1.2.1, lnLe q1336 B1345.1.2.2⟩
      have h1347 : 0 ≤ z1339 ∧ z1339 ≤ 400 := (vc_X1_goThrough_12_17 h1346 h1338 h1337 h1193 h1341 h1344)
      have h1348 : 0 ≤ z1342 ∧ z1342 ≤ 1000 := (vc_X1_goThrough_12_18 h1346 h1338 h1337 h1193 h1347 h1344)
      refine mr_istore (pc := 66) (lv' := [(7, iv z1342), (6, iv z1339), (0, .ref 21), (2, iv p2), (3, .ref b10), (4, iv z1190), (5, iv z1189)]) dX1_goThrough_66 (by decide) rfl ?_
      refine mr_iload (pc := 68) (z := z1190) dX1_goThrough_68 rfl ?_
      refine mr_iconst (pc := 70) (z := 2) dX1_goThrough_70 ?_
      refine mr_iadd (pc := 71) (x := z1190) (y := 2) dX1_goThrough_71 ?_
      refine mr_iload (pc := 72) (z := z1339) dX1_goThrough_72 rfl ?_
      refine mr_iconst (pc := 74) (z := 5) dX1_goThrough_74 ?_
      refine mr_imul (pc := 75) (x := z1339) (y := 5) dX1_goThrough_75 ?_
      refine mr_iadd (pc := 76) (x := (z1190 + 2)) (y := (z1339 * 5)) dX1_goThrough_76 ?_
      refine mr_istore (pc := 77) (lv' := [(8, iv ((z1190 + 2) + (z1339 * 5))), (7, iv z1342), (6, iv z1339), (0, .ref 21), (2, iv p2), (3, .ref b10), (4, iv z1190), (5, iv z1189)]) dX1_goThrough_77 (by decide) rfl ?_
      refine mr_iconst (pc := 79) (z := 1) dX1_goThrough_79 ?_
      refine mr_istore (pc := 80) (lv' := [(9, iv 1), (8, iv ((z1190 + 2) + (z1339 * 5))), (7, iv z1342), (6, iv z1339), (0, .ref 21), (2, iv p2), (3, .ref b10), (4, iv z1190), (5, iv z1189)]) dX1_goThrough_80 (by decide) rfl ?_
      refine mr_iload (pc := 82) (z := z1190) dX1_goThrough_82 rfl ?_
      refine mr_iconst (pc := 84) (z := 2) dX1_goThrough_84 ?_
      refine mr_iadd (pc := 85) (x := z1190) (y := 2) dX1_goThrough_85 ?_
      refine mr_istore (pc := 86) (lv' := [(10, iv (z1190 + 2)), (9, iv 1), (8, iv ((z1190 + 2) + (z1339 * 5))), (7, iv z1342), (6, iv z1339), (0, .ref 21), (2, iv p2), (3, .ref b10), (4, iv z1190), (5, iv z1189)]) dX1_goThrough_86 (by decide) rfl ?_
      have L1468 : ∀ (nL1468 : Nat) (z1467 z1466 : Int), True → (0 ≤ z1467 ∧ z1467 ≤ 1) → (2 ≤ z1466 ∧ z1466 ≤ 2010) → ((((z1190 + 2) + (z1339 * 5)) - z1466) % 5 = 0) → (2011 - z1466) < (nL1468 : Int) → sV (gG l D c H0 sa) mX1_goThrough (sRm 25 0 0) (sZ (gG l D c H0 sa) 0 0 (qV w [21006, 21007, 200004, 200006, 200007, 200008, 201999, 202999] μ (fun μ1 => True))) 88 [(0, .ref 21), (2, iv p2), (3, .ref b10), (5, iv z1189), (7, iv z1342), (8, iv ((z1190 + 2) + (z1339 * 5))), (9, iv z1467), (10, iv z1466)] [] (mk w μ1191) 0 0 := by
        intro nL1468
        induction nL1468 with
        | zero => intro z1467 z1466 _ h1469 h1470 h1474 h1475; exact ((vc_X1_goThrough_12_19 h1475 h1474 h1338 h1346 h1337 h1193 h1347 h1348 h1470)).elim
        | succ nL1468 ih1476 =>
          intro z1467 z1466 _ h1469 h1470 h1474 h1475
          refine mr_iload (pc := 88) (z := z1466) dX1_goThrough_88 rfl ?_
          refine mr_iload (pc := 90) (z := ((z1190 + 2) + (z1339 * 5))) dX1_goThrough_90 rfl ?_
          have J1492 : sV (gG l D c H0 sa) mX1_goThrough (sRm 25 0 0) (sZ (gG l D c H0 sa) 0 0 (qV w [21006, 21007, 200004, 200006, 200007, 200008, 201999, 202999] μ (fun μ1 => True))) 141 [(0, .ref 21), (2, iv p2), (3, .ref b10), (5, iv z1189), (7, iv z1342), (8, iv ((z1190 + 2) + (z1339 * 5))), (9, iv z1467)] [] (mk w μ1191) 0 0 := by
            refine mr_iload (pc := 141) (z := z1467) dX1_goThrough_141 rfl ?_
            refine mr_if_eq (pc := 143) (tgt := 159) dX1_goThrough_143 (by decide) (r32 h1469 rfl) (fun h1499 => ?_) (fun h1499 => ?_)
            · have h1500 : 0 ≤ z1467 ∧ z1467 ≤ 0 := (vc_X12_ring_22 h1499 h1469)
              refine mr_iload (pc := 159) (z := ((z1190 + 2) + (z1339 * 5))) dX1_goThrough_159 rfl ?_
              refine mr_iload (pc := 161) (z := z1342) dX1_goThrough_161 rfl ?_
              refine mr_iconst (pc := 163) (z := 2) dX1_goThrough_163 ?_
              refine mr_imul (pc := 164) (x := z1342) (y := 2) dX1_goThrough_164 ?_
              refine mr_iadd (pc := 165) (x := ((z1190 + 2) + (z1339 * 5))) (y := (z1342 * 2)) dX1_goThrough_165 ?_
              refine mr_istore (pc := 166) (lv' := [(4, iv (((z1190 + 2) + (z1339 * 5)) + (z1342 * 2))), (0, .ref 21), (2, iv p2), (3, .ref b10), (5, iv z1189), (7, iv z1342), (8, iv ((z1190 + 2) + (z1339 * 5))), (9, iv z1467)]) dX1_goThrough_166 (by decide) rfl ?_
              refine mr_iinc (pc := 168) (lv' := [(5, iv (z1189 + 1)), (4, iv (((z1190 + 2) + (z1339 * 5)) + (z1342 * 2))), (0, .ref 21), (2, iv p2), (3, .ref b10), (7, iv z1342), (8, iv ((z1190 + 2) + (z1339 * 5))), (9, iv z1467)]) dX1_goThrough_168 rfl (by decide) rfl ?_
              refine sv_goto (pc := 171) (tgt := 32) dX1_goThrough_171 (by decide) ?_
              refine mr_lvS (lv' := [(0, .ref 21), (2, iv p2), (3, .ref b10), (4, iv (((z1190 + 2) + (z1339 * 5)) + (z1342 * 2))), (5, iv (z1189 + 1))]) (List.forall_mem_cons.mpr ⟨rfl, List.forall_mem_cons.mpr ⟨rfl, List.forall_mem_cons.mpr ⟨rfl, List.forall_mem_cons.mpr ⟨rfl, List.forall_mem_cons.mpr ⟨rfl, fun _ h => absurd h List.not_mem_nil⟩⟩⟩⟩⟩) ?_
              exact ih1202 (((z1190 + 2) + (z1339 * 5)) + (z1342 * 2)) (z1189 + 1) μ1191 T1195 (mF.call mF.refl F1196 rfl) (vc_X1_goThrough_12_21 h1338 h1346 h1474 h1337 h1193 h1347 h1348 h1470) (rW (c := 0) (d := 30) (rAdd (e := 1) (f := 30) h1268 (rR (x := 1)) rfl) rfl) I1198 I1199 (wfR.cg B1345.2.2 (vc_X1_goThrough_12_23 h1338 h1346 h1474 h1337 h1193 h1347 h1348 h1470)) (vc_X1_goThrough_12_22 (nS h1201) h1338 h1346 h1474 h1337 h1193 h1347 h1348 h1470)
            have h1501 : 1 ≤ z1467 ∧ z1467 ≤ 1 := (vc_X12_ring_24 h1499 h1469)
            refine sv_aload_n (pc := 146) dX1_goThrough_146 rfl rfl ?_
            refine sv_aload_n (pc := 147) dX1_goThrough_147 rfl rfl ?_
            refine gk_X5_1 (pc := 148) dX1_goThrough_148 wF_X1_60 A12 (F1196.f A12 rfl q15) ?_
            refine mr_iload (pc := 151) (z := ((z1190 + 2) + (z1339 * 5))) dX1_goThrough_151 rfl ?_
            refine mr_iload (pc := 153) (z := z1342) dX1_goThrough_153 rfl ?_
            refine mr_iload_n (pc := 155) (z := p2) dX1_goThrough_155 rfl rfl ?_
            refine mr_cVV (pc := 156) (c_X1_doActs_2 hw T1195 A16 (vc_X1_goThrough_12_25 h1338 h1346 h1474 h1337 h1193 h1347 h1348 h1470) h1348 hp2 I1198 I1199 (lnL q1336 (vc_X1_goThrough_12_26 h1338 h1346 h1474 h1337 h1193 h1347 h1348 h1470)) (argC B1345.2.1 (vc_X1_goThrough_12_27 h1338 h1346 h1474 h1337 h1193 h1347 h1348 h1470) (funext fun i => ((mF.call mF.refl F1196 rfl) : mF [21006, 21007, 200004, 200006, 200007, 200008, 201999, 202999] w μ μ1191).f A16 rfl rfl))) (gOk _ _ _ _ _) dX1_goThrough_156 (tX1_doActs _ _ _ _ _) ⟨wV_X1_doActs, wL_X1_doActs⟩ wM_X1_68 (gCX1 _ _ _ _ _) rfl (A_21 hw) rfl ⟨le_t rfl, le_t rfl⟩ ⟨le_t rfl, le_t rfl⟩ rfl (le_t rfl) fun μ1502 T1503 F1504 h1505 => ?_
            refine mr_iload (pc := 159) (z := ((z1190 + 2) + (z1339 * 5))) dX1_goThrough_159 rfl ?_
            refine mr_iload (pc := 161) (z := z1342) dX1_goThrough_161 rfl ?_
            refine mr_iconst (pc := 163) (z := 2) dX1_goThrough_163 ?_
            refine mr_imul (pc := 164) (x := z1342) (y := 2) dX1_goThrough_164 ?_
            refine mr_iadd (pc := 165) (x := ((z1190 + 2) + (z1339 * 5))) (y := (z1342 * 2)) dX1_goThrough_165 ?_
            refine mr_istore (pc := 166) (lv' := [(4, iv (((z1190 + 2) + (z1339 * 5)) + (z1342 * 2))), (0, .ref 21), (2, iv p2), (3, .ref b10), (5, iv z1189), (7, iv z1342), (8, iv ((z1190 + 2) + (z1339 * 5))), (9, iv z1467)]) dX1_goThrough_166 (by decide) rfl ?_
            refine mr_iinc (pc := 168) (lv' := [(5, iv (z1189 + 1)), (4, iv (((z1190 + 2) + (z1339 * 5)) + (z1342 * 2))), (0, .ref 21), (2, iv p2), (3, .ref b10), (7, iv z1342), (8, iv ((z1190 + 2) + (z1339 * 5))), (9, iv z1467)]) dX1_goThrough_168 rfl (by decide) rfl ?_
            refine sv_goto (pc := 171) (tgt := 32) dX1_goThrough_171 (by decide) ?_
            refine mr_lvS (lv' := [(0, .ref 21), (2, iv p2), (3, .ref b10), (4, iv (((z1190 + 2) + (z1339 * 5)) + (z1342 * 2))), (5, iv (z1189 + 1))]) (List.forall_mem_cons.mpr ⟨rfl, List.forall_mem_cons.mpr ⟨rfl, List.forall_mem_cons.mpr ⟨rfl, List.forall_mem_cons.mpr ⟨rfl, List.forall_mem_cons.mpr ⟨rfl, fun _ h => absurd h List.not_mem_nil⟩⟩⟩⟩⟩) ?_
            exact ih1202 (((z1190 + 2) + (z1339 * 5)) + (z1342 * 2)) (z1189 + 1) μ1502 T1503 (mF.call (mF.call mF.refl F1196 rfl) F1504 rfl) (vc_X1_goThrough_12_21 h1338 h1346 h1474 h1337 h1193 h1347 h1348 h1470) (rW (c := 0) (d := 30) (rAdd (e := 1) (f := 30) h1268 (rR (x := 1)) rfl) rfl) (PC.keep I1198 hw ((mF.call mF.refl F1504 rfl) : mF [21006, 21007, 200004, 200006, 200007, 200008, 201999, 202999] w μ1191 μ1502) rfl) (RT.keep I1199 hw ((mF.call mF.refl F1504 rfl) : mF [21006, 21007, 200004, 200006, 200007, 200008, 201999, 202999] w μ1191 μ1502) rfl) (wfR.cg B1345.2.2 (vc_X1_goThrough_12_23 h1338 h1346 h1474 h1337 h1193 h1347 h1348 h1470)) (vc_X1_goThrough_12_22 (nS h1201) h1338 h1346 h1474 h1337 h1193 h1347 h1348 h1470)
          refine mr_icmp_ge (pc := 92) (tgt := 141) dX1_goThrough_92 (by decide) (r32 h1470 rfl) (r32 (rAdd (e := 2) (f := 4002) (rAdd (e := 2) (f := 2002) h1193 (rR (x := 2)) rfl) (rMulR (n := 5) (e := 0) (f := 2000) h1347 rfl) rfl) rfl) (fun h1506 => ?_) (fun h1506 => ?_)
          · refine mr_lvS (lv' := [(0, .ref 21), (2, iv p2), (3, .ref b10), (5, iv z1189), (7, iv z1342), (8, iv ((z1190 + 2) + (z1339 * 5))), (9, iv z1467)]) (List.forall_mem_cons.mpr ⟨rfl, List.forall_mem_cons.mpr ⟨rfl, List.forall_mem_cons.mpr ⟨rfl, List.forall_mem_cons.mpr ⟨rfl, List.forall_mem_cons.mpr ⟨rfl, List.forall_mem_cons.mpr ⟨rfl, List.forall_mem_cons.mpr ⟨rfl, fun _ h => absurd h List.not_mem_nil⟩⟩⟩⟩⟩⟩⟩) ?_
            exact J1492 
          refine mr_iload (pc := 95) (z := z1467) dX1_goThrough_95 rfl ?_
          refine mr_if_eq (pc := 97) (tgt := 141) dX1_goThrough_97 (by decide) (r32 h1469 rfl) (fun h1507 => ?_) (fun h1507 => ?_)
          · have h1508 : 0 ≤ z1467 ∧ z1467 ≤ 0 := (vc_X12_ring_22 h1507 h1469)
            refine mr_lvS (lv' := [(0, .ref 21), (2, iv p2), (3, .ref b10), (5, iv z1189), (7, iv z1342), (8, iv ((z1190 + 2) + (z1339 * 5))), (9, iv z1467)]) (List.forall_mem_cons.mpr ⟨rfl, List.forall_mem_cons.mpr ⟨rfl, List.forall_mem_cons.mpr ⟨rfl, List.forall_mem_cons.mpr ⟨rfl, List.forall_mem_cons.mpr ⟨rfl, List.forall_mem_cons.mpr ⟨rfl, List.forall_mem_cons.mpr ⟨rfl, fun _ h => absurd h List.not_mem_nil⟩⟩⟩⟩⟩⟩⟩) ?_
            exact J1492 
          have h1509 : 1 ≤ z1467 ∧ z1467 ≤ 1 := (vc_X12_ring_24 h1507 h1469)
          refine sv_aload_n (pc := 100) dX1_goThrough_100 rfl rfl ?_
          refine sv_aload_n (pc := 101) dX1_goThrough_101 rfl rfl ?_
          refine mr_iload (pc := 102) (z := z1466) dX1_goThrough_102 rfl ?_
          refine mr_cVP (pc := 104) (c_X1_isSo hw T1195 A12 (vc_X1_goThrough_12_28 h1474 h1506 h1338 h1346 h1337 h1193 h1347 h1348 h1470) I1199 (lnF (F1196.f A12 rfl q15) q1336 (vc_X1_goThrough_12_29 h1338 h1346 h1474 h1506 h1337 h1193 h1347 h1348 h1470)) (by rw [((mF.call mF.refl F1196 rfl) : mF [21006, 21007, 200004, 200006, 200007, 200008, 201999, 202999] w μ μ1191).f (k := 2) A12 rfl rfl, ((mF.call mF.refl F1196 rfl) : mF [21006, 21007, 200004, 200006, 200007, 200008, 201999, 202999] w μ μ1191).f (k := 3) A12 rfl rfl]; exact e19) (by rw [((mF.call mF.refl F1196 rfl) : mF [21006, 21007, 200004, 200006, 200007, 200008, 201999, 202999] w μ μ1191).f (k := 4) A12 rfl rfl, ((mF.call mF.refl F1196 rfl) : mF [21006, 21007, 200004, 200006, 200007, 200008, 201999, 202999] w μ μ1191).f (k := 5) A12 rfl rfl]; exact e20)) (gOk _ _ _ _ _) dX1_goThrough_104 (tX1_isSo _ _ _ _ _) ⟨wV_X1_isSo, wL_X1_isSo⟩ wM_X1_64 (gCX1 _ _ _ _ _) rfl (A_21 hw) rfl ⟨le_t rfl, le_t rfl⟩ ⟨le_t rfl, le_t rfl⟩ rfl (le_t rfl) fun z1514 h1513 => ?_
          refine sv_aload_n (pc := 107) dX1_goThrough_107 rfl rfl ?_
          refine gk_X5_1 (pc := 108) dX1_goThrough_108 wF_X1_60 A12 (F1196.f A12 rfl q15) ?_
          refine mr_iload (pc := 111) (z := z1466) dX1_goThrough_111 rfl ?_
          refine mr_iconst (pc := 113) (z := 1) dX1_goThrough_113 ?_
          refine mr_iadd (pc := 114) (x := z1466) (y := 1) dX1_goThrough_114 ?_
          refine la_231 (pc := 115) dX1_goThrough_115 A16 T1195 (lnC q1336 (vc_X1_goThrough_12_30 h1338 h1346 h1474 h1506 h1337 h1193 h1347 h1348 h1470)) fun z1515 q1516 h1517 => ?_
          refine mr_iconst (pc := 116) (z := 1) dX1_goThrough_116 ?_
          refine mr_icmp_ne (pc := 117) (tgt := 124) dX1_goThrough_117 (by decide) h1517 (r32 (rR (x := 1)) rfl) (fun h1519 => ?_) (fun h1519 => ?_)
          · refine mr_iconst (pc := 124) (z := 0) dX1_goThrough_124 ?_
            refine mr_icmp_eq (pc := 125) (tgt := 132) dX1_goThrough_125 (by decide) (r32 h1513.1 rfl) (r32 (rR (x := 0)) rfl) (fun h1522 => ?_) (fun h1522 => ?_)
            · have h1523 : 0 ≤ z1514 ∧ z1514 ≤ 0 := (vc_X12_ring_22 h1522 h1513.1)
              refine mr_iconst (pc := 132) (z := 0) dX1_goThrough_132 ?_
              refine mr_istore (pc := 133) (lv' := [(9, iv 0), (0, .ref 21), (2, iv p2), (3, .ref b10), (5, iv z1189), (7, iv z1342), (8, iv ((z1190 + 2) + (z1339 * 5))), (10, iv z1466)]) dX1_goThrough_133 (by decide) rfl ?_
              refine mr_iinc (pc := 135) (lv' := [(10, iv (z1466 + 5)), (9, iv 0), (0, .ref 21), (2, iv p2), (3, .ref b10), (5, iv z1189), (7, iv z1342), (8, iv ((z1190 + 2) + (z1339 * 5)))]) dX1_goThrough_135 rfl (by decide) rfl ?_
              refine sv_goto (pc := 138) (tgt := 88) dX1_goThrough_138 (by decide) ?_
              refine mr_lvS (lv' := [(0, .ref 21), (2, iv p2), (3, .ref b10), (5, iv z1189), (7, iv z1342), (8, iv ((z1190 + 2) + (z1339 * 5))), (9, iv 0), (10, iv (z1466 + 5))]) (List.forall_mem_cons.mpr ⟨rfl, List.forall_mem_cons.mpr ⟨rfl, List.forall_mem_cons.mpr ⟨rfl, List.forall_mem_cons.mpr ⟨rfl, List.forall_mem_cons.mpr ⟨rfl, List.forall_mem_cons.mpr ⟨rfl, List.forall_mem_cons.mpr ⟨rfl, List.forall_mem_cons.mpr ⟨rfl, fun _ h => absurd h List.not_mem_nil⟩⟩⟩⟩⟩⟩⟩⟩) ?_
              exact ih1476 0 (z1466 + 5) trivial (rW (c := 0) (d := 1) (rR (x := 0)) rfl) (vc_X1_goThrough_12_32 h1474 h1506 h1338 h1346 h1337 h1193 h1347 h1348 h1470) (vc_X1_goThrough_12_33 h1338 h1346 h1474 h1506 h1337 h1193 h1347 h1348 h1470) (vc_X1_goThrough_12_34 (nS h1475) h1474 h1506 h1338 h1346 h1337 h1193 h1347 h1348 h1470)
            have h1524 : 1 ≤ z1514 ∧ z1514 ≤ 1 := (vc_X12_ring_24 h1522 h1513.1)
            refine mr_iconst (pc := 128) (z := 1) dX1_goThrough_128 ?_
            refine sv_goto (pc := 129) (tgt := 133) dX1_goThrough_129 (by decide) ?_
            refine mr_istore (pc := 133) (lv' := [(9, iv 1), (0, .ref 21), (2, iv p2), (3, .ref b10), (5, iv z1189), (7, iv z1342), (8, iv ((z1190 + 2) + (z1339 * 5))), (10, iv z1466)]) dX1_goThrough_133 (by decide) rfl ?_
            refine mr_iinc (pc := 135) (lv' := [(10, iv (z1466 + 5)), (9, iv 1), (0, .ref 21), (2, iv p2), (3, .ref b10), (5, iv z1189), (7, iv z1342), (8, iv ((z1190 + 2) + (z1339 * 5)))]) dX1_goThrough_135 rfl (by decide) rfl ?_
            refine sv_goto (pc := 138) (tgt := 88) dX1_goThrough_138 (by decide) ?_
            refine mr_lvS (lv' := [(0, .ref 21), (2, iv p2), (3, .ref b10), (5, iv z1189), (7, iv z1342), (8, iv ((z1190 + 2) + (z1339 * 5))), (9, iv 1), (10, iv (z1466 + 5))]) (List.forall_mem_cons.mpr ⟨rfl, List.forall_mem_cons.mpr ⟨rfl, List.forall_mem_cons.mpr ⟨rfl, List.forall_mem_cons.mpr ⟨rfl, List.forall_mem_cons.mpr ⟨rfl, List.forall_mem_cons.mpr ⟨rfl, List.forall_mem_cons.mpr ⟨rfl, List.forall_mem_cons.mpr ⟨rfl, fun _ h => absurd h List.not_mem_nil⟩⟩⟩⟩⟩⟩⟩⟩) ?_
            exact ih1476 1 (z1466 + 5) trivial (rW (c := 0) (d := 1) (rR (x := 1)) rfl) (vc_X1_goThrough_12_32 h1474 h1506 h1338 h1346 h1337 h1193 h1347 h1348 h1470) (vc_X1_goThrough_12_33 h1338 h1346 h1474 h1506 h1337 h1193 h1347 h1348 h1470) (vc_X1_goThrough_12_34 (nS h1475) h1474 h1506 h1338 h1346 h1337 h1193 h1347 h1348 h1470)
          have h1525 : 1 ≤ z1515 ∧ z1515 ≤ 1 := (vc_X0_compareAt_1 h1519 h1517)
          refine mr_iconst (pc := 120) (z := 1) dX1_goThrough_120 ?_
          refine sv_goto (pc := 121) (tgt := 125) dX1_goThrough_121 (by decide) ?_
          refine mr_icmp_eq (pc := 125) (tgt := 132) dX1_goThrough_125 (by decide) (r32 h1513.1 rfl) (r32 (rR (x := 1)) rfl) (fun h1528 => ?_) (fun h1528 => ?_)
          · have h1529 : 1 ≤ z1514 ∧ z1514 ≤ 1 := (vc_X1_goThrough_12_37 h1528 h1513.1)
            refine mr_iconst (pc := 132) (z := 0) dX1_goThrough_132 ?_
            refine mr_istore (pc := 133) (lv' := [(9, iv 0), (0, .ref 21), (2, iv p2), (3, .ref b10), (5, iv z1189), (7, iv z1342), (8, iv ((z1190 + 2) + (z1339 * 5))), (10, iv z1466)]) dX1_goThrough_133 (by decide) rfl ?_
            refine mr_iinc (pc := 135) (lv' := [(10, iv (z1466 + 5)), (9, iv 0), (0, .ref 21), (2, iv p2), (3, .ref b10), (5, iv z1189), (7, iv z1342), (8, iv ((z1190 + 2) + (z1339 * 5)))]) dX1_goThrough_135 rfl (by decide) rfl ?_
            refine sv_goto (pc := 138) (tgt := 88) dX1_goThrough_138 (by decide) ?_
            refine mr_lvS (lv' := [(0, .ref 21), (2, iv p2), (3, .ref b10), (5, iv z1189), (7, iv z1342), (8, iv ((z1190 + 2) + (z1339 * 5))), (9, iv 0), (10, iv (z1466 + 5))]) (List.forall_mem_cons.mpr ⟨rfl, List.forall_mem_cons.mpr ⟨rfl, List.forall_mem_cons.mpr ⟨rfl, List.forall_mem_cons.mpr ⟨rfl, List.forall_mem_cons.mpr ⟨rfl, List.forall_mem_cons.mpr ⟨rfl, List.forall_mem_cons.mpr ⟨rfl, List.forall_mem_cons.mpr ⟨rfl, fun _ h => absurd h List.not_mem_nil⟩⟩⟩⟩⟩⟩⟩⟩) ?_
            exact ih1476 0 (z1466 + 5) trivial (rW (c := 0) (d := 1) (rR (x := 0)) rfl) (vc_X1_goThrough_12_32 h1474 h1506 h1338 h1346 h1337 h1193 h1347 h1348 h1470) (vc_X1_goThrough_12_33 h1338 h1346 h1474 h1506 h1337 h1193 h1347 h1348 h1470) (vc_X1_goThrough_12_34 (nS h1475) h1474 h1506 h1338 h1346 h1337 h1193 h1347 h1348 h1470)
          have h1530 : 0 ≤ z1514 ∧ z1514 ≤ 0 := (vc_X1_goThrough_12_38 h1528 h1513.1)
          refine mr_iconst (pc := 128) (z := 1) dX1_goThrough_128 ?_
          refine sv_goto (pc := 129) (tgt := 133) dX1_goThrough_129 (by decide) ?_
          refine mr_istore (pc := 133) (lv' := [(9, iv 1), (0, .ref 21), (2, iv p2), (3, .ref b10), (5, iv z1189), (7, iv z1342), (8, iv ((z1190 + 2) + (z1339 * 5))), (10, iv z1466)]) dX1_goThrough_133 (by decide) rfl ?_
          refine mr_iinc (pc := 135) (lv' := [(10, iv (z1466 + 5)), (9, iv 1), (0, .ref 21), (2, iv p2), (3, .ref b10), (5, iv z1189), (7, iv z1342), (8, iv ((z1190 + 2) + (z1339 * 5)))]) dX1_goThrough_135 rfl (by decide) rfl ?_
          refine sv_goto (pc := 138) (tgt := 88) dX1_goThrough_138 (by decide) ?_
          refine mr_lvS (lv' := [(0, .ref 21), (2, iv p2), (3, .ref b10), (5, iv z1189), (7, iv z1342), (8, iv ((z1190 + 2) + (z1339 * 5))), (9, iv 1), (10, iv (z1466 + 5))]) (List.forall_mem_cons.mpr ⟨rfl, List.forall_mem_cons.mpr ⟨rfl, List.forall_mem_cons.mpr ⟨rfl, List.forall_mem_cons.mpr ⟨rfl, List.forall_mem_cons.mpr ⟨rfl, List.forall_mem_cons.mpr ⟨rfl, List.forall_mem_cons.mpr ⟨rfl, List.forall_mem_cons.mpr ⟨rfl, fun _ h => absurd h List.not_mem_nil⟩⟩⟩⟩⟩⟩⟩⟩) ?_
          exact ih1476 1 (z1466 + 5) trivial (rW (c := 0) (d := 1) (rR (x := 1)) rfl) (vc_X1_goThrough_12_32 h1474 h1506 h1338 h1346 h1337 h1193 h1347 h1348 h1470) (vc_X1_goThrough_12_33 h1338 h1346 h1474 h1506 h1337 h1193 h1347 h1348 h1470) (vc_X1_goThrough_12_34 (nS h1475) h1474 h1506 h1338 h1346 h1337 h1193 h1347 h1348 h1470)
      refine mr_lvS (lv' := [(0, .ref 21), (2, iv p2), (3, .ref b10), (5, iv z1189), (7, iv z1342), (8, iv ((z1190 + 2) + (z1339 * 5))), (9, iv 1), (10, iv (z1190 + 2))]) (List.forall_mem_cons.mpr ⟨rfl, List.forall_mem_cons.mpr ⟨rfl, List.forall_mem_cons.mpr ⟨rfl, List.forall_mem_cons.mpr ⟨rfl, List.forall_mem_cons.mpr ⟨rfl, List.forall_mem_cons.mpr ⟨rfl, List.forall_mem_cons.mpr ⟨rfl, List.forall_mem_cons.mpr ⟨rfl, fun _ h => absurd h List.not_mem_nil⟩⟩⟩⟩⟩⟩⟩⟩) ?_
      exact L1468 2010 1 (z1190 + 2) trivial (rW (c := 0) (d := 1) (rR (x := 1)) rfl) (rW (c := 2) (d := 2010) (rAdd (e := 2) (f := 2002) h1193 (rR (x := 2)) rfl) rfl) (vc_X1_goThrough_12_39 h1338 h1346 h1337 h1193 h1347 h1348) (vc_X1_goThrough_12_40 h1338 h1346 h1337 h1193 h1347 h1348)
  refine mr_lvS (lv' := [(0, .ref 21), (2, iv p2), (3, .ref b10), (4, iv 0), (5, iv 0)]) (List.forall_mem_cons.mpr ⟨rfl, List.forall_mem_cons.mpr ⟨rfl, List.forall_mem_cons.mpr ⟨rfl, List.forall_mem_cons.mpr ⟨rfl, List.forall_mem_cons.mpr ⟨rfl, fun _ h => absurd h List.not_mem_nil⟩⟩⟩⟩⟩) ?_
  exact L1192 2002 0 0 μ hT mF.refl (rW (c := 0) (d := 2000) (rR (x := 0)) rfl) (rW (c := 0) (d := 30) (rR (x := 0)) rfl) hIPC hIRT R18 vc_X1_goThrough_12_41
end
