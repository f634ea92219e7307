section
theorem vc_X5_tells_4 {n_12 p1 : Int} (h0 : p1 < n_12) (h1 : 0 ≤ p1) (h2 : 0 ≤ n_12 ∧ n_12 ≤ 250) (h3 : 0 ≤ p1 ∧ p1 ≤ 2147483647) : 0 ≤ p1 ∧ p1 ≤ 249 := by omega
theorem vc_X5_tells_5 {n_12 p1 : Int} (h0 : p1 < n_12) (h1 : 0 ≤ p1) (h2 : 0 ≤ n_12 ∧ n_12 ≤ 250) (h3 : 0 ≤ p1 ∧ p1 ≤ 249) : 1 ≤ n_12 ∧ n_12 ≤ 250 := by omega
theorem vc_X5_tells_6 {n_12 p1 : Int} (h0 : 0 ≤ p1) (h1 : p1 < n_12) (h2 : 1 ≤ n_12 ∧ n_12 ≤ 250) (h3 : 0 ≤ p1 ∧ p1 ≤ 249) : 0 ≤ p1 ∧ p1 < n_12 := by omega
theorem vc_X5_tells_8 {z1 z1110 : Int} (h0 : z1 ≤ z1110) (h1 : ¬ z1 = 0) (h2 : 1 ≤ z1 ∧ z1 ≤ 20) (h3 : 0 ≤ z1110 ∧ z1110 ≤ 20) : 1 ≤ z1110 ∧ z1110 ≤ 20 := by omega
theorem vc_X5_tells_9 {n_12 n_1231 p1 : Int} (h0 : 0 ≤ p1) (h1 : p1 < n_12) (h2 : n_1231 = n_12) (h3 : 1 ≤ n_12 ∧ n_12 ≤ 250) (h4 : 0 ≤ n_1231 ∧ n_1231 ≤ 250) (h5 : 0 ≤ p1 ∧ p1 ≤ 249) : 0 ≤ p1 ∧ p1 < n_1231 := by omega
theorem vc_X5_tells_11 {z1 z1110 : Int} (h0 : z1110 < z1) (h1 : ¬ z1 = 0) (h2 : 1 ≤ z1 ∧ z1 ≤ 20) (h3 : 0 ≤ z1110 ∧ z1110 ≤ 20) : 0 ≤ z1110 ∧ z1110 ≤ 19 := by omega
theorem vc_X5_tells_13 {N z1 z1110 : Int} (h0 : (21 - z1110) < N + 1) (h1 : z1110 < z1) (h2 : ¬ z1 = 0) (h3 : 1 ≤ z1 ∧ z1 ≤ 20) (h4 : 0 ≤ z1110 ∧ z1110 ≤ 19) : (21 - (z1110 + 1)) < N := by omega
theorem vc_X5_tells_14 {n_1773 z1758 : Int} (h0 : z1758 < n_1773) (h1 : 0 ≤ n_1773 ∧ n_1773 ≤ 40) (h2 : 0 ≤ z1758 ∧ z1758 ≤ 40) : 0 ≤ z1758 ∧ z1758 ≤ 39 := by omega
theorem vc_X5_tells_15 {n_1773 z1758 : Int} (h0 : z1758 < n_1773) (h1 : 0 ≤ n_1773 ∧ n_1773 ≤ 40) (h2 : 0 ≤ z1758 ∧ z1758 ≤ 39) : 1 ≤ n_1773 ∧ n_1773 ≤ 40 := by omega
theorem vc_X5_tells_16 {n_1773 z1758 : Int} (h0 : z1758 < n_1773) (h1 : 1 ≤ n_1773 ∧ n_1773 ≤ 40) (h2 : 0 ≤ z1758 ∧ z1758 ≤ 39) : 0 ≤ z1758 ∧ z1758 < n_1773 := by omega
theorem vc_X5_tells_18 {N n_1773 z1758 : Int} (h0 : (41 - z1758) < N + 1) (h1 : z1758 < n_1773) (h2 : 1 ≤ n_1773 ∧ n_1773 ≤ 40) (h3 : 0 ≤ z1758 ∧ z1758 ≤ 39) : (41 - (z1758 + 1)) < N := by omega
theorem vc_X5_tells_21 {n_1773 n_1904 z1758 : Int} (h0 : z1758 < n_1773) (h1 : n_1904 = n_1773) (h2 : 1 ≤ n_1773 ∧ n_1773 ≤ 40) (h3 : 0 ≤ n_1904 ∧ n_1904 ≤ 40) (h4 : 0 ≤ z1758 ∧ z1758 ≤ 39) : 0 ≤ z1758 ∧ z1758 < n_1904 := by omega
theorem vc_X5_tells_22 {N n_1773 n_1904 z1758 : Int} (h0 : (41 - z1758) < N + 1) (h1 : z1758 < n_1773) (h2 : n_1904 = n_1773) (h3 : 1 ≤ n_1773 ∧ n_1773 ≤ 40) (h4 : 0 ≤ n_1904 ∧ n_1904 ≤ 40) (h5 : 0 ≤ z1758 ∧ z1758 ≤ 39) : (41 - (z1758 + 1)) < N := by omega
set_option maxRecDepth 4000 in
set_option maxHeartbeats 4000000 in
theorem c_X5_tells {l : Launch} {D : va_G} {c : Nat → ClassId} {H0 : Heap} {sa : Nat × Nat × (Nat → Int32)} {w : mW} {μ : mM} (hw : mWF w) (hT : mT w μ) {a0 : Nat} (hA0 : mAt w a0 230) {p1 : Int} (hp1 : (-2147483648) ≤ p1 ∧ p1 ≤ 2147483647) {p2 : Int} (hp2 : 0 ≤ p2 ∧ p2 ≤ 1) {a3 : Nat} (hA3 : mAt w a3 200) (he1 : w.2.2.1 (μ a0 2).toNat = w.2.2.1 (μ a0 3).toNat) (he2 : w.2.2.1 (μ a0 4).toNat = w.2.2.1 (μ a0 5).toNat) : sC (gG l D c H0 sa) mX5_tells 1 0 0 [.ref a0, iv p1, iv p2, .ref a3] (mk w μ) (qP w μ (fun z => (0 ≤ z ∧ z ≤ 1) ∧ True)) := by
  refine sC.of rfl (by decide) (le_t rfl) ?_
  refine mr_lvE (lv' := [(0, .ref a0), (1, iv p1), (2, iv p2), (3, .ref a3)]) rfl ?_
  refine sv_aload_n (pc := 0) dX5_tells_0 rfl rfl ?_
  refine gf_X7_7 (pc := 1) dX5_tells_1 wF_X5_30 hA3 hT fun z1 q2 h3 => ?_
  refine mr_if_ne (pc := 4) (tgt := 9) dX5_tells_4 (by decide) (r32 h3 rfl) (fun h4 => ?_) (fun h4 => ?_)
  · have h5 : 1 ≤ z1 ∧ z1 ≤ 20 := (vc_X12_waysMatch_2 h4 h3)
    refine mr_iload_n (pc := 9) (z := p1) dX5_tells_9 rfl rfl ?_
    refine mr_if_lt (pc := 10) (tgt := 22) dX5_tells_10 (by decide) hp1 (fun h6 => ?_) (fun h6 => ?_)
    · have h7 : (-2147483648) ≤ p1 ∧ p1 ≤ (-1) := (vc_X12_ring_60 h6 hp1)
      refine mr_iconst (pc := 22) (z := 0) dX5_tells_22 ?_
      exact mr_zretP dX5_tells_23 rfl (rW (c := 0) (d := 1) (rR (x := 0)) rfl) (le_t rfl) (le_t rfl) ⟨(rW (c := 0) (d := 1) (rR (x := 0)) rfl), trivial⟩
    have h8 : 0 ≤ p1 ∧ p1 ≤ 2147483647 := (vc_X12_ring_1 h6 hp1)
    refine mr_iload_n (pc := 13) (z := p1) dX5_tells_13 rfl rfl ?_
    refine sv_aload_n (pc := 14) dX5_tells_14 rfl rfl ?_
    refine gf_X5_4 (pc := 15) dX5_tells_15 wF_X5_24 hA0 hT fun b9 q10 A11 => ?_
    obtain ⟨n_12, q13⟩ : ∃ n : Int, (w.2.2.1 b9 : Int) = n := ⟨_, rfl⟩
    have h14 : 0 ≤ n_12 ∧ n_12 ≤ 250 := lnR (m := 250) q13 A11 rfl
    refine mr_alen (pc := 18) (kd := 1) dX5_tells_18 rfl A11 rfl q13 ?_
    refine mr_icmp_lt (pc := 19) (tgt := 24) dX5_tells_19 (by decide) (r32 h8 rfl) (r32 h14 rfl) (fun h15 => ?_) (fun h15 => ?_)
    · have h16 : 0 ≤ p1 ∧ p1 ≤ 249 := (vc_X5_tells_4 h15 h6 h14 h8)
      have h17 : 1 ≤ n_12 ∧ n_12 ≤ 250 := (vc_X5_tells_5 h15 h6 h14 h16)
      refine sv_aload_n (pc := 24) dX5_tells_24 rfl rfl ?_
      refine gk_X5_4 (pc := 25) dX5_tells_25 wF_X5_24 hA0 q10 ?_
      refine mr_iload_n (pc := 28) (z := p1) dX5_tells_28 rfl rfl ?_
      refine la_234 (pc := 29) dX5_tells_29 A11 hT (lnC q13 (vc_X5_tells_6 h6 h15 h17 h16)) fun z18 q19 h20 => ?_
      refine mr_lstore (pc := 30) (lv' := [(4, jv z18), (0, .ref a0), (1, iv p1), (2, iv p2), (3, .ref a3)]) dX5_tells_30 (by decide) rfl ?_
      refine mr_lconst (pc := 32) (z := 0) dX5_tells_32 (by decide) ?_
      refine mr_lstore (pc := 33) (lv' := [(6, jv 0), (4, jv z18), (0, .ref a0), (1, iv p1), (2, iv p2), (3, .ref a3)]) dX5_tells_33 (by decide) rfl ?_
      refine mr_iconst (pc := 35) (z := 0) dX5_tells_35 ?_
      refine mr_istore (pc := 36) (lv' := [(8, iv 0), (6, jv 0), (4, jv z18), (0, .ref a0), (1, iv p1), (2, iv p2), (3, .ref a3)]) dX5_tells_36 (by decide) rfl ?_
      have L1113 : ∀ (nL1113 : Nat) (z1112 z1111 z1110 : Int), True → ((-9223372036854775808) ≤ z1112 ∧ z1112 ≤ 9223372036854775807) → ((-9223372036854775808) ≤ z1111 ∧ z1111 ≤ 9223372036854775807) → (0 ≤ z1110 ∧ z1110 ≤ 20) → (21 - z1110) < (nL1113 : Int) → sV (gG l D c H0 sa) mX5_tells (sRm 1 0 0) (sZ (gG l D c H0 sa) 0 0 (qP w μ (fun z => (0 ≤ z ∧ z ≤ 1) ∧ True))) 38 [(0, .ref a0), (1, iv p1), (3, .ref a3), (4, jv z1112), (6, jv z1111), (8, iv z1110)] [] (mk w μ) 0 0 := by
        intro nL1113
        induction nL1113 with
        | zero => intro z1112 z1111 z1110 _ h1114 h1115 h1116 h1120; exact ((vc_X12_tieOf_1 h1120 h1116)).elim
        | succ nL1113 ih1121 =>
          intro z1112 z1111 z1110 _ h1114 h1115 h1116 h1120
          refine mr_iload (pc := 38) (z := z1110) dX5_tells_38 rfl ?_
          refine sv_aload_n (pc := 40) dX5_tells_40 rfl rfl ?_
          refine gk_X7_7 (pc := 41) dX5_tells_41 wF_X5_30 hA3 q2 ?_
          refine mr_icmp_ge (pc := 44) (tgt := 155) dX5_tells_44 (by decide) (r32 h1116 rfl) (r32 h5 rfl) (fun h1226 => ?_) (fun h1226 => ?_)
          · have h1227 : 1 ≤ z1110 ∧ z1110 ≤ 20 := (vc_X5_tells_8 h1226 h4 h5 h1116)
            refine mr_lload (pc := 155) (z := z1111) dX5_tells_155 rfl ?_
            refine sv_aload_n (pc := 157) dX5_tells_157 rfl rfl ?_
            refine gf_X5_5 (pc := 158) dX5_tells_158 wF_X5_27 hA0 hT fun b1228 q1229 A1230 => ?_
            obtain ⟨n_1231, q1232⟩ : ∃ n : Int, (w.2.2.1 b1228 : Int) = n := ⟨_, rfl⟩
            have h1233 : 0 ≤ n_1231 ∧ n_1231 ≤ 250 := lnR (m := 250) q1232 A1230 rfl
            have h1234 : n_1231 = n_12 := lnQ q10 q1229 he2 q13 q1232
            refine mr_iload_n (pc := 161) (z := p1) dX5_tells_161 rfl rfl ?_
            refine la_235 (pc := 162) dX5_tells_162 A1230 hT (lnC q1232 (vc_X5_tells_9 h6 h15 h1234 h17 h1233 h16)) fun z1235 q1236 h1237 => ?_
            refine mr_land (pc := 163) dX5_tells_163 ?_
            refine mr_genL (r64i _) fun z1238 q1239 h1240 => ?_
            refine mr_lconst (pc := 164) (z := 0) dX5_tells_164 (by decide) ?_
            refine mr_lcmp (pc := 165) dX5_tells_165 ?_
            refine mr_gen (P := fun z => (-1) ≤ z ∧ z ≤ 1) (lg_cmp_r _ _) fun z1241 q1242 h1243 => ?_
            refine mr_if_eq (pc := 166) (tgt := 173) dX5_tells_166 (by decide) (r32 h1243 rfl) (fun h1245 => ?_) (fun h1245 => ?_)
            · have h1246 : 0 ≤ z1241 ∧ z1241 ≤ 0 := (vc_X12_waysMatch_5 h1245 h1243)
              refine mr_iconst (pc := 173) (z := 0) dX5_tells_173 ?_
              exact mr_zretP dX5_tells_174 rfl (rW (c := 0) (d := 1) (rR (x := 0)) rfl) (le_t rfl) (le_t rfl) ⟨(rW (c := 0) (d := 1) (rR (x := 0)) rfl), trivial⟩
            refine mr_iconst (pc := 169) (z := 1) dX5_tells_169 ?_
            refine sv_goto (pc := 170) (tgt := 174) dX5_tells_170 (by decide) ?_
            exact mr_zretP dX5_tells_174 rfl (rW (c := 0) (d := 1) (rR (x := 1)) rfl) (le_t rfl) (le_t rfl) ⟨(rW (c := 0) (d := 1) (rR (x := 1)) rfl), trivial⟩
          have h1247 : 0 ≤ z1110 ∧ z1110 ≤ 19 := (vc_X5_tells_11 h1226 h4 h5 h1116)
          refine mr_lconst (pc := 47) (z := 0) dX5_tells_47 (by decide) ?_
          refine mr_lstore (pc := 48) (lv' := [(6, jv 0), (0, .ref a0), (1, iv p1), (3, .ref a3), (4, jv z1112), (8, iv z1110)]) dX5_tells_48 (by decide) rfl ?_
          refine mr_lconst (pc := 50) (z := 0) dX5_tells_50 (by decide) ?_
          refine mr_lstore (pc := 51) (lv' := [(9, jv 0), (6, jv 0), (0, .ref a0), (1, iv p1), (3, .ref a3), (4, jv z1112), (8, iv z1110)]) dX5_tells_51 (by decide) rfl ?_
          refine mr_iconst (pc := 53) (z := 0) dX5_tells_53 ?_
          refine mr_istore (pc := 54) (lv' := [(11, iv 0), (9, jv 0), (6, jv 0), (0, .ref a0), (1, iv p1), (3, .ref a3), (4, jv z1112), (8, iv z1110)]) dX5_tells_54 (by decide) rfl ?_
          have L1761 : ∀ (nL1761 : Nat) (z1760 z1759 z1758 : Int), True → ((-9223372036854775808) ≤ z1760 ∧ z1760 ≤ 9223372036854775807) → ((-9223372036854775808) ≤ z1759 ∧ z1759 ≤ 9223372036854775807) → (0 ≤ z1758 ∧ z1758 ≤ 40) → (41 - z1758) < (nL1761 : Int) → sV (gG l D c H0 sa) mX5_tells (sRm 1 0 0) (sZ (gG l D c H0 sa) 0 0 (qP w μ (fun z => (0 ≤ z ∧ z ≤ 1) ∧ True))) 56 [(0, .ref a0), (1, iv p1), (3, .ref a3), (4, jv z1112), (6, jv z1760), (8, iv z1110), (9, jv z1759), (11, iv z1758)] [] (mk w μ) 0 0 := by
            intro nL1761
            induction nL1761 with
            | zero => intro z1760 z1759 z1758 _ h1762 h1763 h1764 h1768; exact ((vc_X12_waysMatch_7 h1768 h1764)).elim
            | succ nL1761 ih1769 =>
              intro z1760 z1759 z1758 _ h1762 h1763 h1764 h1768
              refine mr_iload (pc := 56) (z := z1758) dX5_tells_56 rfl ?_
              refine sv_aload_n (pc := 58) dX5_tells_58 rfl rfl ?_
              refine gf_X5_2 (pc := 59) dX5_tells_59 wF_X5_17 hA0 hT fun b1770 q1771 A1772 => ?_
              obtain ⟨n_1773, q1774⟩ : ∃ n : Int, (w.2.2.1 b1770 : Int) = n := ⟨_, rfl⟩
              have h1775 : 0 ≤ n_1773 ∧ n_1773 ≤ 40 := lnR (m := 40) q1774 A1772 rfl
              refine mr_alen (pc := 62) (kd := 0) dX5_tells_62 rfl A1772 rfl q1774 ?_
              refine mr_icmp_ge (pc := 63) (tgt := 145) dX5_tells_63 (by decide) (r32 h1764 rfl) (r32 h1775 rfl) (fun h1818 => ?_) (fun h1818 => ?_)
              · refine mr_lload (pc := 145) (z := z1759) dX5_tells_145 rfl ?_
                refine mr_lstore (pc := 147) (lv' := [(4, jv z1759), (0, .ref a0), (1, iv p1), (3, .ref a3), (6, jv z1760), (8, iv z1110), (9, jv z1759), (11, iv z1758)]) dX5_tells_147 (by decide) rfl ?_
                refine mr_iinc (pc := 149) (lv' := [(8, iv (z1110 + 1)), (4, jv z1759), (0, .ref a0), (1, iv p1), (3, .ref a3), (6, jv z1760), (9, jv z1759), (11, iv z1758)]) dX5_tells_149 rfl (by decide) rfl ?_
                refine sv_goto (pc := 152) (tgt := 38) dX5_tells_152 (by decide) ?_
                refine mr_lvS (lv' := [(0, .ref a0), (1, iv p1), (3, .ref a3), (4, jv z1759), (6, jv z1760), (8, iv (z1110 + 1))]) (List.forall_mem_cons.mpr ⟨rfl, List.forall_mem_cons.mpr ⟨rfl, List.forall_mem_cons.mpr ⟨rfl, List.forall_mem_cons.mpr ⟨rfl, List.forall_mem_cons.mpr ⟨rfl, List.forall_mem_cons.mpr ⟨rfl, fun _ h => absurd h List.not_mem_nil⟩⟩⟩⟩⟩⟩) ?_
                exact ih1121 z1759 z1760 (z1110 + 1) trivial h1763 h1762 (rW (c := 0) (d := 20) (rAdd (e := 1) (f := 20) h1247 (rR (x := 1)) rfl) rfl) (vc_X5_tells_13 (nS h1120) h1226 h4 h5 h1247)
              have h1819 : 0 ≤ z1758 ∧ z1758 ≤ 39 := (vc_X5_tells_14 h1818 h1775 h1764)
              have h1820 : 1 ≤ n_1773 ∧ n_1773 ≤ 40 := (vc_X5_tells_15 h1818 h1775 h1819)
              refine sv_aload_n (pc := 66) dX5_tells_66 rfl rfl ?_
              refine gk_X5_2 (pc := 67) dX5_tells_67 wF_X5_17 hA0 q1771 ?_
              refine mr_iload (pc := 70) (z := z1758) dX5_tells_70 rfl ?_
              refine la_232 (pc := 72) dX5_tells_72 A1772 hT (lnC q1774 (vc_X5_tells_16 h1818 h1820 h1819)) fun z1821 q1822 h1823 => ?_
              refine mr_iconst (pc := 73) (z := (-1)) dX5_tells_73 ?_
              have J1831 : ∀ (z1829 : Int), ((0 ≤ z1829 ∧ z1829 ≤ 1)) → sV (gG l D c H0 sa) mX5_tells (sRm 1 0 0) (sZ (gG l D c H0 sa) 0 0 (qP w μ (fun z => (0 ≤ z ∧ z ≤ 1) ∧ True))) 99 [(0, .ref a0), (1, iv p1), (3, .ref a3), (4, jv z1112), (6, jv z1760), (8, iv z1110), (9, jv z1759), (11, iv z1758)] [iv z1829] (mk w μ) 0 0 := by
                intro z1829 h1830
                refine mr_istore (pc := 99) (lv' := [(12, iv z1829), (0, .ref a0), (1, iv p1), (3, .ref a3), (4, jv z1112), (6, jv z1760), (8, iv z1110), (9, jv z1759), (11, iv z1758)]) dX5_tells_99 (by decide) rfl ?_
                refine mr_iload (pc := 101) (z := z1829) dX5_tells_101 rfl ?_
                refine mr_if_eq (pc := 103) (tgt := 139) dX5_tells_103 (by decide) (r32 h1830 rfl) (fun h1862 => ?_) (fun h1862 => ?_)
                · have h1863 : 0 ≤ z1829 ∧ z1829 ≤ 0 := (vc_X12_ring_22 h1862 h1830)
                  refine mr_iinc (pc := 139) (lv' := [(11, iv (z1758 + 1)), (12, iv z1829), (0, .ref a0), (1, iv p1), (3, .ref a3), (4, jv z1112), (6, jv z1760), (8, iv z1110), (9, jv z1759)]) dX5_tells_139 rfl (by decide) rfl ?_
                  refine sv_goto (pc := 142) (tgt := 56) dX5_tells_142 (by decide) ?_
                  refine mr_lvS (lv' := [(0, .ref a0), (1, iv p1), (3, .ref a3), (4, jv z1112), (6, jv z1760), (8, iv z1110), (9, jv z1759), (11, iv (z1758 + 1))]) (List.forall_mem_cons.mpr ⟨rfl, List.forall_mem_cons.mpr ⟨rfl, List.forall_mem_cons.mpr ⟨rfl, List.forall_mem_cons.mpr ⟨rfl, List.forall_mem_cons.mpr ⟨rfl, List.forall_mem_cons.mpr ⟨rfl, List.forall_mem_cons.mpr ⟨rfl, List.forall_mem_cons.mpr ⟨rfl, fun _ h => absurd h List.not_mem_nil⟩⟩⟩⟩⟩⟩⟩⟩) ?_
                  exact ih1769 z1760 z1759 (z1758 + 1) trivial h1762 h1763 (rW (c := 0) (d := 40) (rAdd (e := 1) (f := 40) h1819 (rR (x := 1)) rfl) rfl) (vc_X5_tells_18 (nS h1768) h1818 h1820 h1819)
                have h1864 : 1 ≤ z1829 ∧ z1829 ≤ 1 := (vc_X12_ring_24 h1862 h1830)
                refine mr_lload (pc := 106) (z := z1112) dX5_tells_106 rfl ?_
                refine mr_iload (pc := 108) (z := z1758) dX5_tells_108 rfl ?_
                refine mr_lushr (pc := 110) dX5_tells_110 ?_
                refine mr_genL (r64i _) fun z1865 q1866 h1867 => ?_
                refine mr_lconst (pc := 111) (z := 1) dX5_tells_111 (by decide) ?_
                refine mr_land (pc := 112) dX5_tells_112 ?_
                refine mr_genL (r64i _) fun z1868 q1869 h1870 => ?_
                refine mr_lconst (pc := 113) (z := 0) dX5_tells_113 (by decide) ?_
                refine mr_lcmp (pc := 114) dX5_tells_114 ?_
                refine mr_gen (P := fun z => (-1) ≤ z ∧ z ≤ 1) (lg_cmp_r _ _) fun z1871 q1872 h1873 => ?_
                refine mr_if_eq (pc := 115) (tgt := 139) dX5_tells_115 (by decide) (r32 h1873 rfl) (fun h1893 => ?_) (fun h1893 => ?_)
                · have h1894 : 0 ≤ z1871 ∧ z1871 ≤ 0 := (vc_X12_waysMatch_5 h1893 h1873)
                  refine mr_iinc (pc := 139) (lv' := [(11, iv (z1758 + 1)), (12, iv z1829), (0, .ref a0), (1, iv p1), (3, .ref a3), (4, jv z1112), (6, jv z1760), (8, iv z1110), (9, jv z1759)]) dX5_tells_139 rfl (by decide) rfl ?_
                  refine sv_goto (pc := 142) (tgt := 56) dX5_tells_142 (by decide) ?_
                  refine mr_lvS (lv' := [(0, .ref a0), (1, iv p1), (3, .ref a3), (4, jv z1112), (6, jv z1760), (8, iv z1110), (9, jv z1759), (11, iv (z1758 + 1))]) (List.forall_mem_cons.mpr ⟨rfl, List.forall_mem_cons.mpr ⟨rfl, List.forall_mem_cons.mpr ⟨rfl, List.forall_mem_cons.mpr ⟨rfl, List.forall_mem_cons.mpr ⟨rfl, List.forall_mem_cons.mpr ⟨rfl, List.forall_mem_cons.mpr ⟨rfl, List.forall_mem_cons.mpr ⟨rfl, fun _ h => absurd h List.not_mem_nil⟩⟩⟩⟩⟩⟩⟩⟩) ?_
                  exact ih1769 z1760 z1759 (z1758 + 1) trivial h1762 h1763 (rW (c := 0) (d := 40) (rAdd (e := 1) (f := 40) h1819 (rR (x := 1)) rfl) rfl) (vc_X5_tells_18 (nS h1768) h1818 h1820 h1819)
                refine mr_lload (pc := 118) (z := z1760) dX5_tells_118 rfl ?_
                refine mr_lconst (pc := 120) (z := 1) dX5_tells_120 (by decide) ?_
                refine mr_iload (pc := 121) (z := z1758) dX5_tells_121 rfl ?_
                refine mr_lshl (pc := 123) dX5_tells_123 ?_
                refine mr_genL (r64i _) fun z1895 q1896 h1897 => ?_
                refine mr_lor (pc := 124) dX5_tells_124 ?_
                refine mr_genL (r64i _) fun z1898 q1899 h1900 => ?_
                refine mr_lstore (pc := 125) (lv' := [(6, jv z1898), (12, iv z1829), (0, .ref a0), (1, iv p1), (3, .ref a3), (4, jv z1112), (8, iv z1110), (9, jv z1759), (11, iv z1758)]) dX5_tells_125 (by decide) rfl ?_
                refine mr_lload (pc := 127) (z := z1759) dX5_tells_127 rfl ?_
                refine sv_aload_n (pc := 129) dX5_tells_129 rfl rfl ?_
                refine gf_X5_3 (pc := 130) dX5_tells_130 wF_X5_20 hA0 hT fun b1901 q1902 A1903 => ?_
                obtain ⟨n_1904, q1905⟩ : ∃ n : Int, (w.2.2.1 b1901 : Int) = n := ⟨_, rfl⟩
                have h1906 : 0 ≤ n_1904 ∧ n_1904 ≤ 40 := lnR (m := 40) q1905 A1903 rfl
                have h1907 : n_1904 = n_1773 := lnQ q1771 q1902 he1 q1774 q1905
                refine mr_iload (pc := 133) (z := z1758) dX5_tells_133 rfl ?_
                refine la_233 (pc := 135) dX5_tells_135 A1903 hT (lnC q1905 (vc_X5_tells_21 h1818 h1907 h1820 h1906 h1819)) fun z1908 q1909 h1910 => ?_
                refine mr_lor (pc := 136) dX5_tells_136 ?_
                refine mr_genL (r64i _) fun z1911 q1912 h1913 => ?_
                refine mr_lstore (pc := 137) (lv' := [(9, jv z1911), (6, jv z1898), (12, iv z1829), (0, .ref a0), (1, iv p1), (3, .ref a3), (4, jv z1112), (8, iv z1110), (11, iv z1758)]) dX5_tells_137 (by decide) rfl ?_
                refine mr_iinc (pc := 139) (lv' := [(11, iv (z1758 + 1)), (9, jv z1911), (6, jv z1898), (12, iv z1829), (0, .ref a0), (1, iv p1), (3, .ref a3), (4, jv z1112), (8, iv z1110)]) dX5_tells_139 rfl (by decide) rfl ?_
                refine sv_goto (pc := 142) (tgt := 56) dX5_tells_142 (by decide) ?_
                refine mr_lvS (lv' := [(0, .ref a0), (1, iv p1), (3, .ref a3), (4, jv z1112), (6, jv z1898), (8, iv z1110), (9, jv z1911), (11, iv (z1758 + 1))]) (List.forall_mem_cons.mpr ⟨rfl, List.forall_mem_cons.mpr ⟨rfl, List.forall_mem_cons.mpr ⟨rfl, List.forall_mem_cons.mpr ⟨rfl, List.forall_mem_cons.mpr ⟨rfl, List.forall_mem_cons.mpr ⟨rfl, List.forall_mem_cons.mpr ⟨rfl, List.forall_mem_cons.mpr ⟨rfl, fun _ h => absurd h List.not_mem_nil⟩⟩⟩⟩⟩⟩⟩⟩) ?_
                exact ih1769 z1898 z1911 (z1758 + 1) trivial h1900 h1913 (rW (c := 0) (d := 40) (rAdd (e := 1) (f := 40) h1819 (rR (x := 1)) rfl) rfl) (vc_X5_tells_22 (nS h1768) h1818 h1907 h1820 h1906 h1819)
              refine mr_icmp_eq (pc := 74) (tgt := 94) dX5_tells_74 (by decide) h1823 (r32 (rR (x := (-1))) rfl) (fun h1914 => ?_) (fun h1914 => ?_)
              · have h1915 : (-1) ≤ z1821 ∧ z1821 ≤ (-1) := (vc_X10_verdictOn_17 h1914 h1823)
                refine mr_iconst (pc := 94) (z := 1) dX5_tells_94 ?_
                refine sv_goto (pc := 95) (tgt := 99) dX5_tells_95 (by decide) ?_
                exact J1831 1 (rW (c := 0) (d := 1) (rR (x := 1)) rfl)
              refine sv_aload_n (pc := 77) dX5_tells_77 rfl rfl ?_
              refine gk_X5_2 (pc := 78) dX5_tells_78 wF_X5_17 hA0 q1771 ?_
              refine mr_iload (pc := 81) (z := z1758) dX5_tells_81 rfl ?_
              refine lk_232 (pc := 83) dX5_tells_83 A1772 (lnC q1774 (vc_X5_tells_16 h1818 h1820 h1819)) q1822 ?_
              refine sv_aload_n (pc := 84) dX5_tells_84 rfl rfl ?_
              refine gf_X7_0 (pc := 85) dX5_tells_85 wF_X5_35 hA3 hT fun A1916 => ?_
              refine mr_iload (pc := 88) (z := z1110) dX5_tells_88 rfl ?_
              refine la_201 (pc := 90) dX5_tells_90 A1916 hT (rIx (n := 20) h1247 rfl) fun z1917 q1918 h1919 => ?_
              refine mr_icmp_ne (pc := 91) (tgt := 98) dX5_tells_91 (by decide) h1823 h1919 (fun h1920 => ?_) (fun h1920 => ?_)
              · refine mr_iconst (pc := 98) (z := 0) dX5_tells_98 ?_
                exact J1831 0 (rW (c := 0) (d := 1) (rR (x := 0)) rfl)
              refine mr_iconst (pc := 94) (z := 1) dX5_tells_94 ?_
              refine sv_goto (pc := 95) (tgt := 99) dX5_tells_95 (by decide) ?_
              exact J1831 1 (rW (c := 0) (d := 1) (rR (x := 1)) rfl)
          refine mr_lvS (lv' := [(0, .ref a0), (1, iv p1), (3, .ref a3), (4, jv z1112), (6, jv 0), (8, iv z1110), (9, jv 0), (11, iv 0)]) (List.forall_mem_cons.mpr ⟨rfl, List.forall_mem_cons.mpr ⟨rfl, List.forall_mem_cons.mpr ⟨rfl, List.forall_mem_cons.mpr ⟨rfl, List.forall_mem_cons.mpr ⟨rfl, List.forall_mem_cons.mpr ⟨rfl, List.forall_mem_cons.mpr ⟨rfl, List.forall_mem_cons.mpr ⟨rfl, fun _ h => absurd h List.not_mem_nil⟩⟩⟩⟩⟩⟩⟩⟩) ?_
          exact L1761 42 0 0 0 trivial (rW (c := -9223372036854775808) (d := 9223372036854775807) (rR (x := 0)) rfl) (rW (c := -9223372036854775808) (d := 9223372036854775807) (rR (x := 0)) rfl) (rW (c := 0) (d := 40) (rR (x := 0)) rfl) vc_X12_waysMatch_14
      refine mr_lvS (lv' := [(0, .ref a0), (1, iv p1), (3, .ref a3), (4, jv z18), (6, jv 0), (8, iv 0)]) (List.forall_mem_cons.mpr ⟨rfl, List.forall_mem_cons.mpr ⟨rfl, List.forall_mem_cons.mpr ⟨rfl, List.forall_mem_cons.mpr ⟨rfl, List.forall_mem_cons.mpr ⟨rfl, List.forall_mem_cons.mpr ⟨rfl, fun _ h => absurd h List.not_mem_nil⟩⟩⟩⟩⟩⟩) ?_
      exact L1113 22 z18 0 0 trivial h20 (rW (c := -9223372036854775808) (d := 9223372036854775807) (rR (x := 0)) rfl) (rW (c := 0) (d := 20) (rR (x := 0)) rfl) vc_X12_tieOf_12
    refine mr_iconst (pc := 22) (z := 0) dX5_tells_22 ?_
    exact mr_zretP dX5_tells_23 rfl (rW (c := 0) (d := 1) (rR (x := 0)) rfl) (le_t rfl) (le_t rfl) ⟨(rW (c := 0) (d := 1) (rR (x := 0)) rfl), trivial⟩
  have h1921 : 0 ≤ z1 ∧ z1 ≤ 0 := (vc_X12_waysMatch_23 h4 h3)
  refine mr_iload_n (pc := 7) (z := p2) dX5_tells_7 rfl rfl ?_
  exact mr_zretP dX5_tells_8 rfl hp2 (le_t rfl) (le_t rfl) ⟨hp2, trivial⟩
theorem vc_X1_isSo_1 {n_4 p2 : Int} (h0 : p2 + 4 < n_4) (h1 : 0 ≤ n_4 ∧ n_4 ≤ 2000) (h2 : 0 ≤ p2 ∧ p2 ≤ 2000) : 0 ≤ (p2 + 2) ∧ (p2 + 2) < n_4 := by omega
theorem vc_X1_isSo_2 {n_4 p2 : Int} (h0 : p2 + 4 < n_4) (h1 : 0 ≤ n_4 ∧ n_4 ≤ 2000) (h2 : 0 ≤ p2 ∧ p2 ≤ 2000) : 0 ≤ (p2 + 3) ∧ (p2 + 3) < n_4 := by omega
theorem vc_X1_isSo_3 {n_4 p2 : Int} (h0 : p2 + 4 < n_4) (h1 : 0 ≤ n_4 ∧ n_4 ≤ 2000) (h2 : 0 ≤ p2 ∧ p2 ≤ 2000) : 0 ≤ (p2 + 4) ∧ (p2 + 4) < n_4 := by omega
theorem vc_X1_isSo_4 {n_4 p2 : Int} (h0 : p2 + 4 < n_4) (h1 : 0 ≤ n_4 ∧ n_4 ≤ 2000) (h2 : 0 ≤ p2 ∧ p2 ≤ 2000) : 0 ≤ p2 ∧ p2 < n_4 := by omega
theorem vc_X1_isSo_5 {z17 : Int} (h0 : z17 = 4) (h1 : (-2147483648) ≤ z17 ∧ z17 ≤ 2147483647) : 4 ≤ z17 ∧ z17 ≤ 4 := by omega
theorem vc_X1_isSo_6 {z11 z28 : Int} (h0 : z28 < z11) (h1 : (-2147483648) ≤ z11 ∧ z11 ≤ 2147483647) (h2 : 0 ≤ z28 ∧ z28 ≤ 32) : 1 ≤ z11 ∧ z11 ≤ 2147483647 := by omega
theorem vc_X1_isSo_7 {z11 z28 : Int} (h0 : z11 ≤ z28) (h1 : (-2147483648) ≤ z11 ∧ z11 ≤ 2147483647) (h2 : 0 ≤ z28 ∧ z28 ≤ 32) : (-2147483648) ≤ z11 ∧ z11 ≤ 32 := by omega
theorem vc_X1_isSo_8 {z11 z14 z28 : Int} (h0 : z14 < z28) (h1 : z11 ≤ z28) (h2 : (-2147483648) ≤ z11 ∧ z11 ≤ 32) (h3 : (-2147483648) ≤ z14 ∧ z14 ≤ 2147483647) (h4 : 0 ≤ z28 ∧ z28 ≤ 32) : (-2147483648) ≤ z14 ∧ z14 ≤ 31 := by omega
theorem vc_X1_isSo_9 {z11 z14 z28 : Int} (h0 : z28 ≤ z14) (h1 : z11 ≤ z28) (h2 : (-2147483648) ≤ z11 ∧ z11 ≤ 32) (h3 : (-2147483648) ≤ z14 ∧ z14 ≤ 2147483647) (h4 : 0 ≤ z28 ∧ z28 ≤ 32) : 0 ≤ z14 ∧ z14 ≤ 2147483647 := by omega
theorem vc_X1_isSo_10 {z17 : Int} (h0 : z17 = 5) (h1 : ¬ z17 = 4) (h2 : (-2147483648) ≤ z17 ∧ z17 ≤ 2147483647) : 5 ≤ z17 ∧ z17 ≤ 5 := by omega
theorem vc_X1_isSo_11 {z17 : Int} (h0 : z17 = 6) (h1 : ¬ z17 = 4) (h2 : ¬ z17 = 5) (h3 : (-2147483648) ≤ z17 ∧ z17 ≤ 2147483647) : 6 ≤ z17 ∧ z17 ≤ 6 := by omega
theorem vc_X1_isSo_13 {z17 : Int} (h0 : z17 = 7) (h1 : ¬ z17 = 4) (h2 : ¬ z17 = 5) (h3 : ¬ z17 = 6) (h4 : (-2147483648) ≤ z17 ∧ z17 ≤ 2147483647) : 7 ≤ z17 ∧ z17 ≤ 7 := by omega
theorem vc_X1_isSo_14 {z17 : Int} (h0 : z17 = 8) (h1 : ¬ z17 = 4) (h2 : ¬ z17 = 5) (h3 : ¬ z17 = 6) (h4 : ¬ z17 = 7) (h5 : (-2147483648) ≤ z17 ∧ z17 ≤ 2147483647) : 8 ≤ z17 ∧ z17 ≤ 8 := by omega
theorem vc_X1_isSo_15 {z17 : Int} (h0 : z17 = 9) (h1 : ¬ z17 = 4) (h2 : ¬ z17 = 5) (h3 : ¬ z17 = 6) (h4 : ¬ z17 = 7) (h5 : ¬ z17 = 8) (h6 : (-2147483648) ≤ z17 ∧ z17 ≤ 2147483647) : 9 ≤ z17 ∧ z17 ≤ 9 := by omega
theorem vc_X1_isSo_16 {z17 : Int} (h0 : z17 = 10) (h1 : ¬ z17 = 4) (h2 : ¬ z17 = 5) (h3 : ¬ z17 = 6) (h4 : ¬ z17 = 7) (h5 : ¬ z17 = 8) (h6 : ¬ z17 = 9) (h7 : (-2147483648) ≤ z17 ∧ z17 ≤ 2147483647) : 10 ≤ z17 ∧ z17 ≤ 10 := by omega
theorem vc_X1_isSo_18 {z11 z129 z132 z8 : Int} (h0 : (z132 + 1) = z8) (h1 : (z129 < z11 → z132 = -1)) (h2 : (z129 = z11 → z132 = 0)) (h3 : (z11 < z129 → z132 = 1)) (h4 : (-2147483648) ≤ z11 ∧ z11 ≤ 2147483647) (h5 : 0 ≤ z129 ∧ z129 ≤ 20) (h6 : (-1) ≤ z132 ∧ z132 ≤ 1) (h7 : (-2147483648) ≤ z8 ∧ z8 ≤ 2147483647) : 0 ≤ z8 ∧ z8 ≤ 2 := by omega
theorem vc_X1_isSo_19 {z17 : Int} (h0 : z17 = 12) (h1 : ¬ z17 = 5) (h2 : ¬ z17 = 6) (h3 : ¬ z17 = 7) (h4 : ¬ z17 = 8) (h5 : ¬ z17 = 9) (h6 : ¬ z17 = 10) (h7 : ¬ z17 = 11) (h8 : (-2147483648) ≤ z17 ∧ z17 ≤ 2147483647) : 12 ≤ z17 ∧ z17 ≤ 12 := by omega
theorem vc_X1_isSo_20 {z11 z142 z145 z8 : Int} (h0 : (z145 + 1) = z8) (h1 : (z142 < z11 → z145 = -1)) (h2 : (z142 = z11 → z145 = 0)) (h3 : (z11 < z142 → z145 = 1)) (h4 : (-2147483648) ≤ z11 ∧ z11 ≤ 2147483647) (h5 : (-2147483648) ≤ z142 ∧ z142 ≤ 2147483647) (h6 : (-1) ≤ z145 ∧ z145 ≤ 1) (h7 : (-2147483648) ≤ z8 ∧ z8 ≤ 2147483647) : 0 ≤ z8 ∧ z8 ≤ 2 := by omega
theorem vc_X1_isSo_21 {z17 : Int} (h0 : z17 = 13) (h1 : ¬ z17 = 6) (h2 : ¬ z17 = 7) (h3 : ¬ z17 = 8) (h4 : ¬ z17 = 9) (h5 : ¬ z17 = 10) (h6 : ¬ z17 = 11) (h7 : ¬ z17 = 12) (h8 : (-2147483648) ≤ z17 ∧ z17 ≤ 2147483647) : 13 ≤ z17 ∧ z17 ≤ 13 := by omega
theorem vc_X1_isSo_23 {z17 : Int} (h0 : z17 = 14) (h1 : ¬ z17 = 7) (h2 : ¬ z17 = 8) (h3 : ¬ z17 = 9) (h4 : ¬ z17 = 10) (h5 : ¬ z17 = 11) (h6 : ¬ z17 = 12) (h7 : ¬ z17 = 13) (h8 : (-2147483648) ≤ z17 ∧ z17 ≤ 2147483647) : 14 ≤ z17 ∧ z17 ≤ 14 := by omega
theorem vc_X1_isSo_24 {z17 : Int} (h0 : z17 = 15) (h1 : ¬ z17 = 8) (h2 : ¬ z17 = 9) (h3 : ¬ z17 = 10) (h4 : ¬ z17 = 11) (h5 : ¬ z17 = 12) (h6 : ¬ z17 = 13) (h7 : ¬ z17 = 14) (h8 : (-2147483648) ≤ z17 ∧ z17 ≤ 2147483647) : 15 ≤ z17 ∧ z17 ≤ 15 := by omega
theorem vc_X1_isSo_25 {z202 z8 : Int} (h0 : z202 = z8) (h1 : 0 ≤ z202 ∧ z202 ≤ 2) (h2 : (-2147483648) ≤ z8 ∧ z8 ≤ 2147483647) : 0 ≤ z8 ∧ z8 ≤ 2 := by omega
theorem vc_X1_isSo_28 {z17 : Int} (h0 : ¬ z17 = 4) (h1 : ¬ z17 = 5) (h2 : ¬ z17 = 6) (h3 : ¬ z17 = 7) (h4 : ¬ z17 = 8) (h5 : ¬ z17 = 9) (h6 : ¬ z17 = 10) (h7 : ¬ z17 = 11) (h8 : ¬ z17 = 12) (h9 : ¬ z17 = 13) (h10 : ¬ z17 = 14) (h11 : ¬ z17 = 15) (h12 : (-2147483648) ≤ z17 ∧ z17 ≤ 2147483647) : z17 < 4 ∨ 15 < z17 := by omega
set_option maxRecDepth 4000 in
set_option maxHeartbeats 4000000 in
theorem c_X1_isSo {l : Launch} {D : va_G} {c : Nat → ClassId} {H0 : Heap} {sa : Nat × Nat × (Nat → Int32)} {w : mW} {μ : mM} (hw : mWF w) (hT : mT w μ) {a1 : Nat} (hA1 : mAt w a1 230) {p2 : Int} (hp2 : 0 ≤ p2 ∧ p2 ≤ 2000) (hIRT : RT μ) (hln : p2 + 4 < (w.2.2.1 (μ a1 1).toNat : Int)) (he1 : w.2.2.1 (μ a1 2).toNat = w.2.2.1 (μ a1 3).toNat) (he2 : w.2.2.1 (μ a1 4).toNat = w.2.2.1 (μ a1 5).toNat) : sC (gG l D c H0 sa) mX1_isSo 2 0 0 [.ref 21, .ref a1, iv p2] (mk w μ) (qP w μ (fun z => (0 ≤ z ∧ z ≤ 1) ∧ True)) := by
  refine sC.of rfl (by decide) (le_t rfl) ?_
  refine mr_lvE (lv' := [(0, .ref 21), (1, .ref a1), (2, iv p2)]) rfl ?_
  refine sv_aload_n (pc := 0) dX1_isSo_0 rfl rfl ?_
  refine gf_X5_1 (pc := 1) dX1_isSo_1 wF_X1_60 hA1 hT fun b1 q2 A3 => ?_
  obtain ⟨n_4, q5⟩ : ∃ n : Int, (w.2.2.1 b1 : Int) = n := ⟨_, rfl⟩
  have h6 : 0 ≤ n_4 ∧ n_4 ≤ 2000 := lnR (m := 2000) q5 A3 rfl
  have h7 : p2 + 4 < n_4 := lnLt q5 (lnE q2 hln)
  refine mr_iload_n (pc := 4) (z := p2) dX1_isSo_4 rfl rfl ?_
  refine mr_iconst (pc := 5) (z := 2) dX1_isSo_5 ?_
  refine mr_iadd (pc := 6) (x := p2) (y := 2) dX1_isSo_6 ?_
  refine la_231 (pc := 7) dX1_isSo_7 A3 hT (lnC q5 (vc_X1_isSo_1 h7 h6 hp2)) fun z8 q9 h10 => ?_
  refine mr_istore_n (pc := 8) (lv' := [(3, iv z8), (0, .ref 21), (1, .ref a1), (2, iv p2)]) dX1_isSo_8 rfl (by decide) rfl ?_
  refine sv_aload_n (pc := 9) dX1_isSo_9 rfl rfl ?_
  refine gk_X5_1 (pc := 10) dX1_isSo_10 wF_X1_60 hA1 q2 ?_
  refine mr_iload_n (pc := 13) (z := p2) dX1_isSo_13 rfl rfl ?_
  refine mr_iconst (pc := 14) (z := 3) dX1_isSo_14 ?_
  refine mr_iadd (pc := 15) (x := p2) (y := 3) dX1_isSo_15 ?_
  refine la_231 (pc := 16) dX1_isSo_16 A3 hT (lnC q5 (vc_X1_isSo_2 h7 h6 hp2)) fun z11 q12 h13 => ?_
  refine mr_istore (pc := 17) (lv' := [(4, iv z11), (3, iv z8), (0, .ref 21), (1, .ref a1), (2, iv p2)]) dX1_isSo_17 (by decide) rfl ?_
  refine sv_aload_n (pc := 19) dX1_isSo_19 rfl rfl ?_
  refine gk_X5_1 (pc := 20) dX1_isSo_20 wF_X1_60 hA1 q2 ?_
  refine mr_iload_n (pc := 23) (z := p2) dX1_isSo_23 rfl rfl ?_
  refine mr_iconst (pc := 24) (z := 4) dX1_isSo_24 ?_
  refine mr_iadd (pc := 25) (x := p2) (y := 4) dX1_isSo_25 ?_
  refine la_231 (pc := 26) dX1_isSo_26 A3 hT (lnC q5 (vc_X1_isSo_3 h7 h6 hp2)) fun z14 q15 h16 => ?_
  refine mr_istore (pc := 27) (lv' := [(5, iv z14), (4, iv z11), (3, iv z8), (0, .ref 21), (1, .ref a1), (2, iv p2)]) dX1_isSo_27 (by decide) rfl ?_
  refine sv_aload_n (pc := 29) dX1_isSo_29 rfl rfl ?_
  refine gk_X5_1 (pc := 30) dX1_isSo_30 wF_X1_60 hA1 q2 ?_
  refine mr_iload_n (pc := 33) (z := p2) dX1_isSo_33 rfl rfl ?_
  refine la_231 (pc := 34) dX1_isSo_34 A3 hT (lnC q5 (vc_X1_isSo_4 h7 h6 hp2)) fun z17 q18 h19 => ?_
  by_cases h20 : z17 = 4
  · refine mr_tableIn (pc := 35) (v := 4) (tgt := 96) dX1_isSo_35 h20 rfl rfl (by decide) ?_
    have h21 : 4 ≤ z17 ∧ z17 ≤ 4 := (vc_X1_isSo_5 h20 h19)
    refine sv_aload_n (pc := 96) dX1_isSo_96 rfl rfl ?_
    refine gf_X1_0 (pc := 97) dX1_isSo_97 wF_X1_9 (A_21 hw) hT ?_
    refine gf_X10_1 (pc := 100) dX1_isSo_100 wF_X1_72 (A_6 hw) hT ?_
    refine sv_aload_n (pc := 103) dX1_isSo_103 rfl rfl ?_
    refine gf_X1_2 (pc := 104) dX1_isSo_104 wF_X1_25 (A_21 hw) hT hIRT fun b22 q23 A24 => ?_
    refine gf_X7_3 (pc := 107) dX1_isSo_107 wF_X1_77 A24 hT fun z25 q26 h27 => ?_
    refine la_8 (pc := 110) dX1_isSo_110 (A_8 hw) hT (rIx (n := 10) h27 rfl) fun z28 q29 h30 => ?_
    refine mr_istore (pc := 111) (lv' := [(6, iv z28), (5, iv z14), (4, iv z11), (3, iv z8), (0, .ref 21), (1, .ref a1), (2, iv p2)]) dX1_isSo_111 (by decide) rfl ?_
    refine mr_iload (pc := 113) (z := z28) dX1_isSo_113 rfl ?_
    refine mr_iload (pc := 115) (z := z11) dX1_isSo_115 rfl ?_
    refine mr_icmp_lt (pc := 117) (tgt := 156) dX1_isSo_117 (by decide) (r32 h30 rfl) h13 (fun h46 => ?_) (fun h46 => ?_)
    · have h47 : 1 ≤ z11 ∧ z11 ≤ 2147483647 := (vc_X1_isSo_6 h46 h13 h30)
      refine mr_iconst (pc := 156) (z := 0) dX1_isSo_156 ?_
      exact mr_zretP dX1_isSo_157 rfl (rW (c := 0) (d := 1) (rR (x := 0)) rfl) (le_t rfl) (le_t rfl) ⟨(rW (c := 0) (d := 1) (rR (x := 0)) rfl), trivial⟩
    have h48 : (-2147483648) ≤ z11 ∧ z11 ≤ 32 := (vc_X1_isSo_7 h46 h13 h30)
    refine mr_iload (pc := 120) (z := z28) dX1_isSo_120 rfl ?_
    refine mr_iload (pc := 122) (z := z14) dX1_isSo_122 rfl ?_
    refine mr_icmp_gt (pc := 124) (tgt := 156) dX1_isSo_124 (by decide) (r32 h30 rfl) h16 (fun h62 => ?_) (fun h62 => ?_)
    · have h63 : (-2147483648) ≤ z14 ∧ z14 ≤ 31 := (vc_X1_isSo_8 h62 h46 h48 h16 h30)
      refine mr_iconst (pc := 156) (z := 0) dX1_isSo_156 ?_
      exact mr_zretP dX1_isSo_157 rfl (rW (c := 0) (d := 1) (rR (x := 0)) rfl) (le_t rfl) (le_t rfl) ⟨(rW (c := 0) (d := 1) (rR (x := 0)) rfl), trivial⟩
    have h64 : 0 ≤ z14 ∧ z14 ≤ 2147483647 := (vc_X1_isSo_9 h62 h46 h48 h16 h30)
    refine sv_aload_n (pc := 127) dX1_isSo_127 rfl rfl ?_
    refine gf_X1_0 (pc := 128) dX1_isSo_128 wF_X1_9 (A_21 hw) hT ?_
    refine gf_X10_0 (pc := 131) dX1_isSo_131 wF_X1_82 (A_6 hw) hT ?_
    refine sv_aload_n (pc := 134) dX1_isSo_134 rfl rfl ?_
    refine gk_X1_2 (pc := 135) dX1_isSo_135 wF_X1_25 (A_21 hw) q23 ?_
    refine gk_X7_3 (pc := 138) dX1_isSo_138 wF_X1_77 A24 q26 ?_
    refine la_7 (pc := 141) dX1_isSo_141 (A_7 hw) hT (rIx (n := 10) h27 rfl) fun z65 q66 h67 => ?_
    refine mr_iload (pc := 142) (z := z11) dX1_isSo_142 rfl ?_
    refine mr_cSP (pc := 144) (c_X10_maskOf hw hT (rW (c := (-2147483648)) (d := 2147483647) h48 rfl)) (gOk _ _ _ _ _) dX1_isSo_144 (tX10_maskOf _ _ _ _ _) wS_X10_maskOf wM_X1_85 ⟨le_t rfl, le_t rfl⟩ ⟨le_t rfl, le_t rfl⟩ rfl (le_t rfl) fun z72 h71 => ?_
    refine mr_iand (pc := 147) (x := z65) (y := z72) dX1_isSo_147 ?_
    refine mr_gen (P := fun z => (-2147483648) ≤ z ∧ z ≤ 2147483647) (r32i _) fun z73 q74 h75 => ?_
    refine mr_iload_n (pc := 148) (z := z8) dX1_isSo_148 rfl rfl ?_
    refine mr_icmp_ne (pc := 149) (tgt := 156) dX1_isSo_149 (by decide) h75 h10 (fun h76 => ?_) (fun h76 => ?_)
    · refine mr_iconst (pc := 156) (z := 0) dX1_isSo_156 ?_
      exact mr_zretP dX1_isSo_157 rfl (rW (c := 0) (d := 1) (rR (x := 0)) rfl) (le_t rfl) (le_t rfl) ⟨(rW (c := 0) (d := 1) (rR (x := 0)) rfl), trivial⟩
    refine mr_iconst (pc := 152) (z := 1) dX1_isSo_152 ?_
    refine sv_goto (pc := 153) (tgt := 157) dX1_isSo_153 (by decide) ?_
    exact mr_zretP dX1_isSo_157 rfl (rW (c := 0) (d := 1) (rR (x := 1)) rfl) (le_t rfl) (le_t rfl) ⟨(rW (c := 0) (d := 1) (rR (x := 1)) rfl), trivial⟩
  by_cases h77 : z17 = 5
  · refine mr_tableIn (pc := 35) (v := 5) (tgt := 381) dX1_isSo_35 h77 rfl rfl (by decide) ?_
    have h78 : 5 ≤ z17 ∧ z17 ≤ 5 := (vc_X1_isSo_10 h77 h20 h19)
    refine mr_iconst (pc := 381) (z := 0) dX1_isSo_381 ?_
    exact mr_zretP dX1_isSo_382 rfl (rW (c := 0) (d := 1) (rR (x := 0)) rfl) (le_t rfl) (le_t rfl) ⟨(rW (c := 0) (d := 1) (rR (x := 0)) rfl), trivial⟩
  by_cases h79 : z17 = 6
  · refine mr_tableIn (pc := 35) (v := 6) (tgt := 158) dX1_isSo_35 h79 rfl rfl (by decide) ?_
    have h80 : 6 ≤ z17 ∧ z17 ≤ 6 := (vc_X1_isSo_11 h79 h20 h77 h19)
    refine sv_aload_n (pc := 158) dX1_isSo_158 rfl rfl ?_
    refine mr_iload_n (pc := 159) (z := z8) dX1_isSo_159 rfl rfl ?_
    refine mr_iload (pc := 160) (z := z11) dX1_isSo_160 rfl ?_
    refine mr_iconst (pc := 162) (z := 1) dX1_isSo_162 ?_
    refine mr_icmp_ne (pc := 163) (tgt := 170) dX1_isSo_163 (by decide) h13 (r32 (rR (x := 1)) rfl) (fun h82 => ?_) (fun h82 => ?_)
    · refine mr_iconst (pc := 170) (z := 0) dX1_isSo_170 ?_
      refine sv_aload_n (pc := 171) dX1_isSo_171 rfl rfl ?_
      refine gf_X1_2 (pc := 172) dX1_isSo_172 wF_X1_25 (A_21 hw) hT hIRT fun b83 q84 A85 => ?_
      refine mr_cVP (pc := 175) (c_X5_tells hw hT hA1 h10 (rW (c := 0) (d := 1) (rR (x := 0)) rfl) A85 he1 he2) (gOk _ _ _ _ _) dX1_isSo_175 (tX5_tells _ _ _ _ _) ⟨wV_X5_tells, wL_X5_tells⟩ wM_X1_88 (gCX5 _ _ _ _ _) rfl hA1 rfl ⟨le_t rfl, le_t rfl⟩ ⟨le_t rfl, le_t rfl⟩ rfl (le_t rfl) fun z90 h89 => ?_
      exact mr_zretP dX1_isSo_178 rfl h89.1 (le_t rfl) (le_t rfl) ⟨h89.1, trivial⟩
    have h91 : 1 ≤ z11 ∧ z11 ≤ 1 := (vc_X0_compareAt_1 h82 h13)
    refine mr_iconst (pc := 166) (z := 1) dX1_isSo_166 ?_
    refine sv_goto (pc := 167) (tgt := 171) dX1_isSo_167 (by decide) ?_
    refine sv_aload_n (pc := 171) dX1_isSo_171 rfl rfl ?_
    refine gf_X1_2 (pc := 172) dX1_isSo_172 wF_X1_25 (A_21 hw) hT hIRT fun b92 q93 A94 => ?_
    refine mr_cVP (pc := 175) (c_X5_tells hw hT hA1 h10 (rW (c := 0) (d := 1) (rR (x := 1)) rfl) A94 he1 he2) (gOk _ _ _ _ _) dX1_isSo_175 (tX5_tells _ _ _ _ _) ⟨wV_X5_tells, wL_X5_tells⟩ wM_X1_88 (gCX5 _ _ _ _ _) rfl hA1 rfl ⟨le_t rfl, le_t rfl⟩ ⟨le_t rfl, le_t rfl⟩ rfl (le_t rfl) fun z99 h98 => ?_
    exact mr_zretP dX1_isSo_178 rfl h98.1 (le_t rfl) (le_t rfl) ⟨h98.1, trivial⟩
  by_cases h100 : z17 = 7
  · refine mr_tableIn (pc := 35) (v := 7) (tgt := 381) dX1_isSo_35 h100 rfl rfl (by decide) ?_
    have h101 : 7 ≤ z17 ∧ z17 ≤ 7 := (vc_X1_isSo_13 h100 h20 h77 h79 h19)
    refine mr_iconst (pc := 381) (z := 0) dX1_isSo_381 ?_
    exact mr_zretP dX1_isSo_382 rfl (rW (c := 0) (d := 1) (rR (x := 0)) rfl) (le_t rfl) (le_t rfl) ⟨(rW (c := 0) (d := 1) (rR (x := 0)) rfl), trivial⟩
  by_cases h102 : z17 = 8
  · refine mr_tableIn (pc := 35) (v := 8) (tgt := 179) dX1_isSo_35 h102 rfl rfl (by decide) ?_
    have h103 : 8 ≤ z17 ∧ z17 ≤ 8 := (vc_X1_isSo_14 h102 h20 h77 h79 h100 h19)
    refine sv_aload_n (pc := 179) dX1_isSo_179 rfl rfl ?_
    refine gf_X1_2 (pc := 180) dX1_isSo_180 wF_X1_25 (A_21 hw) hT hIRT fun b104 q105 A106 => ?_
    refine mr_iload_n (pc := 183) (z := z8) dX1_isSo_183 rfl rfl ?_
    refine mr_cVP (pc := 184) (c_X7_hasMark hw hT A106 h10) (gOk _ _ _ _ _) dX1_isSo_184 (tX7_hasMark _ _ _ _ _) ⟨wV_X7_hasMark, wL_X7_hasMark⟩ wM_X1_92 (gCX7 _ _ _ _ _) rfl A106 rfl ⟨le_t rfl, le_t rfl⟩ ⟨le_t rfl, le_t rfl⟩ rfl (le_t rfl) fun z111 h110 => ?_
    exact mr_zretP dX1_isSo_187 rfl h110.1 (le_t rfl) (le_t rfl) ⟨h110.1, trivial⟩
  by_cases h112 : z17 = 9
  · refine mr_tableIn (pc := 35) (v := 9) (tgt := 188) dX1_isSo_35 h112 rfl rfl (by decide) ?_
    have h113 : 9 ≤ z17 ∧ z17 ≤ 9 := (vc_X1_isSo_15 h112 h20 h77 h79 h100 h102 h19)
    refine sv_aload_n (pc := 188) dX1_isSo_188 rfl rfl ?_
    refine gf_X1_4 (pc := 189) dX1_isSo_189 wF_X1_38 (A_21 hw) hT fun z114 q115 h116 => ?_
    refine mr_iload_n (pc := 192) (z := z8) dX1_isSo_192 rfl rfl ?_
    refine mr_icmp_ne (pc := 193) (tgt := 200) dX1_isSo_193 (by decide) h116 h10 (fun h117 => ?_) (fun h117 => ?_)
    · refine mr_iconst (pc := 200) (z := 0) dX1_isSo_200 ?_
      exact mr_zretP dX1_isSo_201 rfl (rW (c := 0) (d := 1) (rR (x := 0)) rfl) (le_t rfl) (le_t rfl) ⟨(rW (c := 0) (d := 1) (rR (x := 0)) rfl), trivial⟩
    refine mr_iconst (pc := 196) (z := 1) dX1_isSo_196 ?_
    refine sv_goto (pc := 197) (tgt := 201) dX1_isSo_197 (by decide) ?_
    exact mr_zretP dX1_isSo_201 rfl (rW (c := 0) (d := 1) (rR (x := 1)) rfl) (le_t rfl) (le_t rfl) ⟨(rW (c := 0) (d := 1) (rR (x := 1)) rfl), trivial⟩
  by_cases h118 : z17 = 10
  · refine mr_tableIn (pc := 35) (v := 10) (tgt := 202) dX1_isSo_35 h118 rfl rfl (by decide) ?_
    have h119 : 10 ≤ z17 ∧ z17 ≤ 10 := (vc_X1_isSo_16 h118 h20 h77 h79 h100 h102 h112 h19)
    refine sv_aload_n (pc := 202) dX1_isSo_202 rfl rfl ?_
    refine gf_X1_5 (pc := 203) dX1_isSo_203 wF_X1_44 (A_21 hw) hT fun z120 q121 h122 => ?_
    refine mr_iload_n (pc := 206) (z := z8) dX1_isSo_206 rfl rfl ?_
    refine mr_icmp_ne (pc := 207) (tgt := 214) dX1_isSo_207 (by decide) h122 h10 (fun h123 => ?_) (fun h123 => ?_)
    · refine mr_iconst (pc := 214) (z := 0) dX1_isSo_214 ?_
      exact mr_zretP dX1_isSo_215 rfl (rW (c := 0) (d := 1) (rR (x := 0)) rfl) (le_t rfl) (le_t rfl) ⟨(rW (c := 0) (d := 1) (rR (x := 0)) rfl), trivial⟩
    refine mr_iconst (pc := 210) (z := 1) dX1_isSo_210 ?_
    refine sv_goto (pc := 211) (tgt := 215) dX1_isSo_211 (by decide) ?_
    exact mr_zretP dX1_isSo_215 rfl (rW (c := 0) (d := 1) (rR (x := 1)) rfl) (le_t rfl) (le_t rfl) ⟨(rW (c := 0) (d := 1) (rR (x := 1)) rfl), trivial⟩
  by_cases h124 : z17 = 11
  · refine mr_tableIn (pc := 35) (v := 11) (tgt := 216) dX1_isSo_35 h124 rfl rfl (by decide) ?_
    have h125 : 11 ≤ z17 ∧ z17 ≤ 11 := (vc_X12_count_14 h124 h20 h77 h79 h100 h102 h112 h118 h19)
    refine sv_aload_n (pc := 216) dX1_isSo_216 rfl rfl ?_
    refine gf_X1_2 (pc := 217) dX1_isSo_217 wF_X1_25 (A_21 hw) hT hIRT fun b126 q127 A128 => ?_
    refine gf_X7_7 (pc := 220) dX1_isSo_220 wF_X1_96 A128 hT fun z129 q130 h131 => ?_
    refine mr_iload (pc := 223) (z := z11) dX1_isSo_223 rfl ?_
    refine mr_cSP (pc := 225) (c_J_cmp (r32 h131 rfl) h13) (gOk _ _ _ _ _) dX1_isSo_225 (tJ_cmp _ _ _ _ _) wS_J_cmp wM_X1_99 ⟨le_t rfl, le_t rfl⟩ ⟨le_t rfl, le_t rfl⟩ rfl (le_t rfl) fun z132 h133 => ?_
    refine mr_iconst (pc := 228) (z := 1) dX1_isSo_228 ?_
    refine mr_iadd (pc := 229) (x := z132) (y := 1) dX1_isSo_229 ?_
    refine mr_iload_n (pc := 230) (z := z8) dX1_isSo_230 rfl rfl ?_
    refine mr_icmp_ne (pc := 231) (tgt := 238) dX1_isSo_231 (by decide) (r32 (rAdd (e := 0) (f := 2) h133.1 (rR (x := 1)) rfl) rfl) h10 (fun h135 => ?_) (fun h135 => ?_)
    · refine mr_iconst (pc := 238) (z := 0) dX1_isSo_238 ?_
      exact mr_zretP dX1_isSo_239 rfl (rW (c := 0) (d := 1) (rR (x := 0)) rfl) (le_t rfl) (le_t rfl) ⟨(rW (c := 0) (d := 1) (rR (x := 0)) rfl), trivial⟩
    have h136 : 0 ≤ z8 ∧ z8 ≤ 2 := (vc_X1_isSo_18 h135 h133.2.1 h133.2.2.1 h133.2.2.2 h13 h131 h133.1 h10)
    refine mr_iconst (pc := 234) (z := 1) dX1_isSo_234 ?_
    refine sv_goto (pc := 235) (tgt := 239) dX1_isSo_235 (by decide) ?_
    exact mr_zretP dX1_isSo_239 rfl (rW (c := 0) (d := 1) (rR (x := 1)) rfl) (le_t rfl) (le_t rfl) ⟨(rW (c := 0) (d := 1) (rR (x := 1)) rfl), trivial⟩
  by_cases h137 : z17 = 12
  · refine mr_tableIn (pc := 35) (v := 12) (tgt := 240) dX1_isSo_35 h137 rfl rfl (by decide) ?_
    have h138 : 12 ≤ z17 ∧ z17 ≤ 12 := (vc_X1_isSo_19 h137 h77 h79 h100 h102 h112 h118 h124 h19)
    refine sv_aload_n (pc := 240) dX1_isSo_240 rfl rfl ?_
    refine gf_X1_2 (pc := 241) dX1_isSo_241 wF_X1_25 (A_21 hw) hT hIRT fun b139 q140 A141 => ?_
    refine gf_X7_4 (pc := 244) dX1_isSo_244 wF_X1_105 A141 hT fun z142 q143 h144 => ?_
    refine mr_iload (pc := 247) (z := z11) dX1_isSo_247 rfl ?_
    refine mr_cSP (pc := 249) (c_J_cmp h144 h13) (gOk _ _ _ _ _) dX1_isSo_249 (tJ_cmp _ _ _ _ _) wS_J_cmp wM_X1_99 ⟨le_t rfl, le_t rfl⟩ ⟨le_t rfl, le_t rfl⟩ rfl (le_t rfl) fun z145 h146 => ?_
    refine mr_iconst (pc := 252) (z := 1) dX1_isSo_252 ?_
    refine mr_iadd (pc := 253) (x := z145) (y := 1) dX1_isSo_253 ?_
    refine mr_iload_n (pc := 254) (z := z8) dX1_isSo_254 rfl rfl ?_
    refine mr_icmp_ne (pc := 255) (tgt := 262) dX1_isSo_255 (by decide) (r32 (rAdd (e := 0) (f := 2) h146.1 (rR (x := 1)) rfl) rfl) h10 (fun h148 => ?_) (fun h148 => ?_)
    · refine mr_iconst (pc := 262) (z := 0) dX1_isSo_262 ?_
      exact mr_zretP dX1_isSo_263 rfl (rW (c := 0) (d := 1) (rR (x := 0)) rfl) (le_t rfl) (le_t rfl) ⟨(rW (c := 0) (d := 1) (rR (x := 0)) rfl), trivial⟩
    have h149 : 0 ≤ z8 ∧ z8 ≤ 2 := (vc_X1_isSo_20 h148 h146.2.1 h146.2.2.1 h146.2.2.2 h13 h144 h146.1 h10)
    refine mr_iconst (pc := 258) (z := 1) dX1_isSo_258 ?_
    refine sv_goto (pc := 259) (tgt := 263) dX1_isSo_259 (by decide) ?_
    exact mr_zretP dX1_isSo_263 rfl (rW (c := 0) (d := 1) (rR (x := 1)) rfl) (le_t rfl) (le_t rfl) ⟨(rW (c := 0) (d := 1) (rR (x := 1)) rfl), trivial⟩
  by_cases h150 : z17 = 13
  · refine mr_tableIn (pc := 35) (v := 13) (tgt := 264) dX1_isSo_35 h150 rfl rfl (by decide) ?_
    have h151 : 13 ≤ z17 ∧ z17 ≤ 13 := (vc_X1_isSo_21 h150 h79 h100 h102 h112 h118 h124 h137 h19)
    refine sv_aload_n (pc := 264) dX1_isSo_264 rfl rfl ?_
    refine gf_X1_2 (pc := 265) dX1_isSo_265 wF_X1_25 (A_21 hw) hT hIRT fun b152 q153 A154 => ?_
    refine gf_X7_6 (pc := 268) dX1_isSo_268 wF_X1_108 A154 hT fun z155 q156 h157 => ?_
    refine mr_iload (pc := 271) (z := z11) dX1_isSo_271 rfl ?_
    refine mr_cSP (pc := 273) (c_J_cmp h157 h13) (gOk _ _ _ _ _) dX1_isSo_273 (tJ_cmp _ _ _ _ _) wS_J_cmp wM_X1_99 ⟨le_t rfl, le_t rfl⟩ ⟨le_t rfl, le_t rfl⟩ rfl (le_t rfl) fun z158 h159 => ?_
    refine mr_iconst (pc := 276) (z := 1) dX1_isSo_276 ?_
    refine mr_iadd (pc := 277) (x := z158) (y := 1) dX1_isSo_277 ?_
    refine mr_iload_n (pc := 278) (z := z8) dX1_isSo_278 rfl rfl ?_
    refine mr_icmp_ne (pc := 279) (tgt := 286) dX1_isSo_279 (by decide) (r32 (rAdd (e := 0) (f := 2) h159.1 (rR (x := 1)) rfl) rfl) h10 (fun h161 => ?_) (fun h161 => ?_)
    · refine mr_iconst (pc := 286) (z := 0) dX1_isSo_286 ?_
      exact mr_zretP dX1_isSo_287 rfl (rW (c := 0) (d := 1) (rR (x := 0)) rfl) (le_t rfl) (le_t rfl) ⟨(rW (c := 0) (d := 1) (rR (x := 0)) rfl), trivial⟩
    have h162 : 0 ≤ z8 ∧ z8 ≤ 2 := (vc_X1_isSo_20 h161 h159.2.1 h159.2.2.1 h159.2.2.2 h13 h157 h159.1 h10)
    refine mr_iconst (pc := 282) (z := 1) dX1_isSo_282 ?_
    refine sv_goto (pc := 283) (tgt := 287) dX1_isSo_283 (by decide) ?_
    exact mr_zretP dX1_isSo_287 rfl (rW (c := 0) (d := 1) (rR (x := 1)) rfl) (le_t rfl) (le_t rfl) ⟨(rW (c := 0) (d := 1) (rR (x := 1)) rfl), trivial⟩
  by_cases h163 : z17 = 14
  · refine mr_tableIn (pc := 35) (v := 14) (tgt := 288) dX1_isSo_35 h163 rfl rfl (by decide) ?_
    have h164 : 14 ≤ z17 ∧ z17 ≤ 14 := (vc_X1_isSo_23 h163 h100 h102 h112 h118 h124 h137 h150 h19)
    refine sv_aload_n (pc := 288) dX1_isSo_288 rfl rfl ?_
    refine gf_X1_2 (pc := 289) dX1_isSo_289 wF_X1_25 (A_21 hw) hT hIRT fun b165 q166 A167 => ?_
    refine gf_X7_5 (pc := 292) dX1_isSo_292 wF_X1_111 A167 hT fun z168 q169 h170 => ?_
    refine mr_iload_n (pc := 295) (z := z8) dX1_isSo_295 rfl rfl ?_
    refine mr_icmp_ne (pc := 296) (tgt := 303) dX1_isSo_296 (by decide) h170 h10 (fun h171 => ?_) (fun h171 => ?_)
    · refine mr_iconst (pc := 303) (z := 0) dX1_isSo_303 ?_
      exact mr_zretP dX1_isSo_304 rfl (rW (c := 0) (d := 1) (rR (x := 0)) rfl) (le_t rfl) (le_t rfl) ⟨(rW (c := 0) (d := 1) (rR (x := 0)) rfl), trivial⟩
    refine mr_iconst (pc := 299) (z := 1) dX1_isSo_299 ?_
    refine sv_goto (pc := 300) (tgt := 304) dX1_isSo_300 (by decide) ?_
    exact mr_zretP dX1_isSo_304 rfl (rW (c := 0) (d := 1) (rR (x := 1)) rfl) (le_t rfl) (le_t rfl) ⟨(rW (c := 0) (d := 1) (rR (x := 1)) rfl), trivial⟩
  by_cases h172 : z17 = 15
  · refine mr_tableIn (pc := 35) (v := 15) (tgt := 305) dX1_isSo_35 h172 rfl rfl (by decide) ?_
    have h173 : 15 ≤ z17 ∧ z17 ≤ 15 := (vc_X1_isSo_24 h172 h102 h112 h118 h124 h137 h150 h163 h19)
    refine sv_aload_n (pc := 305) dX1_isSo_305 rfl rfl ?_
    refine gf_X1_2 (pc := 306) dX1_isSo_306 wF_X1_25 (A_21 hw) hT hIRT fun b174 q175 A176 => ?_
    refine gf_X7_7 (pc := 309) dX1_isSo_309 wF_X1_96 A176 hT fun z177 q178 h179 => ?_
    have J191 : ∀ (z189 : Int), (((-2147483648) ≤ z189 ∧ z189 ≤ 2147483647)) → sV (gG l D c H0 sa) mX1_isSo (sRm 2 0 0) (sZ (gG l D c H0 sa) 0 0 (qP w μ (fun z => (0 ≤ z ∧ z ≤ 1) ∧ True))) 339 [(0, .ref 21), (3, iv z8)] [iv z189] (mk w μ) 0 0 := by
      intro z189 h190
      refine mr_istore (pc := 339) (lv' := [(7, iv z189), (0, .ref 21), (3, iv z8)]) dX1_isSo_339 (by decide) rfl ?_
      refine sv_aload_n (pc := 341) dX1_isSo_341 rfl rfl ?_
      refine gf_X1_0 (pc := 342) dX1_isSo_342 wF_X1_9 (A_21 hw) hT ?_
      refine sv_aload_n (pc := 345) dX1_isSo_345 rfl rfl ?_
      refine gk_X1_2 (pc := 346) dX1_isSo_346 wF_X1_25 (A_21 hw) q175 ?_
      refine gf_X7_3 (pc := 349) dX1_isSo_349 wF_X1_77 A176 hT fun z192 q193 h194 => ?_
      refine mr_iload (pc := 352) (z := z189) dX1_isSo_352 rfl ?_
      refine sv_aload_n (pc := 354) dX1_isSo_354 rfl rfl ?_
      refine gf_X1_0 (pc := 355) dX1_isSo_355 wF_X1_9 (A_21 hw) hT ?_
      refine gf_X10_18 (pc := 358) dX1_isSo_358 wF_X1_117 (A_6 hw) hT fun z195 q196 h197 => ?_
      refine sv_aload_n (pc := 361) dX1_isSo_361 rfl rfl ?_
      refine gf_X1_0 (pc := 362) dX1_isSo_362 wF_X1_9 (A_21 hw) hT ?_
      refine gk_X10_18 (pc := 365) dX1_isSo_365 wF_X1_117 (A_6 hw) q196 ?_
      refine mr_cVP (pc := 368) (c_X10_verdictOn hw hT h194 h190 (rW (c := (-2147483648)) (d := 2147483647) h197 rfl) (rW (c := (-2147483648)) (d := 2147483647) h197 rfl)) (gOk _ _ _ _ _) dX1_isSo_368 (tX10_verdictOn _ _ _ _ _) ⟨wV_X10_verdictOn, wL_X10_verdictOn⟩ wM_X1_120 (gCX10 _ _ _ _ _) rfl (A_6 hw) rfl ⟨le_t rfl, le_t rfl⟩ ⟨le_t rfl, le_t rfl⟩ rfl (le_t rfl) fun z202 h201 => ?_
      refine mr_iload_n (pc := 371) (z := z8) dX1_isSo_371 rfl rfl ?_
      refine mr_icmp_ne (pc := 372) (tgt := 379) dX1_isSo_372 (by decide) (r32 h201.1 rfl) h10 (fun h204 => ?_) (fun h204 => ?_)
      · refine mr_iconst (pc := 379) (z := 0) dX1_isSo_379 ?_
        exact mr_zretP dX1_isSo_380 rfl (rW (c := 0) (d := 1) (rR (x := 0)) rfl) (le_t rfl) (le_t rfl) ⟨(rW (c := 0) (d := 1) (rR (x := 0)) rfl), trivial⟩
      have h205 : 0 ≤ z8 ∧ z8 ≤ 2 := (vc_X1_isSo_25 h204 h201.1 h10)
      refine mr_iconst (pc := 375) (z := 1) dX1_isSo_375 ?_
      refine sv_goto (pc := 376) (tgt := 380) dX1_isSo_376 (by decide) ?_
      exact mr_zretP dX1_isSo_380 rfl (rW (c := 0) (d := 1) (rR (x := 1)) rfl) (le_t rfl) (le_t rfl) ⟨(rW (c := 0) (d := 1) (rR (x := 1)) rfl), trivial⟩
    refine mr_if_le (pc := 312) (tgt := 335) dX1_isSo_312 (by decide) (r32 h179 rfl) (fun h206 => ?_) (fun h206 => ?_)
    · have h207 : 0 ≤ z177 ∧ z177 ≤ 0 := (vc_X12_unlike_21 h206 h179)
      refine sv_aload_n (pc := 335) dX1_isSo_335 rfl rfl ?_
      refine gf_X1_3 (pc := 336) dX1_isSo_336 wF_X1_35 (A_21 hw) hT fun z208 q209 h210 => ?_
      refine mr_lvS (lv' := [(0, .ref 21), (3, iv z8)]) (List.forall_mem_cons.mpr ⟨rfl, List.forall_mem_cons.mpr ⟨rfl, fun _ h => absurd h List.not_mem_nil⟩⟩) ?_
      exact J191 z208 h210
    have h211 : 1 ≤ z177 ∧ z177 ≤ 20 := (vc_X12_unlike_22 h206 h179)
    refine sv_aload_n (pc := 315) dX1_isSo_315 rfl rfl ?_
    refine gk_X1_2 (pc := 316) dX1_isSo_316 wF_X1_25 (A_21 hw) q175 ?_
    refine gf_X7_0 (pc := 319) dX1_isSo_319 wF_X1_114 A176 hT fun A212 => ?_
    refine sv_aload_n (pc := 322) dX1_isSo_322 rfl rfl ?_
    refine gk_X1_2 (pc := 323) dX1_isSo_323 wF_X1_25 (A_21 hw) q175 ?_
    refine gk_X7_7 (pc := 326) dX1_isSo_326 wF_X1_96 A176 q178 ?_
    refine mr_iconst (pc := 329) (z := 1) dX1_isSo_329 ?_
    refine mr_isub (pc := 330) (x := z177) (y := 1) dX1_isSo_330 ?_
    refine la_201 (pc := 331) dX1_isSo_331 A212 hT (rIx (n := 20) (rSub (e := 0) (f := 19) h211 (rR (x := 1)) rfl) rfl) fun z213 q214 h215 => ?_
    refine sv_goto (pc := 332) (tgt := 339) dX1_isSo_332 (by decide) ?_
    refine mr_lvS (lv' := [(0, .ref 21), (3, iv z8)]) (List.forall_mem_cons.mpr ⟨rfl, List.forall_mem_cons.mpr ⟨rfl, fun _ h => absurd h List.not_mem_nil⟩⟩) ?_
    exact J191 z213 h215
  refine mr_tableOut (pc := 35) (tgt := 381) dX1_isSo_35 h19 (vc_X1_isSo_28 h20 h77 h79 h100 h102 h112 h118 h124 h137 h150 h163 h172 h19) (by decide) ?_
  refine mr_iconst (pc := 381) (z := 0) dX1_isSo_381 ?_
  exact mr_zretP dX1_isSo_382 rfl (rW (c := 0) (d := 1) (rR (x := 0)) rfl) (le_t rfl) (le_t rfl) ⟨(rW (c := 0) (d := 1) (rR (x := 0)) rfl), trivial⟩
theorem vc_X1_goThrough_13_3 {n2 p1 z4 : Int} (h0 : p1 < z4) (h1 : 0 ≤ p1) (h2 : z4 = n2) (h3 : 0 ≤ p1 ∧ p1 ≤ 2147483647) (h4 : 0 ≤ z4 ∧ z4 ≤ 12) : 0 ≤ p1 ∧ p1 ≤ 11 := by omega
theorem vc_X1_goThrough_13_4 {n2 p1 z4 : Int} (h0 : p1 < z4) (h1 : 0 ≤ p1) (h2 : z4 = n2) (h3 : 0 ≤ p1 ∧ p1 ≤ 11) (h4 : 0 ≤ z4 ∧ z4 ≤ 12) : 1 ≤ z4 ∧ z4 ≤ 12 := by omega
theorem vc_X1_goThrough_13_5 {p2 : Int} (h0 : p2 ≤ 12) (h1 : 13 ≤ p2 ∧ p2 ≤ 13) : False := by omega
set_option maxRecDepth 4000 in
set_option maxHeartbeats 4000000 in
theorem c_X1_goThrough_13 {l : Launch} {D : va_G} {c : Nat → ClassId} {H0 : Heap} {sa : Nat × Nat × (Nat → Int32)} {w : mW} {μ : mM} (hw : mWF w) (hT : mT w μ) {p1 : Int} (hp1 : (-2147483648) ≤ p1 ∧ p1 ≤ 2147483647) {p2 : Int} (hp2 : 13 ≤ p2 ∧ p2 ≤ 13) (hIPC : PC w μ) (hIRT : RT μ) : sC (gG l D c H0 sa) mX1_goThrough 3 0 0 [.ref 21, iv p1, iv p2] (mk w μ) (qV w [] μ (fun μ1 => True)) := by
  refine sC.of rfl (by decide) (le_t rfl) ?_
  refine mr_lvE (lv' := [(0, .ref 21), (1, iv p1), (2, iv p2)]) rfl ?_
  refine mr_iload_n (pc := 0) (z := p1) dX1_goThrough_0 rfl rfl ?_
  refine mr_if_lt (pc := 1) (tgt := 18) dX1_goThrough_1 (by decide) hp1 (fun h1 => ?_) (fun h1 => ?_)
  · have h2 : (-2147483648) ≤ p1 ∧ p1 ≤ (-1) := (vc_X12_ring_60 h1 hp1)
    exact mr_vret dX1_goThrough_18 rfl (le_t rfl) (le_t rfl) hT mF.refl trivial
  have h3 : 0 ≤ p1 ∧ p1 ≤ 2147483647 := (vc_X12_ring_1 h1 hp1)
  refine mr_iload_n (pc := 4) (z := p1) dX1_goThrough_4 rfl rfl ?_
  refine sv_aload_n (pc := 5) dX1_goThrough_5 rfl rfl ?_
  refine gf_X1_8 (pc := 6) dX1_goThrough_6 wF_X1_21 (A_21 hw) hT fun z4 q5 h6 => ?_
  refine mr_icmp_ge (pc := 9) (tgt := 18) dX1_goThrough_9 (by decide) (r32 h3 rfl) (r32 h6.2 rfl) (fun h7 => ?_) (fun h7 => ?_)
  · exact mr_vret dX1_goThrough_18 rfl (le_t rfl) (le_t rfl) hT mF.refl trivial
  have h8 : 0 ≤ p1 ∧ p1 ≤ 11 := (vc_X1_goThrough_13_3 h7 h1 h6.1 h3 h6.2)
  have h9 : 1 ≤ z4 ∧ z4 ≤ 12 := (vc_X1_goThrough_13_4 h7 h1 h6.1 h8 h6.2)
  refine mr_iload_n (pc := 12) (z := p2) dX1_goThrough_12 rfl rfl ?_
  refine mr_bipush (pc := 13) (z := 12) dX1_goThrough_13 (by decide) ?_
  refine mr_icmp_le (pc := 15) (tgt := 19) dX1_goThrough_15 (by decide) (r32 hp2 rfl) (r32 (rR (x := 12)) rfl) (fun h => ((vc_X1_goThrough_13_5 h hp2)).elim) (fun _ => ?_)
  exact mr_vret dX1_goThrough_18 rfl (le_t rfl) (le_t rfl) hT mF.refl trivial
theorem vc_X1_doActs_12_1 {z1989 : Int} (h0 : (1001 - z1989) < ((0 : Nat) : Int)) (h1 : 0 ≤ z1989 ∧ z1989 ≤ 1000) : False := by omega
theorem vc_X1_doActs_12_2 {n_1 p2 p3 z1989 : Int} (h0 : z1989 < p3) (h1 : p2 + 2 * p3 ≤ n_1) (h2 : 0 ≤ n_1 ∧ n_1 ≤ 2000) (h3 : 0 ≤ p2 ∧ p2 ≤ 2000) (h4 : 0 ≤ p3 ∧ p3 ≤ 1000) (h5 : 0 ≤ z1989 ∧ z1989 ≤ 1000) : 0 ≤ z1989 ∧ z1989 ≤ 999 := by omega
theorem vc_X1_doActs_12_3 {n_1 p2 p3 z1989 : Int} (h0 : z1989 < p3) (h1 : p2 + 2 * p3 ≤ n_1) (h2 : 0 ≤ n_1 ∧ n_1 ≤ 2000) (h3 : 0 ≤ p2 ∧ p2 ≤ 2000) (h4 : 0 ≤ p3 ∧ p3 ≤ 1000) (h5 : 0 ≤ z1989 ∧ z1989 ≤ 999) : 1 ≤ p3 ∧ p3 ≤ 1000 := by omega
theorem vc_X1_doActs_12_6 {n_1 p2 p3 z1989 : Int} (h0 : p2 + 2 * p3 ≤ n_1) (h1 : z1989 < p3) (h2 : 0 ≤ n_1 ∧ n_1 ≤ 2000) (h3 : 0 ≤ p2 ∧ p2 ≤ 2000) (h4 : 1 ≤ p3 ∧ p3 ≤ 1000) (h5 : 0 ≤ z1989 ∧ z1989 ≤ 999) : 0 ≤ ((p2 + (z1989 * 2)) + 1) ∧ ((p2 + (z1989 * 2)) + 1) < n_1 := by omega
theorem vc_X1_doActs_12_7 {n_1 p2 p3 z1989 : Int} (h0 : z1989 < p3) (h1 : p2 + 2 * p3 ≤ n_1) (h2 : 0 ≤ n_1 ∧ n_1 ≤ 2000) (h3 : 0 ≤ p2 ∧ p2 ≤ 2000) (h4 : 1 ≤ p3 ∧ p3 ≤ 1000) (h5 : 0 ≤ z1989 ∧ z1989 ≤ 999) : 0 ≤ z1989 := by omega
theorem vc_X1_doActs_12_8 {n_1 p2 p3 z1989 : Int} (h0 : p2 + 2 * p3 ≤ n_1) (h1 : z1989 < p3) (h2 : 0 ≤ n_1 ∧ n_1 ≤ 2000) (h3 : 0 ≤ p2 ∧ p2 ≤ 2000) (h4 : 1 ≤ p3 ∧ p3 ≤ 1000) (h5 : 0 ≤ z1989 ∧ z1989 ≤ 999) : z1989 < p3 := by omega
theorem vc_X1_doActs_12_9 {n_1 p2 p3 z1989 : Int} (h0 : p2 + 2 * p3 ≤ n_1) (h1 : z1989 < p3) (h2 : 0 ≤ n_1 ∧ n_1 ≤ 2000) (h3 : 0 ≤ p2 ∧ p2 ≤ 2000) (h4 : 1 ≤ p3 ∧ p3 ≤ 1000) (h5 : 0 ≤ z1989 ∧ z1989 ≤ 999) : ((p2 + (z1989 * 2)) + 1) = p2 + 2 * z1989 + 1 := by omega
theorem vc_X1_doActs_12_10 {z2013 : Int} (h0 : z2013 < 500) (h1 : 0 ≤ z2013 ∧ z2013 ≤ 500) : 0 ≤ z2013 ∧ z2013 ≤ 499 := by omega
theorem vc_X1_doActs_12_11 {n_1 p2 p3 z1989 : Int} (h0 : p2 + 2 * p3 ≤ n_1) (h1 : z1989 < p3) (h2 : 0 ≤ n_1 ∧ n_1 ≤ 2000) (h3 : 0 ≤ p2 ∧ p2 ≤ 2000) (h4 : 1 ≤ p3 ∧ p3 ≤ 1000) (h5 : 0 ≤ z1989 ∧ z1989 ≤ 999) : 0 ≤ (p2 + (z1989 * 2)) ∧ (p2 + (z1989 * 2)) < n_1 := by omega
theorem vc_X1_doActs_12_12 {z2021 : Int} (h0 : z2021 = 12) (h1 : (-2147483648) ≤ z2021 ∧ z2021 ≤ 2147483647) : 12 ≤ z2021 ∧ z2021 ≤ 12 := by omega
theorem vc_X1_doActs_12_13 {N n_1 p2 p3 z1989 : Int} (h0 : (1001 - z1989) < N + 1) (h1 : z1989 < p3) (h2 : p2 + 2 * p3 ≤ n_1) (h3 : 0 ≤ n_1 ∧ n_1 ≤ 2000) (h4 : 0 ≤ p2 ∧ p2 ≤ 2000) (h5 : 1 ≤ p3 ∧ p3 ≤ 1000) (h6 : 0 ≤ z1989 ∧ z1989 ≤ 999) : (1001 - (z1989 + 1)) < N := by omega
theorem vc_X1_doActs_12_14 {z2021 : Int} (h0 : z2021 = 13) (h1 : ¬ z2021 = 12) (h2 : (-2147483648) ≤ z2021 ∧ z2021 ≤ 2147483647) : 13 ≤ z2021 ∧ z2021 ≤ 13 := by omega
theorem vc_X1_doActs_12_15 {z2021 : Int} (h0 : z2021 = 14) (h1 : ¬ z2021 = 12) (h2 : ¬ z2021 = 13) (h3 : (-2147483648) ≤ z2021 ∧ z2021 ≤ 2147483647) : 14 ≤ z2021 ∧ z2021 ≤ 14 := by omega
theorem vc_X1_doActs_12_16 {z2021 : Int} (h0 : z2021 = 15) (h1 : ¬ z2021 = 12) (h2 : ¬ z2021 = 13) (h3 : ¬ z2021 = 14) (h4 : (-2147483648) ≤ z2021 ∧ z2021 ≤ 2147483647) : 15 ≤ z2021 ∧ z2021 ≤ 15 := by omega
theorem vc_X1_doActs_12_17 {z2021 : Int} (h0 : z2021 = 16) (h1 : ¬ z2021 = 12) (h2 : ¬ z2021 = 13) (h3 : ¬ z2021 = 14) (h4 : ¬ z2021 = 15) (h5 : (-2147483648) ≤ z2021 ∧ z2021 ≤ 2147483647) : 16 ≤ z2021 ∧ z2021 ≤ 16 := by omega
theorem vc_X1_doActs_12_18 {z2021 : Int} (h0 : z2021 = 17) (h1 : ¬ z2021 = 12) (h2 : ¬ z2021 = 13) (h3 : ¬ z2021 = 14) (h4 : ¬ z2021 = 15) (h5 : ¬ z2021 = 16) (h6 : (-2147483648) ≤ z2021 ∧ z2021 ≤ 2147483647) : 17 ≤ z2021 ∧ z2021 ≤ 17 := by omega
theorem vc_X1_doActs_12_19 {z2021 : Int} (h0 : z2021 = 18) (h1 : ¬ z2021 = 12) (h2 : ¬ z2021 = 13) (h3 : ¬ z2021 = 14) (h4 : ¬ z2021 = 15) (h5 : ¬ z2021 = 16) (h6 : ¬ z2021 = 17) (h7 : (-2147483648) ≤ z2021 ∧ z2021 ≤ 2147483647) : 18 ≤ z2021 ∧ z2021 ≤ 18 := by omega
theorem vc_X1_doActs_12_20 {z2021 : Int} (h0 : z2021 = 19) (h1 : ¬ z2021 = 12) (h2 : ¬ z2021 = 13) (h3 : ¬ z2021 = 14) (h4 : ¬ z2021 = 15) (h5 : ¬ z2021 = 16) (h6 : ¬ z2021 = 17) (h7 : ¬ z2021 = 18) (h8 : (-2147483648) ≤ z2021 ∧ z2021 ≤ 2147483647) : 19 ≤ z2021 ∧ z2021 ≤ 19 := by omega
theorem vc_X1_doActs_12_21 {z2021 : Int} (h0 : z2021 = 20) (h1 : ¬ z2021 = 13) (h2 : ¬ z2021 = 14) (h3 : ¬ z2021 = 15) (h4 : ¬ z2021 = 16) (h5 : ¬ z2021 = 17) (h6 : ¬ z2021 = 18) (h7 : ¬ z2021 = 19) (h8 : (-2147483648) ≤ z2021 ∧ z2021 ≤ 2147483647) : 20 ≤ z2021 ∧ z2021 ≤ 20 := by omega
theorem vc_X1_doActs_12_22 {z2021 : Int} (h0 : z2021 = 21) (h1 : ¬ z2021 = 14) (h2 : ¬ z2021 = 15) (h3 : ¬ z2021 = 16) (h4 : ¬ z2021 = 17) (h5 : ¬ z2021 = 18) (h6 : ¬ z2021 = 19) (h7 : ¬ z2021 = 20) (h8 : (-2147483648) ≤ z2021 ∧ z2021 ≤ 2147483647) : 21 ≤ z2021 ∧ z2021 ≤ 21 := by omega
theorem vc_X1_doActs_12_23 {z2021 : Int} (h0 : z2021 = 22) (h1 : ¬ z2021 = 15) (h2 : ¬ z2021 = 16) (h3 : ¬ z2021 = 17) (h4 : ¬ z2021 = 18) (h5 : ¬ z2021 = 19) (h6 : ¬ z2021 = 20) (h7 : ¬ z2021 = 21) (h8 : (-2147483648) ≤ z2021 ∧ z2021 ≤ 2147483647) : 22 ≤ z2021 ∧ z2021 ≤ 22 := by omega
theorem vc_X1_doActs_12_24 {z2021 : Int} (h0 : z2021 = 23) (h1 : ¬ z2021 = 16) (h2 : ¬ z2021 = 17) (h3 : ¬ z2021 = 18) (h4 : ¬ z2021 = 19) (h5 : ¬ z2021 = 20) (h6 : ¬ z2021 = 21) (h7 : ¬ z2021 = 22) (h8 : (-2147483648) ≤ z2021 ∧ z2021 ≤ 2147483647) : 23 ≤ z2021 ∧ z2021 ≤ 23 := by omega
theorem vc_X1_doActs_12_25 {z2021 : Int} (h0 : z2021 = 24) (h1 : ¬ z2021 = 17) (h2 : ¬ z2021 = 18) (h3 : ¬ z2021 = 19) (h4 : ¬ z2021 = 20) (h5 : ¬ z2021 = 21) (h6 : ¬ z2021 = 22) (h7 : ¬ z2021 = 23) (h8 : (-2147483648) ≤ z2021 ∧ z2021 ≤ 2147483647) : 24 ≤ z2021 ∧ z2021 ≤ 24 := by omega
theorem vc_X1_doActs_12_26 {z2021 : Int} (h0 : z2021 = 25) (h1 : ¬ z2021 = 18) (h2 : ¬ z2021 = 19) (h3 : ¬ z2021 = 20) (h4 : ¬ z2021 = 21) (h5 : ¬ z2021 = 22) (h6 : ¬ z2021 = 23) (h7 : ¬ z2021 = 24) (h8 : (-2147483648) ≤ z2021 ∧ z2021 ≤ 2147483647) : 25 ≤ z2021 ∧ z2021 ≤ 25 := by omega
theorem vc_X1_doActs_12_27 {z2021 : Int} (h0 : z2021 = 26) (h1 : ¬ z2021 = 19) (h2 : ¬ z2021 = 20) (h3 : ¬ z2021 = 21) (h4 : ¬ z2021 = 22) (h5 : ¬ z2021 = 23) (h6 : ¬ z2021 = 24) (h7 : ¬ z2021 = 25) (h8 : (-2147483648) ≤ z2021 ∧ z2021 ≤ 2147483647) : 26 ≤ z2021 ∧ z2021 ≤ 26 := by omega
theorem vc_X1_doActs_12_28 {z2021 : Int} (h0 : z2021 = 27) (h1 : ¬ z2021 = 20) (h2 : ¬ z2021 = 21) (h3 : ¬ z2021 = 22) (h4 : ¬ z2021 = 23) (h5 : ¬ z2021 = 24) (h6 : ¬ z2021 = 25) (h7 : ¬ z2021 = 26) (h8 : (-2147483648) ≤ z2021 ∧ z2021 ≤ 2147483647) : 27 ≤ z2021 ∧ z2021 ≤ 27 := by omega
theorem vc_X1_doActs_12_33 {z2021 : Int} (h0 : z2021 = 28) (h1 : ¬ z2021 = 21) (h2 : ¬ z2021 = 22) (h3 : ¬ z2021 = 23) (h4 : ¬ z2021 = 24) (h5 : ¬ z2021 = 25) (h6 : ¬ z2021 = 26) (h7 : ¬ z2021 = 27) (h8 : (-2147483648) ≤ z2021 ∧ z2021 ≤ 2147483647) : 28 ≤ z2021 ∧ z2021 ≤ 28 := by omega
theorem vc_X1_doActs_12_34 {z2021 : Int} (h0 : ¬ z2021 = 12) (h1 : ¬ z2021 = 13) (h2 : ¬ z2021 = 14) (h3 : ¬ z2021 = 15) (h4 : ¬ z2021 = 16) (h5 : ¬ z2021 = 17) (h6 : ¬ z2021 = 18) (h7 : ¬ z2021 = 19) (h8 : ¬ z2021 = 20) (h9 : ¬ z2021 = 21) (h10 : ¬ z2021 = 22) (h11 : ¬ z2021 = 23) (h12 : ¬ z2021 = 24) (h13 : ¬ z2021 = 25) (h14 : ¬ z2021 = 26) (h15 : ¬ z2021 = 27) (h16 : ¬ z2021 = 28) (h17 : (-2147483648) ≤ z2021 ∧ z2021 ≤ 2147483647) : z2021 < 12 ∨ 28 < z2021 := by omega
theorem vc_X1_doActs_12_35 {z2013 : Int} (h0 : 500 ≤ z2013) (h1 : 0 ≤ z2013 ∧ z2013 ≤ 500) : 500 ≤ z2013 ∧ z2013 ≤ 500 := by omega
theorem vc_X1_doActs_12_36  : (1001 - 0) < ((1002 : Nat) : Int) := by omega
set_option maxRecDepth 4000 in
set_option maxHeartbeats 4000000 in
theorem c_X1_doActs_12 {l : Launch} {D : va_G} {c : Nat → ClassId} {H0 : Heap} {sa : Nat × Nat × (Nat → Int32)} {w : mW} {μ : mM} (hw : mWF w) (hT : mT w μ) {a1 : Nat} (hA1 : mAt w a1 231) {p2 : Int} (hp2 : 0 ≤ p2 ∧ p2 ≤ 2000) {p3 : Int} (hp3 : 0 ≤ p3 ∧ p3 ≤ 1000) {p4 : Int} (hp4 : 12 ≤ p4 ∧ p4 ≤ 12) (hIPC : PC w μ) (hIRT : RT μ) (hlen : p2 + 2 * p3 ≤ (w.2.2.1 a1 : Int)) (harg : ∀ i : Int, 0 ≤ i → i < p3 → 0 ≤ μ a1 (p2 + 2 * i + 1).toNat ∧ μ a1 (p2 + 2 * i + 1).toNat ≤ 1000000) : sC (gG l D c H0 sa) mX1_doActs 4 0 0 [.ref 21, .ref a1, iv p2, iv p3, iv p4] (mk w μ) (qV w [21006, 21007, 200004, 200006, 200007, 200008, 201999, 202999] μ (fun μ1 => True)) := by
  refine sC.of rfl (by decide) (le_t rfl) ?_
  refine mr_lvE (lv' := [(0, .ref 21), (1, .ref a1), (2, iv p2), (3, iv p3), (4, iv p4)]) rfl ?_
  obtain ⟨n_1, q2⟩ : ∃ n : Int, (w.2.2.1 a1 : Int) = n := ⟨_, rfl⟩
  have h3 : 0 ≤ n_1 ∧ n_1 ≤ 2000 := lnR (m := 2000) q2 hA1 rfl
  have h4 : p2 + 2 * p3 ≤ n_1 := lnLe q2 hlen
  refine mr_iconst (pc := 0) (z := 0) dX1_doActs_0 ?_
  refine mr_istore (pc := 1) (lv' := [(5, iv 0), (0, .ref 21), (1, .ref a1), (2, iv p2), (3, iv p3), (4, iv p4)]) dX1_doActs_1 (by decide) rfl ?_
  have L1991 : ∀ (nL1991 : Nat) (z1989 : Int) (μ1990 : mM), mT w μ1990 → mF [21006, 21007, 200004, 200006, 200007, 200008, 201999, 202999] w μ μ1990 → (0 ≤ z1989 ∧ z1989 ≤ 1000) → PC w μ1990 → RT μ1990 → (1001 - z1989) < (nL1991 : Int) → sV (gG l D c H0 sa) mX1_doActs (sRm 4 0 0) (sZ (gG l D c H0 sa) 0 0 (qV w [21006, 21007, 200004, 200006, 200007, 200008, 201999, 202999] μ (fun μ1 => True))) 3 [(0, .ref 21), (1, .ref a1), (2, iv p2), (3, iv p3), (4, iv p4), (5, iv z1989)] [] (mk w μ1990) 0 0 := by
    intro nL1991
    induction nL1991 with
    | zero => intro z1989 μ1990 T1993 F1994 h1992 I1996 I1997 h1998; exact ((vc_X1_doActs_12_1 h1998 h1992)).elim
    | succ nL1991 ih1999 =>
      intro z1989 μ1990 T1993 F1994 h1992 I1996 I1997 h1998
      refine mr_iload (pc := 3) (z := z1989) dX1_doActs_3 rfl ?_
      refine mr_iload_n (pc := 5) (z := p3) dX1_doActs_5 rfl rfl ?_
      refine mr_icmp_ge (pc := 6) (tgt := 266) dX1_doActs_6 (by decide) (r32 h1992 rfl) (r32 hp3 rfl) (fun h2000 => ?_) (fun h2000 => ?_)
      · exact mr_vret dX1_doActs_266 rfl (le_t rfl) (le_t rfl) T1993 (mF.call mF.refl F1994 rfl) trivial
      have h2001 : 0 ≤ z1989 ∧ z1989 ≤ 999 := (vc_X1_doActs_12_2 h2000 h4 h3 hp2 hp3 h1992)
      have h2002 : 1 ≤ p3 ∧ p3 ≤ 1000 := (vc_X1_doActs_12_3 h2000 h4 h3 hp2 hp3 h2001)
      refine sv_aload_n (pc := 9) dX1_doActs_9 rfl rfl ?_
      refine gf_X1_7 (pc := 10) dX1_doActs_10 wF_X1_50 (A_21 hw) T1993 fun z2003 q2004 h2005 => ?_
      refine mr_if_ne (pc := 13) (tgt := 266) dX1_doActs_13 (by decide) (r32 h2005 rfl) (fun h2006 => ?_) (fun h2006 => ?_)
      · have h2007 : 1 ≤ z2003 ∧ z2003 ≤ 2 := (vc_X12_provides_3 h2006 h2005)
        exact mr_vret dX1_doActs_266 rfl (le_t rfl) (le_t rfl) T1993 (mF.call mF.refl F1994 rfl) trivial
      have h2008 : 0 ≤ z2003 ∧ z2003 ≤ 0 := (vc_X12_provides_4 h2006 h2005)
      refine sv_aload_n (pc := 16) dX1_doActs_16 rfl rfl ?_
      refine mr_iload_n (pc := 17) (z := p2) dX1_doActs_17 rfl rfl ?_
      refine mr_iload (pc := 18) (z := z1989) dX1_doActs_18 rfl ?_
      refine mr_iconst (pc := 20) (z := 2) dX1_doActs_20 ?_
      refine mr_imul (pc := 21) (x := z1989) (y := 2) dX1_doActs_21 ?_
      refine mr_iadd (pc := 22) (x := p2) (y := (z1989 * 2)) dX1_doActs_22 ?_
      refine mr_iconst (pc := 23) (z := 1) dX1_doActs_23 ?_
      refine mr_iadd (pc := 24) (x := (p2 + (z1989 * 2))) (y := 1) dX1_doActs_24 ?_
      refine la_231 (pc := 25) dX1_doActs_25 hA1 T1993 (lnC q2 (vc_X1_doActs_12_6 h4 h2000 h3 hp2 h2002 h2001)) fun z2009 q2010 h2011 => ?_
      have h2012 : 0 ≤ z2009 ∧ z2009 ≤ 1000000 := argB harg (vc_X1_doActs_12_7 h2000 h4 h3 hp2 h2002 h2001) (vc_X1_doActs_12_8 h4 h2000 h3 hp2 h2002 h2001) (vc_X1_doActs_12_9 h4 h2000 h3 hp2 h2002 h2001) (((mF.call mF.refl F1994 rfl) : mF [21006, 21007, 200004, 200006, 200007, 200008, 201999, 202999] w μ μ1990).f hA1 rfl rfl) q2010
      refine mr_istore (pc := 26) (lv' := [(6, iv z2009), (0, .ref 21), (1, .ref a1), (2, iv p2), (3, iv p3), (4, iv p4), (5, iv z1989)]) dX1_doActs_26 (by decide) rfl ?_
      refine sv_aload_n (pc := 28) dX1_doActs_28 rfl rfl ?_
      refine gf_X1_6 (pc := 29) dX1_doActs_29 wF_X1_47 (A_21 hw) T1993 fun z2013 q2014 h2015 => ?_
      refine mr_sipush (pc := 32) (z := 500) dX1_doActs_32 (by decide) ?_
      refine mr_icmp_lt (pc := 35) (tgt := 44) dX1_doActs_35 (by decide) (r32 h2015 rfl) (r32 (rR (x := 500)) rfl) (fun h2016 => ?_) (fun h2016 => ?_)
      · have h2017 : 0 ≤ z2013 ∧ z2013 ≤ 499 := (vc_X1_doActs_12_10 h2016 h2015)
        refine sv_aload_n (pc := 44) dX1_doActs_44 rfl rfl ?_
        refine sv_dup (pc := 45) dX1_doActs_45 rfl ?_
        refine gk_X1_6 (pc := 46) dX1_doActs_46 wF_X1_47 (A_21 hw) q2014 ?_
        refine mr_iconst (pc := 49) (z := 1) dX1_doActs_49 ?_
        refine mr_iadd (pc := 50) (x := z2013) (y := 1) dX1_doActs_50 ?_
        refine pf_X1_6 (pc := 51) dX1_doActs_51 wF_X1_47 (A_21 hw) T1993 (rW (c := 0) (d := 500) (rAdd (e := 1) (f := 500) h2017 (rR (x := 1)) rfl) rfl) fun μ2018 u2019 T2020 => ?_
        refine sv_aload_n (pc := 54) dX1_doActs_54 rfl rfl ?_
        refine mr_iload_n (pc := 55) (z := p2) dX1_doActs_55 rfl rfl ?_
        refine mr_iload (pc := 56) (z := z1989) dX1_doActs_56 rfl ?_
        refine mr_iconst (pc := 58) (z := 2) dX1_doActs_58 ?_
        refine mr_imul (pc := 59) (x := z1989) (y := 2) dX1_doActs_59 ?_
        refine mr_iadd (pc := 60) (x := p2) (y := (z1989 * 2)) dX1_doActs_60 ?_
        refine la_231 (pc := 61) dX1_doActs_61 hA1 T2020 (lnC q2 (vc_X1_doActs_12_11 h4 h2000 h3 hp2 h2002 h2001)) fun z2021 q2022 h2023 => ?_
        by_cases h2024 : z2021 = 12
        · refine mr_tableIn (pc := 62) (v := 12) (tgt := 184) dX1_doActs_62 h2024 rfl rfl (by decide) ?_
          have h2025 : 12 ≤ z2021 ∧ z2021 ≤ 12 := (vc_X1_doActs_12_12 h2024 h2023)
          refine sv_aload_n (pc := 184) dX1_doActs_184 rfl rfl ?_
          refine gf_X1_2 (pc := 185) dX1_doActs_185 wF_X1_25 (A_21 hw) T2020 (RT.keep I1997 hw ((mF.up mF.refl (A_21 hw) u2019 rfl) : mF [21006] w μ1990 μ2018) rfl) fun b2026 q2027 A2028 => ?_
          refine mr_iload (pc := 188) (z := z2009) dX1_doActs_188 rfl ?_
          refine pf_X7_4 (pc := 190) dX1_doActs_190 wF_X1_105 A2028 T2020 (rW (c := (-2147483648)) (d := 2147483647) h2012 rfl) fun μ2029 u2030 T2031 => ?_
          refine sv_goto (pc := 193) (tgt := 260) dX1_doActs_193 (by decide) ?_
          refine mr_iinc (pc := 260) (lv' := [(5, iv (z1989 + 1)), (6, iv z2009), (0, .ref 21), (1, .ref a1), (2, iv p2), (3, iv p3), (4, iv p4)]) dX1_doActs_260 rfl (by decide) rfl ?_
          refine sv_goto (pc := 263) (tgt := 3) dX1_doActs_263 (by decide) ?_
          refine mr_lvS (lv' := [(0, .ref 21), (1, .ref a1), (2, iv p2), (3, iv p3), (4, iv p4), (5, iv (z1989 + 1))]) (List.forall_mem_cons.mpr ⟨rfl, List.forall_mem_cons.mpr ⟨rfl, List.forall_mem_cons.mpr ⟨rfl, List.forall_mem_cons.mpr ⟨rfl, List.forall_mem_cons.mpr ⟨rfl, List.forall_mem_cons.mpr ⟨rfl, fun _ h => absurd h List.not_mem_nil⟩⟩⟩⟩⟩⟩) ?_
          exact ih1999 (z1989 + 1) μ2029 T2031 (mF.up (mF.up (mF.call mF.refl F1994 rfl) (A_21 hw) u2019 rfl) A2028 u2030 rfl) (rW (c := 0) (d := 1000) (rAdd (e := 1) (f := 1000) h2001 (rR (x := 1)) rfl) rfl) (PC.keep I1996 hw ((mF.up (mF.up mF.refl (A_21 hw) u2019 rfl) A2028 u2030 rfl) : mF [21006, 200004] w μ1990 μ2029) rfl) (RT.keep I1997 hw ((mF.up (mF.up mF.refl (A_21 hw) u2019 rfl) A2028 u2030 rfl) : mF [21006, 200004] w μ1990 μ2029) rfl) (vc_X1_doActs_12_13 (nS h1998) h2000 h4 h3 hp2 h2002 h2001)
        by_cases h2032 : z2021 = 13
        · refine mr_tableIn (pc := 62) (v := 13) (tgt := 196) dX1_doActs_62 h2032 rfl rfl (by decide) ?_
          have h2033 : 13 ≤ z2021 ∧ z2021 ≤ 13 := (vc_X1_doActs_12_14 h2032 h2024 h2023)
          refine sv_aload_n (pc := 196) dX1_doActs_196 rfl rfl ?_
          refine gf_X1_2 (pc := 197) dX1_doActs_197 wF_X1_25 (A_21 hw) T2020 (RT.keep I1997 hw ((mF.up mF.refl (A_21 hw) u2019 rfl) : mF [21006] w μ1990 μ2018) rfl) fun b2034 q2035 A2036 => ?_
          refine mr_iload (pc := 200) (z := z2009) dX1_doActs_200 rfl ?_
          refine pf_X7_6 (pc := 202) dX1_doActs_202 wF_X1_108 A2036 T2020 (rW (c := (-2147483648)) (d := 2147483647) h2012 rfl) fun μ2037 u2038 T2039 => ?_
          refine sv_goto (pc := 205) (tgt := 260) dX1_doActs_205 (by decide) ?_
          refine mr_iinc (pc := 260) (lv' := [(5, iv (z1989 + 1)), (6, iv z2009), (0, .ref 21), (1, .ref a1), (2, iv p2), (3, iv p3), (4, iv p4)]) dX1_doActs_260 rfl (by decide) rfl ?_
          refine sv_goto (pc := 263) (tgt := 3) dX1_doActs_263 (by decide) ?_
          refine mr_lvS (lv' := [(0, .ref 21), (1, .ref a1), (2, iv p2), (3, iv p3), (4, iv p4), (5, iv (z1989 + 1))]) (List.forall_mem_cons.mpr ⟨rfl, List.forall_mem_cons.mpr ⟨rfl, List.forall_mem_cons.mpr ⟨rfl, List.forall_mem_cons.mpr ⟨rfl, List.forall_mem_cons.mpr ⟨rfl, List.forall_mem_cons.mpr ⟨rfl, fun _ h => absurd h List.not_mem_nil⟩⟩⟩⟩⟩⟩) ?_
          exact ih1999 (z1989 + 1) μ2037 T2039 (mF.up (mF.up (mF.call mF.refl F1994 rfl) (A_21 hw) u2019 rfl) A2036 u2038 rfl) (rW (c := 0) (d := 1000) (rAdd (e := 1) (f := 1000) h2001 (rR (x := 1)) rfl) rfl) (PC.keep I1996 hw ((mF.up (mF.up mF.refl (A_21 hw) u2019 rfl) A2036 u2038 rfl) : mF [21006, 200006] w μ1990 μ2037) rfl) (RT.keep I1997 hw ((mF.up (mF.up mF.refl (A_21 hw) u2019 rfl) A2036 u2038 rfl) : mF [21006, 200006] w μ1990 μ2037) rfl) (vc_X1_doActs_12_13 (nS h1998) h2000 h4 h3 hp2 h2002 h2001)
        by_cases h2040 : z2021 = 14
        · refine mr_tableIn (pc := 62) (v := 14) (tgt := 260) dX1_doActs_62 h2040 rfl rfl (by decide) ?_
          have h2041 : 14 ≤ z2021 ∧ z2021 ≤ 14 := (vc_X1_doActs_12_15 h2040 h2024 h2032 h2023)
          refine mr_iinc (pc := 260) (lv' := [(5, iv (z1989 + 1)), (6, iv z2009), (0, .ref 21), (1, .ref a1), (2, iv p2), (3, iv p3), (4, iv p4)]) dX1_doActs_260 rfl (by decide) rfl ?_
          refine sv_goto (pc := 263) (tgt := 3) dX1_doActs_263 (by decide) ?_
          refine mr_lvS (lv' := [(0, .ref 21), (1, .ref a1), (2, iv p2), (3, iv p3), (4, iv p4), (5, iv (z1989 + 1))]) (List.forall_mem_cons.mpr ⟨rfl, List.forall_mem_cons.mpr ⟨rfl, List.forall_mem_cons.mpr ⟨rfl, List.forall_mem_cons.mpr ⟨rfl, List.forall_mem_cons.mpr ⟨rfl, List.forall_mem_cons.mpr ⟨rfl, fun _ h => absurd h List.not_mem_nil⟩⟩⟩⟩⟩⟩) ?_
          exact ih1999 (z1989 + 1) μ2018 T2020 (mF.up (mF.call mF.refl F1994 rfl) (A_21 hw) u2019 rfl) (rW (c := 0) (d := 1000) (rAdd (e := 1) (f := 1000) h2001 (rR (x := 1)) rfl) rfl) (PC.keep I1996 hw ((mF.up mF.refl (A_21 hw) u2019 rfl) : mF [21006] w μ1990 μ2018) rfl) (RT.keep I1997 hw ((mF.up mF.refl (A_21 hw) u2019 rfl) : mF [21006] w μ1990 μ2018) rfl) (vc_X1_doActs_12_13 (nS h1998) h2000 h4 h3 hp2 h2002 h2001)
        by_cases h2042 : z2021 = 15
        · refine mr_tableIn (pc := 62) (v := 15) (tgt := 260) dX1_doActs_62 h2042 rfl rfl (by decide) ?_
          have h2043 : 15 ≤ z2021 ∧ z2021 ≤ 15 := (vc_X1_doActs_12_16 h2042 h2024 h2032 h2040 h2023)
          refine mr_iinc (pc := 260) (lv' := [(5, iv (z1989 + 1)), (6, iv z2009), (0, .ref 21), (1, .ref a1), (2, iv p2), (3, iv p3), (4, iv p4)]) dX1_doActs_260 rfl (by decide) rfl ?_
          refine sv_goto (pc := 263) (tgt := 3) dX1_doActs_263 (by decide) ?_
          refine mr_lvS (lv' := [(0, .ref 21), (1, .ref a1), (2, iv p2), (3, iv p3), (4, iv p4), (5, iv (z1989 + 1))]) (List.forall_mem_cons.mpr ⟨rfl, List.forall_mem_cons.mpr ⟨rfl, List.forall_mem_cons.mpr ⟨rfl, List.forall_mem_cons.mpr ⟨rfl, List.forall_mem_cons.mpr ⟨rfl, List.forall_mem_cons.mpr ⟨rfl, fun _ h => absurd h List.not_mem_nil⟩⟩⟩⟩⟩⟩) ?_
          exact ih1999 (z1989 + 1) μ2018 T2020 (mF.up (mF.call mF.refl F1994 rfl) (A_21 hw) u2019 rfl) (rW (c := 0) (d := 1000) (rAdd (e := 1) (f := 1000) h2001 (rR (x := 1)) rfl) rfl) (PC.keep I1996 hw ((mF.up mF.refl (A_21 hw) u2019 rfl) : mF [21006] w μ1990 μ2018) rfl) (RT.keep I1997 hw ((mF.up mF.refl (A_21 hw) u2019 rfl) : mF [21006] w μ1990 μ2018) rfl) (vc_X1_doActs_12_13 (nS h1998) h2000 h4 h3 hp2 h2002 h2001)
        by_cases h2044 : z2021 = 16
        · refine mr_tableIn (pc := 62) (v := 16) (tgt := 260) dX1_doActs_62 h2044 rfl rfl (by decide) ?_
          have h2045 : 16 ≤ z2021 ∧ z2021 ≤ 16 := (vc_X1_doActs_12_17 h2044 h2024 h2032 h2040 h2042 h2023)
          refine mr_iinc (pc := 260) (lv' := [(5, iv (z1989 + 1)), (6, iv z2009), (0, .ref 21), (1, .ref a1), (2, iv p2), (3, iv p3), (4, iv p4)]) dX1_doActs_260 rfl (by decide) rfl ?_
          refine sv_goto (pc := 263) (tgt := 3) dX1_doActs_263 (by decide) ?_
          refine mr_lvS (lv' := [(0, .ref 21), (1, .ref a1), (2, iv p2), (3, iv p3), (4, iv p4), (5, iv (z1989 + 1))]) (List.forall_mem_cons.mpr ⟨rfl, List.forall_mem_cons.mpr ⟨rfl, List.forall_mem_cons.mpr ⟨rfl, List.forall_mem_cons.mpr ⟨rfl, List.forall_mem_cons.mpr ⟨rfl, List.forall_mem_cons.mpr ⟨rfl, fun _ h => absurd h List.not_mem_nil⟩⟩⟩⟩⟩⟩) ?_
          exact ih1999 (z1989 + 1) μ2018 T2020 (mF.up (mF.call mF.refl F1994 rfl) (A_21 hw) u2019 rfl) (rW (c := 0) (d := 1000) (rAdd (e := 1) (f := 1000) h2001 (rR (x := 1)) rfl) rfl) (PC.keep I1996 hw ((mF.up mF.refl (A_21 hw) u2019 rfl) : mF [21006] w μ1990 μ2018) rfl) (RT.keep I1997 hw ((mF.up mF.refl (A_21 hw) u2019 rfl) : mF [21006] w μ1990 μ2018) rfl) (vc_X1_doActs_12_13 (nS h1998) h2000 h4 h3 hp2 h2002 h2001)
        by_cases h2046 : z2021 = 17
        · refine mr_tableIn (pc := 62) (v := 17) (tgt := 260) dX1_doActs_62 h2046 rfl rfl (by decide) ?_
          have h2047 : 17 ≤ z2021 ∧ z2021 ≤ 17 := (vc_X1_doActs_12_18 h2046 h2024 h2032 h2040 h2042 h2044 h2023)
          refine mr_iinc (pc := 260) (lv' := [(5, iv (z1989 + 1)), (6, iv z2009), (0, .ref 21), (1, .ref a1), (2, iv p2), (3, iv p3), (4, iv p4)]) dX1_doActs_260 rfl (by decide) rfl ?_
          refine sv_goto (pc := 263) (tgt := 3) dX1_doActs_263 (by decide) ?_
          refine mr_lvS (lv' := [(0, .ref 21), (1, .ref a1), (2, iv p2), (3, iv p3), (4, iv p4), (5, iv (z1989 + 1))]) (List.forall_mem_cons.mpr ⟨rfl, List.forall_mem_cons.mpr ⟨rfl, List.forall_mem_cons.mpr ⟨rfl, List.forall_mem_cons.mpr ⟨rfl, List.forall_mem_cons.mpr ⟨rfl, List.forall_mem_cons.mpr ⟨rfl, fun _ h => absurd h List.not_mem_nil⟩⟩⟩⟩⟩⟩) ?_
          exact ih1999 (z1989 + 1) μ2018 T2020 (mF.up (mF.call mF.refl F1994 rfl) (A_21 hw) u2019 rfl) (rW (c := 0) (d := 1000) (rAdd (e := 1) (f := 1000) h2001 (rR (x := 1)) rfl) rfl) (PC.keep I1996 hw ((mF.up mF.refl (A_21 hw) u2019 rfl) : mF [21006] w μ1990 μ2018) rfl) (RT.keep I1997 hw ((mF.up mF.refl (A_21 hw) u2019 rfl) : mF [21006] w μ1990 μ2018) rfl) (vc_X1_doActs_12_13 (nS h1998) h2000 h4 h3 hp2 h2002 h2001)
        by_cases h2048 : z2021 = 18
        · refine mr_tableIn (pc := 62) (v := 18) (tgt := 260) dX1_doActs_62 h2048 rfl rfl (by decide) ?_
          have h2049 : 18 ≤ z2021 ∧ z2021 ≤ 18 := (vc_X1_doActs_12_19 h2048 h2024 h2032 h2040 h2042 h2044 h2046 h2023)
          refine mr_iinc (pc := 260) (lv' := [(5, iv (z1989 + 1)), (6, iv z2009), (0, .ref 21), (1, .ref a1), (2, iv p2), (3, iv p3), (4, iv p4)]) dX1_doActs_260 rfl (by decide) rfl ?_
          refine sv_goto (pc := 263) (tgt := 3) dX1_doActs_263 (by decide) ?_
          refine mr_lvS (lv' := [(0, .ref 21), (1, .ref a1), (2, iv p2), (3, iv p3), (4, iv p4), (5, iv (z1989 + 1))]) (List.forall_mem_cons.mpr ⟨rfl, List.forall_mem_cons.mpr ⟨rfl, List.forall_mem_cons.mpr ⟨rfl, List.forall_mem_cons.mpr ⟨rfl, List.forall_mem_cons.mpr ⟨rfl, List.forall_mem_cons.mpr ⟨rfl, fun _ h => absurd h List.not_mem_nil⟩⟩⟩⟩⟩⟩) ?_
          exact ih1999 (z1989 + 1) μ2018 T2020 (mF.up (mF.call mF.refl F1994 rfl) (A_21 hw) u2019 rfl) (rW (c := 0) (d := 1000) (rAdd (e := 1) (f := 1000) h2001 (rR (x := 1)) rfl) rfl) (PC.keep I1996 hw ((mF.up mF.refl (A_21 hw) u2019 rfl) : mF [21006] w μ1990 μ2018) rfl) (RT.keep I1997 hw ((mF.up mF.refl (A_21 hw) u2019 rfl) : mF [21006] w μ1990 μ2018) rfl) (vc_X1_doActs_12_13 (nS h1998) h2000 h4 h3 hp2 h2002 h2001)
        by_cases h2050 : z2021 = 19
        · refine mr_tableIn (pc := 62) (v := 19) (tgt := 260) dX1_doActs_62 h2050 rfl rfl (by decide) ?_
          have h2051 : 19 ≤ z2021 ∧ z2021 ≤ 19 := (vc_X1_doActs_12_20 h2050 h2024 h2032 h2040 h2042 h2044 h2046 h2048 h2023)
          refine mr_iinc (pc := 260) (lv' := [(5, iv (z1989 + 1)), (6, iv z2009), (0, .ref 21), (1, .ref a1), (2, iv p2), (3, iv p3), (4, iv p4)]) dX1_doActs_260 rfl (by decide) rfl ?_
          refine sv_goto (pc := 263) (tgt := 3) dX1_doActs_263 (by decide) ?_
          refine mr_lvS (lv' := [(0, .ref 21), (1, .ref a1), (2, iv p2), (3, iv p3), (4, iv p4), (5, iv (z1989 + 1))]) (List.forall_mem_cons.mpr ⟨rfl, List.forall_mem_cons.mpr ⟨rfl, List.forall_mem_cons.mpr ⟨rfl, List.forall_mem_cons.mpr ⟨rfl, List.forall_mem_cons.mpr ⟨rfl, List.forall_mem_cons.mpr ⟨rfl, fun _ h => absurd h List.not_mem_nil⟩⟩⟩⟩⟩⟩) ?_
          exact ih1999 (z1989 + 1) μ2018 T2020 (mF.up (mF.call mF.refl F1994 rfl) (A_21 hw) u2019 rfl) (rW (c := 0) (d := 1000) (rAdd (e := 1) (f := 1000) h2001 (rR (x := 1)) rfl) rfl) (PC.keep I1996 hw ((mF.up mF.refl (A_21 hw) u2019 rfl) : mF [21006] w μ1990 μ2018) rfl) (RT.keep I1997 hw ((mF.up mF.refl (A_21 hw) u2019 rfl) : mF [21006] w μ1990 μ2018) rfl) (vc_X1_doActs_12_13 (nS h1998) h2000 h4 h3 hp2 h2002 h2001)
        by_cases h2052 : z2021 = 20
        · refine mr_tableIn (pc := 62) (v := 20) (tgt := 260) dX1_doActs_62 h2052 rfl rfl (by decide) ?_
          have h2053 : 20 ≤ z2021 ∧ z2021 ≤ 20 := (vc_X1_doActs_12_21 h2052 h2032 h2040 h2042 h2044 h2046 h2048 h2050 h2023)
          refine mr_iinc (pc := 260) (lv' := [(5, iv (z1989 + 1)), (6, iv z2009), (0, .ref 21), (1, .ref a1), (2, iv p2), (3, iv p3), (4, iv p4)]) dX1_doActs_260 rfl (by decide) rfl ?_
          refine sv_goto (pc := 263) (tgt := 3) dX1_doActs_263 (by decide) ?_
          refine mr_lvS (lv' := [(0, .ref 21), (1, .ref a1), (2, iv p2), (3, iv p3), (4, iv p4), (5, iv (z1989 + 1))]) (List.forall_mem_cons.mpr ⟨rfl, List.forall_mem_cons.mpr ⟨rfl, List.forall_mem_cons.mpr ⟨rfl, List.forall_mem_cons.mpr ⟨rfl, List.forall_mem_cons.mpr ⟨rfl, List.forall_mem_cons.mpr ⟨rfl, fun _ h => absurd h List.not_mem_nil⟩⟩⟩⟩⟩⟩) ?_
          exact ih1999 (z1989 + 1) μ2018 T2020 (mF.up (mF.call mF.refl F1994 rfl) (A_21 hw) u2019 rfl) (rW (c := 0) (d := 1000) (rAdd (e := 1) (f := 1000) h2001 (rR (x := 1)) rfl) rfl) (PC.keep I1996 hw ((mF.up mF.refl (A_21 hw) u2019 rfl) : mF [21006] w μ1990 μ2018) rfl) (RT.keep I1997 hw ((mF.up mF.refl (A_21 hw) u2019 rfl) : mF [21006] w μ1990 μ2018) rfl) (vc_X1_doActs_12_13 (nS h1998) h2000 h4 h3 hp2 h2002 h2001)
        by_cases h2054 : z2021 = 21
        · refine mr_tableIn (pc := 62) (v := 21) (tgt := 260) dX1_doActs_62 h2054 rfl rfl (by decide) ?_
          have h2055 : 21 ≤ z2021 ∧ z2021 ≤ 21 := (vc_X1_doActs_12_22 h2054 h2040 h2042 h2044 h2046 h2048 h2050 h2052 h2023)
          refine mr_iinc (pc := 260) (lv' := [(5, iv (z1989 + 1)), (6, iv z2009), (0, .ref 21), (1, .ref a1), (2, iv p2), (3, iv p3), (4, iv p4)]) dX1_doActs_260 rfl (by decide) rfl ?_
          refine sv_goto (pc := 263) (tgt := 3) dX1_doActs_263 (by decide) ?_
          refine mr_lvS (lv' := [(0, .ref 21), (1, .ref a1), (2, iv p2), (3, iv p3), (4, iv p4), (5, iv (z1989 + 1))]) (List.forall_mem_cons.mpr ⟨rfl, List.forall_mem_cons.mpr ⟨rfl, List.forall_mem_cons.mpr ⟨rfl, List.forall_mem_cons.mpr ⟨rfl, List.forall_mem_cons.mpr ⟨rfl, List.forall_mem_cons.mpr ⟨rfl, fun _ h => absurd h List.not_mem_nil⟩⟩⟩⟩⟩⟩) ?_
          exact ih1999 (z1989 + 1) μ2018 T2020 (mF.up (mF.call mF.refl F1994 rfl) (A_21 hw) u2019 rfl) (rW (c := 0) (d := 1000) (rAdd (e := 1) (f := 1000) h2001 (rR (x := 1)) rfl) rfl) (PC.keep I1996 hw ((mF.up mF.refl (A_21 hw) u2019 rfl) : mF [21006] w μ1990 μ2018) rfl) (RT.keep I1997 hw ((mF.up mF.refl (A_21 hw) u2019 rfl) : mF [21006] w μ1990 μ2018) rfl) (vc_X1_doActs_12_13 (nS h1998) h2000 h4 h3 hp2 h2002 h2001)
        by_cases h2056 : z2021 = 22
        · refine mr_tableIn (pc := 62) (v := 22) (tgt := 260) dX1_doActs_62 h2056 rfl rfl (by decide) ?_
          have h2057 : 22 ≤ z2021 ∧ z2021 ≤ 22 := (vc_X1_doActs_12_23 h2056 h2042 h2044 h2046 h2048 h2050 h2052 h2054 h2023)
          refine mr_iinc (pc := 260) (lv' := [(5, iv (z1989 + 1)), (6, iv z2009), (0, .ref 21), (1, .ref a1), (2, iv p2), (3, iv p3), (4, iv p4)]) dX1_doActs_260 rfl (by decide) rfl ?_
          refine sv_goto (pc := 263) (tgt := 3) dX1_doActs_263 (by decide) ?_
          refine mr_lvS (lv' := [(0, .ref 21), (1, .ref a1), (2, iv p2), (3, iv p3), (4, iv p4), (5, iv (z1989 + 1))]) (List.forall_mem_cons.mpr ⟨rfl, List.forall_mem_cons.mpr ⟨rfl, List.forall_mem_cons.mpr ⟨rfl, List.forall_mem_cons.mpr ⟨rfl, List.forall_mem_cons.mpr ⟨rfl, List.forall_mem_cons.mpr ⟨rfl, fun _ h => absurd h List.not_mem_nil⟩⟩⟩⟩⟩⟩) ?_
          exact ih1999 (z1989 + 1) μ2018 T2020 (mF.up (mF.call mF.refl F1994 rfl) (A_21 hw) u2019 rfl) (rW (c := 0) (d := 1000) (rAdd (e := 1) (f := 1000) h2001 (rR (x := 1)) rfl) rfl) (PC.keep I1996 hw ((mF.up mF.refl (A_21 hw) u2019 rfl) : mF [21006] w μ1990 μ2018) rfl) (RT.keep I1997 hw ((mF.up mF.refl (A_21 hw) u2019 rfl) : mF [21006] w μ1990 μ2018) rfl) (vc_X1_doActs_12_13 (nS h1998) h2000 h4 h3 hp2 h2002 h2001)
        by_cases h2058 : z2021 = 23
        · refine mr_tableIn (pc := 62) (v := 23) (tgt := 144) dX1_doActs_62 h2058 rfl rfl (by decide) ?_
          have h2059 : 23 ≤ z2021 ∧ z2021 ≤ 23 := (vc_X1_doActs_12_24 h2058 h2044 h2046 h2048 h2050 h2052 h2054 h2056 h2023)
          refine sv_aload_n (pc := 144) dX1_doActs_144 rfl rfl ?_
          refine mr_iconst (pc := 145) (z := 1) dX1_doActs_145 ?_
          refine pf_X1_7 (pc := 146) dX1_doActs_146 wF_X1_50 (A_21 hw) T2020 (rW (c := 0) (d := 2) (rR (x := 1)) rfl) fun μ2060 u2061 T2062 => ?_
          refine sv_goto (pc := 149) (tgt := 260) dX1_doActs_149 (by decide) ?_
          refine mr_iinc (pc := 260) (lv' := [(5, iv (z1989 + 1)), (6, iv z2009), (0, .ref 21), (1, .ref a1), (2, iv p2), (3, iv p3), (4, iv p4)]) dX1_doActs_260 rfl (by decide) rfl ?_
          refine sv_goto (pc := 263) (tgt := 3) dX1_doActs_263 (by decide) ?_
          refine mr_lvS (lv' := [(0, .ref 21), (1, .ref a1), (2, iv p2), (3, iv p3), (4, iv p4), (5, iv (z1989 + 1))]) (List.forall_mem_cons.mpr ⟨rfl, List.forall_mem_cons.mpr ⟨rfl, List.forall_mem_cons.mpr ⟨rfl, List.forall_mem_cons.mpr ⟨rfl, List.forall_mem_cons.mpr ⟨rfl, List.forall_mem_cons.mpr ⟨rfl, fun _ h => absurd h List.not_mem_nil⟩⟩⟩⟩⟩⟩) ?_
          exact ih1999 (z1989 + 1) μ2060 T2062 (mF.up (mF.up (mF.call mF.refl F1994 rfl) (A_21 hw) u2019 rfl) (A_21 hw) u2061 rfl) (rW (c := 0) (d := 1000) (rAdd (e := 1) (f := 1000) h2001 (rR (x := 1)) rfl) rfl) (PC.keep I1996 hw ((mF.up (mF.up mF.refl (A_21 hw) u2019 rfl) (A_21 hw) u2061 rfl) : mF [21006, 21007] w μ1990 μ2060) rfl) (RT.keep I1997 hw ((mF.up (mF.up mF.refl (A_21 hw) u2019 rfl) (A_21 hw) u2061 rfl) : mF [21006, 21007] w μ1990 μ2060) rfl) (vc_X1_doActs_12_13 (nS h1998) h2000 h4 h3 hp2 h2002 h2001)
        by_cases h2063 : z2021 = 24
        · refine mr_tableIn (pc := 62) (v := 24) (tgt := 152) dX1_doActs_62 h2063 rfl rfl (by decide) ?_
          have h2064 : 24 ≤ z2021 ∧ z2021 ≤ 24 := (vc_X1_doActs_12_25 h2063 h2046 h2048 h2050 h2052 h2054 h2056 h2058 h2023)
          refine sv_aload_n (pc := 152) dX1_doActs_152 rfl rfl ?_
          refine mr_iconst (pc := 153) (z := 2) dX1_doActs_153 ?_
          refine pf_X1_7 (pc := 154) dX1_doActs_154 wF_X1_50 (A_21 hw) T2020 (rW (c := 0) (d := 2) (rR (x := 2)) rfl) fun μ2065 u2066 T2067 => ?_
          refine sv_goto (pc := 157) (tgt := 260) dX1_doActs_157 (by decide) ?_
          refine mr_iinc (pc := 260) (lv' := [(5, iv (z1989 + 1)), (6, iv z2009), (0, .ref 21), (1, .ref a1), (2, iv p2), (3, iv p3), (4, iv p4)]) dX1_doActs_260 rfl (by decide) rfl ?_
          refine sv_goto (pc := 263) (tgt := 3) dX1_doActs_263 (by decide) ?_
          refine mr_lvS (lv' := [(0, .ref 21), (1, .ref a1), (2, iv p2), (3, iv p3), (4, iv p4), (5, iv (z1989 + 1))]) (List.forall_mem_cons.mpr ⟨rfl, List.forall_mem_cons.mpr ⟨rfl, List.forall_mem_cons.mpr ⟨rfl, List.forall_mem_cons.mpr ⟨rfl, List.forall_mem_cons.mpr ⟨rfl, List.forall_mem_cons.mpr ⟨rfl, fun _ h => absurd h List.not_mem_nil⟩⟩⟩⟩⟩⟩) ?_
          exact ih1999 (z1989 + 1) μ2065 T2067 (mF.up (mF.up (mF.call mF.refl F1994 rfl) (A_21 hw) u2019 rfl) (A_21 hw) u2066 rfl) (rW (c := 0) (d := 1000) (rAdd (e := 1) (f := 1000) h2001 (rR (x := 1)) rfl) rfl) (PC.keep I1996 hw ((mF.up (mF.up mF.refl (A_21 hw) u2019 rfl) (A_21 hw) u2066 rfl) : mF [21006, 21007] w μ1990 μ2065) rfl) (RT.keep I1997 hw ((mF.up (mF.up mF.refl (A_21 hw) u2019 rfl) (A_21 hw) u2066 rfl) : mF [21006, 21007] w μ1990 μ2065) rfl) (vc_X1_doActs_12_13 (nS h1998) h2000 h4 h3 hp2 h2002 h2001)
        by_cases h2068 : z2021 = 25
        · refine mr_tableIn (pc := 62) (v := 25) (tgt := 160) dX1_doActs_62 h2068 rfl rfl (by decide) ?_
          have h2069 : 25 ≤ z2021 ∧ z2021 ≤ 25 := (vc_X1_doActs_12_26 h2068 h2048 h2050 h2052 h2054 h2056 h2058 h2063 h2023)
          refine sv_aload_n (pc := 160) dX1_doActs_160 rfl rfl ?_
          refine gf_X1_2 (pc := 161) dX1_doActs_161 wF_X1_25 (A_21 hw) T2020 (RT.keep I1997 hw ((mF.up mF.refl (A_21 hw) u2019 rfl) : mF [21006] w μ1990 μ2018) rfl) fun b2070 q2071 A2072 => ?_
          refine mr_iload (pc := 164) (z := z2009) dX1_doActs_164 rfl ?_
          refine mr_cVV (pc := 166) (c_X7_addMark hw T2020 A2072 (rW (c := (-2147483648)) (d := 2147483647) h2012 rfl)) (gOk _ _ _ _ _) dX1_doActs_166 (tX7_addMark _ _ _ _ _) ⟨wV_X7_addMark, wL_X7_addMark⟩ wM_X1_124 (gCX7 _ _ _ _ _) rfl A2072 rfl ⟨le_t rfl, le_t rfl⟩ ⟨le_t rfl, le_t rfl⟩ rfl (le_t rfl) fun μ2073 T2074 F2075 h2076 => ?_
          refine sv_goto (pc := 169) (tgt := 260) dX1_doActs_169 (by decide) ?_
          refine mr_iinc (pc := 260) (lv' := [(5, iv (z1989 + 1)), (6, iv z2009), (0, .ref 21), (1, .ref a1), (2, iv p2), (3, iv p3), (4, iv p4)]) dX1_doActs_260 rfl (by decide) rfl ?_
          refine sv_goto (pc := 263) (tgt := 3) dX1_doActs_263 (by decide) ?_
          refine mr_lvS (lv' := [(0, .ref 21), (1, .ref a1), (2, iv p2), (3, iv p3), (4, iv p4), (5, iv (z1989 + 1))]) (List.forall_mem_cons.mpr ⟨rfl, List.forall_mem_cons.mpr ⟨rfl, List.forall_mem_cons.mpr ⟨rfl, List.forall_mem_cons.mpr ⟨rfl, List.forall_mem_cons.mpr ⟨rfl, List.forall_mem_cons.mpr ⟨rfl, fun _ h => absurd h List.not_mem_nil⟩⟩⟩⟩⟩⟩) ?_
          exact ih1999 (z1989 + 1) μ2073 T2074 (mF.call (mF.up (mF.call mF.refl F1994 rfl) (A_21 hw) u2019 rfl) F2075 rfl) (rW (c := 0) (d := 1000) (rAdd (e := 1) (f := 1000) h2001 (rR (x := 1)) rfl) rfl) (PC.keep I1996 hw ((mF.call (mF.up mF.refl (A_21 hw) u2019 rfl) F2075 rfl) : mF [21006, 200008, 202999] w μ1990 μ2073) rfl) (RT.keep I1997 hw ((mF.call (mF.up mF.refl (A_21 hw) u2019 rfl) F2075 rfl) : mF [21006, 200008, 202999] w μ1990 μ2073) rfl) (vc_X1_doActs_12_13 (nS h1998) h2000 h4 h3 hp2 h2002 h2001)
        by_cases h2077 : z2021 = 26
        · refine mr_tableIn (pc := 62) (v := 26) (tgt := 172) dX1_doActs_62 h2077 rfl rfl (by decide) ?_
          have h2078 : 26 ≤ z2021 ∧ z2021 ≤ 26 := (vc_X1_doActs_12_27 h2077 h2050 h2052 h2054 h2056 h2058 h2063 h2068 h2023)
          refine sv_aload_n (pc := 172) dX1_doActs_172 rfl rfl ?_
          refine gf_X1_2 (pc := 173) dX1_doActs_173 wF_X1_25 (A_21 hw) T2020 (RT.keep I1997 hw ((mF.up mF.refl (A_21 hw) u2019 rfl) : mF [21006] w μ1990 μ2018) rfl) fun b2079 q2080 A2081 => ?_
          refine mr_iload (pc := 176) (z := z2009) dX1_doActs_176 rfl ?_
          refine mr_cVV (pc := 178) (c_X7_dropMark hw T2020 A2081 (rW (c := (-2147483648)) (d := 2147483647) h2012 rfl)) (gOk _ _ _ _ _) dX1_doActs_178 (tX7_dropMark _ _ _ _ _) ⟨wV_X7_dropMark, wL_X7_dropMark⟩ wM_X1_128 (gCX7 _ _ _ _ _) rfl A2081 rfl ⟨le_t rfl, le_t rfl⟩ ⟨le_t rfl, le_t rfl⟩ rfl (le_t rfl) fun μ2082 T2083 F2084 h2085 => ?_
          refine sv_goto (pc := 181) (tgt := 260) dX1_doActs_181 (by decide) ?_
          refine mr_iinc (pc := 260) (lv' := [(5, iv (z1989 + 1)), (6, iv z2009), (0, .ref 21), (1, .ref a1), (2, iv p2), (3, iv p3), (4, iv p4)]) dX1_doActs_260 rfl (by decide) rfl ?_
          refine sv_goto (pc := 263) (tgt := 3) dX1_doActs_263 (by decide) ?_
          refine mr_lvS (lv' := [(0, .ref 21), (1, .ref a1), (2, iv p2), (3, iv p3), (4, iv p4), (5, iv (z1989 + 1))]) (List.forall_mem_cons.mpr ⟨rfl, List.forall_mem_cons.mpr ⟨rfl, List.forall_mem_cons.mpr ⟨rfl, List.forall_mem_cons.mpr ⟨rfl, List.forall_mem_cons.mpr ⟨rfl, List.forall_mem_cons.mpr ⟨rfl, fun _ h => absurd h List.not_mem_nil⟩⟩⟩⟩⟩⟩) ?_
          exact ih1999 (z1989 + 1) μ2082 T2083 (mF.call (mF.up (mF.call mF.refl F1994 rfl) (A_21 hw) u2019 rfl) F2084 rfl) (rW (c := 0) (d := 1000) (rAdd (e := 1) (f := 1000) h2001 (rR (x := 1)) rfl) rfl) (PC.keep I1996 hw ((mF.call (mF.up mF.refl (A_21 hw) u2019 rfl) F2084 rfl) : mF [21006, 200008, 202999] w μ1990 μ2082) rfl) (RT.keep I1997 hw ((mF.call (mF.up mF.refl (A_21 hw) u2019 rfl) F2084 rfl) : mF [21006, 200008, 202999] w μ1990 μ2082) rfl) (vc_X1_doActs_12_13 (nS h1998) h2000 h4 h3 hp2 h2002 h2001)
        by_cases h2086 : z2021 = 27
        · refine mr_tableIn (pc := 62) (v := 27) (tgt := 208) dX1_doActs_62 h2086 rfl rfl (by decide) ?_
          have h2087 : 27 ≤ z2021 ∧ z2021 ≤ 27 := (vc_X1_doActs_12_28 h2086 h2052 h2054 h2056 h2058 h2063 h2068 h2077 h2023)
          refine sv_aload_n (pc := 208) dX1_doActs_208 rfl rfl ?_
          refine gf_X1_2 (pc := 209) dX1_doActs_209 wF_X1_25 (A_21 hw) T2020 (RT.keep I1997 hw ((mF.up mF.refl (A_21 hw) u2019 rfl) : mF [21006] w μ1990 μ2018) rfl) fun b2088 q2089 A2090 => ?_
          refine gf_X7_7 (pc := 212) dX1_doActs_212 wF_X1_96 A2090 T2020 fun z2091 q2092 h2093 => ?_
          have J2116 : ∀ (μ2110 : mM), (mT w μ2110) → (mF [21007, 200007, 201999] w μ2018 μ2110) → (PC w μ2110) → (RT μ2110) → sV (gG l D c H0 sa) mX1_doActs (sRm 4 0 0) (sZ (gG l D c H0 sa) 0 0 (qV w [21006, 21007, 200004, 200006, 200007, 200008, 201999, 202999] μ (fun μ1 => True))) 260 [(0, .ref 21), (1, .ref a1), (2, iv p2), (3, iv p3), (4, iv p4), (5, iv z1989)] [] (mk w μ2110) 0 0 := by
            intro μ2110 T2111 F2112 I2114 I2115
            refine mr_iinc (pc := 260) (lv' := [(5, iv (z1989 + 1)), (0, .ref 21), (1, .ref a1), (2, iv p2), (3, iv p3), (4, iv p4)]) dX1_doActs_260 rfl (by decide) rfl ?_
            refine sv_goto (pc := 263) (tgt := 3) dX1_doActs_263 (by decide) ?_
            refine mr_lvS (lv' := [(0, .ref 21), (1, .ref a1), (2, iv p2), (3, iv p3), (4, iv p4), (5, iv (z1989 + 1))]) (List.forall_mem_cons.mpr ⟨rfl, List.forall_mem_cons.mpr ⟨rfl, List.forall_mem_cons.mpr ⟨rfl, List.forall_mem_cons.mpr ⟨rfl, List.forall_mem_cons.mpr ⟨rfl, List.forall_mem_cons.mpr ⟨rfl, fun _ h => absurd h List.not_mem_nil⟩⟩⟩⟩⟩⟩) ?_
            exact ih1999 (z1989 + 1) μ2110 T2111 (mF.call (mF.up (mF.call mF.refl F1994 rfl) (A_21 hw) u2019 rfl) F2112 rfl) (rW (c := 0) (d := 1000) (rAdd (e := 1) (f := 1000) h2001 (rR (x := 1)) rfl) rfl) I2114 I2115 (vc_X1_doActs_12_13 (nS h1998) h2000 h4 h3 hp2 h2002 h2001)
          refine mr_if_le (pc := 215) (tgt := 260) dX1_doActs_215 (by decide) (r32 h2093 rfl) (fun h2117 => ?_) (fun h2117 => ?_)
          · have h2118 : 0 ≤ z2091 ∧ z2091 ≤ 0 := (vc_X12_unlike_21 h2117 h2093)
            refine mr_lvS (lv' := [(0, .ref 21), (1, .ref a1), (2, iv p2), (3, iv p3), (4, iv p4), (5, iv z1989)]) (List.forall_mem_cons.mpr ⟨rfl, List.forall_mem_cons.mpr ⟨rfl, List.forall_mem_cons.mpr ⟨rfl, List.forall_mem_cons.mpr ⟨rfl, List.forall_mem_cons.mpr ⟨rfl, List.forall_mem_cons.mpr ⟨rfl, fun _ h => absurd h List.not_mem_nil⟩⟩⟩⟩⟩⟩) ?_
            exact J2116 μ2018 T2020 mF.refl (PC.keep I1996 hw ((mF.up mF.refl (A_21 hw) u2019 rfl) : mF [21006] w μ1990 μ2018) rfl) (RT.keep I1997 hw ((mF.up mF.refl (A_21 hw) u2019 rfl) : mF [21006] w μ1990 μ2018) rfl)
          have h2119 : 1 ≤ z2091 ∧ z2091 ≤ 20 := (vc_X12_unlike_22 h2117 h2093)
          refine sv_aload_n (pc := 218) dX1_doActs_218 rfl rfl ?_
          refine gk_X1_2 (pc := 219) dX1_doActs_219 wF_X1_25 (A_21 hw) q2089 ?_
          refine sv_aload_n (pc := 222) dX1_doActs_222 rfl rfl ?_
          refine gk_X1_2 (pc := 223) dX1_doActs_223 wF_X1_25 (A_21 hw) q2089 ?_
          refine gf_X7_0 (pc := 226) dX1_doActs_226 wF_X1_114 A2090 T2020 fun A2120 => ?_
          refine mr_iconst (pc := 229) (z := 0) dX1_doActs_229 ?_
          refine la_201 (pc := 230) dX1_doActs_230 A2120 T2020 (rIx (n := 20) (rR (x := 0)) rfl) fun z2121 q2122 h2123 => ?_
          refine mr_iload (pc := 231) (z := z2009) dX1_doActs_231 rfl ?_
          refine mr_cVI (pc := 233) (c_X7_putInFront hw T2020 A2090 h2123 (rW (c := (-2147483648)) (d := 1000000) h2012 rfl)) (gOk _ _ _ _ _) dX1_doActs_233 (tX7_putInFront _ _ _ _ _) ⟨wV_X7_putInFront, wL_X7_putInFront⟩ wM_X1_131 (gCX7 _ _ _ _ _) rfl A2090 rfl ⟨le_t rfl, le_t rfl⟩ ⟨le_t rfl, le_t rfl⟩ rfl (le_t rfl) fun z2128 μ2124 T2125 F2126 h2127 => ?_
          refine mr_if_ne (pc := 236) (tgt := 260) dX1_doActs_236 (by decide) (r32 h2127.1 rfl) (fun h2129 => ?_) (fun h2129 => ?_)
          · have h2130 : 1 ≤ z2128 ∧ z2128 ≤ 1 := (vc_X12_ring_24 h2129 h2127.1)
            refine mr_lvS (lv' := [(0, .ref 21), (1, .ref a1), (2, iv p2), (3, iv p3), (4, iv p4), (5, iv z1989)]) (List.forall_mem_cons.mpr ⟨rfl, List.forall_mem_cons.mpr ⟨rfl, List.forall_mem_cons.mpr ⟨rfl, List.forall_mem_cons.mpr ⟨rfl, List.forall_mem_cons.mpr ⟨rfl, List.forall_mem_cons.mpr ⟨rfl, fun _ h => absurd h List.not_mem_nil⟩⟩⟩⟩⟩⟩) ?_
            exact J2116 μ2124 T2125 (mF.call mF.refl F2126 rfl) (PC.keep I1996 hw ((mF.call (mF.up mF.refl (A_21 hw) u2019 rfl) F2126 rfl) : mF [21006, 200007, 201999] w μ1990 μ2124) rfl) (RT.keep I1997 hw ((mF.call (mF.up mF.refl (A_21 hw) u2019 rfl) F2126 rfl) : mF [21006, 200007, 201999] w μ1990 μ2124) rfl)
          have h2131 : 0 ≤ z2128 ∧ z2128 ≤ 0 := (vc_X12_ring_22 h2129 h2127.1)
          refine sv_aload_n (pc := 239) dX1_doActs_239 rfl rfl ?_
          refine mr_iconst (pc := 240) (z := 2) dX1_doActs_240 ?_
          refine pf_X1_7 (pc := 241) dX1_doActs_241 wF_X1_50 (A_21 hw) T2125 (rW (c := 0) (d := 2) (rR (x := 2)) rfl) fun μ2132 u2133 T2134 => ?_
          refine sv_goto (pc := 244) (tgt := 260) dX1_doActs_244 (by decide) ?_
          refine mr_lvS (lv' := [(0, .ref 21), (1, .ref a1), (2, iv p2), (3, iv p3), (4, iv p4), (5, iv z1989)]) (List.forall_mem_cons.mpr ⟨rfl, List.forall_mem_cons.mpr ⟨rfl, List.forall_mem_cons.mpr ⟨rfl, List.forall_mem_cons.mpr ⟨rfl, List.forall_mem_cons.mpr ⟨rfl, List.forall_mem_cons.mpr ⟨rfl, fun _ h => absurd h List.not_mem_nil⟩⟩⟩⟩⟩⟩) ?_
          exact J2116 μ2132 T2134 (mF.up (mF.call mF.refl F2126 rfl) (A_21 hw) u2133 rfl) (PC.keep I1996 hw ((mF.up (mF.call (mF.up mF.refl (A_21 hw) u2019 rfl) F2126 rfl) (A_21 hw) u2133 rfl) : mF [21006, 21007, 200007, 201999] w μ1990 μ2132) rfl) (RT.keep I1997 hw ((mF.up (mF.call (mF.up mF.refl (A_21 hw) u2019 rfl) F2126 rfl) (A_21 hw) u2133 rfl) : mF [21006, 21007, 200007, 201999] w μ1990 μ2132) rfl)
        by_cases h2135 : z2021 = 28
        · refine mr_tableIn (pc := 62) (v := 28) (tgt := 247) dX1_doActs_62 h2135 rfl rfl (by decide) ?_
          have h2136 : 28 ≤ z2021 ∧ z2021 ≤ 28 := (vc_X1_doActs_12_33 h2135 h2054 h2056 h2058 h2063 h2068 h2077 h2086 h2023)
          refine sv_aload_n (pc := 247) dX1_doActs_247 rfl rfl ?_
          refine mr_iload (pc := 248) (z := z2009) dX1_doActs_248 rfl ?_
          refine mr_iload (pc := 250) (z := p4) dX1_doActs_250 rfl ?_
          refine mr_iconst (pc := 252) (z := 1) dX1_doActs_252 ?_
          refine mr_iadd (pc := 253) (x := p4) (y := 1) dX1_doActs_253 ?_
          refine mr_cVV (pc := 254) (c_X1_goThrough_13 hw T2020 (rW (c := (-2147483648)) (d := 2147483647) h2012 rfl) (rAdd (e := 13) (f := 13) hp4 (rR (x := 1)) rfl) (PC.keep I1996 hw ((mF.up mF.refl (A_21 hw) u2019 rfl) : mF [21006] w μ1990 μ2018) rfl) (RT.keep I1997 hw ((mF.up mF.refl (A_21 hw) u2019 rfl) : mF [21006] w μ1990 μ2018) rfl)) (gOk _ _ _ _ _) dX1_doActs_254 (tX1_goThrough _ _ _ _ _) ⟨wV_X1_goThrough, wL_X1_goThrough⟩ wM_X1_53 (gCX1 _ _ _ _ _) rfl (A_21 hw) rfl ⟨le_t rfl, le_t rfl⟩ ⟨le_t rfl, le_t rfl⟩ rfl (le_t rfl) fun μ2137 T2138 F2139 h2140 => ?_
          refine sv_goto (pc := 257) (tgt := 260) dX1_doActs_257 (by decide) ?_
          refine mr_iinc (pc := 260) (lv' := [(5, iv (z1989 + 1)), (6, iv z2009), (0, .ref 21), (1, .ref a1), (2, iv p2), (3, iv p3), (4, iv p4)]) dX1_doActs_260 rfl (by decide) rfl ?_
          refine sv_goto (pc := 263) (tgt := 3) dX1_doActs_263 (by decide) ?_
          refine mr_lvS (lv' := [(0, .ref 21), (1, .ref a1), (2, iv p2), (3, iv p3), (4, iv p4), (5, iv (z1989 + 1))]) (List.forall_mem_cons.mpr ⟨rfl, List.forall_mem_cons.mpr ⟨rfl, List.forall_mem_cons.mpr ⟨rfl, List.forall_mem_cons.mpr ⟨rfl, List.forall_mem_cons.mpr ⟨rfl, List.forall_mem_cons.mpr ⟨rfl, fun _ h => absurd h List.not_mem_nil⟩⟩⟩⟩⟩⟩) ?_
          exact ih1999 (z1989 + 1) μ2137 T2138 (mF.call (mF.up (mF.call mF.refl F1994 rfl) (A_21 hw) u2019 rfl) F2139 rfl) (rW (c := 0) (d := 1000) (rAdd (e := 1) (f := 1000) h2001 (rR (x := 1)) rfl) rfl) (PC.keep I1996 hw ((mF.call (mF.up mF.refl (A_21 hw) u2019 rfl) F2139 rfl) : mF [21006] w μ1990 μ2137) rfl) (RT.keep I1997 hw ((mF.call (mF.up mF.refl (A_21 hw) u2019 rfl) F2139 rfl) : mF [21006] w μ1990 μ2137) rfl) (vc_X1_doActs_12_13 (nS h1998) h2000 h4 h3 hp2 h2002 h2001)
        refine mr_tableOut (pc := 62) (tgt := 260) dX1_doActs_62 h2023 (vc_X1_doActs_12_34 h2024 h2032 h2040 h2042 h2044 h2046 h2048 h2050 h2052 h2054 h2056 h2058 h2063 h2068 h2077 h2086 h2135 h2023) (by decide) ?_
        refine mr_iinc (pc := 260) (lv' := [(5, iv (z1989 + 1)), (6, iv z2009), (0, .ref 21), (1, .ref a1), (2, iv p2), (3, iv p3), (4, iv p4)]) dX1_doActs_260 rfl (by decide) rfl ?_
        refine sv_goto (pc := 263) (tgt := 3) dX1_doActs_263 (by decide) ?_
        refine mr_lvS (lv' := [(0, .ref 21), (1, .ref a1), (2, iv p2), (3, iv p3), (4, iv p4), (5, iv (z1989 + 1))]) (List.forall_mem_cons.mpr ⟨rfl, List.forall_mem_cons.mpr ⟨rfl, List.forall_mem_cons.mpr ⟨rfl, List.forall_mem_cons.mpr ⟨rfl, List.forall_mem_cons.mpr ⟨rfl, List.forall_mem_cons.mpr ⟨rfl, fun _ h => absurd h List.not_mem_nil⟩⟩⟩⟩⟩⟩) ?_
        exact ih1999 (z1989 + 1) μ2018 T2020 (mF.up (mF.call mF.refl F1994 rfl) (A_21 hw) u2019 rfl) (rW (c := 0) (d := 1000) (rAdd (e := 1) (f := 1000) h2001 (rR (x := 1)) rfl) rfl) (PC.keep I1996 hw ((mF.up mF.refl (A_21 hw) u2019 rfl) : mF [21006] w μ1990 μ2018) rfl) (RT.keep I1997 hw ((mF.up mF.refl (A_21 hw) u2019 rfl) : mF [21006] w μ1990 μ2018) rfl) (vc_X1_doActs_12_13 (nS h1998) h2000 h4 h3 hp2 h2002 h2001)
      have h2141 : 500 ≤ z2013 ∧ z2013 ≤ 500 := (vc_X1_doActs_12_35 h2016 h2015)
      refine sv_aload_n (pc := 38) dX1_doActs_38 rfl rfl ?_
      refine mr_iconst (pc := 39) (z := 2) dX1_doActs_39 ?_
      refine pf_X1_7 (pc := 40) dX1_doActs_40 wF_X1_50 (A_21 hw) T1993 (rW (c := 0) (d := 2) (rR (x := 2)) rfl) fun μ2142 u2143 T2144 => ?_
      exact mr_vret dX1_doActs_43 rfl (le_t rfl) (le_t rfl) T2144 (mF.up (mF.call mF.refl F1994 rfl) (A_21 hw) u2143 rfl) trivial
  refine mr_lvS (lv' := [(0, .ref 21), (1, .ref a1), (2, iv p2), (3, iv p3), (4, iv p4), (5, iv 0)]) (List.forall_mem_cons.mpr ⟨rfl, List.forall_mem_cons.mpr ⟨rfl, List.forall_mem_cons.mpr ⟨rfl, List.forall_mem_cons.mpr ⟨rfl, List.forall_mem_cons.mpr ⟨rfl, List.forall_mem_cons.mpr ⟨rfl, fun _ h => absurd h List.not_mem_nil⟩⟩⟩⟩⟩⟩) ?_
  exact L1991 1002 0 μ hT mF.refl (rW (c := 0) (d := 1000) (rR (x := 0)) rfl) hIPC hIRT vc_X1_doActs_12_36
theorem vc_X1_goThrough_12_5 {p2 : Int} (h0 : 12 < p2) (h1 : 12 ≤ p2 ∧ p2 ≤ 12) : False := by omega
theorem vc_X1_goThrough_12_6 {n2 p1 z4 : Int} (h0 : 0 ≤ p1) (h1 : z4 = n2) (h2 : p1 < z4) (h3 : 0 ≤ p1 ∧ p1 ≤ 11) (h4 : 1 ≤ z4 ∧ z4 ≤ 12) : p1 < n2 := by omega
theorem vc_X1_goThrough_12_7 {n2 p1 z4 : Int} (h0 : 0 ≤ p1) (h1 : p1 < z4) (h2 : z4 = n2) (h3 : 0 ≤ p1 ∧ p1 ≤ 11) (h4 : 1 ≤ z4 ∧ z4 ≤ 12) : 0 ≤ p1 := by omega
theorem vc_X1_goThrough_12_8 {z1190 : Int} (h0 : (2001 - z1190) < ((0 : Nat) : Int)) (h1 : 0 ≤ z1190 ∧ z1190 ≤ 2000) : False := by omega
theorem vc_X1_goThrough_12_13 {z1190 : Int} (h0 : 0 ≤ z1190 ∧ z1190 ≤ 2000) : 0 ≤ z1190 := by omega
theorem vc_X1_goThrough_12_14 {z1189 z14 : Int} (h0 : z1189 < z14) (h1 : 0 ≤ z1189 ∧ z1189 ≤ 29) (h2 : 1 ≤ z14 ∧ z14 ≤ 30) : z1189 < z14 := by omega
theorem vc_X1_goThrough_12_15 {n_1335 z1190 : Int} (h0 : z1190 + 1 < n_1335) (h1 : 0 ≤ n_1335 ∧ n_1335 ≤ 2000) (h2 : 0 ≤ z1190 ∧ z1190 ≤ 2000) : 0 ≤ z1190 ∧ z1190 < n_1335 := by omega
theorem vc_X1_goThrough_12_16 {n_1335 z1190 : Int} (h0 : z1190 + 1 < n_1335) (h1 : 0 ≤ n_1335 ∧ n_1335 ≤ 2000) (h2 : 0 ≤ z1190 ∧ z1190 ≤ 2000) : 0 ≤ (z1190 + 1) ∧ (z1190 + 1) < n_1335 := by omega
theorem vc_X1_goThrough_12_17 {n_1335 z1190 z1339 z1342 : Int} (h0 : 0 ≤ z1339 ∧ 0 ≤ z1342 ∧ z1190 + 2 + 5 * z1339 + 2 * z1342 ≤ n_1335) (h1 : z1190 + 1 < n_1335) (h2 : 0 ≤ n_1335 ∧ n_1335 ≤ 2000) (h3 : 0 ≤ z1190 ∧ z1190 ≤ 2000) (h4 : (-2147483648) ≤ z1339 ∧ z1339 ≤ 2147483647) (h5 : (-2147483648) ≤ z1342 ∧ z1342 ≤ 2147483647) : 0 ≤ z1339 ∧ z1339 ≤ 400 := by omega
theorem vc_X1_goThrough_12_18 {n_1335 z1190 z1339 z1342 : Int} (h0 : 0 ≤ z1339 ∧ 0 ≤ z1342 ∧ z1190 + 2 + 5 * z1339 + 2 * z1342 ≤ n_1335) (h1 : z1190 + 1 < n_1335) (h2 : 0 ≤ n_1335 ∧ n_1335 ≤ 2000) (h3 : 0 ≤ z1190 ∧ z1190 ≤ 2000) (h4 : 0 ≤ z1339 ∧ z1339 ≤ 400) (h5 : (-2147483648) ≤ z1342 ∧ z1342 ≤ 2147483647) : 0 ≤ z1342 ∧ z1342 ≤ 1000 := by omega
theorem vc_X1_goThrough_12_19 {n_1335 z1190 z1339 z1342 z1466 : Int} (h0 : (2011 - z1466) < ((0 : Nat) : Int)) (h1 : (((z1190 + 2) + (z1339 * 5)) - z1466) % 5 = 0) (h2 : z1190 + 1 < n_1335) (h3 : 0 ≤ z1339 ∧ 0 ≤ z1342 ∧ z1190 + 2 + 5 * z1339 + 2 * z1342 ≤ n_1335) (h4 : 0 ≤ n_1335 ∧ n_1335 ≤ 2000) (h5 : 0 ≤ z1190 ∧ z1190 ≤ 2000) (h6 : 0 ≤ z1339 ∧ z1339 ≤ 400) (h7 : 0 ≤ z1342 ∧ z1342 ≤ 1000) (h8 : 2 ≤ z1466 ∧ z1466 ≤ 2010) : False := by omega
theorem vc_X1_goThrough_12_21 {n_1335 z1190 z1339 z1342 z1466 : Int} (h0 : z1190 + 1 < n_1335) (h1 : 0 ≤ z1339 ∧ 0 ≤ z1342 ∧ z1190 + 2 + 5 * z1339 + 2 * z1342 ≤ n_1335) (h2 : (((z1190 + 2) + (z1339 * 5)) - z1466) % 5 = 0) (h3 : 0 ≤ n_1335 ∧ n_1335 ≤ 2000) (h4 : 0 ≤ z1190 ∧ z1190 ≤ 2000) (h5 : 0 ≤ z1339 ∧ z1339 ≤ 400) (h6 : 0 ≤ z1342 ∧ z1342 ≤ 1000) (h7 : 2 ≤ z1466 ∧ z1466 ≤ 2010) : 0 ≤ (((z1190 + 2) + (z1339 * 5)) + (z1342 * 2)) ∧ (((z1190 + 2) + (z1339 * 5)) + (z1342 * 2)) ≤ 2000 := by omega
theorem vc_X1_goThrough_12_22 {N n_1335 z1190 z1339 z1342 z1466 : Int} (h0 : (2001 - z1190) < N + 1) (h1 : z1190 + 1 < n_1335) (h2 : 0 ≤ z1339 ∧ 0 ≤ z1342 ∧ z1190 + 2 + 5 * z1339 + 2 * z1342 ≤ n_1335) (h3 : (((z1190 + 2) + (z1339 * 5)) - z1466) % 5 = 0) (h4 : 0 ≤ n_1335 ∧ n_1335 ≤ 2000) (h5 : 0 ≤ z1190 ∧ z1190 ≤ 2000) (h6 : 0 ≤ z1339 ∧ z1339 ≤ 400) (h7 : 0 ≤ z1342 ∧ z1342 ≤ 1000) (h8 : 2 ≤ z1466 ∧ z1466 ≤ 2010) : (2001 - (((z1190 + 2) + (z1339 * 5)) + (z1342 * 2))) < N := by omega
theorem vc_X1_goThrough_12_23 {n_1335 z1190 z1339 z1342 z1466 : Int} (h0 : z1190 + 1 < n_1335) (h1 : 0 ≤ z1339 ∧ 0 ≤ z1342 ∧ z1190 + 2 + 5 * z1339 + 2 * z1342 ≤ n_1335) (h2 : (((z1190 + 2) + (z1339 * 5)) - z1466) % 5 = 0) (h3 : 0 ≤ n_1335 ∧ n_1335 ≤ 2000) (h4 : 0 ≤ z1190 ∧ z1190 ≤ 2000) (h5 : 0 ≤ z1339 ∧ z1339 ≤ 400) (h6 : 0 ≤ z1342 ∧ z1342 ≤ 1000) (h7 : 2 ≤ z1466 ∧ z1466 ≤ 2010) : (((z1190 + 2) + (z1339 * 5)) + (z1342 * 2)) = z1190 + 2 + 5 * z1339 + 2 * z1342 := by omega
theorem vc_X1_goThrough_12_25 {n_1335 z1190 z1339 z1342 z1466 : Int} (h0 : z1190 + 1 < n_1335) (h1 : 0 ≤ z1339 ∧ 0 ≤ z1342 ∧ z1190 + 2 + 5 * z1339 + 2 * z1342 ≤ n_1335) (h2 : (((z1190 + 2) + (z1339 * 5)) - z1466) % 5 = 0) (h3 : 0 ≤ n_1335 ∧ n_1335 ≤ 2000) (h4 : 0 ≤ z1190 ∧ z1190 ≤ 2000) (h5 : 0 ≤ z1339 ∧ z1339 ≤ 400) (h6 : 0 ≤ z1342 ∧ z1342 ≤ 1000) (h7 : 2 ≤ z1466 ∧ z1466 ≤ 2010) : 0 ≤ ((z1190 + 2) + (z1339 * 5)) ∧ ((z1190 + 2) + (z1339 * 5)) ≤ 2000 := by omega
theorem vc_X1_goThrough_12_26 {n_1335 z1190 z1339 z1342 z1466 : Int} (h0 : z1190 + 1 < n_1335) (h1 : 0 ≤ z1339 ∧ 0 ≤ z1342 ∧ z1190 + 2 + 5 * z1339 + 2 * z1342 ≤ n_1335) (h2 : (((z1190 + 2) + (z1339 * 5)) - z1466) % 5 = 0) (h3 : 0 ≤ n_1335 ∧ n_1335 ≤ 2000) (h4 : 0 ≤ z1190 ∧ z1190 ≤ 2000) (h5 : 0 ≤ z1339 ∧ z1339 ≤ 400) (h6 : 0 ≤ z1342 ∧ z1342 ≤ 1000) (h7 : 2 ≤ z1466 ∧ z1466 ≤ 2010) : ((z1190 + 2) + (z1339 * 5)) + 2 * z1342 ≤ n_1335 := by omega
theorem vc_X1_goThrough_12_27 {n_1335 z1190 z1339 z1342 z1466 : Int} (h0 : z1190 + 1 < n_1335) (h1 : 0 ≤ z1339 ∧ 0 ≤ z1342 ∧ z1190 + 2 + 5 * z1339 + 2 * z1342 ≤ n_1335) (h2 : (((z1190 + 2) + (z1339 * 5)) - z1466) % 5 = 0) (h3 : 0 ≤ n_1335 ∧ n_1335 ≤ 2000) (h4 : 0 ≤ z1190 ∧ z1190 ≤ 2000) (h5 : 0 ≤ z1339 ∧ z1339 ≤ 400) (h6 : 0 ≤ z1342 ∧ z1342 ≤ 1000) (h7 : 2 ≤ z1466 ∧ z1466 ≤ 2010) : ((z1190 + 2) + (z1339 * 5)) = z1190 + 2 + 5 * z1339 := by omega
theorem vc_X1_goThrough_12_28 {n_1335 z1190 z1339 z1342 z1466 : Int} (h0 : (((z1190 + 2) + (z1339 * 5)) - z1466) % 5 = 0) (h1 : z1466 < ((z1190 + 2) + (z1339 * 5))) (h2 : z1190 + 1 < n_1335) (h3 : 0 ≤ z1339 ∧ 0 ≤ z1342 ∧ z1190 + 2 + 5 * z1339 + 2 * z1342 ≤ n_1335) (h4 : 0 ≤ n_1335 ∧ n_1335 ≤ 2000) (h5 : 0 ≤ z1190 ∧ z1190 ≤ 2000) (h6 : 0 ≤ z1339 ∧ z1339 ≤ 400) (h7 : 0 ≤ z1342 ∧ z1342 ≤ 1000) (h8 : 2 ≤ z1466 ∧ z1466 ≤ 2010) : 0 ≤ z1466 ∧ z1466 ≤ 2000 := by omega
theorem vc_X1_goThrough_12_29 {n_1335 z1190 z1339 z1342 z1466 : Int} (h0 : z1190 + 1 < n_1335) (h1 : 0 ≤ z1339 ∧ 0 ≤ z1342 ∧ z1190 + 2 + 5 * z1339 + 2 * z1342 ≤ n_1335) (h2 : (((z1190 + 2) + (z1339 * 5)) - z1466) % 5 = 0) (h3 : z1466 < ((z1190 + 2) + (z1339 * 5))) (h4 : 0 ≤ n_1335 ∧ n_1335 ≤ 2000) (h5 : 0 ≤ z1190 ∧ z1190 ≤ 2000) (h6 : 0 ≤ z1339 ∧ z1339 ≤ 400) (h7 : 0 ≤ z1342 ∧ z1342 ≤ 1000) (h8 : 2 ≤ z1466 ∧ z1466 ≤ 2010) : z1466 + 4 < n_1335 := by omega
theorem vc_X1_goThrough_12_30 {n_1335 z1190 z1339 z1342 z1466 : Int} (h0 : z1190 + 1 < n_1335) (h1 : 0 ≤ z1339 ∧ 0 ≤ z1342 ∧ z1190 + 2 + 5 * z1339 + 2 * z1342 ≤ n_1335) (h2 : (((z1190 + 2) + (z1339 * 5)) - z1466) % 5 = 0) (h3 : z1466 < ((z1190 + 2) + (z1339 * 5))) (h4 : 0 ≤ n_1335 ∧ n_1335 ≤ 2000) (h5 : 0 ≤ z1190 ∧ z1190 ≤ 2000) (h6 : 0 ≤ z1339 ∧ z1339 ≤ 400) (h7 : 0 ≤ z1342 ∧ z1342 ≤ 1000) (h8 : 2 ≤ z1466 ∧ z1466 ≤ 2010) : 0 ≤ (z1466 + 1) ∧ (z1466 + 1) < n_1335 := by omega
theorem vc_X1_goThrough_12_32 {n_1335 z1190 z1339 z1342 z1466 : Int} (h0 : (((z1190 + 2) + (z1339 * 5)) - z1466) % 5 = 0) (h1 : z1466 < ((z1190 + 2) + (z1339 * 5))) (h2 : z1190 + 1 < n_1335) (h3 : 0 ≤ z1339 ∧ 0 ≤ z1342 ∧ z1190 + 2 + 5 * z1339 + 2 * z1342 ≤ n_1335) (h4 : 0 ≤ n_1335 ∧ n_1335 ≤ 2000) (h5 : 0 ≤ z1190 ∧ z1190 ≤ 2000) (h6 : 0 ≤ z1339 ∧ z1339 ≤ 400) (h7 : 0 ≤ z1342 ∧ z1342 ≤ 1000) (h8 : 2 ≤ z1466 ∧ z1466 ≤ 2010) : 2 ≤ (z1466 + 5) ∧ (z1466 + 5) ≤ 2010 := by omega
theorem vc_X1_goThrough_12_33 {n_1335 z1190 z1339 z1342 z1466 : Int} (h0 : z1190 + 1 < n_1335) (h1 : 0 ≤ z1339 ∧ 0 ≤ z1342 ∧ z1190 + 2 + 5 * z1339 + 2 * z1342 ≤ n_1335) (h2 : (((z1190 + 2) + (z1339 * 5)) - z1466) % 5 = 0) (h3 : z1466 < ((z1190 + 2) + (z1339 * 5))) (h4 : 0 ≤ n_1335 ∧ n_1335 ≤ 2000) (h5 : 0 ≤ z1190 ∧ z1190 ≤ 2000) (h6 : 0 ≤ z1339 ∧ z1339 ≤ 400) (h7 : 0 ≤ z1342 ∧ z1342 ≤ 1000) (h8 : 2 ≤ z1466 ∧ z1466 ≤ 2010) : (((z1190 + 2) + (z1339 * 5)) - (z1466 + 5)) % 5 = 0 := by omega
theorem vc_X1_goThrough_12_34 {N n_1335 z1190 z1339 z1342 z1466 : Int} (h0 : (2011 - z1466) < N + 1) (h1 : (((z1190 + 2) + (z1339 * 5)) - z1466) % 5 = 0) (h2 : z1466 < ((z1190 + 2) + (z1339 * 5))) (h3 : z1190 + 1 < n_1335) (h4 : 0 ≤ z1339 ∧ 0 ≤ z1342 ∧ z1190 + 2 + 5 * z1339 + 2 * z1342 ≤ n_1335) (h5 : 0 ≤ n_1335 ∧ n_1335 ≤ 2000) (h6 : 0 ≤ z1190 ∧ z1190 ≤ 2000) (h7 : 0 ≤ z1339 ∧ z1339 ≤ 400) (h8 : 0 ≤ z1342 ∧ z1342 ≤ 1000) (h9 : 2 ≤ z1466 ∧ z1466 ≤ 2010) : (2011 - (z1466 + 5)) < N := by omega
theorem vc_X1_goThrough_12_37 {z1514 : Int} (h0 : z1514 = 1) (h1 : 0 ≤ z1514 ∧ z1514 ≤ 1) : 1 ≤ z1514 ∧ z1514 ≤ 1 := by omega
theorem vc_X1_goThrough_12_38 {z1514 : Int} (h0 : ¬ z1514 = 1) (h1 : 0 ≤ z1514 ∧ z1514 ≤ 1) : 0 ≤ z1514 ∧ z1514 ≤ 0 := by omega
theorem vc_X1_goThrough_12_39 {n_1335 z1190 z1339 z1342 : Int} (h0 : z1190 + 1 < n_1335) (h1 : 0 ≤ z1339 ∧ 0 ≤ z1342 ∧ z1190 + 2 + 5 * z1339 + 2 * z1342 ≤ n_1335) (h2 : 0 ≤ n_1335 ∧ n_1335 ≤ 2000) (h3 : 0 ≤ z1190 ∧ z1190 ≤ 2000) (h4 : 0 ≤ z1339 ∧ z1339 ≤ 400) (h5 : 0 ≤ z1342 ∧ z1342 ≤ 1000) : (((z1190 + 2) + (z1339 * 5)) - (z1190 + 2)) % 5 = 0 := by omega
theorem vc_X1_goThrough_12_40 {n_1335 z1190 z1339 z1342 : Int} (h0 : z1190 + 1 < n_1335) (h1 : 0 ≤ z1339 ∧ 0 ≤ z1342 ∧ z1190 + 2 + 5 * z1339 + 2 * z1342 ≤ n_1335) (h2 : 0 ≤ n_1335 ∧ n_1335 ≤ 2000) (h3 : 0 ≤ z1190 ∧ z1190 ≤ 2000) (h4 : 0 ≤ z1339 ∧ z1339 ≤ 400) (h5 : 0 ≤ z1342 ∧ z1342 ≤ 1000) : (2011 - (z1190 + 2)) < ((2010 : Nat) : Int) := by omega
theorem vc_X1_goThrough_12_41  : (2001 - 0) < ((2002 : Nat) : Int) := by omega
set_option maxRecDepth 4000 in
set_option maxHeartbeats 4000000 in
theorem c_X1_goThrough_12 {l : Launch} {D : va_G} {c : Nat → ClassId} {H0 : Heap} {sa : Nat × Nat × (Nat → Int32)} {w : mW} {μ : mM} (hw : mWF w) (hT : mT w μ) {p1 : Int} (hp1 : (-2147483648) ≤ p1 ∧ p1 ≤ 2147483647) {p2 : Int} (hp2 : 12 ≤ p2 ∧ p2 ≤ 12) (hIPC : PC w μ) (hIRT : RT μ) : sC (gG l D c H0 sa) mX1_goThrough 5 0 0 [.ref 21, iv p1, iv p2] (mk w μ) (qV w [21006, 21007, 200004, 200006, 200007, 200008, 201999, 202999] μ (fun μ1 => True)) := by
  refine sC.of rfl (by decide) (le_t rfl) ?_
  refine mr_lvE (lv' := [(0, .ref 21), (1, iv p1), (2, iv p2)]) rfl ?_
  refine mr_iload_n (pc := 0) (z := p1) dX1_goThrough_0 rfl rfl ?_
  refine mr_if_lt (pc := 1) (tgt := 18) dX1_goThrough_1 (by decide) hp1 (fun h1 => ?_) (fun h1 => ?_)
  · have h2 : (-2147483648) ≤ p1 ∧ p1 ≤ (-1) := (vc_X12_ring_60 h1 hp1)
    exact mr_vret dX1_goThrough_18 rfl (le_t rfl) (le_t rfl) hT mF.refl trivial
  have h3 : 0 ≤ p1 ∧ p1 ≤ 2147483647 := (vc_X12_ring_1 h1 hp1)
  refine mr_iload_n (pc := 4) (z := p1) dX1_goThrough_4 rfl rfl ?_
  refine sv_aload_n (pc := 5) dX1_goThrough_5 rfl rfl ?_
  refine gf_X1_8 (pc := 6) dX1_goThrough_6 wF_X1_21 (A_21 hw) hT fun z4 q5 h6 => ?_
  refine mr_icmp_ge (pc := 9) (tgt := 18) dX1_goThrough_9 (by decide) (r32 h3 rfl) (r32 h6.2 rfl) (fun h7 => ?_) (fun h7 => ?_)
  · exact mr_vret dX1_goThrough_18 rfl (le_t rfl) (le_t rfl) hT mF.refl trivial
  have h8 : 0 ≤ p1 ∧ p1 ≤ 11 := (vc_X1_goThrough_13_3 h7 h1 h6.1 h3 h6.2)
  have h9 : 1 ≤ z4 ∧ z4 ≤ 12 := (vc_X1_goThrough_13_4 h7 h1 h6.1 h8 h6.2)
  refine mr_iload_n (pc := 12) (z := p2) dX1_goThrough_12 rfl rfl ?_
  refine mr_bipush (pc := 13) (z := 12) dX1_goThrough_13 (by decide) ?_
  refine mr_icmp_le (pc := 15) (tgt := 19) dX1_goThrough_15 (by decide) (r32 hp2 rfl) (r32 (rR (x := 12)) rfl) (fun _ => ?_) (fun h => ((vc_X1_goThrough_12_5 h hp2)).elim)
  refine sv_aload_n (pc := 19) dX1_goThrough_19 rfl rfl ?_
  refine gf_X1_1 (pc := 20) dX1_goThrough_20 wF_X1_17 (A_21 hw) hT ?_
  refine mr_iload_n (pc := 23) (z := p1) dX1_goThrough_23 rfl rfl ?_
  refine la_22 (pc := 24) dX1_goThrough_24 (A_22 hw) hT (rIx (n := 12) h8 rfl) (vc_X1_goThrough_12_6 h1 h6.1 h7 h8 h9) fun b10 q11 A12 => ?_
  refine mr_astore_n (pc := 25) (lv' := [(3, .ref b10), (0, .ref 21), (1, iv p1), (2, iv p2)]) dX1_goThrough_25 rfl (by decide) rfl ?_
  obtain ⟨c13, z14, q15, A16, q17, R18, e19, e20⟩ := PC.read hIPC hT A12 (vc_X1_goThrough_12_7 h1 h7 h6.1 h8 h9) (vc_X1_goThrough_12_6 h1 h6.1 h7 h8 h9) q11
  have h21 : 0 ≤ z14 ∧ z14 ≤ 30 := by rw [← q17]; exact hT _ _ A12 0
  refine mr_iconst (pc := 26) (z := 0) dX1_goThrough_26 ?_
  refine mr_istore (pc := 27) (lv' := [(4, iv 0), (3, .ref b10), (0, .ref 21), (1, iv p1), (2, iv p2)]) dX1_goThrough_27 (by decide) rfl ?_
  refine mr_iconst (pc := 29) (z := 0) dX1_goThrough_29 ?_
  refine mr_istore (pc := 30) (lv' := [(5, iv 0), (4, iv 0), (3, .ref b10), (0, .ref 21), (1, iv p1), (2, iv p2)]) dX1_goThrough_30 (by decide) rfl ?_
  have L1192 : ∀ (nL1192 : Nat) (z1190 z1189 : Int) (μ1191 : mM), mT w μ1191 → mF [21006, 21007, 200004, 200006, 200007, 200008, 201999, 202999] w μ μ1191 → (0 ≤ z1190 ∧ z1190 ≤ 2000) → (0 ≤ z1189 ∧ z1189 ≤ 30) → PC w μ1191 → RT μ1191 → wfR (μ c13) (w.2.2.1 c13) (z1190).toNat (z14 - z1189).toNat → (2001 - z1190) < (nL1192 : Int) → sV (gG l D c H0 sa) mX1_goThrough (sRm 5 0 0) (sZ (gG l D c H0 sa) 0 0 (qV w [21006, 21007, 200004, 200006, 200007, 200008, 201999, 202999] μ (fun μ1 => True))) 32 [(0, .ref 21), (2, iv p2), (3, .ref b10), (4, iv z1190), (5, iv z1189)] [] (mk w μ1191) 0 0 := by
    intro nL1192
    induction nL1192 with
    | zero => intro z1190 z1189 μ1191 T1195 F1196 h1193 h1194 I1198 I1199 R1200 h1201; exact ((vc_X1_goThrough_12_8 h1201 h1193)).elim
    | succ nL1192 ih1202 =>
      intro z1190 z1189 μ1191 T1195 F1196 h1193 h1194 I1198 I1199 R1200 h1201
      refine mr_iload (pc := 32) (z := z1189) dX1_goThrough_32 rfl ?_
      refine sv_aload_n (pc := 34) dX1_goThrough_34 rfl rfl ?_
      refine gk_X5_0 (pc := 35) dX1_goThrough_35 wF_X1_57 A12 (F1196.f A12 rfl q17) ?_
      refine mr_icmp_ge (pc := 38) (tgt := 174) dX1_goThrough_38 (by decide) (r32 h1194 rfl) (r32 h21 rfl) (fun h1267 => ?_) (fun h1267 => ?_)
      · exact mr_vret dX1_goThrough_174 rfl (le_t rfl) (le_t rfl) T1195 (mF.call mF.refl F1196 rfl) trivial
      have h1268 : 0 ≤ z1189 ∧ z1189 ≤ 29 := (vc_X12_judgedAnew_2 h1267 h1194 h21)
      have h1269 : 1 ≤ z14 ∧ z14 ≤ 30 := (vc_X12_judgedAnew_3 h1267 h1268 h21)
      refine sv_aload_n (pc := 41) dX1_goThrough_41 rfl rfl ?_
      refine gf_X1_7 (pc := 42) dX1_goThrough_42 wF_X1_50 (A_21 hw) T1195 fun z1270 q1271 h1272 => ?_
      refine mr_if_ne (pc := 45) (tgt := 174) dX1_goThrough_45 (by decide) (r32 h1272 rfl) (fun h1332 => ?_) (fun h1332 => ?_)
      · have h1333 : 1 ≤ z1270 ∧ z1270 ≤ 2 := (vc_X12_provides_3 h1332 h1272)
        exact mr_vret dX1_goThrough_174 rfl (le_t rfl) (le_t rfl) T1195 (mF.call mF.refl F1196 rfl) trivial
      have h1334 : 0 ≤ z1270 ∧ z1270 ≤ 0 := (vc_X12_provides_4 h1332 h1272)
      obtain ⟨n_1335, q1336⟩ : ∃ n : Int, (w.2.2.1 c13 : Int) = n := ⟨_, rfl⟩
      have h1337 : 0 ≤ n_1335 ∧ n_1335 ≤ 2000 := lnR (m := 2000) q1336 A16 rfl
      have h1338 : z1190 + 1 < n_1335 := lnLt q1336 (wfR.hd R1200 (vc_X1_goThrough_12_13 h1193) (vc_X1_goThrough_12_14 h1267 h1268 h1269))
      refine sv_aload_n (pc := 48) dX1_goThrough_48 rfl rfl ?_
      refine gk_X5_1 (pc := 49) dX1_goThrough_49 wF_X1_60 A12 (F1196.f A12 rfl q15) ?_
      refine mr_iload (pc := 52) (z := z1190) dX1_goThrough_52 rfl ?_
      refine la_231 (pc := 54) dX1_goThrough_54 A16 T1195 (lnC q1336 (vc_X1_goThrough_12_15 h1338 h1337 h1193)) fun z1339 q1340 h1341 => ?_
      refine mr_istore (pc := 55) (lv' := [(6, iv z1339), (0, .ref 21), (2, iv p2), (3, .ref b10), (4, iv z1190), (5, iv z1189)]) dX1_goThrough_55 (by decide) rfl ?_
      refine sv_aload_n (pc := 57) dX1_goThrough_57 rfl rfl ?_
      refine gk_X5_1 (pc := 58) dX1_goThrough_58 wF_X1_60 A12 (F1196.f A12 rfl q15) ?_
      refine mr_iload (pc := 61) (z := z1190) dX1_goThrough_61 rfl ?_
      refine mr_iconst (pc := 63) (z := 1) dX1_goThrough_63 ?_
      refine mr_iadd (pc := 64) (x := z1190) (y := 1) dX1_goThrough_64 ?_
      refine la_231 (pc := 65) dX1_goThrough_65 A16 T1195 (lnC q1336 (vc_X1_goThrough_12_16 h1338 h1337 h1193)) fun z1342 q1343 h1344 => ?_
      have B1345 := wfR.bd R1200 (vc_X1_goThrough_12_13 h1193) (vc_X1_goThrough_12_14 h1267 h1268 h1269) ((((mF.call mF.refl F1196 rfl) : mF [21006, 21007, 200004, 200006, 200007, 200008, 201999, 202999] w μ μ1191).f A16 rfl rfl).symm.trans q1340) ((((mF.call mF.refl F1196 rfl) : mF [21006, 21007, 200004, 200006, 200007, 200008, 201999, 202999] w μ μ1191).f A16 rfl rfl).symm.trans q1343)
      have h1346 : 0 ≤ z1339 ∧ 0 ≤ z1342 ∧ z1190 + 2 + 5 * z1339 + 2 * z1342 ≤ n_1335 := ⟨B1345.1.1, B1345.1.2.1, lnLe q1336 B1345.1.2.2⟩
      have h1347 : 0 ≤ z1339 ∧ z1339 ≤ 400 := (vc_X1_goThrough_12_17 h1346 h1338 h1337 h1193 h1341 h1344)
      have h1348 : 0 ≤ z1342 ∧ z1342 ≤ 1000 := (vc_X1_goThrough_12_18 h1346 h1338 h1337 h1193 h1347 h1344)
      refine mr_istore (pc := 66) (lv' := [(7, iv z1342), (6, iv z1339), (0, .ref 21), (2, iv p2), (3, .ref b10), (4, iv z1190), (5, iv z1189)]) dX1_goThrough_66 (by decide) rfl ?_
      refine mr_iload (pc := 68) (z := z1190) dX1_goThrough_68 rfl ?_
      refine mr_iconst (pc := 70) (z := 2) dX1_goThrough_70 ?_
      refine mr_iadd (pc := 71) (x := z1190) (y := 2) dX1_goThrough_71 ?_
      refine mr_iload (pc := 72) (z := z1339) dX1_goThrough_72 rfl ?_
      refine mr_iconst (pc := 74) (z := 5) dX1_goThrough_74 ?_
      refine mr_imul (pc := 75) (x := z1339) (y := 5) dX1_goThrough_75 ?_
      refine mr_iadd (pc := 76) (x := (z1190 + 2)) (y := (z1339 * 5)) dX1_goThrough_76 ?_
      refine mr_istore (pc := 77) (lv' := [(8, iv ((z1190 + 2) + (z1339 * 5))), (7, iv z1342), (6, iv z1339), (0, .ref 21), (2, iv p2), (3, .ref b10), (4, iv z1190), (5, iv z1189)]) dX1_goThrough_77 (by decide) rfl ?_
      refine mr_iconst (pc := 79) (z := 1) dX1_goThrough_79 ?_
      refine mr_istore (pc := 80) (lv' := [(9, iv 1), (8, iv ((z1190 + 2) + (z1339 * 5))), (7, iv z1342), (6, iv z1339), (0, .ref 21), (2, iv p2), (3, .ref b10), (4, iv z1190), (5, iv z1189)]) dX1_goThrough_80 (by decide) rfl ?_
      refine mr_iload (pc := 82) (z := z1190) dX1_goThrough_82 rfl ?_
      refine mr_iconst (pc := 84) (z := 2) dX1_goThrough_84 ?_
      refine mr_iadd (pc := 85) (x := z1190) (y := 2) dX1_goThrough_85 ?_
      refine mr_istore (pc := 86) (lv' := [(10, iv (z1190 + 2)), (9, iv 1), (8, iv ((z1190 + 2) + (z1339 * 5))), (7, iv z1342), (6, iv z1339), (0, .ref 21), (2, iv p2), (3, .ref b10), (4, iv z1190), (5, iv z1189)]) dX1_goThrough_86 (by decide) rfl ?_
      have L1468 : ∀ (nL1468 : Nat) (z1467 z1466 : Int), True → (0 ≤ z1467 ∧ z1467 ≤ 1) → (2 ≤ z1466 ∧ z1466 ≤ 2010) → ((((z1190 + 2) + (z1339 * 5)) - z1466) % 5 = 0) → (2011 - z1466) < (nL1468 : Int) → sV (gG l D c H0 sa) mX1_goThrough (sRm 5 0 0) (sZ (gG l D c H0 sa) 0 0 (qV w [21006, 21007, 200004, 200006, 200007, 200008, 201999, 202999] μ (fun μ1 => True))) 88 [(0, .ref 21), (2, iv p2), (3, .ref b10), (5, iv z1189), (7, iv z1342), (8, iv ((z1190 + 2) + (z1339 * 5))), (9, iv z1467), (10, iv z1466)] [] (mk w μ1191) 0 0 := by
        intro nL1468
        induction nL1468 with
        | zero => intro z1467 z1466 _ h1469 h1470 h1474 h1475; exact ((vc_X1_goThrough_12_19 h1475 h1474 h1338 h1346 h1337 h1193 h1347 h1348 h1470)).elim
        | succ nL1468 ih1476 =>
          intro z1467 z1466 _ h1469 h1470 h1474 h1475
          refine mr_iload (pc := 88) (z := z1466) dX1_goThrough_88 rfl ?_
          refine mr_iload (pc := 90) (z := ((z1190 + 2) + (z1339 * 5))) dX1_goThrough_90 rfl ?_
          have J1492 : sV (gG l D c H0 sa) mX1_goThrough (sRm 5 0 0) (sZ (gG l D c H0 sa) 0 0 (qV w [21006, 21007, 200004, 200006, 200007, 200008, 201999, 202999] μ (fun μ1 => True))) 141 [(0, .ref 21), (2, iv p2), (3, .ref b10), (5, iv z1189), (7, iv z1342), (8, iv ((z1190 + 2) + (z1339 * 5))), (9, iv z1467)] [] (mk w μ1191) 0 0 := by
            refine mr_iload (pc := 141) (z := z1467) dX1_goThrough_141 rfl ?_
            refine mr_if_eq (pc := 143) (tgt := 159) dX1_goThrough_143 (by decide) (r32 h1469 rfl) (fun h1499 => ?_) (fun h1499 => ?_)
            · have h1500 : 0 ≤ z1467 ∧ z1467 ≤ 0 := (vc_X12_ring_22 h1499 h1469)
              refine mr_iload (pc := 159) (z := ((z1190 + 2) + (z1339 * 5))) dX1_goThrough_159 rfl ?_
              refine mr_iload (pc := 161) (z := z1342) dX1_goThrough_161 rfl ?_
              refine mr_iconst (pc := 163) (z := 2) dX1_goThrough_163 ?_
              refine mr_imul (pc := 164) (x := z1342) (y := 2) dX1_goThrough_164 ?_
              refine mr_iadd (pc := 165) (x := ((z1190 + 2) + (z1339 * 5))) (y := (z1342 * 2)) dX1_goThrough_165 ?_
              refine mr_istore (pc := 166) (lv' := [(4, iv (((z1190 + 2) + (z1339 * 5)) + (z1342 * 2))), (0, .ref 21), (2, iv p2), (3, .ref b10), (5, iv z1189), (7, iv z1342), (8, iv ((z1190 + 2) + (z1339 * 5))), (9, iv z1467)]) dX1_goThrough_166 (by decide) rfl ?_
              refine mr_iinc (pc := 168) (lv' := [(5, iv (z1189 + 1)), (4, iv (((z1190 + 2) + (z1339 * 5)) + (z1342 * 2))), (0, .ref 21), (2, iv p2), (3, .ref b10), (7, iv z1342), (8, iv ((z1190 + 2) + (z1339 * 5))), (9, iv z1467)]) dX1_goThrough_168 rfl (by decide) rfl ?_
              refine sv_goto (pc := 171) (tgt := 32) dX1_goThrough_171 (by decide) ?_
              refine mr_lvS (lv' := [(0, .ref 21), (2, iv p2), (3, .ref b10), (4, iv (((z1190 + 2) + (z1339 * 5)) + (z1342 * 2))), (5, iv (z1189 + 1))]) (List.forall_mem_cons.mpr ⟨rfl, List.forall_mem_cons.mpr ⟨rfl, List.forall_mem_cons.mpr ⟨rfl, List.forall_mem_cons.mpr ⟨rfl, List.forall_mem_cons.mpr ⟨rfl, fun _ h => absurd h List.not_mem_nil⟩⟩⟩⟩⟩) ?_
              exact ih1202 (((z1190 + 2) + (z1339 * 5)) + (z1342 * 2)) (z1189 + 1) μ1191 T1195 (mF.call mF.refl F1196 rfl) (vc_X1_goThrough_12_21 h1338 h1346 h1474 h1337 h1193 h1347 h1348 h1470) (rW (c := 0) (d := 30) (rAdd (e := 1) (f := 30) h1268 (rR (x := 1)) rfl) rfl) I1198 I1199 (wfR.cg B1345.2.2 (vc_X1_goThrough_12_23 h1338 h1346 h1474 h1337 h1193 h1347 h1348 h1470)) (vc_X1_goThrough_12_22 (nS h1201) h1338 h1346 h1474 h1337 h1193 h1347 h1348 h1470)
            have h1501 : 1 ≤ z1467 ∧ z1467 ≤ 1 := (vc_X12_ring_24 h1499 h1469)
            refine sv_aload_n (pc := 146) dX1_goThrough_146 rfl rfl ?_
            refine sv_aload_n (pc := 147) dX1_goThrough_147 rfl rfl ?_
            refine gk_X5_1 (pc := 148) dX1_goThrough_148 wF_X1_60 A12 (F1196.f A12 rfl q15) ?_
            refine mr_iload (pc := 151) (z := ((z1190 + 2) + (z1339 * 5))) dX1_goThrough_151 rfl ?_
            refine mr_iload (pc := 153) (z := z1342) dX1_goThrough_153 rfl ?_
            refine mr_iload_n (pc := 155) (z := p2) dX1_goThrough_155 rfl rfl ?_
            refine mr_cVV (pc := 156) (c_X1_doActs_12 hw T1195 A16 (vc_X1_goThrough_12_25 h1338 h1346 h1474 h1337 h1193 h1347 h1348 h1470) h1348 hp2 I1198 I1199 (lnL q1336 (vc_X1_goThrough_12_26 h1338 h1346 h1474 h1337 h1193 h1347 h1348 h1470)) (argC B1345.2.1 (vc_X1_goThrough_12_27 h1338 h1346 h1474 h1337 h1193 h1347 h1348 h1470) (funext fun i => ((mF.call mF.refl F1196 rfl) : mF [21006, 21007, 200004, 200006, 200007, 200008, 201999, 202999] w μ μ1191).f A16 rfl rfl))) (gOk _ _ _ _ _) dX1_goThrough_156 (tX1_doActs _ _ _ _ _) ⟨wV_X1_doActs, wL_X1_doActs⟩ wM_X1_68 (gCX1 _ _ _ _ _) rfl (A_21 hw) rfl ⟨le_t rfl, le_t rfl⟩ ⟨le_t rfl, le_t rfl⟩ rfl (le_t rfl) fun μ1502 T1503 F1504 h1505 => ?_
            refine mr_iload (pc := 159) (z := ((z1190 + 2) + (z1339 * 5))) dX1_goThrough_159 rfl ?_
            refine mr_iload (pc := 161) (z := z1342) dX1_goThrough_161 rfl ?_
            refine mr_iconst (pc := 163) (z := 2) dX1_goThrough_163 ?_
            refine mr_imul (pc := 164) (x := z1342) (y := 2) dX1_goThrough_164 ?_
            refine mr_iadd (pc := 165) (x := ((z1190 + 2) + (z1339 * 5))) (y := (z1342 * 2)) dX1_goThrough_165 ?_
            refine mr_istore (pc := 166) (lv' := [(4, iv (((z1190 + 2) + (z1339 * 5)) + (z1342 * 2))), (0, .ref 21), (2, iv p2), (3, .ref b10), (5, iv z1189), (7, iv z1342), (8, iv ((z1190 + 2) + (z1339 * 5))), (9, iv z1467)]) dX1_goThrough_166 (by decide) rfl ?_
            refine mr_iinc (pc := 168) (lv' := [(5, iv (z1189 + 1)), (4, iv (((z1190 + 2) + (z1339 * 5)) + (z1342 * 2))), (0, .ref 21), (2, iv p2), (3, .ref b10), (7, iv z1342), (8, iv ((z1190 + 2) + (z1339 * 5))), (9, iv z1467)]) dX1_goThrough_168 rfl (by decide) rfl ?_
            refine sv_goto (pc := 171) (tgt := 32) dX1_goThrough_171 (by decide) ?_
            refine mr_lvS (lv' := [(0, .ref 21), (2, iv p2), (3, .ref b10), (4, iv (((z1190 + 2) + (z1339 * 5)) + (z1342 * 2))), (5, iv (z1189 + 1))]) (List.forall_mem_cons.mpr ⟨rfl, List.forall_mem_cons.mpr ⟨rfl, List.forall_mem_cons.mpr ⟨rfl, List.forall_mem_cons.mpr ⟨rfl, List.forall_mem_cons.mpr ⟨rfl, fun _ h => absurd h List.not_mem_nil⟩⟩⟩⟩⟩) ?_
            exact ih1202 (((z1190 + 2) + (z1339 * 5)) + (z1342 * 2)) (z1189 + 1) μ1502 T1503 (mF.call (mF.call mF.refl F1196 rfl) F1504 rfl) (vc_X1_goThrough_12_21 h1338 h1346 h1474 h1337 h1193 h1347 h1348 h1470) (rW (c := 0) (d := 30) (rAdd (e := 1) (f := 30) h1268 (rR (x := 1)) rfl) rfl) (PC.keep I1198 hw ((mF.call mF.refl F1504 rfl) : mF [21006, 21007, 200004, 200006, 200007, 200008, 201999, 202999] w μ1191 μ1502) rfl) (RT.keep I1199 hw ((mF.call mF.refl F1504 rfl) : mF [21006, 21007, 200004, 200006, 200007, 200008, 201999, 202999] w μ1191 μ1502) rfl) (wfR.cg B1345.2.2 (vc_X1_goThrough_12_23 h1338 h1346 h1474 h1337 h1193 h1347 h1348 h1470)) (vc_X1_goThrough_12_22 (nS h1201) h1338 h1346 h1474 h1337 h1193 h1347 h1348 h1470)
          refine mr_icmp_ge (pc := 92) (tgt := 141) dX1_goThrough_92 (by decide) (r32 h1470 rfl) (r32 (rAdd (e := 2) (f := 4002) (rAdd (e := 2) (f := 2002) h1193 (rR (x := 2)) rfl) (rMulR (n := 5) (e := 0) (f := 2000) h1347 rfl) rfl) rfl) (fun h1506 => ?_) (fun h1506 => ?_)
          · refine mr_lvS (lv' := [(0, .ref 21), (2, iv p2), (3, .ref b10), (5, iv z1189), (7, iv z1342), (8, iv ((z1190 + 2) + (z1339 * 5))), (9, iv z1467)]) (List.forall_mem_cons.mpr ⟨rfl, List.forall_mem_cons.mpr ⟨rfl, List.forall_mem_cons.mpr ⟨rfl, List.forall_mem_cons.mpr ⟨rfl, List.forall_mem_cons.mpr ⟨rfl, List.forall_mem_cons.mpr ⟨rfl, List.forall_mem_cons.mpr ⟨rfl, fun _ h => absurd h List.not_mem_nil⟩⟩⟩⟩⟩⟩⟩) ?_
            exact J1492 
          refine mr_iload (pc := 95) (z := z1467) dX1_goThrough_95 rfl ?_
          refine mr_if_eq (pc := 97) (tgt := 141) dX1_goThrough_97 (by decide) (r32 h1469 rfl) (fun h1507 => ?_) (fun h1507 => ?_)
          · have h1508 : 0 ≤ z1467 ∧ z1467 ≤ 0 := (vc_X12_ring_22 h1507 h1469)
            refine mr_lvS (lv' := [(0, .ref 21), (2, iv p2), (3, .ref b10), (5, iv z1189), (7, iv z1342), (8, iv ((z1190 + 2) + (z1339 * 5))), (9, iv z1467)]) (List.forall_mem_cons.mpr ⟨rfl, List.forall_mem_cons.mpr ⟨rfl, List.forall_mem_cons.mpr ⟨rfl, List.forall_mem_cons.mpr ⟨rfl, List.forall_mem_cons.mpr ⟨rfl, List.forall_mem_cons.mpr ⟨rfl, List.forall_mem_cons.mpr ⟨rfl, fun _ h => absurd h List.not_mem_nil⟩⟩⟩⟩⟩⟩⟩) ?_
            exact J1492 
          have h1509 : 1 ≤ z1467 ∧ z1467 ≤ 1 := (vc_X12_ring_24 h1507 h1469)
          refine sv_aload_n (pc := 100) dX1_goThrough_100 rfl rfl ?_
          refine sv_aload_n (pc := 101) dX1_goThrough_101 rfl rfl ?_
          refine mr_iload (pc := 102) (z := z1466) dX1_goThrough_102 rfl ?_
          refine mr_cVP (pc := 104) (c_X1_isSo hw T1195 A12 (vc_X1_goThrough_12_28 h1474 h1506 h1338 h1346 h1337 h1193 h1347 h1348 h1470) I1199 (lnF (F1196.f A12 rfl q15) q1336 (vc_X1_goThrough_12_29 h1338 h1346 h1474 h1506 h1337 h1193 h1347 h1348 h1470)) (by rw [((mF.call mF.refl F1196 rfl) : mF [21006, 21007, 200004, 200006, 200007, 200008, 201999, 202999] w μ μ1191).f (k := 2) A12 rfl rfl, ((mF.call mF.refl F1196 rfl) : mF [21006, 21007, 200004, 200006, 200007, 200008, 201999, 202999] w μ μ1191).f (k := 3) A12 rfl rfl]; exact e19) (by rw [((mF.call mF.refl F1196 rfl) : mF [21006, 21007, 200004, 200006, 200007, 200008, 201999, 202999] w μ μ1191).f (k := 4) A12 rfl rfl, ((mF.call mF.refl F1196 rfl) : mF [21006, 21007, 200004, 200006, 200007, 200008, 201999, 202999] w μ μ1191).f (k := 5) A12 rfl rfl]; exact e20)) (gOk _ _ _ _ _) dX1_goThrough_104 (tX1_isSo _ _ _ _ _) ⟨wV_X1_isSo, wL_X1_isSo⟩ wM_X1_64 (gCX1 _ _ _ _ _) rfl (A_21 hw) rfl ⟨le_t rfl, le_t rfl⟩ ⟨le_t rfl, le_t rfl⟩ rfl (le_t rfl) fun z1514 h1513 => ?_
          refine sv_aload_n (pc := 107) dX1_goThrough_107 rfl rfl ?_
          refine gk_X5_1 (pc := 108) dX1_goThrough_108 wF_X1_60 A12 (F1196.f A12 rfl q15) ?_
          refine mr_iload (pc := 111) (z := z1466) dX1_goThrough_111 rfl ?_
          refine mr_iconst (pc := 113) (z := 1) dX1_goThrough_113 ?_
          refine mr_iadd (pc := 114) (x := z1466) (y := 1) dX1_goThrough_114 ?_
          refine la_231 (pc := 115) dX1_goThrough_115 A16 T1195 (lnC q1336 (vc_X1_goThrough_12_30 h1338 h1346 h1474 h1506 h1337 h1193 h1347 h1348 h1470)) fun z1515 q1516 h1517 => ?_
          refine mr_iconst (pc := 116) (z := 1) dX1_goThrough_116 ?_
          refine mr_icmp_ne (pc := 117) (tgt := 124) dX1_goThrough_117 (by decide) h1517 (r32 (rR (x := 1)) rfl) (fun h1519 => ?_) (fun h1519 => ?_)
          · refine mr_iconst (pc := 124) (z := 0) dX1_goThrough_124 ?_
            refine mr_icmp_eq (pc := 125) (tgt := 132) dX1_goThrough_125 (by decide) (r32 h1513.1 rfl) (r32 (rR (x := 0)) rfl) (fun h1522 => ?_) (fun h1522 => ?_)
            · have h1523 : 0 ≤ z1514 ∧ z1514 ≤ 0 := (vc_X12_ring_22 h1522 h1513.1)
              refine mr_iconst (pc := 132) (z := 0) dX1_goThrough_132 ?_
              refine mr_istore (pc := 133) (lv' := [(9, iv 0), (0, .ref 21), (2, iv p2), (3, .ref b10), (5, iv z1189), (7, iv z1342), (8, iv ((z1190 + 2) + (z1339 * 5))), (10, iv z1466)]) dX1_goThrough_133 (by decide) rfl ?_
              refine mr_iinc (pc := 135) (lv' := [(10, iv (z1466 + 5)), (9, iv 0), (0, .ref 21), (2, iv p2), (3, .ref b10), (5, iv z1189), (7, iv z1342), (8, iv ((z1190 + 2) + (z1339 * 5)))]) dX1_goThrough_135 rfl (by decide) rfl ?_
              refine sv_goto (pc := 138) (tgt := 88) dX1_goThrough_138 (by decide) ?_
              refine mr_lvS (lv' := [(0, .ref 21), (2, iv p2), (3, .ref b10), (5, iv z1189), (7, iv z1342), (8, iv ((z1190 + 2) + (z1339 * 5))), (9, iv 0), (10, iv (z1466 + 5))]) (List.forall_mem_cons.mpr ⟨rfl, List.forall_mem_cons.mpr ⟨rfl, List.forall_mem_cons.mpr ⟨rfl, List.forall_mem_cons.mpr ⟨rfl, List.forall_mem_cons.mpr ⟨rfl, List.forall_mem_cons.mpr ⟨rfl, List.forall_mem_cons.mpr ⟨rfl, List.forall_mem_cons.mpr ⟨rfl, fun _ h => absurd h List.not_mem_nil⟩⟩⟩⟩⟩⟩⟩⟩) ?_
              exact ih1476 0 (z1466 + 5) trivial (rW (c := 0) (d := 1) (rR (x := 0)) rfl) (vc_X1_goThrough_12_32 h1474 h1506 h1338 h1346 h1337 h1193 h1347 h1348 h1470) (vc_X1_goThrough_12_33 h1338 h1346 h1474 h1506 h1337 h1193 h1347 h1348 h1470) (vc_X1_goThrough_12_34 (nS h1475) h1474 h1506 h1338 h1346 h1337 h1193 h1347 h1348 h1470)
            have h1524 : 1 ≤ z1514 ∧ z1514 ≤ 1 := (vc_X12_ring_24 h1522 h1513.1)
            refine mr_iconst (pc := 128) (z := 1) dX1_goThrough_128 ?_
            refine sv_goto (pc := 129) (tgt := 133) dX1_goThrough_129 (by decide) ?_
            refine mr_istore (pc := 133) (lv' := [(9, iv 1), (0, .ref 21), (2, iv p2), (3, .ref b10), (5, iv z1189), (7, iv z1342), (8, iv ((z1190 + 2) + (z1339 * 5))), (10, iv z1466)]) dX1_goThrough_133 (by decide) rfl ?_
            refine mr_iinc (pc := 135) (lv' := [(10, iv (z1466 + 5)), (9, iv 1), (0, .ref 21), (2, iv p2), (3, .ref b10), (5, iv z1189), (7, iv z1342), (8, iv ((z1190 + 2) + (z1339 * 5)))]) dX1_goThrough_135 rfl (by decide) rfl ?_
            refine sv_goto (pc := 138) (tgt := 88) dX1_goThrough_138 (by decide) ?_
            refine mr_lvS (lv' := [(0, .ref 21), (2, iv p2), (3, .ref b10), (5, iv z1189), (7, iv z1342), (8, iv ((z1190 + 2) + (z1339 * 5))), (9, iv 1), (10, iv (z1466 + 5))]) (List.forall_mem_cons.mpr ⟨rfl, List.forall_mem_cons.mpr ⟨rfl, List.forall_mem_cons.mpr ⟨rfl, List.forall_mem_cons.mpr ⟨rfl, List.forall_mem_cons.mpr ⟨rfl, List.forall_mem_cons.mpr ⟨rfl, List.forall_mem_cons.mpr ⟨rfl, List.forall_mem_cons.mpr ⟨rfl, fun _ h => absurd h List.not_mem_nil⟩⟩⟩⟩⟩⟩⟩⟩) ?_
            exact ih1476 1 (z1466 + 5) trivial (rW (c := 0) (d := 1) (rR (x := 1)) rfl) (vc_X1_goThrough_12_32 h1474 h1506 h1338 h1346 h1337 h1193 h1347 h1348 h1470) (vc_X1_goThrough_12_33 h1338 h1346 h1474 h1506 h1337 h1193 h1347 h1348 h1470) (vc_X1_goThrough_12_34 (nS h1475) h1474 h1506 h1338 h1346 h1337 h1193 h1347 h1348 h1470)
          have h1525 : 1 ≤ z1515 ∧ z1515 ≤ 1 := (vc_X0_compareAt_1 h1519 h1517)
          refine mr_iconst (pc := 120) (z := 1) dX1_goThrough_120 ?_
          refine sv_goto (pc := 121) (tgt := 125) dX1_goThrough_121 (by decide) ?_
          refine mr_icmp_eq (pc := 125) (tgt := 132) dX1_goThrough_125 (by decide) (r32 h1513.1 rfl) (r32 (rR (x := 1)) rfl) (fun h1528 => ?_) (fun h1528 => ?_)
          · have h1529 : 1 ≤ z1514 ∧ z1514 ≤ 1 := (vc_X1_goThrough_12_37 h1528 h1513.1)
            refine mr_iconst (pc := 132) (z := 0) dX1_goThrough_132 ?_
            refine mr_istore (pc := 133) (lv' := [(9, iv 0), (0, .ref 21), (2, iv p2), (3, .ref b10), (5, iv z1189), (7, iv z1342), (8, iv ((z1190 + 2) + (z1339 * 5))), (10, iv z1466)]) dX1_goThrough_133 (by decide) rfl ?_
            refine mr_iinc (pc := 135) (lv' := [(10, iv (z1466 + 5)), (9, iv 0), (0, .ref 21), (2, iv p2), (3, .ref b10), (5, iv z1189), (7, iv z1342), (8, iv ((z1190 + 2) + (z1339 * 5)))]) dX1_goThrough_135 rfl (by decide) rfl ?_
            refine sv_goto (pc := 138) (tgt := 88) dX1_goThrough_138 (by decide) ?_
            refine mr_lvS (lv' := [(0, .ref 21), (2, iv p2), (3, .ref b10), (5, iv z1189), (7, iv z1342), (8, iv ((z1190 + 2) + (z1339 * 5))), (9, iv 0), (10, iv (z1466 + 5))]) (List.forall_mem_cons.mpr ⟨rfl, List.forall_mem_cons.mpr ⟨rfl, List.forall_mem_cons.mpr ⟨rfl, List.forall_mem_cons.mpr ⟨rfl, List.forall_mem_cons.mpr ⟨rfl, List.forall_mem_cons.mpr ⟨rfl, List.forall_mem_cons.mpr ⟨rfl, List.forall_mem_cons.mpr ⟨rfl, fun _ h => absurd h List.not_mem_nil⟩⟩⟩⟩⟩⟩⟩⟩) ?_
            exact ih1476 0 (z1466 + 5) trivial (rW (c := 0) (d := 1) (rR (x := 0)) rfl) (vc_X1_goThrough_12_32 h1474 h1506 h1338 h1346 h1337 h1193 h1347 h1348 h1470) (vc_X1_goThrough_12_33 h1338 h1346 h1474 h1506 h1337 h1193 h1347 h1348 h1470) (vc_X1_goThrough_12_34 (nS h1475) h1474 h1506 h1338 h1346 h1337 h1193 h1347 h1348 h1470)
          have h1530 : 0 ≤ z1514 ∧ z1514 ≤ 0 := (vc_X1_goThrough_12_38 h1528 h1513.1)
          refine mr_iconst (pc := 128) (z := 1) dX1_goThrough_128 ?_
          refine sv_goto (pc := 129) (tgt := 133) dX1_goThrough_129 (by decide) ?_
          refine mr_istore (pc := 133) (lv' := [(9, iv 1), (0, .ref 21), (2, iv p2), (3, .ref b10), (5, iv z1189), (7, iv z1342), (8, iv ((z1190 + 2) + (z1339 * 5))), (10, iv z1466)]) dX1_goThrough_133 (by decide) rfl ?_
          refine mr_iinc (pc := 135) (lv' := [(10, iv (z1466 + 5)), (9, iv 1), (0, .ref 21), (2, iv p2), (3, .ref b10), (5, iv z1189), (7, iv z1342), (8, iv ((z1190 + 2) + (z1339 * 5)))]) dX1_goThrough_135 rfl (by decide) rfl ?_
          refine sv_goto (pc := 138) (tgt := 88) dX1_goThrough_138 (by decide) ?_
          refine mr_lvS (lv' := [(0, .ref 21), (2, iv p2), (3, .ref b10), (5, iv z1189), (7, iv z1342), (8, iv ((z1190 + 2) + (z1339 * 5))), (9, iv 1), (10, iv (z1466 + 5))]) (List.forall_mem_cons.mpr ⟨rfl, List.forall_mem_cons.mpr ⟨rfl, List.forall_mem_cons.mpr ⟨rfl, List.forall_mem_cons.mpr ⟨rfl, List.forall_mem_cons.mpr ⟨rfl, List.forall_mem_cons.mpr ⟨rfl, List.forall_mem_cons.mpr ⟨rfl, List.forall_mem_cons.mpr ⟨rfl, fun _ h => absurd h List.not_mem_nil⟩⟩⟩⟩⟩⟩⟩⟩) ?_
          exact ih1476 1 (z1466 + 5) trivial (rW (c := 0) (d := 1) (rR (x := 1)) rfl) (vc_X1_goThrough_12_32 h1474 h1506 h1338 h1346 h1337 h1193 h1347 h1348 h1470) (vc_X1_goThrough_12_33 h1338 h1346 h1474 h1506 h1337 h1193 h1347 h1348 h1470) (vc_X1_goThrough_12_34 (nS h1475) h1474 h1506 h1338 h1346 h1337 h1193 h1347 h1348 h1470)
      refine mr_lvS (lv' := [(0, .ref 21), (2, iv p2), (3, .ref b10), (5, iv z1189), (7, iv z1342), (8, iv ((z1190 + 2) + (z1339 * 5))), (9, iv 1), (10, iv (z1190 + 2))]) (List.forall_mem_cons.mpr ⟨rfl, List.forall_mem_cons.mpr ⟨rfl, List.forall_mem_cons.mpr ⟨rfl, List.forall_mem_cons.mpr ⟨rfl, List.forall_mem_cons.mpr ⟨rfl, List.forall_mem_cons.mpr ⟨rfl, List.forall_mem_cons.mpr ⟨rfl, List.forall_mem_cons.mpr ⟨rfl, fun _ h => absurd h List.not_mem_nil⟩⟩⟩⟩⟩⟩⟩⟩) ?_
      exact L1468 2010 1 (z1190 + 2) trivial (rW (c := 0) (d := 1) (rR (x := 1)) rfl) (rW (c := 2) (d := 2010) (rAdd (e := 2) (f := 2002) h1193 (rR (x := 2)) rfl) rfl) (vc_X1_goThrough_12_39 h1338 h1346 h1337 h1193 h1347 h1348) (vc_X1_goThrough_12_40 h1338 h1346 h1337 h1193 h1347 h1348)
  refine mr_lvS (lv' := [(0, .ref 21), (2, iv p2), (3, .ref b10), (4, iv 0), (5, iv 0)]) (List.forall_mem_cons.mpr ⟨rfl, List.forall_mem_cons.mpr ⟨rfl, List.forall_mem_cons.mpr ⟨rfl, List.forall_mem_cons.mpr ⟨rfl, List.forall_mem_cons.mpr ⟨rfl, fun _ h => absurd h List.not_mem_nil⟩⟩⟩⟩⟩) ?_
  exact L1192 2002 0 0 μ hT mF.refl (rW (c := 0) (d := 2000) (rR (x := 0)) rfl) (rW (c := 0) (d := 30) (rR (x := 0)) rfl) hIPC hIRT R18 vc_X1_goThrough_12_41
set_option maxRecDepth 4000 in
set_option maxHeartbeats 4000000 in
theorem c_X1_doActs_11 {l : Launch} {D : va_G} {c : Nat → ClassId} {H0 : Heap} {sa : Nat × Nat × (Nat → Int32)} {w : mW} {μ : mM} (hw : mWF w) (hT : mT w μ) {a1 : Nat} (hA1 : mAt w a1 231) {p2 : Int} (hp2 : 0 ≤ p2 ∧ p2 ≤ 2000) {p3 : Int} (hp3 : 0 ≤ p3 ∧ p3 ≤ 1000) {p4 : Int} (hp4 : 11 ≤ p4 ∧ p4 ≤ 11) (hIPC : PC w μ) (hIRT : RT μ) (hlen : p2 + 2 * p3 ≤ (w.2.2.1 a1 : Int)) (harg : ∀ i : Int, 0 ≤ i → i < p3 → 0 ≤ μ a1 (p2 + 2 * i + 1).toNat ∧ μ a1 (p2 + 2 * i + 1).toNat ≤ 1000000) : sC (gG l D c H0 sa) mX1_doActs 6 0 0 [.ref 21, .ref a1, iv p2, iv p3, iv p4] (mk w μ) (qV w [21006, 21007, 200004, 200006, 200007, 200008, 201999, 202999] μ (fun μ1 => True)) := by
  refine sC.of rfl (by decide) (le_t rfl) ?_
  refine mr_lvE (lv' := [(0, .ref 21), (1, .ref a1), (2, iv p2), (3, iv p3), (4, iv p4)]) rfl ?_
  obtain ⟨n_1, q2⟩ : ∃ n : Int, (w.2.2.1 a1 : Int) = n := ⟨_, rfl⟩
  have h3 : 0 ≤ n_1 ∧ n_1 ≤ 2000 := lnR (m := 2000) q2 hA1 rfl
  have h4 : p2 + 2 * p3 ≤ n_1 := lnLe q2 hlen
  refine mr_iconst (pc := 0) (z := 0) dX1_doActs_0 ?_
  refine mr_istore (pc := 1) (lv' := [(5, iv 0), (0, .ref 21), (1, .ref a1), (2, iv p2), (3, iv p3), (4, iv p4)]) dX1_doActs_1 (by decide) rfl ?_
  have L1991 : ∀ (nL1991 : Nat) (z1989 : Int) (μ1990 : mM), mT w μ1990 → mF [21006, 21007, 200004, 200006, 200007, 200008, 201999, 202999] w μ μ1990 → (0 ≤ z1989 ∧ z1989 ≤ 1000) → PC w μ1990 → RT μ1990 → (1001 - z1989) < (nL1991 : Int) → sV (gG l D c H0 sa) mX1_doActs (sRm 6 0 0) (sZ (gG l D c H0 sa) 0 0 (qV w [21006, 21007, 200004, 200006, 200007, 200008, 201999, 202999] μ (fun μ1 => True))) 3 [(0, .ref 21), (1, .ref a1), (2, iv p2), (3, iv p3), (4, iv p4), (5, iv z1989)] [] (mk w μ1990) 0 0 := by
    intro nL1991
    induction nL1991 with
    | zero => intro z1989 μ1990 T1993 F1994 h1992 I1996 I1997 h1998; exact ((vc_X1_doActs_12_1 h1998 h1992)).elim
    | succ nL1991 ih1999 =>
      intro z1989 μ1990 T1993 F1994 h1992 I1996 I1997 h1998
      refine mr_iload (pc := 3) (z := z1989) dX1_doActs_3 rfl ?_
      refine mr_iload_n (pc := 5) (z := p3) dX1_doActs_5 rfl rfl ?_
      refine mr_icmp_ge (pc := 6) (tgt := 266) dX1_doActs_6 (by decide) (r32 h1992 rfl) (r32 hp3 rfl) (fun h2000 => ?_) (fun h2000 => ?_)
      · exact mr_vret dX1_doActs_266 rfl (le_t rfl) (le_t rfl) T1993 (mF.call mF.refl F1994 rfl) trivial
      have h2001 : 0 ≤ z1989 ∧ z1989 ≤ 999 := (vc_X1_doActs_12_2 h2000 h4 h3 hp2 hp3 h1992)
      have h2002 : 1 ≤ p3 ∧ p3 ≤ 1000 := (vc_X1_doActs_12_3 h2000 h4 h3 hp2 hp3 h2001)
      refine sv_aload_n (pc := 9) dX1_doActs_9 rfl rfl ?_
      refine gf_X1_7 (pc := 10) dX1_doActs_10 wF_X1_50 (A_21 hw) T1993 fun z2003 q2004 h2005 => ?_
      refine mr_if_ne (pc := 13) (tgt := 266) dX1_doActs_13 (by decide) (r32 h2005 rfl) (fun h2006 => ?_) (fun h2006 => ?_)
      · have h2007 : 1 ≤ z2003 ∧ z2003 ≤ 2 := (vc_X12_provides_3 h2006 h2005)
        exact mr_vret dX1_doActs_266 rfl (le_t rfl) (le_t rfl) T1993 (mF.call mF.refl F1994 rfl) trivial
      have h2008 : 0 ≤ z2003 ∧ z2003 ≤ 0 := (vc_X12_provides_4 h2006 h2005)
      refine sv_aload_n (pc := 16) dX1_doActs_16 rfl rfl ?_
      refine mr_iload_n (pc := 17) (z := p2) dX1_doActs_17 rfl rfl ?_
      refine mr_iload (pc := 18) (z := z1989) dX1_doActs_18 rfl ?_
      refine mr_iconst (pc := 20) (z := 2) dX1_doActs_20 ?_
      refine mr_imul (pc := 21) (x := z1989) (y := 2) dX1_doActs_21 ?_
      refine mr_iadd (pc := 22) (x := p2) (y := (z1989 * 2)) dX1_doActs_22 ?_
      refine mr_iconst (pc := 23) (z := 1) dX1_doActs_23 ?_
      refine mr_iadd (pc := 24) (x := (p2 + (z1989 * 2))) (y := 1) dX1_doActs_24 ?_
      refine la_231 (pc := 25) dX1_doActs_25 hA1 T1993 (lnC q2 (vc_X1_doActs_12_6 h4 h2000 h3 hp2 h2002 h2001)) fun z2009 q2010 h2011 => ?_
      have h2012 : 0 ≤ z2009 ∧ z2009 ≤ 1000000 := argB harg (vc_X1_doActs_12_7 h2000 h4 h3 hp2 h2002 h2001) (vc_X1_doActs_12_8 h4 h2000 h3 hp2 h2002 h2001) (vc_X1_doActs_12_9 h4 h2000 h3 hp2 h2002 h2001) (((mF.call mF.refl F1994 rfl) : mF [21006, 21007, 200004, 200006, 200007, 200008, 201999, 202999] w μ μ1990).f hA1 rfl rfl) q2010
      refine mr_istore (pc := 26) (lv' := [(6, iv z2009), (0, .ref 21), (1, .ref a1), (2, iv p2), (3, iv p3), (4, iv p4), (5, iv z1989)]) dX1_doActs_26 (by decide) rfl ?_
      refine sv_aload_n (pc := 28) dX1_doActs_28 rfl rfl ?_
      refine gf_X1_6 (pc := 29) dX1_doActs_29 wF_X1_47 (A_21 hw) T1993 fun z2013 q2014 h2015 => ?_
      refine mr_sipush (pc := 32) (z := 500) dX1_doActs_32 (by decide) ?_
      refine mr_icmp_lt (pc := 35) (tgt := 44) dX1_doActs_35 (by decide) (r32 h2015 rfl) (r32 (rR (x := 500)) rfl) (fun h2016 => ?_) (fun h2016 => ?_)
      · have h2017 : 0 ≤ z2013 ∧ z2013 ≤ 499 := (vc_X1_doActs_12_10 h2016 h2015)
        refine sv_aload_n (pc := 44) dX1_doActs_44 rfl rfl ?_
        refine sv_dup (pc := 45) dX1_doActs_45 rfl ?_
        refine gk_X1_6 (pc := 46) dX1_doActs_46 wF_X1_47 (A_21 hw) q2014 ?_
        refine mr_iconst (pc := 49) (z := 1) dX1_doActs_49 ?_
        refine mr_iadd (pc := 50) (x := z2013) (y := 1) dX1_doActs_50 ?_
        refine pf_X1_6 (pc := 51) dX1_doActs_51 wF_X1_47 (A_21 hw) T1993 (rW (c := 0) (d := 500) (rAdd (e := 1) (f := 500) h2017 (rR (x := 1)) rfl) rfl) fun μ2018 u2019 T2020 => ?_
        refine sv_aload_n (pc := 54) dX1_doActs_54 rfl rfl ?_
        refine mr_iload_n (pc := 55) (z := p2) dX1_doActs_55 rfl rfl ?_
        refine mr_iload (pc := 56) (z := z1989) dX1_doActs_56 rfl ?_
        refine mr_iconst (pc := 58) (z := 2) dX1_doActs_58 ?_
        refine mr_imul (pc := 59) (x := z1989) (y := 2) dX1_doActs_59 ?_
        refine mr_iadd (pc := 60) (x := p2) (y := (z1989 * 2)) dX1_doActs_60 ?_
        refine la_231 (pc := 61) dX1_doActs_61 hA1 T2020 (lnC q2 (vc_X1_doActs_12_11 h4 h2000 h3 hp2 h2002 h2001)) fun z2021 q2022 h2023 => ?_
        by_cases h2024 : z2021 = 12
        · refine mr_tableIn (pc := 62) (v := 12) (tgt := 184) dX1_doActs_62 h2024 rfl rfl (by decide) ?_
          have h2025 : 12 ≤ z2021 ∧ z2021 ≤ 12 := (vc_X1_doActs_12_12 h2024 h2023)
          refine sv_aload_n (pc := 184) dX1_doActs_184 rfl rfl ?_
          refine gf_X1_2 (pc := 185) dX1_doActs_185 wF_X1_25 (A_21 hw) T2020 (RT.keep I1997 hw ((mF.up mF.refl (A_21 hw) u2019 rfl) : mF [21006] w μ1990 μ2018) rfl) fun b2026 q2027 A2028 => ?_
          refine mr_iload (pc := 188) (z := z2009) dX1_doActs_188 rfl ?_
          refine pf_X7_4 (pc := 190) dX1_doActs_190 wF_X1_105 A2028 T2020 (rW (c := (-2147483648)) (d := 2147483647) h2012 rfl) fun μ2029 u2030 T2031 => ?_
          refine sv_goto (pc := 193) (tgt := 260) dX1_doActs_193 (by decide) ?_
          refine mr_iinc (pc := 260) (lv' := [(5, iv (z1989 + 1)), (6, iv z2009), (0, .ref 21), (1, .ref a1), (2, iv p2), (3, iv p3), (4, iv p4)]) dX1_doActs_260 rfl (by decide) rfl ?_
          refine sv_goto (pc := 263) (tgt := 3) dX1_doActs_263 (by decide) ?_
          refine mr_lvS (lv' := [(0, .ref 21), (1, .ref a1), (2, iv p2), (3, iv p3), (4, iv p4), (5, iv (z1989 + 1))]) (List.forall_mem_cons.mpr ⟨rfl, List.forall_mem_cons.mpr ⟨rfl, List.forall_mem_cons.mpr ⟨rfl, List.forall_mem_cons.mpr ⟨rfl, List.forall_mem_cons.mpr ⟨rfl, List.forall_mem_cons.mpr ⟨rfl, fun _ h => absurd h List.not_mem_nil⟩⟩⟩⟩⟩⟩) ?_
          exact ih1999 (z1989 + 1) μ2029 T2031 (mF.up (mF.up (mF.call mF.refl F1994 rfl) (A_21 hw) u2019 rfl) A2028 u2030 rfl) (rW (c := 0) (d := 1000) (rAdd (e := 1) (f := 1000) h2001 (rR (x := 1)) rfl) rfl) (PC.keep I1996 hw ((mF.up (mF.up mF.refl (A_21 hw) u2019 rfl) A2028 u2030 rfl) : mF [21006, 200004] w μ1990 μ2029) rfl) (RT.keep I1997 hw ((mF.up (mF.up mF.refl (A_21 hw) u2019 rfl) A2028 u2030 rfl) : mF [21006, 200004] w μ1990 μ2029) rfl) (vc_X1_doActs_12_13 (nS h1998) h2000 h4 h3 hp2 h2002 h2001)
        by_cases h2032 : z2021 = 13
        · refine mr_tableIn (pc := 62) (v := 13) (tgt := 196) dX1_doActs_62 h2032 rfl rfl (by decide) ?_
          have h2033 : 13 ≤ z2021 ∧ z2021 ≤ 13 := (vc_X1_doActs_12_14 h2032 h2024 h2023)
          refine sv_aload_n (pc := 196) dX1_doActs_196 rfl rfl ?_
          refine gf_X1_2 (pc := 197) dX1_doActs_197 wF_X1_25 (A_21 hw) T2020 (RT.keep I1997 hw ((mF.up mF.refl (A_21 hw) u2019 rfl) : mF [21006] w μ1990 μ2018) rfl) fun b2034 q2035 A2036 => ?_
          refine mr_iload (pc := 200) (z := z2009) dX1_doActs_200 rfl ?_
          refine pf_X7_6 (pc := 202) dX1_doActs_202 wF_X1_108 A2036 T2020 (rW (c := (-2147483648)) (d := 2147483647) h2012 rfl) fun μ2037 u2038 T2039 => ?_
          refine sv_goto (pc := 205) (tgt := 260) dX1_doActs_205 (by decide) ?_
          refine mr_iinc (pc := 260) (lv' := [(5, iv (z1989 + 1)), (6, iv z2009), (0, .ref 21), (1, .ref a1), (2, iv p2), (3, iv p3), (4, iv p4)]) dX1_doActs_260 rfl (by decide) rfl ?_
          refine sv_goto (pc := 263) (tgt := 3) dX1_doActs_263 (by decide) ?_
          refine mr_lvS (lv' := [(0, .ref 21), (1, .ref a1), (2, iv p2), (3, iv p3), (4, iv p4), (5, iv (z1989 + 1))]) (List.forall_mem_cons.mpr ⟨rfl, List.forall_mem_cons.mpr ⟨rfl, List.forall_mem_cons.mpr ⟨rfl, List.forall_mem_cons.mpr ⟨rfl, List.forall_mem_cons.mpr ⟨rfl, List.forall_mem_cons.mpr ⟨rfl, fun _ h => absurd h List.not_mem_nil⟩⟩⟩⟩⟩⟩) ?_
          exact ih1999 (z1989 + 1) μ2037 T2039 (mF.up (mF.up (mF.call mF.refl F1994 rfl) (A_21 hw) u2019 rfl) A2036 u2038 rfl) (rW (c := 0) (d := 1000) (rAdd (e := 1) (f := 1000) h2001 (rR (x := 1)) rfl) rfl) (PC.keep I1996 hw ((mF.up (mF.up mF.refl (A_21 hw) u2019 rfl) A2036 u2038 rfl) : mF [21006, 200006] w μ1990 μ2037) rfl) (RT.keep I1997 hw ((mF.up (mF.up mF.refl (A_21 hw) u2019 rfl) A2036 u2038 rfl) : mF [21006, 200006] w μ1990 μ2037) rfl) (vc_X1_doActs_12_13 (nS h1998) h2000 h4 h3 hp2 h2002 h2001)
        by_cases h2040 : z2021 = 14
        · refine mr_tableIn (pc := 62) (v := 14) (tgt := 260) dX1_doActs_62 h2040 rfl rfl (by decide) ?_
          have h2041 : 14 ≤ z2021 ∧ z2021 ≤ 14 := (vc_X1_doActs_12_15 h2040 h2024 h2032 h2023)
          refine mr_iinc (pc := 260) (lv' := [(5, iv (z1989 + 1)), (6, iv z2009), (0, .ref 21), (1, .ref a1), (2, iv p2), (3, iv p3), (4, iv p4)]) dX1_doActs_260 rfl (by decide) rfl ?_
          refine sv_goto (pc := 263) (tgt := 3) dX1_doActs_263 (by decide) ?_
          refine mr_lvS (lv' := [(0, .ref 21), (1, .ref a1), (2, iv p2), (3, iv p3), (4, iv p4), (5, iv (z1989 + 1))]) (List.forall_mem_cons.mpr ⟨rfl, List.forall_mem_cons.mpr ⟨rfl, List.forall_mem_cons.mpr ⟨rfl, List.forall_mem_cons.mpr ⟨rfl, List.forall_mem_cons.mpr ⟨rfl, List.forall_mem_cons.mpr ⟨rfl, fun _ h => absurd h List.not_mem_nil⟩⟩⟩⟩⟩⟩) ?_
          exact ih1999 (z1989 + 1) μ2018 T2020 (mF.up (mF.call mF.refl F1994 rfl) (A_21 hw) u2019 rfl) (rW (c := 0) (d := 1000) (rAdd (e := 1) (f := 1000) h2001 (rR (x := 1)) rfl) rfl) (PC.keep I1996 hw ((mF.up mF.refl (A_21 hw) u2019 rfl) : mF [21006] w μ1990 μ2018) rfl) (RT.keep I1997 hw ((mF.up mF.refl (A_21 hw) u2019 rfl) : mF [21006] w μ1990 μ2018) rfl) (vc_X1_doActs_12_13 (nS h1998) h2000 h4 h3 hp2 h2002 h2001)
        by_cases h2042 : z2021 = 15
        · refine mr_tableIn (pc := 62) (v := 15) (tgt := 260) dX1_doActs_62 h2042 rfl rfl (by decide) ?_
          have h2043 : 15 ≤ z2021 ∧ z2021 ≤ 15 := (vc_X1_doActs_12_16 h2042 h2024 h2032 h2040 h2023)
          refine mr_iinc (pc := 260) (lv' := [(5, iv (z1989 + 1)), (6, iv z2009), (0, .ref 21), (1, .ref a1), (2, iv p2), (3, iv p3), (4, iv p4)]) dX1_doActs_260 rfl (by decide) rfl ?_
          refine sv_goto (pc := 263) (tgt := 3) dX1_doActs_263 (by decide) ?_
          refine mr_lvS (lv' := [(0, .ref 21), (1, .ref a1), (2, iv p2), (3, iv p3), (4, iv p4), (5, iv (z1989 + 1))]) (List.forall_mem_cons.mpr ⟨rfl, List.forall_mem_cons.mpr ⟨rfl, List.forall_mem_cons.mpr ⟨rfl, List.forall_mem_cons.mpr ⟨rfl, List.forall_mem_cons.mpr ⟨rfl, List.forall_mem_cons.mpr ⟨rfl, fun _ h => absurd h List.not_mem_nil⟩⟩⟩⟩⟩⟩) ?_
          exact ih1999 (z1989 + 1) μ2018 T2020 (mF.up (mF.call mF.refl F1994 rfl) (A_21 hw) u2019 rfl) (rW (c := 0) (d := 1000) (rAdd (e := 1) (f := 1000) h2001 (rR (x := 1)) rfl) rfl) (PC.keep I1996 hw ((mF.up mF.refl (A_21 hw) u2019 rfl) : mF [21006] w μ1990 μ2018) rfl) (RT.keep I1997 hw ((mF.up mF.refl (A_21 hw) u2019 rfl) : mF [21006] w μ1990 μ2018) rfl) (vc_X1_doActs_12_13 (nS h1998) h2000 h4 h3 hp2 h2002 h2001)
        by_cases h2044 : z2021 = 16
        · refine mr_tableIn (pc := 62) (v := 16) (tgt := 260) dX1_doActs_62 h2044 rfl rfl (by decide) ?_
          have h2045 : 16 ≤ z2021 ∧ z2021 ≤ 16 := (vc_X1_doActs_12_17 h2044 h2024 h2032 h2040 h2042 h2023)
          refine mr_iinc (pc := 260) (lv' := [(5, iv (z1989 + 1)), (6, iv z2009), (0, .ref 21), (1, .ref a1), (2, iv p2), (3, iv p3), (4, iv p4)]) dX1_doActs_260 rfl (by decide) rfl ?_
          refine sv_goto (pc := 263) (tgt := 3) dX1_doActs_263 (by decide) ?_
          refine mr_lvS (lv' := [(0, .ref 21), (1, .ref a1), (2, iv p2), (3, iv p3), (4, iv p4), (5, iv (z1989 + 1))]) (List.forall_mem_cons.mpr ⟨rfl, List.forall_mem_cons.mpr ⟨rfl, List.forall_mem_cons.mpr ⟨rfl, List.forall_mem_cons.mpr ⟨rfl, List.forall_mem_cons.mpr ⟨rfl, List.forall_mem_cons.mpr ⟨rfl, fun _ h => absurd h List.not_mem_nil⟩⟩⟩⟩⟩⟩) ?_
          exact ih1999 (z1989 + 1) μ2018 T2020 (mF.up (mF.call mF.refl F1994 rfl) (A_21 hw) u2019 rfl) (rW (c := 0) (d := 1000) (rAdd (e := 1) (f := 1000) h2001 (rR (x := 1)) rfl) rfl) (PC.keep I1996 hw ((mF.up mF.refl (A_21 hw) u2019 rfl) : mF [21006] w μ1990 μ2018) rfl) (RT.keep I1997 hw ((mF.up mF.refl (A_21 hw) u2019 rfl) : mF [21006] w μ1990 μ2018) rfl) (vc_X1_doActs_12_13 (nS h1998) h2000 h4 h3 hp2 h2002 h2001)
        by_cases h2046 : z2021 = 17
        · refine mr_tableIn (pc := 62) (v := 17) (tgt := 260) dX1_doActs_62 h2046 rfl rfl (by decide) ?_
          have h2047 : 17 ≤ z2021 ∧ z2021 ≤ 17 := (vc_X1_doActs_12_18 h2046 h2024 h2032 h2040 h2042 h2044 h2023)
          refine mr_iinc (pc := 260) (lv' := [(5, iv (z1989 + 1)), (6, iv z2009), (0, .ref 21), (1, .ref a1), (2, iv p2), (3, iv p3), (4, iv p4)]) dX1_doActs_260 rfl (by decide) rfl ?_
          refine sv_goto (pc := 263) (tgt := 3) dX1_doActs_263 (by decide) ?_
          refine mr_lvS (lv' := [(0, .ref 21), (1, .ref a1), (2, iv p2), (3, iv p3), (4, iv p4), (5, iv (z1989 + 1))]) (List.forall_mem_cons.mpr ⟨rfl, List.forall_mem_cons.mpr ⟨rfl, List.forall_mem_cons.mpr ⟨rfl, List.forall_mem_cons.mpr ⟨rfl, List.forall_mem_cons.mpr ⟨rfl, List.forall_mem_cons.mpr ⟨rfl, fun _ h => absurd h List.not_mem_nil⟩⟩⟩⟩⟩⟩) ?_
          exact ih1999 (z1989 + 1) μ2018 T2020 (mF.up (mF.call mF.refl F1994 rfl) (A_21 hw) u2019 rfl) (rW (c := 0) (d := 1000) (rAdd (e := 1) (f := 1000) h2001 (rR (x := 1)) rfl) rfl) (PC.keep I1996 hw ((mF.up mF.refl (A_21 hw) u2019 rfl) : mF [21006] w μ1990 μ2018) rfl) (RT.keep I1997 hw ((mF.up mF.refl (A_21 hw) u2019 rfl) : mF [21006] w μ1990 μ2018) rfl) (vc_X1_doActs_12_13 (nS h1998) h2000 h4 h3 hp2 h2002 h2001)
        by_cases h2048 : z2021 = 18
        · refine mr_tableIn (pc := 62) (v := 18) (tgt := 260) dX1_doActs_62 h2048 rfl rfl (by decide) ?_
          have h2049 : 18 ≤ z2021 ∧ z2021 ≤ 18 := (vc_X1_doActs_12_19 h2048 h2024 h2032 h2040 h2042 h2044 h2046 h2023)
          refine mr_iinc (pc := 260) (lv' := [(5, iv (z1989 + 1)), (6, iv z2009), (0, .ref 21), (1, .ref a1), (2, iv p2), (3, iv p3), (4, iv p4)]) dX1_doActs_260 rfl (by decide) rfl ?_
          refine sv_goto (pc := 263) (tgt := 3) dX1_doActs_263 (by decide) ?_
          refine mr_lvS (lv' := [(0, .ref 21), (1, .ref a1), (2, iv p2), (3, iv p3), (4, iv p4), (5, iv (z1989 + 1))]) (List.forall_mem_cons.mpr ⟨rfl, List.forall_mem_cons.mpr ⟨rfl, List.forall_mem_cons.mpr ⟨rfl, List.forall_mem_cons.mpr ⟨rfl, List.forall_mem_cons.mpr ⟨rfl, List.forall_mem_cons.mpr ⟨rfl, fun _ h => absurd h List.not_mem_nil⟩⟩⟩⟩⟩⟩) ?_
          exact ih1999 (z1989 + 1) μ2018 T2020 (mF.up (mF.call mF.refl F1994 rfl) (A_21 hw) u2019 rfl) (rW (c := 0) (d := 1000) (rAdd (e := 1) (f := 1000) h2001 (rR (x := 1)) rfl) rfl) (PC.keep I1996 hw ((mF.up mF.refl (A_21 hw) u2019 rfl) : mF [21006] w μ1990 μ2018) rfl) (RT.keep I1997 hw ((mF.up mF.refl (A_21 hw) u2019 rfl) : mF [21006] w μ1990 μ2018) rfl) (vc_X1_doActs_12_13 (nS h1998) h2000 h4 h3 hp2 h2002 h2001)
        by_cases h2050 : z2021 = 19
        · refine mr_tableIn (pc := 62) (v := 19) (tgt := 260) dX1_doActs_62 h2050 rfl rfl (by decide) ?_
          have h2051 : 19 ≤ z2021 ∧ z2021 ≤ 19 := (vc_X1_doActs_12_20 h2050 h2024 h2032 h2040 h2042 h2044 h2046 h2048 h2023)
          refine mr_iinc (pc := 260) (lv' := [(5, iv (z1989 + 1)), (6, iv z2009), (0, .ref 21), (1, .ref a1), (2, iv p2), (3, iv p3), (4, iv p4)]) dX1_doActs_260 rfl (by decide) rfl ?_
          refine sv_goto (pc := 263) (tgt := 3) dX1_doActs_263 (by decide) ?_
          refine mr_lvS (lv' := [(0, .ref 21), (1, .ref a1), (2, iv p2), (3, iv p3), (4, iv p4), (5, iv (z1989 + 1))]) (List.forall_mem_cons.mpr ⟨rfl, List.forall_mem_cons.mpr ⟨rfl, List.forall_mem_cons.mpr ⟨rfl, List.forall_mem_cons.mpr ⟨rfl, List.forall_mem_cons.mpr ⟨rfl, List.forall_mem_cons.mpr ⟨rfl, fun _ h => absurd h List.not_mem_nil⟩⟩⟩⟩⟩⟩) ?_
          exact ih1999 (z1989 + 1) μ2018 T2020 (mF.up (mF.call mF.refl F1994 rfl) (A_21 hw) u2019 rfl) (rW (c := 0) (d := 1000) (rAdd (e := 1) (f := 1000) h2001 (rR (x := 1)) rfl) rfl) (PC.keep I1996 hw ((mF.up mF.refl (A_21 hw) u2019 rfl) : mF [21006] w μ1990 μ2018) rfl) (RT.keep I1997 hw ((mF.up mF.refl (A_21 hw) u2019 rfl) : mF [21006] w μ1990 μ2018) rfl) (vc_X1_doActs_12_13 (nS h1998) h2000 h4 h3 hp2 h2002 h2001)
        by_cases h2052 : z2021 = 20
        · refine mr_tableIn (pc := 62) (v := 20) (tgt := 260) dX1_doActs_62 h2052 rfl rfl (by decide) ?_
          have h2053 : 20 ≤ z2021 ∧ z2021 ≤ 20 := (vc_X1_doActs_12_21 h2052 h2032 h2040 h2042 h2044 h2046 h2048 h2050 h2023)
          refine mr_iinc (pc := 260) (lv' := [(5, iv (z1989 + 1)), (6, iv z2009), (0, .ref 21), (1, .ref a1), (2, iv p2), (3, iv p3), (4, iv p4)]) dX1_doActs_260 rfl (by decide) rfl ?_
          refine sv_goto (pc := 263) (tgt := 3) dX1_doActs_263 (by decide) ?_
          refine mr_lvS (lv' := [(0, .ref 21), (1, .ref a1), (2, iv p2), (3, iv p3), (4, iv p4), (5, iv (z1989 + 1))]) (List.forall_mem_cons.mpr ⟨rfl, List.forall_mem_cons.mpr ⟨rfl, List.forall_mem_cons.mpr ⟨rfl, List.forall_mem_cons.mpr ⟨rfl, List.forall_mem_cons.mpr ⟨rfl, List.forall_mem_cons.mpr ⟨rfl, fun _ h => absurd h List.not_mem_nil⟩⟩⟩⟩⟩⟩) ?_
          exact ih1999 (z1989 + 1) μ2018 T2020 (mF.up (mF.call mF.refl F1994 rfl) (A_21 hw) u2019 rfl) (rW (c := 0) (d := 1000) (rAdd (e := 1) (f := 1000) h2001 (rR (x := 1)) rfl) rfl) (PC.keep I1996 hw ((mF.up mF.refl (A_21 hw) u2019 rfl) : mF [21006] w μ1990 μ2018) rfl) (RT.keep I1997 hw ((mF.up mF.refl (A_21 hw) u2019 rfl) : mF [21006] w μ1990 μ2018) rfl) (vc_X1_doActs_12_13 (nS h1998) h2000 h4 h3 hp2 h2002 h2001)
        by_cases h2054 : z2021 = 21
        · refine mr_tableIn (pc := 62) (v := 21) (tgt := 260) dX1_doActs_62 h2054 rfl rfl (by decide) ?_
          have h2055 : 21 ≤ z2021 ∧ z2021 ≤ 21 := (vc_X1_doActs_12_22 h2054 h2040 h2042 h2044 h2046 h2048 h2050 h2052 h2023)
          refine mr_iinc (pc := 260) (lv' := [(5, iv (z1989 + 1)), (6, iv z2009), (0, .ref 21), (1, .ref a1), (2, iv p2), (3, iv p3), (4, iv p4)]) dX1_doActs_260 rfl (by decide) rfl ?_
          refine sv_goto (pc := 263) (tgt := 3) dX1_doActs_263 (by decide) ?_
          refine mr_lvS (lv' := [(0, .ref 21), (1, .ref a1), (2, iv p2), (3, iv p3), (4, iv p4), (5, iv (z1989 + 1))]) (List.forall_mem_cons.mpr ⟨rfl, List.forall_mem_cons.mpr ⟨rfl, List.forall_mem_cons.mpr ⟨rfl, List.forall_mem_cons.mpr ⟨rfl, List.forall_mem_cons.mpr ⟨rfl, List.forall_mem_cons.mpr ⟨rfl, fun _ h => absurd h List.not_mem_nil⟩⟩⟩⟩⟩⟩) ?_
          exact ih1999 (z1989 + 1) μ2018 T2020 (mF.up (mF.call mF.refl F1994 rfl) (A_21 hw) u2019 rfl) (rW (c := 0) (d := 1000) (rAdd (e := 1) (f := 1000) h2001 (rR (x := 1)) rfl) rfl) (PC.keep I1996 hw ((mF.up mF.refl (A_21 hw) u2019 rfl) : mF [21006] w μ1990 μ2018) rfl) (RT.keep I1997 hw ((mF.up mF.refl (A_21 hw) u2019 rfl) : mF [21006] w μ1990 μ2018) rfl) (vc_X1_doActs_12_13 (nS h1998) h2000 h4 h3 hp2 h2002 h2001)
        by_cases h2056 : z2021 = 22
        · refine mr_tableIn (pc := 62) (v := 22) (tgt := 260) dX1_doActs_62 h2056 rfl rfl (by decide) ?_
          have h2057 : 22 ≤ z2021 ∧ z2021 ≤ 22 := (vc_X1_doActs_12_23 h2056 h2042 h2044 h2046 h2048 h2050 h2052 h2054 h2023)
          refine mr_iinc (pc := 260) (lv' := [(5, iv (z1989 + 1)), (6, iv z2009), (0, .ref 21), (1, .ref a1), (2, iv p2), (3, iv p3), (4, iv p4)]) dX1_doActs_260 rfl (by decide) rfl ?_
          refine sv_goto (pc := 263) (tgt := 3) dX1_doActs_263 (by decide) ?_
          refine mr_lvS (lv' := [(0, .ref 21), (1, .ref a1), (2, iv p2), (3, iv p3), (4, iv p4), (5, iv (z1989 + 1))]) (List.forall_mem_cons.mpr ⟨rfl, List.forall_mem_cons.mpr ⟨rfl, List.forall_mem_cons.mpr ⟨rfl, List.forall_mem_cons.mpr ⟨rfl, List.forall_mem_cons.mpr ⟨rfl, List.forall_mem_cons.mpr ⟨rfl, fun _ h => absurd h List.not_mem_nil⟩⟩⟩⟩⟩⟩) ?_
          exact ih1999 (z1989 + 1) μ2018 T2020 (mF.up (mF.call mF.refl F1994 rfl) (A_21 hw) u2019 rfl) (rW (c := 0) (d := 1000) (rAdd (e := 1) (f := 1000) h2001 (rR (x := 1)) rfl) rfl) (PC.keep I1996 hw ((mF.up mF.refl (A_21 hw) u2019 rfl) : mF [21006] w μ1990 μ2018) rfl) (RT.keep I1997 hw ((mF.up mF.refl (A_21 hw) u2019 rfl) : mF [21006] w μ1990 μ2018) rfl) (vc_X1_doActs_12_13 (nS h1998) h2000 h4 h3 hp2 h2002 h2001)
        by_cases h2058 : z2021 = 23
        · refine mr_tableIn (pc := 62) (v := 23) (tgt := 144) dX1_doActs_62 h2058 rfl rfl (by decide) ?_
          have h2059 : 23 ≤ z2021 ∧ z2021 ≤ 23 := (vc_X1_doActs_12_24 h2058 h2044 h2046 h2048 h2050 h2052 h2054 h2056 h2023)
          refine sv_aload_n (pc := 144) dX1_doActs_144 rfl rfl ?_
          refine mr_iconst (pc := 145) (z := 1) dX1_doActs_145 ?_
          refine pf_X1_7 (pc := 146) dX1_doActs_146 wF_X1_50 (A_21 hw) T2020 (rW (c := 0) (d := 2) (rR (x := 1)) rfl) fun μ2060 u2061 T2062 => ?_
          refine sv_goto (pc := 149) (tgt := 260) dX1_doActs_149 (by decide) ?_
          refine mr_iinc (pc := 260) (lv' := [(5, iv (z1989 + 1)), (6, iv z2009), (0, .ref 21), (1, .ref a1), (2, iv p2), (3, iv p3), (4, iv p4)]) dX1_doActs_260 rfl (by decide) rfl ?_
          refine sv_goto (pc := 263) (tgt := 3) dX1_doActs_263 (by decide) ?_
          refine mr_lvS (lv' := [(0, .ref 21), (1, .ref a1), (2, iv p2), (3, iv p3), (4, iv p4), (5, iv (z1989 + 1))]) (List.forall_mem_cons.mpr ⟨rfl, List.forall_mem_cons.mpr ⟨rfl, List.forall_mem_cons.mpr ⟨rfl, List.forall_mem_cons.mpr ⟨rfl, List.forall_mem_cons.mpr ⟨rfl, List.forall_mem_cons.mpr ⟨rfl, fun _ h => absurd h List.not_mem_nil⟩⟩⟩⟩⟩⟩) ?_
          exact ih1999 (z1989 + 1) μ2060 T2062 (mF.up (mF.up (mF.call mF.refl F1994 rfl) (A_21 hw) u2019 rfl) (A_21 hw) u2061 rfl) (rW (c := 0) (d := 1000) (rAdd (e := 1) (f := 1000) h2001 (rR (x := 1)) rfl) rfl) (PC.keep I1996 hw ((mF.up (mF.up mF.refl (A_21 hw) u2019 rfl) (A_21 hw) u2061 rfl) : mF [21006, 21007] w μ1990 μ2060) rfl) (RT.keep I1997 hw ((mF.up (mF.up mF.refl (A_21 hw) u2019 rfl) (A_21 hw) u2061 rfl) : mF [21006, 21007] w μ1990 μ2060) rfl) (vc_X1_doActs_12_13 (nS h1998) h2000 h4 h3 hp2 h2002 h2001)
        by_cases h2063 : z2021 = 24
        · refine mr_tableIn (pc := 62) (v := 24) (tgt := 152) dX1_doActs_62 h2063 rfl rfl (by decide) ?_
          have h2064 : 24 ≤ z2021 ∧ z2021 ≤ 24 := (vc_X1_doActs_12_25 h2063 h2046 h2048 h2050 h2052 h2054 h2056 h2058 h2023)
          refine sv_aload_n (pc := 152) dX1_doActs_152 rfl rfl ?_
          refine mr_iconst (pc := 153) (z := 2) dX1_doActs_153 ?_
          refine pf_X1_7 (pc := 154) dX1_doActs_154 wF_X1_50 (A_21 hw) T2020 (rW (c := 0) (d := 2) (rR (x := 2)) rfl) fun μ2065 u2066 T2067 => ?_
          refine sv_goto (pc := 157) (tgt := 260) dX1_doActs_157 (by decide) ?_
          refine mr_iinc (pc := 260) (lv' := [(5, iv (z1989 + 1)), (6, iv z2009), (0, .ref 21), (1, .ref a1), (2, iv p2), (3, iv p3), (4, iv p4)]) dX1_doActs_260 rfl (by decide) rfl ?_
          refine sv_goto (pc := 263) (tgt := 3) dX1_doActs_263 (by decide) ?_
          refine mr_lvS (lv' := [(0, .ref 21), (1, .ref a1), (2, iv p2), (3, iv p3), (4, iv p4), (5, iv (z1989 + 1))]) (List.forall_mem_cons.mpr ⟨rfl, List.forall_mem_cons.mpr ⟨rfl, List.forall_mem_cons.mpr ⟨rfl, List.forall_mem_cons.mpr ⟨rfl, List.forall_mem_cons.mpr ⟨rfl, List.forall_mem_cons.mpr ⟨rfl, fun _ h => absurd h List.not_mem_nil⟩⟩⟩⟩⟩⟩) ?_
          exact ih1999 (z1989 + 1) μ2065 T2067 (mF.up (mF.up (mF.call mF.refl F1994 rfl) (A_21 hw) u2019 rfl) (A_21 hw) u2066 rfl) (rW (c := 0) (d := 1000) (rAdd (e := 1) (f := 1000) h2001 (rR (x := 1)) rfl) rfl) (PC.keep I1996 hw ((mF.up (mF.up mF.refl (A_21 hw) u2019 rfl) (A_21 hw) u2066 rfl) : mF [21006, 21007] w μ1990 μ2065) rfl) (RT.keep I1997 hw ((mF.up (mF.up mF.refl (A_21 hw) u2019 rfl) (A_21 hw) u2066 rfl) : mF [21006, 21007] w μ1990 μ2065) rfl) (vc_X1_doActs_12_13 (nS h1998) h2000 h4 h3 hp2 h2002 h2001)
        by_cases h2068 : z2021 = 25
        · refine mr_tableIn (pc := 62) (v := 25) (tgt := 160) dX1_doActs_62 h2068 rfl rfl (by decide) ?_
          have h2069 : 25 ≤ z2021 ∧ z2021 ≤ 25 := (vc_X1_doActs_12_26 h2068 h2048 h2050 h2052 h2054 h2056 h2058 h2063 h2023)
          refine sv_aload_n (pc := 160) dX1_doActs_160 rfl rfl ?_
          refine gf_X1_2 (pc := 161) dX1_doActs_161 wF_X1_25 (A_21 hw) T2020 (RT.keep I1997 hw ((mF.up mF.refl (A_21 hw) u2019 rfl) : mF [21006] w μ1990 μ2018) rfl) fun b2070 q2071 A2072 => ?_
          refine mr_iload (pc := 164) (z := z2009) dX1_doActs_164 rfl ?_
          refine mr_cVV (pc := 166) (c_X7_addMark hw T2020 A2072 (rW (c := (-2147483648)) (d := 2147483647) h2012 rfl)) (gOk _ _ _ _ _) dX1_doActs_166 (tX7_addMark _ _ _ _ _) ⟨wV_X7_addMark, wL_X7_addMark⟩ wM_X1_124 (gCX7 _ _ _ _ _) rfl A2072 rfl ⟨le_t rfl, le_t rfl⟩ ⟨le_t rfl, le_t rfl⟩ rfl (le_t rfl) fun μ2073 T2074 F2075 h2076 => ?_
          refine sv_goto (pc := 169) (tgt := 260) dX1_doActs_169 (by decide) ?_
          refine mr_iinc (pc := 260) (lv' := [(5, iv (z1989 + 1)), (6, iv z2009), (0, .ref 21), (1, .ref a1), (2, iv p2), (3, iv p3), (4, iv p4)]) dX1_doActs_260 rfl (by decide) rfl ?_
          refine sv_goto (pc := 263) (tgt := 3) dX1_doActs_263 (by decide) ?_
          refine mr_lvS (lv' := [(0, .ref 21), (1, .ref a1), (2, iv p2), (3, iv p3), (4, iv p4), (5, iv (z1989 + 1))]) (List.forall_mem_cons.mpr ⟨rfl, List.forall_mem_cons.mpr ⟨rfl, List.forall_mem_cons.mpr ⟨rfl, List.forall_mem_cons.mpr ⟨rfl, List.forall_mem_cons.mpr ⟨rfl, List.forall_mem_cons.mpr ⟨rfl, fun _ h => absurd h List.not_mem_nil⟩⟩⟩⟩⟩⟩) ?_
          exact ih1999 (z1989 + 1) μ2073 T2074 (mF.call (mF.up (mF.call mF.refl F1994 rfl) (A_21 hw) u2019 rfl) F2075 rfl) (rW (c := 0) (d := 1000) (rAdd (e := 1) (f := 1000) h2001 (rR (x := 1)) rfl) rfl) (PC.keep I1996 hw ((mF.call (mF.up mF.refl (A_21 hw) u2019 rfl) F2075 rfl) : mF [21006, 200008, 202999] w μ1990 μ2073) rfl) (RT.keep I1997 hw ((mF.call (mF.up mF.refl (A_21 hw) u2019 rfl) F2075 rfl) : mF [21006, 200008, 202999] w μ1990 μ2073) rfl) (vc_X1_doActs_12_13 (nS h1998) h2000 h4 h3 hp2 h2002 h2001)
        by_cases h2077 : z2021 = 26
        · refine mr_tableIn (pc := 62) (v := 26) (tgt := 172) dX1_doActs_62 h2077 rfl rfl (by decide) ?_
          have h2078 : 26 ≤ z2021 ∧ z2021 ≤ 26 := (vc_X1_doActs_12_27 h2077 h2050 h2052 h2054 h2056 h2058 h2063 h2068 h2023)
          refine sv_aload_n (pc := 172) dX1_doActs_172 rfl rfl ?_
          refine gf_X1_2 (pc := 173) dX1_doActs_173 wF_X1_25 (A_21 hw) T2020 (RT.keep I1997 hw ((mF.up mF.refl (A_21 hw) u2019 rfl) : mF [21006] w μ1990 μ2018) rfl) fun b2079 q2080 A2081 => ?_
          refine mr_iload (pc := 176) (z := z2009) dX1_doActs_176 rfl ?_
          refine mr_cVV (pc := 178) (c_X7_dropMark hw T2020 A2081 (rW (c := (-2147483648)) (d := 2147483647) h2012 rfl)) (gOk _ _ _ _ _) dX1_doActs_178 (tX7_dropMark _ _ _ _ _) ⟨wV_X7_dropMark, wL_X7_dropMark⟩ wM_X1_128 (gCX7 _ _ _ _ _) rfl A2081 rfl ⟨le_t rfl, le_t rfl⟩ ⟨le_t rfl, le_t rfl⟩ rfl (le_t rfl) fun μ2082 T2083 F2084 h2085 => ?_
          refine sv_goto (pc := 181) (tgt := 260) dX1_doActs_181 (by decide) ?_
          refine mr_iinc (pc := 260) (lv' := [(5, iv (z1989 + 1)), (6, iv z2009), (0, .ref 21), (1, .ref a1), (2, iv p2), (3, iv p3), (4, iv p4)]) dX1_doActs_260 rfl (by decide) rfl ?_
          refine sv_goto (pc := 263) (tgt := 3) dX1_doActs_263 (by decide) ?_
          refine mr_lvS (lv' := [(0, .ref 21), (1, .ref a1), (2, iv p2), (3, iv p3), (4, iv p4), (5, iv (z1989 + 1))]) (List.forall_mem_cons.mpr ⟨rfl, List.forall_mem_cons.mpr ⟨rfl, List.forall_mem_cons.mpr ⟨rfl, List.forall_mem_cons.mpr ⟨rfl, List.forall_mem_cons.mpr ⟨rfl, List.forall_mem_cons.mpr ⟨rfl, fun _ h => absurd h List.not_mem_nil⟩⟩⟩⟩⟩⟩) ?_
          exact ih1999 (z1989 + 1) μ2082 T2083 (mF.call (mF.up (mF.call mF.refl F1994 rfl) (A_21 hw) u2019 rfl) F2084 rfl) (rW (c := 0) (d := 1000) (rAdd (e := 1) (f := 1000) h2001 (rR (x := 1)) rfl) rfl) (PC.keep I1996 hw ((mF.call (mF.up mF.refl (A_21 hw) u2019 rfl) F2084 rfl) : mF [21006, 200008, 202999] w μ1990 μ2082) rfl) (RT.keep I1997 hw ((mF.call (mF.up mF.refl (A_21 hw) u2019 rfl) F2084 rfl) : mF [21006, 200008, 202999] w μ1990 μ2082) rfl) (vc_X1_doActs_12_13 (nS h1998) h2000 h4 h3 hp2 h2002 h2001)
        by_cases h2086 : z2021 = 27
        · refine mr_tableIn (pc := 62) (v := 27) (tgt := 208) dX1_doActs_62 h2086 rfl rfl (by decide) ?_
          have h2087 : 27 ≤ z2021 ∧ z2021 ≤ 27 := (vc_X1_doActs_12_28 h2086 h2052 h2054 h2056 h2058 h2063 h2068 h2077 h2023)
          refine sv_aload_n (pc := 208) dX1_doActs_208 rfl rfl ?_
          refine gf_X1_2 (pc := 209) dX1_doActs_209 wF_X1_25 (A_21 hw) T2020 (RT.keep I1997 hw ((mF.up mF.refl (A_21 hw) u2019 rfl) : mF [21006] w μ1990 μ2018) rfl) fun b2088 q2089 A2090 => ?_
          refine gf_X7_7 (pc := 212) dX1_doActs_212 wF_X1_96 A2090 T2020 fun z2091 q2092 h2093 => ?_
          have J2116 : ∀ (μ2110 : mM), (mT w μ2110) → (mF [21007, 200007, 201999] w μ2018 μ2110) → (PC w μ2110) → (RT μ2110) → sV (gG l D c H0 sa) mX1_doActs (sRm 6 0 0) (sZ (gG l D c H0 sa) 0 0 (qV w [21006, 21007, 200004, 200006, 200007, 200008, 201999, 202999] μ (fun μ1 => True))) 260 [(0, .ref 21), (1, .ref a1), (2, iv p2), (3, iv p3), (4, iv p4), (5, iv z1989)] [] (mk w μ2110) 0 0 := by
            intro μ2110 T2111 F2112 I2114 I2115
            refine mr_iinc (pc := 260) (lv' := [(5, iv (z1989 + 1)), (0, .ref 21), (1, .ref a1), (2, iv p2), (3, iv p3), (4, iv p4)]) dX1_doActs_260 rfl (by decide) rfl ?_
            refine sv_goto (pc := 263) (tgt := 3) dX1_doActs_263 (by decide) ?_
            refine mr_lvS (lv' := [(0, .ref 21), (1, .ref a1), (2, iv p2), (3, iv p3), (4, iv p4), (5, iv (z1989 + 1))]) (List.forall_mem_cons.mpr ⟨rfl, List.forall_mem_cons.mpr ⟨rfl, List.forall_mem_cons.mpr ⟨rfl, List.forall_mem_cons.mpr ⟨rfl, List.forall_mem_cons.mpr ⟨rfl, List.forall_mem_cons.mpr ⟨rfl, fun _ h => absurd h List.not_mem_nil⟩⟩⟩⟩⟩⟩) ?_
            exact ih1999 (z1989 + 1) μ2110 T2111 (mF.call (mF.up (mF.call mF.refl F1994 rfl) (A_21 hw) u2019 rfl) F2112 rfl) (rW (c := 0) (d := 1000) (rAdd (e := 1) (f := 1000) h2001 (rR (x := 1)) rfl) rfl) I2114 I2115 (vc_X1_doActs_12_13 (nS h1998) h2000 h4 h3 hp2 h2002 h2001)
          refine mr_if_le (pc := 215) (tgt := 260) dX1_doActs_215 (by decide) (r32 h2093 rfl) (fun h2117 => ?_) (fun h2117 => ?_)
          · have h2118 : 0 ≤ z2091 ∧ z2091 ≤ 0 := (vc_X12_unlike_21 h2117 h2093)
            refine mr_lvS (lv' := [(0, .ref 21), (1, .ref a1), (2, iv p2), (3, iv p3), (4, iv p4), (5, iv z1989)]) (List.forall_mem_cons.mpr ⟨rfl, List.forall_mem_cons.mpr ⟨rfl, List.forall_mem_cons.mpr ⟨rfl, List.forall_mem_cons.mpr ⟨rfl, List.forall_mem_cons.mpr ⟨rfl, List.forall_mem_cons.mpr ⟨rfl, fun _ h => absurd h List.not_mem_nil⟩⟩⟩⟩⟩⟩) ?_
            exact J2116 μ2018 T2020 mF.refl (PC.keep I1996 hw ((mF.up mF.refl (A_21 hw) u2019 rfl) : mF [21006] w μ1990 μ2018) rfl) (RT.keep I1997 hw ((mF.up mF.refl (A_21 hw) u2019 rfl) : mF [21006] w μ1990 μ2018) rfl)
          have h2119 : 1 ≤ z2091 ∧ z2091 ≤ 20 := (vc_X12_unlike_22 h2117 h2093)
          refine sv_aload_n (pc := 218) dX1_doActs_218 rfl rfl ?_
          refine gk_X1_2 (pc := 219) dX1_doActs_219 wF_X1_25 (A_21 hw) q2089 ?_
          refine sv_aload_n (pc := 222) dX1_doActs_222 rfl rfl ?_
          refine gk_X1_2 (pc := 223) dX1_doActs_223 wF_X1_25 (A_21 hw) q2089 ?_
          refine gf_X7_0 (pc := 226) dX1_doActs_226 wF_X1_114 A2090 T2020 fun A2120 => ?_
          refine mr_iconst (pc := 229) (z := 0) dX1_doActs_229 ?_
          refine la_201 (pc := 230) dX1_doActs_230 A2120 T2020 (rIx (n := 20) (rR (x := 0)) rfl) fun z2121 q2122 h2123 => ?_
          refine mr_iload (pc := 231) (z := z2009) dX1_doActs_231 rfl ?_
          refine mr_cVI (pc := 233) (c_X7_putInFront hw T2020 A2090 h2123 (rW (c := (-2147483648)) (d := 1000000) h2012 rfl)) (gOk _ _ _ _ _) dX1_doActs_233 (tX7_putInFront _ _ _ _ _) ⟨wV_X7_putInFront, wL_X7_putInFront⟩ wM_X1_131 (gCX7 _ _ _ _ _) rfl A2090 rfl ⟨le_t rfl, le_t rfl⟩ ⟨le_t rfl, le_t rfl⟩ rfl (le_t rfl) fun z2128 μ2124 T2125 F2126 h2127 => ?_
          refine mr_if_ne (pc := 236) (tgt := 260) dX1_doActs_236 (by decide) (r32 h2127.1 rfl) (fun h2129 => ?_) (fun h2129 => ?_)
          · have h2130 : 1 ≤ z2128 ∧ z2128 ≤ 1 := (vc_X12_ring_24 h2129 h2127.1)
            refine mr_lvS (lv' := [(0, .ref 21), (1, .ref a1), (2, iv p2), (3, iv p3), (4, iv p4), (5, iv z1989)]) (List.forall_mem_cons.mpr ⟨rfl, List.forall_mem_cons.mpr ⟨rfl, List.forall_mem_cons.mpr ⟨rfl, List.forall_mem_cons.mpr ⟨rfl, List.forall_mem_cons.mpr ⟨rfl, List.forall_mem_cons.mpr ⟨rfl, fun _ h => absurd h List.not_mem_nil⟩⟩⟩⟩⟩⟩) ?_
            exact J2116 μ2124 T2125 (mF.call mF.refl F2126 rfl) (PC.keep I1996 hw ((mF.call (mF.up mF.refl (A_21 hw) u2019 rfl) F2126 rfl) : mF [21006, 200007, 201999] w μ1990 μ2124) rfl) (RT.keep I1997 hw ((mF.call (mF.up mF.refl (A_21 hw) u2019 rfl) F2126 rfl) : mF [21006, 200007, 201999] w μ1990 μ2124) rfl)
          have h2131 : 0 ≤ z2128 ∧ z2128 ≤ 0 := (vc_X12_ring_22 h2129 h2127.1)
          refine sv_aload_n (pc := 239) dX1_doActs_239 rfl rfl ?_
          refine mr_iconst (pc := 240) (z := 2) dX1_doActs_240 ?_
          refine pf_X1_7 (pc := 241) dX1_doActs_241 wF_X1_50 (A_21 hw) T2125 (rW (c := 0) (d := 2) (rR (x := 2)) rfl) fun μ2132 u2133 T2134 => ?_
          refine sv_goto (pc := 244) (tgt := 260) dX1_doActs_244 (by decide) ?_
          refine mr_lvS (lv' := [(0, .ref 21), (1, .ref a1), (2, iv p2), (3, iv p3), (4, iv p4), (5, iv z1989)]) (List.forall_mem_cons.mpr ⟨rfl, List.forall_mem_cons.mpr ⟨rfl, List.forall_mem_cons.mpr ⟨rfl, List.forall_mem_cons.mpr ⟨rfl, List.forall_mem_cons.mpr ⟨rfl, List.forall_mem_cons.mpr ⟨rfl, fun _ h => absurd h List.not_mem_nil⟩⟩⟩⟩⟩⟩) ?_
          exact J2116 μ2132 T2134 (mF.up (mF.call mF.refl F2126 rfl) (A_21 hw) u2133 rfl) (PC.keep I1996 hw ((mF.up (mF.call (mF.up mF.refl (A_21 hw) u2019 rfl) F2126 rfl) (A_21 hw) u2133 rfl) : mF [21006, 21007, 200007, 201999] w μ1990 μ2132) rfl) (RT.keep I1997 hw ((mF.up (mF.call (mF.up mF.refl (A_21 hw) u2019 rfl) F2126 rfl) (A_21 hw) u2133 rfl) : mF [21006, 21007, 200007, 201999] w μ1990 μ2132) rfl)
        by_cases h2135 : z2021 = 28
        · refine mr_tableIn (pc := 62) (v := 28) (tgt := 247) dX1_doActs_62 h2135 rfl rfl (by decide) ?_
          have h2136 : 28 ≤ z2021 ∧ z2021 ≤ 28 := (vc_X1_doActs_12_33 h2135 h2054 h2056 h2058 h2063 h2068 h2077 h2086 h2023)
          refine sv_aload_n (pc := 247) dX1_doActs_247 rfl rfl ?_
          refine mr_iload (pc := 248) (z := z2009) dX1_doActs_248 rfl ?_
          refine mr_iload (pc := 250) (z := p4) dX1_doActs_250 rfl ?_
          refine mr_iconst (pc := 252) (z := 1) dX1_doActs_252 ?_
          refine mr_iadd (pc := 253) (x := p4) (y := 1) dX1_doActs_253 ?_
          refine mr_cVV (pc := 254) (c_X1_goThrough_12 hw T2020 (rW (c := (-2147483648)) (d := 2147483647) h2012 rfl) (rAdd (e := 12) (f := 12) hp4 (rR (x := 1)) rfl) (PC.keep I1996 hw ((mF.up mF.refl (A_21 hw) u2019 rfl) : mF [21006] w μ1990 μ2018) rfl) (RT.keep I1997 hw ((mF.up mF.refl (A_21 hw) u2019 rfl) : mF [21006] w μ1990 μ2018) rfl)) (gOk _ _ _ _ _) dX1_doActs_254 (tX1_goThrough _ _ _ _ _) ⟨wV_X1_goThrough, wL_X1_goThrough⟩ wM_X1_53 (gCX1 _ _ _ _ _) rfl (A_21 hw) rfl ⟨le_t rfl, le_t rfl⟩ ⟨le_t rfl, le_t rfl⟩ rfl (le_t rfl) fun μ2137 T2138 F2139 h2140 => ?_
          refine sv_goto (pc := 257) (tgt := 260) dX1_doActs_257 (by decide) ?_
          refine mr_iinc (pc := 260) (lv' := [(5, iv (z1989 + 1)), (6, iv z2009), (0, .ref 21), (1, .ref a1), (2, iv p2), (3, iv p3), (4, iv p4)]) dX1_doActs_260 rfl (by decide) rfl ?_
          refine sv_goto (pc := 263) (tgt := 3) dX1_doActs_263 (by decide) ?_
          refine mr_lvS (lv' := [(0, .ref 21), (1, .ref a1), (2, iv p2), (3, iv p3), (4, iv p4), (5, iv (z1989 + 1))]) (List.forall_mem_cons.mpr ⟨rfl, List.forall_mem_cons.mpr ⟨rfl, List.forall_mem_cons.mpr ⟨rfl, List.forall_mem_cons.mpr ⟨rfl, List.forall_mem_cons.mpr ⟨rfl, List.forall_mem_cons.mpr ⟨rfl, fun _ h => absurd h List.not_mem_nil⟩⟩⟩⟩⟩⟩) ?_
          exact ih1999 (z1989 + 1) μ2137 T2138 (mF.call (mF.up (mF.call mF.refl F1994 rfl) (A_21 hw) u2019 rfl) F2139 rfl) (rW (c := 0) (d := 1000) (rAdd (e := 1) (f := 1000) h2001 (rR (x := 1)) rfl) rfl) (PC.keep I1996 hw ((mF.call (mF.up mF.refl (A_21 hw) u2019 rfl) F2139 rfl) : mF [21006, 21007, 200004, 200006, 200007, 200008, 201999, 202999] w μ1990 μ2137) rfl) (RT.keep I1997 hw ((mF.call (mF.up mF.refl (A_21 hw) u2019 rfl) F2139 rfl) : mF [21006, 21007, 200004, 200006, 200007, 200008, 201999, 202999] w μ1990 μ2137) rfl) (vc_X1_doActs_12_13 (nS h1998) h2000 h4 h3 hp2 h2002 h2001)
        refine mr_tableOut (pc := 62) (tgt := 260) dX1_doActs_62 h2023 (vc_X1_doActs_12_34 h2024 h2032 h2040 h2042 h2044 h2046 h2048 h2050 h2052 h2054 h2056 h2058 h2063 h2068 h2077 h2086 h2135 h2023) (by decide) ?_
        refine mr_iinc (pc := 260) (lv' := [(5, iv (z1989 + 1)), (6, iv z2009), (0, .ref 21), (1, .ref a1), (2, iv p2), (3, iv p3), (4, iv p4)]) dX1_doActs_260 rfl (by decide) rfl ?_
        refine sv_goto (pc := 263) (tgt := 3) dX1_doActs_263 (by decide) ?_
        refine mr_lvS (lv' := [(0, .ref 21), (1, .ref a1), (2, iv p2), (3, iv p3), (4, iv p4), (5, iv (z1989 + 1))]) (List.forall_mem_cons.mpr ⟨rfl, List.forall_mem_cons.mpr ⟨rfl, List.forall_mem_cons.mpr ⟨rfl, List.forall_mem_cons.mpr ⟨rfl, List.forall_mem_cons.mpr ⟨rfl, List.forall_mem_cons.mpr ⟨rfl, fun _ h => absurd h List.not_mem_nil⟩⟩⟩⟩⟩⟩) ?_
        exact ih1999 (z1989 + 1) μ2018 T2020 (mF.up (mF.call mF.refl F1994 rfl) (A_21 hw) u2019 rfl) (rW (c := 0) (d := 1000) (rAdd (e := 1) (f := 1000) h2001 (rR (x := 1)) rfl) rfl) (PC.keep I1996 hw ((mF.up mF.refl (A_21 hw) u2019 rfl) : mF [21006] w μ1990 μ2018) rfl) (RT.keep I1997 hw ((mF.up mF.refl (A_21 hw) u2019 rfl) : mF [21006] w μ1990 μ2018) rfl) (vc_X1_doActs_12_13 (nS h1998) h2000 h4 h3 hp2 h2002 h2001)
      have h2141 : 500 ≤ z2013 ∧ z2013 ≤ 500 := (vc_X1_doActs_12_35 h2016 h2015)
      refine sv_aload_n (pc := 38) dX1_doActs_38 rfl rfl ?_
      refine mr_iconst (pc := 39) (z := 2) dX1_doActs_39 ?_
      refine pf_X1_7 (pc := 40) dX1_doActs_40 wF_X1_50 (A_21 hw) T1993 (rW (c := 0) (d := 2) (rR (x := 2)) rfl) fun μ2142 u2143 T2144 => ?_
      exact mr_vret dX1_doActs_43 rfl (le_t rfl) (le_t rfl) T2144 (mF.up (mF.call mF.refl F1994 rfl) (A_21 hw) u2143 rfl) trivial
  refine mr_lvS (lv' := [(0, .ref 21), (1, .ref a1), (2, iv p2), (3, iv p3), (4, iv p4), (5, iv 0)]) (List.forall_mem_cons.mpr ⟨rfl, List.forall_mem_cons.mpr ⟨rfl, List.forall_mem_cons.mpr ⟨rfl, List.forall_mem_cons.mpr ⟨rfl, List.forall_mem_cons.mpr ⟨rfl, List.forall_mem_cons.mpr ⟨rfl, fun _ h => absurd h List.not_mem_nil⟩⟩⟩⟩⟩⟩) ?_
  exact L1991 1002 0 μ hT mF.refl (rW (c := 0) (d := 1000) (rR (x := 0)) rfl) hIPC hIRT vc_X1_doActs_12_36
theorem vc_X1_goThrough_11_5 {p2 : Int} (h0 : 12 < p2) (h1 : 11 ≤ p2 ∧ p2 ≤ 11) : False := by omega
set_option maxRecDepth 4000 in
set_option maxHeartbeats 4000000 in
theorem c_X1_goThrough_11 {l : Launch} {D : va_G} {c : Nat → ClassId} {H0 : Heap} {sa : Nat × Nat × (Nat → Int32)} {w : mW} {μ : mM} (hw : mWF w) (hT : mT w μ) {p1 : Int} (hp1 : (-2147483648) ≤ p1 ∧ p1 ≤ 2147483647) {p2 : Int} (hp2 : 11 ≤ p2 ∧ p2 ≤ 11) (hIPC : PC w μ) (hIRT : RT μ) : sC (gG l D c H0 sa) mX1_goThrough 7 0 0 [.ref 21, iv p1, iv p2] (mk w μ) (qV w [21006, 21007, 200004, 200006, 200007, 200008, 201999, 202999] μ (fun μ1 => True)) := by
  refine sC.of rfl (by decide) (le_t rfl) ?_
  refine mr_lvE (lv' := [(0, .ref 21), (1, iv p1), (2, iv p2)]) rfl ?_
  refine mr_iload_n (pc := 0) (z := p1) dX1_goThrough_0 rfl rfl ?_
  refine mr_if_lt (pc := 1) (tgt := 18) dX1_goThrough_1 (by decide) hp1 (fun h1 => ?_) (fun h1 => ?_)
  · have h2 : (-2147483648) ≤ p1 ∧ p1 ≤ (-1) := (vc_X12_ring_60 h1 hp1)
    exact mr_vret dX1_goThrough_18 rfl (le_t rfl) (le_t rfl) hT mF.refl trivial
  have h3 : 0 ≤ p1 ∧ p1 ≤ 2147483647 := (vc_X12_ring_1 h1 hp1)
  refine mr_iload_n (pc := 4) (z := p1) dX1_goThrough_4 rfl rfl ?_
  refine sv_aload_n (pc := 5) dX1_goThrough_5 rfl rfl ?_
  refine gf_X1_8 (pc := 6) dX1_goThrough_6 wF_X1_21 (A_21 hw) hT fun z4 q5 h6 => ?_
  refine mr_icmp_ge (pc := 9) (tgt := 18) dX1_goThrough_9 (by decide) (r32 h3 rfl) (r32 h6.2 rfl) (fun h7 => ?_) (fun h7 => ?_)
  · exact mr_vret dX1_goThrough_18 rfl (le_t rfl) (le_t rfl) hT mF.refl trivial
  have h8 : 0 ≤ p1 ∧ p1 ≤ 11 := (vc_X1_goThrough_13_3 h7 h1 h6.1 h3 h6.2)
  have h9 : 1 ≤ z4 ∧ z4 ≤ 12 := (vc_X1_goThrough_13_4 h7 h1 h6.1 h8 h6.2)
  refine mr_iload_n (pc := 12) (z := p2) dX1_goThrough_12 rfl rfl ?_
  refine mr_bipush (pc := 13) (z := 12) dX1_goThrough_13 (by decide) ?_
  refine mr_icmp_le (pc := 15) (tgt := 19) dX1_goThrough_15 (by decide) (r32 hp2 rfl) (r32 (rR (x := 12)) rfl) (fun _ => ?_) (fun h => ((vc_X1_goThrough_11_5 h hp2)).elim)
  refine sv_aload_n (pc := 19) dX1_goThrough_19 rfl rfl ?_
  refine gf_X1_1 (pc := 20) dX1_goThrough_20 wF_X1_17 (A_21 hw) hT ?_
  refine mr_iload_n (pc := 23) (z := p1) dX1_goThrough_23 rfl rfl ?_
  refine la_22 (pc := 24) dX1_goThrough_24 (A_22 hw) hT (rIx (n := 12) h8 rfl) (vc_X1_goThrough_12_6 h1 h6.1 h7 h8 h9) fun b10 q11 A12 => ?_
  refine mr_astore_n (pc := 25) (lv' := [(3, .ref b10), (0, .ref 21), (1, iv p1), (2, iv p2)]) dX1_goThrough_25 rfl (by decide) rfl ?_
  obtain ⟨c13, z14, q15, A16, q17, R18, e19, e20⟩ := PC.read hIPC hT A12 (vc_X1_goThrough_12_7 h1 h7 h6.1 h8 h9) (vc_X1_goThrough_12_6 h1 h6.1 h7 h8 h9) q11
  have h21 : 0 ≤ z14 ∧ z14 ≤ 30 := by rw [← q17]; exact hT _ _ A12 0
  refine mr_iconst (pc := 26) (z := 0) dX1_goThrough_26 ?_
  refine mr_istore (pc := 27) (lv' := [(4, iv 0), (3, .ref b10), (0, .ref 21), (1, iv p1), (2, iv p2)]) dX1_goThrough_27 (by decide) rfl ?_
  refine mr_iconst (pc := 29) (z := 0) dX1_goThrough_29 ?_
  refine mr_istore (pc := 30) (lv' := [(5, iv 0), (4, iv 0), (3, .ref b10), (0, .ref 21), (1, iv p1), (2, iv p2)]) dX1_goThrough_30 (by decide) rfl ?_
  have L1192 : ∀ (nL1192 : Nat) (z1190 z1189 : Int) (μ1191 : mM), mT w μ1191 → mF [21006, 21007, 200004, 200006, 200007, 200008, 201999, 202999] w μ μ1191 → (0 ≤ z1190 ∧ z1190 ≤ 2000) → (0 ≤ z1189 ∧ z1189 ≤ 30) → PC w μ1191 → RT μ1191 → wfR (μ c13) (w.2.2.1 c13) (z1190).toNat (z14 - z1189).toNat → (2001 - z1190) < (nL1192 : Int) → sV (gG l D c H0 sa) mX1_goThrough (sRm 7 0 0) (sZ (gG l D c H0 sa) 0 0 (qV w [21006, 21007, 200004, 200006, 200007, 200008, 201999, 202999] μ (fun μ1 => True))) 32 [(0, .ref 21), (2, iv p2), (3, .ref b10), (4, iv z1190), (5, iv z1189)] [] (mk w μ1191) 0 0 := by
    intro nL1192
    induction nL1192 with
    | zero => intro z1190 z1189 μ1191 T1195 F1196 h1193 h1194 I1198 I1199 R1200 h1201; exact ((vc_X1_goThrough_12_8 h1201 h1193)).elim
    | succ nL1192 ih1202 =>
      intro z1190 z1189 μ1191 T1195 F1196 h1193 h1194 I1198 I1199 R1200 h1201
      refine mr_iload (pc := 32) (z := z1189) dX1_goThrough_32 rfl ?_
      refine sv_aload_n (pc := 34) dX1_goThrough_34 rfl rfl ?_
      refine gk_X5_0 (pc := 35) dX1_goThrough_35 wF_X1_57 A12 (F1196.f A12 rfl q17) ?_
      refine mr_icmp_ge (pc := 38) (tgt := 174) dX1_goThrough_38 (by decide) (r32 h1194 rfl) (r32 h21 rfl) (fun h1267 => ?_) (fun h1267 => ?_)
      · exact mr_vret dX1_goThrough_174 rfl (le_t rfl) (le_t rfl) T1195 (mF.call mF.refl F1196 rfl) trivial
      have h1268 : 0 ≤ z1189 ∧ z1189 ≤ 29 := (vc_X12_judgedAnew_2 h1267 h1194 h21)
      have h1269 : 1 ≤ z14 ∧ z14 ≤ 30 := (vc_X12_judgedAnew_3 h1267 h1268 h21)
      refine sv_aload_n (pc := 41) dX1_goThrough_41 rfl rfl ?_
      refine gf_X1_7 (pc := 42) dX1_goThrough_42 wF_X1_50 (A_21 hw) T1195 fun z1270 q1271 h1272 => ?_
      refine mr_if_ne (pc := 45) (tgt := 174) dX1_goThrough_45 (by decide) (r32 h1272 rfl) (fun h1332 => ?_) (fun h1332 => ?_)
      · have h1333 : 1 ≤ z1270 ∧ z1270 ≤ 2 := (vc_X12_provides_3 h1332 h1272)
        exact mr_vret dX1_goThrough_174 rfl (le_t rfl) (le_t rfl) T1195 (mF.call mF.refl F1196 rfl) trivial
      have h1334 : 0 ≤ z1270 ∧ z1270 ≤ 0 := (vc_X12_provides_4 h1332 h1272)
      obtain ⟨n_1335, q1336⟩ : ∃ n : Int, (w.2.2.1 c13 : Int) = n := ⟨_, rfl⟩
      have h1337 : 0 ≤ n_1335 ∧ n_1335 ≤ 2000 := lnR (m := 2000) q1336 A16 rfl
      have h1338 : z1190 + 1 < n_1335 := lnLt q1336 (wfR.hd R1200 (vc_X1_goThrough_12_13 h1193) (vc_X1_goThrough_12_14 h1267 h1268 h1269))
      refine sv_aload_n (pc := 48) dX1_goThrough_48 rfl rfl ?_
      refine gk_X5_1 (pc := 49) dX1_goThrough_49 wF_X1_60 A12 (F1196.f A12 rfl q15) ?_
      refine mr_iload (pc := 52) (z := z1190) dX1_goThrough_52 rfl ?_
      refine la_231 (pc := 54) dX1_goThrough_54 A16 T1195 (lnC q1336 (vc_X1_goThrough_12_15 h1338 h1337 h1193)) fun z1339 q1340 h1341 => ?_
      refine mr_istore (pc := 55) (lv' := [(6, iv z1339), (0, .ref 21), (2, iv p2), (3, .ref b10), (4, iv z1190), (5, iv z1189)]) dX1_goThrough_55 (by decide) rfl ?_
      refine sv_aload_n (pc := 57) dX1_goThrough_57 rfl rfl ?_
      refine gk_X5_1 (pc := 58) dX1_goThrough_58 wF_X1_60 A12 (F1196.f A12 rfl q15) ?_
      refine mr_iload (pc := 61) (z := z1190) dX1_goThrough_61 rfl ?_
      refine mr_iconst (pc := 63) (z := 1) dX1_goThrough_63 ?_
      refine mr_iadd (pc := 64) (x := z1190) (y := 1) dX1_goThrough_64 ?_
      refine la_231 (pc := 65) dX1_goThrough_65 A16 T1195 (lnC q1336 (vc_X1_goThrough_12_16 h1338 h1337 h1193)) fun z1342 q1343 h1344 => ?_
      have B1345 := wfR.bd R1200 (vc_X1_goThrough_12_13 h1193) (vc_X1_goThrough_12_14 h1267 h1268 h1269) ((((mF.call mF.refl F1196 rfl) : mF [21006, 21007, 200004, 200006, 200007, 200008, 201999, 202999] w μ μ1191).f A16 rfl rfl).symm.trans q1340) ((((mF.call mF.refl F1196 rfl) : mF [21006, 21007, 200004, 200006, 200007, 200008, 201999, 202999] w μ μ1191).f A16 rfl rfl).symm.trans q1343)
      have h1346 : 0 ≤ z1339 ∧ 0 ≤ z1342 ∧ z1190 + 2 + 5 * z1339 + 2 * z1342 ≤ n_1335 := ⟨B1345.1.1, B1345.1.2.1, lnLe q1336 B1345.1.2.2⟩
      have h1347 : 0 ≤ z1339 ∧ z1339 ≤ 400 := (vc_X1_goThrough_12_17 h1346 h1338 h1337 h1193 h1341 h1344)
      have h1348 : 0 ≤ z1342 ∧ z1342 ≤ 1000 := (vc_X1_goThrough_12_18 h1346 h1338 h1337 h1193 h1347 h1344)
      refine mr_istore (pc := 66) (lv' := [(7, iv z1342), (6, iv z1339), (0, .ref 21), (2, iv p2), (3, .ref b10), (4, iv z1190), (5, iv z1189)]) dX1_goThrough_66 (by decide) rfl ?_
      refine mr_iload (pc := 68) (z := z1190) dX1_goThrough_68 rfl ?_
      refine mr_iconst (pc := 70) (z := 2) dX1_goThrough_70 ?_
      refine mr_iadd (pc := 71) (x := z1190) (y := 2) dX1_goThrough_71 ?_
      refine mr_iload (pc := 72) (z := z1339) dX1_goThrough_72 rfl ?_
      refine mr_iconst (pc := 74) (z := 5) dX1_goThrough_74 ?_
      refine mr_imul (pc := 75) (x := z1339) (y := 5) dX1_goThrough_75 ?_
      refine mr_iadd (pc := 76) (x := (z1190 + 2)) (y := (z1339 * 5)) dX1_goThrough_76 ?_
      refine mr_istore (pc := 77) (lv' := [(8, iv ((z1190 + 2) + (z1339 * 5))), (7, iv z1342), (6, iv z1339), (0, .ref 21), (2, iv p2), (3, .ref b10), (4, iv z1190), (5, iv z1189)]) dX1_goThrough_77 (by decide) rfl ?_
      refine mr_iconst (pc := 79) (z := 1) dX1_goThrough_79 ?_
      refine mr_istore (pc := 80) (lv' := [(9, iv 1), (8, iv ((z1190 + 2) + (z1339 * 5))), (7, iv z1342), (6, iv z1339), (0, .ref 21), (2, iv p2), (3, .ref b10), (4, iv z1190), (5, iv z1189)]) dX1_goThrough_80 (by decide) rfl ?_
      refine mr_iload (pc := 82) (z := z1190) dX1_goThrough_82 rfl ?_
      refine mr_iconst (pc := 84) (z := 2) dX1_goThrough_84 ?_
      refine mr_iadd (pc := 85) (x := z1190) (y := 2) dX1_goThrough_85 ?_
      refine mr_istore (pc := 86) (lv' := [(10, iv (z1190 + 2)), (9, iv 1), (8, iv ((z1190 + 2) + (z1339 * 5))), (7, iv z1342), (6, iv z1339), (0, .ref 21), (2, iv p2), (3, .ref b10), (4, iv z1190), (5, iv z1189)]) dX1_goThrough_86 (by decide) rfl ?_
      have L1468 : ∀ (nL1468 : Nat) (z1467 z1466 : Int), True → (0 ≤ z1467 ∧ z1467 ≤ 1) → (2 ≤ z1466 ∧ z1466 ≤ 2010) → ((((z1190 + 2) + (z1339 * 5)) - z1466) % 5 = 0) → (2011 - z1466) < (nL1468 : Int) → sV (gG l D c H0 sa) mX1_goThrough (sRm 7 0 0) (sZ (gG l D c H0 sa) 0 0 (qV w [21006, 21007, 200004, 200006, 200007, 200008, 201999, 202999] μ (fun μ1 => True))) 88 [(0, .ref 21), (2, iv p2), (3, .ref b10), (5, iv z1189), (7, iv z1342), (8, iv ((z1190 + 2) + (z1339 * 5))), (9, iv z1467), (10, iv z1466)] [] (mk w μ1191) 0 0 := by
        intro nL1468
        induction nL1468 with
        | zero => intro z1467 z1466 _ h1469 h1470 h1474 h1475; exact ((vc_X1_goThrough_12_19 h1475 h1474 h1338 h1346 h1337 h1193 h1347 h1348 h1470)).elim
        | succ nL1468 ih1476 =>
          intro z1467 z1466 _ h1469 h1470 h1474 h1475
          refine mr_iload (pc := 88) (z := z1466) dX1_goThrough_88 rfl ?_
          refine mr_iload (pc := 90) (z := ((z1190 + 2) + (z1339 * 5))) dX1_goThrough_90 rfl ?_
          have J1492 : sV (gG l D c H0 sa) mX1_goThrough (sRm 7 0 0) (sZ (gG l D c H0 sa) 0 0 (qV w [21006, 21007, 200004, 200006, 200007, 200008, 201999, 202999] μ (fun μ1 => True))) 141 [(0, .ref 21), (2, iv p2), (3, .ref b10), (5, iv z1189), (7, iv z1342), (8, iv ((z1190 + 2) + (z1339 * 5))), (9, iv z1467)] [] (mk w μ1191) 0 0 := by
            refine mr_iload (pc := 141) (z := z1467) dX1_goThrough_141 rfl ?_
            refine mr_if_eq (pc := 143) (tgt := 159) dX1_goThrough_143 (by decide) (r32 h1469 rfl) (fun h1499 => ?_) (fun h1499 => ?_)
            · have h1500 : 0 ≤ z1467 ∧ z1467 ≤ 0 := (vc_X12_ring_22 h1499 h1469)
              refine mr_iload (pc := 159) (z := ((z1190 + 2) + (z1339 * 5))) dX1_goThrough_159 rfl ?_
              refine mr_iload (pc := 161) (z := z1342) dX1_goThrough_161 rfl ?_
              refine mr_iconst (pc := 163) (z := 2) dX1_goThrough_163 ?_
              refine mr_imul (pc := 164) (x := z1342) (y := 2) dX1_goThrough_164 ?_
              refine mr_iadd (pc := 165) (x := ((z1190 + 2) + (z1339 * 5))) (y := (z1342 * 2)) dX1_goThrough_165 ?_
              refine mr_istore (pc := 166) (lv' := [(4, iv (((z1190 + 2) + (z1339 * 5)) + (z1342 * 2))), (0, .ref 21), (2, iv p2), (3, .ref b10), (5, iv z1189), (7, iv z1342), (8, iv ((z1190 + 2) + (z1339 * 5))), (9, iv z1467)]) dX1_goThrough_166 (by decide) rfl ?_
              refine mr_iinc (pc := 168) (lv' := [(5, iv (z1189 + 1)), (4, iv (((z1190 + 2) + (z1339 * 5)) + (z1342 * 2))), (0, .ref 21), (2, iv p2), (3, .ref b10), (7, iv z1342), (8, iv ((z1190 + 2) + (z1339 * 5))), (9, iv z1467)]) dX1_goThrough_168 rfl (by decide) rfl ?_
              refine sv_goto (pc := 171) (tgt := 32) dX1_goThrough_171 (by decide) ?_
              refine mr_lvS (lv' := [(0, .ref 21), (2, iv p2), (3, .ref b10), (4, iv (((z1190 + 2) + (z1339 * 5)) + (z1342 * 2))), (5, iv (z1189 + 1))]) (List.forall_mem_cons.mpr ⟨rfl, List.forall_mem_cons.mpr ⟨rfl, List.forall_mem_cons.mpr ⟨rfl, List.forall_mem_cons.mpr ⟨rfl, List.forall_mem_cons.mpr ⟨rfl, fun _ h => absurd h List.not_mem_nil⟩⟩⟩⟩⟩) ?_
              exact ih1202 (((z1190 + 2) + (z1339 * 5)) + (z1342 * 2)) (z1189 + 1) μ1191 T1195 (mF.call mF.refl F1196 rfl) (vc_X1_goThrough_12_21 h1338 h1346 h1474 h1337 h1193 h1347 h1348 h1470) (rW (c := 0) (d := 30) (rAdd (e := 1) (f := 30) h1268 (rR (x := 1)) rfl) rfl) I1198 I1199 (wfR.cg B1345.2.2 (vc_X1_goThrough_12_23 h1338 h1346 h1474 h1337 h1193 h1347 h1348 h1470)) (vc_X1_goThrough_12_22 (nS h1201) h1338 h1346 h1474 h1337 h1193 h1347 h1348 h1470)
            have h1501 : 1 ≤ z1467 ∧ z1467 ≤ 1 := (vc_X12_ring_24 h1499 h1469)
            refine sv_aload_n (pc := 146) dX1_goThrough_146 rfl rfl ?_
            refine sv_aload_n (pc := 147) dX1_goThrough_147 rfl rfl ?_
            refine gk_X5_1 (pc := 148) dX1_goThrough_148 wF_X1_60 A12 (F1196.f A12 rfl q15) ?_
            refine mr_iload (pc := 151) (z := ((z1190 + 2) + (z1339 * 5))) dX1_goThrough_151 rfl ?_
            refine mr_iload (pc := 153) (z := z1342) dX1_goThrough_153 rfl ?_
            refine mr_iload_n (pc := 155) (z := p2) dX1_goThrough_155 rfl rfl ?_
            refine mr_cVV (pc := 156) (c_X1_doActs_11 hw T1195 A16 (vc_X1_goThrough_12_25 h1338 h1346 h1474 h1337 h1193 h1347 h1348 h1470) h1348 hp2 I1198 I1199 (lnL q1336 (vc_X1_goThrough_12_26 h1338 h1346 h1474 h1337 h1193 h1347 h1348 h1470)) (argC B1345.2.1 (vc_X1_goThrough_12_27 h1338 h1346 h1474 h1337 h1193 h1347 h1348 h1470) (funext fun i => ((mF.call mF.refl F1196 rfl) : mF [21006, 21007, 200004, 200006, 200007, 200008, 201999, 202999] w μ μ1191).f A16 rfl rfl))) (gOk _ _ _ _ _) dX1_goThrough_156 (tX1_doActs _ _ _ _ _) ⟨wV_X1_doActs, wL_X1_doActs⟩ wM_X1_68 (gCX1 _ _ _ _ _) rfl (A_21 hw) rfl ⟨le_t rfl, le_t rfl⟩ ⟨le_t rfl, le_t rfl⟩ rfl (le_t rfl) fun μ1502 T1503 F1504 h1505 => ?_
            refine mr_iload (pc := 159) (z := ((z1190 + 2) + (z1339 * 5))) dX1_goThrough_159 rfl ?_
            refine mr_iload (pc := 161) (z := z1342) dX1_goThrough_161 rfl ?_
            refine mr_iconst (pc := 163) (z := 2) dX1_goThrough_163 ?_
            refine mr_imul (pc := 164) (x := z1342) (y := 2) dX1_goThrough_164 ?_
            refine mr_iadd (pc := 165) (x := ((z1190 + 2) + (z1339 * 5))) (y := (z1342 * 2)) dX1_goThrough_165 ?_
            refine mr_istore (pc := 166) (lv' := [(4, iv (((z1190 + 2) + (z1339 * 5)) + (z1342 * 2))), (0, .ref 21), (2, iv p2), (3, .ref b10), (5, iv z1189), (7, iv z1342), (8, iv ((z1190 + 2) + (z1339 * 5))), (9, iv z1467)]) dX1_goThrough_166 (by decide) rfl ?_
            refine mr_iinc (pc := 168) (lv' := [(5, iv (z1189 + 1)), (4, iv (((z1190 + 2) + (z1339 * 5)) + (z1342 * 2))), (0, .ref 21), (2, iv p2), (3, .ref b10), (7, iv z1342), (8, iv ((z1190 + 2) + (z1339 * 5))), (9, iv z1467)]) dX1_goThrough_168 rfl (by decide) rfl ?_
            refine sv_goto (pc := 171) (tgt := 32) dX1_goThrough_171 (by decide) ?_
            refine mr_lvS (lv' := [(0, .ref 21), (2, iv p2), (3, .ref b10), (4, iv (((z1190 + 2) + (z1339 * 5)) + (z1342 * 2))), (5, iv (z1189 + 1))]) (List.forall_mem_cons.mpr ⟨rfl, List.forall_mem_cons.mpr ⟨rfl, List.forall_mem_cons.mpr ⟨rfl, List.forall_mem_cons.mpr ⟨rfl, List.forall_mem_cons.mpr ⟨rfl, fun _ h => absurd h List.not_mem_nil⟩⟩⟩⟩⟩) ?_
            exact ih1202 (((z1190 + 2) + (z1339 * 5)) + (z1342 * 2)) (z1189 + 1) μ1502 T1503 (mF.call (mF.call mF.refl F1196 rfl) F1504 rfl) (vc_X1_goThrough_12_21 h1338 h1346 h1474 h1337 h1193 h1347 h1348 h1470) (rW (c := 0) (d := 30) (rAdd (e := 1) (f := 30) h1268 (rR (x := 1)) rfl) rfl) (PC.keep I1198 hw ((mF.call mF.refl F1504 rfl) : mF [21006, 21007, 200004, 200006, 200007, 200008, 201999, 202999] w μ1191 μ1502) rfl) (RT.keep I1199 hw ((mF.call mF.refl F1504 rfl) : mF [21006, 21007, 200004, 200006, 200007, 200008, 201999, 202999] w μ1191 μ1502) rfl) (wfR.cg B1345.2.2 (vc_X1_goThrough_12_23 h1338 h1346 h1474 h1337 h1193 h1347 h1348 h1470)) (vc_X1_goThrough_12_22 (nS h1201) h1338 h1346 h1474 h1337 h1193 h1347 h1348 h1470)
          refine mr_icmp_ge (pc := 92) (tgt := 141) dX1_goThrough_92 (by decide) (r32 h1470 rfl) (r32 (rAdd (e := 2) (f := 4002) (rAdd (e := 2) (f := 2002) h1193 (rR (x := 2)) rfl) (rMulR (n := 5) (e := 0) (f := 2000) h1347 rfl) rfl) rfl) (fun h1506 => ?_) (fun h1506 => ?_)
          · refine mr_lvS (lv' := [(0, .ref 21), (2, iv p2), (3, .ref b10), (5, iv z1189), (7, iv z1342), (8, iv ((z1190 + 2) + (z1339 * 5))), (9, iv z1467)]) (List.forall_mem_cons.mpr ⟨rfl, List.forall_mem_cons.mpr ⟨rfl, List.forall_mem_cons.mpr ⟨rfl, List.forall_mem_cons.mpr ⟨rfl, List.forall_mem_cons.mpr ⟨rfl, List.forall_mem_cons.mpr ⟨rfl, List.forall_mem_cons.mpr ⟨rfl, fun _ h => absurd h List.not_mem_nil⟩⟩⟩⟩⟩⟩⟩) ?_
            exact J1492 
          refine mr_iload (pc := 95) (z := z1467) dX1_goThrough_95 rfl ?_
          refine mr_if_eq (pc := 97) (tgt := 141) dX1_goThrough_97 (by decide) (r32 h1469 rfl) (fun h1507 => ?_) (fun h1507 => ?_)
          · have h1508 : 0 ≤ z1467 ∧ z1467 ≤ 0 := (vc_X12_ring_22 h1507 h1469)
            refine mr_lvS (lv' := [(0, .ref 21), (2, iv p2), (3, .ref b10), (5, iv z1189), (7, iv z1342), (8, iv ((z1190 + 2) + (z1339 * 5))), (9, iv z1467)]) (List.forall_mem_cons.mpr ⟨rfl, List.forall_mem_cons.mpr ⟨rfl, List.forall_mem_cons.mpr ⟨rfl, List.forall_mem_cons.mpr ⟨rfl, List.forall_mem_cons.mpr ⟨rfl, List.forall_mem_cons.mpr ⟨rfl, List.forall_mem_cons.mpr ⟨rfl, fun _ h => absurd h List.not_mem_nil⟩⟩⟩⟩⟩⟩⟩) ?_
            exact J1492 
          have h1509 : 1 ≤ z1467 ∧ z1467 ≤ 1 := (vc_X12_ring_24 h1507 h1469)
          refine sv_aload_n (pc := 100) dX1_goThrough_100 rfl rfl ?_
          refine sv_aload_n (pc := 101) dX1_goThrough_101 rfl rfl ?_
          refine mr_iload (pc := 102) (z := z1466) dX1_goThrough_102 rfl ?_
          refine mr_cVP (pc := 104) (c_X1_isSo hw T1195 A12 (vc_X1_goThrough_12_28 h1474 h1506 h1338 h1346 h1337 h1193 h1347 h1348 h1470) I1199 (lnF (F1196.f A12 rfl q15) q1336 (vc_X1_goThrough_12_29 h1338 h1346 h1474 h1506 h1337 h1193 h1347 h1348 h1470)) (by rw [((mF.call mF.refl F1196 rfl) : mF [21006, 21007, 200004, 200006, 200007, 200008, 201999, 202999] w μ μ1191).f (k := 2) A12 rfl rfl, ((mF.call mF.refl F1196 rfl) : mF [21006, 21007, 200004, 200006, 200007, 200008, 201999, 202999] w μ μ1191).f (k := 3) A12 rfl rfl]; exact e19) (by rw [((mF.call mF.refl F1196 rfl) : mF [21006, 21007, 200004, 200006, 200007, 200008, 201999, 202999] w μ μ1191).f (k := 4) A12 rfl rfl, ((mF.call mF.refl F1196 rfl) : mF [21006, 21007, 200004, 200006, 200007, 200008, 201999, 202999] w μ μ1191).f (k := 5) A12 rfl rfl]; exact e20)) (gOk _ _ _ _ _) dX1_goThrough_104 (tX1_isSo _ _ _ _ _) ⟨wV_X1_isSo, wL_X1_isSo⟩ wM_X1_64 (gCX1 _ _ _ _ _) rfl (A_21 hw) rfl ⟨le_t rfl, le_t rfl⟩ ⟨le_t rfl, le_t rfl⟩ rfl (le_t rfl) fun z1514 h1513 => ?_
          refine sv_aload_n (pc := 107) dX1_goThrough_107 rfl rfl ?_
          refine gk_X5_1 (pc := 108) dX1_goThrough_108 wF_X1_60 A12 (F1196.f A12 rfl q15) ?_
          refine mr_iload (pc := 111) (z := z1466) dX1_goThrough_111 rfl ?_
          refine mr_iconst (pc := 113) (z := 1) dX1_goThrough_113 ?_
          refine mr_iadd (pc := 114) (x := z1466) (y := 1) dX1_goThrough_114 ?_
          refine la_231 (pc := 115) dX1_goThrough_115 A16 T1195 (lnC q1336 (vc_X1_goThrough_12_30 h1338 h1346 h1474 h1506 h1337 h1193 h1347 h1348 h1470)) fun z1515 q1516 h1517 => ?_
          refine mr_iconst (pc := 116) (z := 1) dX1_goThrough_116 ?_
          refine mr_icmp_ne (pc := 117) (tgt := 124) dX1_goThrough_117 (by decide) h1517 (r32 (rR (x := 1)) rfl) (fun h1519 => ?_) (fun h1519 => ?_)
          · refine mr_iconst (pc := 124) (z := 0) dX1_goThrough_124 ?_
            refine mr_icmp_eq (pc := 125) (tgt := 132) dX1_goThrough_125 (by decide) (r32 h1513.1 rfl) (r32 (rR (x := 0)) rfl) (fun h1522 => ?_) (fun h1522 => ?_)
            · have h1523 : 0 ≤ z1514 ∧ z1514 ≤ 0 := (vc_X12_ring_22 h1522 h1513.1)
              refine mr_iconst (pc := 132) (z := 0) dX1_goThrough_132 ?_
              refine mr_istore (pc := 133) (lv' := [(9, iv 0), (0, .ref 21), (2, iv p2), (3, .ref b10), (5, iv z1189), (7, iv z1342), (8, iv ((z1190 + 2) + (z1339 * 5))), (10, iv z1466)]) dX1_goThrough_133 (by decide) rfl ?_
              refine mr_iinc (pc := 135) (lv' := [(10, iv (z1466 + 5)), (9, iv 0), (0, .ref 21), (2, iv p2), (3, .ref b10), (5, iv z1189), (7, iv z1342), (8, iv ((z1190 + 2) + (z1339 * 5)))]) dX1_goThrough_135 rfl (by decide) rfl ?_
              refine sv_goto (pc := 138) (tgt := 88) dX1_goThrough_138 (by decide) ?_
              refine mr_lvS (lv' := [(0, .ref 21), (2, iv p2), (3, .ref b10), (5, iv z1189), (7, iv z1342), (8, iv ((z1190 + 2) + (z1339 * 5))), (9, iv 0), (10, iv (z1466 + 5))]) (List.forall_mem_cons.mpr ⟨rfl, List.forall_mem_cons.mpr ⟨rfl, List.forall_mem_cons.mpr ⟨rfl, List.forall_mem_cons.mpr ⟨rfl, List.forall_mem_cons.mpr ⟨rfl, List.forall_mem_cons.mpr ⟨rfl, List.forall_mem_cons.mpr ⟨rfl, List.forall_mem_cons.mpr ⟨rfl, fun _ h => absurd h List.not_mem_nil⟩⟩⟩⟩⟩⟩⟩⟩) ?_
              exact ih1476 0 (z1466 + 5) trivial (rW (c := 0) (d := 1) (rR (x := 0)) rfl) (vc_X1_goThrough_12_32 h1474 h1506 h1338 h1346 h1337 h1193 h1347 h1348 h1470) (vc_X1_goThrough_12_33 h1338 h1346 h1474 h1506 h1337 h1193 h1347 h1348 h1470) (vc_X1_goThrough_12_34 (nS h1475) h1474 h1506 h1338 h1346 h1337 h1193 h1347 h1348 h1470)
            have h1524 : 1 ≤ z1514 ∧ z1514 ≤ 1 := (vc_X12_ring_24 h1522 h1513.1)
            refine mr_iconst (pc := 128) (z := 1) dX1_goThrough_128 ?_
            refine sv_goto (pc := 129) (tgt := 133) dX1_goThrough_129 (by decide) ?_
            refine mr_istore (pc := 133) (lv' := [(9, iv 1), (0, .ref 21), (2, iv p2), (3, .ref b10), (5, iv z1189), (7, iv z1342), (8, iv ((z1190 + 2) + (z1339 * 5))), (10, iv z1466)]) dX1_goThrough_133 (by decide) rfl ?_
            refine mr_iinc (pc := 135) (lv' := [(10, iv (z1466 + 5)), (9, iv 1), (0, .ref 21), (2, iv p2), (3, .ref b10), (5, iv z1189), (7, iv z1342), (8, iv ((z1190 + 2) + (z1339 * 5)))]) dX1_goThrough_135 rfl (by decide) rfl ?_
            refine sv_goto (pc := 138) (tgt := 88) dX1_goThrough_138 (by decide) ?_
            refine mr_lvS (lv' := [(0, .ref 21), (2, iv p2), (3, .ref b10), (5, iv z1189), (7, iv z1342), (8, iv ((z1190 + 2) + (z1339 * 5))), (9, iv 1), (10, iv (z1466 + 5))]) (List.forall_mem_cons.mpr ⟨rfl, List.forall_mem_cons.mpr ⟨rfl, List.forall_mem_cons.mpr ⟨rfl, List.forall_mem_cons.mpr ⟨rfl, List.forall_mem_cons.mpr ⟨rfl, List.forall_mem_cons.mpr ⟨rfl, List.forall_mem_cons.mpr ⟨rfl, List.forall_mem_cons.mpr ⟨rfl, fun _ h => absurd h List.not_mem_nil⟩⟩⟩⟩⟩⟩⟩⟩) ?_
            exact ih1476 1 (z1466 + 5) trivial (rW (c := 0) (d := 1) (rR (x := 1)) rfl) (vc_X1_goThrough_12_32 h1474 h1506 h1338 h1346 h1337 h1193 h1347 h1348 h1470) (vc_X1_goThrough_12_33 h1338 h1346 h1474 h1506 h1337 h1193 h1347 h1348 h1470) (vc_X1_goThrough_12_34 (nS h1475) h1474 h1506 h1338 h1346 h1337 h1193 h1347 h1348 h1470)
          have h1525 : 1 ≤ z1515 ∧ z1515 ≤ 1 := (vc_X0_compareAt_1 h1519 h1517)
          refine mr_iconst (pc := 120) (z := 1) dX1_goThrough_120 ?_
          refine sv_goto (pc := 121) (tgt := 125) dX1_goThrough_121 (by decide) ?_
          refine mr_icmp_eq (pc := 125) (tgt := 132) dX1_goThrough_125 (by decide) (r32 h1513.1 rfl) (r32 (rR (x := 1)) rfl) (fun h1528 => ?_) (fun h1528 => ?_)
          · have h1529 : 1 ≤ z1514 ∧ z1514 ≤ 1 := (vc_X1_goThrough_12_37 h1528 h1513.1)
            refine mr_iconst (pc := 132) (z := 0) dX1_goThrough_132 ?_
            refine mr_istore (pc := 133) (lv' := [(9, iv 0), (0, .ref 21), (2, iv p2), (3, .ref b10), (5, iv z1189), (7, iv z1342), (8, iv ((z1190 + 2) + (z1339 * 5))), (10, iv z1466)]) dX1_goThrough_133 (by decide) rfl ?_
            refine mr_iinc (pc := 135) (lv' := [(10, iv (z1466 + 5)), (9, iv 0), (0, .ref 21), (2, iv p2), (3, .ref b10), (5, iv z1189), (7, iv z1342), (8, iv ((z1190 + 2) + (z1339 * 5)))]) dX1_goThrough_135 rfl (by decide) rfl ?_
            refine sv_goto (pc := 138) (tgt := 88) dX1_goThrough_138 (by decide) ?_
            refine mr_lvS (lv' := [(0, .ref 21), (2, iv p2), (3, .ref b10), (5, iv z1189), (7, iv z1342), (8, iv ((z1190 + 2) + (z1339 * 5))), (9, iv 0), (10, iv (z1466 + 5))]) (List.forall_mem_cons.mpr ⟨rfl, List.forall_mem_cons.mpr ⟨rfl, List.forall_mem_cons.mpr ⟨rfl, List.forall_mem_cons.mpr ⟨rfl, List.forall_mem_cons.mpr ⟨rfl, List.forall_mem_cons.mpr ⟨rfl, List.forall_mem_cons.mpr ⟨rfl, List.forall_mem_cons.mpr ⟨rfl, fun _ h => absurd h List.not_mem_nil⟩⟩⟩⟩⟩⟩⟩⟩) ?_
            exact ih1476 0 (z1466 + 5) trivial (rW (c := 0) (d := 1) (rR (x := 0)) rfl) (vc_X1_goThrough_12_32 h1474 h1506 h1338 h1346 h1337 h1193 h1347 h1348 h1470) (vc_X1_goThrough_12_33 h1338 h1346 h1474 h1506 h1337 h1193 h1347 h1348 h1470) (vc_X1_goThrough_12_34 (nS h1475) h1474 h1506 h1338 h1346 h1337 h1193 h1347 h1348 h1470)
          have h1530 : 0 ≤ z1514 ∧ z1514 ≤ 0 := (vc_X1_goThrough_12_38 h1528 h1513.1)
          refine mr_iconst (pc := 128) (z := 1) dX1_goThrough_128 ?_
          refine sv_goto (pc := 129) (tgt := 133) dX1_goThrough_129 (by decide) ?_
          refine mr_istore (pc := 133) (lv' := [(9, iv 1), (0, .ref 21), (2, iv p2), (3, .ref b10), (5, iv z1189), (7, iv z1342), (8, iv ((z1190 + 2) + (z1339 * 5))), (10, iv z1466)]) dX1_goThrough_133 (by decide) rfl ?_
          refine mr_iinc (pc := 135) (lv' := [(10, iv (z1466 + 5)), (9, iv 1), (0, .ref 21), (2, iv p2), (3, .ref b10), (5, iv z1189), (7, iv z1342), (8, iv ((z1190 + 2) + (z1339 * 5)))]) dX1_goThrough_135 rfl (by decide) rfl ?_
          refine sv_goto (pc := 138) (tgt := 88) dX1_goThrough_138 (by decide) ?_
          refine mr_lvS (lv' := [(0, .ref 21), (2, iv p2), (3, .ref b10), (5, iv z1189), (7, iv z1342), (8, iv ((z1190 + 2) + (z1339 * 5))), (9, iv 1), (10, iv (z1466 + 5))]) (List.forall_mem_cons.mpr ⟨rfl, List.forall_mem_cons.mpr ⟨rfl, List.forall_mem_cons.mpr ⟨rfl, List.forall_mem_cons.mpr ⟨rfl, List.forall_mem_cons.mpr ⟨rfl, List.forall_mem_cons.mpr ⟨rfl, List.forall_mem_cons.mpr ⟨rfl, List.forall_mem_cons.mpr ⟨rfl, fun _ h => absurd h List.not_mem_nil⟩⟩⟩⟩⟩⟩⟩⟩) ?_
          exact ih1476 1 (z1466 + 5) trivial (rW (c := 0) (d := 1) (rR (x := 1)) rfl) (vc_X1_goThrough_12_32 h1474 h1506 h1338 h1346 h1337 h1193 h1347 h1348 h1470) (vc_X1_goThrough_12_33 h1338 h1346 h1474 h1506 h1337 h1193 h1347 h1348 h1470) (vc_X1_goThrough_12_34 (nS h1475) h1474 h1506 h1338 h1346 h1337 h1193 h1347 h1348 h1470)
      refine mr_lvS (lv' := [(0, .ref 21), (2, iv p2), (3, .ref b10), (5, iv z1189), (7, iv z1342), (8, iv ((z1190 + 2) + (z1339 * 5))), (9, iv 1), (10, iv (z1190 + 2))]) (List.forall_mem_cons.mpr ⟨rfl, List.forall_mem_cons.mpr ⟨rfl, List.forall_mem_cons.mpr ⟨rfl, List.forall_mem_cons.mpr ⟨rfl, List.forall_mem_cons.mpr ⟨rfl, List.forall_mem_cons.mpr ⟨rfl, List.forall_mem_cons.mpr ⟨rfl, List.forall_mem_cons.mpr ⟨rfl, fun _ h => absurd h List.not_mem_nil⟩⟩⟩⟩⟩⟩⟩⟩) ?_
      exact L1468 2010 1 (z1190 + 2) trivial (rW (c := 0) (d := 1) (rR (x := 1)) rfl) (rW (c := 2) (d := 2010) (rAdd (e := 2) (f := 2002) h1193 (rR (x := 2)) rfl) rfl) (vc_X1_goThrough_12_39 h1338 h1346 h1337 h1193 h1347 h1348) (vc_X1_goThrough_12_40 h1338 h1346 h1337 h1193 h1347 h1348)
  refine mr_lvS (lv' := [(0, .ref 21), (2, iv p2), (3, .ref b10), (4, iv 0), (5, iv 0)]) (List.forall_mem_cons.mpr ⟨rfl, List.forall_mem_cons.mpr ⟨rfl, List.forall_mem_cons.mpr ⟨rfl, List.forall_mem_cons.mpr ⟨rfl, List.forall_mem_cons.mpr ⟨rfl, fun _ h => absurd h List.not_mem_nil⟩⟩⟩⟩⟩) ?_
  exact L1192 2002 0 0 μ hT mF.refl (rW (c := 0) (d := 2000) (rR (x := 0)) rfl) (rW (c := 0) (d := 30) (rR (x := 0)) rfl) hIPC hIRT R18 vc_X1_goThrough_12_41
end
section
set_option maxRecDepth 4000 in
set_option maxHeartbeats 4000000 in
theorem c_X1_doActs_10 {l : Launch} {D : va_G} {c : Nat → ClassId} {H0 : Heap} {sa : Nat × Nat × (Nat → Int32)} {w : mW} {μ : mM} (hw : mWF w) (hT : mT w μ) {a1 : Nat} (hA1 : mAt w a1 231) {p2 : Int} (hp2 : 0 ≤ p2 ∧ p2 ≤ 2000) {p3 : Int} (hp3 : 0 ≤ p3 ∧ p3 ≤ 1000) {p4 : Int} (hp4 : 10 ≤ p4 ∧ p4 ≤ 10) (hIPC : PC w μ) (hIRT : RT μ) (hlen : p2 + 2 * p3 ≤ (w.2.2.1 a1 : Int)) (harg : ∀ i : Int, 0 ≤ i → i < p3 → 0 ≤ μ a1 (p2 + 2 * i + 1).toNat ∧ μ a1 (p2 + 2 * i + 1).toNat ≤ 1000000) : sC (gG l D c H0 sa) mX1_doActs 8 0 0 [.ref 21, .ref a1, iv p2, iv p3, iv p4] (mk w μ) (qV w [21006, 21007, 200004, 200006, 200007, 200008, 201999, 202999] μ (fun μ1 => True)) := by
  refine sC.of rfl (by decide) (le_t rfl) ?_
  refine mr_lvE (lv' := [(0, .ref 21), (1, .ref a1), (2, iv p2), (3, iv p3), (4, iv p4)]) rfl ?_
  obtain ⟨n_1, q2⟩ : ∃ n : Int, (w.2.2.1 a1 : Int) = n := ⟨_, rfl⟩
  have h3 : 0 ≤ n_1 ∧ n_1 ≤ 2000 := lnR (m := 2000) q2 hA1 rfl
  have h4 : p2 + 2 * p3 ≤ n_1 := lnLe q2 hlen
  refine mr_iconst (pc := 0) (z := 0) dX1_doActs_0 ?_
  refine mr_istore (pc := 1) (lv' := [(5, iv 0), (0, .ref 21), (1, .ref a1), (2, iv p2), (3, iv p3), (4, iv p4)]) dX1_doActs_1 (by decide) rfl ?_
  have L1991 : ∀ (nL1991 : Nat) (z1989 : Int) (μ1990 : mM), mT w μ1990 → mF [21006, 21007, 200004, 200006, 200007, 200008, 201999, 202999] w μ μ1990 → (0 ≤ z1989 ∧ z1989 ≤ 1000) → PC w μ1990 → RT μ1990 → (1001 - z1989) < (nL1991 : Int) → sV (gG l D c H0 sa) mX1_doActs (sRm 8 0 0) (sZ (gG l D c H0 sa) 0 0 (qV w [21006, 21007, 200004, 200006, 200007, 200008, 201999, 202999] μ (fun μ1 => True))) 3 [(0, .ref 21), (1, .ref a1), (2, iv p2), (3, iv p3), (4, iv p4), (5, iv z1989)] [] (mk w μ1990) 0 0 := by
    intro nL1991
    induction nL1991 with
    | zero => intro z1989 μ1990 T1993 F1994 h1992 I1996 I1997 h1998; exact ((vc_X1_doActs_12_1 h1998 h1992)).elim
    | succ nL1991 ih1999 =>
      intro z1989 μ1990 T1993 F1994 h1992 I1996 I1997 h1998
      refine mr_iload (pc := 3) (z := z1989) dX1_doActs_3 rfl ?_
      refine mr_iload_n (pc := 5) (z := p3) dX1_doActs_5 rfl rfl ?_
      refine mr_icmp_ge (pc := 6) (tgt := 266) dX1_doActs_6 (by decide) (r32 h1992 rfl) (r32 hp3 rfl) (fun h2000 => ?_) (fun h2000 => ?_)
      · exact mr_vret dX1_doActs_266 rfl (le_t rfl) (le_t rfl) T1993 (mF.call mF.refl F1994 rfl) trivial
      have h2001 : 0 ≤ z1989 ∧ z1989 ≤ 999 := (vc_X1_doActs_12_2 h2000 h4 h3 hp2 hp3 h1992)
      have h2002 : 1 ≤ p3 ∧ p3 ≤ 1000 := (vc_X1_doActs_12_3 h2000 h4 h3 hp2 hp3 h2001)
      refine sv_aload_n (pc := 9) dX1_doActs_9 rfl rfl ?_
      refine gf_X1_7 (pc := 10) dX1_doActs_10 wF_X1_50 (A_21 hw) T1993 fun z2003 q2004 h2005 => ?_
      refine mr_if_ne (pc := 13) (tgt := 266) dX1_doActs_13 (by decide) (r32 h2005 rfl) (fun h2006 => ?_) (fun h2006 => ?_)
      · have h2007 : 1 ≤ z2003 ∧ z2003 ≤ 2 := (vc_X12_provides_3 h2006 h2005)
        exact mr_vret dX1_doActs_266 rfl (le_t rfl) (le_t rfl) T1993 (mF.call mF.refl F1994 rfl) trivial
      have h2008 : 0 ≤ z2003 ∧ z2003 ≤ 0 := (vc_X12_provides_4 h2006 h2005)
      refine sv_aload_n (pc := 16) dX1_doActs_16 rfl rfl ?_
      refine mr_iload_n (pc := 17) (z := p2) dX1_doActs_17 rfl rfl ?_
      refine mr_iload (pc := 18) (z := z1989) dX1_doActs_18 rfl ?_
      refine mr_iconst (pc := 20) (z := 2) dX1_doActs_20 ?_
      refine mr_imul (pc := 21) (x := z1989) (y := 2) dX1_doActs_21 ?_
      refine mr_iadd (pc := 22) (x := p2) (y := (z1989 * 2)) dX1_doActs_22 ?_
      refine mr_iconst (pc := 23) (z := 1) dX1_doActs_23 ?_
      refine mr_iadd (pc := 24) (x := (p2 + (z1989 * 2))) (y := 1) dX1_doActs_24 ?_
      refine la_231 (pc := 25) dX1_doActs_25 hA1 T1993 (lnC q2 (vc_X1_doActs_12_6 h4 h2000 h3 hp2 h2002 h2001)) fun z2009 q2010 h2011 => ?_
      have h2012 : 0 ≤ z2009 ∧ z2009 ≤ 1000000 := argB harg (vc_X1_doActs_12_7 h2000 h4 h3 hp2 h2002 h2001) (vc_X1_doActs_12_8 h4 h2000 h3 hp2 h2002 h2001) (vc_X1_doActs_12_9 h4 h2000 h3 hp2 h2002 h2001) (((mF.call mF.refl F1994 rfl) : mF [21006, 21007, 200004, 200006, 200007, 200008, 201999, 202999] w μ μ1990).f hA1 rfl rfl) q2010
      refine mr_istore (pc := 26) (lv' := [(6, iv z2009), (0, .ref 21), (1, .ref a1), (2, iv p2), (3, iv p3), (4, iv p4), (5, iv z1989)]) dX1_doActs_26 (by decide) rfl ?_
      refine sv_aload_n (pc := 28) dX1_doActs_28 rfl rfl ?_
      refine gf_X1_6 (pc := 29) dX1_doActs_29 wF_X1_47 (A_21 hw) T1993 fun z2013 q2014 h2015 => ?_
      refine mr_sipush (pc := 32) (z := 500) dX1_doActs_32 (by decide) ?_
      refine mr_icmp_lt (pc := 35) (tgt := 44) dX1_doActs_35 (by decide) (r32 h2015 rfl) (r32 (rR (x := 500)) rfl) (fun h2016 => ?_) (fun h2016 => ?_)
      · have h2017 : 0 ≤ z2013 ∧ z2013 ≤ 499 := (vc_X1_doActs_12_10 h2016 h2015)
        refine sv_aload_n (pc := 44) dX1_doActs_44 rfl rfl ?_
        refine sv_dup (pc := 45) dX1_doActs_45 rfl ?_
        refine gk_X1_6 (pc := 46) dX1_doActs_46 wF_X1_47 (A_21 hw) q2014 ?_
        refine mr_iconst (pc := 49) (z := 1) dX1_doActs_49 ?_
        refine mr_iadd (pc := 50) (x := z2013) (y := 1) dX1_doActs_50 ?_
        refine pf_X1_6 (pc := 51) dX1_doActs_51 wF_X1_47 (A_21 hw) T1993 (rW (c := 0) (d := 500) (rAdd (e := 1) (f := 500) h2017 (rR (x := 1)) rfl) rfl) fun μ2018 u2019 T2020 => ?_
        refine sv_aload_n (pc := 54) dX1_doActs_54 rfl rfl ?_
        refine mr_iload_n (pc := 55) (z := p2) dX1_doActs_55 rfl rfl ?_
        refine mr_iload (pc := 56) (z := z1989) dX1_doActs_56 rfl ?_
        refine mr_iconst (pc := 58) (z := 2) dX1_doActs_58 ?_
        refine mr_imul (pc := 59) (x := z1989) (y := 2) dX1_doActs_59 ?_
        refine mr_iadd (pc := 60) (x := p2) (y := (z1989 * 2)) dX1_doActs_60 ?_
        refine la_231 (pc := 61) dX1_doActs_61 hA1 T2020 (lnC q2 (vc_X1_doActs_12_11 h4 h2000 h3 hp2 h2002 h2001)) fun z2021 q2022 h2023 => ?_
        by_cases h2024 : z2021 = 12
        · refine mr_tableIn (pc := 62) (v := 12) (tgt := 184) dX1_doActs_62 h2024 rfl rfl (by decide) ?_
          have h2025 : 12 ≤ z2021 ∧ z2021 ≤ 12 := (vc_X1_doActs_12_12 h2024 h2023)
          refine sv_aload_n (pc := 184) dX1_doActs_184 rfl rfl ?_
          refine gf_X1_2 (pc := 185) dX1_doActs_185 wF_X1_25 (A_21 hw) T2020 (RT.keep I1997 hw ((mF.up mF.refl (A_21 hw) u2019 rfl) : mF [21006] w μ1990 μ2018) rfl) fun b2026 q2027 A2028 => ?_
          refine mr_iload (pc := 188) (z := z2009) dX1_doActs_188 rfl ?_
          refine pf_X7_4 (pc := 190) dX1_doActs_190 wF_X1_105 A2028 T2020 (rW (c := (-2147483648)) (d := 2147483647) h2012 rfl) fun μ2029 u2030 T2031 => ?_
          refine sv_goto (pc := 193) (tgt := 260) dX1_doActs_193 (by decide) ?_
          refine mr_iinc (pc := 260) (lv' := [(5, iv (z1989 + 1)), (6, iv z2009), (0, .ref 21), (1, .ref a1), (2, iv p2), (3, iv p3), (4, iv p4)]) dX1_doActs_260 rfl (by decide) rfl ?_
          refine sv_goto (pc := 263) (tgt := 3) dX1_doActs_263 (by decide) ?_
          refine mr_lvS (lv' := [(0, .ref 21), (1, .ref a1), (2, iv p2), (3, iv p3), (4, iv p4), (5, iv (z1989 + 1))]) (List.forall_mem_cons.mpr ⟨rfl, List.forall_mem_cons.mpr ⟨rfl, List.forall_mem_cons.mpr ⟨rfl, List.forall_mem_cons.mpr ⟨rfl, List.forall_mem_cons.mpr ⟨rfl, List.forall_mem_cons.mpr ⟨rfl, fun _ h => absurd h List.not_mem_nil⟩⟩⟩⟩⟩⟩) ?_
          exact ih1999 (z1989 + 1) μ2029 T2031 (mF.up (mF.up (mF.call mF.refl F1994 rfl) (A_21 hw) u2019 rfl) A2028 u2030 rfl) (rW (c := 0) (d := 1000) (rAdd (e := 1) (f := 1000) h2001 (rR (x := 1)) rfl) rfl) (PC.keep I1996 hw ((mF.up (mF.up mF.refl (A_21 hw) u2019 rfl) A2028 u2030 rfl) : mF [21006, 200004] w μ1990 μ2029) rfl) (RT.keep I1997 hw ((mF.up (mF.up mF.refl (A_21 hw) u2019 rfl) A2028 u2030 rfl) : mF [21006, 200004] w μ1990 μ2029) rfl) (vc_X1_doActs_12_13 (nS h1998) h2000 h4 h3 hp2 h2002 h2001)
        by_cases h2032 : z2021 = 13
        · refine mr_tableIn (pc := 62) (v := 13) (tgt := 196) dX1_doActs_62 h2032 rfl rfl (by decide) ?_
          have h2033 : 13 ≤ z2021 ∧ z2021 ≤ 13 := (vc_X1_doActs_12_14 h2032 h2024 h2023)
          refine sv_aload_n (pc := 196) dX1_doActs_196 rfl rfl ?_
          refine gf_X1_2 (pc := 197) dX1_doActs_197 wF_X1_25 (A_21 hw) T2020 (RT.keep I1997 hw ((mF.up mF.refl (A_21 hw) u2019 rfl) : mF [21006] w μ1990 μ2018) rfl) fun b2034 q2035 A2036 => ?_
          refine mr_iload (pc := 200) (z := z2009) dX1_doActs_200 rfl ?_
          refine pf_X7_6 (pc := 202) dX1_doActs_202 wF_X1_108 A2036 T2020 (rW (c := (-2147483648)) (d := 2147483647) h2012 rfl) fun μ2037 u2038 T2039 => ?_
          refine sv_goto (pc := 205) (tgt := 260) dX1_doActs_205 (by decide) ?_
          refine mr_iinc (pc := 260) (lv' := [(5, iv (z1989 + 1)), (6, iv z2009), (0, .ref 21), (1, .ref a1), (2, iv p2), (3, iv p3), (4, iv p4)]) dX1_doActs_260 rfl (by decide) rfl ?_
          refine sv_goto (pc := 263) (tgt := 3) dX1_doActs_263 (by decide) ?_
          refine mr_lvS (lv' := [(0, .ref 21), (1, .ref a1), (2, iv p2), (3, iv p3), (4, iv p4), (5, iv (z1989 + 1))]) (List.forall_mem_cons.mpr ⟨rfl, List.forall_mem_cons.mpr ⟨rfl, List.forall_mem_cons.mpr ⟨rfl, List.forall_mem_cons.mpr ⟨rfl, List.forall_mem_cons.mpr ⟨rfl, List.forall_mem_cons.mpr ⟨rfl, fun _ h => absurd h List.not_mem_nil⟩⟩⟩⟩⟩⟩) ?_
          exact ih1999 (z1989 + 1) μ2037 T2039 (mF.up (mF.up (mF.call mF.refl F1994 rfl) (A_21 hw) u2019 rfl) A2036 u2038 rfl) (rW (c := 0) (d := 1000) (rAdd (e := 1) (f := 1000) h2001 (rR (x := 1)) rfl) rfl) (PC.keep I1996 hw ((mF.up (mF.up mF.refl (A_21 hw) u2019 rfl) A2036 u2038 rfl) : mF [21006, 200006] w μ1990 μ2037) rfl) (RT.keep I1997 hw ((mF.up (mF.up mF.refl (A_21 hw) u2019 rfl) A2036 u2038 rfl) : mF [21006, 200006] w μ1990 μ2037) rfl) (vc_X1_doActs_12_13 (nS h1998) h2000 h4 h3 hp2 h2002 h2001)
        by_cases h2040 : z2021 = 14
        · refine mr_tableIn (pc := 62) (v := 14) (tgt := 260) dX1_doActs_62 h2040 rfl rfl (by decide) ?_
          have h2041 : 14 ≤ z2021 ∧ z2021 ≤ 14 := (vc_X1_doActs_12_15 h2040 h2024 h2032 h2023)
          refine mr_iinc (pc := 260) (lv' := [(5, iv (z1989 + 1)), (6, iv z2009), (0, .ref 21), (1, .ref a1), (2, iv p2), (3, iv p3), (4, iv p4)]) dX1_doActs_260 rfl (by decide) rfl ?_
          refine sv_goto (pc := 263) (tgt := 3) dX1_doActs_263 (by decide) ?_
          refine mr_lvS (lv' := [(0, .ref 21), (1, .ref a1), (2, iv p2), (3, iv p3), (4, iv p4), (5, iv (z1989 + 1))]) (List.forall_mem_cons.mpr ⟨rfl, List.forall_mem_cons.mpr ⟨rfl, List.forall_mem_cons.mpr ⟨rfl, List.forall_mem_cons.mpr ⟨rfl, List.forall_mem_cons.mpr ⟨rfl, List.forall_mem_cons.mpr ⟨rfl, fun _ h => absurd h List.not_mem_nil⟩⟩⟩⟩⟩⟩) ?_
          exact ih1999 (z1989 + 1) μ2018 T2020 (mF.up (mF.call mF.refl F1994 rfl) (A_21 hw) u2019 rfl) (rW (c := 0) (d := 1000) (rAdd (e := 1) (f := 1000) h2001 (rR (x := 1)) rfl) rfl) (PC.keep I1996 hw ((mF.up mF.refl (A_21 hw) u2019 rfl) : mF [21006] w μ1990 μ2018) rfl) (RT.keep I1997 hw ((mF.up mF.refl (A_21 hw) u2019 rfl) : mF [21006] w μ1990 μ2018) rfl) (vc_X1_doActs_12_13 (nS h1998) h2000 h4 h3 hp2 h2002 h2001)
        by_cases h2042 : z2021 = 15
        · refine mr_tableIn (pc := 62) (v := 15) (tgt := 260) dX1_doActs_62 h2042 rfl rfl (by decide) ?_
          have h2043 : 15 ≤ z2021 ∧ z2021 ≤ 15 := (vc_X1_doActs_12_16 h2042 h2024 h2032 h2040 h2023)
          refine mr_iinc (pc := 260) (lv' := [(5, iv (z1989 + 1)), (6, iv z2009), (0, .ref 21), (1, .ref a1), (2, iv p2), (3, iv p3), (4, iv p4)]) dX1_doActs_260 rfl (by decide) rfl ?_
          refine sv_goto (pc := 263) (tgt := 3) dX1_doActs_263 (by decide) ?_
          refine mr_lvS (lv' := [(0, .ref 21), (1, .ref a1), (2, iv p2), (3, iv p3), (4, iv p4), (5, iv (z1989 + 1))]) (List.forall_mem_cons.mpr ⟨rfl, List.forall_mem_cons.mpr ⟨rfl, List.forall_mem_cons.mpr ⟨rfl, List.forall_mem_cons.mpr ⟨rfl, List.forall_mem_cons.mpr ⟨rfl, List.forall_mem_cons.mpr ⟨rfl, fun _ h => absurd h List.not_mem_nil⟩⟩⟩⟩⟩⟩) ?_
          exact ih1999 (z1989 + 1) μ2018 T2020 (mF.up (mF.call mF.refl F1994 rfl) (A_21 hw) u2019 rfl) (rW (c := 0) (d := 1000) (rAdd (e := 1) (f := 1000) h2001 (rR (x := 1)) rfl) rfl) (PC.keep I1996 hw ((mF.up mF.refl (A_21 hw) u2019 rfl) : mF [21006] w μ1990 μ2018) rfl) (RT.keep I1997 hw ((mF.up mF.refl (A_21 hw) u2019 rfl) : mF [21006] w μ1990 μ2018) rfl) (vc_X1_doActs_12_13 (nS h1998) h2000 h4 h3 hp2 h2002 h2001)
        by_cases h2044 : z2021 = 16
        · refine mr_tableIn (pc := 62) (v := 16) (tgt := 260) dX1_doActs_62 h2044 rfl rfl (by decide) ?_
          have h2045 : 16 ≤ z2021 ∧ z2021 ≤ 16 := (vc_X1_doActs_12_17 h2044 h2024 h2032 h2040 h2042 h2023)
          refine mr_iinc (pc := 260) (lv' := [(5, iv (z1989 + 1)), (6, iv z2009), (0, .ref 21), (1, .ref a1), (2, iv p2), (3, iv p3), (4, iv p4)]) dX1_doActs_260 rfl (by decide) rfl ?_
          refine sv_goto (pc := 263) (tgt := 3) dX1_doActs_263 (by decide) ?_
          refine mr_lvS (lv' := [(0, .ref 21), (1, .ref a1), (2, iv p2), (3, iv p3), (4, iv p4), (5, iv (z1989 + 1))]) (List.forall_mem_cons.mpr ⟨rfl, List.forall_mem_cons.mpr ⟨rfl, List.forall_mem_cons.mpr ⟨rfl, List.forall_mem_cons.mpr ⟨rfl, List.forall_mem_cons.mpr ⟨rfl, List.forall_mem_cons.mpr ⟨rfl, fun _ h => absurd h List.not_mem_nil⟩⟩⟩⟩⟩⟩) ?_
          exact ih1999 (z1989 + 1) μ2018 T2020 (mF.up (mF.call mF.refl F1994 rfl) (A_21 hw) u2019 rfl) (rW (c := 0) (d := 1000) (rAdd (e := 1) (f := 1000) h2001 (rR (x := 1)) rfl) rfl) (PC.keep I1996 hw ((mF.up mF.refl (A_21 hw) u2019 rfl) : mF [21006] w μ1990 μ2018) rfl) (RT.keep I1997 hw ((mF.up mF.refl (A_21 hw) u2019 rfl) : mF [21006] w μ1990 μ2018) rfl) (vc_X1_doActs_12_13 (nS h1998) h2000 h4 h3 hp2 h2002 h2001)
        by_cases h2046 : z2021 = 17
        · refine mr_tableIn (pc := 62) (v := 17) (tgt := 260) dX1_doActs_62 h2046 rfl rfl (by decide) ?_
          have h2047 : 17 ≤ z2021 ∧ z2021 ≤ 17 := (vc_X1_doActs_12_18 h2046 h2024 h2032 h2040 h2042 h2044 h2023)
          refine mr_iinc (pc := 260) (lv' := [(5, iv (z1989 + 1)), (6, iv z2009), (0, .ref 21), (1, .ref a1), (2, iv p2), (3, iv p3), (4, iv p4)]) dX1_doActs_260 rfl (by decide) rfl ?_
          refine sv_goto (pc := 263) (tgt := 3) dX1_doActs_263 (by decide) ?_
          refine mr_lvS (lv' := [(0, .ref 21), (1, .ref a1), (2, iv p2), (3, iv p3), (4, iv p4), (5, iv (z1989 + 1))]) (List.forall_mem_cons.mpr ⟨rfl, List.forall_mem_cons.mpr ⟨rfl, List.forall_mem_cons.mpr ⟨rfl, List.forall_mem_cons.mpr ⟨rfl, List.forall_mem_cons.mpr ⟨rfl, List.forall_mem_cons.mpr ⟨rfl, fun _ h => absurd h List.not_mem_nil⟩⟩⟩⟩⟩⟩) ?_
          exact ih1999 (z1989 + 1) μ2018 T2020 (mF.up (mF.call mF.refl F1994 rfl) (A_21 hw) u2019 rfl) (rW (c := 0) (d := 1000) (rAdd (e := 1) (f := 1000) h2001 (rR (x := 1)) rfl) rfl) (PC.keep I1996 hw ((mF.up mF.refl (A_21 hw) u2019 rfl) : mF [21006] w μ1990 μ2018) rfl) (RT.keep I1997 hw ((mF.up mF.refl (A_21 hw) u2019 rfl) : mF [21006] w μ1990 μ2018) rfl) (vc_X1_doActs_12_13 (nS h1998) h2000 h4 h3 hp2 h2002 h2001)
        by_cases h2048 : z2021 = 18
        · refine mr_tableIn (pc := 62) (v := 18) (tgt := 260) dX1_doActs_62 h2048 rfl rfl (by decide) ?_
          have h2049 : 18 ≤ z2021 ∧ z2021 ≤ 18 := (vc_X1_doActs_12_19 h2048 h2024 h2032 h2040 h2042 h2044 h2046 h2023)
          refine mr_iinc (pc := 260) (lv' := [(5, iv (z1989 + 1)), (6, iv z2009), (0, .ref 21), (1, .ref a1), (2, iv p2), (3, iv p3), (4, iv p4)]) dX1_doActs_260 rfl (by decide) rfl ?_
          refine sv_goto (pc := 263) (tgt := 3) dX1_doActs_263 (by decide) ?_
          refine mr_lvS (lv' := [(0, .ref 21), (1, .ref a1), (2, iv p2), (3, iv p3), (4, iv p4), (5, iv (z1989 + 1))]) (List.forall_mem_cons.mpr ⟨rfl, List.forall_mem_cons.mpr ⟨rfl, List.forall_mem_cons.mpr ⟨rfl, List.forall_mem_cons.mpr ⟨rfl, List.forall_mem_cons.mpr ⟨rfl, List.forall_mem_cons.mpr ⟨rfl, fun _ h => absurd h List.not_mem_nil⟩⟩⟩⟩⟩⟩) ?_
          exact ih1999 (z1989 + 1) μ2018 T2020 (mF.up (mF.call mF.refl F1994 rfl) (A_21 hw) u2019 rfl) (rW (c := 0) (d := 1000) (rAdd (e := 1) (f := 1000) h2001 (rR (x := 1)) rfl) rfl) (PC.keep I1996 hw ((mF.up mF.refl (A_21 hw) u2019 rfl) : mF [21006] w μ1990 μ2018) rfl) (RT.keep I1997 hw ((mF.up mF.refl (A_21 hw) u2019 rfl) : mF [21006] w μ1990 μ2018) rfl) (vc_X1_doActs_12_13 (nS h1998) h2000 h4 h3 hp2 h2002 h2001)
        by_cases h2050 : z2021 = 19
        · refine mr_tableIn (pc := 62) (v := 19) (tgt := 260) dX1_doActs_62 h2050 rfl rfl (by decide) ?_
          have h2051 : 19 ≤ z2021 ∧ z2021 ≤ 19 := (vc_X1_doActs_12_20 h2050 h2024 h2032 h2040 h2042 h2044 h2046 h2048 h2023)
          refine mr_iinc (pc := 260) (lv' := [(5, iv (z1989 + 1)), (6, iv z2009), (0, .ref 21), (1, .ref a1), (2, iv p2), (3, iv p3), (4, iv p4)]) dX1_doActs_260 rfl (by decide) rfl ?_
          refine sv_goto (pc := 263) (tgt := 3) dX1_doActs_263 (by decide) ?_
          refine mr_lvS (lv' := [(0, .ref 21), (1, .ref a1), (2, iv p2), (3, iv p3), (4, iv p4), (5, iv (z1989 + 1))]) (List.forall_mem_cons.mpr ⟨rfl, List.forall_mem_cons.mpr ⟨rfl, List.forall_mem_cons.mpr ⟨rfl, List.forall_mem_cons.mpr ⟨rfl, List.forall_mem_cons.mpr ⟨rfl, List.forall_mem_cons.mpr ⟨rfl, fun _ h => absurd h List.not_mem_nil⟩⟩⟩⟩⟩⟩) ?_
          exact ih1999 (z1989 + 1) μ2018 T2020 (mF.up (mF.call mF.refl F1994 rfl) (A_21 hw) u2019 rfl) (rW (c := 0) (d := 1000) (rAdd (e := 1) (f := 1000) h2001 (rR (x := 1)) rfl) rfl) (PC.keep I1996 hw ((mF.up mF.refl (A_21 hw) u2019 rfl) : mF [21006] w μ1990 μ2018) rfl) (RT.keep I1997 hw ((mF.up mF.refl (A_21 hw) u2019 rfl) : mF [21006] w μ1990 μ2018) rfl) (vc_X1_doActs_12_13 (nS h1998) h2000 h4 h3 hp2 h2002 h2001)
        by_cases h2052 : z2021 = 20
        · refine mr_tableIn (pc := 62) (v := 20) (tgt := 260) dX1_doActs_62 h2052 rfl rfl (by decide) ?_
          have h2053 : 20 ≤ z2021 ∧ z2021 ≤ 20 := (vc_X1_doActs_12_21 h2052 h2032 h2040 h2042 h2044 h2046 h2048 h2050 h2023)
          refine mr_iinc (pc := 260) (lv' := [(5, iv (z1989 + 1)), (6, iv z2009), (0, .ref 21), (1, .ref a1), (2, iv p2), (3, iv p3), (4, iv p4)]) dX1_doActs_260 rfl (by decide) rfl ?_
          refine sv_goto (pc := 263) (tgt := 3) dX1_doActs_263 (by decide) ?_
          refine mr_lvS (lv' := [(0, .ref 21), (1, .ref a1), (2, iv p2), (3, iv p3), (4, iv p4), (5, iv (z1989 + 1))]) (List.forall_mem_cons.mpr ⟨rfl, List.forall_mem_cons.mpr ⟨rfl, List.forall_mem_cons.mpr ⟨rfl, List.forall_mem_cons.mpr ⟨rfl, List.forall_mem_cons.mpr ⟨rfl, List.forall_mem_cons.mpr ⟨rfl, fun _ h => absurd h List.not_mem_nil⟩⟩⟩⟩⟩⟩) ?_
          exact ih1999 (z1989 + 1) μ2018 T2020 (mF.up (mF.call mF.refl F1994 rfl) (A_21 hw) u2019 rfl) (rW (c := 0) (d := 1000) (rAdd (e := 1) (f := 1000) h2001 (rR (x := 1)) rfl) rfl) (PC.keep I1996 hw ((mF.up mF.refl (A_21 hw) u2019 rfl) : mF [21006] w μ1990 μ2018) rfl) (RT.keep I1997 hw ((mF.up mF.refl (A_21 hw) u2019 rfl) : mF [21006] w μ1990 μ2018) rfl) (vc_X1_doActs_12_13 (nS h1998) h2000 h4 h3 hp2 h2002 h2001)
        by_cases h2054 : z2021 = 21
        · refine mr_tableIn (pc := 62) (v := 21) (tgt := 260) dX1_doActs_62 h2054 rfl rfl (by decide) ?_
          have h2055 : 21 ≤ z2021 ∧ z2021 ≤ 21 := (vc_X1_doActs_12_22 h2054 h2040 h2042 h2044 h2046 h2048 h2050 h2052 h2023)
          refine mr_iinc (pc := 260) (lv' := [(5, iv (z1989 + 1)), (6, iv z2009), (0, .ref 21), (1, .ref a1), (2, iv p2), (3, iv p3), (4, iv p4)]) dX1_doActs_260 rfl (by decide) rfl ?_
          refine sv_goto (pc := 263) (tgt := 3) dX1_doActs_263 (by decide) ?_
          refine mr_lvS (lv' := [(0, .ref 21), (1, .ref a1), (2, iv p2), (3, iv p3), (4, iv p4), (5, iv (z1989 + 1))]) (List.forall_mem_cons.mpr ⟨rfl, List.forall_mem_cons.mpr ⟨rfl, List.forall_mem_cons.mpr ⟨rfl, List.forall_mem_cons.mpr ⟨rfl, List.forall_mem_cons.mpr ⟨rfl, List.forall_mem_cons.mpr ⟨rfl, fun _ h => absurd h List.not_mem_nil⟩⟩⟩⟩⟩⟩) ?_
          exact ih1999 (z1989 + 1) μ2018 T2020 (mF.up (mF.call mF.refl F1994 rfl) (A_21 hw) u2019 rfl) (rW (c := 0) (d := 1000) (rAdd (e := 1) (f := 1000) h2001 (rR (x := 1)) rfl) rfl) (PC.keep I1996 hw ((mF.up mF.refl (A_21 hw) u2019 rfl) : mF [21006] w μ1990 μ2018) rfl) (RT.keep I1997 hw ((mF.up mF.refl (A_21 hw) u2019 rfl) : mF [21006] w μ1990 μ2018) rfl) (vc_X1_doActs_12_13 (nS h1998) h2000 h4 h3 hp2 h2002 h2001)
        by_cases h2056 : z2021 = 22
        · refine mr_tableIn (pc := 62) (v := 22) (tgt := 260) dX1_doActs_62 h2056 rfl rfl (by decide) ?_
          have h2057 : 22 ≤ z2021 ∧ z2021 ≤ 22 := (vc_X1_doActs_12_23 h2056 h2042 h2044 h2046 h2048 h2050 h2052 h2054 h2023)
          refine mr_iinc (pc := 260) (lv' := [(5, iv (z1989 + 1)), (6, iv z2009), (0, .ref 21), (1, .ref a1), (2, iv p2), (3, iv p3), (4, iv p4)]) dX1_doActs_260 rfl (by decide) rfl ?_
          refine sv_goto (pc := 263) (tgt := 3) dX1_doActs_263 (by decide) ?_
          refine mr_lvS (lv' := [(0, .ref 21), (1, .ref a1), (2, iv p2), (3, iv p3), (4, iv p4), (5, iv (z1989 + 1))]) (List.forall_mem_cons.mpr ⟨rfl, List.forall_mem_cons.mpr ⟨rfl, List.forall_mem_cons.mpr ⟨rfl, List.forall_mem_cons.mpr ⟨rfl, List.forall_mem_cons.mpr ⟨rfl, List.forall_mem_cons.mpr ⟨rfl, fun _ h => absurd h List.not_mem_nil⟩⟩⟩⟩⟩⟩) ?_
          exact ih1999 (z1989 + 1) μ2018 T2020 (mF.up (mF.call mF.refl F1994 rfl) (A_21 hw) u2019 rfl) (rW (c := 0) (d := 1000) (rAdd (e := 1) (f := 1000) h2001 (rR (x := 1)) rfl) rfl) (PC.keep I1996 hw ((mF.up mF.refl (A_21 hw) u2019 rfl) : mF [21006] w μ1990 μ2018) rfl) (RT.keep I1997 hw ((mF.up mF.refl (A_21 hw) u2019 rfl) : mF [21006] w μ1990 μ2018) rfl) (vc_X1_doActs_12_13 (nS h1998) h2000 h4 h3 hp2 h2002 h2001)
        by_cases h2058 : z2021 = 23
        · refine mr_tableIn (pc := 62) (v := 23) (tgt := 144) dX1_doActs_62 h2058 rfl rfl (by decide) ?_
          have h2059 : 23 ≤ z2021 ∧ z2021 ≤ 23 := (vc_X1_doActs_12_24 h2058 h2044 h2046 h2048 h2050 h2052 h2054 h2056 h2023)
          refine sv_aload_n (pc := 144) dX1_doActs_144 rfl rfl ?_
          refine mr_iconst (pc := 145) (z := 1) dX1_doActs_145 ?_
          refine pf_X1_7 (pc := 146) dX1_doActs_146 wF_X1_50 (A_21 hw) T2020 (rW (c := 0) (d := 2) (rR (x := 1)) rfl) fun μ2060 u2061 T2062 => ?_
          refine sv_goto (pc := 149) (tgt := 260) dX1_doActs_149 (by decide) ?_
          refine mr_iinc (pc := 260) (lv' := [(5, iv (z1989 + 1)), (6, iv z2009), (0, .ref 21), (1, .ref a1), (2, iv p2), (3, iv p3), (4, iv p4)]) dX1_doActs_260 rfl (by decide) rfl ?_
          refine sv_goto (pc := 263) (tgt := 3) dX1_doActs_263 (by decide) ?_
          refine mr_lvS (lv' := [(0, .ref 21), (1, .ref a1), (2, iv p2), (3, iv p3), (4, iv p4), (5, iv (z1989 + 1))]) (List.forall_mem_cons.mpr ⟨rfl, List.forall_mem_cons.mpr ⟨rfl, List.forall_mem_cons.mpr ⟨rfl, List.forall_mem_cons.mpr ⟨rfl, List.forall_mem_cons.mpr ⟨rfl, List.forall_mem_cons.mpr ⟨rfl, fun _ h => absurd h List.not_mem_nil⟩⟩⟩⟩⟩⟩) ?_
          exact ih1999 (z1989 + 1) μ2060 T2062 (mF.up (mF.up (mF.call mF.refl F1994 rfl) (A_21 hw) u2019 rfl) (A_21 hw) u2061 rfl) (rW (c := 0) (d := 1000) (rAdd (e := 1) (f := 1000) h2001 (rR (x := 1)) rfl) rfl) (PC.keep I1996 hw ((mF.up (mF.up mF.refl (A_21 hw) u2019 rfl) (A_21 hw) u2061 rfl) : mF [21006, 21007] w μ1990 μ2060) rfl) (RT.keep I1997 hw ((mF.up (mF.up mF.refl (A_21 hw) u2019 rfl) (A_21 hw) u2061 rfl) : mF [21006, 21007] w μ1990 μ2060) rfl) (vc_X1_doActs_12_13 (nS h1998) h2000 h4 h3 hp2 h2002 h2001)
        by_cases h2063 : z2021 = 24
        · refine mr_tableIn (pc := 62) (v := 24) (tgt := 152) dX1_doActs_62 h2063 rfl rfl (by decide) ?_
          have h2064 : 24 ≤ z2021 ∧ z2021 ≤ 24 := (vc_X1_doActs_12_25 h2063 h2046 h2048 h2050 h2052 h2054 h2056 h2058 h2023)
          refine sv_aload_n (pc := 152) dX1_doActs_152 rfl rfl ?_
          refine mr_iconst (pc := 153) (z := 2) dX1_doActs_153 ?_
          refine pf_X1_7 (pc := 154) dX1_doActs_154 wF_X1_50 (A_21 hw) T2020 (rW (c := 0) (d := 2) (rR (x := 2)) rfl) fun μ2065 u2066 T2067 => ?_
          refine sv_goto (pc := 157) (tgt := 260) dX1_doActs_157 (by decide) ?_
          refine mr_iinc (pc := 260) (lv' := [(5, iv (z1989 + 1)), (6, iv z2009), (0, .ref 21), (1, .ref a1), (2, iv p2), (3, iv p3), (4, iv p4)]) dX1_doActs_260 rfl (by decide) rfl ?_
          refine sv_goto (pc := 263) (tgt := 3) dX1_doActs_263 (by decide) ?_
          refine mr_lvS (lv' := [(0, .ref 21), (1, .ref a1), (2, iv p2), (3, iv p3), (4, iv p4), (5, iv (z1989 + 1))]) (List.forall_mem_cons.mpr ⟨rfl, List.forall_mem_cons.mpr ⟨rfl, List.forall_mem_cons.mpr ⟨rfl, List.forall_mem_cons.mpr ⟨rfl, List.forall_mem_cons.mpr ⟨rfl, List.forall_mem_cons.mpr ⟨rfl, fun _ h => absurd h List.not_mem_nil⟩⟩⟩⟩⟩⟩) ?_
          exact ih1999 (z1989 + 1) μ2065 T2067 (mF.up (mF.up (mF.call mF.refl F1994 rfl) (A_21 hw) u2019 rfl) (A_21 hw) u2066 rfl) (rW (c := 0) (d := 1000) (rAdd (e := 1) (f := 1000) h2001 (rR (x := 1)) rfl) rfl) (PC.keep I1996 hw ((mF.up (mF.up mF.refl (A_21 hw) u2019 rfl) (A_21 hw) u2066 rfl) : mF [21006, 21007] w μ1990 μ2065) rfl) (RT.keep I1997 hw ((mF.up (mF.up mF.refl (A_21 hw) u2019 rfl) (A_21 hw) u2066 rfl) : mF [21006, 21007] w μ1990 μ2065) rfl) (vc_X1_doActs_12_13 (nS h1998) h2000 h4 h3 hp2 h2002 h2001)
        by_cases h2068 : z2021 = 25
        · refine mr_tableIn (pc := 62) (v := 25) (tgt := 160) dX1_doActs_62 h2068 rfl rfl (by decide) ?_
          have h2069 : 25 ≤ z2021 ∧ z2021 ≤ 25 := (vc_X1_doActs_12_26 h2068 h2048 h2050 h2052 h2054 h2056 h2058 h2063 h2023)
          refine sv_aload_n (pc := 160) dX1_doActs_160 rfl rfl ?_
          refine gf_X1_2 (pc := 161) dX1_doActs_161 wF_X1_25 (A_21 hw) T2020 (RT.keep I1997 hw ((mF.up mF.refl (A_21 hw) u2019 rfl) : mF [21006] w μ1990 μ2018) rfl) fun b2070 q2071 A2072 => ?_
          refine mr_iload (pc := 164) (z := z2009) dX1_doActs_164 rfl ?_
          refine mr_cVV (pc := 166) (c_X7_addMark hw T2020 A2072 (rW (c := (-2147483648)) (d := 2147483647) h2012 rfl)) (gOk _ _ _ _ _) dX1_doActs_166 (tX7_addMark _ _ _ _ _) ⟨wV_X7_addMark, wL_X7_addMark⟩ wM_X1_124 (gCX7 _ _ _ _ _) rfl A2072 rfl ⟨le_t rfl, le_t rfl⟩ ⟨le_t rfl, le_t rfl⟩ rfl (le_t rfl) fun μ2073 T2074 F2075 h2076 => ?_
          refine sv_goto (pc := 169) (tgt := 260) dX1_doActs_169 (by decide) ?_
          refine mr_iinc (pc := 260) (lv' := [(5, iv (z1989 + 1)), (6, iv z2009), (0, .ref 21), (1, .ref a1), (2, iv p2), (3, iv p3), (4, iv p4)]) dX1_doActs_260 rfl (by decide) rfl ?_
          refine sv_goto (pc := 263) (tgt := 3) dX1_doActs_263 (by decide) ?_
          refine mr_lvS (lv' := [(0, .ref 21), (1, .ref a1), (2, iv p2), (3, iv p3), (4, iv p4), (5, iv (z1989 + 1))]) (List.forall_mem_cons.mpr ⟨rfl, List.forall_mem_cons.mpr ⟨rfl, List.forall_mem_cons.mpr ⟨rfl, List.forall_mem_cons.mpr ⟨rfl, List.forall_mem_cons.mpr ⟨rfl, List.forall_mem_cons.mpr ⟨rfl, fun _ h => absurd h List.not_mem_nil⟩⟩⟩⟩⟩⟩) ?_
          exact ih1999 (z1989 + 1) μ2073 T2074 (mF.call (mF.up (mF.call mF.refl F1994 rfl) (A_21 hw) u2019 rfl) F2075 rfl) (rW (c := 0) (d := 1000) (rAdd (e := 1) (f := 1000) h2001 (rR (x := 1)) rfl) rfl) (PC.keep I1996 hw ((mF.call (mF.up mF.refl (A_21 hw) u2019 rfl) F2075 rfl) : mF [21006, 200008, 202999] w μ1990 μ2073) rfl) (RT.keep I1997 hw ((mF.call (mF.up mF.refl (A_21 hw) u2019 rfl) F2075 rfl) : mF [21006, 200008, 202999] w μ1990 μ2073) rfl) (vc_X1_doActs_12_13 (nS h1998) h2000 h4 h3 hp2 h2002 h2001)
        by_cases h2077 : z2021 = 26
        · refine mr_tableIn (pc := 62) (v := 26) (tgt := 172) dX1_doActs_62 h2077 rfl rfl (by decide) ?_
          have h2078 : 26 ≤ z2021 ∧ z2021 ≤ 26 := (vc_X1_doActs_12_27 h2077 h2050 h2052 h2054 h2056 h2058 h2063 h2068 h2023)
          refine sv_aload_n (pc := 172) dX1_doActs_172 rfl rfl ?_
          refine gf_X1_2 (pc := 173) dX1_doActs_173 wF_X1_25 (A_21 hw) T2020 (RT.keep I1997 hw ((mF.up mF.refl (A_21 hw) u2019 rfl) : mF [21006] w μ1990 μ2018) rfl) fun b2079 q2080 A2081 => ?_
          refine mr_iload (pc := 176) (z := z2009) dX1_doActs_176 rfl ?_
          refine mr_cVV (pc := 178) (c_X7_dropMark hw T2020 A2081 (rW (c := (-2147483648)) (d := 2147483647) h2012 rfl)) (gOk _ _ _ _ _) dX1_doActs_178 (tX7_dropMark _ _ _ _ _) ⟨wV_X7_dropMark, wL_X7_dropMark⟩ wM_X1_128 (gCX7 _ _ _ _ _) rfl A2081 rfl ⟨le_t rfl, le_t rfl⟩ ⟨le_t rfl, le_t rfl⟩ rfl (le_t rfl) fun μ2082 T2083 F2084 h2085 => ?_
          refine sv_goto (pc := 181) (tgt := 260) dX1_doActs_181 (by decide) ?_
          refine mr_iinc (pc := 260) (lv' := [(5, iv (z1989 + 1)), (6, iv z2009), (0, .ref 21), (1, .ref a1), (2, iv p2), (3, iv p3), (4, iv p4)]) dX1_doActs_260 rfl (by decide) rfl ?_
          refine sv_goto (pc := 263) (tgt := 3) dX1_doActs_263 (by decide) ?_
          refine mr_lvS (lv' := [(0, .ref 21), (1, .ref a1), (2, iv p2), (3, iv p3), (4, iv p4), (5, iv (z1989 + 1))]) (List.forall_mem_cons.mpr ⟨rfl, List.forall_mem_cons.mpr ⟨rfl, List.forall_mem_cons.mpr ⟨rfl, List.forall_mem_cons.mpr ⟨rfl, List.forall_mem_cons.mpr ⟨rfl, List.forall_mem_cons.mpr ⟨rfl, fun _ h => absurd h List.not_mem_nil⟩⟩⟩⟩⟩⟩) ?_
          exact ih1999 (z1989 + 1) μ2082 T2083 (mF.call (mF.up (mF.call mF.refl F1994 rfl) (A_21 hw) u2019 rfl) F2084 rfl) (rW (c := 0) (d := 1000) (rAdd (e := 1) (f := 1000) h2001 (rR (x := 1)) rfl) rfl) (PC.keep I1996 hw ((mF.call (mF.up mF.refl (A_21 hw) u2019 rfl) F2084 rfl) : mF [21006, 200008, 202999] w μ1990 μ2082) rfl) (RT.keep I1997 hw ((mF.call (mF.up mF.refl (A_21 hw) u2019 rfl) F2084 rfl) : mF [21006, 200008, 202999] w μ1990 μ2082) rfl) (vc_X1_doActs_12_13 (nS h1998) h2000 h4 h3 hp2 h2002 h2001)
        by_cases h2086 : z2021 = 27
        · refine mr_tableIn (pc := 62) (v := 27) (tgt := 208) dX1_doActs_62 h2086 rfl rfl (by decide) ?_
          have h2087 : 27 ≤ z2021 ∧ z2021 ≤ 27 := (vc_X1_doActs_12_28 h2086 h2052 h2054 h2056 h2058 h2063 h2068 h2077 h2023)
          refine sv_aload_n (pc := 208) dX1_doActs_208 rfl rfl ?_
          refine gf_X1_2 (pc := 209) dX1_doActs_209 wF_X1_25 (A_21 hw) T2020 (RT.keep I1997 hw ((mF.up mF.refl (A_21 hw) u2019 rfl) : mF [21006] w μ1990 μ2018) rfl) fun b2088 q2089 A2090 => ?_
          refine gf_X7_7 (pc := 212) dX1_doActs_212 wF_X1_96 A2090 T2020 fun z2091 q2092 h2093 => ?_
          have J2116 : ∀ (μ2110 : mM), (mT w μ2110) → (mF [21007, 200007, 201999] w μ2018 μ2110) → (PC w μ2110) → (RT μ2110) → sV (gG l D c H0 sa) mX1_doActs (sRm 8 0 0) (sZ (gG l D c H0 sa) 0 0 (qV w [21006, 21007, 200004, 200006, 200007, 200008, 201999, 202999] μ (fun μ1 => True))) 260 [(0, .ref 21), (1, .ref a1), (2, iv p2), (3, iv p3), (4, iv p4), (5, iv z1989)] [] (mk w μ2110) 0 0 := by
            intro μ2110 T2111 F2112 I2114 I2115
            refine mr_iinc (pc := 260) (lv' := [(5, iv (z1989 + 1)), (0, .ref 21), (1, .ref a1), (2, iv p2), (3, iv p3), (4, iv p4)]) dX1_doActs_260 rfl (by decide) rfl ?_
            refine sv_goto (pc := 263) (tgt := 3) dX1_doActs_263 (by decide) ?_
            refine mr_lvS (lv' := [(0, .ref 21), (1, .ref a1), (2, iv p2), (3, iv p3), (4, iv p4), (5, iv (z1989 + 1))]) (List.forall_mem_cons.mpr ⟨rfl, List.forall_mem_cons.mpr ⟨rfl, List.forall_mem_cons.mpr ⟨rfl, List.forall_mem_cons.mpr ⟨rfl, List.forall_mem_cons.mpr ⟨rfl, List.forall_mem_cons.mpr ⟨rfl, fun _ h => absurd h List.not_mem_nil⟩⟩⟩⟩⟩⟩) ?_
            exact ih1999 (z1989 + 1) μ2110 T2111 (mF.call (mF.up (mF.call mF.refl F1994 rfl) (A_21 hw) u2019 rfl) F2112 rfl) (rW (c := 0) (d := 1000) (rAdd (e := 1) (f := 1000) h2001 (rR (x := 1)) rfl) rfl) I2114 I2115 (vc_X1_doActs_12_13 (nS h1998) h2000 h4 h3 hp2 h2002 h2001)
          refine mr_if_le (pc := 215) (tgt := 260) dX1_doActs_215 (by decide) (r32 h2093 rfl) (fun h2117 => ?_) (fun h2117 => ?_)
          · have h2118 : 0 ≤ z2091 ∧ z2091 ≤ 0 := (vc_X12_unlike_21 h2117 h2093)
            refine mr_lvS (lv' := [(0, .ref 21), (1, .ref a1), (2, iv p2), (3, iv p3), (4, iv p4), (5, iv z1989)]) (List.forall_mem_cons.mpr ⟨rfl, List.forall_mem_cons.mpr ⟨rfl, List.forall_mem_cons.mpr ⟨rfl, List.forall_mem_cons.mpr ⟨rfl, List.forall_mem_cons.mpr ⟨rfl, List.forall_mem_cons.mpr ⟨rfl, fun _ h => absurd h List.not_mem_nil⟩⟩⟩⟩⟩⟩) ?_
            exact J2116 μ2018 T2020 mF.refl (PC.keep I1996 hw ((mF.up mF.refl (A_21 hw) u2019 rfl) : mF [21006] w μ1990 μ2018) rfl) (RT.keep I1997 hw ((mF.up mF.refl (A_21 hw) u2019 rfl) : mF [21006] w μ1990 μ2018) rfl)
          have h2119 : 1 ≤ z2091 ∧ z2091 ≤ 20 := (vc_X12_unlike_22 h2117 h2093)
          refine sv_aload_n (pc := 218) dX1_doActs_218 rfl rfl ?_
          refine gk_X1_2 (pc := 219) dX1_doActs_219 wF_X1_25 (A_21 hw) q2089 ?_
          refine sv_aload_n (pc := 222) dX1_doActs_222 rfl rfl ?_
          refine gk_X1_2 (pc := 223) dX1_doActs_223 wF_X1_25 (A_21 hw) q2089 ?_
          refine gf_X7_0 (pc := 226) dX1_doActs_226 wF_X1_114 A2090 T2020 fun A2120 => ?_
          refine mr_iconst (pc := 229) (z := 0) dX1_doActs_229 ?_
          refine la_201 (pc := 230) dX1_doActs_230 A2120 T2020 (rIx (n := 20) (rR (x := 0)) rfl) fun z2121 q2122 h2123 => ?_
          refine mr_iload (pc := 231) (z := z2009) dX1_doActs_231 rfl ?_
          refine mr_cVI (pc := 233) (c_X7_putInFront hw T2020 A2090 h2123 (rW (c := (-2147483648)) (d := 1000000) h2012 rfl)) (gOk _ _ _ _ _) dX1_doActs_233 (tX7_putInFront _ _ _ _ _) ⟨wV_X7_putInFront, wL_X7_putInFront⟩ wM_X1_131 (gCX7 _ _ _ _ _) rfl A2090 rfl ⟨le_t rfl, le_t rfl⟩ ⟨le_t rfl, le_t rfl⟩ rfl (le_t rfl) fun z2128 μ2124 T2125 F2126 h2127 => ?_
          refine mr_if_ne (pc := 236) (tgt := 260) dX1_doActs_236 (by decide) (r32 h2127.1 rfl) (fun h2129 => ?_) (fun h2129 => ?_)
          · have h2130 : 1 ≤ z2128 ∧ z2128 ≤ 1 := (vc_X12_ring_24 h2129 h2127.1)
            refine mr_lvS (lv' := [(0, .ref 21), (1, .ref a1), (2, iv p2), (3, iv p3), (4, iv p4), (5, iv z1989)]) (List.forall_mem_cons.mpr ⟨rfl, List.forall_mem_cons.mpr ⟨rfl, List.forall_mem_cons.mpr ⟨rfl, List.forall_mem_cons.mpr ⟨rfl, List.forall_mem_cons.mpr ⟨rfl, List.forall_mem_cons.mpr ⟨rfl, fun _ h => absurd h List.not_mem_nil⟩⟩⟩⟩⟩⟩) ?_
            exact J2116 μ2124 T2125 (mF.call mF.refl F2126 rfl) (PC.keep I1996 hw ((mF.call (mF.up mF.refl (A_21 hw) u2019 rfl) F2126 rfl) : mF [21006, 200007, 201999] w μ1990 μ2124) rfl) (RT.keep I1997 hw ((mF.call (mF.up mF.refl (A_21 hw) u2019 rfl) F2126 rfl) : mF [21006, 200007, 201999] w μ1990 μ2124) rfl)
          have h2131 : 0 ≤ z2128 ∧ z2128 ≤ 0 := (vc_X12_ring_22 h2129 h2127.1)
          refine sv_aload_n (pc := 239) dX1_doActs_239 rfl rfl ?_
          refine mr_iconst (pc := 240) (z := 2) dX1_doActs_240 ?_
          refine pf_X1_7 (pc := 241) dX1_doActs_241 wF_X1_50 (A_21 hw) T2125 (rW (c := 0) (d := 2) (rR (x := 2)) rfl) fun μ2132 u2133 T2134 => ?_
          refine sv_goto (pc := 244) (tgt := 260) dX1_doActs_244 (by decide) ?_
          refine mr_lvS (lv' := [(0, .ref 21), (1, .ref a1), (2, iv p2), (3, iv p3), (4, iv p4), (5, iv z1989)]) (List.forall_mem_cons.mpr ⟨rfl, List.forall_mem_cons.mpr ⟨rfl, List.forall_mem_cons.mpr ⟨rfl, List.forall_mem_cons.mpr ⟨rfl, List.forall_mem_cons.mpr ⟨rfl, List.forall_mem_cons.mpr ⟨rfl, fun _ h => absurd h List.not_mem_nil⟩⟩⟩⟩⟩⟩) ?_
          exact J2116 μ2132 T2134 (mF.up (mF.call mF.refl F2126 rfl) (A_21 hw) u2133 rfl) (PC.keep I1996 hw ((mF.up (mF.call (mF.up mF.refl (A_21 hw) u2019 rfl) F2126 rfl) (A_21 hw) u2133 rfl) : mF [21006, 21007, 200007, 201999] w μ1990 μ2132) rfl) (RT.keep I1997 hw ((mF.up (mF.call (mF.up mF.refl (A_21 hw) u2019 rfl) F2126 rfl) (A_21 hw) u2133 rfl) : mF [21006, 21007, 200007, 201999] w μ1990 μ2132) rfl)
        by_cases h2135 : z2021 = 28
        · refine mr_tableIn (pc := 62) (v := 28) (tgt := 247) dX1_doActs_62 h2135 rfl rfl (by decide) ?_
          have h2136 : 28 ≤ z2021 ∧ z2021 ≤ 28 := (vc_X1_doActs_12_33 h2135 h2054 h2056 h2058 h2063 h2068 h2077 h2086 h2023)
          refine sv_aload_n (pc := 247) dX1_doActs_247 rfl rfl ?_
          refine mr_iload (pc := 248) (z := z2009) dX1_doActs_248 rfl ?_
          refine mr_iload (pc := 250) (z := p4) dX1_doActs_250 rfl ?_
          refine mr_iconst (pc := 252) (z := 1) dX1_doActs_252 ?_
          refine mr_iadd (pc := 253) (x := p4) (y := 1) dX1_doActs_253 ?_
          refine mr_cVV (pc := 254) (c_X1_goThrough_11 hw T2020 (rW (c := (-2147483648)) (d := 2147483647) h2012 rfl) (rAdd (e := 11) (f := 11) hp4 (rR (x := 1)) rfl) (PC.keep I1996 hw ((mF.up mF.refl (A_21 hw) u2019 rfl) : mF [21006] w μ1990 μ2018) rfl) (RT.keep I1997 hw ((mF.up mF.refl (A_21 hw) u2019 rfl) : mF [21006] w μ1990 μ2018) rfl)) (gOk _ _ _ _ _) dX1_doActs_254 (tX1_goThrough _ _ _ _ _) ⟨wV_X1_goThrough, wL_X1_goThrough⟩ wM_X1_53 (gCX1 _ _ _ _ _) rfl (A_21 hw) rfl ⟨le_t rfl, le_t rfl⟩ ⟨le_t rfl, le_t rfl⟩ rfl (le_t rfl) fun μ2137 T2138 F2139 h2140 => ?_
          refine sv_goto (pc := 257) (tgt := 260) dX1_doActs_257 (by decide) ?_
          refine mr_iinc (pc := 260) (lv' := [(5, iv (z1989 + 1)), (6, iv z2009), (0, .ref 21), (1, .ref a1), (2, iv p2), (3, iv p3), (4, iv p4)]) dX1_doActs_260 rfl (by decide) rfl ?_
          refine sv_goto (pc := 263) (tgt := 3) dX1_doActs_263 (by decide) ?_
          refine mr_lvS (lv' := [(0, .ref 21), (1, .ref a1), (2, iv p2), (3, iv p3), (4, iv p4), (5, iv (z1989 + 1))]) (List.forall_mem_cons.mpr ⟨rfl, List.forall_mem_cons.mpr ⟨rfl, List.forall_mem_cons.mpr ⟨rfl, List.forall_mem_cons.mpr ⟨rfl, List.forall_mem_cons.mpr ⟨rfl, List.forall_mem_cons.mpr ⟨rfl, fun _ h => absurd h List.not_mem_nil⟩⟩⟩⟩⟩⟩) ?_
          exact ih1999 (z1989 + 1) μ2137 T2138 (mF.call (mF.up (mF.call mF.refl F1994 rfl) (A_21 hw) u2019 rfl) F2139 rfl) (rW (c := 0) (d := 1000) (rAdd (e := 1) (f := 1000) h2001 (rR (x := 1)) rfl) rfl) (PC.keep I1996 hw ((mF.call (mF.up mF.refl (A_21 hw) u2019 rfl) F2139 rfl) : mF [21006, 21007, 200004, 200006, 200007, 200008, 201999, 202999] w μ1990 μ2137) rfl) (RT.keep I1997 hw ((mF.call (mF.up mF.refl (A_21 hw) u2019 rfl) F2139 rfl) : mF [21006, 21007, 200004, 200006, 200007, 200008, 201999, 202999] w μ1990 μ2137) rfl) (vc_X1_doActs_12_13 (nS h1998) h2000 h4 h3 hp2 h2002 h2001)
        refine mr_tableOut (pc := 62) (tgt := 260) dX1_doActs_62 h2023 (vc_X1_doActs_12_34 h2024 h2032 h2040 h2042 h2044 h2046 h2048 h2050 h2052 h2054 h2056 h2058 h2063 h2068 h2077 h2086 h2135 h2023) (by decide) ?_
        refine mr_iinc (pc := 260) (lv' := [(5, iv (z1989 + 1)), (6, iv z2009), (0, .ref 21), (1, .ref a1), (2, iv p2), (3, iv p3), (4, iv p4)]) dX1_doActs_260 rfl (by decide) rfl ?_
        refine sv_goto (pc := 263) (tgt := 3) dX1_doActs_263 (by decide) ?_
        refine mr_lvS (lv' := [(0, .ref 21), (1, .ref a1), (2, iv p2), (3, iv p3), (4, iv p4), (5, iv (z1989 + 1))]) (List.forall_mem_cons.mpr ⟨rfl, List.forall_mem_cons.mpr ⟨rfl, List.forall_mem_cons.mpr ⟨rfl, List.forall_mem_cons.mpr ⟨rfl, List.forall_mem_cons.mpr ⟨rfl, List.forall_mem_cons.mpr ⟨rfl, fun _ h => absurd h List.not_mem_nil⟩⟩⟩⟩⟩⟩) ?_
        exact ih1999 (z1989 + 1) μ2018 T2020 (mF.up (mF.call mF.refl F1994 rfl) (A_21 hw) u2019 rfl) (rW (c := 0) (d := 1000) (rAdd (e := 1) (f := 1000) h2001 (rR (x := 1)) rfl) rfl) (PC.keep I1996 hw ((mF.up mF.refl (A_21 hw) u2019 rfl) : mF [21006] w μ1990 μ2018) rfl) (RT.keep I1997 hw ((mF.up mF.refl (A_21 hw) u2019 rfl) : mF [21006] w μ1990 μ2018) rfl) (vc_X1_doActs_12_13 (nS h1998) h2000 h4 h3 hp2 h2002 h2001)
      have h2141 : 500 ≤ z2013 ∧ z2013 ≤ 500 := (vc_X1_doActs_12_35 h2016 h2015)
      refine sv_aload_n (pc := 38) dX1_doActs_38 rfl rfl ?_
      refine mr_iconst (pc := 39) (z := 2) dX1_doActs_39 ?_
      refine pf_X1_7 (pc := 40) dX1_doActs_40 wF_X1_50 (A_21 hw) T1993 (rW (c := 0) (d := 2) (rR (x := 2)) rfl) fun μ2142 u2143 T2144 => ?_
      exact mr_vret dX1_doActs_43 rfl (le_t rfl) (le_t rfl) T2144 (mF.up (mF.call mF.refl F1994 rfl) (A_21 hw) u2143 rfl) trivial
  refine mr_lvS (lv' := [(0, .ref 21), (1, .ref a1), (2, iv p2), (3, iv p3), (4, iv p4), (5, iv 0)]) (List.forall_mem_cons.mpr ⟨rfl, List.forall_mem_cons.mpr ⟨rfl, List.forall_mem_cons.mpr ⟨rfl, List.forall_mem_cons.mpr ⟨rfl, List.forall_mem_cons.mpr ⟨rfl, List.forall_mem_cons.mpr ⟨rfl, fun _ h => absurd h List.not_mem_nil⟩⟩⟩⟩⟩⟩) ?_
  exact L1991 1002 0 μ hT mF.refl (rW (c := 0) (d := 1000) (rR (x := 0)) rfl) hIPC hIRT vc_X1_doActs_12_36
theorem vc_X1_goThrough_10_5 {p2 : Int} (h0 : 12 < p2) (h1 : 10 ≤ p2 ∧ p2 ≤ 10) : False := by omega
set_option maxRecDepth 4000 in
set_option maxHeartbeats 4000000 in
theorem c_X1_goThrough_10 {l : Launch} {D : va_G} {c : Nat → ClassId} {H0 : Heap} {sa : Nat × Nat × (Nat → Int32)} {w : mW} {μ : mM} (hw : mWF w) (hT : mT w μ) {p1 : Int} (hp1 : (-2147483648) ≤ p1 ∧ p1 ≤ 2147483647) {p2 : Int} (hp2 : 10 ≤ p2 ∧ p2 ≤ 10) (hIPC : PC w μ) (hIRT : RT μ) : sC (gG l D c H0 sa) mX1_goThrough 9 0 0 [.ref 21, iv p1, iv p2] (mk w μ) (qV w [21006, 21007, 200004, 200006, 200007, 200008, 201999, 202999] μ (fun μ1 => True)) := by
  refine sC.of rfl (by decide) (le_t rfl) ?_
  refine mr_lvE (lv' := [(0, .ref 21), (1, iv p1), (2, iv p2)]) rfl ?_
  refine mr_iload_n (pc := 0) (z := p1) dX1_goThrough_0 rfl rfl ?_
  refine mr_if_lt (pc := 1) (tgt := 18) dX1_goThrough_1 (by decide) hp1 (fun h1 => ?_) (fun h1 => ?_)
  · have h2 : (-2147483648) ≤ p1 ∧ p1 ≤ (-1) := (vc_X12_ring_60 h1 hp1)
    exact mr_vret dX1_goThrough_18 rfl (le_t rfl) (le_t rfl) hT mF.refl trivial
  have h3 : 0 ≤ p1 ∧ p1 ≤ 2147483647 := (vc_X12_ring_1 h1 hp1)
  refine mr_iload_n (pc := 4) (z := p1) dX1_goThrough_4 rfl rfl ?_
  refine sv_aload_n (pc := 5) dX1_goThrough_5 rfl rfl ?_
  refine gf_X1_8 (pc := 6) dX1_goThrough_6 wF_X1_21 (A_21 hw) hT fun z4 q5 h6 => ?_
  refine mr_icmp_ge (pc := 9) (tgt := 18) dX1_goThrough_9 (by decide) (r32 h3 rfl) (r32 h6.2 rfl) (fun h7 => ?_) (fun h7 => ?_)
  · exact mr_vret dX1_goThrough_18 rfl (le_t rfl) (le_t rfl) hT mF.refl trivial
  have h8 : 0 ≤ p1 ∧ p1 ≤ 11 := (vc_X1_goThrough_13_3 h7 h1 h6.1 h3 h6.2)
  have h9 : 1 ≤ z4 ∧ z4 ≤ 12 := (vc_X1_goThrough_13_4 h7 h1 h6.1 h8 h6.2)
  refine mr_iload_n (pc := 12) (z := p2) dX1_goThrough_12 rfl rfl ?_
  refine mr_bipush (pc := 13) (z := 12) dX1_goThrough_13 (by decide) ?_
  refine mr_icmp_le (pc := 15) (tgt := 19) dX1_goThrough_15 (by decide) (r32 hp2 rfl) (r32 (rR (x := 12)) rfl) (fun _ => ?_) (fun h => ((vc_X1_goThrough_10_5 h hp2)).elim)
  refine sv_aload_n (pc := 19) dX1_goThrough_19 rfl rfl ?_
  refine gf_X1_1 (pc := 20) dX1_goThrough_20 wF_X1_17 (A_21 hw) hT ?_
  refine mr_iload_n (pc := 23) (z := p1) dX1_goThrough_23 rfl rfl ?_
  refine la_22 (pc := 24) dX1_goThrough_24 (A_22 hw) hT (rIx (n := 12) h8 rfl) (vc_X1_goThrough_12_6 h1 h6.1 h7 h8 h9) fun b10 q11 A12 => ?_
  refine mr_astore_n (pc := 25) (lv' := [(3, .ref b10), (0, .ref 21), (1, iv p1), (2, iv p2)]) dX1_goThrough_25 rfl (by decide) rfl ?_
  obtain ⟨c13, z14, q15, A16, q17, R18, e19, e20⟩ := PC.read hIPC hT A12 (vc_X1_goThrough_12_7 h1 h7 h6.1 h8 h9) (vc_X1_goThrough_12_6 h1 h6.1 h7 h8 h9) q11
  have h21 : 0 ≤ z14 ∧ z14 ≤ 30 := by rw [← q17]; exact hT _ _ A12 0
  refine mr_iconst (pc := 26) (z := 0) dX1_goThrough_26 ?_
  refine mr_istore (pc := 27) (lv' := [(4, iv 0), (3, .ref b10), (0, .ref 21), (1, iv p1), (2, iv p2)]) dX1_goThrough_27 (by decide) rfl ?_
  refine mr_iconst (pc := 29) (z := 0) dX1_goThrough_29 ?_
  refine mr_istore (pc := 30) (lv' := [(5, iv 0), (4, iv 0), (3, .ref b10), (0, .ref 21), (1, iv p1), (2, iv p2)]) dX1_goThrough_30 (by decide) rfl ?_
  have L1192 : ∀ (nL1192 : Nat) (z1190 z1189 : Int) (μ1191 : mM), mT w μ1191 → mF [21006, 21007, 200004, 200006, 200007, 200008, 201999, 202999] w μ μ1191 → (0 ≤ z1190 ∧ z1190 ≤ 2000) → (0 ≤ z1189 ∧ z1189 ≤ 30) → PC w μ1191 → RT μ1191 → wfR (μ c13) (w.2.2.1 c13) (z1190).toNat (z14 - z1189).toNat → (2001 - z1190) < (nL1192 : Int) → sV (gG l D c H0 sa) mX1_goThrough (sRm 9 0 0) (sZ (gG l D c H0 sa) 0 0 (qV w [21006, 21007, 200004, 200006, 200007, 200008, 201999, 202999] μ (fun μ1 => True))) 32 [(0, .ref 21), (2, iv p2), (3, .ref b10), (4, iv z1190), (5, iv z1189)] [] (mk w μ1191) 0 0 := by
    intro nL1192
    induction nL1192 with
    | zero => intro z1190 z1189 μ1191 T1195 F1196 h1193 h1194 I1198 I1199 R1200 h1201; exact ((vc_X1_goThrough_12_8 h1201 h1193)).elim
    | succ nL1192 ih1202 =>
      intro z1190 z1189 μ1191 T1195 F1196 h1193 h1194 I1198 I1199 R1200 h1201
      refine mr_iload (pc := 32) (z := z1189) dX1_goThrough_32 rfl ?_
      refine sv_aload_n (pc := 34) dX1_goThrough_34 rfl rfl ?_
      refine gk_X5_0 (pc := 35) dX1_goThrough_35 wF_X1_57 A12 (F1196.f A12 rfl q17) ?_
      refine mr_icmp_ge (pc := 38) (tgt := 174) dX1_goThrough_38 (by decide) (r32 h1194 rfl) (r32 h21 rfl) (fun h1267 => ?_) (fun h1267 => ?_)
      · exact mr_vret dX1_goThrough_174 rfl (le_t rfl) (le_t rfl) T1195 (mF.call mF.refl F1196 rfl) trivial
      have h1268 : 0 ≤ z1189 ∧ z1189 ≤ 29 := (vc_X12_judgedAnew_2 h1267 h1194 h21)
      have h1269 : 1 ≤ z14 ∧ z14 ≤ 30 := (vc_X12_judgedAnew_3 h1267 h1268 h21)
      refine sv_aload_n (pc := 41) dX1_goThrough_41 rfl rfl ?_
      refine gf_X1_7 (pc := 42) dX1_goThrough_42 wF_X1_50 (A_21 hw) T1195 fun z1270 q1271 h1272 => ?_
      refine mr_if_ne (pc := 45) (tgt := 174) dX1_goThrough_45 (by decide) (r32 h1272 rfl) (fun h1332 => ?_) (fun h1332 => ?_)
      · have h1333 : 1 ≤ z1270 ∧ z1270 ≤ 2 := (vc_X12_provides_3 h1332 h1272)
        exact mr_vret dX1_goThrough_174 rfl (le_t rfl) (le_t rfl) T1195 (mF.call mF.refl F1196 rfl) trivial
      have h1334 : 0 ≤ z1270 ∧ z1270 ≤ 0 := (vc_X12_provides_4 h1332 h1272)
      obtain ⟨n_1335, q1336⟩ : ∃ n : Int, (w.2.2.1 c13 : Int) = n := ⟨_, rfl⟩
      have h1337 : 0 ≤ n_1335 ∧ n_1335 ≤ 2000 := lnR (m := 2000) q1336 A16 rfl
      have h1338 : z1190 + 1 < n_1335 := lnLt q1336 (wfR.hd R1200 (vc_X1_goThrough_12_13 h1193) (vc_X1_goThrough_12_14 h1267 h1268 h1269))
      refine sv_aload_n (pc := 48) dX1_goThrough_48 rfl rfl ?_
      refine gk_X5_1 (pc := 49) dX1_goThrough_49 wF_X1_60 A12 (F1196.f A12 rfl q15) ?_
      refine mr_iload (pc := 52) (z := z1190) dX1_goThrough_52 rfl ?_
      refine la_231 (pc := 54) dX1_goThrough_54 A16 T1195 (lnC q1336 (vc_X1_goThrough_12_15 h1338 h1337 h1193)) fun z1339 q1340 h1341 => ?_
      refine mr_istore (pc := 55) (lv' := [(6, iv z1339), (0, .ref 21), (2, iv p2), (3, .ref b10), (4, iv z1190), (5, iv z1189)]) dX1_goThrough_55 (by decide) rfl ?_
      refine sv_aload_n (pc := 57) dX1_goThrough_57 rfl rfl ?_
      refine gk_X5_1 (pc := 58) dX1_goThrough_58 wF_X1_60 A12 (F1196.f A12 rfl q15) ?_
      refine mr_iload (pc := 61) (z := z1190) dX1_goThrough_61 rfl ?_
      refine mr_iconst (pc := 63) (z := 1) dX1_goThrough_63 ?_
      refine mr_iadd (pc := 64) (x := z1190) (y := 1) dX1_goThrough_64 ?_
      refine la_231 (pc := 65) dX1_goThrough_65 A16 T1195 (lnC q1336 (vc_X1_goThrough_12_16 h1338 h1337 h1193)) fun z1342 q1343 h1344 => ?_
      have B1345 := wfR.bd R1200 (vc_X1_goThrough_12_13 h1193) (vc_X1_goThrough_12_14 h1267 h1268 h1269) ((((mF.call mF.refl F1196 rfl) : mF [21006, 21007, 200004, 200006, 200007, 200008, 201999, 202999] w μ μ1191).f A16 rfl rfl).symm.trans q1340) ((((mF.call mF.refl F1196 rfl) : mF [21006, 21007, 200004, 200006, 200007, 200008, 201999, 202999] w μ μ1191).f A16 rfl rfl).symm.trans q1343)
      have h1346 : 0 ≤ z1339 ∧ 0 ≤ z1342 ∧ z1190 + 2 + 5 * z1339 + 2 * z1342 ≤ n_1335 := ⟨B1345.1.1, B1345.1.2.1, lnLe q1336 B1345.1.2.2⟩
      have h1347 : 0 ≤ z1339 ∧ z1339 ≤ 400 := (vc_X1_goThrough_12_17 h1346 h1338 h1337 h1193 h1341 h1344)
      have h1348 : 0 ≤ z1342 ∧ z1342 ≤ 1000 := (vc_X1_goThrough_12_18 h1346 h1338 h1337 h1193 h1347 h1344)
      refine mr_istore (pc := 66) (lv' := [(7, iv z1342), (6, iv z1339), (0, .ref 21), (2, iv p2), (3, .ref b10), (4, iv z1190), (5, iv z1189)]) dX1_goThrough_66 (by decide) rfl ?_
      refine mr_iload (pc := 68) (z := z1190) dX1_goThrough_68 rfl ?_
      refine mr_iconst (pc := 70) (z := 2) dX1_goThrough_70 ?_
      refine mr_iadd (pc := 71) (x := z1190) (y := 2) dX1_goThrough_71 ?_
      refine mr_iload (pc := 72) (z := z1339) dX1_goThrough_72 rfl ?_
      refine mr_iconst (pc := 74) (z := 5) dX1_goThrough_74 ?_
      refine mr_imul (pc := 75) (x := z1339) (y := 5) dX1_goThrough_75 ?_
      refine mr_iadd (pc := 76) (x := (z1190 + 2)) (y := (z1339 * 5)) dX1_goThrough_76 ?_
      refine mr_istore (pc := 77) (lv' := [(8, iv ((z1190 + 2) + (z1339 * 5))), (7, iv z1342), (6, iv z1339), (0, .ref 21), (2, iv p2), (3, .ref b10), (4, iv z1190), (5, iv z1189)]) dX1_goThrough_77 (by decide) rfl ?_
      refine mr_iconst (pc := 79) (z := 1) dX1_goThrough_79 ?_
      refine mr_istore (pc := 80) (lv' := [(9, iv 1), (8, iv ((z1190 + 2) + (z1339 * 5))), (7, iv z1342), (6, iv z1339), (0, .ref 21), (2, iv p2), (3, .ref b10), (4, iv z1190), (5, iv z1189)]) dX1_goThrough_80 (by decide) rfl ?_
      refine mr_iload (pc := 82) (z := z1190) dX1_goThrough_82 rfl ?_
      refine mr_iconst (pc := 84) (z := 2) dX1_goThrough_84 ?_
      refine mr_iadd (pc := 85) (x := z1190) (y := 2) dX1_goThrough_85 ?_
      refine mr_istore (pc := 86) (lv' := [(10, iv (z1190 + 2)), (9, iv 1), (8, iv ((z1190 + 2) + (z1339 * 5))), (7, iv z1342), (6, iv z1339), (0, .ref 21), (2, iv p2), (3, .ref b10), (4, iv z1190), (5, iv z1189)]) dX1_goThrough_86 (by decide) rfl ?_
      have L1468 : ∀ (nL1468 : Nat) (z1467 z1466 : Int), True → (0 ≤ z1467 ∧ z1467 ≤ 1) → (2 ≤ z1466 ∧ z1466 ≤ 2010) → ((((z1190 + 2) + (z1339 * 5)) - z1466) % 5 = 0) → (2011 - z1466) < (nL1468 : Int) → sV (gG l D c H0 sa) mX1_goThrough (sRm 9 0 0) (sZ (gG l D c H0 sa) 0 0 (qV w [21006, 21007, 200004, 200006, 200007, 200008, 201999, 202999] μ (fun μ1 => True))) 88 [(0, .ref 21), (2, iv p2), (3, .ref b10), (5, iv z1189), (7, iv z1342), (8, iv ((z1190 + 2) + (z1339 * 5))), (9, iv z1467), (10, iv z1466)] [] (mk w μ1191) 0 0 := by
        intro nL1468
        induction nL1468 with
        | zero => intro z1467 z1466 _ h1469 h1470 h1474 h1475; exact ((vc_X1_goThrough_12_19 h1475 h1474 h1338 h1346 h1337 h1193 h1347 h1348 h1470)).elim
        | succ nL1468 ih1476 =>
          intro z1467 z1466 _ h1469 h1470 h1474 h1475
          refine mr_iload (pc := 88) (z := z1466) dX1_goThrough_88 rfl ?_
          refine mr_iload (pc := 90) (z := ((z1190 + 2) + (z1339 * 5))) dX1_goThrough_90 rfl ?_
          have J1492 : sV (gG l D c H0 sa) mX1_goThrough (sRm 9 0 0) (sZ (gG l D c H0 sa) 0 0 (qV w [21006, 21007, 200004, 200006, 200007, 200008, 201999, 202999] μ (fun μ1 => True))) 141 [(0, .ref 21), (2, iv p2), (3, .ref b10), (5, iv z1189), (7, iv z1342), (8, iv ((z1190 + 2) + (z1339 * 5))), (9, iv z1467)] [] (mk w μ1191) 0 0 := by
            refine mr_iload (pc := 141) (z := z1467) dX1_goThrough_141 rfl ?_
            refine mr_if_eq (pc := 143) (tgt := 159) dX1_goThrough_143 (by decide) (r32 h1469 rfl) (fun h1499 => ?_) (fun h1499 => ?_)
            · have h1500 : 0 ≤ z1467 ∧ z1467 ≤ 0 := (vc_X12_ring_22 h1499 h1469)
              refine mr_iload (pc := 159) (z := ((z1190 + 2) + (z1339 * 5))) dX1_goThrough_159 rfl ?_
              refine mr_iload (pc := 161) (z := z1342) dX1_goThrough_161 rfl ?_
              refine mr_iconst (pc := 163) (z := 2) dX1_goThrough_163 ?_
              refine mr_imul (pc := 164) (x := z1342) (y := 2) dX1_goThrough_164 ?_
              refine mr_iadd (pc := 165) (x := ((z1190 + 2) + (z1339 * 5))) (y := (z1342 * 2)) dX1_goThrough_165 ?_
              refine mr_istore (pc := 166) (lv' := [(4, iv (((z1190 + 2) + (z1339 * 5)) + (z1342 * 2))), (0, .ref 21), (2, iv p2), (3, .ref b10), (5, iv z1189), (7, iv z1342), (8, iv ((z1190 + 2) + (z1339 * 5))), (9, iv z1467)]) dX1_goThrough_166 (by decide) rfl ?_
              refine mr_iinc (pc := 168) (lv' := [(5, iv (z1189 + 1)), (4, iv (((z1190 + 2) + (z1339 * 5)) + (z1342 * 2))), (0, .ref 21), (2, iv p2), (3, .ref b10), (7, iv z1342), (8, iv ((z1190 + 2) + (z1339 * 5))), (9, iv z1467)]) dX1_goThrough_168 rfl (by decide) rfl ?_
              refine sv_goto (pc := 171) (tgt := 32) dX1_goThrough_171 (by decide) ?_
              refine mr_lvS (lv' := [(0, .ref 21), (2, iv p2), (3, .ref b10), (4, iv (((z1190 + 2) + (z1339 * 5)) + (z1342 * 2))), (5, iv (z1189 + 1))]) (List.forall_mem_cons.mpr ⟨rfl, List.forall_mem_cons.mpr ⟨rfl, List.forall_mem_cons.mpr ⟨rfl, List.forall_mem_cons.mpr ⟨rfl, List.forall_mem_cons.mpr ⟨rfl, fun _ h => absurd h List.not_mem_nil⟩⟩⟩⟩⟩) ?_
              exact ih1202 (((z1190 + 2) + (z1339 * 5)) + (z1342 * 2)) (z1189 + 1) μ1191 T1195 (mF.call mF.refl F1196 rfl) (vc_X1_goThrough_12_21 h1338 h1346 h1474 h1337 h1193 h1347 h1348 h1470) (rW (c := 0) (d := 30) (rAdd (e := 1) (f := 30) h1268 (rR (x := 1)) rfl) rfl) I1198 I1199 (wfR.cg B1345.2.2 (vc_X1_goThrough_12_23 h1338 h1346 h1474 h1337 h1193 h1347 h1348 h1470)) (vc_X1_goThrough_12_22 (nS h1201) h1338 h1346 h1474 h1337 h1193 h1347 h1348 h1470)
            have h1501 : 1 ≤ z1467 ∧ z1467 ≤ 1 := (vc_X12_ring_24 h1499 h1469)
            refine sv_aload_n (pc := 146) dX1_goThrough_146 rfl rfl ?_
            refine sv_aload_n (pc := 147) dX1_goThrough_147 rfl rfl ?_
            refine gk_X5_1 (pc := 148) dX1_goThrough_148 wF_X1_60 A12 (F1196.f A12 rfl q15) ?_
            refine mr_iload (pc := 151) (z := ((z1190 + 2) + (z1339 * 5))) dX1_goThrough_151 rfl ?_
            refine mr_iload (pc := 153) (z := z1342) dX1_goThrough_153 rfl ?_
            refine mr_iload_n (pc := 155) (z := p2) dX1_goThrough_155 rfl rfl ?_
            refine mr_cVV (pc := 156) (c_X1_doActs_10 hw T1195 A16 (vc_X1_goThrough_12_25 h1338 h1346 h1474 h1337 h1193 h1347 h1348 h1470) h1348 hp2 I1198 I1199 (lnL q1336 (vc_X1_goThrough_12_26 h1338 h1346 h1474 h1337 h1193 h1347 h1348 h1470)) (argC B1345.2.1 (vc_X1_goThrough_12_27 h1338 h1346 h1474 h1337 h1193 h1347 h1348 h1470) (funext fun i => ((mF.call mF.refl F1196 rfl) : mF [21006, 21007, 200004, 200006, 200007, 200008, 201999, 202999] w μ μ1191).f A16 rfl rfl))) (gOk _ _ _ _ _) dX1_goThrough_156 (tX1_doActs _ _ _ _ _) ⟨wV_X1_doActs, wL_X1_doActs⟩ wM_X1_68 (gCX1 _ _ _ _ _) rfl (A_21 hw) rfl ⟨le_t rfl, le_t rfl⟩ ⟨le_t rfl, le_t rfl⟩ rfl (le_t rfl) fun μ1502 T1503 F1504 h1505 => ?_
            refine mr_iload (pc := 159) (z := ((z1190 + 2) + (z1339 * 5))) dX1_goThrough_159 rfl ?_
            refine mr_iload (pc := 161) (z := z1342) dX1_goThrough_161 rfl ?_
            refine mr_iconst (pc := 163) (z := 2) dX1_goThrough_163 ?_
            refine mr_imul (pc := 164) (x := z1342) (y := 2) dX1_goThrough_164 ?_
            refine mr_iadd (pc := 165) (x := ((z1190 + 2) + (z1339 * 5))) (y := (z1342 * 2)) dX1_goThrough_165 ?_
            refine mr_istore (pc := 166) (lv' := [(4, iv (((z1190 + 2) + (z1339 * 5)) + (z1342 * 2))), (0, .ref 21), (2, iv p2), (3, .ref b10), (5, iv z1189), (7, iv z1342), (8, iv ((z1190 + 2) + (z1339 * 5))), (9, iv z1467)]) dX1_goThrough_166 (by decide) rfl ?_
            refine mr_iinc (pc := 168) (lv' := [(5, iv (z1189 + 1)), (4, iv (((z1190 + 2) + (z1339 * 5)) + (z1342 * 2))), (0, .ref 21), (2, iv p2), (3, .ref b10), (7, iv z1342), (8, iv ((z1190 + 2) + (z1339 * 5))), (9, iv z1467)]) dX1_goThrough_168 rfl (by decide) rfl ?_
            refine sv_goto (pc := 171) (tgt := 32) dX1_goThrough_171 (by decide) ?_
            refine mr_lvS (lv' := [(0, .ref 21), (2, iv p2), (3, .ref b10), (4, iv (((z1190 + 2) + (z1339 * 5)) + (z1342 * 2))), (5, iv (z1189 + 1))]) (List.forall_mem_cons.mpr ⟨rfl, List.forall_mem_cons.mpr ⟨rfl, List.forall_mem_cons.mpr ⟨rfl, List.forall_mem_cons.mpr ⟨rfl, List.forall_mem_cons.mpr ⟨rfl, fun _ h => absurd h List.not_mem_nil⟩⟩⟩⟩⟩) ?_
            exact ih1202 (((z1190 + 2) + (z1339 * 5)) + (z1342 * 2)) (z1189 + 1) μ1502 T1503 (mF.call (mF.call mF.refl F1196 rfl) F1504 rfl) (vc_X1_goThrough_12_21 h1338 h1346 h1474 h1337 h1193 h1347 h1348 h1470) (rW (c := 0) (d := 30) (rAdd (e := 1) (f := 30) h1268 (rR (x := 1)) rfl) rfl) (PC.keep I1198 hw ((mF.call mF.refl F1504 rfl) : mF [21006, 21007, 200004, 200006, 200007, 200008, 201999, 202999] w μ1191 μ1502) rfl) (RT.keep I1199 hw ((mF.call mF.refl F1504 rfl) : mF [21006, 21007, 200004, 200006, 200007, 200008, 201999, 202999] w μ1191 μ1502) rfl) (wfR.cg B1345.2.2 (vc_X1_goThrough_12_23 h1338 h1346 h1474 h1337 h1193 h1347 h1348 h1470)) (vc_X1_goThrough_12_22 (nS h1201) h1338 h1346 h1474 h1337 h1193 h1347 h1348 h1470)
          refine mr_icmp_ge (pc := 92) (tgt := 141) dX1_goThrough_92 (by decide) (r32 h1470 rfl) (r32 (rAdd (e := 2) (f := 4002) (rAdd (e := 2) (f := 2002) h1193 (rR (x := 2)) rfl) (rMulR (n := 5) (e := 0) (f := 2000) h1347 rfl) rfl) rfl) (fun h1506 => ?_) (fun h1506 => ?_)
          · refine mr_lvS (lv' := [(0, .ref 21), (2, iv p2), (3, .ref b10), (5, iv z1189), (7, iv z1342), (8, iv ((z1190 + 2) + (z1339 * 5))), (9, iv z1467)]) (List.forall_mem_cons.mpr ⟨rfl, List.forall_mem_cons.mpr ⟨rfl, List.forall_mem_cons.mpr ⟨rfl, List.forall_mem_cons.mpr ⟨rfl, List.forall_mem_cons.mpr ⟨rfl, List.forall_mem_cons.mpr ⟨rfl, List.forall_mem_cons.mpr ⟨rfl, fun _ h => absurd h List.not_mem_nil⟩⟩⟩⟩⟩⟩⟩) ?_
            exact J1492 
          refine mr_iload (pc := 95) (z := z1467) dX1_goThrough_95 rfl ?_
          refine mr_if_eq (pc := 97) (tgt := 141) dX1_goThrough_97 (by decide) (r32 h1469 rfl) (fun h1507 => ?_) (fun h1507 => ?_)
          · have h1508 : 0 ≤ z1467 ∧ z1467 ≤ 0 := (vc_X12_ring_22 h1507 h1469)
            refine mr_lvS (lv' := [(0, .ref 21), (2, iv p2), (3, .ref b10), (5, iv z1189), (7, iv z1342), (8, iv ((z1190 + 2) + (z1339 * 5))), (9, iv z1467)]) (List.forall_mem_cons.mpr ⟨rfl, List.forall_mem_cons.mpr ⟨rfl, List.forall_mem_cons.mpr ⟨rfl, List.forall_mem_cons.mpr ⟨rfl, List.forall_mem_cons.mpr ⟨rfl, List.forall_mem_cons.mpr ⟨rfl, List.forall_mem_cons.mpr ⟨rfl, fun _ h => absurd h List.not_mem_nil⟩⟩⟩⟩⟩⟩⟩) ?_
            exact J1492 
          have h1509 : 1 ≤ z1467 ∧ z1467 ≤ 1 := (vc_X12_ring_24 h1507 h1469)
          refine sv_aload_n (pc := 100) dX1_goThrough_100 rfl rfl ?_
          refine sv_aload_n (pc := 101) dX1_goThrough_101 rfl rfl ?_
          refine mr_iload (pc := 102) (z := z1466) dX1_goThrough_102 rfl ?_
          refine mr_cVP (pc := 104) (c_X1_isSo hw T1195 A12 (vc_X1_goThrough_12_28 h1474 h1506 h1338 h1346 h1337 h1193 h1347 h1348 h1470) I1199 (lnF (F1196.f A12 rfl q15) q1336 (vc_X1_goThrough_12_29 h1338 h1346 h1474 h1506 h1337 h1193 h1347 h1348 h1470)) (by rw [((mF.call mF.refl F1196 rfl) : mF [21006, 21007, 200004, 200006, 200007, 200008, 201999, 202999] w μ μ1191).f (k := 2) A12 rfl rfl, ((mF.call mF.refl F1196 rfl) : mF [21006, 21007, 200004, 200006, 200007, 200008, 201999, 202999] w μ μ1191).f (k := 3) A12 rfl rfl]; exact e19) (by rw [((mF.call mF.refl F1196 rfl) : mF [21006, 21007, 200004, 200006, 200007, 200008, 201999, 202999] w μ μ1191).f (k := 4) A12 rfl rfl, ((mF.call mF.refl F1196 rfl) : mF [21006, 21007, 200004, 200006, 200007, 200008, 201999, 202999] w μ μ1191).f (k := 5) A12 rfl rfl]; exact e20)) (gOk _ _ _ _ _) dX1_goThrough_104 (tX1_isSo _ _ _ _ _) ⟨wV_X1_isSo, wL_X1_isSo⟩ wM_X1_64 (gCX1 _ _ _ _ _) rfl (A_21 hw) rfl ⟨le_t rfl, le_t rfl⟩ ⟨le_t rfl, le_t rfl⟩ rfl (le_t rfl) fun z1514 h1513 => ?_
          refine sv_aload_n (pc := 107) dX1_goThrough_107 rfl rfl ?_
          refine gk_X5_1 (pc := 108) dX1_goThrough_108 wF_X1_60 A12 (F1196.f A12 rfl q15) ?_
          refine mr_iload (pc := 111) (z := z1466) dX1_goThrough_111 rfl ?_
          refine mr_iconst (pc := 113) (z := 1) dX1_goThrough_113 ?_
          refine mr_iadd (pc := 114) (x := z1466) (y := 1) dX1_goThrough_114 ?_
          refine la_231 (pc := 115) dX1_goThrough_115 A16 T1195 (lnC q1336 (vc_X1_goThrough_12_30 h1338 h1346 h1474 h1506 h1337 h1193 h1347 h1348 h1470)) fun z1515 q1516 h1517 => ?_
          refine mr_iconst (pc := 116) (z := 1) dX1_goThrough_116 ?_
          refine mr_icmp_ne (pc := 117) (tgt := 124) dX1_goThrough_117 (by decide) h1517 (r32 (rR (x := 1)) rfl) (fun h1519 => ?_) (fun h1519 => ?_)
          · refine mr_iconst (pc := 124) (z := 0) dX1_goThrough_124 ?_
            refine mr_icmp_eq (pc := 125) (tgt := 132) dX1_goThrough_125 (by decide) (r32 h1513.1 rfl) (r32 (rR (x := 0)) rfl) (fun h1522 => ?_) (fun h1522 => ?_)
            · have h1523 : 0 ≤ z1514 ∧ z1514 ≤ 0 := (vc_X12_ring_22 h1522 h1513.1)
              refine mr_iconst (pc := 132) (z := 0) dX1_goThrough_132 ?_
              refine mr_istore (pc := 133) (lv' := [(9, iv 0), (0, .ref 21), (2, iv p2), (3, .ref b10), (5, iv z1189), (7, iv z1342), (8, iv ((z1190 + 2) + (z1339 * 5))), (10, iv z1466)]) dX1_goThrough_133 (by decide) rfl ?_
              refine mr_iinc (pc := 135) (lv' := [(10, iv (z1466 + 5)), (9, iv 0), (0, .ref 21), (2, iv p2), (3, .ref b10), (5, iv z1189), (7, iv z1342), (8, iv ((z1190 + 2) + (z1339 * 5)))]) dX1_goThrough_135 rfl (by decide) rfl ?_
              refine sv_goto (pc := 138) (tgt := 88) dX1_goThrough_138 (by decide) ?_
              refine mr_lvS (lv' := [(0, .ref 21), (2, iv p2), (3, .ref b10), (5, iv z1189), (7, iv z1342), (8, iv ((z1190 + 2) + (z1339 * 5))), (9, iv 0), (10, iv (z1466 + 5))]) (List.forall_mem_cons.mpr ⟨rfl, List.forall_mem_cons.mpr ⟨rfl, List.forall_mem_cons.mpr ⟨rfl, List.forall_mem_cons.mpr ⟨rfl, List.forall_mem_cons.mpr ⟨rfl, List.forall_mem_cons.mpr ⟨rfl, List.forall_mem_cons.mpr ⟨rfl, List.forall_mem_cons.mpr ⟨rfl, fun _ h => absurd h List.not_mem_nil⟩⟩⟩⟩⟩⟩⟩⟩) ?_
              exact ih1476 0 (z1466 + 5) trivial (rW (c := 0) (d := 1) (rR (x := 0)) rfl) (vc_X1_goThrough_12_32 h1474 h1506 h1338 h1346 h1337 h1193 h1347 h1348 h1470) (vc_X1_goThrough_12_33 h1338 h1346 h1474 h1506 h1337 h1193 h1347 h1348 h1470) (vc_X1_goThrough_12_34 (nS h1475) h1474 h1506 h1338 h1346 h1337 h1193 h1347 h1348 h1470)
            have h1524 : 1 ≤ z1514 ∧ z1514 ≤ 1 := (vc_X12_ring_24 h1522 h1513.1)
            refine mr_iconst (pc := 128) (z := 1) dX1_goThrough_128 ?_
            refine sv_goto (pc := 129) (tgt := 133) dX1_goThrough_129 (by decide) ?_
            refine mr_istore (pc := 133) (lv' := [(9, iv 1), (0, .ref 21), (2, iv p2), (3, .ref b10), (5, iv z1189), (7, iv z1342), (8, iv ((z1190 + 2) + (z1339 * 5))), (10, iv z1466)]) dX1_goThrough_133 (by decide) rfl ?_
            refine mr_iinc (pc := 135) (lv' := [(10, iv (z1466 + 5)), (9, iv 1), (0, .ref 21), (2, iv p2), (3, .ref b10), (5, iv z1189), (7, iv z1342), (8, iv ((z1190 + 2) + (z1339 * 5)))]) dX1_goThrough_135 rfl (by decide) rfl ?_
            refine sv_goto (pc := 138) (tgt := 88) dX1_goThrough_138 (by decide) ?_
            refine mr_lvS (lv' := [(0, .ref 21), (2, iv p2), (3, .ref b10), (5, iv z1189), (7, iv z1342), (8, iv ((z1190 + 2) + (z1339 * 5))), (9, iv 1), (10, iv (z1466 + 5))]) (List.forall_mem_cons.mpr ⟨rfl, List.forall_mem_cons.mpr ⟨rfl, List.forall_mem_cons.mpr ⟨rfl, List.forall_mem_cons.mpr ⟨rfl, List.forall_mem_cons.mpr ⟨rfl, List.forall_mem_cons.mpr ⟨rfl, List.forall_mem_cons.mpr ⟨rfl, List.forall_mem_cons.mpr ⟨rfl, fun _ h => absurd h List.not_mem_nil⟩⟩⟩⟩⟩⟩⟩⟩) ?_
            exact ih1476 1 (z1466 + 5) trivial (rW (c := 0) (d := 1) (rR (x := 1)) rfl) (vc_X1_goThrough_12_32 h1474 h1506 h1338 h1346 h1337 h1193 h1347 h1348 h1470) (vc_X1_goThrough_12_33 h1338 h1346 h1474 h1506 h1337 h1193 h1347 h1348 h1470) (vc_X1_goThrough_12_34 (nS h1475) h1474 h1506 h1338 h1346 h1337 h1193 h1347 h1348 h1470)
          have h1525 : 1 ≤ z1515 ∧ z1515 ≤ 1 := (vc_X0_compareAt_1 h1519 h1517)
          refine mr_iconst (pc := 120) (z := 1) dX1_goThrough_120 ?_
          refine sv_goto (pc := 121) (tgt := 125) dX1_goThrough_121 (by decide) ?_
          refine mr_icmp_eq (pc := 125) (tgt := 132) dX1_goThrough_125 (by decide) (r32 h1513.1 rfl) (r32 (rR (x := 1)) rfl) (fun h1528 => ?_) (fun h1528 => ?_)
          · have h1529 : 1 ≤ z1514 ∧ z1514 ≤ 1 := (vc_X1_goThrough_12_37 h1528 h1513.1)
            refine mr_iconst (pc := 132) (z := 0) dX1_goThrough_132 ?_
            refine mr_istore (pc := 133) (lv' := [(9, iv 0), (0, .ref 21), (2, iv p2), (3, .ref b10), (5, iv z1189), (7, iv z1342), (8, iv ((z1190 + 2) + (z1339 * 5))), (10, iv z1466)]) dX1_goThrough_133 (by decide) rfl ?_
            refine mr_iinc (pc := 135) (lv' := [(10, iv (z1466 + 5)), (9, iv 0), (0, .ref 21), (2, iv p2), (3, .ref b10), (5, iv z1189), (7, iv z1342), (8, iv ((z1190 + 2) + (z1339 * 5)))]) dX1_goThrough_135 rfl (by decide) rfl ?_
            refine sv_goto (pc := 138) (tgt := 88) dX1_goThrough_138 (by decide) ?_
            refine mr_lvS (lv' := [(0, .ref 21), (2, iv p2), (3, .ref b10), (5, iv z1189), (7, iv z1342), (8, iv ((z1190 + 2) + (z1339 * 5))), (9, iv 0), (10, iv (z1466 + 5))]) (List.forall_mem_cons.mpr ⟨rfl, List.forall_mem_cons.mpr ⟨rfl, List.forall_mem_cons.mpr ⟨rfl, List.forall_mem_cons.mpr ⟨rfl, List.forall_mem_cons.mpr ⟨rfl, List.forall_mem_cons.mpr ⟨rfl, List.forall_mem_cons.mpr ⟨rfl, List.forall_mem_cons.mpr ⟨rfl, fun _ h => absurd h List.not_mem_nil⟩⟩⟩⟩⟩⟩⟩⟩) ?_
            exact ih1476 0 (z1466 + 5) trivial (rW (c := 0) (d := 1) (rR (x := 0)) rfl) (vc_X1_goThrough_12_32 h1474 h1506 h1338 h1346 h1337 h1193 h1347 h1348 h1470) (vc_X1_goThrough_12_33 h1338 h1346 h1474 h1506 h1337 h1193 h1347 h1348 h1470) (vc_X1_goThrough_12_34 (nS h1475) h1474 h1506 h1338 h1346 h1337 h1193 h1347 h1348 h1470)
          have h1530 : 0 ≤ z1514 ∧ z1514 ≤ 0 := (vc_X1_goThrough_12_38 h1528 h1513.1)
          refine mr_iconst (pc := 128) (z := 1) dX1_goThrough_128 ?_
          refine sv_goto (pc := 129) (tgt := 133) dX1_goThrough_129 (by decide) ?_
          refine mr_istore (pc := 133) (lv' := [(9, iv 1), (0, .ref 21), (2, iv p2), (3, .ref b10), (5, iv z1189), (7, iv z1342), (8, iv ((z1190 + 2) + (z1339 * 5))), (10, iv z1466)]) dX1_goThrough_133 (by decide) rfl ?_
          refine mr_iinc (pc := 135) (lv' := [(10, iv (z1466 + 5)), (9, iv 1), (0, .ref 21), (2, iv p2), (3, .ref b10), (5, iv z1189), (7, iv z1342), (8, iv ((z1190 + 2) + (z1339 * 5)))]) dX1_goThrough_135 rfl (by decide) rfl ?_
          refine sv_goto (pc := 138) (tgt := 88) dX1_goThrough_138 (by decide) ?_
          refine mr_lvS (lv' := [(0, .ref 21), (2, iv p2), (3, .ref b10), (5, iv z1189), (7, iv z1342), (8, iv ((z1190 + 2) + (z1339 * 5))), (9, iv 1), (10, iv (z1466 + 5))]) (List.forall_mem_cons.mpr ⟨rfl, List.forall_mem_cons.mpr ⟨rfl, List.forall_mem_cons.mpr ⟨rfl, List.forall_mem_cons.mpr ⟨rfl, List.forall_mem_cons.mpr ⟨rfl, List.forall_mem_cons.mpr ⟨rfl, List.forall_mem_cons.mpr ⟨rfl, List.forall_mem_cons.mpr ⟨rfl, fun _ h => absurd h List.not_mem_nil⟩⟩⟩⟩⟩⟩⟩⟩) ?_
          exact ih1476 1 (z1466 + 5) trivial (rW (c := 0) (d := 1) (rR (x := 1)) rfl) (vc_X1_goThrough_12_32 h1474 h1506 h1338 h1346 h1337 h1193 h1347 h1348 h1470) (vc_X1_goThrough_12_33 h1338 h1346 h1474 h1506 h1337 h1193 h1347 h1348 h1470) (vc_X1_goThrough_12_34 (nS h1475) h1474 h1506 h1338 h1346 h1337 h1193 h1347 h1348 h1470)
      refine mr_lvS (lv' := [(0, .ref 21), (2, iv p2), (3, .ref b10), (5, iv z1189), (7, iv z1342), (8, iv ((z1190 + 2) + (z1339 * 5))), (9, iv 1), (10, iv (z1190 + 2))]) (List.forall_mem_cons.mpr ⟨rfl, List.forall_mem_cons.mpr ⟨rfl, List.forall_mem_cons.mpr ⟨rfl, List.forall_mem_cons.mpr ⟨rfl, List.forall_mem_cons.mpr ⟨rfl, List.forall_mem_cons.mpr ⟨rfl, List.forall_mem_cons.mpr ⟨rfl, List.forall_mem_cons.mpr ⟨rfl, fun _ h => absurd h List.not_mem_nil⟩⟩⟩⟩⟩⟩⟩⟩) ?_
      exact L1468 2010 1 (z1190 + 2) trivial (rW (c := 0) (d := 1) (rR (x := 1)) rfl) (rW (c := 2) (d := 2010) (rAdd (e := 2) (f := 2002) h1193 (rR (x := 2)) rfl) rfl) (vc_X1_goThrough_12_39 h1338 h1346 h1337 h1193 h1347 h1348) (vc_X1_goThrough_12_40 h1338 h1346 h1337 h1193 h1347 h1348)
  refine mr_lvS (lv' := [(0, .ref 21), (2, iv p2), (3, .ref b10), (4, iv 0), (5, iv 0)]) (List.forall_mem_cons.mpr ⟨rfl, List.forall_mem_cons.mpr ⟨rfl, List.forall_mem_cons.mpr ⟨rfl, List.forall_mem_cons.mpr ⟨rfl, List.forall_mem_cons.mpr ⟨rfl, fun _ h => absurd h List.not_mem_nil⟩⟩⟩⟩⟩) ?_
  exact L1192 2002 0 0 μ hT mF.refl (rW (c := 0) (d := 2000) (rR (x := 0)) rfl) (rW (c := 0) (d := 30) (rR (x := 0)) rfl) hIPC hIRT R18 vc_X1_goThrough_12_41
set_option maxRecDepth 4000 in
set_option maxHeartbeats 4000000 in
theorem c_X1_doActs_9 {l : Launch} {D : va_G} {c : Nat → ClassId} {H0 : Heap} {sa : Nat × Nat × (Nat → Int32)} {w : mW} {μ : mM} (hw : mWF w) (hT : mT w μ) {a1 : Nat} (hA1 : mAt w a1 231) {p2 : Int} (hp2 : 0 ≤ p2 ∧ p2 ≤ 2000) {p3 : Int} (hp3 : 0 ≤ p3 ∧ p3 ≤ 1000) {p4 : Int} (hp4 : 9 ≤ p4 ∧ p4 ≤ 9) (hIPC : PC w μ) (hIRT : RT μ) (hlen : p2 + 2 * p3 ≤ (w.2.2.1 a1 : Int)) (harg : ∀ i : Int, 0 ≤ i → i < p3 → 0 ≤ μ a1 (p2 + 2 * i + 1).toNat ∧ μ a1 (p2 + 2 * i + 1).toNat ≤ 1000000) : sC (gG l D c H0 sa) mX1_doActs 10 0 0 [.ref 21, .ref a1, iv p2, iv p3, iv p4] (mk w μ) (qV w [21006, 21007, 200004, 200006, 200007, 200008, 201999, 202999] μ (fun μ1 => True)) := by
  refine sC.of rfl (by decide) (le_t rfl) ?_
  refine mr_lvE (lv' := [(0, .ref 21), (1, .ref a1), (2, iv p2), (3, iv p3), (4, iv p4)]) rfl ?_
  obtain ⟨n_1, q2⟩ : ∃ n : Int, (w.2.2.1 a1 : Int) = n := ⟨_, rfl⟩
  have h3 : 0 ≤ n_1 ∧ n_1 ≤ 2000 := lnR (m := 2000) q2 hA1 rfl
  have h4 : p2 + 2 * p3 ≤ n_1 := lnLe q2 hlen
  refine mr_iconst (pc := 0) (z := 0) dX1_doActs_0 ?_
  refine mr_istore (pc := 1) (lv' := [(5, iv 0), (0, .ref 21), (1, .ref a1), (2, iv p2), (3, iv p3), (4, iv p4)]) dX1_doActs_1 (by decide) rfl ?_
  have L1991 : ∀ (nL1991 : Nat) (z1989 : Int) (μ1990 : mM), mT w μ1990 → mF [21006, 21007, 200004, 200006, 200007, 200008, 201999, 202999] w μ μ1990 → (0 ≤ z1989 ∧ z1989 ≤ 1000) → PC w μ1990 → RT μ1990 → (1001 - z1989) < (nL1991 : Int) → sV (gG l D c H0 sa) mX1_doActs (sRm 10 0 0) (sZ (gG l D c H0 sa) 0 0 (qV w [21006, 21007, 200004, 200006, 200007, 200008, 201999, 202999] μ (fun μ1 => True))) 3 [(0, .ref 21), (1, .ref a1), (2, iv p2), (3, iv p3), (4, iv p4), (5, iv z1989)] [] (mk w μ1990) 0 0 := by
    intro nL1991
    induction nL1991 with
    | zero => intro z1989 μ1990 T1993 F1994 h1992 I1996 I1997 h1998; exact ((vc_X1_doActs_12_1 h1998 h1992)).elim
    | succ nL1991 ih1999 =>
      intro z1989 μ1990 T1993 F1994 h1992 I1996 I1997 h1998
      refine mr_iload (pc := 3) (z := z1989) dX1_doActs_3 rfl ?_
      refine mr_iload_n (pc := 5) (z := p3) dX1_doActs_5 rfl rfl ?_
      refine mr_icmp_ge (pc := 6) (tgt := 266) dX1_doActs_6 (by decide) (r32 h1992 rfl) (r32 hp3 rfl) (fun h2000 => ?_) (fun h2000 => ?_)
      · exact mr_vret dX1_doActs_266 rfl (le_t rfl) (le_t rfl) T1993 (mF.call mF.refl F1994 rfl) trivial
      have h2001 : 0 ≤ z1989 ∧ z1989 ≤ 999 := (vc_X1_doActs_12_2 h2000 h4 h3 hp2 hp3 h1992)
      have h2002 : 1 ≤ p3 ∧ p3 ≤ 1000 := (vc_X1_doActs_12_3 h2000 h4 h3 hp2 hp3 h2001)
      refine sv_aload_n (pc := 9) dX1_doActs_9 rfl rfl ?_
      refine gf_X1_7 (pc := 10) dX1_doActs_10 wF_X1_50 (A_21 hw) T1993 fun z2003 q2004 h2005 => ?_
      refine mr_if_ne (pc := 13) (tgt := 266) dX1_doActs_13 (by decide) (r32 h2005 rfl) (fun h2006 => ?_) (fun h2006 => ?_)
      · have h2007 : 1 ≤ z2003 ∧ z2003 ≤ 2 := (vc_X12_provides_3 h2006 h2005)
        exact mr_vret dX1_doActs_266 rfl (le_t rfl) (le_t rfl) T1993 (mF.call mF.refl F1994 rfl) trivial
      have h2008 : 0 ≤ z2003 ∧ z2003 ≤ 0 := (vc_X12_provides_4 h2006 h2005)
      refine sv_aload_n (pc := 16) dX1_doActs_16 rfl rfl ?_
      refine mr_iload_n (pc := 17) (z := p2) dX1_doActs_17 rfl rfl ?_
      refine mr_iload (pc := 18) (z := z1989) dX1_doActs_18 rfl ?_
      refine mr_iconst (pc := 20) (z := 2) dX1_doActs_20 ?_
      refine mr_imul (pc := 21) (x := z1989) (y := 2) dX1_doActs_21 ?_
      refine mr_iadd (pc := 22) (x := p2) (y := (z1989 * 2)) dX1_doActs_22 ?_
      refine mr_iconst (pc := 23) (z := 1) dX1_doActs_23 ?_
      refine mr_iadd (pc := 24) (x := (p2 + (z1989 * 2))) (y := 1) dX1_doActs_24 ?_
      refine la_231 (pc := 25) dX1_doActs_25 hA1 T1993 (lnC q2 (vc_X1_doActs_12_6 h4 h2000 h3 hp2 h2002 h2001)) fun z2009 q2010 h2011 => ?_
      have h2012 : 0 ≤ z2009 ∧ z2009 ≤ 1000000 := argB harg (vc_X1_doActs_12_7 h2000 h4 h3 hp2 h2002 h2001) (vc_X1_doActs_12_8 h4 h2000 h3 hp2 h2002 h2001) (vc_X1_doActs_12_9 h4 h2000 h3 hp2 h2002 h2001) (((mF.call mF.refl F1994 rfl) : mF [21006, 21007, 200004, 200006, 200007, 200008, 201999, 202999] w μ μ1990).f hA1 rfl rfl) q2010
      refine mr_istore (pc := 26) (lv' := [(6, iv z2009), (0, .ref 21), (1, .ref a1), (2, iv p2), (3, iv p3), (4, iv p4), (5, iv z1989)]) dX1_doActs_26 (by decide) rfl ?_
      refine sv_aload_n (pc := 28) dX1_doActs_28 rfl rfl ?_
      refine gf_X1_6 (pc := 29) dX1_doActs_29 wF_X1_47 (A_21 hw) T1993 fun z2013 q2014 h2015 => ?_
      refine mr_sipush (pc := 32) (z := 500) dX1_doActs_32 (by decide) ?_
      refine mr_icmp_lt (pc := 35) (tgt := 44) dX1_doActs_35 (by decide) (r32 h2015 rfl) (r32 (rR (x := 500)) rfl) (fun h2016 => ?_) (fun h2016 => ?_)
      · have h2017 : 0 ≤ z2013 ∧ z2013 ≤ 499 := (vc_X1_doActs_12_10 h2016 h2015)
        refine sv_aload_n (pc := 44) dX1_doActs_44 rfl rfl ?_
        refine sv_dup (pc := 45) dX1_doActs_45 rfl ?_
        refine gk_X1_6 (pc := 46) dX1_doActs_46 wF_X1_47 (A_21 hw) q2014 ?_
        refine mr_iconst (pc := 49) (z := 1) dX1_doActs_49 ?_
        refine mr_iadd (pc := 50) (x := z2013) (y := 1) dX1_doActs_50 ?_
        refine pf_X1_6 (pc := 51) dX1_doActs_51 wF_X1_47 (A_21 hw) T1993 (rW (c := 0) (d := 500) (rAdd (e := 1) (f := 500) h2017 (rR (x := 1)) rfl) rfl) fun μ2018 u2019 T2020 => ?_
        refine sv_aload_n (pc := 54) dX1_doActs_54 rfl rfl ?_
        refine mr_iload_n (pc := 55) (z := p2) dX1_doActs_55 rfl rfl ?_
        refine mr_iload (pc := 56) (z := z1989) dX1_doActs_56 rfl ?_
        refine mr_iconst (pc := 58) (z := 2) dX1_doActs_58 ?_
        refine mr_imul (pc := 59) (x := z1989) (y := 2) dX1_doActs_59 ?_
        refine mr_iadd (pc := 60) (x := p2) (y := (z1989 * 2)) dX1_doActs_60 ?_
        refine la_231 (pc := 61) dX1_doActs_61 hA1 T2020 (lnC q2 (vc_X1_doActs_12_11 h4 h2000 h3 hp2 h2002 h2001)) fun z2021 q2022 h2023 => ?_
        by_cases h2024 : z2021 = 12
        · refine mr_tableIn (pc := 62) (v := 12) (tgt := 184) dX1_doActs_62 h2024 rfl rfl (by decide) ?_
          have h2025 : 12 ≤ z2021 ∧ z2021 ≤ 12 := (vc_X1_doActs_12_12 h2024 h2023)
          refine sv_aload_n (pc := 184) dX1_doActs_184 rfl rfl ?_
          refine gf_X1_2 (pc := 185) dX1_doActs_185 wF_X1_25 (A_21 hw) T2020 (RT.keep I1997 hw ((mF.up mF.refl (A_21 hw) u2019 rfl) : mF [21006] w μ1990 μ2018) rfl) fun b2026 q2027 A2028 => ?_
          refine mr_iload (pc := 188) (z := z2009) dX1_doActs_188 rfl ?_
          refine pf_X7_4 (pc := 190) dX1_doActs_190 wF_X1_105 A2028 T2020 (rW (c := (-2147483648)) (d := 2147483647) h2012 rfl) fun μ2029 u2030 T2031 => ?_
          refine sv_goto (pc := 193) (tgt := 260) dX1_doActs_193 (by decide) ?_
          refine mr_iinc (pc := 260) (lv' := [(5, iv (z1989 + 1)), (6, iv z2009), (0, .ref 21), (1, .ref a1), (2, iv p2), (3, iv p3), (4, iv p4)]) dX1_doActs_260 rfl (by decide) rfl ?_
          refine sv_goto (pc := 263) (tgt := 3) dX1_doActs_263 (by decide) ?_
          refine mr_lvS (lv' := [(0, .ref 21), (1, .ref a1), (2, iv p2), (3, iv p3), (4, iv p4), (5, iv (z1989 + 1))]) (List.forall_mem_cons.mpr ⟨rfl, List.forall_mem_cons.mpr ⟨rfl, List.forall_mem_cons.mpr ⟨rfl, List.forall_mem_cons.mpr ⟨rfl, List.forall_mem_cons.mpr ⟨rfl, List.forall_mem_cons.mpr ⟨rfl, fun _ h => absurd h List.not_mem_nil⟩⟩⟩⟩⟩⟩) ?_
          exact ih1999 (z1989 + 1) μ2029 T2031 (mF.up (mF.up (mF.call mF.refl F1994 rfl) (A_21 hw) u2019 rfl) A2028 u2030 rfl) (rW (c := 0) (d := 1000) (rAdd (e := 1) (f := 1000) h2001 (rR (x := 1)) rfl) rfl) (PC.keep I1996 hw ((mF.up (mF.up mF.refl (A_21 hw) u2019 rfl) A2028 u2030 rfl) : mF [21006, 200004] w μ1990 μ2029) rfl) (RT.keep I1997 hw ((mF.up (mF.up mF.refl (A_21 hw) u2019 rfl) A2028 u2030 rfl) : mF [21006, 200004] w μ1990 μ2029) rfl) (vc_X1_doActs_12_13 (nS h1998) h2000 h4 h3 hp2 h2002 h2001)
        by_cases h2032 : z2021 = 13
        · refine mr_tableIn (pc := 62) (v := 13) (tgt := 196) dX1_doActs_62 h2032 rfl rfl (by decide) ?_
          have h2033 : 13 ≤ z2021 ∧ z2021 ≤ 13 := (vc_X1_doActs_12_14 h2032 h2024 h2023)
          refine sv_aload_n (pc := 196) dX1_doActs_196 rfl rfl ?_
          refine gf_X1_2 (pc := 197) dX1_doActs_197 wF_X1_25 (A_21 hw) T2020 (RT.keep I1997 hw ((mF.up mF.refl (A_21 hw) u2019 rfl) : mF [21006] w μ1990 μ2018) rfl) fun b2034 q2035 A2036 => ?_
          refine mr_iload (pc := 200) (z := z2009) dX1_doActs_200 rfl ?_
          refine pf_X7_6 (pc := 202) dX1_doActs_202 wF_X1_108 A2036 T2020 (rW (c := (-2147483648)) (d := 2147483647) h2012 rfl) fun μ2037 u2038 T2039 => ?_
          refine sv_goto (pc := 205) (tgt := 260) dX1_doActs_205 (by decide) ?_
          refine mr_iinc (pc := 260) (lv' := [(5, iv (z1989 + 1)), (6, iv z2009), (0, .ref 21), (1, .ref a1), (2, iv p2), (3, iv p3), (4, iv p4)]) dX1_doActs_260 rfl (by decide) rfl ?_
          refine sv_goto (pc := 263) (tgt := 3) dX1_doActs_263 (by decide) ?_
          refine mr_lvS (lv' := [(0, .ref 21), (1, .ref a1), (2, iv p2), (3, iv p3), (4, iv p4), (5, iv (z1989 + 1))]) (List.forall_mem_cons.mpr ⟨rfl, List.forall_mem_cons.mpr ⟨rfl, List.forall_mem_cons.mpr ⟨rfl, List.forall_mem_cons.mpr ⟨rfl, List.forall_mem_cons.mpr ⟨rfl, List.forall_mem_cons.mpr ⟨rfl, fun _ h => absurd h List.not_mem_nil⟩⟩⟩⟩⟩⟩) ?_
          exact ih1999 (z1989 + 1) μ2037 T2039 (mF.up (mF.up (mF.call mF.refl F1994 rfl) (A_21 hw) u2019 rfl) A2036 u2038 rfl) (rW (c := 0) (d := 1000) (rAdd (e := 1) (f := 1000) h2001 (rR (x := 1)) rfl) rfl) (PC.keep I1996 hw ((mF.up (mF.up mF.refl (A_21 hw) u2019 rfl) A2036 u2038 rfl) : mF [21006, 200006] w μ1990 μ2037) rfl) (RT.keep I1997 hw ((mF.up (mF.up mF.refl (A_21 hw) u2019 rfl) A2036 u2038 rfl) : mF [21006, 200006] w μ1990 μ2037) rfl) (vc_X1_doActs_12_13 (nS h1998) h2000 h4 h3 hp2 h2002 h2001)
        by_cases h2040 : z2021 = 14
        · refine mr_tableIn (pc := 62) (v := 14) (tgt := 260) dX1_doActs_62 h2040 rfl rfl (by decide) ?_
          have h2041 : 14 ≤ z2021 ∧ z2021 ≤ 14 := (vc_X1_doActs_12_15 h2040 h2024 h2032 h2023)
          refine mr_iinc (pc := 260) (lv' := [(5, iv (z1989 + 1)), (6, iv z2009), (0, .ref 21), (1, .ref a1), (2, iv p2), (3, iv p3), (4, iv p4)]) dX1_doActs_260 rfl (by decide) rfl ?_
          refine sv_goto (pc := 263) (tgt := 3) dX1_doActs_263 (by decide) ?_
          refine mr_lvS (lv' := [(0, .ref 21), (1, .ref a1), (2, iv p2), (3, iv p3), (4, iv p4), (5, iv (z1989 + 1))]) (List.forall_mem_cons.mpr ⟨rfl, List.forall_mem_cons.mpr ⟨rfl, List.forall_mem_cons.mpr ⟨rfl, List.forall_mem_cons.mpr ⟨rfl, List.forall_mem_cons.mpr ⟨rfl, List.forall_mem_cons.mpr ⟨rfl, fun _ h => absurd h List.not_mem_nil⟩⟩⟩⟩⟩⟩) ?_
          exact ih1999 (z1989 + 1) μ2018 T2020 (mF.up (mF.call mF.refl F1994 rfl) (A_21 hw) u2019 rfl) (rW (c := 0) (d := 1000) (rAdd (e := 1) (f := 1000) h2001 (rR (x := 1)) rfl) rfl) (PC.keep I1996 hw ((mF.up mF.refl (A_21 hw) u2019 rfl) : mF [21006] w μ1990 μ2018) rfl) (RT.keep I1997 hw ((mF.up mF.refl (A_21 hw) u2019 rfl) : mF [21006] w μ1990 μ2018) rfl) (vc_X1_doActs_12_13 (nS h1998) h2000 h4 h3 hp2 h2002 h2001)
        by_cases h2042 : z2021 = 15
        · refine mr_tableIn (pc := 62) (v := 15) (tgt := 260) dX1_doActs_62 h2042 rfl rfl (by decide) ?_
          have h2043 : 15 ≤ z2021 ∧ z2021 ≤ 15 := (vc_X1_doActs_12_16 h2042 h2024 h2032 h2040 h2023)
          refine mr_iinc (pc := 260) (lv' := [(5, iv (z1989 + 1)), (6, iv z2009), (0, .ref 21), (1, .ref a1), (2, iv p2), (3, iv p3), (4, iv p4)]) dX1_doActs_260 rfl (by decide) rfl ?_
          refine sv_goto (pc := 263) (tgt := 3) dX1_doActs_263 (by decide) ?_
          refine mr_lvS (lv' := [(0, .ref 21), (1, .ref a1), (2, iv p2), (3, iv p3), (4, iv p4), (5, iv (z1989 + 1))]) (List.forall_mem_cons.mpr ⟨rfl, List.forall_mem_cons.mpr ⟨rfl, List.forall_mem_cons.mpr ⟨rfl, List.forall_mem_cons.mpr ⟨rfl, List.forall_mem_cons.mpr ⟨rfl, List.forall_mem_cons.mpr ⟨rfl, fun _ h => absurd h List.not_mem_nil⟩⟩⟩⟩⟩⟩) ?_
          exact ih1999 (z1989 + 1) μ2018 T2020 (mF.up (mF.call mF.refl F1994 rfl) (A_21 hw) u2019 rfl) (rW (c := 0) (d := 1000) (rAdd (e := 1) (f := 1000) h2001 (rR (x := 1)) rfl) rfl) (PC.keep I1996 hw ((mF.up mF.refl (A_21 hw) u2019 rfl) : mF [21006] w μ1990 μ2018) rfl) (RT.keep I1997 hw ((mF.up mF.refl (A_21 hw) u2019 rfl) : mF [21006] w μ1990 μ2018) rfl) (vc_X1_doActs_12_13 (nS h1998) h2000 h4 h3 hp2 h2002 h2001)
        by_cases h2044 : z2021 = 16
        · refine mr_tableIn (pc := 62) (v := 16) (tgt := 260) dX1_doActs_62 h2044 rfl rfl (by decide) ?_
          have h2045 : 16 ≤ z2021 ∧ z2021 ≤ 16 := (vc_X1_doActs_12_17 h2044 h2024 h2032 h2040 h2042 h2023)
          refine mr_iinc (pc := 260) (lv' := [(5, iv (z1989 + 1)), (6, iv z2009), (0, .ref 21), (1, .ref a1), (2, iv p2), (3, iv p3), (4, iv p4)]) dX1_doActs_260 rfl (by decide) rfl ?_
          refine sv_goto (pc := 263) (tgt := 3) dX1_doActs_263 (by decide) ?_
          refine mr_lvS (lv' := [(0, .ref 21), (1, .ref a1), (2, iv p2), (3, iv p3), (4, iv p4), (5, iv (z1989 + 1))]) (List.forall_mem_cons.mpr ⟨rfl, List.forall_mem_cons.mpr ⟨rfl, List.forall_mem_cons.mpr ⟨rfl, List.forall_mem_cons.mpr ⟨rfl, List.forall_mem_cons.mpr ⟨rfl, List.forall_mem_cons.mpr ⟨rfl, fun _ h => absurd h List.not_mem_nil⟩⟩⟩⟩⟩⟩) ?_
          exact ih1999 (z1989 + 1) μ2018 T2020 (mF.up (mF.call mF.refl F1994 rfl) (A_21 hw) u2019 rfl) (rW (c := 0) (d := 1000) (rAdd (e := 1) (f := 1000) h2001 (rR (x := 1)) rfl) rfl) (PC.keep I1996 hw ((mF.up mF.refl (A_21 hw) u2019 rfl) : mF [21006] w μ1990 μ2018) rfl) (RT.keep I1997 hw ((mF.up mF.refl (A_21 hw) u2019 rfl) : mF [21006] w μ1990 μ2018) rfl) (vc_X1_doActs_12_13 (nS h1998) h2000 h4 h3 hp2 h2002 h2001)
        by_cases h2046 : z2021 = 17
        · refine mr_tableIn (pc := 62) (v := 17) (tgt := 260) dX1_doActs_62 h2046 rfl rfl (by decide) ?_
          have h2047 : 17 ≤ z2021 ∧ z2021 ≤ 17 := (vc_X1_doActs_12_18 h2046 h2024 h2032 h2040 h2042 h2044 h2023)
          refine mr_iinc (pc := 260) (lv' := [(5, iv (z1989 + 1)), (6, iv z2009), (0, .ref 21), (1, .ref a1), (2, iv p2), (3, iv p3), (4, iv p4)]) dX1_doActs_260 rfl (by decide) rfl ?_
          refine sv_goto (pc := 263) (tgt := 3) dX1_doActs_263 (by decide) ?_
          refine mr_lvS (lv' := [(0, .ref 21), (1, .ref a1), (2, iv p2), (3, iv p3), (4, iv p4), (5, iv (z1989 + 1))]) (List.forall_mem_cons.mpr ⟨rfl, List.forall_mem_cons.mpr ⟨rfl, List.forall_mem_cons.mpr ⟨rfl, List.forall_mem_cons.mpr ⟨rfl, List.forall_mem_cons.mpr ⟨rfl, List.forall_mem_cons.mpr ⟨rfl, fun _ h => absurd h List.not_mem_nil⟩⟩⟩⟩⟩⟩) ?_
          exact ih1999 (z1989 + 1) μ2018 T2020 (mF.up (mF.call mF.refl F1994 rfl) (A_21 hw) u2019 rfl) (rW (c := 0) (d := 1000) (rAdd (e := 1) (f := 1000) h2001 (rR (x := 1)) rfl) rfl) (PC.keep I1996 hw ((mF.up mF.refl (A_21 hw) u2019 rfl) : mF [21006] w μ1990 μ2018) rfl) (RT.keep I1997 hw ((mF.up mF.refl (A_21 hw) u2019 rfl) : mF [21006] w μ1990 μ2018) rfl) (vc_X1_doActs_12_13 (nS h1998) h2000 h4 h3 hp2 h2002 h2001)
        by_cases h2048 : z2021 = 18
        · refine mr_tableIn (pc := 62) (v := 18) (tgt := 260) dX1_doActs_62 h2048 rfl rfl (by decide) ?_
          have h2049 : 18 ≤ z2021 ∧ z2021 ≤ 18 := (vc_X1_doActs_12_19 h2048 h2024 h2032 h2040 h2042 h2044 h2046 h2023)
          refine mr_iinc (pc := 260) (lv' := [(5, iv (z1989 + 1)), (6, iv z2009), (0, .ref 21), (1, .ref a1), (2, iv p2), (3, iv p3), (4, iv p4)]) dX1_doActs_260 rfl (by decide) rfl ?_
          refine sv_goto (pc := 263) (tgt := 3) dX1_doActs_263 (by decide) ?_
          refine mr_lvS (lv' := [(0, .ref 21), (1, .ref a1), (2, iv p2), (3, iv p3), (4, iv p4), (5, iv (z1989 + 1))]) (List.forall_mem_cons.mpr ⟨rfl, List.forall_mem_cons.mpr ⟨rfl, List.forall_mem_cons.mpr ⟨rfl, List.forall_mem_cons.mpr ⟨rfl, List.forall_mem_cons.mpr ⟨rfl, List.forall_mem_cons.mpr ⟨rfl, fun _ h => absurd h List.not_mem_nil⟩⟩⟩⟩⟩⟩) ?_
          exact ih1999 (z1989 + 1) μ2018 T2020 (mF.up (mF.call mF.refl F1994 rfl) (A_21 hw) u2019 rfl) (rW (c := 0) (d := 1000) (rAdd (e := 1) (f := 1000) h2001 (rR (x := 1)) rfl) rfl) (PC.keep I1996 hw ((mF.up mF.refl (A_21 hw) u2019 rfl) : mF [21006] w μ1990 μ2018) rfl) (RT.keep I1997 hw ((mF.up mF.refl (A_21 hw) u2019 rfl) : mF [21006] w μ1990 μ2018) rfl) (vc_X1_doActs_12_13 (nS h1998) h2000 h4 h3 hp2 h2002 h2001)
        by_cases h2050 : z2021 = 19
        · refine mr_tableIn (pc := 62) (v := 19) (tgt := 260) dX1_doActs_62 h2050 rfl rfl (by decide) ?_
          have h2051 : 19 ≤ z2021 ∧ z2021 ≤ 19 := (vc_X1_doActs_12_20 h2050 h2024 h2032 h2040 h2042 h2044 h2046 h2048 h2023)
          refine mr_iinc (pc := 260) (lv' := [(5, iv (z1989 + 1)), (6, iv z2009), (0, .ref 21), (1, .ref a1), (2, iv p2), (3, iv p3), (4, iv p4)]) dX1_doActs_260 rfl (by decide) rfl ?_
          refine sv_goto (pc := 263) (tgt := 3) dX1_doActs_263 (by decide) ?_
          refine mr_lvS (lv' := [(0, .ref 21), (1, .ref a1), (2, iv p2), (3, iv p3), (4, iv p4), (5, iv (z1989 + 1))]) (List.forall_mem_cons.mpr ⟨rfl, List.forall_mem_cons.mpr ⟨rfl, List.forall_mem_cons.mpr ⟨rfl, List.forall_mem_cons.mpr ⟨rfl, List.forall_mem_cons.mpr ⟨rfl, List.forall_mem_cons.mpr ⟨rfl, fun _ h => absurd h List.not_mem_nil⟩⟩⟩⟩⟩⟩) ?_
          exact ih1999 (z1989 + 1) μ2018 T2020 (mF.up (mF.call mF.refl F1994 rfl) (A_21 hw) u2019 rfl) (rW (c := 0) (d := 1000) (rAdd (e := 1) (f := 1000) h2001 (rR (x := 1)) rfl) rfl) (PC.keep I1996 hw ((mF.up mF.refl (A_21 hw) u2019 rfl) : mF [21006] w μ1990 μ2018) rfl) (RT.keep I1997 hw ((mF.up mF.refl (A_21 hw) u2019 rfl) : mF [21006] w μ1990 μ2018) rfl) (vc_X1_doActs_12_13 (nS h1998) h2000 h4 h3 hp2 h2002 h2001)
        by_cases h2052 : z2021 = 20
        · refine mr_tableIn (pc := 62) (v := 20) (tgt := 260) dX1_doActs_62 h2052 rfl rfl (by decide) ?_
          have h2053 : 20 ≤ z2021 ∧ z2021 ≤ 20 := (vc_X1_doActs_12_21 h2052 h2032 h2040 h2042 h2044 h2046 h2048 h2050 h2023)
          refine mr_iinc (pc := 260) (lv' := [(5, iv (z1989 + 1)), (6, iv z2009), (0, .ref 21), (1, .ref a1), (2, iv p2), (3, iv p3), (4, iv p4)]) dX1_doActs_260 rfl (by decide) rfl ?_
          refine sv_goto (pc := 263) (tgt := 3) dX1_doActs_263 (by decide) ?_
          refine mr_lvS (lv' := [(0, .ref 21), (1, .ref a1), (2, iv p2), (3, iv p3), (4, iv p4), (5, iv (z1989 + 1))]) (List.forall_mem_cons.mpr ⟨rfl, List.forall_mem_cons.mpr ⟨rfl, List.forall_mem_cons.mpr ⟨rfl, List.forall_mem_cons.mpr ⟨rfl, List.forall_mem_cons.mpr ⟨rfl, List.forall_mem_cons.mpr ⟨rfl, fun _ h => absurd h List.not_mem_nil⟩⟩⟩⟩⟩⟩) ?_
          exact ih1999 (z1989 + 1) μ2018 T2020 (mF.up (mF.call mF.refl F1994 rfl) (A_21 hw) u2019 rfl) (rW (c := 0) (d := 1000) (rAdd (e := 1) (f := 1000) h2001 (rR (x := 1)) rfl) rfl) (PC.keep I1996 hw ((mF.up mF.refl (A_21 hw) u2019 rfl) : mF [21006] w μ1990 μ2018) rfl) (RT.keep I1997 hw ((mF.up mF.refl (A_21 hw) u2019 rfl) : mF [21006] w μ1990 μ2018) rfl) (vc_X1_doActs_12_13 (nS h1998) h2000 h4 h3 hp2 h2002 h2001)
        by_cases h2054 : z2021 = 21
        · refine mr_tableIn (pc := 62) (v := 21) (tgt := 260) dX1_doActs_62 h2054 rfl rfl (by decide) ?_
          have h2055 : 21 ≤ z2021 ∧ z2021 ≤ 21 := (vc_X1_doActs_12_22 h2054 h2040 h2042 h2044 h2046 h2048 h2050 h2052 h2023)
          refine mr_iinc (pc := 260) (lv' := [(5, iv (z1989 + 1)), (6, iv z2009), (0, .ref 21), (1, .ref a1), (2, iv p2), (3, iv p3), (4, iv p4)]) dX1_doActs_260 rfl (by decide) rfl ?_
          refine sv_goto (pc := 263) (tgt := 3) dX1_doActs_263 (by decide) ?_
          refine mr_lvS (lv' := [(0, .ref 21), (1, .ref a1), (2, iv p2), (3, iv p3), (4, iv p4), (5, iv (z1989 + 1))]) (List.forall_mem_cons.mpr ⟨rfl, List.forall_mem_cons.mpr ⟨rfl, List.forall_mem_cons.mpr ⟨rfl, List.forall_mem_cons.mpr ⟨rfl, List.forall_mem_cons.mpr ⟨rfl, List.forall_mem_cons.mpr ⟨rfl, fun _ h => absurd h List.not_mem_nil⟩⟩⟩⟩⟩⟩) ?_
          exact ih1999 (z1989 + 1) μ2018 T2020 (mF.up (mF.call mF.refl F1994 rfl) (A_21 hw) u2019 rfl) (rW (c := 0) (d := 1000) (rAdd (e := 1) (f := 1000) h2001 (rR (x := 1)) rfl) rfl) (PC.keep I1996 hw ((mF.up mF.refl (A_21 hw) u2019 rfl) : mF [21006] w μ1990 μ2018) rfl) (RT.keep I1997 hw ((mF.up mF.refl (A_21 hw) u2019 rfl) : mF [21006] w μ1990 μ2018) rfl) (vc_X1_doActs_12_13 (nS h1998) h2000 h4 h3 hp2 h2002 h2001)
        by_cases h2056 : z2021 = 22
        · refine mr_tableIn (pc := 62) (v := 22) (tgt := 260) dX1_doActs_62 h2056 rfl rfl (by decide) ?_
          have h2057 : 22 ≤ z2021 ∧ z2021 ≤ 22 := (vc_X1_doActs_12_23 h2056 h2042 h2044 h2046 h2048 h2050 h2052 h2054 h2023)
          refine mr_iinc (pc := 260) (lv' := [(5, iv (z1989 + 1)), (6, iv z2009), (0, .ref 21), (1, .ref a1), (2, iv p2), (3, iv p3), (4, iv p4)]) dX1_doActs_260 rfl (by decide) rfl ?_
          refine sv_goto (pc := 263) (tgt := 3) dX1_doActs_263 (by decide) ?_
          refine mr_lvS (lv' := [(0, .ref 21), (1, .ref a1), (2, iv p2), (3, iv p3), (4, iv p4), (5, iv (z1989 + 1))]) (List.forall_mem_cons.mpr ⟨rfl, List.forall_mem_cons.mpr ⟨rfl, List.forall_mem_cons.mpr ⟨rfl, List.forall_mem_cons.mpr ⟨rfl, List.forall_mem_cons.mpr ⟨rfl, List.forall_mem_cons.mpr ⟨rfl, fun _ h => absurd h List.not_mem_nil⟩⟩⟩⟩⟩⟩) ?_
          exact ih1999 (z1989 + 1) μ2018 T2020 (mF.up (mF.call mF.refl F1994 rfl) (A_21 hw) u2019 rfl) (rW (c := 0) (d := 1000) (rAdd (e := 1) (f := 1000) h2001 (rR (x := 1)) rfl) rfl) (PC.keep I1996 hw ((mF.up mF.refl (A_21 hw) u2019 rfl) : mF [21006] w μ1990 μ2018) rfl) (RT.keep I1997 hw ((mF.up mF.refl (A_21 hw) u2019 rfl) : mF [21006] w μ1990 μ2018) rfl) (vc_X1_doActs_12_13 (nS h1998) h2000 h4 h3 hp2 h2002 h2001)
        by_cases h2058 : z2021 = 23
        · refine mr_tableIn (pc := 62) (v := 23) (tgt := 144) dX1_doActs_62 h2058 rfl rfl (by decide) ?_
          have h2059 : 23 ≤ z2021 ∧ z2021 ≤ 23 := (vc_X1_doActs_12_24 h2058 h2044 h2046 h2048 h2050 h2052 h2054 h2056 h2023)
          refine sv_aload_n (pc := 144) dX1_doActs_144 rfl rfl ?_
          refine mr_iconst (pc := 145) (z := 1) dX1_doActs_145 ?_
          refine pf_X1_7 (pc := 146) dX1_doActs_146 wF_X1_50 (A_21 hw) T2020 (rW (c := 0) (d := 2) (rR (x := 1)) rfl) fun μ2060 u2061 T2062 => ?_
          refine sv_goto (pc := 149) (tgt := 260) dX1_doActs_149 (by decide) ?_
          refine mr_iinc (pc := 260) (lv' := [(5, iv (z1989 + 1)), (6, iv z2009), (0, .ref 21), (1, .ref a1), (2, iv p2), (3, iv p3), (4, iv p4)]) dX1_doActs_260 rfl (by decide) rfl ?_
          refine sv_goto (pc := 263) (tgt := 3) dX1_doActs_263 (by decide) ?_
          refine mr_lvS (lv' := [(0, .ref 21), (1, .ref a1), (2, iv p2), (3, iv p3), (4, iv p4), (5, iv (z1989 + 1))]) (List.forall_mem_cons.mpr ⟨rfl, List.forall_mem_cons.mpr ⟨rfl, List.forall_mem_cons.mpr ⟨rfl, List.forall_mem_cons.mpr ⟨rfl, List.forall_mem_cons.mpr ⟨rfl, List.forall_mem_cons.mpr ⟨rfl, fun _ h => absurd h List.not_mem_nil⟩⟩⟩⟩⟩⟩) ?_
          exact ih1999 (z1989 + 1) μ2060 T2062 (mF.up (mF.up (mF.call mF.refl F1994 rfl) (A_21 hw) u2019 rfl) (A_21 hw) u2061 rfl) (rW (c := 0) (d := 1000) (rAdd (e := 1) (f := 1000) h2001 (rR (x := 1)) rfl) rfl) (PC.keep I1996 hw ((mF.up (mF.up mF.refl (A_21 hw) u2019 rfl) (A_21 hw) u2061 rfl) : mF [21006, 21007] w μ1990 μ2060) rfl) (RT.keep I1997 hw ((mF.up (mF.up mF.refl (A_21 hw) u2019 rfl) (A_21 hw) u2061 rfl) : mF [21006, 21007] w μ1990 μ2060) rfl) (vc_X1_doActs_12_13 (nS h1998) h2000 h4 h3 hp2 h2002 h2001)
        by_cases h2063 : z2021 = 24
        · refine mr_tableIn (pc := 62) (v := 24) (tgt := 152) dX1_doActs_62 h2063 rfl rfl (by decide) ?_
          have h2064 : 24 ≤ z2021 ∧ z2021 ≤ 24 := (vc_X1_doActs_12_25 h2063 h2046 h2048 h2050 h2052 h2054 h2056 h2058 h2023)
          refine sv_aload_n (pc := 152) dX1_doActs_152 rfl rfl ?_
          refine mr_iconst (pc := 153) (z := 2) dX1_doActs_153 ?_
          refine pf_X1_7 (pc := 154) dX1_doActs_154 wF_X1_50 (A_21 hw) T2020 (rW (c := 0) (d := 2) (rR (x := 2)) rfl) fun μ2065 u2066 T2067 => ?_
          refine sv_goto (pc := 157) (tgt := 260) dX1_doActs_157 (by decide) ?_
          refine mr_iinc (pc := 260) (lv' := [(5, iv (z1989 + 1)), (6, iv z2009), (0, .ref 21), (1, .ref a1), (2, iv p2), (3, iv p3), (4, iv p4)]) dX1_doActs_260 rfl (by decide) rfl ?_
          refine sv_goto (pc := 263) (tgt := 3) dX1_doActs_263 (by decide) ?_
          refine mr_lvS (lv' := [(0, .ref 21), (1, .ref a1), (2, iv p2), (3, iv p3), (4, iv p4), (5, iv (z1989 + 1))]) (List.forall_mem_cons.mpr ⟨rfl, List.forall_mem_cons.mpr ⟨rfl, List.forall_mem_cons.mpr ⟨rfl, List.forall_mem_cons.mpr ⟨rfl, List.forall_mem_cons.mpr ⟨rfl, List.forall_mem_cons.mpr ⟨rfl, fun _ h => absurd h List.not_mem_nil⟩⟩⟩⟩⟩⟩) ?_
          exact ih1999 (z1989 + 1) μ2065 T2067 (mF.up (mF.up (mF.call mF.refl F1994 rfl) (A_21 hw) u2019 rfl) (A_21 hw) u2066 rfl) (rW (c := 0) (d := 1000) (rAdd (e := 1) (f := 1000) h2001 (rR (x := 1)) rfl) rfl) (PC.keep I1996 hw ((mF.up (mF.up mF.refl (A_21 hw) u2019 rfl) (A_21 hw) u2066 rfl) : mF [21006, 21007] w μ1990 μ2065) rfl) (RT.keep I1997 hw ((mF.up (mF.up mF.refl (A_21 hw) u2019 rfl) (A_21 hw) u2066 rfl) : mF [21006, 21007] w μ1990 μ2065) rfl) (vc_X1_doActs_12_13 (nS h1998) h2000 h4 h3 hp2 h2002 h2001)
        by_cases h2068 : z2021 = 25
        · refine mr_tableIn (pc := 62) (v := 25) (tgt := 160) dX1_doActs_62 h2068 rfl rfl (by decide) ?_
          have h2069 : 25 ≤ z2021 ∧ z2021 ≤ 25 := (vc_X1_doActs_12_26 h2068 h2048 h2050 h2052 h2054 h2056 h2058 h2063 h2023)
          refine sv_aload_n (pc := 160) dX1_doActs_160 rfl rfl ?_
          refine gf_X1_2 (pc := 161) dX1_doActs_161 wF_X1_25 (A_21 hw) T2020 (RT.keep I1997 hw ((mF.up mF.refl (A_21 hw) u2019 rfl) : mF [21006] w μ1990 μ2018) rfl) fun b2070 q2071 A2072 => ?_
          refine mr_iload (pc := 164) (z := z2009) dX1_doActs_164 rfl ?_
          refine mr_cVV (pc := 166) (c_X7_addMark hw T2020 A2072 (rW (c := (-2147483648)) (d := 2147483647) h2012 rfl)) (gOk _ _ _ _ _) dX1_doActs_166 (tX7_addMark _ _ _ _ _) ⟨wV_X7_addMark, wL_X7_addMark⟩ wM_X1_124 (gCX7 _ _ _ _ _) rfl A2072 rfl ⟨le_t rfl, le_t rfl⟩ ⟨le_t rfl, le_t rfl⟩ rfl (le_t rfl) fun μ2073 T2074 F2075 h2076 => ?_
          refine sv_goto (pc := 169) (tgt := 260) dX1_doActs_169 (by decide) ?_
          refine mr_iinc (pc := 260) (lv' := [(5, iv (z1989 + 1)), (6, iv z2009), (0, .ref 21), (1, .ref a1), (2, iv p2), (3, iv p3), (4, iv p4)]) dX1_doActs_260 rfl (by decide) rfl ?_
          refine sv_goto (pc := 263) (tgt := 3) dX1_doActs_263 (by decide) ?_
          refine mr_lvS (lv' := [(0, .ref 21), (1, .ref a1), (2, iv p2), (3, iv p3), (4, iv p4), (5, iv (z1989 + 1))]) (List.forall_mem_cons.mpr ⟨rfl, List.forall_mem_cons.mpr ⟨rfl, List.forall_mem_cons.mpr ⟨rfl, List.forall_mem_cons.mpr ⟨rfl, List.forall_mem_cons.mpr ⟨rfl, List.forall_mem_cons.mpr ⟨rfl, fun _ h => absurd h List.not_mem_nil⟩⟩⟩⟩⟩⟩) ?_
          exact ih1999 (z1989 + 1) μ2073 T2074 (mF.call (mF.up (mF.call mF.refl F1994 rfl) (A_21 hw) u2019 rfl) F2075 rfl) (rW (c := 0) (d := 1000) (rAdd (e := 1) (f := 1000) h2001 (rR (x := 1)) rfl) rfl) (PC.keep I1996 hw ((mF.call (mF.up mF.refl (A_21 hw) u2019 rfl) F2075 rfl) : mF [21006, 200008, 202999] w μ1990 μ2073) rfl) (RT.keep I1997 hw ((mF.call (mF.up mF.refl (A_21 hw) u2019 rfl) F2075 rfl) : mF [21006, 200008, 202999] w μ1990 μ2073) rfl) (vc_X1_doActs_12_13 (nS h1998) h2000 h4 h3 hp2 h2002 h2001)
        by_cases h2077 : z2021 = 26
        · refine mr_tableIn (pc := 62) (v := 26) (tgt := 172) dX1_doActs_62 h2077 rfl rfl (by decide) ?_
          have h2078 : 26 ≤ z2021 ∧ z2021 ≤ 26 := (vc_X1_doActs_12_27 h2077 h2050 h2052 h2054 h2056 h2058 h2063 h2068 h2023)
          refine sv_aload_n (pc := 172) dX1_doActs_172 rfl rfl ?_
          refine gf_X1_2 (pc := 173) dX1_doActs_173 wF_X1_25 (A_21 hw) T2020 (RT.keep I1997 hw ((mF.up mF.refl (A_21 hw) u2019 rfl) : mF [21006] w μ1990 μ2018) rfl) fun b2079 q2080 A2081 => ?_
          refine mr_iload (pc := 176) (z := z2009) dX1_doActs_176 rfl ?_
          refine mr_cVV (pc := 178) (c_X7_dropMark hw T2020 A2081 (rW (c := (-2147483648)) (d := 2147483647) h2012 rfl)) (gOk _ _ _ _ _) dX1_doActs_178 (tX7_dropMark _ _ _ _ _) ⟨wV_X7_dropMark, wL_X7_dropMark⟩ wM_X1_128 (gCX7 _ _ _ _ _) rfl A2081 rfl ⟨le_t rfl, le_t rfl⟩ ⟨le_t rfl, le_t rfl⟩ rfl (le_t rfl) fun μ2082 T2083 F2084 h2085 => ?_
          refine sv_goto (pc := 181) (tgt := 260) dX1_doActs_181 (by decide) ?_
          refine mr_iinc (pc := 260) (lv' := [(5, iv (z1989 + 1)), (6, iv z2009), (0, .ref 21), (1, .ref a1), (2, iv p2), (3, iv p3), (4, iv p4)]) dX1_doActs_260 rfl (by decide) rfl ?_
          refine sv_goto (pc := 263) (tgt := 3) dX1_doActs_263 (by decide) ?_
          refine mr_lvS (lv' := [(0, .ref 21), (1, .ref a1), (2, iv p2), (3, iv p3), (4, iv p4), (5, iv (z1989 + 1))]) (List.forall_mem_cons.mpr ⟨rfl, List.forall_mem_cons.mpr ⟨rfl, List.forall_mem_cons.mpr ⟨rfl, List.forall_mem_cons.mpr ⟨rfl, List.forall_mem_cons.mpr ⟨rfl, List.forall_mem_cons.mpr ⟨rfl, fun _ h => absurd h List.not_mem_nil⟩⟩⟩⟩⟩⟩) ?_
          exact ih1999 (z1989 + 1) μ2082 T2083 (mF.call (mF.up (mF.call mF.refl F1994 rfl) (A_21 hw) u2019 rfl) F2084 rfl) (rW (c := 0) (d := 1000) (rAdd (e := 1) (f := 1000) h2001 (rR (x := 1)) rfl) rfl) (PC.keep I1996 hw ((mF.call (mF.up mF.refl (A_21 hw) u2019 rfl) F2084 rfl) : mF [21006, 200008, 202999] w μ1990 μ2082) rfl) (RT.keep I1997 hw ((mF.call (mF.up mF.refl (A_21 hw) u2019 rfl) F2084 rfl) : mF [21006, 200008, 202999] w μ1990 μ2082) rfl) (vc_X1_doActs_12_13 (nS h1998) h2000 h4 h3 hp2 h2002 h2001)
        by_cases h2086 : z2021 = 27
        · refine mr_tableIn (pc := 62) (v := 27) (tgt := 208) dX1_doActs_62 h2086 rfl rfl (by decide) ?_
          have h2087 : 27 ≤ z2021 ∧ z2021 ≤ 27 := (vc_X1_doActs_12_28 h2086 h2052 h2054 h2056 h2058 h2063 h2068 h2077 h2023)
          refine sv_aload_n (pc := 208) dX1_doActs_208 rfl rfl ?_
          refine gf_X1_2 (pc := 209) dX1_doActs_209 wF_X1_25 (A_21 hw) T2020 (RT.keep I1997 hw ((mF.up mF.refl (A_21 hw) u2019 rfl) : mF [21006] w μ1990 μ2018) rfl) fun b2088 q2089 A2090 => ?_
          refine gf_X7_7 (pc := 212) dX1_doActs_212 wF_X1_96 A2090 T2020 fun z2091 q2092 h2093 => ?_
          have J2116 : ∀ (μ2110 : mM), (mT w μ2110) → (mF [21007, 200007, 201999] w μ2018 μ2110) → (PC w μ2110) → (RT μ2110) → sV (gG l D c H0 sa) mX1_doActs (sRm 10 0 0) (sZ (gG l D c H0 sa) 0 0 (qV w [21006, 21007, 200004, 200006, 200007, 200008, 201999, 202999] μ (fun μ1 => True))) 260 [(0, .ref 21), (1, .ref a1), (2, iv p2), (3, iv p3), (4, iv p4), (5, iv z1989)] [] (mk w μ2110) 0 0 := by
            intro μ2110 T2111 F2112 I2114 I2115
            refine mr_iinc (pc := 260) (lv' := [(5, iv (z1989 + 1)), (0, .ref 21), (1, .ref a1), (2, iv p2), (3, iv p3), (4, iv p4)]) dX1_doActs_260 rfl (by decide) rfl ?_
            refine sv_goto (pc := 263) (tgt := 3) dX1_doActs_263 (by decide) ?_
            refine mr_lvS (lv' := [(0, .ref 21), (1, .ref a1), (2, iv p2), (3, iv p3), (4, iv p4), (5, iv (z1989 + 1))]) (List.forall_mem_cons.mpr ⟨rfl, List.forall_mem_cons.mpr ⟨rfl, List.forall_mem_cons.mpr ⟨rfl, List.forall_mem_cons.mpr ⟨rfl, List.forall_mem_cons.mpr ⟨rfl, List.forall_mem_cons.mpr ⟨rfl, fun _ h => absurd h List.not_mem_nil⟩⟩⟩⟩⟩⟩) ?_
            exact ih1999 (z1989 + 1) μ2110 T2111 (mF.call (mF.up (mF.call mF.refl F1994 rfl) (A_21 hw) u2019 rfl) F2112 rfl) (rW (c := 0) (d := 1000) (rAdd (e := 1) (f := 1000) h2001 (rR (x := 1)) rfl) rfl) I2114 I2115 (vc_X1_doActs_12_13 (nS h1998) h2000 h4 h3 hp2 h2002 h2001)
          refine mr_if_le (pc := 215) (tgt := 260) dX1_doActs_215 (by decide) (r32 h2093 rfl) (fun h2117 => ?_) (fun h2117 => ?_)
          · have h2118 : 0 ≤ z2091 ∧ z2091 ≤ 0 := (vc_X12_unlike_21 h2117 h2093)
            refine mr_lvS (lv' := [(0, .ref 21), (1, .ref a1), (2, iv p2), (3, iv p3), (4, iv p4), (5, iv z1989)]) (List.forall_mem_cons.mpr ⟨rfl, List.forall_mem_cons.mpr ⟨rfl, List.forall_mem_cons.mpr ⟨rfl, List.forall_mem_cons.mpr ⟨rfl, List.forall_mem_cons.mpr ⟨rfl, List.forall_mem_cons.mpr ⟨rfl, fun _ h => absurd h List.not_mem_nil⟩⟩⟩⟩⟩⟩) ?_
            exact J2116 μ2018 T2020 mF.refl (PC.keep I1996 hw ((mF.up mF.refl (A_21 hw) u2019 rfl) : mF [21006] w μ1990 μ2018) rfl) (RT.keep I1997 hw ((mF.up mF.refl (A_21 hw) u2019 rfl) : mF [21006] w μ1990 μ2018) rfl)
          have h2119 : 1 ≤ z2091 ∧ z2091 ≤ 20 := (vc_X12_unlike_22 h2117 h2093)
          refine sv_aload_n (pc := 218) dX1_doActs_218 rfl rfl ?_
          refine gk_X1_2 (pc := 219) dX1_doActs_219 wF_X1_25 (A_21 hw) q2089 ?_
          refine sv_aload_n (pc := 222) dX1_doActs_222 rfl rfl ?_
          refine gk_X1_2 (pc := 223) dX1_doActs_223 wF_X1_25 (A_21 hw) q2089 ?_
          refine gf_X7_0 (pc := 226) dX1_doActs_226 wF_X1_114 A2090 T2020 fun A2120 => ?_
          refine mr_iconst (pc := 229) (z := 0) dX1_doActs_229 ?_
          refine la_201 (pc := 230) dX1_doActs_230 A2120 T2020 (rIx (n := 20) (rR (x := 0)) rfl) fun z2121 q2122 h2123 => ?_
          refine mr_iload (pc := 231) (z := z2009) dX1_doActs_231 rfl ?_
          refine mr_cVI (pc := 233) (c_X7_putInFront hw T2020 A2090 h2123 (rW (c := (-2147483648)) (d := 1000000) h2012 rfl)) (gOk _ _ _ _ _) dX1_doActs_233 (tX7_putInFront _ _ _ _ _) ⟨wV_X7_putInFront, wL_X7_putInFront⟩ wM_X1_131 (gCX7 _ _ _ _ _) rfl A2090 rfl ⟨le_t rfl, le_t rfl⟩ ⟨le_t rfl, le_t rfl⟩ rfl (le_t rfl) fun z2128 μ2124 T2125 F2126 h2127 => ?_
          refine mr_if_ne (pc := 236) (tgt := 260) dX1_doActs_236 (by decide) (r32 h2127.1 rfl) (fun h2129 => ?_) (fun h2129 => ?_)
          · have h2130 : 1 ≤ z2128 ∧ z2128 ≤ 1 := (vc_X12_ring_24 h2129 h2127.1)
            refine mr_lvS (lv' := [(0, .ref 21), (1, .ref a1), (2, iv p2), (3, iv p3), (4, iv p4), (5, iv z1989)]) (List.forall_mem_cons.mpr ⟨rfl, List.forall_mem_cons.mpr ⟨rfl, List.forall_mem_cons.mpr ⟨rfl, List.forall_mem_cons.mpr ⟨rfl, List.forall_mem_cons.mpr ⟨rfl, List.forall_mem_cons.mpr ⟨rfl, fun _ h => absurd h List.not_mem_nil⟩⟩⟩⟩⟩⟩) ?_
            exact J2116 μ2124 T2125 (mF.call mF.refl F2126 rfl) (PC.keep I1996 hw ((mF.call (mF.up mF.refl (A_21 hw) u2019 rfl) F2126 rfl) : mF [21006, 200007, 201999] w μ1990 μ2124) rfl) (RT.keep I1997 hw ((mF.call (mF.up mF.refl (A_21 hw) u2019 rfl) F2126 rfl) : mF [21006, 200007, 201999] w μ1990 μ2124) rfl)
          have h2131 : 0 ≤ z2128 ∧ z2128 ≤ 0 := (vc_X12_ring_22 h2129 h2127.1)
          refine sv_aload_n (pc := 239) dX1_doActs_239 rfl rfl ?_
          refine mr_iconst (pc := 240) (z := 2) dX1_doActs_240 ?_
          refine pf_X1_7 (pc := 241) dX1_doActs_241 wF_X1_50 (A_21 hw) T2125 (rW (c := 0) (d := 2) (rR (x := 2)) rfl) fun μ2132 u2133 T2134 => ?_
          refine sv_goto (pc := 244) (tgt := 260) dX1_doActs_244 (by decide) ?_
          refine mr_lvS (lv' := [(0, .ref 21), (1, .ref a1), (2, iv p2), (3, iv p3), (4, iv p4), (5, iv z1989)]) (List.forall_mem_cons.mpr ⟨rfl, List.forall_mem_cons.mpr ⟨rfl, List.forall_mem_cons.mpr ⟨rfl, List.forall_mem_cons.mpr ⟨rfl, List.forall_mem_cons.mpr ⟨rfl, List.forall_mem_cons.mpr ⟨rfl, fun _ h => absurd h List.not_mem_nil⟩⟩⟩⟩⟩⟩) ?_
          exact J2116 μ2132 T2134 (mF.up (mF.call mF.refl F2126 rfl) (A_21 hw) u2133 rfl) (PC.keep I1996 hw ((mF.up (mF.call (mF.up mF.refl (A_21 hw) u2019 rfl) F2126 rfl) (A_21 hw) u2133 rfl) : mF [21006, 21007, 200007, 201999] w μ1990 μ2132) rfl) (RT.keep I1997 hw ((mF.up (mF.call (mF.up mF.refl (A_21 hw) u2019 rfl) F2126 rfl) (A_21 hw) u2133 rfl) : mF [21006, 21007, 200007, 201999] w μ1990 μ2132) rfl)
        by_cases h2135 : z2021 = 28
        · refine mr_tableIn (pc := 62) (v := 28) (tgt := 247) dX1_doActs_62 h2135 rfl rfl (by decide) ?_
          have h2136 : 28 ≤ z2021 ∧ z2021 ≤ 28 := (vc_X1_doActs_12_33 h2135 h2054 h2056 h2058 h2063 h2068 h2077 h2086 h2023)
          refine sv_aload_n (pc := 247) dX1_doActs_247 rfl rfl ?_
          refine mr_iload (pc := 248) (z := z2009) dX1_doActs_248 rfl ?_
          refine mr_iload (pc := 250) (z := p4) dX1_doActs_250 rfl ?_
          refine mr_iconst (pc := 252) (z := 1) dX1_doActs_252 ?_
          refine mr_iadd (pc := 253) (x := p4) (y := 1) dX1_doActs_253 ?_
          refine mr_cVV (pc := 254) (c_X1_goThrough_10 hw T2020 (rW (c := (-2147483648)) (d := 2147483647) h2012 rfl) (rAdd (e := 10) (f := 10) hp4 (rR (x := 1)) rfl) (PC.keep I1996 hw ((mF.up mF.refl (A_21 hw) u2019 rfl) : mF [21006] w μ1990 μ2018) rfl) (RT.keep I1997 hw ((mF.up mF.refl (A_21 hw) u2019 rfl) : mF [21006] w μ1990 μ2018) rfl)) (gOk _ _ _ _ _) dX1_doActs_254 (tX1_goThrough _ _ _ _ _) ⟨wV_X1_goThrough, wL_X1_goThrough⟩ wM_X1_53 (gCX1 _ _ _ _ _) rfl (A_21 hw) rfl ⟨le_t rfl, le_t rfl⟩ ⟨le_t rfl, le_t rfl⟩ rfl (le_t rfl) fun μ2137 T2138 F2139 h2140 => ?_
          refine sv_goto (pc := 257) (tgt := 260) dX1_doActs_257 (by decide) ?_
          refine mr_iinc (pc := 260) (lv' := [(5, iv (z1989 + 1)), (6, iv z2009), (0, .ref 21), (1, .ref a1), (2, iv p2), (3, iv p3), (4, iv p4)]) dX1_doActs_260 rfl (by decide) rfl ?_
          refine sv_goto (pc := 263) (tgt := 3) dX1_doActs_263 (by decide) ?_
          refine mr_lvS (lv' := [(0, .ref 21), (1, .ref a1), (2, iv p2), (3, iv p3), (4, iv p4), (5, iv (z1989 + 1))]) (List.forall_mem_cons.mpr ⟨rfl, List.forall_mem_cons.mpr ⟨rfl, List.forall_mem_cons.mpr ⟨rfl, List.forall_mem_cons.mpr ⟨rfl, List.forall_mem_cons.mpr ⟨rfl, List.forall_mem_cons.mpr ⟨rfl, fun _ h => absurd h List.not_mem_nil⟩⟩⟩⟩⟩⟩) ?_
          exact ih1999 (z1989 + 1) μ2137 T2138 (mF.call (mF.up (mF.call mF.refl F1994 rfl) (A_21 hw) u2019 rfl) F2139 rfl) (rW (c := 0) (d := 1000) (rAdd (e := 1) (f := 1000) h2001 (rR (x := 1)) rfl) rfl) (PC.keep I1996 hw ((mF.call (mF.up mF.refl (A_21 hw) u2019 rfl) F2139 rfl) : mF [21006, 21007, 200004, 200006, 200007, 200008, 201999, 202999] w μ1990 μ2137) rfl) (RT.keep I1997 hw ((mF.call (mF.up mF.refl (A_21 hw) u2019 rfl) F2139 rfl) : mF [21006, 21007, 200004, 200006, 200007, 200008, 201999, 202999] w μ1990 μ2137) rfl) (vc_X1_doActs_12_13 (nS h1998) h2000 h4 h3 hp2 h2002 h2001)
        refine mr_tableOut (pc := 62) (tgt := 260) dX1_doActs_62 h2023 (vc_X1_doActs_12_34 h2024 h2032 h2040 h2042 h2044 h2046 h2048 h2050 h2052 h2054 h2056 h2058 h2063 h2068 h2077 h2086 h2135 h2023) (by decide) ?_
        refine mr_iinc (pc := 260) (lv' := [(5, iv (z1989 + 1)), (6, iv z2009), (0, .ref 21), (1, .ref a1), (2, iv p2), (3, iv p3), (4, iv p4)]) dX1_doActs_260 rfl (by decide) rfl ?_
        refine sv_goto (pc := 263) (tgt := 3) dX1_doActs_263 (by decide) ?_
        refine mr_lvS (lv' := [(0, .ref 21), (1, .ref a1), (2, iv p2), (3, iv p3), (4, iv p4), (5, iv (z1989 + 1))]) (List.forall_mem_cons.mpr ⟨rfl, List.forall_mem_cons.mpr ⟨rfl, List.forall_mem_cons.mpr ⟨rfl, List.forall_mem_cons.mpr ⟨rfl, List.forall_mem_cons.mpr ⟨rfl, List.forall_mem_cons.mpr ⟨rfl, fun _ h => absurd h List.not_mem_nil⟩⟩⟩⟩⟩⟩) ?_
        exact ih1999 (z1989 + 1) μ2018 T2020 (mF.up (mF.call mF.refl F1994 rfl) (A_21 hw) u2019 rfl) (rW (c := 0) (d := 1000) (rAdd (e := 1) (f := 1000) h2001 (rR (x := 1)) rfl) rfl) (PC.keep I1996 hw ((mF.up mF.refl (A_21 hw) u2019 rfl) : mF [21006] w μ1990 μ2018) rfl) (RT.keep I1997 hw ((mF.up mF.refl (A_21 hw) u2019 rfl) : mF [21006] w μ1990 μ2018) rfl) (vc_X1_doActs_12_13 (nS h1998) h2000 h4 h3 hp2 h2002 h2001)
      have h2141 : 500 ≤ z2013 ∧ z2013 ≤ 500 := (vc_X1_doActs_12_35 h2016 h2015)
      refine sv_aload_n (pc := 38) dX1_doActs_38 rfl rfl ?_
      refine mr_iconst (pc := 39) (z := 2) dX1_doActs_39 ?_
      refine pf_X1_7 (pc := 40) dX1_doActs_40 wF_X1_50 (A_21 hw) T1993 (rW (c := 0) (d := 2) (rR (x := 2)) rfl) fun μ2142 u2143 T2144 => ?_
      exact mr_vret dX1_doActs_43 rfl (le_t rfl) (le_t rfl) T2144 (mF.up (mF.call mF.refl F1994 rfl) (A_21 hw) u2143 rfl) trivial
  refine mr_lvS (lv' := [(0, .ref 21), (1, .ref a1), (2, iv p2), (3, iv p3), (4, iv p4), (5, iv 0)]) (List.forall_mem_cons.mpr ⟨rfl, List.forall_mem_cons.mpr ⟨rfl, List.forall_mem_cons.mpr ⟨rfl, List.forall_mem_cons.mpr ⟨rfl, List.forall_mem_cons.mpr ⟨rfl, List.forall_mem_cons.mpr ⟨rfl, fun _ h => absurd h List.not_mem_nil⟩⟩⟩⟩⟩⟩) ?_
  exact L1991 1002 0 μ hT mF.refl (rW (c := 0) (d := 1000) (rR (x := 0)) rfl) hIPC hIRT vc_X1_doActs_12_36
theorem vc_X1_goThrough_9_5 {p2 : Int} (h0 : 12 < p2) (h1 : 9 ≤ p2 ∧ p2 ≤ 9) : False := by omega
set_option maxRecDepth 4000 in
set_option maxHeartbeats 4000000 in
theorem c_X1_goThrough_9 {l : Launch} {D : va_G} {c : Nat → ClassId} {H0 : Heap} {sa : Nat × Nat × (Nat → Int32)} {w : mW} {μ : mM} (hw : mWF w) (hT : mT w μ) {p1 : Int} (hp1 : (-2147483648) ≤ p1 ∧ p1 ≤ 2147483647) {p2 : Int} (hp2 : 9 ≤ p2 ∧ p2 ≤ 9) (hIPC : PC w μ) (hIRT : RT μ) : sC (gG l D c H0 sa) mX1_goThrough 11 0 0 [.ref 21, iv p1, iv p2] (mk w μ) (qV w [21006, 21007, 200004, 200006, 200007, 200008, 201999, 202999] μ (fun μ1 => True)) := by
  refine sC.of rfl (by decide) (le_t rfl) ?_
  refine mr_lvE (lv' := [(0, .ref 21), (1, iv p1), (2, iv p2)]) rfl ?_
  refine mr_iload_n (pc := 0) (z := p1) dX1_goThrough_0 rfl rfl ?_
  refine mr_if_lt (pc := 1) (tgt := 18) dX1_goThrough_1 (by decide) hp1 (fun h1 => ?_) (fun h1 => ?_)
  · have h2 : (-2147483648) ≤ p1 ∧ p1 ≤ (-1) := (vc_X12_ring_60 h1 hp1)
    exact mr_vret dX1_goThrough_18 rfl (le_t rfl) (le_t rfl) hT mF.refl trivial
  have h3 : 0 ≤ p1 ∧ p1 ≤ 2147483647 := (vc_X12_ring_1 h1 hp1)
  refine mr_iload_n (pc := 4) (z := p1) dX1_goThrough_4 rfl rfl ?_
  refine sv_aload_n (pc := 5) dX1_goThrough_5 rfl rfl ?_
  refine gf_X1_8 (pc := 6) dX1_goThrough_6 wF_X1_21 (A_21 hw) hT fun z4 q5 h6 => ?_
  refine mr_icmp_ge (pc := 9) (tgt := 18) dX1_goThrough_9 (by decide) (r32 h3 rfl) (r32 h6.2 rfl) (fun h7 => ?_) (fun h7 => ?_)
  · exact mr_vret dX1_goThrough_18 rfl (le_t rfl) (le_t rfl) hT mF.refl trivial
  have h8 : 0 ≤ p1 ∧ p1 ≤ 11 := (vc_X1_goThrough_13_3 h7 h1 h6.1 h3 h6.2)
  have h9 : 1 ≤ z4 ∧ z4 ≤ 12 := (vc_X1_goThrough_13_4 h7 h1 h6.1 h8 h6.2)
  refine mr_iload_n (pc := 12) (z := p2) dX1_goThrough_12 rfl rfl ?_
  refine mr_bipush (pc := 13) (z := 12) dX1_goThrough_13 (by decide) ?_
  refine mr_icmp_le (pc := 15) (tgt := 19) dX1_goThrough_15 (by decide) (r32 hp2 rfl) (r32 (rR (x := 12)) rfl) (fun _ => ?_) (fun h => ((vc_X1_goThrough_9_5 h hp2)).elim)
  refine sv_aload_n (pc := 19) dX1_goThrough_19 rfl rfl ?_
  refine gf_X1_1 (pc := 20) dX1_goThrough_20 wF_X1_17 (A_21 hw) hT ?_
  refine mr_iload_n (pc := 23) (z := p1) dX1_goThrough_23 rfl rfl ?_
  refine la_22 (pc := 24) dX1_goThrough_24 (A_22 hw) hT (rIx (n := 12) h8 rfl) (vc_X1_goThrough_12_6 h1 h6.1 h7 h8 h9) fun b10 q11 A12 => ?_
  refine mr_astore_n (pc := 25) (lv' := [(3, .ref b10), (0, .ref 21), (1, iv p1), (2, iv p2)]) dX1_goThrough_25 rfl (by decide) rfl ?_
  obtain ⟨c13, z14, q15, A16, q17, R18, e19, e20⟩ := PC.read hIPC hT A12 (vc_X1_goThrough_12_7 h1 h7 h6.1 h8 h9) (vc_X1_goThrough_12_6 h1 h6.1 h7 h8 h9) q11
  have h21 : 0 ≤ z14 ∧ z14 ≤ 30 := by rw [← q17]; exact hT _ _ A12 0
  refine mr_iconst (pc := 26) (z := 0) dX1_goThrough_26 ?_
  refine mr_istore (pc := 27) (lv' := [(4, iv 0), (3, .ref b10), (0, .ref 21), (1, iv p1), (2, iv p2)]) dX1_goThrough_27 (by decide) rfl ?_
  refine mr_iconst (pc := 29) (z := 0) dX1_goThrough_29 ?_
  refine mr_istore (pc := 30) (lv' := [(5, iv 0), (4, iv 0), (3, .ref b10), (0, .ref 21), (1, iv p1), (2, iv p2)]) dX1_goThrough_30 (by decide) rfl ?_
  have L1192 : ∀ (nL1192 : Nat) (z1190 z1189 : Int) (μ1191 : mM), mT w μ1191 → mF [21006, 21007, 200004, 200006, 200007, 200008, 201999, 202999] w μ μ1191 → (0 ≤ z1190 ∧ z1190 ≤ 2000) → (0 ≤ z1189 ∧ z1189 ≤ 30) → PC w μ1191 → RT μ1191 → wfR (μ c13) (w.2.2.1 c13) (z1190).toNat (z14 - z1189).toNat → (2001 - z1190) < (nL1192 : Int) → sV (gG l D c H0 sa) mX1_goThrough (sRm 11 0 0) (sZ (gG l D c H0 sa) 0 0 (qV w [21006, 21007, 200004, 200006, 200007, 200008, 201999, 202999] μ (fun μ1 => True))) 32 [(0, .ref 21), (2, iv p2), (3, .ref b10), (4, iv z1190), (5, iv z1189)] [] (mk w μ1191) 0 0 := by
    intro nL1192
    induction nL1192 with
    | zero => intro z1190 z1189 μ1191 T1195 F1196 h1193 h1194 I1198 I1199 R1200 h1201; exact ((vc_X1_goThrough_12_8 h1201 h1193)).elim
    | succ nL1192 ih1202 =>
      intro z1190 z1189 μ1191 T1195 F1196 h1193 h1194 I1198 I1199 R1200 h1201
      refine mr_iload (pc := 32) (z := z1189) dX1_goThrough_32 rfl ?_
      refine sv_aload_n (pc := 34) dX1_goThrough_34 rfl rfl ?_
      refine gk_X5_0 (pc := 35) dX1_goThrough_35 wF_X1_57 A12 (F1196.f A12 rfl q17) ?_
      refine mr_icmp_ge (pc := 38) (tgt := 174) dX1_goThrough_38 (by decide) (r32 h1194 rfl) (r32 h21 rfl) (fun h1267 => ?_) (fun h1267 => ?_)
      · exact mr_vret dX1_goThrough_174 rfl (le_t rfl) (le_t rfl) T1195 (mF.call mF.refl F1196 rfl) trivial
      have h1268 : 0 ≤ z1189 ∧ z1189 ≤ 29 := (vc_X12_judgedAnew_2 h1267 h1194 h21)
      have h1269 : 1 ≤ z14 ∧ z14 ≤ 30 := (vc_X12_judgedAnew_3 h1267 h1268 h21)
      refine sv_aload_n (pc := 41) dX1_goThrough_41 rfl rfl ?_
      refine gf_X1_7 (pc := 42) dX1_goThrough_42 wF_X1_50 (A_21 hw) T1195 fun z1270 q1271 h1272 => ?_
      refine mr_if_ne (pc := 45) (tgt := 174) dX1_goThrough_45 (by decide) (r32 h1272 rfl) (fun h1332 => ?_) (fun h1332 => ?_)
      · have h1333 : 1 ≤ z1270 ∧ z1270 ≤ 2 := (vc_X12_provides_3 h1332 h1272)
        exact mr_vret dX1_goThrough_174 rfl (le_t rfl) (le_t rfl) T1195 (mF.call mF.refl F1196 rfl) trivial
      have h1334 : 0 ≤ z1270 ∧ z1270 ≤ 0 := (vc_X12_provides_4 h1332 h1272)
      obtain ⟨n_1335, q1336⟩ : ∃ n : Int, (w.2.2.1 c13 : Int) = n := ⟨_, rfl⟩
      have h1337 : 0 ≤ n_1335 ∧ n_1335 ≤ 2000 := lnR (m := 2000) q1336 A16 rfl
      have h1338 : z1190 + 1 < n_1335 := lnLt q1336 (wfR.hd R1200 (vc_X1_goThrough_12_13 h1193) (vc_X1_goThrough_12_14 h1267 h1268 h1269))
      refine sv_aload_n (pc := 48) dX1_goThrough_48 rfl rfl ?_
      refine gk_X5_1 (pc := 49) dX1_goThrough_49 wF_X1_60 A12 (F1196.f A12 rfl q15) ?_
      refine mr_iload (pc := 52) (z := z1190) dX1_goThrough_52 rfl ?_
      refine la_231 (pc := 54) dX1_goThrough_54 A16 T1195 (lnC q1336 (vc_X1_goThrough_12_15 h1338 h1337 h1193)) fun z1339 q1340 h1341 => ?_
      refine mr_istore (pc := 55) (lv' := [(6, iv z1339), (0, .ref 21), (2, iv p2), (3, .ref b10), (4, iv z1190), (5, iv z1189)]) dX1_goThrough_55 (by decide) rfl ?_
      refine sv_aload_n (pc := 57) dX1_goThrough_57 rfl rfl ?_
      refine gk_X5_1 (pc := 58) dX1_goThrough_58 wF_X1_60 A12 (F1196.f A12 rfl q15) ?_
      refine mr_iload (pc := 61) (z := z1190) dX1_goThrough_61 rfl ?_
      refine mr_iconst (pc := 63) (z := 1) dX1_goThrough_63 ?_
      refine mr_iadd (pc := 64) (x := z1190) (y := 1) dX1_goThrough_64 ?_
      refine la_231 (pc := 65) dX1_goThrough_65 A16 T1195 (lnC q1336 (vc_X1_goThrough_12_16 h1338 h1337 h1193)) fun z1342 q1343 h1344 => ?_
      have B1345 := wfR.bd R1200 (vc_X1_goThrough_12_13 h1193) (vc_X1_goThrough_12_14 h1267 h1268 h1269) ((((mF.call mF.refl F1196 rfl) : mF [21006, 21007, 200004, 200006, 200007, 200008, 201999, 202999] w μ μ1191).f A16 rfl rfl).symm.trans q1340) ((((mF.call mF.refl F1196 rfl) : mF [21006, 21007, 200004, 200006, 200007, 200008, 201999, 202999] w μ μ1191).f A16 rfl rfl).symm.trans q1343)
      have h1346 : 0 ≤ z1339 ∧ 0 ≤ z1342 ∧ z1190 + 2 + 5 * z1339 + 2 * z1342 ≤ n_1335 := ⟨B1345.1.1, B1345.1.2.1, lnLe q1336 B1345.1.2.2⟩
      have h1347 : 0 ≤ z1339 ∧ z1339 ≤ 400 := (vc_X1_goThrough_12_17 h1346 h1338 h1337 h1193 h1341 h1344)
      have h1348 : 0 ≤ z1342 ∧ z1342 ≤ 1000 := (vc_X1_goThrough_12_18 h1346 h1338 h1337 h1193 h1347 h1344)
      refine mr_istore (pc := 66) (lv' := [(7, iv z1342), (6, iv z1339), (0, .ref 21), (2, iv p2), (3, .ref b10), (4, iv z1190), (5, iv z1189)]) dX1_goThrough_66 (by decide) rfl ?_
      refine mr_iload (pc := 68) (z := z1190) dX1_goThrough_68 rfl ?_
      refine mr_iconst (pc := 70) (z := 2) dX1_goThrough_70 ?_
      refine mr_iadd (pc := 71) (x := z1190) (y := 2) dX1_goThrough_71 ?_
      refine mr_iload (pc := 72) (z := z1339) dX1_goThrough_72 rfl ?_
      refine mr_iconst (pc := 74) (z := 5) dX1_goThrough_74 ?_
      refine mr_imul (pc := 75) (x := z1339) (y := 5) dX1_goThrough_75 ?_
      refine mr_iadd (pc := 76) (x := (z1190 + 2)) (y := (z1339 * 5)) dX1_goThrough_76 ?_
      refine mr_istore (pc := 77) (lv' := [(8, iv ((z1190 + 2) + (z1339 * 5))), (7, iv z1342), (6, iv z1339), (0, .ref 21), (2, iv p2), (3, .ref b10), (4, iv z1190), (5, iv z1189)]) dX1_goThrough_77 (by decide) rfl ?_
      refine mr_iconst (pc := 79) (z := 1) dX1_goThrough_79 ?_
      refine mr_istore (pc := 80) (lv' := [(9, iv 1), (8, iv ((z1190 + 2) + (z1339 * 5))), (7, iv z1342), (6, iv z1339), (0, .ref 21), (2, iv p2), (3, .ref b10), (4, iv z1190), (5, iv z1189)]) dX1_goThrough_80 (by decide) rfl ?_
      refine mr_iload (pc := 82) (z := z1190) dX1_goThrough_82 rfl ?_
      refine mr_iconst (pc := 84) (z := 2) dX1_goThrough_84 ?_
      refine mr_iadd (pc := 85) (x := z1190) (y := 2) dX1_goThrough_85 ?_
      refine mr_istore (pc := 86) (lv' := [(10, iv (z1190 + 2)), (9, iv 1), (8, iv ((z1190 + 2) + (z1339 * 5))), (7, iv z1342), (6, iv z1339), (0, .ref 21), (2, iv p2), (3, .ref b10), (4, iv z1190), (5, iv z1189)]) dX1_goThrough_86 (by decide) rfl ?_
      have L1468 : ∀ (nL1468 : Nat) (z1467 z1466 : Int), True → (0 ≤ z1467 ∧ z1467 ≤ 1) → (2 ≤ z1466 ∧ z1466 ≤ 2010) → ((((z1190 + 2) + (z1339 * 5)) - z1466) % 5 = 0) → (2011 - z1466) < (nL1468 : Int) → sV (gG l D c H0 sa) mX1_goThrough (sRm 11 0 0) (sZ (gG l D c H0 sa) 0 0 (qV w [21006, 21007, 200004, 200006, 200007, 200008, 201999, 202999] μ (fun μ1 => True))) 88 [(0, .ref 21), (2, iv p2), (3, .ref b10), (5, iv z1189), (7, iv z1342), (8, iv ((z1190 + 2) + (z1339 * 5))), (9, iv z1467), (10, iv z1466)] [] (mk w μ1191) 0 0 := by
        intro nL1468
        induction nL1468 with
        | zero => intro z1467 z1466 _ h1469 h1470 h1474 h1475; exact ((vc_X1_goThrough_12_19 h1475 h1474 h1338 h1346 h1337 h1193 h1347 h1348 h1470)).elim
        | succ nL1468 ih1476 =>
          intro z1467 z1466 _ h1469 h1470 h1474 h1475
          refine mr_iload (pc := 88) (z := z1466) dX1_goThrough_88 rfl ?_
          refine mr_iload (pc := 90) (z := ((z1190 + 2) + (z1339 * 5))) dX1_goThrough_90 rfl ?_
          have J1492 : sV (gG l D c H0 sa) mX1_goThrough (sRm 11 0 0) (sZ (gG l D c H0 sa) 0 0 (qV w [21006, 21007, 200004, 200006, 200007, 200008, 201999, 202999] μ (fun μ1 => True))) 141 [(0, .ref 21), (2, iv p2), (3, .ref b10), (5, iv z1189), (7, iv z1342), (8, iv ((z1190 + 2) + (z1339 * 5))), (9, iv z1467)] [] (mk w μ1191) 0 0 := by
            refine mr_iload (pc := 141) (z := z1467) dX1_goThrough_141 rfl ?_
            refine mr_if_eq (pc := 143) (tgt := 159) dX1_goThrough_143 (by decide) (r32 h1469 rfl) (fun h1499 => ?_) (fun h1499 => ?_)
            · have h1500 : 0 ≤ z1467 ∧ z1467 ≤ 0 := (vc_X12_ring_22 h1499 h1469)
              refine mr_iload (pc := 159) (z := ((z1190 + 2) + (z1339 * 5))) dX1_goThrough_159 rfl ?_
              refine mr_iload (pc := 161) (z := z1342) dX1_goThrough_161 rfl ?_
              refine mr_iconst (pc := 163) (z := 2) dX1_goThrough_163 ?_
              refine mr_imul (pc := 164) (x := z1342) (y := 2) dX1_goThrough_164 ?_
              refine mr_iadd (pc := 165) (x := ((z1190 + 2) + (z1339 * 5))) (y := (z1342 * 2)) dX1_goThrough_165 ?_
              refine mr_istore (pc := 166) (lv' := [(4, iv (((z1190 + 2) + (z1339 * 5)) + (z1342 * 2))), (0, .ref 21), (2, iv p2), (3, .ref b10), (5, iv z1189), (7, iv z1342), (8, iv ((z1190 + 2) + (z1339 * 5))), (9, iv z1467)]) dX1_goThrough_166 (by decide) rfl ?_
              refine mr_iinc (pc := 168) (lv' := [(5, iv (z1189 + 1)), (4, iv (((z1190 + 2) + (z1339 * 5)) + (z1342 * 2))), (0, .ref 21), (2, iv p2), (3, .ref b10), (7, iv z1342), (8, iv ((z1190 + 2) + (z1339 * 5))), (9, iv z1467)]) dX1_goThrough_168 rfl (by decide) rfl ?_
              refine sv_goto (pc := 171) (tgt := 32) dX1_goThrough_171 (by decide) ?_
              refine mr_lvS (lv' := [(0, .ref 21), (2, iv p2), (3, .ref b10), (4, iv (((z1190 + 2) + (z1339 * 5)) + (z1342 * 2))), (5, iv (z1189 + 1))]) (List.forall_mem_cons.mpr ⟨rfl, List.forall_mem_cons.mpr ⟨rfl, List.forall_mem_cons.mpr ⟨rfl, List.forall_mem_cons.mpr ⟨rfl, List.forall_mem_cons.mpr ⟨rfl, fun _ h => absurd h List.not_mem_nil⟩⟩⟩⟩⟩) ?_
              exact ih1202 (((z1190 + 2) + (z1339 * 5)) + (z1342 * 2)) (z1189 + 1) μ1191 T1195 (mF.call mF.refl F1196 rfl) (vc_X1_goThrough_12_21 h1338 h1346 h1474 h1337 h1193 h1347 h1348 h1470) (rW (c := 0) (d := 30) (rAdd (e := 1) (f := 30) h1268 (rR (x := 1)) rfl) rfl) I1198 I1199 (wfR.cg B1345.2.2 (vc_X1_goThrough_12_23 h1338 h1346 h1474 h1337 h1193 h1347 h1348 h1470)) (vc_X1_goThrough_12_22 (nS h1201) h1338 h1346 h1474 h1337 h1193 h1347 h1348 h1470)
            have h1501 : 1 ≤ z1467 ∧ z1467 ≤ 1 := (vc_X12_ring_24 h1499 h1469)
            refine sv_aload_n (pc := 146) dX1_goThrough_146 rfl rfl ?_
            refine sv_aload_n (pc := 147) dX1_goThrough_147 rfl rfl ?_
            refine gk_X5_1 (pc := 148) dX1_goThrough_148 wF_X1_60 A12 (F1196.f A12 rfl q15) ?_
            refine mr_iload (pc := 151) (z := ((z1190 + 2) + (z1339 * 5))) dX1_goThrough_151 rfl ?_
            refine mr_iload (pc := 153) (z := z1342) dX1_goThrough_153 rfl ?_
            refine mr_iload_n (pc := 155) (z := p2) dX1_goThrough_155 rfl rfl ?_
            refine mr_cVV (pc := 156) (c_X1_doActs_9 hw T1195 A16 (vc_X1_goThrough_12_25 h1338 h1346 h1474 h1337 h1193 h1347 h1348 h1470) h1348 hp2 I1198 I1199 (lnL q1336 (vc_X1_goThrough_12_26 h1338 h1346 h1474 h1337 h1193 h1347 h1348 h1470)) (argC B1345.2.1 (vc_X1_goThrough_12_27 h1338 h1346 h1474 h1337 h1193 h1347 h1348 h1470) (funext fun i => ((mF.call mF.refl F1196 rfl) : mF [21006, 21007, 200004, 200006, 200007, 200008, 201999, 202999] w μ μ1191).f A16 rfl rfl))) (gOk _ _ _ _ _) dX1_goThrough_156 (tX1_doActs _ _ _ _ _) ⟨wV_X1_doActs, wL_X1_doActs⟩ wM_X1_68 (gCX1 _ _ _ _ _) rfl (A_21 hw) rfl ⟨le_t rfl, le_t rfl⟩ ⟨le_t rfl, le_t rfl⟩ rfl (le_t rfl) fun μ1502 T1503 F1504 h1505 => ?_
            refine mr_iload (pc := 159) (z := ((z1190 + 2) + (z1339 * 5))) dX1_goThrough_159 rfl ?_
            refine mr_iload (pc := 161) (z := z1342) dX1_goThrough_161 rfl ?_
            refine mr_iconst (pc := 163) (z := 2) dX1_goThrough_163 ?_
            refine mr_imul (pc := 164) (x := z1342) (y := 2) dX1_goThrough_164 ?_
            refine mr_iadd (pc := 165) (x := ((z1190 + 2) + (z1339 * 5))) (y := (z1342 * 2)) dX1_goThrough_165 ?_
            refine mr_istore (pc := 166) (lv' := [(4, iv (((z1190 + 2) + (z1339 * 5)) + (z1342 * 2))), (0, .ref 21), (2, iv p2), (3, .ref b10), (5, iv z1189), (7, iv z1342), (8, iv ((z1190 + 2) + (z1339 * 5))), (9, iv z1467)]) dX1_goThrough_166 (by decide) rfl ?_
            refine mr_iinc (pc := 168) (lv' := [(5, iv (z1189 + 1)), (4, iv (((z1190 + 2) + (z1339 * 5)) + (z1342 * 2))), (0, .ref 21), (2, iv p2), (3, .ref b10), (7, iv z1342), (8, iv ((z1190 + 2) + (z1339 * 5))), (9, iv z1467)]) dX1_goThrough_168 rfl (by decide) rfl ?_
            refine sv_goto (pc := 171) (tgt := 32) dX1_goThrough_171 (by decide) ?_
            refine mr_lvS (lv' := [(0, .ref 21), (2, iv p2), (3, .ref b10), (4, iv (((z1190 + 2) + (z1339 * 5)) + (z1342 * 2))), (5, iv (z1189 + 1))]) (List.forall_mem_cons.mpr ⟨rfl, List.forall_mem_cons.mpr ⟨rfl, List.forall_mem_cons.mpr ⟨rfl, List.forall_mem_cons.mpr ⟨rfl, List.forall_mem_cons.mpr ⟨rfl, fun _ h => absurd h List.not_mem_nil⟩⟩⟩⟩⟩) ?_
            exact ih1202 (((z1190 + 2) + (z1339 * 5)) + (z1342 * 2)) (z1189 + 1) μ1502 T1503 (mF.call (mF.call mF.refl F1196 rfl) F1504 rfl) (vc_X1_goThrough_12_21 h1338 h1346 h1474 h1337 h1193 h1347 h1348 h1470) (rW (c := 0) (d := 30) (rAdd (e := 1) (f := 30) h1268 (rR (x := 1)) rfl) rfl) (PC.keep I1198 hw ((mF.call mF.refl F1504 rfl) : mF [21006, 21007, 200004, 200006, 200007, 200008, 201999, 202999] w μ1191 μ1502) rfl) (RT.keep I1199 hw ((mF.call mF.refl F1504 rfl) : mF [21006, 21007, 200004, 200006, 200007, 200008, 201999, 202999] w μ1191 μ1502) rfl) (wfR.cg B1345.2.2 (vc_X1_goThrough_12_23 h1338 h1346 h1474 h1337 h1193 h1347 h1348 h1470)) (vc_X1_goThrough_12_22 (nS h1201) h1338 h1346 h1474 h1337 h1193 h1347 h1348 h1470)
          refine mr_icmp_ge (pc := 92) (tgt := 141) dX1_goThrough_92 (by decide) (r32 h1470 rfl) (r32 (rAdd (e := 2) (f := 4002) (rAdd (e := 2) (f := 2002) h1193 (rR (x := 2)) rfl) (rMulR (n := 5) (e := 0) (f := 2000) h1347 rfl) rfl) rfl) (fun h1506 => ?_) (fun h1506 => ?_)
          · refine mr_lvS (lv' := [(0, .ref 21), (2, iv p2), (3, .ref b10), (5, iv z1189), (7, iv z1342), (8, iv ((z1190 + 2) + (z1339 * 5))), (9, iv z1467)]) (List.forall_mem_cons.mpr ⟨rfl, List.forall_mem_cons.mpr ⟨rfl, List.forall_mem_cons.mpr ⟨rfl, List.forall_mem_cons.mpr ⟨rfl, List.forall_mem_cons.mpr ⟨rfl, List.forall_mem_cons.mpr ⟨rfl, List.forall_mem_cons.mpr ⟨rfl, fun _ h => absurd h List.not_mem_nil⟩⟩⟩⟩⟩⟩⟩) ?_
            exact J1492 
          refine mr_iload (pc := 95) (z := z1467) dX1_goThrough_95 rfl ?_
          refine mr_if_eq (pc := 97) (tgt := 141) dX1_goThrough_97 (by decide) (r32 h1469 rfl) (fun h1507 => ?_) (fun h1507 => ?_)
          · have h1508 : 0 ≤ z1467 ∧ z1467 ≤ 0 := (vc_X12_ring_22 h1507 h1469)
            refine mr_lvS (lv' := [(0, .ref 21), (2, iv p2), (3, .ref b10), (5, iv z1189), (7, iv z1342), (8, iv ((z1190 + 2) + (z1339 * 5))), (9, iv z1467)]) (List.forall_mem_cons.mpr ⟨rfl, List.forall_mem_cons.mpr ⟨rfl, List.forall_mem_cons.mpr ⟨rfl, List.forall_mem_cons.mpr ⟨rfl, List.forall_mem_cons.mpr ⟨rfl, List.forall_mem_cons.mpr ⟨rfl, List.forall_mem_cons.mpr ⟨rfl, fun _ h => absurd h List.not_mem_nil⟩⟩⟩⟩⟩⟩⟩) ?_
            exact J1492 
          have h1509 : 1 ≤ z1467 ∧ z1467 ≤ 1 := (vc_X12_ring_24 h1507 h1469)
          refine sv_aload_n (pc := 100) dX1_goThrough_100 rfl rfl ?_
          refine sv_aload_n (pc := 101) dX1_goThrough_101 rfl rfl ?_
          refine mr_iload (pc := 102) (z := z1466) dX1_goThrough_102 rfl ?_
          refine mr_cVP (pc := 104) (c_X1_isSo hw T1195 A12 (vc_X1_goThrough_12_28 h1474 h1506 h1338 h1346 h1337 h1193 h1347 h1348 h1470) I1199 (lnF (F1196.f A12 rfl q15) q1336 (vc_X1_goThrough_12_29 h1338 h1346 h1474 h1506 h1337 h1193 h1347 h1348 h1470)) (by rw [((mF.call mF.refl F1196 rfl) : mF [21006, 21007, 200004, 200006, 200007, 200008, 201999, 202999] w μ μ1191).f (k := 2) A12 rfl rfl, ((mF.call mF.refl F1196 rfl) : mF [21006, 21007, 200004, 200006, 200007, 200008, 201999, 202999] w μ μ1191).f (k := 3) A12 rfl rfl]; exact e19) (by rw [((mF.call mF.refl F1196 rfl) : mF [21006, 21007, 200004, 200006, 200007, 200008, 201999, 202999] w μ μ1191).f (k := 4) A12 rfl rfl, ((mF.call mF.refl F1196 rfl) : mF [21006, 21007, 200004, 200006, 200007, 200008, 201999, 202999] w μ μ1191).f (k := 5) A12 rfl rfl]; exact e20)) (gOk _ _ _ _ _) dX1_goThrough_104 (tX1_isSo _ _ _ _ _) ⟨wV_X1_isSo, wL_X1_isSo⟩ wM_X1_64 (gCX1 _ _ _ _ _) rfl (A_21 hw) rfl ⟨le_t rfl, le_t rfl⟩ ⟨le_t rfl, le_t rfl⟩ rfl (le_t rfl) fun z1514 h1513 => ?_
          refine sv_aload_n (pc := 107) dX1_goThrough_107 rfl rfl ?_
          refine gk_X5_1 (pc := 108) dX1_goThrough_108 wF_X1_60 A12 (F1196.f A12 rfl q15) ?_
          refine mr_iload (pc := 111) (z := z1466) dX1_goThrough_111 rfl ?_
          refine mr_iconst (pc := 113) (z := 1) dX1_goThrough_113 ?_
          refine mr_iadd (pc := 114) (x := z1466) (y := 1) dX1_goThrough_114 ?_
          refine la_231 (pc := 115) dX1_goThrough_115 A16 T1195 (lnC q1336 (vc_X1_goThrough_12_30 h1338 h1346 h1474 h1506 h1337 h1193 h1347 h1348 h1470)) fun z1515 q1516 h1517 => ?_
          refine mr_iconst (pc := 116) (z := 1) dX1_goThrough_116 ?_
          refine mr_icmp_ne (pc := 117) (tgt := 124) dX1_goThrough_117 (by decide) h1517 (r32 (rR (x := 1)) rfl) (fun h1519 => ?_) (fun h1519 => ?_)
          · refine mr_iconst (pc := 124) (z := 0) dX1_goThrough_124 ?_
            refine mr_icmp_eq (pc := 125) (tgt := 132) dX1_goThrough_125 (by decide) (r32 h1513.1 rfl) (r32 (rR (x := 0)) rfl) (fun h1522 => ?_) (fun h1522 => ?_)
            · have h1523 : 0 ≤ z1514 ∧ z1514 ≤ 0 := (vc_X12_ring_22 h1522 h1513.1)
              refine mr_iconst (pc := 132) (z := 0) dX1_goThrough_132 ?_
              refine mr_istore (pc := 133) (lv' := [(9, iv 0), (0, .ref 21), (2, iv p2), (3, .ref b10), (5, iv z1189), (7, iv z1342), (8, iv ((z1190 + 2) + (z1339 * 5))), (10, iv z1466)]) dX1_goThrough_133 (by decide) rfl ?_
              refine mr_iinc (pc := 135) (lv' := [(10, iv (z1466 + 5)), (9, iv 0), (0, .ref 21), (2, iv p2), (3, .ref b10), (5, iv z1189), (7, iv z1342), (8, iv ((z1190 + 2) + (z1339 * 5)))]) dX1_goThrough_135 rfl (by decide) rfl ?_
              refine sv_goto (pc := 138) (tgt := 88) dX1_goThrough_138 (by decide) ?_
              refine mr_lvS (lv' := [(0, .ref 21), (2, iv p2), (3, .ref b10), (5, iv z1189), (7, iv z1342), (8, iv ((z1190 + 2) + (z1339 * 5))), (9, iv 0), (10, iv (z1466 + 5))]) (List.forall_mem_cons.mpr ⟨rfl, List.forall_mem_cons.mpr ⟨rfl, List.forall_mem_cons.mpr ⟨rfl, List.forall_mem_cons.mpr ⟨rfl, List.forall_mem_cons.mpr ⟨rfl, List.forall_mem_cons.mpr ⟨rfl, List.forall_mem_cons.mpr ⟨rfl, List.forall_mem_cons.mpr ⟨rfl, fun _ h => absurd h List.not_mem_nil⟩⟩⟩⟩⟩⟩⟩⟩) ?_
              exact ih1476 0 (z1466 + 5) trivial (rW (c := 0) (d := 1) (rR (x := 0)) rfl) (vc_X1_goThrough_12_32 h1474 h1506 h1338 h1346 h1337 h1193 h1347 h1348 h1470) (vc_X1_goThrough_12_33 h1338 h1346 h1474 h1506 h1337 h1193 h1347 h1348 h1470) (vc_X1_goThrough_12_34 (nS h1475) h1474 h1506 h1338 h1346 h1337 h1193 h1347 h1348 h1470)
            have h1524 : 1 ≤ z1514 ∧ z1514 ≤ 1 := (vc_X12_ring_24 h1522 h1513.1)
            refine mr_iconst (pc := 128) (z := 1) dX1_goThrough_128 ?_
            refine sv_goto (pc := 129) (tgt := 133) dX1_goThrough_129 (by decide) ?_
            refine mr_istore (pc := 133) (lv' := [(9, iv 1), (0, .ref 21), (2, iv p2), (3, .ref b10), (5, iv z1189), (7, iv z1342), (8, iv ((z1190 + 2) + (z1339 * 5))), (10, iv z1466)]) dX1_goThrough_133 (by decide) rfl ?_
            refine mr_iinc (pc := 135) (lv' := [(10, iv (z1466 + 5)), (9, iv 1), (0, .ref 21), (2, iv p2), (3, .ref b10), (5, iv z1189), (7, iv z1342), (8, iv ((z1190 + 2) + (z1339 * 5)))]) dX1_goThrough_135 rfl (by decide) rfl ?_
            refine sv_goto (pc := 138) (tgt := 88) dX1_goThrough_138 (by decide) ?_
            refine mr_lvS (lv' := [(0, .ref 21), (2, iv p2), (3, .ref b10), (5, iv z1189), (7, iv z1342), (8, iv ((z1190 + 2) + (z1339 * 5))), (9, iv 1), (10, iv (z1466 + 5))]) (List.forall_mem_cons.mpr ⟨rfl, List.forall_mem_cons.mpr ⟨rfl, List.forall_mem_cons.mpr ⟨rfl, List.forall_mem_cons.mpr ⟨rfl, List.forall_mem_cons.mpr ⟨rfl, List.forall_mem_cons.mpr ⟨rfl, List.forall_mem_cons.mpr ⟨rfl, List.forall_mem_cons.mpr ⟨rfl, fun _ h => absurd h List.not_mem_nil⟩⟩⟩⟩⟩⟩⟩⟩) ?_
            exact ih1476 1 (z1466 + 5) trivial (rW (c := 0) (d := 1) (rR (x := 1)) rfl) (vc_X1_goThrough_12_32 h1474 h1506 h1338 h1346 h1337 h1193 h1347 h1348 h1470) (vc_X1_goThrough_12_33 h1338 h1346 h1474 h1506 h1337 h1193 h1347 h1348 h1470) (vc_X1_goThrough_12_34 (nS h1475) h1474 h1506 h1338 h1346 h1337 h1193 h1347 h1348 h1470)
          have h1525 : 1 ≤ z1515 ∧ z1515 ≤ 1 := (vc_X0_compareAt_1 h1519 h1517)
          refine mr_iconst (pc := 120) (z := 1) dX1_goThrough_120 ?_
          refine sv_goto (pc := 121) (tgt := 125) dX1_goThrough_121 (by decide) ?_
          refine mr_icmp_eq (pc := 125) (tgt := 132) dX1_goThrough_125 (by decide) (r32 h1513.1 rfl) (r32 (rR (x := 1)) rfl) (fun h1528 => ?_) (fun h1528 => ?_)
          · have h1529 : 1 ≤ z1514 ∧ z1514 ≤ 1 := (vc_X1_goThrough_12_37 h1528 h1513.1)
            refine mr_iconst (pc := 132) (z := 0) dX1_goThrough_132 ?_
            refine mr_istore (pc := 133) (lv' := [(9, iv 0), (0, .ref 21), (2, iv p2), (3, .ref b10), (5, iv z1189), (7, iv z1342), (8, iv ((z1190 + 2) + (z1339 * 5))), (10, iv z1466)]) dX1_goThrough_133 (by decide) rfl ?_
            refine mr_iinc (pc := 135) (lv' := [(10, iv (z1466 + 5)), (9, iv 0), (0, .ref 21), (2, iv p2), (3, .ref b10), (5, iv z1189), (7, iv z1342), (8, iv ((z1190 + 2) + (z1339 * 5)))]) dX1_goThrough_135 rfl (by decide) rfl ?_
            refine sv_goto (pc := 138) (tgt := 88) dX1_goThrough_138 (by decide) ?_
            refine mr_lvS (lv' := [(0, .ref 21), (2, iv p2), (3, .ref b10), (5, iv z1189), (7, iv z1342), (8, iv ((z1190 + 2) + (z1339 * 5))), (9, iv 0), (10, iv (z1466 + 5))]) (List.forall_mem_cons.mpr ⟨rfl, List.forall_mem_cons.mpr ⟨rfl, List.forall_mem_cons.mpr ⟨rfl, List.forall_mem_cons.mpr ⟨rfl, List.forall_mem_cons.mpr ⟨rfl, List.forall_mem_cons.mpr ⟨rfl, List.forall_mem_cons.mpr ⟨rfl, List.forall_mem_cons.mpr ⟨rfl, fun _ h => absurd h List.not_mem_nil⟩⟩⟩⟩⟩⟩⟩⟩) ?_
            exact ih1476 0 (z1466 + 5) trivial (rW (c := 0) (d := 1) (rR (x := 0)) rfl) (vc_X1_goThrough_12_32 h1474 h1506 h1338 h1346 h1337 h1193 h1347 h1348 h1470) (vc_X1_goThrough_12_33 h1338 h1346 h1474 h1506 h1337 h1193 h1347 h1348 h1470) (vc_X1_goThrough_12_34 (nS h1475) h1474 h1506 h1338 h1346 h1337 h1193 h1347 h1348 h1470)
          have h1530 : 0 ≤ z1514 ∧ z1514 ≤ 0 := (vc_X1_goThrough_12_38 h1528 h1513.1)
          refine mr_iconst (pc := 128) (z := 1) dX1_goThrough_128 ?_
          refine sv_goto (pc := 129) (tgt := 133) dX1_goThrough_129 (by decide) ?_
          refine mr_istore (pc := 133) (lv' := [(9, iv 1), (0, .ref 21), (2, iv p2), (3, .ref b10), (5, iv z1189), (7, iv z1342), (8, iv ((z1190 + 2) + (z1339 * 5))), (10, iv z1466)]) dX1_goThrough_133 (by decide) rfl ?_
          refine mr_iinc (pc := 135) (lv' := [(10, iv (z1466 + 5)), (9, iv 1), (0, .ref 21), (2, iv p2), (3, .ref b10), (5, iv z1189), (7, iv z1342), (8, iv ((z1190 + 2) + (z1339 * 5)))]) dX1_goThrough_135 rfl (by decide) rfl ?_
          refine sv_goto (pc := 138) (tgt := 88) dX1_goThrough_138 (by decide) ?_
          refine mr_lvS (lv' := [(0, .ref 21), (2, iv p2), (3, .ref b10), (5, iv z1189), (7, iv z1342), (8, iv ((z1190 + 2) + (z1339 * 5))), (9, iv 1), (10, iv (z1466 + 5))]) (List.forall_mem_cons.mpr ⟨rfl, List.forall_mem_cons.mpr ⟨rfl, List.forall_mem_cons.mpr ⟨rfl, List.forall_mem_cons.mpr ⟨rfl, List.forall_mem_cons.mpr ⟨rfl, List.forall_mem_cons.mpr ⟨rfl, List.forall_mem_cons.mpr ⟨rfl, List.forall_mem_cons.mpr ⟨rfl, fun _ h => absurd h List.not_mem_nil⟩⟩⟩⟩⟩⟩⟩⟩) ?_
          exact ih1476 1 (z1466 + 5) trivial (rW (c := 0) (d := 1) (rR (x := 1)) rfl) (vc_X1_goThrough_12_32 h1474 h1506 h1338 h1346 h1337 h1193 h1347 h1348 h1470) (vc_X1_goThrough_12_33 h1338 h1346 h1474 h1506 h1337 h1193 h1347 h1348 h1470) (vc_X1_goThrough_12_34 (nS h1475) h1474 h1506 h1338 h1346 h1337 h1193 h1347 h1348 h1470)
      refine mr_lvS (lv' := [(0, .ref 21), (2, iv p2), (3, .ref b10), (5, iv z1189), (7, iv z1342), (8, iv ((z1190 + 2) + (z1339 * 5))), (9, iv 1), (10, iv (z1190 + 2))]) (List.forall_mem_cons.mpr ⟨rfl, List.forall_mem_cons.mpr ⟨rfl, List.forall_mem_cons.mpr ⟨rfl, List.forall_mem_cons.mpr ⟨rfl, List.forall_mem_cons.mpr ⟨rfl, List.forall_mem_cons.mpr ⟨rfl, List.forall_mem_cons.mpr ⟨rfl, List.forall_mem_cons.mpr ⟨rfl, fun _ h => absurd h List.not_mem_nil⟩⟩⟩⟩⟩⟩⟩⟩) ?_
      exact L1468 2010 1 (z1190 + 2) trivial (rW (c := 0) (d := 1) (rR (x := 1)) rfl) (rW (c := 2) (d := 2010) (rAdd (e := 2) (f := 2002) h1193 (rR (x := 2)) rfl) rfl) (vc_X1_goThrough_12_39 h1338 h1346 h1337 h1193 h1347 h1348) (vc_X1_goThrough_12_40 h1338 h1346 h1337 h1193 h1347 h1348)
  refine mr_lvS (lv' := [(0, .ref 21), (2, iv p2), (3, .ref b10), (4, iv 0), (5, iv 0)]) (List.forall_mem_cons.mpr ⟨rfl, List.forall_mem_cons.mpr ⟨rfl, List.forall_mem_cons.mpr ⟨rfl, List.forall_mem_cons.mpr ⟨rfl, List.forall_mem_cons.mpr ⟨rfl, fun _ h => absurd h List.not_mem_nil⟩⟩⟩⟩⟩) ?_
  exact L1192 2002 0 0 μ hT mF.refl (rW (c := 0) (d := 2000) (rR (x := 0)) rfl) (rW (c := 0) (d := 30) (rR (x := 0)) rfl) hIPC hIRT R18 vc_X1_goThrough_12_41
set_option maxRecDepth 4000 in
set_option maxHeartbeats 4000000 in
theorem c_X1_doActs_8 {l : Launch} {D : va_G} {c : Nat → ClassId} {H0 : Heap} {sa : Nat × Nat × (Nat → Int32)} {w : mW} {μ : mM} (hw : mWF w) (hT : mT w μ) {a1 : Nat} (hA1 : mAt w a1 231) {p2 : Int} (hp2 : 0 ≤ p2 ∧ p2 ≤ 2000) {p3 : Int} (hp3 : 0 ≤ p3 ∧ p3 ≤ 1000) {p4 : Int} (hp4 : 8 ≤ p4 ∧ p4 ≤ 8) (hIPC : PC w μ) (hIRT : RT μ) (hlen : p2 + 2 * p3 ≤ (w.2.2.1 a1 : Int)) (harg : ∀ i : Int, 0 ≤ i → i < p3 → 0 ≤ μ a1 (p2 + 2 * i + 1).toNat ∧ μ a1 (p2 + 2 * i + 1).toNat ≤ 1000000) : sC (gG l D c H0 sa) mX1_doActs 12 0 0 [.ref 21, .ref a1, iv p2, iv p3, iv p4] (mk w μ) (qV w [21006, 21007, 200004, 200006, 200007, 200008, 201999, 202999] μ (fun μ1 => True)) := by
  refine sC.of rfl (by decide) (le_t rfl) ?_
  refine mr_lvE (lv' := [(0, .ref 21), (1, .ref a1), (2, iv p2), (3, iv p3), (4, iv p4)]) rfl ?_
  obtain ⟨n_1, q2⟩ : ∃ n : Int, (w.2.2.1 a1 : Int) = n := ⟨_, rfl⟩
  have h3 : 0 ≤ n_1 ∧ n_1 ≤ 2000 := lnR (m := 2000) q2 hA1 rfl
  have h4 : p2 + 2 * p3 ≤ n_1 := lnLe q2 hlen
  refine mr_iconst (pc := 0) (z := 0) dX1_doActs_0 ?_
  refine mr_istore (pc := 1) (lv' := [(5, iv 0), (0, .ref 21), (1, .ref a1), (2, iv p2), (3, iv p3), (4, iv p4)]) dX1_doActs_1 (by decide) rfl ?_
  have L1991 : ∀ (nL1991 : Nat) (z1989 : Int) (μ1990 : mM), mT w μ1990 → mF [21006, 21007, 200004, 200006, 200007, 200008, 201999, 202999] w μ μ1990 → (0 ≤ z1989 ∧ z1989 ≤ 1000) → PC w μ1990 → RT μ1990 → (1001 - z1989) < (nL1991 : Int) → sV (gG l D c H0 sa) mX1_doActs (sRm 12 0 0) (sZ (gG l D c H0 sa) 0 0 (qV w [21006, 21007, 200004, 200006, 200007, 200008, 201999, 202999] μ (fun μ1 => True))) 3 [(0, .ref 21), (1, .ref a1), (2, iv p2), (3, iv p3), (4, iv p4), (5, iv z1989)] [] (mk w μ1990) 0 0 := by
    intro nL1991
    induction nL1991 with
    | zero => intro z1989 μ1990 T1993 F1994 h1992 I1996 I1997 h1998; exact ((vc_X1_doActs_12_1 h1998 h1992)).elim
    | succ nL1991 ih1999 =>
      intro z1989 μ1990 T1993 F1994 h1992 I1996 I1997 h1998
      refine mr_iload (pc := 3) (z := z1989) dX1_doActs_3 rfl ?_
      refine mr_iload_n (pc := 5) (z := p3) dX1_doActs_5 rfl rfl ?_
      refine mr_icmp_ge (pc := 6) (tgt := 266) dX1_doActs_6 (by decide) (r32 h1992 rfl) (r32 hp3 rfl) (fun h2000 => ?_) (fun h2000 => ?_)
      · exact mr_vret dX1_doActs_266 rfl (le_t rfl) (le_t rfl) T1993 (mF.call mF.refl F1994 rfl) trivial
      have h2001 : 0 ≤ z1989 ∧ z1989 ≤ 999 := (vc_X1_doActs_12_2 h2000 h4 h3 hp2 hp3 h1992)
      have h2002 : 1 ≤ p3 ∧ p3 ≤ 1000 := (vc_X1_doActs_12_3 h2000 h4 h3 hp2 hp3 h2001)
      refine sv_aload_n (pc := 9) dX1_doActs_9 rfl rfl ?_
      refine gf_X1_7 (pc := 10) dX1_doActs_10 wF_X1_50 (A_21 hw) T1993 fun z2003 q2004 h2005 => ?_
      refine mr_if_ne (pc := 13) (tgt := 266) dX1_doActs_13 (by decide) (r32 h2005 rfl) (fun h2006 => ?_) (fun h2006 => ?_)
      · have h2007 : 1 ≤ z2003 ∧ z2003 ≤ 2 := (vc_X12_provides_3 h2006 h2005)
        exact mr_vret dX1_doActs_266 rfl (le_t rfl) (le_t rfl) T1993 (mF.call mF.refl F1994 rfl) trivial
      have h2008 : 0 ≤ z2003 ∧ z2003 ≤ 0 := (vc_X12_provides_4 h2006 h2005)
      refine sv_aload_n (pc := 16) dX1_doActs_16 rfl rfl ?_
      refine mr_iload_n (pc := 17) (z := p2) dX1_doActs_17 rfl rfl ?_
      refine mr_iload (pc := 18) (z := z1989) dX1_doActs_18 rfl ?_
      refine mr_iconst (pc := 20) (z := 2) dX1_doActs_20 ?_
      refine mr_imul (pc := 21) (x := z1989) (y := 2) dX1_doActs_21 ?_
      refine mr_iadd (pc := 22) (x := p2) (y := (z1989 * 2)) dX1_doActs_22 ?_
      refine mr_iconst (pc := 23) (z := 1) dX1_doActs_23 ?_
      refine mr_iadd (pc := 24) (x := (p2 + (z1989 * 2))) (y := 1) dX1_doActs_24 ?_
      refine la_231 (pc := 25) dX1_doActs_25 hA1 T1993 (lnC q2 (vc_X1_doActs_12_6 h4 h2000 h3 hp2 h2002 h2001)) fun z2009 q2010 h2011 => ?_
      have h2012 : 0 ≤ z2009 ∧ z2009 ≤ 1000000 := argB harg (vc_X1_doActs_12_7 h2000 h4 h3 hp2 h2002 h2001) (vc_X1_doActs_12_8 h4 h2000 h3 hp2 h2002 h2001) (vc_X1_doActs_12_9 h4 h2000 h3 hp2 h2002 h2001) (((mF.call mF.refl F1994 rfl) : mF [21006, 21007, 200004, 200006, 200007, 200008, 201999, 202999] w μ μ1990).f hA1 rfl rfl) q2010
      refine mr_istore (pc := 26) (lv' := [(6, iv z2009), (0, .ref 21), (1, .ref a1), (2, iv p2), (3, iv p3), (4, iv p4), (5, iv z1989)]) dX1_doActs_26 (by decide) rfl ?_
      refine sv_aload_n (pc := 28) dX1_doActs_28 rfl rfl ?_
      refine gf_X1_6 (pc := 29) dX1_doActs_29 wF_X1_47 (A_21 hw) T1993 fun z2013 q2014 h2015 => ?_
      refine mr_sipush (pc := 32) (z := 500) dX1_doActs_32 (by decide) ?_
      refine mr_icmp_lt (pc := 35) (tgt := 44) dX1_doActs_35 (by decide) (r32 h2015 rfl) (r32 (rR (x := 500)) rfl) (fun h2016 => ?_) (fun h2016 => ?_)
      · have h2017 : 0 ≤ z2013 ∧ z2013 ≤ 499 := (vc_X1_doActs_12_10 h2016 h2015)
        refine sv_aload_n (pc := 44) dX1_doActs_44 rfl rfl ?_
        refine sv_dup (pc := 45) dX1_doActs_45 rfl ?_
        refine gk_X1_6 (pc := 46) dX1_doActs_46 wF_X1_47 (A_21 hw) q2014 ?_
        refine mr_iconst (pc := 49) (z := 1) dX1_doActs_49 ?_
        refine mr_iadd (pc := 50) (x := z2013) (y := 1) dX1_doActs_50 ?_
        refine pf_X1_6 (pc := 51) dX1_doActs_51 wF_X1_47 (A_21 hw) T1993 (rW (c := 0) (d := 500) (rAdd (e := 1) (f := 500) h2017 (rR (x := 1)) rfl) rfl) fun μ2018 u2019 T2020 => ?_
        refine sv_aload_n (pc := 54) dX1_doActs_54 rfl rfl ?_
        refine mr_iload_n (pc := 55) (z := p2) dX1_doActs_55 rfl rfl ?_
        refine mr_iload (pc := 56) (z := z1989) dX1_doActs_56 rfl ?_
        refine mr_iconst (pc := 58) (z := 2) dX1_doActs_58 ?_
        refine mr_imul (pc := 59) (x := z1989) (y := 2) dX1_doActs_59 ?_
        refine mr_iadd (pc := 60) (x := p2) (y := (z1989 * 2)) dX1_doActs_60 ?_
        refine la_231 (pc := 61) dX1_doActs_61 hA1 T2020 (lnC q2 (vc_X1_doActs_12_11 h4 h2000 h3 hp2 h2002 h2001)) fun z2021 q2022 h2023 => ?_
        by_cases h2024 : z2021 = 12
        · refine mr_tableIn (pc := 62) (v := 12) (tgt := 184) dX1_doActs_62 h2024 rfl rfl (by decide) ?_
          have h2025 : 12 ≤ z2021 ∧ z2021 ≤ 12 := (vc_X1_doActs_12_12 h2024 h2023)
          refine sv_aload_n (pc := 184) dX1_doActs_184 rfl rfl ?_
          refine gf_X1_2 (pc := 185) dX1_doActs_185 wF_X1_25 (A_21 hw) T2020 (RT.keep I1997 hw ((mF.up mF.refl (A_21 hw) u2019 rfl) : mF [21006] w μ1990 μ2018) rfl) fun b2026 q2027 A2028 => ?_
          refine mr_iload (pc := 188) (z := z2009) dX1_doActs_188 rfl ?_
          refine pf_X7_4 (pc := 190) dX1_doActs_190 wF_X1_105 A2028 T2020 (rW (c := (-2147483648)) (d := 2147483647) h2012 rfl) fun μ2029 u2030 T2031 => ?_
          refine sv_goto (pc := 193) (tgt := 260) dX1_doActs_193 (by decide) ?_
          refine mr_iinc (pc := 260) (lv' := [(5, iv (z1989 + 1)), (6, iv z2009), (0, .ref 21), (1, .ref a1), (2, iv p2), (3, iv p3), (4, iv p4)]) dX1_doActs_260 rfl (by decide) rfl ?_
          refine sv_goto (pc := 263) (tgt := 3) dX1_doActs_263 (by decide) ?_
          refine mr_lvS (lv' := [(0, .ref 21), (1, .ref a1), (2, iv p2), (3, iv p3), (4, iv p4), (5, iv (z1989 + 1))]) (List.forall_mem_cons.mpr ⟨rfl, List.forall_mem_cons.mpr ⟨rfl, List.forall_mem_cons.mpr ⟨rfl, List.forall_mem_cons.mpr ⟨rfl, List.forall_mem_cons.mpr ⟨rfl, List.forall_mem_cons.mpr ⟨rfl, fun _ h => absurd h List.not_mem_nil⟩⟩⟩⟩⟩⟩) ?_
          exact ih1999 (z1989 + 1) μ2029 T2031 (mF.up (mF.up (mF.call mF.refl F1994 rfl) (A_21 hw) u2019 rfl) A2028 u2030 rfl) (rW (c := 0) (d := 1000) (rAdd (e := 1) (f := 1000) h2001 (rR (x := 1)) rfl) rfl) (PC.keep I1996 hw ((mF.up (mF.up mF.refl (A_21 hw) u2019 rfl) A2028 u2030 rfl) : mF [21006, 200004] w μ1990 μ2029) rfl) (RT.keep I1997 hw ((mF.up (mF.up mF.refl (A_21 hw) u2019 rfl) A2028 u2030 rfl) : mF [21006, 200004] w μ1990 μ2029) rfl) (vc_X1_doActs_12_13 (nS h1998) h2000 h4 h3 hp2 h2002 h2001)
        by_cases h2032 : z2021 = 13
        · refine mr_tableIn (pc := 62) (v := 13) (tgt := 196) dX1_doActs_62 h2032 rfl rfl (by decide) ?_
          have h2033 : 13 ≤ z2021 ∧ z2021 ≤ 13 := (vc_X1_doActs_12_14 h2032 h2024 h2023)
          refine sv_aload_n (pc := 196) dX1_doActs_196 rfl rfl ?_
          refine gf_X1_2 (pc := 197) dX1_doActs_197 wF_X1_25 (A_21 hw) T2020 (RT.keep I1997 hw ((mF.up mF.refl (A_21 hw) u2019 rfl) : mF [21006] w μ1990 μ2018) rfl) fun b2034 q2035 A2036 => ?_
          refine mr_iload (pc := 200) (z := z2009) dX1_doActs_200 rfl ?_
          refine pf_X7_6 (pc := 202) dX1_doActs_202 wF_X1_108 A2036 T2020 (rW (c := (-2147483648)) (d := 2147483647) h2012 rfl) fun μ2037 u2038 T2039 => ?_
          refine sv_goto (pc := 205) (tgt := 260) dX1_doActs_205 (by decide) ?_
          refine mr_iinc (pc := 260) (lv' := [(5, iv (z1989 + 1)), (6, iv z2009), (0, .ref 21), (1, .ref a1), (2, iv p2), (3, iv p3), (4, iv p4)]) dX1_doActs_260 rfl (by decide) rfl ?_
          refine sv_goto (pc := 263) (tgt := 3) dX1_doActs_263 (by decide) ?_
          refine mr_lvS (lv' := [(0, .ref 21), (1, .ref a1), (2, iv p2), (3, iv p3), (4, iv p4), (5, iv (z1989 + 1))]) (List.forall_mem_cons.mpr ⟨rfl, List.forall_mem_cons.mpr ⟨rfl, List.forall_mem_cons.mpr ⟨rfl, List.forall_mem_cons.mpr ⟨rfl, List.forall_mem_cons.mpr ⟨rfl, List.forall_mem_cons.mpr ⟨rfl, fun _ h => absurd h List.not_mem_nil⟩⟩⟩⟩⟩⟩) ?_
          exact ih1999 (z1989 + 1) μ2037 T2039 (mF.up (mF.up (mF.call mF.refl F1994 rfl) (A_21 hw) u2019 rfl) A2036 u2038 rfl) (rW (c := 0) (d := 1000) (rAdd (e := 1) (f := 1000) h2001 (rR (x := 1)) rfl) rfl) (PC.keep I1996 hw ((mF.up (mF.up mF.refl (A_21 hw) u2019 rfl) A2036 u2038 rfl) : mF [21006, 200006] w μ1990 μ2037) rfl) (RT.keep I1997 hw ((mF.up (mF.up mF.refl (A_21 hw) u2019 rfl) A2036 u2038 rfl) : mF [21006, 200006] w μ1990 μ2037) rfl) (vc_X1_doActs_12_13 (nS h1998) h2000 h4 h3 hp2 h2002 h2001)
        by_cases h2040 : z2021 = 14
        · refine mr_tableIn (pc := 62) (v := 14) (tgt := 260) dX1_doActs_62 h2040 rfl rfl (by decide) ?_
          have h2041 : 14 ≤ z2021 ∧ z2021 ≤ 14 := (vc_X1_doActs_12_15 h2040 h2024 h2032 h2023)
          refine mr_iinc (pc := 260) (lv' := [(5, iv (z1989 + 1)), (6, iv z2009), (0, .ref 21), (1, .ref a1), (2, iv p2), (3, iv p3), (4, iv p4)]) dX1_doActs_260 rfl (by decide) rfl ?_
          refine sv_goto (pc := 263) (tgt := 3) dX1_doActs_263 (by decide) ?_
          refine mr_lvS (lv' := [(0, .ref 21), (1, .ref a1), (2, iv p2), (3, iv p3), (4, iv p4), (5, iv (z1989 + 1))]) (List.forall_mem_cons.mpr ⟨rfl, List.forall_mem_cons.mpr ⟨rfl, List.forall_mem_cons.mpr ⟨rfl, List.forall_mem_cons.mpr ⟨rfl, List.forall_mem_cons.mpr ⟨rfl, List.forall_mem_cons.mpr ⟨rfl, fun _ h => absurd h List.not_mem_nil⟩⟩⟩⟩⟩⟩) ?_
          exact ih1999 (z1989 + 1) μ2018 T2020 (mF.up (mF.call mF.refl F1994 rfl) (A_21 hw) u2019 rfl) (rW (c := 0) (d := 1000) (rAdd (e := 1) (f := 1000) h2001 (rR (x := 1)) rfl) rfl) (PC.keep I1996 hw ((mF.up mF.refl (A_21 hw) u2019 rfl) : mF [21006] w μ1990 μ2018) rfl) (RT.keep I1997 hw ((mF.up mF.refl (A_21 hw) u2019 rfl) : mF [21006] w μ1990 μ2018) rfl) (vc_X1_doActs_12_13 (nS h1998) h2000 h4 h3 hp2 h2002 h2001)
        by_cases h2042 : z2021 = 15
        · refine mr_tableIn (pc := 62) (v := 15) (tgt := 260) dX1_doActs_62 h2042 rfl rfl (by decide) ?_
          have h2043 : 15 ≤ z2021 ∧ z2021 ≤ 15 := (vc_X1_doActs_12_16 h2042 h2024 h2032 h2040 h2023)
          refine mr_iinc (pc := 260) (lv' := [(5, iv (z1989 + 1)), (6, iv z2009), (0, .ref 21), (1, .ref a1), (2, iv p2), (3, iv p3), (4, iv p4)]) dX1_doActs_260 rfl (by decide) rfl ?_
          refine sv_goto (pc := 263) (tgt := 3) dX1_doActs_263 (by decide) ?_
          refine mr_lvS (lv' := [(0, .ref 21), (1, .ref a1), (2, iv p2), (3, iv p3), (4, iv p4), (5, iv (z1989 + 1))]) (List.forall_mem_cons.mpr ⟨rfl, List.forall_mem_cons.mpr ⟨rfl, List.forall_mem_cons.mpr ⟨rfl, List.forall_mem_cons.mpr ⟨rfl, List.forall_mem_cons.mpr ⟨rfl, List.forall_mem_cons.mpr ⟨rfl, fun _ h => absurd h List.not_mem_nil⟩⟩⟩⟩⟩⟩) ?_
          exact ih1999 (z1989 + 1) μ2018 T2020 (mF.up (mF.call mF.refl F1994 rfl) (A_21 hw) u2019 rfl) (rW (c := 0) (d := 1000) (rAdd (e := 1) (f := 1000) h2001 (rR (x := 1)) rfl) rfl) (PC.keep I1996 hw ((mF.up mF.refl (A_21 hw) u2019 rfl) : mF [21006] w μ1990 μ2018) rfl) (RT.keep I1997 hw ((mF.up mF.refl (A_21 hw) u2019 rfl) : mF [21006] w μ1990 μ2018) rfl) (vc_X1_doActs_12_13 (nS h1998) h2000 h4 h3 hp2 h2002 h2001)
        by_cases h2044 : z2021 = 16
        · refine mr_tableIn (pc := 62) (v := 16) (tgt := 260) dX1_doActs_62 h2044 rfl rfl (by decide) ?_
          have h2045 : 16 ≤ z2021 ∧ z2021 ≤ 16 := (vc_X1_doActs_12_17 h2044 h2024 h2032 h2040 h2042 h2023)
          refine mr_iinc (pc := 260) (lv' := [(5, iv (z1989 + 1)), (6, iv z2009), (0, .ref 21), (1, .ref a1), (2, iv p2), (3, iv p3), (4, iv p4)]) dX1_doActs_260 rfl (by decide) rfl ?_
          refine sv_goto (pc := 263) (tgt := 3) dX1_doActs_263 (by decide) ?_
          refine mr_lvS (lv' := [(0, .ref 21), (1, .ref a1), (2, iv p2), (3, iv p3), (4, iv p4), (5, iv (z1989 + 1))]) (List.forall_mem_cons.mpr ⟨rfl, List.forall_mem_cons.mpr ⟨rfl, List.forall_mem_cons.mpr ⟨rfl, List.forall_mem_cons.mpr ⟨rfl, List.forall_mem_cons.mpr ⟨rfl, List.forall_mem_cons.mpr ⟨rfl, fun _ h => absurd h List.not_mem_nil⟩⟩⟩⟩⟩⟩) ?_
          exact ih1999 (z1989 + 1) μ2018 T2020 (mF.up (mF.call mF.refl F1994 rfl) (A_21 hw) u2019 rfl) (rW (c := 0) (d := 1000) (rAdd (e := 1) (f := 1000) h2001 (rR (x := 1)) rfl) rfl) (PC.keep I1996 hw ((mF.up mF.refl (A_21 hw) u2019 rfl) : mF [21006] w μ1990 μ2018) rfl) (RT.keep I1997 hw ((mF.up mF.refl (A_21 hw) u2019 rfl) : mF [21006] w μ1990 μ2018) rfl) (vc_X1_doActs_12_13 (nS h1998) h2000 h4 h3 hp2 h2002 h2001)
        by_cases h2046 : z2021 = 17
        · refine mr_tableIn (pc := 62) (v := 17) (tgt := 260) dX1_doActs_62 h2046 rfl rfl (by decide) ?_
          have h2047 : 17 ≤ z2021 ∧ z2021 ≤ 17 := (vc_X1_doActs_12_18 h2046 h2024 h2032 h2040 h2042 h2044 h2023)
          refine mr_iinc (pc := 260) (lv' := [(5, iv (z1989 + 1)), (6, iv z2009), (0, .ref 21), (1, .ref a1), (2, iv p2), (3, iv p3), (4, iv p4)]) dX1_doActs_260 rfl (by decide) rfl ?_
          refine sv_goto (pc := 263) (tgt := 3) dX1_doActs_263 (by decide) ?_
          refine mr_lvS (lv' := [(0, .ref 21), (1, .ref a1), (2, iv p2), (3, iv p3), (4, iv p4), (5, iv (z1989 + 1))]) (List.forall_mem_cons.mpr ⟨rfl, List.forall_mem_cons.mpr ⟨rfl, List.forall_mem_cons.mpr ⟨rfl, List.forall_mem_cons.mpr ⟨rfl, List.forall_mem_cons.mpr ⟨rfl, List.forall_mem_cons.mpr ⟨rfl, fun _ h => absurd h List.not_mem_nil⟩⟩⟩⟩⟩⟩) ?_
          exact ih1999 (z1989 + 1) μ2018 T2020 (mF.up (mF.call mF.refl F1994 rfl) (A_21 hw) u2019 rfl) (rW (c := 0) (d := 1000) (rAdd (e := 1) (f := 1000) h2001 (rR (x := 1)) rfl) rfl) (PC.keep I1996 hw ((mF.up mF.refl (A_21 hw) u2019 rfl) : mF [21006] w μ1990 μ2018) rfl) (RT.keep I1997 hw ((mF.up mF.refl (A_21 hw) u2019 rfl) : mF [21006] w μ1990 μ2018) rfl) (vc_X1_doActs_12_13 (nS h1998) h2000 h4 h3 hp2 h2002 h2001)
        by_cases h2048 : z2021 = 18
        · refine mr_tableIn (pc := 62) (v := 18) (tgt := 260) dX1_doActs_62 h2048 rfl rfl (by decide) ?_
          have h2049 : 18 ≤ z2021 ∧ z2021 ≤ 18 := (vc_X1_doActs_12_19 h2048 h2024 h2032 h2040 h2042 h2044 h2046 h2023)
          refine mr_iinc (pc := 260) (lv' := [(5, iv (z1989 + 1)), (6, iv z2009), (0, .ref 21), (1, .ref a1), (2, iv p2), (3, iv p3), (4, iv p4)]) dX1_doActs_260 rfl (by decide) rfl ?_
          refine sv_goto (pc := 263) (tgt := 3) dX1_doActs_263 (by decide) ?_
          refine mr_lvS (lv' := [(0, .ref 21), (1, .ref a1), (2, iv p2), (3, iv p3), (4, iv p4), (5, iv (z1989 + 1))]) (List.forall_mem_cons.mpr ⟨rfl, List.forall_mem_cons.mpr ⟨rfl, List.forall_mem_cons.mpr ⟨rfl, List.forall_mem_cons.mpr ⟨rfl, List.forall_mem_cons.mpr ⟨rfl, List.forall_mem_cons.mpr ⟨rfl, fun _ h => absurd h List.not_mem_nil⟩⟩⟩⟩⟩⟩) ?_
          exact ih1999 (z1989 + 1) μ2018 T2020 (mF.up (mF.call mF.refl F1994 rfl) (A_21 hw) u2019 rfl) (rW (c := 0) (d := 1000) (rAdd (e := 1) (f := 1000) h2001 (rR (x := 1)) rfl) rfl) (PC.keep I1996 hw ((mF.up mF.refl (A_21 hw) u2019 rfl) : mF [21006] w μ1990 μ2018) rfl) (RT.keep I1997 hw ((mF.up mF.refl (A_21 hw) u2019 rfl) : mF [21006] w μ1990 μ2018) rfl) (vc_X1_doActs_12_13 (nS h1998) h2000 h4 h3 hp2 h2002 h2001)
        by_cases h2050 : z2021 = 19
        · refine mr_tableIn (pc := 62) (v := 19) (tgt := 260) dX1_doActs_62 h2050 rfl rfl (by decide) ?_
          have h2051 : 19 ≤ z2021 ∧ z2021 ≤ 19 := (vc_X1_doActs_12_20 h2050 h2024 h2032 h2040 h2042 h2044 h2046 h2048 h2023)
          refine mr_iinc (pc := 260) (lv' := [(5, iv (z1989 + 1)), (6, iv z2009), (0, .ref 21), (1, .ref a1), (2, iv p2), (3, iv p3), (4, iv p4)]) dX1_doActs_260 rfl (by decide) rfl ?_
          refine sv_goto (pc := 263) (tgt := 3) dX1_doActs_263 (by decide) ?_
          refine mr_lvS (lv' := [(0, .ref 21), (1, .ref a1), (2, iv p2), (3, iv p3), (4, iv p4), (5, iv (z1989 + 1))]) (List.forall_mem_cons.mpr ⟨rfl, List.forall_mem_cons.mpr ⟨rfl, List.forall_mem_cons.mpr ⟨rfl, List.forall_mem_cons.mpr ⟨rfl, List.forall_mem_cons.mpr ⟨rfl, List.forall_mem_cons.mpr ⟨rfl, fun _ h => absurd h List.not_mem_nil⟩⟩⟩⟩⟩⟩) ?_
          exact ih1999 (z1989 + 1) μ2018 T2020 (mF.up (mF.call mF.refl F1994 rfl) (A_21 hw) u2019 rfl) (rW (c := 0) (d := 1000) (rAdd (e := 1) (f := 1000) h2001 (rR (x := 1)) rfl) rfl) (PC.keep I1996 hw ((mF.up mF.refl (A_21 hw) u2019 rfl) : mF [21006] w μ1990 μ2018) rfl) (RT.keep I1997 hw ((mF.up mF.refl (A_21 hw) u2019 rfl) : mF [21006] w μ1990 μ2018) rfl) (vc_X1_doActs_12_13 (nS h1998) h2000 h4 h3 hp2 h2002 h2001)
        by_cases h2052 : z2021 = 20
        · refine mr_tableIn (pc := 62) (v := 20) (tgt := 260) dX1_doActs_62 h2052 rfl rfl (by decide) ?_
          have h2053 : 20 ≤ z2021 ∧ z2021 ≤ 20 := (vc_X1_doActs_12_21 h2052 h2032 h2040 h2042 h2044 h2046 h2048 h2050 h2023)
          refine mr_iinc (pc := 260) (lv' := [(5, iv (z1989 + 1)), (6, iv z2009), (0, .ref 21), (1, .ref a1), (2, iv p2), (3, iv p3), (4, iv p4)]) dX1_doActs_260 rfl (by decide) rfl ?_
          refine sv_goto (pc := 263) (tgt := 3) dX1_doActs_263 (by decide) ?_
          refine mr_lvS (lv' := [(0, .ref 21), (1, .ref a1), (2, iv p2), (3, iv p3), (4, iv p4), (5, iv (z1989 + 1))]) (List.forall_mem_cons.mpr ⟨rfl, List.forall_mem_cons.mpr ⟨rfl, List.forall_mem_cons.mpr ⟨rfl, List.forall_mem_cons.mpr ⟨rfl, List.forall_mem_cons.mpr ⟨rfl, List.forall_mem_cons.mpr ⟨rfl, fun _ h => absurd h List.not_mem_nil⟩⟩⟩⟩⟩⟩) ?_
          exact ih1999 (z1989 + 1) μ2018 T2020 (mF.up (mF.call mF.refl F1994 rfl) (A_21 hw) u2019 rfl) (rW (c := 0) (d := 1000) (rAdd (e := 1) (f := 1000) h2001 (rR (x := 1)) rfl) rfl) (PC.keep I1996 hw ((mF.up mF.refl (A_21 hw) u2019 rfl) : mF [21006] w μ1990 μ2018) rfl) (RT.keep I1997 hw ((mF.up mF.refl (A_21 hw) u2019 rfl) : mF [21006] w μ1990 μ2018) rfl) (vc_X1_doActs_12_13 (nS h1998) h2000 h4 h3 hp2 h2002 h2001)
        by_cases h2054 : z2021 = 21
        · refine mr_tableIn (pc := 62) (v := 21) (tgt := 260) dX1_doActs_62 h2054 rfl rfl (by decide) ?_
          have h2055 : 21 ≤ z2021 ∧ z2021 ≤ 21 := (vc_X1_doActs_12_22 h2054 h2040 h2042 h2044 h2046 h2048 h2050 h2052 h2023)
          refine mr_iinc (pc := 260) (lv' := [(5, iv (z1989 + 1)), (6, iv z2009), (0, .ref 21), (1, .ref a1), (2, iv p2), (3, iv p3), (4, iv p4)]) dX1_doActs_260 rfl (by decide) rfl ?_
          refine sv_goto (pc := 263) (tgt := 3) dX1_doActs_263 (by decide) ?_
          refine mr_lvS (lv' := [(0, .ref 21), (1, .ref a1), (2, iv p2), (3, iv p3), (4, iv p4), (5, iv (z1989 + 1))]) (List.forall_mem_cons.mpr ⟨rfl, List.forall_mem_cons.mpr ⟨rfl, List.forall_mem_cons.mpr ⟨rfl, List.forall_mem_cons.mpr ⟨rfl, List.forall_mem_cons.mpr ⟨rfl, List.forall_mem_cons.mpr ⟨rfl, fun _ h => absurd h List.not_mem_nil⟩⟩⟩⟩⟩⟩) ?_
          exact ih1999 (z1989 + 1) μ2018 T2020 (mF.up (mF.call mF.refl F1994 rfl) (A_21 hw) u2019 rfl) (rW (c := 0) (d := 1000) (rAdd (e := 1) (f := 1000) h2001 (rR (x := 1)) rfl) rfl) (PC.keep I1996 hw ((mF.up mF.refl (A_21 hw) u2019 rfl) : mF [21006] w μ1990 μ2018) rfl) (RT.keep I1997 hw ((mF.up mF.refl (A_21 hw) u2019 rfl) : mF [21006] w μ1990 μ2018) rfl) (vc_X1_doActs_12_13 (nS h1998) h2000 h4 h3 hp2 h2002 h2001)
        by_cases h2056 : z2021 = 22
        · refine mr_tableIn (pc := 62) (v := 22) (tgt := 260) dX1_doActs_62 h2056 rfl rfl (by decide) ?_
          have h2057 : 22 ≤ z2021 ∧ z2021 ≤ 22 := (vc_X1_doActs_12_23 h2056 h2042 h2044 h2046 h2048 h2050 h2052 h2054 h2023)
          refine mr_iinc (pc := 260) (lv' := [(5, iv (z1989 + 1)), (6, iv z2009), (0, .ref 21), (1, .ref a1), (2, iv p2), (3, iv p3), (4, iv p4)]) dX1_doActs_260 rfl (by decide) rfl ?_
          refine sv_goto (pc := 263) (tgt := 3) dX1_doActs_263 (by decide) ?_
          refine mr_lvS (lv' := [(0, .ref 21), (1, .ref a1), (2, iv p2), (3, iv p3), (4, iv p4), (5, iv (z1989 + 1))]) (List.forall_mem_cons.mpr ⟨rfl, List.forall_mem_cons.mpr ⟨rfl, List.forall_mem_cons.mpr ⟨rfl, List.forall_mem_cons.mpr ⟨rfl, List.forall_mem_cons.mpr ⟨rfl, List.forall_mem_cons.mpr ⟨rfl, fun _ h => absurd h List.not_mem_nil⟩⟩⟩⟩⟩⟩) ?_
          exact ih1999 (z1989 + 1) μ2018 T2020 (mF.up (mF.call mF.refl F1994 rfl) (A_21 hw) u2019 rfl) (rW (c := 0) (d := 1000) (rAdd (e := 1) (f := 1000) h2001 (rR (x := 1)) rfl) rfl) (PC.keep I1996 hw ((mF.up mF.refl (A_21 hw) u2019 rfl) : mF [21006] w μ1990 μ2018) rfl) (RT.keep I1997 hw ((mF.up mF.refl (A_21 hw) u2019 rfl) : mF [21006] w μ1990 μ2018) rfl) (vc_X1_doActs_12_13 (nS h1998) h2000 h4 h3 hp2 h2002 h2001)
        by_cases h2058 : z2021 = 23
        · refine mr_tableIn (pc := 62) (v := 23) (tgt := 144) dX1_doActs_62 h2058 rfl rfl (by decide) ?_
          have h2059 : 23 ≤ z2021 ∧ z2021 ≤ 23 := (vc_X1_doActs_12_24 h2058 h2044 h2046 h2048 h2050 h2052 h2054 h2056 h2023)
          refine sv_aload_n (pc := 144) dX1_doActs_144 rfl rfl ?_
          refine mr_iconst (pc := 145) (z := 1) dX1_doActs_145 ?_
          refine pf_X1_7 (pc := 146) dX1_doActs_146 wF_X1_50 (A_21 hw) T2020 (rW (c := 0) (d := 2) (rR (x := 1)) rfl) fun μ2060 u2061 T2062 => ?_
          refine sv_goto (pc := 149) (tgt := 260) dX1_doActs_149 (by decide) ?_
          refine mr_iinc (pc := 260) (lv' := [(5, iv (z1989 + 1)), (6, iv z2009), (0, .ref 21), (1, .ref a1), (2, iv p2), (3, iv p3), (4, iv p4)]) dX1_doActs_260 rfl (by decide) rfl ?_
          refine sv_goto (pc := 263) (tgt := 3) dX1_doActs_263 (by decide) ?_
          refine mr_lvS (lv' := [(0, .ref 21), (1, .ref a1), (2, iv p2), (3, iv p3), (4, iv p4), (5, iv (z1989 + 1))]) (List.forall_mem_cons.mpr ⟨rfl, List.forall_mem_cons.mpr ⟨rfl, List.forall_mem_cons.mpr ⟨rfl, List.forall_mem_cons.mpr ⟨rfl, List.forall_mem_cons.mpr ⟨rfl, List.forall_mem_cons.mpr ⟨rfl, fun _ h => absurd h List.not_mem_nil⟩⟩⟩⟩⟩⟩) ?_
          exact ih1999 (z1989 + 1) μ2060 T2062 (mF.up (mF.up (mF.call mF.refl F1994 rfl) (A_21 hw) u2019 rfl) (A_21 hw) u2061 rfl) (rW (c := 0) (d := 1000) (rAdd (e := 1) (f := 1000) h2001 (rR (x := 1)) rfl) rfl) (PC.keep I1996 hw ((mF.up (mF.up mF.refl (A_21 hw) u2019 rfl) (A_21 hw) u2061 rfl) : mF [21006, 21007] w μ1990 μ2060) rfl) (RT.keep I1997 hw ((mF.up (mF.up mF.refl (A_21 hw) u2019 rfl) (A_21 hw) u2061 rfl) : mF [21006, 21007] w μ1990 μ2060) rfl) (vc_X1_doActs_12_13 (nS h1998) h2000 h4 h3 hp2 h2002 h2001)
        by_cases h2063 : z2021 = 24
        · refine mr_tableIn (pc := 62) (v := 24) (tgt := 152) dX1_doActs_62 h2063 rfl rfl (by decide) ?_
          have h2064 : 24 ≤ z2021 ∧ z2021 ≤ 24 := (vc_X1_doActs_12_25 h2063 h2046 h2048 h2050 h2052 h2054 h2056 h2058 h2023)
          refine sv_aload_n (pc := 152) dX1_doActs_152 rfl rfl ?_
          refine mr_iconst (pc := 153) (z := 2) dX1_doActs_153 ?_
          refine pf_X1_7 (pc := 154) dX1_doActs_154 wF_X1_50 (A_21 hw) T2020 (rW (c := 0) (d := 2) (rR (x := 2)) rfl) fun μ2065 u2066 T2067 => ?_
          refine sv_goto (pc := 157) (tgt := 260) dX1_doActs_157 (by decide) ?_
          refine mr_iinc (pc := 260) (lv' := [(5, iv (z1989 + 1)), (6, iv z2009), (0, .ref 21), (1, .ref a1), (2, iv p2), (3, iv p3), (4, iv p4)]) dX1_doActs_260 rfl (by decide) rfl ?_
          refine sv_goto (pc := 263) (tgt := 3) dX1_doActs_263 (by decide) ?_
          refine mr_lvS (lv' := [(0, .ref 21), (1, .ref a1), (2, iv p2), (3, iv p3), (4, iv p4), (5, iv (z1989 + 1))]) (List.forall_mem_cons.mpr ⟨rfl, List.forall_mem_cons.mpr ⟨rfl, List.forall_mem_cons.mpr ⟨rfl, List.forall_mem_cons.mpr ⟨rfl, List.forall_mem_cons.mpr ⟨rfl, List.forall_mem_cons.mpr ⟨rfl, fun _ h => absurd h List.not_mem_nil⟩⟩⟩⟩⟩⟩) ?_
          exact ih1999 (z1989 + 1) μ2065 T2067 (mF.up (mF.up (mF.call mF.refl F1994 rfl) (A_21 hw) u2019 rfl) (A_21 hw) u2066 rfl) (rW (c := 0) (d := 1000) (rAdd (e := 1) (f := 1000) h2001 (rR (x := 1)) rfl) rfl) (PC.keep I1996 hw ((mF.up (mF.up mF.refl (A_21 hw) u2019 rfl) (A_21 hw) u2066 rfl) : mF [21006, 21007] w μ1990 μ2065) rfl) (RT.keep I1997 hw ((mF.up (mF.up mF.refl (A_21 hw) u2019 rfl) (A_21 hw) u2066 rfl) : mF [21006, 21007] w μ1990 μ2065) rfl) (vc_X1_doActs_12_13 (nS h1998) h2000 h4 h3 hp2 h2002 h2001)
        by_cases h2068 : z2021 = 25
        · refine mr_tableIn (pc := 62) (v := 25) (tgt := 160) dX1_doActs_62 h2068 rfl rfl (by decide) ?_
          have h2069 : 25 ≤ z2021 ∧ z2021 ≤ 25 := (vc_X1_doActs_12_26 h2068 h2048 h2050 h2052 h2054 h2056 h2058 h2063 h2023)
          refine sv_aload_n (pc := 160) dX1_doActs_160 rfl rfl ?_
          refine gf_X1_2 (pc := 161) dX1_doActs_161 wF_X1_25 (A_21 hw) T2020 (RT.keep I1997 hw ((mF.up mF.refl (A_21 hw) u2019 rfl) : mF [21006] w μ1990 μ2018) rfl) fun b2070 q2071 A2072 => ?_
          refine mr_iload (pc := 164) (z := z2009) dX1_doActs_164 rfl ?_
          refine mr_cVV (pc := 166) (c_X7_addMark hw T2020 A2072 (rW (c := (-2147483648)) (d := 2147483647) h2012 rfl)) (gOk _ _ _ _ _) dX1_doActs_166 (tX7_addMark _ _ _ _ _) ⟨wV_X7_addMark, wL_X7_addMark⟩ wM_X1_124 (gCX7 _ _ _ _ _) rfl A2072 rfl ⟨le_t rfl, le_t rfl⟩ ⟨le_t rfl, le_t rfl⟩ rfl (le_t rfl) fun μ2073 T2074 F2075 h2076 => ?_
          refine sv_goto (pc := 169) (tgt := 260) dX1_doActs_169 (by decide) ?_
          refine mr_iinc (pc := 260) (lv' := [(5, iv (z1989 + 1)), (6, iv z2009), (0, .ref 21), (1, .ref a1), (2, iv p2), (3, iv p3), (4, iv p4)]) dX1_doActs_260 rfl (by decide) rfl ?_
          refine sv_goto (pc := 263) (tgt := 3) dX1_doActs_263 (by decide) ?_
          refine mr_lvS (lv' := [(0, .ref 21), (1, .ref a1), (2, iv p2), (3, iv p3), (4, iv p4), (5, iv (z1989 + 1))]) (List.forall_mem_cons.mpr ⟨rfl, List.forall_mem_cons.mpr ⟨rfl, List.forall_mem_cons.mpr ⟨rfl, List.forall_mem_cons.mpr ⟨rfl, List.forall_mem_cons.mpr ⟨rfl, List.forall_mem_cons.mpr ⟨rfl, fun _ h => absurd h List.not_mem_nil⟩⟩⟩⟩⟩⟩) ?_
          exact ih1999 (z1989 + 1) μ2073 T2074 (mF.call (mF.up (mF.call mF.refl F1994 rfl) (A_21 hw) u2019 rfl) F2075 rfl) (rW (c := 0) (d := 1000) (rAdd (e := 1) (f := 1000) h2001 (rR (x := 1)) rfl) rfl) (PC.keep I1996 hw ((mF.call (mF.up mF.refl (A_21 hw) u2019 rfl) F2075 rfl) : mF [21006, 200008, 202999] w μ1990 μ2073) rfl) (RT.keep I1997 hw ((mF.call (mF.up mF.refl (A_21 hw) u2019 rfl) F2075 rfl) : mF [21006, 200008, 202999] w μ1990 μ2073) rfl) (vc_X1_doActs_12_13 (nS h1998) h2000 h4 h3 hp2 h2002 h2001)
        by_cases h2077 : z2021 = 26
        · refine mr_tableIn (pc := 62) (v := 26) (tgt := 172) dX1_doActs_62 h2077 rfl rfl (by decide) ?_
          have h2078 : 26 ≤ z2021 ∧ z2021 ≤ 26 := (vc_X1_doActs_12_27 h2077 h2050 h2052 h2054 h2056 h2058 h2063 h2068 h2023)
          refine sv_aload_n (pc := 172) dX1_doActs_172 rfl rfl ?_
          refine gf_X1_2 (pc := 173) dX1_doActs_173 wF_X1_25 (A_21 hw) T2020 (RT.keep I1997 hw ((mF.up mF.refl (A_21 hw) u2019 rfl) : mF [21006] w μ1990 μ2018) rfl) fun b2079 q2080 A2081 => ?_
          refine mr_iload (pc := 176) (z := z2009) dX1_doActs_176 rfl ?_
          refine mr_cVV (pc := 178) (c_X7_dropMark hw T2020 A2081 (rW (c := (-2147483648)) (d := 2147483647) h2012 rfl)) (gOk _ _ _ _ _) dX1_doActs_178 (tX7_dropMark _ _ _ _ _) ⟨wV_X7_dropMark, wL_X7_dropMark⟩ wM_X1_128 (gCX7 _ _ _ _ _) rfl A2081 rfl ⟨le_t rfl, le_t rfl⟩ ⟨le_t rfl, le_t rfl⟩ rfl (le_t rfl) fun μ2082 T2083 F2084 h2085 => ?_
          refine sv_goto (pc := 181) (tgt := 260) dX1_doActs_181 (by decide) ?_
          refine mr_iinc (pc := 260) (lv' := [(5, iv (z1989 + 1)), (6, iv z2009), (0, .ref 21), (1, .ref a1), (2, iv p2), (3, iv p3), (4, iv p4)]) dX1_doActs_260 rfl (by decide) rfl ?_
          refine sv_goto (pc := 263) (tgt := 3) dX1_doActs_263 (by decide) ?_
          refine mr_lvS (lv' := [(0, .ref 21), (1, .ref a1), (2, iv p2), (3, iv p3), (4, iv p4), (5, iv (z1989 + 1))]) (List.forall_mem_cons.mpr ⟨rfl, List.forall_mem_cons.mpr ⟨rfl, List.forall_mem_cons.mpr ⟨rfl, List.forall_mem_cons.mpr ⟨rfl, List.forall_mem_cons.mpr ⟨rfl, List.forall_mem_cons.mpr ⟨rfl, fun _ h => absurd h List.not_mem_nil⟩⟩⟩⟩⟩⟩) ?_
          exact ih1999 (z1989 + 1) μ2082 T2083 (mF.call (mF.up (mF.call mF.refl F1994 rfl) (A_21 hw) u2019 rfl) F2084 rfl) (rW (c := 0) (d := 1000) (rAdd (e := 1) (f := 1000) h2001 (rR (x := 1)) rfl) rfl) (PC.keep I1996 hw ((mF.call (mF.up mF.refl (A_21 hw) u2019 rfl) F2084 rfl) : mF [21006, 200008, 202999] w μ1990 μ2082) rfl) (RT.keep I1997 hw ((mF.call (mF.up mF.refl (A_21 hw) u2019 rfl) F2084 rfl) : mF [21006, 200008, 202999] w μ1990 μ2082) rfl) (vc_X1_doActs_12_13 (nS h1998) h2000 h4 h3 hp2 h2002 h2001)
        by_cases h2086 : z2021 = 27
        · refine mr_tableIn (pc := 62) (v := 27) (tgt := 208) dX1_doActs_62 h2086 rfl rfl (by decide) ?_
          have h2087 : 27 ≤ z2021 ∧ z2021 ≤ 27 := (vc_X1_doActs_12_28 h2086 h2052 h2054 h2056 h2058 h2063 h2068 h2077 h2023)
          refine sv_aload_n (pc := 208) dX1_doActs_208 rfl rfl ?_
          refine gf_X1_2 (pc := 209) dX1_doActs_209 wF_X1_25 (A_21 hw) T2020 (RT.keep I1997 hw ((mF.up mF.refl (A_21 hw) u2019 rfl) : mF [21006] w μ1990 μ2018) rfl) fun b2088 q2089 A2090 => ?_
          refine gf_X7_7 (pc := 212) dX1_doActs_212 wF_X1_96 A2090 T2020 fun z2091 q2092 h2093 => ?_
          have J2116 : ∀ (μ2110 : mM), (mT w μ2110) → (mF [21007, 200007, 201999] w μ2018 μ2110) → (PC w μ2110) → (RT μ2110) → sV (gG l D c H0 sa) mX1_doActs (sRm 12 0 0) (sZ (gG l D c H0 sa) 0 0 (qV w [21006, 21007, 200004, 200006, 200007, 200008, 201999, 202999] μ (fun μ1 => True))) 260 [(0, .ref 21), (1, .ref a1), (2, iv p2), (3, iv p3), (4, iv p4), (5, iv z1989)] [] (mk w μ2110) 0 0 := by
            intro μ2110 T2111 F2112 I2114 I2115
            refine mr_iinc (pc := 260) (lv' := [(5, iv (z1989 + 1)), (0, .ref 21), (1, .ref a1), (2, iv p2), (3, iv p3), (4, iv p4)]) dX1_doActs_260 rfl (by decide) rfl ?_
            refine sv_goto (pc := 263) (tgt := 3) dX1_doActs_263 (by decide) ?_
            refine mr_lvS (lv' := [(0, .ref 21), (1, .ref a1), (2, iv p2), (3, iv p3), (4, iv p4), (5, iv (z1989 + 1))]) (List.forall_mem_cons.mpr ⟨rfl, List.forall_mem_cons.mpr ⟨rfl, List.forall_mem_cons.mpr ⟨rfl, List.forall_mem_cons.mpr ⟨rfl, List.forall_mem_cons.mpr ⟨rfl, List.forall_mem_cons.mpr ⟨rfl, fun _ h => absurd h List.not_mem_nil⟩⟩⟩⟩⟩⟩) ?_
            exact ih1999 (z1989 + 1) μ2110 T2111 (mF.call (mF.up (mF.call mF.refl F1994 rfl) (A_21 hw) u2019 rfl) F2112 rfl) (rW (c := 0) (d := 1000) (rAdd (e := 1) (f := 1000) h2001 (rR (x := 1)) rfl) rfl) I2114 I2115 (vc_X1_doActs_12_13 (nS h1998) h2000 h4 h3 hp2 h2002 h2001)
          refine mr_if_le (pc := 215) (tgt := 260) dX1_doActs_215 (by decide) (r32 h2093 rfl) (fun h2117 => ?_) (fun h2117 => ?_)
          · have h2118 : 0 ≤ z2091 ∧ z2091 ≤ 0 := (vc_X12_unlike_21 h2117 h2093)
            refine mr_lvS (lv' := [(0, .ref 21), (1, .ref a1), (2, iv p2), (3, iv p3), (4, iv p4), (5, iv z1989)]) (List.forall_mem_cons.mpr ⟨rfl, List.forall_mem_cons.mpr ⟨rfl, List.forall_mem_cons.mpr ⟨rfl, List.forall_mem_cons.mpr ⟨rfl, List.forall_mem_cons.mpr ⟨rfl, List.forall_mem_cons.mpr ⟨rfl, fun _ h => absurd h List.not_mem_nil⟩⟩⟩⟩⟩⟩) ?_
            exact J2116 μ2018 T2020 mF.refl (PC.keep I1996 hw ((mF.up mF.refl (A_21 hw) u2019 rfl) : mF [21006] w μ1990 μ2018) rfl) (RT.keep I1997 hw ((mF.up mF.refl (A_21 hw) u2019 rfl) : mF [21006] w μ1990 μ2018) rfl)
          have h2119 : 1 ≤ z2091 ∧ z2091 ≤ 20 := (vc_X12_unlike_22 h2117 h2093)
          refine sv_aload_n (pc := 218) dX1_doActs_218 rfl rfl ?_
          refine gk_X1_2 (pc := 219) dX1_doActs_219 wF_X1_25 (A_21 hw) q2089 ?_
          refine sv_aload_n (pc := 222) dX1_doActs_222 rfl rfl ?_
          refine gk_X1_2 (pc := 223) dX1_doActs_223 wF_X1_25 (A_21 hw) q2089 ?_
          refine gf_X7_0 (pc := 226) dX1_doActs_226 wF_X1_114 A2090 T2020 fun A2120 => ?_
          refine mr_iconst (pc := 229) (z := 0) dX1_doActs_229 ?_
          refine la_201 (pc := 230) dX1_doActs_230 A2120 T2020 (rIx (n := 20) (rR (x := 0)) rfl) fun z2121 q2122 h2123 => ?_
          refine mr_iload (pc := 231) (z := z2009) dX1_doActs_231 rfl ?_
          refine mr_cVI (pc := 233) (c_X7_putInFront hw T2020 A2090 h2123 (rW (c := (-2147483648)) (d := 1000000) h2012 rfl)) (gOk _ _ _ _ _) dX1_doActs_233 (tX7_putInFront _ _ _ _ _) ⟨wV_X7_putInFront, wL_X7_putInFront⟩ wM_X1_131 (gCX7 _ _ _ _ _) rfl A2090 rfl ⟨le_t rfl, le_t rfl⟩ ⟨le_t rfl, le_t rfl⟩ rfl (le_t rfl) fun z2128 μ2124 T2125 F2126 h2127 => ?_
          refine mr_if_ne (pc := 236) (tgt := 260) dX1_doActs_236 (by decide) (r32 h2127.1 rfl) (fun h2129 => ?_) (fun h2129 => ?_)
          · have h2130 : 1 ≤ z2128 ∧ z2128 ≤ 1 := (vc_X12_ring_24 h2129 h2127.1)
            refine mr_lvS (lv' := [(0, .ref 21), (1, .ref a1), (2, iv p2), (3, iv p3), (4, iv p4), (5, iv z1989)]) (List.forall_mem_cons.mpr ⟨rfl, List.forall_mem_cons.mpr ⟨rfl, List.forall_mem_cons.mpr ⟨rfl, List.forall_mem_cons.mpr ⟨rfl, List.forall_mem_cons.mpr ⟨rfl, List.forall_mem_cons.mpr ⟨rfl, fun _ h => absurd h List.not_mem_nil⟩⟩⟩⟩⟩⟩) ?_
            exact J2116 μ2124 T2125 (mF.call mF.refl F2126 rfl) (PC.keep I1996 hw ((mF.call (mF.up mF.refl (A_21 hw) u2019 rfl) F2126 rfl) : mF [21006, 200007, 201999] w μ1990 μ2124) rfl) (RT.keep I1997 hw ((mF.call (mF.up mF.refl (A_21 hw) u2019 rfl) F2126 rfl) : mF [21006, 200007, 201999] w μ1990 μ2124) rfl)
          have h2131 : 0 ≤ z2128 ∧ z2128 ≤ 0 := (vc_X12_ring_22 h2129 h2127.1)
          refine sv_aload_n (pc := 239) dX1_doActs_239 rfl rfl ?_
          refine mr_iconst (pc := 240) (z := 2) dX1_doActs_240 ?_
          refine pf_X1_7 (pc := 241) dX1_doActs_241 wF_X1_50 (A_21 hw) T2125 (rW (c := 0) (d := 2) (rR (x := 2)) rfl) fun μ2132 u2133 T2134 => ?_
          refine sv_goto (pc := 244) (tgt := 260) dX1_doActs_244 (by decide) ?_
          refine mr_lvS (lv' := [(0, .ref 21), (1, .ref a1), (2, iv p2), (3, iv p3), (4, iv p4), (5, iv z1989)]) (List.forall_mem_cons.mpr ⟨rfl, List.forall_mem_cons.mpr ⟨rfl, List.forall_mem_cons.mpr ⟨rfl, List.forall_mem_cons.mpr ⟨rfl, List.forall_mem_cons.mpr ⟨rfl, List.forall_mem_cons.mpr ⟨rfl, fun _ h => absurd h List.not_mem_nil⟩⟩⟩⟩⟩⟩) ?_
          exact J2116 μ2132 T2134 (mF.up (mF.call mF.refl F2126 rfl) (A_21 hw) u2133 rfl) (PC.keep I1996 hw ((mF.up (mF.call (mF.up mF.refl (A_21 hw) u2019 rfl) F2126 rfl) (A_21 hw) u2133 rfl) : mF [21006, 21007, 200007, 201999] w μ1990 μ2132) rfl) (RT.keep I1997 hw ((mF.up (mF.call (mF.up mF.refl (A_21 hw) u2019 rfl) F2126 rfl) (A_21 hw) u2133 rfl) : mF [21006, 21007, 200007, 201999] w μ1990 μ2132) rfl)
        by_cases h2135 : z2021 = 28
        · refine mr_tableIn (pc := 62) (v := 28) (tgt := 247) dX1_doActs_62 h2135 rfl rfl (by decide) ?_
          have h2136 : 28 ≤ z2021 ∧ z2021 ≤ 28 := (vc_X1_doActs_12_33 h2135 h2054 h2056 h2058 h2063 h2068 h2077 h2086 h2023)
          refine sv_aload_n (pc := 247) dX1_doActs_247 rfl rfl ?_
          refine mr_iload (pc := 248) (z := z2009) dX1_doActs_248 rfl ?_
          refine mr_iload (pc := 250) (z := p4) dX1_doActs_250 rfl ?_
          refine mr_iconst (pc := 252) (z := 1) dX1_doActs_252 ?_
          refine mr_iadd (pc := 253) (x := p4) (y := 1) dX1_doActs_253 ?_
          refine mr_cVV (pc := 254) (c_X1_goThrough_9 hw T2020 (rW (c := (-2147483648)) (d := 2147483647) h2012 rfl) (rAdd (e := 9) (f := 9) hp4 (rR (x := 1)) rfl) (PC.keep I1996 hw ((mF.up mF.refl (A_21 hw) u2019 rfl) : mF [21006] w μ1990 μ2018) rfl) (RT.keep I1997 hw ((mF.up mF.refl (A_21 hw) u2019 rfl) : mF [21006] w μ1990 μ2018) rfl)) (gOk _ _ _ _ _) dX1_doActs_254 (tX1_goThrough _ _ _ _ _) ⟨wV_X1_goThrough, wL_X1_goThrough⟩ wM_X1_53 (gCX1 _ _ _ _ _) rfl (A_21 hw) rfl ⟨le_t rfl, le_t rfl⟩ ⟨le_t rfl, le_t rfl⟩ rfl (le_t rfl) fun μ2137 T2138 F2139 h2140 => ?_
          refine sv_goto (pc := 257) (tgt := 260) dX1_doActs_257 (by decide) ?_
          refine mr_iinc (pc := 260) (lv' := [(5, iv (z1989 + 1)), (6, iv z2009), (0, .ref 21), (1, .ref a1), (2, iv p2), (3, iv p3), (4, iv p4)]) dX1_doActs_260 rfl (by decide) rfl ?_
          refine sv_goto (pc := 263) (tgt := 3) dX1_doActs_263 (by decide) ?_
          refine mr_lvS (lv' := [(0, .ref 21), (1, .ref a1), (2, iv p2), (3, iv p3), (4, iv p4), (5, iv (z1989 + 1))]) (List.forall_mem_cons.mpr ⟨rfl, List.forall_mem_cons.mpr ⟨rfl, List.forall_mem_cons.mpr ⟨rfl, List.forall_mem_cons.mpr ⟨rfl, List.forall_mem_cons.mpr ⟨rfl, List.forall_mem_cons.mpr ⟨rfl, fun _ h => absurd h List.not_mem_nil⟩⟩⟩⟩⟩⟩) ?_
          exact ih1999 (z1989 + 1) μ2137 T2138 (mF.call (mF.up (mF.call mF.refl F1994 rfl) (A_21 hw) u2019 rfl) F2139 rfl) (rW (c := 0) (d := 1000) (rAdd (e := 1) (f := 1000) h2001 (rR (x := 1)) rfl) rfl) (PC.keep I1996 hw ((mF.call (mF.up mF.refl (A_21 hw) u2019 rfl) F2139 rfl) : mF [21006, 21007, 200004, 200006, 200007, 200008, 201999, 202999] w μ1990 μ2137) rfl) (RT.keep I1997 hw ((mF.call (mF.up mF.refl (A_21 hw) u2019 rfl) F2139 rfl) : mF [21006, 21007, 200004, 200006, 200007, 200008, 201999, 202999] w μ1990 μ2137) rfl) (vc_X1_doActs_12_13 (nS h1998) h2000 h4 h3 hp2 h2002 h2001)
        refine mr_tableOut (pc := 62) (tgt := 260) dX1_doActs_62 h2023 (vc_X1_doActs_12_34 h2024 h2032 h2040 h2042 h2044 h2046 h2048 h2050 h2052 h2054 h2056 h2058 h2063 h2068 h2077 h2086 h2135 h2023) (by decide) ?_
        refine mr_iinc (pc := 260) (lv' := [(5, iv (z1989 + 1)), (6, iv z2009), (0, .ref 21), (1, .ref a1), (2, iv p2), (3, iv p3), (4, iv p4)]) dX1_doActs_260 rfl (by decide) rfl ?_
        refine sv_goto (pc := 263) (tgt := 3) dX1_doActs_263 (by decide) ?_
        refine mr_lvS (lv' := [(0, .ref 21), (1, .ref a1), (2, iv p2), (3, iv p3), (4, iv p4), (5, iv (z1989 + 1))]) (List.forall_mem_cons.mpr ⟨rfl, List.forall_mem_cons.mpr ⟨rfl, List.forall_mem_cons.mpr ⟨rfl, List.forall_mem_cons.mpr ⟨rfl, List.forall_mem_cons.mpr ⟨rfl, List.forall_mem_cons.mpr ⟨rfl, fun _ h => absurd h List.not_mem_nil⟩⟩⟩⟩⟩⟩) ?_
        exact ih1999 (z1989 + 1) μ2018 T2020 (mF.up (mF.call mF.refl F1994 rfl) (A_21 hw) u2019 rfl) (rW (c := 0) (d := 1000) (rAdd (e := 1) (f := 1000) h2001 (rR (x := 1)) rfl) rfl) (PC.keep I1996 hw ((mF.up mF.refl (A_21 hw) u2019 rfl) : mF [21006] w μ1990 μ2018) rfl) (RT.keep I1997 hw ((mF.up mF.refl (A_21 hw) u2019 rfl) : mF [21006] w μ1990 μ2018) rfl) (vc_X1_doActs_12_13 (nS h1998) h2000 h4 h3 hp2 h2002 h2001)
      have h2141 : 500 ≤ z2013 ∧ z2013 ≤ 500 := (vc_X1_doActs_12_35 h2016 h2015)
      refine sv_aload_n (pc := 38) dX1_doActs_38 rfl rfl ?_
      refine mr_iconst (pc := 39) (z := 2) dX1_doActs_39 ?_
      refine pf_X1_7 (pc := 40) dX1_doActs_40 wF_X1_50 (A_21 hw) T1993 (rW (c := 0) (d := 2) (rR (x := 2)) rfl) fun μ2142 u2143 T2144 => ?_
      exact mr_vret dX1_doActs_43 rfl (le_t rfl) (le_t rfl) T2144 (mF.up (mF.call mF.refl F1994 rfl) (A_21 hw) u2143 rfl) trivial
  refine mr_lvS (lv' := [(0, .ref 21), (1, .ref a1), (2, iv p2), (3, iv p3), (4, iv p4), (5, iv 0)]) (List.forall_mem_cons.mpr ⟨rfl, List.forall_mem_cons.mpr ⟨rfl, List.forall_mem_cons.mpr ⟨rfl, List.forall_mem_cons.mpr ⟨rfl, List.forall_mem_cons.mpr ⟨rfl, List.forall_mem_cons.mpr ⟨rfl, fun _ h => absurd h List.not_mem_nil⟩⟩⟩⟩⟩⟩) ?_
  exact L1991 1002 0 μ hT mF.refl (rW (c := 0) (d := 1000) (rR (x := 0)) rfl) hIPC hIRT vc_X1_doActs_12_36
theorem vc_X1_goThrough_8_5 {p2 : Int} (h0 : 12 < p2) (h1 : 8 ≤ p2 ∧ p2 ≤ 8) : False := by omega
set_option maxRecDepth 4000 in
set_option maxHeartbeats 4000000 in
theorem c_X1_goThrough_8 {l : Launch} {D : va_G} {c : Nat → ClassId} {H0 : Heap} {sa : Nat × Nat × (Nat → Int32)} {w : mW} {μ : mM} (hw : mWF w) (hT : mT w μ) {p1 : Int} (hp1 : (-2147483648) ≤ p1 ∧ p1 ≤ 2147483647) {p2 : Int} (hp2 : 8 ≤ p2 ∧ p2 ≤ 8) (hIPC : PC w μ) (hIRT : RT μ) : sC (gG l D c H0 sa) mX1_goThrough 13 0 0 [.ref 21, iv p1, iv p2] (mk w μ) (qV w [21006, 21007, 200004, 200006, 200007, 200008, 201999, 202999] μ (fun μ1 => True)) := by
  refine sC.of rfl (by decide) (le_t rfl) ?_
  refine mr_lvE (lv' := [(0, .ref 21), (1, iv p1), (2, iv p2)]) rfl ?_
  refine mr_iload_n (pc := 0) (z := p1) dX1_goThrough_0 rfl rfl ?_
  refine mr_if_lt (pc := 1) (tgt := 18) dX1_goThrough_1 (by decide) hp1 (fun h1 => ?_) (fun h1 => ?_)
  · have h2 : (-2147483648) ≤ p1 ∧ p1 ≤ (-1) := (vc_X12_ring_60 h1 hp1)
    exact mr_vret dX1_goThrough_18 rfl (le_t rfl) (le_t rfl) hT mF.refl trivial
  have h3 : 0 ≤ p1 ∧ p1 ≤ 2147483647 := (vc_X12_ring_1 h1 hp1)
  refine mr_iload_n (pc := 4) (z := p1) dX1_goThrough_4 rfl rfl ?_
  refine sv_aload_n (pc := 5) dX1_goThrough_5 rfl rfl ?_
  refine gf_X1_8 (pc := 6) dX1_goThrough_6 wF_X1_21 (A_21 hw) hT fun z4 q5 h6 => ?_
  refine mr_icmp_ge (pc := 9) (tgt := 18) dX1_goThrough_9 (by decide) (r32 h3 rfl) (r32 h6.2 rfl) (fun h7 => ?_) (fun h7 => ?_)
  · exact mr_vret dX1_goThrough_18 rfl (le_t rfl) (le_t rfl) hT mF.refl trivial
  have h8 : 0 ≤ p1 ∧ p1 ≤ 11 := (vc_X1_goThrough_13_3 h7 h1 h6.1 h3 h6.2)
  have h9 : 1 ≤ z4 ∧ z4 ≤ 12 := (vc_X1_goThrough_13_4 h7 h1 h6.1 h8 h6.2)
  refine mr_iload_n (pc := 12) (z := p2) dX1_goThrough_12 rfl rfl ?_
  refine mr_bipush (pc := 13) (z := 12) dX1_goThrough_13 (by decide) ?_
  refine mr_icmp_le (pc := 15) (tgt := 19) dX1_goThrough_15 (by decide) (r32 hp2 rfl) (r32 (rR (x := 12)) rfl) (fun _ => ?_) (fun h => ((vc_X1_goThrough_8_5 h hp2)).elim)
  refine sv_aload_n (pc := 19) dX1_goThrough_19 rfl rfl ?_
  refine gf_X1_1 (pc := 20) dX1_goThrough_20 wF_X1_17 (A_21 hw) hT ?_
  refine mr_iload_n (pc := 23) (z := p1) dX1_goThrough_23 rfl rfl ?_
  refine la_22 (pc := 24) dX1_goThrough_24 (A_22 hw) hT (rIx (n := 12) h8 rfl) (vc_X1_goThrough_12_6 h1 h6.1 h7 h8 h9) fun b10 q11 A12 => ?_
  refine mr_astore_n (pc := 25) (lv' := [(3, .ref b10), (0, .ref 21), (1, iv p1), (2, iv p2)]) dX1_goThrough_25 rfl (by decide) rfl ?_
  obtain ⟨c13, z14, q15, A16, q17, R18, e19, e20⟩ := PC.read hIPC hT A12 (vc_X1_goThrough_12_7 h1 h7 h6.1 h8 h9) (vc_X1_goThrough_12_6 h1 h6.1 h7 h8 h9) q11
  have h21 : 0 ≤ z14 ∧ z14 ≤ 30 := by rw [← q17]; exact hT _ _ A12 0
  refine mr_iconst (pc := 26) (z := 0) dX1_goThrough_26 ?_
  refine mr_istore (pc := 27) (lv' := [(4, iv 0), (3, .ref b10), (0, .ref 21), (1, iv p1), (2, iv p2)]) dX1_goThrough_27 (by decide) rfl ?_
  refine mr_iconst (pc := 29) (z := 0) dX1_goThrough_29 ?_
  refine mr_istore (pc := 30) (lv' := [(5, iv 0), (4, iv 0), (3, .ref b10), (0, .ref 21), (1, iv p1), (2, iv p2)]) dX1_goThrough_30 (by decide) rfl ?_
  have L1192 : ∀ (nL1192 : Nat) (z1190 z1189 : Int) (μ1191 : mM), mT w μ1191 → mF [21006, 21007, 200004, 200006, 200007, 200008, 201999, 202999] w μ μ1191 → (0 ≤ z1190 ∧ z1190 ≤ 2000) → (0 ≤ z1189 ∧ z1189 ≤ 30) → PC w μ1191 → RT μ1191 → wfR (μ c13) (w.2.2.1 c13) (z1190).toNat (z14 - z1189).toNat → (2001 - z1190) < (nL1192 : Int) → sV (gG l D c H0 sa) mX1_goThrough (sRm 13 0 0) (sZ (gG l D c H0 sa) 0 0 (qV w [21006, 21007, 200004, 200006, 200007, 200008, 201999, 202999] μ (fun μ1 => True))) 32 [(0, .ref 21), (2, iv p2), (3, .ref b10), (4, iv z1190), (5, iv z1189)] [] (mk w μ1191) 0 0 := by
    intro nL1192
    induction nL1192 with
    | zero => intro z1190 z1189 μ1191 T1195 F1196 h1193 h1194 I1198 I1199 R1200 h1201; exact ((vc_X1_goThrough_12_8 h1201 h1193)).elim
    | succ nL1192 ih1202 =>
      intro z1190 z1189 μ1191 T1195 F1196 h1193 h1194 I1198 I1199 R1200 h1201
      refine mr_iload (pc := 32) (z := z1189) dX1_goThrough_32 rfl ?_
      refine sv_aload_n (pc := 34) dX1_goThrough_34 rfl rfl ?_
      refine gk_X5_0 (pc := 35) dX1_goThrough_35 wF_X1_57 A12 (F1196.f A12 rfl q17) ?_
      refine mr_icmp_ge (pc := 38) (tgt := 174) dX1_goThrough_38 (by decide) (r32 h1194 rfl) (r32 h21 rfl) (fun h1267 => ?_) (fun h1267 => ?_)
      · exact mr_vret dX1_goThrough_174 rfl (le_t rfl) (le_t rfl) T1195 (mF.call mF.refl F1196 rfl) trivial
      have h1268 : 0 ≤ z1189 ∧ z1189 ≤ 29 := (vc_X12_judgedAnew_2 h1267 h1194 h21)
      have h1269 : 1 ≤ z14 ∧ z14 ≤ 30 := (vc_X12_judgedAnew_3 h1267 h1268 h21)
      refine sv_aload_n (pc := 41) dX1_goThrough_41 rfl rfl ?_
      refine gf_X1_7 (pc := 42) dX1_goThrough_42 wF_X1_50 (A_21 hw) T1195 fun z1270 q1271 h1272 => ?_
      refine mr_if_ne (pc := 45) (tgt := 174) dX1_goThrough_45 (by decide) (r32 h1272 rfl) (fun h1332 => ?_) (fun h1332 => ?_)
      · have h1333 : 1 ≤ z1270 ∧ z1270 ≤ 2 := (vc_X12_provides_3 h1332 h1272)
        exact mr_vret dX1_goThrough_174 rfl (le_t rfl) (le_t rfl) T1195 (mF.call mF.refl F1196 rfl) trivial
      have h1334 : 0 ≤ z1270 ∧ z1270 ≤ 0 := (vc_X12_provides_4 h1332 h1272)
      obtain ⟨n_1335, q1336⟩ : ∃ n : Int, (w.2.2.1 c13 : Int) = n := ⟨_, rfl⟩
      have h1337 : 0 ≤ n_1335 ∧ n_1335 ≤ 2000 := lnR (m := 2000) q1336 A16 rfl
      have h1338 : z1190 + 1 < n_1335 := lnLt q1336 (wfR.hd R1200 (vc_X1_goThrough_12_13 h1193) (vc_X1_goThrough_12_14 h1267 h1268 h1269))
      refine sv_aload_n (pc := 48) dX1_goThrough_48 rfl rfl ?_
      refine gk_X5_1 (pc := 49) dX1_goThrough_49 wF_X1_60 A12 (F1196.f A12 rfl q15) ?_
      refine mr_iload (pc := 52) (z := z1190) dX1_goThrough_52 rfl ?_
      refine la_231 (pc := 54) dX1_goThrough_54 A16 T1195 (lnC q1336 (vc_X1_goThrough_12_15 h1338 h1337 h1193)) fun z1339 q1340 h1341 => ?_
      refine mr_istore (pc := 55) (lv' := [(6, iv z1339), (0, .ref 21), (2, iv p2), (3, .ref b10), (4, iv z1190), (5, iv z1189)]) dX1_goThrough_55 (by decide) rfl ?_
      refine sv_aload_n (pc := 57) dX1_goThrough_57 rfl rfl ?_
      refine gk_X5_1 (pc := 58) dX1_goThrough_58 wF_X1_60 A12 (F1196.f A12 rfl q15) ?_
      refine mr_iload (pc := 61) (z := z1190) dX1_goThrough_61 rfl ?_
      refine mr_iconst (pc := 63) (z := 1) dX1_goThrough_63 ?_
      refine mr_iadd (pc := 64) (x := z1190) (y := 1) dX1_goThrough_64 ?_
      refine la_231 (pc := 65) dX1_goThrough_65 A16 T1195 (lnC q1336 (vc_X1_goThrough_12_16 h1338 h1337 h1193)) fun z1342 q1343 h1344 => ?_
      have B1345 := wfR.bd R1200 (vc_X1_goThrough_12_13 h1193) (vc_X1_goThrough_12_14 h1267 h1268 h1269) ((((mF.call mF.refl F1196 rfl) : mF [21006, 21007, 200004, 200006, 200007, 200008, 201999, 202999] w μ μ1191).f A16 rfl rfl).symm.trans q1340) ((((mF.call mF.refl F1196 rfl) : mF [21006, 21007, 200004, 200006, 200007, 200008, 201999, 202999] w μ μ1191).f A16 rfl rfl).symm.trans q1343)
      have h1346 : 0 ≤ z1339 ∧ 0 ≤ z1342 ∧ z1190 + 2 + 5 * z1339 + 2 * z1342 ≤ n_1335 := ⟨B1345.1.1, B1345.1.2.1, lnLe q1336 B1345.1.2.2⟩
      have h1347 : 0 ≤ z1339 ∧ z1339 ≤ 400 := (vc_X1_goThrough_12_17 h1346 h1338 h1337 h1193 h1341 h1344)
      have h1348 : 0 ≤ z1342 ∧ z1342 ≤ 1000 := (vc_X1_goThrough_12_18 h1346 h1338 h1337 h1193 h1347 h1344)
      refine mr_istore (pc := 66) (lv' := [(7, iv z1342), (6, iv z1339), (0, .ref 21), (2, iv p2), (3, .ref b10), (4, iv z1190), (5, iv z1189)]) dX1_goThrough_66 (by decide) rfl ?_
      refine mr_iload (pc := 68) (z := z1190) dX1_goThrough_68 rfl ?_
      refine mr_iconst (pc := 70) (z := 2) dX1_goThrough_70 ?_
      refine mr_iadd (pc := 71) (x := z1190) (y := 2) dX1_goThrough_71 ?_
      refine mr_iload (pc := 72) (z := z1339) dX1_goThrough_72 rfl ?_
      refine mr_iconst (pc := 74) (z := 5) dX1_goThrough_74 ?_
      refine mr_imul (pc := 75) (x := z1339) (y := 5) dX1_goThrough_75 ?_
      refine mr_iadd (pc := 76) (x := (z1190 + 2)) (y := (z1339 * 5)) dX1_goThrough_76 ?_
      refine mr_istore (pc := 77) (lv' := [(8, iv ((z1190 + 2) + (z1339 * 5))), (7, iv z1342), (6, iv z1339), (0, .ref 21), (2, iv p2), (3, .ref b10), (4, iv z1190), (5, iv z1189)]) dX1_goThrough_77 (by decide) rfl ?_
      refine mr_iconst (pc := 79) (z := 1) dX1_goThrough_79 ?_
      refine mr_istore (pc := 80) (lv' := [(9, iv 1), (8, iv ((z1190 + 2) + (z1339 * 5))), (7, iv z1342), (6, iv z1339), (0, .ref 21), (2, iv p2), (3, .ref b10), (4, iv z1190), (5, iv z1189)]) dX1_goThrough_80 (by decide) rfl ?_
      refine mr_iload (pc := 82) (z := z1190) dX1_goThrough_82 rfl ?_
      refine mr_iconst (pc := 84) (z := 2) dX1_goThrough_84 ?_
      refine mr_iadd (pc := 85) (x := z1190) (y := 2) dX1_goThrough_85 ?_
      refine mr_istore (pc := 86) (lv' := [(10, iv (z1190 + 2)), (9, iv 1), (8, iv ((z1190 + 2) + (z1339 * 5))), (7, iv z1342), (6, iv z1339), (0, .ref 21), (2, iv p2), (3, .ref b10), (4, iv z1190), (5, iv z1189)]) dX1_goThrough_86 (by decide) rfl ?_
      have L1468 : ∀ (nL1468 : Nat) (z1467 z1466 : Int), True → (0 ≤ z1467 ∧ z1467 ≤ 1) → (2 ≤ z1466 ∧ z1466 ≤ 2010) → ((((z1190 + 2) + (z1339 * 5)) - z1466) % 5 = 0) → (2011 - z1466) < (nL1468 : Int) → sV (gG l D c H0 sa) mX1_goThrough (sRm 13 0 0) (sZ (gG l D c H0 sa) 0 0 (qV w [21006, 21007, 200004, 200006, 200007, 200008, 201999, 202999] μ (fun μ1 => True))) 88 [(0, .ref 21), (2, iv p2), (3, .ref b10), (5, iv z1189), (7, iv z1342), (8, iv ((z1190 + 2) + (z1339 * 5))), (9, iv z1467), (10, iv z1466)] [] (mk w μ1191) 0 0 := by
        intro nL1468
        induction nL1468 with
        | zero => intro z1467 z1466 _ h1469 h1470 h1474 h1475; exact ((vc_X1_goThrough_12_19 h1475 h1474 h1338 h1346 h1337 h1193 h1347 h1348 h1470)).elim
        | succ nL1468 ih1476 =>
          intro z1467 z1466 _ h1469 h1470 h1474 h1475
          refine mr_iload (pc := 88) (z := z1466) dX1_goThrough_88 rfl ?_
          refine mr_iload (pc := 90) (z := ((z1190 + 2) + (z1339 * 5))) dX1_goThrough_90 rfl ?_
          have J1492 : sV (gG l D c H0 sa) mX1_goThrough (sRm 13 0 0) (sZ (gG l D c H0 sa) 0 0 (qV w [21006, 21007, 200004, 200006, 200007, 200008, 201999, 202999] μ (fun μ1 => True))) 141 [(0, .ref 21), (2, iv p2), (3, .ref b10), (5, iv z1189), (7, iv z1342), (8, iv ((z1190 + 2) + (z1339 * 5))), (9, iv z1467)] [] (mk w μ1191) 0 0 := by
            refine mr_iload (pc := 141) (z := z1467) dX1_goThrough_141 rfl ?_
            refine mr_if_eq (pc := 143) (tgt := 159) dX1_goThrough_143 (by decide) (r32 h1469 rfl) (fun h1499 => ?_) (fun h1499 => ?_)
            · have h1500 : 0 ≤ z1467 ∧ z1467 ≤ 0 := (vc_X12_ring_22 h1499 h1469)
              refine mr_iload (pc := 159) (z := ((z1190 + 2) + (z1339 * 5))) dX1_goThrough_159 rfl ?_
              refine mr_iload (pc := 161) (z := z1342) dX1_goThrough_161 rfl ?_
              refine mr_iconst (pc := 163) (z := 2) dX1_goThrough_163 ?_
              refine mr_imul (pc := 164) (x := z1342) (y := 2) dX1_goThrough_164 ?_
              refine mr_iadd (pc := 165) (x := ((z1190 + 2) + (z1339 * 5))) (y := (z1342 * 2)) dX1_goThrough_165 ?_
              refine mr_istore (pc := 166) (lv' := [(4, iv (((z1190 + 2) + (z1339 * 5)) + (z1342 * 2))), (0, .ref 21), (2, iv p2), (3, .ref b10), (5, iv z1189), (7, iv z1342), (8, iv ((z1190 + 2) + (z1339 * 5))), (9, iv z1467)]) dX1_goThrough_166 (by decide) rfl ?_
              refine mr_iinc (pc := 168) (lv' := [(5, iv (z1189 + 1)), (4, iv (((z1190 + 2) + (z1339 * 5)) + (z1342 * 2))), (0, .ref 21), (2, iv p2), (3, .ref b10), (7, iv z1342), (8, iv ((z1190 + 2) + (z1339 * 5))), (9, iv z1467)]) dX1_goThrough_168 rfl (by decide) rfl ?_
              refine sv_goto (pc := 171) (tgt := 32) dX1_goThrough_171 (by decide) ?_
              refine mr_lvS (lv' := [(0, .ref 21), (2, iv p2), (3, .ref b10), (4, iv (((z1190 + 2) + (z1339 * 5)) + (z1342 * 2))), (5, iv (z1189 + 1))]) (List.forall_mem_cons.mpr ⟨rfl, List.forall_mem_cons.mpr ⟨rfl, List.forall_mem_cons.mpr ⟨rfl, List.forall_mem_cons.mpr ⟨rfl, List.forall_mem_cons.mpr ⟨rfl, fun _ h => absurd h List.not_mem_nil⟩⟩⟩⟩⟩) ?_
              exact ih1202 (((z1190 + 2) + (z1339 * 5)) + (z1342 * 2)) (z1189 + 1) μ1191 T1195 (mF.call mF.refl F1196 rfl) (vc_X1_goThrough_12_21 h1338 h1346 h1474 h1337 h1193 h1347 h1348 h1470) (rW (c := 0) (d := 30) (rAdd (e := 1) (f := 30) h1268 (rR (x := 1)) rfl) rfl) I1198 I1199 (wfR.cg B1345.2.2 (vc_X1_goThrough_12_23 h1338 h1346 h1474 h1337 h1193 h1347 h1348 h1470)) (vc_X1_goThrough_12_22 (nS h1201) h1338 h1346 h1474 h1337 h1193 h1347 h1348 h1470)
            have h1501 : 1 ≤ z1467 ∧ z1467 ≤ 1 := (vc_X12_ring_24 h1499 h1469)
            refine sv_aload_n (pc := 146) dX1_goThrough_146 rfl rfl ?_
            refine sv_aload_n (pc := 147) dX1_goThrough_147 rfl rfl ?_
            refine gk_X5_1 (pc := 148) dX1_goThrough_148 wF_X1_60 A12 (F1196.f A12 rfl q15) ?_
            refine mr_iload (pc := 151) (z := ((z1190 + 2) + (z1339 * 5))) dX1_goThrough_151 rfl ?_
            refine mr_iload (pc := 153) (z := z1342) dX1_goThrough_153 rfl ?_
            refine mr_iload_n (pc := 155) (z := p2) dX1_goThrough_155 rfl rfl ?_
            refine mr_cVV (pc := 156) (c_X1_doActs_8 hw T1195 A16 (vc_X1_goThrough_12_25 h1338 h1346 h1474 h1337 h1193 h1347 h1348 h1470) h1348 hp2 I1198 I1199 (lnL q1336 (vc_X1_goThrough_12_26 h1338 h1346 h1474 h1337 h1193 h1347 h1348 h1470)) (argC B1345.2.1 (vc_X1_goThrough_12_27 h1338 h1346 h1474 h1337 h1193 h1347 h1348 h1470) (funext fun i => ((mF.call mF.refl F1196 rfl) : mF [21006, 21007, 200004, 200006, 200007, 200008, 201999, 202999] w μ μ1191).f A16 rfl rfl))) (gOk _ _ _ _ _) dX1_goThrough_156 (tX1_doActs _ _ _ _ _) ⟨wV_X1_doActs, wL_X1_doActs⟩ wM_X1_68 (gCX1 _ _ _ _ _) rfl (A_21 hw) rfl ⟨le_t rfl, le_t rfl⟩ ⟨le_t rfl, le_t rfl⟩ rfl (le_t rfl) fun μ1502 T1503 F1504 h1505 => ?_
            refine mr_iload (pc := 159) (z := ((z1190 + 2) + (z1339 * 5))) dX1_goThrough_159 rfl ?_
            refine mr_iload (pc := 161) (z := z1342) dX1_goThrough_161 rfl ?_
            refine mr_iconst (pc := 163) (z := 2) dX1_goThrough_163 ?_
            refine mr_imul (pc := 164) (x := z1342) (y := 2) dX1_goThrough_164 ?_
            refine mr_iadd (pc := 165) (x := ((z1190 + 2) + (z1339 * 5))) (y := (z1342 * 2)) dX1_goThrough_165 ?_
            refine mr_istore (pc := 166) (lv' := [(4, iv (((z1190 + 2) + (z1339 * 5)) + (z1342 * 2))), (0, .ref 21), (2, iv p2), (3, .ref b10), (5, iv z1189), (7, iv z1342), (8, iv ((z1190 + 2) + (z1339 * 5))), (9, iv z1467)]) dX1_goThrough_166 (by decide) rfl ?_
            refine mr_iinc (pc := 168) (lv' := [(5, iv (z1189 + 1)), (4, iv (((z1190 + 2) + (z1339 * 5)) + (z1342 * 2))), (0, .ref 21), (2, iv p2), (3, .ref b10), (7, iv z1342), (8, iv ((z1190 + 2) + (z1339 * 5))), (9, iv z1467)]) dX1_goThrough_168 rfl (by decide) rfl ?_
            refine sv_goto (pc := 171) (tgt := 32) dX1_goThrough_171 (by decide) ?_
            refine mr_lvS (lv' := [(0, .ref 21), (2, iv p2), (3, .ref b10), (4, iv (((z1190 + 2) + (z1339 * 5)) + (z1342 * 2))), (5, iv (z1189 + 1))]) (List.forall_mem_cons.mpr ⟨rfl, List.forall_mem_cons.mpr ⟨rfl, List.forall_mem_cons.mpr ⟨rfl, List.forall_mem_cons.mpr ⟨rfl, List.forall_mem_cons.mpr ⟨rfl, fun _ h => absurd h List.not_mem_nil⟩⟩⟩⟩⟩) ?_
            exact ih1202 (((z1190 + 2) + (z1339 * 5)) + (z1342 * 2)) (z1189 + 1) μ1502 T1503 (mF.call (mF.call mF.refl F1196 rfl) F1504 rfl) (vc_X1_goThrough_12_21 h1338 h1346 h1474 h1337 h1193 h1347 h1348 h1470) (rW (c := 0) (d := 30) (rAdd (e := 1) (f := 30) h1268 (rR (x := 1)) rfl) rfl) (PC.keep I1198 hw ((mF.call mF.refl F1504 rfl) : mF [21006, 21007, 200004, 200006, 200007, 200008, 201999, 202999] w μ1191 μ1502) rfl) (RT.keep I1199 hw ((mF.call mF.refl F1504 rfl) : mF [21006, 21007, 200004, 200006, 200007, 200008, 201999, 202999] w μ1191 μ1502) rfl) (wfR.cg B1345.2.2 (vc_X1_goThrough_12_23 h1338 h1346 h1474 h1337 h1193 h1347 h1348 h1470)) (vc_X1_goThrough_12_22 (nS h1201) h1338 h1346 h1474 h1337 h1193 h1347 h1348 h1470)
          refine mr_icmp_ge (pc := 92) (tgt := 141) dX1_goThrough_92 (by decide) (r32 h1470 rfl) (r32 (rAdd (e := 2) (f := 4002) (rAdd (e := 2) (f := 2002) h1193 (rR (x := 2)) rfl) (rMulR (n := 5) (e := 0) (f := 2000) h1347 rfl) rfl) rfl) (fun h1506 => ?_) (fun h1506 => ?_)
          · refine mr_lvS (lv' := [(0, .ref 21), (2, iv p2), (3, .ref b10), (5, iv z1189), (7, iv z1342), (8, iv ((z1190 + 2) + (z1339 * 5))), (9, iv z1467)]) (List.forall_mem_cons.mpr ⟨rfl, List.forall_mem_cons.mpr ⟨rfl, List.forall_mem_cons.mpr ⟨rfl, List.forall_mem_cons.mpr ⟨rfl, List.forall_mem_cons.mpr ⟨rfl, List.forall_mem_cons.mpr ⟨rfl, List.forall_mem_cons.mpr ⟨rfl, fun _ h => absurd h List.not_mem_nil⟩⟩⟩⟩⟩⟩⟩) ?_
            exact J1492 
          refine mr_iload (pc := 95) (z := z1467) dX1_goThrough_95 rfl ?_
          refine mr_if_eq (pc := 97) (tgt := 141) dX1_goThrough_97 (by decide) (r32 h1469 rfl) (fun h1507 => ?_) (fun h1507 => ?_)
          · have h1508 : 0 ≤ z1467 ∧ z1467 ≤ 0 := (vc_X12_ring_22 h1507 h1469)
            refine mr_lvS (lv' := [(0, .ref 21), (2, iv p2), (3, .ref b10), (5, iv z1189), (7, iv z1342), (8, iv ((z1190 + 2) + (z1339 * 5))), (9, iv z1467)]) (List.forall_mem_cons.mpr ⟨rfl, List.forall_mem_cons.mpr ⟨rfl, List.forall_mem_cons.mpr ⟨rfl, List.forall_mem_cons.mpr ⟨rfl, List.forall_mem_cons.mpr ⟨rfl, List.forall_mem_cons.mpr ⟨rfl, List.forall_mem_cons.mpr ⟨rfl, fun _ h => absurd h List.not_mem_nil⟩⟩⟩⟩⟩⟩⟩) ?_
            exact J1492 
          have h1509 : 1 ≤ z1467 ∧ z1467 ≤ 1 := (vc_X12_ring_24 h1507 h1469)
          refine sv_aload_n (pc := 100) dX1_goThrough_100 rfl rfl ?_
          refine sv_aload_n (pc := 101) dX1_goThrough_101 rfl rfl ?_
          refine mr_iload (pc := 102) (z := z1466) dX1_goThrough_102 rfl ?_
          refine mr_cVP (pc := 104) (c_X1_isSo hw T1195 A12 (vc_X1_goThrough_12_28 h1474 h1506 h1338 h1346 h1337 h1193 h1347 h1348 h1470) I1199 (lnF (F1196.f A12 rfl q15) q1336 (vc_X1_goThrough_12_29 h1338 h1346 h1474 h1506 h1337 h1193 h1347 h1348 h1470)) (by rw [((mF.call mF.refl F1196 rfl) : mF [21006, 21007, 200004, 200006, 200007, 200008, 201999, 202999] w μ μ1191).f (k := 2) A12 rfl rfl, ((mF.call mF.refl F1196 rfl) : mF [21006, 21007, 200004, 200006, 200007, 200008, 201999, 202999] w μ μ1191).f (k := 3) A12 rfl rfl]; exact e19) (by rw [((mF.call mF.refl F1196 rfl) : mF [21006, 21007, 200004, 200006, 200007, 200008, 201999, 202999] w μ μ1191).f (k := 4) A12 rfl rfl, ((mF.call mF.refl F1196 rfl) : mF [21006, 21007, 200004, 200006, 200007, 200008, 201999, 202999] w μ μ1191).f (k := 5) A12 rfl rfl]; exact e20)) (gOk _ _ _ _ _) dX1_goThrough_104 (tX1_isSo _ _ _ _ _) ⟨wV_X1_isSo, wL_X1_isSo⟩ wM_X1_64 (gCX1 _ _ _ _ _) rfl (A_21 hw) rfl ⟨le_t rfl, le_t rfl⟩ ⟨le_t rfl, le_t rfl⟩ rfl (le_t rfl) fun z1514 h1513 => ?_
          refine sv_aload_n (pc := 107) dX1_goThrough_107 rfl rfl ?_
          refine gk_X5_1 (pc := 108) dX1_goThrough_108 wF_X1_60 A12 (F1196.f A12 rfl q15) ?_
          refine mr_iload (pc := 111) (z := z1466) dX1_goThrough_111 rfl ?_
          refine mr_iconst (pc := 113) (z := 1) dX1_goThrough_113 ?_
          refine mr_iadd (pc := 114) (x := z1466) (y := 1) dX1_goThrough_114 ?_
          refine la_231 (pc := 115) dX1_goThrough_115 A16 T1195 (lnC q1336 (vc_X1_goThrough_12_30 h1338 h1346 h1474 h1506 h1337 h1193 h1347 h1348 h1470)) fun z1515 q1516 h1517 => ?_
          refine mr_iconst (pc := 116) (z := 1) dX1_goThrough_116 ?_
          refine mr_icmp_ne (pc := 117) (tgt := 124) dX1_goThrough_117 (by decide) h1517 (r32 (rR (x := 1)) rfl) (fun h1519 => ?_) (fun h1519 => ?_)
          · refine mr_iconst (pc := 124) (z := 0) dX1_goThrough_124 ?_
            refine mr_icmp_eq (pc := 125) (tgt := 132) dX1_goThrough_125 (by decide) (r32 h1513.1 rfl) (r32 (rR (x := 0)) rfl) (fun h1522 => ?_) (fun h1522 => ?_)
            · have h1523 : 0 ≤ z1514 ∧ z1514 ≤ 0 := (vc_X12_ring_22 h1522 h1513.1)
              refine mr_iconst (pc := 132) (z := 0) dX1_goThrough_132 ?_
              refine mr_istore (pc := 133) (lv' := [(9, iv 0), (0, .ref 21), (2, iv p2), (3, .ref b10), (5, iv z1189), (7, iv z1342), (8, iv ((z1190 + 2) + (z1339 * 5))), (10, iv z1466)]) dX1_goThrough_133 (by decide) rfl ?_
              refine mr_iinc (pc := 135) (lv' := [(10, iv (z1466 + 5)), (9, iv 0), (0, .ref 21), (2, iv p2), (3, .ref b10), (5, iv z1189), (7, iv z1342), (8, iv ((z1190 + 2) + (z1339 * 5)))]) dX1_goThrough_135 rfl (by decide) rfl ?_
              refine sv_goto (pc := 138) (tgt := 88) dX1_goThrough_138 (by decide) ?_
              refine mr_lvS (lv' := [(0, .ref 21), (2, iv p2), (3, .ref b10), (5, iv z1189), (7, iv z1342), (8, iv ((z1190 + 2) + (z1339 * 5))), (9, iv 0), (10, iv (z1466 + 5))]) (List.forall_mem_cons.mpr ⟨rfl, List.forall_mem_cons.mpr ⟨rfl, List.forall_mem_cons.mpr ⟨rfl, List.forall_mem_cons.mpr ⟨rfl, List.forall_mem_cons.mpr ⟨rfl, List.forall_mem_cons.mpr ⟨rfl, List.forall_mem_cons.mpr ⟨rfl, List.forall_mem_cons.mpr ⟨rfl, fun _ h => absurd h List.not_mem_nil⟩⟩⟩⟩⟩⟩⟩⟩) ?_
              exact ih1476 0 (z1466 + 5) trivial (rW (c := 0) (d := 1) (rR (x := 0)) rfl) (vc_X1_goThrough_12_32 h1474 h1506 h1338 h1346 h1337 h1193 h1347 h1348 h1470) (vc_X1_goThrough_12_33 h1338 h1346 h1474 h1506 h1337 h1193 h1347 h1348 h1470) (vc_X1_goThrough_12_34 (nS h1475) h1474 h1506 h1338 h1346 h1337 h1193 h1347 h1348 h1470)
            have h1524 : 1 ≤ z1514 ∧ z1514 ≤ 1 := (vc_X12_ring_24 h1522 h1513.1)
            refine mr_iconst (pc := 128) (z := 1) dX1_goThrough_128 ?_
            refine sv_goto (pc := 129) (tgt := 133) dX1_goThrough_129 (by decide) ?_
            refine mr_istore (pc := 133) (lv' := [(9, iv 1), (0, .ref 21), (2, iv p2), (3, .ref b10), (5, iv z1189), (7, iv z1342), (8, iv ((z1190 + 2) + (z1339 * 5))), (10, iv z1466)]) dX1_goThrough_133 (by decide) rfl ?_
            refine mr_iinc (pc := 135) (lv' := [(10, iv (z1466 + 5)), (9, iv 1), (0, .ref 21), (2, iv p2), (3, .ref b10), (5, iv z1189), (7, iv z1342), (8, iv ((z1190 + 2) + (z1339 * 5)))]) dX1_goThrough_135 rfl (by decide) rfl ?_
            refine sv_goto (pc := 138) (tgt := 88) dX1_goThrough_138 (by decide) ?_
            refine mr_lvS (lv' := [(0, .ref 21), (2, iv p2), (3, .ref b10), (5, iv z1189), (7, iv z1342), (8, iv ((z1190 + 2) + (z1339 * 5))), (9, iv 1), (10, iv (z1466 + 5))]) (List.forall_mem_cons.mpr ⟨rfl, List.forall_mem_cons.mpr ⟨rfl, List.forall_mem_cons.mpr ⟨rfl, List.forall_mem_cons.mpr ⟨rfl, List.forall_mem_cons.mpr ⟨rfl, List.forall_mem_cons.mpr ⟨rfl, List.forall_mem_cons.mpr ⟨rfl, List.forall_mem_cons.mpr ⟨rfl, fun _ h => absurd h List.not_mem_nil⟩⟩⟩⟩⟩⟩⟩⟩) ?_
            exact ih1476 1 (z1466 + 5) trivial (rW (c := 0) (d := 1) (rR (x := 1)) rfl) (vc_X1_goThrough_12_32 h1474 h1506 h1338 h1346 h1337 h1193 h1347 h1348 h1470) (vc_X1_goThrough_12_33 h1338 h1346 h1474 h1506 h1337 h1193 h1347 h1348 h1470) (vc_X1_goThrough_12_34 (nS h1475) h1474 h1506 h1338 h1346 h1337 h1193 h1347 h1348 h1470)
          have h1525 : 1 ≤ z1515 ∧ z1515 ≤ 1 := (vc_X0_compareAt_1 h1519 h1517)
          refine mr_iconst (pc := 120) (z := 1) dX1_goThrough_120 ?_
          refine sv_goto (pc := 121) (tgt := 125) dX1_goThrough_121 (by decide) ?_
          refine mr_icmp_eq (pc := 125) (tgt := 132) dX1_goThrough_125 (by decide) (r32 h1513.1 rfl) (r32 (rR (x := 1)) rfl) (fun h1528 => ?_) (fun h1528 => ?_)
          · have h1529 : 1 ≤ z1514 ∧ z1514 ≤ 1 := (vc_X1_goThrough_12_37 h1528 h1513.1)
            refine mr_iconst (pc := 132) (z := 0) dX1_goThrough_132 ?_
            refine mr_istore (pc := 133) (lv' := [(9, iv 0), (0, .ref 21), (2, iv p2), (3, .ref b10), (5, iv z1189), (7, iv z1342), (8, iv ((z1190 + 2) + (z1339 * 5))), (10, iv z1466)]) dX1_goThrough_133 (by decide) rfl ?_
            refine mr_iinc (pc := 135) (lv' := [(10, iv (z1466 + 5)), (9, iv 0), (0, .ref 21), (2, iv p2), (3, .ref b10), (5, iv z1189), (7, iv z1342), (8, iv ((z1190 + 2) + (z1339 * 5)))]) dX1_goThrough_135 rfl (by decide) rfl ?_
            refine sv_goto (pc := 138) (tgt := 88) dX1_goThrough_138 (by decide) ?_
            refine mr_lvS (lv' := [(0, .ref 21), (2, iv p2), (3, .ref b10), (5, iv z1189), (7, iv z1342), (8, iv ((z1190 + 2) + (z1339 * 5))), (9, iv 0), (10, iv (z1466 + 5))]) (List.forall_mem_cons.mpr ⟨rfl, List.forall_mem_cons.mpr ⟨rfl, List.forall_mem_cons.mpr ⟨rfl, List.forall_mem_cons.mpr ⟨rfl, List.forall_mem_cons.mpr ⟨rfl, List.forall_mem_cons.mpr ⟨rfl, List.forall_mem_cons.mpr ⟨rfl, List.forall_mem_cons.mpr ⟨rfl, fun _ h => absurd h List.not_mem_nil⟩⟩⟩⟩⟩⟩⟩⟩) ?_
            exact ih1476 0 (z1466 + 5) trivial (rW (c := 0) (d := 1) (rR (x := 0)) rfl) (vc_X1_goThrough_12_32 h1474 h1506 h1338 h1346 h1337 h1193 h1347 h1348 h1470) (vc_X1_goThrough_12_33 h1338 h1346 h1474 h1506 h1337 h1193 h1347 h1348 h1470) (vc_X1_goThrough_12_34 (nS h1475) h1474 h1506 h1338 h1346 h1337 h1193 h1347 h1348 h1470)
          have h1530 : 0 ≤ z1514 ∧ z1514 ≤ 0 := (vc_X1_goThrough_12_38 h1528 h1513.1)
          refine mr_iconst (pc := 128) (z := 1) dX1_goThrough_128 ?_
          refine sv_goto (pc := 129) (tgt := 133) dX1_goThrough_129 (by decide) ?_
          refine mr_istore (pc := 133) (lv' := [(9, iv 1), (0, .ref 21), (2, iv p2), (3, .ref b10), (5, iv z1189), (7, iv z1342), (8, iv ((z1190 + 2) + (z1339 * 5))), (10, iv z1466)]) dX1_goThrough_133 (by decide) rfl ?_
          refine mr_iinc (pc := 135) (lv' := [(10, iv (z1466 + 5)), (9, iv 1), (0, .ref 21), (2, iv p2), (3, .ref b10), (5, iv z1189), (7, iv z1342), (8, iv ((z1190 + 2) + (z1339 * 5)))]) dX1_goThrough_135 rfl (by decide) rfl ?_
          refine sv_goto (pc := 138) (tgt := 88) dX1_goThrough_138 (by decide) ?_
          refine mr_lvS (lv' := [(0, .ref 21), (2, iv p2), (3, .ref b10), (5, iv z1189), (7, iv z1342), (8, iv ((z1190 + 2) + (z1339 * 5))), (9, iv 1), (10, iv (z1466 + 5))]) (List.forall_mem_cons.mpr ⟨rfl, List.forall_mem_cons.mpr ⟨rfl, List.forall_mem_cons.mpr ⟨rfl, List.forall_mem_cons.mpr ⟨rfl, List.forall_mem_cons.mpr ⟨rfl, List.forall_mem_cons.mpr ⟨rfl, List.forall_mem_cons.mpr ⟨rfl, List.forall_mem_cons.mpr ⟨rfl, fun _ h => absurd h List.not_mem_nil⟩⟩⟩⟩⟩⟩⟩⟩) ?_
          exact ih1476 1 (z1466 + 5) trivial (rW (c := 0) (d := 1) (rR (x := 1)) rfl) (vc_X1_goThrough_12_32 h1474 h1506 h1338 h1346 h1337 h1193 h1347 h1348 h1470) (vc_X1_goThrough_12_33 h1338 h1346 h1474 h1506 h1337 h1193 h1347 h1348 h1470) (vc_X1_goThrough_12_34 (nS h1475) h1474 h1506 h1338 h1346 h1337 h1193 h1347 h1348 h1470)
      refine mr_lvS (lv' := [(0, .ref 21), (2, iv p2), (3, .ref b10), (5, iv z1189), (7, iv z1342), (8, iv ((z1190 + 2) + (z1339 * 5))), (9, iv 1), (10, iv (z1190 + 2))]) (List.forall_mem_cons.mpr ⟨rfl, List.forall_mem_cons.mpr ⟨rfl, List.forall_mem_cons.mpr ⟨rfl, List.forall_mem_cons.mpr ⟨rfl, List.forall_mem_cons.mpr ⟨rfl, List.forall_mem_cons.mpr ⟨rfl, List.forall_mem_cons.mpr ⟨rfl, List.forall_mem_cons.mpr ⟨rfl, fun _ h => absurd h List.not_mem_nil⟩⟩⟩⟩⟩⟩⟩⟩) ?_
      exact L1468 2010 1 (z1190 + 2) trivial (rW (c := 0) (d := 1) (rR (x := 1)) rfl) (rW (c := 2) (d := 2010) (rAdd (e := 2) (f := 2002) h1193 (rR (x := 2)) rfl) rfl) (vc_X1_goThrough_12_39 h1338 h1346 h1337 h1193 h1347 h1348) (vc_X1_goThrough_12_40 h1338 h1346 h1337 h1193 h1347 h1348)
  refine mr_lvS (lv' := [(0, .ref 21), (2, iv p2), (3, .ref b10), (4, iv 0), (5, iv 0)]) (List.forall_mem_cons.mpr ⟨rfl, List.forall_mem_cons.mpr ⟨rfl, List.forall_mem_cons.mpr ⟨rfl, List.forall_mem_cons.mpr ⟨rfl, List.forall_mem_cons.mpr ⟨rfl, fun _ h => absurd h List.not_mem_nil⟩⟩⟩⟩⟩) ?_
  exact L1192 2002 0 0 μ hT mF.refl (rW (c := 0) (d := 2000) (rR (x := 0)) rfl) (rW (c := 0) (d := 30) (rR (x := 0)) rfl) hIPC hIRT R18 vc_X1_goThrough_12_41
end
