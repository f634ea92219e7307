/-- the cache of judged behind it -/
def jE (μ : mM) (a b c d z : Int) : mM := if μ 106 26 ≠ 0 ∧ μ 106 27 = a ∧ μ 106 28 = b ∧ μ 106 29 = c ∧ μ 106 30 = d then μ else mUp (mUp (mUp (mUp (mUp (mUp μ 106 31 z) 106 27 a) 106 28 b) 106 29 c) 106 30 d) 106 26 1
theorem jE.hit {μ : mM} {a b c d z : Int} (h : μ 106 26 ≠ 0 ∧ μ 106 27 = a ∧ μ 106 28 = b ∧ μ 106 29 = c ∧ μ 106 30 = d) : jE μ a b c d z = μ := if_pos h
theorem jE.miss {μ m1 m2 m3 m4 m5 m6 : mM} {a b c d z : Int} (h : ¬ (μ 106 26 ≠ 0 ∧ μ 106 27 = a ∧ μ 106 28 = b ∧ μ 106 29 = c ∧ μ 106 30 = d)) (u1 : mU μ 106 31 z m1) (u2 : mU m1 106 27 a m2) (u3 : mU m2 106 28 b m3) (u4 : mU m3 106 29 c m4) (u5 : mU m4 106 30 d m5) (u6 : mU m5 106 26 1 m6) : m6 106 31 = z ∧ m6 = jE μ a b c d z := by
  refine ⟨?_, ?_⟩
  · rw [u6.2 106 31 (Or.inr (by decide)), u5.2 106 31 (Or.inr (by decide)), u4.2 106 31 (Or.inr (by decide)), u3.2 106 31 (Or.inr (by decide)), u2.2 106 31 (Or.inr (by decide)), u1.1]
  · rw [u6.eq, u5.eq, u4.eq, u3.eq, u2.eq, u1.eq, jE, if_neg h]
set_option maxRecDepth 4000 in
set_option maxHeartbeats 4000000 in
theorem c_X12_judged_f {l : Launch} {D : va_G} {c : Nat → ClassId} {H0 : Heap} {sa : Nat × Nat × (Nat → Int32)} {w : mW} {μ : mM} (hw : mWF w) (hT : mT w μ) {p1 : Int} (hp1 : 0 ≤ p1 ∧ p1 ≤ 9) {p2 : Int} (hp2 : (-2147483648) ≤ p2 ∧ p2 ≤ 2147483647) {p3 : Int} (hp3 : (-2147483648) ≤ p3 ∧ p3 ≤ 2147483647) {p4 : Int} (hp4 : (-2147483648) ≤ p4 ∧ p4 ≤ 2147483647) {z0 : Int} (hz0 : 0 ≤ z0 ∧ z0 ≤ 2) (hA : sC (gG l D c H0 sa) mX12_judgedAnew 3 0 0 [.ref 106, iv p1, iv p2, iv p3, iv p4] (mk w μ) (qP w μ (fun z => z = z0))) (hC : μ 106 26 ≠ 0 → μ 106 27 = p1 → μ 106 28 = p2 → μ 106 29 = p3 → μ 106 30 = p4 → μ 106 31 = z0) : sC (gG l D c H0 sa) mX12_judged 4 0 0 [.ref 106, iv p1, iv p2, iv p3, iv p4] (mk w μ) (qI w [106026, 106027, 106028, 106029, 106030, 106031] μ (fun z μ1 => z = z0 ∧ μ1 = jE μ p1 p2 p3 p4 z0)) := by
  refine sC.of rfl (by decide) (le_t rfl) ?_
  refine mr_lvE (lv' := [(0, .ref 106), (1, iv p1), (2, iv p2), (3, iv p3), (4, iv p4)]) rfl ?_
  refine sv_aload_n (pc := 0) dX12_judged_0 rfl rfl ?_
  refine gf_X12_26 (pc := 1) dX12_judged_1 wF_X12_119 (A_106 hw) hT fun z1 q2 h3 => ?_
  have J138 : ∀ (μ134 : mM), (mT w μ134) → (mF [106026, 106027, 106028, 106029, 106030, 106031] w μ μ134) → (μ134 106 31 = z0 ∧ μ134 = jE μ p1 p2 p3 p4 z0) → sV (gG l D c H0 sa) mX12_judged (sRm 4 0 0) (sZ (gG l D c H0 sa) 0 0 (qI w [106026, 106027, 106028, 106029, 106030, 106031] μ (fun z μ1 => z = z0 ∧ μ1 = jE μ p1 p2 p3 p4 z0))) 79 [(0, .ref 106)] [] (mk w μ134) 0 0 := by
    intro μ134 T135 F136 hE
    refine sv_aload_n (pc := 79) dX12_judged_79 rfl rfl ?_
    refine gf_X12_31 (pc := 80) dX12_judged_80 wF_X12_139 (A_106 hw) T135 fun z139 q140 h141 => ?_
    exact mr_iret dX12_judged_83 rfl (le_t rfl) (le_t rfl) T135 (mF.call mF.refl F136 rfl) ⟨q140.symm.trans hE.1, hE.2⟩
  refine mr_if_eq (pc := 4) (tgt := 40) dX12_judged_4 (by decide) (r32 h3 rfl) (fun h142 => ?_) (fun h142 => ?_)
  · have h143 : 0 ≤ z1 ∧ z1 ≤ 0 := (vc_X12_judged_1 h142 h3)
    refine sv_aload_n (pc := 40) dX12_judged_40 rfl rfl ?_
    refine sv_aload_n (pc := 41) dX12_judged_41 rfl rfl ?_
    refine mr_iload_n (pc := 42) (z := p1) dX12_judged_42 rfl rfl ?_
    refine mr_iload_n (pc := 43) (z := p2) dX12_judged_43 rfl rfl ?_
    refine mr_iload_n (pc := 44) (z := p3) dX12_judged_44 rfl rfl ?_
    refine mr_iload (pc := 45) (z := p4) dX12_judged_45 rfl ?_
    refine mr_cVP (pc := 47) hA (gOk _ _ _ _ _) dX12_judged_47 (tX12_judgedAnew _ _ _ _ _) ⟨wV_X12_judgedAnew, wL_X12_judgedAnew⟩ wM_X12_135 (gCX12 _ _ _ _ _) rfl (A_106 hw) rfl ⟨le_t rfl, le_t rfl⟩ ⟨le_t rfl, le_t rfl⟩ rfl (le_t rfl) fun z148 h147 => ?_
    refine pf_X12_31 (pc := 50) dX12_judged_50 wF_X12_139 (A_106 hw) hT (h147 ▸ hz0) fun μ149 u150 T151 => ?_
    refine sv_aload_n (pc := 53) dX12_judged_53 rfl rfl ?_
    refine mr_iload_n (pc := 54) (z := p1) dX12_judged_54 rfl rfl ?_
    refine pf_X12_27 (pc := 55) dX12_judged_55 wF_X12_123 (A_106 hw) T151 (rW (c := (-2147483648)) (d := 2147483647) hp1 rfl) fun μ152 u153 T154 => ?_
    refine sv_aload_n (pc := 58) dX12_judged_58 rfl rfl ?_
    refine mr_iload_n (pc := 59) (z := p2) dX12_judged_59 rfl rfl ?_
    refine pf_X12_28 (pc := 60) dX12_judged_60 wF_X12_126 (A_106 hw) T154 hp2 fun μ155 u156 T157 => ?_
    refine sv_aload_n (pc := 63) dX12_judged_63 rfl rfl ?_
    refine mr_iload_n (pc := 64) (z := p3) dX12_judged_64 rfl rfl ?_
    refine pf_X12_29 (pc := 65) dX12_judged_65 wF_X12_129 (A_106 hw) T157 hp3 fun μ158 u159 T160 => ?_
    refine sv_aload_n (pc := 68) dX12_judged_68 rfl rfl ?_
    refine mr_iload (pc := 69) (z := p4) dX12_judged_69 rfl ?_
    refine pf_X12_30 (pc := 71) dX12_judged_71 wF_X12_132 (A_106 hw) T160 hp4 fun μ161 u162 T163 => ?_
    refine sv_aload_n (pc := 74) dX12_judged_74 rfl rfl ?_
    refine mr_iconst (pc := 75) (z := 1) dX12_judged_75 ?_
    refine pf_X12_26 (pc := 76) dX12_judged_76 wF_X12_119 (A_106 hw) T163 (rW (c := 0) (d := 1) (rR (x := 1)) rfl) fun μ164 u165 T166 => ?_
    refine mr_lvS (lv' := [(0, .ref 106)]) (List.forall_mem_cons.mpr ⟨rfl, fun _ h => absurd h List.not_mem_nil⟩) ?_
    exact J138 μ164 T166 (mF.up (mF.up (mF.up (mF.up (mF.up (mF.up mF.refl (A_106 hw) u150 rfl) (A_106 hw) u153 rfl) (A_106 hw) u156 rfl) (A_106 hw) u159 rfl) (A_106 hw) u162 rfl) (A_106 hw) u165 rfl) (jE.miss (fun hh => by clear hC; omega) (h147 ▸ u150) u153 u156 u159 u162 u165)
  have h167 : 1 ≤ z1 ∧ z1 ≤ 1 := (vc_X12_judged_2 h142 h3)
  refine sv_aload_n (pc := 7) dX12_judged_7 rfl rfl ?_
  refine gf_X12_27 (pc := 8) dX12_judged_8 wF_X12_123 (A_106 hw) hT fun z168 q169 h170 => ?_
  refine mr_iload_n (pc := 11) (z := p1) dX12_judged_11 rfl rfl ?_
  refine mr_icmp_ne (pc := 12) (tgt := 40) dX12_judged_12 (by decide) h170 (r32 hp1 rfl) (fun h171 => ?_) (fun h171 => ?_)
  · refine sv_aload_n (pc := 40) dX12_judged_40 rfl rfl ?_
    refine sv_aload_n (pc := 41) dX12_judged_41 rfl rfl ?_
    refine mr_iload_n (pc := 42) (z := p1) dX12_judged_42 rfl rfl ?_
    refine mr_iload_n (pc := 43) (z := p2) dX12_judged_43 rfl rfl ?_
    refine mr_iload_n (pc := 44) (z := p3) dX12_judged_44 rfl rfl ?_
    refine mr_iload (pc := 45) (z := p4) dX12_judged_45 rfl ?_
    refine mr_cVP (pc := 47) hA (gOk _ _ _ _ _) dX12_judged_47 (tX12_judgedAnew _ _ _ _ _) ⟨wV_X12_judgedAnew, wL_X12_judgedAnew⟩ wM_X12_135 (gCX12 _ _ _ _ _) rfl (A_106 hw) rfl ⟨le_t rfl, le_t rfl⟩ ⟨le_t rfl, le_t rfl⟩ rfl (le_t rfl) fun z176 h175 => ?_
    refine pf_X12_31 (pc := 50) dX12_judged_50 wF_X12_139 (A_106 hw) hT (h175 ▸ hz0) fun μ177 u178 T179 => ?_
    refine sv_aload_n (pc := 53) dX12_judged_53 rfl rfl ?_
    refine mr_iload_n (pc := 54) (z := p1) dX12_judged_54 rfl rfl ?_
    refine pf_X12_27 (pc := 55) dX12_judged_55 wF_X12_123 (A_106 hw) T179 (rW (c := (-2147483648)) (d := 2147483647) hp1 rfl) fun μ180 u181 T182 => ?_
    refine sv_aload_n (pc := 58) dX12_judged_58 rfl rfl ?_
    refine mr_iload_n (pc := 59) (z := p2) dX12_judged_59 rfl rfl ?_
    refine pf_X12_28 (pc := 60) dX12_judged_60 wF_X12_126 (A_106 hw) T182 hp2 fun μ183 u184 T185 => ?_
    refine sv_aload_n (pc := 63) dX12_judged_63 rfl rfl ?_
    refine mr_iload_n (pc := 64) (z := p3) dX12_judged_64 rfl rfl ?_
    refine pf_X12_29 (pc := 65) dX12_judged_65 wF_X12_129 (A_106 hw) T185 hp3 fun μ186 u187 T188 => ?_
    refine sv_aload_n (pc := 68) dX12_judged_68 rfl rfl ?_
    refine mr_iload (pc := 69) (z := p4) dX12_judged_69 rfl ?_
    refine pf_X12_30 (pc := 71) dX12_judged_71 wF_X12_132 (A_106 hw) T188 hp4 fun μ189 u190 T191 => ?_
    refine sv_aload_n (pc := 74) dX12_judged_74 rfl rfl ?_
    refine mr_iconst (pc := 75) (z := 1) dX12_judged_75 ?_
    refine pf_X12_26 (pc := 76) dX12_judged_76 wF_X12_119 (A_106 hw) T191 (rW (c := 0) (d := 1) (rR (x := 1)) rfl) fun μ192 u193 T194 => ?_
    refine mr_lvS (lv' := [(0, .ref 106)]) (List.forall_mem_cons.mpr ⟨rfl, fun _ h => absurd h List.not_mem_nil⟩) ?_
    exact J138 μ192 T194 (mF.up (mF.up (mF.up (mF.up (mF.up (mF.up mF.refl (A_106 hw) u178 rfl) (A_106 hw) u181 rfl) (A_106 hw) u184 rfl) (A_106 hw) u187 rfl) (A_106 hw) u190 rfl) (A_106 hw) u193 rfl) (jE.miss (fun hh => by clear hC; omega) (h175 ▸ u178) u181 u184 u187 u190 u193)
  have h195 : 0 ≤ z168 ∧ z168 ≤ 9 := (vc_X12_judged_3 h171 hp1 h170)
  refine sv_aload_n (pc := 15) dX12_judged_15 rfl rfl ?_
  refine gf_X12_28 (pc := 16) dX12_judged_16 wF_X12_126 (A_106 hw) hT fun z196 q197 h198 => ?_
  refine mr_iload_n (pc := 19) (z := p2) dX12_judged_19 rfl rfl ?_
  refine mr_icmp_ne (pc := 20) (tgt := 40) dX12_judged_20 (by decide) h198 hp2 (fun h199 => ?_) (fun h199 => ?_)
  · refine sv_aload_n (pc := 40) dX12_judged_40 rfl rfl ?_
    refine sv_aload_n (pc := 41) dX12_judged_41 rfl rfl ?_
    refine mr_iload_n (pc := 42) (z := p1) dX12_judged_42 rfl rfl ?_
    refine mr_iload_n (pc := 43) (z := p2) dX12_judged_43 rfl rfl ?_
    refine mr_iload_n (pc := 44) (z := p3) dX12_judged_44 rfl rfl ?_
    refine mr_iload (pc := 45) (z := p4) dX12_judged_45 rfl ?_
    refine mr_cVP (pc := 47) hA (gOk _ _ _ _ _) dX12_judged_47 (tX12_judgedAnew _ _ _ _ _) ⟨wV_X12_judgedAnew, wL_X12_judgedAnew⟩ wM_X12_135 (gCX12 _ _ _ _ _) rfl (A_106 hw) rfl ⟨le_t rfl, le_t rfl⟩ ⟨le_t rfl, le_t rfl⟩ rfl (le_t rfl) fun z204 h203 => ?_
    refine pf_X12_31 (pc := 50) dX12_judged_50 wF_X12_139 (A_106 hw) hT (h203 ▸ hz0) fun μ205 u206 T207 => ?_
    refine sv_aload_n (pc := 53) dX12_judged_53 rfl rfl ?_
    refine mr_iload_n (pc := 54) (z := p1) dX12_judged_54 rfl rfl ?_
    refine pf_X12_27 (pc := 55) dX12_judged_55 wF_X12_123 (A_106 hw) T207 (rW (c := (-2147483648)) (d := 2147483647) hp1 rfl) fun μ208 u209 T210 => ?_
    refine sv_aload_n (pc := 58) dX12_judged_58 rfl rfl ?_
    refine mr_iload_n (pc := 59) (z := p2) dX12_judged_59 rfl rfl ?_
    refine pf_X12_28 (pc := 60) dX12_judged_60 wF_X12_126 (A_106 hw) T210 hp2 fun μ211 u212 T213 => ?_
    refine sv_aload_n (pc := 63) dX12_judged_63 rfl rfl ?_
    refine mr_iload_n (pc := 64) (z := p3) dX12_judged_64 rfl rfl ?_
    refine pf_X12_29 (pc := 65) dX12_judged_65 wF_X12_129 (A_106 hw) T213 hp3 fun μ214 u215 T216 => ?_
    refine sv_aload_n (pc := 68) dX12_judged_68 rfl rfl ?_
    refine mr_iload (pc := 69) (z := p4) dX12_judged_69 rfl ?_
    refine pf_X12_30 (pc := 71) dX12_judged_71 wF_X12_132 (A_106 hw) T216 hp4 fun μ217 u218 T219 => ?_
    refine sv_aload_n (pc := 74) dX12_judged_74 rfl rfl ?_
    refine mr_iconst (pc := 75) (z := 1) dX12_judged_75 ?_
    refine pf_X12_26 (pc := 76) dX12_judged_76 wF_X12_119 (A_106 hw) T219 (rW (c := 0) (d := 1) (rR (x := 1)) rfl) fun μ220 u221 T222 => ?_
    refine mr_lvS (lv' := [(0, .ref 106)]) (List.forall_mem_cons.mpr ⟨rfl, fun _ h => absurd h List.not_mem_nil⟩) ?_
    exact J138 μ220 T222 (mF.up (mF.up (mF.up (mF.up (mF.up (mF.up mF.refl (A_106 hw) u206 rfl) (A_106 hw) u209 rfl) (A_106 hw) u212 rfl) (A_106 hw) u215 rfl) (A_106 hw) u218 rfl) (A_106 hw) u221 rfl) (jE.miss (fun hh => by clear hC; omega) (h203 ▸ u206) u209 u212 u215 u218 u221)
  refine sv_aload_n (pc := 23) dX12_judged_23 rfl rfl ?_
  refine gf_X12_29 (pc := 24) dX12_judged_24 wF_X12_129 (A_106 hw) hT fun z223 q224 h225 => ?_
  refine mr_iload_n (pc := 27) (z := p3) dX12_judged_27 rfl rfl ?_
  refine mr_icmp_ne (pc := 28) (tgt := 40) dX12_judged_28 (by decide) h225 hp3 (fun h226 => ?_) (fun h226 => ?_)
  · refine sv_aload_n (pc := 40) dX12_judged_40 rfl rfl ?_
    refine sv_aload_n (pc := 41) dX12_judged_41 rfl rfl ?_
    refine mr_iload_n (pc := 42) (z := p1) dX12_judged_42 rfl rfl ?_
    refine mr_iload_n (pc := 43) (z := p2) dX12_judged_43 rfl rfl ?_
    refine mr_iload_n (pc := 44) (z := p3) dX12_judged_44 rfl rfl ?_
    refine mr_iload (pc := 45) (z := p4) dX12_judged_45 rfl ?_
    refine mr_cVP (pc := 47) hA (gOk _ _ _ _ _) dX12_judged_47 (tX12_judgedAnew _ _ _ _ _) ⟨wV_X12_judgedAnew, wL_X12_judgedAnew⟩ wM_X12_135 (gCX12 _ _ _ _ _) rfl (A_106 hw) rfl ⟨le_t rfl, le_t rfl⟩ ⟨le_t rfl, le_t rfl⟩ rfl (le_t rfl) fun z231 h230 => ?_
    refine pf_X12_31 (pc := 50) dX12_judged_50 wF_X12_139 (A_106 hw) hT (h230 ▸ hz0) fun μ232 u233 T234 => ?_
    refine sv_aload_n (pc := 53) dX12_judged_53 rfl rfl ?_
    refine mr_iload_n (pc := 54) (z := p1) dX12_judged_54 rfl rfl ?_
    refine pf_X12_27 (pc := 55) dX12_judged_55 wF_X12_123 (A_106 hw) T234 (rW (c := (-2147483648)) (d := 2147483647) hp1 rfl) fun μ235 u236 T237 => ?_
    refine sv_aload_n (pc := 58) dX12_judged_58 rfl rfl ?_
    refine mr_iload_n (pc := 59) (z := p2) dX12_judged_59 rfl rfl ?_
    refine pf_X12_28 (pc := 60) dX12_judged_60 wF_X12_126 (A_106 hw) T237 hp2 fun μ238 u239 T240 => ?_
    refine sv_aload_n (pc := 63) dX12_judged_63 rfl rfl ?_
    refine mr_iload_n (pc := 64) (z := p3) dX12_judged_64 rfl rfl ?_
    refine pf_X12_29 (pc := 65) dX12_judged_65 wF_X12_129 (A_106 hw) T240 hp3 fun μ241 u242 T243 => ?_
    refine sv_aload_n (pc := 68) dX12_judged_68 rfl rfl ?_
    refine mr_iload (pc := 69) (z := p4) dX12_judged_69 rfl ?_
    refine pf_X12_30 (pc := 71) dX12_judged_71 wF_X12_132 (A_106 hw) T243 hp4 fun μ244 u245 T246 => ?_
    refine sv_aload_n (pc := 74) dX12_judged_74 rfl rfl ?_
    refine mr_iconst (pc := 75) (z := 1) dX12_judged_75 ?_
    refine pf_X12_26 (pc := 76) dX12_judged_76 wF_X12_119 (A_106 hw) T246 (rW (c := 0) (d := 1) (rR (x := 1)) rfl) fun μ247 u248 T249 => ?_
    refine mr_lvS (lv' := [(0, .ref 106)]) (List.forall_mem_cons.mpr ⟨rfl, fun _ h => absurd h List.not_mem_nil⟩) ?_
    exact J138 μ247 T249 (mF.up (mF.up (mF.up (mF.up (mF.up (mF.up mF.refl (A_106 hw) u233 rfl) (A_106 hw) u236 rfl) (A_106 hw) u239 rfl) (A_106 hw) u242 rfl) (A_106 hw) u245 rfl) (A_106 hw) u248 rfl) (jE.miss (fun hh => by clear hC; omega) (h230 ▸ u233) u236 u239 u242 u245 u248)
  refine sv_aload_n (pc := 31) dX12_judged_31 rfl rfl ?_
  refine gf_X12_30 (pc := 32) dX12_judged_32 wF_X12_132 (A_106 hw) hT fun z250 q251 h252 => ?_
  refine mr_iload (pc := 35) (z := p4) dX12_judged_35 rfl ?_
  refine mr_icmp_eq (pc := 37) (tgt := 79) dX12_judged_37 (by decide) h252 hp4 (fun h253 => ?_) (fun h253 => ?_)
  · refine mr_lvS (lv' := [(0, .ref 106)]) (List.forall_mem_cons.mpr ⟨rfl, fun _ h => absurd h List.not_mem_nil⟩) ?_
    exact J138 μ hT mF.refl ⟨hC (by clear hC; omega) (by clear hC; omega) (by clear hC; omega) (by clear hC; omega) (by clear hC; omega), (jE.hit (by clear hC; omega)).symm⟩
  refine sv_aload_n (pc := 40) dX12_judged_40 rfl rfl ?_
  refine sv_aload_n (pc := 41) dX12_judged_41 rfl rfl ?_
  refine mr_iload_n (pc := 42) (z := p1) dX12_judged_42 rfl rfl ?_
  refine mr_iload_n (pc := 43) (z := p2) dX12_judged_43 rfl rfl ?_
  refine mr_iload_n (pc := 44) (z := p3) dX12_judged_44 rfl rfl ?_
  refine mr_iload (pc := 45) (z := p4) dX12_judged_45 rfl ?_
  refine mr_cVP (pc := 47) hA (gOk _ _ _ _ _) dX12_judged_47 (tX12_judgedAnew _ _ _ _ _) ⟨wV_X12_judgedAnew, wL_X12_judgedAnew⟩ wM_X12_135 (gCX12 _ _ _ _ _) rfl (A_106 hw) rfl ⟨le_t rfl, le_t rfl⟩ ⟨le_t rfl, le_t rfl⟩ rfl (le_t rfl) fun z258 h257 => ?_
  refine pf_X12_31 (pc := 50) dX12_judged_50 wF_X12_139 (A_106 hw) hT (h257 ▸ hz0) fun μ259 u260 T261 => ?_
  refine sv_aload_n (pc := 53) dX12_judged_53 rfl rfl ?_
  refine mr_iload_n (pc := 54) (z := p1) dX12_judged_54 rfl rfl ?_
  refine pf_X12_27 (pc := 55) dX12_judged_55 wF_X12_123 (A_106 hw) T261 (rW (c := (-2147483648)) (d := 2147483647) hp1 rfl) fun μ262 u263 T264 => ?_
  refine sv_aload_n (pc := 58) dX12_judged_58 rfl rfl ?_
  refine mr_iload_n (pc := 59) (z := p2) dX12_judged_59 rfl rfl ?_
  refine pf_X12_28 (pc := 60) dX12_judged_60 wF_X12_126 (A_106 hw) T264 hp2 fun μ265 u266 T267 => ?_
  refine sv_aload_n (pc := 63) dX12_judged_63 rfl rfl ?_
  refine mr_iload_n (pc := 64) (z := p3) dX12_judged_64 rfl rfl ?_
  refine pf_X12_29 (pc := 65) dX12_judged_65 wF_X12_129 (A_106 hw) T267 hp3 fun μ268 u269 T270 => ?_
  refine sv_aload_n (pc := 68) dX12_judged_68 rfl rfl ?_
  refine mr_iload (pc := 69) (z := p4) dX12_judged_69 rfl ?_
  refine pf_X12_30 (pc := 71) dX12_judged_71 wF_X12_132 (A_106 hw) T270 hp4 fun μ271 u272 T273 => ?_
  refine sv_aload_n (pc := 74) dX12_judged_74 rfl rfl ?_
  refine mr_iconst (pc := 75) (z := 1) dX12_judged_75 ?_
  refine pf_X12_26 (pc := 76) dX12_judged_76 wF_X12_119 (A_106 hw) T273 (rW (c := 0) (d := 1) (rR (x := 1)) rfl) fun μ274 u275 T276 => ?_
  refine mr_lvS (lv' := [(0, .ref 106)]) (List.forall_mem_cons.mpr ⟨rfl, fun _ h => absurd h List.not_mem_nil⟩) ?_
  exact J138 μ274 T276 (mF.up (mF.up (mF.up (mF.up (mF.up (mF.up mF.refl (A_106 hw) u260 rfl) (A_106 hw) u263 rfl) (A_106 hw) u266 rfl) (A_106 hw) u269 rfl) (A_106 hw) u272 rfl) (A_106 hw) u275 rfl) (jE.miss (fun hh => by clear hC; omega) (h257 ▸ u260) u263 u266 u269 u272 u275)
