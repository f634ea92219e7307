theorem op_24 {l : Launch} {D : va_G} {c : Nat → ClassId} {H0 : Heap} {sa : Nat × Nat × (Nat → Int32)} {w : mW} {μ : mM} {L : Int} (hJ : J w μ) (hK : K3 w μ L) (hL : 0 ≤ L ∧ L + 7 ≤ (sa.2.1 : Int)) (hs : sa.2.1 ≤ 3584) (nx : ∀ (w1 : mW) (μ1 : mM) (ce sl : Nat), J w1 μ1 → K3 w1 μ1 (L + 7) → sV (gG l D c H0 sa) mL room_1 lwZ 1798 [(3, iv L), (2, .ref 106), (1, .ref 0), (0, .retAddr 0)] [] (mk w1 μ1) ce sl) : sV (gG l D c H0 sa) mL room_1 lwZ 1116 [(3, iv L), (2, .ref 106), (1, .ref 0), (0, .retAddr 0)] [] (mk w μ) w.1 (szW w) := by
  have hb := hJ.bd
  have hK0 := hK
  obtain ⟨y, kC, kR, kX, kU, kB, kT⟩ := hK
  have hM : sMd (xS (yX y)) ≤ 2000000000 := by omega
  refine sv_aload_n (pc := 1116) dL_law_1116 rfl rfl ?_
  refine la_argE (pc := 1117) (j := 1) dL_law_1117 dL_law_1118 dL_law_1119 dL_law_1120 dL_law_1121 rfl rfl hL (by decide) hs fun a1 s1 b1 => ?_
  refine mr_cVI (pc := 1122) (c_X11_go_W hJ.1 hJ.2.1 b1 hJ.2.2.1 (C_go hJ.1 hJ.2.1 kC.1 kX.1)) (gOk _ _ _ _ _) dL_law_1122 (tX11_go _ _ _ _ _) ⟨wV_X11_go, wL_X11_go⟩ wM_DomainHouseLaw_118 (gCX11 _ _ _ _ _) rfl (A_0 hJ.1) rfl ⟨le_t rfl, le_t rfl⟩ ⟨show w.1 ≤ 600000 by omega, show szW w ≤ 7302250 by omega⟩ rfl (le_t rfl) fun z2 μ2 T2 F2 P2 => ?_
  obtain ⟨rg2, ⟨ez2, kc2⟩, _⟩ := P2
  have J2 : J w μ2 := hJ.cls T2 F2 rfl (hJ.2.2.2.1.f hJ.1 F2 rfl rfl)
  have kR2 : K2R μ2 y := kR.fr hJ.1 hJ.2.1 (mX.ofF F2) rfl
  have kC2 : K2C w μ2 (y2 ((go! (yX y) a1).2) y) := kC.up hJ.1 F2 rfl (kc2 (mF.refl.call F2 rfl)) sm_go.1 (congrArg jL sm_go.2)
  have kT2 : TW μ2 := kT.fr hJ.1 (mX.ofF F2) rfl
  refine sv_pop (pc := 1125) dL_law_1125 rfl ?_
  refine sv_aload_n (pc := 1126) dL_law_1126 rfl rfl ?_
  refine la_argE (pc := 1127) (j := 1) dL_law_1127 dL_law_1128 dL_law_1129 dL_law_1130 dL_law_1131 rfl rfl hL (by decide) hs fun a3 s3 b3 => ?_
  obtain rfl : a1 = a3 := s1.trans s3.symm
  refine mr_cVI (pc := 1132) (c_X12_go_W J2.1 J2.2.1 b3 J2.2.2.2.2.2.2.1.1 J2.2.2.2.2.2.2.1.2.1 J2.2.2.2.2.2.2.1.2.2 (R_go J2.1 J2.2.1 kR2.1 kX.1 hM)) (gOk _ _ _ _ _) dL_law_1132 (tX12_go _ _ _ _ _) ⟨wV_X12_go, wL_X12_go⟩ wM_DomainHouseLaw_121 (gCX12 _ _ _ _ _) rfl (A_106 J2.1) rfl ⟨le_t rfl, le_t rfl⟩ ⟨show w.1 ≤ 600000 by omega, show szW w ≤ 7302250 by omega⟩ rfl (le_t rfl) fun z4 μ4 T4 F4 P4 => ?_
  obtain ⟨rg4, _, _, ⟨ez4, kc4⟩, _⟩ := P4
  have kR4 : K2R μ4 (y2 ((go! (yX y) a1).2) y) := kR2.up J2.1 F4 rfl (kc4 (mF.refl.call F4 rfl))
  have kC4 : K2C w μ4 (y2 ((go! (yX y) a1).2) y) := kC2.fr J2.1 J2.2.1 (mX.ofF F4) rfl
  have kS : k2S y (y2 ((go! (yX y) a1).2) y) := kX.up (X_go kX.1) sm_go.1 sm_go.2
  have J4 : J w μ4 := J2.mod T4 F4 rfl rfl (G1.ofK kR4 kS.1) (EV.ofK kR4 kS.1) (PK.ofK kR4 (J2.2.2.2.2.2.2.1.2.2.pT J2.1 F4 rfl)) (F4.f (A_106 J2.1) rfl rfl)
  have kT4 : TW μ4 := kT2.fr J2.1 (mX.ofF F4) rfl
  refine sv_pop (pc := 1135) dL_law_1135 rfl ?_
  refine sv_goto (pc := 1136) (tgt := 1798) dL_law_1136 (by decide) ?_
  exact nx w μ4 _ _ J4 (K3.mk kC4 kR4 kS (U_go kX.1 kU) kB kT4)
theorem op_25 {l : Launch} {D : va_G} {c : Nat → ClassId} {H0 : Heap} {sa : Nat × Nat × (Nat → Int32)} {w : mW} {μ : mM} {L : Int} (hJ : J w μ) (hK : K3 w μ L) (hL : 0 ≤ L ∧ L + 7 ≤ (sa.2.1 : Int)) (hs : sa.2.1 ≤ 3584) (nx : ∀ (w1 : mW) (μ1 : mM) (ce sl : Nat), J w1 μ1 → K3 w1 μ1 (L + 7) → sV (gG l D c H0 sa) mL room_1 lwZ 1798 [(3, iv L), (2, .ref 106), (1, .ref 0), (0, .retAddr 0)] [] (mk w1 μ1) ce sl) : sV (gG l D c H0 sa) mL room_1 lwZ 1139 [(3, iv L), (2, .ref 106), (1, .ref 0), (0, .retAddr 0)] [] (mk w μ) w.1 (szW w) := by
  have hb := hJ.bd
  have hK0 := hK
  obtain ⟨y, kC, kR, kX, kU, kB, kT⟩ := hK
  have hM : sMd (xS (yX y)) ≤ 2000000000 := by omega
  refine sv_aload_n (pc := 1139) dL_law_1139 rfl rfl ?_
  refine la_argE (pc := 1140) (j := 1) dL_law_1140 dL_law_1141 dL_law_1142 dL_law_1143 dL_law_1144 rfl rfl hL (by decide) hs fun a1 s1 b1 => ?_
  refine mr_cVI (pc := 1145) (c_X11_until_W hJ.1 hJ.2.1 b1 hJ.2.2.1 (C_until hJ.1 hJ.2.1 kC.1 kX.1)) (gOk _ _ _ _ _) dL_law_1145 (tX11_until _ _ _ _ _) ⟨wV_X11_until, wL_X11_until⟩ wM_DomainHouseLaw_122 (gCX11 _ _ _ _ _) rfl (A_0 hJ.1) rfl ⟨le_t rfl, le_t rfl⟩ ⟨show w.1 ≤ 600000 by omega, show szW w ≤ 7302250 by omega⟩ rfl (le_t rfl) fun z2 μ2 T2 F2 P2 => ?_
  obtain ⟨rg2, ⟨ez2, kc2⟩, _⟩ := P2
  have J2 : J w μ2 := hJ.cls T2 F2 rfl (hJ.2.2.2.1.f hJ.1 F2 rfl rfl)
  have kR2 : K2R μ2 y := kR.fr hJ.1 hJ.2.1 (mX.ofF F2) rfl
  have kC2 : K2C w μ2 (y2 ((unt! (yX y) a1).2) y) := kC.up hJ.1 F2 rfl (kc2 (mF.refl.call F2 rfl)) sm_unt.1 (congrArg jL sm_unt.2)
  have kT2 : TW μ2 := kT.fr hJ.1 (mX.ofF F2) rfl
  refine sv_pop (pc := 1148) dL_law_1148 rfl ?_
  refine sv_aload_n (pc := 1149) dL_law_1149 rfl rfl ?_
  refine la_argE (pc := 1150) (j := 1) dL_law_1150 dL_law_1151 dL_law_1152 dL_law_1153 dL_law_1154 rfl rfl hL (by decide) hs fun a3 s3 b3 => ?_
  obtain rfl : a1 = a3 := s1.trans s3.symm
  refine mr_cVI (pc := 1155) (c_X12_until_W J2.1 J2.2.1 b3 J2.2.2.2.2.2.2.1.1 J2.2.2.2.2.2.2.1.2.1 J2.2.2.2.2.2.2.1.2.2 (R_until J2.1 J2.2.1 kR2.1 kX.1 hM)) (gOk _ _ _ _ _) dL_law_1155 (tX12_until _ _ _ _ _) ⟨wV_X12_until, wL_X12_until⟩ wM_DomainHouseLaw_125 (gCX12 _ _ _ _ _) rfl (A_106 J2.1) rfl ⟨le_t rfl, le_t rfl⟩ ⟨show w.1 ≤ 600000 by omega, show szW w ≤ 7302250 by omega⟩ rfl (le_t rfl) fun z4 μ4 T4 F4 P4 => ?_
  obtain ⟨rg4, _, _, ⟨ez4, kc4⟩, _⟩ := P4
  have kR4 : K2R μ4 (y2 ((unt! (yX y) a1).2) y) := kR2.up J2.1 F4 rfl (kc4 (mF.refl.call F4 rfl))
  have kC4 : K2C w μ4 (y2 ((unt! (yX y) a1).2) y) := kC2.fr J2.1 J2.2.1 (mX.ofF F4) rfl
  have kS : k2S y (y2 ((unt! (yX y) a1).2) y) := kX.up (X_until kX.1) sm_unt.1 sm_unt.2
  have J4 : J w μ4 := J2.mod T4 F4 rfl rfl (G1.ofK kR4 kS.1) (EV.ofK kR4 kS.1) (PK.ofK kR4 (J2.2.2.2.2.2.2.1.2.2.pT J2.1 F4 rfl)) (F4.f (A_106 J2.1) rfl rfl)
  have kT4 : TW μ4 := kT2.fr J2.1 (mX.ofF F4) rfl
  refine sv_pop (pc := 1158) dL_law_1158 rfl ?_
  refine sv_goto (pc := 1159) (tgt := 1798) dL_law_1159 (by decide) ?_
  exact nx w μ4 _ _ J4 (K3.mk kC4 kR4 kS (U_until kX.1 kU) kB kT4)
theorem op_26 {l : Launch} {D : va_G} {c : Nat → ClassId} {H0 : Heap} {sa : Nat × Nat × (Nat → Int32)} {w : mW} {μ : mM} {L : Int} (hJ : J w μ) (hK : K3 w μ L) (hL : 0 ≤ L ∧ L + 7 ≤ (sa.2.1 : Int)) (hs : sa.2.1 ≤ 3584) (nx : ∀ (w1 : mW) (μ1 : mM) (ce sl : Nat), J w1 μ1 → K3 w1 μ1 (L + 7) → sV (gG l D c H0 sa) mL room_1 lwZ 1798 [(3, iv L), (2, .ref 106), (1, .ref 0), (0, .retAddr 0)] [] (mk w1 μ1) ce sl) : sV (gG l D c H0 sa) mL room_1 lwZ 1162 [(3, iv L), (2, .ref 106), (1, .ref 0), (0, .retAddr 0)] [] (mk w μ) w.1 (szW w) := by
  have hb := hJ.bd
  have hK0 := hK
  obtain ⟨y, kC, kR, kX, kU, kB, kT⟩ := hK
  have hM : sMd (xS (yX y)) ≤ 2000000000 := by omega
  refine sv_aload_n (pc := 1162) dL_law_1162 rfl rfl ?_
  refine la_argE (pc := 1163) (j := 1) dL_law_1163 dL_law_1164 dL_law_1165 dL_law_1166 dL_law_1167 rfl rfl hL (by decide) hs fun a1 s1 b1 => ?_
  refine la_argE (pc := 1168) (j := 2) dL_law_1168 dL_law_1169 dL_law_1170 dL_law_1171 dL_law_1172 rfl rfl hL (by decide) hs fun a2 s2 b2 => ?_
  refine mr_cVI (pc := 1173) (c_X11_picked_W hJ.1 hJ.2.1 b1 b2 (C_picked hJ.1 hJ.2.1 kC.1 kX.1)) (gOk _ _ _ _ _) dL_law_1173 (tX11_picked _ _ _ _ _) ⟨wV_X11_picked, wL_X11_picked⟩ wM_DomainHouseLaw_126 (gCX11 _ _ _ _ _) rfl (A_0 hJ.1) rfl ⟨le_t rfl, le_t rfl⟩ ⟨show w.1 ≤ 600000 by omega, show szW w ≤ 7302250 by omega⟩ rfl (le_t rfl) fun z3 μ3 T3 F3 P3 => ?_
  obtain ⟨rg3, ⟨ez3, kc3⟩, _⟩ := P3
  have J3 : J w μ3 := hJ.cls T3 F3 rfl (hJ.2.2.2.1.f hJ.1 F3 rfl rfl)
  have kR3 : K2R μ3 y := kR.fr hJ.1 hJ.2.1 (mX.ofF F3) rfl
  have kC3 : K2C w μ3 (y2 ((pck! (yX y) a1 a2).2) y) := kC.up hJ.1 F3 rfl (kc3 (mF.refl.call F3 rfl)) sm_pck.1 (congrArg jL sm_pck.2)
  have kT3 : TW μ3 := kT.fr hJ.1 (mX.ofF F3) rfl
  refine sv_pop (pc := 1176) dL_law_1176 rfl ?_
  refine sv_aload_n (pc := 1177) dL_law_1177 rfl rfl ?_
  refine la_argE (pc := 1178) (j := 1) dL_law_1178 dL_law_1179 dL_law_1180 dL_law_1181 dL_law_1182 rfl rfl hL (by decide) hs fun a4 s4 b4 => ?_
  refine la_argE (pc := 1183) (j := 2) dL_law_1183 dL_law_1184 dL_law_1185 dL_law_1186 dL_law_1187 rfl rfl hL (by decide) hs fun a5 s5 b5 => ?_
  obtain rfl : a1 = a4 := s1.trans s4.symm
  obtain rfl : a2 = a5 := s2.trans s5.symm
  refine mr_cVI (pc := 1188) (c_X12_picked_W J3.1 J3.2.1 b4 b5 (R_picked J3.1 J3.2.1 kR3.1 kX.1)) (gOk _ _ _ _ _) dL_law_1188 (tX12_picked _ _ _ _ _) ⟨wV_X12_picked, wL_X12_picked⟩ wM_DomainHouseLaw_129 (gCX12 _ _ _ _ _) rfl (A_106 J3.1) rfl ⟨le_t rfl, le_t rfl⟩ ⟨show w.1 ≤ 600000 by omega, show szW w ≤ 7302250 by omega⟩ rfl (le_t rfl) fun z6 μ6 T6 F6 P6 => ?_
  obtain ⟨rg6, ⟨ez6, kc6⟩, _⟩ := P6
  have kR6 : K2R μ6 (y2 ((pck! (yX y) a1 a2).2) y) := kR3.up J3.1 F6 rfl kc6
  have kC6 : K2C w μ6 (y2 ((pck! (yX y) a1 a2).2) y) := kC3.fr J3.1 J3.2.1 (mX.ofF F6) rfl
  have kS : k2S y (y2 ((pck! (yX y) a1 a2).2) y) := kX.up (X_picked kX.1) sm_pck.1 sm_pck.2
  have J6 : J w μ6 := J3.mod T6 F6 rfl rfl (G1.ofK kR6 kS.1) (EV.ofK kR6 kS.1) (PK.ofK kR6 (J3.2.2.2.2.2.2.1.2.2.pT J3.1 F6 rfl)) (F6.f (A_106 J3.1) rfl rfl)
  have kT6 : TW μ6 := kT3.fr J3.1 (mX.ofF F6) rfl
  refine sv_pop (pc := 1191) dL_law_1191 rfl ?_
  refine sv_goto (pc := 1192) (tgt := 1798) dL_law_1192 (by decide) ?_
  exact nx w μ6 _ _ J6 (K3.mk kC6 kR6 kS (U_picked kU) kB kT6)
theorem op_27 {l : Launch} {D : va_G} {c : Nat → ClassId} {H0 : Heap} {sa : Nat × Nat × (Nat → Int32)} {w : mW} {μ : mM} {L : Int} (hJ : J w μ) (hK : K3 w μ L) (hL : 0 ≤ L ∧ L + 7 ≤ (sa.2.1 : Int)) (hs : sa.2.1 ≤ 3584) (nx : ∀ (w1 : mW) (μ1 : mM) (ce sl : Nat), J w1 μ1 → K3 w1 μ1 (L + 7) → sV (gG l D c H0 sa) mL room_1 lwZ 1798 [(3, iv L), (2, .ref 106), (1, .ref 0), (0, .retAddr 0)] [] (mk w1 μ1) ce sl) : sV (gG l D c H0 sa) mL room_1 lwZ 1195 [(3, iv L), (2, .ref 106), (1, .ref 0), (0, .retAddr 0)] [] (mk w μ) w.1 (szW w) := by
  have hb := hJ.bd
  have hK0 := hK
  obtain ⟨y, kC, kR, kX, kU, kB, kT⟩ := hK
  have hM : sMd (xS (yX y)) ≤ 2000000000 := by omega
  refine sv_aload_n (pc := 1195) dL_law_1195 rfl rfl ?_
  refine la_argE (pc := 1196) (j := 1) dL_law_1196 dL_law_1197 dL_law_1198 dL_law_1199 dL_law_1200 rfl rfl hL (by decide) hs fun a1 s1 b1 => ?_
  refine la_argE (pc := 1201) (j := 2) dL_law_1201 dL_law_1202 dL_law_1203 dL_law_1204 dL_law_1205 rfl rfl hL (by decide) hs fun a2 s2 b2 => ?_
  refine la_argE (pc := 1206) (j := 3) dL_law_1206 dL_law_1207 dL_law_1208 dL_law_1209 dL_law_1210 rfl rfl hL (by decide) hs fun a3 s3 b3 => ?_
  refine la_argE (pc := 1211) (j := 4) dL_law_1211 dL_law_1212 dL_law_1213 dL_law_1214 dL_law_1215 rfl rfl hL (by decide) hs fun a4 s4 b4 => ?_
  refine mr_cVI (pc := 1216) (c_X11_heard_W hJ.1 hJ.2.1 b1 b2 b3 b4 (C_heard hJ.1 hJ.2.1 kC.1 kX.1)) (gOk _ _ _ _ _) dL_law_1216 (tX11_heard _ _ _ _ _) ⟨wV_X11_heard, wL_X11_heard⟩ wM_DomainHouseLaw_130 (gCX11 _ _ _ _ _) rfl (A_0 hJ.1) rfl ⟨le_t rfl, le_t rfl⟩ ⟨show w.1 ≤ 600000 by omega, show szW w ≤ 7302250 by omega⟩ rfl (le_t rfl) fun z5 μ5 T5 F5 P5 => ?_
  obtain ⟨rg5, ⟨ez5, kc5⟩, _⟩ := P5
  have J5 : J w μ5 := hJ.cls T5 F5 rfl (hJ.2.2.2.1.f hJ.1 F5 rfl rfl)
  have kR5 : K2R μ5 y := kR.fr hJ.1 hJ.2.1 (mX.ofF F5) rfl
  have kC5 : K2C w μ5 (y2 ((hrd! (yX y) a1 a2 a3 a4).2) y) := kC.up hJ.1 F5 rfl (kc5 (mF.refl.call F5 rfl)) sm_hrd.1 (congrArg jL sm_hrd.2)
  have kT5 : TW μ5 := kT.fr hJ.1 (mX.ofF F5) rfl
  refine sv_pop (pc := 1219) dL_law_1219 rfl ?_
  refine sv_aload_n (pc := 1220) dL_law_1220 rfl rfl ?_
  refine la_argE (pc := 1221) (j := 1) dL_law_1221 dL_law_1222 dL_law_1223 dL_law_1224 dL_law_1225 rfl rfl hL (by decide) hs fun a6 s6 b6 => ?_
  refine la_argE (pc := 1226) (j := 2) dL_law_1226 dL_law_1227 dL_law_1228 dL_law_1229 dL_law_1230 rfl rfl hL (by decide) hs fun a7 s7 b7 => ?_
  refine la_argE (pc := 1231) (j := 3) dL_law_1231 dL_law_1232 dL_law_1233 dL_law_1234 dL_law_1235 rfl rfl hL (by decide) hs fun a8 s8 b8 => ?_
  refine la_argE (pc := 1236) (j := 4) dL_law_1236 dL_law_1237 dL_law_1238 dL_law_1239 dL_law_1240 rfl rfl hL (by decide) hs fun a9 s9 b9 => ?_
  obtain rfl : a1 = a6 := s1.trans s6.symm
  obtain rfl : a2 = a7 := s2.trans s7.symm
  obtain rfl : a3 = a8 := s3.trans s8.symm
  obtain rfl : a4 = a9 := s4.trans s9.symm
  refine mr_cVI (pc := 1241) (c_X12_heard_W J5.1 J5.2.1 b6 b7 b8 b9 (R_heard J5.1 J5.2.1 kR5.1 kX.1)) (gOk _ _ _ _ _) dL_law_1241 (tX12_heard _ _ _ _ _) ⟨wV_X12_heard, wL_X12_heard⟩ wM_DomainHouseLaw_133 (gCX12 _ _ _ _ _) rfl (A_106 J5.1) rfl ⟨le_t rfl, le_t rfl⟩ ⟨show w.1 ≤ 600000 by omega, show szW w ≤ 7302250 by omega⟩ rfl (le_t rfl) fun z10 μ10 T10 F10 P10 => ?_
  obtain ⟨rg10, ⟨ez10, kc10⟩, _⟩ := P10
  have kR10 : K2R μ10 (y2 ((hrd! (yX y) a1 a2 a3 a4).2) y) := kR5.up J5.1 F10 rfl kc10
  have kC10 : K2C w μ10 (y2 ((hrd! (yX y) a1 a2 a3 a4).2) y) := kC5.fr J5.1 J5.2.1 (mX.ofF F10) rfl
  have kS : k2S y (y2 ((hrd! (yX y) a1 a2 a3 a4).2) y) := kX.up (X_heard kX.1) sm_hrd.1 sm_hrd.2
  have J10 : J w μ10 := J5.mod T10 F10 rfl rfl (G1.ofK kR10 kS.1) (EV.ofK kR10 kS.1) (PK.ofK kR10 (J5.2.2.2.2.2.2.1.2.2.pT J5.1 F10 rfl)) (F10.f (A_106 J5.1) rfl rfl)
  have kT10 : TW μ10 := kT5.fr J5.1 (mX.ofF F10) rfl
  refine sv_pop (pc := 1244) dL_law_1244 rfl ?_
  refine sv_goto (pc := 1245) (tgt := 1798) dL_law_1245 (by decide) ?_
  exact nx w μ10 _ _ J10 (K3.mk kC10 kR10 kS (U_heard kU) kB kT10)
theorem op_28 {l : Launch} {D : va_G} {c : Nat → ClassId} {H0 : Heap} {sa : Nat × Nat × (Nat → Int32)} {w : mW} {μ : mM} {L : Int} (hJ : J w μ) (hK : K3 w μ L) (hL : 0 ≤ L ∧ L + 7 ≤ (sa.2.1 : Int)) (hs : sa.2.1 ≤ 3584) (nx : ∀ (w1 : mW) (μ1 : mM) (ce sl : Nat), J w1 μ1 → K3 w1 μ1 (L + 7) → sV (gG l D c H0 sa) mL room_1 lwZ 1798 [(3, iv L), (2, .ref 106), (1, .ref 0), (0, .retAddr 0)] [] (mk w1 μ1) ce sl) : sV (gG l D c H0 sa) mL room_1 lwZ 1248 [(3, iv L), (2, .ref 106), (1, .ref 0), (0, .retAddr 0)] [] (mk w μ) w.1 (szW w) := by
  have hb := hJ.bd
  have hK0 := hK
  obtain ⟨y, kC, kR, kX, kU, kB, kT⟩ := hK
  have hM : sMd (xS (yX y)) ≤ 2000000000 := by omega
  refine sv_aload_n (pc := 1248) dL_law_1248 rfl rfl ?_
  refine la_argE (pc := 1249) (j := 1) dL_law_1249 dL_law_1250 dL_law_1251 dL_law_1252 dL_law_1253 rfl rfl hL (by decide) hs fun a1 s1 b1 => ?_
  refine la_argE (pc := 1254) (j := 2) dL_law_1254 dL_law_1255 dL_law_1256 dL_law_1257 dL_law_1258 rfl rfl hL (by decide) hs fun a2 s2 b2 => ?_
  refine la_argE (pc := 1259) (j := 3) dL_law_1259 dL_law_1260 dL_law_1261 dL_law_1262 dL_law_1263 rfl rfl hL (by decide) hs fun a3 s3 b3 => ?_
  refine mr_cVI (pc := 1264) (c_X11_why_W hJ.1 hJ.2.1 b1 b2 b3 hJ.2.2.1 (C_why hJ.1 hJ.2.1 kC kX)) (gOk _ _ _ _ _) dL_law_1264 (tX11_why _ _ _ _ _) ⟨wV_X11_why, wL_X11_why⟩ wM_DomainHouseLaw_134 (gCX11 _ _ _ _ _) rfl (A_0 hJ.1) rfl ⟨le_t rfl, le_t rfl⟩ ⟨show w.1 ≤ 600000 by omega, show szW w ≤ 7302250 by omega⟩ rfl (le_t rfl) fun z4 μ4 T4 F4 P4 => ?_
  obtain ⟨rg4, kc4, _⟩ := P4
  have J4 : J w μ4 := hJ.cls T4 F4 rfl (hJ.2.2.2.1.f hJ.1 F4 rfl rfl)
  have kR4 : K2R μ4 y := kR.fr hJ.1 hJ.2.1 (mX.ofF F4) rfl
  have kC4 : K2C w μ4 y := kc4
  have kT4 : TW μ4 := kT.fr hJ.1 (mX.ofF F4) rfl
  refine sv_pop (pc := 1267) dL_law_1267 rfl ?_
  refine sv_aload_n (pc := 1268) dL_law_1268 rfl rfl ?_
  refine la_argE (pc := 1269) (j := 1) dL_law_1269 dL_law_1270 dL_law_1271 dL_law_1272 dL_law_1273 rfl rfl hL (by decide) hs fun a5 s5 b5 => ?_
  refine la_argE (pc := 1274) (j := 2) dL_law_1274 dL_law_1275 dL_law_1276 dL_law_1277 dL_law_1278 rfl rfl hL (by decide) hs fun a6 s6 b6 => ?_
  refine la_argE (pc := 1279) (j := 3) dL_law_1279 dL_law_1280 dL_law_1281 dL_law_1282 dL_law_1283 rfl rfl hL (by decide) hs fun a7 s7 b7 => ?_
  obtain rfl : a1 = a5 := s1.trans s5.symm
  obtain rfl : a2 = a6 := s2.trans s6.symm
  obtain rfl : a3 = a7 := s3.trans s7.symm
  refine mr_cVI (pc := 1284) (c_X12_why_Wx J4.1 J4.2.1 b5 b6 b7 J4.2.2.2.2.2.2.1.1 J4.2.2.2.2.2.2.1.2.1 J4.2.2.2.2.2.2.1.2.2 (R_why J4.1 J4.2.1 kR4 kX kU)) (gOk _ _ _ _ _) dL_law_1284 (tX12_why _ _ _ _ _) ⟨wV_X12_why, wL_X12_why⟩ wM_DomainHouseLaw_137 (gCX12 _ _ _ _ _) rfl (A_106 J4.1) rfl ⟨le_t rfl, le_t rfl⟩ ⟨show w.1 ≤ 600000 by omega, show szW w ≤ 7302250 by omega⟩ rfl (le_t rfl) fun z8 μ8 T8 F8 P8 => ?_
  obtain ⟨rg8, _, _, kc8, _⟩ := P8
  have kR8 : K2R μ8 y := kc8
  have kC8 : K2C w μ8 y := kC4.fr J4.1 J4.2.1 (mX.ofF F8) rfl
  have J8 : J w μ8 := J4.mod T8 F8 rfl rfl (G1.ofK kR8 kX) (EV.ofK kR8 kX) (PK.ofK kR8 (J4.2.2.2.2.2.2.1.2.2.pT J4.1 F8 rfl)) (F8.f (A_106 J4.1) rfl rfl)
  have kT8 : TW μ8 := kT4.fr J4.1 (mX.ofF F8) rfl
  refine sv_pop (pc := 1287) dL_law_1287 rfl ?_
  refine sv_goto (pc := 1288) (tgt := 1798) dL_law_1288 (by decide) ?_
  exact nx w μ8 _ _ J8 (K3.mk kC8 kR8 (k2S.refl kX) kU kB kT8)
theorem op_29 {l : Launch} {D : va_G} {c : Nat → ClassId} {H0 : Heap} {sa : Nat × Nat × (Nat → Int32)} {w : mW} {μ : mM} {L : Int} (hJ : J w μ) (hK : K3 w μ L) (hL : 0 ≤ L ∧ L + 7 ≤ (sa.2.1 : Int)) (hs : sa.2.1 ≤ 3584) (nx : ∀ (w1 : mW) (μ1 : mM) (ce sl : Nat), J w1 μ1 → K3 w1 μ1 (L + 7) → sV (gG l D c H0 sa) mL room_1 lwZ 1798 [(3, iv L), (2, .ref 106), (1, .ref 0), (0, .retAddr 0)] [] (mk w1 μ1) ce sl) : sV (gG l D c H0 sa) mL room_1 lwZ 1291 [(3, iv L), (2, .ref 106), (1, .ref 0), (0, .retAddr 0)] [] (mk w μ) w.1 (szW w) := by
  have hb := hJ.bd
  have hK0 := hK
  obtain ⟨y, kC, kR, kX, kU, kB, kT⟩ := hK
  have hM : sMd (xS (yX y)) ≤ 2000000000 := by omega
  refine sv_aload_n (pc := 1291) dL_law_1291 rfl rfl ?_
  refine la_argE (pc := 1292) (j := 1) dL_law_1292 dL_law_1293 dL_law_1294 dL_law_1295 dL_law_1296 rfl rfl hL (by decide) hs fun a1 s1 b1 => ?_
  refine la_argE (pc := 1297) (j := 2) dL_law_1297 dL_law_1298 dL_law_1299 dL_law_1300 dL_law_1301 rfl rfl hL (by decide) hs fun a2 s2 b2 => ?_
  refine la_argE (pc := 1302) (j := 3) dL_law_1302 dL_law_1303 dL_law_1304 dL_law_1305 dL_law_1306 rfl rfl hL (by decide) hs fun a3 s3 b3 => ?_
  refine mr_cVI (pc := 1307) (c_X11_three_W hJ.1 hJ.2.1 b1 b2 b3 hJ.2.2.1 (C_three hJ.1 hJ.2.1 kC kX)) (gOk _ _ _ _ _) dL_law_1307 (tX11_three _ _ _ _ _) ⟨wV_X11_three, wL_X11_three⟩ wM_DomainHouseLaw_138 (gCX11 _ _ _ _ _) rfl (A_0 hJ.1) rfl ⟨le_t rfl, le_t rfl⟩ ⟨show w.1 ≤ 600000 by omega, show szW w ≤ 7302250 by omega⟩ rfl (le_t rfl) fun z4 μ4 T4 F4 P4 => ?_
  obtain ⟨rg4, kc4, _⟩ := P4
  have J4 : J w μ4 := hJ.cls T4 F4 rfl (hJ.2.2.2.1.f hJ.1 F4 rfl rfl)
  have kR4 : K2R μ4 y := kR.fr hJ.1 hJ.2.1 (mX.ofF F4) rfl
  have kC4 : K2C w μ4 y := kc4
  have kT4 : TW μ4 := kT.fr hJ.1 (mX.ofF F4) rfl
  refine sv_pop (pc := 1310) dL_law_1310 rfl ?_
  refine sv_aload_n (pc := 1311) dL_law_1311 rfl rfl ?_
  refine la_argE (pc := 1312) (j := 1) dL_law_1312 dL_law_1313 dL_law_1314 dL_law_1315 dL_law_1316 rfl rfl hL (by decide) hs fun a5 s5 b5 => ?_
  refine la_argE (pc := 1317) (j := 2) dL_law_1317 dL_law_1318 dL_law_1319 dL_law_1320 dL_law_1321 rfl rfl hL (by decide) hs fun a6 s6 b6 => ?_
  refine la_argE (pc := 1322) (j := 3) dL_law_1322 dL_law_1323 dL_law_1324 dL_law_1325 dL_law_1326 rfl rfl hL (by decide) hs fun a7 s7 b7 => ?_
  obtain rfl : a1 = a5 := s1.trans s5.symm
  obtain rfl : a2 = a6 := s2.trans s6.symm
  obtain rfl : a3 = a7 := s3.trans s7.symm
  refine mr_cVI (pc := 1327) (c_X12_three_W J4.1 J4.2.1 b5 b6 b7 J4.2.2.2.2.2.2.1.1 J4.2.2.2.2.2.2.1.2.1 J4.2.2.2.2.2.2.1.2.2 (R_three J4.1 J4.2.1 kR4 kX)) (gOk _ _ _ _ _) dL_law_1327 (tX12_three _ _ _ _ _) ⟨wV_X12_three, wL_X12_three⟩ wM_DomainHouseLaw_141 (gCX12 _ _ _ _ _) rfl (A_106 J4.1) rfl ⟨le_t rfl, le_t rfl⟩ ⟨show w.1 ≤ 600000 by omega, show szW w ≤ 7302250 by omega⟩ rfl (le_t rfl) fun z8 μ8 T8 F8 P8 => ?_
  obtain ⟨rg8, _, _, kc8, _⟩ := P8
  have kR8 : K2R μ8 y := kc8
  have kC8 : K2C w μ8 y := kC4.fr J4.1 J4.2.1 (mX.ofF F8) rfl
  have J8 : J w μ8 := J4.mod T8 F8 rfl rfl (G1.ofK kR8 kX) (EV.ofK kR8 kX) (PK.ofK kR8 (J4.2.2.2.2.2.2.1.2.2.pT J4.1 F8 rfl)) (F8.f (A_106 J4.1) rfl rfl)
  have kT8 : TW μ8 := kT4.fr J4.1 (mX.ofF F8) rfl
  refine sv_pop (pc := 1330) dL_law_1330 rfl ?_
  refine sv_goto (pc := 1331) (tgt := 1798) dL_law_1331 (by decide) ?_
  exact nx w μ8 _ _ J8 (K3.mk kC8 kR8 (k2S.refl kX) kU kB kT8)
theorem op_30 {l : Launch} {D : va_G} {c : Nat → ClassId} {H0 : Heap} {sa : Nat × Nat × (Nat → Int32)} {w : mW} {μ : mM} {L : Int} (hJ : J w μ) (hK : K3 w μ L) (hL : 0 ≤ L ∧ L + 7 ≤ (sa.2.1 : Int)) (hs : sa.2.1 ≤ 3584) (nx : ∀ (w1 : mW) (μ1 : mM) (ce sl : Nat), J w1 μ1 → K3 w1 μ1 (L + 7) → sV (gG l D c H0 sa) mL room_1 lwZ 1798 [(3, iv L), (2, .ref 106), (1, .ref 0), (0, .retAddr 0)] [] (mk w1 μ1) ce sl) : sV (gG l D c H0 sa) mL room_1 lwZ 1334 [(3, iv L), (2, .ref 106), (1, .ref 0), (0, .retAddr 0)] [] (mk w μ) w.1 (szW w) := by
  have hb := hJ.bd
  have hK0 := hK
  obtain ⟨y, kC, kR, kX, kU, kB, kT⟩ := hK
  have hM : sMd (xS (yX y)) ≤ 2000000000 := by omega
  obtain ⟨okB, n0, oRB⟩ := kT.oct hJ.1 hJ.2.1
  refine sv_aload_n (pc := 1334) dL_law_1334 rfl rfl ?_
  refine mr_cVI (pc := 1335) (c_X11_message_W hJ.1 hJ.2.1 (C_message hJ.1 kC.1 rfl (fun i _ _ => rfl) okB n0)) (gOk _ _ _ _ _) dL_law_1335 (tX11_message _ _ _ _ _) ⟨wV_X11_message, wL_X11_message⟩ wM_DomainHouseLaw_142 (gCX11 _ _ _ _ _) rfl (A_0 hJ.1) rfl ⟨le_t rfl, le_t rfl⟩ ⟨show w.1 ≤ 600000 by omega, show szW w ≤ 7302250 by omega⟩ rfl (le_t rfl) fun z1 μ1 T1 F1 P1 => ?_
  obtain ⟨o_wd_1, o_an_1, pp1_0, pp1_1, rg1, pp1_2, ⟨mxB, kc1, e10⟩, _⟩ := P1
  have J1 : J w μ1 := hJ.cls T1 F1 rfl (by unfold WAp; rw [pp1_0, pp1_1]; exact pp1_2)
  have kR1 : K2R μ1 y := kR.fr hJ.1 hJ.2.1 (mX.ofF F1) rfl
  have kC1 : K2C w μ1 (y2 (msg! (yX y) (msgS (fun i => μ 1 i.toNat) (μ 0 10))) y) := kC.up hJ.1 F1 rfl (kc1 (mF.refl.call F1 rfl)) rfl rfl
  refine sv_pop (pc := 1338) dL_law_1338 rfl ?_
  refine sv_aload_n (pc := 1339) dL_law_1339 rfl rfl ?_
  refine mr_cVI (pc := 1340) (c_X12_message_W J1.1 J1.2.1 J1.2.2.2.2.2.2.1.1 (R_message J1.1 J1.2.1 kR1.1 (oRB.cg (F1.f (A_106 hJ.1) rfl rfl) (fun i => F1.f (A_107 hJ.1) rfl rfl)) okB)) (gOk _ _ _ _ _) dL_law_1340 (tX12_message _ _ _ _ _) ⟨wV_X12_message, wL_X12_message⟩ wM_DomainHouseLaw_145 (gCX12 _ _ _ _ _) rfl (A_106 J1.1) rfl ⟨le_t rfl, le_t rfl⟩ ⟨show w.1 ≤ 600000 by omega, show szW w ≤ 7302250 by omega⟩ rfl (le_t rfl) fun z2 μ2 T2 F2 P2 => ?_
  obtain ⟨rg2, _, _, ⟨kc2, e1⟩, _⟩ := P2
  have kR2 : K2R μ2 (y2 (msg! (yX y) (msgS (fun i => μ 1 i.toNat) (μ 0 10))) y) := kR1.up J1.1 F2 rfl kc2
  have kC2 : K2C w μ2 (y2 (msg! (yX y) (msgS (fun i => μ 1 i.toNat) (μ 0 10))) y) := kC1.fr J1.1 J1.2.1 (mX.ofF F2) rfl
  have kS : k2S y (y2 (msg! (yX y) (msgS (fun i => μ 1 i.toNat) (μ 0 10))) y) := kX.up (X_msg kX.1 mxB) rfl rfl
  have J2 : J w μ2 := J1.mod T2 F2 rfl rfl (G1.ofK kR2 kS.1) (EV.ofK kR2 kS.1) (PK.ofK kR2 (J1.2.2.2.2.2.2.1.2.2.pT J1.1 F2 rfl)) (F2.f (A_106 J1.1) rfl rfl)
  have kT2 : TW μ2 := TW.msg kT hJ.1 F1 rfl F2 rfl ((F2.f (A_0 J1.1) rfl rfl).trans e10) e1
  refine sv_pop (pc := 1343) dL_law_1343 rfl ?_
  refine sv_goto (pc := 1344) (tgt := 1798) dL_law_1344 (by decide) ?_
  exact nx w μ2 _ _ J2 (K3.mk kC2 kR2 kS (kU) kB kT2)
theorem op_31 {l : Launch} {D : va_G} {c : Nat → ClassId} {H0 : Heap} {sa : Nat × Nat × (Nat → Int32)} {w : mW} {μ : mM} {L : Int} (hJ : J w μ) (hK : K3 w μ L) (hL : 0 ≤ L ∧ L + 7 ≤ (sa.2.1 : Int)) (hs : sa.2.1 ≤ 3584) (nx : ∀ (w1 : mW) (μ1 : mM) (ce sl : Nat), J w1 μ1 → K3 w1 μ1 (L + 7) → sV (gG l D c H0 sa) mL room_1 lwZ 1798 [(3, iv L), (2, .ref 106), (1, .ref 0), (0, .retAddr 0)] [] (mk w1 μ1) ce sl) : sV (gG l D c H0 sa) mL room_1 lwZ 1347 [(3, iv L), (2, .ref 106), (1, .ref 0), (0, .retAddr 0)] [] (mk w μ) w.1 (szW w) := by
  have hb := hJ.bd
  have hK0 := hK
  obtain ⟨y, kC, kR, kX, kU, kB, kT⟩ := hK
  have hM : sMd (xS (yX y)) ≤ 2000000000 := by omega
  refine sv_aload_n (pc := 1347) dL_law_1347 rfl rfl ?_
  refine la_arg (pc := 1348) (j := 1) dL_law_1348 dL_law_1349 dL_law_1350 dL_law_1351 dL_law_1352 rfl rfl hL (by decide) hs fun a1 b1 => ?_
  refine mr_cVP (pc := 1353) (c_X11_part hJ.1 hJ.2.1 b1 rfl rfl hJ.2.2.2.1) (gOk _ _ _ _ _) dL_law_1353 (tX11_part _ _ _ _ _) ⟨wV_X11_part, wL_X11_part⟩ wM_DomainHouseLaw_146 (gCX11 _ _ _ _ _) rfl (A_0 hJ.1) rfl ⟨le_t rfl, le_t rfl⟩ ⟨show w.1 ≤ 600000 by omega, show szW w ≤ 7302250 by omega⟩ rfl (le_t rfl) fun z2 h2 => ?_
  refine sv_pop (pc := 1356) dL_law_1356 rfl ?_
  refine sv_aload_n (pc := 1357) dL_law_1357 rfl rfl ?_
  refine la_arg (pc := 1358) (j := 1) dL_law_1358 dL_law_1359 dL_law_1360 dL_law_1361 dL_law_1362 rfl rfl hL (by decide) hs fun a3 b3 => ?_
  refine mr_cVP (pc := 1363) (c_X12_part hJ.1 hJ.2.1 b3) (gOk _ _ _ _ _) dL_law_1363 (tX12_part _ _ _ _ _) ⟨wV_X12_part, wL_X12_part⟩ wM_DomainHouseLaw_149 (gCX12 _ _ _ _ _) rfl (A_106 hJ.1) rfl ⟨le_t rfl, le_t rfl⟩ ⟨show w.1 ≤ 600000 by omega, show szW w ≤ 7302250 by omega⟩ rfl (le_t rfl) fun z4 h4 => ?_
  refine sv_pop (pc := 1366) dL_law_1366 rfl ?_
  refine sv_goto (pc := 1367) (tgt := 1798) dL_law_1367 (by decide) ?_
  exact nx w μ _ _ hJ (K3.mk kC kR (k2S.refl kX) kU kB kT)
theorem op_32 {l : Launch} {D : va_G} {c : Nat → ClassId} {H0 : Heap} {sa : Nat × Nat × (Nat → Int32)} {w : mW} {μ : mM} {L : Int} (hJ : J w μ) (hK : K3 w μ L) (hL : 0 ≤ L ∧ L + 7 ≤ (sa.2.1 : Int)) (hs : sa.2.1 ≤ 3584) (nx : ∀ (w1 : mW) (μ1 : mM) (ce sl : Nat), J w1 μ1 → K3 w1 μ1 (L + 7) → sV (gG l D c H0 sa) mL room_1 lwZ 1798 [(3, iv L), (2, .ref 106), (1, .ref 0), (0, .retAddr 0)] [] (mk w1 μ1) ce sl) : sV (gG l D c H0 sa) mL room_1 lwZ 1370 [(3, iv L), (2, .ref 106), (1, .ref 0), (0, .retAddr 0)] [] (mk w μ) w.1 (szW w) := by
  have hb := hJ.bd
  have hK0 := hK
  obtain ⟨y, kC, kR, kX, kU, kB, kT⟩ := hK
  have hM : sMd (xS (yX y)) ≤ 2000000000 := by omega
  refine sv_aload_n (pc := 1370) dL_law_1370 rfl rfl ?_
  refine la_argE (pc := 1371) (j := 1) dL_law_1371 dL_law_1372 dL_law_1373 dL_law_1374 dL_law_1375 rfl rfl hL (by decide) hs fun a1 s1 b1 => ?_
  refine la_argE (pc := 1376) (j := 2) dL_law_1376 dL_law_1377 dL_law_1378 dL_law_1379 dL_law_1380 rfl rfl hL (by decide) hs fun a2 s2 b2 => ?_
  refine mr_cVI (pc := 1381) (c_X11_hear_W hJ.1 hJ.2.1 b1 b2 rfl rfl hJ.2.2.2.1 hJ.2.2.1 (C_hear hJ.1 hJ.2.1 kC.1 kX.1)) (gOk _ _ _ _ _) dL_law_1381 (tX11_hear _ _ _ _ _) ⟨wV_X11_hear, wL_X11_hear⟩ wM_DomainHouseLaw_150 (gCX11 _ _ _ _ _) rfl (A_0 hJ.1) rfl ⟨le_t rfl, le_t rfl⟩ ⟨show w.1 ≤ 600000 by omega, show szW w ≤ 7302250 by omega⟩ rfl (le_t rfl) fun z3 μ3 T3 F3 P3 => ?_
  obtain ⟨rg3, kc3, _⟩ := P3
  have J3 : J w μ3 := hJ.cls T3 F3 rfl (hJ.2.2.2.1.f hJ.1 F3 rfl rfl)
  have kR3 : K2R μ3 y := kR.fr hJ.1 hJ.2.1 (mX.ofF F3) rfl
  have kC3 : K2C w μ3 (y2 (hea! (yX y) a1 a2) y) := kC.up hJ.1 F3 rfl (kc3 (mF.refl.call F3 rfl)) sm_hea.1 (congrArg jL sm_hea.2)
  have kT3 : TW μ3 := kT.fr hJ.1 (mX.ofF F3) rfl
  refine sv_pop (pc := 1384) dL_law_1384 rfl ?_
  refine sv_aload_n (pc := 1385) dL_law_1385 rfl rfl ?_
  refine la_argE (pc := 1386) (j := 1) dL_law_1386 dL_law_1387 dL_law_1388 dL_law_1389 dL_law_1390 rfl rfl hL (by decide) hs fun a4 s4 b4 => ?_
  refine la_argE (pc := 1391) (j := 2) dL_law_1391 dL_law_1392 dL_law_1393 dL_law_1394 dL_law_1395 rfl rfl hL (by decide) hs fun a5 s5 b5 => ?_
  obtain rfl : a1 = a4 := s1.trans s4.symm
  obtain rfl : a2 = a5 := s2.trans s5.symm
  refine mr_cVI (pc := 1396) (c_X12_hear_W J3.1 J3.2.1 b4 b5 J3.2.2.2.2.2.2.1.1 J3.2.2.2.2.2.2.1.2.1 J3.2.2.2.2.2.2.1.2.2 (R_hear J3.1 J3.2.1 kR3.1 kX.1 hM)) (gOk _ _ _ _ _) dL_law_1396 (tX12_hear _ _ _ _ _) ⟨wV_X12_hear, wL_X12_hear⟩ wM_DomainHouseLaw_153 (gCX12 _ _ _ _ _) rfl (A_106 J3.1) rfl ⟨le_t rfl, le_t rfl⟩ ⟨show w.1 ≤ 600000 by omega, show szW w ≤ 7302250 by omega⟩ rfl (le_t rfl) fun z6 μ6 T6 F6 P6 => ?_
  obtain ⟨rg6, _, _, kc6, _⟩ := P6
  have kR6 : K2R μ6 (y2 (hea! (yX y) a1 a2) y) := kR3.up J3.1 F6 rfl (kc6 (mF.refl.call F6 rfl))
  have kC6 : K2C w μ6 (y2 (hea! (yX y) a1 a2) y) := kC3.fr J3.1 J3.2.1 (mX.ofF F6) rfl
  have kS : k2S y (y2 (hea! (yX y) a1 a2) y) := kX.up (X_hear kX.1) sm_hea.1 sm_hea.2
  have J6 : J w μ6 := J3.mod T6 F6 rfl rfl (G1.ofK kR6 kS.1) (EV.ofK kR6 kS.1) (PK.ofK kR6 (J3.2.2.2.2.2.2.1.2.2.pT J3.1 F6 rfl)) (F6.f (A_106 J3.1) rfl rfl)
  have kT6 : TW μ6 := kT3.fr J3.1 (mX.ofF F6) rfl
  refine sv_pop (pc := 1399) dL_law_1399 rfl ?_
  refine sv_goto (pc := 1400) (tgt := 1798) dL_law_1400 (by decide) ?_
  exact nx w μ6 _ _ J6 (K3.mk kC6 kR6 kS (U_hear kX.1 kU) kB kT6)
theorem op_33 {l : Launch} {D : va_G} {c : Nat → ClassId} {H0 : Heap} {sa : Nat × Nat × (Nat → Int32)} {w : mW} {μ : mM} {L : Int} (hJ : J w μ) (hK : K3 w μ L) (hL : 0 ≤ L ∧ L + 7 ≤ (sa.2.1 : Int)) (hs : sa.2.1 ≤ 3584) (nx : ∀ (w1 : mW) (μ1 : mM) (ce sl : Nat), J w1 μ1 → K3 w1 μ1 (L + 7) → sV (gG l D c H0 sa) mL room_1 lwZ 1798 [(3, iv L), (2, .ref 106), (1, .ref 0), (0, .retAddr 0)] [] (mk w1 μ1) ce sl) : sV (gG l D c H0 sa) mL room_1 lwZ 1403 [(3, iv L), (2, .ref 106), (1, .ref 0), (0, .retAddr 0)] [] (mk w μ) w.1 (szW w) := by
  have hb := hJ.bd
  have hK0 := hK
  obtain ⟨y, kC, kR, kX, kU, kB, kT⟩ := hK
  have hM : sMd (xS (yX y)) ≤ 2000000000 := by omega
  refine sv_aload_n (pc := 1403) dL_law_1403 rfl rfl ?_
  refine la_arg (pc := 1404) (j := 1) dL_law_1404 dL_law_1405 dL_law_1406 dL_law_1407 dL_law_1408 rfl rfl hL (by decide) hs fun a1 b1 => ?_
  refine la_arg (pc := 1409) (j := 2) dL_law_1409 dL_law_1410 dL_law_1411 dL_law_1412 dL_law_1413 rfl rfl hL (by decide) hs fun a2 b2 => ?_
  refine la_arg (pc := 1414) (j := 3) dL_law_1414 dL_law_1415 dL_law_1416 dL_law_1417 dL_law_1418 rfl rfl hL (by decide) hs fun a3 b3 => ?_
  refine mr_cVI (pc := 1419) (c_X11_write hJ.1 hJ.2.1 b1 b2 b3) (gOk _ _ _ _ _) dL_law_1419 (tX11_write _ _ _ _ _) ⟨wV_X11_write, wL_X11_write⟩ wM_DomainHouseLaw_154 (gCX11 _ _ _ _ _) rfl (A_0 hJ.1) rfl ⟨le_t rfl, le_t rfl⟩ ⟨show w.1 ≤ 600000 by omega, show szW w ≤ 7302250 by omega⟩ rfl (le_t rfl) fun z4 μ4 T4 F4 P4 => ?_
  have J4 : J w μ4 := hJ.cls T4 F4 rfl (hJ.2.2.2.1.f hJ.1 F4 rfl rfl)
  have kR4 : K2R μ4 y := kR.fr hJ.1 hJ.2.1 (mX.ofF F4) rfl
  have kC4 : K2C w μ4 y := kC.fr hJ.1 hJ.2.1 (mX.ofF F4) rfl
  have kT4 : TW μ4 := kT.fr hJ.1 (mX.ofF F4) rfl
  refine sv_pop (pc := 1422) dL_law_1422 rfl ?_
  refine sv_aload_n (pc := 1423) dL_law_1423 rfl rfl ?_
  refine la_arg (pc := 1424) (j := 1) dL_law_1424 dL_law_1425 dL_law_1426 dL_law_1427 dL_law_1428 rfl rfl hL (by decide) hs fun a5 b5 => ?_
  refine la_arg (pc := 1429) (j := 2) dL_law_1429 dL_law_1430 dL_law_1431 dL_law_1432 dL_law_1433 rfl rfl hL (by decide) hs fun a6 b6 => ?_
  refine la_arg (pc := 1434) (j := 3) dL_law_1434 dL_law_1435 dL_law_1436 dL_law_1437 dL_law_1438 rfl rfl hL (by decide) hs fun a7 b7 => ?_
  refine mr_cVI (pc := 1439) (c_X12_write J4.1 J4.2.1 b5 b6 b7) (gOk _ _ _ _ _) dL_law_1439 (tX12_write _ _ _ _ _) ⟨wV_X12_write, wL_X12_write⟩ wM_DomainHouseLaw_157 (gCX12 _ _ _ _ _) rfl (A_106 J4.1) rfl ⟨le_t rfl, le_t rfl⟩ ⟨show w.1 ≤ 600000 by omega, show szW w ≤ 7302250 by omega⟩ rfl (le_t rfl) fun z8 μ8 T8 F8 P8 => ?_
  have kR8 : K2R μ8 y := kR4.fr J4.1 J4.2.1 (mX.ofF F8) rfl
  have kC8 : K2C w μ8 y := kC4.fr J4.1 J4.2.1 (mX.ofF F8) rfl
  have J8 : J w μ8 := J4.mod T8 F8 rfl rfl (G1.ofK kR8 kX) (EV.ofK kR8 kX) (PK.ofK kR8 (J4.2.2.2.2.2.2.1.2.2.pT J4.1 F8 rfl)) (F8.f (A_106 J4.1) rfl rfl)
  have kT8 : TW μ8 := kT4.fr J4.1 (mX.ofF F8) rfl
  refine sv_pop (pc := 1442) dL_law_1442 rfl ?_
  refine sv_goto (pc := 1443) (tgt := 1798) dL_law_1443 (by decide) ?_
  exact nx w μ8 _ _ J8 (K3.mk kC8 kR8 (k2S.refl kX) kU kB kT8)
theorem op_34 {l : Launch} {D : va_G} {c : Nat → ClassId} {H0 : Heap} {sa : Nat × Nat × (Nat → Int32)} {w : mW} {μ : mM} {L : Int} (hJ : J w μ) (hK : K3 w μ L) (hL : 0 ≤ L ∧ L + 7 ≤ (sa.2.1 : Int)) (hs : sa.2.1 ≤ 3584) (nx : ∀ (w1 : mW) (μ1 : mM) (ce sl : Nat), J w1 μ1 → K3 w1 μ1 (L + 7) → sV (gG l D c H0 sa) mL room_1 lwZ 1798 [(3, iv L), (2, .ref 106), (1, .ref 0), (0, .retAddr 0)] [] (mk w1 μ1) ce sl) : sV (gG l D c H0 sa) mL room_1 lwZ 1446 [(3, iv L), (2, .ref 106), (1, .ref 0), (0, .retAddr 0)] [] (mk w μ) w.1 (szW w) := by
  have hb := hJ.bd
  have hK0 := hK
  obtain ⟨y, kC, kR, kX, kU, kB, kT⟩ := hK
  have hM : sMd (xS (yX y)) ≤ 2000000000 := by omega
  refine sv_aload_n (pc := 1446) dL_law_1446 rfl rfl ?_
  refine la_arg (pc := 1447) (j := 1) dL_law_1447 dL_law_1448 dL_law_1449 dL_law_1450 dL_law_1451 rfl rfl hL (by decide) hs fun a1 b1 => ?_
  refine mr_cVP (pc := 1452) (c_X11_octet hJ.1 hJ.2.1 b1) (gOk _ _ _ _ _) dL_law_1452 (tX11_octet _ _ _ _ _) ⟨wV_X11_octet, wL_X11_octet⟩ wM_DomainHouseLaw_158 (gCX11 _ _ _ _ _) rfl (A_0 hJ.1) rfl ⟨le_t rfl, le_t rfl⟩ ⟨show w.1 ≤ 600000 by omega, show szW w ≤ 7302250 by omega⟩ rfl (le_t rfl) fun z2 h2 => ?_
  refine sv_pop (pc := 1455) dL_law_1455 rfl ?_
  refine sv_aload_n (pc := 1456) dL_law_1456 rfl rfl ?_
  refine la_arg (pc := 1457) (j := 1) dL_law_1457 dL_law_1458 dL_law_1459 dL_law_1460 dL_law_1461 rfl rfl hL (by decide) hs fun a3 b3 => ?_
  refine mr_cVP (pc := 1462) (c_X12_octet hJ.1 hJ.2.1 b3) (gOk _ _ _ _ _) dL_law_1462 (tX12_octet _ _ _ _ _) ⟨wV_X12_octet, wL_X12_octet⟩ wM_DomainHouseLaw_161 (gCX12 _ _ _ _ _) rfl (A_106 hJ.1) rfl ⟨le_t rfl, le_t rfl⟩ ⟨show w.1 ≤ 600000 by omega, show szW w ≤ 7302250 by omega⟩ rfl (le_t rfl) fun z4 h4 => ?_
  refine sv_pop (pc := 1465) dL_law_1465 rfl ?_
  refine sv_goto (pc := 1466) (tgt := 1798) dL_law_1466 (by decide) ?_
  exact nx w μ _ _ hJ (K3.mk kC kR (k2S.refl kX) kU kB kT)
theorem op_35 {l : Launch} {D : va_G} {c : Nat → ClassId} {H0 : Heap} {sa : Nat × Nat × (Nat → Int32)} {w : mW} {μ : mM} {L : Int} (hJ : J w μ) (hK : K3 w μ L) (hL : 0 ≤ L ∧ L + 7 ≤ (sa.2.1 : Int)) (hs : sa.2.1 ≤ 3584) (nx : ∀ (w1 : mW) (μ1 : mM) (ce sl : Nat), J w1 μ1 → K3 w1 μ1 (L + 7) → sV (gG l D c H0 sa) mL room_1 lwZ 1798 [(3, iv L), (2, .ref 106), (1, .ref 0), (0, .retAddr 0)] [] (mk w1 μ1) ce sl) : sV (gG l D c H0 sa) mL room_1 lwZ 1469 [(3, iv L), (2, .ref 106), (1, .ref 0), (0, .retAddr 0)] [] (mk w μ) w.1 (szW w) := by
  have hb := hJ.bd
  have hK0 := hK
  obtain ⟨y, kC, kR, kX, kU, kB, kT⟩ := hK
  have hM : sMd (xS (yX y)) ≤ 2000000000 := by omega
  refine sv_aload_n (pc := 1469) dL_law_1469 rfl rfl ?_
  refine la_arg (pc := 1470) (j := 1) dL_law_1470 dL_law_1471 dL_law_1472 dL_law_1473 dL_law_1474 rfl rfl hL (by decide) hs fun a1 b1 => ?_
  refine la_arg (pc := 1475) (j := 2) dL_law_1475 dL_law_1476 dL_law_1477 dL_law_1478 dL_law_1479 rfl rfl hL (by decide) hs fun a2 b2 => ?_
  refine mr_cVI (pc := 1480) (c_X11_letter hJ.1 hJ.2.1 b1 b2) (gOk _ _ _ _ _) dL_law_1480 (tX11_letter _ _ _ _ _) ⟨wV_X11_letter, wL_X11_letter⟩ wM_DomainHouseLaw_162 (gCX11 _ _ _ _ _) rfl (A_0 hJ.1) rfl ⟨le_t rfl, le_t rfl⟩ ⟨show w.1 ≤ 600000 by omega, show szW w ≤ 7302250 by omega⟩ rfl (le_t rfl) fun z3 μ3 T3 F3 P3 => ?_
  have J3 : J w μ3 := hJ.cls T3 F3 rfl (hJ.2.2.2.1.f hJ.1 F3 rfl rfl)
  have kR3 : K2R μ3 y := kR.fr hJ.1 hJ.2.1 (mX.ofF F3) rfl
  have kC3 : K2C w μ3 y := kC.fr hJ.1 hJ.2.1 (mX.ofF F3) rfl
  have kT3 : TW μ3 := kT.fr hJ.1 (mX.ofF F3) rfl
  refine sv_pop (pc := 1483) dL_law_1483 rfl ?_
  refine sv_aload_n (pc := 1484) dL_law_1484 rfl rfl ?_
  refine la_arg (pc := 1485) (j := 1) dL_law_1485 dL_law_1486 dL_law_1487 dL_law_1488 dL_law_1489 rfl rfl hL (by decide) hs fun a4 b4 => ?_
  refine la_arg (pc := 1490) (j := 2) dL_law_1490 dL_law_1491 dL_law_1492 dL_law_1493 dL_law_1494 rfl rfl hL (by decide) hs fun a5 b5 => ?_
  refine mr_cVI (pc := 1495) (c_X12_letter J3.1 J3.2.1 b4 b5) (gOk _ _ _ _ _) dL_law_1495 (tX12_letter _ _ _ _ _) ⟨wV_X12_letter, wL_X12_letter⟩ wM_DomainHouseLaw_165 (gCX12 _ _ _ _ _) rfl (A_106 J3.1) rfl ⟨le_t rfl, le_t rfl⟩ ⟨show w.1 ≤ 600000 by omega, show szW w ≤ 7302250 by omega⟩ rfl (le_t rfl) fun z6 μ6 T6 F6 P6 => ?_
  have kR6 : K2R μ6 y := kR3.fr J3.1 J3.2.1 (mX.ofF F6) rfl
  have kC6 : K2C w μ6 y := kC3.fr J3.1 J3.2.1 (mX.ofF F6) rfl
  have J6 : J w μ6 := J3.mod T6 F6 rfl rfl (G1.ofK kR6 kX) (EV.ofK kR6 kX) (PK.ofK kR6 (J3.2.2.2.2.2.2.1.2.2.pT J3.1 F6 rfl)) (F6.f (A_106 J3.1) rfl rfl)
  have kT6 : TW μ6 := kT3.fr J3.1 (mX.ofF F6) rfl
  refine sv_pop (pc := 1498) dL_law_1498 rfl ?_
  refine sv_goto (pc := 1499) (tgt := 1798) dL_law_1499 (by decide) ?_
  exact nx w μ6 _ _ J6 (K3.mk kC6 kR6 (k2S.refl kX) kU kB kT6)
theorem op_36 {l : Launch} {D : va_G} {c : Nat → ClassId} {H0 : Heap} {sa : Nat × Nat × (Nat → Int32)} {w : mW} {μ : mM} {L : Int} (hJ : J w μ) (hK : K3 w μ L) (hL : 0 ≤ L ∧ L + 7 ≤ (sa.2.1 : Int)) (hs : sa.2.1 ≤ 3584) (nx : ∀ (w1 : mW) (μ1 : mM) (ce sl : Nat), J w1 μ1 → K3 w1 μ1 (L + 7) → sV (gG l D c H0 sa) mL room_1 lwZ 1798 [(3, iv L), (2, .ref 106), (1, .ref 0), (0, .retAddr 0)] [] (mk w1 μ1) ce sl) : sV (gG l D c H0 sa) mL room_1 lwZ 1502 [(3, iv L), (2, .ref 106), (1, .ref 0), (0, .retAddr 0)] [] (mk w μ) w.1 (szW w) := by
  have hb := hJ.bd
  have hK0 := hK
  obtain ⟨y, kC, kR, kX, kU, kB, kT⟩ := hK
  have hM : sMd (xS (yX y)) ≤ 2000000000 := by omega
  refine sv_aload_n (pc := 1502) dL_law_1502 rfl rfl ?_
  refine la_arg (pc := 1503) (j := 1) dL_law_1503 dL_law_1504 dL_law_1505 dL_law_1506 dL_law_1507 rfl rfl hL (by decide) hs fun a1 b1 => ?_
  refine mr_cVP (pc := 1508) (c_X11_led hJ.1 hJ.2.1 b1) (gOk _ _ _ _ _) dL_law_1508 (tX11_led _ _ _ _ _) ⟨wV_X11_led, wL_X11_led⟩ wM_DomainHouseLaw_166 (gCX11 _ _ _ _ _) rfl (A_0 hJ.1) rfl ⟨le_t rfl, le_t rfl⟩ ⟨show w.1 ≤ 600000 by omega, show szW w ≤ 7302250 by omega⟩ rfl (le_t rfl) fun z2 h2 => ?_
  refine sv_pop (pc := 1511) dL_law_1511 rfl ?_
  refine sv_aload_n (pc := 1512) dL_law_1512 rfl rfl ?_
  refine la_arg (pc := 1513) (j := 1) dL_law_1513 dL_law_1514 dL_law_1515 dL_law_1516 dL_law_1517 rfl rfl hL (by decide) hs fun a3 b3 => ?_
  refine mr_cVP (pc := 1518) (c_X12_led hJ.1 hJ.2.1 b3) (gOk _ _ _ _ _) dL_law_1518 (tX12_led _ _ _ _ _) ⟨wV_X12_led, wL_X12_led⟩ wM_DomainHouseLaw_169 (gCX12 _ _ _ _ _) rfl (A_106 hJ.1) rfl ⟨le_t rfl, le_t rfl⟩ ⟨show w.1 ≤ 600000 by omega, show szW w ≤ 7302250 by omega⟩ rfl (le_t rfl) fun z4 h4 => ?_
  refine sv_pop (pc := 1521) dL_law_1521 rfl ?_
  refine sv_goto (pc := 1522) (tgt := 1798) dL_law_1522 (by decide) ?_
  exact nx w μ _ _ hJ (K3.mk kC kR (k2S.refl kX) kU kB kT)
theorem op_37 {l : Launch} {D : va_G} {c : Nat → ClassId} {H0 : Heap} {sa : Nat × Nat × (Nat → Int32)} {w : mW} {μ : mM} {L : Int} (hJ : J w μ) (hK : K3 w μ L) (hL : 0 ≤ L ∧ L + 7 ≤ (sa.2.1 : Int)) (hs : sa.2.1 ≤ 3584) (nx : ∀ (w1 : mW) (μ1 : mM) (ce sl : Nat), J w1 μ1 → K3 w1 μ1 (L + 7) → sV (gG l D c H0 sa) mL room_1 lwZ 1798 [(3, iv L), (2, .ref 106), (1, .ref 0), (0, .retAddr 0)] [] (mk w1 μ1) ce sl) : sV (gG l D c H0 sa) mL room_1 lwZ 1525 [(3, iv L), (2, .ref 106), (1, .ref 0), (0, .retAddr 0)] [] (mk w μ) w.1 (szW w) := by
  have hb := hJ.bd
  have hK0 := hK
  obtain ⟨y, kC, kR, kX, kU, kB, kT⟩ := hK
  have hM : sMd (xS (yX y)) ≤ 2000000000 := by omega
  refine sv_aload_n (pc := 1525) dL_law_1525 rfl rfl ?_
  refine la_arg (pc := 1526) (j := 1) dL_law_1526 dL_law_1527 dL_law_1528 dL_law_1529 dL_law_1530 rfl rfl hL (by decide) hs fun a1 b1 => ?_
  refine la_arg (pc := 1531) (j := 2) dL_law_1531 dL_law_1532 dL_law_1533 dL_law_1534 dL_law_1535 rfl rfl hL (by decide) hs fun a2 b2 => ?_
  refine la_arg (pc := 1536) (j := 3) dL_law_1536 dL_law_1537 dL_law_1538 dL_law_1539 dL_law_1540 rfl rfl hL (by decide) hs fun a3 b3 => ?_
  refine mr_cVI (pc := 1541) (c_X11_demand hJ.1 hJ.2.1 b1 b2 b3) (gOk _ _ _ _ _) dL_law_1541 (tX11_demand _ _ _ _ _) ⟨wV_X11_demand, wL_X11_demand⟩ wM_DomainHouseLaw_170 (gCX11 _ _ _ _ _) rfl (A_0 hJ.1) rfl ⟨le_t rfl, le_t rfl⟩ ⟨show w.1 ≤ 600000 by omega, show szW w ≤ 7302250 by omega⟩ rfl (le_t rfl) fun z4 μ4 T4 F4 P4 => ?_
  have J4 : J w μ4 := hJ.cls T4 F4 rfl (hJ.2.2.2.1.f hJ.1 F4 rfl rfl)
  have kR4 : K2R μ4 y := kR.fr hJ.1 hJ.2.1 (mX.ofF F4) rfl
  have kC4 : K2C w μ4 y := kC.fr hJ.1 hJ.2.1 (mX.ofF F4) rfl
  have kT4 : TW μ4 := kT.fr hJ.1 (mX.ofF F4) rfl
  refine sv_pop (pc := 1544) dL_law_1544 rfl ?_
  refine sv_aload_n (pc := 1545) dL_law_1545 rfl rfl ?_
  refine la_arg (pc := 1546) (j := 1) dL_law_1546 dL_law_1547 dL_law_1548 dL_law_1549 dL_law_1550 rfl rfl hL (by decide) hs fun a5 b5 => ?_
  refine la_arg (pc := 1551) (j := 2) dL_law_1551 dL_law_1552 dL_law_1553 dL_law_1554 dL_law_1555 rfl rfl hL (by decide) hs fun a6 b6 => ?_
  refine la_arg (pc := 1556) (j := 3) dL_law_1556 dL_law_1557 dL_law_1558 dL_law_1559 dL_law_1560 rfl rfl hL (by decide) hs fun a7 b7 => ?_
  refine mr_cVI (pc := 1561) (c_X12_demand J4.1 J4.2.1 b5 b6 b7) (gOk _ _ _ _ _) dL_law_1561 (tX12_demand _ _ _ _ _) ⟨wV_X12_demand, wL_X12_demand⟩ wM_DomainHouseLaw_173 (gCX12 _ _ _ _ _) rfl (A_106 J4.1) rfl ⟨le_t rfl, le_t rfl⟩ ⟨show w.1 ≤ 600000 by omega, show szW w ≤ 7302250 by omega⟩ rfl (le_t rfl) fun z8 μ8 T8 F8 P8 => ?_
  have kR8 : K2R μ8 y := kR4.fr J4.1 J4.2.1 (mX.ofF F8) rfl
  have kC8 : K2C w μ8 y := kC4.fr J4.1 J4.2.1 (mX.ofF F8) rfl
  have J8 : J w μ8 := J4.mod T8 F8 rfl rfl (G1.ofK kR8 kX) (EV.ofK kR8 kX) (PK.ofK kR8 (J4.2.2.2.2.2.2.1.2.2.pT J4.1 F8 rfl)) (F8.f (A_106 J4.1) rfl rfl)
  have kT8 : TW μ8 := kT4.fr J4.1 (mX.ofF F8) rfl
  refine sv_pop (pc := 1564) dL_law_1564 rfl ?_
  refine sv_goto (pc := 1565) (tgt := 1798) dL_law_1565 (by decide) ?_
  exact nx w μ8 _ _ J8 (K3.mk kC8 kR8 (k2S.refl kX) kU kB kT8)
theorem op_38 {l : Launch} {D : va_G} {c : Nat → ClassId} {H0 : Heap} {sa : Nat × Nat × (Nat → Int32)} {w : mW} {μ : mM} {L : Int} (hJ : J w μ) (hK : K3 w μ L) (hL : 0 ≤ L ∧ L + 7 ≤ (sa.2.1 : Int)) (hs : sa.2.1 ≤ 3584) (nx : ∀ (w1 : mW) (μ1 : mM) (ce sl : Nat), J w1 μ1 → K3 w1 μ1 (L + 7) → sV (gG l D c H0 sa) mL room_1 lwZ 1798 [(3, iv L), (2, .ref 106), (1, .ref 0), (0, .retAddr 0)] [] (mk w1 μ1) ce sl) : sV (gG l D c H0 sa) mL room_1 lwZ 1568 [(3, iv L), (2, .ref 106), (1, .ref 0), (0, .retAddr 0)] [] (mk w μ) w.1 (szW w) := by
  have hb := hJ.bd
  have hK0 := hK
  obtain ⟨y, kC, kR, kX, kU, kB, kT⟩ := hK
  have hM : sMd (xS (yX y)) ≤ 2000000000 := by omega
  refine sv_aload_n (pc := 1568) dL_law_1568 rfl rfl ?_
  refine la_arg (pc := 1569) (j := 1) dL_law_1569 dL_law_1570 dL_law_1571 dL_law_1572 dL_law_1573 rfl rfl hL (by decide) hs fun a1 b1 => ?_
  refine la_arg (pc := 1574) (j := 2) dL_law_1574 dL_law_1575 dL_law_1576 dL_law_1577 dL_law_1578 rfl rfl hL (by decide) hs fun a2 b2 => ?_
  refine mr_cVI (pc := 1579) (c_X11_load hJ.1 hJ.2.1 b1 b2) (gOk _ _ _ _ _) dL_law_1579 (tX11_load _ _ _ _ _) ⟨wV_X11_load, wL_X11_load⟩ wM_DomainHouseLaw_174 (gCX11 _ _ _ _ _) rfl (A_0 hJ.1) rfl ⟨le_t rfl, le_t rfl⟩ ⟨show w.1 ≤ 600000 by omega, show szW w ≤ 7302250 by omega⟩ rfl (le_t rfl) fun z3 μ3 T3 F3 P3 => ?_
  have J3 : J w μ3 := hJ.cls T3 F3 rfl (hJ.2.2.2.1.f hJ.1 F3 rfl rfl)
  have kR3 : K2R μ3 y := kR.fr hJ.1 hJ.2.1 (mX.ofF F3) rfl
  have kC3 : K2C w μ3 y := kC.fr hJ.1 hJ.2.1 (mX.ofF F3) rfl
  have kT3 : TW μ3 := kT.fr hJ.1 (mX.ofF F3) rfl
  refine sv_pop (pc := 1582) dL_law_1582 rfl ?_
  refine sv_aload_n (pc := 1583) dL_law_1583 rfl rfl ?_
  refine la_arg (pc := 1584) (j := 1) dL_law_1584 dL_law_1585 dL_law_1586 dL_law_1587 dL_law_1588 rfl rfl hL (by decide) hs fun a4 b4 => ?_
  refine la_arg (pc := 1589) (j := 2) dL_law_1589 dL_law_1590 dL_law_1591 dL_law_1592 dL_law_1593 rfl rfl hL (by decide) hs fun a5 b5 => ?_
  refine mr_cVI (pc := 1594) (c_X12_load J3.1 J3.2.1 b4 b5) (gOk _ _ _ _ _) dL_law_1594 (tX12_load _ _ _ _ _) ⟨wV_X12_load, wL_X12_load⟩ wM_DomainHouseLaw_177 (gCX12 _ _ _ _ _) rfl (A_106 J3.1) rfl ⟨le_t rfl, le_t rfl⟩ ⟨show w.1 ≤ 600000 by omega, show szW w ≤ 7302250 by omega⟩ rfl (le_t rfl) fun z6 μ6 T6 F6 P6 => ?_
  have kR6 : K2R μ6 y := kR3.fr J3.1 J3.2.1 (mX.ofF F6) rfl
  have kC6 : K2C w μ6 y := kC3.fr J3.1 J3.2.1 (mX.ofF F6) rfl
  have J6 : J w μ6 := J3.mod T6 F6 rfl rfl (G1.ofK kR6 kX) (EV.ofK kR6 kX) (PK.ofK kR6 (J3.2.2.2.2.2.2.1.2.2.pT J3.1 F6 rfl)) (F6.f (A_106 J3.1) rfl rfl)
  have kT6 : TW μ6 := kT3.fr J3.1 (mX.ofF F6) rfl
  refine sv_pop (pc := 1597) dL_law_1597 rfl ?_
  refine sv_goto (pc := 1598) (tgt := 1798) dL_law_1598 (by decide) ?_
  exact nx w μ6 _ _ J6 (K3.mk kC6 kR6 (k2S.refl kX) kU kB kT6)
theorem op_39 {l : Launch} {D : va_G} {c : Nat → ClassId} {H0 : Heap} {sa : Nat × Nat × (Nat → Int32)} {w : mW} {μ : mM} {L : Int} (hJ : J w μ) (hK : K3 w μ L) (hL : 0 ≤ L ∧ L + 7 ≤ (sa.2.1 : Int)) (hs : sa.2.1 ≤ 3584) (nx : ∀ (w1 : mW) (μ1 : mM) (ce sl : Nat), J w1 μ1 → K3 w1 μ1 (L + 7) → sV (gG l D c H0 sa) mL room_1 lwZ 1798 [(3, iv L), (2, .ref 106), (1, .ref 0), (0, .retAddr 0)] [] (mk w1 μ1) ce sl) : sV (gG l D c H0 sa) mL room_1 lwZ 1601 [(3, iv L), (2, .ref 106), (1, .ref 0), (0, .retAddr 0)] [] (mk w μ) w.1 (szW w) := by
  have hb := hJ.bd
  have hK0 := hK
  obtain ⟨y, kC, kR, kX, kU, kB, kT⟩ := hK
  have hM : sMd (xS (yX y)) ≤ 2000000000 := by omega
  refine sv_aload_n (pc := 1601) dL_law_1601 rfl rfl ?_
  refine la_arg (pc := 1602) (j := 1) dL_law_1602 dL_law_1603 dL_law_1604 dL_law_1605 dL_law_1606 rfl rfl hL (by decide) hs fun a1 b1 => ?_
  refine mr_cVI (pc := 1607) (c_X11_units hJ.1 hJ.2.1 b1) (gOk _ _ _ _ _) dL_law_1607 (tX11_units _ _ _ _ _) ⟨wV_X11_units, wL_X11_units⟩ wM_DomainHouseLaw_178 (gCX11 _ _ _ _ _) rfl (A_0 hJ.1) rfl ⟨le_t rfl, le_t rfl⟩ ⟨show w.1 ≤ 600000 by omega, show szW w ≤ 7302250 by omega⟩ rfl (le_t rfl) fun z2 μ2 T2 F2 P2 => ?_
  have J2 : J w μ2 := hJ.cls T2 F2 rfl (hJ.2.2.2.1.f hJ.1 F2 rfl rfl)
  have kR2 : K2R μ2 y := kR.fr hJ.1 hJ.2.1 (mX.ofF F2) rfl
  have kC2 : K2C w μ2 y := kC.fr hJ.1 hJ.2.1 (mX.ofF F2) rfl
  have kT2 : TW μ2 := kT.fr hJ.1 (mX.ofF F2) rfl
  refine sv_pop (pc := 1610) dL_law_1610 rfl ?_
  refine sv_aload_n (pc := 1611) dL_law_1611 rfl rfl ?_
  refine la_arg (pc := 1612) (j := 1) dL_law_1612 dL_law_1613 dL_law_1614 dL_law_1615 dL_law_1616 rfl rfl hL (by decide) hs fun a3 b3 => ?_
  refine mr_cVI (pc := 1617) (c_X12_units J2.1 J2.2.1 b3) (gOk _ _ _ _ _) dL_law_1617 (tX12_units _ _ _ _ _) ⟨wV_X12_units, wL_X12_units⟩ wM_DomainHouseLaw_181 (gCX12 _ _ _ _ _) rfl (A_106 J2.1) rfl ⟨le_t rfl, le_t rfl⟩ ⟨show w.1 ≤ 600000 by omega, show szW w ≤ 7302250 by omega⟩ rfl (le_t rfl) fun z4 μ4 T4 F4 P4 => ?_
  have kR4 : K2R μ4 y := kR2.fr J2.1 J2.2.1 (mX.ofF F4) rfl
  have kC4 : K2C w μ4 y := kC2.fr J2.1 J2.2.1 (mX.ofF F4) rfl
  have J4 : J w μ4 := J2.mod T4 F4 rfl rfl (G1.ofK kR4 kX) (EV.ofK kR4 kX) (PK.ofK kR4 (J2.2.2.2.2.2.2.1.2.2.pT J2.1 F4 rfl)) (F4.f (A_106 J2.1) rfl rfl)
  have kT4 : TW μ4 := kT2.fr J2.1 (mX.ofF F4) rfl
  refine sv_pop (pc := 1620) dL_law_1620 rfl ?_
  refine sv_goto (pc := 1621) (tgt := 1798) dL_law_1621 (by decide) ?_
  exact nx w μ4 _ _ J4 (K3.mk kC4 kR4 (k2S.refl kX) kU kB kT4)
theorem op_40 {l : Launch} {D : va_G} {c : Nat → ClassId} {H0 : Heap} {sa : Nat × Nat × (Nat → Int32)} {w : mW} {μ : mM} {L : Int} (hJ : J w μ) (hK : K3 w μ L) (hL : 0 ≤ L ∧ L + 7 ≤ (sa.2.1 : Int)) (hs : sa.2.1 ≤ 3584) (nx : ∀ (w1 : mW) (μ1 : mM) (ce sl : Nat), J w1 μ1 → K3 w1 μ1 (L + 7) → sV (gG l D c H0 sa) mL room_1 lwZ 1798 [(3, iv L), (2, .ref 106), (1, .ref 0), (0, .retAddr 0)] [] (mk w1 μ1) ce sl) : sV (gG l D c H0 sa) mL room_1 lwZ 1624 [(3, iv L), (2, .ref 106), (1, .ref 0), (0, .retAddr 0)] [] (mk w μ) w.1 (szW w) := by
  have hb := hJ.bd
  have hK0 := hK
  obtain ⟨y, kC, kR, kX, kU, kB, kT⟩ := hK
  have hM : sMd (xS (yX y)) ≤ 2000000000 := by omega
  refine sv_aload_n (pc := 1624) dL_law_1624 rfl rfl ?_
  refine la_argE (pc := 1625) (j := 1) dL_law_1625 dL_law_1626 dL_law_1627 dL_law_1628 dL_law_1629 rfl rfl hL (by decide) hs fun a1 s1 b1 => ?_
  refine mr_cVI (pc := 1630) (c_X11_least_W hJ.1 hJ.2.1 b1 (C_leastA hJ.1 hJ.2.1 kC kX kU)) (gOk _ _ _ _ _) dL_law_1630 (tX11_least _ _ _ _ _) ⟨wV_X11_least, wL_X11_least⟩ wM_DomainHouseLaw_182 (gCX11 _ _ _ _ _) rfl (A_0 hJ.1) rfl ⟨le_t rfl, le_t rfl⟩ ⟨show w.1 ≤ 600000 by omega, show szW w ≤ 7302250 by omega⟩ rfl (le_t rfl) fun z2 μ2 T2 F2 P2 => ?_
  obtain ⟨rg2, t2, _⟩ := P2
  have J2 : J w μ2 := hJ.cls T2 F2 rfl (hJ.2.2.2.1.f hJ.1 F2 rfl rfl)
  have kR2 : K2R μ2 y := kR.fr hJ.1 hJ.2.1 (mX.ofF F2) rfl
  have kC2 : K2C w μ2 y := kC.fr hJ.1 hJ.2.1 (mX.ofF F2) rfl
  have kT2 : TW μ2 := kT.fr hJ.1 (mX.ofF F2) rfl
  refine sv_aload_n (pc := 1633) dL_law_1633 rfl rfl ?_
  refine la_argE (pc := 1634) (j := 1) dL_law_1634 dL_law_1635 dL_law_1636 dL_law_1637 dL_law_1638 rfl rfl hL (by decide) hs fun a3 s3 b3 => ?_
  obtain rfl : a1 = a3 := s1.trans s3.symm
  refine mr_cVI (pc := 1639) (c_X12_least_W J2.1 J2.2.1 b3 (R_leastA J2.1 J2.2.1 kR2 kX kU)) (gOk _ _ _ _ _) dL_law_1639 (tX12_least _ _ _ _ _) ⟨wV_X12_least, wL_X12_least⟩ wM_DomainHouseLaw_185 (gCX12 _ _ _ _ _) rfl (A_106 J2.1) rfl ⟨le_t rfl, le_t rfl⟩ ⟨show w.1 ≤ 600000 by omega, show szW w ≤ 7302250 by omega⟩ rfl (le_t rfl) fun z4 μ4 T4 F4 P4 => ?_
  obtain ⟨rg4, t4, _⟩ := P4
  have kR4 : K2R μ4 y := kR2.fr J2.1 J2.2.1 (mX.ofF F4) rfl
  have kC4 : K2C w μ4 y := kC2.fr J2.1 J2.2.1 (mX.ofF F4) rfl
  have J4 : J w μ4 := J2.mod T4 F4 rfl rfl (G1.ofK kR4 kX) (EV.ofK kR4 kX) (PK.ofK kR4 (J2.2.2.2.2.2.2.1.2.2.pT J2.1 F4 rfl)) (F4.f (A_106 J2.1) rfl rfl)
  have kT4 : TW μ4 := kT2.fr J2.1 (mX.ofF F4) rfl
  have eqz : z2 = z4 := leQ.eq t2 t4 rg2 rg4
  refine mr_icmp_eq (pc := 1642) (tgt := 1798) dL_law_1642 (by decide) ⟨by omega, by omega⟩ ⟨by omega, by omega⟩ (fun _ => ?_) (fun h => absurd eqz h)
  exact nx w μ4 _ _ J4 (K3.mk kC4 kR4 (k2S.refl kX) kU kB kT4)
theorem op_41 {l : Launch} {D : va_G} {c : Nat → ClassId} {H0 : Heap} {sa : Nat × Nat × (Nat → Int32)} {w : mW} {μ : mM} {L : Int} (hJ : J w μ) (hK : K3 w μ L) (hL : 0 ≤ L ∧ L + 7 ≤ (sa.2.1 : Int)) (hs : sa.2.1 ≤ 3584) (nx : ∀ (w1 : mW) (μ1 : mM) (ce sl : Nat), J w1 μ1 → K3 w1 μ1 (L + 7) → sV (gG l D c H0 sa) mL room_1 lwZ 1798 [(3, iv L), (2, .ref 106), (1, .ref 0), (0, .retAddr 0)] [] (mk w1 μ1) ce sl) : sV (gG l D c H0 sa) mL room_1 lwZ 1647 [(3, iv L), (2, .ref 106), (1, .ref 0), (0, .retAddr 0)] [] (mk w μ) w.1 (szW w) := by
  have hb := hJ.bd
  have hK0 := hK
  obtain ⟨y, kC, kR, kX, kU, kB, kT⟩ := hK
  have hM : sMd (xS (yX y)) ≤ 2000000000 := by omega
  refine sv_aload_n (pc := 1647) dL_law_1647 rfl rfl ?_
  refine la_arg (pc := 1648) (j := 1) dL_law_1648 dL_law_1649 dL_law_1650 dL_law_1651 dL_law_1652 rfl rfl hL (by decide) hs fun a1 b1 => ?_
  refine la_arg (pc := 1653) (j := 2) dL_law_1653 dL_law_1654 dL_law_1655 dL_law_1656 dL_law_1657 rfl rfl hL (by decide) hs fun a2 b2 => ?_
  refine mr_cVJ (pc := 1658) (c_X11_differ hJ.1 hJ.2.1 b1 b2) (gOk _ _ _ _ _) dL_law_1658 (tX11_differ _ _ _ _ _) ⟨wV_X11_differ, wL_X11_differ⟩ wM_DomainHouseLaw_186 (gCX11 _ _ _ _ _) rfl (A_0 hJ.1) rfl ⟨le_t rfl, le_t rfl⟩ ⟨show w.1 ≤ 600000 by omega, show szW w ≤ 7302250 by omega⟩ rfl (le_t rfl) fun z3 μ3 T3 F3 P3 => ?_
  have J3 : J w μ3 := hJ.cls T3 F3 rfl (hJ.2.2.2.1.f hJ.1 F3 rfl rfl)
  have kR3 : K2R μ3 y := kR.fr hJ.1 hJ.2.1 (mX.ofF F3) rfl
  have kC3 : K2C w μ3 y := kC.fr hJ.1 hJ.2.1 (mX.ofF F3) rfl
  have kT3 : TW μ3 := kT.fr hJ.1 (mX.ofF F3) rfl
  refine sv_pop2L (pc := 1661) dL_law_1661 ?_
  refine sv_aload_n (pc := 1662) dL_law_1662 rfl rfl ?_
  refine la_arg (pc := 1663) (j := 1) dL_law_1663 dL_law_1664 dL_law_1665 dL_law_1666 dL_law_1667 rfl rfl hL (by decide) hs fun a4 b4 => ?_
  refine la_arg (pc := 1668) (j := 2) dL_law_1668 dL_law_1669 dL_law_1670 dL_law_1671 dL_law_1672 rfl rfl hL (by decide) hs fun a5 b5 => ?_
  refine mr_cVJ (pc := 1673) (c_X12_differ J3.1 J3.2.1 b4 b5) (gOk _ _ _ _ _) dL_law_1673 (tX12_differ _ _ _ _ _) ⟨wV_X12_differ, wL_X12_differ⟩ wM_DomainHouseLaw_190 (gCX12 _ _ _ _ _) rfl (A_106 J3.1) rfl ⟨le_t rfl, le_t rfl⟩ ⟨show w.1 ≤ 600000 by omega, show szW w ≤ 7302250 by omega⟩ rfl (le_t rfl) fun z6 μ6 T6 F6 P6 => ?_
  have kR6 : K2R μ6 y := kR3.fr J3.1 J3.2.1 (mX.ofF F6) rfl
  have kC6 : K2C w μ6 y := kC3.fr J3.1 J3.2.1 (mX.ofF F6) rfl
  have J6 : J w μ6 := J3.mod T6 F6 rfl rfl (G1.ofK kR6 kX) (EV.ofK kR6 kX) (PK.ofK kR6 (J3.2.2.2.2.2.2.1.2.2.pT J3.1 F6 rfl)) (F6.f (A_106 J3.1) rfl rfl)
  have kT6 : TW μ6 := kT3.fr J3.1 (mX.ofF F6) rfl
  refine sv_pop2L (pc := 1676) dL_law_1676 ?_
  refine sv_goto (pc := 1677) (tgt := 1798) dL_law_1677 (by decide) ?_
  exact nx w μ6 _ _ J6 (K3.mk kC6 kR6 (k2S.refl kX) kU kB kT6)
theorem op_42 {l : Launch} {D : va_G} {c : Nat → ClassId} {H0 : Heap} {sa : Nat × Nat × (Nat → Int32)} {w : mW} {μ : mM} {L : Int} (hJ : J w μ) (hK : K3 w μ L) (hL : 0 ≤ L ∧ L + 7 ≤ (sa.2.1 : Int)) (hs : sa.2.1 ≤ 3584) (nx : ∀ (w1 : mW) (μ1 : mM) (ce sl : Nat), J w1 μ1 → K3 w1 μ1 (L + 7) → sV (gG l D c H0 sa) mL room_1 lwZ 1798 [(3, iv L), (2, .ref 106), (1, .ref 0), (0, .retAddr 0)] [] (mk w1 μ1) ce sl) : sV (gG l D c H0 sa) mL room_1 lwZ 1680 [(3, iv L), (2, .ref 106), (1, .ref 0), (0, .retAddr 0)] [] (mk w μ) w.1 (szW w) := by
  have hb := hJ.bd
  have hK0 := hK
  obtain ⟨y, kC, kR, kX, kU, kB, kT⟩ := hK
  have hM : sMd (xS (yX y)) ≤ 2000000000 := by omega
  refine sv_aload_n (pc := 1680) dL_law_1680 rfl rfl ?_
  refine mr_cVI (pc := 1681) (c_X11_clear hJ.1 hJ.2.1) (gOk _ _ _ _ _) dL_law_1681 (tX11_clear _ _ _ _ _) ⟨wV_X11_clear, wL_X11_clear⟩ wM_DomainHouseLaw_191 (gCX11 _ _ _ _ _) rfl (A_0 hJ.1) rfl ⟨le_t rfl, le_t rfl⟩ ⟨show w.1 ≤ 600000 by omega, show szW w ≤ 7302250 by omega⟩ rfl (le_t rfl) fun z1 μ1 T1 F1 P1 => ?_
  have J1 : J w μ1 := hJ.cls T1 F1 rfl (hJ.2.2.2.1.f hJ.1 F1 rfl rfl)
  have kR1 : K2R μ1 y := kR.fr hJ.1 hJ.2.1 (mX.ofF F1) rfl
  have kC1 : K2C w μ1 y := kC.fr hJ.1 hJ.2.1 (mX.ofF F1) rfl
  have kT1 : TW μ1 := kT.fr hJ.1 (mX.ofF F1) rfl
  refine sv_pop (pc := 1684) dL_law_1684 rfl ?_
  refine sv_aload_n (pc := 1685) dL_law_1685 rfl rfl ?_
  refine mr_cVI (pc := 1686) (c_X12_clear J1.1 J1.2.1) (gOk _ _ _ _ _) dL_law_1686 (tX12_clear _ _ _ _ _) ⟨wV_X12_clear, wL_X12_clear⟩ wM_DomainHouseLaw_194 (gCX12 _ _ _ _ _) rfl (A_106 J1.1) rfl ⟨le_t rfl, le_t rfl⟩ ⟨show w.1 ≤ 600000 by omega, show szW w ≤ 7302250 by omega⟩ rfl (le_t rfl) fun z2 μ2 T2 F2 P2 => ?_
  have kR2 : K2R μ2 y := kR1.fr J1.1 J1.2.1 (mX.ofF F2) rfl
  have kC2 : K2C w μ2 y := kC1.fr J1.1 J1.2.1 (mX.ofF F2) rfl
  have J2 : J w μ2 := J1.mod T2 F2 rfl rfl (G1.ofK kR2 kX) (EV.ofK kR2 kX) (PK.ofK kR2 (J1.2.2.2.2.2.2.1.2.2.pT J1.1 F2 rfl)) (F2.f (A_106 J1.1) rfl rfl)
  have kT2 : TW μ2 := kT1.fr J1.1 (mX.ofF F2) rfl
  refine sv_pop (pc := 1689) dL_law_1689 rfl ?_
  refine sv_goto (pc := 1690) (tgt := 1798) dL_law_1690 (by decide) ?_
  exact nx w μ2 _ _ J2 (K3.mk kC2 kR2 (k2S.refl kX) kU kB kT2)
theorem op_43 {l : Launch} {D : va_G} {c : Nat → ClassId} {H0 : Heap} {sa : Nat × Nat × (Nat → Int32)} {w : mW} {μ : mM} {L : Int} (hJ : J w μ) (hK : K3 w μ L) (hL : 0 ≤ L ∧ L + 7 ≤ (sa.2.1 : Int)) (hs : sa.2.1 ≤ 3584) (nx : ∀ (w1 : mW) (μ1 : mM) (ce sl : Nat), J w1 μ1 → K3 w1 μ1 (L + 7) → sV (gG l D c H0 sa) mL room_1 lwZ 1798 [(3, iv L), (2, .ref 106), (1, .ref 0), (0, .retAddr 0)] [] (mk w1 μ1) ce sl) : sV (gG l D c H0 sa) mL room_1 lwZ 1693 [(3, iv L), (2, .ref 106), (1, .ref 0), (0, .retAddr 0)] [] (mk w μ) w.1 (szW w) := by
  have hb := hJ.bd
  have hK0 := hK
  obtain ⟨y, kC, kR, kX, kU, kB, kT⟩ := hK
  have hM : sMd (xS (yX y)) ≤ 2000000000 := by omega
  refine sv_aload_n (pc := 1693) dL_law_1693 rfl rfl ?_
  refine mr_cVI (pc := 1694) (c_X11_wish hJ.1 hJ.2.1) (gOk _ _ _ _ _) dL_law_1694 (tX11_wish _ _ _ _ _) ⟨wV_X11_wish, wL_X11_wish⟩ wM_DomainHouseLaw_195 (gCX11 _ _ _ _ _) rfl (A_0 hJ.1) rfl ⟨le_t rfl, le_t rfl⟩ ⟨show w.1 ≤ 600000 by omega, show szW w ≤ 7302250 by omega⟩ rfl (le_t rfl) fun z1 μ1 T1 F1 P1 => ?_
  have J1 : J w μ1 := hJ.cls T1 F1 rfl (hJ.2.2.2.1.f hJ.1 F1 rfl rfl)
  have kR1 : K2R μ1 y := kR.fr hJ.1 hJ.2.1 (mX.ofF F1) rfl
  have kC1 : K2C w μ1 y := kC.fr hJ.1 hJ.2.1 (mX.ofF F1) rfl
  have kT1 : TW μ1 := kT.fr hJ.1 (mX.ofF F1) rfl
  refine sv_pop (pc := 1697) dL_law_1697 rfl ?_
  refine sv_aload_n (pc := 1698) dL_law_1698 rfl rfl ?_
  refine mr_cVI (pc := 1699) (c_X12_wish J1.1 J1.2.1 rfl) (gOk _ _ _ _ _) dL_law_1699 (tX12_wish _ _ _ _ _) ⟨wV_X12_wish, wL_X12_wish⟩ wM_DomainHouseLaw_198 (gCX12 _ _ _ _ _) rfl (A_106 J1.1) rfl ⟨le_t rfl, le_t rfl⟩ ⟨show w.1 ≤ 600000 by omega, show szW w ≤ 7302250 by omega⟩ rfl (le_t rfl) fun z2 μ2 T2 F2 P2 => ?_
  have kR2 : K2R μ2 y := kR1.fr J1.1 J1.2.1 (mX.ofF F2) rfl
  have kC2 : K2C w μ2 y := kC1.fr J1.1 J1.2.1 (mX.ofF F2) rfl
  have J2 : J w μ2 := J1.mod T2 F2 rfl rfl (G1.ofK kR2 kX) (EV.ofK kR2 kX) (PK.ofK kR2 (J1.2.2.2.2.2.2.1.2.2.pT J1.1 F2 rfl)) (F2.f (A_106 J1.1) rfl rfl)
  have kT2 : TW μ2 := kT1.fr J1.1 (mX.ofF F2) rfl
  refine sv_pop (pc := 1702) dL_law_1702 rfl ?_
  refine sv_goto (pc := 1703) (tgt := 1798) dL_law_1703 (by decide) ?_
  exact nx w μ2 _ _ J2 (K3.mk kC2 kR2 (k2S.refl kX) kU kB kT2)
theorem op_44 {l : Launch} {D : va_G} {c : Nat → ClassId} {H0 : Heap} {sa : Nat × Nat × (Nat → Int32)} {w : mW} {μ : mM} {L : Int} (hJ : J w μ) (hK : K3 w μ L) (hL : 0 ≤ L ∧ L + 7 ≤ (sa.2.1 : Int)) (hs : sa.2.1 ≤ 3584) (nx : ∀ (w1 : mW) (μ1 : mM) (ce sl : Nat), J w1 μ1 → K3 w1 μ1 (L + 7) → sV (gG l D c H0 sa) mL room_1 lwZ 1798 [(3, iv L), (2, .ref 106), (1, .ref 0), (0, .retAddr 0)] [] (mk w1 μ1) ce sl) : sV (gG l D c H0 sa) mL room_1 lwZ 1706 [(3, iv L), (2, .ref 106), (1, .ref 0), (0, .retAddr 0)] [] (mk w μ) w.1 (szW w) := by
  have hb := hJ.bd
  have hK0 := hK
  obtain ⟨y, kC, kR, kX, kU, kB, kT⟩ := hK
  have hM : sMd (xS (yX y)) ≤ 2000000000 := by omega
  refine sv_aload_n (pc := 1706) dL_law_1706 rfl rfl ?_
  obtain ⟨b7, q7, hA7⟩ := refE (hJ.2.1 94 94 (A_94 hJ.1) 7)
  refine mr_cVIX (pc := 1707) (c_X11_rests cuAll hJ.1 hJ.2.1 hJ.2.2.2.2.1 q7 hA7) (gOk _ _ _ _ _) dL_law_1707 (tX11_rests _ _ _ _ _) ⟨wV_X11_rests, wL_X11_rests⟩ wM_DomainHouseLaw_199 (gCX11 _ _ _ _ _) rfl (A_0 hJ.1) rfl ⟨le_t rfl, le_t rfl⟩ ⟨show w.1 + 93312 ≤ 600000 by omega, show szW w + 186624 ≤ 7302250 by omega⟩ rfl (le_t rfl) fun z1 w1 μ1 W1 T1 X1 P1 => ?_
  have J1 : J w1 μ1 := hJ.rst W1 T1 X1 q7 P1.2
  have kR1 : K2R μ1 y := kR.fr hJ.1 hJ.2.1 X1 rfl
  have kT1 : TW μ1 := kT.fr hJ.1 X1 rfl
  have kC1 : K2C w1 μ1 y := kC.fr hJ.1 hJ.2.1 X1 rfl
  refine sv_pop (pc := 1710) dL_law_1710 rfl ?_
  refine sv_aload_n (pc := 1711) dL_law_1711 rfl rfl ?_
  refine mr_cVI (pc := 1712) (c_X12_rests J1.1 J1.2.1) (gOk _ _ _ _ _) dL_law_1712 (tX12_rests _ _ _ _ _) ⟨wV_X12_rests, wL_X12_rests⟩ wM_DomainHouseLaw_202 (gCX12 _ _ _ _ _) rfl (A_106 J1.1) rfl ⟨le_t rfl, le_t rfl⟩ ⟨show (w.1 + 93312) ≤ 600000 by omega, show (szW w + 186624) ≤ 7302250 by omega⟩ rfl (le_t rfl) fun z2 μ2 T2 F2 P2 => ?_
  have kR2 : K2R μ2 y := kR1.fr J1.1 J1.2.1 (mX.ofF F2) rfl
  have kC2 : K2C w1 μ2 y := kC1.fr J1.1 J1.2.1 (mX.ofF F2) rfl
  have J2 : J w1 μ2 := J1.mod T2 F2 rfl rfl (G1.ofK kR2 kX) (EV.ofK kR2 kX) (PK.ofK kR2 (J1.2.2.2.2.2.2.1.2.2.pT J1.1 F2 rfl)) (F2.f (A_106 J1.1) rfl rfl)
  have kT2 : TW μ2 := kT1.fr J1.1 (mX.ofF F2) rfl
  refine sv_pop (pc := 1715) dL_law_1715 rfl ?_
  refine sv_goto (pc := 1716) (tgt := 1798) dL_law_1716 (by decide) ?_
  exact nx w1 μ2 _ _ J2 (K3.mk kC2 kR2 (k2S.refl kX) kU kB kT2)
theorem op_45 {l : Launch} {D : va_G} {c : Nat → ClassId} {H0 : Heap} {sa : Nat × Nat × (Nat → Int32)} {w : mW} {μ : mM} {L : Int} (hJ : J w μ) (hK : K3 w μ L) (hL : 0 ≤ L ∧ L + 7 ≤ (sa.2.1 : Int)) (hs : sa.2.1 ≤ 3584) (nx : ∀ (w1 : mW) (μ1 : mM) (ce sl : Nat), J w1 μ1 → K3 w1 μ1 (L + 7) → sV (gG l D c H0 sa) mL room_1 lwZ 1798 [(3, iv L), (2, .ref 106), (1, .ref 0), (0, .retAddr 0)] [] (mk w1 μ1) ce sl) : sV (gG l D c H0 sa) mL room_1 lwZ 1719 [(3, iv L), (2, .ref 106), (1, .ref 0), (0, .retAddr 0)] [] (mk w μ) w.1 (szW w) := by
  have hb := hJ.bd
  have hK0 := hK
  obtain ⟨y, kC, kR, kX, kU, kB, kT⟩ := hK
  have hM : sMd (xS (yX y)) ≤ 2000000000 := by omega
  refine sv_aload_n (pc := 1719) dL_law_1719 rfl rfl ?_
  refine la_arg (pc := 1720) (j := 1) dL_law_1720 dL_law_1721 dL_law_1722 dL_law_1723 dL_law_1724 rfl rfl hL (by decide) hs fun a1 b1 => ?_
  refine la_arg (pc := 1725) (j := 2) dL_law_1725 dL_law_1726 dL_law_1727 dL_law_1728 dL_law_1729 rfl rfl hL (by decide) hs fun a2 b2 => ?_
  obtain ⟨b7, q7, hA7⟩ := refE (hJ.2.1 94 94 (A_94 hJ.1) 7)
  refine mr_cVIX (pc := 1730) (c_X11_rest cuAll hJ.1 hJ.2.1 hJ.2.2.2.2.1 q7 hA7 b1 b2) (gOk _ _ _ _ _) dL_law_1730 (tX11_rest _ _ _ _ _) ⟨wV_X11_rest, wL_X11_rest⟩ wM_DomainHouseLaw_203 (gCX11 _ _ _ _ _) rfl (A_0 hJ.1) rfl ⟨le_t rfl, le_t rfl⟩ ⟨show w.1 + 93312 ≤ 600000 by omega, show szW w + 186624 ≤ 7302250 by omega⟩ rfl (le_t rfl) fun z3 w3 μ3 W3 T3 X3 P3 => ?_
  have J3 : J w3 μ3 := hJ.rst W3 T3 X3 q7 P3.2
  have kR3 : K2R μ3 y := kR.fr hJ.1 hJ.2.1 X3 rfl
  have kT3 : TW μ3 := kT.fr hJ.1 X3 rfl
  have kC3 : K2C w3 μ3 y := kC.fr hJ.1 hJ.2.1 X3 rfl
  refine sv_pop (pc := 1733) dL_law_1733 rfl ?_
  refine sv_aload_n (pc := 1734) dL_law_1734 rfl rfl ?_
  refine la_arg (pc := 1735) (j := 1) dL_law_1735 dL_law_1736 dL_law_1737 dL_law_1738 dL_law_1739 rfl rfl hL (by decide) hs fun a4 b4 => ?_
  refine la_arg (pc := 1740) (j := 2) dL_law_1740 dL_law_1741 dL_law_1742 dL_law_1743 dL_law_1744 rfl rfl hL (by decide) hs fun a5 b5 => ?_
  refine mr_cVI (pc := 1745) (c_X12_rest J3.1 J3.2.1 b4 b5) (gOk _ _ _ _ _) dL_law_1745 (tX12_rest _ _ _ _ _) ⟨wV_X12_rest, wL_X12_rest⟩ wM_DomainHouseLaw_206 (gCX12 _ _ _ _ _) rfl (A_106 J3.1) rfl ⟨le_t rfl, le_t rfl⟩ ⟨show (w.1 + 93312) ≤ 600000 by omega, show (szW w + 186624) ≤ 7302250 by omega⟩ rfl (le_t rfl) fun z6 μ6 T6 F6 P6 => ?_
  have kR6 : K2R μ6 y := kR3.fr J3.1 J3.2.1 (mX.ofF F6) rfl
  have kC6 : K2C w3 μ6 y := kC3.fr J3.1 J3.2.1 (mX.ofF F6) rfl
  have J6 : J w3 μ6 := J3.mod T6 F6 rfl rfl (G1.ofK kR6 kX) (EV.ofK kR6 kX) (PK.ofK kR6 (J3.2.2.2.2.2.2.1.2.2.pT J3.1 F6 rfl)) (F6.f (A_106 J3.1) rfl rfl)
  have kT6 : TW μ6 := kT3.fr J3.1 (mX.ofF F6) rfl
  refine sv_pop (pc := 1748) dL_law_1748 rfl ?_
  refine sv_goto (pc := 1749) (tgt := 1798) dL_law_1749 (by decide) ?_
  exact nx w3 μ6 _ _ J6 (K3.mk kC6 kR6 (k2S.refl kX) kU kB kT6)
theorem op_46 {l : Launch} {D : va_G} {c : Nat → ClassId} {H0 : Heap} {sa : Nat × Nat × (Nat → Int32)} {w : mW} {μ : mM} {L : Int} (hJ : J w μ) (hK : K3 w μ L) (hL : 0 ≤ L ∧ L + 7 ≤ (sa.2.1 : Int)) (hs : sa.2.1 ≤ 3584) (nx : ∀ (w1 : mW) (μ1 : mM) (ce sl : Nat), J w1 μ1 → K3 w1 μ1 (L + 7) → sV (gG l D c H0 sa) mL room_1 lwZ 1798 [(3, iv L), (2, .ref 106), (1, .ref 0), (0, .retAddr 0)] [] (mk w1 μ1) ce sl) : sV (gG l D c H0 sa) mL room_1 lwZ 1752 [(3, iv L), (2, .ref 106), (1, .ref 0), (0, .retAddr 0)] [] (mk w μ) w.1 (szW w) := by
  have hb := hJ.bd
  have hK0 := hK
  obtain ⟨y, kC, kR, kX, kU, kB, kT⟩ := hK
  have hM : sMd (xS (yX y)) ≤ 2000000000 := by omega
  refine sv_aload_n (pc := 1752) dL_law_1752 rfl rfl ?_
  refine la_arg (pc := 1753) (j := 1) dL_law_1753 dL_law_1754 dL_law_1755 dL_law_1756 dL_law_1757 rfl rfl hL (by decide) hs fun a1 b1 => ?_
  obtain ⟨b6, q6, hA6⟩ := refE (hJ.2.1 94 94 (A_94 hJ.1) 6)
  obtain ⟨b8, q8, hA8⟩ := refE (hJ.2.1 94 94 (A_94 hJ.1) 8)
  have hle : w.2.2.1 b6 = w.2.2.1 b8 := by have h := hJ.2.2.2.2.2.1; unfold TQ at h; rw [q6, q8] at h; exact h
  refine mr_cVIX (pc := 1758) (c_X11_tries hJ.1 hJ.2.1 b1 q6 hA6 q8 hA8 hle) (gOk _ _ _ _ _) dL_law_1758 (tX11_tries _ _ _ _ _) ⟨wV_X11_tries, wL_X11_tries⟩ wM_DomainHouseLaw_207 (gCX11 _ _ _ _ _) rfl (A_0 hJ.1) rfl ⟨le_t rfl, le_t rfl⟩ ⟨show w.1 + 2 ≤ 600000 by omega, show szW w + 186624 ≤ 7302250 by omega⟩ rfl (le_t rfl) fun z2 w2 μ2 W2 T2 X2 P2 => ?_
  have J2 : J w2 μ2 := hJ.try W2 T2 X2 q6 P2.2.1 P2.2.2.1
  have kR2 : K2R μ2 y := kR.fr hJ.1 hJ.2.1 X2 rfl
  have kT2 : TW μ2 := kT.fr hJ.1 X2 rfl
  have kC2 : K2C w2 μ2 y := kC.fr hJ.1 hJ.2.1 X2 rfl
  refine sv_pop (pc := 1761) dL_law_1761 rfl ?_
  refine sv_aload_n (pc := 1762) dL_law_1762 rfl rfl ?_
  refine la_arg (pc := 1763) (j := 1) dL_law_1763 dL_law_1764 dL_law_1765 dL_law_1766 dL_law_1767 rfl rfl hL (by decide) hs fun a3 b3 => ?_
  refine mr_cVI (pc := 1768) (c_X12_tries J2.1 J2.2.1 b3) (gOk _ _ _ _ _) dL_law_1768 (tX12_tries _ _ _ _ _) ⟨wV_X12_tries, wL_X12_tries⟩ wM_DomainHouseLaw_210 (gCX12 _ _ _ _ _) rfl (A_106 J2.1) rfl ⟨le_t rfl, le_t rfl⟩ ⟨show (w.1 + 2) ≤ 600000 by omega, show (szW w + 186624) ≤ 7302250 by omega⟩ rfl (le_t rfl) fun z4 μ4 T4 F4 P4 => ?_
  have kR4 : K2R μ4 y := kR2.fr J2.1 J2.2.1 (mX.ofF F4) rfl
  have kC4 : K2C w2 μ4 y := kC2.fr J2.1 J2.2.1 (mX.ofF F4) rfl
  have J4 : J w2 μ4 := J2.mod T4 F4 rfl rfl (G1.ofK kR4 kX) (EV.ofK kR4 kX) (PK.ofK kR4 (J2.2.2.2.2.2.2.1.2.2.pT J2.1 F4 rfl)) (F4.f (A_106 J2.1) rfl rfl)
  have kT4 : TW μ4 := kT2.fr J2.1 (mX.ofF F4) rfl
  refine sv_pop (pc := 1771) dL_law_1771 rfl ?_
  refine sv_goto (pc := 1772) (tgt := 1798) dL_law_1772 (by decide) ?_
  exact nx w2 μ4 _ _ J4 (K3.mk kC4 kR4 (k2S.refl kX) kU kB kT4)
theorem op_47 {l : Launch} {D : va_G} {c : Nat → ClassId} {H0 : Heap} {sa : Nat × Nat × (Nat → Int32)} {w : mW} {μ : mM} {L : Int} (hJ : J w μ) (hK : K3 w μ L) (hL : 0 ≤ L ∧ L + 7 ≤ (sa.2.1 : Int)) (hs : sa.2.1 ≤ 3584) (nx : ∀ (w1 : mW) (μ1 : mM) (ce sl : Nat), J w1 μ1 → K3 w1 μ1 (L + 7) → sV (gG l D c H0 sa) mL room_1 lwZ 1798 [(3, iv L), (2, .ref 106), (1, .ref 0), (0, .retAddr 0)] [] (mk w1 μ1) ce sl) : sV (gG l D c H0 sa) mL room_1 lwZ 1775 [(3, iv L), (2, .ref 106), (1, .ref 0), (0, .retAddr 0)] [] (mk w μ) w.1 (szW w) := by
  have hb := hJ.bd
  have hK0 := hK
  obtain ⟨y, kC, kR, kX, kU, kB, kT⟩ := hK
  have hM : sMd (xS (yX y)) ≤ 2000000000 := by omega
  refine sv_aload_n (pc := 1775) dL_law_1775 rfl rfl ?_
  refine la_arg (pc := 1776) (j := 1) dL_law_1776 dL_law_1777 dL_law_1778 dL_law_1779 dL_law_1780 rfl rfl hL (by decide) hs fun a1 b1 => ?_
  refine mr_cVP (pc := 1781) (c_X11_count hJ.1 hJ.2.1 b1) (gOk _ _ _ _ _) dL_law_1781 (tX11_count _ _ _ _ _) ⟨wV_X11_count, wL_X11_count⟩ wM_DomainHouseLaw_211 (gCX11 _ _ _ _ _) rfl (A_0 hJ.1) rfl ⟨le_t rfl, le_t rfl⟩ ⟨show w.1 ≤ 600000 by omega, show szW w ≤ 7302250 by omega⟩ rfl (le_t rfl) fun z2 h2 => ?_
  refine sv_pop (pc := 1784) dL_law_1784 rfl ?_
  refine sv_aload_n (pc := 1785) dL_law_1785 rfl rfl ?_
  refine la_arg (pc := 1786) (j := 1) dL_law_1786 dL_law_1787 dL_law_1788 dL_law_1789 dL_law_1790 rfl rfl hL (by decide) hs fun a3 b3 => ?_
  refine mr_cVP (pc := 1791) (c_X12_count hJ.1 hJ.2.1 b3) (gOk _ _ _ _ _) dL_law_1791 (tX12_count _ _ _ _ _) ⟨wV_X12_count, wL_X12_count⟩ wM_DomainHouseLaw_214 (gCX12 _ _ _ _ _) rfl (A_106 hJ.1) rfl ⟨le_t rfl, le_t rfl⟩ ⟨show w.1 ≤ 600000 by omega, show szW w ≤ 7302250 by omega⟩ rfl (le_t rfl) fun z4 h4 => ?_
  refine sv_pop (pc := 1794) dL_law_1794 rfl ?_
  refine sv_goto (pc := 1795) (tgt := 1798) dL_law_1795 (by decide) ?_
  exact nx w μ _ _ hJ (K3.mk kC kR (k2S.refl kX) kU kB kT)
