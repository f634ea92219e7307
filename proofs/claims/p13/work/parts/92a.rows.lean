theorem vc_X4_makeRoom_1 {f_st : Int} (h0 : 1 ≤ f_st) (h1 : 0 ≤ f_st ∧ f_st ≤ 46656) : 1 ≤ f_st ∧ f_st ≤ 46656 := by omega
theorem vc_X4_makeRoom_2 {f_st n_167 n_170 : Int} (h0 : f_st ≤ n_167) (h1 : 1 ≤ f_st) (h2 : n_170 = n_167) (h3 : 1 ≤ f_st ∧ f_st ≤ 46656) (h4 : 0 ≤ n_167 ∧ n_167 ≤ 93312) (h5 : 0 ≤ n_170 ∧ n_170 ≤ 93312) : 1 ≤ n_167 ∧ n_167 ≤ 93312 := by omega
theorem vc_X4_makeRoom_3 {f_st n_167 n_170 : Int} (h0 : 1 ≤ f_st) (h1 : n_170 = n_167) (h2 : f_st ≤ n_167) (h3 : 1 ≤ f_st ∧ f_st ≤ 46656) (h4 : 1 ≤ n_167 ∧ n_167 ≤ 93312) (h5 : 0 ≤ n_170 ∧ n_170 ≤ 93312) : f_st ≤ n_167 := by omega
theorem vc_X4_makeRoom_4 {f_st n_167 n_170 : Int} (h0 : 1 ≤ f_st) (h1 : n_170 = n_167) (h2 : f_st ≤ n_167) (h3 : 1 ≤ f_st ∧ f_st ≤ 46656) (h4 : 1 ≤ n_167 ∧ n_167 ≤ 93312) (h5 : 0 ≤ n_170 ∧ n_170 ≤ 93312) : f_st ≤ n_170 := by omega
theorem vc_X4_makeRoom_5 {f_st n_167 n_170 : Int} (h0 : n_170 = n_167) (h1 : f_st ≤ n_167) (h2 : 1 ≤ f_st) (h3 : 1 ≤ f_st ∧ f_st ≤ 46656) (h4 : 1 ≤ n_167 ∧ n_167 ≤ 93312) (h5 : 0 ≤ n_170 ∧ n_170 ≤ 93312) : n_167 = n_170 := by omega
theorem vc_X4_makeRoom_6 {f_st n_167 n_170 : Int} (h0 : n_167 < f_st) (h1 : 1 ≤ f_st) (h2 : n_170 = n_167) (h3 : 1 ≤ f_st ∧ f_st ≤ 46656) (h4 : 0 ≤ n_167 ∧ n_167 ≤ 93312) (h5 : 0 ≤ n_170 ∧ n_170 ≤ 93312) : 0 ≤ n_167 ∧ n_167 ≤ 46655 := by omega
theorem vc_X4_makeRoom_7 {f_st n_167 n_170 z181 : Int} (h0 : 1 ≤ f_st) (h1 : n_170 = n_167) (h2 : n_167 < f_st) (h3 : ((z181 = f_st ∨ z181 = (2 * n_167)) ∧ f_st ≤ z181 ∧ (2 * n_167) ≤ z181)) (h4 : 1 ≤ f_st ∧ f_st ≤ 46656) (h5 : 0 ≤ n_167 ∧ n_167 ≤ 46655) (h6 : 0 ≤ n_170 ∧ n_170 ≤ 93312) : 1 ≤ z181 ∧ z181 ≤ 93310 := by omega
theorem vc_X4_makeRoom_8 {f_st n_167 n_170 z181 : Int} (h0 : ((z181 = f_st ∨ z181 = (2 * n_167)) ∧ f_st ≤ z181 ∧ (2 * n_167) ≤ z181)) (h1 : 1 ≤ f_st) (h2 : n_170 = n_167) (h3 : n_167 < f_st) (h4 : 1 ≤ f_st ∧ f_st ≤ 46656) (h5 : 0 ≤ n_167 ∧ n_167 ≤ 46655) (h6 : 0 ≤ n_170 ∧ n_170 ≤ 93312) (h7 : 1 ≤ z181 ∧ z181 ≤ 93310) : 0 ≤ z181 ∧ z181 ≤ 93312 := by omega
theorem vc_X4_makeRoom_9 {f_st n_167 n_170 z181 : Int} (h0 : ((z181 = f_st ∨ z181 = (2 * n_167)) ∧ f_st ≤ z181 ∧ (2 * n_167) ≤ z181)) (h1 : 1 ≤ f_st) (h2 : n_170 = n_167) (h3 : n_167 < f_st) (h4 : 1 ≤ f_st ∧ f_st ≤ 46656) (h5 : 0 ≤ n_167 ∧ n_167 ≤ 46655) (h6 : 0 ≤ n_170 ∧ n_170 ≤ 93312) (h7 : 1 ≤ z181 ∧ z181 ≤ 93310) : z181 ≤ 93310 := by omega
theorem vc_X4_makeRoom_10 {f_st n_167 n_170 z181 : Int} (h0 : 1 ≤ f_st) (h1 : n_167 < f_st) (h2 : ((z181 = f_st ∨ z181 = (2 * n_167)) ∧ f_st ≤ z181 ∧ (2 * n_167) ≤ z181)) (h3 : n_170 = n_167) (h4 : 1 ≤ f_st ∧ f_st ≤ 46656) (h5 : 0 ≤ n_167 ∧ n_167 ≤ 46655) (h6 : 0 ≤ n_170 ∧ n_170 ≤ 93312) (h7 : 1 ≤ z181 ∧ z181 ≤ 93310) : f_st ≤ z181 := by omega
theorem vc_X4_makeRoom_11 {f_st n_167 n_170 z181 : Int} (h0 : ((z181 = f_st ∨ z181 = (2 * n_167)) ∧ f_st ≤ z181 ∧ (2 * n_167) ≤ z181)) (h1 : 1 ≤ f_st) (h2 : n_170 = n_167) (h3 : n_167 < f_st) (h4 : 1 ≤ f_st ∧ f_st ≤ 46656) (h5 : 0 ≤ n_167 ∧ n_167 ≤ 46655) (h6 : 0 ≤ n_170 ∧ n_170 ≤ 93312) (h7 : 1 ≤ z181 ∧ z181 ≤ 93310) : z181 = z181 := by omega
theorem vc_X4_makeRoom_12 {f_st n_167 n_170 z181 : Int} (h0 : n_170 = n_167) (h1 : n_167 < f_st) (h2 : ((z181 = f_st ∨ z181 = (2 * n_167)) ∧ f_st ≤ z181 ∧ (2 * n_167) ≤ z181)) (h3 : 1 ≤ f_st) (h4 : 1 ≤ f_st ∧ f_st ≤ 46656) (h5 : 0 ≤ n_167 ∧ n_167 ≤ 46655) (h6 : 0 ≤ n_170 ∧ n_170 ≤ 93312) (h7 : 1 ≤ z181 ∧ z181 ≤ 93310) : 2 * n_167 ≤ z181 ∧ n_167 < z181 := by omega
set_option maxRecDepth 4000 in
set_option maxHeartbeats 4000000 in
theorem c_X4_makeRoom {l : Launch} {D : va_G} {c : Nat → ClassId} {H0 : Heap} {sa : Nat × Nat × (Nat → Int32)} {w_0 : mW} {μ : mM} (hw_0 : mWF w_0) (hT : mT w_0 μ) {f_st : Int} (q_f_st : μ 94 9 = f_st) {bq : Nat} (q_bq : μ 94 6 = (bq : Int)) (hA_bq : mAt w_0 bq 102) {bf : Nat} (q_bf : μ 94 8 = (bf : Int)) (hA_bf : mAt w_0 bf 104) (hq0 : 1 ≤ f_st) (hle : w_0.2.2.1 bq = w_0.2.2.1 bf) : sC (gG l D c H0 sa) mX4_makeRoom 6 2 186624 [.ref 94] (mk w_0 μ) (qVx w_0 [94006, 94008, 104999] μ (fun w1 μ1 => (μ1 94 9 ≤ (w1.2.2.1 (μ1 94 6).toNat : Int)) ∧ (μ1 94 9 ≤ (w1.2.2.1 (μ1 94 8).toNat : Int)) ∧ (w1.2.2.1 (μ1 94 6).toNat = w1.2.2.1 (μ1 94 8).toNat) ∧ (((szW w1 : Int) + 4 * (w_0.2.2.1 bq : Int) ≤ szW w_0 + 4 * (w1.2.2.1 (μ1 94 6).toNat : Int) ∧ (w1.1 : Int) + 2 * (w_0.2.2.1 bq : Int) ≤ (w_0.1 : Int) + 2 * (w1.2.2.1 (μ1 94 6).toNat : Int))) ∧ True)) := by
  refine sC.of rfl (by decide) (le_t rfl) ?_
  have ht_f_st : (0 ≤ f_st ∧ f_st ≤ 46656) := by rw [← q_f_st]; exact hT 94 94 (A_94 hw_0) 9
  have h1 : 1 ≤ f_st ∧ f_st ≤ 46656 := (vc_X4_makeRoom_1 hq0 ht_f_st)
  refine mr_lvE (lv' := [(0, .ref 94)]) rfl ?_
  obtain ⟨n_167, q168⟩ : ∃ n : Int, (w_0.2.2.1 bq : Int) = n := ⟨_, rfl⟩
  have h169 : 0 ≤ n_167 ∧ n_167 ≤ 93312 := lnR (m := 93312) q168 hA_bq rfl
  obtain ⟨n_170, q171⟩ : ∃ n : Int, (w_0.2.2.1 bf : Int) = n := ⟨_, rfl⟩
  have h172 : 0 ≤ n_170 ∧ n_170 ≤ 93312 := lnR (m := 93312) q171 hA_bf rfl
  have h173 : n_170 = n_167 := by rw [← q168, ← q171, hle]
  refine sv_aload_n (pc := 0) dX4_makeRoom_0 rfl rfl ?_
  refine gk_X4_9 (pc := 1) dX4_makeRoom_1 wF_X4_59 (A_94 hw_0) q_f_st ?_
  refine sv_aload_n (pc := 4) dX4_makeRoom_4 rfl rfl ?_
  refine gk_X4_6 (pc := 5) dX4_makeRoom_5 wF_X4_33 (A_94 hw_0) q_bq ?_
  refine mr_alen (pc := 8) (kd := 0) dX4_makeRoom_8 rfl hA_bq rfl q168 ?_
  refine mr_icmp_le (pc := 9) (tgt := 41) dX4_makeRoom_9 (by decide) (r32 h1 rfl) (r32 h169 rfl) (fun h174 => ?_) (fun h174 => ?_)
  · have h175 : 1 ≤ n_167 ∧ n_167 ≤ 93312 := (vc_X4_makeRoom_2 h174 hq0 h173 h1 h169 h172)
    refine sv_aload_n (pc := 41) dX4_makeRoom_41 rfl rfl ?_
    refine gk_X4_8 (pc := 42) dX4_makeRoom_42 wF_X4_39 (A_94 hw_0) q_bf ?_
    refine mr_iconst (pc := 45) (z := 0) dX4_makeRoom_45 ?_
    refine mr_fillB (pc := 46) dX4_makeRoom_46 wM_X4_119 hA_bf rfl rfl (Nat.lt_of_le_of_lt hA_bf.2.2.1 (lt_t rfl)) hT (rW (c := (-128)) (d := 127) (rR (x := 0)) rfl) (fun _ => (rW (c := (-128)) (d := 127) (rR (x := 0)) rfl)) ⟨le_t rfl, le_t rfl⟩ ⟨le_t rfl, le_t rfl⟩ (le_t rfl) fun μ176 q177 T178 => ?_
    have F179 : mF [104999] w_0 μ μ176 := mF.cell q177.1 hA_bf rfl
    exact mr_vretX dX4_makeRoom_49 rfl (le_t rfl) (le_t rfl) hw_0 T178 (mX.fr mX.refl F179 rfl) ⟨(lenP (μ := μ176) (F179.f (A_94 hw_0) rfl q_bq) q168 (F179.f (A_94 hw_0) rfl q_f_st) (vc_X4_makeRoom_3 hq0 h173 h174 h1 h175 h172)), (lenP (μ := μ176) (F179.f (A_94 hw_0) rfl q_bf) q171 (F179.f (A_94 hw_0) rfl q_f_st) (vc_X4_makeRoom_4 hq0 h173 h174 h1 h175 h172)), (lenE (F179.f (A_94 hw_0) rfl q_bq) q168 (F179.f (A_94 hw_0) rfl q_bf) q171 (vc_X4_makeRoom_5 h173 h174 hq0 h1 h175 h172)), (potM0 (F179.f (A_94 hw_0) rfl q_bq)), trivial⟩
  have h180 : 0 ≤ n_167 ∧ n_167 ≤ 46655 := (vc_X4_makeRoom_6 h174 hq0 h173 h1 h169 h172)
  refine sv_aload_n (pc := 12) dX4_makeRoom_12 rfl rfl ?_
  refine gk_X4_9 (pc := 13) dX4_makeRoom_13 wF_X4_59 (A_94 hw_0) q_f_st ?_
  refine mr_iconst (pc := 16) (z := 2) dX4_makeRoom_16 ?_
  refine sv_aload_n (pc := 17) dX4_makeRoom_17 rfl rfl ?_
  refine gk_X4_6 (pc := 18) dX4_makeRoom_18 wF_X4_33 (A_94 hw_0) q_bq ?_
  refine mr_alen (pc := 21) (kd := 0) dX4_makeRoom_21 rfl hA_bq rfl q168 ?_
  refine mr_imul (pc := 22) (x := 2) (y := n_167) dX4_makeRoom_22 ?_
  refine mr_max (pc := 23) dX4_makeRoom_23 wM_X4_114 wS_J_max wI_J_math wK_J_max ⟨le_t rfl, le_t rfl⟩ ⟨le_t rfl, le_t rfl⟩ (le_t rfl) (r32 h1 rfl) (r32 (rMulL (n := 2) (e := 0) (f := 93310) h180 rfl) rfl) fun z181 h182 => ?_
  have h183 : 1 ≤ z181 ∧ z181 ≤ 93310 := (vc_X4_makeRoom_7 hq0 h173 h174 h182 h1 h180 h172)
  refine mr_istore_n (pc := 26) (lv' := [(1, iv z181), (0, .ref 94)]) dX4_makeRoom_26 rfl (by decide) rfl ?_
  refine sv_aload_n (pc := 27) dX4_makeRoom_27 rfl rfl ?_
  refine mr_iload_n (pc := 28) (z := z181) dX4_makeRoom_28 rfl rfl ?_
  refine mr_newI (pc := 29) (s := 102) dX4_makeRoom_29 wA_int rfl (fun U => sI_Cond_int U _) rfl (show 0 ≤ z181 ∧ z181 ≤ ((mLen 102 : Nat) : Int) from (vc_X4_makeRoom_8 h182 hq0 h173 h174 h1 h180 h172 h183)) (le_t rfl) rfl hT (fun _ => (show (0 : Int) ≤ 0 ∧ (0 : Int) ≤ 46655 from by decide)) (le_t rfl) (slLe (show z181 ≤ ((93310 : Nat) : Int) from (vc_X4_makeRoom_9 h182 hq0 h173 h174 h1 h180 h172 h183)) rfl) fun w_184 μ186 X187 T188 A189 e190 q191 c192 v193 => ?_
  refine sv_wid (ce' := 1) (sl' := 93310) (le_t rfl) (slLe (show z181 ≤ ((93310 : Nat) : Int) from (vc_X4_makeRoom_9 h182 hq0 h173 h174 h1 h180 h172 h183)) rfl) ?_
  have hw_185 : mWF w_184 := mWF.ext X187.1 hw_0
  have A194 : mAt w_184 bq 102 := (hA_bq).ext X187.1
  have A195 : mAt w_184 bf 104 := (hA_bf).ext X187.1
  have q196 := X187.len hA_bq q168
  have q197 := X187.len hA_bf q171
  refine pf_X4_6 (pc := 31) dX4_makeRoom_31 wF_X4_33 (A_94 hw_185) T188 A189 fun μ198 u199 T200 => ?_
  refine sv_aload_n (pc := 34) dX4_makeRoom_34 rfl rfl ?_
  refine mr_iload_n (pc := 35) (z := z181) dX4_makeRoom_35 rfl rfl ?_
  have q201 : μ198 94 (9) = f_st := (u199.f (Or.inr (by decide)) (X187.f (A_94 hw_0) rfl q_f_st))
  have q202 : μ198 94 (8) = (bf : Int) := (u199.f (Or.inr (by decide)) (X187.f (A_94 hw_0) rfl q_bf))
  refine mr_newB (pc := 36) (s := 104) dX4_makeRoom_36 wA_byte rfl (fun U => sI_Cond_byte U _) rfl (show 0 ≤ z181 ∧ z181 ≤ ((mLen 104 : Nat) : Int) from (vc_X4_makeRoom_8 h182 hq0 h173 h174 h1 h180 h172 h183)) (le_t rfl) rfl T200 (fun _ => (show ((-128) : Int) ≤ 0 ∧ (0 : Int) ≤ 127 from by decide)) (le_t rfl) (slLe (show z181 ≤ ((93310 : Nat) : Int) from (vc_X4_makeRoom_9 h182 hq0 h173 h174 h1 h180 h172 h183)) rfl) fun w_203 μ205 X206 T207 A208 e209 q210 c211 v212 => ?_
  refine sv_wid (ce' := 2) (sl' := 186620) (le_t rfl) (slLe (show z181 ≤ ((93310 : Nat) : Int) from (vc_X4_makeRoom_9 h182 hq0 h173 h174 h1 h180 h172 h183)) rfl) ?_
  have hw_204 : mWF w_203 := mWF.ext X206.1 hw_185
  have A213 : mAt w_203 w_0.1 102 := (A189).ext X206.1
  have A214 : mAt w_203 bf 104 := (A195).ext X206.1
  have q215 := X206.len A195 q197
  have q216 := X206.len A189 q191
  refine pf_X4_8 (pc := 38) dX4_makeRoom_38 wF_X4_39 (A_94 hw_204) T207 A208 fun μ217 u218 T219 => ?_
  refine sv_aload_n (pc := 41) dX4_makeRoom_41 rfl rfl ?_
  refine gk_X4_8 (pc := 42) dX4_makeRoom_42 wF_X4_39 (A_94 hw_204) u218.1 ?_
  refine mr_iconst (pc := 45) (z := 0) dX4_makeRoom_45 ?_
  refine mr_fillB (pc := 46) dX4_makeRoom_46 wM_X4_119 A208 rfl rfl (Nat.lt_of_le_of_lt A208.2.2.1 (lt_t rfl)) T219 (rW (c := (-128)) (d := 127) (rR (x := 0)) rfl) (fun _ => (rW (c := (-128)) (d := 127) (rR (x := 0)) rfl)) ⟨le_t rfl, le_t rfl⟩ ⟨le_t rfl, le_t rfl⟩ (le_t rfl) fun μ220 q221 T222 => ?_
  have F223 : mF [104999] w_203 μ217 μ220 := mF.cell q221.1 A208 rfl
  exact mr_vretX dX4_makeRoom_49 rfl (le_t rfl) (le_t rfl) hw_204 T222 (mX.fr (mX.fr (mX.trans (mX.fr (mX.trans mX.refl X187 rfl) (mF.up mF.refl (A_94 hw_185) u199 rfl : mF [94006] _ _ _) rfl) X206 rfl) (mF.up mF.refl (A_94 hw_204) u218 rfl : mF [94008] _ _ _) rfl) F223 rfl) ⟨(lenP (μ := μ220) (F223.f (A_94 hw_204) rfl (u218.f (Or.inr (by decide)) (X206.f (A_94 hw_185) rfl u199.1))) q216 (F223.f (A_94 hw_204) rfl (u218.f (Or.inr (by decide)) (X206.f (A_94 hw_185) rfl q201))) (vc_X4_makeRoom_10 hq0 h174 h182 h173 h1 h180 h172 h183)), (lenP (μ := μ220) (F223.f (A_94 hw_204) rfl u218.1) q210 (F223.f (A_94 hw_204) rfl (u218.f (Or.inr (by decide)) (X206.f (A_94 hw_185) rfl q201))) (vc_X4_makeRoom_10 hq0 h174 h182 h173 h1 h180 h172 h183)), (lenE (F223.f (A_94 hw_204) rfl (u218.f (Or.inr (by decide)) (X206.f (A_94 hw_185) rfl u199.1))) q216 (F223.f (A_94 hw_204) rfl u218.1) q210 (vc_X4_makeRoom_11 h182 hq0 h173 h174 h1 h180 h172 h183)), (potM X187.1 e190 A189 q191 X206.1 e209 A208 q210 q168 (F223.f (A_94 hw_204) rfl (u218.f (Or.inr (by decide)) (X206.f (A_94 hw_185) rfl u199.1))) (vc_X4_makeRoom_12 h173 h174 h182 hq0 h1 h180 h172 h183)), trivial⟩
theorem vc_X4_explore_1 {z1 : Int} (h0 : z1 = 0) (h1 : 0 ≤ z1 ∧ z1 ≤ 1) : 0 ≤ z1 ∧ z1 ≤ 0 := by omega
theorem vc_X4_explore_2 {z10 : Int} (h0 : 1 ≤ z10) (h1 : 0 ≤ z10 ∧ z10 ≤ 46656) : 1 ≤ z10 ∧ z10 ≤ 46656 := by omega
theorem vc_X4_explore_3 {z10 : Int} (h0 : 1 ≤ z10) (h1 : 1 ≤ z10 ∧ z10 ≤ 46656) : 1 ≤ z10 := by omega
theorem vc_X4_explore_4 {z1 : Int} (h0 : ¬ z1 = 0) (h1 : 0 ≤ z1 ∧ z1 ≤ 1) : 1 ≤ z1 ∧ z1 ≤ 1 := by omega
set_option maxRecDepth 4000 in
set_option maxHeartbeats 4000000 in
theorem c_X4_explore {l : Launch} {D : va_G} {c : Nat → ClassId} {H0 : Heap} {sa : Nat × Nat × (Nat → Int32)} {w_0 : mW} {μ : mM} (hw_0 : mWF w_0) (hT : mT w_0 μ) {bq : Nat} (q_bq : μ 94 6 = (bq : Int)) (hA_bq : mAt w_0 bq 102) {bf : Nat} (q_bf : μ 94 8 = (bf : Int)) (hA_bf : mAt w_0 bf 104) (hle : w_0.2.2.1 bq = w_0.2.2.1 bf) : sC (gG l D c H0 sa) mX4_explore 12 2 186624 [.ref 94] (mk w_0 μ) (qVx w_0 [94006, 94008, 94009, 94011, 98999, 99999, 100999, 101999, 102999, 104999, 105999] μ (fun w1 μ1 => (w1.2.2.1 (μ1 94 6).toNat = w1.2.2.1 (μ1 94 8).toNat) ∧ (((szW w1 : Int) + 4 * (w_0.2.2.1 bq : Int) ≤ szW w_0 + 4 * (w1.2.2.1 (μ1 94 6).toNat : Int) ∧ (w1.1 : Int) + 2 * (w_0.2.2.1 bq : Int) ≤ (w_0.1 : Int) + 2 * (w1.2.2.1 (μ1 94 6).toNat : Int))) ∧ True)) := by
  refine sC.of rfl (by decide) (le_t rfl) ?_
  refine mr_lvE (lv' := [(0, .ref 94)]) rfl ?_
  refine sv_aload_n (pc := 0) dX4_explore_0 rfl rfl ?_
  refine gf_X4_11 (pc := 1) dX4_explore_1 wF_X4_56 (A_94 hw_0) hT fun z1 q2 h3 => ?_
  refine mr_if_eq (pc := 4) (tgt := 8) dX4_explore_4 (by decide) (r32 h3 rfl) (fun h4 => ?_) (fun h4 => ?_)
  · have h5 : 0 ≤ z1 ∧ z1 ≤ 0 := (vc_X4_explore_1 h4 h3)
    refine sv_aload_n (pc := 8) dX4_explore_8 rfl rfl ?_
    refine mr_cVV (pc := 9) (c_X4_prepare hw_0 hT) (gOk _ _ _ _ _) dX4_explore_9 (tX4_prepare _ _ _ _ _) ⟨wV_X4_prepare, wL_X4_prepare⟩ wM_X4_79 (gCX4 _ _ _ _ _) rfl (A_94 hw_0) rfl ⟨le_t rfl, le_t rfl⟩ ⟨le_t rfl, le_t rfl⟩ rfl (le_t rfl) fun μ6 T7 F8 h9 => ?_
    obtain ⟨z10, q11, h12⟩ := h9
    have h13 : (0 ≤ z10 ∧ z10 ≤ 46656) := by rw [← q11]; exact T7 94 94 (A_94 hw_0) 9
    have h14 : 1 ≤ z10 ∧ z10 ≤ 46656 := (vc_X4_explore_2 h12.1 h13)
    refine sv_aload_n (pc := 12) dX4_explore_12 rfl rfl ?_
    have q15 : μ6 94 (6) = (bq : Int) := (F8.f (A_94 hw_0) rfl q_bq)
    have q16 : μ6 94 (8) = (bf : Int) := (F8.f (A_94 hw_0) rfl q_bf)
    have q17 : μ6 94 (11) = z1 := (F8.f (A_94 hw_0) rfl q2)
    refine mr_cVVX (pc := 13) (c_X4_makeRoom hw_0 T7 q11 q15 hA_bq q16 hA_bf (vc_X4_explore_3 h12.1 h14) hle) (gOk _ _ _ _ _) dX4_explore_13 (tX4_makeRoom _ _ _ _ _) ⟨wV_X4_makeRoom, wL_X4_makeRoom⟩ wM_X4_104 (gCX4 _ _ _ _ _) rfl (A_94 hw_0) rfl ⟨le_t rfl, le_t rfl⟩ ⟨le_t rfl, le_t rfl⟩ rfl (le_t rfl) fun w_22 μ18 hw_23 T19 F20 h21 => ?_
    refine sv_wid (ce' := 2) (sl' := 186624) (le_t rfl) (le_t rfl) ?_
    have A24 : mAt w_22 bq 102 := (hA_bq).ext F20.1
    have A25 : mAt w_22 bf 104 := (hA_bf).ext F20.1
    have R26 := radix.keepX h12.2.1 F20 (A_100 hw_0) (A_95 hw_0) (fun _ => rfl) (fun _ => rfl)
    obtain ⟨b27, q28, A29⟩ := refE (T19 94 94 (A_94 hw_23) 6)
    obtain ⟨b30, q31, A32⟩ := refE (T19 94 94 (A_94 hw_23) 8)
    refine sv_aload_n (pc := 16) dX4_explore_16 rfl rfl ?_
    refine mr_cVI (pc := 17) (c_X4_spread hw_23 T19 (F20.f (A_94 hw_0) rfl q11) q28 A29 q31 A32 (vc_X4_explore_3 h12.1 h14) (lenQ h21.1 q28) (lenQ h21.2.1 q31) (by have h := R26; rw [q11] at h; exact h)) (gOk _ _ _ _ _) dX4_explore_17 (tX4_spread _ _ _ _ _) ⟨wV_X4_spread, wL_X4_spread⟩ wM_X4_107 (gCX4 _ _ _ _ _) rfl (A_94 hw_23) rfl ⟨le_t rfl, le_t rfl⟩ ⟨le_t rfl, le_t rfl⟩ rfl (le_t rfl) fun z37 μ33 T34 F35 h36 => ?_
    refine mr_istore_n (pc := 20) (lv' := [(1, iv z37), (0, .ref 94)]) dX4_explore_20 rfl (by decide) rfl ?_
    refine sv_aload_n (pc := 21) dX4_explore_21 rfl rfl ?_
    refine mr_cVI (pc := 22) (c_X4_leadBack hw_23 T34 (F35.f (A_94 hw_23) rfl (F20.f (A_94 hw_0) rfl q11)) (F35.f (A_94 hw_23) rfl q28) A29 (F35.f (A_94 hw_23) rfl q31) A32 (vc_X4_explore_3 h12.1 h14) (by have h := (lenQ h21.1 q28); rw [(F20.f (A_94 hw_0) rfl q11)] at h; rw [(F35.f (A_94 hw_23) rfl (F20.f (A_94 hw_0) rfl q11))]; exact h) (by have h := (lenQ h21.2.1 q31); rw [(F20.f (A_94 hw_0) rfl q11)] at h; rw [(F35.f (A_94 hw_23) rfl (F20.f (A_94 hw_0) rfl q11))]; exact h) (by have h := (radix.keep R26 ((mF.call mF.refl F35 rfl) : mF [101999, 102999, 104999, 105999] w_22 μ18 μ33) (A_100 hw_23) (A_95 hw_23) (fun _ => rfl) (fun _ => rfl)); rw [q11] at h; exact h)) (gOk _ _ _ _ _) dX4_explore_22 (tX4_leadBack _ _ _ _ _) ⟨wV_X4_leadBack, wL_X4_leadBack⟩ wM_X4_111 (gCX4 _ _ _ _ _) rfl (A_94 hw_23) rfl ⟨le_t rfl, le_t rfl⟩ ⟨le_t rfl, le_t rfl⟩ rfl (le_t rfl) fun z42 μ38 T39 F40 h41 => ?_
    refine mr_istore_n (pc := 25) (lv' := [(2, iv z42), (1, iv z37), (0, .ref 94)]) dX4_explore_25 rfl (by decide) rfl ?_
    refine sv_aload_n (pc := 26) dX4_explore_26 rfl rfl ?_
    refine gf_X4_13 (pc := 27) dX4_explore_27 wF_X4_43 (A_94 hw_23) T39 ?_
    refine mr_iconst (pc := 30) (z := 0) dX4_explore_30 ?_
    refine mr_iload_n (pc := 31) (z := z37) dX4_explore_31 rfl rfl ?_
    refine ss_105 (pc := 32) dX4_explore_32 (A_105 hw_23) T39 (rIx (n := 4) (rR (x := 0)) rfl) (rW (c := (-2147483648)) (d := 2147483647) h36.1 rfl) fun μ43 u44 T45 => ?_
    refine sv_aload_n (pc := 33) dX4_explore_33 rfl rfl ?_
    refine gf_X4_13 (pc := 34) dX4_explore_34 wF_X4_43 (A_94 hw_23) T45 ?_
    refine mr_iconst (pc := 37) (z := 2) dX4_explore_37 ?_
    refine mr_iload_n (pc := 38) (z := z37) dX4_explore_38 rfl rfl ?_
    refine mr_iload_n (pc := 39) (z := z42) dX4_explore_39 rfl rfl ?_
    refine mr_isub (pc := 40) (x := z37) (y := z42) dX4_explore_40 ?_
    refine ss_105 (pc := 41) dX4_explore_41 (A_105 hw_23) T45 (rIx (n := 4) (rR (x := 2)) rfl) (rW (c := (-2147483648)) (d := 2147483647) (rSub (e := (-46655)) (f := 46656) h36.1 h41.1 rfl) rfl) fun μ46 u47 T48 => ?_
    refine sv_aload_n (pc := 42) dX4_explore_42 rfl rfl ?_
    refine mr_iconst (pc := 43) (z := 1) dX4_explore_43 ?_
    refine pf_X4_11 (pc := 44) dX4_explore_44 wF_X4_56 (A_94 hw_23) T48 (rW (c := 0) (d := 1) (rR (x := 1)) rfl) fun μ49 u50 T51 => ?_
    exact mr_vretX dX4_explore_47 rfl (le_t rfl) (le_t rfl) hw_23 T51 (mX.fr (mX.fr (mX.fr (mX.fr (mX.fr (mX.trans (mX.fr mX.refl F8 rfl) F20 rfl) F35 rfl) F40 rfl) (mF.up mF.refl (A_105 hw_23) u44 rfl : mF [105999] _ _ _) rfl) (mF.up mF.refl (A_105 hw_23) u47 rfl : mF [105999] _ _ _) rfl) (mF.up mF.refl (A_94 hw_23) u50 rfl : mF [94011] _ _ _) rfl) ⟨(lenQ0 (lenQ2 h21.2.2.1 q28 q31) (u50.f (Or.inr (by decide)) (u47.f (Or.inl (mAt.ne (A_105 hw_23) (A_94 hw_23) rfl)) (u44.f (Or.inl (mAt.ne (A_105 hw_23) (A_94 hw_23) rfl)) (F40.f (A_94 hw_23) rfl (F35.f (A_94 hw_23) rfl q28))))) (u50.f (Or.inr (by decide)) (u47.f (Or.inl (mAt.ne (A_105 hw_23) (A_94 hw_23) rfl)) (u44.f (Or.inl (mAt.ne (A_105 hw_23) (A_94 hw_23) rfl)) (F40.f (A_94 hw_23) rfl (F35.f (A_94 hw_23) rfl q31)))))), (potQ h21.2.2.2.1 q28 (u50.f (Or.inr (by decide)) (u47.f (Or.inl (mAt.ne (A_105 hw_23) (A_94 hw_23) rfl)) (u44.f (Or.inl (mAt.ne (A_105 hw_23) (A_94 hw_23) rfl)) (F40.f (A_94 hw_23) rfl (F35.f (A_94 hw_23) rfl q28)))))), trivial⟩
  have h52 : 1 ≤ z1 ∧ z1 ≤ 1 := (vc_X4_explore_4 h4 h3)
  exact mr_vretX dX4_explore_7 rfl (le_t rfl) (le_t rfl) hw_0 hT mX.refl ⟨(lenQ0 hle q_bq q_bf), (potM0 q_bq), trivial⟩
theorem vc_X11_tries_1 {p1 : Int} (h0 : p1 < 0) (h1 : (-2147483648) ≤ p1 ∧ p1 ≤ 2147483647) : (-2147483648) ≤ p1 ∧ p1 ≤ (-1) := by omega
theorem vc_X11_tries_2 {p1 : Int} (h0 : 0 ≤ p1) (h1 : (-2147483648) ≤ p1 ∧ p1 ≤ 2147483647) : 0 ≤ p1 ∧ p1 ≤ 2147483647 := by omega
theorem vc_X11_tries_3 {p1 : Int} (h0 : p1 ≤ 3) (h1 : 0 ≤ p1) (h2 : 0 ≤ p1 ∧ p1 ≤ 2147483647) : 0 ≤ p1 ∧ p1 ≤ 3 := by omega
theorem vc_X11_tries_4 {p1 : Int} (h0 : 3 < p1) (h1 : 0 ≤ p1) (h2 : 0 ≤ p1 ∧ p1 ≤ 2147483647) : 4 ≤ p1 ∧ p1 ≤ 2147483647 := by omega
set_option maxRecDepth 4000 in
set_option maxHeartbeats 4000000 in
theorem c_X11_tries {l : Launch} {D : va_G} {c : Nat → ClassId} {H0 : Heap} {sa : Nat × Nat × (Nat → Int32)} {w_0 : mW} {μ : mM} (hw_0 : mWF w_0) (hT : mT w_0 μ) {p1 : Int} (hp1 : (-2147483648) ≤ p1 ∧ p1 ≤ 2147483647) {bq : Nat} (q_bq : μ 94 6 = (bq : Int)) (hA_bq : mAt w_0 bq 102) {bf : Nat} (q_bf : μ 94 8 = (bf : Int)) (hA_bf : mAt w_0 bf 104) (hle : w_0.2.2.1 bq = w_0.2.2.1 bf) : sC (gG l D c H0 sa) mX11_tries 13 2 186624 [.ref 0, iv p1] (mk w_0 μ) (qIx w_0 [94006, 94008, 94009, 94011, 98999, 99999, 100999, 101999, 102999, 104999, 105999] μ (fun z w1 μ1 => ((-2147483648) ≤ z ∧ z ≤ 2147483647) ∧ (w1.2.2.1 (μ1 94 6).toNat = w1.2.2.1 (μ1 94 8).toNat) ∧ (((szW w1 : Int) + 4 * (w_0.2.2.1 bq : Int) ≤ szW w_0 + 4 * (w1.2.2.1 (μ1 94 6).toNat : Int) ∧ (w1.1 : Int) + 2 * (w_0.2.2.1 bq : Int) ≤ (w_0.1 : Int) + 2 * (w1.2.2.1 (μ1 94 6).toNat : Int))) ∧ True)) := by
  refine sC.of rfl (by decide) (le_t rfl) ?_
  refine mr_lvE (lv' := [(0, .ref 0), (1, iv p1)]) rfl ?_
  refine mr_iload_n (pc := 0) (z := p1) dX11_tries_0 rfl rfl ?_
  refine mr_if_lt (pc := 1) (tgt := 9) dX11_tries_1 (by decide) hp1 (fun h1 => ?_) (fun h1 => ?_)
  · have h2 : (-2147483648) ≤ p1 ∧ p1 ≤ (-1) := (vc_X11_tries_1 h1 hp1)
    refine mr_iconst (pc := 9) (z := (-1)) dX11_tries_9 ?_
    exact mr_iretX dX11_tries_10 rfl (le_t rfl) (le_t rfl) hw_0 hT mX.refl ⟨(rW (c := (-2147483648)) (d := 2147483647) (rR (x := (-1))) rfl), (lenQ0 hle q_bq q_bf), (potM0 q_bq), trivial⟩
  have h3 : 0 ≤ p1 ∧ p1 ≤ 2147483647 := (vc_X11_tries_2 h1 hp1)
  refine mr_iload_n (pc := 4) (z := p1) dX11_tries_4 rfl rfl ?_
  refine mr_iconst (pc := 5) (z := 3) dX11_tries_5 ?_
  refine mr_icmp_le (pc := 6) (tgt := 11) dX11_tries_6 (by decide) (r32 h3 rfl) (r32 (rR (x := 3)) rfl) (fun h4 => ?_) (fun h4 => ?_)
  · have h5 : 0 ≤ p1 ∧ p1 ≤ 3 := (vc_X11_tries_3 h4 h1 h3)
    refine sv_aload_n (pc := 11) dX11_tries_11 rfl rfl ?_
    refine gf_X11_9 (pc := 12) dX11_tries_12 wF_X11_72 (A_0 hw_0) hT ?_
    refine mr_cVVX (pc := 15) (c_X4_explore hw_0 hT q_bq hA_bq q_bf hA_bf hle) (gOk _ _ _ _ _) dX11_tries_15 (tX4_explore _ _ _ _ _) ⟨wV_X4_explore, wL_X4_explore⟩ wM_X11_420 (gCX4 _ _ _ _ _) rfl (A_94 hw_0) rfl ⟨le_t rfl, le_t rfl⟩ ⟨le_t rfl, le_t rfl⟩ rfl (le_t rfl) fun w_10 μ6 hw_11 T7 F8 h9 => ?_
    refine sv_wid (ce' := 2) (sl' := 186624) (le_t rfl) (le_t rfl) ?_
    have A12 : mAt w_10 bq 102 := (hA_bq).ext F8.1
    have A13 : mAt w_10 bf 104 := (hA_bf).ext F8.1
    refine sv_aload_n (pc := 18) dX11_tries_18 rfl rfl ?_
    refine gf_X11_9 (pc := 19) dX11_tries_19 wF_X11_72 (A_0 hw_11) T7 ?_
    refine gf_X4_13 (pc := 22) dX11_tries_22 wF_X11_423 (A_94 hw_11) T7 ?_
    refine mr_iload_n (pc := 25) (z := p1) dX11_tries_25 rfl rfl ?_
    refine la_105 (pc := 26) dX11_tries_26 (A_105 hw_11) T7 (rIx (n := 4) h5 rfl) fun z14 q15 h16 => ?_
    exact mr_iretX dX11_tries_27 rfl (le_t rfl) (le_t rfl) hw_11 T7 (mX.trans mX.refl F8 rfl) ⟨h16, h9.1, h9.2.1, trivial⟩
  have h17 : 4 ≤ p1 ∧ p1 ≤ 2147483647 := (vc_X11_tries_4 h4 h1 h3)
  refine mr_iconst (pc := 9) (z := (-1)) dX11_tries_9 ?_
  exact mr_iretX dX11_tries_10 rfl (le_t rfl) (le_t rfl) hw_0 hT mX.refl ⟨(rW (c := (-2147483648)) (d := 2147483647) (rR (x := (-1))) rfl), (lenQ0 hle q_bq q_bf), (potM0 q_bq), trivial⟩
theorem vc_X4_keepRest_a_1 {f_rc : Int} (h0 : f_rc ≤ 46655) (h1 : 0 ≤ f_rc ∧ f_rc ≤ 46656) : 0 ≤ f_rc ∧ f_rc ≤ 46655 := by omega
theorem vc_X4_keepRest_a_2 {f_rc n_35 : Int} (h0 : n_35 ≤ f_rc) (h1 : f_rc ≤ 46655) (h2 : f_rc < n_35) (h3 : 0 ≤ f_rc ∧ f_rc ≤ 46655) (h4 : 0 ≤ n_35 ∧ n_35 ≤ 93312) : False := by omega
theorem vc_X4_keepRest_a_3 {f_rc n_35 : Int} (h0 : f_rc < n_35) (h1 : f_rc ≤ 46655) (h2 : 0 ≤ f_rc ∧ f_rc ≤ 46655) (h3 : 0 ≤ n_35 ∧ n_35 ≤ 93312) : 1 ≤ n_35 ∧ n_35 ≤ 93312 := by omega
theorem vc_X4_keepRest_a_4 {f_rc n_35 : Int} (h0 : f_rc ≤ 46655) (h1 : f_rc < n_35) (h2 : 0 ≤ f_rc ∧ f_rc ≤ 46655) (h3 : 1 ≤ n_35 ∧ n_35 ≤ 93312) : 0 ≤ f_rc ∧ f_rc < n_35 := by omega
theorem vc_X4_keepRest_a_5 {f_rc n_35 : Int} (h0 : f_rc ≤ 46655) (h1 : f_rc < n_35) (h2 : 0 ≤ f_rc ∧ f_rc ≤ 46655) (h3 : 1 ≤ n_35 ∧ n_35 ≤ 93312) : (f_rc + 1) = f_rc + 1 := by omega
set_option maxRecDepth 4000 in
set_option maxHeartbeats 4000000 in
theorem c_X4_keepRest_a {l : Launch} {D : va_G} {c : Nat → ClassId} {H0 : Heap} {sa : Nat × Nat × (Nat → Int32)} {w : mW} {μ : mM} (hw : mWF w) (hT : mT w μ) {p1 : Int} (hp1 : 0 ≤ p1 ∧ p1 ≤ 46655) {f_rc : Int} (q_f_rc : μ 94 14 = f_rc) {br : Nat} (q_br : μ 94 7 = (br : Int)) (hA_br : mAt w br 103) (hq0 : f_rc ≤ 46655) (hix : f_rc < (w.2.2.1 br : Int)) : sC (gG l D c H0 sa) mX4_keepRest 1 0 0 [.ref 94, iv p1] (mk w μ) (qV w [94014, 103999] μ (fun μ1 => ∃ o_rc : Int, μ1 94 14 = o_rc ∧ (o_rc = f_rc + 1) ∧ True)) := by
  refine sC.of rfl (by decide) (le_t rfl) ?_
  have ht_f_rc : (0 ≤ f_rc ∧ f_rc ≤ 46656) := by rw [← q_f_rc]; exact hT 94 94 (A_94 hw) 14
  have h1 : 0 ≤ f_rc ∧ f_rc ≤ 46655 := (vc_X4_keepRest_a_1 hq0 ht_f_rc)
  refine mr_lvE (lv' := [(0, .ref 94), (1, iv p1)]) rfl ?_
  obtain ⟨n_35, q36⟩ : ∃ n : Int, (w.2.2.1 br : Int) = n := ⟨_, rfl⟩
  have h37 : 0 ≤ n_35 ∧ n_35 ≤ 93312 := lnR (m := 93312) q36 hA_br rfl
  have h38 : f_rc < n_35 := by rw [← q36]; exact hix
  refine sv_aload_n (pc := 0) dX4_keepRest_0 rfl rfl ?_
  refine gk_X4_14 (pc := 1) dX4_keepRest_1 wF_X4_82 (A_94 hw) q_f_rc ?_
  refine sv_aload_n (pc := 4) dX4_keepRest_4 rfl rfl ?_
  refine gk_X4_7 (pc := 5) dX4_keepRest_5 wF_X4_36 (A_94 hw) q_br ?_
  refine mr_alen (pc := 8) (kd := 0) dX4_keepRest_8 rfl hA_br rfl q36 ?_
  refine mr_icmp_lt (pc := 9) (tgt := 29) dX4_keepRest_9 (by decide) (r32 h1 rfl) (r32 h37 rfl) (fun h39 => ?_) (fun h => ((vc_X4_keepRest_a_2 h hq0 h38 h1 h37)).elim)
  have h40 : 1 ≤ n_35 ∧ n_35 ≤ 93312 := (vc_X4_keepRest_a_3 h39 hq0 h1 h37)
  refine sv_aload_n (pc := 29) dX4_keepRest_29 rfl rfl ?_
  refine gk_X4_7 (pc := 30) dX4_keepRest_30 wF_X4_36 (A_94 hw) q_br ?_
  refine sv_aload_n (pc := 33) dX4_keepRest_33 rfl rfl ?_
  refine gk_X4_14 (pc := 34) dX4_keepRest_34 wF_X4_82 (A_94 hw) q_f_rc ?_
  refine mr_iload_n (pc := 37) (z := p1) dX4_keepRest_37 rfl rfl ?_
  refine ss_103 (pc := 38) dX4_keepRest_38 hA_br hT (lnC q36 (vc_X4_keepRest_a_4 hq0 h38 h1 h40)) hp1 fun μ41 u42 T43 => ?_
  refine sv_aload_n (pc := 39) dX4_keepRest_39 rfl rfl ?_
  refine sv_dup (pc := 40) dX4_keepRest_40 rfl ?_
  refine gk_X4_14 (pc := 41) dX4_keepRest_41 wF_X4_82 (A_94 hw) (u42.f (Or.inl (mAt.ne hA_br (A_94 hw) rfl)) q_f_rc) ?_
  refine mr_iconst (pc := 44) (z := 1) dX4_keepRest_44 ?_
  refine mr_iadd (pc := 45) (x := f_rc) (y := 1) dX4_keepRest_45 ?_
  refine pf_X4_14 (pc := 46) dX4_keepRest_46 wF_X4_82 (A_94 hw) T43 (rW (c := 0) (d := 46656) (rAdd (e := 1) (f := 46656) h1 (rR (x := 1)) rfl) rfl) fun μ44 u45 T46 => ?_
  exact mr_vret dX4_keepRest_49 rfl (le_t rfl) (le_t rfl) T46 (mF.up (mF.up mF.refl hA_br u42 rfl) (A_94 hw) u45 rfl) ⟨(f_rc + 1), u45.1, (vc_X4_keepRest_a_5 hq0 h38 h1 h40), trivial⟩
