theorem vc_X12_lookAll_1 {z67 : Int} (h0 : (11 - z67) < ((0 : Nat) : Int)) (h1 : 0 ≤ z67 ∧ z67 ≤ 10) : False := by omega
theorem vc_X12_lookAll_2  : (80 : Int) ≤ (80 : Int) ∧ (960 : Int) ≤ (960 : Int) := by omega
theorem vc_X12_lookAll_3 {p1 : Int} (h0 : 0 ≤ p1 ∧ p1 ≤ 9) : ((400 * p1) + 1200) ≤ ((400 * p1) + 1200) ∧ ((400 * p1) + 1600) ≤ ((400 * p1) + 1600) := by omega
theorem vc_X12_lookAll_4  : (21200 : Int) ≤ (21200 : Int) ∧ (53200 : Int) ≤ (53200 : Int) := by omega
theorem vc_X12_lookAll_5 {z67 z79 : Int} (h0 : z67 < z79) (h1 : 0 ≤ z67 ∧ z67 ≤ 10) (h2 : 0 ≤ z79 ∧ z79 ≤ 10) : 0 ≤ z67 ∧ z67 ≤ 9 := by omega
theorem vc_X12_lookAll_6 {z67 z79 : Int} (h0 : z67 < z79) (h1 : 0 ≤ z67 ∧ z67 ≤ 9) (h2 : 0 ≤ z79 ∧ z79 ≤ 10) : 1 ≤ z79 ∧ z79 ≤ 10 := by omega
theorem vc_X12_lookAll_7 {N z67 z79 : Int} (h0 : (11 - z67) < N + 1) (h1 : z67 < z79) (h2 : 0 ≤ z67 ∧ z67 ≤ 9) (h3 : 1 ≤ z79 ∧ z79 ≤ 10) : (11 - (z67 + 1)) < N := by omega
theorem vc_X12_lookAll_8 {p1 z67 z79 : Int} (h0 : z67 < z79) (h1 : 0 ≤ p1 ∧ p1 ≤ 9) (h2 : 0 ≤ z67 ∧ z67 ≤ 9) (h3 : 1 ≤ z79 ∧ z79 ≤ 10) : ((400 * p1) + 1200) ≤ (40 * (30 + ((10 * p1) + z67))) ∧ ((40 * (30 + ((10 * p1) + z67))) + 40) ≤ ((400 * p1) + 1600) := by omega
theorem vc_X12_lookAll_9  : (11 - 0) < ((12 : Nat) : Int) := by omega
set_option maxRecDepth 4000 in
set_option maxHeartbeats 4000000 in
theorem c_X12_lookAll {l : Launch} {D : va_G} {c : Nat → ClassId} {H0 : Heap} {sa : Nat × Nat × (Nat → Int32)} {w : mW} {μ : mM} (hw : mWF w) (hT : mT w μ) {p1 : Int} (hp1 : 0 ≤ p1 ∧ p1 ≤ 9) (hIG1 : G1 μ) (hIEV : EV μ) (hIPK : PK μ) : sC (gG l D c H0 sa) mX12_lookAll 11 0 0 [.ref 106, iv p1] (mk w μ) (qV w [106026, 106027, 106028, 106029, 106030, 106031, 106072, 126999, 151999, 152999, 153999, 155999, 156999, 157999, 158999, 159999, 160999, 161999, 165999] μ (fun μ1 => mG [(80, 960), (((400 * p1) + 1200), ((400 * p1) + 1600)), (21200, 53200)] μ μ1 ∧ G1 μ1 ∧ EV μ1 ∧ True)) := by
  refine sC.of rfl (by decide) (le_t rfl) ?_
  refine mr_lvE (lv' := [(0, .ref 106), (1, iv p1)]) rfl ?_
  refine mr_iconst (pc := 0) (z := 0) dX12_lookAll_0 ?_
  refine mr_istore_n (pc := 1) (lv' := [(2, iv 0), (0, .ref 106), (1, iv p1)]) dX12_lookAll_1 rfl (by decide) rfl ?_
  have L69 : ∀ (nL69 : Nat) (z67 : Int) (μ68 : mM), mT w μ68 → mF [106026, 106027, 106028, 106029, 106030, 106031, 106072, 126999, 151999, 152999, 153999, 155999, 156999, 157999, 158999, 159999, 160999, 161999, 165999] w μ μ68 → mG [(80, 960), (((400 * p1) + 1200), ((400 * p1) + 1600)), (21200, 53200)] μ μ68 → (0 ≤ z67 ∧ z67 ≤ 10) → G1 μ68 → EV μ68 → PK μ68 → (11 - z67) < (nL69 : Int) → sV (gG l D c H0 sa) mX12_lookAll (sRm 11 0 0) (sZ (gG l D c H0 sa) 0 0 (qV w [106026, 106027, 106028, 106029, 106030, 106031, 106072, 126999, 151999, 152999, 153999, 155999, 156999, 157999, 158999, 159999, 160999, 161999, 165999] μ (fun μ1 => mG [(80, 960), (((400 * p1) + 1200), ((400 * p1) + 1600)), (21200, 53200)] μ μ1 ∧ G1 μ1 ∧ EV μ1 ∧ True))) 2 [(0, .ref 106), (1, iv p1), (2, iv z67)] [] (mk w μ68) 0 0 := by
    intro nL69
    induction nL69 with
    | zero => intro z67 μ68 T71 F72 G73 h70 I74 I75 I76 h77; exact ((vc_X12_lookAll_1 h77 h70)).elim
    | succ nL69 ih78 =>
      intro z67 μ68 T71 F72 G73 h70 I74 I75 I76 h77
      refine mr_iload_n (pc := 2) (z := z67) dX12_lookAll_2 rfl rfl ?_
      refine sv_aload_n (pc := 3) dX12_lookAll_3 rfl rfl ?_
      refine gf_X12_2 (pc := 4) dX12_lookAll_4 wF_X12_15 (A_106 hw) T71 fun z79 q80 h81 => ?_
      refine mr_icmp_ge (pc := 7) (tgt := 22) dX12_lookAll_7 (by decide) (r32 h70 rfl) (r32 h81 rfl) (fun h88 => ?_) (fun h88 => ?_)
      · exact mr_vret dX12_lookAll_22 rfl (le_t rfl) (le_t rfl) T71 (mF.call mF.refl F72 rfl) ⟨(mG.call mG.refl G73 (List.forall_mem_cons.mpr ⟨⟨_, List.mem_cons_self, vc_X12_lookAll_2⟩, (List.forall_mem_cons.mpr ⟨⟨_, (List.mem_cons_of_mem _ List.mem_cons_self), (vc_X12_lookAll_3 hp1)⟩, (List.forall_mem_cons.mpr ⟨⟨_, (List.mem_cons_of_mem _ (List.mem_cons_of_mem _ List.mem_cons_self)), vc_X12_lookAll_4⟩, (fun _ h => absurd h List.not_mem_nil)⟩)⟩)⟩)), I74, I75, trivial⟩
      have h89 : 0 ≤ z67 ∧ z67 ≤ 9 := (vc_X12_lookAll_5 h88 h70 h81)
      have h90 : 1 ≤ z79 ∧ z79 ≤ 10 := (vc_X12_lookAll_6 h88 h89 h81)
      refine sv_aload_n (pc := 10) dX12_lookAll_10 rfl rfl ?_
      refine mr_iload_n (pc := 11) (z := p1) dX12_lookAll_11 rfl rfl ?_
      refine mr_iload_n (pc := 12) (z := z67) dX12_lookAll_12 rfl rfl ?_
      refine mr_cVV (pc := 13) (c_X12_look hw T71 hp1 h89 I74 I75 I76) (gOk _ _ _ _ _) dX12_lookAll_13 (tX12_look _ _ _ _ _) ⟨wV_X12_look, wL_X12_look⟩ wM_X12_597 (gCX12 _ _ _ _ _) rfl (A_106 hw) rfl ⟨le_t rfl, le_t rfl⟩ ⟨le_t rfl, le_t rfl⟩ rfl (le_t rfl) fun μ91 T92 F93 h94 => ?_
      refine mr_iinc (pc := 16) (lv' := [(2, iv (z67 + 1)), (0, .ref 106), (1, iv p1)]) dX12_lookAll_16 rfl (by decide) rfl ?_
      refine sv_goto (pc := 19) (tgt := 2) dX12_lookAll_19 (by decide) ?_
      refine mr_lvS (lv' := [(0, .ref 106), (1, iv p1), (2, iv (z67 + 1))]) (List.forall_mem_cons.mpr ⟨rfl, List.forall_mem_cons.mpr ⟨rfl, List.forall_mem_cons.mpr ⟨rfl, fun _ h => absurd h List.not_mem_nil⟩⟩⟩) ?_
      exact ih78 (z67 + 1) μ91 T92 (mF.call (mF.call mF.refl F72 rfl) F93 rfl) (mG.call (mG.call mG.refl G73 (List.forall_mem_cons.mpr ⟨⟨_, List.mem_cons_self, vc_X12_lookAll_2⟩, (List.forall_mem_cons.mpr ⟨⟨_, (List.mem_cons_of_mem _ List.mem_cons_self), (vc_X12_lookAll_3 hp1)⟩, (List.forall_mem_cons.mpr ⟨⟨_, (List.mem_cons_of_mem _ (List.mem_cons_of_mem _ List.mem_cons_self)), vc_X12_lookAll_4⟩, (fun _ h => absurd h List.not_mem_nil)⟩)⟩)⟩)) h94.1 (List.forall_mem_cons.mpr ⟨⟨_, List.mem_cons_self, vc_X12_lookAll_2⟩, (List.forall_mem_cons.mpr ⟨⟨_, (List.mem_cons_of_mem _ List.mem_cons_self), (vc_X12_lookAll_8 h88 hp1 h89 h90)⟩, (List.forall_mem_cons.mpr ⟨⟨_, (List.mem_cons_of_mem _ (List.mem_cons_of_mem _ List.mem_cons_self)), vc_X12_lookAll_4⟩, (fun _ h => absurd h List.not_mem_nil)⟩)⟩)⟩)) (rW (c := 0) (d := 10) (rAdd (e := 1) (f := 10) h89 (rR (x := 1)) rfl) rfl) h94.2.1 h94.2.2.1 (PK.keep I76 hw ((mF.call mF.refl F93 rfl) : mF [106026, 106027, 106028, 106029, 106030, 106031, 106072, 126999, 151999, 152999, 153999, 155999, 156999, 157999, 158999, 159999, 160999, 161999, 165999] w μ68 μ91) rfl) (vc_X12_lookAll_7 (nS h77) h88 h89 h90)
  refine mr_lvS (lv' := [(0, .ref 106), (1, iv p1), (2, iv 0)]) (List.forall_mem_cons.mpr ⟨rfl, List.forall_mem_cons.mpr ⟨rfl, List.forall_mem_cons.mpr ⟨rfl, fun _ h => absurd h List.not_mem_nil⟩⟩⟩) ?_
  exact L69 12 0 μ hT mF.refl mG.refl (rW (c := 0) (d := 10) (rR (x := 0)) rfl) hIG1 hIEV hIPK vc_X12_lookAll_9
theorem vc_X12_sayAll_1 {f_ties p2 : Int} (h0 : p2 < f_ties) (h1 : 0 ≤ f_ties ∧ f_ties ≤ 20) (h2 : 0 ≤ p2 ∧ p2 ≤ 19) : 1 ≤ f_ties ∧ f_ties ≤ 20 := by omega
theorem vc_X12_sayAll_2 {z258 : Int} (h0 : (11 - z258) < ((0 : Nat) : Int)) (h1 : 0 ≤ z258 ∧ z258 ≤ 10) : False := by omega
theorem vc_X12_sayAll_3  : (80 : Int) ≤ (80 : Int) ∧ (120 : Int) ≤ (120 : Int) := by omega
theorem vc_X12_sayAll_4  : (21200 : Int) ≤ (21200 : Int) ∧ (53200 : Int) ≤ (53200 : Int) := by omega
theorem vc_X12_sayAll_5 {z258 z270 : Int} (h0 : z258 < z270) (h1 : 0 ≤ z258 ∧ z258 ≤ 10) (h2 : 0 ≤ z270 ∧ z270 ≤ 10) : 0 ≤ z258 ∧ z258 ≤ 9 := by omega
theorem vc_X12_sayAll_6 {z258 z270 : Int} (h0 : z258 < z270) (h1 : 0 ≤ z258 ∧ z258 ≤ 9) (h2 : 0 ≤ z270 ∧ z270 ≤ 10) : 1 ≤ z270 ∧ z270 ≤ 10 := by omega
theorem vc_X12_sayAll_7 {z287 : Int} (h0 : z287 = 0) (h1 : 0 ≤ z287 ∧ z287 ≤ 1) : 0 ≤ z287 ∧ z287 ≤ 0 := by omega
theorem vc_X12_sayAll_8 {z287 : Int} (h0 : ¬ z287 = 0) (h1 : 0 ≤ z287 ∧ z287 ≤ 1) : 1 ≤ z287 ∧ z287 ≤ 1 := by omega
theorem vc_X12_sayAll_9 {f_ties p2 : Int} (h0 : p2 < f_ties) (h1 : 1 ≤ f_ties ∧ f_ties ≤ 20) (h2 : 0 ≤ p2 ∧ p2 ≤ 19) : p2 < f_ties := by omega
theorem vc_X12_sayAll_10 {f_e0 f_e1 p1 : Int} (h0 : f_e0 = p1 ∨ f_e1 = p1) (h1 : 0 ≤ f_e0 ∧ f_e0 ≤ 9) (h2 : 0 ≤ f_e1 ∧ f_e1 ≤ 9) (h3 : 0 ≤ p1 ∧ p1 ≤ 9) : f_e0 = p1 ∨ f_e1 = p1 := by omega
theorem vc_X12_sayAll_11 {N z258 z270 : Int} (h0 : (11 - z258) < N + 1) (h1 : z258 < z270) (h2 : 0 ≤ z258 ∧ z258 ≤ 9) (h3 : 1 ≤ z270 ∧ z270 ≤ 10) : (11 - (z258 + 1)) < N := by omega
theorem vc_X12_sayAll_12  : (11 - 0) < ((12 : Nat) : Int) := by omega
set_option maxRecDepth 4000 in
set_option maxHeartbeats 4000000 in
theorem c_X12_sayAll {l : Launch} {D : va_G} {c : Nat → ClassId} {H0 : Heap} {sa : Nat × Nat × (Nat → Int32)} {w : mW} {μ : mM} (hw : mWF w) (hT : mT w μ) {p1 : Int} (hp1 : 0 ≤ p1 ∧ p1 ≤ 9) {p2 : Int} (hp2 : 0 ≤ p2 ∧ p2 ≤ 19) {f_e0 : Int} (q_f_e0 : μ 110 ((2 * p2).toNat) = f_e0) {f_e1 : Int} (q_f_e1 : μ 110 (((2 * p2) + 1).toNat) = f_e1) {f_ties : Int} (q_f_ties : μ 106 6 = f_ties) (hq0 : p2 < f_ties) (hq1 : f_e0 = p1 ∨ f_e1 = p1) (hIG1 : G1 μ) (hIEV : EV μ) (hIPK : PK μ) : sC (gG l D c H0 sa) mX12_sayAll 8 0 0 [.ref 106, iv p1, iv p2] (mk w μ) (qV w [106026, 106027, 106028, 106029, 106030, 106031, 106072, 126999, 151999, 152999, 153999, 155999, 156999, 157999, 158999, 159999, 160999] μ (fun μ1 => mG [(80, 120), (21200, 53200)] μ μ1 ∧ G1 μ1 ∧ EV μ1 ∧ True)) := by
  refine sC.of rfl (by decide) (le_t rfl) ?_
  have ht_f_e0 : (0 ≤ f_e0 ∧ f_e0 ≤ 9) := by rw [← q_f_e0]; exact hT 110 110 (A_110 hw) ((2 * p2).toNat)
  have ht_f_e1 : (0 ≤ f_e1 ∧ f_e1 ≤ 9) := by rw [← q_f_e1]; exact hT 110 110 (A_110 hw) (((2 * p2) + 1).toNat)
  have ht_f_ties : (0 ≤ f_ties ∧ f_ties ≤ 20) := by rw [← q_f_ties]; exact hT 106 106 (A_106 hw) 6
  have h1 : 1 ≤ f_ties ∧ f_ties ≤ 20 := (vc_X12_sayAll_1 hq0 ht_f_ties hp2)
  refine mr_lvE (lv' := [(0, .ref 106), (1, iv p1), (2, iv p2)]) rfl ?_
  refine mr_iconst (pc := 0) (z := 0) dX12_sayAll_0 ?_
  refine mr_istore_n (pc := 1) (lv' := [(3, iv 0), (0, .ref 106), (1, iv p1), (2, iv p2)]) dX12_sayAll_1 rfl (by decide) rfl ?_
  have L260 : ∀ (nL260 : Nat) (z258 : Int) (μ259 : mM), mT w μ259 → mF [106026, 106027, 106028, 106029, 106030, 106031, 106072, 126999, 151999, 152999, 153999, 155999, 156999, 157999, 158999, 159999, 160999] w μ μ259 → mG [(80, 120), (21200, 53200)] μ μ259 → (0 ≤ z258 ∧ z258 ≤ 10) → G1 μ259 → EV μ259 → PK μ259 → (11 - z258) < (nL260 : Int) → sV (gG l D c H0 sa) mX12_sayAll (sRm 8 0 0) (sZ (gG l D c H0 sa) 0 0 (qV w [106026, 106027, 106028, 106029, 106030, 106031, 106072, 126999, 151999, 152999, 153999, 155999, 156999, 157999, 158999, 159999, 160999] μ (fun μ1 => mG [(80, 120), (21200, 53200)] μ μ1 ∧ G1 μ1 ∧ EV μ1 ∧ True))) 2 [(0, .ref 106), (1, iv p1), (2, iv p2), (3, iv z258)] [] (mk w μ259) 0 0 := by
    intro nL260
    induction nL260 with
    | zero => intro z258 μ259 T262 F263 G264 h261 I265 I266 I267 h268; exact ((vc_X12_sayAll_2 h268 h261)).elim
    | succ nL260 ih269 =>
      intro z258 μ259 T262 F263 G264 h261 I265 I266 I267 h268
      refine mr_iload_n (pc := 2) (z := z258) dX12_sayAll_2 rfl rfl ?_
      refine sv_aload_n (pc := 3) dX12_sayAll_3 rfl rfl ?_
      refine gf_X12_2 (pc := 4) dX12_sayAll_4 wF_X12_15 (A_106 hw) T262 fun z270 q271 h272 => ?_
      refine mr_icmp_ge (pc := 7) (tgt := 32) dX12_sayAll_7 (by decide) (r32 h261 rfl) (r32 h272 rfl) (fun h284 => ?_) (fun h284 => ?_)
      · exact mr_vret dX12_sayAll_32 rfl (le_t rfl) (le_t rfl) T262 (mF.call mF.refl F263 rfl) ⟨(mG.call mG.refl G264 (List.forall_mem_cons.mpr ⟨⟨_, List.mem_cons_self, vc_X12_sayAll_3⟩, (List.forall_mem_cons.mpr ⟨⟨_, (List.mem_cons_of_mem _ List.mem_cons_self), vc_X12_sayAll_4⟩, (fun _ h => absurd h List.not_mem_nil)⟩)⟩)), I265, I266, trivial⟩
      have h285 : 0 ≤ z258 ∧ z258 ≤ 9 := (vc_X12_sayAll_5 h284 h261 h272)
      have h286 : 1 ≤ z270 ∧ z270 ≤ 10 := (vc_X12_sayAll_6 h284 h285 h272)
      refine sv_aload_n (pc := 10) dX12_sayAll_10 rfl rfl ?_
      refine gf_X12_9 (pc := 11) dX12_sayAll_11 wF_X12_53 (A_106 hw) T262 ?_
      refine mr_iload_n (pc := 14) (z := p2) dX12_sayAll_14 rfl rfl ?_
      refine la_112 (pc := 15) dX12_sayAll_15 (A_112 hw) T262 (rIx (n := 20) hp2 rfl) fun z287 q288 h289 => ?_
      refine mr_if_eq (pc := 16) (tgt := 32) dX12_sayAll_16 (by decide) (r32 h289 rfl) (fun h296 => ?_) (fun h296 => ?_)
      · have h297 : 0 ≤ z287 ∧ z287 ≤ 0 := (vc_X12_sayAll_7 h296 h289)
        exact mr_vret dX12_sayAll_32 rfl (le_t rfl) (le_t rfl) T262 (mF.call mF.refl F263 rfl) ⟨(mG.call mG.refl G264 (List.forall_mem_cons.mpr ⟨⟨_, List.mem_cons_self, vc_X12_sayAll_3⟩, (List.forall_mem_cons.mpr ⟨⟨_, (List.mem_cons_of_mem _ List.mem_cons_self), vc_X12_sayAll_4⟩, (fun _ h => absurd h List.not_mem_nil)⟩)⟩)), I265, I266, trivial⟩
      have h298 : 1 ≤ z287 ∧ z287 ≤ 1 := (vc_X12_sayAll_8 h296 h289)
      refine sv_aload_n (pc := 19) dX12_sayAll_19 rfl rfl ?_
      refine mr_iload_n (pc := 20) (z := p1) dX12_sayAll_20 rfl rfl ?_
      refine mr_iload_n (pc := 21) (z := p2) dX12_sayAll_21 rfl rfl ?_
      refine mr_iload_n (pc := 22) (z := z258) dX12_sayAll_22 rfl rfl ?_
      refine mr_cVV (pc := 23) (c_X12_say hw T262 hp1 hp2 h285 (F263.f (A_110 hw) rfl q_f_e0) (F263.f (A_110 hw) rfl q_f_e1) (F263.f (A_106 hw) rfl q_f_ties) (vc_X12_sayAll_9 hq0 h1 hp2) (vc_X12_sayAll_10 hq1 ht_f_e0 ht_f_e1 hp1) I265 I266 I267) (gOk _ _ _ _ _) dX12_sayAll_23 (tX12_say _ _ _ _ _) ⟨wV_X12_say, wL_X12_say⟩ wM_X12_587 (gCX12 _ _ _ _ _) rfl (A_106 hw) rfl ⟨le_t rfl, le_t rfl⟩ ⟨le_t rfl, le_t rfl⟩ rfl (le_t rfl) fun μ299 T300 F301 h302 => ?_
      refine mr_iinc (pc := 26) (lv' := [(3, iv (z258 + 1)), (0, .ref 106), (1, iv p1), (2, iv p2)]) dX12_sayAll_26 rfl (by decide) rfl ?_
      refine sv_goto (pc := 29) (tgt := 2) dX12_sayAll_29 (by decide) ?_
      refine mr_lvS (lv' := [(0, .ref 106), (1, iv p1), (2, iv p2), (3, iv (z258 + 1))]) (List.forall_mem_cons.mpr ⟨rfl, List.forall_mem_cons.mpr ⟨rfl, List.forall_mem_cons.mpr ⟨rfl, List.forall_mem_cons.mpr ⟨rfl, fun _ h => absurd h List.not_mem_nil⟩⟩⟩⟩) ?_
      exact ih269 (z258 + 1) μ299 T300 (mF.call (mF.call mF.refl F263 rfl) F301 rfl) (mG.call (mG.call mG.refl G264 (List.forall_mem_cons.mpr ⟨⟨_, List.mem_cons_self, vc_X12_sayAll_3⟩, (List.forall_mem_cons.mpr ⟨⟨_, (List.mem_cons_of_mem _ List.mem_cons_self), vc_X12_sayAll_4⟩, (fun _ h => absurd h List.not_mem_nil)⟩)⟩)) h302.1 (List.forall_mem_cons.mpr ⟨⟨_, List.mem_cons_self, vc_X12_sayAll_3⟩, (List.forall_mem_cons.mpr ⟨⟨_, (List.mem_cons_of_mem _ List.mem_cons_self), vc_X12_sayAll_4⟩, (fun _ h => absurd h List.not_mem_nil)⟩)⟩)) (rW (c := 0) (d := 10) (rAdd (e := 1) (f := 10) h285 (rR (x := 1)) rfl) rfl) h302.2.1 h302.2.2.1 (PK.keep I267 hw ((mF.call mF.refl F301 rfl) : mF [106026, 106027, 106028, 106029, 106030, 106031, 106072, 126999, 151999, 152999, 153999, 155999, 156999, 157999, 158999, 159999, 160999] w μ259 μ299) rfl) (vc_X12_sayAll_11 (nS h268) h284 h285 h286)
  refine mr_lvS (lv' := [(0, .ref 106), (1, iv p1), (2, iv p2), (3, iv 0)]) (List.forall_mem_cons.mpr ⟨rfl, List.forall_mem_cons.mpr ⟨rfl, List.forall_mem_cons.mpr ⟨rfl, List.forall_mem_cons.mpr ⟨rfl, fun _ h => absurd h List.not_mem_nil⟩⟩⟩⟩) ?_
  exact L260 12 0 μ hT mF.refl mG.refl (rW (c := 0) (d := 10) (rR (x := 0)) rfl) hIG1 hIEV hIPK vc_X12_sayAll_12
theorem vc_X12_rethink_1 {z911 : Int} (h0 : (11 - z911) < ((0 : Nat) : Int)) (h1 : 0 ≤ z911 ∧ z911 ≤ 10) : False := by omega
theorem vc_X12_rethink_2 {z1269 : Int} (h0 : (11 - z1269) < ((0 : Nat) : Int)) (h1 : 0 ≤ z1269 ∧ z1269 ≤ 10) : False := by omega
theorem vc_X12_rethink_3  : (80 : Int) ≤ (80 : Int) ∧ (5200 : Int) ≤ (5200 : Int) := by omega
theorem vc_X12_rethink_4  : (21200 : Int) ≤ (21200 : Int) ∧ (53200 : Int) ≤ (53200 : Int) := by omega
theorem vc_X12_rethink_5 {z1269 z911 z923 : Int} (h0 : z1269 < z923) (h1 : z923 ≤ z911) (h2 : 0 ≤ z1269 ∧ z1269 ≤ 10) (h3 : 0 ≤ z911 ∧ z911 ≤ 10) (h4 : 0 ≤ z923 ∧ z923 ≤ 10) : 0 ≤ z1269 ∧ z1269 ≤ 9 := by omega
theorem vc_X12_rethink_6 {z1269 z911 z923 : Int} (h0 : z1269 < z923) (h1 : z923 ≤ z911) (h2 : 0 ≤ z1269 ∧ z1269 ≤ 9) (h3 : 0 ≤ z911 ∧ z911 ≤ 10) (h4 : 0 ≤ z923 ∧ z923 ≤ 10) : 1 ≤ z923 ∧ z923 ≤ 10 := by omega
theorem vc_X12_rethink_7 {z1546 : Int} (h0 : (21 - z1546) < ((0 : Nat) : Int)) (h1 : 0 ≤ z1546 ∧ z1546 ≤ 20) : False := by omega
theorem vc_X12_rethink_8 {N z1269 z911 z923 : Int} (h0 : (11 - z1269) < N + 1) (h1 : z1269 < z923) (h2 : z923 ≤ z911) (h3 : 0 ≤ z1269 ∧ z1269 ≤ 9) (h4 : 0 ≤ z911 ∧ z911 ≤ 10) (h5 : 1 ≤ z923 ∧ z923 ≤ 10) : (11 - (z1269 + 1)) < N := by omega
theorem vc_X12_rethink_9 {z1546 z1558 : Int} (h0 : z1546 < z1558) (h1 : 0 ≤ z1546 ∧ z1546 ≤ 20) (h2 : 0 ≤ z1558 ∧ z1558 ≤ 20) : 0 ≤ z1546 ∧ z1546 ≤ 19 := by omega
theorem vc_X12_rethink_10 {z1546 z1558 : Int} (h0 : z1546 < z1558) (h1 : 0 ≤ z1546 ∧ z1546 ≤ 19) (h2 : 0 ≤ z1558 ∧ z1558 ≤ 20) : 1 ≤ z1558 ∧ z1558 ≤ 20 := by omega
theorem vc_X12_rethink_11 {z1269 z1585 z1588 z1595 : Int} (h0 : z1595 = 0) (h1 : (z1595 = 1 → z1585 = z1269 ∨ z1588 = z1269)) (h2 : (z1595 = 0 → ¬ z1585 = z1269 ∧ ¬ z1588 = z1269)) (h3 : 0 ≤ z1269 ∧ z1269 ≤ 9) (h4 : 0 ≤ z1585 ∧ z1585 ≤ 9) (h5 : 0 ≤ z1588 ∧ z1588 ≤ 9) (h6 : 0 ≤ z1595 ∧ z1595 ≤ 1) : 0 ≤ z1595 ∧ z1595 ≤ 0 := by omega
theorem vc_X12_rethink_12 {z1269 z1585 z1588 z1595 z923 : Int} (h0 : (z1595 = 1 → z1585 = z1269 ∨ z1588 = z1269)) (h1 : (z1595 = 0 → ¬ z1585 = z1269 ∧ ¬ z1588 = z1269)) (h2 : z1595 = 0) (h3 : z1269 < z923) (h4 : 0 ≤ z1269 ∧ z1269 ≤ 9) (h5 : 0 ≤ z1585 ∧ z1585 ≤ 9) (h6 : 0 ≤ z1588 ∧ z1588 ≤ 9) (h7 : 0 ≤ z1595 ∧ z1595 ≤ 0) (h8 : 1 ≤ z923 ∧ z923 ≤ 10) : z1595 = 0 := by omega
theorem vc_X12_rethink_13 {N z1546 z1558 : Int} (h0 : (21 - z1546) < N + 1) (h1 : z1546 < z1558) (h2 : 0 ≤ z1546 ∧ z1546 ≤ 19) (h3 : 1 ≤ z1558 ∧ z1558 ≤ 20) : (21 - (z1546 + 1)) < N := by omega
theorem vc_X12_rethink_14 {z1269 z1585 z1588 z1595 : Int} (h0 : ¬ z1595 = 0) (h1 : (z1595 = 1 → z1585 = z1269 ∨ z1588 = z1269)) (h2 : (z1595 = 0 → ¬ z1585 = z1269 ∧ ¬ z1588 = z1269)) (h3 : 0 ≤ z1269 ∧ z1269 ≤ 9) (h4 : 0 ≤ z1585 ∧ z1585 ≤ 9) (h5 : 0 ≤ z1588 ∧ z1588 ≤ 9) (h6 : 0 ≤ z1595 ∧ z1595 ≤ 1) : 1 ≤ z1595 ∧ z1595 ≤ 1 := by omega
theorem vc_X12_rethink_15 {z1269 z1585 z1588 z1595 z923 : Int} (h0 : (z1595 = 1 → z1585 = z1269 ∨ z1588 = z1269)) (h1 : (z1595 = 0 → ¬ z1585 = z1269 ∧ ¬ z1588 = z1269)) (h2 : ¬ z1595 = 0) (h3 : z1269 < z923) (h4 : 0 ≤ z1269 ∧ z1269 ≤ 9) (h5 : 0 ≤ z1585 ∧ z1585 ≤ 9) (h6 : 0 ≤ z1588 ∧ z1588 ≤ 9) (h7 : 1 ≤ z1595 ∧ z1595 ≤ 1) (h8 : 1 ≤ z923 ∧ z923 ≤ 10) : z1595 = 1 := by omega
theorem vc_X12_rethink_16 {z1546 z1558 : Int} (h0 : z1546 < z1558) (h1 : 0 ≤ z1546 ∧ z1546 ≤ 19) (h2 : 1 ≤ z1558 ∧ z1558 ≤ 20) : z1546 < z1558 := by omega
theorem vc_X12_rethink_17 {z1269 z1585 z1588 z1595 z911 z923 : Int} (h0 : z1269 < z923) (h1 : (z1595 = 1 → z1585 = z1269 ∨ z1588 = z1269)) (h2 : (z1595 = 0 → ¬ z1585 = z1269 ∧ ¬ z1588 = z1269)) (h3 : z1585 = z1269 ∨ z1588 = z1269) (h4 : z923 ≤ z911) (h5 : ¬ z1595 = 0) (h6 : 0 ≤ z1269 ∧ z1269 ≤ 9) (h7 : 0 ≤ z1585 ∧ z1585 ≤ 9) (h8 : 0 ≤ z1588 ∧ z1588 ≤ 9) (h9 : 1 ≤ z1595 ∧ z1595 ≤ 1) (h10 : 0 ≤ z911 ∧ z911 ≤ 10) (h11 : 1 ≤ z923 ∧ z923 ≤ 10) : z1585 = z1269 ∨ z1588 = z1269 := by omega
theorem vc_X12_rethink_18  : (80 : Int) ≤ (80 : Int) ∧ (120 : Int) ≤ (5200 : Int) := by omega
theorem vc_X12_rethink_19  : (21 - 0) < ((22 : Nat) : Int) := by omega
theorem vc_X12_rethink_20  : (11 - 0) < ((12 : Nat) : Int) := by omega
theorem vc_X12_rethink_21 {z911 z923 : Int} (h0 : z911 < z923) (h1 : 0 ≤ z911 ∧ z911 ≤ 10) (h2 : 0 ≤ z923 ∧ z923 ≤ 10) : 0 ≤ z911 ∧ z911 ≤ 9 := by omega
theorem vc_X12_rethink_22 {z911 z923 : Int} (h0 : z911 < z923) (h1 : 0 ≤ z911 ∧ z911 ≤ 9) (h2 : 0 ≤ z923 ∧ z923 ≤ 10) : 1 ≤ z923 ∧ z923 ≤ 10 := by omega
theorem vc_X12_rethink_23 {N z911 z923 : Int} (h0 : (11 - z911) < N + 1) (h1 : z911 < z923) (h2 : 0 ≤ z911 ∧ z911 ≤ 9) (h3 : 1 ≤ z923 ∧ z923 ≤ 10) : (11 - (z911 + 1)) < N := by omega
theorem vc_X12_rethink_24  : (80 : Int) ≤ (80 : Int) ∧ (960 : Int) ≤ (5200 : Int) := by omega
theorem vc_X12_rethink_25 {z911 z923 : Int} (h0 : z911 < z923) (h1 : 0 ≤ z911 ∧ z911 ≤ 9) (h2 : 1 ≤ z923 ∧ z923 ≤ 10) : 80 ≤ ((400 * z911) + 1200) ∧ ((400 * z911) + 1600) ≤ 5200 := by omega
set_option maxRecDepth 4000 in
set_option maxHeartbeats 4000000 in
theorem c_X12_rethink {l : Launch} {D : va_G} {c : Nat → ClassId} {H0 : Heap} {sa : Nat × Nat × (Nat → Int32)} {w : mW} {μ : mM} (hw : mWF w) (hT : mT w μ) (hIG1 : G1 μ) (hIEV : EV μ) (hIPK : PK μ) : sC (gG l D c H0 sa) mX12_rethink 12 0 0 [.ref 106] (mk w μ) (qV w [106026, 106027, 106028, 106029, 106030, 106031, 106072, 126999, 151999, 152999, 153999, 155999, 156999, 157999, 158999, 159999, 160999, 161999, 165999] μ (fun μ1 => mG [(80, 5200), (21200, 53200)] μ μ1 ∧ G1 μ1 ∧ EV μ1 ∧ True)) := by
  refine sC.of rfl (by decide) (le_t rfl) ?_
  refine mr_lvE (lv' := [(0, .ref 106)]) rfl ?_
  refine mr_iconst (pc := 0) (z := 0) dX12_rethink_0 ?_
  refine mr_istore_n (pc := 1) (lv' := [(1, iv 0), (0, .ref 106)]) dX12_rethink_1 rfl (by decide) rfl ?_
  have L913 : ∀ (nL913 : Nat) (z911 : Int) (μ912 : mM), mT w μ912 → mF [106026, 106027, 106028, 106029, 106030, 106031, 106072, 126999, 151999, 152999, 153999, 155999, 156999, 157999, 158999, 159999, 160999, 161999, 165999] w μ μ912 → mG [(80, 5200), (21200, 53200)] μ μ912 → (0 ≤ z911 ∧ z911 ≤ 10) → G1 μ912 → EV μ912 → PK μ912 → (11 - z911) < (nL913 : Int) → sV (gG l D c H0 sa) mX12_rethink (sRm 12 0 0) (sZ (gG l D c H0 sa) 0 0 (qV w [106026, 106027, 106028, 106029, 106030, 106031, 106072, 126999, 151999, 152999, 153999, 155999, 156999, 157999, 158999, 159999, 160999, 161999, 165999] μ (fun μ1 => mG [(80, 5200), (21200, 53200)] μ μ1 ∧ G1 μ1 ∧ EV μ1 ∧ True))) 2 [(0, .ref 106), (1, iv z911)] [] (mk w μ912) 0 0 := by
    intro nL913
    induction nL913 with
    | zero => intro z911 μ912 T915 F916 G917 h914 I918 I919 I920 h921; exact ((vc_X12_rethink_1 h921 h914)).elim
    | succ nL913 ih922 =>
      intro z911 μ912 T915 F916 G917 h914 I918 I919 I920 h921
      refine mr_iload_n (pc := 2) (z := z911) dX12_rethink_2 rfl rfl ?_
      refine sv_aload_n (pc := 3) dX12_rethink_3 rfl rfl ?_
      refine gf_X12_5 (pc := 4) dX12_rethink_4 wF_X12_34 (A_106 hw) T915 fun z923 q924 h925 => ?_
      refine mr_icmp_ge (pc := 7) (tgt := 21) dX12_rethink_7 (by decide) (r32 h914 rfl) (r32 h925 rfl) (fun h932 => ?_) (fun h932 => ?_)
      · refine mr_iconst (pc := 21) (z := 0) dX12_rethink_21 ?_
        refine mr_istore_n (pc := 22) (lv' := [(1, iv 0), (0, .ref 106)]) dX12_rethink_22 rfl (by decide) rfl ?_
        have L1271 : ∀ (nL1271 : Nat) (z1269 : Int) (μ1270 : mM), mT w μ1270 → mF [106026, 106027, 106028, 106029, 106030, 106031, 106072, 126999, 151999, 152999, 153999, 155999, 156999, 157999, 158999, 159999, 160999] w μ912 μ1270 → mG [(80, 5200), (21200, 53200)] μ912 μ1270 → (0 ≤ z1269 ∧ z1269 ≤ 10) → G1 μ1270 → EV μ1270 → PK μ1270 → (11 - z1269) < (nL1271 : Int) → sV (gG l D c H0 sa) mX12_rethink (sRm 12 0 0) (sZ (gG l D c H0 sa) 0 0 (qV w [106026, 106027, 106028, 106029, 106030, 106031, 106072, 126999, 151999, 152999, 153999, 155999, 156999, 157999, 158999, 159999, 160999, 161999, 165999] μ (fun μ1 => mG [(80, 5200), (21200, 53200)] μ μ1 ∧ G1 μ1 ∧ EV μ1 ∧ True))) 23 [(0, .ref 106), (1, iv z1269)] [] (mk w μ1270) 0 0 := by
          intro nL1271
          induction nL1271 with
          | zero => intro z1269 μ1270 T1273 F1274 G1275 h1272 I1276 I1277 I1278 h1279; exact ((vc_X12_rethink_2 h1279 h1272)).elim
          | succ nL1271 ih1280 =>
            intro z1269 μ1270 T1273 F1274 G1275 h1272 I1276 I1277 I1278 h1279
            refine mr_iload_n (pc := 23) (z := z1269) dX12_rethink_23 rfl rfl ?_
            refine sv_aload_n (pc := 24) dX12_rethink_24 rfl rfl ?_
            refine gk_X12_5 (pc := 25) dX12_rethink_25 wF_X12_34 (A_106 hw) (F1274.f (A_106 hw) rfl q924) ?_
            refine mr_icmp_ge (pc := 28) (tgt := 68) dX12_rethink_28 (by decide) (r32 h1272 rfl) (r32 h925 rfl) (fun h1335 => ?_) (fun h1335 => ?_)
            · exact mr_vret dX12_rethink_68 rfl (le_t rfl) (le_t rfl) T1273 (mF.call (mF.call mF.refl F916 rfl) F1274 rfl) ⟨(mG.call (mG.call mG.refl G917 (List.forall_mem_cons.mpr ⟨⟨_, List.mem_cons_self, vc_X12_rethink_3⟩, (List.forall_mem_cons.mpr ⟨⟨_, (List.mem_cons_of_mem _ List.mem_cons_self), vc_X12_rethink_4⟩, (fun _ h => absurd h List.not_mem_nil)⟩)⟩)) G1275 (List.forall_mem_cons.mpr ⟨⟨_, List.mem_cons_self, vc_X12_rethink_3⟩, (List.forall_mem_cons.mpr ⟨⟨_, (List.mem_cons_of_mem _ List.mem_cons_self), vc_X12_rethink_4⟩, (fun _ h => absurd h List.not_mem_nil)⟩)⟩)), I1276, I1277, trivial⟩
            have h1336 : 0 ≤ z1269 ∧ z1269 ≤ 9 := (vc_X12_rethink_5 h1335 h932 h1272 h914 h925)
            have h1337 : 1 ≤ z923 ∧ z923 ≤ 10 := (vc_X12_rethink_6 h1335 h932 h1336 h914 h925)
            refine mr_iconst (pc := 31) (z := 0) dX12_rethink_31 ?_
            refine mr_istore_n (pc := 32) (lv' := [(2, iv 0), (0, .ref 106), (1, iv z1269)]) dX12_rethink_32 rfl (by decide) rfl ?_
            have L1548 : ∀ (nL1548 : Nat) (z1546 : Int) (μ1547 : mM), mT w μ1547 → mF [106026, 106027, 106028, 106029, 106030, 106031, 106072, 126999, 151999, 152999, 153999, 155999, 156999, 157999, 158999, 159999, 160999] w μ1270 μ1547 → mG [(80, 5200), (21200, 53200)] μ1270 μ1547 → (0 ≤ z1546 ∧ z1546 ≤ 20) → G1 μ1547 → EV μ1547 → PK μ1547 → (21 - z1546) < (nL1548 : Int) → sV (gG l D c H0 sa) mX12_rethink (sRm 12 0 0) (sZ (gG l D c H0 sa) 0 0 (qV w [106026, 106027, 106028, 106029, 106030, 106031, 106072, 126999, 151999, 152999, 153999, 155999, 156999, 157999, 158999, 159999, 160999, 161999, 165999] μ (fun μ1 => mG [(80, 5200), (21200, 53200)] μ μ1 ∧ G1 μ1 ∧ EV μ1 ∧ True))) 33 [(0, .ref 106), (1, iv z1269), (2, iv z1546)] [] (mk w μ1547) 0 0 := by
              intro nL1548
              induction nL1548 with
              | zero => intro z1546 μ1547 T1550 F1551 G1552 h1549 I1553 I1554 I1555 h1556; exact ((vc_X12_rethink_7 h1556 h1549)).elim
              | succ nL1548 ih1557 =>
                intro z1546 μ1547 T1550 F1551 G1552 h1549 I1553 I1554 I1555 h1556
                refine mr_iload_n (pc := 33) (z := z1546) dX12_rethink_33 rfl rfl ?_
                refine sv_aload_n (pc := 34) dX12_rethink_34 rfl rfl ?_
                refine gf_X12_6 (pc := 35) dX12_rethink_35 wF_X12_37 (A_106 hw) T1550 fun z1558 q1559 h1560 => ?_
                refine mr_icmp_ge (pc := 38) (tgt := 62) dX12_rethink_38 (by decide) (r32 h1549 rfl) (r32 h1560 rfl) (fun h1582 => ?_) (fun h1582 => ?_)
                · refine mr_iinc (pc := 62) (lv' := [(1, iv (z1269 + 1)), (0, .ref 106), (2, iv z1546)]) dX12_rethink_62 rfl (by decide) rfl ?_
                  refine sv_goto (pc := 65) (tgt := 23) dX12_rethink_65 (by decide) ?_
                  refine mr_lvS (lv' := [(0, .ref 106), (1, iv (z1269 + 1))]) (List.forall_mem_cons.mpr ⟨rfl, List.forall_mem_cons.mpr ⟨rfl, fun _ h => absurd h List.not_mem_nil⟩⟩) ?_
                  exact ih1280 (z1269 + 1) μ1547 T1550 (mF.call (mF.call mF.refl F1274 rfl) F1551 rfl) (mG.call (mG.call mG.refl G1275 (List.forall_mem_cons.mpr ⟨⟨_, List.mem_cons_self, vc_X12_rethink_3⟩, (List.forall_mem_cons.mpr ⟨⟨_, (List.mem_cons_of_mem _ List.mem_cons_self), vc_X12_rethink_4⟩, (fun _ h => absurd h List.not_mem_nil)⟩)⟩)) G1552 (List.forall_mem_cons.mpr ⟨⟨_, List.mem_cons_self, vc_X12_rethink_3⟩, (List.forall_mem_cons.mpr ⟨⟨_, (List.mem_cons_of_mem _ List.mem_cons_self), vc_X12_rethink_4⟩, (fun _ h => absurd h List.not_mem_nil)⟩)⟩)) (rW (c := 0) (d := 10) (rAdd (e := 1) (f := 10) h1336 (rR (x := 1)) rfl) rfl) I1553 I1554 I1555 (vc_X12_rethink_8 (nS h1279) h1335 h932 h1336 h914 h1337)
                have h1583 : 0 ≤ z1546 ∧ z1546 ≤ 19 := (vc_X12_rethink_9 h1582 h1549 h1560)
                have h1584 : 1 ≤ z1558 ∧ z1558 ≤ 20 := (vc_X12_rethink_10 h1582 h1583 h1560)
                refine sv_aload_n (pc := 41) dX12_rethink_41 rfl rfl ?_
                refine mr_iload_n (pc := 42) (z := z1546) dX12_rethink_42 rfl rfl ?_
                refine mr_iload_n (pc := 43) (z := z1269) dX12_rethink_43 rfl rfl ?_
                obtain ⟨z1585, q1586⟩ : ∃ z, μ1547 110 ((2 * z1546).toNat) = z := ⟨_, rfl⟩
                have h1587 : (0 ≤ z1585 ∧ z1585 ≤ 9) := by rw [← q1586]; exact T1550 110 110 (A_110 hw) ((2 * z1546).toNat)
                obtain ⟨z1588, q1589⟩ : ∃ z, μ1547 110 (((2 * z1546) + 1).toNat) = z := ⟨_, rfl⟩
                have h1590 : (0 ≤ z1588 ∧ z1588 ≤ 9) := by rw [← q1589]; exact T1550 110 110 (A_110 hw) (((2 * z1546) + 1).toNat)
                refine mr_cVP (pc := 44) (c_X12_isAt hw T1550 h1583 (rW (c := (-2147483648)) (d := 2147483647) h1336 rfl) q1586 q1589) (gOk _ _ _ _ _) dX12_rethink_44 (tX12_isAt _ _ _ _ _) ⟨wV_X12_isAt, wL_X12_isAt⟩ wM_X12_562 (gCX12 _ _ _ _ _) rfl (A_106 hw) rfl ⟨le_t rfl, le_t rfl⟩ ⟨le_t rfl, le_t rfl⟩ rfl (le_t rfl) fun z1595 h1594 => ?_
                refine mr_if_eq (pc := 47) (tgt := 56) dX12_rethink_47 (by decide) (r32 h1594.1 rfl) (fun h1604 => ?_) (fun h1604 => ?_)
                · have h1605 : 0 ≤ z1595 ∧ z1595 ≤ 0 := (vc_X12_rethink_11 h1604 h1594.2.1 h1594.2.2.1 h1336 h1587 h1590 h1594.1)
                  have h1606 : ¬ z1585 = z1269 ∧ ¬ z1588 = z1269 := (h1594.2.2.1 (vc_X12_rethink_12 h1594.2.1 h1594.2.2.1 h1604 h1335 h1336 h1587 h1590 h1605 h1337))
                  refine mr_iinc (pc := 56) (lv' := [(2, iv (z1546 + 1)), (0, .ref 106), (1, iv z1269)]) dX12_rethink_56 rfl (by decide) rfl ?_
                  refine sv_goto (pc := 59) (tgt := 33) dX12_rethink_59 (by decide) ?_
                  refine mr_lvS (lv' := [(0, .ref 106), (1, iv z1269), (2, iv (z1546 + 1))]) (List.forall_mem_cons.mpr ⟨rfl, List.forall_mem_cons.mpr ⟨rfl, List.forall_mem_cons.mpr ⟨rfl, fun _ h => absurd h List.not_mem_nil⟩⟩⟩) ?_
                  exact ih1557 (z1546 + 1) μ1547 T1550 (mF.call mF.refl F1551 rfl) (mG.call mG.refl G1552 (List.forall_mem_cons.mpr ⟨⟨_, List.mem_cons_self, vc_X12_rethink_3⟩, (List.forall_mem_cons.mpr ⟨⟨_, (List.mem_cons_of_mem _ List.mem_cons_self), vc_X12_rethink_4⟩, (fun _ h => absurd h List.not_mem_nil)⟩)⟩)) (rW (c := 0) (d := 20) (rAdd (e := 1) (f := 20) h1583 (rR (x := 1)) rfl) rfl) I1553 I1554 I1555 (vc_X12_rethink_13 (nS h1556) h1582 h1583 h1584)
                have h1607 : 1 ≤ z1595 ∧ z1595 ≤ 1 := (vc_X12_rethink_14 h1604 h1594.2.1 h1594.2.2.1 h1336 h1587 h1590 h1594.1)
                have h1608 : z1585 = z1269 ∨ z1588 = z1269 := (h1594.2.1 (vc_X12_rethink_15 h1594.2.1 h1594.2.2.1 h1604 h1335 h1336 h1587 h1590 h1607 h1337))
                refine sv_aload_n (pc := 50) dX12_rethink_50 rfl rfl ?_
                refine mr_iload_n (pc := 51) (z := z1269) dX12_rethink_51 rfl rfl ?_
                refine mr_iload_n (pc := 52) (z := z1546) dX12_rethink_52 rfl rfl ?_
                refine mr_cVV (pc := 53) (c_X12_sayAll hw T1550 h1336 h1583 q1586 q1589 q1559 (vc_X12_rethink_16 h1582 h1583 h1584) (vc_X12_rethink_17 h1335 h1594.2.1 h1594.2.2.1 h1608 h932 h1604 h1336 h1587 h1590 h1607 h914 h1337) I1553 I1554 I1555) (gOk _ _ _ _ _) dX12_rethink_53 (tX12_sayAll _ _ _ _ _) ⟨wV_X12_sayAll, wL_X12_sayAll⟩ wM_X12_603 (gCX12 _ _ _ _ _) rfl (A_106 hw) rfl ⟨le_t rfl, le_t rfl⟩ ⟨le_t rfl, le_t rfl⟩ rfl (le_t rfl) fun μ1609 T1610 F1611 h1612 => ?_
                refine mr_iinc (pc := 56) (lv' := [(2, iv (z1546 + 1)), (0, .ref 106), (1, iv z1269)]) dX12_rethink_56 rfl (by decide) rfl ?_
                refine sv_goto (pc := 59) (tgt := 33) dX12_rethink_59 (by decide) ?_
                refine mr_lvS (lv' := [(0, .ref 106), (1, iv z1269), (2, iv (z1546 + 1))]) (List.forall_mem_cons.mpr ⟨rfl, List.forall_mem_cons.mpr ⟨rfl, List.forall_mem_cons.mpr ⟨rfl, fun _ h => absurd h List.not_mem_nil⟩⟩⟩) ?_
                exact ih1557 (z1546 + 1) μ1609 T1610 (mF.call (mF.call mF.refl F1551 rfl) F1611 rfl) (mG.call (mG.call mG.refl G1552 (List.forall_mem_cons.mpr ⟨⟨_, List.mem_cons_self, vc_X12_rethink_3⟩, (List.forall_mem_cons.mpr ⟨⟨_, (List.mem_cons_of_mem _ List.mem_cons_self), vc_X12_rethink_4⟩, (fun _ h => absurd h List.not_mem_nil)⟩)⟩)) h1612.1 (List.forall_mem_cons.mpr ⟨⟨_, List.mem_cons_self, vc_X12_rethink_18⟩, (List.forall_mem_cons.mpr ⟨⟨_, (List.mem_cons_of_mem _ List.mem_cons_self), vc_X12_rethink_4⟩, (fun _ h => absurd h List.not_mem_nil)⟩)⟩)) (rW (c := 0) (d := 20) (rAdd (e := 1) (f := 20) h1583 (rR (x := 1)) rfl) rfl) h1612.2.1 h1612.2.2.1 (PK.keep I1555 hw ((mF.call mF.refl F1611 rfl) : mF [106026, 106027, 106028, 106029, 106030, 106031, 106072, 126999, 151999, 152999, 153999, 155999, 156999, 157999, 158999, 159999, 160999] w μ1547 μ1609) rfl) (vc_X12_rethink_13 (nS h1556) h1582 h1583 h1584)
            refine mr_lvS (lv' := [(0, .ref 106), (1, iv z1269), (2, iv 0)]) (List.forall_mem_cons.mpr ⟨rfl, List.forall_mem_cons.mpr ⟨rfl, List.forall_mem_cons.mpr ⟨rfl, fun _ h => absurd h List.not_mem_nil⟩⟩⟩) ?_
            exact L1548 22 0 μ1270 T1273 mF.refl mG.refl (rW (c := 0) (d := 20) (rR (x := 0)) rfl) I1276 I1277 I1278 vc_X12_rethink_19
        refine mr_lvS (lv' := [(0, .ref 106), (1, iv 0)]) (List.forall_mem_cons.mpr ⟨rfl, List.forall_mem_cons.mpr ⟨rfl, fun _ h => absurd h List.not_mem_nil⟩⟩) ?_
        exact L1271 12 0 μ912 T915 mF.refl mG.refl (rW (c := 0) (d := 10) (rR (x := 0)) rfl) I918 I919 I920 vc_X12_rethink_20
      have h1613 : 0 ≤ z911 ∧ z911 ≤ 9 := (vc_X12_rethink_21 h932 h914 h925)
      have h1614 : 1 ≤ z923 ∧ z923 ≤ 10 := (vc_X12_rethink_22 h932 h1613 h925)
      refine sv_aload_n (pc := 10) dX12_rethink_10 rfl rfl ?_
      refine mr_iload_n (pc := 11) (z := z911) dX12_rethink_11 rfl rfl ?_
      refine mr_cVV (pc := 12) (c_X12_lookAll hw T915 h1613 I918 I919 I920) (gOk _ _ _ _ _) dX12_rethink_12 (tX12_lookAll _ _ _ _ _) ⟨wV_X12_lookAll, wL_X12_lookAll⟩ wM_X12_600 (gCX12 _ _ _ _ _) rfl (A_106 hw) rfl ⟨le_t rfl, le_t rfl⟩ ⟨le_t rfl, le_t rfl⟩ rfl (le_t rfl) fun μ1615 T1616 F1617 h1618 => ?_
      refine mr_iinc (pc := 15) (lv' := [(1, iv (z911 + 1)), (0, .ref 106)]) dX12_rethink_15 rfl (by decide) rfl ?_
      refine sv_goto (pc := 18) (tgt := 2) dX12_rethink_18 (by decide) ?_
      refine mr_lvS (lv' := [(0, .ref 106), (1, iv (z911 + 1))]) (List.forall_mem_cons.mpr ⟨rfl, List.forall_mem_cons.mpr ⟨rfl, fun _ h => absurd h List.not_mem_nil⟩⟩) ?_
      exact ih922 (z911 + 1) μ1615 T1616 (mF.call (mF.call mF.refl F916 rfl) F1617 rfl) (mG.call (mG.call mG.refl G917 (List.forall_mem_cons.mpr ⟨⟨_, List.mem_cons_self, vc_X12_rethink_3⟩, (List.forall_mem_cons.mpr ⟨⟨_, (List.mem_cons_of_mem _ List.mem_cons_self), vc_X12_rethink_4⟩, (fun _ h => absurd h List.not_mem_nil)⟩)⟩)) h1618.1 (List.forall_mem_cons.mpr ⟨⟨_, List.mem_cons_self, vc_X12_rethink_24⟩, (List.forall_mem_cons.mpr ⟨⟨_, List.mem_cons_self, (vc_X12_rethink_25 h932 h1613 h1614)⟩, (List.forall_mem_cons.mpr ⟨⟨_, (List.mem_cons_of_mem _ List.mem_cons_self), vc_X12_rethink_4⟩, (fun _ h => absurd h List.not_mem_nil)⟩)⟩)⟩)) (rW (c := 0) (d := 10) (rAdd (e := 1) (f := 10) h1613 (rR (x := 1)) rfl) rfl) h1618.2.1 h1618.2.2.1 (PK.keep I920 hw ((mF.call mF.refl F1617 rfl) : mF [106026, 106027, 106028, 106029, 106030, 106031, 106072, 126999, 151999, 152999, 153999, 155999, 156999, 157999, 158999, 159999, 160999, 161999, 165999] w μ912 μ1615) rfl) (vc_X12_rethink_23 (nS h921) h932 h1613 h1614)
  refine mr_lvS (lv' := [(0, .ref 106), (1, iv 0)]) (List.forall_mem_cons.mpr ⟨rfl, List.forall_mem_cons.mpr ⟨rfl, fun _ h => absurd h List.not_mem_nil⟩⟩) ?_
  exact L913 12 0 μ hT mF.refl mG.refl (rW (c := 0) (d := 10) (rR (x := 0)) rfl) hIG1 hIEV hIPK vc_X12_rethink_20
theorem vc_X12_today_1 {p1 : Int} (h0 : 0 ≤ p1) (h1 : (-2147483648) ≤ p1 ∧ p1 ≤ 2147483647) : 0 ≤ p1 ∧ p1 ≤ 2147483647 := by omega
theorem vc_X12_today_2 {p1 : Int} (h0 : p1 < 0) (h1 : (-2147483648) ≤ p1 ∧ p1 ≤ 2147483647) : (-2147483648) ≤ p1 ∧ p1 ≤ (-1) := by omega
set_option maxRecDepth 4000 in
set_option maxHeartbeats 4000000 in
theorem c_X12_today {l : Launch} {D : va_G} {c : Nat → ClassId} {H0 : Heap} {sa : Nat × Nat × (Nat → Int32)} {w : mW} {μ : mM} (hw : mWF w) (hT : mT w μ) {p1 : Int} (hp1 : (-2147483648) ≤ p1 ∧ p1 ≤ 2147483647) (hIG1 : G1 μ) (hIEV : EV μ) (hIPK : PK μ) : sC (gG l D c H0 sa) mX12_today 13 0 0 [.ref 106, iv p1] (mk w μ) (qI w [106017, 106026, 106027, 106028, 106029, 106030, 106031, 106072, 126999, 151999, 152999, 153999, 155999, 156999, 157999, 158999, 159999, 160999, 161999, 165999] μ (fun z μ1 => ((-2147483648) ≤ z ∧ z ≤ 2147483647) ∧ G1 μ1 ∧ EV μ1 ∧ True)) := by
  refine sC.of rfl (by decide) (le_t rfl) ?_
  refine mr_lvE (lv' := [(0, .ref 106), (1, iv p1)]) rfl ?_
  refine mr_iload_n (pc := 0) (z := p1) dX12_today_0 rfl rfl ?_
  refine mr_if_ge (pc := 1) (tgt := 6) dX12_today_1 (by decide) hp1 (fun h1 => ?_) (fun h1 => ?_)
  · have h2 : 0 ≤ p1 ∧ p1 ≤ 2147483647 := (vc_X12_today_1 h1 hp1)
    refine sv_aload_n (pc := 6) dX12_today_6 rfl rfl ?_
    refine gf_X12_17 (pc := 7) dX12_today_7 wF_X12_85 (A_106 hw) hT fun z3 q4 h5 => ?_
    refine mr_istore_n (pc := 10) (lv' := [(2, iv z3), (0, .ref 106), (1, iv p1)]) dX12_today_10 rfl (by decide) rfl ?_
    refine sv_aload_n (pc := 11) dX12_today_11 rfl rfl ?_
    refine mr_iload_n (pc := 12) (z := p1) dX12_today_12 rfl rfl ?_
    refine pf_X12_17 (pc := 13) dX12_today_13 wF_X12_85 (A_106 hw) hT h2 fun μ6 u7 T8 => ?_
    refine sv_aload_n (pc := 16) dX12_today_16 rfl rfl ?_
    refine mr_cVV (pc := 17) (c_X12_rethink hw T8 (G1.keep hIG1 hw ((mF.up mF.refl (A_106 hw) u7 rfl) : mF [106017] w μ μ6) rfl rfl ((mG.upO mG.refl u7 rfl) : mG [] μ μ6) (fun _ h => absurd h List.not_mem_nil)) (EV.keep hIEV hw ((mF.up mF.refl (A_106 hw) u7 rfl) : mF [106017] w μ μ6) rfl) (PK.keep hIPK hw ((mF.up mF.refl (A_106 hw) u7 rfl) : mF [106017] w μ μ6) rfl)) (gOk _ _ _ _ _) dX12_today_17 (tX12_rethink _ _ _ _ _) ⟨wV_X12_rethink, wL_X12_rethink⟩ wM_X12_88 (gCX12 _ _ _ _ _) rfl (A_106 hw) rfl ⟨le_t rfl, le_t rfl⟩ ⟨le_t rfl, le_t rfl⟩ rfl (le_t rfl) fun μ9 T10 F11 h12 => ?_
    refine mr_iload_n (pc := 20) (z := z3) dX12_today_20 rfl rfl ?_
    exact mr_iret dX12_today_21 rfl (le_t rfl) (le_t rfl) T10 (mF.call (mF.up mF.refl (A_106 hw) u7 rfl) F11 rfl) ⟨(rW (c := (-2147483648)) (d := 2147483647) h5 rfl), h12.2.1, h12.2.2.1, trivial⟩
  have h13 : (-2147483648) ≤ p1 ∧ p1 ≤ (-1) := (vc_X12_today_2 h1 hp1)
  refine mr_iconst (pc := 4) (z := (-1)) dX12_today_4 ?_
  exact mr_iret dX12_today_5 rfl (le_t rfl) (le_t rfl) hT mF.refl ⟨(rW (c := (-2147483648)) (d := 2147483647) (rR (x := (-1))) rfl), hIG1, hIEV, trivial⟩
theorem vc_X12_right_1 {p1 z1 z8 : Int} (h0 : z8 = 0) (h1 : (z8 = 1 → 0 ≤ p1 ∧ p1 < z1)) (h2 : (z8 = 0 → p1 < 0 ∨ z1 ≤ p1)) (h3 : (-2147483648) ≤ p1 ∧ p1 ≤ 2147483647) (h4 : 0 ≤ z1 ∧ z1 ≤ 10) (h5 : 0 ≤ z8 ∧ z8 ≤ 1) : 0 ≤ z8 ∧ z8 ≤ 0 := by omega
theorem vc_X12_right_2 {p1 z1 z8 : Int} (h0 : (z8 = 1 → 0 ≤ p1 ∧ p1 < z1)) (h1 : (z8 = 0 → p1 < 0 ∨ z1 ≤ p1)) (h2 : z8 = 0) (h3 : (-2147483648) ≤ p1 ∧ p1 ≤ 2147483647) (h4 : 0 ≤ z1 ∧ z1 ≤ 10) (h5 : 0 ≤ z8 ∧ z8 ≤ 0) : z8 = 0 := by omega
theorem vc_X12_right_3 {p1 z1 z8 : Int} (h0 : ¬ z8 = 0) (h1 : (z8 = 1 → 0 ≤ p1 ∧ p1 < z1)) (h2 : (z8 = 0 → p1 < 0 ∨ z1 ≤ p1)) (h3 : (-2147483648) ≤ p1 ∧ p1 ≤ 2147483647) (h4 : 0 ≤ z1 ∧ z1 ≤ 10) (h5 : 0 ≤ z8 ∧ z8 ≤ 1) : 1 ≤ z8 ∧ z8 ≤ 1 := by omega
theorem vc_X12_right_4 {p1 z1 z8 : Int} (h0 : (z8 = 1 → 0 ≤ p1 ∧ p1 < z1)) (h1 : (z8 = 0 → p1 < 0 ∨ z1 ≤ p1)) (h2 : ¬ z8 = 0) (h3 : (-2147483648) ≤ p1 ∧ p1 ≤ 2147483647) (h4 : 0 ≤ z1 ∧ z1 ≤ 10) (h5 : 1 ≤ z8 ∧ z8 ≤ 1) : z8 = 1 := by omega
theorem vc_X12_right_5 {p1 z1 z8 : Int} (h0 : 0 ≤ p1 ∧ p1 < z1) (h1 : (z8 = 1 → 0 ≤ p1 ∧ p1 < z1)) (h2 : (z8 = 0 → p1 < 0 ∨ z1 ≤ p1)) (h3 : (-2147483648) ≤ p1 ∧ p1 ≤ 2147483647) (h4 : 0 ≤ z1 ∧ z1 ≤ 10) (h5 : 1 ≤ z8 ∧ z8 ≤ 1) : 0 ≤ p1 ∧ p1 ≤ 9 := by omega
theorem vc_X12_right_6 {p1 z1 z8 : Int} (h0 : 0 ≤ p1 ∧ p1 < z1) (h1 : (z8 = 1 → 0 ≤ p1 ∧ p1 < z1)) (h2 : (z8 = 0 → p1 < 0 ∨ z1 ≤ p1)) (h3 : 0 ≤ p1 ∧ p1 ≤ 9) (h4 : 0 ≤ z1 ∧ z1 ≤ 10) (h5 : 1 ≤ z8 ∧ z8 ≤ 1) : 1 ≤ z1 ∧ z1 ≤ 10 := by omega
theorem vc_X12_right_7 {p3 z16 z23 : Int} (h0 : z23 = 0) (h1 : (z23 = 1 → 0 ≤ p3 ∧ p3 < z16)) (h2 : (z23 = 0 → p3 < 0 ∨ z16 ≤ p3)) (h3 : (-2147483648) ≤ p3 ∧ p3 ≤ 2147483647) (h4 : 0 ≤ z16 ∧ z16 ≤ 10) (h5 : 0 ≤ z23 ∧ z23 ≤ 1) : 0 ≤ z23 ∧ z23 ≤ 0 := by omega
theorem vc_X12_right_8 {p3 z16 z23 : Int} (h0 : (z23 = 1 → 0 ≤ p3 ∧ p3 < z16)) (h1 : (z23 = 0 → p3 < 0 ∨ z16 ≤ p3)) (h2 : z23 = 0) (h3 : (-2147483648) ≤ p3 ∧ p3 ≤ 2147483647) (h4 : 0 ≤ z16 ∧ z16 ≤ 10) (h5 : 0 ≤ z23 ∧ z23 ≤ 0) : z23 = 0 := by omega
theorem vc_X12_right_9 {p3 z16 z23 : Int} (h0 : ¬ z23 = 0) (h1 : (z23 = 1 → 0 ≤ p3 ∧ p3 < z16)) (h2 : (z23 = 0 → p3 < 0 ∨ z16 ≤ p3)) (h3 : (-2147483648) ≤ p3 ∧ p3 ≤ 2147483647) (h4 : 0 ≤ z16 ∧ z16 ≤ 10) (h5 : 0 ≤ z23 ∧ z23 ≤ 1) : 1 ≤ z23 ∧ z23 ≤ 1 := by omega
theorem vc_X12_right_10 {p3 z16 z23 : Int} (h0 : (z23 = 1 → 0 ≤ p3 ∧ p3 < z16)) (h1 : (z23 = 0 → p3 < 0 ∨ z16 ≤ p3)) (h2 : ¬ z23 = 0) (h3 : (-2147483648) ≤ p3 ∧ p3 ≤ 2147483647) (h4 : 0 ≤ z16 ∧ z16 ≤ 10) (h5 : 1 ≤ z23 ∧ z23 ≤ 1) : z23 = 1 := by omega
theorem vc_X12_right_11 {p3 z16 z23 : Int} (h0 : 0 ≤ p3 ∧ p3 < z16) (h1 : (z23 = 1 → 0 ≤ p3 ∧ p3 < z16)) (h2 : (z23 = 0 → p3 < 0 ∨ z16 ≤ p3)) (h3 : (-2147483648) ≤ p3 ∧ p3 ≤ 2147483647) (h4 : 0 ≤ z16 ∧ z16 ≤ 10) (h5 : 1 ≤ z23 ∧ z23 ≤ 1) : 0 ≤ p3 ∧ p3 ≤ 9 := by omega
theorem vc_X12_right_12 {p2 z30 z37 : Int} (h0 : z37 = 0) (h1 : (z37 = 1 → z30 ≤ p2 ∧ p2 ≤ (32 : Int))) (h2 : (z37 = 0 → p2 < z30 ∨ (32 : Int) < p2)) (h3 : (-2147483648) ≤ p2 ∧ p2 ≤ 2147483647) (h4 : 0 ≤ z30 ∧ z30 ≤ 32) (h5 : 0 ≤ z37 ∧ z37 ≤ 1) : 0 ≤ z37 ∧ z37 ≤ 0 := by omega
theorem vc_X12_right_13 {p2 z30 z37 : Int} (h0 : (z37 = 1 → z30 ≤ p2 ∧ p2 ≤ (32 : Int))) (h1 : (z37 = 0 → p2 < z30 ∨ (32 : Int) < p2)) (h2 : z37 = 0) (h3 : (-2147483648) ≤ p2 ∧ p2 ≤ 2147483647) (h4 : 0 ≤ z30 ∧ z30 ≤ 32) (h5 : 0 ≤ z37 ∧ z37 ≤ 0) : z37 = 0 := by omega
theorem vc_X12_right_14 {p2 z30 z37 : Int} (h0 : ¬ z37 = 0) (h1 : (z37 = 1 → z30 ≤ p2 ∧ p2 ≤ (32 : Int))) (h2 : (z37 = 0 → p2 < z30 ∨ (32 : Int) < p2)) (h3 : (-2147483648) ≤ p2 ∧ p2 ≤ 2147483647) (h4 : 0 ≤ z30 ∧ z30 ≤ 32) (h5 : 0 ≤ z37 ∧ z37 ≤ 1) : 1 ≤ z37 ∧ z37 ≤ 1 := by omega
theorem vc_X12_right_15 {p2 z30 z37 : Int} (h0 : (z37 = 1 → z30 ≤ p2 ∧ p2 ≤ (32 : Int))) (h1 : (z37 = 0 → p2 < z30 ∨ (32 : Int) < p2)) (h2 : ¬ z37 = 0) (h3 : (-2147483648) ≤ p2 ∧ p2 ≤ 2147483647) (h4 : 0 ≤ z30 ∧ z30 ≤ 32) (h5 : 1 ≤ z37 ∧ z37 ≤ 1) : z37 = 1 := by omega
theorem vc_X12_right_16 {p2 z30 z37 : Int} (h0 : z30 ≤ p2 ∧ p2 ≤ (32 : Int)) (h1 : (z37 = 1 → z30 ≤ p2 ∧ p2 ≤ (32 : Int))) (h2 : (z37 = 0 → p2 < z30 ∨ (32 : Int) < p2)) (h3 : (-2147483648) ≤ p2 ∧ p2 ≤ 2147483647) (h4 : 0 ≤ z30 ∧ z30 ≤ 32) (h5 : 1 ≤ z37 ∧ z37 ≤ 1) : 0 ≤ p2 ∧ p2 ≤ 32 := by omega
theorem vc_X12_right_17 {p4 : Int} (h0 : p4 < 0) (h1 : (-2147483648) ≤ p4 ∧ p4 ≤ 2147483647) : (-2147483648) ≤ p4 ∧ p4 ≤ (-1) := by omega
theorem vc_X12_right_18 {p4 : Int} (h0 : 0 ≤ p4) (h1 : (-2147483648) ≤ p4 ∧ p4 ≤ 2147483647) : 0 ≤ p4 ∧ p4 ≤ 2147483647 := by omega
theorem vc_X12_right_19 {p4 p5 : Int} (h0 : p4 < p5) (h1 : 0 ≤ p4) (h2 : 0 ≤ p4 ∧ p4 ≤ 2147483647) (h3 : (-2147483648) ≤ p5 ∧ p5 ≤ 2147483647) : 1 ≤ p5 ∧ p5 ≤ 2147483647 := by omega
theorem vc_X12_right_20 {p4 p5 : Int} (h0 : p4 < p5) (h1 : 0 ≤ p4) (h2 : 0 ≤ p4 ∧ p4 ≤ 2147483647) (h3 : 1 ≤ p5 ∧ p5 ≤ 2147483647) : 0 ≤ p4 ∧ p4 ≤ 2147483646 := by omega
theorem vc_X12_right_21 {p6 : Int} (h0 : 0 ≤ p6) (h1 : (-2147483648) ≤ p6 ∧ p6 ≤ 2147483647) : 0 ≤ p6 ∧ p6 ≤ 2147483647 := by omega
theorem vc_X12_right_22 {z52 : Int} (h0 : ¬ z52 = 30) (h1 : 0 ≤ z52 ∧ z52 ≤ 30) : 0 ≤ z52 ∧ z52 ≤ 29 := by omega
theorem vc_X12_right_23 {z52 : Int} (h0 : z52 = 30) (h1 : 0 ≤ z52 ∧ z52 ≤ 30) : 30 ≤ z52 ∧ z52 ≤ 30 := by omega
theorem vc_X12_right_24 {p6 : Int} (h0 : p6 < 0) (h1 : (-2147483648) ≤ p6 ∧ p6 ≤ 2147483647) : (-2147483648) ≤ p6 ∧ p6 ≤ (-1) := by omega
set_option maxRecDepth 4000 in
set_option maxHeartbeats 4000000 in
theorem c_X12_right {l : Launch} {D : va_G} {c : Nat → ClassId} {H0 : Heap} {sa : Nat × Nat × (Nat → Int32)} {w : mW} {μ : mM} (hw : mWF w) (hT : mT w μ) {p1 : Int} (hp1 : (-2147483648) ≤ p1 ∧ p1 ≤ 2147483647) {p2 : Int} (hp2 : (-2147483648) ≤ p2 ∧ p2 ≤ 2147483647) {p3 : Int} (hp3 : (-2147483648) ≤ p3 ∧ p3 ≤ 2147483647) {p4 : Int} (hp4 : (-2147483648) ≤ p4 ∧ p4 ≤ 2147483647) {p5 : Int} (hp5 : (-2147483648) ≤ p5 ∧ p5 ≤ 2147483647) {p6 : Int} (hp6 : (-2147483648) ≤ p6 ∧ p6 ≤ 2147483647) (hIG1 : G1 μ) (hIEV : EV μ) (hIPK : PK μ) : sC (gG l D c H0 sa) mX12_right 13 0 0 [.ref 106, iv p1, iv p2, iv p3, iv p4, iv p5, iv p6] (mk w μ) (qI w [106018, 106026, 106027, 106028, 106029, 106030, 106031, 106072, 119999, 120999, 121999, 122999, 123999, 124999, 125999, 126999, 151999, 152999, 153999, 155999, 156999, 157999, 158999, 159999, 160999, 161999, 165999] μ (fun z μ1 => ((-2147483648) ≤ z ∧ z ≤ 2147483647) ∧ G1 μ1 ∧ EV μ1 ∧ True)) := by
  refine sC.of rfl (by decide) (le_t rfl) ?_
  refine mr_lvE (lv' := [(0, .ref 106), (1, iv p1), (2, iv p2), (3, iv p3), (4, iv p4), (5, iv p5), (6, iv p6)]) rfl ?_
  refine sv_aload_n (pc := 0) dX12_right_0 rfl rfl ?_
  refine mr_iload_n (pc := 1) (z := p1) dX12_right_1 rfl rfl ?_
  obtain ⟨z1, q2⟩ : ∃ z, μ 106 2 = z := ⟨_, rfl⟩
  have h3 : (0 ≤ z1 ∧ z1 ≤ 10) := by rw [← q2]; exact hT 106 106 (A_106 hw) 2
  refine mr_cVP (pc := 2) (c_X12_isPrefix hw hT hp1 q2) (gOk _ _ _ _ _) dX12_right_2 (tX12_isPrefix _ _ _ _ _) ⟨wV_X12_isPrefix, wL_X12_isPrefix⟩ wM_X12_92 (gCX12 _ _ _ _ _) rfl (A_106 hw) rfl ⟨le_t rfl, le_t rfl⟩ ⟨le_t rfl, le_t rfl⟩ rfl (le_t rfl) fun z8 h7 => ?_
  refine mr_if_eq (pc := 5) (tgt := 48) dX12_right_5 (by decide) (r32 h7.1 rfl) (fun h9 => ?_) (fun h9 => ?_)
  · have h10 : 0 ≤ z8 ∧ z8 ≤ 0 := (vc_X12_right_1 h9 h7.2.1 h7.2.2.1 hp1 h3 h7.1)
    have h11 : p1 < 0 ∨ z1 ≤ p1 := (h7.2.2.1 (vc_X12_right_2 h7.2.1 h7.2.2.1 h9 hp1 h3 h10))
    refine mr_iconst (pc := 48) (z := (-1)) dX12_right_48 ?_
    exact mr_iret dX12_right_49 rfl (le_t rfl) (le_t rfl) hT mF.refl ⟨(rW (c := (-2147483648)) (d := 2147483647) (rR (x := (-1))) rfl), hIG1, hIEV, trivial⟩
  have h12 : 1 ≤ z8 ∧ z8 ≤ 1 := (vc_X12_right_3 h9 h7.2.1 h7.2.2.1 hp1 h3 h7.1)
  have h13 : 0 ≤ p1 ∧ p1 < z1 := (h7.2.1 (vc_X12_right_4 h7.2.1 h7.2.2.1 h9 hp1 h3 h12))
  have h14 : 0 ≤ p1 ∧ p1 ≤ 9 := (vc_X12_right_5 h13 h7.2.1 h7.2.2.1 hp1 h3 h12)
  have h15 : 1 ≤ z1 ∧ z1 ≤ 10 := (vc_X12_right_6 h13 h7.2.1 h7.2.2.1 h14 h3 h12)
  refine sv_aload_n (pc := 8) dX12_right_8 rfl rfl ?_
  refine mr_iload_n (pc := 9) (z := p3) dX12_right_9 rfl rfl ?_
  obtain ⟨z16, q17⟩ : ∃ z, μ 106 5 = z := ⟨_, rfl⟩
  have h18 : (0 ≤ z16 ∧ z16 ≤ 10) := by rw [← q17]; exact hT 106 106 (A_106 hw) 5
  refine mr_cVP (pc := 10) (c_X12_isDomain hw hT hp3 q17) (gOk _ _ _ _ _) dX12_right_10 (tX12_isDomain _ _ _ _ _) ⟨wV_X12_isDomain, wL_X12_isDomain⟩ wM_X12_49 (gCX12 _ _ _ _ _) rfl (A_106 hw) rfl ⟨le_t rfl, le_t rfl⟩ ⟨le_t rfl, le_t rfl⟩ rfl (le_t rfl) fun z23 h22 => ?_
  refine mr_if_eq (pc := 13) (tgt := 48) dX12_right_13 (by decide) (r32 h22.1 rfl) (fun h24 => ?_) (fun h24 => ?_)
  · have h25 : 0 ≤ z23 ∧ z23 ≤ 0 := (vc_X12_right_7 h24 h22.2.1 h22.2.2.1 hp3 h18 h22.1)
    have h26 : p3 < 0 ∨ z16 ≤ p3 := (h22.2.2.1 (vc_X12_right_8 h22.2.1 h22.2.2.1 h24 hp3 h18 h25))
    refine mr_iconst (pc := 48) (z := (-1)) dX12_right_48 ?_
    exact mr_iret dX12_right_49 rfl (le_t rfl) (le_t rfl) hT mF.refl ⟨(rW (c := (-2147483648)) (d := 2147483647) (rR (x := (-1))) rfl), hIG1, hIEV, trivial⟩
  have h27 : 1 ≤ z23 ∧ z23 ≤ 1 := (vc_X12_right_9 h24 h22.2.1 h22.2.2.1 hp3 h18 h22.1)
  have h28 : 0 ≤ p3 ∧ p3 < z16 := (h22.2.1 (vc_X12_right_10 h22.2.1 h22.2.2.1 h24 hp3 h18 h27))
  have h29 : 0 ≤ p3 ∧ p3 ≤ 9 := (vc_X12_right_11 h28 h22.2.1 h22.2.2.1 hp3 h18 h27)
  refine mr_iload_n (pc := 16) (z := p2) dX12_right_16 rfl rfl ?_
  refine sv_aload_n (pc := 17) dX12_right_17 rfl rfl ?_
  refine gf_X12_4 (pc := 18) dX12_right_18 wF_X12_26 (A_106 hw) hT ?_
  refine mr_iload_n (pc := 21) (z := p1) dX12_right_21 rfl rfl ?_
  refine la_109 (pc := 22) dX12_right_22 (A_109 hw) hT (rIx (n := 10) h14 rfl) fun z30 q31 h32 => ?_
  refine mr_bipush (pc := 23) (z := 32) dX12_right_23 (by decide) ?_
  refine mr_cSP (pc := 25) (c_X12_in hw hT hp2 (rW (c := (-2147483648)) (d := 2147483647) h32 rfl) (rW (c := (-2147483648)) (d := 2147483647) (rR (x := 32)) rfl)) (gOk _ _ _ _ _) dX12_right_25 (tX12_in _ _ _ _ _) wS_X12_in wM_X12_18 ⟨le_t rfl, le_t rfl⟩ ⟨le_t rfl, le_t rfl⟩ rfl (le_t rfl) fun z37 h36 => ?_
  refine mr_if_eq (pc := 28) (tgt := 48) dX12_right_28 (by decide) (r32 h36.1 rfl) (fun h38 => ?_) (fun h38 => ?_)
  · have h39 : 0 ≤ z37 ∧ z37 ≤ 0 := (vc_X12_right_12 h38 h36.2.1 h36.2.2.1 hp2 h32 h36.1)
    have h40 : p2 < z30 ∨ (32 : Int) < p2 := (h36.2.2.1 (vc_X12_right_13 h36.2.1 h36.2.2.1 h38 hp2 h32 h39))
    refine mr_iconst (pc := 48) (z := (-1)) dX12_right_48 ?_
    exact mr_iret dX12_right_49 rfl (le_t rfl) (le_t rfl) hT mF.refl ⟨(rW (c := (-2147483648)) (d := 2147483647) (rR (x := (-1))) rfl), hIG1, hIEV, trivial⟩
  have h41 : 1 ≤ z37 ∧ z37 ≤ 1 := (vc_X12_right_14 h38 h36.2.1 h36.2.2.1 hp2 h32 h36.1)
  have h42 : z30 ≤ p2 ∧ p2 ≤ (32 : Int) := (h36.2.1 (vc_X12_right_15 h36.2.1 h36.2.2.1 h38 hp2 h32 h41))
  have h43 : 0 ≤ p2 ∧ p2 ≤ 32 := (vc_X12_right_16 h42 h36.2.1 h36.2.2.1 hp2 h32 h41)
  refine mr_iload (pc := 31) (z := p4) dX12_right_31 rfl ?_
  refine mr_if_lt (pc := 33) (tgt := 48) dX12_right_33 (by decide) hp4 (fun h44 => ?_) (fun h44 => ?_)
  · have h45 : (-2147483648) ≤ p4 ∧ p4 ≤ (-1) := (vc_X12_right_17 h44 hp4)
    refine mr_iconst (pc := 48) (z := (-1)) dX12_right_48 ?_
    exact mr_iret dX12_right_49 rfl (le_t rfl) (le_t rfl) hT mF.refl ⟨(rW (c := (-2147483648)) (d := 2147483647) (rR (x := (-1))) rfl), hIG1, hIEV, trivial⟩
  have h46 : 0 ≤ p4 ∧ p4 ≤ 2147483647 := (vc_X12_right_18 h44 hp4)
  refine mr_iload (pc := 36) (z := p5) dX12_right_36 rfl ?_
  refine mr_iload (pc := 38) (z := p4) dX12_right_38 rfl ?_
  refine mr_icmp_le (pc := 40) (tgt := 48) dX12_right_40 (by decide) hp5 (r32 h46 rfl) (fun h47 => ?_) (fun h47 => ?_)
  · refine mr_iconst (pc := 48) (z := (-1)) dX12_right_48 ?_
    exact mr_iret dX12_right_49 rfl (le_t rfl) (le_t rfl) hT mF.refl ⟨(rW (c := (-2147483648)) (d := 2147483647) (rR (x := (-1))) rfl), hIG1, hIEV, trivial⟩
  have h48 : 1 ≤ p5 ∧ p5 ≤ 2147483647 := (vc_X12_right_19 h47 h44 h46 hp5)
  have h49 : 0 ≤ p4 ∧ p4 ≤ 2147483646 := (vc_X12_right_20 h47 h44 h46 h48)
  refine mr_iload (pc := 43) (z := p6) dX12_right_43 rfl ?_
  refine mr_if_ge (pc := 45) (tgt := 50) dX12_right_45 (by decide) hp6 (fun h50 => ?_) (fun h50 => ?_)
  · have h51 : 0 ≤ p6 ∧ p6 ≤ 2147483647 := (vc_X12_right_21 h50 hp6)
    refine sv_aload_n (pc := 50) dX12_right_50 rfl rfl ?_
    refine gf_X12_18 (pc := 51) dX12_right_51 wF_X12_95 (A_106 hw) hT fun z52 q53 h54 => ?_
    refine mr_bipush (pc := 54) (z := 30) dX12_right_54 (by decide) ?_
    refine mr_icmp_ne (pc := 56) (tgt := 62) dX12_right_56 (by decide) (r32 h54 rfl) (r32 (rR (x := 30)) rfl) (fun h55 => ?_) (fun h55 => ?_)
    · have h56 : 0 ≤ z52 ∧ z52 ≤ 29 := (vc_X12_right_22 h55 h54)
      refine sv_aload_n (pc := 62) dX12_right_62 rfl rfl ?_
      refine gf_X12_19 (pc := 63) dX12_right_63 wF_X12_98 (A_106 hw) hT ?_
      refine sv_aload_n (pc := 66) dX12_right_66 rfl rfl ?_
      refine gk_X12_18 (pc := 67) dX12_right_67 wF_X12_95 (A_106 hw) q53 ?_
      refine mr_iload_n (pc := 70) (z := p1) dX12_right_70 rfl rfl ?_
      refine ss_119 (pc := 71) dX12_right_71 (A_119 hw) hT (rIx (n := 30) h56 rfl) h14 fun μ57 u58 T59 => ?_
      refine sv_aload_n (pc := 72) dX12_right_72 rfl rfl ?_
      refine gf_X12_20 (pc := 73) dX12_right_73 wF_X12_101 (A_106 hw) T59 ?_
      refine sv_aload_n (pc := 76) dX12_right_76 rfl rfl ?_
      refine gk_X12_18 (pc := 77) dX12_right_77 wF_X12_95 (A_106 hw) (u58.f (Or.inl (mAt.ne (A_119 hw) (A_106 hw) rfl)) q53) ?_
      refine mr_iload_n (pc := 80) (z := p2) dX12_right_80 rfl rfl ?_
      refine ss_120 (pc := 81) dX12_right_81 (A_120 hw) T59 (rIx (n := 30) h56 rfl) (rW (c := (-2147483648)) (d := 2147483647) h43 rfl) fun μ60 u61 T62 => ?_
      refine sv_aload_n (pc := 82) dX12_right_82 rfl rfl ?_
      refine gf_X12_21 (pc := 83) dX12_right_83 wF_X12_104 (A_106 hw) T62 ?_
      refine sv_aload_n (pc := 86) dX12_right_86 rfl rfl ?_
      refine gk_X12_18 (pc := 87) dX12_right_87 wF_X12_95 (A_106 hw) (u61.f (Or.inl (mAt.ne (A_120 hw) (A_106 hw) rfl)) (u58.f (Or.inl (mAt.ne (A_119 hw) (A_106 hw) rfl)) q53)) ?_
      refine mr_iload_n (pc := 90) (z := p3) dX12_right_90 rfl rfl ?_
      refine ss_121 (pc := 91) dX12_right_91 (A_121 hw) T62 (rIx (n := 30) h56 rfl) (rW (c := (-2147483648)) (d := 2147483647) h29 rfl) fun μ63 u64 T65 => ?_
      refine sv_aload_n (pc := 92) dX12_right_92 rfl rfl ?_
      refine gf_X12_22 (pc := 93) dX12_right_93 wF_X12_107 (A_106 hw) T65 ?_
      refine sv_aload_n (pc := 96) dX12_right_96 rfl rfl ?_
      refine gk_X12_18 (pc := 97) dX12_right_97 wF_X12_95 (A_106 hw) (u64.f (Or.inl (mAt.ne (A_121 hw) (A_106 hw) rfl)) (u61.f (Or.inl (mAt.ne (A_120 hw) (A_106 hw) rfl)) (u58.f (Or.inl (mAt.ne (A_119 hw) (A_106 hw) rfl)) q53))) ?_
      refine mr_iload (pc := 100) (z := p4) dX12_right_100 rfl ?_
      refine ss_122 (pc := 102) dX12_right_102 (A_122 hw) T65 (rIx (n := 30) h56 rfl) (rW (c := (-2147483648)) (d := 2147483647) h49 rfl) fun μ66 u67 T68 => ?_
      refine sv_aload_n (pc := 103) dX12_right_103 rfl rfl ?_
      refine gf_X12_23 (pc := 104) dX12_right_104 wF_X12_110 (A_106 hw) T68 ?_
      refine sv_aload_n (pc := 107) dX12_right_107 rfl rfl ?_
      refine gk_X12_18 (pc := 108) dX12_right_108 wF_X12_95 (A_106 hw) (u67.f (Or.inl (mAt.ne (A_122 hw) (A_106 hw) rfl)) (u64.f (Or.inl (mAt.ne (A_121 hw) (A_106 hw) rfl)) (u61.f (Or.inl (mAt.ne (A_120 hw) (A_106 hw) rfl)) (u58.f (Or.inl (mAt.ne (A_119 hw) (A_106 hw) rfl)) q53)))) ?_
      refine mr_iload (pc := 111) (z := p5) dX12_right_111 rfl ?_
      refine ss_123 (pc := 113) dX12_right_113 (A_123 hw) T68 (rIx (n := 30) h56 rfl) (rW (c := (-2147483648)) (d := 2147483647) h48 rfl) fun μ69 u70 T71 => ?_
      refine sv_aload_n (pc := 114) dX12_right_114 rfl rfl ?_
      refine gf_X12_24 (pc := 115) dX12_right_115 wF_X12_113 (A_106 hw) T71 ?_
      refine sv_aload_n (pc := 118) dX12_right_118 rfl rfl ?_
      refine gk_X12_18 (pc := 119) dX12_right_119 wF_X12_95 (A_106 hw) (u70.f (Or.inl (mAt.ne (A_123 hw) (A_106 hw) rfl)) (u67.f (Or.inl (mAt.ne (A_122 hw) (A_106 hw) rfl)) (u64.f (Or.inl (mAt.ne (A_121 hw) (A_106 hw) rfl)) (u61.f (Or.inl (mAt.ne (A_120 hw) (A_106 hw) rfl)) (u58.f (Or.inl (mAt.ne (A_119 hw) (A_106 hw) rfl)) q53))))) ?_
      refine mr_iload (pc := 122) (z := p6) dX12_right_122 rfl ?_
      refine ss_124 (pc := 124) dX12_right_124 (A_124 hw) T71 (rIx (n := 30) h56 rfl) (rW (c := (-2147483648)) (d := 2147483647) h51 rfl) fun μ72 u73 T74 => ?_
      refine sv_aload_n (pc := 125) dX12_right_125 rfl rfl ?_
      refine gf_X12_25 (pc := 126) dX12_right_126 wF_X12_116 (A_106 hw) T74 ?_
      refine sv_aload_n (pc := 129) dX12_right_129 rfl rfl ?_
      refine gk_X12_18 (pc := 130) dX12_right_130 wF_X12_95 (A_106 hw) (u73.f (Or.inl (mAt.ne (A_124 hw) (A_106 hw) rfl)) (u70.f (Or.inl (mAt.ne (A_123 hw) (A_106 hw) rfl)) (u67.f (Or.inl (mAt.ne (A_122 hw) (A_106 hw) rfl)) (u64.f (Or.inl (mAt.ne (A_121 hw) (A_106 hw) rfl)) (u61.f (Or.inl (mAt.ne (A_120 hw) (A_106 hw) rfl)) (u58.f (Or.inl (mAt.ne (A_119 hw) (A_106 hw) rfl)) q53)))))) ?_
      refine mr_ldc (pc := 133) (z := (-99999999)) dX12_right_133 wG_X12_29 (by decide) ?_
      refine ss_125 (pc := 135) dX12_right_135 (A_125 hw) T74 (rIx (n := 30) h56 rfl) (rW (c := (-2147483648)) (d := 2147483647) (rR (x := (-99999999))) rfl) fun μ75 u76 T77 => ?_
      refine sv_aload_n (pc := 136) dX12_right_136 rfl rfl ?_
      refine sv_dup (pc := 137) dX12_right_137 rfl ?_
      refine gk_X12_18 (pc := 138) dX12_right_138 wF_X12_95 (A_106 hw) (u76.f (Or.inl (mAt.ne (A_125 hw) (A_106 hw) rfl)) (u73.f (Or.inl (mAt.ne (A_124 hw) (A_106 hw) rfl)) (u70.f (Or.inl (mAt.ne (A_123 hw) (A_106 hw) rfl)) (u67.f (Or.inl (mAt.ne (A_122 hw) (A_106 hw) rfl)) (u64.f (Or.inl (mAt.ne (A_121 hw) (A_106 hw) rfl)) (u61.f (Or.inl (mAt.ne (A_120 hw) (A_106 hw) rfl)) (u58.f (Or.inl (mAt.ne (A_119 hw) (A_106 hw) rfl)) q53))))))) ?_
      refine mr_iconst (pc := 141) (z := 1) dX12_right_141 ?_
      refine mr_iadd (pc := 142) (x := z52) (y := 1) dX12_right_142 ?_
      refine pf_X12_18 (pc := 143) dX12_right_143 wF_X12_95 (A_106 hw) T77 (rW (c := 0) (d := 30) (rAdd (e := 1) (f := 30) h56 (rR (x := 1)) rfl) rfl) fun μ78 u79 T80 => ?_
      refine sv_aload_n (pc := 146) dX12_right_146 rfl rfl ?_
      refine mr_iconst (pc := 147) (z := 0) dX12_right_147 ?_
      refine pf_X12_26 (pc := 148) dX12_right_148 wF_X12_119 (A_106 hw) T80 (rW (c := 0) (d := 1) (rR (x := 0)) rfl) fun μ81 u82 T83 => ?_
      refine sv_aload_n (pc := 151) dX12_right_151 rfl rfl ?_
      refine mr_cVV (pc := 152) (c_X12_rethink hw T83 (G1.keep hIG1 hw ((mF.up (mF.up (mF.up (mF.up (mF.up (mF.up (mF.up (mF.up (mF.up mF.refl (A_119 hw) u58 rfl) (A_120 hw) u61 rfl) (A_121 hw) u64 rfl) (A_122 hw) u67 rfl) (A_123 hw) u70 rfl) (A_124 hw) u73 rfl) (A_125 hw) u76 rfl) (A_106 hw) u79 rfl) (A_106 hw) u82 rfl) : mF [106018, 106026, 119999, 120999, 121999, 122999, 123999, 124999, 125999] w μ μ81) rfl rfl ((mG.upO (mG.upO (mG.upO (mG.upO (mG.upO (mG.upO (mG.upO (mG.upO (mG.upO mG.refl u58 rfl) u61 rfl) u64 rfl) u67 rfl) u70 rfl) u73 rfl) u76 rfl) u79 rfl) u82 rfl) : mG [] μ μ81) (fun _ h => absurd h List.not_mem_nil)) (EV.keep hIEV hw ((mF.up (mF.up (mF.up (mF.up (mF.up (mF.up (mF.up (mF.up (mF.up mF.refl (A_119 hw) u58 rfl) (A_120 hw) u61 rfl) (A_121 hw) u64 rfl) (A_122 hw) u67 rfl) (A_123 hw) u70 rfl) (A_124 hw) u73 rfl) (A_125 hw) u76 rfl) (A_106 hw) u79 rfl) (A_106 hw) u82 rfl) : mF [106018, 106026, 119999, 120999, 121999, 122999, 123999, 124999, 125999] w μ μ81) rfl) (PK.keep hIPK hw ((mF.up (mF.up (mF.up (mF.up (mF.up (mF.up (mF.up (mF.up (mF.up mF.refl (A_119 hw) u58 rfl) (A_120 hw) u61 rfl) (A_121 hw) u64 rfl) (A_122 hw) u67 rfl) (A_123 hw) u70 rfl) (A_124 hw) u73 rfl) (A_125 hw) u76 rfl) (A_106 hw) u79 rfl) (A_106 hw) u82 rfl) : mF [106018, 106026, 119999, 120999, 121999, 122999, 123999, 124999, 125999] w μ μ81) rfl)) (gOk _ _ _ _ _) dX12_right_152 (tX12_rethink _ _ _ _ _) ⟨wV_X12_rethink, wL_X12_rethink⟩ wM_X12_88 (gCX12 _ _ _ _ _) rfl (A_106 hw) rfl ⟨le_t rfl, le_t rfl⟩ ⟨le_t rfl, le_t rfl⟩ rfl (le_t rfl) fun μ84 T85 F86 h87 => ?_
      refine sv_aload_n (pc := 155) dX12_right_155 rfl rfl ?_
      refine gk_X12_18 (pc := 156) dX12_right_156 wF_X12_95 (A_106 hw) (F86.f (A_106 hw) rfl (u82.f (Or.inr (by decide)) u79.1)) ?_
      refine mr_iconst (pc := 159) (z := 1) dX12_right_159 ?_
      refine mr_isub (pc := 160) (x := (z52 + 1)) (y := 1) dX12_right_160 ?_
      exact mr_iret dX12_right_161 rfl (le_t rfl) (le_t rfl) T85 (mF.call (mF.up (mF.up (mF.up (mF.up (mF.up (mF.up (mF.up (mF.up (mF.up mF.refl (A_119 hw) u58 rfl) (A_120 hw) u61 rfl) (A_121 hw) u64 rfl) (A_122 hw) u67 rfl) (A_123 hw) u70 rfl) (A_124 hw) u73 rfl) (A_125 hw) u76 rfl) (A_106 hw) u79 rfl) (A_106 hw) u82 rfl) F86 rfl) ⟨(rW (c := (-2147483648)) (d := 2147483647) (rSub (e := 0) (f := 29) (rAdd (e := 1) (f := 30) h56 (rR (x := 1)) rfl) (rR (x := 1)) rfl) rfl), h87.2.1, h87.2.2.1, trivial⟩
    have h88 : 30 ≤ z52 ∧ z52 ≤ 30 := (vc_X12_right_23 h55 h54)
    refine mr_bipush (pc := 59) (z := (-3)) dX12_right_59 (by decide) ?_
    exact mr_iret dX12_right_61 rfl (le_t rfl) (le_t rfl) hT mF.refl ⟨(rW (c := (-2147483648)) (d := 2147483647) (rR (x := (-3))) rfl), hIG1, hIEV, trivial⟩
  have h89 : (-2147483648) ≤ p6 ∧ p6 ≤ (-1) := (vc_X12_right_24 h50 hp6)
  refine mr_iconst (pc := 48) (z := (-1)) dX12_right_48 ?_
  exact mr_iret dX12_right_49 rfl (le_t rfl) (le_t rfl) hT mF.refl ⟨(rW (c := (-2147483648)) (d := 2147483647) (rR (x := (-1))) rfl), hIG1, hIEV, trivial⟩
theorem vc_X12_strike_1 {p1 z1 z8 : Int} (h0 : z8 = 0) (h1 : (z8 = 1 → (0 : Int) ≤ p1 ∧ p1 ≤ (z1 - 1))) (h2 : (z8 = 0 → p1 < (0 : Int) ∨ (z1 - 1) < p1)) (h3 : (-2147483648) ≤ p1 ∧ p1 ≤ 2147483647) (h4 : 0 ≤ z1 ∧ z1 ≤ 30) (h5 : 0 ≤ z8 ∧ z8 ≤ 1) : 0 ≤ z8 ∧ z8 ≤ 0 := by omega
theorem vc_X12_strike_2 {p1 z1 z8 : Int} (h0 : (z8 = 1 → (0 : Int) ≤ p1 ∧ p1 ≤ (z1 - 1))) (h1 : (z8 = 0 → p1 < (0 : Int) ∨ (z1 - 1) < p1)) (h2 : z8 = 0) (h3 : (-2147483648) ≤ p1 ∧ p1 ≤ 2147483647) (h4 : 0 ≤ z1 ∧ z1 ≤ 30) (h5 : 0 ≤ z8 ∧ z8 ≤ 0) : z8 = 0 := by omega
theorem vc_X12_strike_3 {p1 z1 z8 : Int} (h0 : ¬ z8 = 0) (h1 : (z8 = 1 → (0 : Int) ≤ p1 ∧ p1 ≤ (z1 - 1))) (h2 : (z8 = 0 → p1 < (0 : Int) ∨ (z1 - 1) < p1)) (h3 : (-2147483648) ≤ p1 ∧ p1 ≤ 2147483647) (h4 : 0 ≤ z1 ∧ z1 ≤ 30) (h5 : 0 ≤ z8 ∧ z8 ≤ 1) : 1 ≤ z8 ∧ z8 ≤ 1 := by omega
theorem vc_X12_strike_4 {p1 z1 z8 : Int} (h0 : (z8 = 1 → (0 : Int) ≤ p1 ∧ p1 ≤ (z1 - 1))) (h1 : (z8 = 0 → p1 < (0 : Int) ∨ (z1 - 1) < p1)) (h2 : ¬ z8 = 0) (h3 : (-2147483648) ≤ p1 ∧ p1 ≤ 2147483647) (h4 : 0 ≤ z1 ∧ z1 ≤ 30) (h5 : 1 ≤ z8 ∧ z8 ≤ 1) : z8 = 1 := by omega
theorem vc_X12_strike_5 {p1 z1 z8 : Int} (h0 : (0 : Int) ≤ p1 ∧ p1 ≤ (z1 - 1)) (h1 : (z8 = 1 → (0 : Int) ≤ p1 ∧ p1 ≤ (z1 - 1))) (h2 : (z8 = 0 → p1 < (0 : Int) ∨ (z1 - 1) < p1)) (h3 : (-2147483648) ≤ p1 ∧ p1 ≤ 2147483647) (h4 : 0 ≤ z1 ∧ z1 ≤ 30) (h5 : 1 ≤ z8 ∧ z8 ≤ 1) : 0 ≤ p1 ∧ p1 ≤ 2147483647 := by omega
theorem vc_X12_strike_6 {p1 z1 z8 : Int} (h0 : (z8 = 1 → (0 : Int) ≤ p1 ∧ p1 ≤ (z1 - 1))) (h1 : (z8 = 0 → p1 < (0 : Int) ∨ (z1 - 1) < p1)) (h2 : (0 : Int) ≤ p1 ∧ p1 ≤ (z1 - 1)) (h3 : ¬ z8 = 0) (h4 : 0 ≤ p1 ∧ p1 ≤ 2147483647) (h5 : 0 ≤ z1 ∧ z1 ≤ 30) (h6 : 1 ≤ z8 ∧ z8 ≤ 1) : 0 ≤ p1 ∧ p1 < 30 := by omega
theorem vc_X12_strike_7 {z19 : Int} (h0 : z19 = (-99999999)) (h1 : (-2147483648) ≤ z19 ∧ z19 ≤ 2147483647) : (-99999999) ≤ z19 ∧ z19 ≤ (-99999999) := by omega
theorem vc_X12_strike_8 {p2 z15 : Int} (h0 : p2 < z15) (h1 : (-2147483648) ≤ p2 ∧ p2 ≤ 2147483647) (h2 : (-2147483648) ≤ z15 ∧ z15 ≤ 2147483647) : (-2147483648) ≤ p2 ∧ p2 ≤ 2147483646 := by omega
theorem vc_X12_strike_9 {p2 z15 : Int} (h0 : p2 < z15) (h1 : (-2147483648) ≤ p2 ∧ p2 ≤ 2147483646) (h2 : (-2147483648) ≤ z15 ∧ z15 ≤ 2147483647) : (-2147483647) ≤ z15 ∧ z15 ≤ 2147483647 := by omega
set_option maxRecDepth 4000 in
set_option maxHeartbeats 4000000 in
theorem c_X12_strike {l : Launch} {D : va_G} {c : Nat → ClassId} {H0 : Heap} {sa : Nat × Nat × (Nat → Int32)} {w : mW} {μ : mM} (hw : mWF w) (hT : mT w μ) {p1 : Int} (hp1 : (-2147483648) ≤ p1 ∧ p1 ≤ 2147483647) {p2 : Int} (hp2 : (-2147483648) ≤ p2 ∧ p2 ≤ 2147483647) (hIG1 : G1 μ) (hIEV : EV μ) (hIPK : PK μ) : sC (gG l D c H0 sa) mX12_strike 13 0 0 [.ref 106, iv p1, iv p2] (mk w μ) (qI w [106026, 106027, 106028, 106029, 106030, 106031, 106072, 125999, 126999, 151999, 152999, 153999, 155999, 156999, 157999, 158999, 159999, 160999, 161999, 165999] μ (fun z μ1 => ((-2147483648) ≤ z ∧ z ≤ 2147483647) ∧ G1 μ1 ∧ EV μ1 ∧ True)) := by
  refine sC.of rfl (by decide) (le_t rfl) ?_
  refine mr_lvE (lv' := [(0, .ref 106), (1, iv p1), (2, iv p2)]) rfl ?_
  refine mr_iload_n (pc := 0) (z := p1) dX12_strike_0 rfl rfl ?_
  refine mr_iconst (pc := 1) (z := 0) dX12_strike_1 ?_
  refine sv_aload_n (pc := 2) dX12_strike_2 rfl rfl ?_
  refine gf_X12_18 (pc := 3) dX12_strike_3 wF_X12_95 (A_106 hw) hT fun z1 q2 h3 => ?_
  refine mr_iconst (pc := 6) (z := 1) dX12_strike_6 ?_
  refine mr_isub (pc := 7) (x := z1) (y := 1) dX12_strike_7 ?_
  refine mr_cSP (pc := 8) (c_X12_in hw hT hp1 (rW (c := (-2147483648)) (d := 2147483647) (rR (x := 0)) rfl) (rW (c := (-2147483648)) (d := 2147483647) (rSub (e := (-1)) (f := 29) h3 (rR (x := 1)) rfl) rfl)) (gOk _ _ _ _ _) dX12_strike_8 (tX12_in _ _ _ _ _) wS_X12_in wM_X12_18 ⟨le_t rfl, le_t rfl⟩ ⟨le_t rfl, le_t rfl⟩ rfl (le_t rfl) fun z8 h7 => ?_
  refine mr_if_eq (pc := 11) (tgt := 24) dX12_strike_11 (by decide) (r32 h7.1 rfl) (fun h9 => ?_) (fun h9 => ?_)
  · have h10 : 0 ≤ z8 ∧ z8 ≤ 0 := (vc_X12_strike_1 h9 h7.2.1 h7.2.2.1 hp1 h3 h7.1)
    have h11 : p1 < (0 : Int) ∨ (z1 - 1) < p1 := (h7.2.2.1 (vc_X12_strike_2 h7.2.1 h7.2.2.1 h9 hp1 h3 h10))
    refine mr_iconst (pc := 24) (z := (-1)) dX12_strike_24 ?_
    exact mr_iret dX12_strike_25 rfl (le_t rfl) (le_t rfl) hT mF.refl ⟨(rW (c := (-2147483648)) (d := 2147483647) (rR (x := (-1))) rfl), hIG1, hIEV, trivial⟩
  have h12 : 1 ≤ z8 ∧ z8 ≤ 1 := (vc_X12_strike_3 h9 h7.2.1 h7.2.2.1 hp1 h3 h7.1)
  have h13 : (0 : Int) ≤ p1 ∧ p1 ≤ (z1 - 1) := (h7.2.1 (vc_X12_strike_4 h7.2.1 h7.2.2.1 h9 hp1 h3 h12))
  have h14 : 0 ≤ p1 ∧ p1 ≤ 2147483647 := (vc_X12_strike_5 h13 h7.2.1 h7.2.2.1 hp1 h3 h12)
  refine mr_iload_n (pc := 14) (z := p2) dX12_strike_14 rfl rfl ?_
  refine sv_aload_n (pc := 15) dX12_strike_15 rfl rfl ?_
  refine gf_X12_24 (pc := 16) dX12_strike_16 wF_X12_113 (A_106 hw) hT ?_
  refine mr_iload_n (pc := 19) (z := p1) dX12_strike_19 rfl rfl ?_
  refine la_124 (pc := 20) dX12_strike_20 (A_124 hw) hT (vc_X12_strike_6 h7.2.1 h7.2.2.1 h13 h9 h14 h3 h12) fun z15 q16 h17 => ?_
  refine mr_icmp_ge (pc := 21) (tgt := 26) dX12_strike_21 (by decide) hp2 h17 (fun h18 => ?_) (fun h18 => ?_)
  · refine sv_aload_n (pc := 26) dX12_strike_26 rfl rfl ?_
    refine gf_X12_25 (pc := 27) dX12_strike_27 wF_X12_116 (A_106 hw) hT ?_
    refine mr_iload_n (pc := 30) (z := p1) dX12_strike_30 rfl rfl ?_
    refine la_125 (pc := 31) dX12_strike_31 (A_125 hw) hT (vc_X12_strike_6 h7.2.1 h7.2.2.1 h13 h9 h14 h3 h12) fun z19 q20 h21 => ?_
    refine mr_ldc (pc := 32) (z := (-99999999)) dX12_strike_32 wG_X12_29 (by decide) ?_
    refine mr_icmp_eq (pc := 34) (tgt := 40) dX12_strike_34 (by decide) h21 (r32 (rR (x := (-99999999))) rfl) (fun h22 => ?_) (fun h22 => ?_)
    · have h23 : (-99999999) ≤ z19 ∧ z19 ≤ (-99999999) := (vc_X12_strike_7 h22 h21)
      refine sv_aload_n (pc := 40) dX12_strike_40 rfl rfl ?_
      refine gf_X12_25 (pc := 41) dX12_strike_41 wF_X12_116 (A_106 hw) hT ?_
      refine mr_iload_n (pc := 44) (z := p1) dX12_strike_44 rfl rfl ?_
      refine mr_iload_n (pc := 45) (z := p2) dX12_strike_45 rfl rfl ?_
      refine ss_125 (pc := 46) dX12_strike_46 (A_125 hw) hT (vc_X12_strike_6 h7.2.1 h7.2.2.1 h13 h9 h14 h3 h12) hp2 fun μ24 u25 T26 => ?_
      refine sv_aload_n (pc := 47) dX12_strike_47 rfl rfl ?_
      refine mr_iconst (pc := 48) (z := 0) dX12_strike_48 ?_
      refine pf_X12_26 (pc := 49) dX12_strike_49 wF_X12_119 (A_106 hw) T26 (rW (c := 0) (d := 1) (rR (x := 0)) rfl) fun μ27 u28 T29 => ?_
      refine sv_aload_n (pc := 52) dX12_strike_52 rfl rfl ?_
      refine mr_cVV (pc := 53) (c_X12_rethink hw T29 (G1.keep hIG1 hw ((mF.up (mF.up mF.refl (A_125 hw) u25 rfl) (A_106 hw) u28 rfl) : mF [106026, 125999] w μ μ27) rfl rfl ((mG.upO (mG.upO mG.refl u25 rfl) u28 rfl) : mG [] μ μ27) (fun _ h => absurd h List.not_mem_nil)) (EV.keep hIEV hw ((mF.up (mF.up mF.refl (A_125 hw) u25 rfl) (A_106 hw) u28 rfl) : mF [106026, 125999] w μ μ27) rfl) (PK.keep hIPK hw ((mF.up (mF.up mF.refl (A_125 hw) u25 rfl) (A_106 hw) u28 rfl) : mF [106026, 125999] w μ μ27) rfl)) (gOk _ _ _ _ _) dX12_strike_53 (tX12_rethink _ _ _ _ _) ⟨wV_X12_rethink, wL_X12_rethink⟩ wM_X12_88 (gCX12 _ _ _ _ _) rfl (A_106 hw) rfl ⟨le_t rfl, le_t rfl⟩ ⟨le_t rfl, le_t rfl⟩ rfl (le_t rfl) fun μ30 T31 F32 h33 => ?_
      refine mr_iconst (pc := 56) (z := 0) dX12_strike_56 ?_
      exact mr_iret dX12_strike_57 rfl (le_t rfl) (le_t rfl) T31 (mF.call (mF.up (mF.up mF.refl (A_125 hw) u25 rfl) (A_106 hw) u28 rfl) F32 rfl) ⟨(rW (c := (-2147483648)) (d := 2147483647) (rR (x := 0)) rfl), h33.2.1, h33.2.2.1, trivial⟩
    refine mr_bipush (pc := 37) (z := (-2)) dX12_strike_37 (by decide) ?_
    exact mr_iret dX12_strike_39 rfl (le_t rfl) (le_t rfl) hT mF.refl ⟨(rW (c := (-2147483648)) (d := 2147483647) (rR (x := (-2))) rfl), hIG1, hIEV, trivial⟩
  have h34 : (-2147483648) ≤ p2 ∧ p2 ≤ 2147483646 := (vc_X12_strike_8 h18 hp2 h17)
  have h35 : (-2147483647) ≤ z15 ∧ z15 ≤ 2147483647 := (vc_X12_strike_9 h18 h34 h17)
  refine mr_iconst (pc := 24) (z := (-1)) dX12_strike_24 ?_
  exact mr_iret dX12_strike_25 rfl (le_t rfl) (le_t rfl) hT mF.refl ⟨(rW (c := (-2147483648)) (d := 2147483647) (rR (x := (-1))) rfl), hIG1, hIEV, trivial⟩
theorem vc_X12_announce_1 {p1 z1 z8 : Int} (h0 : z8 = 0) (h1 : (z8 = 1 → 0 ≤ p1 ∧ p1 < z1)) (h2 : (z8 = 0 → p1 < 0 ∨ z1 ≤ p1)) (h3 : (-2147483648) ≤ p1 ∧ p1 ≤ 2147483647) (h4 : 0 ≤ z1 ∧ z1 ≤ 10) (h5 : 0 ≤ z8 ∧ z8 ≤ 1) : 0 ≤ z8 ∧ z8 ≤ 0 := by omega
theorem vc_X12_announce_2 {p1 z1 z8 : Int} (h0 : (z8 = 1 → 0 ≤ p1 ∧ p1 < z1)) (h1 : (z8 = 0 → p1 < 0 ∨ z1 ≤ p1)) (h2 : z8 = 0) (h3 : (-2147483648) ≤ p1 ∧ p1 ≤ 2147483647) (h4 : 0 ≤ z1 ∧ z1 ≤ 10) (h5 : 0 ≤ z8 ∧ z8 ≤ 0) : z8 = 0 := by omega
theorem vc_X12_announce_3 {p1 z1 z8 : Int} (h0 : ¬ z8 = 0) (h1 : (z8 = 1 → 0 ≤ p1 ∧ p1 < z1)) (h2 : (z8 = 0 → p1 < 0 ∨ z1 ≤ p1)) (h3 : (-2147483648) ≤ p1 ∧ p1 ≤ 2147483647) (h4 : 0 ≤ z1 ∧ z1 ≤ 10) (h5 : 0 ≤ z8 ∧ z8 ≤ 1) : 1 ≤ z8 ∧ z8 ≤ 1 := by omega
theorem vc_X12_announce_4 {p1 z1 z8 : Int} (h0 : (z8 = 1 → 0 ≤ p1 ∧ p1 < z1)) (h1 : (z8 = 0 → p1 < 0 ∨ z1 ≤ p1)) (h2 : ¬ z8 = 0) (h3 : (-2147483648) ≤ p1 ∧ p1 ≤ 2147483647) (h4 : 0 ≤ z1 ∧ z1 ≤ 10) (h5 : 1 ≤ z8 ∧ z8 ≤ 1) : z8 = 1 := by omega
theorem vc_X12_announce_5 {p1 z1 z8 : Int} (h0 : 0 ≤ p1 ∧ p1 < z1) (h1 : (z8 = 1 → 0 ≤ p1 ∧ p1 < z1)) (h2 : (z8 = 0 → p1 < 0 ∨ z1 ≤ p1)) (h3 : (-2147483648) ≤ p1 ∧ p1 ≤ 2147483647) (h4 : 0 ≤ z1 ∧ z1 ≤ 10) (h5 : 1 ≤ z8 ∧ z8 ≤ 1) : 0 ≤ p1 ∧ p1 ≤ 9 := by omega
theorem vc_X12_announce_6 {p1 z1 z8 : Int} (h0 : 0 ≤ p1 ∧ p1 < z1) (h1 : (z8 = 1 → 0 ≤ p1 ∧ p1 < z1)) (h2 : (z8 = 0 → p1 < 0 ∨ z1 ≤ p1)) (h3 : 0 ≤ p1 ∧ p1 ≤ 9) (h4 : 0 ≤ z1 ∧ z1 ≤ 10) (h5 : 1 ≤ z8 ∧ z8 ≤ 1) : 1 ≤ z1 ∧ z1 ≤ 10 := by omega
theorem vc_X12_announce_7 {p2 z16 z23 : Int} (h0 : z23 = 0) (h1 : (z23 = 1 → 0 ≤ p2 ∧ p2 < z16)) (h2 : (z23 = 0 → p2 < 0 ∨ z16 ≤ p2)) (h3 : (-2147483648) ≤ p2 ∧ p2 ≤ 2147483647) (h4 : 0 ≤ z16 ∧ z16 ≤ 10) (h5 : 0 ≤ z23 ∧ z23 ≤ 1) : 0 ≤ z23 ∧ z23 ≤ 0 := by omega
theorem vc_X12_announce_8 {p2 z16 z23 : Int} (h0 : (z23 = 1 → 0 ≤ p2 ∧ p2 < z16)) (h1 : (z23 = 0 → p2 < 0 ∨ z16 ≤ p2)) (h2 : z23 = 0) (h3 : (-2147483648) ≤ p2 ∧ p2 ≤ 2147483647) (h4 : 0 ≤ z16 ∧ z16 ≤ 10) (h5 : 0 ≤ z23 ∧ z23 ≤ 0) : z23 = 0 := by omega
theorem vc_X12_announce_9 {p2 z16 z23 : Int} (h0 : ¬ z23 = 0) (h1 : (z23 = 1 → 0 ≤ p2 ∧ p2 < z16)) (h2 : (z23 = 0 → p2 < 0 ∨ z16 ≤ p2)) (h3 : (-2147483648) ≤ p2 ∧ p2 ≤ 2147483647) (h4 : 0 ≤ z16 ∧ z16 ≤ 10) (h5 : 0 ≤ z23 ∧ z23 ≤ 1) : 1 ≤ z23 ∧ z23 ≤ 1 := by omega
theorem vc_X12_announce_10 {p2 z16 z23 : Int} (h0 : (z23 = 1 → 0 ≤ p2 ∧ p2 < z16)) (h1 : (z23 = 0 → p2 < 0 ∨ z16 ≤ p2)) (h2 : ¬ z23 = 0) (h3 : (-2147483648) ≤ p2 ∧ p2 ≤ 2147483647) (h4 : 0 ≤ z16 ∧ z16 ≤ 10) (h5 : 1 ≤ z23 ∧ z23 ≤ 1) : z23 = 1 := by omega
theorem vc_X12_announce_11 {p2 z16 z23 : Int} (h0 : 0 ≤ p2 ∧ p2 < z16) (h1 : (z23 = 1 → 0 ≤ p2 ∧ p2 < z16)) (h2 : (z23 = 0 → p2 < 0 ∨ z16 ≤ p2)) (h3 : (-2147483648) ≤ p2 ∧ p2 ≤ 2147483647) (h4 : 0 ≤ z16 ∧ z16 ≤ 10) (h5 : 1 ≤ z23 ∧ z23 ≤ 1) : 0 ≤ p2 ∧ p2 ≤ 9 := by omega
theorem vc_X12_announce_12 {p3 z34 : Int} (h0 : ¬ z34 = 0) (h1 : (z34 = 1 → (0 : Int) ≤ p3 ∧ p3 ≤ (2 : Int))) (h2 : (z34 = 0 → p3 < (0 : Int) ∨ (2 : Int) < p3)) (h3 : (-2147483648) ≤ p3 ∧ p3 ≤ 2147483647) (h4 : 0 ≤ z34 ∧ z34 ≤ 1) : 1 ≤ z34 ∧ z34 ≤ 1 := by omega
theorem vc_X12_announce_13 {p3 z34 : Int} (h0 : (z34 = 1 → (0 : Int) ≤ p3 ∧ p3 ≤ (2 : Int))) (h1 : (z34 = 0 → p3 < (0 : Int) ∨ (2 : Int) < p3)) (h2 : ¬ z34 = 0) (h3 : (-2147483648) ≤ p3 ∧ p3 ≤ 2147483647) (h4 : 1 ≤ z34 ∧ z34 ≤ 1) : z34 = 1 := by omega
theorem vc_X12_announce_14 {p3 z34 : Int} (h0 : (0 : Int) ≤ p3 ∧ p3 ≤ (2 : Int)) (h1 : (z34 = 1 → (0 : Int) ≤ p3 ∧ p3 ≤ (2 : Int))) (h2 : (z34 = 0 → p3 < (0 : Int) ∨ (2 : Int) < p3)) (h3 : (-2147483648) ≤ p3 ∧ p3 ≤ 2147483647) (h4 : 1 ≤ z34 ∧ z34 ≤ 1) : 0 ≤ p3 ∧ p3 ≤ 2 := by omega
theorem vc_X12_announce_15 {p3 z34 z39 : Int} (h0 : z39 = p3) (h1 : (z34 = 1 → (0 : Int) ≤ p3 ∧ p3 ≤ (2 : Int))) (h2 : (z34 = 0 → p3 < (0 : Int) ∨ (2 : Int) < p3)) (h3 : (0 : Int) ≤ p3 ∧ p3 ≤ (2 : Int)) (h4 : 0 ≤ p3 ∧ p3 ≤ 2) (h5 : 1 ≤ z34 ∧ z34 ≤ 1) (h6 : (-1) ≤ z39 ∧ z39 ≤ 2) : 0 ≤ z39 ∧ z39 ≤ 2 := by omega
theorem vc_X12_announce_16 {p3 z34 : Int} (h0 : z34 = 0) (h1 : (z34 = 1 → (0 : Int) ≤ p3 ∧ p3 ≤ (2 : Int))) (h2 : (z34 = 0 → p3 < (0 : Int) ∨ (2 : Int) < p3)) (h3 : (-2147483648) ≤ p3 ∧ p3 ≤ 2147483647) (h4 : 0 ≤ z34 ∧ z34 ≤ 1) : 0 ≤ z34 ∧ z34 ≤ 0 := by omega
theorem vc_X12_announce_17 {p3 z34 : Int} (h0 : (z34 = 1 → (0 : Int) ≤ p3 ∧ p3 ≤ (2 : Int))) (h1 : (z34 = 0 → p3 < (0 : Int) ∨ (2 : Int) < p3)) (h2 : z34 = 0) (h3 : (-2147483648) ≤ p3 ∧ p3 ≤ 2147483647) (h4 : 0 ≤ z34 ∧ z34 ≤ 0) : z34 = 0 := by omega
set_option maxRecDepth 4000 in
set_option maxHeartbeats 4000000 in
theorem c_X12_announce {l : Launch} {D : va_G} {c : Nat → ClassId} {H0 : Heap} {sa : Nat × Nat × (Nat → Int32)} {w : mW} {μ : mM} (hw : mWF w) (hT : mT w μ) {p1 : Int} (hp1 : (-2147483648) ≤ p1 ∧ p1 ≤ 2147483647) {p2 : Int} (hp2 : (-2147483648) ≤ p2 ∧ p2 ≤ 2147483647) {p3 : Int} (hp3 : (-2147483648) ≤ p3 ∧ p3 ≤ 2147483647) (hIG1 : G1 μ) (hIEV : EV μ) (hIPK : PK μ) : sC (gG l D c H0 sa) mX12_announce 11 0 0 [.ref 106, iv p1, iv p2, iv p3] (mk w μ) (qI w [106026, 106027, 106028, 106029, 106030, 106031, 106072, 126999, 151999, 152999, 153999, 155999, 156999, 157999, 158999, 159999, 160999, 161999, 162999, 165999] μ (fun z μ1 => ((-2147483648) ≤ z ∧ z ≤ 2147483647) ∧ G1 μ1 ∧ EV μ1 ∧ True)) := by
  refine sC.of rfl (by decide) (le_t rfl) ?_
  refine mr_lvE (lv' := [(0, .ref 106), (1, iv p1), (2, iv p2), (3, iv p3)]) rfl ?_
  refine sv_aload_n (pc := 0) dX12_announce_0 rfl rfl ?_
  refine mr_iload_n (pc := 1) (z := p1) dX12_announce_1 rfl rfl ?_
  obtain ⟨z1, q2⟩ : ∃ z, μ 106 5 = z := ⟨_, rfl⟩
  have h3 : (0 ≤ z1 ∧ z1 ≤ 10) := by rw [← q2]; exact hT 106 106 (A_106 hw) 5
  refine mr_cVP (pc := 2) (c_X12_isDomain hw hT hp1 q2) (gOk _ _ _ _ _) dX12_announce_2 (tX12_isDomain _ _ _ _ _) ⟨wV_X12_isDomain, wL_X12_isDomain⟩ wM_X12_49 (gCX12 _ _ _ _ _) rfl (A_106 hw) rfl ⟨le_t rfl, le_t rfl⟩ ⟨le_t rfl, le_t rfl⟩ rfl (le_t rfl) fun z8 h7 => ?_
  refine mr_if_eq (pc := 5) (tgt := 25) dX12_announce_5 (by decide) (r32 h7.1 rfl) (fun h9 => ?_) (fun h9 => ?_)
  · have h10 : 0 ≤ z8 ∧ z8 ≤ 0 := (vc_X12_announce_1 h9 h7.2.1 h7.2.2.1 hp1 h3 h7.1)
    have h11 : p1 < 0 ∨ z1 ≤ p1 := (h7.2.2.1 (vc_X12_announce_2 h7.2.1 h7.2.2.1 h9 hp1 h3 h10))
    refine mr_iconst (pc := 25) (z := (-1)) dX12_announce_25 ?_
    exact mr_iret dX12_announce_26 rfl (le_t rfl) (le_t rfl) hT mF.refl ⟨(rW (c := (-2147483648)) (d := 2147483647) (rR (x := (-1))) rfl), hIG1, hIEV, trivial⟩
  have h12 : 1 ≤ z8 ∧ z8 ≤ 1 := (vc_X12_announce_3 h9 h7.2.1 h7.2.2.1 hp1 h3 h7.1)
  have h13 : 0 ≤ p1 ∧ p1 < z1 := (h7.2.1 (vc_X12_announce_4 h7.2.1 h7.2.2.1 h9 hp1 h3 h12))
  have h14 : 0 ≤ p1 ∧ p1 ≤ 9 := (vc_X12_announce_5 h13 h7.2.1 h7.2.2.1 hp1 h3 h12)
  have h15 : 1 ≤ z1 ∧ z1 ≤ 10 := (vc_X12_announce_6 h13 h7.2.1 h7.2.2.1 h14 h3 h12)
  refine sv_aload_n (pc := 8) dX12_announce_8 rfl rfl ?_
  refine mr_iload_n (pc := 9) (z := p2) dX12_announce_9 rfl rfl ?_
  obtain ⟨z16, q17⟩ : ∃ z, μ 106 2 = z := ⟨_, rfl⟩
  have h18 : (0 ≤ z16 ∧ z16 ≤ 10) := by rw [← q17]; exact hT 106 106 (A_106 hw) 2
  refine mr_cVP (pc := 10) (c_X12_isPrefix hw hT hp2 q17) (gOk _ _ _ _ _) dX12_announce_10 (tX12_isPrefix _ _ _ _ _) ⟨wV_X12_isPrefix, wL_X12_isPrefix⟩ wM_X12_92 (gCX12 _ _ _ _ _) rfl (A_106 hw) rfl ⟨le_t rfl, le_t rfl⟩ ⟨le_t rfl, le_t rfl⟩ rfl (le_t rfl) fun z23 h22 => ?_
  refine mr_if_eq (pc := 13) (tgt := 25) dX12_announce_13 (by decide) (r32 h22.1 rfl) (fun h24 => ?_) (fun h24 => ?_)
  · have h25 : 0 ≤ z23 ∧ z23 ≤ 0 := (vc_X12_announce_7 h24 h22.2.1 h22.2.2.1 hp2 h18 h22.1)
    have h26 : p2 < 0 ∨ z16 ≤ p2 := (h22.2.2.1 (vc_X12_announce_8 h22.2.1 h22.2.2.1 h24 hp2 h18 h25))
    refine mr_iconst (pc := 25) (z := (-1)) dX12_announce_25 ?_
    exact mr_iret dX12_announce_26 rfl (le_t rfl) (le_t rfl) hT mF.refl ⟨(rW (c := (-2147483648)) (d := 2147483647) (rR (x := (-1))) rfl), hIG1, hIEV, trivial⟩
  have h27 : 1 ≤ z23 ∧ z23 ≤ 1 := (vc_X12_announce_9 h24 h22.2.1 h22.2.2.1 hp2 h18 h22.1)
  have h28 : 0 ≤ p2 ∧ p2 < z16 := (h22.2.1 (vc_X12_announce_10 h22.2.1 h22.2.2.1 h24 hp2 h18 h27))
  have h29 : 0 ≤ p2 ∧ p2 ≤ 9 := (vc_X12_announce_11 h28 h22.2.1 h22.2.2.1 hp2 h18 h27)
  refine mr_iload_n (pc := 16) (z := p3) dX12_announce_16 rfl rfl ?_
  refine mr_iconst (pc := 17) (z := 0) dX12_announce_17 ?_
  refine mr_iconst (pc := 18) (z := 2) dX12_announce_18 ?_
  refine mr_cSP (pc := 19) (c_X12_in hw hT hp3 (rW (c := (-2147483648)) (d := 2147483647) (rR (x := 0)) rfl) (rW (c := (-2147483648)) (d := 2147483647) (rR (x := 2)) rfl)) (gOk _ _ _ _ _) dX12_announce_19 (tX12_in _ _ _ _ _) wS_X12_in wM_X12_18 ⟨le_t rfl, le_t rfl⟩ ⟨le_t rfl, le_t rfl⟩ rfl (le_t rfl) fun z34 h33 => ?_
  refine mr_if_ne (pc := 22) (tgt := 27) dX12_announce_22 (by decide) (r32 h33.1 rfl) (fun h35 => ?_) (fun h35 => ?_)
  · have h36 : 1 ≤ z34 ∧ z34 ≤ 1 := (vc_X12_announce_12 h35 h33.2.1 h33.2.2.1 hp3 h33.1)
    have h37 : (0 : Int) ≤ p3 ∧ p3 ≤ (2 : Int) := (h33.2.1 (vc_X12_announce_13 h33.2.1 h33.2.2.1 h35 hp3 h36))
    have h38 : 0 ≤ p3 ∧ p3 ≤ 2 := (vc_X12_announce_14 h37 h33.2.1 h33.2.2.1 hp3 h36)
    refine mr_bipush (pc := 27) (z := 10) dX12_announce_27 (by decide) ?_
    refine mr_iload_n (pc := 29) (z := p1) dX12_announce_29 rfl rfl ?_
    refine mr_imul (pc := 30) (x := 10) (y := p1) dX12_announce_30 ?_
    refine mr_iload_n (pc := 31) (z := p2) dX12_announce_31 rfl rfl ?_
    refine mr_iadd (pc := 32) (x := (10 * p1)) (y := p2) dX12_announce_32 ?_
    refine mr_istore (pc := 33) (lv' := [(4, iv ((10 * p1) + p2)), (0, .ref 106), (1, iv p1), (2, iv p2), (3, iv p3)]) dX12_announce_33 (by decide) rfl ?_
    refine sv_aload_n (pc := 35) dX12_announce_35 rfl rfl ?_
    refine gf_X12_82 (pc := 36) dX12_announce_36 wF_X12_448 (A_106 hw) hT ?_
    refine mr_iload (pc := 39) (z := ((10 * p1) + p2)) dX12_announce_39 rfl ?_
    refine la_162 (pc := 41) dX12_announce_41 (A_162 hw) hT (rIx (n := 100) (rAdd (e := 0) (f := 99) (rMulL (n := 10) (e := 0) (f := 90) h14 rfl) h29 rfl) rfl) fun z39 q40 h41 => ?_
    refine mr_iload_n (pc := 42) (z := p3) dX12_announce_42 rfl rfl ?_
    refine mr_icmp_ne (pc := 43) (tgt := 49) dX12_announce_43 (by decide) (r32 h41 rfl) (r32 h38 rfl) (fun h42 => ?_) (fun h42 => ?_)
    · refine sv_aload_n (pc := 49) dX12_announce_49 rfl rfl ?_
      refine gf_X12_82 (pc := 50) dX12_announce_50 wF_X12_448 (A_106 hw) hT ?_
      refine mr_iload (pc := 53) (z := ((10 * p1) + p2)) dX12_announce_53 rfl ?_
      refine mr_iload_n (pc := 55) (z := p3) dX12_announce_55 rfl rfl ?_
      refine ss_162 (pc := 56) dX12_announce_56 (A_162 hw) hT (rIx (n := 100) (rAdd (e := 0) (f := 99) (rMulL (n := 10) (e := 0) (f := 90) h14 rfl) h29 rfl) rfl) (rW (c := (-1)) (d := 2) h38 rfl) fun μ43 u44 T45 => ?_
      refine sv_aload_n (pc := 57) dX12_announce_57 rfl rfl ?_
      refine mr_iload_n (pc := 58) (z := p1) dX12_announce_58 rfl rfl ?_
      refine mr_iload_n (pc := 59) (z := p2) dX12_announce_59 rfl rfl ?_
      refine mr_cVV (pc := 60) (c_X12_look hw T45 h14 h29 (G1.keep hIG1 hw ((mF.up mF.refl (A_162 hw) u44 rfl) : mF [162999] w μ μ43) rfl rfl ((mG.upO mG.refl u44 rfl) : mG [] μ μ43) (fun _ h => absurd h List.not_mem_nil)) (EV.keep hIEV hw ((mF.up mF.refl (A_162 hw) u44 rfl) : mF [162999] w μ μ43) rfl) (PK.keep hIPK hw ((mF.up mF.refl (A_162 hw) u44 rfl) : mF [162999] w μ μ43) rfl)) (gOk _ _ _ _ _) dX12_announce_60 (tX12_look _ _ _ _ _) ⟨wV_X12_look, wL_X12_look⟩ wM_X12_597 (gCX12 _ _ _ _ _) rfl (A_106 hw) rfl ⟨le_t rfl, le_t rfl⟩ ⟨le_t rfl, le_t rfl⟩ rfl (le_t rfl) fun μ46 T47 F48 h49 => ?_
      refine mr_iconst (pc := 63) (z := 0) dX12_announce_63 ?_
      exact mr_iret dX12_announce_64 rfl (le_t rfl) (le_t rfl) T47 (mF.call (mF.up mF.refl (A_162 hw) u44 rfl) F48 rfl) ⟨(rW (c := (-2147483648)) (d := 2147483647) (rR (x := 0)) rfl), h49.2.1, h49.2.2.1, trivial⟩
    have h50 : 0 ≤ z39 ∧ z39 ≤ 2 := (vc_X12_announce_15 h42 h33.2.1 h33.2.2.1 h37 h38 h36 h41)
    refine mr_bipush (pc := 46) (z := (-2)) dX12_announce_46 (by decide) ?_
    exact mr_iret dX12_announce_48 rfl (le_t rfl) (le_t rfl) hT mF.refl ⟨(rW (c := (-2147483648)) (d := 2147483647) (rR (x := (-2))) rfl), hIG1, hIEV, trivial⟩
  have h51 : 0 ≤ z34 ∧ z34 ≤ 0 := (vc_X12_announce_16 h35 h33.2.1 h33.2.2.1 hp3 h33.1)
  have h52 : p3 < (0 : Int) ∨ (2 : Int) < p3 := (h33.2.2.1 (vc_X12_announce_17 h33.2.1 h33.2.2.1 h35 hp3 h51))
  refine mr_iconst (pc := 25) (z := (-1)) dX12_announce_25 ?_
  exact mr_iret dX12_announce_26 rfl (le_t rfl) (le_t rfl) hT mF.refl ⟨(rW (c := (-2147483648)) (d := 2147483647) (rR (x := (-1))) rfl), hIG1, hIEV, trivial⟩
theorem vc_X12_withdraw_1 {p1 z1 z8 : Int} (h0 : z8 = 0) (h1 : (z8 = 1 → 0 ≤ p1 ∧ p1 < z1)) (h2 : (z8 = 0 → p1 < 0 ∨ z1 ≤ p1)) (h3 : (-2147483648) ≤ p1 ∧ p1 ≤ 2147483647) (h4 : 0 ≤ z1 ∧ z1 ≤ 10) (h5 : 0 ≤ z8 ∧ z8 ≤ 1) : 0 ≤ z8 ∧ z8 ≤ 0 := by omega
theorem vc_X12_withdraw_2 {p1 z1 z8 : Int} (h0 : (z8 = 1 → 0 ≤ p1 ∧ p1 < z1)) (h1 : (z8 = 0 → p1 < 0 ∨ z1 ≤ p1)) (h2 : z8 = 0) (h3 : (-2147483648) ≤ p1 ∧ p1 ≤ 2147483647) (h4 : 0 ≤ z1 ∧ z1 ≤ 10) (h5 : 0 ≤ z8 ∧ z8 ≤ 0) : z8 = 0 := by omega
theorem vc_X12_withdraw_3 {p1 z1 z8 : Int} (h0 : ¬ z8 = 0) (h1 : (z8 = 1 → 0 ≤ p1 ∧ p1 < z1)) (h2 : (z8 = 0 → p1 < 0 ∨ z1 ≤ p1)) (h3 : (-2147483648) ≤ p1 ∧ p1 ≤ 2147483647) (h4 : 0 ≤ z1 ∧ z1 ≤ 10) (h5 : 0 ≤ z8 ∧ z8 ≤ 1) : 1 ≤ z8 ∧ z8 ≤ 1 := by omega
theorem vc_X12_withdraw_4 {p1 z1 z8 : Int} (h0 : (z8 = 1 → 0 ≤ p1 ∧ p1 < z1)) (h1 : (z8 = 0 → p1 < 0 ∨ z1 ≤ p1)) (h2 : ¬ z8 = 0) (h3 : (-2147483648) ≤ p1 ∧ p1 ≤ 2147483647) (h4 : 0 ≤ z1 ∧ z1 ≤ 10) (h5 : 1 ≤ z8 ∧ z8 ≤ 1) : z8 = 1 := by omega
theorem vc_X12_withdraw_5 {p1 z1 z8 : Int} (h0 : 0 ≤ p1 ∧ p1 < z1) (h1 : (z8 = 1 → 0 ≤ p1 ∧ p1 < z1)) (h2 : (z8 = 0 → p1 < 0 ∨ z1 ≤ p1)) (h3 : (-2147483648) ≤ p1 ∧ p1 ≤ 2147483647) (h4 : 0 ≤ z1 ∧ z1 ≤ 10) (h5 : 1 ≤ z8 ∧ z8 ≤ 1) : 0 ≤ p1 ∧ p1 ≤ 9 := by omega
theorem vc_X12_withdraw_6 {p1 z1 z8 : Int} (h0 : 0 ≤ p1 ∧ p1 < z1) (h1 : (z8 = 1 → 0 ≤ p1 ∧ p1 < z1)) (h2 : (z8 = 0 → p1 < 0 ∨ z1 ≤ p1)) (h3 : 0 ≤ p1 ∧ p1 ≤ 9) (h4 : 0 ≤ z1 ∧ z1 ≤ 10) (h5 : 1 ≤ z8 ∧ z8 ≤ 1) : 1 ≤ z1 ∧ z1 ≤ 10 := by omega
theorem vc_X12_withdraw_7 {p2 z16 z23 : Int} (h0 : ¬ z23 = 0) (h1 : (z23 = 1 → 0 ≤ p2 ∧ p2 < z16)) (h2 : (z23 = 0 → p2 < 0 ∨ z16 ≤ p2)) (h3 : (-2147483648) ≤ p2 ∧ p2 ≤ 2147483647) (h4 : 0 ≤ z16 ∧ z16 ≤ 10) (h5 : 0 ≤ z23 ∧ z23 ≤ 1) : 1 ≤ z23 ∧ z23 ≤ 1 := by omega
theorem vc_X12_withdraw_8 {p2 z16 z23 : Int} (h0 : (z23 = 1 → 0 ≤ p2 ∧ p2 < z16)) (h1 : (z23 = 0 → p2 < 0 ∨ z16 ≤ p2)) (h2 : ¬ z23 = 0) (h3 : (-2147483648) ≤ p2 ∧ p2 ≤ 2147483647) (h4 : 0 ≤ z16 ∧ z16 ≤ 10) (h5 : 1 ≤ z23 ∧ z23 ≤ 1) : z23 = 1 := by omega
theorem vc_X12_withdraw_9 {p2 z16 z23 : Int} (h0 : 0 ≤ p2 ∧ p2 < z16) (h1 : (z23 = 1 → 0 ≤ p2 ∧ p2 < z16)) (h2 : (z23 = 0 → p2 < 0 ∨ z16 ≤ p2)) (h3 : (-2147483648) ≤ p2 ∧ p2 ≤ 2147483647) (h4 : 0 ≤ z16 ∧ z16 ≤ 10) (h5 : 1 ≤ z23 ∧ z23 ≤ 1) : 0 ≤ p2 ∧ p2 ≤ 9 := by omega
theorem vc_X12_withdraw_10 {z28 : Int} (h0 : 0 ≤ z28) (h1 : (-1) ≤ z28 ∧ z28 ≤ 2) : 0 ≤ z28 ∧ z28 ≤ 2 := by omega
theorem vc_X12_withdraw_11 {z28 : Int} (h0 : z28 < 0) (h1 : (-1) ≤ z28 ∧ z28 ≤ 2) : (-1) ≤ z28 ∧ z28 ≤ (-1) := by omega
theorem vc_X12_withdraw_12 {p2 z16 z23 : Int} (h0 : z23 = 0) (h1 : (z23 = 1 → 0 ≤ p2 ∧ p2 < z16)) (h2 : (z23 = 0 → p2 < 0 ∨ z16 ≤ p2)) (h3 : (-2147483648) ≤ p2 ∧ p2 ≤ 2147483647) (h4 : 0 ≤ z16 ∧ z16 ≤ 10) (h5 : 0 ≤ z23 ∧ z23 ≤ 1) : 0 ≤ z23 ∧ z23 ≤ 0 := by omega
theorem vc_X12_withdraw_13 {p2 z16 z23 : Int} (h0 : (z23 = 1 → 0 ≤ p2 ∧ p2 < z16)) (h1 : (z23 = 0 → p2 < 0 ∨ z16 ≤ p2)) (h2 : z23 = 0) (h3 : (-2147483648) ≤ p2 ∧ p2 ≤ 2147483647) (h4 : 0 ≤ z16 ∧ z16 ≤ 10) (h5 : 0 ≤ z23 ∧ z23 ≤ 0) : z23 = 0 := by omega
set_option maxRecDepth 4000 in
set_option maxHeartbeats 4000000 in
theorem c_X12_withdraw {l : Launch} {D : va_G} {c : Nat → ClassId} {H0 : Heap} {sa : Nat × Nat × (Nat → Int32)} {w : mW} {μ : mM} (hw : mWF w) (hT : mT w μ) {p1 : Int} (hp1 : (-2147483648) ≤ p1 ∧ p1 ≤ 2147483647) {p2 : Int} (hp2 : (-2147483648) ≤ p2 ∧ p2 ≤ 2147483647) (hIG1 : G1 μ) (hIEV : EV μ) (hIPK : PK μ) : sC (gG l D c H0 sa) mX12_withdraw 11 0 0 [.ref 106, iv p1, iv p2] (mk w μ) (qI w [106026, 106027, 106028, 106029, 106030, 106031, 106072, 126999, 151999, 152999, 153999, 155999, 156999, 157999, 158999, 159999, 160999, 161999, 162999, 165999] μ (fun z μ1 => ((-2147483648) ≤ z ∧ z ≤ 2147483647) ∧ G1 μ1 ∧ EV μ1 ∧ True)) := by
  refine sC.of rfl (by decide) (le_t rfl) ?_
  refine mr_lvE (lv' := [(0, .ref 106), (1, iv p1), (2, iv p2)]) rfl ?_
  refine sv_aload_n (pc := 0) dX12_withdraw_0 rfl rfl ?_
  refine mr_iload_n (pc := 1) (z := p1) dX12_withdraw_1 rfl rfl ?_
  obtain ⟨z1, q2⟩ : ∃ z, μ 106 5 = z := ⟨_, rfl⟩
  have h3 : (0 ≤ z1 ∧ z1 ≤ 10) := by rw [← q2]; exact hT 106 106 (A_106 hw) 5
  refine mr_cVP (pc := 2) (c_X12_isDomain hw hT hp1 q2) (gOk _ _ _ _ _) dX12_withdraw_2 (tX12_isDomain _ _ _ _ _) ⟨wV_X12_isDomain, wL_X12_isDomain⟩ wM_X12_49 (gCX12 _ _ _ _ _) rfl (A_106 hw) rfl ⟨le_t rfl, le_t rfl⟩ ⟨le_t rfl, le_t rfl⟩ rfl (le_t rfl) fun z8 h7 => ?_
  refine mr_if_eq (pc := 5) (tgt := 16) dX12_withdraw_5 (by decide) (r32 h7.1 rfl) (fun h9 => ?_) (fun h9 => ?_)
  · have h10 : 0 ≤ z8 ∧ z8 ≤ 0 := (vc_X12_withdraw_1 h9 h7.2.1 h7.2.2.1 hp1 h3 h7.1)
    have h11 : p1 < 0 ∨ z1 ≤ p1 := (h7.2.2.1 (vc_X12_withdraw_2 h7.2.1 h7.2.2.1 h9 hp1 h3 h10))
    refine mr_iconst (pc := 16) (z := (-1)) dX12_withdraw_16 ?_
    exact mr_iret dX12_withdraw_17 rfl (le_t rfl) (le_t rfl) hT mF.refl ⟨(rW (c := (-2147483648)) (d := 2147483647) (rR (x := (-1))) rfl), hIG1, hIEV, trivial⟩
  have h12 : 1 ≤ z8 ∧ z8 ≤ 1 := (vc_X12_withdraw_3 h9 h7.2.1 h7.2.2.1 hp1 h3 h7.1)
  have h13 : 0 ≤ p1 ∧ p1 < z1 := (h7.2.1 (vc_X12_withdraw_4 h7.2.1 h7.2.2.1 h9 hp1 h3 h12))
  have h14 : 0 ≤ p1 ∧ p1 ≤ 9 := (vc_X12_withdraw_5 h13 h7.2.1 h7.2.2.1 hp1 h3 h12)
  have h15 : 1 ≤ z1 ∧ z1 ≤ 10 := (vc_X12_withdraw_6 h13 h7.2.1 h7.2.2.1 h14 h3 h12)
  refine sv_aload_n (pc := 8) dX12_withdraw_8 rfl rfl ?_
  refine mr_iload_n (pc := 9) (z := p2) dX12_withdraw_9 rfl rfl ?_
  obtain ⟨z16, q17⟩ : ∃ z, μ 106 2 = z := ⟨_, rfl⟩
  have h18 : (0 ≤ z16 ∧ z16 ≤ 10) := by rw [← q17]; exact hT 106 106 (A_106 hw) 2
  refine mr_cVP (pc := 10) (c_X12_isPrefix hw hT hp2 q17) (gOk _ _ _ _ _) dX12_withdraw_10 (tX12_isPrefix _ _ _ _ _) ⟨wV_X12_isPrefix, wL_X12_isPrefix⟩ wM_X12_92 (gCX12 _ _ _ _ _) rfl (A_106 hw) rfl ⟨le_t rfl, le_t rfl⟩ ⟨le_t rfl, le_t rfl⟩ rfl (le_t rfl) fun z23 h22 => ?_
  refine mr_if_ne (pc := 13) (tgt := 18) dX12_withdraw_13 (by decide) (r32 h22.1 rfl) (fun h24 => ?_) (fun h24 => ?_)
  · have h25 : 1 ≤ z23 ∧ z23 ≤ 1 := (vc_X12_withdraw_7 h24 h22.2.1 h22.2.2.1 hp2 h18 h22.1)
    have h26 : 0 ≤ p2 ∧ p2 < z16 := (h22.2.1 (vc_X12_withdraw_8 h22.2.1 h22.2.2.1 h24 hp2 h18 h25))
    have h27 : 0 ≤ p2 ∧ p2 ≤ 9 := (vc_X12_withdraw_9 h26 h22.2.1 h22.2.2.1 hp2 h18 h25)
    refine sv_aload_n (pc := 18) dX12_withdraw_18 rfl rfl ?_
    refine gf_X12_82 (pc := 19) dX12_withdraw_19 wF_X12_448 (A_106 hw) hT ?_
    refine mr_bipush (pc := 22) (z := 10) dX12_withdraw_22 (by decide) ?_
    refine mr_iload_n (pc := 24) (z := p1) dX12_withdraw_24 rfl rfl ?_
    refine mr_imul (pc := 25) (x := 10) (y := p1) dX12_withdraw_25 ?_
    refine mr_iload_n (pc := 26) (z := p2) dX12_withdraw_26 rfl rfl ?_
    refine mr_iadd (pc := 27) (x := (10 * p1)) (y := p2) dX12_withdraw_27 ?_
    refine la_162 (pc := 28) dX12_withdraw_28 (A_162 hw) hT (rIx (n := 100) (rAdd (e := 0) (f := 99) (rMulL (n := 10) (e := 0) (f := 90) h14 rfl) h27 rfl) rfl) fun z28 q29 h30 => ?_
    refine mr_if_ge (pc := 29) (tgt := 35) dX12_withdraw_29 (by decide) (r32 h30 rfl) (fun h31 => ?_) (fun h31 => ?_)
    · have h32 : 0 ≤ z28 ∧ z28 ≤ 2 := (vc_X12_withdraw_10 h31 h30)
      refine sv_aload_n (pc := 35) dX12_withdraw_35 rfl rfl ?_
      refine gf_X12_82 (pc := 36) dX12_withdraw_36 wF_X12_448 (A_106 hw) hT ?_
      refine mr_bipush (pc := 39) (z := 10) dX12_withdraw_39 (by decide) ?_
      refine mr_iload_n (pc := 41) (z := p1) dX12_withdraw_41 rfl rfl ?_
      refine mr_imul (pc := 42) (x := 10) (y := p1) dX12_withdraw_42 ?_
      refine mr_iload_n (pc := 43) (z := p2) dX12_withdraw_43 rfl rfl ?_
      refine mr_iadd (pc := 44) (x := (10 * p1)) (y := p2) dX12_withdraw_44 ?_
      refine mr_iconst (pc := 45) (z := (-1)) dX12_withdraw_45 ?_
      refine ss_162 (pc := 46) dX12_withdraw_46 (A_162 hw) hT (rIx (n := 100) (rAdd (e := 0) (f := 99) (rMulL (n := 10) (e := 0) (f := 90) h14 rfl) h27 rfl) rfl) (rW (c := (-1)) (d := 2) (rR (x := (-1))) rfl) fun μ33 u34 T35 => ?_
      refine sv_aload_n (pc := 47) dX12_withdraw_47 rfl rfl ?_
      refine mr_iload_n (pc := 48) (z := p1) dX12_withdraw_48 rfl rfl ?_
      refine mr_iload_n (pc := 49) (z := p2) dX12_withdraw_49 rfl rfl ?_
      refine mr_cVV (pc := 50) (c_X12_look hw T35 h14 h27 (G1.keep hIG1 hw ((mF.up mF.refl (A_162 hw) u34 rfl) : mF [162999] w μ μ33) rfl rfl ((mG.upO mG.refl u34 rfl) : mG [] μ μ33) (fun _ h => absurd h List.not_mem_nil)) (EV.keep hIEV hw ((mF.up mF.refl (A_162 hw) u34 rfl) : mF [162999] w μ μ33) rfl) (PK.keep hIPK hw ((mF.up mF.refl (A_162 hw) u34 rfl) : mF [162999] w μ μ33) rfl)) (gOk _ _ _ _ _) dX12_withdraw_50 (tX12_look _ _ _ _ _) ⟨wV_X12_look, wL_X12_look⟩ wM_X12_597 (gCX12 _ _ _ _ _) rfl (A_106 hw) rfl ⟨le_t rfl, le_t rfl⟩ ⟨le_t rfl, le_t rfl⟩ rfl (le_t rfl) fun μ36 T37 F38 h39 => ?_
      refine mr_iconst (pc := 53) (z := 0) dX12_withdraw_53 ?_
      exact mr_iret dX12_withdraw_54 rfl (le_t rfl) (le_t rfl) T37 (mF.call (mF.up mF.refl (A_162 hw) u34 rfl) F38 rfl) ⟨(rW (c := (-2147483648)) (d := 2147483647) (rR (x := 0)) rfl), h39.2.1, h39.2.2.1, trivial⟩
    have h40 : (-1) ≤ z28 ∧ z28 ≤ (-1) := (vc_X12_withdraw_11 h31 h30)
    refine mr_bipush (pc := 32) (z := (-2)) dX12_withdraw_32 (by decide) ?_
    exact mr_iret dX12_withdraw_34 rfl (le_t rfl) (le_t rfl) hT mF.refl ⟨(rW (c := (-2147483648)) (d := 2147483647) (rR (x := (-2))) rfl), hIG1, hIEV, trivial⟩
  have h41 : 0 ≤ z23 ∧ z23 ≤ 0 := (vc_X12_withdraw_12 h24 h22.2.1 h22.2.2.1 hp2 h18 h22.1)
  have h42 : p2 < 0 ∨ z16 ≤ p2 := (h22.2.2.1 (vc_X12_withdraw_13 h22.2.1 h22.2.2.1 h24 hp2 h18 h41))
  refine mr_iconst (pc := 16) (z := (-1)) dX12_withdraw_16 ?_
  exact mr_iret dX12_withdraw_17 rfl (le_t rfl) (le_t rfl) hT mF.refl ⟨(rW (c := (-2147483648)) (d := 2147483647) (rR (x := (-1))) rfl), hIG1, hIEV, trivial⟩
theorem vc_X12_raise_1 {p1 z1 z8 : Int} (h0 : ¬ z8 = 0) (h1 : (z8 = 1 → 0 ≤ p1 ∧ p1 < z1)) (h2 : (z8 = 0 → p1 < 0 ∨ z1 ≤ p1)) (h3 : (-2147483648) ≤ p1 ∧ p1 ≤ 2147483647) (h4 : 0 ≤ z1 ∧ z1 ≤ 20) (h5 : 0 ≤ z8 ∧ z8 ≤ 1) : 1 ≤ z8 ∧ z8 ≤ 1 := by omega
theorem vc_X12_raise_2 {p1 z1 z8 : Int} (h0 : (z8 = 1 → 0 ≤ p1 ∧ p1 < z1)) (h1 : (z8 = 0 → p1 < 0 ∨ z1 ≤ p1)) (h2 : ¬ z8 = 0) (h3 : (-2147483648) ≤ p1 ∧ p1 ≤ 2147483647) (h4 : 0 ≤ z1 ∧ z1 ≤ 20) (h5 : 1 ≤ z8 ∧ z8 ≤ 1) : z8 = 1 := by omega
theorem vc_X12_raise_3 {p1 z1 z8 : Int} (h0 : 0 ≤ p1 ∧ p1 < z1) (h1 : (z8 = 1 → 0 ≤ p1 ∧ p1 < z1)) (h2 : (z8 = 0 → p1 < 0 ∨ z1 ≤ p1)) (h3 : (-2147483648) ≤ p1 ∧ p1 ≤ 2147483647) (h4 : 0 ≤ z1 ∧ z1 ≤ 20) (h5 : 1 ≤ z8 ∧ z8 ≤ 1) : 0 ≤ p1 ∧ p1 ≤ 19 := by omega
theorem vc_X12_raise_4 {p1 z1 z8 : Int} (h0 : 0 ≤ p1 ∧ p1 < z1) (h1 : (z8 = 1 → 0 ≤ p1 ∧ p1 < z1)) (h2 : (z8 = 0 → p1 < 0 ∨ z1 ≤ p1)) (h3 : 0 ≤ p1 ∧ p1 ≤ 19) (h4 : 0 ≤ z1 ∧ z1 ≤ 20) (h5 : 1 ≤ z8 ∧ z8 ≤ 1) : 1 ≤ z1 ∧ z1 ≤ 20 := by omega
theorem vc_X12_raise_5 {p2 : Int} (h0 : ¬ p2 = 0) (h1 : 0 ≤ p2 ∧ p2 ≤ 1) : 1 ≤ p2 ∧ p2 ≤ 1 := by omega
theorem vc_X12_raise_6 {p2 : Int} (h0 : p2 = 0) (h1 : 1 ≤ p2 ∧ p2 ≤ 1) : False := by omega
theorem vc_X12_raise_7 {p1 z1 z8 : Int} (h0 : (z8 = 1 → 0 ≤ p1 ∧ p1 < z1)) (h1 : (z8 = 0 → p1 < 0 ∨ z1 ≤ p1)) (h2 : 0 ≤ p1 ∧ p1 < z1) (h3 : ¬ z8 = 0) (h4 : 0 ≤ p1 ∧ p1 ≤ 19) (h5 : 1 ≤ z1 ∧ z1 ≤ 20) (h6 : 1 ≤ z8 ∧ z8 ≤ 1) : p1 < z1 := by omega
theorem vc_X12_raise_8 {z27 z30 : Int} (h0 : 0 ≤ z27 ∧ z27 ≤ 9) (h1 : 0 ≤ z30 ∧ z30 ≤ 9) : z27 = z27 ∨ z30 = z27 := by omega
theorem vc_X12_raise_9 {z27 z30 : Int} (h0 : 0 ≤ z27 ∧ z27 ≤ 9) (h1 : 0 ≤ z30 ∧ z30 ≤ 9) : z27 = z30 ∨ z30 = z30 := by omega
theorem vc_X12_raise_10 {p2 : Int} (h0 : p2 = 0) (h1 : 0 ≤ p2 ∧ p2 ≤ 1) : 0 ≤ p2 ∧ p2 ≤ 0 := by omega
theorem vc_X12_raise_11 {z19 : Int} (h0 : ¬ z19 = 0) (h1 : 0 ≤ z19 ∧ z19 ≤ 1) : 1 ≤ z19 ∧ z19 ≤ 1 := by omega
theorem vc_X12_raise_12 {p2 : Int} (h0 : ¬ p2 = 0) (h1 : 0 ≤ p2 ∧ p2 ≤ 0) : False := by omega
theorem vc_X12_raise_13 {p1 z1 z51 z8 : Int} (h0 : z51 = (((20 * p1) + (10 * 0)) + 0)) (h1 : (z8 = 1 → 0 ≤ p1 ∧ p1 < z1)) (h2 : (z8 = 0 → p1 < 0 ∨ z1 ≤ p1)) (h3 : 0 ≤ p1 ∧ p1 < z1) (h4 : 0 ≤ p1 ∧ p1 ≤ 19) (h5 : 1 ≤ z1 ∧ z1 ≤ 20) (h6 : 0 ≤ z51 ∧ z51 ≤ 449) (h7 : 1 ≤ z8 ∧ z8 ≤ 1) : 0 ≤ z51 ∧ z51 ≤ 380 := by omega
theorem vc_X12_raise_14 {z328 : Int} (h0 : (401 - z328) < ((0 : Nat) : Int)) (h1 : 0 ≤ z328 ∧ z328 ≤ 400) : False := by omega
theorem vc_X12_raise_15 {p1 z1 z344 z51 z8 : Int} (h0 : z344 = (((20 * p1) + (10 * 2)) + 0)) (h1 : (z8 = 1 → 0 ≤ p1 ∧ p1 < z1)) (h2 : (z8 = 0 → p1 < 0 ∨ z1 ≤ p1)) (h3 : 0 ≤ p1 ∧ p1 < z1) (h4 : z51 = (((20 * p1) + (10 * 0)) + 0)) (h5 : 0 ≤ p1 ∧ p1 ≤ 19) (h6 : 1 ≤ z1 ∧ z1 ≤ 20) (h7 : 0 ≤ z344 ∧ z344 ≤ 449) (h8 : 0 ≤ z51 ∧ z51 ≤ 380) (h9 : 1 ≤ z8 ∧ z8 ≤ 1) : 20 ≤ z344 ∧ z344 ≤ 400 := by omega
theorem vc_X12_raise_16 {p1 z328 z344 : Int} (h0 : z344 ≤ z328) (h1 : z344 = (((20 * p1) + (10 * 2)) + 0)) (h2 : 0 ≤ p1 ∧ p1 ≤ 19) (h3 : 0 ≤ z328 ∧ z328 ≤ 400) (h4 : 20 ≤ z344 ∧ z344 ≤ 400) : 20 ≤ z328 ∧ z328 ≤ 400 := by omega
theorem vc_X12_raise_17 {p1 z328 z344 : Int} (h0 : z328 < z344) (h1 : z344 = (((20 * p1) + (10 * 2)) + 0)) (h2 : 0 ≤ p1 ∧ p1 ≤ 19) (h3 : 0 ≤ z328 ∧ z328 ≤ 400) (h4 : 20 ≤ z344 ∧ z344 ≤ 400) : 0 ≤ z328 ∧ z328 ≤ 399 := by omega
theorem vc_X12_raise_18 {p1 z328 z344 : Int} (h0 : z328 < z344) (h1 : z344 = (((20 * p1) + (10 * 2)) + 0)) (h2 : 0 ≤ p1 ∧ p1 ≤ 19) (h3 : 0 ≤ z328 ∧ z328 ≤ 399) (h4 : 20 ≤ z344 ∧ z344 ≤ 400) : 0 ≤ (40 * (130 + z328)) := by omega
theorem vc_X12_raise_19 {p1 z328 z344 : Int} (h0 : z328 < z344) (h1 : z344 = (((20 * p1) + (10 * 2)) + 0)) (h2 : 0 ≤ p1 ∧ p1 ≤ 19) (h3 : 0 ≤ z328 ∧ z328 ≤ 399) (h4 : 20 ≤ z344 ∧ z344 ≤ 400) : (40 * (130 + z328)) % 40 = 0 := by omega
theorem vc_X12_raise_20 {z400 : Int} (h0 : z400 = -1) (h1 : (-1) ≤ z400 ∧ z400 ≤ 9) : (-1) ≤ z400 ∧ z400 ≤ (-1) := by omega
theorem vc_X12_raise_21 {p1 z328 z344 : Int} (h0 : z328 < z344) (h1 : z344 = (((20 * p1) + (10 * 2)) + 0)) (h2 : 0 ≤ p1 ∧ p1 ≤ 19) (h3 : 0 ≤ z328 ∧ z328 ≤ 399) (h4 : 20 ≤ z344 ∧ z344 ≤ 400) : 0 ≤ (40 * (530 + z328)) := by omega
theorem vc_X12_raise_22 {p1 z328 z344 : Int} (h0 : z328 < z344) (h1 : z344 = (((20 * p1) + (10 * 2)) + 0)) (h2 : 0 ≤ p1 ∧ p1 ≤ 19) (h3 : 0 ≤ z328 ∧ z328 ≤ 399) (h4 : 20 ≤ z344 ∧ z344 ≤ 400) : (40 * (530 + z328)) % 40 = 0 := by omega
theorem vc_X12_raise_23 {z411 : Int} (h0 : z411 = -1) (h1 : (-1) ≤ z411 ∧ z411 ≤ 9) : (-1) ≤ z411 ∧ z411 ≤ (-1) := by omega
theorem vc_X12_raise_24 {p1 z328 z344 : Int} (h0 : z328 < z344) (h1 : z344 = (((20 * p1) + (10 * 2)) + 0)) (h2 : 0 ≤ p1 ∧ p1 ≤ 19) (h3 : 0 ≤ z328 ∧ z328 ≤ 399) (h4 : 20 ≤ z344 ∧ z344 ≤ 400) : 0 ≤ z328 := by omega
theorem vc_X12_raise_25 {p1 z1 z328 z344 z51 z8 : Int} (h0 : (z8 = 1 → 0 ≤ p1 ∧ p1 < z1)) (h1 : (z8 = 0 → p1 < 0 ∨ z1 ≤ p1)) (h2 : 0 ≤ p1 ∧ p1 < z1) (h3 : z328 < z344) (h4 : ¬ z8 = 0) (h5 : z51 = (((20 * p1) + (10 * 0)) + 0)) (h6 : z344 = (((20 * p1) + (10 * 2)) + 0)) (h7 : 0 ≤ p1 ∧ p1 ≤ 19) (h8 : 1 ≤ z1 ∧ z1 ≤ 20) (h9 : 0 ≤ z328 ∧ z328 ≤ 399) (h10 : 20 ≤ z344 ∧ z344 ≤ 400) (h11 : 0 ≤ z51 ∧ z51 ≤ 380) (h12 : 1 ≤ z8 ∧ z8 ≤ 1) : ((-1) : Int) < 0 ∨ z328 < 20 * z1 := by omega
theorem vc_X12_raise_26 {N p1 z328 z344 : Int} (h0 : (401 - z328) < N + 1) (h1 : z328 < z344) (h2 : z344 = (((20 * p1) + (10 * 2)) + 0)) (h3 : 0 ≤ p1 ∧ p1 ≤ 19) (h4 : 0 ≤ z328 ∧ z328 ≤ 399) (h5 : 20 ≤ z344 ∧ z344 ≤ 400) : (401 - (z328 + 1)) < N := by omega
theorem vc_X12_raise_27 {p1 z328 z344 : Int} (h0 : z328 < z344) (h1 : z344 = (((20 * p1) + (10 * 2)) + 0)) (h2 : 0 ≤ p1 ∧ p1 ≤ 19) (h3 : 0 ≤ z328 ∧ z328 ≤ 399) (h4 : 20 ≤ z344 ∧ z344 ≤ 400) : (40 * (130 + z328)) ≤ (40 * (130 + z328)) ∧ ((40 * (130 + z328)) + 1) ≤ ((40 * (130 + z328)) + 1) := by omega
theorem vc_X12_raise_28 {p1 z328 z344 : Int} (h0 : z328 < z344) (h1 : z344 = (((20 * p1) + (10 * 2)) + 0)) (h2 : 0 ≤ p1 ∧ p1 ≤ 19) (h3 : 0 ≤ z328 ∧ z328 ≤ 399) (h4 : 20 ≤ z344 ∧ z344 ≤ 400) : (40 * (530 + z328)) ≤ (40 * (530 + z328)) ∧ ((40 * (530 + z328)) + 1) ≤ ((40 * (530 + z328)) + 1) := by omega
theorem vc_X12_raise_29 {p1 z328 z344 : Int} (h0 : z328 < z344) (h1 : z344 = (((20 * p1) + (10 * 2)) + 0)) (h2 : 0 ≤ p1 ∧ p1 ≤ 19) (h3 : 0 ≤ z328 ∧ z328 ≤ 399) (h4 : 20 ≤ z344 ∧ z344 ≤ 400) : (1 ≤ (40 * (530 + z328)) ∧ ((40 * (530 + z328)) + 1) ≤ 1200) ∨ 5200 ≤ (40 * (530 + z328)) := by omega
theorem vc_X12_raise_30 {p1 z328 z344 : Int} (h0 : z328 < z344) (h1 : z344 = (((20 * p1) + (10 * 2)) + 0)) (h2 : 0 ≤ p1 ∧ p1 ≤ 19) (h3 : 0 ≤ z328 ∧ z328 ≤ 399) (h4 : 20 ≤ z344 ∧ z344 ≤ 400) : (1 ≤ (40 * (130 + z328)) ∧ ((40 * (130 + z328)) + 1) ≤ 1200) ∨ 5200 ≤ (40 * (130 + z328)) := by omega
theorem vc_X12_raise_31 {p1 z1 z51 z8 : Int} (h0 : z51 = (((20 * p1) + (10 * 0)) + 0)) (h1 : (z8 = 1 → 0 ≤ p1 ∧ p1 < z1)) (h2 : (z8 = 0 → p1 < 0 ∨ z1 ≤ p1)) (h3 : 0 ≤ p1 ∧ p1 < z1) (h4 : 0 ≤ p1 ∧ p1 ≤ 19) (h5 : 1 ≤ z1 ∧ z1 ≤ 20) (h6 : 0 ≤ z51 ∧ z51 ≤ 380) (h7 : 1 ≤ z8 ∧ z8 ≤ 1) : (401 - z51) < ((402 : Nat) : Int) := by omega
theorem vc_X12_raise_32 {z19 : Int} (h0 : z19 = 0) (h1 : 0 ≤ z19 ∧ z19 ≤ 1) : 0 ≤ z19 ∧ z19 ≤ 0 := by omega
theorem vc_X12_raise_33 {z14 : Int} (h0 : z14 = 0) (h1 : 0 ≤ z14 ∧ z14 ≤ 1) : 0 ≤ z14 ∧ z14 ≤ 0 := by omega
theorem vc_X12_raise_34 {z14 : Int} (h0 : ¬ z14 = 0) (h1 : 0 ≤ z14 ∧ z14 ≤ 1) : 1 ≤ z14 ∧ z14 ≤ 1 := by omega
theorem vc_X12_raise_35 {p1 z1 z8 : Int} (h0 : z8 = 0) (h1 : (z8 = 1 → 0 ≤ p1 ∧ p1 < z1)) (h2 : (z8 = 0 → p1 < 0 ∨ z1 ≤ p1)) (h3 : (-2147483648) ≤ p1 ∧ p1 ≤ 2147483647) (h4 : 0 ≤ z1 ∧ z1 ≤ 20) (h5 : 0 ≤ z8 ∧ z8 ≤ 1) : 0 ≤ z8 ∧ z8 ≤ 0 := by omega
theorem vc_X12_raise_36 {p1 z1 z8 : Int} (h0 : (z8 = 1 → 0 ≤ p1 ∧ p1 < z1)) (h1 : (z8 = 0 → p1 < 0 ∨ z1 ≤ p1)) (h2 : z8 = 0) (h3 : (-2147483648) ≤ p1 ∧ p1 ≤ 2147483647) (h4 : 0 ≤ z1 ∧ z1 ≤ 20) (h5 : 0 ≤ z8 ∧ z8 ≤ 0) : z8 = 0 := by omega
set_option maxRecDepth 4000 in
set_option maxHeartbeats 4000000 in
theorem c_X12_raise {l : Launch} {D : va_G} {c : Nat → ClassId} {H0 : Heap} {sa : Nat × Nat × (Nat → Int32)} {w : mW} {μ : mM} (hw : mWF w) (hT : mT w μ) {p1 : Int} (hp1 : (-2147483648) ≤ p1 ∧ p1 ≤ 2147483647) {p2 : Int} (hp2 : 0 ≤ p2 ∧ p2 ≤ 1) (hIG1 : G1 μ) (hIEV : EV μ) (hIPK : PK μ) : sC (gG l D c H0 sa) mX12_raise 12 0 0 [.ref 106, iv p1, iv p2] (mk w μ) (qI w [106026, 106027, 106028, 106029, 106030, 106031, 106072, 112999, 126999, 151999, 152999, 153999, 155999, 156999, 157999, 158999, 159999, 160999, 161999, 165999] μ (fun z μ1 => ((-2147483648) ≤ z ∧ z ≤ 2147483647) ∧ G1 μ1 ∧ EV μ1 ∧ True)) := by
  refine sC.of rfl (by decide) (le_t rfl) ?_
  refine mr_lvE (lv' := [(0, .ref 106), (1, iv p1), (2, iv p2)]) rfl ?_
  refine sv_aload_n (pc := 0) dX12_raise_0 rfl rfl ?_
  refine mr_iload_n (pc := 1) (z := p1) dX12_raise_1 rfl rfl ?_
  obtain ⟨z1, q2⟩ : ∃ z, μ 106 6 = z := ⟨_, rfl⟩
  have h3 : (0 ≤ z1 ∧ z1 ≤ 20) := by rw [← q2]; exact hT 106 106 (A_106 hw) 6
  refine mr_cVP (pc := 2) (c_X12_isTie hw hT hp1 q2) (gOk _ _ _ _ _) dX12_raise_2 (tX12_isTie _ _ _ _ _) ⟨wV_X12_isTie, wL_X12_isTie⟩ wM_X12_66 (gCX12 _ _ _ _ _) rfl (A_106 hw) rfl ⟨le_t rfl, le_t rfl⟩ ⟨le_t rfl, le_t rfl⟩ rfl (le_t rfl) fun z8 h7 => ?_
  refine mr_if_ne (pc := 5) (tgt := 10) dX12_raise_5 (by decide) (r32 h7.1 rfl) (fun h9 => ?_) (fun h9 => ?_)
  · have h10 : 1 ≤ z8 ∧ z8 ≤ 1 := (vc_X12_raise_1 h9 h7.2.1 h7.2.2.1 hp1 h3 h7.1)
    have h11 : 0 ≤ p1 ∧ p1 < z1 := (h7.2.1 (vc_X12_raise_2 h7.2.1 h7.2.2.1 h9 hp1 h3 h10))
    have h12 : 0 ≤ p1 ∧ p1 ≤ 19 := (vc_X12_raise_3 h11 h7.2.1 h7.2.2.1 hp1 h3 h10)
    have h13 : 1 ≤ z1 ∧ z1 ≤ 20 := (vc_X12_raise_4 h11 h7.2.1 h7.2.2.1 h12 h3 h10)
    refine sv_aload_n (pc := 10) dX12_raise_10 rfl rfl ?_
    refine gf_X12_9 (pc := 11) dX12_raise_11 wF_X12_53 (A_106 hw) hT ?_
    refine mr_iload_n (pc := 14) (z := p1) dX12_raise_14 rfl rfl ?_
    refine la_112 (pc := 15) dX12_raise_15 (A_112 hw) hT (rIx (n := 20) h12 rfl) fun z14 q15 h16 => ?_
    have J21 : ∀ (z19 : Int), ((0 ≤ z19 ∧ z19 ≤ 1)) → sV (gG l D c H0 sa) mX12_raise (sRm 12 0 0) (sZ (gG l D c H0 sa) 0 0 (qI w [106026, 106027, 106028, 106029, 106030, 106031, 106072, 112999, 126999, 151999, 152999, 153999, 155999, 156999, 157999, 158999, 159999, 160999, 161999, 165999] μ (fun z μ1 => ((-2147483648) ≤ z ∧ z ≤ 2147483647) ∧ G1 μ1 ∧ EV μ1 ∧ True))) 24 [(0, .ref 106), (1, iv p1), (2, iv p2)] [iv z19] (mk w μ) 0 0 := by
      intro z19 h20
      refine mr_istore_n (pc := 24) (lv' := [(3, iv z19), (0, .ref 106), (1, iv p1), (2, iv p2)]) dX12_raise_24 rfl (by decide) rfl ?_
      refine mr_iload_n (pc := 25) (z := p2) dX12_raise_25 rfl rfl ?_
      refine mr_if_ne (pc := 26) (tgt := 35) dX12_raise_26 (by decide) (r32 hp2 rfl) (fun h22 => ?_) (fun h22 => ?_)
      · have h23 : 1 ≤ p2 ∧ p2 ≤ 1 := (vc_X12_raise_5 h22 hp2)
        refine sv_aload_n (pc := 35) dX12_raise_35 rfl rfl ?_
        refine gf_X12_9 (pc := 36) dX12_raise_36 wF_X12_53 (A_106 hw) hT ?_
        refine mr_iload_n (pc := 39) (z := p1) dX12_raise_39 rfl rfl ?_
        refine mr_iload_n (pc := 40) (z := p2) dX12_raise_40 rfl rfl ?_
        refine ss_112 (pc := 41) dX12_raise_41 (A_112 hw) hT (rIx (n := 20) h12 rfl) (rW (c := 0) (d := 1) h23 rfl) fun μ24 u25 T26 => ?_
        refine mr_iload_n (pc := 42) (z := p2) dX12_raise_42 rfl rfl ?_
        refine mr_if_eq (pc := 43) (tgt := 76) dX12_raise_43 (by decide) (r32 h23 rfl) (fun h => ((vc_X12_raise_6 h h23)).elim) (fun _ => ?_)
        refine sv_aload_n (pc := 46) dX12_raise_46 rfl rfl ?_
        refine sv_aload_n (pc := 47) dX12_raise_47 rfl rfl ?_
        refine gf_X12_7 (pc := 48) dX12_raise_48 wF_X12_40 (A_106 hw) T26 ?_
        refine mr_iconst (pc := 51) (z := 2) dX12_raise_51 ?_
        refine mr_iload_n (pc := 52) (z := p1) dX12_raise_52 rfl rfl ?_
        refine mr_imul (pc := 53) (x := 2) (y := p1) dX12_raise_53 ?_
        refine la_110 (pc := 54) dX12_raise_54 (A_110 hw) T26 (rIx (n := 40) (rMulL (n := 2) (e := 0) (f := 38) h12 rfl) rfl) fun z27 q28 h29 => ?_
        refine mr_iload_n (pc := 55) (z := p1) dX12_raise_55 rfl rfl ?_
        obtain ⟨z30, q31⟩ : ∃ z, μ24 110 (((2 * p1) + 1).toNat) = z := ⟨_, rfl⟩
        have h32 : (0 ≤ z30 ∧ z30 ≤ 9) := by rw [← q31]; exact T26 110 110 (A_110 hw) (((2 * p1) + 1).toNat)
        refine mr_cVV (pc := 56) (c_X12_sayAll hw T26 h29 h12 q28 q31 (u25.f (Or.inl (mAt.ne (A_112 hw) (A_106 hw) rfl)) q2) (vc_X12_raise_7 h7.2.1 h7.2.2.1 h11 h9 h12 h13 h10) (vc_X12_raise_8 h29 h32) (G1.keep hIG1 hw ((mF.up mF.refl (A_112 hw) u25 rfl) : mF [112999] w μ μ24) rfl rfl ((mG.upO mG.refl u25 rfl) : mG [] μ μ24) (fun _ h => absurd h List.not_mem_nil)) (EV.keep hIEV hw ((mF.up mF.refl (A_112 hw) u25 rfl) : mF [112999] w μ μ24) rfl) (PK.keep hIPK hw ((mF.up mF.refl (A_112 hw) u25 rfl) : mF [112999] w μ μ24) rfl)) (gOk _ _ _ _ _) dX12_raise_56 (tX12_sayAll _ _ _ _ _) ⟨wV_X12_sayAll, wL_X12_sayAll⟩ wM_X12_603 (gCX12 _ _ _ _ _) rfl (A_106 hw) rfl ⟨le_t rfl, le_t rfl⟩ ⟨le_t rfl, le_t rfl⟩ rfl (le_t rfl) fun μ33 T34 F35 h36 => ?_
        refine sv_aload_n (pc := 59) dX12_raise_59 rfl rfl ?_
        refine sv_aload_n (pc := 60) dX12_raise_60 rfl rfl ?_
        refine gf_X12_7 (pc := 61) dX12_raise_61 wF_X12_40 (A_106 hw) T34 ?_
        refine mr_iconst (pc := 64) (z := 2) dX12_raise_64 ?_
        refine mr_iload_n (pc := 65) (z := p1) dX12_raise_65 rfl rfl ?_
        refine mr_imul (pc := 66) (x := 2) (y := p1) dX12_raise_66 ?_
        refine mr_iconst (pc := 67) (z := 1) dX12_raise_67 ?_
        refine mr_iadd (pc := 68) (x := (2 * p1)) (y := 1) dX12_raise_68 ?_
        refine lk_110 (pc := 69) dX12_raise_69 (A_110 hw) (rIx (n := 40) (rAdd (e := 1) (f := 39) (rMulL (n := 2) (e := 0) (f := 38) h12 rfl) (rR (x := 1)) rfl) rfl) (F35.f (A_110 hw) rfl q31) ?_
        refine mr_iload_n (pc := 70) (z := p1) dX12_raise_70 rfl rfl ?_
        refine mr_cVV (pc := 71) (c_X12_sayAll hw T34 h32 h12 (F35.f (A_110 hw) rfl q28) (F35.f (A_110 hw) rfl q31) (F35.f (A_106 hw) rfl (u25.f (Or.inl (mAt.ne (A_112 hw) (A_106 hw) rfl)) q2)) (vc_X12_raise_7 h7.2.1 h7.2.2.1 h11 h9 h12 h13 h10) (vc_X12_raise_9 h29 h32) h36.2.1 h36.2.2.1 (PK.keep hIPK hw ((mF.call (mF.up mF.refl (A_112 hw) u25 rfl) F35 rfl) : mF [106026, 106027, 106028, 106029, 106030, 106031, 106072, 112999, 126999, 151999, 152999, 153999, 155999, 156999, 157999, 158999, 159999, 160999] w μ μ33) rfl)) (gOk _ _ _ _ _) dX12_raise_71 (tX12_sayAll _ _ _ _ _) ⟨wV_X12_sayAll, wL_X12_sayAll⟩ wM_X12_603 (gCX12 _ _ _ _ _) rfl (A_106 hw) rfl ⟨le_t rfl, le_t rfl⟩ ⟨le_t rfl, le_t rfl⟩ rfl (le_t rfl) fun μ37 T38 F39 h40 => ?_
        refine mr_iload_n (pc := 74) (z := z19) dX12_raise_74 rfl rfl ?_
        exact mr_iret dX12_raise_75 rfl (le_t rfl) (le_t rfl) T38 (mF.call (mF.call (mF.up mF.refl (A_112 hw) u25 rfl) F35 rfl) F39 rfl) ⟨(rW (c := (-2147483648)) (d := 2147483647) h20 rfl), h40.2.1, h40.2.2.1, trivial⟩
      have h41 : 0 ≤ p2 ∧ p2 ≤ 0 := (vc_X12_raise_10 h22 hp2)
      refine mr_iload_n (pc := 29) (z := z19) dX12_raise_29 rfl rfl ?_
      refine mr_if_ne (pc := 30) (tgt := 35) dX12_raise_30 (by decide) (r32 h20 rfl) (fun h42 => ?_) (fun h42 => ?_)
      · have h43 : 1 ≤ z19 ∧ z19 ≤ 1 := (vc_X12_raise_11 h42 h20)
        refine sv_aload_n (pc := 35) dX12_raise_35 rfl rfl ?_
        refine gf_X12_9 (pc := 36) dX12_raise_36 wF_X12_53 (A_106 hw) hT ?_
        refine mr_iload_n (pc := 39) (z := p1) dX12_raise_39 rfl rfl ?_
        refine mr_iload_n (pc := 40) (z := p2) dX12_raise_40 rfl rfl ?_
        refine ss_112 (pc := 41) dX12_raise_41 (A_112 hw) hT (rIx (n := 20) h12 rfl) (rW (c := 0) (d := 1) h41 rfl) fun μ44 u45 T46 => ?_
        refine mr_iload_n (pc := 42) (z := p2) dX12_raise_42 rfl rfl ?_
        refine mr_if_eq (pc := 43) (tgt := 76) dX12_raise_43 (by decide) (r32 h41 rfl) (fun _ => ?_) (fun h => ((vc_X12_raise_12 h h41)).elim)
        refine mr_iload_n (pc := 76) (z := p1) dX12_raise_76 rfl rfl ?_
        refine mr_iconst (pc := 77) (z := 0) dX12_raise_77 ?_
        refine mr_iconst (pc := 78) (z := 0) dX12_raise_78 ?_
        refine mr_cSP (pc := 79) (c_X12_slot hw T46 (rW (c := 0) (d := 20) h12 rfl) (rW (c := 0) (d := 2) (rR (x := 0)) rfl) (rW (c := 0) (d := 9) (rR (x := 0)) rfl)) (gOk _ _ _ _ _) dX12_raise_79 (tX12_slot _ _ _ _ _) wS_X12_slot wM_X12_545 ⟨le_t rfl, le_t rfl⟩ ⟨le_t rfl, le_t rfl⟩ rfl (le_t rfl) fun z51 h50 => ?_
        have h52 : 0 ≤ z51 ∧ z51 ≤ 380 := (vc_X12_raise_13 h50.2.1 h7.2.1 h7.2.2.1 h11 h12 h13 h50.1 h10)
        refine mr_istore (pc := 82) (lv' := [(4, iv z51), (3, iv z19), (0, .ref 106), (1, iv p1), (2, iv p2)]) dX12_raise_82 (by decide) rfl ?_
        have L330 : ∀ (nL330 : Nat) (z328 : Int) (μ329 : mM), mT w μ329 → mF [126999, 155999, 157999, 159999] w μ44 μ329 → (0 ≤ z328 ∧ z328 ≤ 400) → G1 μ329 → EV μ329 → PK μ329 → (401 - z328) < (nL330 : Int) → sV (gG l D c H0 sa) mX12_raise (sRm 12 0 0) (sZ (gG l D c H0 sa) 0 0 (qI w [106026, 106027, 106028, 106029, 106030, 106031, 106072, 112999, 126999, 151999, 152999, 153999, 155999, 156999, 157999, 158999, 159999, 160999, 161999, 165999] μ (fun z μ1 => ((-2147483648) ≤ z ∧ z ≤ 2147483647) ∧ G1 μ1 ∧ EV μ1 ∧ True))) 84 [(0, .ref 106), (1, iv p1), (3, iv z19), (4, iv z328)] [] (mk w μ329) 0 0 := by
          intro nL330
          induction nL330 with
          | zero => intro z328 μ329 T332 F333 h331 I335 I336 I337 h338; exact ((vc_X12_raise_14 h338 h331)).elim
          | succ nL330 ih339 =>
            intro z328 μ329 T332 F333 h331 I335 I336 I337 h338
            refine mr_iload (pc := 84) (z := z328) dX12_raise_84 rfl ?_
            refine mr_iload_n (pc := 86) (z := p1) dX12_raise_86 rfl rfl ?_
            refine mr_iconst (pc := 87) (z := 2) dX12_raise_87 ?_
            refine mr_iconst (pc := 88) (z := 0) dX12_raise_88 ?_
            refine mr_cSP (pc := 89) (c_X12_slot hw T332 (rW (c := 0) (d := 20) h12 rfl) (rW (c := 0) (d := 2) (rR (x := 2)) rfl) (rW (c := 0) (d := 9) (rR (x := 0)) rfl)) (gOk _ _ _ _ _) dX12_raise_89 (tX12_slot _ _ _ _ _) wS_X12_slot wM_X12_545 ⟨le_t rfl, le_t rfl⟩ ⟨le_t rfl, le_t rfl⟩ rfl (le_t rfl) fun z344 h343 => ?_
            have h345 : 20 ≤ z344 ∧ z344 ≤ 400 := (vc_X12_raise_15 h343.2.1 h7.2.1 h7.2.2.1 h11 h50.2.1 h12 h13 h343.1 h52 h10)
            refine mr_icmp_ge (pc := 92) (tgt := 145) dX12_raise_92 (by decide) (r32 h331 rfl) (r32 h345 rfl) (fun h379 => ?_) (fun h379 => ?_)
            · have h380 : 20 ≤ z328 ∧ z328 ≤ 400 := (vc_X12_raise_16 h379 h343.2.1 h12 h331 h345)
              refine sv_aload_n (pc := 145) dX12_raise_145 rfl rfl ?_
              refine sv_aload_n (pc := 146) dX12_raise_146 rfl rfl ?_
              refine gf_X12_7 (pc := 147) dX12_raise_147 wF_X12_40 (A_106 hw) T332 ?_
              refine mr_iconst (pc := 150) (z := 2) dX12_raise_150 ?_
              refine mr_iload_n (pc := 151) (z := p1) dX12_raise_151 rfl rfl ?_
              refine mr_imul (pc := 152) (x := 2) (y := p1) dX12_raise_152 ?_
              refine la_110 (pc := 153) dX12_raise_153 (A_110 hw) T332 (rIx (n := 40) (rMulL (n := 2) (e := 0) (f := 38) h12 rfl) rfl) fun z381 q382 h383 => ?_
              refine mr_cVV (pc := 154) (c_X12_lookAll hw T332 h383 I335 I336 I337) (gOk _ _ _ _ _) dX12_raise_154 (tX12_lookAll _ _ _ _ _) ⟨wV_X12_lookAll, wL_X12_lookAll⟩ wM_X12_600 (gCX12 _ _ _ _ _) rfl (A_106 hw) rfl ⟨le_t rfl, le_t rfl⟩ ⟨le_t rfl, le_t rfl⟩ rfl (le_t rfl) fun μ384 T385 F386 h387 => ?_
              refine sv_aload_n (pc := 157) dX12_raise_157 rfl rfl ?_
              refine sv_aload_n (pc := 158) dX12_raise_158 rfl rfl ?_
              refine gf_X12_7 (pc := 159) dX12_raise_159 wF_X12_40 (A_106 hw) T385 ?_
              refine mr_iconst (pc := 162) (z := 2) dX12_raise_162 ?_
              refine mr_iload_n (pc := 163) (z := p1) dX12_raise_163 rfl rfl ?_
              refine mr_imul (pc := 164) (x := 2) (y := p1) dX12_raise_164 ?_
              refine mr_iconst (pc := 165) (z := 1) dX12_raise_165 ?_
              refine mr_iadd (pc := 166) (x := (2 * p1)) (y := 1) dX12_raise_166 ?_
              refine la_110 (pc := 167) dX12_raise_167 (A_110 hw) T385 (rIx (n := 40) (rAdd (e := 1) (f := 39) (rMulL (n := 2) (e := 0) (f := 38) h12 rfl) (rR (x := 1)) rfl) rfl) fun z388 q389 h390 => ?_
              refine mr_cVV (pc := 168) (c_X12_lookAll hw T385 h390 h387.2.1 h387.2.2.1 (PK.keep I337 hw ((mF.call mF.refl F386 rfl) : mF [106026, 106027, 106028, 106029, 106030, 106031, 106072, 126999, 151999, 152999, 153999, 155999, 156999, 157999, 158999, 159999, 160999, 161999, 165999] w μ329 μ384) rfl)) (gOk _ _ _ _ _) dX12_raise_168 (tX12_lookAll _ _ _ _ _) ⟨wV_X12_lookAll, wL_X12_lookAll⟩ wM_X12_600 (gCX12 _ _ _ _ _) rfl (A_106 hw) rfl ⟨le_t rfl, le_t rfl⟩ ⟨le_t rfl, le_t rfl⟩ rfl (le_t rfl) fun μ391 T392 F393 h394 => ?_
              refine mr_iload_n (pc := 171) (z := z19) dX12_raise_171 rfl rfl ?_
              exact mr_iret dX12_raise_172 rfl (le_t rfl) (le_t rfl) T392 (mF.call (mF.call (mF.call (mF.up mF.refl (A_112 hw) u45 rfl) F333 rfl) F386 rfl) F393 rfl) ⟨(rW (c := (-2147483648)) (d := 2147483647) h43 rfl), h394.2.1, h394.2.2.1, trivial⟩
            have h395 : 0 ≤ z328 ∧ z328 ≤ 399 := (vc_X12_raise_17 h379 h343.2.1 h12 h331 h345)
            refine sv_aload_n (pc := 95) dX12_raise_95 rfl rfl ?_
            refine mr_sipush (pc := 96) (z := 130) dX12_raise_96 (by decide) ?_
            refine mr_iload (pc := 99) (z := z328) dX12_raise_99 rfl ?_
            refine mr_iadd (pc := 101) (x := 130) (y := z328) dX12_raise_101 ?_
            refine mr_cVV (pc := 102) (c_X12_nothing hw T332 (rW (c := 0) (d := 2099) (rAdd (e := 130) (f := 529) (rR (x := 130)) h395 rfl) rfl)) (gOk _ _ _ _ _) dX12_raise_102 (tX12_nothing _ _ _ _ _) ⟨wV_X12_nothing, wL_X12_nothing⟩ wM_X12_539 (gCX12 _ _ _ _ _) rfl (A_106 hw) rfl ⟨le_t rfl, le_t rfl⟩ ⟨le_t rfl, le_t rfl⟩ rfl (le_t rfl) fun μ396 T397 F398 h399 => ?_
            obtain ⟨z400, q401, h402⟩ := h399
            have h403 := rt7 T397 (A_126 hw) (vc_X12_raise_18 h379 h343.2.1 h12 h395 h345) q401
            have h404 : (-1) ≤ z400 ∧ z400 ≤ 9 := h403.2.1 (vc_X12_raise_19 h379 h343.2.1 h12 h395 h345)
            have q405 : μ396 126 ((40 * (130 + z328)).toNat) = (-1) := q401.trans h402.2.1
            have h406 : (-1) ≤ z400 ∧ z400 ≤ (-1) := (vc_X12_raise_20 h402.2.1 h404)
            refine sv_aload_n (pc := 105) dX12_raise_105 rfl rfl ?_
            refine mr_sipush (pc := 106) (z := 530) dX12_raise_106 (by decide) ?_
            refine mr_iload (pc := 109) (z := z328) dX12_raise_109 rfl ?_
            refine mr_iadd (pc := 111) (x := 530) (y := z328) dX12_raise_111 ?_
            refine mr_cVV (pc := 112) (c_X12_nothing hw T397 (rW (c := 0) (d := 2099) (rAdd (e := 530) (f := 929) (rR (x := 530)) h395 rfl) rfl)) (gOk _ _ _ _ _) dX12_raise_112 (tX12_nothing _ _ _ _ _) ⟨wV_X12_nothing, wL_X12_nothing⟩ wM_X12_539 (gCX12 _ _ _ _ _) rfl (A_106 hw) rfl ⟨le_t rfl, le_t rfl⟩ ⟨le_t rfl, le_t rfl⟩ rfl (le_t rfl) fun μ407 T408 F409 h410 => ?_
            obtain ⟨z411, q412, h413⟩ := h410
            have h414 := rt7 T408 (A_126 hw) (vc_X12_raise_21 h379 h343.2.1 h12 h395 h345) q412
            have h415 : (-1) ≤ z411 ∧ z411 ≤ 9 := h414.2.1 (vc_X12_raise_22 h379 h343.2.1 h12 h395 h345)
            have q416 : μ407 126 ((40 * (530 + z328)).toNat) = (-1) := q412.trans h413.2.1
            have h417 : (-1) ≤ z411 ∧ z411 ≤ (-1) := (vc_X12_raise_23 h413.2.1 h415)
            refine sv_aload_n (pc := 115) dX12_raise_115 rfl rfl ?_
            refine gf_X12_75 (pc := 116) dX12_raise_116 wF_X12_427 (A_106 hw) T408 ?_
            refine mr_iload (pc := 119) (z := z328) dX12_raise_119 rfl ?_
            refine mr_iconst (pc := 121) (z := 0) dX12_raise_121 ?_
            refine ss_155 (pc := 122) dX12_raise_122 (A_155 hw) T408 (rIx (n := 400) h395 rfl) (rW (c := 0) (d := 1) (rR (x := 0)) rfl) fun μ418 u419 T420 => ?_
            refine sv_aload_n (pc := 123) dX12_raise_123 rfl rfl ?_
            refine gf_X12_77 (pc := 124) dX12_raise_124 wF_X12_433 (A_106 hw) T420 ?_
            refine mr_iload (pc := 127) (z := z328) dX12_raise_127 rfl ?_
            refine mr_iconst (pc := 129) (z := (-1)) dX12_raise_129 ?_
            refine ss_157 (pc := 130) dX12_raise_130 (A_157 hw) T420 (rIx (n := 400) h395 rfl) (rW (c := (-1)) (d := 2000001000) (rR (x := (-1))) rfl) fun μ421 u422 T423 => ?_
            have I424 : EV μ421 := EV.up1 (EV.keep I336 hw ((mF.up (mF.call (mF.call mF.refl F398 rfl) F409 rfl) (A_155 hw) u419 rfl) : mF [126999, 155999] w μ329 μ418) rfl) u422 (u422.f (Or.inl (mAt.ne (A_157 hw) (A_106 hw) rfl)) (u419.f (Or.inl (mAt.ne (A_155 hw) (A_106 hw) rfl)) (F409.f (A_106 hw) rfl (F398.f (A_106 hw) rfl (F333.f (A_106 hw) rfl (u45.f (Or.inl (mAt.ne (A_112 hw) (A_106 hw) rfl)) q2)))))) (vc_X12_raise_24 h379 h343.2.1 h12 h395 h345) (vc_X12_raise_25 h7.2.1 h7.2.2.1 h11 h379 h9 h50.2.1 h343.2.1 h12 h13 h395 h345 h52 h10)
            refine sv_aload_n (pc := 131) dX12_raise_131 rfl rfl ?_
            refine gf_X12_79 (pc := 132) dX12_raise_132 wF_X12_439 (A_106 hw) T423 ?_
            refine mr_iload (pc := 135) (z := z328) dX12_raise_135 rfl ?_
            refine mr_iconst (pc := 137) (z := (-1)) dX12_raise_137 ?_
            refine ss_159 (pc := 138) dX12_raise_138 (A_159 hw) T423 (rIx (n := 400) h395 rfl) (rW (c := (-1)) (d := 2000001000) (rR (x := (-1))) rfl) fun μ425 u426 T427 => ?_
            have I428 : EV μ425 := EV.up2 I424 u426 (u426.f (Or.inl (mAt.ne (A_159 hw) (A_106 hw) rfl)) (u422.f (Or.inl (mAt.ne (A_157 hw) (A_106 hw) rfl)) (u419.f (Or.inl (mAt.ne (A_155 hw) (A_106 hw) rfl)) (F409.f (A_106 hw) rfl (F398.f (A_106 hw) rfl (F333.f (A_106 hw) rfl (u45.f (Or.inl (mAt.ne (A_112 hw) (A_106 hw) rfl)) q2))))))) (vc_X12_raise_24 h379 h343.2.1 h12 h395 h345) (vc_X12_raise_25 h7.2.1 h7.2.2.1 h11 h379 h9 h50.2.1 h343.2.1 h12 h13 h395 h345 h52 h10)
            refine mr_iinc (pc := 139) (lv' := [(4, iv (z328 + 1)), (0, .ref 106), (1, iv p1), (3, iv z19)]) dX12_raise_139 rfl (by decide) rfl ?_
            refine sv_goto (pc := 142) (tgt := 84) dX12_raise_142 (by decide) ?_
            refine mr_lvS (lv' := [(0, .ref 106), (1, iv p1), (3, iv z19), (4, iv (z328 + 1))]) (List.forall_mem_cons.mpr ⟨rfl, List.forall_mem_cons.mpr ⟨rfl, List.forall_mem_cons.mpr ⟨rfl, List.forall_mem_cons.mpr ⟨rfl, fun _ h => absurd h List.not_mem_nil⟩⟩⟩⟩) ?_
            exact ih339 (z328 + 1) μ425 T427 (mF.up (mF.up (mF.up (mF.call (mF.call (mF.call mF.refl F333 rfl) F398 rfl) F409 rfl) (A_155 hw) u419 rfl) (A_157 hw) u422 rfl) (A_159 hw) u426 rfl) (rW (c := 0) (d := 400) (rAdd (e := 1) (f := 400) h395 (rR (x := 1)) rfl) rfl) (G1.keep I335 hw ((mF.up (mF.up (mF.up (mF.call (mF.call mF.refl F398 rfl) F409 rfl) (A_155 hw) u419 rfl) (A_157 hw) u422 rfl) (A_159 hw) u426 rfl) : mF [126999, 155999, 157999, 159999] w μ329 μ425) rfl rfl ((mG.upO (mG.upO (mG.upO (mG.call (mG.call mG.refl h402.1 (List.forall_mem_cons.mpr ⟨⟨_, List.mem_cons_self, (vc_X12_raise_27 h379 h343.2.1 h12 h395 h345)⟩, (fun _ h => absurd h List.not_mem_nil)⟩)) h413.1 (List.forall_mem_cons.mpr ⟨⟨_, (List.mem_cons_of_mem _ List.mem_cons_self), (vc_X12_raise_28 h379 h343.2.1 h12 h395 h345)⟩, (fun _ h => absurd h List.not_mem_nil)⟩)) u419 rfl) u422 rfl) u426 rfl) : mG [((40 * (130 + z328)), ((40 * (130 + z328)) + 1)), ((40 * (530 + z328)), ((40 * (530 + z328)) + 1))] μ329 μ425) (List.forall_mem_cons.mpr ⟨(vc_X12_raise_30 h379 h343.2.1 h12 h395 h345), (List.forall_mem_cons.mpr ⟨(vc_X12_raise_29 h379 h343.2.1 h12 h395 h345), (fun _ h => absurd h List.not_mem_nil)⟩)⟩)) I428 (PK.keep I337 hw ((mF.up (mF.up (mF.up (mF.call (mF.call mF.refl F398 rfl) F409 rfl) (A_155 hw) u419 rfl) (A_157 hw) u422 rfl) (A_159 hw) u426 rfl) : mF [126999, 155999, 157999, 159999] w μ329 μ425) rfl) (vc_X12_raise_26 (nS h338) h379 h343.2.1 h12 h395 h345)
        refine mr_lvS (lv' := [(0, .ref 106), (1, iv p1), (3, iv z19), (4, iv z51)]) (List.forall_mem_cons.mpr ⟨rfl, List.forall_mem_cons.mpr ⟨rfl, List.forall_mem_cons.mpr ⟨rfl, List.forall_mem_cons.mpr ⟨rfl, fun _ h => absurd h List.not_mem_nil⟩⟩⟩⟩) ?_
        exact L330 402 z51 μ44 T46 mF.refl (rW (c := 0) (d := 400) h52 rfl) (G1.keep hIG1 hw ((mF.up mF.refl (A_112 hw) u45 rfl) : mF [112999] w μ μ44) rfl rfl ((mG.upO mG.refl u45 rfl) : mG [] μ μ44) (fun _ h => absurd h List.not_mem_nil)) (EV.keep hIEV hw ((mF.up mF.refl (A_112 hw) u45 rfl) : mF [112999] w μ μ44) rfl) (PK.keep hIPK hw ((mF.up mF.refl (A_112 hw) u45 rfl) : mF [112999] w μ μ44) rfl) (vc_X12_raise_31 h50.2.1 h7.2.1 h7.2.2.1 h11 h12 h13 h52 h10)
      have h429 : 0 ≤ z19 ∧ z19 ≤ 0 := (vc_X12_raise_32 h42 h20)
      refine mr_iconst (pc := 33) (z := 0) dX12_raise_33 ?_
      exact mr_iret dX12_raise_34 rfl (le_t rfl) (le_t rfl) hT mF.refl ⟨(rW (c := (-2147483648)) (d := 2147483647) (rR (x := 0)) rfl), hIG1, hIEV, trivial⟩
    refine mr_if_eq (pc := 16) (tgt := 23) dX12_raise_16 (by decide) (r32 h16 rfl) (fun h430 => ?_) (fun h430 => ?_)
    · have h431 : 0 ≤ z14 ∧ z14 ≤ 0 := (vc_X12_raise_33 h430 h16)
      refine mr_iconst (pc := 23) (z := 0) dX12_raise_23 ?_
      exact J21 0 (rW (c := 0) (d := 1) (rR (x := 0)) rfl)
    have h432 : 1 ≤ z14 ∧ z14 ≤ 1 := (vc_X12_raise_34 h430 h16)
    refine mr_iconst (pc := 19) (z := 1) dX12_raise_19 ?_
    refine sv_goto (pc := 20) (tgt := 24) dX12_raise_20 (by decide) ?_
    exact J21 1 (rW (c := 0) (d := 1) (rR (x := 1)) rfl)
  have h433 : 0 ≤ z8 ∧ z8 ≤ 0 := (vc_X12_raise_35 h9 h7.2.1 h7.2.2.1 hp1 h3 h7.1)
  have h434 : p1 < 0 ∨ z1 ≤ p1 := (h7.2.2.1 (vc_X12_raise_36 h7.2.1 h7.2.2.1 h9 hp1 h3 h433))
  refine mr_iconst (pc := 8) (z := (-1)) dX12_raise_8 ?_
  exact mr_iret dX12_raise_9 rfl (le_t rfl) (le_t rfl) hT mF.refl ⟨(rW (c := (-2147483648)) (d := 2147483647) (rR (x := (-1))) rfl), hIG1, hIEV, trivial⟩
theorem vc_X12_use_1 {p1 z1 z8 : Int} (h0 : z8 = 0) (h1 : (z8 = 1 → 0 ≤ p1 ∧ p1 < z1)) (h2 : (z8 = 0 → p1 < 0 ∨ z1 ≤ p1)) (h3 : (-2147483648) ≤ p1 ∧ p1 ≤ 2147483647) (h4 : 0 ≤ z1 ∧ z1 ≤ 20) (h5 : 0 ≤ z8 ∧ z8 ≤ 1) : 0 ≤ z8 ∧ z8 ≤ 0 := by omega
theorem vc_X12_use_2 {p1 z1 z8 : Int} (h0 : (z8 = 1 → 0 ≤ p1 ∧ p1 < z1)) (h1 : (z8 = 0 → p1 < 0 ∨ z1 ≤ p1)) (h2 : z8 = 0) (h3 : (-2147483648) ≤ p1 ∧ p1 ≤ 2147483647) (h4 : 0 ≤ z1 ∧ z1 ≤ 20) (h5 : 0 ≤ z8 ∧ z8 ≤ 0) : z8 = 0 := by omega
theorem vc_X12_use_3 {p1 z1 z8 : Int} (h0 : ¬ z8 = 0) (h1 : (z8 = 1 → 0 ≤ p1 ∧ p1 < z1)) (h2 : (z8 = 0 → p1 < 0 ∨ z1 ≤ p1)) (h3 : (-2147483648) ≤ p1 ∧ p1 ≤ 2147483647) (h4 : 0 ≤ z1 ∧ z1 ≤ 20) (h5 : 0 ≤ z8 ∧ z8 ≤ 1) : 1 ≤ z8 ∧ z8 ≤ 1 := by omega
theorem vc_X12_use_4 {p1 z1 z8 : Int} (h0 : (z8 = 1 → 0 ≤ p1 ∧ p1 < z1)) (h1 : (z8 = 0 → p1 < 0 ∨ z1 ≤ p1)) (h2 : ¬ z8 = 0) (h3 : (-2147483648) ≤ p1 ∧ p1 ≤ 2147483647) (h4 : 0 ≤ z1 ∧ z1 ≤ 20) (h5 : 1 ≤ z8 ∧ z8 ≤ 1) : z8 = 1 := by omega
theorem vc_X12_use_5 {p1 z1 z8 : Int} (h0 : 0 ≤ p1 ∧ p1 < z1) (h1 : (z8 = 1 → 0 ≤ p1 ∧ p1 < z1)) (h2 : (z8 = 0 → p1 < 0 ∨ z1 ≤ p1)) (h3 : (-2147483648) ≤ p1 ∧ p1 ≤ 2147483647) (h4 : 0 ≤ z1 ∧ z1 ≤ 20) (h5 : 1 ≤ z8 ∧ z8 ≤ 1) : 0 ≤ p1 ∧ p1 ≤ 19 := by omega
theorem vc_X12_use_6 {p1 z1 z8 : Int} (h0 : 0 ≤ p1 ∧ p1 < z1) (h1 : (z8 = 1 → 0 ≤ p1 ∧ p1 < z1)) (h2 : (z8 = 0 → p1 < 0 ∨ z1 ≤ p1)) (h3 : 0 ≤ p1 ∧ p1 ≤ 19) (h4 : 0 ≤ z1 ∧ z1 ≤ 20) (h5 : 1 ≤ z8 ∧ z8 ≤ 1) : 1 ≤ z1 ∧ z1 ≤ 20 := by omega
theorem vc_X12_use_7 {p2 z20 : Int} (h0 : z20 = 0) (h1 : (z20 = 1 → (0 : Int) ≤ p2 ∧ p2 ≤ (1 : Int))) (h2 : (z20 = 0 → p2 < (0 : Int) ∨ (1 : Int) < p2)) (h3 : (-2147483648) ≤ p2 ∧ p2 ≤ 2147483647) (h4 : 0 ≤ z20 ∧ z20 ≤ 1) : 0 ≤ z20 ∧ z20 ≤ 0 := by omega
theorem vc_X12_use_8 {p2 z20 : Int} (h0 : (z20 = 1 → (0 : Int) ≤ p2 ∧ p2 ≤ (1 : Int))) (h1 : (z20 = 0 → p2 < (0 : Int) ∨ (1 : Int) < p2)) (h2 : z20 = 0) (h3 : (-2147483648) ≤ p2 ∧ p2 ≤ 2147483647) (h4 : 0 ≤ z20 ∧ z20 ≤ 0) : z20 = 0 := by omega
theorem vc_X12_use_9 {p2 z20 : Int} (h0 : ¬ z20 = 0) (h1 : (z20 = 1 → (0 : Int) ≤ p2 ∧ p2 ≤ (1 : Int))) (h2 : (z20 = 0 → p2 < (0 : Int) ∨ (1 : Int) < p2)) (h3 : (-2147483648) ≤ p2 ∧ p2 ≤ 2147483647) (h4 : 0 ≤ z20 ∧ z20 ≤ 1) : 1 ≤ z20 ∧ z20 ≤ 1 := by omega
theorem vc_X12_use_10 {p2 z20 : Int} (h0 : (z20 = 1 → (0 : Int) ≤ p2 ∧ p2 ≤ (1 : Int))) (h1 : (z20 = 0 → p2 < (0 : Int) ∨ (1 : Int) < p2)) (h2 : ¬ z20 = 0) (h3 : (-2147483648) ≤ p2 ∧ p2 ≤ 2147483647) (h4 : 1 ≤ z20 ∧ z20 ≤ 1) : z20 = 1 := by omega
theorem vc_X12_use_11 {p2 z20 : Int} (h0 : (0 : Int) ≤ p2 ∧ p2 ≤ (1 : Int)) (h1 : (z20 = 1 → (0 : Int) ≤ p2 ∧ p2 ≤ (1 : Int))) (h2 : (z20 = 0 → p2 < (0 : Int) ∨ (1 : Int) < p2)) (h3 : (-2147483648) ≤ p2 ∧ p2 ≤ 2147483647) (h4 : 1 ≤ z20 ∧ z20 ≤ 1) : 0 ≤ p2 ∧ p2 ≤ 1 := by omega
theorem vc_X12_use_12 {p3 z31 : Int} (h0 : z31 = 0) (h1 : (z31 = 1 → (0 : Int) ≤ p3 ∧ p3 ≤ (1 : Int))) (h2 : (z31 = 0 → p3 < (0 : Int) ∨ (1 : Int) < p3)) (h3 : (-2147483648) ≤ p3 ∧ p3 ≤ 2147483647) (h4 : 0 ≤ z31 ∧ z31 ≤ 1) : 0 ≤ z31 ∧ z31 ≤ 0 := by omega
theorem vc_X12_use_13 {p3 z31 : Int} (h0 : (z31 = 1 → (0 : Int) ≤ p3 ∧ p3 ≤ (1 : Int))) (h1 : (z31 = 0 → p3 < (0 : Int) ∨ (1 : Int) < p3)) (h2 : z31 = 0) (h3 : (-2147483648) ≤ p3 ∧ p3 ≤ 2147483647) (h4 : 0 ≤ z31 ∧ z31 ≤ 0) : z31 = 0 := by omega
theorem vc_X12_use_14 {p3 z31 : Int} (h0 : ¬ z31 = 0) (h1 : (z31 = 1 → (0 : Int) ≤ p3 ∧ p3 ≤ (1 : Int))) (h2 : (z31 = 0 → p3 < (0 : Int) ∨ (1 : Int) < p3)) (h3 : (-2147483648) ≤ p3 ∧ p3 ≤ 2147483647) (h4 : 0 ≤ z31 ∧ z31 ≤ 1) : 1 ≤ z31 ∧ z31 ≤ 1 := by omega
theorem vc_X12_use_15 {p3 z31 : Int} (h0 : (z31 = 1 → (0 : Int) ≤ p3 ∧ p3 ≤ (1 : Int))) (h1 : (z31 = 0 → p3 < (0 : Int) ∨ (1 : Int) < p3)) (h2 : ¬ z31 = 0) (h3 : (-2147483648) ≤ p3 ∧ p3 ≤ 2147483647) (h4 : 1 ≤ z31 ∧ z31 ≤ 1) : z31 = 1 := by omega
theorem vc_X12_use_16 {p3 z31 : Int} (h0 : (0 : Int) ≤ p3 ∧ p3 ≤ (1 : Int)) (h1 : (z31 = 1 → (0 : Int) ≤ p3 ∧ p3 ≤ (1 : Int))) (h2 : (z31 = 0 → p3 < (0 : Int) ∨ (1 : Int) < p3)) (h3 : (-2147483648) ≤ p3 ∧ p3 ≤ 2147483647) (h4 : 1 ≤ z31 ∧ z31 ≤ 1) : 0 ≤ p3 ∧ p3 ≤ 1 := by omega
theorem vc_X12_use_17 {p4 : Int} (h0 : p4 = (-99999999)) (h1 : (-2147483648) ≤ p4 ∧ p4 ≤ 2147483647) : (-99999999) ≤ p4 ∧ p4 ≤ (-99999999) := by omega
theorem vc_X12_use_18 {p4 : Int} (h0 : p4 = (-99999999)) (h1 : (-99999999) ≤ p4 ∧ p4 ≤ (-99999999)) : p4 = -99999999 ∨ (0 ≤ p4 ∧ p4 ≤ 11) := by omega
theorem vc_X12_use_19 {p4 z43 : Int} (h0 : p4 = (-99999999)) (h1 : (-99999999) ≤ p4 ∧ p4 ≤ (-99999999)) (h2 : 0 ≤ z43 ∧ z43 ≤ 12) : p4 = -99999999 ∨ (0 ≤ p4 ∧ p4 < z43) := by omega
theorem vc_X12_use_20 {p2 z20 : Int} (h0 : p2 = 0) (h1 : (z20 = 1 → (0 : Int) ≤ p2 ∧ p2 ≤ (1 : Int))) (h2 : (z20 = 0 → p2 < (0 : Int) ∨ (1 : Int) < p2)) (h3 : (0 : Int) ≤ p2 ∧ p2 ≤ (1 : Int)) (h4 : 0 ≤ p2 ∧ p2 ≤ 1) (h5 : 1 ≤ z20 ∧ z20 ≤ 1) : 0 ≤ p2 ∧ p2 ≤ 0 := by omega
theorem vc_X12_use_21 {p1 p2 z1 z20 z8 : Int} (h0 : (z8 = 1 → 0 ≤ p1 ∧ p1 < z1)) (h1 : (z8 = 0 → p1 < 0 ∨ z1 ≤ p1)) (h2 : 0 ≤ p1 ∧ p1 < z1) (h3 : (z20 = 1 → (0 : Int) ≤ p2 ∧ p2 ≤ (1 : Int))) (h4 : (z20 = 0 → p2 < (0 : Int) ∨ (1 : Int) < p2)) (h5 : (0 : Int) ≤ p2 ∧ p2 ≤ (1 : Int)) (h6 : p2 = 0) (h7 : ¬ z8 = 0) (h8 : ¬ z20 = 0) (h9 : 0 ≤ p1 ∧ p1 ≤ 19) (h10 : 0 ≤ p2 ∧ p2 ≤ 0) (h11 : 1 ≤ z1 ∧ z1 ≤ 20) (h12 : 1 ≤ z20 ∧ z20 ≤ 1) (h13 : 1 ≤ z8 ∧ z8 ≤ 1) : ((2 * p1) + p2) = (2 * p1) := by omega
theorem vc_X12_use_22 {p3 z31 : Int} (h0 : ¬ p3 = 0) (h1 : (z31 = 1 → (0 : Int) ≤ p3 ∧ p3 ≤ (1 : Int))) (h2 : (z31 = 0 → p3 < (0 : Int) ∨ (1 : Int) < p3)) (h3 : (0 : Int) ≤ p3 ∧ p3 ≤ (1 : Int)) (h4 : 0 ≤ p3 ∧ p3 ≤ 1) (h5 : 1 ≤ z31 ∧ z31 ≤ 1) : 1 ≤ p3 ∧ p3 ≤ 1 := by omega
theorem vc_X12_use_23 {p1 z1 z8 : Int} (h0 : (z8 = 1 → 0 ≤ p1 ∧ p1 < z1)) (h1 : (z8 = 0 → p1 < 0 ∨ z1 ≤ p1)) (h2 : 0 ≤ p1 ∧ p1 < z1) (h3 : ¬ z8 = 0) (h4 : 0 ≤ p1 ∧ p1 ≤ 19) (h5 : 1 ≤ z1 ∧ z1 ≤ 20) (h6 : 1 ≤ z8 ∧ z8 ≤ 1) : p1 < z1 := by omega
theorem vc_X12_use_24 {z47 z50 : Int} (h0 : 0 ≤ z47 ∧ z47 ≤ 9) (h1 : 0 ≤ z50 ∧ z50 ≤ 9) : z47 = z47 ∨ z50 = z47 := by omega
theorem vc_X12_use_25 {p3 z31 : Int} (h0 : p3 = 0) (h1 : (z31 = 1 → (0 : Int) ≤ p3 ∧ p3 ≤ (1 : Int))) (h2 : (z31 = 0 → p3 < (0 : Int) ∨ (1 : Int) < p3)) (h3 : (0 : Int) ≤ p3 ∧ p3 ≤ (1 : Int)) (h4 : 0 ≤ p3 ∧ p3 ≤ 1) (h5 : 1 ≤ z31 ∧ z31 ≤ 1) : 0 ≤ p3 ∧ p3 ≤ 0 := by omega
theorem vc_X12_use_26 {p2 z20 : Int} (h0 : ¬ p2 = 0) (h1 : (z20 = 1 → (0 : Int) ≤ p2 ∧ p2 ≤ (1 : Int))) (h2 : (z20 = 0 → p2 < (0 : Int) ∨ (1 : Int) < p2)) (h3 : (0 : Int) ≤ p2 ∧ p2 ≤ (1 : Int)) (h4 : 0 ≤ p2 ∧ p2 ≤ 1) (h5 : 1 ≤ z20 ∧ z20 ≤ 1) : 1 ≤ p2 ∧ p2 ≤ 1 := by omega
theorem vc_X12_use_27 {p1 p2 z1 z20 z8 : Int} (h0 : (z8 = 1 → 0 ≤ p1 ∧ p1 < z1)) (h1 : (z8 = 0 → p1 < 0 ∨ z1 ≤ p1)) (h2 : 0 ≤ p1 ∧ p1 < z1) (h3 : (z20 = 1 → (0 : Int) ≤ p2 ∧ p2 ≤ (1 : Int))) (h4 : (z20 = 0 → p2 < (0 : Int) ∨ (1 : Int) < p2)) (h5 : (0 : Int) ≤ p2 ∧ p2 ≤ (1 : Int)) (h6 : ¬ p2 = 0) (h7 : ¬ z8 = 0) (h8 : ¬ z20 = 0) (h9 : 0 ≤ p1 ∧ p1 ≤ 19) (h10 : 1 ≤ p2 ∧ p2 ≤ 1) (h11 : 1 ≤ z1 ∧ z1 ≤ 20) (h12 : 1 ≤ z20 ∧ z20 ≤ 1) (h13 : 1 ≤ z8 ∧ z8 ≤ 1) : ((2 * p1) + p2) = ((2 * p1) + 1) := by omega
theorem vc_X12_use_28 {z47 z50 : Int} (h0 : 0 ≤ z47 ∧ z47 ≤ 9) (h1 : 0 ≤ z50 ∧ z50 ≤ 9) : z47 = z50 ∨ z50 = z50 := by omega
theorem vc_X12_use_29 {p4 z105 z98 : Int} (h0 : ¬ z105 = 0) (h1 : (z105 = 1 → (0 : Int) ≤ p4 ∧ p4 ≤ (z98 - 1))) (h2 : (z105 = 0 → p4 < (0 : Int) ∨ (z98 - 1) < p4)) (h3 : (-2147483648) ≤ p4 ∧ p4 ≤ 2147483647) (h4 : 0 ≤ z105 ∧ z105 ≤ 1) (h5 : 0 ≤ z98 ∧ z98 ≤ 12) : 1 ≤ z105 ∧ z105 ≤ 1 := by omega
theorem vc_X12_use_30 {p4 z105 z98 : Int} (h0 : (z105 = 1 → (0 : Int) ≤ p4 ∧ p4 ≤ (z98 - 1))) (h1 : (z105 = 0 → p4 < (0 : Int) ∨ (z98 - 1) < p4)) (h2 : ¬ z105 = 0) (h3 : ¬ p4 = (-99999999)) (h4 : (-2147483648) ≤ p4 ∧ p4 ≤ 2147483647) (h5 : 1 ≤ z105 ∧ z105 ≤ 1) (h6 : 0 ≤ z98 ∧ z98 ≤ 12) : z105 = 1 := by omega
theorem vc_X12_use_31 {p4 z105 z98 : Int} (h0 : (0 : Int) ≤ p4 ∧ p4 ≤ (z98 - 1)) (h1 : ¬ p4 = (-99999999)) (h2 : (z105 = 1 → (0 : Int) ≤ p4 ∧ p4 ≤ (z98 - 1))) (h3 : (z105 = 0 → p4 < (0 : Int) ∨ (z98 - 1) < p4)) (h4 : (-2147483648) ≤ p4 ∧ p4 ≤ 2147483647) (h5 : 1 ≤ z105 ∧ z105 ≤ 1) (h6 : 0 ≤ z98 ∧ z98 ≤ 12) : 0 ≤ p4 ∧ p4 ≤ 2147483647 := by omega
theorem vc_X12_use_32 {p4 z105 z98 : Int} (h0 : ¬ p4 = (-99999999)) (h1 : (z105 = 1 → (0 : Int) ≤ p4 ∧ p4 ≤ (z98 - 1))) (h2 : (z105 = 0 → p4 < (0 : Int) ∨ (z98 - 1) < p4)) (h3 : (0 : Int) ≤ p4 ∧ p4 ≤ (z98 - 1)) (h4 : ¬ z105 = 0) (h5 : 0 ≤ p4 ∧ p4 ≤ 2147483647) (h6 : 1 ≤ z105 ∧ z105 ≤ 1) (h7 : 0 ≤ z98 ∧ z98 ≤ 12) : p4 = -99999999 ∨ (0 ≤ p4 ∧ p4 ≤ 11) := by omega
theorem vc_X12_use_33 {p4 z105 z98 : Int} (h0 : ¬ p4 = (-99999999)) (h1 : (z105 = 1 → (0 : Int) ≤ p4 ∧ p4 ≤ (z98 - 1))) (h2 : (z105 = 0 → p4 < (0 : Int) ∨ (z98 - 1) < p4)) (h3 : (0 : Int) ≤ p4 ∧ p4 ≤ (z98 - 1)) (h4 : ¬ z105 = 0) (h5 : 0 ≤ p4 ∧ p4 ≤ 2147483647) (h6 : 1 ≤ z105 ∧ z105 ≤ 1) (h7 : 0 ≤ z98 ∧ z98 ≤ 12) : p4 = -99999999 ∨ (0 ≤ p4 ∧ p4 < z98) := by omega
theorem vc_X12_use_34 {z114 z117 : Int} (h0 : 0 ≤ z114 ∧ z114 ≤ 9) (h1 : 0 ≤ z117 ∧ z117 ≤ 9) : z114 = z114 ∨ z117 = z114 := by omega
theorem vc_X12_use_35 {z114 z117 : Int} (h0 : 0 ≤ z114 ∧ z114 ≤ 9) (h1 : 0 ≤ z117 ∧ z117 ≤ 9) : z114 = z117 ∨ z117 = z117 := by omega
theorem vc_X12_use_36 {p4 z105 z98 : Int} (h0 : z105 = 0) (h1 : (z105 = 1 → (0 : Int) ≤ p4 ∧ p4 ≤ (z98 - 1))) (h2 : (z105 = 0 → p4 < (0 : Int) ∨ (z98 - 1) < p4)) (h3 : (-2147483648) ≤ p4 ∧ p4 ≤ 2147483647) (h4 : 0 ≤ z105 ∧ z105 ≤ 1) (h5 : 0 ≤ z98 ∧ z98 ≤ 12) : 0 ≤ z105 ∧ z105 ≤ 0 := by omega
theorem vc_X12_use_37 {p4 z105 z98 : Int} (h0 : (z105 = 1 → (0 : Int) ≤ p4 ∧ p4 ≤ (z98 - 1))) (h1 : (z105 = 0 → p4 < (0 : Int) ∨ (z98 - 1) < p4)) (h2 : z105 = 0) (h3 : ¬ p4 = (-99999999)) (h4 : (-2147483648) ≤ p4 ∧ p4 ≤ 2147483647) (h5 : 0 ≤ z105 ∧ z105 ≤ 0) (h6 : 0 ≤ z98 ∧ z98 ≤ 12) : z105 = 0 := by omega
set_option maxRecDepth 4000 in
set_option maxHeartbeats 4000000 in
theorem c_X12_use {l : Launch} {D : va_G} {c : Nat → ClassId} {H0 : Heap} {sa : Nat × Nat × (Nat → Int32)} {w : mW} {μ : mM} (hw : mWF w) (hT : mT w μ) {p1 : Int} (hp1 : (-2147483648) ≤ p1 ∧ p1 ≤ 2147483647) {p2 : Int} (hp2 : (-2147483648) ≤ p2 ∧ p2 ≤ 2147483647) {p3 : Int} (hp3 : (-2147483648) ≤ p3 ∧ p3 ≤ 2147483647) {p4 : Int} (hp4 : (-2147483648) ≤ p4 ∧ p4 ≤ 2147483647) (hIG1 : G1 μ) (hIEV : EV μ) (hIPK : PK μ) : sC (gG l D c H0 sa) mX12_use 12 0 0 [.ref 106, iv p1, iv p2, iv p3, iv p4] (mk w μ) (qI w [106026, 106027, 106028, 106029, 106030, 106031, 106072, 115999, 126999, 151999, 152999, 153999, 155999, 156999, 157999, 158999, 159999, 160999, 161999, 165999] μ (fun z μ1 => ((-2147483648) ≤ z ∧ z ≤ 2147483647) ∧ G1 μ1 ∧ EV μ1 ∧ PK μ1 ∧ True)) := by
  refine sC.of rfl (by decide) (le_t rfl) ?_
  refine mr_lvE (lv' := [(0, .ref 106), (1, iv p1), (2, iv p2), (3, iv p3), (4, iv p4)]) rfl ?_
  refine sv_aload_n (pc := 0) dX12_use_0 rfl rfl ?_
  refine mr_iload_n (pc := 1) (z := p1) dX12_use_1 rfl rfl ?_
  obtain ⟨z1, q2⟩ : ∃ z, μ 106 6 = z := ⟨_, rfl⟩
  have h3 : (0 ≤ z1 ∧ z1 ≤ 20) := by rw [← q2]; exact hT 106 106 (A_106 hw) 6
  refine mr_cVP (pc := 2) (c_X12_isTie hw hT hp1 q2) (gOk _ _ _ _ _) dX12_use_2 (tX12_isTie _ _ _ _ _) ⟨wV_X12_isTie, wL_X12_isTie⟩ wM_X12_66 (gCX12 _ _ _ _ _) rfl (A_106 hw) rfl ⟨le_t rfl, le_t rfl⟩ ⟨le_t rfl, le_t rfl⟩ rfl (le_t rfl) fun z8 h7 => ?_
  refine mr_if_eq (pc := 5) (tgt := 48) dX12_use_5 (by decide) (r32 h7.1 rfl) (fun h9 => ?_) (fun h9 => ?_)
  · have h10 : 0 ≤ z8 ∧ z8 ≤ 0 := (vc_X12_use_1 h9 h7.2.1 h7.2.2.1 hp1 h3 h7.1)
    have h11 : p1 < 0 ∨ z1 ≤ p1 := (h7.2.2.1 (vc_X12_use_2 h7.2.1 h7.2.2.1 h9 hp1 h3 h10))
    refine mr_iconst (pc := 48) (z := (-1)) dX12_use_48 ?_
    exact mr_iret dX12_use_49 rfl (le_t rfl) (le_t rfl) hT mF.refl ⟨(rW (c := (-2147483648)) (d := 2147483647) (rR (x := (-1))) rfl), hIG1, hIEV, hIPK, trivial⟩
  have h12 : 1 ≤ z8 ∧ z8 ≤ 1 := (vc_X12_use_3 h9 h7.2.1 h7.2.2.1 hp1 h3 h7.1)
  have h13 : 0 ≤ p1 ∧ p1 < z1 := (h7.2.1 (vc_X12_use_4 h7.2.1 h7.2.2.1 h9 hp1 h3 h12))
  have h14 : 0 ≤ p1 ∧ p1 ≤ 19 := (vc_X12_use_5 h13 h7.2.1 h7.2.2.1 hp1 h3 h12)
  have h15 : 1 ≤ z1 ∧ z1 ≤ 20 := (vc_X12_use_6 h13 h7.2.1 h7.2.2.1 h14 h3 h12)
  refine mr_iload_n (pc := 8) (z := p2) dX12_use_8 rfl rfl ?_
  refine mr_iconst (pc := 9) (z := 0) dX12_use_9 ?_
  refine mr_iconst (pc := 10) (z := 1) dX12_use_10 ?_
  refine mr_cSP (pc := 11) (c_X12_in hw hT hp2 (rW (c := (-2147483648)) (d := 2147483647) (rR (x := 0)) rfl) (rW (c := (-2147483648)) (d := 2147483647) (rR (x := 1)) rfl)) (gOk _ _ _ _ _) dX12_use_11 (tX12_in _ _ _ _ _) wS_X12_in wM_X12_18 ⟨le_t rfl, le_t rfl⟩ ⟨le_t rfl, le_t rfl⟩ rfl (le_t rfl) fun z20 h19 => ?_
  refine mr_if_eq (pc := 14) (tgt := 48) dX12_use_14 (by decide) (r32 h19.1 rfl) (fun h21 => ?_) (fun h21 => ?_)
  · have h22 : 0 ≤ z20 ∧ z20 ≤ 0 := (vc_X12_use_7 h21 h19.2.1 h19.2.2.1 hp2 h19.1)
    have h23 : p2 < (0 : Int) ∨ (1 : Int) < p2 := (h19.2.2.1 (vc_X12_use_8 h19.2.1 h19.2.2.1 h21 hp2 h22))
    refine mr_iconst (pc := 48) (z := (-1)) dX12_use_48 ?_
    exact mr_iret dX12_use_49 rfl (le_t rfl) (le_t rfl) hT mF.refl ⟨(rW (c := (-2147483648)) (d := 2147483647) (rR (x := (-1))) rfl), hIG1, hIEV, hIPK, trivial⟩
  have h24 : 1 ≤ z20 ∧ z20 ≤ 1 := (vc_X12_use_9 h21 h19.2.1 h19.2.2.1 hp2 h19.1)
  have h25 : (0 : Int) ≤ p2 ∧ p2 ≤ (1 : Int) := (h19.2.1 (vc_X12_use_10 h19.2.1 h19.2.2.1 h21 hp2 h24))
  have h26 : 0 ≤ p2 ∧ p2 ≤ 1 := (vc_X12_use_11 h25 h19.2.1 h19.2.2.1 hp2 h24)
  refine mr_iload_n (pc := 17) (z := p3) dX12_use_17 rfl rfl ?_
  refine mr_iconst (pc := 18) (z := 0) dX12_use_18 ?_
  refine mr_iconst (pc := 19) (z := 1) dX12_use_19 ?_
  refine mr_cSP (pc := 20) (c_X12_in hw hT hp3 (rW (c := (-2147483648)) (d := 2147483647) (rR (x := 0)) rfl) (rW (c := (-2147483648)) (d := 2147483647) (rR (x := 1)) rfl)) (gOk _ _ _ _ _) dX12_use_20 (tX12_in _ _ _ _ _) wS_X12_in wM_X12_18 ⟨le_t rfl, le_t rfl⟩ ⟨le_t rfl, le_t rfl⟩ rfl (le_t rfl) fun z31 h30 => ?_
  refine mr_if_eq (pc := 23) (tgt := 48) dX12_use_23 (by decide) (r32 h30.1 rfl) (fun h32 => ?_) (fun h32 => ?_)
  · have h33 : 0 ≤ z31 ∧ z31 ≤ 0 := (vc_X12_use_12 h32 h30.2.1 h30.2.2.1 hp3 h30.1)
    have h34 : p3 < (0 : Int) ∨ (1 : Int) < p3 := (h30.2.2.1 (vc_X12_use_13 h30.2.1 h30.2.2.1 h32 hp3 h33))
    refine mr_iconst (pc := 48) (z := (-1)) dX12_use_48 ?_
    exact mr_iret dX12_use_49 rfl (le_t rfl) (le_t rfl) hT mF.refl ⟨(rW (c := (-2147483648)) (d := 2147483647) (rR (x := (-1))) rfl), hIG1, hIEV, hIPK, trivial⟩
  have h35 : 1 ≤ z31 ∧ z31 ≤ 1 := (vc_X12_use_14 h32 h30.2.1 h30.2.2.1 hp3 h30.1)
  have h36 : (0 : Int) ≤ p3 ∧ p3 ≤ (1 : Int) := (h30.2.1 (vc_X12_use_15 h30.2.1 h30.2.2.1 h32 hp3 h35))
  have h37 : 0 ≤ p3 ∧ p3 ≤ 1 := (vc_X12_use_16 h36 h30.2.1 h30.2.2.1 hp3 h35)
  refine mr_iload (pc := 26) (z := p4) dX12_use_26 rfl ?_
  refine mr_ldc (pc := 28) (z := (-99999999)) dX12_use_28 wG_X12_29 (by decide) ?_
  refine mr_icmp_eq (pc := 30) (tgt := 50) dX12_use_30 (by decide) hp4 (r32 (rR (x := (-99999999))) rfl) (fun h38 => ?_) (fun h38 => ?_)
  · have h39 : (-99999999) ≤ p4 ∧ p4 ≤ (-99999999) := (vc_X12_use_17 h38 hp4)
    refine sv_aload_n (pc := 50) dX12_use_50 rfl rfl ?_
    refine gf_X12_12 (pc := 51) dX12_use_51 wF_X12_63 (A_106 hw) hT ?_
    refine mr_iconst (pc := 54) (z := 4) dX12_use_54 ?_
    refine mr_iload_n (pc := 55) (z := p1) dX12_use_55 rfl rfl ?_
    refine mr_imul (pc := 56) (x := 4) (y := p1) dX12_use_56 ?_
    refine mr_iconst (pc := 57) (z := 2) dX12_use_57 ?_
    refine mr_iload_n (pc := 58) (z := p2) dX12_use_58 rfl rfl ?_
    refine mr_imul (pc := 59) (x := 2) (y := p2) dX12_use_59 ?_
    refine mr_iadd (pc := 60) (x := (4 * p1)) (y := (2 * p2)) dX12_use_60 ?_
    refine mr_iload_n (pc := 61) (z := p3) dX12_use_61 rfl rfl ?_
    refine mr_iadd (pc := 62) (x := ((4 * p1) + (2 * p2))) (y := p3) dX12_use_62 ?_
    refine mr_iload (pc := 63) (z := p4) dX12_use_63 rfl ?_
    refine ss_115 (pc := 65) dX12_use_65 (A_115 hw) hT (rIx (n := 80) (rAdd (e := 0) (f := 79) (rAdd (e := 0) (f := 78) (rMulL (n := 4) (e := 0) (f := 76) h14 rfl) (rMulL (n := 2) (e := 0) (f := 2) h26 rfl) rfl) h37 rfl) rfl) (vc_X12_use_18 h38 h39) fun μ40 u41 T42 => ?_
    obtain ⟨z43, q44⟩ : ∃ z, μ40 106 39 = z := ⟨_, rfl⟩
    have h45 : (0 ≤ z43 ∧ z43 ≤ 12) := by rw [← q44]; exact T42 106 106 (A_106 hw) 39
    have I46 : PK μ40 := PK.use hIPK u41 (u41.2 106 39 (Or.inl (by decide)) ▸ q44) (vc_X12_use_19 h38 h39 h45)
    refine sv_aload_n (pc := 66) dX12_use_66 rfl rfl ?_
    refine gf_X12_7 (pc := 67) dX12_use_67 wF_X12_40 (A_106 hw) T42 ?_
    refine mr_iconst (pc := 70) (z := 2) dX12_use_70 ?_
    refine mr_iload_n (pc := 71) (z := p1) dX12_use_71 rfl rfl ?_
    refine mr_imul (pc := 72) (x := 2) (y := p1) dX12_use_72 ?_
    refine mr_iload_n (pc := 73) (z := p2) dX12_use_73 rfl rfl ?_
    refine mr_iadd (pc := 74) (x := (2 * p1)) (y := p2) dX12_use_74 ?_
    obtain ⟨z47, q48⟩ : ∃ z, μ40 110 ((2 * p1).toNat) = z := ⟨_, rfl⟩
    have h49 : (0 ≤ z47 ∧ z47 ≤ 9) := by rw [← q48]; exact T42 110 110 (A_110 hw) ((2 * p1).toNat)
    obtain ⟨z50, q51⟩ : ∃ z, μ40 110 (((2 * p1) + 1).toNat) = z := ⟨_, rfl⟩
    have h52 : (0 ≤ z50 ∧ z50 ≤ 9) := by rw [← q51]; exact T42 110 110 (A_110 hw) (((2 * p1) + 1).toNat)
    by_cases h53 : p2 = 0
    · have h54 : 0 ≤ p2 ∧ p2 ≤ 0 := (vc_X12_use_20 h53 h19.2.1 h19.2.2.1 h25 h26 h24)
      refine lk_110 (pc := 75) dX12_use_75 (A_110 hw) (rIx (n := 40) (rAdd (e := 0) (f := 38) (rMulL (n := 2) (e := 0) (f := 38) h14 rfl) h54 rfl) rfl) (ixE q48 (vc_X12_use_21 h7.2.1 h7.2.2.1 h13 h19.2.1 h19.2.2.1 h25 h53 h9 h21 h14 h54 h15 h24 h12)) ?_
      refine mr_istore (pc := 76) (lv' := [(5, iv z47), (0, .ref 106), (1, iv p1), (2, iv p2), (3, iv p3), (4, iv p4)]) dX12_use_76 (by decide) rfl ?_
      refine mr_iload_n (pc := 78) (z := p3) dX12_use_78 rfl rfl ?_
      refine mr_if_ne (pc := 79) (tgt := 91) dX12_use_79 (by decide) (r32 h37 rfl) (fun h65 => ?_) (fun h65 => ?_)
      · have h66 : 1 ≤ p3 ∧ p3 ≤ 1 := (vc_X12_use_22 h65 h30.2.1 h30.2.2.1 h36 h37 h35)
        refine sv_aload_n (pc := 91) dX12_use_91 rfl rfl ?_
        refine mr_iload (pc := 92) (z := z47) dX12_use_92 rfl ?_
        refine mr_iload_n (pc := 94) (z := p1) dX12_use_94 rfl rfl ?_
        refine mr_cVV (pc := 95) (c_X12_sayAll hw T42 h49 h14 q48 q51 (u41.f (Or.inl (mAt.ne (A_115 hw) (A_106 hw) rfl)) q2) (vc_X12_use_23 h7.2.1 h7.2.2.1 h13 h9 h14 h15 h12) (vc_X12_use_24 h49 h52) (G1.keep hIG1 hw ((mF.up mF.refl (A_115 hw) u41 rfl) : mF [115999] w μ μ40) rfl rfl ((mG.upO mG.refl u41 rfl) : mG [] μ μ40) (fun _ h => absurd h List.not_mem_nil)) (EV.keep hIEV hw ((mF.up mF.refl (A_115 hw) u41 rfl) : mF [115999] w μ μ40) rfl) I46) (gOk _ _ _ _ _) dX12_use_95 (tX12_sayAll _ _ _ _ _) ⟨wV_X12_sayAll, wL_X12_sayAll⟩ wM_X12_603 (gCX12 _ _ _ _ _) rfl (A_106 hw) rfl ⟨le_t rfl, le_t rfl⟩ ⟨le_t rfl, le_t rfl⟩ rfl (le_t rfl) fun μ67 T68 F69 h70 => ?_
        refine mr_iconst (pc := 98) (z := 0) dX12_use_98 ?_
        exact mr_iret dX12_use_99 rfl (le_t rfl) (le_t rfl) T68 (mF.call (mF.up mF.refl (A_115 hw) u41 rfl) F69 rfl) ⟨(rW (c := (-2147483648)) (d := 2147483647) (rR (x := 0)) rfl), h70.2.1, h70.2.2.1, (PK.keep I46 hw ((mF.call mF.refl F69 rfl) : mF [106026, 106027, 106028, 106029, 106030, 106031, 106072, 126999, 151999, 152999, 153999, 155999, 156999, 157999, 158999, 159999, 160999] w μ40 μ67) rfl), trivial⟩
      have h71 : 0 ≤ p3 ∧ p3 ≤ 0 := (vc_X12_use_25 h65 h30.2.1 h30.2.2.1 h36 h37 h35)
      refine sv_aload_n (pc := 82) dX12_use_82 rfl rfl ?_
      refine mr_iload (pc := 83) (z := z47) dX12_use_83 rfl ?_
      refine mr_cVV (pc := 85) (c_X12_lookAll hw T42 h49 (G1.keep hIG1 hw ((mF.up mF.refl (A_115 hw) u41 rfl) : mF [115999] w μ μ40) rfl rfl ((mG.upO mG.refl u41 rfl) : mG [] μ μ40) (fun _ h => absurd h List.not_mem_nil)) (EV.keep hIEV hw ((mF.up mF.refl (A_115 hw) u41 rfl) : mF [115999] w μ μ40) rfl) I46) (gOk _ _ _ _ _) dX12_use_85 (tX12_lookAll _ _ _ _ _) ⟨wV_X12_lookAll, wL_X12_lookAll⟩ wM_X12_600 (gCX12 _ _ _ _ _) rfl (A_106 hw) rfl ⟨le_t rfl, le_t rfl⟩ ⟨le_t rfl, le_t rfl⟩ rfl (le_t rfl) fun μ72 T73 F74 h75 => ?_
      refine sv_goto (pc := 88) (tgt := 98) dX12_use_88 (by decide) ?_
      refine mr_iconst (pc := 98) (z := 0) dX12_use_98 ?_
      exact mr_iret dX12_use_99 rfl (le_t rfl) (le_t rfl) T73 (mF.call (mF.up mF.refl (A_115 hw) u41 rfl) F74 rfl) ⟨(rW (c := (-2147483648)) (d := 2147483647) (rR (x := 0)) rfl), h75.2.1, h75.2.2.1, (PK.keep I46 hw ((mF.call mF.refl F74 rfl) : mF [106026, 106027, 106028, 106029, 106030, 106031, 106072, 126999, 151999, 152999, 153999, 155999, 156999, 157999, 158999, 159999, 160999, 161999, 165999] w μ40 μ72) rfl), trivial⟩
    have h76 : 1 ≤ p2 ∧ p2 ≤ 1 := (vc_X12_use_26 h53 h19.2.1 h19.2.2.1 h25 h26 h24)
    refine lk_110 (pc := 75) dX12_use_75 (A_110 hw) (rIx (n := 40) (rAdd (e := 1) (f := 39) (rMulL (n := 2) (e := 0) (f := 38) h14 rfl) h76 rfl) rfl) (ixE q51 (vc_X12_use_27 h7.2.1 h7.2.2.1 h13 h19.2.1 h19.2.2.1 h25 h53 h9 h21 h14 h76 h15 h24 h12)) ?_
    refine mr_istore (pc := 76) (lv' := [(5, iv z50), (0, .ref 106), (1, iv p1), (2, iv p2), (3, iv p3), (4, iv p4)]) dX12_use_76 (by decide) rfl ?_
    refine mr_iload_n (pc := 78) (z := p3) dX12_use_78 rfl rfl ?_
    refine mr_if_ne (pc := 79) (tgt := 91) dX12_use_79 (by decide) (r32 h37 rfl) (fun h87 => ?_) (fun h87 => ?_)
    · have h88 : 1 ≤ p3 ∧ p3 ≤ 1 := (vc_X12_use_22 h87 h30.2.1 h30.2.2.1 h36 h37 h35)
      refine sv_aload_n (pc := 91) dX12_use_91 rfl rfl ?_
      refine mr_iload (pc := 92) (z := z50) dX12_use_92 rfl ?_
      refine mr_iload_n (pc := 94) (z := p1) dX12_use_94 rfl rfl ?_
      refine mr_cVV (pc := 95) (c_X12_sayAll hw T42 h52 h14 q48 q51 (u41.f (Or.inl (mAt.ne (A_115 hw) (A_106 hw) rfl)) q2) (vc_X12_use_23 h7.2.1 h7.2.2.1 h13 h9 h14 h15 h12) (vc_X12_use_28 h49 h52) (G1.keep hIG1 hw ((mF.up mF.refl (A_115 hw) u41 rfl) : mF [115999] w μ μ40) rfl rfl ((mG.upO mG.refl u41 rfl) : mG [] μ μ40) (fun _ h => absurd h List.not_mem_nil)) (EV.keep hIEV hw ((mF.up mF.refl (A_115 hw) u41 rfl) : mF [115999] w μ μ40) rfl) I46) (gOk _ _ _ _ _) dX12_use_95 (tX12_sayAll _ _ _ _ _) ⟨wV_X12_sayAll, wL_X12_sayAll⟩ wM_X12_603 (gCX12 _ _ _ _ _) rfl (A_106 hw) rfl ⟨le_t rfl, le_t rfl⟩ ⟨le_t rfl, le_t rfl⟩ rfl (le_t rfl) fun μ89 T90 F91 h92 => ?_
      refine mr_iconst (pc := 98) (z := 0) dX12_use_98 ?_
      exact mr_iret dX12_use_99 rfl (le_t rfl) (le_t rfl) T90 (mF.call (mF.up mF.refl (A_115 hw) u41 rfl) F91 rfl) ⟨(rW (c := (-2147483648)) (d := 2147483647) (rR (x := 0)) rfl), h92.2.1, h92.2.2.1, (PK.keep I46 hw ((mF.call mF.refl F91 rfl) : mF [106026, 106027, 106028, 106029, 106030, 106031, 106072, 126999, 151999, 152999, 153999, 155999, 156999, 157999, 158999, 159999, 160999] w μ40 μ89) rfl), trivial⟩
    have h93 : 0 ≤ p3 ∧ p3 ≤ 0 := (vc_X12_use_25 h87 h30.2.1 h30.2.2.1 h36 h37 h35)
    refine sv_aload_n (pc := 82) dX12_use_82 rfl rfl ?_
    refine mr_iload (pc := 83) (z := z50) dX12_use_83 rfl ?_
    refine mr_cVV (pc := 85) (c_X12_lookAll hw T42 h52 (G1.keep hIG1 hw ((mF.up mF.refl (A_115 hw) u41 rfl) : mF [115999] w μ μ40) rfl rfl ((mG.upO mG.refl u41 rfl) : mG [] μ μ40) (fun _ h => absurd h List.not_mem_nil)) (EV.keep hIEV hw ((mF.up mF.refl (A_115 hw) u41 rfl) : mF [115999] w μ μ40) rfl) I46) (gOk _ _ _ _ _) dX12_use_85 (tX12_lookAll _ _ _ _ _) ⟨wV_X12_lookAll, wL_X12_lookAll⟩ wM_X12_600 (gCX12 _ _ _ _ _) rfl (A_106 hw) rfl ⟨le_t rfl, le_t rfl⟩ ⟨le_t rfl, le_t rfl⟩ rfl (le_t rfl) fun μ94 T95 F96 h97 => ?_
    refine sv_goto (pc := 88) (tgt := 98) dX12_use_88 (by decide) ?_
    refine mr_iconst (pc := 98) (z := 0) dX12_use_98 ?_
    exact mr_iret dX12_use_99 rfl (le_t rfl) (le_t rfl) T95 (mF.call (mF.up mF.refl (A_115 hw) u41 rfl) F96 rfl) ⟨(rW (c := (-2147483648)) (d := 2147483647) (rR (x := 0)) rfl), h97.2.1, h97.2.2.1, (PK.keep I46 hw ((mF.call mF.refl F96 rfl) : mF [106026, 106027, 106028, 106029, 106030, 106031, 106072, 126999, 151999, 152999, 153999, 155999, 156999, 157999, 158999, 159999, 160999, 161999, 165999] w μ40 μ94) rfl), trivial⟩
  refine mr_iload (pc := 33) (z := p4) dX12_use_33 rfl ?_
  refine mr_iconst (pc := 35) (z := 0) dX12_use_35 ?_
  refine sv_aload_n (pc := 36) dX12_use_36 rfl rfl ?_
  refine gf_X12_39 (pc := 37) dX12_use_37 wF_X12_355 (A_106 hw) hT fun z98 q99 h100 => ?_
  refine mr_iconst (pc := 40) (z := 1) dX12_use_40 ?_
  refine mr_isub (pc := 41) (x := z98) (y := 1) dX12_use_41 ?_
  refine mr_cSP (pc := 42) (c_X12_in hw hT hp4 (rW (c := (-2147483648)) (d := 2147483647) (rR (x := 0)) rfl) (rW (c := (-2147483648)) (d := 2147483647) (rSub (e := (-1)) (f := 11) h100 (rR (x := 1)) rfl) rfl)) (gOk _ _ _ _ _) dX12_use_42 (tX12_in _ _ _ _ _) wS_X12_in wM_X12_18 ⟨le_t rfl, le_t rfl⟩ ⟨le_t rfl, le_t rfl⟩ rfl (le_t rfl) fun z105 h104 => ?_
  refine mr_if_ne (pc := 45) (tgt := 50) dX12_use_45 (by decide) (r32 h104.1 rfl) (fun h106 => ?_) (fun h106 => ?_)
  · have h107 : 1 ≤ z105 ∧ z105 ≤ 1 := (vc_X12_use_29 h106 h104.2.1 h104.2.2.1 hp4 h104.1 h100)
    have h108 : (0 : Int) ≤ p4 ∧ p4 ≤ (z98 - 1) := (h104.2.1 (vc_X12_use_30 h104.2.1 h104.2.2.1 h106 h38 hp4 h107 h100))
    have h109 : 0 ≤ p4 ∧ p4 ≤ 2147483647 := (vc_X12_use_31 h108 h38 h104.2.1 h104.2.2.1 hp4 h107 h100)
    refine sv_aload_n (pc := 50) dX12_use_50 rfl rfl ?_
    refine gf_X12_12 (pc := 51) dX12_use_51 wF_X12_63 (A_106 hw) hT ?_
    refine mr_iconst (pc := 54) (z := 4) dX12_use_54 ?_
    refine mr_iload_n (pc := 55) (z := p1) dX12_use_55 rfl rfl ?_
    refine mr_imul (pc := 56) (x := 4) (y := p1) dX12_use_56 ?_
    refine mr_iconst (pc := 57) (z := 2) dX12_use_57 ?_
    refine mr_iload_n (pc := 58) (z := p2) dX12_use_58 rfl rfl ?_
    refine mr_imul (pc := 59) (x := 2) (y := p2) dX12_use_59 ?_
    refine mr_iadd (pc := 60) (x := (4 * p1)) (y := (2 * p2)) dX12_use_60 ?_
    refine mr_iload_n (pc := 61) (z := p3) dX12_use_61 rfl rfl ?_
    refine mr_iadd (pc := 62) (x := ((4 * p1) + (2 * p2))) (y := p3) dX12_use_62 ?_
    refine mr_iload (pc := 63) (z := p4) dX12_use_63 rfl ?_
    refine ss_115 (pc := 65) dX12_use_65 (A_115 hw) hT (rIx (n := 80) (rAdd (e := 0) (f := 79) (rAdd (e := 0) (f := 78) (rMulL (n := 4) (e := 0) (f := 76) h14 rfl) (rMulL (n := 2) (e := 0) (f := 2) h26 rfl) rfl) h37 rfl) rfl) (vc_X12_use_32 h38 h104.2.1 h104.2.2.1 h108 h106 h109 h107 h100) fun μ110 u111 T112 => ?_
    have I113 : PK μ110 := PK.use hIPK u111 (u111.2 106 39 (Or.inl (by decide)) ▸ (u111.f (Or.inl (mAt.ne (A_115 hw) (A_106 hw) rfl)) q99)) (vc_X12_use_33 h38 h104.2.1 h104.2.2.1 h108 h106 h109 h107 h100)
    refine sv_aload_n (pc := 66) dX12_use_66 rfl rfl ?_
    refine gf_X12_7 (pc := 67) dX12_use_67 wF_X12_40 (A_106 hw) T112 ?_
    refine mr_iconst (pc := 70) (z := 2) dX12_use_70 ?_
    refine mr_iload_n (pc := 71) (z := p1) dX12_use_71 rfl rfl ?_
    refine mr_imul (pc := 72) (x := 2) (y := p1) dX12_use_72 ?_
    refine mr_iload_n (pc := 73) (z := p2) dX12_use_73 rfl rfl ?_
    refine mr_iadd (pc := 74) (x := (2 * p1)) (y := p2) dX12_use_74 ?_
    obtain ⟨z114, q115⟩ : ∃ z, μ110 110 ((2 * p1).toNat) = z := ⟨_, rfl⟩
    have h116 : (0 ≤ z114 ∧ z114 ≤ 9) := by rw [← q115]; exact T112 110 110 (A_110 hw) ((2 * p1).toNat)
    obtain ⟨z117, q118⟩ : ∃ z, μ110 110 (((2 * p1) + 1).toNat) = z := ⟨_, rfl⟩
    have h119 : (0 ≤ z117 ∧ z117 ≤ 9) := by rw [← q118]; exact T112 110 110 (A_110 hw) (((2 * p1) + 1).toNat)
    by_cases h120 : p2 = 0
    · have h121 : 0 ≤ p2 ∧ p2 ≤ 0 := (vc_X12_use_20 h120 h19.2.1 h19.2.2.1 h25 h26 h24)
      refine lk_110 (pc := 75) dX12_use_75 (A_110 hw) (rIx (n := 40) (rAdd (e := 0) (f := 38) (rMulL (n := 2) (e := 0) (f := 38) h14 rfl) h121 rfl) rfl) (ixE q115 (vc_X12_use_21 h7.2.1 h7.2.2.1 h13 h19.2.1 h19.2.2.1 h25 h120 h9 h21 h14 h121 h15 h24 h12)) ?_
      refine mr_istore (pc := 76) (lv' := [(5, iv z114), (0, .ref 106), (1, iv p1), (2, iv p2), (3, iv p3), (4, iv p4)]) dX12_use_76 (by decide) rfl ?_
      refine mr_iload_n (pc := 78) (z := p3) dX12_use_78 rfl rfl ?_
      refine mr_if_ne (pc := 79) (tgt := 91) dX12_use_79 (by decide) (r32 h37 rfl) (fun h132 => ?_) (fun h132 => ?_)
      · have h133 : 1 ≤ p3 ∧ p3 ≤ 1 := (vc_X12_use_22 h132 h30.2.1 h30.2.2.1 h36 h37 h35)
        refine sv_aload_n (pc := 91) dX12_use_91 rfl rfl ?_
        refine mr_iload (pc := 92) (z := z114) dX12_use_92 rfl ?_
        refine mr_iload_n (pc := 94) (z := p1) dX12_use_94 rfl rfl ?_
        refine mr_cVV (pc := 95) (c_X12_sayAll hw T112 h116 h14 q115 q118 (u111.f (Or.inl (mAt.ne (A_115 hw) (A_106 hw) rfl)) q2) (vc_X12_use_23 h7.2.1 h7.2.2.1 h13 h9 h14 h15 h12) (vc_X12_use_34 h116 h119) (G1.keep hIG1 hw ((mF.up mF.refl (A_115 hw) u111 rfl) : mF [115999] w μ μ110) rfl rfl ((mG.upO mG.refl u111 rfl) : mG [] μ μ110) (fun _ h => absurd h List.not_mem_nil)) (EV.keep hIEV hw ((mF.up mF.refl (A_115 hw) u111 rfl) : mF [115999] w μ μ110) rfl) I113) (gOk _ _ _ _ _) dX12_use_95 (tX12_sayAll _ _ _ _ _) ⟨wV_X12_sayAll, wL_X12_sayAll⟩ wM_X12_603 (gCX12 _ _ _ _ _) rfl (A_106 hw) rfl ⟨le_t rfl, le_t rfl⟩ ⟨le_t rfl, le_t rfl⟩ rfl (le_t rfl) fun μ134 T135 F136 h137 => ?_
        refine mr_iconst (pc := 98) (z := 0) dX12_use_98 ?_
        exact mr_iret dX12_use_99 rfl (le_t rfl) (le_t rfl) T135 (mF.call (mF.up mF.refl (A_115 hw) u111 rfl) F136 rfl) ⟨(rW (c := (-2147483648)) (d := 2147483647) (rR (x := 0)) rfl), h137.2.1, h137.2.2.1, (PK.keep I113 hw ((mF.call mF.refl F136 rfl) : mF [106026, 106027, 106028, 106029, 106030, 106031, 106072, 126999, 151999, 152999, 153999, 155999, 156999, 157999, 158999, 159999, 160999] w μ110 μ134) rfl), trivial⟩
      have h138 : 0 ≤ p3 ∧ p3 ≤ 0 := (vc_X12_use_25 h132 h30.2.1 h30.2.2.1 h36 h37 h35)
      refine sv_aload_n (pc := 82) dX12_use_82 rfl rfl ?_
      refine mr_iload (pc := 83) (z := z114) dX12_use_83 rfl ?_
      refine mr_cVV (pc := 85) (c_X12_lookAll hw T112 h116 (G1.keep hIG1 hw ((mF.up mF.refl (A_115 hw) u111 rfl) : mF [115999] w μ μ110) rfl rfl ((mG.upO mG.refl u111 rfl) : mG [] μ μ110) (fun _ h => absurd h List.not_mem_nil)) (EV.keep hIEV hw ((mF.up mF.refl (A_115 hw) u111 rfl) : mF [115999] w μ μ110) rfl) I113) (gOk _ _ _ _ _) dX12_use_85 (tX12_lookAll _ _ _ _ _) ⟨wV_X12_lookAll, wL_X12_lookAll⟩ wM_X12_600 (gCX12 _ _ _ _ _) rfl (A_106 hw) rfl ⟨le_t rfl, le_t rfl⟩ ⟨le_t rfl, le_t rfl⟩ rfl (le_t rfl) fun μ139 T140 F141 h142 => ?_
      refine sv_goto (pc := 88) (tgt := 98) dX12_use_88 (by decide) ?_
      refine mr_iconst (pc := 98) (z := 0) dX12_use_98 ?_
      exact mr_iret dX12_use_99 rfl (le_t rfl) (le_t rfl) T140 (mF.call (mF.up mF.refl (A_115 hw) u111 rfl) F141 rfl) ⟨(rW (c := (-2147483648)) (d := 2147483647) (rR (x := 0)) rfl), h142.2.1, h142.2.2.1, (PK.keep I113 hw ((mF.call mF.refl F141 rfl) : mF [106026, 106027, 106028, 106029, 106030, 106031, 106072, 126999, 151999, 152999, 153999, 155999, 156999, 157999, 158999, 159999, 160999, 161999, 165999] w μ110 μ139) rfl), trivial⟩
    have h143 : 1 ≤ p2 ∧ p2 ≤ 1 := (vc_X12_use_26 h120 h19.2.1 h19.2.2.1 h25 h26 h24)
    refine lk_110 (pc := 75) dX12_use_75 (A_110 hw) (rIx (n := 40) (rAdd (e := 1) (f := 39) (rMulL (n := 2) (e := 0) (f := 38) h14 rfl) h143 rfl) rfl) (ixE q118 (vc_X12_use_27 h7.2.1 h7.2.2.1 h13 h19.2.1 h19.2.2.1 h25 h120 h9 h21 h14 h143 h15 h24 h12)) ?_
    refine mr_istore (pc := 76) (lv' := [(5, iv z117), (0, .ref 106), (1, iv p1), (2, iv p2), (3, iv p3), (4, iv p4)]) dX12_use_76 (by decide) rfl ?_
    refine mr_iload_n (pc := 78) (z := p3) dX12_use_78 rfl rfl ?_
    refine mr_if_ne (pc := 79) (tgt := 91) dX12_use_79 (by decide) (r32 h37 rfl) (fun h154 => ?_) (fun h154 => ?_)
    · have h155 : 1 ≤ p3 ∧ p3 ≤ 1 := (vc_X12_use_22 h154 h30.2.1 h30.2.2.1 h36 h37 h35)
      refine sv_aload_n (pc := 91) dX12_use_91 rfl rfl ?_
      refine mr_iload (pc := 92) (z := z117) dX12_use_92 rfl ?_
      refine mr_iload_n (pc := 94) (z := p1) dX12_use_94 rfl rfl ?_
      refine mr_cVV (pc := 95) (c_X12_sayAll hw T112 h119 h14 q115 q118 (u111.f (Or.inl (mAt.ne (A_115 hw) (A_106 hw) rfl)) q2) (vc_X12_use_23 h7.2.1 h7.2.2.1 h13 h9 h14 h15 h12) (vc_X12_use_35 h116 h119) (G1.keep hIG1 hw ((mF.up mF.refl (A_115 hw) u111 rfl) : mF [115999] w μ μ110) rfl rfl ((mG.upO mG.refl u111 rfl) : mG [] μ μ110) (fun _ h => absurd h List.not_mem_nil)) (EV.keep hIEV hw ((mF.up mF.refl (A_115 hw) u111 rfl) : mF [115999] w μ μ110) rfl) I113) (gOk _ _ _ _ _) dX12_use_95 (tX12_sayAll _ _ _ _ _) ⟨wV_X12_sayAll, wL_X12_sayAll⟩ wM_X12_603 (gCX12 _ _ _ _ _) rfl (A_106 hw) rfl ⟨le_t rfl, le_t rfl⟩ ⟨le_t rfl, le_t rfl⟩ rfl (le_t rfl) fun μ156 T157 F158 h159 => ?_
      refine mr_iconst (pc := 98) (z := 0) dX12_use_98 ?_
      exact mr_iret dX12_use_99 rfl (le_t rfl) (le_t rfl) T157 (mF.call (mF.up mF.refl (A_115 hw) u111 rfl) F158 rfl) ⟨(rW (c := (-2147483648)) (d := 2147483647) (rR (x := 0)) rfl), h159.2.1, h159.2.2.1, (PK.keep I113 hw ((mF.call mF.refl F158 rfl) : mF [106026, 106027, 106028, 106029, 106030, 106031, 106072, 126999, 151999, 152999, 153999, 155999, 156999, 157999, 158999, 159999, 160999] w μ110 μ156) rfl), trivial⟩
    have h160 : 0 ≤ p3 ∧ p3 ≤ 0 := (vc_X12_use_25 h154 h30.2.1 h30.2.2.1 h36 h37 h35)
    refine sv_aload_n (pc := 82) dX12_use_82 rfl rfl ?_
    refine mr_iload (pc := 83) (z := z117) dX12_use_83 rfl ?_
    refine mr_cVV (pc := 85) (c_X12_lookAll hw T112 h119 (G1.keep hIG1 hw ((mF.up mF.refl (A_115 hw) u111 rfl) : mF [115999] w μ μ110) rfl rfl ((mG.upO mG.refl u111 rfl) : mG [] μ μ110) (fun _ h => absurd h List.not_mem_nil)) (EV.keep hIEV hw ((mF.up mF.refl (A_115 hw) u111 rfl) : mF [115999] w μ μ110) rfl) I113) (gOk _ _ _ _ _) dX12_use_85 (tX12_lookAll _ _ _ _ _) ⟨wV_X12_lookAll, wL_X12_lookAll⟩ wM_X12_600 (gCX12 _ _ _ _ _) rfl (A_106 hw) rfl ⟨le_t rfl, le_t rfl⟩ ⟨le_t rfl, le_t rfl⟩ rfl (le_t rfl) fun μ161 T162 F163 h164 => ?_
    refine sv_goto (pc := 88) (tgt := 98) dX12_use_88 (by decide) ?_
    refine mr_iconst (pc := 98) (z := 0) dX12_use_98 ?_
    exact mr_iret dX12_use_99 rfl (le_t rfl) (le_t rfl) T162 (mF.call (mF.up mF.refl (A_115 hw) u111 rfl) F163 rfl) ⟨(rW (c := (-2147483648)) (d := 2147483647) (rR (x := 0)) rfl), h164.2.1, h164.2.2.1, (PK.keep I113 hw ((mF.call mF.refl F163 rfl) : mF [106026, 106027, 106028, 106029, 106030, 106031, 106072, 126999, 151999, 152999, 153999, 155999, 156999, 157999, 158999, 159999, 160999, 161999, 165999] w μ110 μ161) rfl), trivial⟩
  have h165 : 0 ≤ z105 ∧ z105 ≤ 0 := (vc_X12_use_36 h106 h104.2.1 h104.2.2.1 hp4 h104.1 h100)
  have h166 : p4 < (0 : Int) ∨ (z98 - 1) < p4 := (h104.2.2.1 (vc_X12_use_37 h104.2.1 h104.2.2.1 h106 h38 hp4 h165 h100))
  refine mr_iconst (pc := 48) (z := (-1)) dX12_use_48 ?_
  exact mr_iret dX12_use_49 rfl (le_t rfl) (le_t rfl) hT mF.refl ⟨(rW (c := (-2147483648)) (d := 2147483647) (rR (x := (-1))) rfl), hIG1, hIEV, hIPK, trivial⟩
theorem vc_X12_tie_pk_1 {p1 z256 z263 : Int} (h0 : z263 = 0) (h1 : (z263 = 1 → 0 ≤ p1 ∧ p1 < z256)) (h2 : (z263 = 0 → p1 < 0 ∨ z256 ≤ p1)) (h3 : (-2147483648) ≤ p1 ∧ p1 ≤ 2147483647) (h4 : 0 ≤ z256 ∧ z256 ≤ 10) (h5 : 0 ≤ z263 ∧ z263 ≤ 1) : 0 ≤ z263 ∧ z263 ≤ 0 := by omega
theorem vc_X12_tie_pk_2 {p1 z256 z263 : Int} (h0 : (z263 = 1 → 0 ≤ p1 ∧ p1 < z256)) (h1 : (z263 = 0 → p1 < 0 ∨ z256 ≤ p1)) (h2 : z263 = 0) (h3 : (-2147483648) ≤ p1 ∧ p1 ≤ 2147483647) (h4 : 0 ≤ z256 ∧ z256 ≤ 10) (h5 : 0 ≤ z263 ∧ z263 ≤ 0) : z263 = 0 := by omega
theorem vc_X12_tie_pk_3 {p1 z256 z263 : Int} (h0 : ¬ z263 = 0) (h1 : (z263 = 1 → 0 ≤ p1 ∧ p1 < z256)) (h2 : (z263 = 0 → p1 < 0 ∨ z256 ≤ p1)) (h3 : (-2147483648) ≤ p1 ∧ p1 ≤ 2147483647) (h4 : 0 ≤ z256 ∧ z256 ≤ 10) (h5 : 0 ≤ z263 ∧ z263 ≤ 1) : 1 ≤ z263 ∧ z263 ≤ 1 := by omega
theorem vc_X12_tie_pk_4 {p1 z256 z263 : Int} (h0 : (z263 = 1 → 0 ≤ p1 ∧ p1 < z256)) (h1 : (z263 = 0 → p1 < 0 ∨ z256 ≤ p1)) (h2 : ¬ z263 = 0) (h3 : (-2147483648) ≤ p1 ∧ p1 ≤ 2147483647) (h4 : 0 ≤ z256 ∧ z256 ≤ 10) (h5 : 1 ≤ z263 ∧ z263 ≤ 1) : z263 = 1 := by omega
theorem vc_X12_tie_pk_5 {p1 z256 z263 : Int} (h0 : 0 ≤ p1 ∧ p1 < z256) (h1 : (z263 = 1 → 0 ≤ p1 ∧ p1 < z256)) (h2 : (z263 = 0 → p1 < 0 ∨ z256 ≤ p1)) (h3 : (-2147483648) ≤ p1 ∧ p1 ≤ 2147483647) (h4 : 0 ≤ z256 ∧ z256 ≤ 10) (h5 : 1 ≤ z263 ∧ z263 ≤ 1) : 0 ≤ p1 ∧ p1 ≤ 9 := by omega
theorem vc_X12_tie_pk_6 {p2 z256 z274 : Int} (h0 : z274 = 0) (h1 : (z274 = 1 → 0 ≤ p2 ∧ p2 < z256)) (h2 : (z274 = 0 → p2 < 0 ∨ z256 ≤ p2)) (h3 : (-2147483648) ≤ p2 ∧ p2 ≤ 2147483647) (h4 : 0 ≤ z256 ∧ z256 ≤ 10) (h5 : 0 ≤ z274 ∧ z274 ≤ 1) : 0 ≤ z274 ∧ z274 ≤ 0 := by omega
theorem vc_X12_tie_pk_7 {p1 p2 z256 z263 z274 : Int} (h0 : (z274 = 1 → 0 ≤ p2 ∧ p2 < z256)) (h1 : (z274 = 0 → p2 < 0 ∨ z256 ≤ p2)) (h2 : z274 = 0) (h3 : (z263 = 1 → 0 ≤ p1 ∧ p1 < z256)) (h4 : (z263 = 0 → p1 < 0 ∨ z256 ≤ p1)) (h5 : 0 ≤ p1 ∧ p1 < z256) (h6 : 0 ≤ p1 ∧ p1 ≤ 9) (h7 : (-2147483648) ≤ p2 ∧ p2 ≤ 2147483647) (h8 : 0 ≤ z256 ∧ z256 ≤ 10) (h9 : 1 ≤ z263 ∧ z263 ≤ 1) (h10 : 0 ≤ z274 ∧ z274 ≤ 0) : z274 = 0 := by omega
theorem vc_X12_tie_pk_8 {p2 z256 z274 : Int} (h0 : ¬ z274 = 0) (h1 : (z274 = 1 → 0 ≤ p2 ∧ p2 < z256)) (h2 : (z274 = 0 → p2 < 0 ∨ z256 ≤ p2)) (h3 : (-2147483648) ≤ p2 ∧ p2 ≤ 2147483647) (h4 : 0 ≤ z256 ∧ z256 ≤ 10) (h5 : 0 ≤ z274 ∧ z274 ≤ 1) : 1 ≤ z274 ∧ z274 ≤ 1 := by omega
theorem vc_X12_tie_pk_9 {p1 p2 z256 z263 z274 : Int} (h0 : (z274 = 1 → 0 ≤ p2 ∧ p2 < z256)) (h1 : (z274 = 0 → p2 < 0 ∨ z256 ≤ p2)) (h2 : ¬ z274 = 0) (h3 : (z263 = 1 → 0 ≤ p1 ∧ p1 < z256)) (h4 : (z263 = 0 → p1 < 0 ∨ z256 ≤ p1)) (h5 : 0 ≤ p1 ∧ p1 < z256) (h6 : 0 ≤ p1 ∧ p1 ≤ 9) (h7 : (-2147483648) ≤ p2 ∧ p2 ≤ 2147483647) (h8 : 0 ≤ z256 ∧ z256 ≤ 10) (h9 : 1 ≤ z263 ∧ z263 ≤ 1) (h10 : 1 ≤ z274 ∧ z274 ≤ 1) : z274 = 1 := by omega
theorem vc_X12_tie_pk_10 {p1 p2 z256 z263 z274 : Int} (h0 : 0 ≤ p2 ∧ p2 < z256) (h1 : (z263 = 1 → 0 ≤ p1 ∧ p1 < z256)) (h2 : (z263 = 0 → p1 < 0 ∨ z256 ≤ p1)) (h3 : 0 ≤ p1 ∧ p1 < z256) (h4 : (z274 = 1 → 0 ≤ p2 ∧ p2 < z256)) (h5 : (z274 = 0 → p2 < 0 ∨ z256 ≤ p2)) (h6 : 0 ≤ p1 ∧ p1 ≤ 9) (h7 : (-2147483648) ≤ p2 ∧ p2 ≤ 2147483647) (h8 : 0 ≤ z256 ∧ z256 ≤ 10) (h9 : 1 ≤ z263 ∧ z263 ≤ 1) (h10 : 1 ≤ z274 ∧ z274 ≤ 1) : 0 ≤ p2 ∧ p2 ≤ 9 := by omega
theorem vc_X12_tie_pk_11 {p3 z286 : Int} (h0 : ¬ z286 = 0) (h1 : (z286 = 1 → (0 : Int) ≤ p3 ∧ p3 ≤ (2 : Int))) (h2 : (z286 = 0 → p3 < (0 : Int) ∨ (2 : Int) < p3)) (h3 : (-2147483648) ≤ p3 ∧ p3 ≤ 2147483647) (h4 : 0 ≤ z286 ∧ z286 ≤ 1) : 1 ≤ z286 ∧ z286 ≤ 1 := by omega
theorem vc_X12_tie_pk_12 {p3 z286 : Int} (h0 : (z286 = 1 → (0 : Int) ≤ p3 ∧ p3 ≤ (2 : Int))) (h1 : (z286 = 0 → p3 < (0 : Int) ∨ (2 : Int) < p3)) (h2 : ¬ z286 = 0) (h3 : (-2147483648) ≤ p3 ∧ p3 ≤ 2147483647) (h4 : 1 ≤ z286 ∧ z286 ≤ 1) : z286 = 1 := by omega
theorem vc_X12_tie_pk_13 {p3 z286 : Int} (h0 : (0 : Int) ≤ p3 ∧ p3 ≤ (2 : Int)) (h1 : (z286 = 1 → (0 : Int) ≤ p3 ∧ p3 ≤ (2 : Int))) (h2 : (z286 = 0 → p3 < (0 : Int) ∨ (2 : Int) < p3)) (h3 : (-2147483648) ≤ p3 ∧ p3 ≤ 2147483647) (h4 : 1 ≤ z286 ∧ z286 ≤ 1) : 0 ≤ p3 ∧ p3 ≤ 2 := by omega
theorem vc_X12_tie_pk_14 {z295 : Int} (h0 : z295 = (-99999999)) (h1 : z295 = -99999999 ∨ (0 ≤ z295 ∧ z295 ≤ 19)) (h2 : (-99999999) ≤ z295 ∧ z295 ≤ 19) : (-99999999) ≤ z295 ∧ z295 ≤ (-99999999) := by omega
theorem vc_X12_tie_pk_15 {f_t : Int} (h0 : ¬ f_t = 20) (h1 : 0 ≤ f_t ∧ f_t ≤ 20) : 0 ≤ f_t ∧ f_t ≤ 19 := by omega
theorem vc_X12_tie_pk_16 {z358 : Int} (h0 : (5 - z358) < ((0 : Nat) : Int)) (h1 : 0 ≤ z358 ∧ z358 ≤ 4) : False := by omega
theorem vc_X12_tie_pk_17 {z358 : Int} (h0 : 4 ≤ z358) (h1 : 0 ≤ z358 ∧ z358 ≤ 4) : 4 ≤ z358 ∧ z358 ≤ 4 := by omega
theorem vc_X12_tie_pk_18 {f_t : Int} (h0 : ¬ f_t = 20) (h1 : 0 ≤ f_t ∧ f_t ≤ 19) : f_t ≤ (f_t + 1) := by omega
theorem vc_X12_tie_pk_19 {f_t : Int} (h0 : ¬ f_t = 20) (h1 : 0 ≤ f_t ∧ f_t ≤ 19) : (f_t + 1) = f_t + 1 := by omega
theorem vc_X12_tie_pk_20 {f_t : Int} (h0 : ¬ f_t = 20) (h1 : 0 ≤ f_t ∧ f_t ≤ 19) : 0 ≤ f_t := by omega
theorem vc_X12_tie_pk_21 {z358 : Int} (h0 : 4 ≤ z358) (h1 : 4 ≤ z358 ∧ z358 ≤ 4) : z358 = 4 := by omega
theorem vc_X12_tie_pk_22 {z358 : Int} (h0 : z358 < 4) (h1 : 0 ≤ z358 ∧ z358 ≤ 4) : 0 ≤ z358 ∧ z358 ≤ 3 := by omega
theorem vc_X12_tie_pk_23  : ((-99999999) : Int) = -(99999999 : Int) ∨ ((0 : Int) ≤ ((-99999999) : Int) ∧ ((-99999999) : Int) ≤ (11 : Int)) := by omega
theorem vc_X12_tie_pk_24 {z386 : Int} (h0 : 0 ≤ z386 ∧ z386 ≤ 12) : ((-99999999) : Int) = -99999999 ∨ (0 ≤ ((-99999999) : Int) ∧ ((-99999999) : Int) < z386) := by omega
theorem vc_X12_tie_pk_25 {N z358 : Int} (h0 : (5 - z358) < N + 1) (h1 : z358 < 4) (h2 : 0 ≤ z358 ∧ z358 ≤ 3) : (5 - (z358 + 1)) < N := by omega
theorem vc_X12_tie_pk_26 {f_t z358 : Int} (h0 : ¬ f_t = 20) (h1 : z358 < 4) (h2 : 0 ≤ f_t ∧ f_t ≤ 19) (h3 : 0 ≤ z358 ∧ z358 ≤ 3) : ((4 * f_t) + z358) = 4 * f_t + z358 := by omega
theorem vc_X12_tie_pk_27 {f_t z358 : Int} (h0 : ¬ f_t = 20) (h1 : z358 < 4) (h2 : 0 ≤ f_t ∧ f_t ≤ 19) (h3 : 0 ≤ z358 ∧ z358 ≤ 3) : 0 ≤ f_t ∧ 0 ≤ z358 := by omega
theorem vc_X12_tie_pk_28  : (((-99999999) : Int) : Int) = -(99999999 : Int) := by omega
theorem vc_X12_tie_pk_29 {z358 : Int} (h0 : z358 < 4) (h1 : 0 ≤ z358 ∧ z358 ≤ 3) : (z358 + 1) = z358 + 1 := by omega
theorem vc_X12_tie_pk_30  : (5 - 0) < ((6 : Nat) : Int) := by omega
theorem vc_X12_tie_pk_31  : ((0 : Int) : Int) = (0 : Int) := by omega
theorem vc_X12_tie_pk_32 {f_t : Int} (h0 : f_t = 20) (h1 : 0 ≤ f_t ∧ f_t ≤ 20) : 20 ≤ f_t ∧ f_t ≤ 20 := by omega
theorem vc_X12_tie_pk_33 {z295 : Int} (h0 : ¬ z295 = (-99999999)) (h1 : z295 = -99999999 ∨ (0 ≤ z295 ∧ z295 ≤ 19)) (h2 : (-99999999) ≤ z295 ∧ z295 ≤ 19) : 0 ≤ z295 ∧ z295 ≤ 19 := by omega
theorem vc_X12_tie_pk_34 {p3 z286 : Int} (h0 : z286 = 0) (h1 : (z286 = 1 → (0 : Int) ≤ p3 ∧ p3 ≤ (2 : Int))) (h2 : (z286 = 0 → p3 < (0 : Int) ∨ (2 : Int) < p3)) (h3 : (-2147483648) ≤ p3 ∧ p3 ≤ 2147483647) (h4 : 0 ≤ z286 ∧ z286 ≤ 1) : 0 ≤ z286 ∧ z286 ≤ 0 := by omega
theorem vc_X12_tie_pk_35 {p3 z286 : Int} (h0 : (z286 = 1 → (0 : Int) ≤ p3 ∧ p3 ≤ (2 : Int))) (h1 : (z286 = 0 → p3 < (0 : Int) ∨ (2 : Int) < p3)) (h2 : z286 = 0) (h3 : (-2147483648) ≤ p3 ∧ p3 ≤ 2147483647) (h4 : 0 ≤ z286 ∧ z286 ≤ 0) : z286 = 0 := by omega
set_option maxRecDepth 4000 in
set_option maxHeartbeats 4000000 in
theorem c_X12_tie_pk {l : Launch} {D : va_G} {c : Nat → ClassId} {H0 : Heap} {sa : Nat × Nat × (Nat → Int32)} {w : mW} {μ : mM} (hw : mWF w) (hT : mT w μ) {p1 : Int} (hp1 : (-2147483648) ≤ p1 ∧ p1 ≤ 2147483647) {p2 : Int} (hp2 : (-2147483648) ≤ p2 ∧ p2 ≤ 2147483647) {p3 : Int} (hp3 : (-2147483648) ≤ p3 ∧ p3 ≤ 2147483647) {f_t : Int} (q_f_t : μ 106 6 = f_t) (hIPK : PK μ) (hIEV : EV μ) : sC (gG l D c H0 sa) mX12_tie 3 0 0 [.ref 106, iv p1, iv p2, iv p3] (mk w μ) (qI w [106006, 110999, 111999, 112999, 113999, 114999, 115999] μ (fun z μ1 => ((-2147483648) ≤ z ∧ z ≤ 2147483647) ∧ PK μ1 ∧ EV μ1 ∧ True)) := by
  refine sC.of rfl (by decide) (le_t rfl) ?_
  have ht_f_t : (0 ≤ f_t ∧ f_t ≤ 20) := by rw [← q_f_t]; exact hT 106 106 (A_106 hw) 6
  refine mr_lvE (lv' := [(0, .ref 106), (1, iv p1), (2, iv p2), (3, iv p3)]) rfl ?_
  refine sv_aload_n (pc := 0) dX12_tie_0 rfl rfl ?_
  refine mr_iload_n (pc := 1) (z := p1) dX12_tie_1 rfl rfl ?_
  obtain ⟨z256, q257⟩ : ∃ z, μ 106 5 = z := ⟨_, rfl⟩
  have h258 : (0 ≤ z256 ∧ z256 ≤ 10) := by rw [← q257]; exact hT 106 106 (A_106 hw) 5
  refine mr_cVP (pc := 2) (c_X12_isDomain hw hT hp1 q257) (gOk _ _ _ _ _) dX12_tie_2 (tX12_isDomain _ _ _ _ _) ⟨wV_X12_isDomain, wL_X12_isDomain⟩ wM_X12_49 (gCX12 _ _ _ _ _) rfl (A_106 hw) rfl ⟨le_t rfl, le_t rfl⟩ ⟨le_t rfl, le_t rfl⟩ rfl (le_t rfl) fun z263 h262 => ?_
  refine mr_if_eq (pc := 5) (tgt := 30) dX12_tie_5 (by decide) (r32 h262.1 rfl) (fun h264 => ?_) (fun h264 => ?_)
  · have h265 : 0 ≤ z263 ∧ z263 ≤ 0 := (vc_X12_tie_pk_1 h264 h262.2.1 h262.2.2.1 hp1 h258 h262.1)
    have h266 : p1 < 0 ∨ z256 ≤ p1 := (h262.2.2.1 (vc_X12_tie_pk_2 h262.2.1 h262.2.2.1 h264 hp1 h258 h265))
    refine mr_iconst (pc := 30) (z := (-1)) dX12_tie_30 ?_
    exact mr_iret dX12_tie_31 rfl (le_t rfl) (le_t rfl) hT mF.refl ⟨(rW (c := (-2147483648)) (d := 2147483647) (rR (x := (-1))) rfl), hIPK, hIEV, trivial⟩
  have h267 : 1 ≤ z263 ∧ z263 ≤ 1 := (vc_X12_tie_pk_3 h264 h262.2.1 h262.2.2.1 hp1 h258 h262.1)
  have h268 : 0 ≤ p1 ∧ p1 < z256 := (h262.2.1 (vc_X12_tie_pk_4 h262.2.1 h262.2.2.1 h264 hp1 h258 h267))
  have h269 : 0 ≤ p1 ∧ p1 ≤ 9 := (vc_X12_tie_pk_5 h268 h262.2.1 h262.2.2.1 hp1 h258 h267)
  refine sv_aload_n (pc := 8) dX12_tie_8 rfl rfl ?_
  refine mr_iload_n (pc := 9) (z := p2) dX12_tie_9 rfl rfl ?_
  refine mr_cVP (pc := 10) (c_X12_isDomain hw hT hp2 q257) (gOk _ _ _ _ _) dX12_tie_10 (tX12_isDomain _ _ _ _ _) ⟨wV_X12_isDomain, wL_X12_isDomain⟩ wM_X12_49 (gCX12 _ _ _ _ _) rfl (A_106 hw) rfl ⟨le_t rfl, le_t rfl⟩ ⟨le_t rfl, le_t rfl⟩ rfl (le_t rfl) fun z274 h273 => ?_
  refine mr_if_eq (pc := 13) (tgt := 30) dX12_tie_13 (by decide) (r32 h273.1 rfl) (fun h275 => ?_) (fun h275 => ?_)
  · have h276 : 0 ≤ z274 ∧ z274 ≤ 0 := (vc_X12_tie_pk_6 h275 h273.2.1 h273.2.2.1 hp2 h258 h273.1)
    have h277 : p2 < 0 ∨ z256 ≤ p2 := (h273.2.2.1 (vc_X12_tie_pk_7 h273.2.1 h273.2.2.1 h275 h262.2.1 h262.2.2.1 h268 h269 hp2 h258 h267 h276))
    refine mr_iconst (pc := 30) (z := (-1)) dX12_tie_30 ?_
    exact mr_iret dX12_tie_31 rfl (le_t rfl) (le_t rfl) hT mF.refl ⟨(rW (c := (-2147483648)) (d := 2147483647) (rR (x := (-1))) rfl), hIPK, hIEV, trivial⟩
  have h278 : 1 ≤ z274 ∧ z274 ≤ 1 := (vc_X12_tie_pk_8 h275 h273.2.1 h273.2.2.1 hp2 h258 h273.1)
  have h279 : 0 ≤ p2 ∧ p2 < z256 := (h273.2.1 (vc_X12_tie_pk_9 h273.2.1 h273.2.2.1 h275 h262.2.1 h262.2.2.1 h268 h269 hp2 h258 h267 h278))
  have h280 : 0 ≤ p2 ∧ p2 ≤ 9 := (vc_X12_tie_pk_10 h279 h262.2.1 h262.2.2.1 h268 h273.2.1 h273.2.2.1 h269 hp2 h258 h267 h278)
  refine mr_iload_n (pc := 16) (z := p1) dX12_tie_16 rfl rfl ?_
  refine mr_iload_n (pc := 17) (z := p2) dX12_tie_17 rfl rfl ?_
  refine mr_icmp_eq (pc := 18) (tgt := 30) dX12_tie_18 (by decide) (r32 h269 rfl) (r32 h280 rfl) (fun h281 => ?_) (fun h281 => ?_)
  · refine mr_iconst (pc := 30) (z := (-1)) dX12_tie_30 ?_
    exact mr_iret dX12_tie_31 rfl (le_t rfl) (le_t rfl) hT mF.refl ⟨(rW (c := (-2147483648)) (d := 2147483647) (rR (x := (-1))) rfl), hIPK, hIEV, trivial⟩
  refine mr_iload_n (pc := 21) (z := p3) dX12_tie_21 rfl rfl ?_
  refine mr_iconst (pc := 22) (z := 0) dX12_tie_22 ?_
  refine mr_iconst (pc := 23) (z := 2) dX12_tie_23 ?_
  refine mr_cSP (pc := 24) (c_X12_in hw hT hp3 (rW (c := (-2147483648)) (d := 2147483647) (rR (x := 0)) rfl) (rW (c := (-2147483648)) (d := 2147483647) (rR (x := 2)) rfl)) (gOk _ _ _ _ _) dX12_tie_24 (tX12_in _ _ _ _ _) wS_X12_in wM_X12_18 ⟨le_t rfl, le_t rfl⟩ ⟨le_t rfl, le_t rfl⟩ rfl (le_t rfl) fun z286 h285 => ?_
  refine mr_if_ne (pc := 27) (tgt := 32) dX12_tie_27 (by decide) (r32 h285.1 rfl) (fun h287 => ?_) (fun h287 => ?_)
  · have h288 : 1 ≤ z286 ∧ z286 ≤ 1 := (vc_X12_tie_pk_11 h287 h285.2.1 h285.2.2.1 hp3 h285.1)
    have h289 : (0 : Int) ≤ p3 ∧ p3 ≤ (2 : Int) := (h285.2.1 (vc_X12_tie_pk_12 h285.2.1 h285.2.2.1 h287 hp3 h288))
    have h290 : 0 ≤ p3 ∧ p3 ≤ 2 := (vc_X12_tie_pk_13 h289 h285.2.1 h285.2.2.1 hp3 h288)
    refine sv_aload_n (pc := 32) dX12_tie_32 rfl rfl ?_
    refine mr_iload_n (pc := 33) (z := p1) dX12_tie_33 rfl rfl ?_
    refine mr_iload_n (pc := 34) (z := p2) dX12_tie_34 rfl rfl ?_
    refine mr_cVP (pc := 35) (c_X12_tieOf hw hT (rW (c := (-2147483648)) (d := 2147483647) h269 rfl) (rW (c := (-2147483648)) (d := 2147483647) h280 rfl)) (gOk _ _ _ _ _) dX12_tie_35 (tX12_tieOf _ _ _ _ _) ⟨wV_X12_tieOf, wL_X12_tieOf⟩ wM_X12_43 (gCX12 _ _ _ _ _) rfl (A_106 hw) rfl ⟨le_t rfl, le_t rfl⟩ ⟨le_t rfl, le_t rfl⟩ rfl (le_t rfl) fun z295 h294 => ?_
    refine mr_ldc (pc := 38) (z := (-99999999)) dX12_tie_38 wG_X12_29 (by decide) ?_
    refine mr_icmp_eq (pc := 40) (tgt := 46) dX12_tie_40 (by decide) (r32 h294.1 rfl) (r32 (rR (x := (-99999999))) rfl) (fun h296 => ?_) (fun h296 => ?_)
    · have h297 : (-99999999) ≤ z295 ∧ z295 ≤ (-99999999) := (vc_X12_tie_pk_14 h296 h294.2.1 h294.1)
      refine sv_aload_n (pc := 46) dX12_tie_46 rfl rfl ?_
      refine gk_X12_6 (pc := 47) dX12_tie_47 wF_X12_37 (A_106 hw) q_f_t ?_
      refine mr_bipush (pc := 50) (z := 20) dX12_tie_50 (by decide) ?_
      refine mr_icmp_ne (pc := 52) (tgt := 58) dX12_tie_52 (by decide) (r32 ht_f_t rfl) (r32 (rR (x := 20)) rfl) (fun h298 => ?_) (fun h298 => ?_)
      · have h299 : 0 ≤ f_t ∧ f_t ≤ 19 := (vc_X12_tie_pk_15 h298 ht_f_t)
        refine sv_aload_n (pc := 58) dX12_tie_58 rfl rfl ?_
        refine gf_X12_7 (pc := 59) dX12_tie_59 wF_X12_40 (A_106 hw) hT ?_
        refine mr_iconst (pc := 62) (z := 2) dX12_tie_62 ?_
        refine sv_aload_n (pc := 63) dX12_tie_63 rfl rfl ?_
        refine gk_X12_6 (pc := 64) dX12_tie_64 wF_X12_37 (A_106 hw) q_f_t ?_
        refine mr_imul (pc := 67) (x := 2) (y := f_t) dX12_tie_67 ?_
        refine mr_iload_n (pc := 68) (z := p1) dX12_tie_68 rfl rfl ?_
        refine ss_110 (pc := 69) dX12_tie_69 (A_110 hw) hT (rIx (n := 40) (rMulL (n := 2) (e := 0) (f := 38) h299 rfl) rfl) h269 fun μ300 u301 T302 => ?_
        refine sv_aload_n (pc := 70) dX12_tie_70 rfl rfl ?_
        refine gf_X12_7 (pc := 71) dX12_tie_71 wF_X12_40 (A_106 hw) T302 ?_
        refine mr_iconst (pc := 74) (z := 2) dX12_tie_74 ?_
        refine sv_aload_n (pc := 75) dX12_tie_75 rfl rfl ?_
        refine gk_X12_6 (pc := 76) dX12_tie_76 wF_X12_37 (A_106 hw) (u301.f (Or.inl (mAt.ne (A_110 hw) (A_106 hw) rfl)) q_f_t) ?_
        refine mr_imul (pc := 79) (x := 2) (y := f_t) dX12_tie_79 ?_
        refine mr_iconst (pc := 80) (z := 1) dX12_tie_80 ?_
        refine mr_iadd (pc := 81) (x := (2 * f_t)) (y := 1) dX12_tie_81 ?_
        refine mr_iload_n (pc := 82) (z := p2) dX12_tie_82 rfl rfl ?_
        refine ss_110 (pc := 83) dX12_tie_83 (A_110 hw) T302 (rIx (n := 40) (rAdd (e := 1) (f := 39) (rMulL (n := 2) (e := 0) (f := 38) h299 rfl) (rR (x := 1)) rfl) rfl) h280 fun μ303 u304 T305 => ?_
        refine sv_aload_n (pc := 84) dX12_tie_84 rfl rfl ?_
        refine gf_X12_8 (pc := 85) dX12_tie_85 wF_X12_46 (A_106 hw) T305 ?_
        refine sv_aload_n (pc := 88) dX12_tie_88 rfl rfl ?_
        refine gk_X12_6 (pc := 89) dX12_tie_89 wF_X12_37 (A_106 hw) (u304.f (Or.inl (mAt.ne (A_110 hw) (A_106 hw) rfl)) (u301.f (Or.inl (mAt.ne (A_110 hw) (A_106 hw) rfl)) q_f_t)) ?_
        refine mr_iload_n (pc := 92) (z := p3) dX12_tie_92 rfl rfl ?_
        refine ss_111 (pc := 93) dX12_tie_93 (A_111 hw) T305 (rIx (n := 20) h299 rfl) h290 fun μ306 u307 T308 => ?_
        refine sv_aload_n (pc := 94) dX12_tie_94 rfl rfl ?_
        refine gf_X12_9 (pc := 95) dX12_tie_95 wF_X12_53 (A_106 hw) T308 ?_
        refine sv_aload_n (pc := 98) dX12_tie_98 rfl rfl ?_
        refine gk_X12_6 (pc := 99) dX12_tie_99 wF_X12_37 (A_106 hw) (u307.f (Or.inl (mAt.ne (A_111 hw) (A_106 hw) rfl)) (u304.f (Or.inl (mAt.ne (A_110 hw) (A_106 hw) rfl)) (u301.f (Or.inl (mAt.ne (A_110 hw) (A_106 hw) rfl)) q_f_t))) ?_
        refine mr_iconst (pc := 102) (z := 1) dX12_tie_102 ?_
        refine ss_112 (pc := 103) dX12_tie_103 (A_112 hw) T308 (rIx (n := 20) h299 rfl) (rW (c := 0) (d := 1) (rR (x := 1)) rfl) fun μ309 u310 T311 => ?_
        refine sv_aload_n (pc := 104) dX12_tie_104 rfl rfl ?_
        refine gf_X12_10 (pc := 105) dX12_tie_105 wF_X12_57 (A_106 hw) T311 ?_
        refine sv_aload_n (pc := 108) dX12_tie_108 rfl rfl ?_
        refine gk_X12_6 (pc := 109) dX12_tie_109 wF_X12_37 (A_106 hw) (u310.f (Or.inl (mAt.ne (A_112 hw) (A_106 hw) rfl)) (u307.f (Or.inl (mAt.ne (A_111 hw) (A_106 hw) rfl)) (u304.f (Or.inl (mAt.ne (A_110 hw) (A_106 hw) rfl)) (u301.f (Or.inl (mAt.ne (A_110 hw) (A_106 hw) rfl)) q_f_t)))) ?_
        refine mr_iconst (pc := 112) (z := 1) dX12_tie_112 ?_
        refine ss_113 (pc := 113) dX12_tie_113 (A_113 hw) T311 (rIx (n := 20) h299 rfl) (rW (c := 0) (d := 1000) (rR (x := 1)) rfl) fun μ312 u313 T314 => ?_
        refine sv_aload_n (pc := 114) dX12_tie_114 rfl rfl ?_
        refine gf_X12_11 (pc := 115) dX12_tie_115 wF_X12_60 (A_106 hw) T314 ?_
        refine sv_aload_n (pc := 118) dX12_tie_118 rfl rfl ?_
        refine gk_X12_6 (pc := 119) dX12_tie_119 wF_X12_37 (A_106 hw) (u313.f (Or.inl (mAt.ne (A_113 hw) (A_106 hw) rfl)) (u310.f (Or.inl (mAt.ne (A_112 hw) (A_106 hw) rfl)) (u307.f (Or.inl (mAt.ne (A_111 hw) (A_106 hw) rfl)) (u304.f (Or.inl (mAt.ne (A_110 hw) (A_106 hw) rfl)) (u301.f (Or.inl (mAt.ne (A_110 hw) (A_106 hw) rfl)) q_f_t))))) ?_
        refine mr_iconst (pc := 122) (z := 0) dX12_tie_122 ?_
        refine ss_114 (pc := 123) dX12_tie_123 (A_114 hw) T314 (rIx (n := 20) h299 rfl) (rW (c := 0) (d := 1000) (rR (x := 0)) rfl) fun μ315 u316 T317 => ?_
        refine mr_iconst (pc := 124) (z := 0) dX12_tie_124 ?_
        refine mr_istore (pc := 125) (lv' := [(4, iv 0), (0, .ref 106), (1, iv p1), (2, iv p2), (3, iv p3)]) dX12_tie_125 (by decide) rfl ?_
        have L360 : ∀ (nL360 : Nat) (z358 : Int) (μ359 : mM), mT w μ359 → mF [115999] w μ315 μ359 → (0 ≤ z358 ∧ z358 ≤ 4) → PK μ359 → EV μ359 → pnT μ359 f_t z358 → (5 - z358) < (nL360 : Int) → sV (gG l D c H0 sa) mX12_tie (sRm 3 0 0) (sZ (gG l D c H0 sa) 0 0 (qI w [106006, 110999, 111999, 112999, 113999, 114999, 115999] μ (fun z μ1 => ((-2147483648) ≤ z ∧ z ≤ 2147483647) ∧ PK μ1 ∧ EV μ1 ∧ True))) 127 [(0, .ref 106), (4, iv z358)] [] (mk w μ359) 0 0 := by
          intro nL360
          induction nL360 with
          | zero => intro z358 μ359 T362 F363 h361 I365 I366 R367 h368; exact ((vc_X12_tie_pk_16 h368 h361)).elim
          | succ nL360 ih369 =>
            intro z358 μ359 T362 F363 h361 I365 I366 R367 h368
            refine mr_iload (pc := 127) (z := z358) dX12_tie_127 rfl ?_
            refine mr_iconst (pc := 129) (z := 4) dX12_tie_129 ?_
            refine mr_icmp_ge (pc := 130) (tgt := 155) dX12_tie_130 (by decide) (r32 h361 rfl) (r32 (rR (x := 4)) rfl) (fun h375 => ?_) (fun h375 => ?_)
            · have h376 : 4 ≤ z358 ∧ z358 ≤ 4 := (vc_X12_tie_pk_17 h375 h361)
              refine sv_aload_n (pc := 155) dX12_tie_155 rfl rfl ?_
              refine sv_dup (pc := 156) dX12_tie_156 rfl ?_
              refine gk_X12_6 (pc := 157) dX12_tie_157 wF_X12_37 (A_106 hw) (F363.f (A_106 hw) rfl (u316.f (Or.inl (mAt.ne (A_114 hw) (A_106 hw) rfl)) (u313.f (Or.inl (mAt.ne (A_113 hw) (A_106 hw) rfl)) (u310.f (Or.inl (mAt.ne (A_112 hw) (A_106 hw) rfl)) (u307.f (Or.inl (mAt.ne (A_111 hw) (A_106 hw) rfl)) (u304.f (Or.inl (mAt.ne (A_110 hw) (A_106 hw) rfl)) (u301.f (Or.inl (mAt.ne (A_110 hw) (A_106 hw) rfl)) q_f_t))))))) ?_
              refine mr_iconst (pc := 160) (z := 1) dX12_tie_160 ?_
              refine mr_iadd (pc := 161) (x := f_t) (y := 1) dX12_tie_161 ?_
              refine pf_X12_6 (pc := 162) dX12_tie_162 wF_X12_37 (A_106 hw) T362 (rW (c := 0) (d := 20) (rAdd (e := 1) (f := 20) h299 (rR (x := 1)) rfl) rfl) fun μ377 u378 T379 => ?_
              have I380 : EV μ377 := EV.grow I366 (F363.f (A_106 hw) rfl (u316.f (Or.inl (mAt.ne (A_114 hw) (A_106 hw) rfl)) (u313.f (Or.inl (mAt.ne (A_113 hw) (A_106 hw) rfl)) (u310.f (Or.inl (mAt.ne (A_112 hw) (A_106 hw) rfl)) (u307.f (Or.inl (mAt.ne (A_111 hw) (A_106 hw) rfl)) (u304.f (Or.inl (mAt.ne (A_110 hw) (A_106 hw) rfl)) (u301.f (Or.inl (mAt.ne (A_110 hw) (A_106 hw) rfl)) q_f_t))))))) u378 (vc_X12_tie_pk_18 h298 h299)
              have I381 : PK μ377 := PK.grow I365 (F363.f (A_106 hw) rfl (u316.f (Or.inl (mAt.ne (A_114 hw) (A_106 hw) rfl)) (u313.f (Or.inl (mAt.ne (A_113 hw) (A_106 hw) rfl)) (u310.f (Or.inl (mAt.ne (A_112 hw) (A_106 hw) rfl)) (u307.f (Or.inl (mAt.ne (A_111 hw) (A_106 hw) rfl)) (u304.f (Or.inl (mAt.ne (A_110 hw) (A_106 hw) rfl)) (u301.f (Or.inl (mAt.ne (A_110 hw) (A_106 hw) rfl)) q_f_t))))))) u378 (vc_X12_tie_pk_19 h298 h299) (vc_X12_tie_pk_20 h298 h299) R367 (vc_X12_tie_pk_21 h375 h376)
              refine sv_aload_n (pc := 165) dX12_tie_165 rfl rfl ?_
              refine gk_X12_6 (pc := 166) dX12_tie_166 wF_X12_37 (A_106 hw) u378.1 ?_
              refine mr_iconst (pc := 169) (z := 1) dX12_tie_169 ?_
              refine mr_isub (pc := 170) (x := (f_t + 1)) (y := 1) dX12_tie_170 ?_
              exact mr_iret dX12_tie_171 rfl (le_t rfl) (le_t rfl) T379 (mF.up (mF.call (mF.up (mF.up (mF.up (mF.up (mF.up (mF.up mF.refl (A_110 hw) u301 rfl) (A_110 hw) u304 rfl) (A_111 hw) u307 rfl) (A_112 hw) u310 rfl) (A_113 hw) u313 rfl) (A_114 hw) u316 rfl) F363 rfl) (A_106 hw) u378 rfl) ⟨(rW (c := (-2147483648)) (d := 2147483647) (rSub (e := 0) (f := 19) (rAdd (e := 1) (f := 20) h299 (rR (x := 1)) rfl) (rR (x := 1)) rfl) rfl), I381, I380, trivial⟩
            have h382 : 0 ≤ z358 ∧ z358 ≤ 3 := (vc_X12_tie_pk_22 h375 h361)
            refine sv_aload_n (pc := 133) dX12_tie_133 rfl rfl ?_
            refine gf_X12_12 (pc := 134) dX12_tie_134 wF_X12_63 (A_106 hw) T362 ?_
            refine mr_iconst (pc := 137) (z := 4) dX12_tie_137 ?_
            refine sv_aload_n (pc := 138) dX12_tie_138 rfl rfl ?_
            refine gk_X12_6 (pc := 139) dX12_tie_139 wF_X12_37 (A_106 hw) (F363.f (A_106 hw) rfl (u316.f (Or.inl (mAt.ne (A_114 hw) (A_106 hw) rfl)) (u313.f (Or.inl (mAt.ne (A_113 hw) (A_106 hw) rfl)) (u310.f (Or.inl (mAt.ne (A_112 hw) (A_106 hw) rfl)) (u307.f (Or.inl (mAt.ne (A_111 hw) (A_106 hw) rfl)) (u304.f (Or.inl (mAt.ne (A_110 hw) (A_106 hw) rfl)) (u301.f (Or.inl (mAt.ne (A_110 hw) (A_106 hw) rfl)) q_f_t))))))) ?_
            refine mr_imul (pc := 142) (x := 4) (y := f_t) dX12_tie_142 ?_
            refine mr_iload (pc := 143) (z := z358) dX12_tie_143 rfl ?_
            refine mr_iadd (pc := 145) (x := (4 * f_t)) (y := z358) dX12_tie_145 ?_
            refine mr_ldc (pc := 146) (z := (-99999999)) dX12_tie_146 wG_X12_29 (by decide) ?_
            refine ss_115 (pc := 148) dX12_tie_148 (A_115 hw) T362 (rIx (n := 80) (rAdd (e := 0) (f := 79) (rMulL (n := 4) (e := 0) (f := 76) h299 rfl) h382 rfl) rfl) vc_X12_tie_pk_23 fun μ383 u384 T385 => ?_
            obtain ⟨z386, q387⟩ : ∃ z, μ383 106 39 = z := ⟨_, rfl⟩
            have h388 : (0 ≤ z386 ∧ z386 ≤ 12) := by rw [← q387]; exact T385 106 106 (A_106 hw) 39
            have I389 : PK μ383 := PK.use I365 u384 (u384.2 106 39 (Or.inl (by decide)) ▸ q387) (vc_X12_tie_pk_24 h388)
            refine mr_iinc (pc := 149) (lv' := [(4, iv (z358 + 1)), (0, .ref 106)]) dX12_tie_149 rfl (by decide) rfl ?_
            refine sv_goto (pc := 152) (tgt := 127) dX12_tie_152 (by decide) ?_
            refine mr_lvS (lv' := [(0, .ref 106), (4, iv (z358 + 1))]) (List.forall_mem_cons.mpr ⟨rfl, List.forall_mem_cons.mpr ⟨rfl, fun _ h => absurd h List.not_mem_nil⟩⟩) ?_
            exact ih369 (z358 + 1) μ383 T385 (mF.up (mF.call mF.refl F363 rfl) (A_115 hw) u384 rfl) (rW (c := 0) (d := 4) (rAdd (e := 1) (f := 4) h382 (rR (x := 1)) rfl) rfl) I389 (EV.keep I366 hw ((mF.up mF.refl (A_115 hw) u384 rfl) : mF [115999] w μ359 μ383) rfl) (pnT.succ R367 u384 (vc_X12_tie_pk_26 h298 h375 h299 h382) (vc_X12_tie_pk_27 h298 h375 h299 h382) vc_X12_tie_pk_28 (vc_X12_tie_pk_29 h375 h382)) (vc_X12_tie_pk_25 (nS h368) h375 h382)
        refine mr_lvS (lv' := [(0, .ref 106), (4, iv 0)]) (List.forall_mem_cons.mpr ⟨rfl, List.forall_mem_cons.mpr ⟨rfl, fun _ h => absurd h List.not_mem_nil⟩⟩) ?_
        exact L360 6 0 μ315 T317 mF.refl (rW (c := 0) (d := 4) (rR (x := 0)) rfl) (PK.keep hIPK hw ((mF.up (mF.up (mF.up (mF.up (mF.up (mF.up mF.refl (A_110 hw) u301 rfl) (A_110 hw) u304 rfl) (A_111 hw) u307 rfl) (A_112 hw) u310 rfl) (A_113 hw) u313 rfl) (A_114 hw) u316 rfl) : mF [110999, 111999, 112999, 113999, 114999] w μ μ315) rfl) (EV.keep hIEV hw ((mF.up (mF.up (mF.up (mF.up (mF.up (mF.up mF.refl (A_110 hw) u301 rfl) (A_110 hw) u304 rfl) (A_111 hw) u307 rfl) (A_112 hw) u310 rfl) (A_113 hw) u313 rfl) (A_114 hw) u316 rfl) : mF [110999, 111999, 112999, 113999, 114999] w μ μ315) rfl) (pnT.zero vc_X12_tie_pk_31) vc_X12_tie_pk_30
      have h390 : 20 ≤ f_t ∧ f_t ≤ 20 := (vc_X12_tie_pk_32 h298 ht_f_t)
      refine mr_bipush (pc := 55) (z := (-3)) dX12_tie_55 (by decide) ?_
      exact mr_iret dX12_tie_57 rfl (le_t rfl) (le_t rfl) hT mF.refl ⟨(rW (c := (-2147483648)) (d := 2147483647) (rR (x := (-3))) rfl), hIPK, hIEV, trivial⟩
    have h391 : 0 ≤ z295 ∧ z295 ≤ 19 := (vc_X12_tie_pk_33 h296 h294.2.1 h294.1)
    refine mr_bipush (pc := 43) (z := (-2)) dX12_tie_43 (by decide) ?_
    exact mr_iret dX12_tie_45 rfl (le_t rfl) (le_t rfl) hT mF.refl ⟨(rW (c := (-2147483648)) (d := 2147483647) (rR (x := (-2))) rfl), hIPK, hIEV, trivial⟩
  have h392 : 0 ≤ z286 ∧ z286 ≤ 0 := (vc_X12_tie_pk_34 h287 h285.2.1 h285.2.2.1 hp3 h285.1)
  have h393 : p3 < (0 : Int) ∨ (2 : Int) < p3 := (h285.2.2.1 (vc_X12_tie_pk_35 h285.2.1 h285.2.2.1 h287 hp3 h392))
  refine mr_iconst (pc := 30) (z := (-1)) dX12_tie_30 ?_
  exact mr_iret dX12_tie_31 rfl (le_t rfl) (le_t rfl) hT mF.refl ⟨(rW (c := (-2147483648)) (d := 2147483647) (rR (x := (-1))) rfl), hIPK, hIEV, trivial⟩
