theorem dL_law_0 : decode cL_law 0 = .ok (.new 7, 3) := dcU2 dO_187 (by decide +kernel)
theorem dL_law_3 : decode cL_law 3 = .ok (.dup, 1) := dc0 dO_89 (by decide +kernel)
theorem dL_law_4 : decode cL_law 4 = .ok (.invokespecial 9, 3) := dcU2 dO_183 (by decide +kernel)
theorem dL_law_7 : decode cL_law 7 = .ok (.astore_n 1, 1) := dc0 dO_76 (by decide +kernel)
theorem dL_law_8 : decode cL_law 8 = .ok (.new 10, 3) := dcU2 dO_187 (by decide +kernel)
theorem dL_law_11 : decode cL_law 11 = .ok (.dup, 1) := dc0 dO_89 (by decide +kernel)
theorem dL_law_12 : decode cL_law 12 = .ok (.invokespecial 12, 3) := dcU2 dO_183 (by decide +kernel)
theorem dL_law_15 : decode cL_law 15 = .ok (.astore_n 2, 1) := dc0 dO_77 (by decide +kernel)
theorem dL_law_16 : decode cL_law 16 = .ok (.iconst 0, 1) := dc0 dO_3 (by decide +kernel)
theorem dL_law_17 : decode cL_law 17 = .ok (.istore_n 3, 1) := dc0 dO_62 (by decide +kernel)
set_option maxHeartbeats 4000000 in
set_option maxRecDepth 100000 in
theorem law_pair {l : Launch} {D : va_G} {cc : Nat → ClassId} {H0 : Heap} {b L : Nat} {xs : Nat → Int32} (kk : sV (gG l D cc H0 (b, L, xs)) mL room_1 lwZ 18 [(3, .int 0), (2, .ref 106), (1, .ref 0), (0, .retAddr 0)] [] (192, tF) 192 297215) : sV (gG l D cc H0 (b, L, xs)) mL room_1 lwZ 0 [(0, .retAddr 0)] [] (0, fun _ => .inr (0, [])) 0 0 := by
  refine sw_new (pc := 0) (a := 0) (n1 := 1) (ce1 := 1) (sl1 := 12) (fs := zX11) dL_law_0 (gCX11 _ _ _ _ _) wC_DomainHouseLaw_7 wN_X11 wI_X11 zX11_ok rfl rfl rfl rfl rfl rfl ?_
  refine sv_dup (pc := 3) dL_law_3 rfl ?_
  refine sv_heap (hp' := (1, fun _ => .inr (11, zX11))) rfl (fun j hj => ?_) ?_
  · match j, hj with
    | 0, _ => rfl
    | n + 1, h => exact absurd h (by omega)
  refine sv_callI (pc := 4) (M' := mX11_init) (d' := 20) (C' := 105) (S' := 12522) (av := []) (ctorC l D cc H0 (b, L, xs)) (gOk _ _ _ _ _) dL_law_4 (tX11_init _ _ _ _ _) rfl rfl wV_X11_init wM_DomainHouseLaw_9 ⟨le_t rfl, le_t rfl⟩ ⟨le_t rfl, le_t rfl⟩ rfl (le_t rfl) ?_
  rintro _ hp1 ⟨rfl, h1, h2⟩
  refine sv_heap (hp' := (106, tC)) h1 h2 ?_
  refine sv_astore_n (pc := 7) dL_law_7 rfl (by decide) ?_
  refine sw_new (pc := 8) (a := 106) (n1 := 107) (ce1 := 107) (sl1 := 12660) (fs := zX12) dL_law_8 (gCX12 _ _ _ _ _) wC_DomainHouseLaw_10 wN_X12 wI_X12 zX12_ok rfl rfl rfl rfl rfl rfl ?_
  refine sv_dup (pc := 11) dL_law_11 rfl ?_
  refine sv_callI (pc := 12) (M' := mX12_init) (d' := 20) (C' := 85) (S' := 284555) (av := []) (ctorM l D cc H0 (b, L, xs)) (gOk _ _ _ _ _) dL_law_12 (tX12_init _ _ _ _ _) rfl rfl wV_X12_init wM_DomainHouseLaw_12 ⟨le_t rfl, le_t rfl⟩ ⟨le_t rfl, le_t rfl⟩ rfl (le_t rfl) ?_
  rintro _ hp2 ⟨rfl, h3, h4⟩
  refine sv_heap (hp' := (192, tF)) h3 h4 ?_
  refine sv_astore_n (pc := 15) dL_law_15 rfl (by decide) ?_
  refine sv_iconst (pc := 16) (v := 0) dL_law_16 (by decide) ?_
  refine sv_istore_n (pc := 17) dL_law_17 rfl (by decide) ?_
  exact kk
set_option maxHeartbeats 4000000 in
theorem whole_start {p : Program} {e : Env} {s : State} {m : MethodId} {below : List Frame} {meth : Method} {c : Code} (l : Launch) {b L : Nat} {xs : Nat → Int32} (hL : L ≤ 3584) (C0 : lw_At p s m meth c b L xs) (hnm : meth.name = x.name) : W p l e room_1 s m #[Value.ref b] below meth c s.heap [] 0 0 (lw_Z below #[Value.ref b] s) (entryFrame m ([Value.ref b] : List Value).toArray 4) := by
  refine lw_enter l C0 hnm (fun D cc => law_pair ?_)
  refine sv_heapE (hp' := mk w0 μ0) rfl tF_eq ?_
  exact law_loop (sa := (b, L, xs)) hL 513 w0 μ0 0 192 297215 J0 K30 (Int.le_refl _) (by show (L : Int) - 0 < 7 * ((513 : Nat) : Int); omega) (by decide)
