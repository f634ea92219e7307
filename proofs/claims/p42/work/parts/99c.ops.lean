section LAWE
variable {l : Launch} {D : va_G} {c : Nat → ClassId} {H0 : Heap} {sa : Nat × Nat × (Nat → Int32)} {M : sM} {R : Room} {Z : sZT} {pc : Nat} {lv : List (Nat × Value)} {st : List Value} {hp : sHp} {ce sl : Nat}
/-- the script's number at e -/
def scV (l : Launch) (D : va_G) (c : Nat → ClassId) (H0 : Heap) (sa : Nat × Nat × (Nat → Int32)) (e : Int) : Int := (sg_xs (gG l D c H0 sa) (Int32.ofInt e).toNatClampNeg).toInt
theorem la_ldE {e : Int} (hd : decode M.2.1 pc = .ok (.iaload, 1)) (he : 0 ≤ e ∧ e < (sa.2.1 : Int)) (hs : sa.2.1 ≤ 3584) (kk : ∀ z : Int, z = scV l D c H0 sa e → (-2147483648 ≤ z ∧ z ≤ 2147483647) → sV (gG l D c H0 sa) M R Z (pc + 1) lv (iv z :: st) hp ce sl) : sV (gG l D c H0 sa) M R Z pc lv (iv e :: .retAddr 0 :: st) hp ce sl := by
  refine sv_sld hd (iv_in (n := sa.2.1) he (by omega)) ?_
  have e1 : ∀ v : Int32, Value.int v = iv v.toInt := fun v => by
    show Value.int v = Value.int (Int32.ofInt v.toInt)
    rw [Int32.ofInt_toInt]
  rw [e1]
  have b1 := Int32.le_toInt (sg_xs (gG l D c H0 sa) (Int32.ofInt e).toNatClampNeg)
  have b2 := Int32.toInt_lt (sg_xs (gG l D c H0 sa) (Int32.ofInt e).toNatClampNeg)
  exact kk _ rfl ⟨by omega, by omega⟩
theorem la_argE {j L : Int} (hd0 : decode M.2.1 pc = .ok (.aload_n 0, 1)) (hd1 : decode M.2.1 (pc + 1) = .ok (.iload_n 3, 1)) (hd2 : decode M.2.1 (pc + 2) = .ok (.iconst j, 1)) (hd3 : decode M.2.1 (pc + 3) = .ok (.iadd, 1)) (hd4 : decode M.2.1 (pc + 4) = .ok (.iaload, 1)) (hg0 : sGet 0 lv = some (.retAddr 0)) (hg3 : sGet 3 lv = some (iv L)) (hL : 0 ≤ L ∧ L + 7 ≤ (sa.2.1 : Int)) (hj : 0 ≤ j ∧ j ≤ 6) (hs : sa.2.1 ≤ 3584) (kk : ∀ z : Int, z = scV l D c H0 sa (L + j) → (-2147483648 ≤ z ∧ z ≤ 2147483647) → sV (gG l D c H0 sa) M R Z (pc + 5) lv (iv z :: st) hp ce sl) : sV (gG l D c H0 sa) M R Z pc lv st hp ce sl := by
  refine sv_aload_nS hd0 rfl hg0 ?_
  refine mr_iload_n (pc := pc + 1) hd1 rfl hg3 ?_
  refine mr_iconst (pc := pc + 1 + 1) hd2 ?_
  refine mr_iadd (pc := pc + 1 + 1 + 1) hd3 ?_
  exact la_ldE (pc := pc + 1 + 1 + 1 + 1) hd4 ⟨by omega, by omega⟩ hs kk
theorem la_arg6E {L : Int} (hd0 : decode M.2.1 pc = .ok (.aload_n 0, 1)) (hd1 : decode M.2.1 (pc + 1) = .ok (.iload_n 3, 1)) (hd2 : decode M.2.1 (pc + 2) = .ok (.bipush 6, 2)) (hd3 : decode M.2.1 (pc + 4) = .ok (.iadd, 1)) (hd4 : decode M.2.1 (pc + 5) = .ok (.iaload, 1)) (hg0 : sGet 0 lv = some (.retAddr 0)) (hg3 : sGet 3 lv = some (iv L)) (hL : 0 ≤ L ∧ L + 7 ≤ (sa.2.1 : Int)) (hs : sa.2.1 ≤ 3584) (kk : ∀ z : Int, z = scV l D c H0 sa (L + 6) → (-2147483648 ≤ z ∧ z ≤ 2147483647) → sV (gG l D c H0 sa) M R Z (pc + 6) lv (iv z :: st) hp ce sl) : sV (gG l D c H0 sa) M R Z pc lv st hp ce sl := by
  refine sv_aload_nS hd0 rfl hg0 ?_
  refine mr_iload_n (pc := pc + 1) hd1 rfl hg3 ?_
  refine mr_bipush (pc := pc + 1 + 1) hd2 (by decide) ?_
  refine mr_iadd (pc := pc + 1 + 1 + 2) hd3 ?_
  exact la_ldE (pc := pc + 1 + 1 + 2 + 1) hd4 ⟨by omega, by omega⟩ hs kk
theorem la_boolE {x : Int} (hd : decode M.2.1 pc = .ok (.ifCond .eq 7, 3)) (hd1 : decode M.2.1 (pc + 3) = .ok (.iconst 1, 1)) (hd2 : decode M.2.1 (pc + 4) = .ok (.goto 4, 3)) (hd3 : decode M.2.1 (pc + 7) = .ok (.iconst 0, 1)) (hx : -2147483648 ≤ x ∧ x ≤ 2147483647) (kk : ∀ z : Int, ((x = 0 ∧ z = 0) ∨ (¬ x = 0 ∧ z = 1)) → (0 ≤ z ∧ z ≤ 1) → sV (gG l D c H0 sa) M R Z (pc + 8) lv (iv z :: st) hp ce sl) : sV (gG l D c H0 sa) M R Z pc lv (iv x :: st) hp ce sl := by
  refine mr_if_eq (tgt := pc + 7) hd (by omega) hx (fun h => ?_) (fun h => ?_)
  · refine mr_iconst (pc := pc + 7) hd3 ?_
    exact kk 0 (Or.inl ⟨h, rfl⟩) (by decide)
  · refine mr_iconst (pc := pc + 3) hd1 ?_
    refine sv_goto (pc := pc + 3 + 1) (tgt := pc + 8) hd2 (by omega) ?_
    exact kk 1 (Or.inr ⟨h, rfl⟩) (by decide)
end LAWE
theorem op_0 {l : Launch} {D : va_G} {c : Nat → ClassId} {H0 : Heap} {sa : Nat × Nat × (Nat → Int32)} {w : mW} {μ : mM} {L : Int} (hJ : J w μ) (hK : K3 w μ L) (hL : 0 ≤ L ∧ L + 7 ≤ (sa.2.1 : Int)) (hs : sa.2.1 ≤ 3584) (nx : ∀ (w1 : mW) (μ1 : mM) (ce sl : Nat), J w1 μ1 → K3 w1 μ1 (L + 7) → sV (gG l D c H0 sa) mL room_1 lwZ 1798 [(3, iv L), (2, .ref 106), (1, .ref 0), (0, .retAddr 0)] [] (mk w1 μ1) ce sl) : sV (gG l D c H0 sa) mL room_1 lwZ 240 [(3, iv L), (2, .ref 106), (1, .ref 0), (0, .retAddr 0)] [] (mk w μ) w.1 (szW w) := by
  have hb := hJ.bd
  have hK0 := hK
  obtain ⟨y, kC, kR, kX, kU, kB, kT⟩ := hK
  have hM : sMd (xS (yX y)) ≤ 2000000000 := by omega
  refine sv_aload_n (pc := 240) dL_law_240 rfl rfl ?_
  refine la_argE (pc := 241) (j := 1) dL_law_241 dL_law_242 dL_law_243 dL_law_244 dL_law_245 rfl rfl hL (by decide) hs fun a1 s1 b1 => ?_
  refine la_argE (pc := 246) (j := 2) dL_law_246 dL_law_247 dL_law_248 dL_law_249 dL_law_250 rfl rfl hL (by decide) hs fun a2 s2 b2 => ?_
  refine la_argE (pc := 251) (j := 3) dL_law_251 dL_law_252 dL_law_253 dL_law_254 dL_law_255 rfl rfl hL (by decide) hs fun a3 s3 b3 => ?_
  refine la_argE (pc := 256) (j := 4) dL_law_256 dL_law_257 dL_law_258 dL_law_259 dL_law_260 rfl rfl hL (by decide) hs fun a4 s4 b4 => ?_
  refine la_argE (pc := 261) (j := 5) dL_law_261 dL_law_262 dL_law_263 dL_law_264 dL_law_265 rfl rfl hL (by decide) hs fun a5 s5 b5 => ?_
  refine mr_cVI (pc := 266) (c_X11_feed_w hJ.1 hJ.2.1 b1 b2 b3 b4 b5 rfl) (gOk _ _ _ _ _) dL_law_266 (tX11_feed _ _ _ _ _) ⟨wV_X11_feed, wL_X11_feed⟩ wM_DomainHouseLaw_13 (gCX11 _ _ _ _ _) rfl (A_0 hJ.1) rfl ⟨le_t rfl, le_t rfl⟩ ⟨show w.1 ≤ 600000 by omega, show szW w ≤ 7302250 by omega⟩ rfl (le_t rfl) fun z6 μ6 T6 F6 P6 => ?_
  obtain ⟨o_q_6, pp6_0, rg6, pp6_1, pp6_2, pp6_3, _⟩ := P6
  have J6 : J w μ6 := hJ.cls T6 F6 rfl (hJ.2.2.2.1.f hJ.1 F6 rfl rfl)
  have kR6 : K2R μ6 y := kR.fr hJ.1 hJ.2.1 (mX.ofF F6) rfl
  have kC6 : K2C w μ6 y := kC.fr hJ.1 hJ.2.1 (mX.ofF F6) rfl
  refine sv_pop (pc := 269) dL_law_269 rfl ?_
  refine sv_aload_n (pc := 270) dL_law_270 rfl rfl ?_
  refine la_argE (pc := 271) (j := 1) dL_law_271 dL_law_272 dL_law_273 dL_law_274 dL_law_275 rfl rfl hL (by decide) hs fun a7 s7 b7 => ?_
  refine la_argE (pc := 276) (j := 2) dL_law_276 dL_law_277 dL_law_278 dL_law_279 dL_law_280 rfl rfl hL (by decide) hs fun a8 s8 b8 => ?_
  refine la_argE (pc := 281) (j := 3) dL_law_281 dL_law_282 dL_law_283 dL_law_284 dL_law_285 rfl rfl hL (by decide) hs fun a9 s9 b9 => ?_
  refine la_argE (pc := 286) (j := 4) dL_law_286 dL_law_287 dL_law_288 dL_law_289 dL_law_290 rfl rfl hL (by decide) hs fun a10 s10 b10 => ?_
  refine la_argE (pc := 291) (j := 5) dL_law_291 dL_law_292 dL_law_293 dL_law_294 dL_law_295 rfl rfl hL (by decide) hs fun a11 s11 b11 => ?_
  obtain rfl : a1 = a7 := s1.trans s7.symm
  obtain rfl : a2 = a8 := s2.trans s8.symm
  obtain rfl : a3 = a9 := s3.trans s9.symm
  obtain rfl : a4 = a10 := s4.trans s10.symm
  obtain rfl : a5 = a11 := s5.trans s11.symm
  refine mr_cVI (pc := 296) (c_X12_feed_w J6.1 J6.2.1 b7 b8 b9 b10 b11 rfl) (gOk _ _ _ _ _) dL_law_296 (tX12_feed _ _ _ _ _) ⟨wV_X12_feed, wL_X12_feed⟩ wM_DomainHouseLaw_17 (gCX12 _ _ _ _ _) rfl (A_106 J6.1) rfl ⟨le_t rfl, le_t rfl⟩ ⟨show w.1 ≤ 600000 by omega, show szW w ≤ 7302250 by omega⟩ rfl (le_t rfl) fun z12 μ12 T12 F12 P12 => ?_
  obtain ⟨o_q_12, pp12_0, rg12, pp12_1, pp12_2, pp12_3, _⟩ := P12
  have kR12 : K2R μ12 y := kR6.fr J6.1 J6.2.1 (mX.ofF F12) rfl
  have kC12 : K2C w μ12 y := kC6.fr J6.1 J6.2.1 (mX.ofF F12) rfl
  have J12 : J w μ12 := J6.mod T12 F12 rfl rfl (G1.ofK kR12 kX) (EV.ofK kR12 kX) (PK.ofK kR12 (J6.2.2.2.2.2.2.1.2.2.pT J6.1 F12 rfl)) (F12.f (A_106 J6.1) rfl rfl)
  have hq0 : μ 0 10 = μ 106 1 := kT.1
  have hq2 : μ 21 8 = μ 106 39 := kT.2.2.1
  have hq3 : μ 0 11 = μ 106 15 := kT.2.2.2.1
  have c21 : μ12 21 8 = μ 21 8 := Eq.trans (F12.f (A_21 J6.1) rfl rfl) (F6.f (A_21 hJ.1) rfl rfl)
  have c39 : μ12 106 39 = μ 106 39 := Eq.trans (F12.f (A_106 J6.1) rfl rfl) (F6.f (A_106 hJ.1) rfl rfl)
  have r1 : μ6 106 1 = μ 106 1 := F6.f (A_106 hJ.1) rfl rfl
  have e0 : μ12 0 10 = μ6 0 10 := F12.f (A_0 J6.1) rfl rfl
  have fin0 : μ12 0 10 = μ12 106 1 := by omega
  have eq0 : z6 = z12 := by omega
  have b0q : 0 ≤ μ 0 10 := (hJ.2.1 0 0 (A_0 hJ.1) 10).1
  have fin1 : TPE μ12 := TPE.feed (z := z6) kT.2.1 rfl (hJ.2.1 0 0 (A_0 hJ.1) 10).1 pp6_3 (fun i => F6.f (A_107 hJ.1) rfl rfl) (by have h := pp12_3; rw [r1, ← hq0, ← eq0] at h; exact h) (fun i => F12.f (A_1 J6.1) rfl rfl) (fun h => by omega) (fun h => by omega)
  have kT12 : TW μ12 := ⟨fin0, fin1, by omega, (WYQ.fr (WYQ.fr kT.2.2.2 hJ.1 hJ.2.1 F6 rfl) J6.1 J6.2.1 F12 rfl)⟩
  refine sv_pop (pc := 299) dL_law_299 rfl ?_
  refine sv_goto (pc := 300) (tgt := 1798) dL_law_300 (by decide) ?_
  exact nx w μ12 _ _ J12 (K3.mk kC12 kR12 (k2S.refl kX) kU kB kT12)
theorem op_1 {l : Launch} {D : va_G} {c : Nat → ClassId} {H0 : Heap} {sa : Nat × Nat × (Nat → Int32)} {w : mW} {μ : mM} {L : Int} (hJ : J w μ) (hK : K3 w μ L) (hL : 0 ≤ L ∧ L + 7 ≤ (sa.2.1 : Int)) (hs : sa.2.1 ≤ 3584) (nx : ∀ (w1 : mW) (μ1 : mM) (ce sl : Nat), J w1 μ1 → K3 w1 μ1 (L + 7) → sV (gG l D c H0 sa) mL room_1 lwZ 1798 [(3, iv L), (2, .ref 106), (1, .ref 0), (0, .retAddr 0)] [] (mk w1 μ1) ce sl) : sV (gG l D c H0 sa) mL room_1 lwZ 303 [(3, iv L), (2, .ref 106), (1, .ref 0), (0, .retAddr 0)] [] (mk w μ) w.1 (szW w) := by
  have hb := hJ.bd
  have hK0 := hK
  obtain ⟨y, kC, kR, kX, kU, kB, kT⟩ := hK
  have hM : sMd (xS (yX y)) ≤ 2000000000 := by omega
  refine sv_aload_n (pc := 303) dL_law_303 rfl rfl ?_
  refine la_argE (pc := 304) (j := 1) dL_law_304 dL_law_305 dL_law_306 dL_law_307 dL_law_308 rfl rfl hL (by decide) hs fun a1 s1 b1 => ?_
  refine mr_cVI (pc := 309) (c_X11_cut_v hJ.1 hJ.2.1 b1 rfl) (gOk _ _ _ _ _) dL_law_309 (tX11_cut _ _ _ _ _) ⟨wV_X11_cut, wL_X11_cut⟩ wM_DomainHouseLaw_18 (gCX11 _ _ _ _ _) rfl (A_0 hJ.1) rfl ⟨le_t rfl, le_t rfl⟩ ⟨show w.1 ≤ 600000 by omega, show szW w ≤ 7302250 by omega⟩ rfl (le_t rfl) fun z2 μ2 T2 F2 P2 => ?_
  obtain ⟨o_q_2, pp2_0, rg2, pp2_1, pp2_2, _⟩ := P2
  have J2 : J w μ2 := hJ.cls T2 F2 rfl (hJ.2.2.2.1.f hJ.1 F2 rfl rfl)
  have kR2 : K2R μ2 y := kR.fr hJ.1 hJ.2.1 (mX.ofF F2) rfl
  have kC2 : K2C w μ2 y := kC.fr hJ.1 hJ.2.1 (mX.ofF F2) rfl
  refine sv_pop (pc := 312) dL_law_312 rfl ?_
  refine sv_aload_n (pc := 313) dL_law_313 rfl rfl ?_
  refine la_argE (pc := 314) (j := 1) dL_law_314 dL_law_315 dL_law_316 dL_law_317 dL_law_318 rfl rfl hL (by decide) hs fun a3 s3 b3 => ?_
  obtain rfl : a1 = a3 := s1.trans s3.symm
  refine mr_cVI (pc := 319) (c_X12_cut_v J2.1 J2.2.1 b3 rfl) (gOk _ _ _ _ _) dL_law_319 (tX12_cut _ _ _ _ _) ⟨wV_X12_cut, wL_X12_cut⟩ wM_DomainHouseLaw_22 (gCX12 _ _ _ _ _) rfl (A_106 J2.1) rfl ⟨le_t rfl, le_t rfl⟩ ⟨show w.1 ≤ 600000 by omega, show szW w ≤ 7302250 by omega⟩ rfl (le_t rfl) fun z4 μ4 T4 F4 P4 => ?_
  obtain ⟨o_q_4, pp4_0, rg4, pp4_1, pp4_2, _⟩ := P4
  have kR4 : K2R μ4 y := kR2.fr J2.1 J2.2.1 (mX.ofF F4) rfl
  have kC4 : K2C w μ4 y := kC2.fr J2.1 J2.2.1 (mX.ofF F4) rfl
  have J4 : J w μ4 := J2.mod T4 F4 rfl rfl (G1.ofK kR4 kX) (EV.ofK kR4 kX) (PK.ofK kR4 (J2.2.2.2.2.2.2.1.2.2.pT J2.1 F4 rfl)) (F4.f (A_106 J2.1) rfl rfl)
  have hq0 : μ 0 10 = μ 106 1 := kT.1
  have hq2 : μ 21 8 = μ 106 39 := kT.2.2.1
  have hq3 : μ 0 11 = μ 106 15 := kT.2.2.2.1
  have c21 : μ4 21 8 = μ 21 8 := Eq.trans (F4.f (A_21 J2.1) rfl rfl) (F2.f (A_21 hJ.1) rfl rfl)
  have c39 : μ4 106 39 = μ 106 39 := Eq.trans (F4.f (A_106 J2.1) rfl rfl) (F2.f (A_106 hJ.1) rfl rfl)
  have r1 : μ2 106 1 = μ 106 1 := F2.f (A_106 hJ.1) rfl rfl
  have e0 : μ4 0 10 = μ2 0 10 := F4.f (A_0 J2.1) rfl rfl
  have fin0 : μ4 0 10 = μ4 106 1 := by omega
  have fin1 : TPE μ4 := TPE.cut kT.2.1 (by omega) (fun i => Eq.trans (F4.f (A_1 J2.1) rfl rfl) (F2.f (A_1 hJ.1) rfl rfl)) (fun i => Eq.trans (F4.f (A_107 J2.1) rfl rfl) (F2.f (A_107 hJ.1) rfl rfl))
  have kT4 : TW μ4 := ⟨fin0, fin1, by omega, (WYQ.fr (WYQ.fr kT.2.2.2 hJ.1 hJ.2.1 F2 rfl) J2.1 J2.2.1 F4 rfl)⟩
  refine sv_pop (pc := 322) dL_law_322 rfl ?_
  refine sv_goto (pc := 323) (tgt := 1798) dL_law_323 (by decide) ?_
  exact nx w μ4 _ _ J4 (K3.mk kC4 kR4 (k2S.refl kX) kU kB kT4)
theorem op_2 {l : Launch} {D : va_G} {c : Nat → ClassId} {H0 : Heap} {sa : Nat × Nat × (Nat → Int32)} {w : mW} {μ : mM} {L : Int} (hJ : J w μ) (hK : K3 w μ L) (hL : 0 ≤ L ∧ L + 7 ≤ (sa.2.1 : Int)) (hs : sa.2.1 ≤ 3584) (nx : ∀ (w1 : mW) (μ1 : mM) (ce sl : Nat), J w1 μ1 → K3 w1 μ1 (L + 7) → sV (gG l D c H0 sa) mL room_1 lwZ 1798 [(3, iv L), (2, .ref 106), (1, .ref 0), (0, .retAddr 0)] [] (mk w1 μ1) ce sl) : sV (gG l D c H0 sa) mL room_1 lwZ 326 [(3, iv L), (2, .ref 106), (1, .ref 0), (0, .retAddr 0)] [] (mk w μ) w.1 (szW w) := by
  have hb := hJ.bd
  have hK0 := hK
  obtain ⟨y, kC, kR, kX, kU, kB, kT⟩ := hK
  have hM : sMd (xS (yX y)) ≤ 2000000000 := by omega
  refine sv_aload_n (pc := 326) dL_law_326 rfl rfl ?_
  refine la_argE (pc := 327) (j := 1) dL_law_327 dL_law_328 dL_law_329 dL_law_330 dL_law_331 rfl rfl hL (by decide) hs fun a1 s1 b1 => ?_
  refine la_argE (pc := 332) (j := 2) dL_law_332 dL_law_333 dL_law_334 dL_law_335 dL_law_336 rfl rfl hL (by decide) hs fun a2 s2 b2 => ?_
  refine mr_cVI (pc := 337) (c_X11_prefix_W hJ.1 hJ.2.1 b1 b2 (C_prefix hJ.1 kC kX)) (gOk _ _ _ _ _) dL_law_337 (tX11_prefix _ _ _ _ _) ⟨wV_X11_prefix, wL_X11_prefix⟩ wM_DomainHouseLaw_23 (gCX11 _ _ _ _ _) rfl (A_0 hJ.1) rfl ⟨le_t rfl, le_t rfl⟩ ⟨show w.1 ≤ 600000 by omega, show szW w ≤ 7302250 by omega⟩ rfl (le_t rfl) fun z3 μ3 T3 F3 P3 => ?_
  obtain ⟨rg3, ⟨ez3, kc3⟩, _⟩ := P3
  have J3 : J w μ3 := hJ.cls T3 F3 rfl (hJ.2.2.2.1.f hJ.1 F3 rfl rfl)
  have kR3 : K2R μ3 y := kR.fr hJ.1 hJ.2.1 (mX.ofF F3) rfl
  have kC3 : K2C w μ3 (pfx! y a1 a2).2 := kc3
  have kT3 : TW μ3 := kT.fr hJ.1 (mX.ofF F3) rfl
  refine sv_pop (pc := 340) dL_law_340 rfl ?_
  refine sv_aload_n (pc := 341) dL_law_341 rfl rfl ?_
  refine la_argE (pc := 342) (j := 1) dL_law_342 dL_law_343 dL_law_344 dL_law_345 dL_law_346 rfl rfl hL (by decide) hs fun a4 s4 b4 => ?_
  refine la_argE (pc := 347) (j := 2) dL_law_347 dL_law_348 dL_law_349 dL_law_350 dL_law_351 rfl rfl hL (by decide) hs fun a5 s5 b5 => ?_
  obtain rfl : a1 = a4 := s1.trans s4.symm
  obtain rfl : a2 = a5 := s2.trans s5.symm
  refine mr_cVI (pc := 352) (c_X12_prefix_W J3.1 J3.2.1 b4 b5 (R_prefix J3.1 J3.2.1 kR3 kX b4)) (gOk _ _ _ _ _) dL_law_352 (tX12_prefix _ _ _ _ _) ⟨wV_X12_prefix, wL_X12_prefix⟩ wM_DomainHouseLaw_27 (gCX12 _ _ _ _ _) rfl (A_106 J3.1) rfl ⟨le_t rfl, le_t rfl⟩ ⟨show w.1 ≤ 600000 by omega, show szW w ≤ 7302250 by omega⟩ rfl (le_t rfl) fun z6 μ6 T6 F6 P6 => ?_
  obtain ⟨rg6, ⟨ez6, kc6⟩, _⟩ := P6
  have kR6 : K2R μ6 (pfx! y a1 a2).2 := kc6
  have kC6 : K2C w μ6 (pfx! y a1 a2).2 := kC3.fr J3.1 J3.2.1 (mX.ofF F6) rfl
  have kS : k2S y (pfx! y a1 a2).2 := X_prefix b1 kX
  have J6 : J w μ6 := J3.mod T6 F6 rfl rfl (G1.ofK kR6 kS.1) (EV.ofK kR6 kS.1) (PK.ofK kR6 (J3.2.2.2.2.2.2.1.2.2.pT J3.1 F6 rfl)) (F6.f (A_106 J3.1) rfl rfl)
  have kT6 : TW μ6 := kT3.fr J3.1 (mX.ofF F6) rfl
  refine sv_pop (pc := 355) dL_law_355 rfl ?_
  refine sv_goto (pc := 356) (tgt := 1798) dL_law_356 (by decide) ?_
  exact nx w μ6 _ _ J6 (K3.mk kC6 kR6 kS (U_prefix kX kU kC.1.2.2.2.1) kB kT6)
theorem op_3 {l : Launch} {D : va_G} {c : Nat → ClassId} {H0 : Heap} {sa : Nat × Nat × (Nat → Int32)} {w : mW} {μ : mM} {L : Int} (hJ : J w μ) (hK : K3 w μ L) (hL : 0 ≤ L ∧ L + 7 ≤ (sa.2.1 : Int)) (hs : sa.2.1 ≤ 3584) (nx : ∀ (w1 : mW) (μ1 : mM) (ce sl : Nat), J w1 μ1 → K3 w1 μ1 (L + 7) → sV (gG l D c H0 sa) mL room_1 lwZ 1798 [(3, iv L), (2, .ref 106), (1, .ref 0), (0, .retAddr 0)] [] (mk w1 μ1) ce sl) : sV (gG l D c H0 sa) mL room_1 lwZ 359 [(3, iv L), (2, .ref 106), (1, .ref 0), (0, .retAddr 0)] [] (mk w μ) w.1 (szW w) := by
  have hb := hJ.bd
  have hK0 := hK
  obtain ⟨y, kC, kR, kX, kU, kB, kT⟩ := hK
  have hM : sMd (xS (yX y)) ≤ 2000000000 := by omega
  have hc0 := J.c0 hJ.1 hJ.2.1
  have hdq : μ 106 5 = w.2.2.2 0 := hJ.2.2.2.2.2.2.2.1
  have e15 : μ 6 15 = (eD (xE (yX y)) : Int) := kC.1.1.2.2.1
  have e05 : μ 106 5 = (eD (xE (yX y)) : Int) := kR.1.1.2.2.1
  refine sv_aload_n (pc := 359) dL_law_359 rfl rfl ?_
  refine mr_cVIX (pc := 360) (c_X11_domain_e hJ.1 hJ.2.1 rfl) (gOk _ _ _ _ _) dL_law_360 (tX11_domain _ _ _ _ _) ⟨wV_X11_domain, wL_X11_domain⟩ wM_DomainHouseLaw_28 (gCX11 _ _ _ _ _) rfl (A_0 hJ.1) rfl ⟨le_t rfl, le_t rfl⟩ ⟨show w.1 + 35 ≤ 600000 by omega, show szW w + 442 ≤ 7302250 by omega⟩ rfl (le_t rfl) fun z1 w1 μ1 W1 T1 X1 P1 => ?_
  have kt1 := C_domain hJ.1 hJ.2.1 kC kX rfl (P1.elim (fun q => Or.inl q) (fun q => Or.inr ⟨q.1, q.2.1, q.2.2.2.2.2.2.1, q.2.2.2.2.2.2.2⟩))
  have kR1 : K2R μ1 y := kR.fr hJ.1 hJ.2.1 X1 rfl
  have kT1 : TW μ1 := kT.fr hJ.1 X1 rfl
  refine sv_pop (pc := 363) dL_law_363 rfl ?_
  refine sv_aload_n (pc := 364) dL_law_364 rfl rfl ?_
  refine mr_cVI (pc := 365) (c_X12_domain_W W1 T1 (R_domain W1 T1 kR1 kX)) (gOk _ _ _ _ _) dL_law_365 (tX12_domain _ _ _ _ _) ⟨wV_X12_domain, wL_X12_domain⟩ wM_DomainHouseLaw_32 (gCX12 _ _ _ _ _) rfl (A_106 W1) rfl ⟨le_t rfl, le_t rfl⟩ ⟨show w.1 + 35 ≤ 600000 by omega, show szW w + 442 ≤ 7302250 by omega⟩ rfl (le_t rfl) fun z2 μ2 T2 F2 P2 => ?_
  obtain ⟨rg2, ⟨ez2, kR2⟩, _⟩ := P2
  have kS : k2S y (dom! y).2 := X_domain kX
  have d5 := dom5 kR2
  have kC2 : K2C w1 μ2 (dom! y).2 := kt1.2.fr W1 T1 (mX.ofF F2) rfl
  have kT2 : TW μ2 := kT1.fr W1 (mX.ofF F2) rfl
  have fin : J w1 μ2 := by
    rcases P1 with ⟨n10, e1, rfl, rfl⟩ | ⟨n9, e1, c1, s1, s2, _⟩
    · rw [if_pos (by omega)] at d5
      exact hJ.mod T2 F2 rfl rfl (hJ.2.2.2.2.2.2.1.1.fr hJ.1 F2 rfl rfl rfl) (hJ.2.2.2.2.2.2.1.2.1.keep hJ.1 F2 rfl) (hJ.2.2.2.2.2.2.1.2.2.keep hJ.1 F2 rfl) (by omega)
    · rw [if_neg (by omega)] at d5
      obtain ⟨g1, g2, g3, g4, g5, g6, ⟨g7, g8, g9⟩, g10, g11⟩ := hJ.dom W1 T1 X1 c1 s1 s2
      have s := sM_.of hJ.1 X1 rfl
      have e5 : μ1 106 5 = μ 106 5 := s.1 5 (by decide)
      have e7 : μ2 94 7 = μ1 94 7 := F2.f (A_94 W1) rfl rfl
      have e14 : μ2 94 14 = μ1 94 14 := F2.f (A_94 W1) rfl rfl
      have e6 : μ2 94 6 = μ1 94 6 := F2.f (A_94 W1) rfl rfl
      have e8 : μ2 94 8 = μ1 94 8 := F2.f (A_94 W1) rfl rfl
      refine ⟨W1, T2, g3.keep W1 F2 rfl, g4.f W1 F2 rfl rfl, ?_, ?_, ⟨g7.fr W1 F2 rfl rfl rfl, g8.keep W1 F2 rfl, g9.keep W1 F2 rfl⟩, ?_, ?_⟩
      · unfold rlP; rw [e7, e14]; exact g5
      · unfold TQ; rw [e6, e8]; exact g6
      · unfold DQ; omega
      · unfold RM; rw [e7, e6]; exact g11
  refine sv_pop (pc := 368) dL_law_368 rfl ?_
  refine sv_goto (pc := 369) (tgt := 1798) dL_law_369 (by decide) ?_
  exact nx w1 μ2 _ _ fin (K3.mk kC2 kR2 kS (U_domain kX kU) kB kT2)
theorem op_4 {l : Launch} {D : va_G} {c : Nat → ClassId} {H0 : Heap} {sa : Nat × Nat × (Nat → Int32)} {w : mW} {μ : mM} {L : Int} (hJ : J w μ) (hK : K3 w μ L) (hL : 0 ≤ L ∧ L + 7 ≤ (sa.2.1 : Int)) (hs : sa.2.1 ≤ 3584) (nx : ∀ (w1 : mW) (μ1 : mM) (ce sl : Nat), J w1 μ1 → K3 w1 μ1 (L + 7) → sV (gG l D c H0 sa) mL room_1 lwZ 1798 [(3, iv L), (2, .ref 106), (1, .ref 0), (0, .retAddr 0)] [] (mk w1 μ1) ce sl) : sV (gG l D c H0 sa) mL room_1 lwZ 372 [(3, iv L), (2, .ref 106), (1, .ref 0), (0, .retAddr 0)] [] (mk w μ) w.1 (szW w) := by
  have hb := hJ.bd
  have hK0 := hK
  obtain ⟨y, kC, kR, kX, kU, kB, kT⟩ := hK
  have hM : sMd (xS (yX y)) ≤ 2000000000 := by omega
  refine sv_aload_n (pc := 372) dL_law_372 rfl rfl ?_
  refine la_argE (pc := 373) (j := 1) dL_law_373 dL_law_374 dL_law_375 dL_law_376 dL_law_377 rfl rfl hL (by decide) hs fun a1 s1 b1 => ?_
  refine la_argE (pc := 378) (j := 2) dL_law_378 dL_law_379 dL_law_380 dL_law_381 dL_law_382 rfl rfl hL (by decide) hs fun a2 s2 b2 => ?_
  refine la_argE (pc := 383) (j := 3) dL_law_383 dL_law_384 dL_law_385 dL_law_386 dL_law_387 rfl rfl hL (by decide) hs fun a3 s3 b3 => ?_
  refine mr_cVIX (pc := 388) (c_X11_tie_e hJ.1 hJ.2.1 b1 b2 b3) (gOk _ _ _ _ _) dL_law_388 (tX11_tie _ _ _ _ _) ⟨wV_X11_tie, wL_X11_tie⟩ wM_DomainHouseLaw_33 (gCX11 _ _ _ _ _) rfl (A_0 hJ.1) rfl ⟨le_t rfl, le_t rfl⟩ ⟨show w.1 + 124 ≤ 600000 by omega, show szW w + 1653 ≤ 7302250 by omega⟩ rfl (le_t rfl) fun z4 w4 μ4 W4 T4 X4 P4 => ?_
  have J4 : J w4 μ4 := hJ.tie W4 T4 X4 P4.2.1
  have kR4 : K2R μ4 y := kR.fr hJ.1 hJ.2.1 X4 rfl
  have kT4 : TW μ4 := kT.fr hJ.1 X4 rfl
  have kt4 := C_tie hJ.1 hJ.2.1 kC kX P4.2.2.1 P4.2.2.2
  have kC4 : K2C w4 μ4 (tie! y a1 a2 a3).2 := kt4.2
  refine sv_pop (pc := 391) dL_law_391 rfl ?_
  refine sv_aload_n (pc := 392) dL_law_392 rfl rfl ?_
  refine la_argE (pc := 393) (j := 1) dL_law_393 dL_law_394 dL_law_395 dL_law_396 dL_law_397 rfl rfl hL (by decide) hs fun a5 s5 b5 => ?_
  refine la_argE (pc := 398) (j := 2) dL_law_398 dL_law_399 dL_law_400 dL_law_401 dL_law_402 rfl rfl hL (by decide) hs fun a6 s6 b6 => ?_
  refine la_argE (pc := 403) (j := 3) dL_law_403 dL_law_404 dL_law_405 dL_law_406 dL_law_407 rfl rfl hL (by decide) hs fun a7 s7 b7 => ?_
  obtain rfl : a1 = a5 := s1.trans s5.symm
  obtain rfl : a2 = a6 := s2.trans s6.symm
  obtain rfl : a3 = a7 := s3.trans s7.symm
  refine mr_cVI (pc := 408) (c_X12_tie_W J4.1 J4.2.1 b5 b6 b7 (R_tie J4.1 J4.2.1 kR4 kX)) (gOk _ _ _ _ _) dL_law_408 (tX12_tie _ _ _ _ _) ⟨wV_X12_tie, wL_X12_tie⟩ wM_DomainHouseLaw_37 (gCX12 _ _ _ _ _) rfl (A_106 J4.1) rfl ⟨le_t rfl, le_t rfl⟩ ⟨show (w.1 + 124) ≤ 600000 by omega, show (szW w + 1653) ≤ 7302250 by omega⟩ rfl (le_t rfl) fun z8 μ8 T8 F8 P8 => ?_
  obtain ⟨rg8, ⟨ez8, kc8⟩, _⟩ := P8
  have kR8 : K2R μ8 (tie! y a1 a2 a3).2 := kc8
  have kC8 : K2C w4 μ8 (tie! y a1 a2 a3).2 := kC4.fr J4.1 J4.2.1 (mX.ofF F8) rfl
  have kS := X_tie (a := a1) (b := a2) (k := a3) kX
  have J8 : J w4 μ8 := J4.mod T8 F8 rfl rfl (G1.ofK kR8 kS.1) (EV.ofK kR8 kS.1) (PK.ofK kR8 (J4.2.2.2.2.2.2.1.2.2.pT J4.1 F8 rfl)) (F8.f (A_106 J4.1) rfl rfl)
  have kT8 : TW μ8 := kT4.fr J4.1 (mX.ofF F8) rfl
  refine sv_pop (pc := 411) dL_law_411 rfl ?_
  refine sv_goto (pc := 412) (tgt := 1798) dL_law_412 (by decide) ?_
  exact nx w4 μ8 _ _ J8 (K3.mk kC8 kR8 kS (U_tie kX kU kC.1.2.2.2.1) kB kT8)
theorem op_5 {l : Launch} {D : va_G} {c : Nat → ClassId} {H0 : Heap} {sa : Nat × Nat × (Nat → Int32)} {w : mW} {μ : mM} {L : Int} (hJ : J w μ) (hK : K3 w μ L) (hL : 0 ≤ L ∧ L + 7 ≤ (sa.2.1 : Int)) (hs : sa.2.1 ≤ 3584) (nx : ∀ (w1 : mW) (μ1 : mM) (ce sl : Nat), J w1 μ1 → K3 w1 μ1 (L + 7) → sV (gG l D c H0 sa) mL room_1 lwZ 1798 [(3, iv L), (2, .ref 106), (1, .ref 0), (0, .retAddr 0)] [] (mk w1 μ1) ce sl) : sV (gG l D c H0 sa) mL room_1 lwZ 415 [(3, iv L), (2, .ref 106), (1, .ref 0), (0, .retAddr 0)] [] (mk w μ) w.1 (szW w) := by
  have hb := hJ.bd
  have hK0 := hK
  obtain ⟨y, kC, kR, kX, kU, kB, kT⟩ := hK
  have hM : sMd (xS (yX y)) ≤ 2000000000 := by omega
  refine sv_aload_n (pc := 415) dL_law_415 rfl rfl ?_
  refine la_argE (pc := 416) (j := 1) dL_law_416 dL_law_417 dL_law_418 dL_law_419 dL_law_420 rfl rfl hL (by decide) hs fun a1 s1 b1 => ?_
  refine la_argE (pc := 421) (j := 2) dL_law_421 dL_law_422 dL_law_423 dL_law_424 dL_law_425 rfl rfl hL (by decide) hs fun a2 s2 b2 => ?_
  refine la_argE (pc := 426) (j := 3) dL_law_426 dL_law_427 dL_law_428 dL_law_429 dL_law_430 rfl rfl hL (by decide) hs fun a3 s3 b3 => ?_
  refine mr_cVI (pc := 431) (c_X11_pace_W hJ.1 hJ.2.1 b1 b2 b3 (C_pace hJ.1 hJ.2.1 kC.1 kX.1)) (gOk _ _ _ _ _) dL_law_431 (tX11_pace _ _ _ _ _) ⟨wV_X11_pace, wL_X11_pace⟩ wM_DomainHouseLaw_38 (gCX11 _ _ _ _ _) rfl (A_0 hJ.1) rfl ⟨le_t rfl, le_t rfl⟩ ⟨show w.1 ≤ 600000 by omega, show szW w ≤ 7302250 by omega⟩ rfl (le_t rfl) fun z4 μ4 T4 F4 P4 => ?_
  obtain ⟨rg4, ⟨ez4, kc4⟩, _⟩ := P4
  have J4 : J w μ4 := hJ.cls T4 F4 rfl (hJ.2.2.2.1.f hJ.1 F4 rfl rfl)
  have kR4 : K2R μ4 y := kR.fr hJ.1 hJ.2.1 (mX.ofF F4) rfl
  have kC4 : K2C w μ4 (y2 ((pac! (yX y) a1 a2 a3).2) y) := kC.up hJ.1 F4 rfl kc4 sm_pac.1 (congrArg jL sm_pac.2)
  have kT4 : TW μ4 := kT.fr hJ.1 (mX.ofF F4) rfl
  refine sv_pop (pc := 434) dL_law_434 rfl ?_
  refine sv_aload_n (pc := 435) dL_law_435 rfl rfl ?_
  refine la_argE (pc := 436) (j := 1) dL_law_436 dL_law_437 dL_law_438 dL_law_439 dL_law_440 rfl rfl hL (by decide) hs fun a5 s5 b5 => ?_
  refine la_argE (pc := 441) (j := 2) dL_law_441 dL_law_442 dL_law_443 dL_law_444 dL_law_445 rfl rfl hL (by decide) hs fun a6 s6 b6 => ?_
  refine la_argE (pc := 446) (j := 3) dL_law_446 dL_law_447 dL_law_448 dL_law_449 dL_law_450 rfl rfl hL (by decide) hs fun a7 s7 b7 => ?_
  obtain rfl : a1 = a5 := s1.trans s5.symm
  obtain rfl : a2 = a6 := s2.trans s6.symm
  obtain rfl : a3 = a7 := s3.trans s7.symm
  refine mr_cVI (pc := 451) (c_X12_pace_W J4.1 J4.2.1 b5 b6 b7 (R_pace J4.1 J4.2.1 kR4.1 kX.1)) (gOk _ _ _ _ _) dL_law_451 (tX12_pace _ _ _ _ _) ⟨wV_X12_pace, wL_X12_pace⟩ wM_DomainHouseLaw_41 (gCX12 _ _ _ _ _) rfl (A_106 J4.1) rfl ⟨le_t rfl, le_t rfl⟩ ⟨show w.1 ≤ 600000 by omega, show szW w ≤ 7302250 by omega⟩ rfl (le_t rfl) fun z8 μ8 T8 F8 P8 => ?_
  obtain ⟨rg8, ⟨ez8, kc8⟩, _⟩ := P8
  have kR8 : K2R μ8 (y2 ((pac! (yX y) a1 a2 a3).2) y) := kR4.up J4.1 F8 rfl kc8
  have kC8 : K2C w μ8 (y2 ((pac! (yX y) a1 a2 a3).2) y) := kC4.fr J4.1 J4.2.1 (mX.ofF F8) rfl
  have kS : k2S y (y2 ((pac! (yX y) a1 a2 a3).2) y) := kX.up (X_pace kX.1) sm_pac.1 sm_pac.2
  have J8 : J w μ8 := J4.mod T8 F8 rfl rfl (G1.ofK kR8 kS.1) (EV.ofK kR8 kS.1) (PK.ofK kR8 (J4.2.2.2.2.2.2.1.2.2.pT J4.1 F8 rfl)) (F8.f (A_106 J4.1) rfl rfl)
  have kT8 : TW μ8 := kT4.fr J4.1 (mX.ofF F8) rfl
  refine sv_pop (pc := 454) dL_law_454 rfl ?_
  refine sv_goto (pc := 455) (tgt := 1798) dL_law_455 (by decide) ?_
  exact nx w μ8 _ _ J8 (K3.mk kC8 kR8 kS (U_pace kU) kB kT8)
theorem op_6 {l : Launch} {D : va_G} {c : Nat → ClassId} {H0 : Heap} {sa : Nat × Nat × (Nat → Int32)} {w : mW} {μ : mM} {L : Int} (hJ : J w μ) (hK : K3 w μ L) (hL : 0 ≤ L ∧ L + 7 ≤ (sa.2.1 : Int)) (hs : sa.2.1 ≤ 3584) (nx : ∀ (w1 : mW) (μ1 : mM) (ce sl : Nat), J w1 μ1 → K3 w1 μ1 (L + 7) → sV (gG l D c H0 sa) mL room_1 lwZ 1798 [(3, iv L), (2, .ref 106), (1, .ref 0), (0, .retAddr 0)] [] (mk w1 μ1) ce sl) : sV (gG l D c H0 sa) mL room_1 lwZ 458 [(3, iv L), (2, .ref 106), (1, .ref 0), (0, .retAddr 0)] [] (mk w μ) w.1 (szW w) := by
  have hb := hJ.bd
  have hK0 := hK
  obtain ⟨y, kC, kR, kX, kU, kB, kT⟩ := hK
  have hM : sMd (xS (yX y)) ≤ 2000000000 := by omega
  refine sv_aload_n (pc := 458) dL_law_458 rfl rfl ?_
  refine la_argE (pc := 459) (j := 1) dL_law_459 dL_law_460 dL_law_461 dL_law_462 dL_law_463 rfl rfl hL (by decide) hs fun a1 s1 b1 => ?_
  refine la_argE (pc := 464) (j := 2) dL_law_464 dL_law_465 dL_law_466 dL_law_467 dL_law_468 rfl rfl hL (by decide) hs fun a2 s2 b2 => ?_
  refine la_boolE (pc := 469) dL_law_469 dL_law_472 dL_law_473 dL_law_476 b2 fun a3 s3 b3 => ?_
  refine mr_cVI (pc := 477) (c_X11_raise_W hJ.1 hJ.2.1 b1 b3 hJ.2.2.1 (C_raise hJ.1 hJ.2.1 kC.1 kX.1)) (gOk _ _ _ _ _) dL_law_477 (tX11_raise _ _ _ _ _) ⟨wV_X11_raise, wL_X11_raise⟩ wM_DomainHouseLaw_42 (gCX11 _ _ _ _ _) rfl (A_0 hJ.1) rfl ⟨le_t rfl, le_t rfl⟩ ⟨show w.1 ≤ 600000 by omega, show szW w ≤ 7302250 by omega⟩ rfl (le_t rfl) fun z4 μ4 T4 F4 P4 => ?_
  obtain ⟨rg4, ⟨ez4, kc4⟩, _⟩ := P4
  have J4 : J w μ4 := hJ.cls T4 F4 rfl (hJ.2.2.2.1.f hJ.1 F4 rfl rfl)
  have kR4 : K2R μ4 y := kR.fr hJ.1 hJ.2.1 (mX.ofF F4) rfl
  have kC4 : K2C w μ4 (y2 ((rai! (yX y) a1 a3).2) y) := kC.up hJ.1 F4 rfl (kc4 (mF.refl.call F4 rfl)) sm_rai.1 (congrArg jL sm_rai.2)
  have kT4 : TW μ4 := kT.fr hJ.1 (mX.ofF F4) rfl
  refine sv_pop (pc := 480) dL_law_480 rfl ?_
  refine sv_aload_n (pc := 481) dL_law_481 rfl rfl ?_
  refine la_argE (pc := 482) (j := 1) dL_law_482 dL_law_483 dL_law_484 dL_law_485 dL_law_486 rfl rfl hL (by decide) hs fun a5 s5 b5 => ?_
  refine la_argE (pc := 487) (j := 2) dL_law_487 dL_law_488 dL_law_489 dL_law_490 dL_law_491 rfl rfl hL (by decide) hs fun a6 s6 b6 => ?_
  refine la_boolE (pc := 492) dL_law_492 dL_law_495 dL_law_496 dL_law_499 b6 fun a7 s7 b7 => ?_
  obtain rfl : a1 = a5 := s1.trans s5.symm
  obtain rfl : a2 = a6 := s2.trans s6.symm
  obtain rfl : a3 = a7 := by omega
  refine mr_cVI (pc := 500) (c_X12_raise_W J4.1 J4.2.1 b5 b7 J4.2.2.2.2.2.2.1.1 J4.2.2.2.2.2.2.1.2.1 J4.2.2.2.2.2.2.1.2.2 (R_raise J4.1 J4.2.1 kR4.1 kX.1 hM (by omega))) (gOk _ _ _ _ _) dL_law_500 (tX12_raise _ _ _ _ _) ⟨wV_X12_raise, wL_X12_raise⟩ wM_DomainHouseLaw_46 (gCX12 _ _ _ _ _) rfl (A_106 J4.1) rfl ⟨le_t rfl, le_t rfl⟩ ⟨show w.1 ≤ 600000 by omega, show szW w ≤ 7302250 by omega⟩ rfl (le_t rfl) fun z8 μ8 T8 F8 P8 => ?_
  obtain ⟨rg8, _, _, ⟨ez8, kc8⟩, _⟩ := P8
  have kR8 : K2R μ8 (y2 ((rai! (yX y) a1 a3).2) y) := kR4.up J4.1 F8 rfl (kc8 (mF.refl.call F8 rfl))
  have kC8 : K2C w μ8 (y2 ((rai! (yX y) a1 a3).2) y) := kC4.fr J4.1 J4.2.1 (mX.ofF F8) rfl
  have kS : k2S y (y2 ((rai! (yX y) a1 a3).2) y) := kX.up (X_raise kX.1) sm_rai.1 sm_rai.2
  have J8 : J w μ8 := J4.mod T8 F8 rfl rfl (G1.ofK kR8 kS.1) (EV.ofK kR8 kS.1) (PK.ofK kR8 (J4.2.2.2.2.2.2.1.2.2.pT J4.1 F8 rfl)) (F8.f (A_106 J4.1) rfl rfl)
  have kT8 : TW μ8 := kT4.fr J4.1 (mX.ofF F8) rfl
  refine sv_pop (pc := 503) dL_law_503 rfl ?_
  refine sv_goto (pc := 504) (tgt := 1798) dL_law_504 (by decide) ?_
  exact nx w μ8 _ _ J8 (K3.mk kC8 kR8 kS (U_raise kX.1 kU) kB kT8)
theorem op_7 {l : Launch} {D : va_G} {c : Nat → ClassId} {H0 : Heap} {sa : Nat × Nat × (Nat → Int32)} {w : mW} {μ : mM} {L : Int} (hJ : J w μ) (hK : K3 w μ L) (hL : 0 ≤ L ∧ L + 7 ≤ (sa.2.1 : Int)) (hs : sa.2.1 ≤ 3584) (nx : ∀ (w1 : mW) (μ1 : mM) (ce sl : Nat), J w1 μ1 → K3 w1 μ1 (L + 7) → sV (gG l D c H0 sa) mL room_1 lwZ 1798 [(3, iv L), (2, .ref 106), (1, .ref 0), (0, .retAddr 0)] [] (mk w1 μ1) ce sl) : sV (gG l D c H0 sa) mL room_1 lwZ 507 [(3, iv L), (2, .ref 106), (1, .ref 0), (0, .retAddr 0)] [] (mk w μ) w.1 (szW w) := by
  have hb := hJ.bd
  have hK0 := hK
  obtain ⟨y, kC, kR, kX, kU, kB, kT⟩ := hK
  have hM : sMd (xS (yX y)) ≤ 2000000000 := by omega
  refine sv_aload_n (pc := 507) dL_law_507 rfl rfl ?_
  refine la_arg (pc := 508) (j := 1) dL_law_508 dL_law_509 dL_law_510 dL_law_511 dL_law_512 rfl rfl hL (by decide) hs fun a1 b1 => ?_
  refine la_arg (pc := 513) (j := 2) dL_law_513 dL_law_514 dL_law_515 dL_law_516 dL_law_517 rfl rfl hL (by decide) hs fun a2 b2 => ?_
  refine mr_cVP (pc := 518) (c_X11_cone hJ.1 hJ.2.1 b1 b2) (gOk _ _ _ _ _) dL_law_518 (tX11_cone _ _ _ _ _) ⟨wV_X11_cone, wL_X11_cone⟩ wM_DomainHouseLaw_47 (gCX11 _ _ _ _ _) rfl (A_0 hJ.1) rfl ⟨le_t rfl, le_t rfl⟩ ⟨show w.1 ≤ 600000 by omega, show szW w ≤ 7302250 by omega⟩ rfl (le_t rfl) fun z3 h3 => ?_
  refine sv_pop (pc := 521) dL_law_521 rfl ?_
  refine sv_aload_n (pc := 522) dL_law_522 rfl rfl ?_
  refine la_arg (pc := 523) (j := 1) dL_law_523 dL_law_524 dL_law_525 dL_law_526 dL_law_527 rfl rfl hL (by decide) hs fun a4 b4 => ?_
  refine la_arg (pc := 528) (j := 2) dL_law_528 dL_law_529 dL_law_530 dL_law_531 dL_law_532 rfl rfl hL (by decide) hs fun a5 b5 => ?_
  refine mr_cVI (pc := 533) (c_X12_cone hJ.1 hJ.2.1 b4 b5) (gOk _ _ _ _ _) dL_law_533 (tX12_cone _ _ _ _ _) ⟨wV_X12_cone, wL_X12_cone⟩ wM_DomainHouseLaw_50 (gCX12 _ _ _ _ _) rfl (A_106 hJ.1) rfl ⟨le_t rfl, le_t rfl⟩ ⟨show w.1 ≤ 600000 by omega, show szW w ≤ 7302250 by omega⟩ rfl (le_t rfl) fun z6 μ6 T6 F6 P6 => ?_
  have kR6 : K2R μ6 y := kR.fr hJ.1 hJ.2.1 (mX.ofF F6) rfl
  have kC6 : K2C w μ6 y := kC.fr hJ.1 hJ.2.1 (mX.ofF F6) rfl
  have J6 : J w μ6 := hJ.mod T6 F6 rfl rfl (G1.ofK kR6 kX) (EV.ofK kR6 kX) (PK.ofK kR6 (hJ.2.2.2.2.2.2.1.2.2.pT hJ.1 F6 rfl)) (F6.f (A_106 hJ.1) rfl rfl)
  have kT6 : TW μ6 := kT.fr hJ.1 (mX.ofF F6) rfl
  refine sv_pop (pc := 536) dL_law_536 rfl ?_
  refine sv_goto (pc := 537) (tgt := 1798) dL_law_537 (by decide) ?_
  exact nx w μ6 _ _ J6 (K3.mk kC6 kR6 (k2S.refl kX) kU kB kT6)
theorem op_8 {l : Launch} {D : va_G} {c : Nat → ClassId} {H0 : Heap} {sa : Nat × Nat × (Nat → Int32)} {w : mW} {μ : mM} {L : Int} (hJ : J w μ) (hK : K3 w μ L) (hL : 0 ≤ L ∧ L + 7 ≤ (sa.2.1 : Int)) (hs : sa.2.1 ≤ 3584) (nx : ∀ (w1 : mW) (μ1 : mM) (ce sl : Nat), J w1 μ1 → K3 w1 μ1 (L + 7) → sV (gG l D c H0 sa) mL room_1 lwZ 1798 [(3, iv L), (2, .ref 106), (1, .ref 0), (0, .retAddr 0)] [] (mk w1 μ1) ce sl) : sV (gG l D c H0 sa) mL room_1 lwZ 540 [(3, iv L), (2, .ref 106), (1, .ref 0), (0, .retAddr 0)] [] (mk w μ) w.1 (szW w) := by
  have hb := hJ.bd
  have hK0 := hK
  obtain ⟨y, kC, kR, kX, kU, kB, kT⟩ := hK
  have hM : sMd (xS (yX y)) ≤ 2000000000 := by omega
  refine sv_aload_n (pc := 540) dL_law_540 rfl rfl ?_
  refine la_arg (pc := 541) (j := 1) dL_law_541 dL_law_542 dL_law_543 dL_law_544 dL_law_545 rfl rfl hL (by decide) hs fun a1 b1 => ?_
  refine mr_cVI (pc := 546) (c_X11_ring hJ.1 hJ.2.1 b1) (gOk _ _ _ _ _) dL_law_546 (tX11_ring _ _ _ _ _) ⟨wV_X11_ring, wL_X11_ring⟩ wM_DomainHouseLaw_51 (gCX11 _ _ _ _ _) rfl (A_0 hJ.1) rfl ⟨le_t rfl, le_t rfl⟩ ⟨show w.1 ≤ 600000 by omega, show szW w ≤ 7302250 by omega⟩ rfl (le_t rfl) fun z2 μ2 T2 F2 P2 => ?_
  have J2 : J w μ2 := hJ.cls T2 F2 rfl (hJ.2.2.2.1.f hJ.1 F2 rfl rfl)
  have kR2 : K2R μ2 y := kR.fr hJ.1 hJ.2.1 (mX.ofF F2) rfl
  have kC2 : K2C w μ2 y := kC.fr hJ.1 hJ.2.1 (mX.ofF F2) rfl
  have kT2 : TW μ2 := kT.fr hJ.1 (mX.ofF F2) rfl
  refine sv_pop (pc := 549) dL_law_549 rfl ?_
  refine sv_aload_n (pc := 550) dL_law_550 rfl rfl ?_
  refine la_arg (pc := 551) (j := 1) dL_law_551 dL_law_552 dL_law_553 dL_law_554 dL_law_555 rfl rfl hL (by decide) hs fun a3 b3 => ?_
  refine mr_cVI (pc := 556) (c_X12_ring J2.1 J2.2.1 b3) (gOk _ _ _ _ _) dL_law_556 (tX12_ring _ _ _ _ _) ⟨wV_X12_ring, wL_X12_ring⟩ wM_DomainHouseLaw_54 (gCX12 _ _ _ _ _) rfl (A_106 J2.1) rfl ⟨le_t rfl, le_t rfl⟩ ⟨show w.1 ≤ 600000 by omega, show szW w ≤ 7302250 by omega⟩ rfl (le_t rfl) fun z4 μ4 T4 F4 P4 => ?_
  have kR4 : K2R μ4 y := kR2.fr J2.1 J2.2.1 (mX.ofF F4) rfl
  have kC4 : K2C w μ4 y := kC2.fr J2.1 J2.2.1 (mX.ofF F4) rfl
  have J4 : J w μ4 := J2.mod T4 F4 rfl rfl (G1.ofK kR4 kX) (EV.ofK kR4 kX) (PK.ofK kR4 (J2.2.2.2.2.2.2.1.2.2.pT J2.1 F4 rfl)) (F4.f (A_106 J2.1) rfl rfl)
  have kT4 : TW μ4 := kT2.fr J2.1 (mX.ofF F4) rfl
  refine sv_pop (pc := 559) dL_law_559 rfl ?_
  refine sv_goto (pc := 560) (tgt := 1798) dL_law_560 (by decide) ?_
  exact nx w μ4 _ _ J4 (K3.mk kC4 kR4 (k2S.refl kX) kU kB kT4)
theorem op_9 {l : Launch} {D : va_G} {c : Nat → ClassId} {H0 : Heap} {sa : Nat × Nat × (Nat → Int32)} {w : mW} {μ : mM} {L : Int} (hJ : J w μ) (hK : K3 w μ L) (hL : 0 ≤ L ∧ L + 7 ≤ (sa.2.1 : Int)) (hs : sa.2.1 ≤ 3584) (nx : ∀ (w1 : mW) (μ1 : mM) (ce sl : Nat), J w1 μ1 → K3 w1 μ1 (L + 7) → sV (gG l D c H0 sa) mL room_1 lwZ 1798 [(3, iv L), (2, .ref 106), (1, .ref 0), (0, .retAddr 0)] [] (mk w1 μ1) ce sl) : sV (gG l D c H0 sa) mL room_1 lwZ 563 [(3, iv L), (2, .ref 106), (1, .ref 0), (0, .retAddr 0)] [] (mk w μ) w.1 (szW w) := by
  have hb := hJ.bd
  have hK0 := hK
  obtain ⟨y, kC, kR, kX, kU, kB, kT⟩ := hK
  have hM : sMd (xS (yX y)) ≤ 2000000000 := by omega
  refine sv_aload_n (pc := 563) dL_law_563 rfl rfl ?_
  refine la_argE (pc := 564) (j := 1) dL_law_564 dL_law_565 dL_law_566 dL_law_567 dL_law_568 rfl rfl hL (by decide) hs fun a1 s1 b1 => ?_
  refine mr_cVI (pc := 569) (c_X11_walk_w hJ.1 hJ.2.1 b1 rfl) (gOk _ _ _ _ _) dL_law_569 (tX11_walk _ _ _ _ _) ⟨wV_X11_walk, wL_X11_walk⟩ wM_DomainHouseLaw_55 (gCX11 _ _ _ _ _) rfl (A_0 hJ.1) rfl ⟨le_t rfl, le_t rfl⟩ ⟨show w.1 ≤ 600000 by omega, show szW w ≤ 7302250 by omega⟩ rfl (le_t rfl) fun z2 μ2 T2 F2 P2 => ?_
  obtain ⟨o_q_2, pp2_0, rg2, pp2_1, pp2_2, pp2_3, pp2_4, pp2_5, _⟩ := P2
  have J2 : J w μ2 := hJ.cls T2 F2 rfl (hJ.2.2.2.1.f hJ.1 F2 rfl rfl)
  have kR2 : K2R μ2 y := kR.fr hJ.1 hJ.2.1 (mX.ofF F2) rfl
  have kC2 : K2C w μ2 y := kC.fr hJ.1 hJ.2.1 (mX.ofF F2) rfl
  refine sv_pop (pc := 572) dL_law_572 rfl ?_
  refine sv_aload_n (pc := 573) dL_law_573 rfl rfl ?_
  refine la_argE (pc := 574) (j := 1) dL_law_574 dL_law_575 dL_law_576 dL_law_577 dL_law_578 rfl rfl hL (by decide) hs fun a3 s3 b3 => ?_
  obtain rfl : a1 = a3 := s1.trans s3.symm
  refine mr_cVI (pc := 579) (c_X12_walk_w J2.1 J2.2.1 b3 rfl) (gOk _ _ _ _ _) dL_law_579 (tX12_walk _ _ _ _ _) ⟨wV_X12_walk, wL_X12_walk⟩ wM_DomainHouseLaw_58 (gCX12 _ _ _ _ _) rfl (A_106 J2.1) rfl ⟨le_t rfl, le_t rfl⟩ ⟨show w.1 ≤ 600000 by omega, show szW w ≤ 7302250 by omega⟩ rfl (le_t rfl) fun z4 μ4 T4 F4 P4 => ?_
  obtain ⟨o_q_4, pp4_0, rg4, pp4_1, pp4_2, pp4_3, pp4_4, pp4_5, _⟩ := P4
  have kR4 : K2R μ4 y := kR2.fr J2.1 J2.2.1 (mX.ofF F4) rfl
  have kC4 : K2C w μ4 y := kC2.fr J2.1 J2.2.1 (mX.ofF F4) rfl
  have J4 : J w μ4 := J2.mod T4 F4 rfl rfl (G1.ofK kR4 kX) (EV.ofK kR4 kX) (PK.ofK kR4 (J2.2.2.2.2.2.2.1.2.2.pT J2.1 F4 rfl)) (F4.f (A_106 J2.1) rfl rfl)
  have hq0 : μ 0 10 = μ 106 1 := kT.1
  have hq2 : μ 21 8 = μ 106 39 := kT.2.2.1
  have hq3 : μ 0 11 = μ 106 15 := kT.2.2.2.1
  have c21 : μ4 21 8 = μ 21 8 := Eq.trans (F4.f (A_21 J2.1) rfl rfl) (F2.f (A_21 hJ.1) rfl rfl)
  have c39 : μ4 106 39 = μ 106 39 := Eq.trans (F4.f (A_106 J2.1) rfl rfl) (F2.f (A_106 hJ.1) rfl rfl)
  have r15 : μ2 106 15 = μ 106 15 := F2.f (A_106 hJ.1) rfl rfl
  have tq0 : 0 ≤ μ 106 15 ∧ μ 106 15 ≤ 20 := hJ.2.1 106 106 (A_106 hJ.1) 15
  have eo : o_q_2 = o_q_4 := by omega
  have ho : o_q_2 = 0 ∨ o_q_2 = μ 106 15 ∨ o_q_2 = μ 106 15 + 1 := by omega
  have fin0 : WYQ μ4 := WYQ.walk (x := a1) kT.2.2.2 tq0.1 ho (by have h := pp2_5; rw [hq3] at h; exact h) (fun i => F2.f (A_118 hJ.1) rfl rfl) (by have h := pp4_5; rw [r15, ← eo] at h; exact h) (fun i => F4.f (A_2 J2.1) rfl rfl) ((F4.f (A_0 J2.1) rfl rfl).trans pp2_0) (pp4_0.trans eo.symm)
  have s10 : μ4 0 10 = μ 0 10 := Eq.trans (F4.f (A_0 J2.1) rfl rfl) (F2.f (A_0 hJ.1) rfl rfl)
  have s1 : μ4 106 1 = μ 106 1 := Eq.trans (F4.f (A_106 J2.1) rfl rfl) (F2.f (A_106 hJ.1) rfl rfl)
  have kT4 : TW μ4 := ⟨by omega, TPE.fr (TPE.fr kT.2.1 hJ.1 hJ.2.1 F2 rfl) J2.1 J2.2.1 F4 rfl, by omega, fin0⟩
  refine sv_pop (pc := 582) dL_law_582 rfl ?_
  refine sv_goto (pc := 583) (tgt := 1798) dL_law_583 (by decide) ?_
  exact nx w μ4 _ _ J4 (K3.mk kC4 kR4 (k2S.refl kX) kU kB kT4)
theorem op_10 {l : Launch} {D : va_G} {c : Nat → ClassId} {H0 : Heap} {sa : Nat × Nat × (Nat → Int32)} {w : mW} {μ : mM} {L : Int} (hJ : J w μ) (hK : K3 w μ L) (hL : 0 ≤ L ∧ L + 7 ≤ (sa.2.1 : Int)) (hs : sa.2.1 ≤ 3584) (nx : ∀ (w1 : mW) (μ1 : mM) (ce sl : Nat), J w1 μ1 → K3 w1 μ1 (L + 7) → sV (gG l D c H0 sa) mL room_1 lwZ 1798 [(3, iv L), (2, .ref 106), (1, .ref 0), (0, .retAddr 0)] [] (mk w1 μ1) ce sl) : sV (gG l D c H0 sa) mL room_1 lwZ 586 [(3, iv L), (2, .ref 106), (1, .ref 0), (0, .retAddr 0)] [] (mk w μ) w.1 (szW w) := by
  have hb := hJ.bd
  have hK0 := hK
  obtain ⟨y, kC, kR, kX, kU, kB, kT⟩ := hK
  have hM : sMd (xS (yX y)) ≤ 2000000000 := by omega
  refine sv_aload_n (pc := 586) dL_law_586 rfl rfl ?_
  refine mr_cVP (pc := 587) (c_X11_letWay hJ.1 hJ.2.1) (gOk _ _ _ _ _) dL_law_587 (tX11_letWay _ _ _ _ _) ⟨wV_X11_letWay, wL_X11_letWay⟩ wM_DomainHouseLaw_59 (gCX11 _ _ _ _ _) rfl (A_0 hJ.1) rfl ⟨le_t rfl, le_t rfl⟩ ⟨show w.1 ≤ 600000 by omega, show szW w ≤ 7302250 by omega⟩ rfl (le_t rfl) fun z1 h1 => ?_
  refine sv_pop (pc := 590) dL_law_590 rfl ?_
  refine sv_aload_n (pc := 591) dL_law_591 rfl rfl ?_
  refine mr_cVP (pc := 592) (c_X12_letWay hJ.1 hJ.2.1) (gOk _ _ _ _ _) dL_law_592 (tX12_letWay _ _ _ _ _) ⟨wV_X12_letWay, wL_X12_letWay⟩ wM_DomainHouseLaw_62 (gCX12 _ _ _ _ _) rfl (A_106 hJ.1) rfl ⟨le_t rfl, le_t rfl⟩ ⟨show w.1 ≤ 600000 by omega, show szW w ≤ 7302250 by omega⟩ rfl (le_t rfl) fun z2 h2 => ?_
  refine sv_pop (pc := 595) dL_law_595 rfl ?_
  refine sv_goto (pc := 596) (tgt := 1798) dL_law_596 (by decide) ?_
  exact nx w μ _ _ hJ (K3.mk kC kR (k2S.refl kX) kU kB kT)
theorem op_11 {l : Launch} {D : va_G} {c : Nat → ClassId} {H0 : Heap} {sa : Nat × Nat × (Nat → Int32)} {w : mW} {μ : mM} {L : Int} (hJ : J w μ) (hK : K3 w μ L) (hL : 0 ≤ L ∧ L + 7 ≤ (sa.2.1 : Int)) (hs : sa.2.1 ≤ 3584) (nx : ∀ (w1 : mW) (μ1 : mM) (ce sl : Nat), J w1 μ1 → K3 w1 μ1 (L + 7) → sV (gG l D c H0 sa) mL room_1 lwZ 1798 [(3, iv L), (2, .ref 106), (1, .ref 0), (0, .retAddr 0)] [] (mk w1 μ1) ce sl) : sV (gG l D c H0 sa) mL room_1 lwZ 599 [(3, iv L), (2, .ref 106), (1, .ref 0), (0, .retAddr 0)] [] (mk w μ) w.1 (szW w) := by
  have hb := hJ.bd
  have hK0 := hK
  obtain ⟨y, kC, kR, kX, kU, kB, kT⟩ := hK
  have hM : sMd (xS (yX y)) ≤ 2000000000 := by omega
  refine sv_aload_n (pc := 599) dL_law_599 rfl rfl ?_
  refine la_argE (pc := 600) (j := 1) dL_law_600 dL_law_601 dL_law_602 dL_law_603 dL_law_604 rfl rfl hL (by decide) hs fun a1 s1 b1 => ?_
  refine mr_cVI (pc := 605) (c_X11_today_W hJ.1 hJ.2.1 b1 hJ.2.2.1 (C_today hJ.1 kC kX)) (gOk _ _ _ _ _) dL_law_605 (tX11_today _ _ _ _ _) ⟨wV_X11_today, wL_X11_today⟩ wM_DomainHouseLaw_63 (gCX11 _ _ _ _ _) rfl (A_0 hJ.1) rfl ⟨le_t rfl, le_t rfl⟩ ⟨show w.1 ≤ 600000 by omega, show szW w ≤ 7302250 by omega⟩ rfl (le_t rfl) fun z2 μ2 T2 F2 P2 => ?_
  obtain ⟨rg2, ⟨ez2, kc2⟩, _⟩ := P2
  have J2 : J w μ2 := hJ.cls T2 F2 rfl (hJ.2.2.2.1.f hJ.1 F2 rfl rfl)
  have kR2 : K2R μ2 y := kR.fr hJ.1 hJ.2.1 (mX.ofF F2) rfl
  have kC2 : K2C w μ2 (tdy! y a1).2 := kc2
  have kT2 : TW μ2 := kT.fr hJ.1 (mX.ofF F2) rfl
  refine sv_pop (pc := 608) dL_law_608 rfl ?_
  refine sv_aload_n (pc := 609) dL_law_609 rfl rfl ?_
  refine la_argE (pc := 610) (j := 1) dL_law_610 dL_law_611 dL_law_612 dL_law_613 dL_law_614 rfl rfl hL (by decide) hs fun a3 s3 b3 => ?_
  obtain rfl : a1 = a3 := s1.trans s3.symm
  refine mr_cVI (pc := 615) (c_X12_today_W J2.1 J2.2.1 b3 J2.2.2.2.2.2.2.1.1 J2.2.2.2.2.2.2.1.2.1 J2.2.2.2.2.2.2.1.2.2 (R_today J2.1 J2.2.1 kR2 kX hM)) (gOk _ _ _ _ _) dL_law_615 (tX12_today _ _ _ _ _) ⟨wV_X12_today, wL_X12_today⟩ wM_DomainHouseLaw_66 (gCX12 _ _ _ _ _) rfl (A_106 J2.1) rfl ⟨le_t rfl, le_t rfl⟩ ⟨show w.1 ≤ 600000 by omega, show szW w ≤ 7302250 by omega⟩ rfl (le_t rfl) fun z4 μ4 T4 F4 P4 => ?_
  obtain ⟨rg4, _, _, ⟨ez4, kc4⟩, _⟩ := P4
  have kR4 : K2R μ4 (tdy! y a1).2 := kc4
  have kC4 : K2C w μ4 (tdy! y a1).2 := kC2.fr J2.1 J2.2.1 (mX.ofF F4) rfl
  have kS : k2S y (tdy! y a1).2 := X_today kX
  have J4 : J w μ4 := J2.mod T4 F4 rfl rfl (G1.ofK kR4 kS.1) (EV.ofK kR4 kS.1) (PK.ofK kR4 (J2.2.2.2.2.2.2.1.2.2.pT J2.1 F4 rfl)) (F4.f (A_106 J2.1) rfl rfl)
  have kT4 : TW μ4 := kT2.fr J2.1 (mX.ofF F4) rfl
  refine sv_pop (pc := 618) dL_law_618 rfl ?_
  refine sv_goto (pc := 619) (tgt := 1798) dL_law_619 (by decide) ?_
  exact nx w μ4 _ _ J4 (K3.mk kC4 kR4 kS (U_today kX kU) kB kT4)
theorem op_12 {l : Launch} {D : va_G} {c : Nat → ClassId} {H0 : Heap} {sa : Nat × Nat × (Nat → Int32)} {w : mW} {μ : mM} {L : Int} (hJ : J w μ) (hK : K3 w μ L) (hL : 0 ≤ L ∧ L + 7 ≤ (sa.2.1 : Int)) (hs : sa.2.1 ≤ 3584) (nx : ∀ (w1 : mW) (μ1 : mM) (ce sl : Nat), J w1 μ1 → K3 w1 μ1 (L + 7) → sV (gG l D c H0 sa) mL room_1 lwZ 1798 [(3, iv L), (2, .ref 106), (1, .ref 0), (0, .retAddr 0)] [] (mk w1 μ1) ce sl) : sV (gG l D c H0 sa) mL room_1 lwZ 622 [(3, iv L), (2, .ref 106), (1, .ref 0), (0, .retAddr 0)] [] (mk w μ) w.1 (szW w) := by
  have hb := hJ.bd
  have hK0 := hK
  obtain ⟨y, kC, kR, kX, kU, kB, kT⟩ := hK
  have hM : sMd (xS (yX y)) ≤ 2000000000 := by omega
  refine sv_aload_n (pc := 622) dL_law_622 rfl rfl ?_
  refine la_argE (pc := 623) (j := 1) dL_law_623 dL_law_624 dL_law_625 dL_law_626 dL_law_627 rfl rfl hL (by decide) hs fun a1 s1 b1 => ?_
  refine la_argE (pc := 628) (j := 2) dL_law_628 dL_law_629 dL_law_630 dL_law_631 dL_law_632 rfl rfl hL (by decide) hs fun a2 s2 b2 => ?_
  refine la_argE (pc := 633) (j := 3) dL_law_633 dL_law_634 dL_law_635 dL_law_636 dL_law_637 rfl rfl hL (by decide) hs fun a3 s3 b3 => ?_
  refine la_argE (pc := 638) (j := 4) dL_law_638 dL_law_639 dL_law_640 dL_law_641 dL_law_642 rfl rfl hL (by decide) hs fun a4 s4 b4 => ?_
  refine la_argE (pc := 643) (j := 5) dL_law_643 dL_law_644 dL_law_645 dL_law_646 dL_law_647 rfl rfl hL (by decide) hs fun a5 s5 b5 => ?_
  refine la_arg6E (pc := 648) dL_law_648 dL_law_649 dL_law_650 dL_law_652 dL_law_653 rfl rfl hL hs fun a6 s6 b6 => ?_
  refine mr_cVI (pc := 654) (c_X11_right_W hJ.1 hJ.2.1 b1 b2 b3 b4 b5 b6 hJ.2.2.1 (C_right hJ.1 hJ.2.1 kC kX)) (gOk _ _ _ _ _) dL_law_654 (tX11_right _ _ _ _ _) ⟨wV_X11_right, wL_X11_right⟩ wM_DomainHouseLaw_67 (gCX11 _ _ _ _ _) rfl (A_0 hJ.1) rfl ⟨le_t rfl, le_t rfl⟩ ⟨show w.1 ≤ 600000 by omega, show szW w ≤ 7302250 by omega⟩ rfl (le_t rfl) fun z7 μ7 T7 F7 P7 => ?_
  obtain ⟨rg7, ⟨ez7, kc7⟩, _⟩ := P7
  have J7 : J w μ7 := hJ.cls T7 F7 rfl (hJ.2.2.2.1.f hJ.1 F7 rfl rfl)
  have kR7 : K2R μ7 y := kR.fr hJ.1 hJ.2.1 (mX.ofF F7) rfl
  have kC7 : K2C w μ7 (rgt! y a1 a2 a3 a4 a5 a6).2 := kc7
  have kT7 : TW μ7 := kT.fr hJ.1 (mX.ofF F7) rfl
  refine sv_pop (pc := 657) dL_law_657 rfl ?_
  refine sv_aload_n (pc := 658) dL_law_658 rfl rfl ?_
  refine la_argE (pc := 659) (j := 1) dL_law_659 dL_law_660 dL_law_661 dL_law_662 dL_law_663 rfl rfl hL (by decide) hs fun a8 s8 b8 => ?_
  refine la_argE (pc := 664) (j := 2) dL_law_664 dL_law_665 dL_law_666 dL_law_667 dL_law_668 rfl rfl hL (by decide) hs fun a9 s9 b9 => ?_
  refine la_argE (pc := 669) (j := 3) dL_law_669 dL_law_670 dL_law_671 dL_law_672 dL_law_673 rfl rfl hL (by decide) hs fun a10 s10 b10 => ?_
  refine la_argE (pc := 674) (j := 4) dL_law_674 dL_law_675 dL_law_676 dL_law_677 dL_law_678 rfl rfl hL (by decide) hs fun a11 s11 b11 => ?_
  refine la_argE (pc := 679) (j := 5) dL_law_679 dL_law_680 dL_law_681 dL_law_682 dL_law_683 rfl rfl hL (by decide) hs fun a12 s12 b12 => ?_
  refine la_arg6E (pc := 684) dL_law_684 dL_law_685 dL_law_686 dL_law_688 dL_law_689 rfl rfl hL hs fun a13 s13 b13 => ?_
  obtain rfl : a1 = a8 := s1.trans s8.symm
  obtain rfl : a2 = a9 := s2.trans s9.symm
  obtain rfl : a3 = a10 := s3.trans s10.symm
  obtain rfl : a4 = a11 := s4.trans s11.symm
  obtain rfl : a5 = a12 := s5.trans s12.symm
  obtain rfl : a6 = a13 := s6.trans s13.symm
  refine mr_cVI (pc := 690) (c_X12_right_W J7.1 J7.2.1 b8 b9 b10 b11 b12 b13 J7.2.2.2.2.2.2.1.1 J7.2.2.2.2.2.2.1.2.1 J7.2.2.2.2.2.2.1.2.2 (R_right J7.1 J7.2.1 kR7 kX hM)) (gOk _ _ _ _ _) dL_law_690 (tX12_right _ _ _ _ _) ⟨wV_X12_right, wL_X12_right⟩ wM_DomainHouseLaw_71 (gCX12 _ _ _ _ _) rfl (A_106 J7.1) rfl ⟨le_t rfl, le_t rfl⟩ ⟨show w.1 ≤ 600000 by omega, show szW w ≤ 7302250 by omega⟩ rfl (le_t rfl) fun z14 μ14 T14 F14 P14 => ?_
  obtain ⟨rg14, _, _, ⟨ez14, kc14⟩, _⟩ := P14
  have kR14 : K2R μ14 (rgt! y a1 a2 a3 a4 a5 a6).2 := kc14
  have kC14 : K2C w μ14 (rgt! y a1 a2 a3 a4 a5 a6).2 := kC7.fr J7.1 J7.2.1 (mX.ofF F14) rfl
  have kS : k2S y (rgt! y a1 a2 a3 a4 a5 a6).2 := X_right kX
  have J14 : J w μ14 := J7.mod T14 F14 rfl rfl (G1.ofK kR14 kS.1) (EV.ofK kR14 kS.1) (PK.ofK kR14 (J7.2.2.2.2.2.2.1.2.2.pT J7.1 F14 rfl)) (F14.f (A_106 J7.1) rfl rfl)
  have kT14 : TW μ14 := kT7.fr J7.1 (mX.ofF F14) rfl
  refine sv_pop (pc := 693) dL_law_693 rfl ?_
  refine sv_goto (pc := 694) (tgt := 1798) dL_law_694 (by decide) ?_
  exact nx w μ14 _ _ J14 (K3.mk kC14 kR14 kS (U_right kX kU) kB kT14)
theorem op_13 {l : Launch} {D : va_G} {c : Nat → ClassId} {H0 : Heap} {sa : Nat × Nat × (Nat → Int32)} {w : mW} {μ : mM} {L : Int} (hJ : J w μ) (hK : K3 w μ L) (hL : 0 ≤ L ∧ L + 7 ≤ (sa.2.1 : Int)) (hs : sa.2.1 ≤ 3584) (nx : ∀ (w1 : mW) (μ1 : mM) (ce sl : Nat), J w1 μ1 → K3 w1 μ1 (L + 7) → sV (gG l D c H0 sa) mL room_1 lwZ 1798 [(3, iv L), (2, .ref 106), (1, .ref 0), (0, .retAddr 0)] [] (mk w1 μ1) ce sl) : sV (gG l D c H0 sa) mL room_1 lwZ 697 [(3, iv L), (2, .ref 106), (1, .ref 0), (0, .retAddr 0)] [] (mk w μ) w.1 (szW w) := by
  have hb := hJ.bd
  have hK0 := hK
  obtain ⟨y, kC, kR, kX, kU, kB, kT⟩ := hK
  have hM : sMd (xS (yX y)) ≤ 2000000000 := by omega
  refine sv_aload_n (pc := 697) dL_law_697 rfl rfl ?_
  refine la_argE (pc := 698) (j := 1) dL_law_698 dL_law_699 dL_law_700 dL_law_701 dL_law_702 rfl rfl hL (by decide) hs fun a1 s1 b1 => ?_
  refine la_argE (pc := 703) (j := 2) dL_law_703 dL_law_704 dL_law_705 dL_law_706 dL_law_707 rfl rfl hL (by decide) hs fun a2 s2 b2 => ?_
  refine mr_cVI (pc := 708) (c_X11_strike_W hJ.1 hJ.2.1 b1 b2 hJ.2.2.1 (C_strike hJ.1 kC kX)) (gOk _ _ _ _ _) dL_law_708 (tX11_strike _ _ _ _ _) ⟨wV_X11_strike, wL_X11_strike⟩ wM_DomainHouseLaw_72 (gCX11 _ _ _ _ _) rfl (A_0 hJ.1) rfl ⟨le_t rfl, le_t rfl⟩ ⟨show w.1 ≤ 600000 by omega, show szW w ≤ 7302250 by omega⟩ rfl (le_t rfl) fun z3 μ3 T3 F3 P3 => ?_
  obtain ⟨rg3, ⟨ez3, kc3⟩, _⟩ := P3
  have J3 : J w μ3 := hJ.cls T3 F3 rfl (hJ.2.2.2.1.f hJ.1 F3 rfl rfl)
  have kR3 : K2R μ3 y := kR.fr hJ.1 hJ.2.1 (mX.ofF F3) rfl
  have kC3 : K2C w μ3 (str! y a1 a2).2 := kc3
  have kT3 : TW μ3 := kT.fr hJ.1 (mX.ofF F3) rfl
  refine sv_pop (pc := 711) dL_law_711 rfl ?_
  refine sv_aload_n (pc := 712) dL_law_712 rfl rfl ?_
  refine la_argE (pc := 713) (j := 1) dL_law_713 dL_law_714 dL_law_715 dL_law_716 dL_law_717 rfl rfl hL (by decide) hs fun a4 s4 b4 => ?_
  refine la_argE (pc := 718) (j := 2) dL_law_718 dL_law_719 dL_law_720 dL_law_721 dL_law_722 rfl rfl hL (by decide) hs fun a5 s5 b5 => ?_
  obtain rfl : a1 = a4 := s1.trans s4.symm
  obtain rfl : a2 = a5 := s2.trans s5.symm
  refine mr_cVI (pc := 723) (c_X12_strike_W J3.1 J3.2.1 b4 b5 J3.2.2.2.2.2.2.1.1 J3.2.2.2.2.2.2.1.2.1 J3.2.2.2.2.2.2.1.2.2 (R_strike J3.1 J3.2.1 kR3 kX hM)) (gOk _ _ _ _ _) dL_law_723 (tX12_strike _ _ _ _ _) ⟨wV_X12_strike, wL_X12_strike⟩ wM_DomainHouseLaw_75 (gCX12 _ _ _ _ _) rfl (A_106 J3.1) rfl ⟨le_t rfl, le_t rfl⟩ ⟨show w.1 ≤ 600000 by omega, show szW w ≤ 7302250 by omega⟩ rfl (le_t rfl) fun z6 μ6 T6 F6 P6 => ?_
  obtain ⟨rg6, _, _, ⟨ez6, kc6⟩, _⟩ := P6
  have kR6 : K2R μ6 (str! y a1 a2).2 := kc6
  have kC6 : K2C w μ6 (str! y a1 a2).2 := kC3.fr J3.1 J3.2.1 (mX.ofF F6) rfl
  have kS : k2S y (str! y a1 a2).2 := X_strike kX
  have J6 : J w μ6 := J3.mod T6 F6 rfl rfl (G1.ofK kR6 kS.1) (EV.ofK kR6 kS.1) (PK.ofK kR6 (J3.2.2.2.2.2.2.1.2.2.pT J3.1 F6 rfl)) (F6.f (A_106 J3.1) rfl rfl)
  have kT6 : TW μ6 := kT3.fr J3.1 (mX.ofF F6) rfl
  refine sv_pop (pc := 726) dL_law_726 rfl ?_
  refine sv_goto (pc := 727) (tgt := 1798) dL_law_727 (by decide) ?_
  exact nx w μ6 _ _ J6 (K3.mk kC6 kR6 kS (U_strike kX kU) kB kT6)
theorem op_14 {l : Launch} {D : va_G} {c : Nat → ClassId} {H0 : Heap} {sa : Nat × Nat × (Nat → Int32)} {w : mW} {μ : mM} {L : Int} (hJ : J w μ) (hK : K3 w μ L) (hL : 0 ≤ L ∧ L + 7 ≤ (sa.2.1 : Int)) (hs : sa.2.1 ≤ 3584) (nx : ∀ (w1 : mW) (μ1 : mM) (ce sl : Nat), J w1 μ1 → K3 w1 μ1 (L + 7) → sV (gG l D c H0 sa) mL room_1 lwZ 1798 [(3, iv L), (2, .ref 106), (1, .ref 0), (0, .retAddr 0)] [] (mk w1 μ1) ce sl) : sV (gG l D c H0 sa) mL room_1 lwZ 730 [(3, iv L), (2, .ref 106), (1, .ref 0), (0, .retAddr 0)] [] (mk w μ) w.1 (szW w) := by
  have hb := hJ.bd
  have hK0 := hK
  obtain ⟨y, kC, kR, kX, kU, kB, kT⟩ := hK
  have hM : sMd (xS (yX y)) ≤ 2000000000 := by omega
  refine sv_aload_n (pc := 730) dL_law_730 rfl rfl ?_
  refine la_argE (pc := 731) (j := 1) dL_law_731 dL_law_732 dL_law_733 dL_law_734 dL_law_735 rfl rfl hL (by decide) hs fun a1 s1 b1 => ?_
  refine la_argE (pc := 736) (j := 2) dL_law_736 dL_law_737 dL_law_738 dL_law_739 dL_law_740 rfl rfl hL (by decide) hs fun a2 s2 b2 => ?_
  refine la_argE (pc := 741) (j := 3) dL_law_741 dL_law_742 dL_law_743 dL_law_744 dL_law_745 rfl rfl hL (by decide) hs fun a3 s3 b3 => ?_
  refine la_argE (pc := 746) (j := 4) dL_law_746 dL_law_747 dL_law_748 dL_law_749 dL_law_750 rfl rfl hL (by decide) hs fun a4 s4 b4 => ?_
  refine mr_cVP (pc := 751) (c_X11_verdict hJ.1 hJ.2.1 b1 b2 b3 b4) (gOk _ _ _ _ _) dL_law_751 (tX11_verdict _ _ _ _ _) ⟨wV_X11_verdict, wL_X11_verdict⟩ wM_DomainHouseLaw_76 (gCX11 _ _ _ _ _) rfl (A_0 hJ.1) rfl ⟨le_t rfl, le_t rfl⟩ ⟨show w.1 ≤ 600000 by omega, show szW w ≤ 7302250 by omega⟩ rfl (le_t rfl) fun z5 h5 => ?_
  refine sv_pop (pc := 754) dL_law_754 rfl ?_
  refine sv_aload_n (pc := 755) dL_law_755 rfl rfl ?_
  refine la_argE (pc := 756) (j := 1) dL_law_756 dL_law_757 dL_law_758 dL_law_759 dL_law_760 rfl rfl hL (by decide) hs fun a6 s6 b6 => ?_
  refine la_argE (pc := 761) (j := 2) dL_law_761 dL_law_762 dL_law_763 dL_law_764 dL_law_765 rfl rfl hL (by decide) hs fun a7 s7 b7 => ?_
  refine la_argE (pc := 766) (j := 3) dL_law_766 dL_law_767 dL_law_768 dL_law_769 dL_law_770 rfl rfl hL (by decide) hs fun a8 s8 b8 => ?_
  refine la_argE (pc := 771) (j := 4) dL_law_771 dL_law_772 dL_law_773 dL_law_774 dL_law_775 rfl rfl hL (by decide) hs fun a9 s9 b9 => ?_
  obtain rfl : a1 = a6 := s1.trans s6.symm
  obtain rfl : a2 = a7 := s2.trans s7.symm
  obtain rfl : a3 = a8 := s3.trans s8.symm
  obtain rfl : a4 = a9 := s4.trans s9.symm
  refine mr_cVI (pc := 776) (c_X12_verdict_W hJ.1 hJ.2.1 b6 b7 b8 b9 (R_verdict hJ.1 hJ.2.1 kR kX)) (gOk _ _ _ _ _) dL_law_776 (tX12_verdict _ _ _ _ _) ⟨wV_X12_verdict, wL_X12_verdict⟩ wM_DomainHouseLaw_80 (gCX12 _ _ _ _ _) rfl (A_106 hJ.1) rfl ⟨le_t rfl, le_t rfl⟩ ⟨show w.1 ≤ 600000 by omega, show szW w ≤ 7302250 by omega⟩ rfl (le_t rfl) fun z10 μ10 T10 F10 P10 => ?_
  obtain ⟨rg10, kc10, _⟩ := P10
  have kR10 : K2R μ10 y := kc10
  have kC10 : K2C w μ10 y := kC.fr hJ.1 hJ.2.1 (mX.ofF F10) rfl
  have J10 : J w μ10 := hJ.mod T10 F10 rfl rfl (G1.ofK kR10 kX) (EV.ofK kR10 kX) (PK.ofK kR10 (hJ.2.2.2.2.2.2.1.2.2.pT hJ.1 F10 rfl)) (F10.f (A_106 hJ.1) rfl rfl)
  have kT10 : TW μ10 := kT.fr hJ.1 (mX.ofF F10) rfl
  refine sv_pop (pc := 779) dL_law_779 rfl ?_
  refine sv_goto (pc := 780) (tgt := 1798) dL_law_780 (by decide) ?_
  exact nx w μ10 _ _ J10 (K3.mk kC10 kR10 (k2S.refl kX) kU kB kT10)
theorem op_15 {l : Launch} {D : va_G} {c : Nat → ClassId} {H0 : Heap} {sa : Nat × Nat × (Nat → Int32)} {w : mW} {μ : mM} {L : Int} (hJ : J w μ) (hK : K3 w μ L) (hL : 0 ≤ L ∧ L + 7 ≤ (sa.2.1 : Int)) (hs : sa.2.1 ≤ 3584) (nx : ∀ (w1 : mW) (μ1 : mM) (ce sl : Nat), J w1 μ1 → K3 w1 μ1 (L + 7) → sV (gG l D c H0 sa) mL room_1 lwZ 1798 [(3, iv L), (2, .ref 106), (1, .ref 0), (0, .retAddr 0)] [] (mk w1 μ1) ce sl) : sV (gG l D c H0 sa) mL room_1 lwZ 783 [(3, iv L), (2, .ref 106), (1, .ref 0), (0, .retAddr 0)] [] (mk w μ) w.1 (szW w) := by
  have hb := hJ.bd
  have hK0 := hK
  obtain ⟨y, kC, kR, kX, kU, kB, kT⟩ := hK
  have hM : sMd (xS (yX y)) ≤ 2000000000 := by omega
  refine sv_aload_n (pc := 783) dL_law_783 rfl rfl ?_
  refine mr_cVIX (pc := 784) (c_X11_policy_e clP_ok hJ.1 hJ.2.1 hJ.2.2.1) (gOk _ _ _ _ _) dL_law_784 (tX11_policy _ _ _ _ _) ⟨wV_X11_policy, wL_X11_policy⟩ wM_DomainHouseLaw_81 (gCX11 _ _ _ _ _) rfl (A_0 hJ.1) rfl ⟨le_t rfl, le_t rfl⟩ ⟨show w.1 + 6 ≤ 600000 by omega, show szW w + 2586 ≤ 7302250 by omega⟩ rfl (le_t rfl) fun z1 w1 μ1 W1 T1 X1 P1 => ?_
  have J1 : J w1 μ1 := hJ.pol W1 T1 X1 P1.2.1 P1.2.2.1
  refine sv_pop (pc := 787) dL_law_787 rfl ?_
  refine sv_aload_n (pc := 788) dL_law_788 rfl rfl ?_
  refine mr_cVI (pc := 789) (c_X12_policy_Wx J1.1 J1.2.1 (X12_policy_s (Q := fun z m => ∃ (d : Nat) (mx : mM), (d : Int) = μ1 106 39 ∧ RdR μ1 mx (μ1 106 39) ∧ pF d μ1 m ∧ m 106 1 = 0 ∧ poR μ1 mx m d z) J1.1 (fun z d mx m1 h1 _ h3 h4 _ h6 h7 => ⟨d, mx, h1, h3, h4, h6, h7⟩))) (gOk _ _ _ _ _) dL_law_789 (tX12_policy _ _ _ _ _) ⟨wV_X12_policy, wL_X12_policy⟩ wM_DomainHouseLaw_84 (gCX12 _ _ _ _ _) rfl (A_106 J1.1) rfl ⟨le_t rfl, le_t rfl⟩ ⟨show (w.1 + 6) ≤ 600000 by omega, show (szW w + 2586) ≤ 7302250 by omega⟩ rfl (le_t rfl) fun z2 μ2 T2 F2 P2 => ?_
  obtain ⟨rg2, ⟨dB, mxR, hdB, hRB, hfB, e1B, hpB⟩, _⟩ := P2
  have hk2 := K3.pol hK0 hJ.1 J1.1 hJ.2.1 J1.2.1 X1 P1.2.2.2.1 P1.2.2.2.2 F2 hdB hRB hfB e1B hpB J1.2.2.2.2.2.2.1.2.2
  have J2 : J w1 μ2 := J1.mod T2 F2 rfl rfl (J1.2.2.2.2.2.2.1.1.fr J1.1 F2 rfl rfl rfl) (J1.2.2.2.2.2.2.1.2.1.keep J1.1 F2 rfl) hk2.2 (F2.f (A_106 J1.1) rfl rfl)
  refine sv_pop (pc := 792) dL_law_792 rfl ?_
  refine sv_goto (pc := 793) (tgt := 1798) dL_law_793 (by decide) ?_
  exact nx w1 μ2 _ _ J2 hk2.1
theorem op_16 {l : Launch} {D : va_G} {c : Nat → ClassId} {H0 : Heap} {sa : Nat × Nat × (Nat → Int32)} {w : mW} {μ : mM} {L : Int} (hJ : J w μ) (hK : K3 w μ L) (hL : 0 ≤ L ∧ L + 7 ≤ (sa.2.1 : Int)) (hs : sa.2.1 ≤ 3584) (nx : ∀ (w1 : mW) (μ1 : mM) (ce sl : Nat), J w1 μ1 → K3 w1 μ1 (L + 7) → sV (gG l D c H0 sa) mL room_1 lwZ 1798 [(3, iv L), (2, .ref 106), (1, .ref 0), (0, .retAddr 0)] [] (mk w1 μ1) ce sl) : sV (gG l D c H0 sa) mL room_1 lwZ 796 [(3, iv L), (2, .ref 106), (1, .ref 0), (0, .retAddr 0)] [] (mk w μ) w.1 (szW w) := by
  have hb := hJ.bd
  have hK0 := hK
  obtain ⟨y, kC, kR, kX, kU, kB, kT⟩ := hK
  have hM : sMd (xS (yX y)) ≤ 2000000000 := by omega
  refine sv_aload_n (pc := 796) dL_law_796 rfl rfl ?_
  refine mr_cVP (pc := 797) (c_X11_fault hJ.1 hJ.2.1) (gOk _ _ _ _ _) dL_law_797 (tX11_fault _ _ _ _ _) ⟨wV_X11_fault, wL_X11_fault⟩ wM_DomainHouseLaw_85 (gCX11 _ _ _ _ _) rfl (A_0 hJ.1) rfl ⟨le_t rfl, le_t rfl⟩ ⟨show w.1 ≤ 600000 by omega, show szW w ≤ 7302250 by omega⟩ rfl (le_t rfl) fun z1 h1 => ?_
  refine sv_pop (pc := 800) dL_law_800 rfl ?_
  refine sv_aload_n (pc := 801) dL_law_801 rfl rfl ?_
  refine mr_cVP (pc := 802) (c_X12_fault hJ.1 hJ.2.1) (gOk _ _ _ _ _) dL_law_802 (tX12_fault _ _ _ _ _) ⟨wV_X12_fault, wL_X12_fault⟩ wM_DomainHouseLaw_88 (gCX12 _ _ _ _ _) rfl (A_106 hJ.1) rfl ⟨le_t rfl, le_t rfl⟩ ⟨show w.1 ≤ 600000 by omega, show szW w ≤ 7302250 by omega⟩ rfl (le_t rfl) fun z2 h2 => ?_
  refine sv_pop (pc := 805) dL_law_805 rfl ?_
  refine sv_goto (pc := 806) (tgt := 1798) dL_law_806 (by decide) ?_
  exact nx w μ _ _ hJ (K3.mk kC kR (k2S.refl kX) kU kB kT)
theorem op_17 {l : Launch} {D : va_G} {c : Nat → ClassId} {H0 : Heap} {sa : Nat × Nat × (Nat → Int32)} {w : mW} {μ : mM} {L : Int} (hJ : J w μ) (hK : K3 w μ L) (hL : 0 ≤ L ∧ L + 7 ≤ (sa.2.1 : Int)) (hs : sa.2.1 ≤ 3584) (nx : ∀ (w1 : mW) (μ1 : mM) (ce sl : Nat), J w1 μ1 → K3 w1 μ1 (L + 7) → sV (gG l D c H0 sa) mL room_1 lwZ 1798 [(3, iv L), (2, .ref 106), (1, .ref 0), (0, .retAddr 0)] [] (mk w1 μ1) ce sl) : sV (gG l D c H0 sa) mL room_1 lwZ 809 [(3, iv L), (2, .ref 106), (1, .ref 0), (0, .retAddr 0)] [] (mk w μ) w.1 (szW w) := by
  have hb := hJ.bd
  have hK0 := hK
  obtain ⟨y, kC, kR, kX, kU, kB, kT⟩ := hK
  have hM : sMd (xS (yX y)) ≤ 2000000000 := by omega
  refine sv_aload_n (pc := 809) dL_law_809 rfl rfl ?_
  refine la_argE (pc := 810) (j := 1) dL_law_810 dL_law_811 dL_law_812 dL_law_813 dL_law_814 rfl rfl hL (by decide) hs fun a1 s1 b1 => ?_
  refine la_argE (pc := 815) (j := 2) dL_law_815 dL_law_816 dL_law_817 dL_law_818 dL_law_819 rfl rfl hL (by decide) hs fun a2 s2 b2 => ?_
  refine la_argE (pc := 820) (j := 3) dL_law_820 dL_law_821 dL_law_822 dL_law_823 dL_law_824 rfl rfl hL (by decide) hs fun a3 s3 b3 => ?_
  refine la_argE (pc := 825) (j := 4) dL_law_825 dL_law_826 dL_law_827 dL_law_828 dL_law_829 rfl rfl hL (by decide) hs fun a4 s4 b4 => ?_
  refine mr_cVI (pc := 830) (c_X11_route_W hJ.1 hJ.2.1 b1 b2 b3 b4 (C_route hJ.1 hJ.2.1 kC.1 kX.1 rfl)) (gOk _ _ _ _ _) dL_law_830 (tX11_route _ _ _ _ _) ⟨wV_X11_route, wL_X11_route⟩ wM_DomainHouseLaw_89 (gCX11 _ _ _ _ _) rfl (A_0 hJ.1) rfl ⟨le_t rfl, le_t rfl⟩ ⟨show w.1 ≤ 600000 by omega, show szW w ≤ 7302250 by omega⟩ rfl (le_t rfl) fun z5 μ5 T5 F5 P5 => ?_
  obtain ⟨rg5, ⟨ez5, kc5⟩, _⟩ := P5
  have J5 : J w μ5 := hJ.cls T5 F5 rfl (hJ.2.2.2.1.f hJ.1 F5 rfl rfl)
  have kR5 : K2R μ5 y := kR.fr hJ.1 hJ.2.1 (mX.ofF F5) rfl
  have kC5 : K2C w μ5 (y2 ((rte! (rowL (μ 2) (μ 0 11).toNat) (yX y) a1 a2 a3 a4).2) y) := kC.up hJ.1 F5 rfl (kc5 (mF.refl.call F5 rfl)) sm_rte.1 (congrArg jL sm_rte.2)
  have kT5 : TW μ5 := kT.fr hJ.1 (mX.ofF F5) rfl
  refine sv_pop (pc := 833) dL_law_833 rfl ?_
  refine sv_aload_n (pc := 834) dL_law_834 rfl rfl ?_
  refine la_argE (pc := 835) (j := 1) dL_law_835 dL_law_836 dL_law_837 dL_law_838 dL_law_839 rfl rfl hL (by decide) hs fun a6 s6 b6 => ?_
  refine la_argE (pc := 840) (j := 2) dL_law_840 dL_law_841 dL_law_842 dL_law_843 dL_law_844 rfl rfl hL (by decide) hs fun a7 s7 b7 => ?_
  refine la_argE (pc := 845) (j := 3) dL_law_845 dL_law_846 dL_law_847 dL_law_848 dL_law_849 rfl rfl hL (by decide) hs fun a8 s8 b8 => ?_
  refine la_argE (pc := 850) (j := 4) dL_law_850 dL_law_851 dL_law_852 dL_law_853 dL_law_854 rfl rfl hL (by decide) hs fun a9 s9 b9 => ?_
  obtain rfl : a1 = a6 := s1.trans s6.symm
  obtain rfl : a2 = a7 := s2.trans s7.symm
  obtain rfl : a3 = a8 := s3.trans s8.symm
  obtain rfl : a4 = a9 := s4.trans s9.symm
  refine mr_cVI (pc := 855) (c_X12_route_W J5.1 J5.2.1 b6 b7 b8 b9 (R_route J5.1 J5.2.1 kR5.1 kX.1 (kT.wayF hJ.1 F5 rfl))) (gOk _ _ _ _ _) dL_law_855 (tX12_route _ _ _ _ _) ⟨wV_X12_route, wL_X12_route⟩ wM_DomainHouseLaw_92 (gCX12 _ _ _ _ _) rfl (A_106 J5.1) rfl ⟨le_t rfl, le_t rfl⟩ ⟨show w.1 ≤ 600000 by omega, show szW w ≤ 7302250 by omega⟩ rfl (le_t rfl) fun z10 μ10 T10 F10 P10 => ?_
  obtain ⟨rg10, ⟨ez10, kc10⟩, _⟩ := P10
  have kR10 : K2R μ10 (y2 ((rte! (rowL (μ 2) (μ 0 11).toNat) (yX y) a1 a2 a3 a4).2) y) := kR5.up J5.1 F10 rfl kc10
  have kC10 : K2C w μ10 (y2 ((rte! (rowL (μ 2) (μ 0 11).toNat) (yX y) a1 a2 a3 a4).2) y) := kC5.fr J5.1 J5.2.1 (mX.ofF F10) rfl
  have kS : k2S y (y2 ((rte! (rowL (μ 2) (μ 0 11).toNat) (yX y) a1 a2 a3 a4).2) y) := kX.up (X_route kX.1 (TW.len hJ.1 hJ.2.1)) sm_rte.1 sm_rte.2
  have J10 : J w μ10 := J5.mod T10 F10 rfl rfl (G1.ofK kR10 kS.1) (EV.ofK kR10 kS.1) (PK.ofK kR10 (J5.2.2.2.2.2.2.1.2.2.pT J5.1 F10 rfl)) (F10.f (A_106 J5.1) rfl rfl)
  have kT10 : TW μ10 := kT5.fr J5.1 (mX.ofF F10) rfl
  refine sv_pop (pc := 858) dL_law_858 rfl ?_
  refine sv_goto (pc := 859) (tgt := 1798) dL_law_859 (by decide) ?_
  exact nx w μ10 _ _ J10 (K3.mk kC10 kR10 kS (U_route kU) kB kT10)
theorem op_18 {l : Launch} {D : va_G} {c : Nat → ClassId} {H0 : Heap} {sa : Nat × Nat × (Nat → Int32)} {w : mW} {μ : mM} {L : Int} (hJ : J w μ) (hK : K3 w μ L) (hL : 0 ≤ L ∧ L + 7 ≤ (sa.2.1 : Int)) (hs : sa.2.1 ≤ 3584) (nx : ∀ (w1 : mW) (μ1 : mM) (ce sl : Nat), J w1 μ1 → K3 w1 μ1 (L + 7) → sV (gG l D c H0 sa) mL room_1 lwZ 1798 [(3, iv L), (2, .ref 106), (1, .ref 0), (0, .retAddr 0)] [] (mk w1 μ1) ce sl) : sV (gG l D c H0 sa) mL room_1 lwZ 862 [(3, iv L), (2, .ref 106), (1, .ref 0), (0, .retAddr 0)] [] (mk w μ) w.1 (szW w) := by
  have hb := hJ.bd
  have hK0 := hK
  obtain ⟨y, kC, kR, kX, kU, kB, kT⟩ := hK
  have hM : sMd (xS (yX y)) ≤ 2000000000 := by omega
  refine sv_aload_n (pc := 862) dL_law_862 rfl rfl ?_
  refine la_argE (pc := 863) (j := 1) dL_law_863 dL_law_864 dL_law_865 dL_law_866 dL_law_867 rfl rfl hL (by decide) hs fun a1 s1 b1 => ?_
  refine la_argE (pc := 868) (j := 2) dL_law_868 dL_law_869 dL_law_870 dL_law_871 dL_law_872 rfl rfl hL (by decide) hs fun a2 s2 b2 => ?_
  refine la_argE (pc := 873) (j := 3) dL_law_873 dL_law_874 dL_law_875 dL_law_876 dL_law_877 rfl rfl hL (by decide) hs fun a3 s3 b3 => ?_
  refine mr_cVI (pc := 878) (c_X11_judge_W hJ.1 hJ.2.1 b1 b2 b3 hJ.2.2.1 (C_judge hJ.1 hJ.2.1 kC.1 kX.1)) (gOk _ _ _ _ _) dL_law_878 (tX11_judge _ _ _ _ _) ⟨wV_X11_judge, wL_X11_judge⟩ wM_DomainHouseLaw_93 (gCX11 _ _ _ _ _) rfl (A_0 hJ.1) rfl ⟨le_t rfl, le_t rfl⟩ ⟨show w.1 ≤ 600000 by omega, show szW w ≤ 7302250 by omega⟩ rfl (le_t rfl) fun z4 μ4 T4 F4 P4 => ?_
  obtain ⟨rg4, ⟨ez4, kc4⟩, _⟩ := P4
  have J4 : J w μ4 := hJ.cls T4 F4 rfl (hJ.2.2.2.1.f hJ.1 F4 rfl rfl)
  have kR4 : K2R μ4 y := kR.fr hJ.1 hJ.2.1 (mX.ofF F4) rfl
  have kC4 : K2C w μ4 (y2 ((jdg! (μ 21 8) (yX y) a1 a2 a3).2) y) := kC.up hJ.1 F4 rfl (kc4 (mF.refl.call F4 rfl)) sm_jdg.1 (congrArg jL sm_jdg.2)
  have kT4 : TW μ4 := kT.fr hJ.1 (mX.ofF F4) rfl
  have e39 : μ4 106 39 = μ 21 8 := Eq.trans (F4.f (A_106 hJ.1) rfl rfl) hK0.pol39.symm
  refine sv_pop (pc := 881) dL_law_881 rfl ?_
  refine sv_aload_n (pc := 882) dL_law_882 rfl rfl ?_
  refine la_argE (pc := 883) (j := 1) dL_law_883 dL_law_884 dL_law_885 dL_law_886 dL_law_887 rfl rfl hL (by decide) hs fun a5 s5 b5 => ?_
  refine la_argE (pc := 888) (j := 2) dL_law_888 dL_law_889 dL_law_890 dL_law_891 dL_law_892 rfl rfl hL (by decide) hs fun a6 s6 b6 => ?_
  refine la_argE (pc := 893) (j := 3) dL_law_893 dL_law_894 dL_law_895 dL_law_896 dL_law_897 rfl rfl hL (by decide) hs fun a7 s7 b7 => ?_
  obtain rfl : a1 = a5 := s1.trans s5.symm
  obtain rfl : a2 = a6 := s2.trans s6.symm
  obtain rfl : a3 = a7 := s3.trans s7.symm
  refine mr_cVI (pc := 898) (c_X12_judge_W J4.1 J4.2.1 b5 b6 b7 J4.2.2.2.2.2.2.1.1 J4.2.2.2.2.2.2.1.2.1 J4.2.2.2.2.2.2.1.2.2 (R_judge J4.1 J4.2.1 kR4.1 kX.1)) (gOk _ _ _ _ _) dL_law_898 (tX12_judge _ _ _ _ _) ⟨wV_X12_judge, wL_X12_judge⟩ wM_DomainHouseLaw_96 (gCX12 _ _ _ _ _) rfl (A_106 J4.1) rfl ⟨le_t rfl, le_t rfl⟩ ⟨show w.1 ≤ 600000 by omega, show szW w ≤ 7302250 by omega⟩ rfl (le_t rfl) fun z8 μ8 T8 F8 P8 => ?_
  obtain ⟨rg8, _, _, ⟨ez8, kc8⟩, _⟩ := P8
  rw [e39] at ez8 kc8
  have kR8 : K2R μ8 (y2 ((jdg! (μ 21 8) (yX y) a1 a2 a3).2) y) := kR4.up J4.1 F8 rfl kc8
  have kC8 : K2C w μ8 (y2 ((jdg! (μ 21 8) (yX y) a1 a2 a3).2) y) := kC4.fr J4.1 J4.2.1 (mX.ofF F8) rfl
  have kS : k2S y (y2 ((jdg! (μ 21 8) (yX y) a1 a2 a3).2) y) := kX.up (X_judge kX.1) sm_jdg.1 sm_jdg.2
  have J8 : J w μ8 := J4.mod T8 F8 rfl rfl (G1.ofK kR8 kS.1) (EV.ofK kR8 kS.1) (PK.ofK kR8 (J4.2.2.2.2.2.2.1.2.2.pT J4.1 F8 rfl)) (F8.f (A_106 J4.1) rfl rfl)
  have kT8 : TW μ8 := kT4.fr J4.1 (mX.ofF F8) rfl
  refine sv_pop (pc := 901) dL_law_901 rfl ?_
  refine sv_goto (pc := 902) (tgt := 1798) dL_law_902 (by decide) ?_
  exact nx w μ8 _ _ J8 (K3.mk kC8 kR8 kS (U_judge kU) kB kT8)
theorem op_19 {l : Launch} {D : va_G} {c : Nat → ClassId} {H0 : Heap} {sa : Nat × Nat × (Nat → Int32)} {w : mW} {μ : mM} {L : Int} (hJ : J w μ) (hK : K3 w μ L) (hL : 0 ≤ L ∧ L + 7 ≤ (sa.2.1 : Int)) (hs : sa.2.1 ≤ 3584) (nx : ∀ (w1 : mW) (μ1 : mM) (ce sl : Nat), J w1 μ1 → K3 w1 μ1 (L + 7) → sV (gG l D c H0 sa) mL room_1 lwZ 1798 [(3, iv L), (2, .ref 106), (1, .ref 0), (0, .retAddr 0)] [] (mk w1 μ1) ce sl) : sV (gG l D c H0 sa) mL room_1 lwZ 905 [(3, iv L), (2, .ref 106), (1, .ref 0), (0, .retAddr 0)] [] (mk w μ) w.1 (szW w) := by
  have hb := hJ.bd
  have hK0 := hK
  obtain ⟨y, kC, kR, kX, kU, kB, kT⟩ := hK
  have hM : sMd (xS (yX y)) ≤ 2000000000 := by omega
  refine sv_aload_n (pc := 905) dL_law_905 rfl rfl ?_
  refine la_arg (pc := 906) (j := 1) dL_law_906 dL_law_907 dL_law_908 dL_law_909 dL_law_910 rfl rfl hL (by decide) hs fun a1 b1 => ?_
  refine mr_cVP (pc := 911) (c_X11_hand hJ.1 hJ.2.1 b1) (gOk _ _ _ _ _) dL_law_911 (tX11_hand _ _ _ _ _) ⟨wV_X11_hand, wL_X11_hand⟩ wM_DomainHouseLaw_97 (gCX11 _ _ _ _ _) rfl (A_0 hJ.1) rfl ⟨le_t rfl, le_t rfl⟩ ⟨show w.1 ≤ 600000 by omega, show szW w ≤ 7302250 by omega⟩ rfl (le_t rfl) fun z2 h2 => ?_
  refine sv_pop (pc := 914) dL_law_914 rfl ?_
  refine sv_aload_n (pc := 915) dL_law_915 rfl rfl ?_
  refine la_arg (pc := 916) (j := 1) dL_law_916 dL_law_917 dL_law_918 dL_law_919 dL_law_920 rfl rfl hL (by decide) hs fun a3 b3 => ?_
  refine mr_cVP (pc := 921) (c_X12_hand hJ.1 hJ.2.1 b3) (gOk _ _ _ _ _) dL_law_921 (tX12_hand _ _ _ _ _) ⟨wV_X12_hand, wL_X12_hand⟩ wM_DomainHouseLaw_100 (gCX12 _ _ _ _ _) rfl (A_106 hJ.1) rfl ⟨le_t rfl, le_t rfl⟩ ⟨show w.1 ≤ 600000 by omega, show szW w ≤ 7302250 by omega⟩ rfl (le_t rfl) fun z4 h4 => ?_
  refine sv_pop (pc := 924) dL_law_924 rfl ?_
  refine sv_goto (pc := 925) (tgt := 1798) dL_law_925 (by decide) ?_
  exact nx w μ _ _ hJ (K3.mk kC kR (k2S.refl kX) kU kB kT)
theorem op_20 {l : Launch} {D : va_G} {c : Nat → ClassId} {H0 : Heap} {sa : Nat × Nat × (Nat → Int32)} {w : mW} {μ : mM} {L : Int} (hJ : J w μ) (hK : K3 w μ L) (hL : 0 ≤ L ∧ L + 7 ≤ (sa.2.1 : Int)) (hs : sa.2.1 ≤ 3584) (nx : ∀ (w1 : mW) (μ1 : mM) (ce sl : Nat), J w1 μ1 → K3 w1 μ1 (L + 7) → sV (gG l D c H0 sa) mL room_1 lwZ 1798 [(3, iv L), (2, .ref 106), (1, .ref 0), (0, .retAddr 0)] [] (mk w1 μ1) ce sl) : sV (gG l D c H0 sa) mL room_1 lwZ 928 [(3, iv L), (2, .ref 106), (1, .ref 0), (0, .retAddr 0)] [] (mk w μ) w.1 (szW w) := by
  have hb := hJ.bd
  have hK0 := hK
  obtain ⟨y, kC, kR, kX, kU, kB, kT⟩ := hK
  have hM : sMd (xS (yX y)) ≤ 2000000000 := by omega
  refine sv_aload_n (pc := 928) dL_law_928 rfl rfl ?_
  refine la_argE (pc := 929) (j := 1) dL_law_929 dL_law_930 dL_law_931 dL_law_932 dL_law_933 rfl rfl hL (by decide) hs fun a1 s1 b1 => ?_
  refine la_argE (pc := 934) (j := 2) dL_law_934 dL_law_935 dL_law_936 dL_law_937 dL_law_938 rfl rfl hL (by decide) hs fun a2 s2 b2 => ?_
  refine la_argE (pc := 939) (j := 3) dL_law_939 dL_law_940 dL_law_941 dL_law_942 dL_law_943 rfl rfl hL (by decide) hs fun a3 s3 b3 => ?_
  refine la_argE (pc := 944) (j := 4) dL_law_944 dL_law_945 dL_law_946 dL_law_947 dL_law_948 rfl rfl hL (by decide) hs fun a4 s4 b4 => ?_
  refine mr_cVI (pc := 949) (c_X11_use_W hJ.1 hJ.2.1 b1 b2 b3 b4 hJ.2.2.1 (C_use hJ.1 hJ.2.1 kC.1 kX.1)) (gOk _ _ _ _ _) dL_law_949 (tX11_use _ _ _ _ _) ⟨wV_X11_use, wL_X11_use⟩ wM_DomainHouseLaw_101 (gCX11 _ _ _ _ _) rfl (A_0 hJ.1) rfl ⟨le_t rfl, le_t rfl⟩ ⟨show w.1 ≤ 600000 by omega, show szW w ≤ 7302250 by omega⟩ rfl (le_t rfl) fun z5 μ5 T5 F5 P5 => ?_
  obtain ⟨rg5, ⟨ez5, kc5⟩, _⟩ := P5
  have J5 : J w μ5 := hJ.cls T5 F5 rfl (hJ.2.2.2.1.f hJ.1 F5 rfl rfl)
  have kR5 : K2R μ5 y := kR.fr hJ.1 hJ.2.1 (mX.ofF F5) rfl
  have kC5 : K2C w μ5 (y2 ((use! (μ 21 8) (yX y) a1 a2 a3 a4).2) y) := kC.up hJ.1 F5 rfl (kc5 (mF.refl.call F5 rfl)) sm_use.1 (congrArg jL sm_use.2)
  have kT5 : TW μ5 := kT.fr hJ.1 (mX.ofF F5) rfl
  have e39 : μ5 106 39 = μ 21 8 := Eq.trans (F5.f (A_106 hJ.1) rfl rfl) hK0.pol39.symm
  refine sv_pop (pc := 952) dL_law_952 rfl ?_
  refine sv_aload_n (pc := 953) dL_law_953 rfl rfl ?_
  refine la_argE (pc := 954) (j := 1) dL_law_954 dL_law_955 dL_law_956 dL_law_957 dL_law_958 rfl rfl hL (by decide) hs fun a6 s6 b6 => ?_
  refine la_argE (pc := 959) (j := 2) dL_law_959 dL_law_960 dL_law_961 dL_law_962 dL_law_963 rfl rfl hL (by decide) hs fun a7 s7 b7 => ?_
  refine la_argE (pc := 964) (j := 3) dL_law_964 dL_law_965 dL_law_966 dL_law_967 dL_law_968 rfl rfl hL (by decide) hs fun a8 s8 b8 => ?_
  refine la_argE (pc := 969) (j := 4) dL_law_969 dL_law_970 dL_law_971 dL_law_972 dL_law_973 rfl rfl hL (by decide) hs fun a9 s9 b9 => ?_
  obtain rfl : a1 = a6 := s1.trans s6.symm
  obtain rfl : a2 = a7 := s2.trans s7.symm
  obtain rfl : a3 = a8 := s3.trans s8.symm
  obtain rfl : a4 = a9 := s4.trans s9.symm
  refine mr_cVI (pc := 974) (c_X12_use_W J5.1 J5.2.1 b6 b7 b8 b9 J5.2.2.2.2.2.2.1.1 J5.2.2.2.2.2.2.1.2.1 J5.2.2.2.2.2.2.1.2.2 (R_use J5.1 J5.2.1 kR5.1 kX.1 hM)) (gOk _ _ _ _ _) dL_law_974 (tX12_use _ _ _ _ _) ⟨wV_X12_use, wL_X12_use⟩ wM_DomainHouseLaw_104 (gCX12 _ _ _ _ _) rfl (A_106 J5.1) rfl ⟨le_t rfl, le_t rfl⟩ ⟨show w.1 ≤ 600000 by omega, show szW w ≤ 7302250 by omega⟩ rfl (le_t rfl) fun z10 μ10 T10 F10 P10 => ?_
  obtain ⟨rg10, _, _, _, ⟨ez10, kc10⟩, _⟩ := P10
  rw [e39] at ez10 kc10
  have kR10 : K2R μ10 (y2 ((use! (μ 21 8) (yX y) a1 a2 a3 a4).2) y) := kR5.up J5.1 F10 rfl (kc10 (mF.refl.call F10 rfl))
  have kC10 : K2C w μ10 (y2 ((use! (μ 21 8) (yX y) a1 a2 a3 a4).2) y) := kC5.fr J5.1 J5.2.1 (mX.ofF F10) rfl
  have kS : k2S y (y2 ((use! (μ 21 8) (yX y) a1 a2 a3 a4).2) y) := kX.up (X_use kX.1) sm_use.1 sm_use.2
  have J10 : J w μ10 := J5.mod T10 F10 rfl rfl (G1.ofK kR10 kS.1) (EV.ofK kR10 kS.1) (PK.ofK kR10 (J5.2.2.2.2.2.2.1.2.2.pT J5.1 F10 rfl)) (F10.f (A_106 J5.1) rfl rfl)
  have kT10 : TW μ10 := kT5.fr J5.1 (mX.ofF F10) rfl
  refine sv_pop (pc := 977) dL_law_977 rfl ?_
  refine sv_goto (pc := 978) (tgt := 1798) dL_law_978 (by decide) ?_
  exact nx w μ10 _ _ J10 (K3.mk kC10 kR10 kS (U_use kX.1 kU) kB kT10)
theorem op_21 {l : Launch} {D : va_G} {c : Nat → ClassId} {H0 : Heap} {sa : Nat × Nat × (Nat → Int32)} {w : mW} {μ : mM} {L : Int} (hJ : J w μ) (hK : K3 w μ L) (hL : 0 ≤ L ∧ L + 7 ≤ (sa.2.1 : Int)) (hs : sa.2.1 ≤ 3584) (nx : ∀ (w1 : mW) (μ1 : mM) (ce sl : Nat), J w1 μ1 → K3 w1 μ1 (L + 7) → sV (gG l D c H0 sa) mL room_1 lwZ 1798 [(3, iv L), (2, .ref 106), (1, .ref 0), (0, .retAddr 0)] [] (mk w1 μ1) ce sl) : sV (gG l D c H0 sa) mL room_1 lwZ 981 [(3, iv L), (2, .ref 106), (1, .ref 0), (0, .retAddr 0)] [] (mk w μ) w.1 (szW w) := by
  have hb := hJ.bd
  have hK0 := hK
  obtain ⟨y, kC, kR, kX, kU, kB, kT⟩ := hK
  have hM : sMd (xS (yX y)) ≤ 2000000000 := by omega
  refine sv_aload_n (pc := 981) dL_law_981 rfl rfl ?_
  refine la_argE (pc := 982) (j := 1) dL_law_982 dL_law_983 dL_law_984 dL_law_985 dL_law_986 rfl rfl hL (by decide) hs fun a1 s1 b1 => ?_
  refine la_argE (pc := 987) (j := 2) dL_law_987 dL_law_988 dL_law_989 dL_law_990 dL_law_991 rfl rfl hL (by decide) hs fun a2 s2 b2 => ?_
  refine la_argE (pc := 992) (j := 3) dL_law_992 dL_law_993 dL_law_994 dL_law_995 dL_law_996 rfl rfl hL (by decide) hs fun a3 s3 b3 => ?_
  refine la_boolE (pc := 997) dL_law_997 dL_law_1000 dL_law_1001 dL_law_1004 b3 fun a4 s4 b4 => ?_
  refine mr_cVI (pc := 1005) (c_X11_rule_W hJ.1 hJ.2.1 b1 b2 b4 hJ.2.2.1 (C_rule hJ.1 hJ.2.1 b2.2 kC.1 kX.1)) (gOk _ _ _ _ _) dL_law_1005 (tX11_rule _ _ _ _ _) ⟨wV_X11_rule, wL_X11_rule⟩ wM_DomainHouseLaw_105 (gCX11 _ _ _ _ _) rfl (A_0 hJ.1) rfl ⟨le_t rfl, le_t rfl⟩ ⟨show w.1 ≤ 600000 by omega, show szW w ≤ 7302250 by omega⟩ rfl (le_t rfl) fun z5 μ5 T5 F5 P5 => ?_
  obtain ⟨rg5, ⟨ez5, kc5⟩, _⟩ := P5
  have J5 : J w μ5 := hJ.cls T5 F5 rfl (hJ.2.2.2.1.f hJ.1 F5 rfl rfl)
  have kR5 : K2R μ5 y := kR.fr hJ.1 hJ.2.1 (mX.ofF F5) rfl
  have kC5 : K2C w μ5 (y2 ((rul! (yX y) a1 a2 a4).2) y) := kC.up hJ.1 F5 rfl (kc5 (mF.refl.call F5 rfl)) sm_rul.1 (congrArg jL sm_rul.2)
  have kT5 : TW μ5 := kT.fr hJ.1 (mX.ofF F5) rfl
  refine sv_pop (pc := 1008) dL_law_1008 rfl ?_
  refine sv_aload_n (pc := 1009) dL_law_1009 rfl rfl ?_
  refine la_argE (pc := 1010) (j := 1) dL_law_1010 dL_law_1011 dL_law_1012 dL_law_1013 dL_law_1014 rfl rfl hL (by decide) hs fun a6 s6 b6 => ?_
  refine la_argE (pc := 1015) (j := 2) dL_law_1015 dL_law_1016 dL_law_1017 dL_law_1018 dL_law_1019 rfl rfl hL (by decide) hs fun a7 s7 b7 => ?_
  refine la_argE (pc := 1020) (j := 3) dL_law_1020 dL_law_1021 dL_law_1022 dL_law_1023 dL_law_1024 rfl rfl hL (by decide) hs fun a8 s8 b8 => ?_
  refine la_boolE (pc := 1025) dL_law_1025 dL_law_1028 dL_law_1029 dL_law_1032 b8 fun a9 s9 b9 => ?_
  obtain rfl : a1 = a6 := s1.trans s6.symm
  obtain rfl : a2 = a7 := s2.trans s7.symm
  obtain rfl : a3 = a8 := s3.trans s8.symm
  obtain rfl : a4 = a9 := by omega
  refine mr_cVI (pc := 1033) (c_X12_rule_W J5.1 J5.2.1 b6 b7 b9 J5.2.2.2.2.2.2.1.1 J5.2.2.2.2.2.2.1.2.1 J5.2.2.2.2.2.2.1.2.2 (R_rule J5.1 J5.2.1 b7.2 kR5.1 kX.1 hM)) (gOk _ _ _ _ _) dL_law_1033 (tX12_rule _ _ _ _ _) ⟨wV_X12_rule, wL_X12_rule⟩ wM_DomainHouseLaw_109 (gCX12 _ _ _ _ _) rfl (A_106 J5.1) rfl ⟨le_t rfl, le_t rfl⟩ ⟨show w.1 ≤ 600000 by omega, show szW w ≤ 7302250 by omega⟩ rfl (le_t rfl) fun z10 μ10 T10 F10 P10 => ?_
  obtain ⟨rg10, _, _, ⟨ez10, kc10⟩, _⟩ := P10
  have kR10 : K2R μ10 (y2 ((rul! (yX y) a1 a2 a4).2) y) := kR5.up J5.1 F10 rfl (kc10 (mF.refl.call F10 rfl))
  have kC10 : K2C w μ10 (y2 ((rul! (yX y) a1 a2 a4).2) y) := kC5.fr J5.1 J5.2.1 (mX.ofF F10) rfl
  have kS : k2S y (y2 ((rul! (yX y) a1 a2 a4).2) y) := kX.up (X_rule kX.1) sm_rul.1 sm_rul.2
  have J10 : J w μ10 := J5.mod T10 F10 rfl rfl (G1.ofK kR10 kS.1) (EV.ofK kR10 kS.1) (PK.ofK kR10 (J5.2.2.2.2.2.2.1.2.2.pT J5.1 F10 rfl)) (F10.f (A_106 J5.1) rfl rfl)
  have kT10 : TW μ10 := kT5.fr J5.1 (mX.ofF F10) rfl
  refine sv_pop (pc := 1036) dL_law_1036 rfl ?_
  refine sv_goto (pc := 1037) (tgt := 1798) dL_law_1037 (by decide) ?_
  exact nx w μ10 _ _ J10 (K3.mk kC10 kR10 kS (U_rule kX.1 kU) kB kT10)
theorem op_22 {l : Launch} {D : va_G} {c : Nat → ClassId} {H0 : Heap} {sa : Nat × Nat × (Nat → Int32)} {w : mW} {μ : mM} {L : Int} (hJ : J w μ) (hK : K3 w μ L) (hL : 0 ≤ L ∧ L + 7 ≤ (sa.2.1 : Int)) (hs : sa.2.1 ≤ 3584) (nx : ∀ (w1 : mW) (μ1 : mM) (ce sl : Nat), J w1 μ1 → K3 w1 μ1 (L + 7) → sV (gG l D c H0 sa) mL room_1 lwZ 1798 [(3, iv L), (2, .ref 106), (1, .ref 0), (0, .retAddr 0)] [] (mk w1 μ1) ce sl) : sV (gG l D c H0 sa) mL room_1 lwZ 1040 [(3, iv L), (2, .ref 106), (1, .ref 0), (0, .retAddr 0)] [] (mk w μ) w.1 (szW w) := by
  have hb := hJ.bd
  have hK0 := hK
  obtain ⟨y, kC, kR, kX, kU, kB, kT⟩ := hK
  have hM : sMd (xS (yX y)) ≤ 2000000000 := by omega
  refine sv_aload_n (pc := 1040) dL_law_1040 rfl rfl ?_
  refine la_argE (pc := 1041) (j := 1) dL_law_1041 dL_law_1042 dL_law_1043 dL_law_1044 dL_law_1045 rfl rfl hL (by decide) hs fun a1 s1 b1 => ?_
  refine la_argE (pc := 1046) (j := 2) dL_law_1046 dL_law_1047 dL_law_1048 dL_law_1049 dL_law_1050 rfl rfl hL (by decide) hs fun a2 s2 b2 => ?_
  refine la_argE (pc := 1051) (j := 3) dL_law_1051 dL_law_1052 dL_law_1053 dL_law_1054 dL_law_1055 rfl rfl hL (by decide) hs fun a3 s3 b3 => ?_
  refine mr_cVI (pc := 1056) (c_X11_announce_W hJ.1 hJ.2.1 b1 b2 b3 hJ.2.2.1 (C_announce hJ.1 hJ.2.1 kC.1 kX.1)) (gOk _ _ _ _ _) dL_law_1056 (tX11_announce _ _ _ _ _) ⟨wV_X11_announce, wL_X11_announce⟩ wM_DomainHouseLaw_110 (gCX11 _ _ _ _ _) rfl (A_0 hJ.1) rfl ⟨le_t rfl, le_t rfl⟩ ⟨show w.1 ≤ 600000 by omega, show szW w ≤ 7302250 by omega⟩ rfl (le_t rfl) fun z4 μ4 T4 F4 P4 => ?_
  obtain ⟨rg4, ⟨ez4, kc4⟩, _⟩ := P4
  have J4 : J w μ4 := hJ.cls T4 F4 rfl (hJ.2.2.2.1.f hJ.1 F4 rfl rfl)
  have kR4 : K2R μ4 y := kR.fr hJ.1 hJ.2.1 (mX.ofF F4) rfl
  have kC4 : K2C w μ4 (y2 ((ann! (yX y) a1 a2 a3).2) y) := kC.up hJ.1 F4 rfl (kc4 (mF.refl.call F4 rfl)) sm_ann.1 (congrArg jL sm_ann.2)
  have kT4 : TW μ4 := kT.fr hJ.1 (mX.ofF F4) rfl
  refine sv_pop (pc := 1059) dL_law_1059 rfl ?_
  refine sv_aload_n (pc := 1060) dL_law_1060 rfl rfl ?_
  refine la_argE (pc := 1061) (j := 1) dL_law_1061 dL_law_1062 dL_law_1063 dL_law_1064 dL_law_1065 rfl rfl hL (by decide) hs fun a5 s5 b5 => ?_
  refine la_argE (pc := 1066) (j := 2) dL_law_1066 dL_law_1067 dL_law_1068 dL_law_1069 dL_law_1070 rfl rfl hL (by decide) hs fun a6 s6 b6 => ?_
  refine la_argE (pc := 1071) (j := 3) dL_law_1071 dL_law_1072 dL_law_1073 dL_law_1074 dL_law_1075 rfl rfl hL (by decide) hs fun a7 s7 b7 => ?_
  obtain rfl : a1 = a5 := s1.trans s5.symm
  obtain rfl : a2 = a6 := s2.trans s6.symm
  obtain rfl : a3 = a7 := s3.trans s7.symm
  refine mr_cVI (pc := 1076) (c_X12_announce_W J4.1 J4.2.1 b5 b6 b7 J4.2.2.2.2.2.2.1.1 J4.2.2.2.2.2.2.1.2.1 J4.2.2.2.2.2.2.1.2.2 (R_announce J4.1 J4.2.1 kR4.1 kX.1 hM)) (gOk _ _ _ _ _) dL_law_1076 (tX12_announce _ _ _ _ _) ⟨wV_X12_announce, wL_X12_announce⟩ wM_DomainHouseLaw_113 (gCX12 _ _ _ _ _) rfl (A_106 J4.1) rfl ⟨le_t rfl, le_t rfl⟩ ⟨show w.1 ≤ 600000 by omega, show szW w ≤ 7302250 by omega⟩ rfl (le_t rfl) fun z8 μ8 T8 F8 P8 => ?_
  obtain ⟨rg8, _, _, ⟨ez8, kc8⟩, _⟩ := P8
  have kR8 : K2R μ8 (y2 ((ann! (yX y) a1 a2 a3).2) y) := kR4.up J4.1 F8 rfl (kc8 (mF.refl.call F8 rfl))
  have kC8 : K2C w μ8 (y2 ((ann! (yX y) a1 a2 a3).2) y) := kC4.fr J4.1 J4.2.1 (mX.ofF F8) rfl
  have kS : k2S y (y2 ((ann! (yX y) a1 a2 a3).2) y) := kX.up (X_announce kX.1) sm_ann.1 sm_ann.2
  have J8 : J w μ8 := J4.mod T8 F8 rfl rfl (G1.ofK kR8 kS.1) (EV.ofK kR8 kS.1) (PK.ofK kR8 (J4.2.2.2.2.2.2.1.2.2.pT J4.1 F8 rfl)) (F8.f (A_106 J4.1) rfl rfl)
  have kT8 : TW μ8 := kT4.fr J4.1 (mX.ofF F8) rfl
  refine sv_pop (pc := 1079) dL_law_1079 rfl ?_
  refine sv_goto (pc := 1080) (tgt := 1798) dL_law_1080 (by decide) ?_
  exact nx w μ8 _ _ J8 (K3.mk kC8 kR8 kS (U_announce kX.1 kU) kB kT8)
theorem op_23 {l : Launch} {D : va_G} {c : Nat → ClassId} {H0 : Heap} {sa : Nat × Nat × (Nat → Int32)} {w : mW} {μ : mM} {L : Int} (hJ : J w μ) (hK : K3 w μ L) (hL : 0 ≤ L ∧ L + 7 ≤ (sa.2.1 : Int)) (hs : sa.2.1 ≤ 3584) (nx : ∀ (w1 : mW) (μ1 : mM) (ce sl : Nat), J w1 μ1 → K3 w1 μ1 (L + 7) → sV (gG l D c H0 sa) mL room_1 lwZ 1798 [(3, iv L), (2, .ref 106), (1, .ref 0), (0, .retAddr 0)] [] (mk w1 μ1) ce sl) : sV (gG l D c H0 sa) mL room_1 lwZ 1083 [(3, iv L), (2, .ref 106), (1, .ref 0), (0, .retAddr 0)] [] (mk w μ) w.1 (szW w) := by
  have hb := hJ.bd
  have hK0 := hK
  obtain ⟨y, kC, kR, kX, kU, kB, kT⟩ := hK
  have hM : sMd (xS (yX y)) ≤ 2000000000 := by omega
  refine sv_aload_n (pc := 1083) dL_law_1083 rfl rfl ?_
  refine la_argE (pc := 1084) (j := 1) dL_law_1084 dL_law_1085 dL_law_1086 dL_law_1087 dL_law_1088 rfl rfl hL (by decide) hs fun a1 s1 b1 => ?_
  refine la_argE (pc := 1089) (j := 2) dL_law_1089 dL_law_1090 dL_law_1091 dL_law_1092 dL_law_1093 rfl rfl hL (by decide) hs fun a2 s2 b2 => ?_
  refine mr_cVI (pc := 1094) (c_X11_withdraw_W hJ.1 hJ.2.1 b1 b2 hJ.2.2.1 (C_withdraw hJ.1 hJ.2.1 kC.1 kX.1)) (gOk _ _ _ _ _) dL_law_1094 (tX11_withdraw _ _ _ _ _) ⟨wV_X11_withdraw, wL_X11_withdraw⟩ wM_DomainHouseLaw_114 (gCX11 _ _ _ _ _) rfl (A_0 hJ.1) rfl ⟨le_t rfl, le_t rfl⟩ ⟨show w.1 ≤ 600000 by omega, show szW w ≤ 7302250 by omega⟩ rfl (le_t rfl) fun z3 μ3 T3 F3 P3 => ?_
  obtain ⟨rg3, ⟨ez3, kc3⟩, _⟩ := P3
  have J3 : J w μ3 := hJ.cls T3 F3 rfl (hJ.2.2.2.1.f hJ.1 F3 rfl rfl)
  have kR3 : K2R μ3 y := kR.fr hJ.1 hJ.2.1 (mX.ofF F3) rfl
  have kC3 : K2C w μ3 (y2 ((wdr! (yX y) a1 a2).2) y) := kC.up hJ.1 F3 rfl (kc3 (mF.refl.call F3 rfl)) sm_wdr.1 (congrArg jL sm_wdr.2)
  have kT3 : TW μ3 := kT.fr hJ.1 (mX.ofF F3) rfl
  refine sv_pop (pc := 1097) dL_law_1097 rfl ?_
  refine sv_aload_n (pc := 1098) dL_law_1098 rfl rfl ?_
  refine la_argE (pc := 1099) (j := 1) dL_law_1099 dL_law_1100 dL_law_1101 dL_law_1102 dL_law_1103 rfl rfl hL (by decide) hs fun a4 s4 b4 => ?_
  refine la_argE (pc := 1104) (j := 2) dL_law_1104 dL_law_1105 dL_law_1106 dL_law_1107 dL_law_1108 rfl rfl hL (by decide) hs fun a5 s5 b5 => ?_
  obtain rfl : a1 = a4 := s1.trans s4.symm
  obtain rfl : a2 = a5 := s2.trans s5.symm
  refine mr_cVI (pc := 1109) (c_X12_withdraw_W J3.1 J3.2.1 b4 b5 J3.2.2.2.2.2.2.1.1 J3.2.2.2.2.2.2.1.2.1 J3.2.2.2.2.2.2.1.2.2 (R_withdraw J3.1 J3.2.1 kR3.1 kX.1 hM)) (gOk _ _ _ _ _) dL_law_1109 (tX12_withdraw _ _ _ _ _) ⟨wV_X12_withdraw, wL_X12_withdraw⟩ wM_DomainHouseLaw_117 (gCX12 _ _ _ _ _) rfl (A_106 J3.1) rfl ⟨le_t rfl, le_t rfl⟩ ⟨show w.1 ≤ 600000 by omega, show szW w ≤ 7302250 by omega⟩ rfl (le_t rfl) fun z6 μ6 T6 F6 P6 => ?_
  obtain ⟨rg6, _, _, ⟨ez6, kc6⟩, _⟩ := P6
  have kR6 : K2R μ6 (y2 ((wdr! (yX y) a1 a2).2) y) := kR3.up J3.1 F6 rfl (kc6 (mF.refl.call F6 rfl))
  have kC6 : K2C w μ6 (y2 ((wdr! (yX y) a1 a2).2) y) := kC3.fr J3.1 J3.2.1 (mX.ofF F6) rfl
  have kS : k2S y (y2 ((wdr! (yX y) a1 a2).2) y) := kX.up (X_withdraw kX.1) sm_wdr.1 sm_wdr.2
  have J6 : J w μ6 := J3.mod T6 F6 rfl rfl (G1.ofK kR6 kS.1) (EV.ofK kR6 kS.1) (PK.ofK kR6 (J3.2.2.2.2.2.2.1.2.2.pT J3.1 F6 rfl)) (F6.f (A_106 J3.1) rfl rfl)
  have kT6 : TW μ6 := kT3.fr J3.1 (mX.ofF F6) rfl
  refine sv_pop (pc := 1112) dL_law_1112 rfl ?_
  refine sv_goto (pc := 1113) (tgt := 1798) dL_law_1113 (by decide) ?_
  exact nx w μ6 _ _ J6 (K3.mk kC6 kR6 kS (U_withdraw kX.1 kU) kB kT6)
