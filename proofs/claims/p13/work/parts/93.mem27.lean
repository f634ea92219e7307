/-! A row of ints copied into a longer one. -/
section MV27
variable (l : Launch) (D : va_G) (c : Nat → ClassId) (H0 : Heap) (sa : Nat × Nat × (Nat → Int32))
theorem c_copyG {d a n : Nat} {q : Nat → Int32} {x : Int32} {N hn : Nat} {hf : Nat → sE} (hd : 2 ≤ d) (ha : a < hn) (he : hf a = .inl (0, n, sI q)) (hx : x = nI N) (hN : n < N) (hn31 : N < 2 ^ 26) : sC (gG l D c H0 sa) mJ_copyI d 1 N [.ref a, .int x] (hn, hf) (fun r hp' => r = some (.ref hn) ∧ hp' = (hn + 1, sUp (sUp hf hn (.inl (0, N, fun _ => .int 0))) hn (.inl (0, N, sI (va_cpy q (fun _ => 0) 0 0 n))))) := by
  subst hx
  have hcl : (nI N).toNatClampNeg = N := nI_clamp (by omega)
  have hpo : ¬ nI N < 0 := nI_pos (by omega)
  have hcl' : (nI n).toNatClampNeg = n := nI_clamp (by omega)
  have hpo' : ¬ nI n < 0 := nI_pos (by omega)
  refine sC.of rfl (by decide) (le_t rfl) ?_
  refine sv_iload_n (pc := 0) dJ_copyI_0 rfl rfl ?_
  refine sv_aload_n (pc := 1) dJ_copyI_1 rfl rfl ?_
  refine sv_arraylength (pc := 2) (kd := 0) (n := n) (f := sI q) (cA := c 0) (ty := .int) (v := nI n) dJ_copyI_2 rfl ha he rfl ?_
  refine sv_icmp_ne (pc := 3) (tgt := 14) dJ_copyI_3 (by decide) (fun _ => ?_) (fun h => absurd ((nI_eq (by omega) (by omega)).mp h) (by omega))
  refine sv_iload_n (pc := 14) dJ_copyI_14 rfl rfl ?_
  refine sv_newarray (pc := 15) (kd := 0) (cA := c 0) (N := N) (v := .int 0) dJ_copyI_15 rfl wA_int rfl (fun U => sI_Cond_int U _) hpo hcl (by show N * 4 ≤ _; omega) (fun _ => rfl) (Nat.le_refl _) (by show 0 + N ≤ N; omega) ?_
  refine sv_astore_n (pc := 17) dJ_copyI_17 rfl (by decide) ?_
  refine sv_aload_n (pc := 18) dJ_copyI_18 rfl rfl ?_
  refine sv_iconst (pc := 19) (v := 0) dJ_copyI_19 (by decide) ?_
  refine sv_aload_n (pc := 20) dJ_copyI_20 rfl rfl ?_
  refine sv_iconst (pc := 21) (v := 0) dJ_copyI_21 (by decide) ?_
  refine sv_aload_n (pc := 22) dJ_copyI_22 rfl rfl ?_
  have hne : a ≠ hn := by omega
  refine sv_arraylength (pc := 23) (kd := 0) (n := n) (f := sI q) (cA := c 0) (ty := .int) (v := nI n) dJ_copyI_23 rfl (show a < hn + 1 by omega) (by show sUp hf hn _ a = _; rw [sUp_ne _ _ hne]; exact he) rfl ?_
  refine sv_iload_n (pc := 24) dJ_copyI_24 rfl rfl ?_
  refine sv_min (pc := 25) (v := nI n) dJ_copyI_25 wM_J_304 wS_J_min wI_J_math wK_J_min ⟨by show 1 ≤ d; omega, by show 21 ≤ 60 * d; omega⟩ ⟨Nat.le_refl _, by show 0 + N ≤ N; omega⟩ (le_t rfl) (by rw [if_neg (fun h => absurd ((nI_ltI (by omega) (by omega)).mp h) (by omega))]) ?_
  have hnf : nativeFrameWords "java/lang/System" "arraycopy" 5 + 19 ≤ 120 := by decide +kernel
  refine sv_copyI (pc := 28) (cA := c 0) (q := q) (q' := fun _ => 0) (n0 := n) (n1 := N) (a0 := a) (a := hn) dJ_copyI_28 wM_J_150 wN_J_ac wS_J_ac wI_J_sys rfl (by omega) (by omega) (by rw [sUp_ne _ _ hne]; exact he) (sUp_at _ _ _) (by decide) (by decide) hpo' (by rw [hcl']; show 0 + n ≤ n; omega) (by rw [hcl']; show 0 + n ≤ N; omega) (by show 1 ≤ d; omega) (show _ ≤ 60 * d by omega) (le_t rfl) ?_
  rw [hcl']
  refine sv_aload_n (pc := 31) dJ_copyI_31 rfl rfl ?_
  exact sv_aretA (pc := 32) dJ_copyI_32 rfl (Nat.le_refl _) (by show 0 + N ≤ N; omega) ⟨rfl, rfl⟩
end MV27
section MV27b
variable {l : Launch} {D : va_G} {c : Nat → ClassId} {H0 : Heap} {sa : Nat × Nat × (Nat → Int32)} {M : sM} {R : Room} {Z : sZT} {pc : Nat} {lv : List (Nat × Value)} {st : List Value} {w : mW} {μ : mM} {ce sl : Nat}
def mCpN (μ : mM) (a n : Nat) : Nat → Int := fun i => if i < n then μ a i else 0
theorem mr_copyG {index a s : Nat} {x : Int} (ho : sOk (gG l D c H0 sa)) (hd : decode M.2.1 pc = .ok (.invokestatic index, 3)) (hlk : Cond.methodLink M.1.cls index yJ_copyI ∈ sg_ws (gG l D c H0 sa)) (hA : mAt w a s) (hs : mTab s = .inr (0, 0)) (hx : (w.2.2.1 a : Int) < x ∧ x ≤ (mLen s : Int)) (hL : mLen s ≤ 100000) (hvar : mVar s = true) (hT : mT w μ) (hty : ∀ i, tyP (wNew w s x.toNat) w.1 i (mTy s i) 0) (htc : ∀ i, tyP w a i (mTy s i) (μ a i) → tyP (wNew w s x.toNat) w.1 i (mTy s i) (μ a i)) (hR : 3 ≤ R.frames ∧ 142 ≤ R.locals) (hc1 : ce + 1 ≤ R.cells) (hs1 : sl + x.toNat ≤ R.slots) (hr8 : (st.map fun v => v.category).sum ≤ 8)
    (kk : ∀ w1 μ1, mX [] w μ w1 μ1 → mT w1 μ1 → mAt w1 w.1 s → w1.1 = w.1 + 1 → (w1.2.2.1 w.1 : Int) = x → w1.2.2.2 = w.2.2.2 → (∀ i : Nat, (i : Int) < (w.2.2.1 a : Int) → μ1 w.1 i = μ a i) → sV (gG l D c H0 sa) M R Z (pc + 3) lv (.ref w.1 :: st) (mk w1 μ1) (ce + 1) (sl + x.toNat)) : sV (gG l D c H0 sa) M R Z pc lv (iv x :: .ref a :: st) (mk w μ) ce sl := by
  have hn : Int32.ofInt x = nI x.toNat := by
    rw [show x = (x.toNat : Int) by omega]; exact Int32.ofInt_eq_ofNat
  have hct := c_copyG l D c H0 sa (d := 2) (a := a) (hn := (mk w μ).1) (hf := (mk w μ).2) (N := x.toNat) (n := w.2.2.1 a) (q := fun i => Int32.ofInt (μ a i)) (x := Int32.ofInt x) (Nat.le_refl _) hA.2.1 (mk_arr hA hs) hn (by omega) (by omega)
  refine sv_callS (av := [.ref a, .int (Int32.ofInt x)]) hct ho hd (tJ_copyI l D c H0 sa) wS_J_copyI hlk ⟨hR.1, hR.2⟩ ⟨hc1, hs1⟩ rfl hr8 ?_
  rintro r hp' ⟨rfl, rfl⟩
  have hcell : mCell (mTab s) x.toNat (mCpN μ a (w.2.2.1 a)) = .inl (0, x.toNat, sI (va_cpy (fun i => Int32.ofInt (μ a i)) (fun _ => 0) 0 0 (w.2.2.1 a))) := by
    rw [hs]
    show (Sum.inl (0, x.toNat, _) : sE) = _
    congr 3
    funext i
    simp only [sI, va_cpy, mv, iv, mCpN]
    by_cases q : i < w.2.2.1 a
    · rw [if_pos q, if_pos (by omega), show 0 + (i - 0) = i by omega]
    · rw [if_neg q, if_neg (by omega)]; rfl
  refine sv_heap (hp' := mk (wNew w s x.toNat) (mNew μ w.1 (mCpN μ a (w.2.2.1 a)))) rfl (fun j hj => ?_) (kk _ _ (mNew.x (mVar_gt hvar)) (mT.new (mVar_gt hvar) hT fun i => ?_) (wNew.at (by omega) (fun q => by rw [hvar] at q; cases q)) rfl ?_ rfl (fun i hi => ?_))
  · rw [← mkNew (μ := μ) (s := s) j hj, hcell]
    show sUp (sUp (mk w μ).2 w.1 _) w.1 _ j = _
    by_cases h : j = w.1
    · subst h; rw [sUp_at, sUp_at]
    · rw [sUp_ne _ _ h, sUp_ne _ _ h, sUp_ne _ _ h]
  · unfold mCpN
    by_cases q : i < w.2.2.1 a
    · rw [if_pos q]; exact htc i (hT a s hA i)
    · rw [if_neg q]; exact hty i
  · rw [show (wNew w s x.toNat).2.2.1 w.1 = x.toNat from if_pos rfl]; omega
  · rw [show mNew μ w.1 (mCpN μ a (w.2.2.1 a)) w.1 i = mCpN μ a (w.2.2.1 a) i from if_pos rfl]
    exact if_pos (by omega)
end MV27b
theorem lenX {w : mW} {b : Nat} {x y n : Int} (q : x = (b : Int)) (hl : (w.2.2.1 b : Int) = n) (h : n = y) : (w.2.2.1 x.toNat : Int) = y := by
  have e : x.toNat = b := by omega
  rw [e]; omega
