/-! The class's policies: the reader's result as a new policy, the next place in the court's row. -/
/-- a new policy's six cells -/
def wPol (w : mW) (cs np nw : Nat) : mW := (w.1 + 6, fun a => if a < w.1 then w.2.1 a else 230 + (a - w.1), fun a => if a < w.1 then w.2.2.1 a else (match a - w.1 with
  | 0 => 0
  | 1 => cs
  | 2 => np
  | 3 => np
  | 4 => nw
  | 5 => nw
  | _ => 0), w.2.2.2)
def mPol (w : mW) (μ : mM) (rows : Int) : mM := fun a i => if a < w.1 then μ a i else (match a - w.1 with
  | 0 => (match i with
    | 0 => rows
    | 1 => ((w.1 + 1 : Nat) : Int)
    | 2 => ((w.1 + 2 : Nat) : Int)
    | 3 => ((w.1 + 3 : Nat) : Int)
    | 4 => ((w.1 + 4 : Nat) : Int)
    | 5 => ((w.1 + 5 : Nat) : Int)
    | _ => 0)
  | j + 1 => μ (27 + j) i)
section POLW
variable {w : mW} {μ : mM} {cs np nw : Nat} {rows : Int}
theorem wPol.ext : wE w (wPol w cs np nw) := ⟨Nat.le_add_right _ _, fun a ha => ⟨if_pos ha, if_pos ha⟩, fun a h1 _ => by
  rw [show (wPol w cs np nw).2.1 a = 230 + (a - w.1) from if_neg (Nat.not_lt.mpr h1)]; omega⟩
theorem wPol.sh {j : Nat} : (wPol w cs np nw).2.1 (w.1 + j) = 230 + j := by
  show (if w.1 + j < w.1 then _ else _) = _
  rw [if_neg (by omega)]; omega
theorem wPol.at0 : mAt (wPol w cs np nw) w.1 230 := ⟨wPol.sh (j := 0), by show w.1 < w.1 + 6; omega, by
  show (if w.1 < w.1 then _ else _) ≤ _
  rw [if_neg (Nat.lt_irrefl _), Nat.sub_self]; exact Nat.zero_le _, fun _ => by
  show (if w.1 < w.1 then _ else _) = _
  rw [if_neg (Nat.lt_irrefl _), Nat.sub_self]; rfl⟩
theorem wPol.len {j : Nat} : (wPol w cs np nw).2.2.1 (w.1 + j) = (match j with
  | 0 => 0
  | 1 => cs
  | 2 => np
  | 3 => np
  | 4 => nw
  | 5 => nw
  | _ => 0) := by
  show (if w.1 + j < w.1 then _ else _) = _
  rw [if_neg (by omega), show w.1 + j - w.1 = j by omega]
theorem wPol.z : szW (wPol w cs np nw) = szW w + (6 + cs + np + np + nw + nw) := by
  rw [szW.ext wPol.ext]
  have e : (wPol w cs np nw).1 - w.1 = 6 := by show w.1 + 6 - w.1 = 6; omega
  rw [e]
  congr 1
  show 0 + szS ((wPol w cs np nw).2.1 (w.1 + 0)) ((wPol w cs np nw).2.2.1 (w.1 + 0)) + szS ((wPol w cs np nw).2.1 (w.1 + 1)) ((wPol w cs np nw).2.2.1 (w.1 + 1)) + szS ((wPol w cs np nw).2.1 (w.1 + 2)) ((wPol w cs np nw).2.2.1 (w.1 + 2)) + szS ((wPol w cs np nw).2.1 (w.1 + 3)) ((wPol w cs np nw).2.2.1 (w.1 + 3)) + szS ((wPol w cs np nw).2.1 (w.1 + 4)) ((wPol w cs np nw).2.2.1 (w.1 + 4)) + szS ((wPol w cs np nw).2.1 (w.1 + 5)) ((wPol w cs np nw).2.2.1 (w.1 + 5)) = _
  rw [wPol.sh, wPol.sh, wPol.sh, wPol.sh, wPol.sh, wPol.sh, wPol.len, wPol.len, wPol.len, wPol.len, wPol.len, wPol.len]
  show 0 + 6 + cs + np + np + nw + nw = 6 + cs + np + np + nw + nw
  omega
theorem mPol.at {j i : Nat} : mPol w μ rows (w.1 + (j + 1)) i = μ (27 + j) i := by
  show (if w.1 + (j + 1) < w.1 then _ else _) = _
  rw [if_neg (by omega), show w.1 + (j + 1) - w.1 = j + 1 by omega]
theorem mPol.at0 {i : Nat} : mPol w μ rows w.1 i = (match i with
    | 0 => rows
    | 1 => ((w.1 + 1 : Nat) : Int)
    | 2 => ((w.1 + 2 : Nat) : Int)
    | 3 => ((w.1 + 3 : Nat) : Int)
    | 4 => ((w.1 + 4 : Nat) : Int)
    | 5 => ((w.1 + 5 : Nat) : Int)
    | _ => 0) := by
  show (if w.1 < w.1 then _ else _) = _
  rw [if_neg (Nat.lt_irrefl _), Nat.sub_self]
theorem wPol.at1 (h1 : cs ≤ 2000) (h2 : np ≤ 40) (h3 : nw ≤ 250) : mAt (wPol w cs np nw) (w.1 + 1) 231 := ⟨wPol.sh, by show w.1 + 1 < w.1 + 6; omega, by rw [wPol.len]; exact h1, fun q => by cases q⟩
theorem wPol.at2 (h1 : cs ≤ 2000) (h2 : np ≤ 40) (h3 : nw ≤ 250) : mAt (wPol w cs np nw) (w.1 + 2) 232 := ⟨wPol.sh, by show w.1 + 2 < w.1 + 6; omega, by rw [wPol.len]; exact h2, fun q => by cases q⟩
theorem wPol.at3 (h1 : cs ≤ 2000) (h2 : np ≤ 40) (h3 : nw ≤ 250) : mAt (wPol w cs np nw) (w.1 + 3) 233 := ⟨wPol.sh, by show w.1 + 3 < w.1 + 6; omega, by rw [wPol.len]; exact h2, fun q => by cases q⟩
theorem wPol.at4 (h1 : cs ≤ 2000) (h2 : np ≤ 40) (h3 : nw ≤ 250) : mAt (wPol w cs np nw) (w.1 + 4) 234 := ⟨wPol.sh, by show w.1 + 4 < w.1 + 6; omega, by rw [wPol.len]; exact h3, fun q => by cases q⟩
theorem wPol.at5 (h1 : cs ≤ 2000) (h2 : np ≤ 40) (h3 : nw ≤ 250) : mAt (wPol w cs np nw) (w.1 + 5) 235 := ⟨wPol.sh, by show w.1 + 5 < w.1 + 6; omega, by rw [wPol.len]; exact h3, fun q => by cases q⟩
theorem mT.pol (h1 : cs ≤ 2000) (h2 : np ≤ 40) (h3 : nw ≤ 250) (hw : mWF w) (hT : mT w μ) (hr : 0 ≤ rows ∧ rows ≤ 30) : mT (wPol w cs np nw) (mPol w μ rows) := by
  intro a t hA i
  by_cases ha : a < w.1
  · rw [show mPol w μ rows a i = μ a i from if_pos ha]
    exact (hT a t (hA.back wPol.ext ha) i).ext wPol.ext rfl
  · obtain ⟨j, rfl⟩ : ∃ j, a = w.1 + j := ⟨a - w.1, by omega⟩
    have hj : j < 6 := by have := hA.2.1; have e : (wPol w cs np nw).1 = w.1 + 6 := rfl; omega
    have et : t = 230 + j := hA.1.symm.trans wPol.sh
    subst et
    match j, hj with
    | 0, _ =>
      rw [show w.1 + 0 = w.1 from rfl, mPol.at0]
      match i with
      | 0 => exact hr
      | 1 => exact ⟨Int.natCast_nonneg _, wPol.at1 h1 h2 h3⟩
      | 2 => exact ⟨Int.natCast_nonneg _, wPol.at2 h1 h2 h3⟩
      | 3 => exact ⟨Int.natCast_nonneg _, wPol.at3 h1 h2 h3⟩
      | 4 => exact ⟨Int.natCast_nonneg _, wPol.at4 h1 h2 h3⟩
      | 5 => exact ⟨Int.natCast_nonneg _, wPol.at5 h1 h2 h3⟩
      | n + 6 => exact ⟨Int.le_refl _, Int.le_refl _⟩
    | 1, _ => rw [mPol.at]; exact hT 27 27 (A_27 hw) i
    | 2, _ => rw [mPol.at]; exact hT 28 28 (A_28 hw) i
    | 3, _ => rw [mPol.at]; exact hT 29 29 (A_29 hw) i
    | 4, _ => rw [mPol.at]; exact hT 30 30 (A_30 hw) i
    | 5, _ => rw [mPol.at]; exact hT 31 31 (A_31 hw) i
    | n + 6, h => exact absurd h (by omega)
end POLW
section POLC
variable {l : Launch} {D : va_G} {c : Nat → ClassId} {H0 : Heap} {sa : Nat × Nat × (Nat → Int32)}
theorem c_X5_init {hp : sHp} {o c1 c2 c3 c4 c5 : Nat} {r : Int} (ho : o < hp.1) (he : hp.2 o = .inr (5, zX5)) : sC (gG l D c H0 sa) mX5_init 2 0 0 [.ref o, iv r, .ref c1, .ref c2, .ref c3, .ref c4, .ref c5] hp (fun q hp' => q = none ∧ hp' = (hp.1, sUp hp.2 o (.inr (5, [iv r, .ref c1, .ref c2, .ref c3, .ref c4, .ref c5])))) := by
  refine sC.of rfl (by decide) (le_t rfl) ?_
  refine sv_aload_n (pc := 0) dX5_init_0 rfl rfl ?_
  refine sv_objinit (pc := 1) dX5_init_1 wM_X5_1 wV_obj wK_obj ⟨le_t rfl, le_t rfl⟩ (le_t rfl) ?_
  refine sv_aload_n (pc := 4) dX5_init_4 rfl rfl ?_
  refine sv_iload_n (pc := 5) dX5_init_5 rfl rfl ?_
  refine sv_putfinal (pc := 6) dX5_init_6 (gCX5 _ _ _ _ _) 0 (by decide) wF_X5_7 rfl rfl rfl ho he (fun _ => rfl) (fun _ => rfl) (lt_t rfl) ?_
  refine sv_aload_n (pc := 9) dX5_init_9 rfl rfl ?_
  refine sv_aload_n (pc := 10) dX5_init_10 rfl rfl ?_
  refine sv_putfinal (pc := 11) dX5_init_11 (gCX5 _ _ _ _ _) 1 (by decide) wF_X5_13 rfl rfl rfl ho (sUp_at _ _ _) (fun _ => rfl) (fun _ => rfl) (lt_t rfl) ?_
  refine sv_aload_n (pc := 14) dX5_init_14 rfl rfl ?_
  refine sv_aload_n (pc := 15) dX5_init_15 rfl rfl ?_
  refine sv_putfinal (pc := 16) dX5_init_16 (gCX5 _ _ _ _ _) 2 (by decide) wF_X5_17 rfl rfl rfl ho (sUp_at _ _ _) (fun _ => rfl) (fun _ => rfl) (lt_t rfl) ?_
  refine sv_aload_n (pc := 19) dX5_init_19 rfl rfl ?_
  refine sv_aload (pc := 20) dX5_init_20 rfl ?_
  refine sv_putfinal (pc := 22) dX5_init_22 (gCX5 _ _ _ _ _) 3 (by decide) wF_X5_20 rfl rfl rfl ho (sUp_at _ _ _) (fun _ => rfl) (fun _ => rfl) (lt_t rfl) ?_
  refine sv_aload_n (pc := 25) dX5_init_25 rfl rfl ?_
  refine sv_aload (pc := 26) dX5_init_26 rfl ?_
  refine sv_putfinal (pc := 28) dX5_init_28 (gCX5 _ _ _ _ _) 4 (by decide) wF_X5_24 rfl rfl rfl ho (sUp_at _ _ _) (fun _ => rfl) (fun _ => rfl) (lt_t rfl) ?_
  refine sv_aload_n (pc := 31) dX5_init_31 rfl rfl ?_
  refine sv_aload (pc := 32) dX5_init_32 rfl ?_
  refine sv_putfinal (pc := 34) dX5_init_34 (gCX5 _ _ _ _ _) 5 (by decide) wF_X5_27 rfl rfl rfl ho (sUp_at _ _ _) (fun _ => rfl) (fun _ => rfl) (lt_t rfl) ?_
  exact sv_vret (pc := 37) dX5_init_37 rfl (Nat.le_refl _) (Nat.le_refl _) ⟨rfl, by simp only [sUp_twice]; rfl⟩
variable {M : sM} {R : Room} {Z : sZT} {pc : Nat} {lv : List (Nat × Value)} {st : List Value} {w : mW} {μ : mM} {ce sl : Nat} {hp : sHp}
/-- a field of a cell that stands as memory has it -/
theorem mr_getH {index ci a s k kk : Nat} {T : vw_C} {ty : Nat → FieldType} {ks : List Nat} {z : Int} (hE : hp.2 a = (mk w μ).2 a) (ha : a < hp.1) (hd : decode M.2.1 pc = .ok (.getfield index, 3)) (hC : sCl (gG l D c H0 sa) ci T ty) (hk : k < T.2.2) (hw : sFl T M.1.cls index k ∈ lw_ok) (hA : mAt w a s) (hs : mTab s = .inl (ci, ks)) (hl : k < ks.length) (hkk : ks.getD k 0 = kk) (q : μ a k = z)
    (kt : sV (gG l D c H0 sa) M R Z (pc + 3) lv (mv kk z :: st) hp ce sl) : sV (gG l D c H0 sa) M R Z pc lv (.ref a :: st) hp ce sl :=
  sv_getfield hd hC k hk hw ha (hE.trans (mk_obj hA hs)) (by rw [mRgV _ hl, hkk, q]) kt
theorem nIofInt {x : Int} (h : 0 ≤ x) : Int32.ofInt x = nI x.toNat := by
  rw [show x = (x.toNat : Int) by omega]; exact Int32.ofInt_eq_ofNat
/-- one copy of a row of the reader, at a heap whose old cells are memory's -/
theorem mr_cpI {index a s : Nat} {x : Int} (hcl : clP (gG l D c H0 sa)) (hd : decode M.2.1 pc = .ok (.invokestatic index, 3)) (hlk : Cond.methodLink M.1.cls index yJ_copyI ∈ lw_ok) (hE : ∀ j, j < w.1 → hp.2 j = (mk w μ).2 j) (hsz : w.1 ≤ hp.1) (hA : mAt w a s) (hs : mTab s = .inr (0, 0)) (hx : 0 ≤ x ∧ x ≤ (w.2.2.1 a : Int)) (hL : mLen s ≤ 100000) (hR : 3 ≤ R.frames ∧ 142 ≤ R.locals) (hc1 : ce + 1 ≤ R.cells) (hs1 : sl + x.toNat ≤ R.slots) (hr8 : (st.map fun v => v.category).sum ≤ 8)
    (kk : ∀ f', (∀ i, i < x.toNat → f' i = iv (μ a i)) → sV (gG l D c H0 sa) M R Z (pc + 3) lv (.ref hp.1 :: st) (hp.1 + 1, sUp hp.2 hp.1 (.inl (0, x.toNat, f'))) (ce + 1) (sl + x.toNat)) : sV (gG l D c H0 sa) M R Z pc lv (iv x :: .ref a :: st) hp ce sl := by
  have hl := hA.2.2.1
  have hct := c_cpI (l := l) (D := D) (c := c) (H0 := H0) (sa := sa) (d := 2) (a := a) (hn := hp.1) (hf := hp.2) (N := x.toNat) (n := w.2.2.1 a) (q := fun i => Int32.ofInt (μ a i)) (x := Int32.ofInt x) hcl (Nat.le_refl _) (Nat.lt_of_lt_of_le hA.2.1 hsz) ((hE a hA.2.1).trans (mk_arr hA hs)) (nIofInt hx.1) (by omega) (by omega)
  refine sv_callS (av := [.ref a, .int (Int32.ofInt x)]) hct (gOk l D c H0 sa) hd (tJ_copyI l D c H0 sa) wS_J_copyI hlk ⟨hR.1, hR.2⟩ ⟨hc1, hs1⟩ rfl hr8 ?_
  rintro r hp' ⟨rfl, f', hf', rfl⟩
  exact kk f' hf'
theorem mr_cpJ {index a s : Nat} {x : Int} (hcl : clP (gG l D c H0 sa)) (hd : decode M.2.1 pc = .ok (.invokestatic index, 3)) (hlk : Cond.methodLink M.1.cls index yJ_copyJ ∈ lw_ok) (hE : ∀ j, j < w.1 → hp.2 j = (mk w μ).2 j) (hsz : w.1 ≤ hp.1) (hA : mAt w a s) (hs : mTab s = .inr (1, 1)) (hx : 0 ≤ x ∧ x ≤ (w.2.2.1 a : Int)) (hL : mLen s ≤ 100000) (hR : 3 ≤ R.frames ∧ 142 ≤ R.locals) (hc1 : ce + 1 ≤ R.cells) (hs1 : sl + x.toNat ≤ R.slots) (hr8 : (st.map fun v => v.category).sum ≤ 8)
    (kk : ∀ f', (∀ i, i < x.toNat → f' i = jv (μ a i)) → sV (gG l D c H0 sa) M R Z (pc + 3) lv (.ref hp.1 :: st) (hp.1 + 1, sUp hp.2 hp.1 (.inl (1, x.toNat, f'))) (ce + 1) (sl + x.toNat)) : sV (gG l D c H0 sa) M R Z pc lv (iv x :: .ref a :: st) hp ce sl := by
  have hl := hA.2.2.1
  have hct := c_cpJ (l := l) (D := D) (c := c) (H0 := H0) (sa := sa) (d := 2) (a := a) (hn := hp.1) (hf := hp.2) (N := x.toNat) (n := w.2.2.1 a) (q := fun i => Int64.ofInt (μ a i)) (x := Int32.ofInt x) hcl (Nat.le_refl _) (Nat.lt_of_lt_of_le hA.2.1 hsz) ((hE a hA.2.1).trans (mk_arr hA hs)) (nIofInt hx.1) (by omega) (by omega)
  refine sv_callS (av := [.ref a, .int (Int32.ofInt x)]) hct (gOk l D c H0 sa) hd (tJ_copyJ l D c H0 sa) wS_J_copyJ hlk ⟨hR.1, hR.2⟩ ⟨hc1, hs1⟩ rfl hr8 ?_
  rintro r hp' ⟨rfl, f', hf', rfl⟩
  exact kk f' hf'
theorem keepE {w : mW} {μ : mM} {f : Nat → sE} {a : Nat} {x : sE} (h : ∀ j, j < w.1 → f j = (mk w μ).2 j) (ha : w.1 ≤ a) : ∀ j, j < w.1 → sUp f a x j = (mk w μ).2 j := fun j hj => (sUp_ne _ _ (by omega)).trans (h j hj)
set_option maxRecDepth 4000 in
theorem c_X6_result (hcl : clP (gG l D c H0 sa)) (hw : mWF w) (hT : mT w μ) {r cs np nw : Int} (q10 : μ 23 10 = r) (q11 : μ 23 11 = cs) (q12 : μ 23 12 = np) (q13 : μ 23 13 = nw) : sC (gG l D c H0 sa) mX6_result 4 6 2586 [.ref 23] (mk w μ) (qRx w [] μ (fun b w1 μ1 => b = w.1 ∧ w1 = wPol w cs.toNat np.toNat nw.toNat ∧ μ1 = mPol w μ r)) := by
  have t10 : 0 ≤ μ 23 10 ∧ μ 23 10 ≤ 30 := hT 23 23 (A_23 hw) 10
  have t11 : 0 ≤ μ 23 11 ∧ μ 23 11 ≤ 2000 := hT 23 23 (A_23 hw) 11
  have t12 : 0 ≤ μ 23 12 ∧ μ 23 12 ≤ 40 := hT 23 23 (A_23 hw) 12
  have t13 : 0 ≤ μ 23 13 ∧ μ 23 13 ≤ 250 := hT 23 23 (A_23 hw) 13
  have n27 : w.2.2.1 27 = 2000 := (A_27 hw).2.2.2 rfl
  have n28 : w.2.2.1 28 = 40 := (A_28 hw).2.2.2 rfl
  have n29 : w.2.2.1 29 = 40 := (A_29 hw).2.2.2 rfl
  have n30 : w.2.2.1 30 = 250 := (A_30 hw).2.2.2 rfl
  have n31 : w.2.2.1 31 = 250 := (A_31 hw).2.2.2 rfl
  have w192 := hw.2.1
  refine sC.of rfl (by decide) (le_t rfl) ?_
  refine sv_new (pc := 0) (ci := 5) (T := (RX5, TX5, 6)) (fs := zX5) dX6_result_0 (gCX5 l D c H0 sa) wC_X6_69 wN_X5 wI_X5 zX5_ok (le_t rfl) (le_t rfl) ?_
  have E1 : ∀ j, j < w.1 → sUp (mk w μ).2 (mk w μ).1 (.inr (5, zX5)) j = (mk w μ).2 j := keepE (fun _ _ => rfl) (Nat.le_refl _)
  refine sv_dup (pc := 3) dX6_result_3 rfl ?_
  refine sv_aload_n (pc := 4) dX6_result_4 rfl rfl ?_
  refine mr_getH (pc := 5) (w := w) (μ := μ) (kk := 0) (k := 10) (z := r) (E1 23 (by omega)) (by show 23 < w.1 + 1; omega) dX6_result_5 (gCX6 _ _ _ _ _) (lt_t rfl) wF_X6_44 (A_23 hw) rfl (lt_t rfl) rfl q10 ?_
  refine sv_aload_n (pc := 8) dX6_result_8 rfl rfl ?_
  refine mr_getH (pc := 9) (w := w) (μ := μ) (kk := 2) (k := 3) (z := 27) (E1 23 (by omega)) (by show 23 < w.1 + 1; omega) dX6_result_9 (gCX6 _ _ _ _ _) (lt_t rfl) wF_X6_21 (A_23 hw) rfl (lt_t rfl) rfl (hT 23 23 (A_23 hw) 3).1 ?_
  refine sv_aload_n (pc := 12) dX6_result_12 rfl rfl ?_
  refine mr_getH (pc := 13) (w := w) (μ := μ) (kk := 0) (k := 11) (z := cs) (E1 23 (by omega)) (by show 23 < w.1 + 1; omega) dX6_result_13 (gCX6 _ _ _ _ _) (lt_t rfl) wF_X6_47 (A_23 hw) rfl (lt_t rfl) rfl q11 ?_
  refine mr_cpI (pc := 16) (w := w) (μ := μ) (a := 27) (s := 27) (x := cs) hcl dX6_result_16 wM_X6_71 E1 (by show w.1 ≤ w.1 + 1; omega) (A_27 hw) rfl ⟨by omega, by omega⟩ (le_t rfl) ⟨le_t rfl, le_t rfl⟩ (le_t rfl) (by show 0 + 6 + cs.toNat ≤ 2586; omega) (le_t rfl) fun f1 e1 => ?_
  have E2 : ∀ j, j < w.1 → sUp (sUp (mk w μ).2 (mk w μ).1 (.inr (5, zX5))) (w.1 + 1) (.inl (0, cs.toNat, f1)) j = (mk w μ).2 j := keepE E1 (by omega)
  refine sv_aload_n (pc := 19) dX6_result_19 rfl rfl ?_
  refine mr_getH (pc := 20) (w := w) (μ := μ) (kk := 2) (k := 4) (z := 28) (E2 23 (by omega)) (by show 23 < w.1 + 1 + 1; omega) dX6_result_20 (gCX6 _ _ _ _ _) (lt_t rfl) wF_X6_24 (A_23 hw) rfl (lt_t rfl) rfl (hT 23 23 (A_23 hw) 4).1 ?_
  refine sv_aload_n (pc := 23) dX6_result_23 rfl rfl ?_
  refine mr_getH (pc := 24) (w := w) (μ := μ) (kk := 0) (k := 12) (z := np) (E2 23 (by omega)) (by show 23 < w.1 + 1 + 1; omega) dX6_result_24 (gCX6 _ _ _ _ _) (lt_t rfl) wF_X6_50 (A_23 hw) rfl (lt_t rfl) rfl q12 ?_
  refine mr_cpI (pc := 27) (w := w) (μ := μ) (a := 28) (s := 28) (x := np) hcl dX6_result_27 wM_X6_71 E2 (by show w.1 ≤ w.1 + 1 + 1; omega) (A_28 hw) rfl ⟨by omega, by omega⟩ (le_t rfl) ⟨le_t rfl, le_t rfl⟩ (le_t rfl) (by show 0 + 6 + cs.toNat + np.toNat ≤ 2586; omega) (le_t rfl) fun f2 e2 => ?_
  have E3 : ∀ j, j < w.1 → sUp (sUp (sUp (mk w μ).2 (mk w μ).1 (.inr (5, zX5))) (w.1 + 1) (.inl (0, cs.toNat, f1))) (w.1 + 1 + 1) (.inl (0, np.toNat, f2)) j = (mk w μ).2 j := keepE E2 (by omega)
  refine sv_aload_n (pc := 30) dX6_result_30 rfl rfl ?_
  refine mr_getH (pc := 31) (w := w) (μ := μ) (kk := 2) (k := 5) (z := 29) (E3 23 (by omega)) (by show 23 < w.1 + 1 + 1 + 1; omega) dX6_result_31 (gCX6 _ _ _ _ _) (lt_t rfl) wF_X6_27 (A_23 hw) rfl (lt_t rfl) rfl (hT 23 23 (A_23 hw) 5).1 ?_
  refine sv_aload_n (pc := 34) dX6_result_34 rfl rfl ?_
  refine mr_getH (pc := 35) (w := w) (μ := μ) (kk := 0) (k := 12) (z := np) (E3 23 (by omega)) (by show 23 < w.1 + 1 + 1 + 1; omega) dX6_result_35 (gCX6 _ _ _ _ _) (lt_t rfl) wF_X6_50 (A_23 hw) rfl (lt_t rfl) rfl q12 ?_
  refine mr_cpJ (pc := 38) (w := w) (μ := μ) (a := 29) (s := 29) (x := np) hcl dX6_result_38 wM_X6_77 E3 (by show w.1 ≤ w.1 + 1 + 1 + 1; omega) (A_29 hw) rfl ⟨by omega, by omega⟩ (le_t rfl) ⟨le_t rfl, le_t rfl⟩ (le_t rfl) (by show 0 + 6 + cs.toNat + np.toNat + np.toNat ≤ 2586; omega) (le_t rfl) fun f3 e3 => ?_
  have E4 : ∀ j, j < w.1 → sUp (sUp (sUp (sUp (mk w μ).2 (mk w μ).1 (.inr (5, zX5))) (w.1 + 1) (.inl (0, cs.toNat, f1))) (w.1 + 1 + 1) (.inl (0, np.toNat, f2))) (w.1 + 1 + 1 + 1) (.inl (1, np.toNat, f3)) j = (mk w μ).2 j := keepE E3 (by omega)
  refine sv_aload_n (pc := 41) dX6_result_41 rfl rfl ?_
  refine mr_getH (pc := 42) (w := w) (μ := μ) (kk := 2) (k := 6) (z := 30) (E4 23 (by omega)) (by show 23 < w.1 + 1 + 1 + 1 + 1; omega) dX6_result_42 (gCX6 _ _ _ _ _) (lt_t rfl) wF_X6_31 (A_23 hw) rfl (lt_t rfl) rfl (hT 23 23 (A_23 hw) 6).1 ?_
  refine sv_aload_n (pc := 45) dX6_result_45 rfl rfl ?_
  refine mr_getH (pc := 46) (w := w) (μ := μ) (kk := 0) (k := 13) (z := nw) (E4 23 (by omega)) (by show 23 < w.1 + 1 + 1 + 1 + 1; omega) dX6_result_46 (gCX6 _ _ _ _ _) (lt_t rfl) wF_X6_53 (A_23 hw) rfl (lt_t rfl) rfl q13 ?_
  refine mr_cpJ (pc := 49) (w := w) (μ := μ) (a := 30) (s := 30) (x := nw) hcl dX6_result_49 wM_X6_77 E4 (by show w.1 ≤ w.1 + 1 + 1 + 1 + 1; omega) (A_30 hw) rfl ⟨by omega, by omega⟩ (le_t rfl) ⟨le_t rfl, le_t rfl⟩ (le_t rfl) (by show 0 + 6 + cs.toNat + np.toNat + np.toNat + nw.toNat ≤ 2586; omega) (le_t rfl) fun f4 e4 => ?_
  have E5 : ∀ j, j < w.1 → sUp (sUp (sUp (sUp (sUp (mk w μ).2 (mk w μ).1 (.inr (5, zX5))) (w.1 + 1) (.inl (0, cs.toNat, f1))) (w.1 + 1 + 1) (.inl (0, np.toNat, f2))) (w.1 + 1 + 1 + 1) (.inl (1, np.toNat, f3))) (w.1 + 1 + 1 + 1 + 1) (.inl (1, nw.toNat, f4)) j = (mk w μ).2 j := keepE E4 (by omega)
  refine sv_aload_n (pc := 52) dX6_result_52 rfl rfl ?_
  refine mr_getH (pc := 53) (w := w) (μ := μ) (kk := 2) (k := 7) (z := 31) (E5 23 (by omega)) (by show 23 < w.1 + 1 + 1 + 1 + 1 + 1; omega) dX6_result_53 (gCX6 _ _ _ _ _) (lt_t rfl) wF_X6_34 (A_23 hw) rfl (lt_t rfl) rfl (hT 23 23 (A_23 hw) 7).1 ?_
  refine sv_aload_n (pc := 56) dX6_result_56 rfl rfl ?_
  refine mr_getH (pc := 57) (w := w) (μ := μ) (kk := 0) (k := 13) (z := nw) (E5 23 (by omega)) (by show 23 < w.1 + 1 + 1 + 1 + 1 + 1; omega) dX6_result_57 (gCX6 _ _ _ _ _) (lt_t rfl) wF_X6_53 (A_23 hw) rfl (lt_t rfl) rfl q13 ?_
  refine mr_cpJ (pc := 60) (w := w) (μ := μ) (a := 31) (s := 31) (x := nw) hcl dX6_result_60 wM_X6_77 E5 (by show w.1 ≤ w.1 + 1 + 1 + 1 + 1 + 1; omega) (A_31 hw) rfl ⟨by omega, by omega⟩ (le_t rfl) ⟨le_t rfl, le_t rfl⟩ (le_t rfl) (by show 0 + 6 + cs.toNat + np.toNat + np.toNat + nw.toNat + nw.toNat ≤ 2586; omega) (le_t rfl) fun f5 e5 => ?_
  have hF : ∀ j, j < 6 → sUp (sUp (sUp (sUp (sUp (sUp (mk w μ).2 (mk w μ).1 (.inr (5, zX5))) (w.1 + 1) (.inl (0, cs.toNat, f1))) (w.1 + 1 + 1) (.inl (0, np.toNat, f2))) (w.1 + 1 + 1 + 1) (.inl (1, np.toNat, f3))) (w.1 + 1 + 1 + 1 + 1) (.inl (1, nw.toNat, f4))) (w.1 + 1 + 1 + 1 + 1 + 1) (.inl (1, nw.toNat, f5)) (w.1 + j) = (match j with
      | 0 => .inr (5, zX5)
      | 1 => .inl (0, cs.toNat, f1)
      | 2 => .inl (0, np.toNat, f2)
      | 3 => .inl (1, np.toNat, f3)
      | 4 => .inl (1, nw.toNat, f4)
      | _ => .inl (1, nw.toNat, f5)) := by
    intro j hj
    match j, hj with
    | 0, _ => rw [sUp_ne _ _ (by omega), sUp_ne _ _ (by omega), sUp_ne _ _ (by omega), sUp_ne _ _ (by omega), sUp_ne _ _ (by omega)]; exact sUp_at _ _ _
    | 1, _ => rw [sUp_ne _ _ (by omega), sUp_ne _ _ (by omega), sUp_ne _ _ (by omega), sUp_ne _ _ (by omega)]; exact sUp_at _ _ _
    | 2, _ => rw [sUp_ne _ _ (by omega), sUp_ne _ _ (by omega), sUp_ne _ _ (by omega)]; exact sUp_at _ _ _
    | 3, _ => rw [sUp_ne _ _ (by omega), sUp_ne _ _ (by omega)]; exact sUp_at _ _ _
    | 4, _ => rw [sUp_ne _ _ (by omega)]; exact sUp_at _ _ _
    | 5, _ => exact sUp_at _ _ _
    | n + 6, h => exact absurd h (by omega)
  have E6 : ∀ j, j < w.1 → sUp (sUp (sUp (sUp (sUp (sUp (mk w μ).2 (mk w μ).1 (.inr (5, zX5))) (w.1 + 1) (.inl (0, cs.toNat, f1))) (w.1 + 1 + 1) (.inl (0, np.toNat, f2))) (w.1 + 1 + 1 + 1) (.inl (1, np.toNat, f3))) (w.1 + 1 + 1 + 1 + 1) (.inl (1, nw.toNat, f4))) (w.1 + 1 + 1 + 1 + 1 + 1) (.inl (1, nw.toNat, f5)) j = (mk w μ).2 j := keepE E5 (by omega)
  generalize hG : sUp (sUp (sUp (sUp (sUp (sUp (mk w μ).2 (mk w μ).1 (.inr (5, zX5))) (w.1 + 1) (.inl (0, cs.toNat, f1))) (w.1 + 1 + 1) (.inl (0, np.toNat, f2))) (w.1 + 1 + 1 + 1) (.inl (1, np.toNat, f3))) (w.1 + 1 + 1 + 1 + 1) (.inl (1, nw.toNat, f4))) (w.1 + 1 + 1 + 1 + 1 + 1) (.inl (1, nw.toNat, f5)) = G at hF E6
  have hct := c_X5_init (l := l) (D := D) (c := c) (H0 := H0) (sa := sa) (hp := (w.1 + 6, G)) (o := w.1) (c1 := w.1 + 1) (c2 := w.1 + 2) (c3 := w.1 + 3) (c4 := w.1 + 4) (c5 := w.1 + 5) (r := r) (by show w.1 < w.1 + 6; omega) (hF 0 (by omega))
  refine sv_heap (hp' := (w.1 + 6, G)) rfl (fun j _ => congrFun hG j) ?_
  refine sv_callI (pc := 63) (M' := mX5_init) (d' := 2) (C' := 0) (S' := 0) (av := [iv r, .ref (w.1 + 1), .ref (w.1 + 2), .ref (w.1 + 3), .ref (w.1 + 4), .ref (w.1 + 5)]) (st := [.ref w.1]) hct (gOk l D c H0 sa) dX6_result_63 (tX5_init l D c H0 sa) rfl rfl wV_X5_init wM_X6_80 ⟨le_t rfl, le_t rfl⟩ ⟨le_t rfl, by show 0 + 6 + cs.toNat + np.toNat + np.toNat + nw.toNat + nw.toNat + 0 ≤ 2586; omega⟩ rfl (le_t rfl) ?_
  rintro rr hp' ⟨rfl, rfl⟩
  refine sv_heapE (hp' := mk (wPol w cs.toNat np.toNat nw.toNat) (mPol w μ r)) rfl (fun j hj => ?_) ?_
  · have hj : j < w.1 + 6 := hj
    have rfl' : ∀ x : sE, sEq x x := fun x => by
      rcases x with ⟨kd, n, f⟩ | y
      · exact ⟨rfl, rfl, fun _ _ => rfl⟩
      · exact (rfl : y = y)
    by_cases h : j < w.1
    · have e : (mk (wPol w cs.toNat np.toNat nw.toNat) (mPol w μ r)).2 j = (mk w μ).2 j := by
        have em : mPol w μ r j = μ j := by funext i; exact if_pos h
        simp only [mk, wPol, em, if_pos h]
      rw [e]
      show sEq (sUp G w.1 _ j) _
      rw [sUp_ne _ _ (by omega), E6 j h]
      exact rfl' _
    · obtain ⟨i, rfl⟩ : ∃ i, j = w.1 + i := ⟨j - w.1, by omega⟩
      have hi : i < 6 := by omega
      match i, hi with
      | 0, _ =>
        show sEq (sUp G w.1 _ w.1) ((mk (wPol w cs.toNat np.toNat nw.toNat) (mPol w μ r)).2 w.1)
        rw [sUp_at, mk_obj wPol.at0 rfl]
        show (5, _) = (5, [mv 0 (mPol w μ r w.1 0), mv 2 (mPol w μ r w.1 1), mv 2 (mPol w μ r w.1 2), mv 2 (mPol w μ r w.1 3), mv 2 (mPol w μ r w.1 4), mv 2 (mPol w μ r w.1 5)])
        rw [mPol.at0, mPol.at0, mPol.at0, mPol.at0, mPol.at0, mPol.at0]
        show (5, _) = (5, [iv r, rf ((w.1 + 1 : Nat) : Int), rf ((w.1 + 2 : Nat) : Int), rf ((w.1 + 3 : Nat) : Int), rf ((w.1 + 4 : Nat) : Int), rf ((w.1 + 5 : Nat) : Int)])
        rw [rf_nat, rf_nat, rf_nat, rf_nat, rf_nat]
      | 1, _ =>
        show sEq (sUp G w.1 _ (w.1 + 1)) _
        rw [sUp_ne _ _ (by omega), hF 1 (by omega), mk_arr (wPol.at1 (by omega) (by omega) (by omega)) rfl, wPol.len]
        exact ⟨rfl, rfl, fun i hi => (e1 i hi).trans (congrArg iv (mPol.at (w := w) (μ := μ) (rows := r) (j := 0) (i := i)).symm)⟩
      | 2, _ =>
        show sEq (sUp G w.1 _ (w.1 + 2)) _
        rw [sUp_ne _ _ (by omega), hF 2 (by omega), mk_arr (wPol.at2 (by omega) (by omega) (by omega)) rfl, wPol.len]
        exact ⟨rfl, rfl, fun i hi => (e2 i hi).trans (congrArg iv (mPol.at (w := w) (μ := μ) (rows := r) (j := 1) (i := i)).symm)⟩
      | 3, _ =>
        show sEq (sUp G w.1 _ (w.1 + 3)) _
        rw [sUp_ne _ _ (by omega), hF 3 (by omega), mk_arr (wPol.at3 (by omega) (by omega) (by omega)) rfl, wPol.len]
        exact ⟨rfl, rfl, fun i hi => (e3 i hi).trans (congrArg jv (mPol.at (w := w) (μ := μ) (rows := r) (j := 2) (i := i)).symm)⟩
      | 4, _ =>
        show sEq (sUp G w.1 _ (w.1 + 4)) _
        rw [sUp_ne _ _ (by omega), hF 4 (by omega), mk_arr (wPol.at4 (by omega) (by omega) (by omega)) rfl, wPol.len]
        exact ⟨rfl, rfl, fun i hi => (e4 i hi).trans (congrArg jv (mPol.at (w := w) (μ := μ) (rows := r) (j := 3) (i := i)).symm)⟩
      | 5, _ =>
        show sEq (sUp G w.1 _ (w.1 + 5)) _
        rw [sUp_ne _ _ (by omega), hF 5 (by omega), mk_arr (wPol.at5 (by omega) (by omega) (by omega)) rfl, wPol.len]
        exact ⟨rfl, rfl, fun i hi => (e5 i hi).trans (congrArg jv (mPol.at (w := w) (μ := μ) (rows := r) (j := 4) (i := i)).symm)⟩
      | n + 6, h => exact absurd h (by omega)
  · exact mr_aretX (pc := 66) (C0 := "DomainHouse$Policy") dX6_result_66 rfl (le_t rfl) (by show 0 + 6 + cs.toNat + np.toNat + np.toNat + nw.toNat + nw.toNat + 0 ≤ 2586; omega) (hw.ext wPol.ext) (mT.pol (by omega) (by omega) (by omega) hw hT (by omega)) ⟨wPol.ext, fun a i ha _ => if_pos ha⟩ ⟨rfl, rfl, rfl⟩
end POLC
