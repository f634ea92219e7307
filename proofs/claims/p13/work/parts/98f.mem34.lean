/-! A counter goes up by one: a row gets its next entry. -/
def wCt (w : mW) (k : Nat) : mW := (w.1, w.2.1, w.2.2.1, fun j => if j = k then w.2.2.2 j + 1 else w.2.2.2 j)
theorem wCt.at {w : mW} {k : Nat} : (wCt w k).2.2.2 k = w.2.2.2 k + 1 := if_pos rfl
theorem wCt.ne {w : mW} {k j : Nat} (h : j ≠ k) : (wCt w k).2.2.2 j = w.2.2.2 j := if_neg h
theorem wCt.le {w : mW} {k j : Nat} : w.2.2.2 j ≤ (wCt w k).2.2.2 j := by
  by_cases h : j = k
  · subst h; rw [wCt.at]; omega
  · rw [wCt.ne h]; exact Int.le_refl _
theorem tyP.ct {w : mW} {k a i : Nat} {d : Nat × Int × Int} {z : Int} (h8 : d.1 = 8 → d.2.1.toNat ≠ k) (h9 : d.1 = 9 → d.2.1.toNat ≠ k) (t : tyP w a i d z) : tyP (wCt w k) a i d z := by
  obtain ⟨q, x, y⟩ := d
  have le : ∀ j, w.2.2.2 j ≤ (wCt w k).2.2.2 j := fun j => wCt.le
  match q, h8, h9, t with
  | 0, _, _, t => exact t
  | 1, _, _, t => exact t
  | 2, _, _, t => exact t
  | 3, _, _, t => exact t
  | 4, _, _, t => exact t
  | 5, _, _, t => exact t
  | 6, _, _, t => exact t
  | 7, _, _, t => exact t
  | 8, h8, _, t =>
    have e : (wCt w k).2.2.2 x.toNat = w.2.2.2 x.toNat := wCt.ne (h8 rfl)
    exact ⟨fun g => t.1 (by rw [← e]; exact g), fun g => t.2 (by rw [← e]; exact g)⟩
  | 9, _, h9, t => exact ⟨by rw [wCt.ne (h9 rfl)]; exact t.1, t.2⟩
  | 10, _, _, t => exact ⟨t.1, t.2.1, t.2.2.imp id (fun g => Int.lt_of_lt_of_le g (le _))⟩
  | 11, _, _, t => exact ⟨t.1, t.2.1, Int.lt_of_lt_of_le t.2.2 (le _)⟩
  | 12, _, _, t => exact ⟨t.1, t.2.1, t.2.2.imp id (fun g => Int.lt_of_lt_of_le g (le _))⟩
  | 13, _, _, t => exact ⟨t.1, t.2.1, t.2.2.imp id (fun g => by have := le x.toNat; show z < 40 * (wCt w k).2.2.2 x.toNat; have g : z < 40 * w.2.2.2 x.toNat := g; omega)⟩
  | _ + 14, _, _, t => exact ⟨t.1, fun g => Int.lt_of_lt_of_le (t.2 g) (le _)⟩
theorem mTy_all {p : Nat → Nat → Nat × Int × Int → Bool} (h : ((List.range 240).all fun s => (List.range (mTyL.getD s []).length).all fun i => p s i ((mTyL.getD s []).getD i (0, 0, 0))) = true) (s i : Nat) : mTy s i = (0, 0, 0) ∨ p s (if mArr s then 0 else i) (mTy s i) = true := by
  unfold mTy
  by_cases hs : s < 240
  · have h1 := List.all_eq_true.mp h s (List.mem_range.mpr hs)
    by_cases hi : (if mArr s then 0 else i) < (mTyL.getD s []).length
    · exact Or.inr (List.all_eq_true.mp h1 _ (List.mem_range.mpr hi))
    · left
      rw [List.getD_eq_getElem?_getD (l := mTyL.getD s []), List.getElem?_eq_none (by omega)]; rfl
  · left
    have e : mTyL.getD s [] = [] := by
      rw [List.getD_eq_getElem?_getD, List.getElem?_eq_none (by have : mTyL.length = 240 := by decide +kernel
                                                                omega)]; rfl
    rw [e]; rfl
/-- which entries hang on which counter -/
def ctT (k rs os f : Nat) (s i : Nat) (d : Nat × Int × Int) : Bool := (!(Nat.beq d.1 8 && Nat.beq d.2.1.toNat k) || Nat.beq s rs) && (!(Nat.beq d.1 9 && Nat.beq d.2.1.toNat k) || (Nat.beq s os && Nat.beq i f))
def ctOK (k rs os f : Nat) : Bool := ((List.range 240).all fun s => (List.range (mTyL.getD s []).length).all fun i => ctT k rs os f s i ((mTyL.getD s []).getD i (0, 0, 0))) && ((List.range 192).all fun a => !(Nat.beq (mSh0 a) rs) || Nat.beq a rs) && ((List.range 192).all fun a => !(Nat.beq (mSh0 a) os) || Nat.beq a os) && Nat.ble rs 100 && Nat.ble os 100 && mArr rs && !(mArr os)
theorem mT.ct {w : mW} {μ μ2 : mM} {k rs os f es b : Nat} {n m : Int} (hok : ctOK k rs os f = true) (hrs : mSh0 rs = rs) (hos : mSh0 os = os) (hr : ∀ i, mTy rs i = (8, (k : Int), (es : Int))) (ho : mTy os f = (9, (k : Int), m)) (hw : mWF w) (hT : mT w μ) (hn : w.2.2.2 k = n) (hn0 : 0 ≤ n ∧ n + 1 ≤ m) (hb : mAt w b es)
    (q1 : μ2 rs n.toNat = (b : Int)) (q2 : μ2 os f = n + 1) (q3 : ∀ a i, (a ≠ rs ∨ i ≠ n.toNat) → (a ≠ os ∨ i ≠ f) → μ2 a i = μ a i) : mT (wCt w k) μ2 := by
  simp only [ctOK, Bool.and_eq_true] at hok
  obtain ⟨⟨⟨⟨⟨⟨k1, k2⟩, k3⟩, k4⟩, k5⟩, k6⟩, k7⟩ := hok
  intro a s hA i
  have hA : mAt w a s := hA
  have only : ∀ x, (List.range 192).all (fun a => !(Nat.beq (mSh0 a) x) || Nat.beq a x) = true → Nat.ble x 100 = true → s = x → a = x := by
    intro x hx h1 e
    have e : w.2.1 a = x := hA.1.trans e
    by_cases h : a < 192
    · have g := List.all_eq_true.mp hx a (List.mem_range.mpr h)
      rw [hw.1 a h] at e
      rw [e, Nat.beq_refl] at g
      exact Nat.eq_of_beq_eq_true g
    · have g := hw.2.2.2.2 a (Nat.not_lt.mp h) hA.2.1
      have := Nat.le_of_ble_eq_true h1
      omega
  have rs192 : rs < 192 := by have := Nat.le_of_ble_eq_true k4; omega
  have os192 : os < 192 := by have := Nat.le_of_ble_eq_true k5; omega
  by_cases c1 : a = rs ∧ i = n.toNat
  · obtain ⟨rfl, rfl⟩ := c1
    have e : s = a := hA.1.symm.trans ((hw.1 a rs192).trans hrs)
    subst e
    rw [q1, hr]
    refine ⟨fun _ => ⟨Int.natCast_nonneg b, ?_⟩, fun g => absurd ?_ g⟩
    · show mAt w ((b : Int)).toNat ((es : Int)).toNat
      rw [Int.toNat_natCast, Int.toNat_natCast]; exact hb
    · show ((n.toNat : Nat) : Int) < (wCt w k).2.2.2 ((k : Int)).toNat
      rw [Int.toNat_natCast, wCt.at, hn]; omega
  · by_cases c2 : a = os ∧ i = f
    · obtain ⟨rfl, rfl⟩ := c2
      have e : s = a := hA.1.symm.trans ((hw.1 a os192).trans hos)
      subst e
      rw [q2, ho]
      show n + 1 = (wCt w k).2.2.2 ((k : Int)).toNat ∧ 0 ≤ n + 1 ∧ n + 1 ≤ m
      rw [Int.toNat_natCast, wCt.at, hn]; omega
    · have d1 : a ≠ rs ∨ i ≠ n.toNat := Classical.or_iff_not_imp_left.mpr fun h1 h2 => c1 ⟨Classical.not_not.mp h1, h2⟩
      have d2 : a ≠ os ∨ i ≠ f := Classical.or_iff_not_imp_left.mpr fun h1 h2 => c2 ⟨Classical.not_not.mp h1, h2⟩
      rw [q3 a i d1 d2]
      have t := hT a s hA i
      rcases mTy_all k1 s i with g | g
      · rw [g] at t ⊢; exact t
      · simp only [ctT, Bool.and_eq_true, Bool.or_eq_true, Bool.not_eq_true'] at g
        obtain ⟨g8, g9⟩ := g
        by_cases h8 : (mTy s i).1 = 8 ∧ (mTy s i).2.1.toNat = k
        · have es2 : s = rs := by
            rcases g8 with g8 | g8
            · rw [h8.1, h8.2, Nat.beq_refl, Nat.beq_refl] at g8; cases g8
            · exact Nat.eq_of_beq_eq_true g8
          have ea := only rs k2 k4 es2
          subst es2
          subst ea
          have hi : i ≠ n.toNat := d1.resolve_left (fun h => h rfl)
          rw [hr] at t ⊢
          have t : (((i : Nat) : Int) < w.2.2.2 ((k : Int)).toNat → 0 ≤ μ a i ∧ mAt w (μ a i).toNat ((es : Int)).toNat) ∧ (¬ ((i : Nat) : Int) < w.2.2.2 ((k : Int)).toNat → μ a i = -1) := t
          show (((i : Nat) : Int) < (wCt w k).2.2.2 ((k : Int)).toNat → 0 ≤ μ a i ∧ mAt w (μ a i).toNat ((es : Int)).toNat) ∧ (¬ ((i : Nat) : Int) < (wCt w k).2.2.2 ((k : Int)).toNat → μ a i = -1)
          rw [Int.toNat_natCast, hn] at t
          rw [Int.toNat_natCast, wCt.at, hn]
          exact ⟨fun h => t.1 (by omega), fun h => t.2 (by omega)⟩
        · by_cases h9 : (mTy s i).1 = 9 ∧ (mTy s i).2.1.toNat = k
          · exfalso
            have e9 : s = os ∧ (if mArr s then 0 else i) = f := by
              rcases g9 with g9 | g9
              · rw [h9.1, h9.2, Nat.beq_refl, Nat.beq_refl] at g9; cases g9
              · exact ⟨Nat.eq_of_beq_eq_true g9.1, Nat.eq_of_beq_eq_true g9.2⟩
            have ea := only os k3 k5 e9.1
            have hm : mArr s = false := by rw [e9.1]; simpa using k7
            rw [hm] at e9
            exact d2.elim (fun h => h ea) (fun h => h e9.2)
          · exact tyP.ct (fun h e => h8 ⟨h, e⟩) (fun h e => h9 ⟨h, e⟩) t
/-! new objects of the class, with all that they bring -/
theorem sEq.sh {k : Nat} {x y : sE} (h : sEq x y) : sEq (shE k x) (shE k y) := by
  rcases x with ⟨kd, n, f⟩ | a <;> rcases y with ⟨kd', n', f'⟩ | b
  · obtain ⟨rfl, rfl, h⟩ := h
    exact ⟨rfl, rfl, fun i hi => congrArg (shv k) (h i hi)⟩
  · exact h.elim
  · exact h.elim
  · obtain rfl : a = b := h
    exact (rfl : _ = _)
theorem BX0_b : bBig BX0 = true := by decide +kernel
theorem BX9_b : bBig BX9 = true := by decide +kernel
/-- how much a block brings -/
def bZ (B : mB) : Nat := sumN (fun i => szS (bS B i) (mLen (bS B i))) B.length
theorem szW.blk {w : mW} {B : mB} (hb : bBig B = true) : szW (wBlk w B) = szW w + bZ B := by
  rw [szW.ext (wBlk.ext hb)]
  have e : (wBlk w B).1 - w.1 = B.length := by show w.1 + B.length - w.1 = _; omega
  rw [e]
  unfold bZ
  congr 1
  refine sumN_eq fun i hi => ?_
  have h := wBlk.at (w := w) hi
  have hl : (wBlk w B).2.2.1 (w.1 + i) = mLen (bS B i) := by
    show (if w.1 + i < w.1 then _ else _) = _
    rw [if_neg (by omega), show w.1 + i - w.1 = i by omega]
  rw [h.1, hl]
theorem BX0_z : bZ BX0 = 442 := by decide +kernel
theorem BX9_z : bZ BX9 = 1653 := by decide +kernel
theorem mk_set {w : mW} {μ : mM} {a s ci k : Nat} {ks : List Nat} {z : Int} {L : List Value} (hA : mAt w a s) (hs : mTab s = .inl (ci, ks)) (e : (mk w μ).2 a = .inr (ci, L)) : (mk w (mUp μ a k z)).2 a = .inr (ci, L.set k (mv (ks.getD k 0) z)) := by
  rw [mk_obj hA hs] at e
  have e : (List.range ks.length).map (fun k => mv (ks.getD k 0) (μ a k)) = L := by
    injection e with e; injection e
  rw [mk_obj hA hs, ← e, mRgS]
  congr 2
  apply List.map_congr_left
  intro i _
  simp only [mUp, true_and]
  split
  next e => subst e; rfl
  next => rfl
section MV34
variable {l : Launch} {D : va_G} {c : Nat → ClassId} {H0 : Heap} {sa : Nat × Nat × (Nat → Int32)} {M : sM} {R : Room} {Z : sZT} {pc : Nat} {lv : List (Nat × Value)} {st : List Value} {w : mW} {μ : mM} {ce sl : Nat}
theorem mr_newDom {i1 i2 : Nat} (hd : decode M.2.1 pc = .ok (.new i1, 3)) (hd2 : decode M.2.1 (pc + 3) = .ok (.dup, 1)) (hd3 : decode M.2.1 (pc + 4) = .ok (.invokespecial i2, 3)) (hcl : Cond.classLink M.1.cls i1 RX0 ∈ lw_ok) (hlk : Cond.methodLink M.1.cls i2 yX0_init ∈ lw_ok) (hw : mWF w) (hT : mT w μ) (hR : 6 ≤ R.frames ∧ 321 ≤ R.locals) (hce : ce + 35 ≤ R.cells ∧ sl + 442 ≤ R.slots) (hr8 : (st.map fun v => v.category).sum ≤ 7)
    (kk : ∀ w1 μ1, mWF w1 → mT w1 μ1 → mX [] w μ w1 μ1 → mAt w1 w.1 210 → w1.2.2.2 = w.2.2.2 → w1.1 = w.1 + 35 → szW w1 = szW w + 442 → sV (gG l D c H0 sa) M R Z (pc + 7) lv (.ref w.1 :: st) (mk w1 μ1) (ce + 35) (sl + 442)) : sV (gG l D c H0 sa) M R Z pc lv st (mk w μ) ce sl := by
  refine sv_new (ci := 0) (T := (RX0, TX0, 6)) (fs := zX0) hd (gCX0 l D c H0 sa) hcl wN_X0 wI_X0 zX0_ok (by omega) (by show sl + 6 ≤ R.slots; omega) ?_
  refine sv_dup (pc := pc + 3) hd2 rfl ?_
  have hct := sC.shift (l := l) (D := D) (c := c) (H0 := H0) (sa := sa) (k := w.1) (n2 := 1) (av2 := [.ref 0]) (f := sUp (mk w μ).2 w.1 (.inr (0, zX0))) (f2 := fun _ => .inr (0, zX0)) (fun j hj => by
    have e : j = 0 := by omega
    subst e
    exact (sUp_at _ _ _).trans rfl) (fun H1 => ctorX0 l D c H1 sa)
  refine sv_callI (pc := pc + 3 + 1) (M' := mX0_init) (d' := 5) (C' := 34) (S' := 436) (av := []) (st := .ref w.1 :: st) hct (gOk l D c H0 sa) hd3 (tX0_init l D c H0 sa) rfl rfl wV_X0_init hlk ⟨by omega, by show 60 * 5 + 2 + 19 ≤ R.locals; omega⟩ ⟨by omega, by show sl + 6 + 436 ≤ R.slots; omega⟩ rfl (Nat.add_le_add_left hr8 1) ?_
  rintro r hp' ⟨r2, n3, f3, ⟨rfl, e3, h3⟩, rfl, rfl⟩
  have e3 : n3 = 35 := e3
  subst e3
  refine sv_heapE (hp' := mk (wBlk w BX0) (mBlk w μ BX0)) rfl (mkBlk (fun j hj => sUp_ne _ _ (Nat.ne_of_lt hj)) (fun j hj => sEq.sh (by rw [show f3 j = tX0N j from h3 j hj]; exact BX0_eq j hj))) ?_
  exact kk _ _ (hw.blk BX0_b) (mT.blk (fun h => by cases h) BX0_b BX0_ok hT) (mBlk.x BX0_b) (wBlk.at (j := 0) (by decide)) rfl rfl (by rw [szW.blk BX0_b, BX0_z])
theorem mr_newTie {i1 i2 : Nat} {x y z : Int} {j1 j2 j3 : Fin 4} (hd : decode M.2.1 pc = .ok (.new i1, 3)) (hd2 : decode M.2.1 (pc + 3) = .ok (.dup, 1)) (hd4 : decode M.2.1 (pc + 4) = .ok (.iload_n j1, 1)) (hd5 : decode M.2.1 (pc + 5) = .ok (.iload_n j2, 1)) (hd6 : decode M.2.1 (pc + 6) = .ok (.iload_n j3, 1)) (hd3 : decode M.2.1 (pc + 7) = .ok (.invokespecial i2, 3)) (hg1 : sGet j1 lv = some (iv x)) (hg2 : sGet j2 lv = some (iv y)) (hg3 : sGet j3 lv = some (iv z)) (hcl : Cond.classLink M.1.cls i1 RX9 ∈ lw_ok) (hlk : Cond.methodLink M.1.cls i2 yX9_init ∈ lw_ok) (hw : mWF w) (hT : mT w μ) (hx : 0 ≤ x ∧ x ≤ 9 ∧ x < w.2.2.2 0) (hy : 0 ≤ y ∧ y ≤ 9 ∧ y < w.2.2.2 0) (hz : 0 ≤ z ∧ z ≤ 2) (hR : 6 ≤ R.frames ∧ 324 ≤ R.locals) (hce : ce + 124 ≤ R.cells ∧ sl + 1653 ≤ R.slots) (hr8 : (st.map fun v => v.category).sum ≤ 7)
    (kk : ∀ w1 μ1, mWF w1 → mT w1 μ1 → mX [] w μ w1 μ1 → mAt w1 w.1 220 → w1.2.2.2 = w.2.2.2 → w1.1 = w.1 + 124 → szW w1 = szW w + 1653 → sV (gG l D c H0 sa) M R Z (pc + 10) lv (.ref w.1 :: st) (mk w1 μ1) (ce + 124) (sl + 1653)) : sV (gG l D c H0 sa) M R Z pc lv st (mk w μ) ce sl := by
  refine sv_new (ci := 9) (T := (RX9, TX9, 9)) (fs := zX9) hd (gCX9 l D c H0 sa) hcl wN_X9 wI_X9 zX9_ok (by omega) (by show sl + 9 ≤ R.slots; omega) ?_
  refine sv_dup (pc := pc + 3) hd2 rfl ?_
  refine sv_iload_n (pc := pc + 3 + 1) hd4 rfl hg1 ?_
  refine sv_iload_n (pc := pc + 3 + 1 + 1) hd5 rfl hg2 ?_
  refine sv_iload_n (pc := pc + 3 + 1 + 1 + 1) hd6 rfl hg3 ?_
  have hct := sC.shift (l := l) (D := D) (c := c) (H0 := H0) (sa := sa) (k := w.1) (n2 := 1) (av2 := [.ref 0, iv x, iv y, iv z]) (f := sUp (mk w μ).2 w.1 (.inr (9, zX9))) (f2 := fun _ => .inr (9, zX9)) (fun j hj => by
    have e : j = 0 := by omega
    subst e
    exact (sUp_at _ _ _).trans rfl) (fun H1 => ctorX9 l D c H1 sa (Int32.ofInt x) (Int32.ofInt y) (Int32.ofInt z))
  refine sv_callI (pc := pc + 3 + 1 + 1 + 1 + 1) (M' := mX9_init) (d' := 5) (C' := 123) (S' := 1644) (av := [iv x, iv y, iv z]) (st := .ref w.1 :: st) hct (gOk l D c H0 sa) hd3 (tX9_init l D c H0 sa) rfl rfl wV_X9_init hlk ⟨by omega, by show 60 * 5 + 5 + 19 ≤ R.locals; omega⟩ ⟨by omega, by show sl + 9 + 1644 ≤ R.slots; omega⟩ rfl (Nat.add_le_add_left hr8 1) ?_
  rintro r hp' ⟨r2, n3, f3, ⟨rfl, e3, h3⟩, rfl, rfl⟩
  have e3 : n3 = 124 := e3
  subst e3
  have h0 : 0 < w.2.2.2 0 := by omega
  have hT1 := mT.blk (fun _ => h0) BX9_b BX9_ok hT
  have hA : mAt (wBlk w BX9) w.1 220 := wBlk.at (j := 0) (by rw [BX9_n]; omega)
  have t1 : mT (wBlk w BX9) (mUp (mBlk w μ BX9) w.1 0 x) := mT.up (k := 0) hT1 hA hx mUp_ok
  have t2 : mT (wBlk w BX9) (mUp (mUp (mBlk w μ BX9) w.1 0 x) w.1 1 y) := mT.up (k := 1) t1 hA hy mUp_ok
  have t3 : mT (wBlk w BX9) (mUp (mUp (mUp (mBlk w μ BX9) w.1 0 x) w.1 1 y) w.1 2 z) := mT.up (k := 2) t2 hA hz mUp_ok
  have hb := mkBlk (w := w) (μ := μ) (B := BX9) (f := sUp (mk w μ).2 w.1 (.inr (9, zX9))) (f3 := tX9N 0 0 0) (fun j hj => sUp_ne _ _ (Nat.ne_of_lt hj)) (fun j hj => sEq.sh (BX9_eq j hj))
  have e0 : (mk (wBlk w BX9) (mBlk w μ BX9)).2 w.1 = .inr (9, [.int 0, .int 0, .int 0, .ref (w.1 + 1), .ref (w.1 + 2), .ref (w.1 + 3), .int 1, .int 1, .int 0]) := by
    have g := hb w.1 (by show w.1 < w.1 + 124; omega)
    have e1 : shH w.1 (sUp (mk w μ).2 w.1 (.inr (9, zX9))) (tX9N 0 0 0) w.1 = .inr (9, [.int 0, .int 0, .int 0, .ref (w.1 + 1), .ref (w.1 + 2), .ref (w.1 + 3), .int 1, .int 1, .int 0]) := by
      show (if w.1 < w.1 then _ else _) = _
      rw [if_neg (Nat.lt_irrefl _), Nat.sub_self]; rfl
    rw [e1] at g
    revert g
    rcases (mk (wBlk w BX9) (mBlk w μ BX9)).2 w.1 with q | q
    · intro g; exact g.elim
    · intro g
      have g : _ = q := g
      rw [← g]
  refine sv_heapE (hp' := mk (wBlk w BX9) (mUp (mUp (mUp (mBlk w μ BX9) w.1 0 x) w.1 1 y) w.1 2 z)) rfl (fun j hj => ?_) (kk _ _ (hw.blk BX9_b) t3 ?_ hA rfl rfl (by rw [szW.blk BX9_b, BX9_z]))
  · by_cases h : j = w.1
    · subst h
      have e1 : shH w.1 (sUp (mk w μ).2 w.1 (.inr (9, zX9))) f3 w.1 = .inr (9, [iv x, iv y, iv z, .ref (w.1 + 1), .ref (w.1 + 2), .ref (w.1 + 3), .int 1, .int 1, .int 0]) := by
        show (if w.1 < w.1 then _ else _) = _
        rw [if_neg (Nat.lt_irrefl _), Nat.sub_self, show f3 0 = _ from h3 0 (by show 0 < 124; omega)]; rfl
      show sEq (shH w.1 _ f3 w.1) _
      rw [e1, mk_set hA rfl (mk_set hA rfl (mk_set hA rfl e0))]
      exact (rfl : _ = _)
    · have g := hb j hj
      rw [mk_other h, mk_other h, mk_other h]
      have e : shH w.1 (sUp (mk w μ).2 w.1 (.inr (9, zX9))) f3 j = shH w.1 (sUp (mk w μ).2 w.1 (.inr (9, zX9))) (tX9N 0 0 0) j := by
        by_cases hj2 : j < w.1
        · exact (if_pos hj2).trans (if_pos hj2).symm
        · refine (if_neg hj2).trans (Eq.trans ?_ (if_neg hj2).symm)
          have hl : j - w.1 < 124 := by have : j < w.1 + 124 := hj; omega
          rw [show f3 (j - w.1) = _ from h3 (j - w.1) hl]
          obtain ⟨m, hm⟩ : ∃ m, j - w.1 = m + 1 := ⟨j - w.1 - 1, by omega⟩
          rw [hm] at hl ⊢
          exact congrArg (shE w.1) (tX9N_s _ _ _ m hl)
      show sEq (shH w.1 _ f3 j) _
      rw [e]; exact g
  · refine ⟨wBlk.ext BX9_b, fun a i ha _ => ?_⟩
    have ne : a ≠ w.1 := Nat.ne_of_lt ha
    show mUp _ w.1 2 z a i = μ a i
    simp only [mUp, ne, false_and, if_false]
    exact if_pos ha
end MV34
