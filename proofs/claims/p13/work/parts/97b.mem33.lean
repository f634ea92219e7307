/-! A block of new cells: shapes and values; addresses in it are counted from its own start. -/
abbrev mB : Type := List (Nat × List Int × Int)
def bS (B : mB) (j : Nat) : Nat := (B.getD j (0, [], 0)).1
def bL (B : mB) (j : Nat) : List Int := (B.getD j (0, [], 0)).2.1
def bD (B : mB) (j : Nat) : Int := (B.getD j (0, [], 0)).2.2
def bV (B : mB) (j i : Nat) : Int := (bL B j).getD i (bD B j)
def mKd (s i : Nat) : Nat := match mTab s with
  | .inl (_, ks) => ks.getD i 0
  | .inr (_, k) => k
def shz (k : Nat) (kd : Nat) (z : Int) : Int := if 2 ≤ kd ∧ 0 ≤ z then z + k else z
def wBlk (w : mW) (B : mB) : mW := (w.1 + B.length, fun a => if a < w.1 then w.2.1 a else bS B (a - w.1), fun a => if a < w.1 then w.2.2.1 a else mLen (bS B (a - w.1)), w.2.2.2)
def mBlk (w : mW) (μ : mM) (B : mB) : mM := fun a i => if a < w.1 then μ a i else shz w.1 (mKd (bS B (a - w.1)) i) (bV B (a - w.1) i)
theorem shv_mv (k kd : Nat) (z : Int) : shv k (mv kd z) = mv kd (shz k kd z) := by
  match kd with
  | 0 => rfl
  | 1 => rfl
  | n + 2 =>
    show shv k (rf z) = rf (shz k (n + 2) z)
    by_cases h : z < 0
    · have e : shz k (n + 2) z = z := if_neg (fun q => by omega)
      rw [e]
      unfold rf
      rw [if_pos h]; rfl
    · have e : shz k (n + 2) z = z + k := if_pos ⟨by omega, by omega⟩
      rw [e]
      unfold rf
      rw [if_neg h, if_neg (by omega)]
      have e2 : k + z.toNat = (z + (k : Int)).toNat := by clear e; omega
      exact congrArg Value.ref e2
theorem mCell_sh (k s n : Nat) (m : Nat → Int) : shE k (mCell (mTab s) n m) = mCell (mTab s) n (fun i => shz k (mKd s i) (m i)) := by
  unfold mCell mKd
  rcases mTab s with ⟨ci, ks⟩ | ⟨kd, q⟩
  · show Sum.inr (ci, List.map (shv k) _) = Sum.inr (ci, _)
    rw [List.map_map]
    congr 2
    refine List.map_congr_left fun i _ => ?_
    exact shv_mv _ _ _
  · show Sum.inl (kd, n, fun i => shv k (mv q (m i))) = Sum.inl (kd, n, fun i => mv q (shz k q (m i)))
    congr 3
    funext i
    exact shv_mv _ _ _
def bBig (B : mB) : Bool := B.all fun x => Nat.blt 100 x.1
theorem wBlk.ext {w : mW} {B : mB} (hb : bBig B = true) : wE w (wBlk w B) := ⟨Nat.le_add_right _ _, fun a ha => ⟨if_pos ha, if_pos ha⟩, fun a h1 h2 => by
  rw [show (wBlk w B).2.1 a = bS B (a - w.1) from if_neg (Nat.not_lt.mpr h1)]
  have hj : a - w.1 < B.length := by have : a < w.1 + B.length := h2; omega
  unfold bS
  rw [List.getD_eq_getElem?_getD, List.getElem?_eq_getElem hj]
  exact Nat.le_of_ble_eq_true (List.all_eq_true.mp hb _ (List.getElem_mem hj))⟩
theorem mBlk.x {l : List Nat} {w : mW} {μ : mM} {B : mB} (hb : bBig B = true) : mX l w μ (wBlk w B) (mBlk w μ B) := ⟨wBlk.ext hb, fun a _ ha _ => if_pos ha⟩
theorem wBlk.at {w : mW} {B : mB} {j : Nat} (h : j < B.length) : mAt (wBlk w B) (w.1 + j) (bS B j) := by
  have e : ¬ w.1 + j < w.1 := by omega
  have ej : w.1 + j - w.1 = j := by omega
  have h1 : (wBlk w B).2.1 (w.1 + j) = bS B j := by show (if w.1 + j < w.1 then _ else _) = _; rw [if_neg e, ej]
  have h2 : (wBlk w B).2.2.1 (w.1 + j) = mLen (bS B j) := by show (if w.1 + j < w.1 then _ else _) = _; rw [if_neg e, ej]
  exact ⟨h1, Nat.add_lt_add_left h _, by rw [h2]; exact Nat.le_refl _, fun _ => h2⟩
theorem mBlk.at {w : mW} {μ : mM} {B : mB} {j i : Nat} : mBlk w μ B (w.1 + j) i = shz w.1 (mKd (bS B j) i) (bV B j i) := by
  have e : ¬ w.1 + j < w.1 := by omega
  have ej : w.1 + j - w.1 = j := by omega
  show (if w.1 + j < w.1 then _ else _) = _
  rw [if_neg e, ej]
/-- types, by reckoning -/
def bT (q : Bool) (B : mB) (j : Nat) (d : Nat × Int × Int) (kd : Nat) (z : Int) : Bool := match d.1 with
  | 0 => Nat.blt kd 2 && decide (d.2.1 ≤ z ∧ z ≤ d.2.2)
  | 1 => Nat.ble 2 kd && decide (0 ≤ d.2.1 ∧ z = j + d.2.1) && Nat.blt (j + d.2.1.toNat) B.length && Nat.beq (bS B (j + d.2.1.toNat)) d.2.2.toNat
  | 2 => Nat.ble 2 kd && decide (0 ≤ z) && Nat.blt z.toNat B.length && Nat.beq (bS B z.toNat) d.2.1.toNat
  | 5 => Nat.blt kd 2 && (decide (z = -99999999) || decide (d.2.1 ≤ z ∧ z ≤ d.2.2))
  | 10 => Nat.blt kd 2 && decide (z = 0 ∧ 0 ≤ d.2.2)
  | 11 => q && Nat.blt kd 2 && decide (z = 0 ∧ d.2.1 = 0 ∧ 0 ≤ d.2.2)
  | 14 => Nat.blt kd 2 && decide (z = -99999999)
  | _ => false
def bChk (q : Bool) (B : mB) : Bool := (List.range B.length).all fun j => if mArr (bS B j) then (bD B j :: bL B j).all fun z => bT q B j ((mTyL.getD (bS B j) []).getD 0 (0, 0, 0)) (mKd (bS B j) 0) z
  else Nat.beq (bL B j).length (mTyL.getD (bS B j) []).length && decide (bD B j = 0) && ((List.range (bL B j).length).all fun i => bT q B j ((mTyL.getD (bS B j) []).getD i (0, 0, 0)) (mKd (bS B j) i) ((bL B j).getD i 0)) && match mTab (bS B j) with
    | .inl (_, ks) => Nat.beq ks.length (bL B j).length
    | .inr _ => false
theorem bT.ok {q : Bool} {B : mB} {j i kd : Nat} {d : Nat × Int × Int} {z : Int} {w : mW} (hq : q = true → 0 < w.2.2.2 0) (h : bT q B j d kd z = true) : tyP (wBlk w B) (w.1 + j) i d (shz w.1 kd z) := by
  obtain ⟨k, x, y⟩ := d
  have lo : ∀ {kd : Nat}, Nat.blt kd 2 = true → shz w.1 kd z = z := fun g => if_neg (fun q => by have := Nat.le_of_ble_eq_true g; omega)
  have hi : ∀ {kd : Nat}, Nat.ble 2 kd = true → 0 ≤ z → shz w.1 kd z = z + w.1 := fun g p => if_pos ⟨Nat.le_of_ble_eq_true g, p⟩
  have at_ : ∀ {a s : Nat}, Nat.blt a B.length = true → Nat.beq (bS B a) s = true → mAt (wBlk w B) (w.1 + a) s := fun g p => by
    rw [← Nat.eq_of_beq_eq_true p]; exact wBlk.at (Nat.le_of_ble_eq_true g)
  match k, h with
  | 0, h =>
    simp only [bT, Bool.and_eq_true, decide_eq_true_eq] at h
    rw [lo h.1]; exact h.2
  | 1, h =>
    simp only [bT, Bool.and_eq_true, decide_eq_true_eq] at h
    obtain ⟨⟨⟨h1, h2, h3⟩, h4⟩, h5⟩ := h
    rw [hi h1 (by omega)]
    refine ⟨by show z + (w.1 : Int) = ((w.1 + j : Nat) : Int) + x; omega, ?_⟩
    show mAt (wBlk w B) (w.1 + j + x.toNat) y.toNat
    rw [Nat.add_assoc]; exact at_ h4 h5
  | 2, h =>
    simp only [bT, Bool.and_eq_true, decide_eq_true_eq] at h
    obtain ⟨⟨⟨h1, h2⟩, h4⟩, h5⟩ := h
    rw [hi h1 h2]
    refine ⟨by omega, ?_⟩
    rw [show (z + (w.1 : Int)).toNat = w.1 + z.toNat by omega]; exact at_ h4 h5
  | 3, h => cases h
  | 4, h => cases h
  | 5, h =>
    simp only [bT, Bool.and_eq_true, Bool.or_eq_true, decide_eq_true_eq] at h
    rw [lo h.1]; exact h.2
  | 6, h => cases h
  | 7, h => cases h
  | 8, h => cases h
  | 9, h => cases h
  | 10, h =>
    simp only [bT, Bool.and_eq_true, decide_eq_true_eq] at h
    obtain ⟨h1, rfl, h3⟩ := h
    rw [lo h1]; exact ⟨Int.le_refl _, h3, Or.inl rfl⟩
  | 11, h =>
    simp only [bT, Bool.and_eq_true, decide_eq_true_eq] at h
    obtain ⟨⟨h0, h1⟩, rfl, h2, h3⟩ := h
    have h2 : x = 0 := h2
    subst h2
    rw [lo h1]; exact ⟨Int.le_refl _, h3, hq h0⟩
  | 12, h => cases h
  | 13, h => cases h
  | 14, h =>
    simp only [bT, Bool.and_eq_true, decide_eq_true_eq] at h
    obtain ⟨h1, rfl⟩ := h
    rw [lo h1]; exact ⟨Or.inl rfl, fun q => absurd q (by decide)⟩
  | _ + 15, h => cases h
theorem mT.blk {q : Bool} {B : mB} {w : mW} {μ : mM} (hq : q = true → 0 < w.2.2.2 0) (hb : bBig B = true) (hB : bChk q B = true) (hT : mT w μ) : mT (wBlk w B) (mBlk w μ B) := by
  intro a t hA i
  by_cases ha : a < w.1
  · rw [show mBlk w μ B a i = μ a i from if_pos ha]
    exact (hT a t (hA.back (wBlk.ext hb) ha) i).ext (wBlk.ext hb) rfl
  · obtain ⟨j, rfl⟩ : ∃ j, a = w.1 + j := ⟨a - w.1, by omega⟩
    have hj : j < B.length := by have := hA.2.1; have e : (wBlk w B).1 = w.1 + B.length := rfl; omega
    have et : t = bS B j := hA.1.symm.trans (wBlk.at hj).1
    subst et
    rw [mBlk.at]
    have h := List.all_eq_true.mp hB j (List.mem_range.mpr hj)
    by_cases hr : mArr (bS B j) = true
    · rw [if_pos hr] at h
      have hk : mKd (bS B j) i = mKd (bS B j) 0 := by
        unfold mArr at hr
        unfold mKd
        revert hr
        rcases mTab (bS B j) with ⟨ci, ks⟩ | ⟨kd, k⟩
        · intro hr; cases hr
        · intro _; rfl
      have ht : mTy (bS B j) i = (mTyL.getD (bS B j) []).getD 0 (0, 0, 0) := by unfold mTy; rw [if_pos hr]
      rw [hk, ht]
      refine bT.ok hq (List.all_eq_true.mp h _ ?_)
      unfold bV
      rw [List.getD_eq_getElem?_getD]
      rcases hg : (bL B j)[i]? with _ | v
      · exact List.mem_cons_self
      · exact List.mem_cons_of_mem _ (List.mem_of_getElem? hg)
    · rw [if_neg hr] at h
      simp only [Bool.and_eq_true, decide_eq_true_eq] at h
      obtain ⟨⟨⟨h1, h2⟩, h3⟩, h4⟩ := h
      have ht : mTy (bS B j) i = (mTyL.getD (bS B j) []).getD i (0, 0, 0) := by unfold mTy; rw [if_neg hr]
      rw [ht]
      have hl := Nat.eq_of_beq_eq_true h1
      by_cases hi : i < (bL B j).length
      · have g := List.all_eq_true.mp h3 i (List.mem_range.mpr hi)
        have ev : bV B j i = (bL B j).getD i 0 := by
          unfold bV
          rw [List.getD_eq_getElem?_getD, List.getD_eq_getElem?_getD, List.getElem?_eq_getElem hi]; rfl
        rw [ev]
        exact bT.ok hq g
      · have ev : bV B j i = 0 := by
          unfold bV
          rw [List.getD_eq_getElem?_getD, List.getElem?_eq_none (by omega), h2]; rfl
        have ed : (mTyL.getD (bS B j) []).getD i (0, 0, 0) = (0, 0, 0) := by
          rw [List.getD_eq_getElem?_getD (l := mTyL.getD (bS B j) []), List.getElem?_eq_none (by omega)]; rfl
        have ek : mKd (bS B j) i = 0 := by
          unfold mKd
          revert h4
          rcases mTab (bS B j) with ⟨ci, ks⟩ | ⟨kd, k⟩
          · intro h4
            have h4 := Nat.eq_of_beq_eq_true h4
            show ks.getD i 0 = 0
            rw [List.getD_eq_getElem?_getD, List.getElem?_eq_none (by omega)]; rfl
          · intro h4; cases h4
        rw [ev, ed, ek]
        exact ⟨Int.le_refl _, Int.le_refl _⟩
theorem mWF.blk {w : mW} {B : mB} (hb : bBig B = true) (hw : mWF w) : mWF (wBlk w B) := hw.ext (wBlk.ext hb)
/-- the heap behind a constructor that ran at addresses from 0 on is memory with a block more -/
theorem mkBlk {w : mW} {μ : mM} {B : mB} {f f3 : Nat → sE} (hf : ∀ j, j < w.1 → f j = (mk w μ).2 j) (h3 : ∀ j, j < B.length → sEq (shE w.1 (f3 j)) (shE w.1 (mCell (mTab (bS B j)) (mLen (bS B j)) (bV B j)))) : ∀ j, j < (mk (wBlk w B) (mBlk w μ B)).1 → sEq (shH w.1 f f3 j) ((mk (wBlk w B) (mBlk w μ B)).2 j) := by
  intro a ha
  have rfl' : ∀ x : sE, sEq x x := fun x => by
    rcases x with ⟨kd, n, f⟩ | y
    · exact ⟨rfl, rfl, fun _ _ => rfl⟩
    · exact (rfl : y = y)
  by_cases h : a < w.1
  · have e : (mk (wBlk w B) (mBlk w μ B)).2 a = (mk w μ).2 a := by
      have em : mBlk w μ B a = μ a := by funext i; exact if_pos h
      simp only [mk, wBlk, em, if_pos h]
    rw [show shH w.1 f f3 a = f a from if_pos h, hf a h, e]
    exact rfl' _
  · obtain ⟨j, rfl⟩ : ∃ j, a = w.1 + j := ⟨a - w.1, by omega⟩
    have hj : j < B.length := by have e : (mk (wBlk w B) (mBlk w μ B)).1 = w.1 + B.length := rfl; omega
    have ej : w.1 + j - w.1 = j := by omega
    have e1 : shH w.1 f f3 (w.1 + j) = shE w.1 (f3 j) := by
      show (if w.1 + j < w.1 then _ else _) = _
      rw [if_neg h, ej]
    have e2 : (mk (wBlk w B) (mBlk w μ B)).2 (w.1 + j) = mCell (mTab (bS B j)) (mLen (bS B j)) (fun i => shz w.1 (mKd (bS B j) i) (bV B j i)) := by
      have em : mBlk w μ B (w.1 + j) = fun i => shz w.1 (mKd (bS B j) i) (bV B j i) := by funext i; exact mBlk.at
      simp only [mk, wBlk, em, if_neg h, ej]
    rw [e1, e2, ← mCell_sh]
    exact h3 j hj
