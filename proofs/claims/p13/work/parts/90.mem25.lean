/-! Memory that grows: new cells behind the old ones. -/
def wE (w w1 : mW) : Prop := w.1 ≤ w1.1 ∧ (∀ a, a < w.1 → w1.2.1 a = w.2.1 a ∧ w1.2.2.1 a = w.2.2.1 a) ∧ ∀ a, w.1 ≤ a → a < w1.1 → 100 < w1.2.1 a
theorem wE.refl {w : mW} : wE w w := ⟨Nat.le_refl _, fun _ _ => ⟨rfl, rfl⟩, fun _ h1 h2 => absurd h2 (Nat.not_lt.mpr h1)⟩
theorem wE.trans {w w1 w2 : mW} (h : wE w w1) (g : wE w1 w2) : wE w w2 := by
  refine ⟨Nat.le_trans h.1 g.1, fun a ha => ⟨(g.2.1 a (Nat.lt_of_lt_of_le ha h.1)).1.trans (h.2.1 a ha).1, (g.2.1 a (Nat.lt_of_lt_of_le ha h.1)).2.trans (h.2.1 a ha).2⟩, fun a h1 h2 => ?_⟩
  by_cases q : a < w1.1
  · rw [(g.2.1 a q).1]; exact h.2.2 a h1 q
  · exact g.2.2 a (Nat.not_lt.mp q) h2
theorem mAt.ext {w w1 : mW} {a s : Nat} (h : wE w w1) (hA : mAt w a s) : mAt w1 a s := by
  obtain ⟨h1, h2, h3, h4⟩ := hA
  obtain ⟨e1, e2⟩ := h.2.1 a h2
  exact ⟨e1.trans h1, Nat.lt_of_lt_of_le h2 h.1, by rw [e2]; exact h3, fun v => by rw [e2]; exact h4 v⟩
theorem mAt.back {w w1 : mW} {a s : Nat} (h : wE w w1) (ha : a < w.1) (hA : mAt w1 a s) : mAt w a s := by
  obtain ⟨h1, h2, h3, h4⟩ := hA
  obtain ⟨e1, e2⟩ := h.2.1 a ha
  exact ⟨e1 ▸ h1, ha, by rw [← e2]; exact h3, fun v => by rw [← e2]; exact h4 v⟩
theorem mWF.ext {w w1 : mW} (h : wE w w1) (hw : mWF w) : mWF w1 := by
  have lt : ∀ a, a < 192 → a < w.1 := fun a ha => Nat.lt_of_lt_of_le ha hw.2.1
  refine ⟨fun a ha => (h.2.1 a (lt a ha)).1.trans (hw.1 a ha), Nat.le_trans hw.2.1 h.1, fun a ha v => (h.2.1 a (lt a ha)).2.trans (hw.2.2.1 a ha v), fun a ha => by rw [(h.2.1 a (lt a ha)).2]; exact hw.2.2.2.1 a ha, fun a h1 h2 => ?_⟩
  by_cases q : a < w.1
  · rw [(h.2.1 a q).1]; exact hw.2.2.2.2 a h1 q
  · exact h.2.2 a (Nat.not_lt.mp q) h2
theorem tyP.ext {w w1 : mW} {a i : Nat} {d : Nat × Int × Int} {z : Int} (h : wE w w1) (hc : w1.2.2.2 = w.2.2.2) (t : tyP w a i d z) : tyP w1 a i d z := by
  obtain ⟨k, x, y⟩ := d
  have e : ∀ j, w1.2.2.2 j = w.2.2.2 j := fun j => by rw [hc]
  match k, t with
  | 0, t => exact t
  | 1, t => exact ⟨t.1, t.2.ext h⟩
  | 2, t => exact ⟨t.1, t.2.ext h⟩
  | 3, t => exact t.imp id (fun q => ⟨q.1, q.2.ext h⟩)
  | 4, t => exact ⟨t.1, t.2.ext h⟩
  | 5, t => exact t
  | 6, t => exact t
  | 7, t => exact t
  | 8, t => exact ⟨fun q => by have g := t.1 (by rw [← e]; exact q); exact ⟨g.1, g.2.ext h⟩, fun q => t.2 (by rw [← e]; exact q)⟩
  | 9, t => exact ⟨by rw [e]; exact t.1, t.2⟩
  | 10, t => exact ⟨t.1, t.2.1, by rw [e]; exact t.2.2⟩
  | 11, t => exact ⟨t.1, t.2.1, by rw [e]; exact t.2.2⟩
  | 12, t => exact ⟨t.1, t.2.1, by rw [e]; exact t.2.2⟩
  | 13, t => exact ⟨t.1, t.2.1, by rw [e]; exact t.2.2⟩
  | _ + 14, t => exact ⟨t.1, by rw [e]; exact t.2⟩
/-- frames over growth -/
def mX (l : List Nat) (w : mW) (μ : mM) (w1 : mW) (μ1 : mM) : Prop := wE w w1 ∧ ∀ a i, a < w.1 → l.elem (mRg w a i) = false → μ1 a i = μ a i
theorem mX.refl {l : List Nat} {w : mW} {μ : mM} : mX l w μ w μ := ⟨wE.refl, fun _ _ _ _ => rfl⟩
theorem mX.fr {l l' : List Nat} {w w1 : mW} {μ μ1 μ2 : mM} (h : mX l w μ w1 μ1) (h' : mF l' w1 μ1 μ2) (hs : (l'.all fun x => l.elem x) = true) : mX l w μ w1 μ2 := by
  refine ⟨h.1, fun a i ha hl => ?_⟩
  rw [← h.2 a i ha hl]
  refine h' a i ?_
  have er : mRg w1 a i = mRg w a i := by simp only [mRg, (h.1.2.1 a ha).1]
  rw [er]
  cases hq : l'.elem (mRg w a i) with
  | false => rfl
  | true =>
    have := (List.all_eq_true.mp hs) _ (List.elem_iff.mp hq)
    rw [hl] at this; cases this
theorem mX.trans {l l' : List Nat} {w w1 w2 : mW} {μ μ1 μ2 : mM} (h : mX l w μ w1 μ1) (h' : mX l' w1 μ1 w2 μ2) (hs : (l'.all fun x => l.elem x) = true) : mX l w μ w2 μ2 := by
  refine ⟨h.1.trans h'.1, fun a i ha hl => ?_⟩
  rw [← h.2 a i ha hl]
  refine h'.2 a i (Nat.lt_of_lt_of_le ha h.1.1) ?_
  have er : mRg w1 a i = mRg w a i := by simp only [mRg, (h.1.2.1 a ha).1]
  rw [er]
  cases hq : l'.elem (mRg w a i) with
  | false => rfl
  | true =>
    have := (List.all_eq_true.mp hs) _ (List.elem_iff.mp hq)
    rw [hl] at this; cases this
theorem mX.f {l : List Nat} {w w1 : mW} {μ μ1 : mM} {a s k : Nat} {z : Int} (h : mX l w μ w1 μ1) (hA : mAt w a s) (hl : l.elem (1000 * s + (if mArr s then 999 else k)) = false) (q : μ a k = z) : μ1 a k = z := by
  rw [← q]; exact h.2 a k hA.2.1 (by simp only [mRg, hA.1]; exact hl)
theorem mX.len {l : List Nat} {w w1 : mW} {μ μ1 : mM} {a s : Nat} {n : Int} (h : mX l w μ w1 μ1) (hA : mAt w a s) (q : (w.2.2.1 a : Int) = n) : (w1.2.2.1 a : Int) = n := by
  rw [(h.1.2.1 a hA.2.1).2]; exact q
/-- one cell more, of shape s, n long, filled by v -/
def wNew (w : mW) (s n : Nat) : mW := (w.1 + 1, fun a => if a = w.1 then s else w.2.1 a, fun a => if a = w.1 then n else w.2.2.1 a, w.2.2.2)
def mNew (μ : mM) (a : Nat) (v : Nat → Int) : mM := fun b j => if b = a then v j else μ b j
theorem wNew.ext {w : mW} {s n : Nat} (hs : 100 < s) : wE w (wNew w s n) := ⟨Nat.le_succ _, fun a ha => ⟨if_neg (Nat.ne_of_lt ha), if_neg (Nat.ne_of_lt ha)⟩, fun a h1 h2 => by
  have e : a = w.1 := by have : a < w.1 + 1 := h2; omega
  subst e
  rw [show (wNew w s n).2.1 w.1 = s from if_pos rfl]; exact hs⟩
theorem mVar_gt {s : Nat} (h : mVar s = true) : 100 < s := by
  unfold mVar at h
  have h := List.elem_iff.mp h
  simp at h
  omega
theorem wNew.at {w : mW} {s n : Nat} (h : n ≤ mLen s) (hv : mVar s = false → n = mLen s) : mAt (wNew w s n) w.1 s := ⟨if_pos rfl, Nat.lt_succ_self _, by rw [show (wNew w s n).2.2.1 w.1 = n from if_pos rfl]; exact h, fun q => by rw [show (wNew w s n).2.2.1 w.1 = n from if_pos rfl]; exact hv q⟩
theorem mNew.x {l : List Nat} {w : mW} {μ : mM} {s n : Nat} {v : Nat → Int} (hs : 100 < s) : mX l w μ (wNew w s n) (mNew μ w.1 v) := ⟨wNew.ext hs, fun a _ ha _ => if_neg (Nat.ne_of_lt ha)⟩
theorem mT.new {w : mW} {μ : mM} {s n : Nat} {v : Nat → Int} (hs : 100 < s) (hT : mT w μ) (hv : ∀ i, tyP (wNew w s n) w.1 i (mTy s i) (v i)) : mT (wNew w s n) (mNew μ w.1 v) := by
  intro a t hA i
  by_cases h : a = w.1
  · subst h
    have e : t = s := by have h1 := hA.1; rw [show (wNew w s n).2.1 w.1 = s from if_pos rfl] at h1; exact h1.symm
    subst e
    rw [show mNew μ w.1 v w.1 i = v i from if_pos rfl]; exact hv i
  · have ha : a < w.1 := by have := hA.2.1; have e : (wNew w s n).1 = w.1 + 1 := rfl; omega
    rw [show mNew μ w.1 v a i = μ a i from if_neg h]
    exact (hT a t (hA.back (wNew.ext hs) ha) i).ext (wNew.ext hs) rfl
theorem mkNew {w : mW} {μ : mM} {s n : Nat} {v : Nat → Int} : ∀ j, j < w.1 + 1 → sUp (mk w μ).2 w.1 (mCell (mTab s) n v) j = (mk (wNew w s n) (mNew μ w.1 v)).2 j := by
  intro j hj
  by_cases h : j = w.1
  · subst h
    rw [sUp_at]
    have e : mNew μ w.1 v w.1 = v := by funext i; exact if_pos rfl
    simp only [mk, wNew, e, if_true]
  · rw [sUp_ne _ _ h]
    have e : mNew μ w.1 v j = μ j := by funext i; simp only [mNew, if_neg h]
    simp only [mk, wNew, e, if_neg h]
section MV25
variable {g : sG} {M : sM} {R : Room} {Z : sZT} {pc : Nat} {lv : List (Nat × Value)} {st : List Value} {w : mW} {μ : mM} {ce sl : Nat}
/-- a new row of ints of a shape whose length may change -/
theorem mr_newI {s : Nat} {x : Int} {cA : ClassId} (hd : decode M.2.1 pc = .ok (.newarray .int, 2)) (hw : Cond.arrayClass .int ∈ sg_ws g) (ht : g.2.2.1[0]? = some (cA, .int)) (hra : ∀ U : State, va_RA U cA .int → U.vm.findClass ("[" ++ FieldType.int.toString) = some cA) (hs : mTab s = .inr (0, 0)) (hx : 0 ≤ x ∧ x ≤ (mLen s : Int)) (hL : mLen s ≤ 100000) (hvar : mVar s = true) (hT : mT w μ) (hty : ∀ i, tyP (wNew w s x.toNat) w.1 i (mTy s i) 0) (hc1 : ce + 1 ≤ R.cells) (hs1 : sl + x.toNat ≤ R.slots)
    (kk : ∀ w1 μ1, mX [] w μ w1 μ1 → mT w1 μ1 → mAt w1 w.1 s → w1.1 = w.1 + 1 → (w1.2.2.1 w.1 : Int) = x → w1.2.2.2 = w.2.2.2 → (∀ i, μ1 w.1 i = 0) → sV g M R Z (pc + 2) lv (.ref w.1 :: st) (mk w1 μ1) (ce + 1) (sl + x.toNat)) : sV g M R Z pc lv (iv x :: st) (mk w μ) ce sl := by
  have hn : (Int32.ofInt x).toNatClampNeg = x.toNat := iv_nat (n := mLen s + 1) (by omega) (by omega)
  refine sv_newarray (kd := 0) (ty := .int) (v := iv 0) (N := x.toNat) hd rfl hw ht hra ?_ hn ?_ (fun _ => rfl) hc1 hs1 ?_
  · intro q
    have : Int32.ofInt x < Int32.ofInt 0 := q
    rw [iv_lt (by omega) (by omega)] at this; omega
  · show x.toNat * 4 ≤ 536870912
    omega
  · refine sv_heap (hp' := mk (wNew w s x.toNat) (mNew μ w.1 (fun _ => 0))) rfl (fun j hj => ?_) (kk _ _ (mNew.x (mVar_gt hvar)) (mT.new (mVar_gt hvar) hT hty) (wNew.at (by omega) (fun q => by rw [hvar] at q; cases q)) rfl ?_ rfl (fun i => if_pos rfl))
    · rw [← mkNew (μ := μ) (s := s) j hj, hs]; rfl
    · rw [show (wNew w s x.toNat).2.2.1 w.1 = x.toNat from if_pos rfl]; omega
/-- a new row of bytes of a shape whose length may change -/
theorem mr_newB {s : Nat} {x : Int} {cA : ClassId} (hd : decode M.2.1 pc = .ok (.newarray .byte, 2)) (hw : Cond.arrayClass .byte ∈ sg_ws g) (ht : g.2.2.1[2]? = some (cA, .byte)) (hra : ∀ U : State, va_RA U cA .byte → U.vm.findClass ("[" ++ FieldType.byte.toString) = some cA) (hs : mTab s = .inr (2, 0)) (hx : 0 ≤ x ∧ x ≤ (mLen s : Int)) (hL : mLen s ≤ 100000) (hvar : mVar s = true) (hT : mT w μ) (hty : ∀ i, tyP (wNew w s x.toNat) w.1 i (mTy s i) 0) (hc1 : ce + 1 ≤ R.cells) (hs1 : sl + x.toNat ≤ R.slots)
    (kk : ∀ w1 μ1, mX [] w μ w1 μ1 → mT w1 μ1 → mAt w1 w.1 s → w1.1 = w.1 + 1 → (w1.2.2.1 w.1 : Int) = x → w1.2.2.2 = w.2.2.2 → (∀ i, μ1 w.1 i = 0) → sV g M R Z (pc + 2) lv (.ref w.1 :: st) (mk w1 μ1) (ce + 1) (sl + x.toNat)) : sV g M R Z pc lv (iv x :: st) (mk w μ) ce sl := by
  have hn : (Int32.ofInt x).toNatClampNeg = x.toNat := iv_nat (n := mLen s + 1) (by omega) (by omega)
  refine sv_newarray (kd := 2) (ty := .byte) (v := iv 0) (N := x.toNat) hd rfl hw ht hra ?_ hn ?_ (fun _ => rfl) hc1 hs1 ?_
  · intro q
    have : Int32.ofInt x < Int32.ofInt 0 := q
    rw [iv_lt (by omega) (by omega)] at this; omega
  · show x.toNat * 1 ≤ 536870912
    omega
  · refine sv_heap (hp' := mk (wNew w s x.toNat) (mNew μ w.1 (fun _ => 0))) rfl (fun j hj => ?_) (kk _ _ (mNew.x (mVar_gt hvar)) (mT.new (mVar_gt hvar) hT hty) (wNew.at (by omega) (fun q => by rw [hvar] at q; cases q)) rfl ?_ rfl (fun i => if_pos rfl))
    · rw [← mkNew (μ := μ) (s := s) j hj, hs]; rfl
    · rw [show (wNew w s x.toNat).2.2.1 w.1 = x.toNat from if_pos rfl]; omega
end MV25
