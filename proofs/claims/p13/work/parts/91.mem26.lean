/-! Contracts of methods that make cells: the world behind them is another. -/
def qVx (w : mW) (l : List Nat) (μ : mM) (P : mW → mM → Prop) : Option Value → sHp → Prop := fun r hp => ∃ w1 μ1, r = none ∧ hp = mk w1 μ1 ∧ mWF w1 ∧ mT w1 μ1 ∧ mX l w μ w1 μ1 ∧ P w1 μ1
def qIx (w : mW) (l : List Nat) (μ : mM) (P : Int → mW → mM → Prop) : Option Value → sHp → Prop := fun r hp => ∃ z w1 μ1, r = some (iv z) ∧ hp = mk w1 μ1 ∧ mWF w1 ∧ mT w1 μ1 ∧ mX l w μ w1 μ1 ∧ P z w1 μ1
def qRx (w : mW) (l : List Nat) (μ : mM) (P : Nat → mW → mM → Prop) : Option Value → sHp → Prop := fun r hp => ∃ b w1 μ1, r = some (.ref b) ∧ hp = mk w1 μ1 ∧ mWF w1 ∧ mT w1 μ1 ∧ mX l w μ w1 μ1 ∧ P b w1 μ1
section MV26
variable {g : sG} {M M' : sM} {R : Room} {Z : sZT} {pc d' C S C' S' : Nat} {lv : List (Nat × Value)} {st st0 av : List Value} {w w1 : mW} {μ μ1 : mM} {ce sl : Nat} {l : List Nat}
theorem mr_vretX {P : mW → mM → Prop} (hd : decode M.2.1 pc = .ok (.return_, 1)) (hret : M.2.2.2 = none) (hc : ce ≤ C) (hs : sl ≤ S) (hw : mWF w1) (hT : mT w1 μ1) (hX : mX l w μ w1 μ1) (hP : P w1 μ1) : sV g M R (sZ g C S (qVx w l μ P)) pc lv [] (mk w1 μ1) ce sl := sv_vret hd hret hc hs ⟨w1, μ1, rfl, rfl, hw, hT, hX, hP⟩
theorem mr_iretX {z : Int} {P : Int → mW → mM → Prop} (hd : decode M.2.1 pc = .ok (.ireturn, 1)) (hret : M.2.2.2 = some .int) (hc : ce ≤ C) (hs : sl ≤ S) (hw : mWF w1) (hT : mT w1 μ1) (hX : mX l w μ w1 μ1) (hP : P z w1 μ1) : sV g M R (sZ g C S (qIx w l μ P)) pc lv [iv z] (mk w1 μ1) ce sl := sv_iret hd hret hc hs ⟨z, w1, μ1, rfl, rfl, hw, hT, hX, hP⟩
theorem mr_aretX {b : Nat} {C0 : String} {P : Nat → mW → mM → Prop} (hd : decode M.2.1 pc = .ok (.areturn, 1)) (hret : M.2.2.2 = some (.object C0)) (hc : ce ≤ C) (hs : sl ≤ S) (hw : mWF w1) (hT : mT w1 μ1) (hX : mX l w μ w1 μ1) (hP : P b w1 μ1) : sV g M R (sZ g C S (qRx w l μ P)) pc lv [.ref b] (mk w1 μ1) ce sl := sv_aret hd hret hc hs ⟨b, w1, μ1, rfl, rfl, hw, hT, hX, hP⟩
theorem mr_aretAX {b : Nat} {t0 : FieldType} {P : Nat → mW → mM → Prop} (hd : decode M.2.1 pc = .ok (.areturn, 1)) (hret : M.2.2.2 = some (.array t0)) (hc : ce ≤ C) (hs : sl ≤ S) (hw : mWF w1) (hT : mT w1 μ1) (hX : mX l w μ w1 μ1) (hP : P b w1 μ1) : sV g M R (sZ g C S (qRx w l μ P)) pc lv [.ref b] (mk w1 μ1) ce sl := sv_aretA hd hret hc hs ⟨b, w1, μ1, rfl, rfl, hw, hT, hX, hP⟩
theorem mr_cVVX {index ci a s : Nat} {T : vw_C} {ty : Nat → FieldType} {ks : List Nat} {P : mW → mM → Prop} (hct : sC g M' d' C' S' (.ref a :: av) (mk w μ) (qVx w l μ P)) (ho : sOk g) (hd : decode M.2.1 pc = .ok (.invokevirtual index, 3)) (hm : sMt g M' av.length) (hi : Cond.instanceMethod M'.1 ∈ sg_ws g ∧ Cond.selects M'.1.cls M'.1 M'.1 ∈ sg_ws g) (hlk : Cond.methodLink M.1.cls index M'.1 ∈ sg_ws g) (hC : sCl g ci T ty) (hT1 : T.1 = M'.1.cls) (hA : mAt w a s) (hs : mTab s = .inl (ci, ks)) (hR : d' + 1 ≤ R.frames ∧ 60 * d' + M'.2.2.1 + 19 ≤ R.locals) (hce : ce + C' ≤ R.cells ∧ sl + S' ≤ R.slots) (hst : st0 = av.reverse ++ .ref a :: st) (hr8 : (st.map fun v => v.category).sum ≤ 8)
    (kt : ∀ w1 μ1, mWF w1 → mT w1 μ1 → mX l w μ w1 μ1 → P w1 μ1 → sV g M R Z (pc + 3) lv st (mk w1 μ1) (ce + C') (sl + S')) : sV g M R Z pc lv st0 (mk w μ) ce sl :=
  sv_callV hct ho hd hm hi hlk hC hT1 hA.2.1 (mk_obj hA hs) hR hce hst hr8 (by
    rintro r hp' ⟨w1, μ1, rfl, rfl, h0, h1, h2, h3⟩
    exact kt w1 μ1 h0 h1 h2 h3)
theorem mr_cVIX {index ci a s : Nat} {T : vw_C} {ty : Nat → FieldType} {ks : List Nat} {P : Int → mW → mM → Prop} (hct : sC g M' d' C' S' (.ref a :: av) (mk w μ) (qIx w l μ P)) (ho : sOk g) (hd : decode M.2.1 pc = .ok (.invokevirtual index, 3)) (hm : sMt g M' av.length) (hi : Cond.instanceMethod M'.1 ∈ sg_ws g ∧ Cond.selects M'.1.cls M'.1 M'.1 ∈ sg_ws g) (hlk : Cond.methodLink M.1.cls index M'.1 ∈ sg_ws g) (hC : sCl g ci T ty) (hT1 : T.1 = M'.1.cls) (hA : mAt w a s) (hs : mTab s = .inl (ci, ks)) (hR : d' + 1 ≤ R.frames ∧ 60 * d' + M'.2.2.1 + 19 ≤ R.locals) (hce : ce + C' ≤ R.cells ∧ sl + S' ≤ R.slots) (hst : st0 = av.reverse ++ .ref a :: st) (hr8 : (st.map fun v => v.category).sum ≤ 8)
    (kt : ∀ z w1 μ1, mWF w1 → mT w1 μ1 → mX l w μ w1 μ1 → P z w1 μ1 → sV g M R Z (pc + 3) lv (iv z :: st) (mk w1 μ1) (ce + C') (sl + S')) : sV g M R Z pc lv st0 (mk w μ) ce sl :=
  sv_callV hct ho hd hm hi hlk hC hT1 hA.2.1 (mk_obj hA hs) hR hce hst hr8 (by
    rintro r hp' ⟨z, w1, μ1, rfl, rfl, h0, h1, h2, h3⟩
    exact kt z w1 μ1 h0 h1 h2 h3)
theorem mr_cSRX {index : Nat} {P : Nat → mW → mM → Prop} (hct : sC g M' d' C' S' av (mk w μ) (qRx w l μ P)) (ho : sOk g) (hd : decode M.2.1 pc = .ok (.invokestatic index, 3)) (hm : sMt g M' av.length) (hi : Cond.static M'.1 ∈ sg_ws g) (hlk : Cond.methodLink M.1.cls index M'.1 ∈ sg_ws g) (hR : d' + 1 ≤ R.frames ∧ 60 * d' + M'.2.2.1 + 19 ≤ R.locals) (hce : ce + C' ≤ R.cells ∧ sl + S' ≤ R.slots) (hst : st0 = av.reverse ++ st) (hr8 : (st.map fun v => v.category).sum ≤ 8)
    (kt : ∀ b w1 μ1, mWF w1 → mT w1 μ1 → mX l w μ w1 μ1 → P b w1 μ1 → sV g M R Z (pc + 3) lv (.ref b :: st) (mk w1 μ1) (ce + C') (sl + S')) : sV g M R Z pc lv st0 (mk w μ) ce sl :=
  sv_callS hct ho hd hm hi hlk hR hce hst hr8 (by
    rintro r hp' ⟨b, w1, μ1, rfl, rfl, h0, h1, h2, h3⟩
    exact kt b w1 μ1 h0 h1 h2 h3)
/-- a contract of a method that makes nothing, as one that might -/
theorem qV.x {l : List Nat} {w : mW} {μ : mM} {P : mM → Prop} {r : Option Value} {hp : sHp} (hw : mWF w) (h : qV w l μ P r hp) : qVx w l μ (fun _ μ1 => P μ1) r hp := by
  obtain ⟨μ1, h1, h2, h3, h4, h5⟩ := h
  exact ⟨w, μ1, h1, h2, hw, h3, mX.fr mX.refl h4 (List.all_eq_true.mpr fun x hx => List.elem_iff.mpr hx), h5⟩
theorem qI.x {l : List Nat} {w : mW} {μ : mM} {P : Int → mM → Prop} {r : Option Value} {hp : sHp} (hw : mWF w) (h : qI w l μ P r hp) : qIx w l μ (fun z _ μ1 => P z μ1) r hp := by
  obtain ⟨z, μ1, h1, h2, h3, h4, h5⟩ := h
  exact ⟨z, w, μ1, h1, h2, hw, h3, mX.fr mX.refl h4 (List.all_eq_true.mpr fun x hx => List.elem_iff.mpr hx), h5⟩
end MV26
section MV26b
variable {g : sG} {M : sM} {R : Room} {Z : sZT} {pc : Nat} {lv : List (Nat × Value)} {st : List Value} {hp : sHp} {ce sl : Nat}
theorem sv_wid {ce' sl' : Nat} (h1 : ce ≤ ce') (h2 : sl ≤ sl') (k : sV g M R Z pc lv st hp ce' sl') : sV g M R Z pc lv st hp ce sl :=
  fun p e s m args below meth c H locs ls X r hl h => W.widen h1 h2 (k p e s m args below meth c H locs ls X r hl h)
theorem slLe {sl S K : Nat} {x : Int} (h : x ≤ (K : Int)) (q : Nat.ble (sl + K) S = true) : sl + x.toNat ≤ S := by
  have := Nat.le_of_ble_eq_true q
  omega
end MV26b
theorem lenP {w : mW} {μ : mM} {b : Nat} {x y n : Int} (q : x = (b : Int)) (hl : (w.2.2.1 b : Int) = n) {s : Int} (qs : s = y) (h : y ≤ n) : s ≤ (w.2.2.1 x.toNat : Int) := by
  have e : x.toNat = b := by omega
  rw [e]; omega
theorem lenE {w : mW} {b c : Nat} {x y n m : Int} (q : x = (b : Int)) (hl : (w.2.2.1 b : Int) = n) (q' : y = (c : Int)) (hl' : (w.2.2.1 c : Int) = m) (h : n = m) : w.2.2.1 x.toNat = w.2.2.1 y.toNat := by
  have e : x.toNat = b := by omega
  have e' : y.toNat = c := by omega
  rw [e, e']; omega
theorem lenQ {w : mW} {b : Nat} {x y : Int} (h : x ≤ (w.2.2.1 y.toNat : Int)) (q : y = (b : Int)) : x ≤ (w.2.2.1 b : Int) := by
  have e : y.toNat = b := by omega
  rw [e] at h; exact h
theorem lenQ2 {w : mW} {b c : Nat} {x y : Int} (h : w.2.2.1 x.toNat = w.2.2.1 y.toNat) (q : x = (b : Int)) (q' : y = (c : Int)) : w.2.2.1 b = w.2.2.1 c := by
  have e : x.toNat = b := by omega
  have e' : y.toNat = c := by omega
  rw [e, e'] at h; exact h
theorem radix.keepX {l : List Nat} {w w1 : mW} {μ μ1 : mM} {a v sa sv : Nat} {N : Int} (h : radix μ a v N) (hX : mX l w μ w1 μ1) (hA : mAt w a sa) (hV : mAt w v sv) (ha : ∀ i, l.elem (1000 * sa + (if mArr sa then 999 else i)) = false) (hv : ∀ i, l.elem (1000 * sv + (if mArr sv then 999 else i)) = false) : radix μ1 a v N := by
  have e1 : ∀ i, μ1 a i = μ a i := fun i => hX.f hA (ha i) rfl
  have e2 : ∀ i, μ1 v i = μ v i := fun i => hX.f hV (hv i) rfl
  unfold radix radx at h ⊢
  simp only [e1, e2]; exact h
theorem lenQ0 {w : mW} {b c : Nat} {x y : Int} (h : w.2.2.1 b = w.2.2.1 c) (q : x = (b : Int)) (q' : y = (c : Int)) : w.2.2.1 x.toNat = w.2.2.1 y.toNat := by
  have e : x.toNat = b := by omega
  have e' : y.toNat = c := by omega
  rw [e, e']; exact h
