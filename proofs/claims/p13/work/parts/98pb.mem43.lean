/-! One walk for all memories that agree on what is read (S): the answer is the same for all of them.
K: what every such memory keeps in cell 106; W: what may be written. -/
def agr (S : Nat → Nat → Prop) (μ ν : mM) : Prop := ∀ a i, S a i → ν a i = μ a i
theorem agr.refl {S : Nat → Nat → Prop} {μ : mM} : agr S μ μ := fun _ _ _ => rfl
theorem agr.mono {S S' : Nat → Nat → Prop} {μ ν : mM} (h : agr S μ ν) (hs : ∀ a i, S' a i → S a i) : agr S' μ ν := fun a i q => h a i (hs a i q)
/-- a slot more -/
def Sins (S : Nat → Nat → Prop) (a k : Nat) : Nat → Nat → Prop := fun b j => S b j ∨ (b = a ∧ j = k)
theorem agr.ups {S : Nat → Nat → Prop} {μ ν μ1 ν1 : mM} {a k : Nat} {z : Int} (h : agr S μ ν) (u : mU μ a k z μ1) (v : mU ν a k z ν1) : agr (Sins S a k) μ1 ν1 := fun b j q => by
  by_cases e : b = a ∧ j = k
  · obtain ⟨rfl, rfl⟩ := e
    rw [u.1, v.1]
  · have e' : b ≠ a ∨ j ≠ k := Classical.or_iff_not_imp_left.mpr fun h1 h2 => e ⟨Classical.not_not.mp h1, h2⟩
    rw [u.2 b j e', v.2 b j e']
    exact h b j (q.resolve_right e)
theorem agr.up {S : Nat → Nat → Prop} {μ ν μ1 ν1 : mM} {a k : Nat} {z : Int} (h : agr S μ ν) (u : mU μ a k z μ1) (v : mU ν a k z ν1) : agr S μ1 ν1 := (h.ups u v).mono fun _ _ q => Or.inl q
theorem agr.cls {S : Nat → Nat → Prop} {μ ν : mM} (h : agr S μ ν) : agr S μ = agr S ν := by
  funext x
  refine propext ⟨fun g a i q => (g a i q).trans (h a i q).symm, fun g a i q => (g a i q).trans (h a i q)⟩
theorem mU.eq {μ μ1 : mM} {a k : Nat} {z : Int} (h : mU μ a k z μ1) : μ1 = mUp μ a k z := by
  funext b j
  by_cases e : b = a ∧ j = k
  · obtain ⟨rfl, rfl⟩ := e
    rw [h.1, mUp_ok.1]
  · have e' : b ≠ a ∨ j ≠ k := Classical.or_iff_not_imp_left.mpr fun h1 h2 => e ⟨Classical.not_not.mp h1, h2⟩
    rw [h.2 b j e', mUp_ok.2 b j e']
theorem mUp.cell {μ : mM} {a k b : Nat} {z : Int} (h : b ≠ a) : mUp μ a k z b = μ b := by
  funext j
  exact mUp_ok.2 b j (Or.inl h)
def xqP (_w : mW) (μ : mM) (P : Int → Prop) : Option Value → mM → Prop := fun r m => ∃ z, r = some (iv z) ∧ m = μ ∧ P z
def xqI (w : mW) (lf : List Nat) (μ : mM) (P : Int → mM → Prop) : Option Value → mM → Prop := fun r m => ∃ z, r = some (iv z) ∧ mT w m ∧ mF lf w μ m ∧ P z m
def xqV (w : mW) (lf : List Nat) (μ : mM) (P : mM → Prop) : Option Value → mM → Prop := fun r m => r = none ∧ mT w m ∧ mF lf w μ m ∧ P m
/-- the machine at a place: all memories that agree with μ on S end with the same answer, and agree with the same memory on SE -/
def VS (l : Launch) (D : va_G) (c : Nat → ClassId) (H0 : Heap) (sa : Nat × Nat × (Nat → Int32)) (K : (Nat → Int) → (Nat → Int) → Prop) (W S SE : Nat → Nat → Prop) (M : sM) (R : Room) (Q : Option Value → mM → Prop) (pc : Nat) (lv : List (Nat × Value)) (st : List Value) (μ : mM) : Prop :=
  ∃ r μe, Q r μe ∧ ∀ w ν γ, mWF w → mT w ν → K γ (ν 106) → agr S μ ν → ∃ νe, (mT w νe ∧ K γ (νe 106) ∧ agr SE μe νe ∧ (∀ a i, ¬ W a i → νe a i = ν a i)) ∧ sV (gG l D c H0 sa) M R (sZ (gG l D c H0 sa) 0 0 (fun r' hp => r' = r ∧ hp = mk w νe)) pc lv st (mk w ν) 0 0
/-- a method -/
def VC (l : Launch) (D : va_G) (c : Nat → ClassId) (H0 : Heap) (sa : Nat × Nat × (Nat → Int32)) (K : (Nat → Int) → (Nat → Int) → Prop) (W S SE : Nat → Nat → Prop) (M : sM) (d : Nat) (av : List Value) (μ : mM) (Q : Option Value → mM → Prop) : Prop :=
  ∃ r μe, Q r μe ∧ ∀ w ν γ, mWF w → mT w ν → K γ (ν 106) → agr S μ ν → ∃ νe, (mT w νe ∧ K γ (νe 106) ∧ agr SE μe νe ∧ (∀ a i, ¬ W a i → νe a i = ν a i)) ∧ sC (gG l D c H0 sa) M d 0 0 av (mk w ν) (fun r' hp => r' = r ∧ hp = mk w νe)
section VXS
variable {l : Launch} {D : va_G} {c : Nat → ClassId} {H0 : Heap} {sa : Nat × Nat × (Nat → Int32)} {w : mW} {K : (Nat → Int) → (Nat → Int) → Prop} {W S S' SE : Nat → Nat → Prop} {Q : Option Value → mM → Prop} {M M' : sM} {R : Room} {d d' : Nat} {μ : mM} {pc pc' : Nat} {lv lv' : List (Nat × Value)} {st st' st0 av : List Value} {lf : List Nat}
theorem VC.of (hy : plainName M.1.cls = true) (hL : M.1.cls ≠ "DomainHouseLaw") (hn : (lg_sl av).length ≤ M.2.2.1) (h : VS l D c H0 sa K W S SE M (sRm d 0 0) Q 0 (lv_args 0 av) [] μ) : VC l D c H0 sa K W S SE M d av μ Q := by
  obtain ⟨r, μe, h1, h3⟩ := h
  refine ⟨r, μe, h1, fun w ν γ x a b d => ?_⟩
  obtain ⟨νe, g1, g2⟩ := h3 w ν γ x a b d
  exact ⟨νe, g1, sC.of hy hL hn g2⟩
theorem VS.lift (hr : ∀ (w : mW) (ν : mM) (Z : sZT), mWF w → mT w ν → (∃ γ, K γ (ν 106)) → agr S μ ν → sV (gG l D c H0 sa) M R Z pc' lv' st' (mk w ν) 0 0 → sV (gG l D c H0 sa) M R Z pc lv st (mk w ν) 0 0) (k : VS l D c H0 sa K W S SE M R Q pc' lv' st' μ) : VS l D c H0 sa K W S SE M R Q pc lv st μ := by
  obtain ⟨z, μe, h1, h3⟩ := k
  refine ⟨z, μe, h1, fun w ν γ x a b d => ?_⟩
  obtain ⟨νe, g1, g2⟩ := h3 w ν γ x a b d
  exact ⟨νe, g1, hr w ν _ x a ⟨γ, b⟩ d g2⟩
theorem VS.mono (hs : ∀ a i, S' a i → S a i) (k : VS l D c H0 sa K W S' SE M R Q pc lv st μ) : VS l D c H0 sa K W S SE M R Q pc lv st μ := by
  obtain ⟨z, μe, h1, h3⟩ := k
  exact ⟨z, μe, h1, fun w ν γ x a b d => h3 w ν γ x a b (d.mono hs)⟩
/-- a store: what agreed agrees, and the slot too -/
theorem VS.put {a k : Nat} {z : Int} (hA : a ≠ 106) (hW : W a k) (hr : ∀ (w : mW) (ν : mM) (Z : sZT), mWF w → mT w ν → (∀ ν1, mU ν a k z ν1 → mT w ν1 → sV (gG l D c H0 sa) M R Z pc' lv' st' (mk w ν1) 0 0) → sV (gG l D c H0 sa) M R Z pc lv st (mk w ν) 0 0) (hz : ∀ (w : mW) (ν : mM), mWF w → mT w ν → mT w (mUp ν a k z)) (kt : VS l D c H0 sa K W (Sins S a k) SE M R Q pc' lv' st' (mUp μ a k z)) : VS l D c H0 sa K W S SE M R Q pc lv st μ := by
  obtain ⟨z', μe, h1, h3⟩ := kt
  refine ⟨z', μe, h1, fun w ν γ x T y d => ?_⟩
  obtain ⟨νe, ⟨g1, g2, g3, g4⟩, g5⟩ := h3 w (mUp ν a k z) γ x (hz w ν x T) (by rw [mUp.cell (Ne.symm hA)]; exact y) (d.ups mUp_ok mUp_ok)
  refine ⟨νe, ⟨g1, g2, g3, fun b j q => (g4 b j q).trans (mUp_ok.2 b j ?_)⟩, hr w ν _ x T (fun ν1 u _ => by rw [u.eq]; exact g5)⟩
  by_cases e : b = a
  · exact Or.inr fun f => q (by rw [e, f]; exact hW)
  · exact Or.inl e
/-! returns -/
theorem xmr_iretP {z : Int} {P : Int → Prop} (hd : decode M.2.1 pc = .ok (.ireturn, 1)) (hret : M.2.2.2 = some .int) (_ : 0 ≤ 0) (_ : 0 ≤ 0) (hP : P z) (hs : ∀ a i, SE a i → S a i := by first | exact fun _ _ h => h | exact fun _ _ h => Or.inl h | exact fun _ _ h => Or.inl (Or.inl h)) : VS l D c H0 sa K W S SE M R (xqP w μ P) pc lv [iv z] μ :=
  ⟨some (iv z), μ, ⟨z, rfl, rfl, hP⟩, fun _ ν _ _ a b d => ⟨ν, ⟨a, b, d.mono hs, fun _ _ _ => rfl⟩, sv_iret hd hret (Nat.le_refl _) (Nat.le_refl _) ⟨rfl, rfl⟩⟩⟩
theorem xmr_zretP {z : Int} {P : Int → Prop} (hd : decode M.2.1 pc = .ok (.ireturn, 1)) (hret : M.2.2.2 = some .boolean) (hz : 0 ≤ z ∧ z ≤ 1) (_ : 0 ≤ 0) (_ : 0 ≤ 0) (hP : P z) (hs : ∀ a i, SE a i → S a i := by first | exact fun _ _ h => h | exact fun _ _ h => Or.inl h | exact fun _ _ h => Or.inl (Or.inl h)) : VS l D c H0 sa K W S SE M R (xqP w μ P) pc lv [iv z] μ :=
  ⟨some (iv z), μ, ⟨z, rfl, rfl, hP⟩, fun _ ν _ _ a b d => ⟨ν, ⟨a, b, d.mono hs, fun _ _ _ => rfl⟩, sv_zret hd hret (nar01i hz) (Nat.le_refl _) (Nat.le_refl _) ⟨rfl, rfl⟩⟩⟩
theorem xmr_iret {μ1 : mM} {z : Int} {P : Int → mM → Prop} (hd : decode M.2.1 pc = .ok (.ireturn, 1)) (hret : M.2.2.2 = some .int) (_ : 0 ≤ 0) (_ : 0 ≤ 0) (hT : mT w μ1) (hF : mF lf w μ μ1) (hP : P z μ1) (hs : ∀ a i, SE a i → S a i := by first | exact fun _ _ h => h | exact fun _ _ h => Or.inl h | exact fun _ _ h => Or.inl (Or.inl h)) : VS l D c H0 sa K W S SE M R (xqI w lf μ P) pc lv [iv z] μ1 :=
  ⟨some (iv z), μ1, ⟨z, rfl, hT, hF, hP⟩, fun _ ν _ _ a b d => ⟨ν, ⟨a, b, d.mono hs, fun _ _ _ => rfl⟩, sv_iret hd hret (Nat.le_refl _) (Nat.le_refl _) ⟨rfl, rfl⟩⟩⟩
theorem xmr_zret {μ1 : mM} {z : Int} {P : Int → mM → Prop} (hd : decode M.2.1 pc = .ok (.ireturn, 1)) (hret : M.2.2.2 = some .boolean) (hz : 0 ≤ z ∧ z ≤ 1) (_ : 0 ≤ 0) (_ : 0 ≤ 0) (hT : mT w μ1) (hF : mF lf w μ μ1) (hP : P z μ1) (hs : ∀ a i, SE a i → S a i := by first | exact fun _ _ h => h | exact fun _ _ h => Or.inl h | exact fun _ _ h => Or.inl (Or.inl h)) : VS l D c H0 sa K W S SE M R (xqI w lf μ P) pc lv [iv z] μ1 :=
  ⟨some (iv z), μ1, ⟨z, rfl, hT, hF, hP⟩, fun _ ν _ _ a b d => ⟨ν, ⟨a, b, d.mono hs, fun _ _ _ => rfl⟩, sv_zret hd hret (nar01i hz) (Nat.le_refl _) (Nat.le_refl _) ⟨rfl, rfl⟩⟩⟩
theorem xmr_vret {μ1 : mM} {P : mM → Prop} (hd : decode M.2.1 pc = .ok (.return_, 1)) (hret : M.2.2.2 = none) (_ : 0 ≤ 0) (_ : 0 ≤ 0) (hT : mT w μ1) (hF : mF lf w μ μ1) (hP : P μ1) (hs : ∀ a i, SE a i → S a i := by first | exact fun _ _ h => h | exact fun _ _ h => Or.inl h | exact fun _ _ h => Or.inl (Or.inl h)) : VS l D c H0 sa K W S SE M R (xqV w lf μ P) pc lv [] μ1 :=
  ⟨none, μ1, ⟨rfl, hT, hF, hP⟩, fun _ ν _ _ a b d => ⟨ν, ⟨a, b, d.mono hs, fun _ _ _ => rfl⟩, sv_vret hd hret (Nat.le_refl _) (Nat.le_refl _) ⟨rfl, rfl⟩⟩⟩
/-! values -/
theorem xmr_gen {e : Int} {P : Int → Prop} (h : P e) (k : ∀ z, e = z → P z → VS l D c H0 sa K W S SE M R Q pc lv (iv z :: st) μ) : VS l D c H0 sa K W S SE M R Q pc lv (iv e :: st) μ := k e rfl h
theorem xmr_genL {e : Int} (h : -9223372036854775808 ≤ e ∧ e ≤ 9223372036854775807) (k : ∀ z, e = z → (-9223372036854775808 ≤ z ∧ z ≤ 9223372036854775807) → VS l D c H0 sa K W S SE M R Q pc lv (jv z :: st) μ) : VS l D c H0 sa K W S SE M R Q pc lv (jv e :: st) μ := k e rfl h
theorem xmr_wrap {e : Int} (k : ∀ z, (-2147483648 ≤ z ∧ z ≤ 2147483647) → VS l D c H0 sa K W S SE M R Q pc lv (iv z :: st) μ) : VS l D c H0 sa K W S SE M R Q pc lv (iv e :: st) μ := by
  have h := k (Int32.ofInt e).toInt (r32i _)
  simp only [iv, Int32.ofInt_toInt] at h ⊢
  exact h
/-! calls -/
theorem VS.callV {S1 : Nat → Nat → Prop} {index ci : Nat} {T : vw_C} {ty : Nat → FieldType} {ks : List Nat} {Q' : Option Value → mM → Prop} (hct : VC l D c H0 sa K W S S1 M' d' (.ref 106 :: av) μ Q') (ho : sOk (gG l D c H0 sa)) (hd : decode M.2.1 pc = .ok (.invokevirtual index, 3)) (hm : sMt (gG l D c H0 sa) M' av.length) (hi : Cond.instanceMethod M'.1 ∈ sg_ws (gG l D c H0 sa) ∧ Cond.selects M'.1.cls M'.1 M'.1 ∈ sg_ws (gG l D c H0 sa)) (hlk : Cond.methodLink M.1.cls index M'.1 ∈ sg_ws (gG l D c H0 sa)) (hC : sCl (gG l D c H0 sa) ci T ty) (hT1 : T.1 = M'.1.cls) (hs : mTab 106 = .inl (ci, ks)) (hR : d' + 1 ≤ R.frames ∧ 60 * d' + M'.2.2.1 + 19 ≤ R.locals) (hst : st0 = av.reverse ++ .ref 106 :: st) (hr8 : (st.map fun v => v.category).sum ≤ 8)
    (kt : ∀ r μ1, Q' r μ1 → VS l D c H0 sa K W S1 SE M R Q (pc + 3) lv (r.toList ++ st) μ1) : VS l D c H0 sa K W S SE M R Q pc lv st0 μ := by
  obtain ⟨r, μ1, q1, h3⟩ := hct
  obtain ⟨r', μe, q2, k3⟩ := kt r μ1 q1
  refine ⟨r', μe, q2, fun w ν γ x T' y dd => ?_⟩
  obtain ⟨ν1, ⟨g1, g2, g3, g4⟩, g5⟩ := h3 w ν γ x T' y dd
  obtain ⟨νe, ⟨f1, f2, f3, f4⟩, f5⟩ := k3 w ν1 γ x g1 g2 g3
  refine ⟨νe, ⟨f1, f2, f3, fun a i q => (f4 a i q).trans (g4 a i q)⟩, ?_⟩
  exact sv_callV g5 ho hd hm hi hlk hC hT1 (A_106 x).2.1 (mk_obj (A_106 x) hs) hR ⟨Nat.zero_le _, Nat.zero_le _⟩ hst hr8 (by
    rintro r hp' ⟨rfl, rfl⟩
    exact f5)
theorem VS.callS {S1 : Nat → Nat → Prop} {index : Nat} {Q' : Option Value → mM → Prop} (hct : VC l D c H0 sa K W S S1 M' d' av μ Q') (ho : sOk (gG l D c H0 sa)) (hd : decode M.2.1 pc = .ok (.invokestatic index, 3)) (hm : sMt (gG l D c H0 sa) M' av.length) (hi : Cond.static M'.1 ∈ sg_ws (gG l D c H0 sa)) (hlk : Cond.methodLink M.1.cls index M'.1 ∈ sg_ws (gG l D c H0 sa)) (hR : d' + 1 ≤ R.frames ∧ 60 * d' + M'.2.2.1 + 19 ≤ R.locals) (hst : st0 = av.reverse ++ st) (hr8 : (st.map fun v => v.category).sum ≤ 8)
    (kt : ∀ r μ1, Q' r μ1 → VS l D c H0 sa K W S1 SE M R Q (pc + 3) lv (r.toList ++ st) μ1) : VS l D c H0 sa K W S SE M R Q pc lv st0 μ := by
  obtain ⟨r, μ1, q1, h3⟩ := hct
  obtain ⟨r', μe, q2, k3⟩ := kt r μ1 q1
  refine ⟨r', μe, q2, fun w ν γ x T' y dd => ?_⟩
  obtain ⟨ν1, ⟨g1, g2, g3, g4⟩, g5⟩ := h3 w ν γ x T' y dd
  obtain ⟨νe, ⟨f1, f2, f3, f4⟩, f5⟩ := k3 w ν1 γ x g1 g2 g3
  refine ⟨νe, ⟨f1, f2, f3, fun a i q => (f4 a i q).trans (g4 a i q)⟩, ?_⟩
  exact sv_callS g5 ho hd hm hi hlk hR ⟨Nat.zero_le _, Nat.zero_le _⟩ hst hr8 (by
    rintro r hp' ⟨rfl, rfl⟩
    exact f5)
theorem xmr_cVP {S1 : Nat → Nat → Prop} {index ci : Nat} {T : vw_C} {ty : Nat → FieldType} {ks : List Nat} {P : Int → Prop} (hct : VC l D c H0 sa K W S S1 M' d' (.ref 106 :: av) μ (xqP w μ P)) (ho : sOk (gG l D c H0 sa)) (hd : decode M.2.1 pc = .ok (.invokevirtual index, 3)) (hm : sMt (gG l D c H0 sa) M' av.length) (hi : Cond.instanceMethod M'.1 ∈ sg_ws (gG l D c H0 sa) ∧ Cond.selects M'.1.cls M'.1 M'.1 ∈ sg_ws (gG l D c H0 sa)) (hlk : Cond.methodLink M.1.cls index M'.1 ∈ sg_ws (gG l D c H0 sa)) (hC : sCl (gG l D c H0 sa) ci T ty) (hT1 : T.1 = M'.1.cls) (_ : mAt w 106 106) (hs : mTab 106 = .inl (ci, ks)) (hR : d' + 1 ≤ R.frames ∧ 60 * d' + M'.2.2.1 + 19 ≤ R.locals) (_ : 0 ≤ R.cells ∧ 0 ≤ R.slots) (hst : st0 = av.reverse ++ .ref 106 :: st) (hr8 : (st.map fun v => v.category).sum ≤ 8)
    (kt : ∀ z, P z → VS l D c H0 sa K W S1 SE M R Q (pc + 3) lv (iv z :: st) μ) : VS l D c H0 sa K W S SE M R Q pc lv st0 μ :=
  VS.callV hct ho hd hm hi hlk hC hT1 hs hR hst hr8 (by
    rintro r μ1 ⟨z, rfl, rfl, h3⟩
    exact kt z h3)
theorem xmr_cSP {S1 : Nat → Nat → Prop} {index : Nat} {P : Int → Prop} (hct : VC l D c H0 sa K W S S1 M' d' av μ (xqP w μ P)) (ho : sOk (gG l D c H0 sa)) (hd : decode M.2.1 pc = .ok (.invokestatic index, 3)) (hm : sMt (gG l D c H0 sa) M' av.length) (hi : Cond.static M'.1 ∈ sg_ws (gG l D c H0 sa)) (hlk : Cond.methodLink M.1.cls index M'.1 ∈ sg_ws (gG l D c H0 sa)) (hR : d' + 1 ≤ R.frames ∧ 60 * d' + M'.2.2.1 + 19 ≤ R.locals) (_ : 0 ≤ R.cells ∧ 0 ≤ R.slots) (hst : st0 = av.reverse ++ st) (hr8 : (st.map fun v => v.category).sum ≤ 8)
    (kt : ∀ z, P z → VS l D c H0 sa K W S1 SE M R Q (pc + 3) lv (iv z :: st) μ) : VS l D c H0 sa K W S SE M R Q pc lv st0 μ :=
  VS.callS hct ho hd hm hi hlk hR hst hr8 (by
    rintro r μ1 ⟨z, rfl, rfl, h3⟩
    exact kt z h3)
theorem xmr_cVI {S1 : Nat → Nat → Prop} {index ci : Nat} {T : vw_C} {ty : Nat → FieldType} {ks : List Nat} {P : Int → mM → Prop} (hct : VC l D c H0 sa K W S S1 M' d' (.ref 106 :: av) μ (xqI w lf μ P)) (ho : sOk (gG l D c H0 sa)) (hd : decode M.2.1 pc = .ok (.invokevirtual index, 3)) (hm : sMt (gG l D c H0 sa) M' av.length) (hi : Cond.instanceMethod M'.1 ∈ sg_ws (gG l D c H0 sa) ∧ Cond.selects M'.1.cls M'.1 M'.1 ∈ sg_ws (gG l D c H0 sa)) (hlk : Cond.methodLink M.1.cls index M'.1 ∈ sg_ws (gG l D c H0 sa)) (hC : sCl (gG l D c H0 sa) ci T ty) (hT1 : T.1 = M'.1.cls) (_ : mAt w 106 106) (hs : mTab 106 = .inl (ci, ks)) (hR : d' + 1 ≤ R.frames ∧ 60 * d' + M'.2.2.1 + 19 ≤ R.locals) (_ : 0 ≤ R.cells ∧ 0 ≤ R.slots) (hst : st0 = av.reverse ++ .ref 106 :: st) (hr8 : (st.map fun v => v.category).sum ≤ 8)
    (kt : ∀ z μ1, mT w μ1 → mF lf w μ μ1 → P z μ1 → VS l D c H0 sa K W S1 SE M R Q (pc + 3) lv (iv z :: st) μ1) : VS l D c H0 sa K W S SE M R Q pc lv st0 μ :=
  VS.callV hct ho hd hm hi hlk hC hT1 hs hR hst hr8 (by
    rintro r μ1 ⟨z, rfl, h1, h2, h3⟩
    exact kt z μ1 h1 h2 h3)
theorem xmr_cVV {S1 : Nat → Nat → Prop} {index ci : Nat} {T : vw_C} {ty : Nat → FieldType} {ks : List Nat} {P : mM → Prop} (hct : VC l D c H0 sa K W S S1 M' d' (.ref 106 :: av) μ (xqV w lf μ P)) (ho : sOk (gG l D c H0 sa)) (hd : decode M.2.1 pc = .ok (.invokevirtual index, 3)) (hm : sMt (gG l D c H0 sa) M' av.length) (hi : Cond.instanceMethod M'.1 ∈ sg_ws (gG l D c H0 sa) ∧ Cond.selects M'.1.cls M'.1 M'.1 ∈ sg_ws (gG l D c H0 sa)) (hlk : Cond.methodLink M.1.cls index M'.1 ∈ sg_ws (gG l D c H0 sa)) (hC : sCl (gG l D c H0 sa) ci T ty) (hT1 : T.1 = M'.1.cls) (_ : mAt w 106 106) (hs : mTab 106 = .inl (ci, ks)) (hR : d' + 1 ≤ R.frames ∧ 60 * d' + M'.2.2.1 + 19 ≤ R.locals) (_ : 0 ≤ R.cells ∧ 0 ≤ R.slots) (hst : st0 = av.reverse ++ .ref 106 :: st) (hr8 : (st.map fun v => v.category).sum ≤ 8)
    (kt : ∀ μ1, mT w μ1 → mF lf w μ μ1 → P μ1 → VS l D c H0 sa K W S1 SE M R Q (pc + 3) lv st μ1) : VS l D c H0 sa K W S SE M R Q pc lv st0 μ :=
  VS.callV hct ho hd hm hi hlk hC hT1 hs hR hst hr8 (by
    rintro r μ1 ⟨rfl, h1, h2, h3⟩
    exact kt μ1 h1 h2 h3)
end VXS
/-- a row of routes, its first n slots -/
def Srow (S : Nat → Nat → Prop) (r n : Int) : Nat → Nat → Prop := fun a i => S a i ∨ (a = 126 ∧ 40 * r ≤ (i : Int) ∧ (i : Int) < 40 * r + n)
theorem Srow.le {S : Nat → Nat → Prop} {r n m : Int} (h : m ≤ n) : ∀ a i, Srow S r m a i → Srow S r n a i := fun _ _ q => q.imp id fun q => ⟨q.1, q.2.1, by omega⟩
theorem Srow.ins {S : Nat → Nat → Prop} {r n : Int} (hr : 0 ≤ r) (hn : 0 ≤ n) : ∀ a i, Srow S r (n + 1) a i → Sins (Srow S r n) 126 ((40 * r + n).toNat) a i := fun a i q => by
  rcases q with q | ⟨q1, q2, q3⟩
  · exact Or.inl (Or.inl q)
  · by_cases h : (i : Int) < 40 * r + n
    · exact Or.inl (Or.inr ⟨q1, q2, h⟩)
    · exact Or.inr ⟨q1, by omega⟩
/-- the levels of `through` below n -/
def Slev (S : Nat → Nat → Prop) (n : Int) : Nat → Nat → Prop := fun a i => S a i ∨ ((a = 151 ∨ a = 152 ∨ a = 153) ∧ (i : Int) < n)
theorem Slev.le {S : Nat → Nat → Prop} {n m : Int} (h : m ≤ n) : ∀ a i, Slev S m a i → Slev S n a i := fun _ _ q => q.imp id fun q => ⟨q.1, by omega⟩
theorem Slev.ins {S : Nat → Nat → Prop} {n : Int} (hn : 0 ≤ n) : ∀ a i, Slev S (n + 1) a i → Sins (Sins (Sins (Slev S n) 151 n.toNat) 152 n.toNat) 153 n.toNat a i := fun a i q => by
  rcases q with q | ⟨q1, q2⟩
  · exact Or.inl (Or.inl (Or.inl (Or.inl q)))
  · by_cases h : (i : Int) < n
    · exact Or.inl (Or.inl (Or.inl (Or.inr ⟨q1, h⟩)))
    · have h : i = n.toNat := by omega
      rcases q1 with q1 | q1 | q1
      · exact Or.inl (Or.inl (Or.inr ⟨q1, h⟩))
      · exact Or.inl (Or.inr ⟨q1, h⟩)
      · exact Or.inr ⟨q1, h⟩
