/-! The class's reader: its small calls, and what they are to the machine. -/
theorem flK.mk1 {μ μ1 : mM} {k E F P : Int} (q8 : μ 23 8 = E) (q9 : μ1 23 9 = E) (qf : μ 23 18 = F) (hF : ¬ F = 0) (qf1 : μ1 23 18 = F) (qp : μ 23 19 = P) (qp1 : μ1 23 19 = P) : flK μ μ1 k := ⟨q9.trans q8.symm, Or.inl ⟨by rw [qf]; exact hF, qf1.trans qf.symm, qp1.trans qp.symm⟩⟩
theorem flK.mk2 {μ μ1 : mM} {k E F A T X L : Int} (q8 : μ 23 8 = E) (q9 : μ1 23 9 = E) (qf : μ 23 18 = F) (hF : F = 0) (qa : μ 23 9 = A) (qt : μ 24 A.toNat = T) (qf1 : μ1 23 18 = X) (hX : (T = -3 ∧ X = 1) ∨ (¬ T = -3 ∧ X = k)) (ql : μ 26 A.toNat = L) (qp1 : μ1 23 19 = L) : flK μ μ1 k := by
  have eT : cT μ = T := by unfold cT; rw [qa]; exact qt
  have eP : cP μ = L := by unfold cP; rw [qa]; exact ql
  refine ⟨q9.trans q8.symm, Or.inr ⟨qf.trans hF, ?_, qp1.trans eP.symm⟩⟩
  rw [qf1, eT]
  rcases hX with ⟨a, b⟩ | ⟨a, b⟩
  · rw [if_pos a]; exact b
  · rw [if_neg a]; exact b
theorem mvK.mk {μ μ1 : mM} {A A1 F P : Int} (qa : μ 23 9 = A) (qa1 : μ1 23 9 = A1) (h : A1 = A + 1) (qf : μ 23 18 = F) (qf1 : μ1 23 18 = F) (qp : μ 23 19 = P) (qp1 : μ1 23 19 = P) : mvK μ μ1 := ⟨by rw [qa1, qa]; exact h, qf1.trans qf.symm, qp1.trans qp.symm⟩
theorem smK.mk {μ μ1 : mM} {A F P : Int} (qa : μ 23 9 = A) (qa1 : μ1 23 9 = A) (qf : μ 23 18 = F) (qf1 : μ1 23 18 = F) (qp : μ 23 19 = P) (qp1 : μ1 23 19 = P) : smK μ μ1 := ⟨qa1.trans qa.symm, qf1.trans qf.symm, qp1.trans qp.symm⟩
theorem smK.refl {μ : mM} : smK μ μ := ⟨rfl, rfl, rfl⟩
theorem tbK.refl {μ : mM} : tbK μ μ := ⟨rfl, rfl, rfl, rfl⟩
theorem cT.is {μ : mM} {A T : Int} (qa : μ 23 9 = A) (qt : μ 24 A.toNat = T) : cT μ = T := by unfold cT; rw [qa]; exact qt
theorem cV.is {μ : mM} {A T : Int} (qa : μ 23 9 = A) (qt : μ 25 A.toNat = T) : cV μ = T := by unfold cV; rw [qa]; exact qt
def stK (μ μ1 : mM) : Prop := μ 23 9 < μ 23 8 → mvK μ μ1
def tkK (μ μ1 : mM) (k z : Int) : Prop := (z = 1 ∧ cT μ = k ∧ stK μ μ1) ∨ (z = 0 ∧ ¬ cT μ = k ∧ smK μ μ1)
def exK (μ μ1 : mM) (k : Int) : Prop := (cT μ = k ∧ stK μ μ1) ∨ (¬ cT μ = k ∧ flK μ μ1 2)
def nbK (μ μ1 : mM) (a b z : Int) : Prop := (¬ cT μ = -2 ∧ flK μ μ1 2) ∨ (cT μ = -2 ∧ (cV μ < a ∨ b < cV μ) ∧ flK μ μ1 3) ∨ (cT μ = -2 ∧ (a ≤ cV μ ∧ cV μ ≤ b) ∧ z = cV μ ∧ stK μ μ1)
def onK (μ μ1 : mM) (a b z : Int) : Prop := ((cT μ < a ∨ b < cT μ) ∧ flK μ μ1 2) ∨ ((a ≤ cT μ ∧ cT μ ≤ b) ∧ z = cT μ ∧ stK μ μ1)
def reK (μ μ1 : mM) : Prop := ((cT μ = 1060 ∨ cT μ = 1061 ∨ cT μ = 1062) ∧ stK μ μ1) ∨ (¬ (cT μ = 1060 ∨ cT μ = 1061 ∨ cT μ = 1062) ∧ flK μ μ1 2)
theorem exK.of {μ μ' μ1 : mM} {k z : Int} (h : tkK μ μ' k z) (hz : (z = 1 ∧ μ1 = μ') ∨ (z = 0 ∧ flK μ' μ1 2)) (tb : tbK μ μ') : exK μ μ1 k := by
  rcases h with ⟨a, b, d⟩ | ⟨a, b, d⟩
  · rcases hz with ⟨_, e⟩ | ⟨e, _⟩
    · subst e; exact Or.inl ⟨b, d⟩
    · omega
  · rcases hz with ⟨e, _⟩ | ⟨_, e⟩
    · omega
    · refine Or.inr ⟨b, ?_⟩
      obtain ⟨t1, t2, t3, t4⟩ := tb
      obtain ⟨s1, s2, s3⟩ := d
      have eT : cT μ' = cT μ := by unfold cT; rw [t1, s1]
      have eP : cP μ' = cP μ := by unfold cP; rw [t3, s1]
      unfold flK at e ⊢
      rw [t4, s2, s3, eT, eP] at e
      exact e
section Rd2
variable {wr : Int → Int → Int → Prop} {mk : Int → Int} {B : Int → Int} {c : Int}
/-- a token in hand that is not the end: there is one behind it -/
theorem CSt.lt {μ : mM} {e : Int → Cfg} (h : CSt wr mk B c μ e) (ht : ¬ cT μ = -1) : μ 23 9 < μ 23 8 := by
  rcases h with ⟨_, p, h2, _⟩ | ⟨_, h2, h3, _⟩
  · exact (h2.tok ht).1
  · refine absurd ?_ ht
    unfold cT
    rw [h2]; exact h3
theorem CSt.mvs {μ μ1 : mM} {e e' : Int → Cfg} (h : CSt wr mk B c μ e) (tb : tbK μ μ1) (s : stK μ μ1) (ht : ¬ cT μ = -1) (hs : ∀ p, ¬ (e p).1 = -1 ∧ (e p).2.1 = p) (st : ∀ p q, nxC mk c (e p) (cT μ) (cV μ) (cP μ) q = e' q) : CSt wr mk B c μ1 e' := h.move tb (s (h.lt ht)) ht hs st
theorem CSt.num {μ μ1 : mM} {s s' r m a b z : Int} (h : CSt wr mk B c μ (fun p => (s, p, r, m, a, b))) (hss : (s = 2 ∧ s' = 5) ∨ (s = 7 ∧ s' = 8)) (hend : μ 24 (μ 23 8).toNat = -1) (tb : tbK μ μ1) (n : nbK μ μ1 a b z) : CSt wr mk B c μ1 (fun p => (s', p, r, m, 0, 0)) := by
  have nn : ∀ p t v f q, nxC mk c (s, p, r, m, a, b) t v f q = nNum s' r m a b t v f q := by
    intro p t v f q
    rcases hss with ⟨e1, e2⟩ | ⟨e1, e2⟩ <;> subst e1 <;> subst e2 <;> rfl
  have ns : ∀ p : Int, ¬ ((s, p, r, m, a, b) : Cfg).1 = -1 ∧ ((s, p, r, m, a, b) : Cfg).2.1 = p := by
    intro p
    refine ⟨fun g => ?_, rfl⟩
    have g' : s = -1 := g
    omega
  rcases n with ⟨n1, n2⟩ | ⟨n1, n2, n3⟩ | ⟨n1, n2, n3, n4⟩
  · refine h.fail hend tb n2 (by decide) ns (fun p v q _ => ?_)
    rw [nn]
    unfold nNum
    rw [if_pos n1]
  · refine h.fail hend tb n3 (by decide) ns (fun p v q hv => ?_)
    rw [nn]
    have ev := hv (by rw [n1]; decide)
    unfold nNum
    rw [if_neg (by rw [n1]; decide), if_pos (by rw [ev]; exact n2)]
  · refine h.mvs tb n4 (by rw [n1]; decide) ns (fun p q => ?_)
    rw [nn]
    unfold nNum
    rw [if_neg (by rw [n1]; decide), if_neg (by omega)]
theorem CSt.one {μ μ1 : mM} {r m a b z : Int} (h : CSt wr mk B c μ (fun p => (3, p, r, m, a, b))) (ha : 0 ≤ a) (hend : μ 24 (μ 23 8).toNat = -1) (tb : tbK μ μ1) (n : onK μ μ1 a b z) : CSt wr mk B c μ1 (fun p => (5, p, r, m, 0, 0)) := by
  have nn : ∀ p t v f q, nxC mk c (3, p, r, m, a, b) t v f q = n3 r m a b t f q := fun _ _ _ _ _ => rfl
  have ns : ∀ p : Int, ¬ ((3, p, r, m, a, b) : Cfg).1 = -1 ∧ ((3, p, r, m, a, b) : Cfg).2.1 = p := fun p => ⟨fun g => absurd (show (3 : Int) = -1 from g) (by decide), rfl⟩
  rcases n with ⟨n1, n2⟩ | ⟨n1, n2, n3'⟩
  · refine h.fail hend tb n2 (by decide) ns (fun p v q _ => ?_)
    rw [nn]
    unfold n3
    rw [if_pos n1]
  · refine h.mvs tb n3' (by omega) ns (fun p q => ?_)
    rw [nn]
    unfold n3
    rw [if_neg (by omega)]
theorem CSt.rel {μ μ1 : mM} {r m a b : Int} (h : CSt wr mk B c μ (fun p => (4, p, r, m, a, b))) (hend : μ 24 (μ 23 8).toNat = -1) (tb : tbK μ μ1) (n : reK μ μ1) : CSt wr mk B c μ1 (fun p => (2, p, r, m, 0, a)) := by
  have nn : ∀ p t v f q, nxC mk c (4, p, r, m, a, b) t v f q = n4 r m a t f q := fun _ _ _ _ _ => rfl
  have ns : ∀ p : Int, ¬ ((4, p, r, m, a, b) : Cfg).1 = -1 ∧ ((4, p, r, m, a, b) : Cfg).2.1 = p := fun p => ⟨fun g => absurd (show (4 : Int) = -1 from g) (by decide), rfl⟩
  rcases n with ⟨n1, n2⟩ | ⟨n1, n2⟩
  · refine h.mvs tb n2 (by omega) ns (fun p q => ?_)
    rw [nn]
    unfold n4
    rw [if_pos n1]
  · refine h.fail hend tb n2 (by decide) ns (fun p v q _ => ?_)
    rw [nn]
    unfold n4
    rw [if_neg n1]
/-- a sign or word that must be there: kk its token -/
theorem CSt.exp {μ μ1 : mM} {e e' : Int → Cfg} {kk : Int} (h : CSt wr mk B c μ e) (hend : μ 24 (μ 23 8).toNat = -1) (tb : tbK μ μ1) (n : exK μ μ1 kk) (h0 : ¬ kk = -1) (hs : ∀ p, ¬ (e p).1 = -1 ∧ (e p).2.1 = p) (yes : ∀ p v f q, nxC mk c (e p) kk v f q = e' q) (no : ∀ p t v f q, ¬ t = kk → t = cT μ → nxC mk c (e p) t v f q = faC 2 t f) : CSt wr mk B c μ1 e' := by
  rcases n with ⟨n1, n2⟩ | ⟨n1, n2⟩
  · exact h.mvs tb n2 (by rw [n1]; exact h0) hs (fun p q => by rw [n1]; exact yes p _ _ q)
  · exact h.fail hend tb n2 (by decide) hs (fun p v q _ => no p _ _ _ q n1 rfl)
end Rd2
