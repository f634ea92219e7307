/-! The words; where the class's reader stands, by memory alone. -/
def WL : List (List Int) := [[105, 102], [97, 110, 100], [116, 104, 101, 110], [110, 111, 116], [105, 110], [116, 111], [119, 97, 121], [97, 110, 121], [109, 97, 114, 107], [102, 114, 111, 109], [116, 105, 101], [108, 101, 110, 103, 116, 104], [119, 105, 115, 104], [99, 111, 115, 116], [111, 114, 105, 103, 105, 110], [114, 105, 103, 104, 116], [99, 117, 115, 116, 111, 109, 101, 114], [112, 114, 111, 118, 105, 100, 101, 114], [101, 113, 117, 97, 108], [107, 105, 110], [118, 97, 108, 105, 100], [117, 110, 107, 110, 111, 119, 110], [98, 97, 100], [108, 101, 116], [98, 97, 114], [97, 100, 100], [100, 114, 111, 112], [109, 111, 114, 101], [99, 97, 108, 108]]
def lenW (w : Nat) : Nat := (WL.getD w []).length
def chW (w j : Nat) : Int := (WL.getD w []).getD j 0
def wrM (B : Int → Int) (f n : Int) (w : Nat) : Prop := ((lenW w : Nat) : Int) = n ∧ ∀ j : Nat, j < lenW w → B (f + (j : Int)) = chW w j
def wrW (B : Int → Int) (f n t : Int) : Prop := (∃ w : Nat, w < 29 ∧ t = (w : Int) ∧ wrM B f n w) ∨ (t = -3 ∧ ∀ w : Nat, w < 29 → ¬ wrM B f n w)
theorem W_fin : ∀ w w' : Fin 29, w = w' ∨ lenW w.val ≠ lenW w'.val ∨ ∃ j : Fin 8, j.val < lenW w.val ∧ chW w.val j.val ≠ chW w'.val j.val := by decide +kernel
theorem wrM.uniq {B : Int → Int} {f n : Int} {w w' : Nat} (hw : w < 29) (hw' : w' < 29) (h : wrM B f n w) (g : wrM B f n w') : w = w' := by
  rcases W_fin ⟨w, hw⟩ ⟨w', hw'⟩ with e | e | ⟨j, e1, e2⟩
  · exact congrArg Fin.val e
  · refine absurd ?_ e
    have h1 := h.1
    have g1 := g.1
    show lenW w = lenW w'
    omega
  · refine absurd ?_ e2
    have e1' : j.val < lenW w := e1
    have h1 := h.1
    have g1 := g.1
    exact ((h.2 j.val e1').symm.trans (g.2 j.val (by omega)) : chW w j.val = chW w' j.val)
theorem wrW.uniq {B : Int → Int} (f n x y : Int) (h : wrW B f n x) (g : wrW B f n y) : x = y := by
  rcases h with ⟨w, h1, h2, h3⟩ | ⟨h1, h2⟩ <;> rcases g with ⟨w', g1, g2, g3⟩ | ⟨g1, g2⟩
  · have e := h3.uniq h1 g1 g3
    rw [h2, g2, e]
  · exact absurd h3 (g2 w h1)
  · exact absurd g3 (h2 w' g1)
  · rw [h1, g1]
/-- where the class's reader stands -/
def CSc (μ : mM) (e : Int → Cfg) : Prop := CSt (wrW (bC 1 μ)) mskF (bC 1 μ) (μ 23 14) μ e
def tbC (μ μ1 : mM) : Prop := tbK μ μ1 ∧ μ1 1 = μ 1 ∧ μ1 0 10 = μ 0 10 ∧ μ1 23 14 = μ 23 14
theorem CSc.in {μ μ1 : mM} {e : Int → Cfg} (tb : tbC μ μ1) (h : CSt (wrW (bC 1 μ)) mskF (bC 1 μ) (μ 23 14) μ1 e) : CSc μ1 e := by
  obtain ⟨_, t1, t2, t3⟩ := tb
  unfold CSc
  rw [bC.of t1 t2, t3]; exact h
theorem CSc.same {μ μ1 : mM} {e : Int → Cfg} (h : CSc μ e) (tb : tbC μ μ1) (s : smK μ μ1) : CSc μ1 e := CSc.in tb (CSt.same h tb.1 s)
theorem CSc.mvs {μ μ1 : mM} {e e' : Int → Cfg} (h : CSc μ e) (tb : tbC μ μ1) (s : stK μ μ1) (ht : ¬ cT μ = -1) (hs : ∀ p, ¬ (e p).1 = -1 ∧ (e p).2.1 = p) (st : ∀ p q, nxC mskF (μ 23 14) (e p) (cT μ) (cV μ) (cP μ) q = e' q) : CSc μ1 e' := CSc.in tb (CSt.mvs h tb.1 s ht hs st)
theorem CSc.stay {μ μ1 : mM} {e e' : Int → Cfg} (h : CSc μ e) (tb : tbC μ μ1) (s : smK μ μ1) (hs : ∀ p, ¬ (e p).1 = -1 ∧ (e p).2.1 = p) (st : ∀ p v q, nxC mskF (μ 23 14) (e p) (cT μ) v (cP μ) q = e' p) : CSc μ1 e' := CSc.in tb (CSt.stay h tb.1 s hs st)
theorem CSc.fail {μ μ1 : mM} {e e' : Int → Cfg} {k : Int} (h : CSc μ e) (hend : μ 24 (μ 23 8).toNat = -1) (tb : tbC μ μ1) (s : flK μ μ1 k) (hk : ¬ k = 0) (hs : ∀ p, ¬ (e p).1 = -1 ∧ (e p).2.1 = p) (st : ∀ p v q, (¬ cT μ = -1 → v = cV μ) → nxC mskF (μ 23 14) (e p) (cT μ) v (cP μ) q = faC k (cT μ) (cP μ)) : CSc μ1 e' := CSc.in tb (CSt.fail h hend tb.1 s hk hs st)
theorem CSc.num {μ μ1 : mM} {s s' r m a b z : Int} (h : CSc μ (fun p => (s, p, r, m, a, b))) (hss : (s = 2 ∧ s' = 5) ∨ (s = 7 ∧ s' = 8)) (hend : μ 24 (μ 23 8).toNat = -1) (tb : tbC μ μ1) (n : nbK μ μ1 a b z) : CSc μ1 (fun p => (s', p, r, m, 0, 0)) := CSc.in tb (CSt.num h hss hend tb.1 n)
theorem CSc.one {μ μ1 : mM} {r m a b z : Int} (h : CSc μ (fun p => (3, p, r, m, a, b))) (ha : 0 ≤ a) (hend : μ 24 (μ 23 8).toNat = -1) (tb : tbC μ μ1) (n : onK μ μ1 a b z) : CSc μ1 (fun p => (5, p, r, m, 0, 0)) := CSc.in tb (CSt.one h ha hend tb.1 n)
theorem CSc.rel {μ μ1 : mM} {r m a b : Int} (h : CSc μ (fun p => (4, p, r, m, a, b))) (hend : μ 24 (μ 23 8).toNat = -1) (tb : tbC μ μ1) (n : reK μ μ1) : CSc μ1 (fun p => (2, p, r, m, 0, a)) := CSc.in tb (CSt.rel h hend tb.1 n)
theorem CSc.exp {μ μ1 : mM} {e e' : Int → Cfg} {kk : Int} (h : CSc μ e) (hend : μ 24 (μ 23 8).toNat = -1) (tb : tbC μ μ1) (n : exK μ μ1 kk) (h0 : ¬ kk = -1) (hs : ∀ p, ¬ (e p).1 = -1 ∧ (e p).2.1 = p) (yes : ∀ p v f q, nxC mskF (μ 23 14) (e p) kk v f q = e' q) (no : ∀ p t v f q, ¬ t = kk → t = cT μ → nxC mskF (μ 23 14) (e p) t v f q = faC 2 t f) : CSc μ1 e' := CSc.in tb (CSt.exp h hend tb.1 n h0 hs yes no)
theorem hendOf {μ μ1 : mM} (h : μ 24 (μ 23 8).toNat = -1) (tb : tbC μ μ1) : μ1 24 (μ1 23 8).toNat = -1 := by rw [tb.1.1, tb.1.2.2.2]; exact h
abbrev tbL : List Nat := [24999, 25999, 26999, 23008, 1999, 10, 23014]
theorem tbC.fr {lf : List Nat} {w : mW} {μ μ1 : mM} (hw : mWF w) (F : mF lf w μ μ1) (hl : (tbL.all fun r => !lf.elem r) = true) : tbC μ μ1 := ⟨⟨rowB (A_24 hw) F (qA_no hl rfl) rfl, rowB (A_25 hw) F (qA_no hl rfl) rfl, rowB (A_26 hw) F (qA_no hl rfl) rfl, F.f (A_23 hw) (qA_no hl rfl) rfl⟩, rowB (A_1 hw) F (qA_no hl rfl) rfl, F.f (A_0 hw) (qA_no hl rfl) rfl, F.f (A_23 hw) (qA_no hl rfl) rfl⟩
theorem smK.fr {lf : List Nat} {w : mW} {μ μ1 : mM} (hw : mWF w) (F : mF lf w μ μ1) (hl : (([23009, 23018, 23019] : List Nat).all fun r => !lf.elem r) = true) : smK μ μ1 := ⟨F.f (A_23 hw) (qA_no hl rfl) rfl, F.f (A_23 hw) (qA_no hl rfl) rfl, F.f (A_23 hw) (qA_no hl rfl) rfl⟩
theorem tkK.y {μ μ1 : mM} {k z : Int} (h : tkK μ μ1 k z) (hz : z = 1) : cT μ = k ∧ stK μ μ1 := by
  rcases h with ⟨_, a, b⟩ | ⟨a, _, _⟩
  · exact ⟨a, b⟩
  · omega
theorem tkK.n {μ μ1 : mM} {k z : Int} (h : tkK μ μ1 k z) (hz : z = 0) : ¬ cT μ = k ∧ smK μ μ1 := by
  rcases h with ⟨a, _, _⟩ | ⟨_, a, b⟩
  · omega
  · exact ⟨a, b⟩
theorem tkK.nt {μ μ1 : mM} {k z : Int} (h : tkK μ μ1 k z) (hz : z = 0) (tb : tbC μ μ1) : ¬ cT μ1 = k := by
  have g := h.n hz
  have e : cT μ1 = cT μ := by unfold cT; rw [tb.1.1, g.2.1]
  rw [e]; exact g.1
