/-! Ties of a pair are one: kept by every call. -/
def TQU (μ : mM) : Prop := TUQ (tr μ 0) (tr μ 1) (μ 106 6)
def tuL : List Nat := [106006, 110999, 111999]
theorem TQU.fr {lf : List Nat} {w : mW} {μ μ1 : mM} (h : TQU μ) (hw : mWF w) (hT : mT w μ) (F : mF lf w μ μ1) (hl : (tuL.all fun r => !lf.elem r) = true) : TQU μ1 := by
  have e : μ1 106 6 = μ 106 6 := F.f (A_106 hw) (qA_no hl rfl) rfl
  unfold TQU
  rw [e]
  exact TUQ.tr h hw F (qA_le hl rfl)
theorem TQU.frX {lf : List Nat} {w w1 : mW} {μ μ1 : mM} (h : TQU μ) (hw : mWF w) (hT : mT w μ) (F : mX lf w μ w1 μ1) (hl : (tuL.all fun r => !lf.elem r) = true) : TQU μ1 := by
  have e : μ1 106 6 = μ 106 6 := F.f (A_106 hw) (qA_no hl rfl) rfl
  unfold TQU
  rw [e]
  have g := trS.frX (n := μ 106 6) hw F (qA_le hl rfl)
  exact TUQ.cg h fun i hi => ⟨(g i hi).1, (g i hi).2.1⟩
theorem TQU.tie {μ μ1 : mM} {dm x y k z : Int} (h : TQU μ) (n0 : 0 ≤ μ 106 6) (ha : tieA (noneQ (tr μ 0) (tr μ 1) (μ 106 6) x y) dm (μ 106 6) x y k z) (hb : tgR μ μ1 x y k z) : TQU μ1 := by
  rcases hb with ⟨z0, c1, ⟨d1, d2, d3⟩, d4⟩ | ⟨z0, e⟩
  · have hn : noneQ (tr μ 0) (tr μ 1) (μ 106 6) x y := by
      rcases ha with ⟨_, e⟩ | ⟨_, ⟨_, e⟩ | ⟨g, _⟩⟩
      · omega
      · omega
      · exact g
    unfold TQU
    rw [c1]
    exact TUQ.add h n0 hn (fun i hi => ⟨(d4 i hi).1, (d4 i hi).2.1⟩) d1 d2
  · rw [e]; exact h
theorem teEnd {μ : mM} (h : TE μ) (i : Nat) (hi : (i : Int) < μ 106 6) : tr μ 0 i < μ 106 5 ∧ tr μ 1 i < μ 106 5 := ⟨h (2 * i + 0) (by omega), h (2 * i + 1) (by omega)⟩
theorem edCR {μ : mM} (h : TQR μ) : edgR μ (μ 6 16) = edgC μ (μ 6 16) := edg.cg fun i hi => ⟨(h.2 i hi).1.symm, (h.2 i hi).2.1.symm, (h.2 i hi).2.2.symm⟩
