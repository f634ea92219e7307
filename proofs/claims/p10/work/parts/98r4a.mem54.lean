/-! Frames of ties; the class's tie with its answer told. -/
theorem tcS.fr {lf : List Nat} {w : mW} {μ μ1 : mM} (hw : mWF w) (hT : mT w μ) (F : mF lf w μ μ1) (hl : ([11999, 220000, 220001, 220002].all fun r => !lf.elem r) = true) : tcS μ μ1 (μ 6 16) := fun i hi => by
  have hA := tcAt hw hT hi
  have e : μ1 11 i = μ 11 i := F.f (A_11 hw) (qA_no hl rfl) rfl
  unfold tc
  rw [e]
  exact ⟨F.f hA (qA_no hl rfl) rfl, F.f hA (qA_no hl rfl) rfl, F.f hA (qA_no hl rfl) rfl⟩
theorem tcS.frX {lf : List Nat} {w w1 : mW} {μ μ1 : mM} (hw : mWF w) (hT : mT w μ) (F : mX lf w μ w1 μ1) (hl : ([11999, 220000, 220001, 220002].all fun r => !lf.elem r) = true) : tcS μ μ1 (μ 6 16) := fun i hi => by
  have hA := tcAt hw hT hi
  have e : μ1 11 i = μ 11 i := F.f (A_11 hw) (qA_no hl rfl) rfl
  unfold tc
  rw [e]
  exact ⟨F.f hA (qA_no hl rfl) rfl, F.f hA (qA_no hl rfl) rfl, F.f hA (qA_no hl rfl) rfl⟩
theorem trS.fr {lf : List Nat} {w : mW} {μ μ1 : mM} {n : Int} (hw : mWF w) (F : mF lf w μ μ1) (hl : ([110999, 111999].all fun r => !lf.elem r) = true) : trS μ μ1 n := fun i _ =>
  ⟨F.f (A_110 hw) (qA_no hl rfl) rfl, F.f (A_110 hw) (qA_no hl rfl) rfl, F.f (A_111 hw) (qA_no hl rfl) rfl⟩
theorem trS.frX {lf : List Nat} {w w1 : mW} {μ μ1 : mM} {n : Int} (hw : mWF w) (F : mX lf w μ w1 μ1) (hl : ([110999, 111999].all fun r => !lf.elem r) = true) : trS μ μ1 n := fun i _ =>
  ⟨F.f (A_110 hw) (qA_no hl rfl) rfl, F.f (A_110 hw) (qA_no hl rfl) rfl, F.f (A_111 hw) (qA_no hl rfl) rfl⟩
theorem TQR.of {μ μ1 : mM} (h : TQR μ) (e1 : μ1 6 16 = μ 6 16) (e2 : μ1 106 6 = μ 106 6) (a : tcS μ μ1 (μ 6 16)) (b : trS μ μ1 (μ 6 16)) : TQR μ1 := by
  refine ⟨by rw [e1, e2]; exact h.1, fun i hi => ?_⟩
  rw [e1] at hi
  obtain ⟨a1, a2, a3⟩ := a i hi
  obtain ⟨b1, b2, b3⟩ := b i hi
  rw [a1, a2, a3, b1, b2, b3]; exact h.2 i hi
def tqL : List Nat := [6016, 106006, 11999, 220000, 220001, 220002, 110999, 111999]
theorem TQR.fr {lf : List Nat} {w : mW} {μ μ1 : mM} (h : TQR μ) (hw : mWF w) (hT : mT w μ) (F : mF lf w μ μ1) (hl : (tqL.all fun r => !lf.elem r) = true) : TQR μ1 :=
  h.of (F.f (A_6 hw) (qA_no hl rfl) rfl) (F.f (A_106 hw) (qA_no hl rfl) rfl) (tcS.fr hw hT F (qA_le hl rfl)) (trS.fr hw F (qA_le hl rfl))
theorem TQR.frX {lf : List Nat} {w w1 : mW} {μ μ1 : mM} (h : TQR μ) (hw : mWF w) (hT : mT w μ) (F : mX lf w μ w1 μ1) (hl : (tqL.all fun r => !lf.elem r) = true) : TQR μ1 :=
  h.of (F.f (A_6 hw) (qA_no hl rfl) rfl) (F.f (A_106 hw) (qA_no hl rfl) rfl) (tcS.frX hw hT F (qA_le hl rfl)) (trS.frX hw F (qA_le hl rfl))
