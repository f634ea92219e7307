/-! judged keeps its cache's invariant; what stands where nothing of it was touched. -/
section JUS
variable {l : Launch} {D : va_G} {c : Nat → ClassId} {H0 : Heap} {sa : Nat × Nat × (Nat → Int32)} {w : mW} {μ μ1 : mM}
theorem c_X12_judged_u (hw : mWF w) (hT : mT w μ) {p1 : Int} (hp1 : 0 ≤ p1 ∧ p1 ≤ 9) {p2 : Int} (hp2 : (-2147483648) ≤ p2 ∧ p2 ≤ 2147483647) {p3 : Int} (hp3 : (-2147483648) ≤ p3 ∧ p3 ≤ 2147483647) {p4 : Int} (hp4 : (-2147483648) ≤ p4 ∧ p4 ≤ 2147483647) {f_pre : Int} (q_f_pre : μ 106 2 = f_pre) (hq0 : p1 < f_pre) (hIJC : JC l D c H0 sa μ) : sC (gG l D c H0 sa) mX12_judged 4 0 0 [.ref 106, iv p1, iv p2, iv p3, iv p4] (mk w μ) (qI w [106026, 106027, 106028, 106029, 106030, 106031] μ (fun z μ1 => (0 ≤ z ∧ z ≤ 2) ∧ JC l D c H0 sa μ1 ∧ True)) := by
  obtain ⟨z0, e0⟩ : ∃ z0, JAz l D c H0 sa μ p1 p2 p3 p4 z0 := ⟨_, rfl⟩
  have sp := JAz.spec hw hT hp1 hp2 hp3 hp4 e0
  have hC : μ 106 26 ≠ 0 → μ 106 27 = p1 → μ 106 28 = p2 → μ 106 29 = p3 → μ 106 30 = p4 → μ 106 31 = z0 := fun a b c' d e => by
    have h := (hIJC a).2
    rw [b, c', d, e] at h
    exact Eq.trans h (Eq.symm e0)
  refine (c_X12_judged_f hw hT hp1 hp2 hp3 hp4 sp.1 (sp.2 w μ hw hT agr.refl) hC).weak ?_
  rintro r hp' ⟨y, m1, rfl, rfl, g1, g2, rfl, rfl⟩
  refine ⟨y, _, rfl, rfl, g1, g2, sp.1, ?_, trivial⟩
  have ag : ∀ p, agr (SJ μ p) μ (jE μ p1 p2 p3 p4 y) := fun p a i s => jE.out (by rcases s with ⟨s1, s2⟩ | ⟨s1, s2, -⟩ | ⟨s1, -⟩ <;> omega)
  rcases jE.cache hC with ⟨q, -⟩ | ⟨q1, q2, q3, q4, q5⟩
  · rw [q]; exact hIJC
  · intro _
    rw [q1, q2, q3, q4, q5, JAz.congr (ag p1), jE.out (Or.inr (Or.inl (by decide))), q_f_pre]
    exact ⟨⟨hp1.1, hq0⟩, e0⟩
theorem CN.fr {lf : List Nat} {d p : Int} (h : CN l D c H0 sa μ d p (μ 106 6)) (hp : 0 ≤ p ∧ p ≤ 9) (hw : mWF w) (hT : mT w μ) (F : mF lf w μ μ1) (hl : (SCr.all fun r => !lf.elem r) = true) (h6 : lf.elem 106006 = false) (h39 : lf.elem 106039 = false) (h126 : lf.elem 126999 = false) : CN l D c H0 sa μ1 d p (μ1 106 6) := fun t a b q z => by
  have e6 : μ1 106 6 = μ 106 6 := F 106 6 (by simp only [mRg, (A_106 hw).1]; exact h6)
  have e39 : μ1 106 39 = μ 106 39 := F 106 39 (by simp only [mRg, (A_106 hw).1]; exact h39)
  have e126 : ∀ i, μ1 126 i = μ 126 i := fun i => F 126 i (by simp only [mRg, (A_126 hw).1]; exact h126)
  have e1 : ∀ i, μ1 110 i = μ 110 i := fun i => F.arr hw hl (by omega)
  rw [e1, e1] at q
  rw [e126] at z
  rw [e6] at b
  have h20 : μ 106 6 ≤ 20 := (hT 106 106 (A_106 hw) 6).2
  exact (h t a b q z).keep a hp.1 (SC.fr (rs := []) hw F hl (fun i _ => e126 i) (fun _ h => absurd h List.not_mem_nil) ⟨a, by omega⟩ hp) (Int.le_of_eq e39.symm)
/-- nothing was picked: no candidate -/
def NA (l : Launch) (D : va_G) (c : Nat → ClassId) (H0 : Heap) (sa : Nat × Nat × (Nat → Int32)) (μ : mM) (d p : Int) : Prop := ∀ t : Int, 0 ≤ t → t < μ 106 6 → (μ 110 (2 * t).toNat = d ∨ μ 110 (2 * t + 1).toNat = d) → NZ l D c H0 sa μ d t p
theorem NA.of {d p n : Int} (h : CN l D c H0 sa μ d p (μ 106 6)) (hn : μ 106 6 = n) (k : allNo μ n) : NA l D c H0 sa μ d p := fun t a b q =>
  h t a b q (by rw [show 40 * (4 + t) = 160 + 40 * t by omega]; exact k t a (by omega))
theorem NA.fr {lf : List Nat} {rs : List (Int × Int)} {d p : Int} (h : NA l D c H0 sa μ d p) (hp : 0 ≤ p ∧ p ≤ 9) (hw : mWF w) (hT : mT w μ) (F : mF lf w μ μ1) (hl : (SCr.all fun r => !lf.elem r) = true) (h6 : lf.elem 106006 = false) (h39 : lf.elem 106039 = false) (G : mG rs μ μ1) (hr : ∀ r ∈ rs, r.2 ≤ 5200 ∨ 21200 ≤ r.1) : NA l D c H0 sa μ1 d p := fun t a b q => by
  have e6 : μ1 106 6 = μ 106 6 := F 106 6 (by simp only [mRg, (A_106 hw).1]; exact h6)
  have e39 : μ1 106 39 = μ 106 39 := F 106 39 (by simp only [mRg, (A_106 hw).1]; exact h39)
  have e1 : ∀ i, μ1 110 i = μ 110 i := fun i => F.arr hw hl (by omega)
  rw [e1, e1] at q
  rw [e6] at b
  have h20 : μ 106 6 ≤ 20 := (hT 106 106 (A_106 hw) 6).2
  exact (h t a b q).keep a hp.1 (SC.fr hw F hl G hr ⟨a, by omega⟩ hp) (Int.le_of_eq e39.symm)
end JUS
/-- the slots of pickedTie but one stand -/
def PT (μ μ1 : mM) (k : Nat) : Prop := ∀ j : Nat, j ≠ k → μ1 161 j = μ 161 j
theorem PT.fr {lf : List Nat} {w : mW} {μ μ1 : mM} {k : Nat} (hw : mWF w) (F : mF lf w μ μ1) (hl : lf.elem 161999 = false) : PT μ μ1 k := fun j _ => F 161 j (by simp only [mRg, (A_161 hw).1]; exact hl)
theorem PT.up {μ μ1 : mM} {k : Nat} {z : Int} (u : mU μ 161 k z μ1) : PT μ μ1 k := fun j h => u.2 161 j (Or.inr h)
theorem PT.trans {μ μ1 μ2 : mM} {k : Nat} (h : PT μ μ1 k) (h' : PT μ1 μ2 k) : PT μ μ2 k := fun j q => (h' j q).trans (h j q)
