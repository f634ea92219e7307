section JUSv
variable {l : Launch} {D : va_G} {c : Nat → ClassId} {H0 : Heap} {sa : Nat × Nat × (Nat → Int32)} {w : mW} {μ μ1 : mM}
theorem c_X12_judged_v (hw : mWF w) (hT : mT w μ) {p1 : Int} (hp1 : 0 ≤ p1 ∧ p1 ≤ 9) {p2 : Int} (hp2 : (-2147483648) ≤ p2 ∧ p2 ≤ 2147483647) {p3 : Int} (hp3 : (-2147483648) ≤ p3 ∧ p3 ≤ 2147483647) {p4 : Int} (hp4 : (-2147483648) ≤ p4 ∧ p4 ≤ 2147483647) {f_pre : Int} (q_f_pre : μ 106 2 = f_pre) (hq0 : p1 < f_pre) (hIJC : JC l D c H0 sa μ) : sC (gG l D c H0 sa) mX12_judged 4 0 0 [.ref 106, iv p1, iv p2, iv p3, iv p4] (mk w μ) (qI w [106026, 106027, 106028, 106029, 106030, 106031] μ (fun z μ1 => (0 ≤ z ∧ z ≤ 2) ∧ JC l D c H0 sa μ1 ∧ (JAz l D c H0 sa μ p1 p2 p3 p4 z) ∧ True)) := by
  obtain ⟨z0, e0⟩ : ∃ z0, JAz l D c H0 sa μ p1 p2 p3 p4 z0 := ⟨_, rfl⟩
  have sp := JAz.spec hw hT hp1 hp2 hp3 hp4 e0
  have hC : μ 106 26 ≠ 0 → μ 106 27 = p1 → μ 106 28 = p2 → μ 106 29 = p3 → μ 106 30 = p4 → μ 106 31 = z0 := fun a b c' d e => by
    have h := (hIJC a).2
    rw [b, c', d, e] at h
    exact Eq.trans h (Eq.symm e0)
  refine (c_X12_judged_f hw hT hp1 hp2 hp3 hp4 sp.1 (sp.2 w μ hw hT agr.refl) hC).weak ?_
  rintro r hp' ⟨y, m1, rfl, rfl, g1, g2, rfl, rfl⟩
  refine ⟨y, _, rfl, rfl, g1, g2, sp.1, ?_, e0, trivial⟩
  have ag : ∀ p, agr (SJ μ p) μ (jE μ p1 p2 p3 p4 y) := fun p a i s => jE.out (by rcases s with ⟨s1, s2⟩ | ⟨s1, s2, -⟩ | ⟨s1, -⟩ <;> omega)
  rcases jE.cache hC with ⟨q, -⟩ | ⟨q1, q2, q3, q4, q5⟩
  · rw [q]; exact hIJC
  · intro _
    rw [q1, q2, q3, q4, q5, JAz.congr (ag p1), jE.out (Or.inr (Or.inl (by decide))), q_f_pre]
    exact ⟨⟨hp1.1, hq0⟩, e0⟩
end JUSv
