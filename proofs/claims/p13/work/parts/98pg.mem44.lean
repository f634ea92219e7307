/-! What judgedAnew reads; its answer, chosen for all memories that agree there; the cache that keeps it. -/
def SJ (μ : mM) (p : Int) : Nat → Nat → Prop := fun a i => (a = 106 ∧ i = 18) ∨ (119 ≤ a ∧ a ≤ 125 ∧ (i : Int) < μ 106 18) ∨ ((a = 108 ∨ a = 109) ∧ (i = p.toNat ∨ ∃ r : Int, 0 ≤ r ∧ r < μ 106 18 ∧ i = (μ 119 r.toNat).toNat))
theorem SJ.congr {μ ν : mM} {p : Int} (h : agr (SJ μ p) μ ν) : SJ ν p = SJ μ p := by
  have e18 : ν 106 18 = μ 106 18 := h 106 18 (Or.inl ⟨rfl, rfl⟩)
  have e119 : ∀ r : Int, 0 ≤ r → r < μ 106 18 → ν 119 r.toNat = μ 119 r.toNat := fun r a b => h 119 _ (Or.inr (Or.inl ⟨by decide, by decide, by omega⟩))
  funext a i
  refine propext ⟨fun q => ?_, fun q => ?_⟩
  · rcases q with q | ⟨q1, q2, q3⟩ | ⟨q1, q2 | ⟨r, r1, r2, r3⟩⟩
    · exact Or.inl q
    · exact Or.inr (Or.inl ⟨q1, q2, by rw [← e18]; exact q3⟩)
    · exact Or.inr (Or.inr ⟨q1, Or.inl q2⟩)
    · exact Or.inr (Or.inr ⟨q1, Or.inr ⟨r, r1, by rw [← e18]; exact r2, by rw [r3, e119 r r1 (by rw [← e18]; exact r2)]⟩⟩)
  · rcases q with q | ⟨q1, q2, q3⟩ | ⟨q1, q2 | ⟨r, r1, r2, r3⟩⟩
    · exact Or.inl q
    · exact Or.inr (Or.inl ⟨q1, q2, by rw [e18]; exact q3⟩)
    · exact Or.inr (Or.inr ⟨q1, Or.inl q2⟩)
    · exact Or.inr (Or.inr ⟨q1, Or.inr ⟨r, r1, by rw [e18]; exact r2, by rw [r3, e119 r r1 r2]⟩⟩)
section JUD
variable {l : Launch} {D : va_G} {c : Nat → ClassId} {H0 : Heap} {sa : Nat × Nat × (Nat → Int32)} {w : mW} {μ ν : mM}
def JAp (l : Launch) (D : va_G) (c : Nat → ClassId) (H0 : Heap) (sa : Nat × Nat × (Nat → Int32)) (S : Nat → Nat → Prop) (A : mM → Prop) (p n d k z : Int) : Prop := (0 ≤ z ∧ z ≤ 2) ∧ ∀ w ν, mWF w → mT w ν → A ν → sC (gG l D c H0 sa) mX12_judgedAnew 3 0 0 [.ref 106, iv p, iv n, iv d, iv k] (mk w ν) (qP w ν (fun y => y = z))
/-- z is the answer of judgedAnew -/
def JAz (l : Launch) (D : va_G) (c : Nat → ClassId) (H0 : Heap) (sa : Nat × Nat × (Nat → Int32)) (μ : mM) (p n d k z : Int) : Prop := z = Classical.epsilon (JAp l D c H0 sa (SJ μ p) (agr (SJ μ p) μ) p n d k)
theorem JAz.congr {p n d k z : Int} (h : agr (SJ μ p) μ ν) : JAz l D c H0 sa ν p n d k z = JAz l D c H0 sa μ p n d k z := by
  unfold JAz
  rw [SJ.congr h, ← h.cls]
theorem JAz.spec {p n d k z : Int} (hw : mWF w) (hT : mT w μ) (hp : 0 ≤ p ∧ p ≤ 9) (hn : -2147483648 ≤ n ∧ n ≤ 2147483647) (hd : -2147483648 ≤ d ∧ d ≤ 2147483647) (hk : -2147483648 ≤ k ∧ k ≤ 2147483647) (h : JAz l D c H0 sa μ p n d k z) : JAp l D c H0 sa (SJ μ p) (agr (SJ μ p) μ) p n d k z := by
  rw [h]
  refine Classical.epsilon_spec (p := JAp l D c H0 sa (SJ μ p) (agr (SJ μ p) μ) p n d k) ?_
  obtain ⟨r, μe, ⟨z, rfl, rfl, hz⟩, hh⟩ := cx_X12_judgedAnew (l := l) (D := D) (c := c) (H0 := H0) (sa := sa) (K := fun _ _ => True) (W := fun _ _ => False) (S := SJ μ p) hw hT hp hn hd hk (Or.inl ⟨rfl, rfl⟩) (fun a i x y q => Or.inr (Or.inl ⟨x, y, q⟩)) ⟨Or.inr (Or.inr ⟨Or.inl rfl, Or.inl rfl⟩), Or.inr (Or.inr ⟨Or.inr rfl, Or.inl rfl⟩)⟩ (fun r a b => ⟨Or.inr (Or.inr ⟨Or.inl rfl, Or.inr ⟨r, a, b, rfl⟩⟩), Or.inr (Or.inr ⟨Or.inr rfl, Or.inr ⟨r, a, b, rfl⟩⟩)⟩)
  refine ⟨z, hz.1, fun w' ν x T' dd => ?_⟩
  obtain ⟨νe, ⟨-, -, -, fr⟩, k⟩ := hh w' ν (fun _ => 0) x T' trivial dd
  have e : νe = ν := funext fun a => funext fun i => fr a i id
  subst e
  refine k.weak ?_
  rintro r hp' ⟨rfl, rfl⟩
  exact ⟨z, rfl, rfl, rfl⟩
/-- the cache keeps an answer of judgedAnew -/
def JC (l : Launch) (D : va_G) (c : Nat → ClassId) (H0 : Heap) (sa : Nat × Nat × (Nat → Int32)) (μ : mM) : Prop := μ 106 26 ≠ 0 → (0 ≤ μ 106 27 ∧ μ 106 27 < μ 106 2) ∧ JAz l D c H0 sa μ (μ 106 27) (μ 106 28) (μ 106 29) (μ 106 30) (μ 106 31)
/-- what a walk of candidate keeps: the cache at the prefix x; more than g ties; the cache as it was, or at x -/
def KC (l : Launch) (D : va_G) (c : Nat → ClassId) (H0 : Heap) (sa : Nat × Nat × (Nat → Int32)) (μ : mM) (x g : Int) (γ f : Nat → Int) : Prop := (f 26 ≠ 0 → f 27 = x → JAz l D c H0 sa μ x (f 28) (f 29) (f 30) (f 31)) ∧ g < f 6 ∧ ((∀ i : Nat, 26 ≤ i → i ≤ 31 → f i = γ i) ∨ (0 ≤ x ∧ f 27 = x))
theorem jE.out {a b d e z : Int} {s i : Nat} (h : s ≠ 106 ∨ i < 26 ∨ 31 < i) : jE ν a b d e z s i = ν s i := by
  unfold jE
  split
  · rfl
  · have q : ∀ {m : mM} {j : Nat} {y : Int}, 26 ≤ j → j ≤ 31 → mUp m 106 j y s i = m s i := fun {m j y} h1 h2 => mUp_ok.2 s i (h.imp id fun h => by omega)
    rw [q (by decide) (by decide), q (by decide) (by decide), q (by decide) (by decide), q (by decide) (by decide), q (by decide) (by decide), q (by decide) (by decide)]
theorem jE.ty {a b d e z : Int} (hw : mWF w) (hT : mT w ν) (ha : -2147483648 ≤ a ∧ a ≤ 2147483647) (hb : -2147483648 ≤ b ∧ b ≤ 2147483647) (hd : -2147483648 ≤ d ∧ d ≤ 2147483647) (he : -2147483648 ≤ e ∧ e ≤ 2147483647) (hz : 0 ≤ z ∧ z ≤ 2) : mT w (jE ν a b d e z) := by
  unfold jE
  split
  · exact hT
  · exact (((((hT.up (k := 31) (z := z) (A_106 hw) hz mUp_ok).up (k := 27) (z := a) (A_106 hw) ha mUp_ok).up (k := 28) (z := b) (A_106 hw) hb mUp_ok).up (k := 29) (z := d) (A_106 hw) hd mUp_ok).up (k := 30) (z := e) (A_106 hw) he mUp_ok).up (k := 26) (z := 1) (A_106 hw) (show (0 : Int) ≤ 1 ∧ (1 : Int) ≤ 1 by decide) mUp_ok
theorem jE.cache {a b d e z : Int} (h : ν 106 26 ≠ 0 → ν 106 27 = a → ν 106 28 = b → ν 106 29 = d → ν 106 30 = e → ν 106 31 = z) : (jE ν a b d e z = ν ∧ ν 106 26 ≠ 0 ∧ ν 106 27 = a ∧ ν 106 28 = b ∧ ν 106 29 = d ∧ ν 106 30 = e ∧ ν 106 31 = z) ∨ (jE ν a b d e z 106 27 = a ∧ jE ν a b d e z 106 28 = b ∧ jE ν a b d e z 106 29 = d ∧ jE ν a b d e z 106 30 = e ∧ jE ν a b d e z 106 31 = z) := by
  by_cases q : ν 106 26 ≠ 0 ∧ ν 106 27 = a ∧ ν 106 28 = b ∧ ν 106 29 = d ∧ ν 106 30 = e
  · exact Or.inl ⟨jE.hit q, q.1, q.2.1, q.2.2.1, q.2.2.2.1, q.2.2.2.2, h q.1 q.2.1 q.2.2.1 q.2.2.2.1 q.2.2.2.2⟩
  · refine Or.inr ?_
    rw [show jE ν a b d e z = _ from if_neg q]
    refine ⟨?_, ?_, ?_, ?_, ?_⟩
    · rw [mUp_ok.2 106 27 (Or.inr (by decide)), mUp_ok.2 106 27 (Or.inr (by decide)), mUp_ok.2 106 27 (Or.inr (by decide)), mUp_ok.2 106 27 (Or.inr (by decide)), mUp_ok.1]
    · rw [mUp_ok.2 106 28 (Or.inr (by decide)), mUp_ok.2 106 28 (Or.inr (by decide)), mUp_ok.2 106 28 (Or.inr (by decide)), mUp_ok.1]
    · rw [mUp_ok.2 106 29 (Or.inr (by decide)), mUp_ok.2 106 29 (Or.inr (by decide)), mUp_ok.1]
    · rw [mUp_ok.2 106 30 (Or.inr (by decide)), mUp_ok.1]
    · rw [mUp_ok.2 106 31 (Or.inr (by decide)), mUp_ok.2 106 31 (Or.inr (by decide)), mUp_ok.2 106 31 (Or.inr (by decide)), mUp_ok.2 106 31 (Or.inr (by decide)), mUp_ok.2 106 31 (Or.inr (by decide)), mUp_ok.1]
theorem cx_judged {W S' : Nat → Nat → Prop} {μ' : mM} {x g n z : Int} (hw : mWF w) (hT : mT w μ) (hT' : mT w μ') (hμ : agr (SJ μ x) μ μ') (hx : 0 ≤ x ∧ x ≤ 9) (hn : -2147483648 ≤ n ∧ n ≤ 2147483647) (hz : -2147483648 ≤ z ∧ z ≤ 2147483647) (hs : ∀ a i, SJ μ x a i → S' a i) (hN : ∀ i : Nat, 26 ≤ i → i ≤ 31 → ¬ S' 106 i) (hW : ∀ i : Nat, 26 ≤ i → i ≤ 31 → W 106 i) : VC l D c H0 sa (KC l D c H0 sa μ x g) W S' S' mX12_judged 4 [.ref 106, iv x, iv n, iv z, iv z] μ' (xqI w [106026, 106027, 106028, 106029, 106030, 106031] μ' (fun z _ => (0 ≤ z ∧ z ≤ 2) ∧ True)) := by
  obtain ⟨z0, e0⟩ : ∃ z0, JAz l D c H0 sa μ x n z z z0 := ⟨_, rfl⟩
  have sp := JAz.spec hw hT hx hn hz hz e0
  refine ⟨some (iv z0), μ', ⟨z0, rfl, hT', mF.refl, sp.1, trivial⟩, fun w' ν γ x' T' y dd => ?_⟩
  have dJ : agr (SJ μ x) μ ν := fun a i q => (dd a i (hs a i q)).trans (hμ a i q)
  have hC : ν 106 26 ≠ 0 → ν 106 27 = x → ν 106 28 = n → ν 106 29 = z → ν 106 30 = z → ν 106 31 = z0 := fun a b c' d e => by
    have h := y.1 a b
    rw [c', d, e] at h
    exact Eq.trans h (Eq.symm e0)
  refine ⟨jE ν x n z z z0, ⟨jE.ty x' T' (by omega) hn hz hz sp.1, ?_, ?_, ?_⟩, ?_⟩
  · rcases jE.cache hC with ⟨q, -⟩ | ⟨q1, q2, q3, q4, q5⟩
    · rw [q]; exact y
    · refine ⟨fun _ _ => ?_, ?_, Or.inr ⟨hx.1, q1⟩⟩
      · rw [q2, q3, q4, q5]; exact e0
      · rw [jE.out (Or.inr (Or.inl (by decide)))]; exact y.2.1
  · intro a i q
    refine (jE.out ?_).trans (dd a i q)
    by_cases h1 : a = 106
    · refine Or.inr (Classical.byContradiction fun h => hN i (by omega) (by omega) (by rw [← h1]; exact q))
    · exact Or.inl h1
  · intro a i q
    refine jE.out ?_
    by_cases h1 : a = 106
    · refine Or.inr (Classical.byContradiction fun h => q (by rw [h1]; exact hW i (by omega) (by omega)))
    · exact Or.inl h1
  · refine (c_X12_judged_f x' T' hx hn hz hz sp.1 (sp.2 w' ν x' T' dJ) hC).weak ?_
    rintro r hp' ⟨y, m1, rfl, rfl, -, -, rfl, rfl⟩
    exact ⟨rfl, rfl⟩
end JUD
