/-! Ends of ties are domains. -/
theorem tcEnd {w : mW} {μ : mM} {n m : Int} (hw : mWF w) (hT : mT w μ) (qn : μ 6 16 = n) (qm : μ 6 15 = m) : ∀ t : Nat, (t : Int) < n → 0 ≤ tc μ 1 t ∧ tc μ 1 t < m := fun t ht => by
  have hA := tcAt hw hT (i := t) (by rw [qn]; exact ht)
  have h : 0 ≤ tc μ 1 t ∧ tc μ 1 t ≤ 9 ∧ tc μ 1 t < w.2.2.2 0 := hT _ 220 hA 1
  have := J.c0 hw hT
  omega
section CONZ
variable {f g kd : Nat → Int} {n p x dm p2 z : Int}
theorem conA.cnt (cz : (0 ≤ x ∧ x < 1024) ∧ ∀ d, bB x d ↔ rch f g kd n p.toNat d) (pb : z = cnP (bB x) 10) (hp : 0 ≤ p ∧ p < dm) (hd : dm ≤ 10) (hg : ∀ t : Nat, (t : Int) < n → 0 ≤ g t ∧ g t < dm) (h2 : p2 = -1) : conA (rch f g kd n p.toNat) dm p2 z := by
  refine ⟨fun _ => ?_, fun h => absurd h (by omega)⟩
  rw [pb, cnP.cg 10 fun d _ => cz.2 d]
  exact cnP.far (fun d hx => rch.lt (by omega) (fun t ht => by have := hg t ht; omega) hx) 10 (by omega)
theorem conA.bit {u : Int} (cz : (0 ≤ x ∧ x < 1024) ∧ ∀ d, bB x d ↔ rch f g kd n p.toNat d) (hp2 : 0 ≤ p2 ∧ p2 ≤ 9) (q1 : bShr x p2 = u) (q2 : bAnd u 1 = z) : conA (rch f g kd n p.toNat) dm p2 z := by
  refine ⟨fun h => by omega, fun _ => ?_⟩
  rcases bB.get cz.1 hp2 q1 q2 with ⟨a, b⟩ | ⟨a, b⟩
  · exact Or.inl ⟨(cz.2 _).mp a, b⟩
  · exact Or.inr ⟨fun h => a ((cz.2 _).mpr h), b⟩
end CONZ
def conZ (P : Nat → Prop) (dm p1 p2 z : Int) : Prop := ((p1 < 0 ∨ dm ≤ p1 ∨ (¬ p2 = -1 ∧ (p2 < 0 ∨ dm ≤ p2))) ∧ z = -1) ∨ ((0 ≤ p1 ∧ p1 < dm ∧ (p2 = -1 ∨ (0 ≤ p2 ∧ p2 < dm))) ∧ conA P dm p2 z)
theorem conZ.eq {P Q : Nat → Prop} {dm p1 p2 z z' : Int} (h : conZ P dm p1 p2 z) (k : conZ Q dm p1 p2 z') (e : ∀ d, P d ↔ Q d) : z = z' := by
  rcases h with ⟨h1, h2⟩ | ⟨h1, h2⟩ <;> rcases k with ⟨k1, k2⟩ | ⟨k1, k2⟩
  · omega
  · omega
  · omega
  · exact h2.eq k2 e (by omega)
/-! The reference's cone. -/
def cnF (μ : mM) (p k : Int) : Prop := ∀ i : Nat, (i : Int) < k → ((i : Int) = p ∧ μ 116 i = 1) ∨ (¬ (i : Int) = p ∧ μ 116 i = 0)
theorem cnF.zero {μ : mM} {p k : Int} (h : k ≤ 0) : cnF μ p k := fun i q => by omega
theorem cnF.up {μ μ1 : mM} {p k v : Int} (h : cnF μ p k) (h0 : 0 ≤ k) (u : mU μ 116 k.toNat v μ1) (hv : (k = p ∧ v = 1) ∨ (¬ k = p ∧ v = 0)) : cnF μ1 p (k + 1) := fun i q => by
  by_cases e : (i : Int) = k
  · have ei : i = k.toNat := by omega
    have hu : μ1 116 i = v := by rw [ei]; exact u.1
    rw [hu]; omega
  · rw [u.2 116 i (Or.inr (by omega))]; exact h i (by omega)
def taS (μ μ1 : mM) : Prop := ∀ i, μ1 110 i = μ 110 i ∧ μ1 111 i = μ 111 i
theorem taS.refl {μ : mM} : taS μ μ := fun _ => ⟨rfl, rfl⟩
theorem taS.up {μ μ1 μ2 : mM} {k : Nat} {v : Int} (h : taS μ μ1) (u : mU μ1 116 k v μ2) : taS μ μ2 := fun i => ⟨(u.2 110 i (Or.inl (by decide))).trans (h i).1, (u.2 111 i (Or.inl (by decide))).trans (h i).2⟩
def cnV (μ : mM) (n p : Int) (μ1 : mM) (more t : Int) : Prop := taS μ μ1 ∧ μ1 116 p.toNat = 1 ∧ (∀ d, d < 10 → μ1 116 d = 1 → rch (tr μ 0) (tr μ 1) (μ 111) n p.toNat d) ∧ (more = 0 → ∀ j : Nat, (j : Int) < t → μ 111 j = 0 → μ1 116 (tr μ 0 j).toNat = 1 → μ1 116 (tr μ 1 j).toNat = 1)
def cnW (μ : mM) (n p : Int) (μ1 : mM) (more : Int) : Prop := taS μ μ1 ∧ μ1 116 p.toNat = 1 ∧ (∀ d, d < 10 → μ1 116 d = 1 → rch (tr μ 0) (tr μ 1) (μ 111) n p.toNat d) ∧ (more = 0 → clo (tr μ 0) (tr μ 1) (μ 111) n (fun d => μ1 116 d = 1))
theorem cnW.start {μ μ1 : mM} {n p k : Int} (ta : taS μ μ1) (h : cnF μ1 p k) (hk : 10 ≤ k) (hp : 0 ≤ p ∧ p ≤ 9) : cnW μ n p μ1 1 := by
  refine ⟨ta, ?_, fun d hd q => ?_, fun e => absurd e (by decide)⟩
  · rcases h p.toNat (by omega) with ⟨_, b⟩ | ⟨a, _⟩
    · exact b
    · omega
  · rcases h d (by omega) with ⟨a, _⟩ | ⟨_, b⟩
    · rw [show d = p.toNat by omega]; exact fun _ s _ => s
    · rw [b] at q; exact absurd q (by decide)
theorem cnV.start {μ μ1 : mM} {n p more : Int} (h : cnW μ n p μ1 more) : cnV μ n p μ1 0 0 := ⟨h.1, h.2.1, h.2.2.1, fun _ j hj => by omega⟩
theorem cnW.next {μ μ1 : mM} {n p more t : Int} (h : cnV μ n p μ1 more t) (ht : n ≤ t) : cnW μ n p μ1 more := ⟨h.1, h.2.1, h.2.2.1, fun e j hj => h.2.2.2 e j (by omega)⟩
section CNV
variable {μ μ1 μ2 : mM} {n p more t kk a b va vb e0 e1 m2 : Int}
theorem cnV.skipK (h : cnV μ n p μ1 more t) (h0 : 0 ≤ t) (qk : μ1 111 t.toNat = kk) (hk : ¬ kk = 0) : cnV μ n p μ1 more (t + 1) := by
  obtain ⟨x1, x2, x3, x4⟩ := h
  refine ⟨x1, x2, x3, fun e j hj hj0 => ?_⟩
  by_cases q : (j : Int) = t
  · rw [show j = t.toNat by omega, ← (x1 _).2, qk] at hj0; exact absurd hj0 hk
  · exact x4 e j (by omega) hj0
theorem cnV.skipA (h : cnV μ n p μ1 more t) (h0 : 0 ≤ t) (q0 : μ1 110 e0.toNat = a) (he0 : e0 = 2 * t + ((0 : Nat) : Int)) (qa : μ1 116 a.toNat = va) (hv : ¬ va = 1) : cnV μ n p μ1 more (t + 1) := by
  obtain ⟨x1, x2, x3, x4⟩ := h
  refine ⟨x1, x2, x3, fun e j hj hj0 hs => ?_⟩
  by_cases q : (j : Int) = t
  · have : tr μ 0 t.toNat = a := by rw [← trOf 0 q0 he0 h0]; exact (x1 _).1.symm
    rw [show j = t.toNat by omega, this, qa] at hs; exact absurd hs hv
  · exact x4 e j (by omega) hj0 hs
theorem cnV.skipB (h : cnV μ n p μ1 more t) (h0 : 0 ≤ t) (q1 : μ1 110 e1.toNat = b) (he1 : e1 = 2 * t + ((1 : Nat) : Int)) (qb : μ1 116 b.toNat = vb) (hv : vb = 1) : cnV μ n p μ1 more (t + 1) := by
  obtain ⟨x1, x2, x3, x4⟩ := h
  refine ⟨x1, x2, x3, fun e j hj hj0 hs => ?_⟩
  by_cases q : (j : Int) = t
  · have : tr μ 1 t.toNat = b := by rw [← trOf 1 q1 he1 h0]; exact (x1 _).1.symm
    rw [show j = t.toNat by omega, this, qb, hv]
  · exact x4 e j (by omega) hj0 hs
theorem cnV.add (h : cnV μ n p μ1 more t) (ht : 0 ≤ t ∧ t < n) (qk : μ1 111 t.toNat = kk) (hk : kk = 0) (q0 : μ1 110 e0.toNat = a) (he0 : e0 = 2 * t + ((0 : Nat) : Int)) (ra : 0 ≤ a ∧ a ≤ 9) (qa : μ1 116 a.toNat = va) (hv : va = 1) (q1 : μ1 110 e1.toNat = b) (he1 : e1 = 2 * t + ((1 : Nat) : Int)) (rb : 0 ≤ b ∧ b ≤ 9) (u : mU μ1 116 b.toNat 1 μ2) (hm : ¬ m2 = 0) : cnV μ n p μ2 m2 (t + 1) := by
  obtain ⟨x1, x2, x3, x4⟩ := h
  have ea : tr μ 0 t.toNat = a := by rw [← trOf 0 q0 he0 ht.1]; exact (x1 _).1.symm
  have eb : tr μ 1 t.toNat = b := by rw [← trOf 1 q1 he1 ht.1]; exact (x1 _).1.symm
  have ek : μ 111 t.toNat = 0 := by rw [← (x1 _).2, qk, hk]
  refine ⟨x1.up u, ?_, fun d hd q => ?_, fun e => absurd e hm⟩
  · by_cases c : p.toNat = b.toNat
    · rw [c]; exact u.1
    · rw [u.2 116 _ (Or.inr c)]; exact x2
  · by_cases c : d = b.toNat
    · rw [c, ← eb]
      exact fun S s1 s2 => s2 t.toNat (by omega) ek (by rw [ea]; exact x3 a.toNat (by omega) (by rw [qa, hv]) S s1 s2)
    · rw [u.2 116 d (Or.inr c)] at q; exact x3 d hd q
theorem cnW.iff (h : cnW μ n p μ1 0) {d : Nat} (hd : d < 10) : μ1 116 d = 1 ↔ rch (tr μ 0) (tr μ 1) (μ 111) n p.toNat d := ⟨h.2.2.1 d hd, fun q => q (fun d => μ1 116 d = 1) h.2.1 (h.2.2.2 rfl)⟩
theorem conA.cntR {z k dm p2 : Int} (h : cnW μ n p μ1 0) (hz : z = cnP (fun d => μ1 116 d = 1) k.toNat) (hk : k = dm) (hd : dm ≤ 10) (h2 : p2 = -1) : conA (rch (tr μ 0) (tr μ 1) (μ 111) n p.toNat) dm p2 z := by
  refine ⟨fun _ => ?_, fun q => absurd q (by omega)⟩
  rw [hz, hk]
  exact cnP.cg _ fun d hd' => h.iff (by omega)
theorem conA.bitR {z dm p2 v : Int} (h : cnW μ n p μ1 0) (hp2 : 0 ≤ p2 ∧ p2 ≤ 9) (q : μ1 116 p2.toNat = v) (hz : (v = 1 ∧ z = 1) ∨ (¬ v = 1 ∧ z = 0)) : conA (rch (tr μ 0) (tr μ 1) (μ 111) n p.toNat) dm p2 z := by
  refine ⟨fun q => by omega, fun _ => ?_⟩
  rcases hz with ⟨a, b⟩ | ⟨a, b⟩
  · exact Or.inl ⟨(h.iff (by omega)).mp (by rw [q, a]), b⟩
  · exact Or.inr ⟨fun r => a (by rw [← q]; exact (h.iff (by omega)).mpr r), b⟩
theorem cnP.stepI {P : Nat → Prop} {z k z' : Int} (h : z = cnP P k.toNat) (h0 : 0 ≤ k) (hs : (P k.toNat ∧ z' = z + 1) ∨ (¬ P k.toNat ∧ z' = z)) : z' = cnP P (k + 1).toNat := by
  rw [show (k + 1).toNat = k.toNat + 1 by omega]
  rcases hs with ⟨a, b⟩ | ⟨a, b⟩
  · rw [cnP.yes a, ← h, b]
  · rw [cnP.no a, ← h, b]
end CNV
theorem cnW.z {μ μ1 : mM} {n p more : Int} (h : cnW μ n p μ1 more) (hm : more = 0) : cnW μ n p μ1 0 := by rw [← hm]; exact h
