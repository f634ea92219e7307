/-! Cones: sets of domains, closed under the steps to customers. -/
theorem cb_1 : ∀ x : Fin 1024, ∀ d : Fin 10, bAnd (bShr (x.val : Int) (d.val : Int)) 1 = if x.val.testBit d.val then 1 else 0 := by decide +kernel
theorem cb_2 : ∀ x : Fin 1024, ∀ d : Fin 10, bOr (x.val : Int) (bShl 1 (d.val : Int)) = ((x.val ||| 1 <<< d.val : Nat) : Int) := by decide +kernel
theorem cb_3 : ∀ d : Fin 10, bShl 1 (d.val : Int) = ((1 <<< d.val : Nat) : Int) := by decide +kernel
def bB (x : Int) (d : Nat) : Prop := x.toNat.testBit d = true
theorem bB.get {x a u v : Int} (hx : 0 ≤ x ∧ x < 1024) (ha : 0 ≤ a ∧ a ≤ 9) (q1 : bShr x a = u) (q2 : bAnd u 1 = v) : (bB x a.toNat ∧ v = 1) ∨ (¬ bB x a.toNat ∧ v = 0) := by
  have h := cb_1 ⟨x.toNat, by omega⟩ ⟨a.toNat, by omega⟩
  have e1 : ((x.toNat : Nat) : Int) = x := by omega
  have e2 : ((a.toNat : Nat) : Int) = a := by omega
  simp only [e1, e2, q1, q2] at h
  unfold bB
  by_cases c : x.toNat.testBit a.toNat = true
  · rw [if_pos c] at h; exact Or.inl ⟨c, h⟩
  · rw [if_neg c] at h; exact Or.inr ⟨c, h⟩
theorem bB.put {x b y x' : Int} (hx : 0 ≤ x ∧ x < 1024) (hb : 0 ≤ b ∧ b ≤ 9) (q3 : bShl 1 b = y) (q4 : bOr x y = x') : (0 ≤ x' ∧ x' < 1024) ∧ ∀ d : Nat, bB x' d ↔ (bB x d ∨ d = b.toNat) := by
  have h := cb_2 ⟨x.toNat, by omega⟩ ⟨b.toNat, by omega⟩
  have e1 : ((x.toNat : Nat) : Int) = x := by omega
  have e2 : ((b.toNat : Nat) : Int) = b := by omega
  simp only [e1, e2, q3, q4] at h
  have ex : x'.toNat = (x.toNat ||| 1 <<< b.toNat) := by omega
  have hl : (x.toNat ||| 1 <<< b.toNat) < 2 ^ 10 := by
    refine Nat.or_lt_two_pow (by omega) ?_
    rw [Nat.one_shiftLeft]
    exact Nat.pow_lt_pow_right (by decide) (by omega)
  refine ⟨by omega, fun d => ?_⟩
  unfold bB
  rw [ex, Nat.testBit_or, Nat.one_shiftLeft, Nat.testBit_two_pow, Bool.or_eq_true, decide_eq_true_iff]
  constructor
  · rintro (h | h)
    · exact Or.inl h
    · exact Or.inr h.symm
  · rintro (h | h)
    · exact Or.inl h
    · exact Or.inr h.symm
theorem bB.one {a x : Int} (ha : 0 ≤ a ∧ a ≤ 9) (q : bShl 1 a = x) : (0 ≤ x ∧ x < 1024) ∧ ∀ d : Nat, bB x d ↔ d = a.toNat := by
  have h := cb_3 ⟨a.toNat, by omega⟩
  have e2 : ((a.toNat : Nat) : Int) = a := by omega
  simp only [e2, q] at h
  have ex : x.toNat = 1 <<< a.toNat := by rw [h, Int.toNat_natCast]
  have hl : 1 <<< a.toNat < 2 ^ 10 := by
    rw [Nat.one_shiftLeft]
    exact Nat.pow_lt_pow_right (by decide) (by omega)
  refine ⟨by omega, fun d => ?_⟩
  unfold bB
  rw [ex, Nat.one_shiftLeft, Nat.testBit_two_pow, decide_eq_true_iff]
  exact ⟨fun h => h.symm, fun h => h.symm⟩
theorem bB.ext {x y : Int} (hx : 0 ≤ x) (hy : 0 ≤ y) (h : ∀ d, bB x d ↔ bB y d) : x = y := by
  have : x.toNat = y.toNat := Nat.eq_of_testBit_eq fun d => by
    have := h d
    unfold bB at this
    cases h1 : x.toNat.testBit d <;> cases h2 : y.toNat.testBit d <;> rw [h1, h2] at this
    · exact absurd (this.mpr rfl) (by decide)
    · exact absurd (this.mp rfl) (by decide)
  omega
theorem bB.lt {x : Int} (hx : 0 ≤ x ∧ x < 1024) {d : Nat} (h : bB x d) : d < 10 := by
  apply Classical.byContradiction
  intro n
  unfold bB at h
  rw [Nat.testBit_lt_two_pow (Nat.lt_of_lt_of_le (show x.toNat < 2 ^ 10 by omega) (Nat.pow_le_pow_right (by decide) (by omega)))] at h
  cases h
/-- how many below k -/
noncomputable def cnP (P : Nat → Prop) : Nat → Int
  | 0 => 0
  | k + 1 => cnP P k + @ite Int (P k) (Classical.propDecidable _) 1 0
theorem cnP.yes {P : Nat → Prop} {k : Nat} (h : P k) : cnP P (k + 1) = cnP P k + 1 := by
  show _ + @ite Int (P k) (Classical.propDecidable _) 1 0 = _
  rw [if_pos h]
theorem cnP.no {P : Nat → Prop} {k : Nat} (h : ¬ P k) : cnP P (k + 1) = cnP P k := by
  show _ + @ite Int (P k) (Classical.propDecidable _) 1 0 = _
  rw [if_neg h, Int.add_zero]
theorem cnP.cg {P Q : Nat → Prop} : ∀ (k : Nat), (∀ d, d < k → (P d ↔ Q d)) → cnP P k = cnP Q k
  | 0, _ => rfl
  | k + 1, h => by
    have ih := cnP.cg k fun d hd => h d (by omega)
    by_cases c : P k
    · rw [cnP.yes c, cnP.yes ((h k (by omega)).mp c), ih]
    · rw [cnP.no c, cnP.no fun q => c ((h k (by omega)).mpr q), ih]
theorem cnP.le {P Q : Nat → Prop} : ∀ (k : Nat), (∀ d, P d → Q d) → cnP P k ≤ cnP Q k
  | 0, _ => Int.le_refl 0
  | k + 1, h => by
    have ih := cnP.le k h
    by_cases c : P k
    · rw [cnP.yes c, cnP.yes (h k c)]; omega
    · by_cases c2 : Q k
      · rw [cnP.no c, cnP.yes c2]; omega
      · rw [cnP.no c, cnP.no c2]; exact ih
theorem cnP.lt {P Q : Nat → Prop} : ∀ (k : Nat), (∀ d, P d → Q d) → (∃ d, d < k ∧ Q d ∧ ¬ P d) → cnP P k + 1 ≤ cnP Q k
  | 0, _, h => by obtain ⟨d, h, _⟩ := h; omega
  | k + 1, h, e => by
    obtain ⟨d, h1, h2, h3⟩ := e
    by_cases c : d = k
    · subst c
      have := cnP.le d h
      rw [cnP.no h3, cnP.yes h2]; omega
    · have ih := cnP.lt k h ⟨d, by omega, h2, h3⟩
      by_cases c : P k
      · rw [cnP.yes c, cnP.yes (h k c)]; omega
      · by_cases c2 : Q k
        · rw [cnP.no c, cnP.yes c2]; omega
        · rw [cnP.no c, cnP.no c2]; exact ih
theorem cnP.most {P : Nat → Prop} {m : Nat} (h : ∀ d, P d → d < m) : ∀ (k : Nat), cnP P k ≤ m ∧ cnP P k ≤ k
  | 0 => ⟨by show (0 : Int) ≤ m; omega, Int.le_refl 0⟩
  | k + 1 => by
    have ih := cnP.most h k
    by_cases c : P k
    · have := h k c
      rw [cnP.yes c]
      omega
    · rw [cnP.no c]; omega
theorem cnP.far {P : Nat → Prop} {m : Nat} (h : ∀ d, P d → d < m) : ∀ (k : Nat), m ≤ k → cnP P k = cnP P m
  | k, hk => by
    by_cases c : k = m
    · rw [c]
    · obtain ⟨j, rfl⟩ : ∃ j, k = j + 1 := ⟨k - 1, by omega⟩
      rw [cnP.no fun q => absurd (h j q) (by omega), cnP.far h j (by omega)]
/-- closed; reached -/
def clo (f g kd : Nat → Int) (n : Int) (S : Nat → Prop) : Prop := ∀ t : Nat, (t : Int) < n → kd t = 0 → S (f t).toNat → S (g t).toNat
def rch (f g kd : Nat → Int) (n : Int) (top x : Nat) : Prop := ∀ S : Nat → Prop, S top → clo f g kd n S → S x
theorem rch.cg {f g kd f' g' kd' : Nat → Int} {n : Int} {top x : Nat} (e : ∀ i : Nat, (i : Int) < n → f' i = f i ∧ g' i = g i ∧ kd' i = kd i) : rch f' g' kd' n top x ↔ rch f g kd n top x := by
  have : ∀ S, clo f' g' kd' n S ↔ clo f g kd n S := fun S => by
    constructor
    · intro h t ht hk hs
      obtain ⟨e1, e2, e3⟩ := e t ht
      rw [← e2]; exact h t ht (by rw [e3]; exact hk) (by rw [e1]; exact hs)
    · intro h t ht hk hs
      obtain ⟨e1, e2, e3⟩ := e t ht
      rw [e2]; exact h t ht (by rw [← e3]; exact hk) (by rw [← e1]; exact hs)
  exact ⟨fun h S a b => h S a ((this S).mpr b), fun h S a b => h S a ((this S).mp b)⟩
theorem rch.lt {f g kd : Nat → Int} {n : Int} {top x m : Nat} (ht : top < m) (h : ∀ t : Nat, (t : Int) < n → (g t).toNat < m) (hx : rch f g kd n top x) : x < m := hx (fun y => y < m) ht fun t q _ _ => h t q
section CONE
variable {f g kd : Nat → Int} {n p : Int}
def coneI (f g kd : Nat → Int) (n p r x : Int) : Prop := (0 ≤ x ∧ x < 1024) ∧ bB x p.toNat ∧ (∀ d, bB x d → rch f g kd n p.toNat d) ∧ (clo f g kd n (bB x) ∨ r + 1 ≤ cnP (bB x) 10)
def coneJ (f g kd : Nat → Int) (n p x0 t x : Int) : Prop := ((0 ≤ x ∧ x < 1024) ∧ (0 ≤ x0 ∧ x0 < 1024)) ∧ bB x p.toNat ∧ (∀ d, bB x d → rch f g kd n p.toNat d) ∧ (∀ d, bB x0 d → bB x d) ∧ (∀ j : Nat, (j : Int) < t → kd j = 0 → bB x0 (f j).toNat → bB x (g j).toNat) ∧ (clo f g kd n (bB x0) → x = x0)
theorem coneI.start {x : Int} (hp : 0 ≤ p ∧ p ≤ 9) (q : bShl 1 p = x) : coneI f g kd n p 0 x := by
  obtain ⟨h1, h2⟩ := bB.one hp q
  refine ⟨h1, (h2 _).mpr rfl, fun d hd => ?_, Or.inr ?_⟩
  · rw [(h2 d).mp hd]; exact fun _ a _ => a
  · have := cnP.lt (P := fun _ => False) (Q := bB x) 10 (fun _ h => h.elim) ⟨p.toNat, by omega, (h2 _).mpr rfl, id⟩
    have h0 : cnP (fun _ => False) 10 = 0 := by
      have := cnP.most (P := fun _ => False) (m := 0) (fun _ h => h.elim) 10
      have h3 := cnP.far (P := fun _ => False) (m := 0) (fun _ h => h.elim) 10 (by decide)
      rw [h3]; rfl
    omega
theorem coneJ.start {r x : Int} (h : coneI f g kd n p r x) : coneJ f g kd n p x 0 x := ⟨⟨h.1, h.1⟩, h.2.1, h.2.2.1, fun _ q => q, fun j hj => by omega, fun _ => rfl⟩
theorem coneJ.skip1 {x0 t x kk : Int} (h : coneJ f g kd n p x0 t x) (h0 : 0 ≤ t) (qk : kd t.toNat = kk) (hk : ¬ kk = 0) : coneJ f g kd n p x0 (t + 1) x := by
  obtain ⟨a, b, c, d, e, i⟩ := h
  refine ⟨a, b, c, d, fun j hj hk' hs => ?_, i⟩
  by_cases q : (j : Int) = t
  · rw [show j = t.toNat by omega, qk] at hk'; exact absurd hk' hk
  · exact e j (by omega) hk' hs
theorem coneJ.skip2 {x0 t x a u v : Int} (h : coneJ f g kd n p x0 t x) (h0 : 0 ≤ t) (qa : f t.toNat = a) (ra : 0 ≤ a ∧ a ≤ 9) (q1 : bShr x a = u) (q2 : bAnd u 1 = v) (hv : v = 0) : coneJ f g kd n p x0 (t + 1) x := by
  obtain ⟨a', b, c, d, e, i⟩ := h
  refine ⟨a', b, c, d, fun j hj hk' hs => ?_, i⟩
  by_cases q : (j : Int) = t
  · rw [show j = t.toNat by omega, qa] at hs
    rcases bB.get a'.1 ra q1 q2 with ⟨z1, z2⟩ | ⟨z1, z2⟩
    · omega
    · exact absurd (d _ hs) z1
  · exact e j (by omega) hk' hs
theorem coneJ.add {x0 t x a u v b y x' kk : Int} (h : coneJ f g kd n p x0 t x) (h0 : 0 ≤ t ∧ t < n) (qk : kd t.toNat = kk) (hk : kk = 0) (qa : f t.toNat = a) (ra : 0 ≤ a ∧ a ≤ 9) (q1 : bShr x a = u) (q2 : bAnd u 1 = v) (hv : ¬ v = 0) (qb : g t.toNat = b) (rb : 0 ≤ b ∧ b ≤ 9) (q3 : bShl 1 b = y) (q4 : bOr x y = x') : coneJ f g kd n p x0 (t + 1) x' := by
  obtain ⟨a', b', c, d, e, i⟩ := h
  obtain ⟨h1, h2⟩ := bB.put a'.1 rb q3 q4
  have ha : bB x a.toNat := by
    rcases bB.get a'.1 ra q1 q2 with ⟨z1, _⟩ | ⟨_, z2⟩
    · exact z1
    · exact absurd z2 hv
  have kt : kd t.toNat = 0 := by rw [qk, hk]
  refine ⟨⟨h1, a'.2⟩, (h2 _).mpr (Or.inl b'), fun z hz => ?_, fun z hz => (h2 z).mpr (Or.inl (d z hz)), fun j hj hk' hs => ?_, fun cl => ?_⟩
  · rcases (h2 z).mp hz with q | q
    · exact c z q
    · rw [q, ← qb]
      exact fun S s1 s2 => s2 t.toNat (by omega) kt (by rw [qa]; exact c _ ha S s1 s2)
  · by_cases q : (j : Int) = t
    · rw [show j = t.toNat by omega, qb]; exact (h2 _).mpr (Or.inr rfl)
    · exact (h2 _).mpr (Or.inl (e j (by omega) hk' hs))
  · have ex := i cl
    have hb : bB x b.toNat := by
      rw [← qb]
      have := cl t.toNat (by omega) kt (by rw [qa, ← ex]; exact ha)
      rw [ex]; exact this
    rw [← ex]
    refine bB.ext h1.1 a'.1.1 fun z => ?_
    rw [h2 z]
    constructor
    · rintro (q | q)
      · exact q
      · rw [q]; exact hb
    · exact Or.inl
theorem coneI.next {r x0 t x : Int} (h : coneI f g kd n p r x0) (j : coneJ f g kd n p x0 t x) (ht : n ≤ t) : coneI f g kd n p (r + 1) x := by
  obtain ⟨a, b, c, d, e, i⟩ := j
  refine ⟨a.1, b, c, ?_⟩
  by_cases q : x = x0
  · refine Or.inl fun s hs hk hx => ?_
    exact e s (by omega) hk (by rw [← q]; exact hx)
  · rcases h.2.2.2 with k | k
    · exact absurd (i k) q
    · have : ∃ z, z < 10 ∧ bB x z ∧ ¬ bB x0 z := by
        apply Classical.byContradiction
        intro ne
        refine q (bB.ext a.1.1 a.2.1 fun z => ⟨fun hz => ?_, d z⟩)
        apply Classical.byContradiction
        intro hn
        exact ne ⟨z, bB.lt a.1 hz, hz, hn⟩
      have := cnP.lt 10 d this
      exact Or.inr (by omega)
theorem coneI.end {r x m : Int} (h : coneI f g kd n p r x) (hr : m ≤ r) (hp : 0 ≤ p ∧ p < m) (hg : ∀ t : Nat, (t : Int) < n → 0 ≤ g t ∧ g t < m) : (0 ≤ x ∧ x < 1024) ∧ ∀ d, bB x d ↔ rch f g kd n p.toNat d := by
  obtain ⟨a, b, c, d⟩ := h
  refine ⟨a, fun z => ⟨c z, fun hz => ?_⟩⟩
  have lt : ∀ z, bB x z → z < m.toNat := fun z hz => rch.lt (by omega) (fun t ht => by have := hg t ht; omega) (c z hz)
  rcases d with d | d
  · exact hz (bB x) b d
  · have := (cnP.most lt 10).1
    omega
end CONE
/-- the answer of cone -/
def conA (P : Nat → Prop) (dm p2 z : Int) : Prop := (p2 = -1 → z = cnP P dm.toNat) ∧ (0 ≤ p2 → (P p2.toNat ∧ z = 1) ∨ (¬ P p2.toNat ∧ z = 0))
theorem conA.eq {P Q : Nat → Prop} {dm p2 z z' : Int} (h : conA P dm p2 z) (k : conA Q dm p2 z') (e : ∀ d, P d ↔ Q d) (hp : p2 = -1 ∨ 0 ≤ p2) : z = z' := by
  rcases hp with hp | hp
  · rw [h.1 hp, k.1 hp]; exact cnP.cg _ fun d _ => e d
  · rcases h.2 hp with ⟨a, b⟩ | ⟨a, b⟩ <;> rcases k.2 hp with ⟨c, d⟩ | ⟨c, d⟩
    · omega
    · exact absurd ((e _).mp a) c
    · exact absurd ((e _).mpr c) a
    · omega
