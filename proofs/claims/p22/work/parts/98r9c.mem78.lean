/-! Messages: one attribute of the class, all of them. -/
theorem ntR.of {μ μ0 μ1 : mM} {a : Nat} {p k : Int} (n : ntR μ0 μ1 a p k) (e : μ0 a = μ a) : ntR μ μ1 a p k := by
  unfold ntR at n ⊢
  rw [← e]; exact n
/-- a type unseen has nothing there -/
def oz (μ : mM) : Prop := (μ 77 1 = 0 → μ 76 7 = 0) ∧ (μ 77 2 = 0 → μ 76 8 = 0)
def o77 (μ μ1 : mM) (t : Int) : Prop := μ1 77 t.toNat = 1 ∧ ∀ j : Nat, j ≠ t.toNat → μ1 77 j = μ 77 j
theorem o77.mk {μ μ' μ1 : mM} {t : Int} (u : mU μ 77 t.toNat 1 μ') (e : μ1 77 = μ' 77) : o77 μ μ1 t := by
  unfold o77
  rw [e]
  exact ⟨u.1, fun j hj => u.2 77 j (Or.inr hj)⟩
theorem o77.snE {μ μ1 : mM} {t : Int} (h : o77 μ μ1 t) (ht : 0 ≤ t ∧ t < 256) : sn (μ1 77) = fun j => if j = t.toNat then 1 else sn (μ 77) j := by
  funext j
  unfold sn
  by_cases c : j = t.toNat
  · subst c
    rw [if_pos (by omega), if_pos rfl, h.1]
  · rw [if_neg c, h.2 j c]
theorem oz.same {μ μ1 : mM} {o v : Int} (h : oz μ) (e : μ1 77 = μ 77) (qo : μ 76 7 = o) (qo1 : μ1 76 7 = o) (qv : μ 76 8 = v) (qv1 : μ1 76 8 = v) : oz μ1 := by
  unfold oz
  rw [e, qo1, qv1, ← qo, ← qv]
  exact h
theorem oz.up {μ μ1 : mM} {t o o1 v v1 : Int} (h : oz μ) (ht : 0 ≤ t) (u : o77 μ μ1 t) (qo : μ 76 7 = o) (qo1 : μ1 76 7 = o1) (qv : μ 76 8 = v) (qv1 : μ1 76 8 = v1) (ho : t = 1 ∨ o1 = o) (hv : t = 2 ∨ v1 = v) : oz μ1 := by
  constructor
  · intro g
    by_cases c : (1 : Nat) = t.toNat
    · have := u.1
      rw [← c, g] at this
      exact absurd this (by decide)
    · rcases ho with e | e
      · omega
      · rw [qo1, e, ← qo]
        exact h.1 ((u.2 1 c).symm.trans g)
  · intro g
    by_cases c : (2 : Nat) = t.toNat
    · have := u.1
      rw [← c, g] at this
      exact absurd this (by decide)
    · rcases hv with e | e
      · omega
      · rw [qv1, e, ← qv]
        exact h.2 ((u.2 2 c).symm.trans g)
theorem stA.seen {B : Int → Int} {μ μ1 : mM} {k t x o v : Int} (qB : B (k + 1) = t) (ht : 0 ≤ t ∧ t < 256) (q : μ 77 t.toNat = x) (hx : ¬ x = 0) (e : μ1 77 = μ 77) (qo : μ 76 7 = o) (qo1 : μ1 76 7 = o) (qv : μ 76 8 = v) (qv1 : μ1 76 8 = v) (n : ntR μ μ1 80 3 k) : stA B k (sMC μ) (sMC μ1) := by
  refine Or.inl ⟨?_, ?_, ?_, ?_, ?_, ?_⟩
  · show ¬ sn (μ 77) (B (k + 1)).toNat = 0
    rw [qB, sn.at ht q]; exact hx
  · show sn (μ1 77) = sn (μ 77)
    rw [e]
  · show μ1 76 7 = μ 76 7
    rw [qo, qo1]
  · show μ1 76 8 = μ 76 8
    rw [qv, qv1]
  · show μ1 80 2 = μ 80 2
    exact n.2 2 (by decide)
  · exact n.1
theorem stA.new {B : Int → Int} {μ μ1 : mM} {k t x o o1 v v1 : Int} (qB : B (k + 1) = t) (ht : 0 ≤ t ∧ t < 256) (q : μ 77 t.toNat = x) (hx : x = 0) (u : o77 μ μ1 t) (qo : μ 76 7 = o) (qo1 : μ1 76 7 = o1) (qv : μ 76 8 = v) (qv1 : μ1 76 8 = v1) (ho : (t = 1 ∧ okA B k ∧ o1 = 1) ∨ (¬ (t = 1 ∧ okA B k) ∧ o1 = o)) (hv : (t = 2 ∧ okA B k ∧ v1 = 1) ∨ (¬ (t = 2 ∧ okA B k) ∧ v1 = v)) (hf : (okA B k ∧ μ1 80 = μ 80) ∨ (¬ okA B k ∧ ntR μ μ1 80 2 k)) : stA B k (sMC μ) (sMC μ1) := by
  subst qB qo qo1 qv qv1
  refine Or.inr ⟨?_, ?_, ?_, ?_, ?_, ?_⟩
  · show sn (μ 77) (B (k + 1)).toNat = 0
    rw [sn.at ht q]; exact hx
  · exact u.snE ht
  · exact ho
  · exact hv
  · rcases hf with ⟨a, b⟩ | ⟨a, b⟩
    · exact Or.inl ⟨a, by show μ1 80 2 = μ 80 2; rw [b]⟩
    · exact Or.inr ⟨a, b.1⟩
  · rcases hf with ⟨a, b⟩ | ⟨a, b⟩
    · show μ1 80 3 = μ 80 3
      rw [b]
    · exact b.2 3 (by decide)
/-- a right attribute of type 1, of type 2, of another; a wrong one -/
theorem stA.k1 {B : Int → Int} {μ μ1 : mM} {k t x o o1 v : Int} (qB : B (k + 1) = t) (ht : t = 1) (q : μ 77 t.toNat = x) (hx : x = 0) (u : o77 μ μ1 t) (qo : μ 76 7 = o) (qo1 : μ1 76 7 = o1) (qv : μ 76 8 = v) (qv1 : μ1 76 8 = v) (a : okA B k) (h1 : o1 = 1) (e : μ1 80 = μ 80) : stA B k (sMC μ) (sMC μ1) :=
  stA.new qB (by omega) q hx u qo qo1 qv qv1 (Or.inl ⟨ht, a, h1⟩) (Or.inr ⟨fun g => absurd g.1 (by omega), rfl⟩) (Or.inl ⟨a, e⟩)
theorem stA.n1 {B : Int → Int} {μ μ1 : mM} {k t x o o1 v : Int} (h : oz μ) (qB : B (k + 1) = t) (ht : t = 1) (q : μ 77 t.toNat = x) (hx : x = 0) (u : o77 μ μ1 t) (qo : μ 76 7 = o) (qo1 : μ1 76 7 = o1) (qv : μ 76 8 = v) (qv1 : μ1 76 8 = v) (a : ¬ okA B k) (h1 : o1 = 0) (n : ntR μ μ1 80 2 k) : stA B k (sMC μ) (sMC μ1) :=
  stA.new qB (by omega) q hx u qo qo1 qv qv1 (Or.inr ⟨fun g => a g.2, by
    subst ht
    have g : μ 77 1 = 0 := q.trans hx
    rw [h1, ← qo, h.1 g]⟩) (Or.inr ⟨fun g => a g.2, rfl⟩) (Or.inr ⟨a, n⟩)
theorem stA.k2 {B : Int → Int} {μ μ1 : mM} {k t x o v v1 : Int} (qB : B (k + 1) = t) (ht : t = 2) (q : μ 77 t.toNat = x) (hx : x = 0) (u : o77 μ μ1 t) (qo : μ 76 7 = o) (qo1 : μ1 76 7 = o) (qv : μ 76 8 = v) (qv1 : μ1 76 8 = v1) (a : okA B k) (h1 : v1 = 1) (e : μ1 80 = μ 80) : stA B k (sMC μ) (sMC μ1) :=
  stA.new qB (by omega) q hx u qo qo1 qv qv1 (Or.inr ⟨fun g => absurd g.1 (by omega), rfl⟩) (Or.inl ⟨ht, a, h1⟩) (Or.inl ⟨a, e⟩)
theorem stA.n2 {B : Int → Int} {μ μ1 : mM} {k t x o v v1 : Int} (h : oz μ) (qB : B (k + 1) = t) (ht : t = 2) (q : μ 77 t.toNat = x) (hx : x = 0) (u : o77 μ μ1 t) (qo : μ 76 7 = o) (qo1 : μ1 76 7 = o) (qv : μ 76 8 = v) (qv1 : μ1 76 8 = v1) (a : ¬ okA B k) (h1 : v1 = 0) (n : ntR μ μ1 80 2 k) : stA B k (sMC μ) (sMC μ1) :=
  stA.new qB (by omega) q hx u qo qo1 qv qv1 (Or.inr ⟨fun g => a g.2, rfl⟩) (Or.inr ⟨fun g => a g.2, by
    subst ht
    have g : μ 77 2 = 0 := q.trans hx
    rw [h1, ← qv, h.2 g]⟩) (Or.inr ⟨a, n⟩)
theorem stA.kx {B : Int → Int} {μ μ1 : mM} {k t x o v : Int} (qB : B (k + 1) = t) (ht : 0 ≤ t ∧ t < 256) (t1 : ¬ t = 1 ∧ ¬ t = 2) (q : μ 77 t.toNat = x) (hx : x = 0) (u : o77 μ μ1 t) (qo : μ 76 7 = o) (qo1 : μ1 76 7 = o) (qv : μ 76 8 = v) (qv1 : μ1 76 8 = v) (a : okA B k) (e : μ1 80 = μ 80) : stA B k (sMC μ) (sMC μ1) :=
  stA.new qB ht q hx u qo qo1 qv qv1 (Or.inr ⟨fun g => t1.1 g.1, rfl⟩) (Or.inr ⟨fun g => t1.2 g.1, rfl⟩) (Or.inl ⟨a, e⟩)
theorem stA.nx {B : Int → Int} {μ μ1 : mM} {k t x o v : Int} (qB : B (k + 1) = t) (ht : 0 ≤ t ∧ t < 256) (t1 : ¬ t = 1 ∧ ¬ t = 2) (q : μ 77 t.toNat = x) (hx : x = 0) (u : o77 μ μ1 t) (qo : μ 76 7 = o) (qo1 : μ1 76 7 = o) (qv : μ 76 8 = v) (qv1 : μ1 76 8 = v) (a : ¬ okA B k) (n : ntR μ μ1 80 2 k) : stA B k (sMC μ) (sMC μ1) :=
  stA.new qB ht q hx u qo qo1 qv qv1 (Or.inr ⟨fun g => t1.1 g.1, rfl⟩) (Or.inr ⟨fun g => t1.2 g.1, rfl⟩) (Or.inr ⟨a, n⟩)
/-- when an attribute is right -/
theorem okA.no {B : Int → Int} {k b f t : Int} (q0 : B k = b) (qf : bAnd b 207 = f) (q1 : B (k + 1) = t) (h : (t = 1 ∧ ¬ f = 64) ∨ (t = 2 ∧ ¬ f = 64) ∨ (t = 4 ∧ ¬ f = 128) ∨ (t = 8 ∧ ¬ f = 192)) : ¬ okA B k := by
  unfold okA
  rw [q0, q1, qf]
  rintro (⟨a, b, _⟩ | ⟨a, b, _⟩ | ⟨a, b, _⟩ | ⟨a, b, _⟩ | ⟨⟨a, b, c, d⟩, _⟩) <;> omega
theorem okA.i1 {B : Int → Int} {k b f t z c n : Int} (q0 : B k = b) (qf : bAnd b 207 = f) (q1 : B (k + 1) = t) (ht : t = 1) (hf : f = 64) (hc : c = k + hdA B k) (hn : n = szA B k) (r : z = 1 ↔ n = 1 ∧ B c ≤ 2) : okA B k ↔ z = 1 := by
  rw [r, hn, hc]
  constructor
  · unfold okA
    rw [q0, q1, qf]
    rintro (⟨_, _, a, b⟩ | ⟨a, _⟩ | ⟨a, _⟩ | ⟨a, _⟩ | ⟨⟨a, _⟩, _⟩)
    · exact ⟨a, b⟩
    · omega
    · omega
    · omega
    · exact absurd ht a
  · rintro ⟨a, b⟩
    exact Or.inl ⟨q1.trans ht, by rw [q0, qf]; exact hf, a, b⟩
theorem okA.i2 {B : Int → Int} {k b f t z c n : Int} (q0 : B k = b) (qf : bAnd b 207 = f) (q1 : B (k + 1) = t) (ht : t = 2) (hf : f = 64) (hc : c = k + hdA B k) (hn : n = szA B k) (r : z = 1 ↔ wyX B (c + n) c 0) : okA B k ↔ z = 1 := by
  rw [r, hn, hc]
  constructor
  · unfold okA nxA
    rw [q0, q1, qf]
    rintro (⟨a, _⟩ | ⟨_, _, a⟩ | ⟨a, _⟩ | ⟨a, _⟩ | ⟨⟨_, a, _⟩, _⟩)
    · omega
    · exact a
    · omega
    · omega
    · exact absurd ht a
  · intro a
    exact Or.inr (Or.inl ⟨q1.trans ht, by rw [q0, qf]; exact hf, a⟩)
theorem okA.y4 {B : Int → Int} {k b f t n : Int} (q0 : B k = b) (qf : bAnd b 207 = f) (q1 : B (k + 1) = t) (hn : n = szA B k) (h : (t = 4 ∧ f = 128 ∧ n = 4) ∨ (t = 8 ∧ f = 192 ∧ n % 4 = 0)) : okA B k := by
  rcases h with ⟨a, b, c⟩ | ⟨a, b, c⟩
  · exact Or.inr (Or.inr (Or.inl ⟨q1.trans a, by rw [q0, qf]; exact b, hn.symm.trans c⟩))
  · exact Or.inr (Or.inr (Or.inr (Or.inl ⟨q1.trans a, by rw [q0, qf]; exact b, by rw [← hn]; exact c⟩)))
theorem okA.n4 {B : Int → Int} {k t n : Int} (q1 : B (k + 1) = t) (hn : n = szA B k) (h : (t = 4 ∧ ¬ n = 4) ∨ (t = 8 ∧ ¬ n % 4 = 0)) : ¬ okA B k := by
  unfold okA
  rw [q1, ← hn]
  rintro (⟨a, b, _⟩ | ⟨a, b, _⟩ | ⟨a, b, _⟩ | ⟨a, b, _⟩ | ⟨⟨a, b, c, d⟩, _⟩) <;> omega
theorem okA.o {B : Int → Int} {k b g t : Int} (q0 : B k = b) (qg : bAnd b 128 = g) (q1 : B (k + 1) = t) (ht : ¬ t = 1 ∧ ¬ t = 2 ∧ ¬ t = 4 ∧ ¬ t = 8) : okA B k ↔ ¬ g = 0 := by
  constructor
  · unfold okA
    rw [q0, q1, qg]
    rintro (⟨a, _⟩ | ⟨a, _⟩ | ⟨a, _⟩ | ⟨a, _⟩ | ⟨_, a⟩)
    · exact absurd a ht.1
    · exact absurd a ht.2.1
    · exact absurd a ht.2.2.1
    · exact absurd a ht.2.2.2
    · exact a
  · intro a
    exact Or.inr (Or.inr (Or.inr (Or.inr ⟨by rw [q1]; exact ht, by rw [q0, qg]; exact a⟩)))
/-- the head and the size of the attribute at k -/
theorem hdA.is {B : Int → Int} {k b f c : Int} (q : B k = b) (qf : bAnd b 16 = f) (hc : (f = 0 ∧ c = k + 3) ∨ (¬ f = 0 ∧ c = k + 4)) : c = k + hdA B k := by
  unfold hdA
  rw [q, qf]
  rcases hc with ⟨a, b⟩ | ⟨a, b⟩
  · rw [if_pos a]; exact b
  · rw [if_neg a]; exact b
theorem szA.is1 {B : Int → Int} {k b f n e : Int} (q : B k = b) (qf : bAnd b 16 = f) (hf : f = 0) (he : e = k + 2) (qn : B e = n) : n = szA B k := by
  subst he
  unfold szA
  rw [q, qf, if_pos hf]; exact qn.symm
theorem szA.is2 {B : Int → Int} {k b f n e : Int} (q : B k = b) (qf : bAnd b 16 = f) (hf : ¬ f = 0) (he : e = k + 2) (qn : prA B e = n) : n = szA B k := by
  subst he
  unfold szA
  rw [q, qf, if_neg hf]; exact qn.symm
theorem tlA.i1 {B : Int → Int} {e k c : Int} (hc : c = k + hdA B k) (h : e < c) : tlA B e k := Or.inl (by rw [← hc]; exact h)
theorem tlA.i2 {B : Int → Int} {e k c n : Int} (hc : c = k + hdA B k) (hn : n = szA B k) (h : e < c + n) : tlA B e k := Or.inr (by rw [← hc, ← hn]; exact h)
theorem tlA.no {B : Int → Int} {e k c n : Int} (hc : c = k + hdA B k) (hn : n = szA B k) (h : c + n ≤ e) (h0 : 0 ≤ n) : ¬ tlA B e k := by
  unfold tlA
  rw [← hc, ← hn]
  omega
theorem atX.bad' {B : Int → Int} {μ μ1 : mM} {e k o v : Int} (h : k < e) (t : tlA B e k) (e7 : μ1 77 = μ 77) (qo : μ 76 7 = o) (qo1 : μ1 76 7 = o) (qv : μ 76 8 = v) (qv1 : μ1 76 8 = v) (n : ntR μ μ1 80 2 k) : atX B e k (sMC μ) (sMC μ1) := by
  have g := atX.bad (s := sMC μ) h t n.1
  have q : sMC μ1 = ((sMC μ).1, (sMC μ).2.1, (sMC μ).2.2.1, μ1 80 (2 : Int).toNat, (sMC μ).2.2.2.2) := by
    refine AS.ext ?_ ?_ ?_ ?_ ?_
    · show sn (μ1 77) = sn (μ 77)
      rw [e7]
    · show μ1 76 7 = μ 76 7
      rw [qo, qo1]
    · show μ1 76 8 = μ 76 8
      rw [qv, qv1]
    · rfl
    · show μ1 80 3 = μ 80 3
      exact n.2 3 (by decide)
  rw [q]; exact g
theorem atX.next {B : Int → Int} {e k k' c n : Int} {s0 s s1 : AS} {k0 : Int} (h : ∀ r, atX B e k s r → atX B e k0 s0 r) (hk : k < e) (hc : c = k + hdA B k) (hn : n = szA B k) (hl : c + n ≤ e) (h0 : 0 ≤ n) (g : stA B k s s1) (hk' : k' = c + n) : ∀ r, atX B e k' s1 r → atX B e k0 s0 r := fun r x => h r (atX.step hk (tlA.no hc hn hl h0) g (by
  have e' : nxA B k = k' := by unfold nxA; rw [hk', ← hc, ← hn]
  rw [e']; exact x))
theorem sMC.of {μ μ1 : mM} {o v : Int} (e7 : μ1 77 = μ 77) (qo : μ 76 7 = o) (qo1 : μ1 76 7 = o) (qv : μ 76 8 = v) (qv1 : μ1 76 8 = v) (e8 : μ1 80 = μ 80) : sMC μ1 = sMC μ := by
  refine AS.ext ?_ ?_ ?_ ?_ ?_
  · show sn (μ1 77) = sn (μ 77)
    rw [e7]
  · show μ1 76 7 = μ 76 7
    rw [qo, qo1]
  · show μ1 76 8 = μ 76 8
    rw [qv, qv1]
  · show μ1 80 2 = μ 80 2
    rw [e8]
  · show μ1 80 3 = μ 80 3
    rw [e8]
