/-! Rings: the class's steps back, the reference's levels, the row. -/
section RG
variable {E : Nat → Nat → Prop} {d : Nat}
theorem lev.one {a b n : Nat} (e : E a b) (h : lev E d n b) : lev E d (n + 1) a := ⟨b, e, h⟩
theorem lev.leastp {a : Nat} : ∀ n, 1 ≤ n → lev E d n a → ∃ m, m ≤ n ∧ minp E d m a := by
  intro n
  induction n using Nat.strongRecOn with
  | _ n ih =>
    intro hn hl
    by_cases c : ∃ j, 1 ≤ j ∧ j < n ∧ lev E d j a
    · obtain ⟨j, a1, a2, a3⟩ := c
      obtain ⟨k, b1, b2⟩ := ih j a2 a1 a3
      exact ⟨k, by omega, b2⟩
    · exact ⟨n, Nat.le_refl n, hn, hl, fun j a1 a2 a3 => c ⟨j, a1, a2, a3⟩⟩
/-- what stands in the class's row: real paths -/
def sbS (E : Nat → Nat → Prop) (d : Nat) (f : Nat → Int) (s : Int) : Prop := f d = 0 ∧ (∀ a, a < 10 → (f a = 11 ∨ ∃ m : Nat, f a = (m : Int) ∧ lev E d m a)) ∧ (s = 11 ∨ ∃ m : Nat, s = (m : Int) ∧ 1 ≤ m ∧ lev E d m d)
/-- levels up to r are met -/
def sbC (E : Nat → Nat → Prop) (d : Nat) (f : Nat → Int) (s : Int) (r : Int) : Prop := (∀ a m : Nat, minl E d m a → (m : Int) ≤ r → f a ≤ (m : Int)) ∧ (∀ m : Nat, minp E d m d → (m : Int) ≤ r → s ≤ (m : Int))
/-- ties below t are done in this round -/
def sbD (fa ga kd : Nat → Int) (E : Nat → Nat → Prop) (d : Nat) (f : Nat → Int) (s r t : Int) : Prop := sbS E d f s ∧ sbC E d f s r ∧ ∀ i : Nat, (i : Int) < t → kd i = 0 → ∀ m : Nat, minl E d m (ga i).toNat → (m : Int) ≤ r → ((fa i).toNat = d → s ≤ (m : Int) + 1) ∧ ((fa i).toNat ≠ d → f (fa i).toNat ≤ (m : Int) + 1)
theorem sbS.start {f : Nat → Int} (h : ∀ a, a < 10 → a ≠ d → f a = 11) (h0 : f d = 0) : sbS E d f 11 := ⟨h0, fun a ha => by
  by_cases c : a = d
  · subst c; exact Or.inr ⟨0, h0, rfl⟩
  · exact Or.inl (h a ha c), Or.inl rfl⟩
theorem sbC.start {f : Nat → Int} (h0 : f d = 0) : sbC E d f 11 0 := ⟨fun a m h k => by
  have e : m = 0 := by omega
  subst e
  have e2 : a = d := h.1
  have e3 : f a = 0 := by rw [e2]; exact h0
  omega, fun m h k => by have := h.1; omega⟩
theorem sbD.start {fa ga kd f : Nat → Int} {s r t : Int} (h : sbS E d f s) (k : sbC E d f s r) (ht : t ≤ 0) : sbD fa ga kd E d f s r t := ⟨h, k, fun i hi => by omega⟩
theorem sbD.skip {fa ga kd f : Nat → Int} {s r t v : Int} (h : sbD fa ga kd E d f s r t) (h0 : 0 ≤ t) (q : kd t.toNat = v) (hv : ¬ v = 0) : sbD fa ga kd E d f s r (t + 1) := ⟨h.1, h.2.1, fun i hi hk => by
  by_cases c : (i : Int) < t
  · exact h.2.2 i c hk
  · rw [show i = t.toNat by omega, q] at hk; exact absurd hk hv⟩
/-- the tie at t leads from a to b: the ring's own -/
theorem sbD.ring {fa ga kd f : Nat → Int} {n s r t a b v x s' k : Int} (h : sbD fa ga kd (edg fa ga kd n) d f s r t) (h0 : 0 ≤ t ∧ t < n) (qk : kd t.toNat = k) (hk : k = 0) (qa : fa t.toNat = a) (qb : ga t.toNat = b) (ha : a.toNat = d) (qv : f b.toNat = v) (hx : x = v + 1) (hs : (s ≤ x ∧ s' = s) ∨ (x ≤ s ∧ s' = x)) (hr : s ≤ 11) (hb : 0 ≤ b ∧ b ≤ 9) : sbD fa ga kd (edg fa ga kd n) d f s' r (t + 1) := by
  obtain ⟨⟨h1, h2, h3⟩, ⟨c1, c2⟩, h4⟩ := h
  have ed : edg fa ga kd n d b.toNat := ⟨t.toNat, by omega, by rw [qk]; exact hk, by rw [qa]; exact ha, by rw [qb]⟩
  have le : s' ≤ s := by omega
  refine ⟨⟨h1, h2, ?_⟩, ⟨c1, fun m hm hr => by have := c2 m hm hr; omega⟩, fun i hi hk m hm hr => ?_⟩
  · rcases hs with ⟨_, e⟩ | ⟨e1, e⟩
    · rw [e]; exact h3
    · rcases h2 b.toNat (by omega) with g | ⟨m, g1, g2⟩
      · exact absurd e1 (by omega)
      · exact Or.inr ⟨m + 1, by omega, by omega, lev.one ed g2⟩
  · by_cases c : (i : Int) < t
    · obtain ⟨g1, g2⟩ := h4 i c hk m hm hr
      exact ⟨fun e => by have := g1 e; omega, g2⟩
    · have ei : i = t.toNat := by omega
      subst ei
      rw [qb] at hm
      rw [qa]
      have := c1 _ m hm hr
      exact ⟨fun _ => by clear h3; omega, fun e => absurd ha e⟩
/-- the tie at t leads from a to b: another place's steps -/
theorem sbD.put {fa ga kd f f' : Nat → Int} {n s r t a b v u x y k : Int} (h : sbD fa ga kd (edg fa ga kd n) d f s r t) (h0 : 0 ≤ t ∧ t < n) (qk : kd t.toNat = k) (hk : k = 0) (qa : fa t.toNat = a) (qb : ga t.toNat = b) (ha : ¬ a.toNat = d) (qv : f b.toNat = v) (qu : f a.toNat = u) (hx : x = v + 1) (hu : u ≤ 11) (hb : 0 ≤ b ∧ b ≤ 9) (ha9 : 0 ≤ a ∧ a ≤ 9) (hy : (u ≤ x ∧ y = u) ∨ (x ≤ u ∧ y = x)) (e1 : f' a.toNat = y) (e2 : ∀ i, i ≠ a.toNat → f' i = f i) : sbD fa ga kd (edg fa ga kd n) d f' s r (t + 1) := by
  obtain ⟨⟨h1, h2, h3⟩, ⟨c1, c2⟩, h4⟩ := h
  have ed : edg fa ga kd n a.toNat b.toNat := ⟨t.toNat, by omega, by rw [qk]; exact hk, by rw [qa], by rw [qb]⟩
  have le : ∀ i, f' i ≤ f i := fun i => by
    by_cases c : i = a.toNat
    · rw [c, e1, qu]; clear h3; omega
    · rw [e2 i c]; exact Int.le_refl _
  refine ⟨⟨by rw [e2 d (fun e => ha e.symm)]; exact h1, fun i hi => ?_, h3⟩, ⟨fun i m hm hr => by have := c1 i m hm hr; have := le i; omega, c2⟩, fun i hi hk m hm hr => ?_⟩
  · by_cases c : i = a.toNat
    · rw [c, e1]
      rcases hy with ⟨_, e⟩ | ⟨g1, e⟩
      · rw [e, ← qu]; exact h2 a.toNat (by omega)
      · rcases h2 b.toNat (by omega) with g | ⟨m, g2, g3⟩
        · exact absurd g1 (by omega)
        · exact Or.inr ⟨m + 1, by omega, lev.one ed g3⟩
    · rw [e2 i c]; exact h2 i hi
  · by_cases c : (i : Int) < t
    · obtain ⟨g1, g2⟩ := h4 i c hk m hm hr
      exact ⟨g1, fun e => by have := g2 e; have := le (fa i).toNat; omega⟩
    · have ei : i = t.toNat := by omega
      subst ei
      rw [qb] at hm
      rw [qa]
      have := c1 _ m hm hr
      exact ⟨fun e => absurd e ha, fun _ => by rw [e1]; clear h3; omega⟩
/-- a round is done -/
theorem sbD.next {fa ga kd f : Nat → Int} {n s r t : Int} (h : sbD fa ga kd (edg fa ga kd n) d f s r t) (ht : n ≤ t) (hr : 0 ≤ r) : sbC (edg fa ga kd n) d f s (r + 1) := by
  obtain ⟨_, ⟨c1, c2⟩, h4⟩ := h
  refine ⟨fun a m hm hr => ?_, fun m hm hr => ?_⟩
  · by_cases c : (m : Int) ≤ r
    · exact c1 a m hm c
    · obtain ⟨k, rfl⟩ : ∃ k, m = k + 1 := ⟨m - 1, by omega⟩
      obtain ⟨b, ⟨i, i1, i2, i3, i4⟩, hb⟩ := hm.step
      have nd : a ≠ d := fun e => hm.2 0 (by omega) e
      have := (h4 i (by omega) i2 k (by rw [i4]; exact hb) (by omega)).2 (by rw [i3]; exact nd)
      rw [i3] at this
      omega
  · by_cases c : (m : Int) ≤ r
    · exact c2 m hm c
    · obtain ⟨b, ⟨i, i1, i2, i3, i4⟩, hb⟩ := minp.self hm
      have h1 := hm.1
      have := (h4 i (by omega) i2 (m - 1) (by rw [i4]; exact hb) (by omega)).1 i3
      omega
/-- what the class has found -/
def shZ (E : Nat → Nat → Prop) (d : Nat) (z : Int) : Prop := (z = 0 ∧ ∀ m, ¬ minp E d m d) ∨ ∃ m : Nat, z = (m : Int) ∧ minp E d m d
def sbT (E : Nat → Nat → Prop) (d : Nat) (f : Nat → Int) : Prop := ∀ a m : Nat, a < 10 → 1 ≤ m → m ≤ 10 → (f a = (m : Int) ↔ a ≠ d ∧ minl E d m a)
theorem sbS.tab {f : Nat → Int} {s r : Int} {dm : Nat} (h : sbS E d f s) (k : sbC E d f s r) (hd : d < dm) (hE : ∀ a b, E a b → a < dm) (hm : dm ≤ 10) (hr : (dm : Int) ≤ r) : sbT E d f := fun a m ha h1 h2 => by
  constructor
  · intro q
    have nd : a ≠ d := fun e => by rw [e, h.1] at q; omega
    rcases h.2.1 a ha with g | ⟨m', g1, g2⟩
    · omega
    · have e : m' = m := by omega
      subst e
      obtain ⟨m0, a1, a2⟩ := lev.least m' g2
      have := k.1 a m0 a2 (by have := a2.lt hd hE; omega)
      have e : m0 = m' := by omega
      subst e
      exact ⟨nd, a2⟩
  · rintro ⟨nd, q⟩
    have hl := q.lt hd hE
    have := k.1 a m q (by omega)
    rcases h.2.1 a ha with g | ⟨m', g1, g2⟩
    · omega
    · by_cases c : m' < m
      · exact absurd g2 (q.2 m' c)
      · omega
theorem sbS.ans {f : Nat → Int} {s r z : Int} {dm : Nat} (h : sbS E d f s) (k : sbC E d f s r) (hd : d < dm) (hE : ∀ a b, E a b → a < dm) (hm : dm ≤ 10) (hr : (dm : Int) ≤ r) (hz : (s < 11 ∧ z = s) ∨ (11 ≤ s ∧ z = 0)) : shZ E d z := by
  rcases hz with ⟨g, e⟩ | ⟨g, e⟩
  · rcases h.2.2 with q | ⟨m, q1, q2, q3⟩
    · omega
    · obtain ⟨m0, a1, a2⟩ := lev.leastp m q2 q3
      have := k.2 m0 a2 (by have := minp.le hd hE a2; omega)
      exact Or.inr ⟨m0, by omega, a2⟩
  · refine Or.inl ⟨e, fun m hm => ?_⟩
    have := k.2 m hm (by have := minp.le hd hE hm; omega)
    have := minp.le hd hE hm
    omega
/-- the least customer so many steps away -/
def lcI (fa ga kd f : Nat → Int) (n p q t x : Int) : Prop := (x = 10 ∨ ((0 ≤ x ∧ x ≤ 9) ∧ edg fa ga kd n p.toNat x.toNat ∧ f x.toNat = q)) ∧ ∀ i : Nat, (i : Int) < t → kd i = 0 → fa i = p → f (ga i).toNat = q → x ≤ ga i
theorem lcI.start {fa ga kd f : Nat → Int} {n p q t : Int} (ht : t ≤ 0) : lcI fa ga kd f n p q t 10 := ⟨Or.inl rfl, fun i hi => by omega⟩
theorem lcI.skip {fa ga kd f : Nat → Int} {n p q t x : Int} (h : lcI fa ga kd f n p q t x) (h0 : 0 ≤ t) (hn : ¬ (kd t.toNat = 0 ∧ fa t.toNat = p ∧ f (ga t.toNat).toNat = q)) : lcI fa ga kd f n p q (t + 1) x := ⟨h.1, fun i hi h1 h2 h3 => by
  by_cases c : (i : Int) < t
  · exact h.2 i c h1 h2 h3
  · have ei : i = t.toNat := by omega
    subst ei
    exact absurd ⟨h1, h2, h3⟩ hn⟩
theorem lcI.hit {fa ga kd f : Nat → Int} {n p q t x b x' : Int} (h : lcI fa ga kd f n p q t x) (h0 : 0 ≤ t ∧ t < n) (h1 : kd t.toNat = 0) (h2 : fa t.toNat = p) (h3 : ga t.toNat = b) (h4 : f b.toNat = q) (hb : 0 ≤ b ∧ b ≤ 9) (hx : (x ≤ b ∧ x' = x) ∨ (b ≤ x ∧ x' = b)) : lcI fa ga kd f n p q (t + 1) x' := by
  refine ⟨?_, fun i hi g1 g2 g3 => ?_⟩
  · rcases hx with ⟨_, e⟩ | ⟨_, e⟩
    · rw [e]; exact h.1
    · rw [e]
      exact Or.inr ⟨hb, ⟨t.toNat, by omega, h1, by rw [h2], by rw [h3]⟩, h4⟩
  · by_cases c : (i : Int) < t
    · have := h.2 i c g1 g2 g3; omega
    · have ei : i = t.toNat := by omega
      subst ei
      rw [h3]; omega
def lcZ (E : Nat → Nat → Prop) (f : Nat → Int) (p : Nat) (q z : Int) : Prop := (z = 10 ∧ ∀ b : Nat, b < 10 → ¬ (E p b ∧ f b = q)) ∨ ((0 ≤ z ∧ z ≤ 9) ∧ E p z.toNat ∧ f z.toNat = q ∧ ∀ b : Nat, (b : Int) < z → ¬ (E p b ∧ f b = q))
theorem lcI.fin {fa ga kd f : Nat → Int} {n p q t x : Int} (h : lcI fa ga kd f n p q t x) (ht : n ≤ t) (hp : 0 ≤ p) (pos : ∀ i : Nat, (i : Int) < n → 0 ≤ fa i ∧ 0 ≤ ga i) : lcZ (edg fa ga kd n) f p.toNat q x := by
  have no : ∀ b : Nat, (b : Int) < x → ¬ (edg fa ga kd n p.toNat b ∧ f b = q) := by
    rintro b hb ⟨⟨i, i1, i2, i3, i4⟩, g⟩
    obtain ⟨p1, p2⟩ := pos i i1
    have := h.2 i (by omega) i2 (by omega) (by rw [i4]; exact g)
    omega
  rcases h.1 with e | ⟨e, g1, g2⟩
  · exact Or.inl ⟨e, fun b hb => no b (by omega)⟩
  · exact Or.inr ⟨e, g1, g2, no⟩
/-- the ring's row -/
def rgR (E : Nat → Nat → Prop) (d m : Nat) : Nat → Nat → Prop
  | 0, a => a = d
  | i + 1, a => ∃ p, rgR E d m i p ∧ E p a ∧ minl E d (m - (i + 1)) a ∧ ∀ b, b < a → ¬ (E p b ∧ minl E d (m - (i + 1)) b)
theorem rgR.uniq {m : Nat} : ∀ (i a b : Nat), rgR E d m i a → rgR E d m i b → a = b
  | 0, a, b, h, k => by
    have h : a = d := h
    have k : b = d := k
    omega
  | i + 1, a, b, ⟨p, h1, h2, h3, h4⟩, ⟨q, k1, k2, k3, k4⟩ => by
    have e := rgR.uniq i p q h1 k1
    subst e
    by_cases c : a < b
    · exact absurd ⟨h2, h3⟩ (k4 a c)
    · by_cases c2 : b < a
      · exact absurd ⟨k2, k3⟩ (h4 b c2)
      · omega
/-- there is a next one on the ring -/
theorem rgR.ex {m i a : Nat} (hm : minp E d m d) (h : rgR E d m i a) (hi : i + 1 < m) : ∃ b, E a b ∧ b ≠ d ∧ minl E d (m - (i + 1)) b := by
  have fin : ∀ b, E a b → minl E d (m - (i + 1)) b → ∃ b, E a b ∧ b ≠ d ∧ minl E d (m - (i + 1)) b := fun b e q => ⟨b, e, fun e2 => by
    subst e2
    exact q.2 0 (by omega) rfl, q⟩
  cases i with
  | zero =>
    have e : a = d := h
    subst e
    obtain ⟨b, e, q⟩ := minp.self hm
    exact fin b e q
  | succ i =>
    obtain ⟨p, _, _, q, _⟩ := h
    rw [show m - (i + 1) = (m - (i + 1 + 1)) + 1 by omega] at q
    obtain ⟨b, e, r⟩ := q.step
    exact fin b e r
/-- the class's step along the ring -/
theorem rgR.cls {f : Nat → Int} {m i a : Nat} {q z : Int} (hT : sbT E d f) (hm : minp E d m d) (hm9 : m ≤ 10) (hE : ∀ a b, E a b → b < 10) (h : rgR E d m i a) (hi : i + 1 < m) (hq : q = (m : Int) - ((i : Int) + 1)) (hz : lcZ E f a q z) : 0 ≤ z ∧ z ≤ 9 ∧ rgR E d m (i + 1) z.toNat := by
  have eq : q = ((m - (i + 1) : Nat) : Int) := by omega
  have tab : ∀ b, b < 10 → (f b = q ↔ b ≠ d ∧ minl E d (m - (i + 1)) b) := fun b hb => by rw [eq]; exact hT b (m - (i + 1)) hb (by omega) (by omega)
  have ne : ∀ b, minl E d (m - (i + 1)) b → b ≠ d := fun b q e => by
    subst e
    exact q.2 0 (by omega) rfl
  rcases hz with ⟨_, no⟩ | ⟨z9, g1, g2, g3⟩
  · obtain ⟨b, e, nd, q'⟩ := rgR.ex hm h hi
    exact absurd ⟨e, (tab b (hE a b e)).mpr ⟨nd, q'⟩⟩ (no b (hE a b e))
  · exact ⟨z9.1, z9.2, a, h, g1, ((tab _ (by omega)).mp g2).2, fun b hb q' => g3 b (by omega) ⟨q'.1, (tab b (by omega)).mpr ⟨ne b q'.2, q'.2⟩⟩⟩
/-- the answer of ring -/
def rgZ (E : Nat → Nat → Prop) (dm : Nat) (i z : Int) : Prop := (i < 0 ∧ z = -99999999) ∨ (0 ≤ i ∧ (((∀ d, d < dm → ∀ m, ¬ minp E d m d) ∧ z = -99999999) ∨ ∃ d m : Nat, d < dm ∧ minp E d m d ∧ (∀ d', d' < d → ∀ m', ¬ minp E d' m' d') ∧ (((m : Int) ≤ i ∧ z = -99999999) ∨ (i < (m : Int) ∧ 0 ≤ z ∧ rgR E d m i.toNat z.toNat))))
theorem rgZ.eq {dm : Nat} {i z z' : Int} (h : rgZ E dm i z) (k : rgZ E dm i z') : z = z' := by
  rcases h with ⟨h1, h2⟩ | ⟨h1, h⟩ <;> rcases k with ⟨k1, k2⟩ | ⟨k1, k⟩
  · omega
  · omega
  · omega
  · rcases h with ⟨a1, a2⟩ | ⟨d, m, a1, a2, a3, a4⟩ <;> rcases k with ⟨b1, b2⟩ | ⟨d', m', b1, b2, b3, b4⟩
    · omega
    · exact absurd b2 (a1 d' b1 m')
    · exact absurd a2 (b1 d a1 m)
    · have ed : d = d' := by
        by_cases c : d < d'
        · exact absurd a2 (b3 d c m)
        · by_cases c2 : d' < d
          · exact absurd b2 (a3 d' c2 m')
          · omega
      subst ed
      have em := a2.uniq b2
      subst em
      rcases a4 with ⟨c1, c2⟩ | ⟨c1, c2, c3⟩ <;> rcases b4 with ⟨e1, e2⟩ | ⟨e1, e2, e3⟩
      · omega
      · omega
      · omega
      · have := rgR.uniq _ _ _ c3 e3
        omega
/-- the reference's levels: below n -/
def flV (E : Nat → Nat → Prop) (d a : Nat) (n v : Int) : Prop := (∃ m : Nat, (m : Int) < n ∧ minp E d m a ∧ v = (m : Int)) ∨ ((∀ m : Nat, (m : Int) < n → ¬ minp E d m a) ∧ v = -99999999)
def flA (E : Nat → Nat → Prop) (d : Nat) (f : Nat → Int) (n a : Int) : Prop := ∀ i : Nat, i < 10 → ((i : Int) < a → flV E d i (n + 1) (f i)) ∧ (a ≤ (i : Int) → flV E d i n (f i))
theorem flV.one {a : Nat} {v : Int} (hv : v = -99999999) : flV E d a 1 v := Or.inr ⟨fun m h q => by have := q.1; omega, hv⟩
theorem flV.is {a m : Nat} {n v : Int} (h : flV E d a n v) (hm : (m : Int) < n) : v = (m : Int) ↔ minp E d m a := by
  rcases h with ⟨k, h1, h2, h3⟩ | ⟨h1, h2⟩
  · constructor
    · intro e
      have : k = m := by omega
      subst this
      exact h2
    · intro q
      have := h2.uniq q
      omega
  · constructor
    · intro e; omega
    · intro q; exact absurd q (h1 m hm)
theorem flA.start {f : Nat → Int} {n a : Int} (h : ∀ i : Nat, i < 10 → flV E d i n (f i)) (ha : a ≤ 0) : flA E d f n a := fun i hi => ⟨fun q => by omega, fun _ => h i hi⟩
theorem flA.fin {f : Nat → Int} {n a : Int} {dm : Nat} (h : flA E d f n a) (ha : (dm : Int) ≤ a) (hn : 1 ≤ n) (hE : ∀ x y, E x y → x < dm) : ∀ i : Nat, i < 10 → flV E d i (n + 1) (f i) := fun i hi => by
  by_cases c : (i : Int) < a
  · exact (h i hi).1 c
  · have no : ∀ m, ¬ minp E d m i := fun m q => by
      obtain ⟨q1, q2, _⟩ := q
      obtain ⟨k, rfl⟩ : ∃ k, m = k + 1 := ⟨m - 1, by omega⟩
      obtain ⟨b, e, _⟩ := q2
      have := hE i b e
      omega
    rcases (h i hi).2 (by omega) with ⟨m, _, q, _⟩ | ⟨_, q⟩
    · exact absurd q (no m)
    · exact Or.inr ⟨fun m _ => no m, q⟩
/-- a step below level n: to d itself, or to one of the level below -/
def hitA (E : Nat → Nat → Prop) (d a : Nat) (n : Int) (b : Nat) : Prop := E a b ∧ ((n = 1 ∧ b = d) ∨ (¬ n = 1 ∧ minp E d (n - 1).toNat b))
theorem hitA.lvl {a b : Nat} {n : Int} (hn : 1 ≤ n) (h : hitA E d a n b) (no : ∀ m : Nat, (m : Int) < n → ¬ minp E d m a) : minp E d n.toNat a := by
  rcases h with ⟨e, ⟨n1, q⟩ | ⟨n1, q⟩⟩
  · have en : n.toNat = 1 := by omega
    rw [en]
    exact ⟨Nat.le_refl 1, ⟨b, e, q⟩, fun m h1 h2 => by omega⟩
  · have := (minp.next (E := E) (d := d) (a := a) (n := (n - 1).toNat) (by omega)).mpr ⟨⟨b, e, q⟩, fun m h1 h2 => no m (by omega)⟩
    rw [show (n - 1).toNat + 1 = n.toNat by omega] at this
    exact this
theorem hitA.ex {a : Nat} {n : Int} (hn : 1 ≤ n) (h : minp E d n.toNat a) : ∃ b, hitA E d a n b := by
  by_cases c : n = 1
  · have en : n.toNat = 1 := by omega
    rw [en] at h
    have h1 : lev E d 1 a := h.2.1
    obtain ⟨b, e, q⟩ := h1
    exact ⟨b, e, Or.inl ⟨c, q⟩⟩
  · rw [show n.toNat = (n - 1).toNat + 1 by omega] at h
    obtain ⟨⟨b, e, q⟩, _⟩ := (minp.next (by omega)).mp h
    exact ⟨b, e, Or.inr ⟨c, q⟩⟩
/-- within a place: what stands at a; b' below b do not hit -/
def flB (E : Nat → Nat → Prop) (d a : Nat) (n b v : Int) : Prop := (flV E d a n v ∧ (v = -99999999 → ∀ i : Nat, (i : Int) < b → ¬ hitA E d a n i)) ∨ (flV E d a (n + 1) v ∧ ¬ v = -99999999)
theorem flB.start {a : Nat} {n b v : Int} (h : flV E d a n v) (hb : b ≤ 0) : flB E d a n b v := Or.inl ⟨h, fun _ i hi => by omega⟩
theorem flB.no {a : Nat} {n b v : Int} (h : flB E d a n b v) (hv : v = -99999999) (h0 : 0 ≤ b) (hn : ¬ hitA E d a n b.toNat) : flB E d a n (b + 1) v := by
  rcases h with ⟨h1, h2⟩ | ⟨_, h2⟩
  · refine Or.inl ⟨h1, fun _ i hi => ?_⟩
    by_cases c : (i : Int) < b
    · exact h2 hv i c
    · rw [show i = b.toNat by omega]; exact hn
  · exact absurd hv h2
theorem flB.yes {a : Nat} {n b c v : Int} (h : flB E d a n b v) (hv : v = -99999999) (hn : 1 ≤ n) (hh : hitA E d a n b.toNat) : flB E d a n c n := by
  rcases h with ⟨h1, h2⟩ | ⟨_, h2⟩
  · rcases h1 with ⟨m, _, _, q⟩ | ⟨no, _⟩
    · omega
    · exact Or.inr ⟨Or.inl ⟨n.toNat, by omega, hitA.lvl hn hh no, by omega⟩, by omega⟩
  · exact absurd hv h2
theorem flB.fin {a dm : Nat} {n b v : Int} (h : flB E d a n b v) (hn : 1 ≤ n) (hb : (dm : Int) ≤ b ∨ ¬ v = -99999999) (hE : ∀ x y, E x y → y < dm) : flV E d a (n + 1) v := by
  rcases h with ⟨h1, h2⟩ | ⟨h1, _⟩
  · rcases h1 with ⟨m, q1, q2, q3⟩ | ⟨no, q⟩
    · exact Or.inl ⟨m, by omega, q2, q3⟩
    · refine Or.inr ⟨fun m hm g => ?_, q⟩
      by_cases c : (m : Int) < n
      · exact no m c g
      · have e : m = n.toNat := by omega
        subst e
        obtain ⟨b', hb'⟩ := hitA.ex hn g
        have := hE a b' hb'.1
        exact h2 q b' (by omega) hb'
  · exact h1
/-- all places while a is looked at -/
def flC (E : Nat → Nat → Prop) (d : Nat) (f : Nat → Int) (n a b : Int) : Prop := (∀ i : Nat, i < 10 → i ≠ a.toNat → ((i : Int) < a → flV E d i (n + 1) (f i)) ∧ (a ≤ (i : Int) → flV E d i n (f i))) ∧ flB E d a.toNat n b (f a.toNat)
theorem flC.start {f : Nat → Int} {n a b : Int} (h : flA E d f n a) (ha : 0 ≤ a ∧ a ≤ 9) (hb : b ≤ 0) : flC E d f n a b := ⟨fun i hi _ => h i hi, flB.start ((h a.toNat (by omega)).2 (by omega)) hb⟩
theorem flC.no {f : Nat → Int} {n a b v : Int} (h : flC E d f n a b) (qv : f a.toNat = v) (hv : v = -99999999) (h0 : 0 ≤ b) (hn : ¬ hitA E d a.toNat n b.toNat) : flC E d f n a (b + 1) := ⟨h.1, flB.no h.2 (by rw [qv]; exact hv) h0 hn⟩
theorem flC.yes {f f' : Nat → Int} {n a b c v y : Int} (h : flC E d f n a b) (qv : f a.toNat = v) (hv : v = -99999999) (hn : 1 ≤ n) (hh : hitA E d a.toNat n b.toNat) (e1 : f' a.toNat = y) (hy : y = n) (e2 : ∀ i, i ≠ a.toNat → f' i = f i) : flC E d f' n a c := by
  refine ⟨fun i hi ne => by rw [e2 i ne]; exact h.1 i hi ne, ?_⟩
  rw [e1, hy]
  exact flB.yes h.2 (by rw [qv]; exact hv) hn hh
theorem flC.fin {f : Nat → Int} {n a b v : Int} {dm : Nat} (h : flC E d f n a b) (h0 : 0 ≤ a) (qv : f a.toNat = v) (hn : 1 ≤ n) (hb : (dm : Int) ≤ b ∨ ¬ v = -99999999) (hE : ∀ x y, E x y → y < dm) : flA E d f n (a + 1) := fun i hi => by
  by_cases c : i = a.toNat
  · subst c
    refine ⟨fun _ => ?_, fun q => by omega⟩
    refine flB.fin h.2 hn ?_ hE
    rw [qv]; exact hb
  · obtain ⟨g1, g2⟩ := h.1 i hi c
    exact ⟨fun q => g1 (by omega), fun q => g2 (by omega)⟩
theorem flC.is {f : Nat → Int} {n a b : Int} {c m : Nat} (h : flC E d f n a b) (hc : c < 10) (hm : (m : Int) < n) : f c = (m : Int) ↔ minp E d m c := by
  by_cases e : c = a.toNat
  · subst e
    rcases h.2 with ⟨g, _⟩ | ⟨g, _⟩
    · exact flV.is g hm
    · exact flV.is g (by omega)
  · obtain ⟨g1, g2⟩ := h.1 c hc e
    by_cases q : (c : Int) < a
    · exact flV.is (g1 q) (by omega)
    · exact flV.is (g2 (by omega)) hm
/-- the search for the next one: b' below b are none -/
def nxI (E : Nat → Nat → Prop) (f : Nat → Int) (p : Nat) (q b x : Int) : Prop := (x = -99999999 ∧ ∀ i : Nat, (i : Int) < b → ¬ (E p i ∧ f i = q)) ∨ ((0 ≤ x ∧ x ≤ 9) ∧ E p x.toNat ∧ f x.toNat = q ∧ ∀ i : Nat, (i : Int) < x → ¬ (E p i ∧ f i = q))
theorem nxI.start {f : Nat → Int} {p : Nat} {q b : Int} (hb : b ≤ 0) : nxI E f p q b (-99999999) := Or.inl ⟨rfl, fun i hi => by omega⟩
theorem nxI.no {f : Nat → Int} {p : Nat} {q b x : Int} (h : nxI E f p q b x) (hx : x = -99999999) (h0 : 0 ≤ b) (hn : ¬ (E p b.toNat ∧ f b.toNat = q)) : nxI E f p q (b + 1) x := by
  rcases h with ⟨h1, h2⟩ | ⟨h1, _⟩
  · refine Or.inl ⟨h1, fun i hi => ?_⟩
    by_cases c : (i : Int) < b
    · exact h2 i c
    · rw [show i = b.toNat by omega]; exact hn
  · omega
theorem nxI.yes {f : Nat → Int} {p : Nat} {q b c x y : Int} (h : nxI E f p q b x) (hx : x = -99999999) (h0 : 0 ≤ b ∧ b ≤ 9) (h1 : E p b.toNat) (h2 : f b.toNat = q) (hy : y = b) : nxI E f p q c y := by
  rcases h with ⟨_, h3⟩ | ⟨h3, _⟩
  · rw [hy]; exact Or.inr ⟨h0, h1, h2, h3⟩
  · omega
/-- the reference's step along the ring -/
theorem rgR.ref {f : Nat → Int} {m i a dm : Nat} {n q b x : Int} (hT : ∀ i : Nat, i < 10 → flV E d i n (f i)) (hm : minp E d m d) (hmn : (m : Int) < n) (hE : ∀ a b, E a b → b < dm) (hd : dm ≤ 10) (h : rgR E d m i a) (hi : i + 1 < m) (hq : q = (m : Int) - (i : Int) - 1) (hx : nxI E f a q b x) (hb : (dm : Int) ≤ b ∨ ¬ x = -99999999) : 0 ≤ x ∧ x ≤ 9 ∧ rgR E d m (i + 1) x.toNat := by
  have eq : q = ((m - (i + 1) : Nat) : Int) := by omega
  have tab : ∀ b, b < 10 → (f b = q ↔ minp E d (m - (i + 1)) b) := fun b hb => by rw [eq]; exact flV.is (hT b hb) (by omega)
  have ne : ∀ b, minl E d (m - (i + 1)) b → b ≠ d := fun b q e => by
    subst e
    exact q.2 0 (by omega) rfl
  have nd : ∀ b, minp E d (m - (i + 1)) b → b ≠ d := fun b q e => by
    subst e
    have := q.uniq hm
    omega
  rcases hx with ⟨x1, no⟩ | ⟨x9, g1, g2, g3⟩
  · obtain ⟨b', e, nd', q'⟩ := rgR.ex hm h hi
    have hb' := hE a b' e
    exact absurd ⟨e, (tab b' (by omega)).mpr ((minp.ne nd').mpr q')⟩ (no b' (by omega))
  · have t := (tab x.toNat (by omega)).mp g2
    refine ⟨x9.1, x9.2, a, h, g1, (minp.ne (nd _ t)).mp t, fun b' hb' q' => g3 b' (by omega) ⟨q'.1, (tab b' (by omega)).mpr ((minp.ne (ne b' q'.2)).mpr q'.2)⟩⟩
end RG
/-- edges are between domains -/
theorem edg.lt {f g kd : Nat → Int} {n : Int} {dm : Nat} (h : ∀ i : Nat, (i : Int) < n → (0 ≤ f i ∧ 0 ≤ g i) ∧ f i < (dm : Int) ∧ g i < (dm : Int)) (a b : Nat) (e : edg f g kd n a b) : a < dm ∧ b < dm := by
  obtain ⟨i, i1, _, i3, i4⟩ := e
  have := h i i1
  omega
theorem edg.cg {f g kd f' g' kd' : Nat → Int} {n : Int} (h : ∀ i : Nat, (i : Int) < n → f i = f' i ∧ g i = g' i ∧ kd i = kd' i) : edg f g kd n = edg f' g' kd' n := by
  funext a b
  refine propext ⟨?_, ?_⟩
  · rintro ⟨i, i1, i2, i3, i4⟩
    obtain ⟨e1, e2, e3⟩ := h i i1
    exact ⟨i, i1, by rw [← e3]; exact i2, by rw [← e1]; exact i3, by rw [← e2]; exact i4⟩
  · rintro ⟨i, i1, i2, i3, i4⟩
    obtain ⟨e1, e2, e3⟩ := h i i1
    exact ⟨i, i1, by rw [e3]; exact i2, by rw [e1]; exact i3, by rw [e2]; exact i4⟩
def edgC (μ : mM) (n : Int) : Nat → Nat → Prop := edg (tc μ 0) (tc μ 1) (tc μ 2) n
def edgR (μ : mM) (n : Int) : Nat → Nat → Prop := edg (tr μ 0) (tr μ 1) (μ 111) n
theorem tcB {lf : List Nat} {w : mW} {μ μ1 : mM} {n t : Int} (hw : mWF w) (hT : mT w μ) (q : μ 6 16 = n) (F : mF lf w μ μ1) (hl : ([11999, 220000, 220001, 220002].all fun r => !lf.elem r) = true) (ht : 0 ≤ t ∧ t < n) : tc μ1 0 t.toNat = tc μ 0 t.toNat ∧ tc μ1 1 t.toNat = tc μ 1 t.toNat ∧ tc μ1 2 t.toNat = tc μ 2 t.toNat := tcS.fr hw hT F hl t.toNat (by omega)
theorem edB {lf : List Nat} {w : mW} {μ μ1 : mM} {n : Int} (hw : mWF w) (hT : mT w μ) (q : μ 6 16 = n) (F : mF lf w μ μ1) (hl : ([11999, 220000, 220001, 220002].all fun r => !lf.elem r) = true) : edgC μ1 n = edgC μ n := edg.cg fun i hi => tcS.fr hw hT F hl i (by omega)
theorem edRB {lf : List Nat} {w : mW} {μ μ1 : mM} {n : Int} (hw : mWF w) (F : mF lf w μ μ1) (hl : ([110999, 111999].all fun r => !lf.elem r) = true) : edgR μ1 n = edgR μ n := edg.cg fun i hi => trS.fr (n := n) hw F hl i hi
theorem tcAll {w : mW} {μ : mM} {n m : Int} (hw : mWF w) (hT : mT w μ) (qn : μ 6 16 = n) (qm : μ 6 15 = m) (t : Nat) (ht : (t : Int) < n) : (0 ≤ tc μ 0 t ∧ 0 ≤ tc μ 1 t) ∧ tc μ 0 t < (m.toNat : Int) ∧ tc μ 1 t < (m.toNat : Int) := by
  have hA := tcAt hw hT (i := t) (by rw [qn]; exact ht)
  have h0 : 0 ≤ tc μ 0 t ∧ tc μ 0 t ≤ 9 ∧ tc μ 0 t < w.2.2.2 0 := hT _ 220 hA 0
  have h1 : 0 ≤ tc μ 1 t ∧ tc μ 1 t ≤ 9 ∧ tc μ 1 t < w.2.2.2 0 := hT _ 220 hA 1
  have := J.c0 hw hT
  omega
theorem edC.lt {w : mW} {μ : mM} {n m : Int} (hw : mWF w) (hT : mT w μ) (qn : μ 6 16 = n) (qm : μ 6 15 = m) (a b : Nat) (e : edgC μ n a b) : a < m.toNat ∧ b < m.toNat := edg.lt (tcAll hw hT qn qm) a b e
theorem trAll {w : mW} {μ : mM} (hw : mWF w) (hT : mT w μ) (t : Nat) : 0 ≤ tr μ 0 t ∧ 0 ≤ tr μ 1 t := by
  have g : ∀ i : Nat, 0 ≤ μ 110 i ∧ μ 110 i ≤ 9 := fun i => hT 110 110 (A_110 hw) i
  exact ⟨(g _).1, (g _).1⟩
theorem edR.lt {w : mW} {μ : mM} {n m : Int} (hw : mWF w) (hT : mT w μ) (he : ∀ i : Nat, (i : Int) < n → tr μ 0 i < m ∧ tr μ 1 i < m) (a b : Nat) (e : edgR μ n a b) : a < m.toNat ∧ b < m.toNat := edg.lt (fun i hi => ⟨trAll hw hT i, by have := he i hi; have := trAll hw hT i; omega, by have := he i hi; have := trAll hw hT i; omega⟩) a b e
theorem TUQ.tr {lf : List Nat} {w : mW} {μ μ1 : mM} {n : Int} (h : TUQ (tr μ 0) (tr μ 1) n) (hw : mWF w) (F : mF lf w μ μ1) (hl : ([110999, 111999].all fun r => !lf.elem r) = true) : TUQ (tr μ1 0) (tr μ1 1) n := h.cg fun i hi => ⟨(trS.fr (n := n) hw F hl i hi).1, (trS.fr (n := n) hw F hl i hi).2.1⟩
theorem sbS.init {E : Nat → Nat → Prop} {μ μ1 μ2 : mM} {p : Int} (q : mQF μ 13 10 11 μ1) (u : mU μ1 13 p.toNat 0 μ2) : sbS E p.toNat (μ2 13) 11 ∧ sbC E p.toNat (μ2 13) 11 0 := ⟨sbS.start (fun a ha h => (u.2 13 a (Or.inr h)).trans (q.2 a ha)) u.1, sbC.start u.1⟩
/-- the class's row of the ring -/
def rgW (E : Nat → Nat → Prop) (d m : Nat) (μ : mM) (L : Int) : Prop := ∀ i : Nat, (i : Int) < L → 0 ≤ μ 12 i ∧ μ 12 i ≤ 9 ∧ rgR E d m i (μ 12 i).toNat
theorem rgW.start {E : Nat → Nat → Prop} {μ μ1 : mM} {p : Int} {m : Nat} {L : Int} (u : mU μ 12 ((0 : Int).toNat) p μ1) (hp : 0 ≤ p ∧ p ≤ 9) (hL : L ≤ 1) : rgW E p.toNat m μ1 L := fun i hi => by
  have e : i = 0 := by omega
  subst e
  have q : μ1 12 0 = p := u.1
  rw [q]
  exact ⟨hp.1, hp.2, rfl⟩
theorem rgW.next {E : Nat → Nat → Prop} {d : Nat} {f : Nat → Int} {μ μ1 : mM} {m L e v q z : Int} (h : rgW E d m.toNat μ L) (hT : sbT E d f) (hm : minp E d m.toNat d) (hm9 : m ≤ 10) (hE : ∀ a b, E a b → b < 10) (hL : 1 ≤ L ∧ L < m) (qv : μ 12 e.toNat = v) (he : e = L - 1) (hq : q = m - L) (hz : lcZ E f v.toNat q z) (u : mU μ 12 L.toNat z μ1) : rgW E d m.toNat μ1 (L + 1) := fun i hi => by
  by_cases c : (i : Int) < L
  · rw [u.2 12 i (Or.inr (by omega))]; exact h i c
  · have hp := (h e.toNat (by omega)).2.2
    rw [qv] at hp
    obtain ⟨g1, g2, g3⟩ := rgR.cls hT hm (by omega) hE hp (by omega) (by omega) hz
    have ei : i = L.toNat := by omega
    rw [ei, u.1]
    refine ⟨g1, g2, ?_⟩
    rw [show L.toNat = e.toNat + 1 by omega]; exact g3
/-- what findRing has found -/
def fiZ (E : Nat → Nat → Prop) (dm : Nat) (μ : mM) (z : Int) : Prop := (z = 0 ∧ ∀ d, d < dm → ∀ m, ¬ minp E d m d) ∨ ∃ d m : Nat, z = (m : Int) ∧ d < dm ∧ minp E d m d ∧ (∀ d', d' < d → ∀ m', ¬ minp E d' m' d') ∧ rgW E d m μ z
theorem fiZ.none {E : Nat → Nat → Prop} {dm : Nat} {μ : mM} {i z : Int} (h : fiZ E dm μ z) (hi : i < 0 ∨ z ≤ i) : rgZ E dm i (-99999999) := by
  by_cases c : i < 0
  · exact Or.inl ⟨c, rfl⟩
  · refine Or.inr ⟨by omega, ?_⟩
    rcases h with ⟨h1, h2⟩ | ⟨d, m, h1, h2, h3, h4, _⟩
    · exact Or.inl ⟨h2, rfl⟩
    · exact Or.inr ⟨d, m, h2, h3, h4, Or.inl ⟨by omega, rfl⟩⟩
theorem fiZ.at {E : Nat → Nat → Prop} {dm : Nat} {μ : mM} {i z v : Int} (h : fiZ E dm μ z) (hi : 0 ≤ i ∧ i < z) (q : μ 12 i.toNat = v) : rgZ E dm i v := by
  refine Or.inr ⟨hi.1, ?_⟩
  rcases h with ⟨h1, h2⟩ | ⟨d, m, h1, h2, h3, h4, h5⟩
  · omega
  · obtain ⟨g1, g2, g3⟩ := h5 i.toNat (by omega)
    rw [q] at g1 g2 g3
    exact Or.inr ⟨d, m, h2, h3, h4, Or.inr ⟨by omega, g1, g3⟩⟩
/-- no ring below k -/
def noR (E : Nat → Nat → Prop) (k : Int) : Prop := ∀ d : Nat, (d : Int) < k → ∀ m, ¬ minp E d m d
theorem noR.zero {E : Nat → Nat → Prop} {k : Int} (h : k ≤ 0) : noR E k := fun d hd => by omega
theorem noR.next {E : Nat → Nat → Prop} {k : Int} (h : noR E k) (h0 : 0 ≤ k) (hn : ∀ m, ¬ minp E k.toNat m k.toNat) : noR E (k + 1) := fun d hd => by
  by_cases c : (d : Int) < k
  · exact h d c
  · rw [show d = k.toNat by omega]; exact hn
theorem shZ.none {E : Nat → Nat → Prop} {d : Nat} {z : Int} (h : shZ E d z) (hz : z ≤ 0) : ∀ m, ¬ minp E d m d := by
  rcases h with ⟨_, h⟩ | ⟨m, h1, h2⟩
  · exact h
  · have := h2.1; omega
theorem shZ.some {E : Nat → Nat → Prop} {d : Nat} {z : Int} (h : shZ E d z) (hz : 0 < z) : minp E d z.toNat d := by
  rcases h with ⟨h, _⟩ | ⟨m, h1, h2⟩
  · omega
  · rw [show z.toNat = m by omega]; exact h2
/-- the reference: the fill; the levels in the end -/
def fiN (f : Nat → Int) (k : Int) : Prop := ∀ i : Nat, (i : Int) < k → f i = -99999999
theorem fiN.next {μ μ1 : mM} {k : Int} (h : fiN (μ 117) k) (h0 : 0 ≤ k) (u : mU μ 117 k.toNat (-99999999) μ1) : fiN (μ1 117) (k + 1) := fun i hi => by
  by_cases c : i = k.toNat
  · rw [c]; exact u.1
  · rw [u.2 117 i (Or.inr c)]; exact h i (by omega)
theorem fiN.lev {E : Nat → Nat → Prop} {d : Nat} {f : Nat → Int} {k n : Int} (h : fiN f k) (hk : 10 ≤ k) (hn : n = 1) : ∀ i : Nat, i < 10 → flV E d i n (f i) := fun i hi => by rw [hn]; exact flV.one (h i (by omega))
theorem flV.no {E : Nat → Nat → Prop} {d dm : Nat} {n v : Int} (h : flV E d d n v) (hv : v = -99999999) (hn : (dm : Int) < n) (hd : d < dm) (hE : ∀ a b, E a b → a < dm) : ∀ m, ¬ minp E d m d := fun m q => by
  rcases h with ⟨k, _, _, e⟩ | ⟨h, _⟩
  · omega
  · exact h m (by have := minp.le hd hE q; omega) q
theorem flV.some {E : Nat → Nat → Prop} {d a : Nat} {n v : Int} (h : flV E d a n v) (hv : ¬ v = -99999999) : (0 ≤ v ∧ v < n) ∧ minp E d v.toNat a := by
  rcases h with ⟨k, h1, h2, e⟩ | ⟨_, h⟩
  · exact ⟨by omega, by rw [show v.toNat = k by omega]; exact h2⟩
  · exact absurd h hv
theorem rgZ.nor {E : Nat → Nat → Prop} {dm : Nat} {k i : Int} (h : noR E k) (hk : (dm : Int) ≤ k) (hi : 0 ≤ i) : rgZ E dm i (-99999999) := Or.inr ⟨hi, Or.inl ⟨fun d hd => h d (by omega), rfl⟩⟩
theorem rgZ.far {E : Nat → Nat → Prop} {dm : Nat} {k i v : Int} (h : noR E k) (hk : 0 ≤ k ∧ k < (dm : Int)) (hm : minp E k.toNat v.toNat k.toNat) (hi : 0 ≤ i ∧ v ≤ i) (hv : 0 ≤ v) : rgZ E dm i (-99999999) := Or.inr ⟨hi.1, Or.inr ⟨k.toNat, v.toNat, by omega, hm, fun d' hd' => h d' (by omega), Or.inl ⟨by omega, rfl⟩⟩⟩
theorem rgZ.on {E : Nat → Nat → Prop} {dm : Nat} {k i v j z : Int} (h : noR E k) (hk : 0 ≤ k ∧ k < (dm : Int)) (hm : minp E k.toNat v.toNat k.toNat) (hi : 0 ≤ i ∧ i < v) (hr : rgR E k.toNat v.toNat j.toNat z.toNat) (hj : j = i) (hz : 0 ≤ z) : rgZ E dm i z := by
  subst hj
  exact Or.inr ⟨hi.1, Or.inr ⟨k.toNat, v.toNat, by omega, hm, fun d' hd' => h d' (by omega), Or.inr ⟨by omega, hz, hr⟩⟩⟩
theorem rgR.refI {E : Nat → Nat → Prop} {d dm : Nat} {f : Nat → Int} {m k a n q b x : Int} (hT : ∀ i : Nat, i < 10 → flV E d i n (f i)) (hm : minp E d m.toNat d) (hmn : 0 ≤ m ∧ m < n) (hE : ∀ a b, E a b → b < dm) (hd : dm ≤ 10) (h : rgR E d m.toNat k.toNat a.toNat) (hk : 0 ≤ k ∧ k + 1 < m) (hq : q = m - k - 1) (hx : nxI E f a.toNat q b x) (hb : (dm : Int) ≤ b ∨ ¬ x = -99999999) : (0 ≤ x ∧ x ≤ 9) ∧ rgR E d m.toNat (k + 1).toNat x.toNat := by
  obtain ⟨g1, g2, g3⟩ := rgR.ref hT hm (by omega) hE hd h (by omega) (by omega) hx hb
  exact ⟨⟨g1, g2⟩, by rw [show (k + 1).toNat = k.toNat + 1 by omega]; exact g3⟩
theorem lcZ.back {lf : List Nat} {w : mW} {μ μ1 : mM} {n q z : Int} {p : Nat} (h : lcZ (edgC μ1 n) (μ1 13) p q z) (hw : mWF w) (hT : mT w μ) (qn : μ 6 16 = n) (F : mF lf w μ μ1) (hl : ([11999, 220000, 220001, 220002].all fun r => !lf.elem r) = true) (hl2 : lf.elem 13999 = false) : lcZ (edgC μ n) (μ 13) p q z := by
  have e : μ1 13 = μ 13 := funext fun i => F.f (A_13 hw) hl2 rfl
  rw [edB hw hT qn F hl, e] at h
  exact h
