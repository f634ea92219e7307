/-! The reference's tries. -/
def lvR (μ : mM) (j : Nat) : Int := μ 189 (μ 190 j).toNat
abbrev trE (μ : mM) : Nat → Nat → Nat → Prop := nxP μ 184 185 186 8
abbrev trP (μ : mM) : Nat → Prop := RSt μ 184 185 186 8
abbrev trN (μ : mM) : Int := wgk (μ 184) 6
abbrev trr (μ : mM) : Nat := (wgk (μ 184) 6).toNat - 1
/-- the queue and the row of levels -/
def trB (μ0 μ : mM) (n i k : Int) : Prop := bfJ (trE μ0) (trr μ0) (μ 190) (lvR μ) n i k (trN μ0) ∧ ∀ s : Nat, (s : Int) < trN μ0 → (0 ≤ μ 189 s ↔ inQ (μ 190) n s)
theorem trB.of {μ0 μ μ1 : mM} {n i k : Int} (h : trB μ0 μ n i k) (e1 : μ1 189 = μ 189) (e2 : μ1 190 = μ 190) : trB μ0 μ1 n i k := by
  have e : lvR μ1 = lvR μ := by funext j; unfold lvR; rw [e1, e2]
  unfold trB
  rw [e, e1, e2]; exact h
/-- nothing is met yet -/
def trZ0 (μ : mM) (k : Int) : Prop := ∀ s : Nat, (s : Int) < k → μ 189 s = -1 ∧ μ 191 s = 0
theorem trZ0.next {μ μ1 μ2 : mM} {k : Int} (h : trZ0 μ k) (h0 : 0 ≤ k) (u1 : mU μ 189 k.toNat (-1) μ1) (u2 : mU μ1 191 k.toNat 0 μ2) : trZ0 μ2 (k + 1) := fun s hs => by
  by_cases c : s = k.toNat
  · subst c
    exact ⟨(u2.2 189 _ (Or.inl (by decide))).trans u1.1, u2.1⟩
  · rw [u2.2 189 s (Or.inl (by decide)), u1.2 189 s (Or.inr c), u2.2 191 s (Or.inr c), u1.2 191 s (Or.inl (by decide))]
    exact h s (by omega)
theorem trB.init {μ0 μ μ1 μ2 : mM} {N e : Int} (h : trZ0 μ N) (hN : N = trN μ0) (h1 : 1 ≤ N) (he : e = N - 1) (u1 : mU μ 190 ((0 : Int).toNat) e μ1) (u2 : mU μ1 189 e.toNat 0 μ2) : trB μ0 μ2 1 0 1 ∧ ∀ s : Nat, (s : Int) < N → μ2 191 s = 0 := by
  have q0 : μ2 190 0 = e := (u2.2 190 0 (Or.inl (by decide))).trans u1.1
  have er : ((trr μ0 : Nat) : Int) = e := by
    show (((wgk (μ0 184) 6).toNat - 1 : Nat) : Int) = e
    have : N = wgk (μ0 184) 6 := hN
    omega
  have old : ∀ s : Nat, ¬ s = e.toNat → μ2 189 s = μ 189 s := fun s hs => (u2.2 189 s (Or.inr hs)).trans (u1.2 189 s (Or.inl (by decide)))
  refine ⟨⟨bfJ.start (by rw [q0, er]) (by unfold lvR; rw [q0]; exact u2.1) (by rw [← hN]; omega), fun s hs => ?_⟩, fun s hs => ?_⟩
  · rw [← hN] at hs
    constructor
    · intro g
      by_cases c : s = e.toNat
      · exact ⟨0, by omega, by rw [q0]; omega⟩
      · rw [old s c, (h s hs).1] at g
        omega
    · rintro ⟨k, a, b⟩
      have : k = 0 := by omega
      rw [this, q0] at b
      have c : s = e.toNat := by omega
      rw [c, u2.1]; omega
  · rw [u2.2 191 s (Or.inl (by decide)), u1.2 191 s (Or.inl (by decide))]
    exact (h s hs).2
/-- a place's step out of the state at hand -/
theorem nxP.is {μ0 μ : mM} {s k a h w t : Int} (hd : hasD μ 188 184 s) (hw : wgT μ 187 184) (e1 : μ 184 = μ0 184) (e2 : μ 185 = μ0 185) (e3 : μ 186 = μ0 186) (hV : ∀ i, 0 ≤ μ 186 i ∧ μ 186 i ≤ 6) (hs : 0 ≤ s) (hk : 1 ≤ k ∧ k ≤ 6) (ha : actR μ 184 185 186 8 (μ 188) k a) (qh : μ 188 k.toNat = h) (qw : μ 187 k.toNat = w) (ht : t = s + (a - h) * w) (t0 : 0 ≤ t) : ∀ t' : Nat, trE μ0 k.toNat s.toNat t' ↔ t' = t.toNat := by
  have es : ((s.toNat : Nat) : Int) = s := by omega
  have ek : ((k.toNat : Nat) : Int) = k := by omega
  have ev : actR μ0 184 185 186 8 (dgF (μ0 184) s) k a := by
    have g := actR.h (h' := dgF (μ 184) s) hV (fun p h1 h2 => hd p h1 h2) ha
    unfold actR offd sufW at g ⊢
    rw [e1, e2, e3] at g; exact g
  have eh : dgF (μ0 184) s k.toNat = h := by rw [← e1, ← hd k.toNat (by omega) (by omega)]; exact qh
  have ew : wgk (μ0 184) (6 - k.toNat) = w := by rw [← e1, ← hw k.toNat (by omega) (by omega)]; exact qw
  intro t'
  unfold trE nxP
  rw [es, ek]
  constructor
  · rintro ⟨a', g1, g2⟩
    have := g1.uniq ev
    rw [this, eh, ew] at g2
    omega
  · intro e
    refine ⟨a, ev, ?_⟩
    rw [eh, ew, e]; omega
theorem trB.same {μ0 μ : mM} {n i k s t : Int} (h : trB μ0 μ n i k) (hi : 0 ≤ i ∧ i < n) (hk : 0 ≤ k) (qs : μ 190 i.toNat = s) (hs : 0 ≤ s) (ht : t = s) (e : ∀ t' : Nat, trE μ0 k.toNat s.toNat t' ↔ t' = t.toNat) : trB μ0 μ n i (k + 1) := ⟨h.1.old hi.2 fun t' g => by
  rw [qs] at g
  exact ⟨i.toNat, by omega, by rw [qs, (e t').mp g, ht]; omega⟩, h.2⟩
theorem trB.seen {μ0 μ : mM} {n i k s t v : Int} (h : trB μ0 μ n i k) (hi : 0 ≤ i ∧ i < n) (qs : μ 190 i.toNat = s) (ht : 0 ≤ t ∧ t < trN μ0) (qv : μ 189 t.toNat = v) (hv : 0 ≤ v) (e : ∀ t' : Nat, trE μ0 k.toNat s.toNat t' ↔ t' = t.toNat) : trB μ0 μ n i (k + 1) := ⟨h.1.old hi.2 fun t' g => by
  rw [qs] at g
  rw [(e t').mp g]
  exact (h.2 t.toNat (by omega)).mp (by rw [qv]; exact hv), h.2⟩
theorem trB.push {μ0 μ μ1 μ2 : mM} {n i k s t v o x : Int} (h : trB μ0 μ n i k) (hi : 0 ≤ i ∧ i < n) (hk : 1 ≤ k ∧ k ≤ 6) (qs : μ 190 i.toNat = s) (ht : 0 ≤ t ∧ t < trN μ0) (qo : μ 189 t.toNat = o) (ho : o < 0) (qx : μ 189 s.toNat = x) (e : ∀ t' : Nat, trE μ0 k.toNat s.toNat t' ↔ t' = t.toNat) (u1 : mU μ 189 t.toNat v μ1) (hv : v = x + 1) (u2 : mU μ1 190 n.toNat t μ2) : trB μ0 μ2 (n + 1) i (k + 1) ∧ ∀ j : Nat, (j : Int) < n → μ2 190 j = μ 190 j ∧ lvR μ2 j = lvR μ j := by
  have hn := h.1.2.1.1
  have ni : ¬ inQ (μ 190) n t.toNat := fun g => by
    have := (h.2 t.toNat (by omega)).mpr g
    omega
  have q2 : ∀ j : Nat, (j : Int) < n → μ2 190 j = μ 190 j := fun j hj => (u2.2 190 j (Or.inr (by omega))).trans (u1.2 190 j (Or.inl (by decide)))
  have r2 : ∀ s' : Nat, s' ≠ t.toNat → μ2 189 s' = μ 189 s' := fun s' hs => (u2.2 189 s' (Or.inl (by decide))).trans (u1.2 189 s' (Or.inr hs))
  have l2 : ∀ j : Nat, (j : Int) < n → lvR μ2 j = lvR μ j := fun j hj => by
    unfold lvR
    rw [q2 j hj]
    have g := h.1.1.1 j hj
    exact r2 _ fun e => ni ⟨j, hj, by omega⟩
  have l1 : lvR μ2 n.toNat = lvR μ i.toNat + 1 := by
    unfold lvR
    rw [u2.1, (u2.2 189 t.toNat (Or.inl (by decide))).trans u1.1, qs, qx, hv]
  have g := h.1.new (q' := μ2 190) (lv' := lvR μ2) (t := t) hi.2 hk ht (by rw [qs]; exact (e _).mpr rfl) (fun t' g => by rw [qs] at g; exact (e t').mp g) ni u2.1 q2 l1 l2
  refine ⟨⟨g, fun s' hs => ?_⟩, fun j hj => ⟨q2 j hj, l2 j hj⟩⟩
  by_cases c : s' = t.toNat
  · constructor
    · intro _
      exact ⟨n.toNat, by omega, by rw [u2.1, c]; omega⟩
    · intro _
      have hx : 0 ≤ x := by
        have g := (h.1.1.2.2.1 i.toNat (by omega)).1
        unfold lvR at g
        rw [qs, qx] at g; exact g
      rw [c, (u2.2 189 t.toNat (Or.inl (by decide))).trans u1.1]
      omega
  · rw [r2 s' c, h.2 s' hs]
    constructor
    · rintro ⟨j, a, b⟩; exact ⟨j, by omega, by rw [q2 j a]; exact b⟩
    · rintro ⟨j, a, b⟩
      by_cases d : (j : Int) < n
      · exact ⟨j, d, by rw [← q2 j d]; exact b⟩
      · exfalso
        rw [show j = n.toNat by omega, u2.1] at b
        exact c (by omega)
/-- what else the loop keeps: rests counted, hopes, the least level -/
def lsZ (P : Nat → Prop) (q lv : Nat → Int) (i v : Int) : Prop := ((∀ j : Nat, (j : Int) < i → ¬ P (q j).toNat) ∧ v = -99999999) ∨ ∃ j : Nat, (j : Int) < i ∧ P (q j).toNat ∧ (∀ j' : Nat, j' < j → ¬ P (q j').toNat) ∧ v = lv j ∧ 0 ≤ v
def trK (μ0 μ : mM) (i c v : Int) : Prop := c = cnP (fun j => trP μ0 (μ 190 j).toNat) i.toNat ∧ (∀ s : Nat, (s : Int) < trN μ0 → (μ 191 s = 1 ↔ ∃ j : Nat, (j : Int) < i ∧ μ 190 j = (s : Int) ∧ trP μ0 s)) ∧ lsZ (trP μ0) (μ 190) (lvR μ) i v
/-- the first n entries are left alone -/
def agQ (μ μ1 : mM) (n : Int) : Prop := ∀ j : Nat, (j : Int) < n → μ1 190 j = μ 190 j ∧ lvR μ1 j = lvR μ j
theorem agQ.refl {μ : mM} {n : Int} : agQ μ μ n := fun _ _ => ⟨rfl, rfl⟩
theorem agQ.trans {μ μ1 μ2 : mM} {n n' : Int} (h : agQ μ μ1 n) (k : agQ μ1 μ2 n') (hn : n ≤ n') : agQ μ μ2 n := fun j hj => ⟨(k j (by omega)).1.trans (h j hj).1, (k j (by omega)).2.trans (h j hj).2⟩
theorem agQ.of {μ μ1 μ2 : mM} {n : Int} (h : agQ μ μ1 n) (e1 : μ2 189 = μ1 189) (e2 : μ2 190 = μ1 190) : agQ μ μ2 n := fun j hj => by
  have := h j hj
  unfold lvR at this ⊢
  rw [e1, e2]; exact this
theorem trK.ag {μ0 μ μ1 : mM} {n i c v : Int} (h : trK μ0 μ i c v) (a : agQ μ μ1 n) (hi : 0 ≤ i ∧ i ≤ n) (e : μ1 191 = μ 191) : trK μ0 μ1 i c v := by
  obtain ⟨h1, h2, h3⟩ := h
  have q : ∀ j : Nat, (j : Int) < i → μ1 190 j = μ 190 j := fun j hj => (a j (by omega)).1
  refine ⟨?_, fun s hs => ?_, ?_⟩
  · rw [h1]
    exact cnP.cg _ fun j hj => by rw [q j (by omega)]
  · rw [e, h2 s hs]
    constructor
    · rintro ⟨j, x, y, z⟩; exact ⟨j, x, by rw [q j x]; exact y, z⟩
    · rintro ⟨j, x, y, z⟩; exact ⟨j, x, by rw [← q j x]; exact y, z⟩
  · rcases h3 with ⟨x, y⟩ | ⟨j, x1, x2, x3, x4, x5⟩
    · exact Or.inl ⟨fun j hj => by rw [q j hj]; exact x j hj, y⟩
    · refine Or.inr ⟨j, x1, by rw [q j x1]; exact x2, fun j' hj' => by rw [q j' (by omega)]; exact x3 j' hj', ?_, x5⟩
      rw [(a j (by omega)).2]; exact x4
theorem trK.no {μ0 μ : mM} {i c v s : Int} (h : trK μ0 μ i c v) (h0 : 0 ≤ i) (qs : μ 190 i.toNat = s) (hn : ¬ trP μ0 s.toNat) (hs : 0 ≤ s) : trK μ0 μ (i + 1) c v := by
  obtain ⟨h1, h2, h3⟩ := h
  have ei : ∀ j : Nat, (j : Int) < i + 1 → ¬ (j : Int) < i → j = i.toNat := fun j a b => by omega
  refine ⟨?_, fun s' hs' => ?_, ?_⟩
  · rw [show (i + 1).toNat = i.toNat + 1 by omega, cnP.no (P := fun j => trP μ0 (μ 190 j).toNat) (by rw [qs]; exact hn)]; exact h1
  · rw [h2 s' hs']
    constructor
    · rintro ⟨j, x, y, z⟩; exact ⟨j, by omega, y, z⟩
    · rintro ⟨j, x, y, z⟩
      by_cases g : (j : Int) < i
      · exact ⟨j, g, y, z⟩
      · rw [ei j x g, qs] at y
        exact absurd (by rw [show s.toNat = s' by omega]; exact z) hn
  · rcases h3 with ⟨x, y⟩ | ⟨j, x1, x2, x3, x4, x5⟩
    · refine Or.inl ⟨fun j hj => ?_, y⟩
      by_cases g : (j : Int) < i
      · exact x j g
      · rw [ei j hj g, qs]; exact hn
    · exact Or.inr ⟨j, by omega, x2, x3, x4, x5⟩
theorem trK.yes {μ0 μ μ1 : mM} {i c v s v' x c' : Int} (h : trK μ0 μ i c v) (h0 : 0 ≤ i) (qs : μ 190 i.toNat = s) (hp : trP μ0 s.toNat) (hs : 0 ≤ s) (u : mU μ 191 s.toNat 1 μ1) (qx : μ 189 s.toNat = x) (x0 : 0 ≤ x) (hv : (v = -99999999 ∧ v' = x) ∨ (¬ v = -99999999 ∧ v' = v)) (hc : c' = c + 1) : trK μ0 μ1 (i + 1) c' v' := by
  obtain ⟨h1, h2, h3⟩ := h
  have ei : ∀ j : Nat, (j : Int) < i + 1 → ¬ (j : Int) < i → j = i.toNat := fun j a b => by omega
  have e0 : μ1 190 = μ 190 := funext fun j => u.2 190 j (Or.inl (by decide))
  have e9 : μ1 189 = μ 189 := funext fun j => u.2 189 j (Or.inl (by decide))
  have el : lvR μ1 = lvR μ := by funext j; unfold lvR; rw [e0, e9]
  refine ⟨?_, fun s' hs' => ?_, ?_⟩
  · rw [e0, show (i + 1).toNat = i.toNat + 1 by omega, cnP.yes (P := fun j => trP μ0 (μ 190 j).toNat) (by rw [qs]; exact hp), hc, h1]
  · rw [e0]
    by_cases g : s' = s.toNat
    · constructor
      · intro _; exact ⟨i.toNat, by omega, by rw [qs]; omega, by rw [g]; exact hp⟩
      · intro _; rw [g]; exact u.1
    · rw [u.2 191 s' (Or.inr g), h2 s' hs']
      constructor
      · rintro ⟨j, x, y, z⟩; exact ⟨j, by omega, y, z⟩
      · rintro ⟨j, x, y, z⟩
        by_cases d : (j : Int) < i
        · exact ⟨j, d, y, z⟩
        · rw [ei j x d, qs] at y
          exact absurd (by omega) g
  · rw [e0, el]
    rcases h3 with ⟨a, b⟩ | ⟨j, x1, x2, x3, x4, x5⟩
    · rcases hv with ⟨_, e⟩ | ⟨e, _⟩
      · refine Or.inr ⟨i.toNat, by omega, by rw [qs]; exact hp, fun j' hj' => a j' (by omega), ?_, by omega⟩
        unfold lvR
        rw [qs, qx, e]
      · exact absurd b e
    · rcases hv with ⟨e, _⟩ | ⟨_, e⟩
      · omega
      · exact Or.inr ⟨j, by omega, x2, x3, by rw [e]; exact x4, by omega⟩
/-- the four answers -/
def trA (E : Nat → Nat → Nat → Prop) (P : Nat → Prop) (r N : Nat) (what z : Int) : Prop := ((what < 0 ∨ 3 < what) ∧ z = -1) ∨ (what = 0 ∧ z = cnP (Rch E r) N) ∨ (what = 1 ∧ z = cnP (fun s => Rch E r s ∧ P s) N) ∨ (what = 2 ∧ z = cnP (fun s => Rch E r s ∧ ¬ Hop E P s) N) ∨ (what = 3 ∧ (((∀ s, Rch E r s → ¬ P s) ∧ z = -99999999) ∨ ∃ (s m : Nat), P s ∧ minl (bakP E) r m s ∧ z = (m : Int) ∧ ∀ s' m' : Nat, P s' → minl (bakP E) r m' s' → m ≤ m'))
theorem trA.eq {E : Nat → Nat → Nat → Prop} {P : Nat → Prop} {r N : Nat} {w z z' : Int} (h : trA E P r N w z) (k : trA E P r N w z') : z = z' := by
  rcases h with ⟨h1, h2⟩ | ⟨h1, h2⟩ | ⟨h1, h2⟩ | ⟨h1, h2⟩ | ⟨h1, h2⟩ <;> rcases k with ⟨k1, k2⟩ | ⟨k1, k2⟩ | ⟨k1, k2⟩ | ⟨k1, k2⟩ | ⟨k1, k2⟩ <;> first | (exfalso; clear h2 k2; omega) | (rw [h2, k2]; done) | skip
  rcases h2 with ⟨a1, a2⟩ | ⟨s, m, a1, a2, a3, a4⟩ <;> rcases k2 with ⟨b1, b2⟩ | ⟨s', m', b1, b2, b3, b4⟩
  · omega
  · exact absurd b1 (a1 s' ⟨m', b2.1⟩)
  · exact absurd a1 (b1 s ⟨m, a2.1⟩)
  · have := a4 s' m' b1 b2
    have := b4 s m a1 a2
    omega
theorem cnP.true : ∀ n : Nat, cnP (fun _ => True) n = (n : Int)
  | 0 => rfl
  | n + 1 => by
    rw [cnP.yes (P := fun _ => True) trivial, cnP.true n]
    omega
theorem cnQ.all {E : Nat → Nat → Nat → Prop} {Q : Nat → Prop} {r : Nat} {q lv : Nat → Int} {n i k N : Int} (h : bfJ E r q lv n i k N) (hi : n ≤ i) (hN : 0 ≤ N) : cnP (fun j => Q (q j).toNat) n.toNat = cnP (fun s => Rch E r s ∧ Q s) N.toNat := by
  have hn := h.2.1.1
  rw [cnQ (q := q) (N := N.toNat) (Q := Q) n.toNat (fun j hj => by have := h.1.1 j (by omega); omega) (fun j k a b => h.1.2.1 j k a (by omega))]
  refine cnP.cg _ fun s _ => ?_
  rw [show ((n.toNat : Nat) : Int) = n by omega, h.rch hi s]
theorem trA.zero {E : Nat → Nat → Nat → Prop} {P : Nat → Prop} {r : Nat} {q lv : Nat → Int} {n i k N w z : Int} (h : bfJ E r q lv n i k N) (hi : n ≤ i) (hN : 0 ≤ N) (hw : w = 0) (hz : z = n) : trA E P r N.toNat w z := by
  refine Or.inr (Or.inl ⟨hw, ?_⟩)
  have e := cnQ.all (Q := fun _ => True) h hi hN
  rw [cnP.true] at e
  have hn := h.2.1.1
  have e2 : cnP (fun s => Rch E r s ∧ True) N.toNat = cnP (Rch E r) N.toNat := cnP.cg _ fun s _ => ⟨fun g => g.1, fun g => ⟨g, trivial⟩⟩
  rw [← e2, ← e, hz]; omega
theorem trA.one {E : Nat → Nat → Nat → Prop} {P : Nat → Prop} {r : Nat} {q lv : Nat → Int} {n i k N w z : Int} (h : bfJ E r q lv n i k N) (hi : n ≤ i) (hi2 : i ≤ n) (hN : 0 ≤ N) (hw : w = 1) (hz : z = cnP (fun j => P (q j).toNat) i.toNat) : trA E P r N.toNat w z := by
  refine Or.inr (Or.inr (Or.inl ⟨hw, ?_⟩))
  rw [hz, show i = n by omega]; exact cnQ.all (Q := P) h hi hN
/-- the queue's levels are the least ones -/
theorem bfJ.minl {E : Nat → Nat → Nat → Prop} {r : Nat} {q lv : Nat → Int} {n i k N : Int} (h : bfJ E r q lv n i k N) (hi : n ≤ i) {j : Nat} (hj : (j : Int) < n) : minl (bakP E) r (lv j).toNat (q j).toNat := by
  have g := h.1.2.2.1 j hj
  refine ⟨g.2, fun m hm e => ?_⟩
  obtain ⟨k', x1, x2, x3⟩ := h.all hi m _ e
  have hq := h.1.1 j hj
  have ek : k' = j := by
    by_cases c : k' < j
    · exact absurd (by omega) (h.1.2.1 k' j c hj)
    · by_cases c2 : j < k'
      · exact absurd (by omega) (h.1.2.1 j k' c2 x1)
      · omega
  rw [ek] at x3
  omega
theorem trA.three {E : Nat → Nat → Nat → Prop} {P : Nat → Prop} {r : Nat} {q lv : Nat → Int} {n i k N w z : Int} (h : bfJ E r q lv n i k N) (hi : n ≤ i) (hi2 : i ≤ n) (hw : w = 3) (hz : lsZ P q lv i z) : trA E P r N.toNat w z := by
  refine Or.inr (Or.inr (Or.inr (Or.inr ⟨hw, ?_⟩)))
  rcases hz with ⟨a, b⟩ | ⟨j, a1, a2, a3, a4, a5⟩
  · refine Or.inl ⟨fun s hs hp => ?_, b⟩
    obtain ⟨j, x1, x2⟩ := (h.rch hi s).mp hs
    exact a j (by omega) (by rw [show (q j).toNat = s by omega]; exact hp)
  · refine Or.inr ⟨(q j).toNat, (lv j).toNat, a2, h.minl hi (by omega), by omega, fun s' m' hp hm => ?_⟩
    obtain ⟨j', x1, x2, x3⟩ := h.all hi m' s' hm.1
    by_cases c : j' < j
    · exact absurd (by rw [show (q j').toNat = s' by omega]; exact hp) (a3 j' c)
    · have := h.1.2.2.2 j j' (by omega) x1
      omega
/-- hopes: sound, rests in; closed below a place of the queue -/
def hoS (E : Nat → Nat → Nat → Prop) (P : Nat → Prop) (r : Nat) (N : Int) (f : Nat → Int) : Prop := (∀ s : Nat, (s : Int) < N → f s = 1 → Rch E r s ∧ Hop E P s) ∧ ∀ s : Nat, (s : Int) < N → Rch E r s → P s → f s = 1
def hoC (E : Nat → Nat → Nat → Prop) (q f : Nat → Int) (n l : Int) : Prop := ∀ j : Nat, l < (j : Int) → (j : Int) < n → ¬ f (q j).toNat = 1 → ∀ t, anyP E (q j).toNat t → ¬ f t = 1
theorem hoS.all {E : Nat → Nat → Nat → Prop} {P : Nat → Prop} {r : Nat} {q lv f : Nat → Int} {n i k N l : Int} (h : bfJ E r q lv n i k N) (hi : n ≤ i) (a : hoS E P r N f) (b : hoC E q f n l) (hl : l < 0) : ∀ m s, hpe E P m s → Rch E r s → f s = 1 := by
  intro m
  induction m with
  | zero =>
    intro s hs hr
    obtain ⟨j, x1, x2⟩ := (h.rch hi s).mp hr
    have := h.1.1 j x1
    exact a.2 s (by omega) hr hs
  | succ m ih =>
    intro s hs hr
    obtain ⟨t, e, g⟩ := hs
    by_cases c : f s = 1
    · exact c
    · exfalso
      obtain ⟨j, x1, x2⟩ := (h.rch hi s).mp hr
      have es : (q j).toNat = s := by omega
      exact b j (by omega) x1 (by rw [es]; exact c) t (by rw [es]; exact e) (ih t g (hr.step e))
theorem trZ0.le {μ : mM} {k n : Int} (h : trZ0 μ k) (hk : n ≤ k) : trZ0 μ n := fun s hs => h s (by omega)
theorem trK.start {μ0 μ : mM} (h : ∀ s : Nat, (s : Int) < trN μ0 → μ 191 s = 0) : trK μ0 μ 0 0 (-99999999) := ⟨rfl, fun s hs => ⟨fun g => by rw [h s hs] at g; exact absurd g (by decide), fun ⟨j, a, _⟩ => by omega⟩, Or.inl ⟨fun j hj => by omega, rfl⟩⟩
theorem trB.next {μ0 μ : mM} {n i k : Int} (h : trB μ0 μ n i k) (hi : i < n) (hk : 7 ≤ k) : trB μ0 μ n (i + 1) 1 := ⟨h.1.next hi hk, h.2⟩
theorem hasD.of {μ μ1 : mM} {H C : Nat} {s : Int} (h : hasD μ H C s) (e1 : μ1 H = μ H) (e2 : μ1 C = μ C) : hasD μ1 H C s := fun p h1 h2 => by rw [e1, e2]; exact h p h1 h2
theorem actR.of {μ μ1 : mM} {C L V m H : Nat} {p v : Int} (h : actR μ1 C L V m (μ1 H) p v) (e1 : μ1 C = μ C) (e2 : μ1 L = μ L) (e3 : μ1 V = μ V) (e4 : μ1 H = μ H) : actR μ C L V m (μ H) p v := by
  unfold actR offd sufW at h ⊢
  rw [e1, e2, e3, e4] at h; exact h
theorem rsI.any {μ : mM} {C L V m : Nat} {h : Nat → Int} {k f v x g : Int} (a : rsI μ C L V m h k f) (hk : 1 ≤ k ∧ k ≤ 6) (b : actR μ C L V m h k v) (q : h k.toNat = x) (hg : (v = x ∧ g = f) ∨ (¬ v = x ∧ ¬ g = 1)) : rsI μ C L V m h (k + 1) g := by
  by_cases c : f = 1
  · exact a.next c hk b q (by omega)
  · exact ⟨fun g1 => absurd g1 (by omega), fun _ => a.2 c⟩
theorem nxP.isS {μ0 μ : mM} {s k a h : Int} (hd : hasD μ 188 184 s) (hw : wgT μ 187 184) (e1 : μ 184 = μ0 184) (e2 : μ 185 = μ0 185) (e3 : μ 186 = μ0 186) (hV : ∀ i, 0 ≤ μ 186 i ∧ μ 186 i ≤ 6) (hs : 0 ≤ s) (hk : 1 ≤ k ∧ k ≤ 6) (ha : actR μ 184 185 186 8 (μ 188) k a) (qh : μ 188 k.toNat = h) (hah : a = h) : ∀ t' : Nat, trE μ0 k.toNat s.toNat t' ↔ t' = s.toNat :=
  nxP.is hd hw e1 e2 e3 hV hs hk ha qh rfl (by rw [hah, Int.sub_self, Int.zero_mul, Int.add_zero]) hs
theorem hoS.of {μ0 μ : mM} {n i k c v : Int} (h : trB μ0 μ n i k) (hi : n ≤ i) (hi2 : i ≤ n) (a : trK μ0 μ i c v) : hoS (trE μ0) (trP μ0) (trr μ0) (trN μ0) (μ 191) := by
  refine ⟨fun s hs g => ?_, fun s hs hr hp => ?_⟩
  · obtain ⟨j, x, y, z⟩ := (a.2.1 s hs).mp g
    exact ⟨(h.1.rch hi s).mpr ⟨j, by omega, y⟩, Hop.rest z⟩
  · obtain ⟨j, x, y⟩ := (h.1.rch hi s).mp hr
    exact (a.2.1 s hs).mpr ⟨j, by omega, y, hp⟩
/-- the places of one state are looked at: f0 the row before, f the row now, s the state -/
def hoP (E : Nat → Nat → Nat → Prop) (f0 f : Nat → Int) (s : Nat) (k : Int) : Prop := (∀ s' : Nat, s' ≠ s → f s' = f0 s') ∧ ((f s = 0 ∧ ∀ p : Nat, 1 ≤ p → (p : Int) < k → ∀ t, E p s t → ¬ f0 t = 1) ∨ (f s = 1 ∧ ∃ t, anyP E s t ∧ f0 t = 1))
theorem hoP.start {E : Nat → Nat → Nat → Prop} {f0 : Nat → Int} {s : Nat} {k : Int} (h : f0 s = 0) (hk : k ≤ 1) : hoP E f0 f0 s k := ⟨fun _ _ => rfl, Or.inl ⟨h, fun p a b => by omega⟩⟩
theorem hoP.next {E : Nat → Nat → Nat → Prop} {f0 f f' : Nat → Int} {s : Nat} {k t v : Int} (h : hoP E f0 f s k) (h0 : f s = 0) (f00 : f0 s = 0) (hk : 1 ≤ k ∧ k ≤ 6) (e : ∀ t' : Nat, E k.toNat s t' ↔ t' = t.toNat) (qv : f t.toNat = v) (hv : v = 0 ∨ v = 1) (e1 : f' s = v) (e2 : ∀ s' : Nat, s' ≠ s → f' s' = f s') : hoP E f0 f' s (k + 1) := by
  have ft : v = f0 t.toNat := by
    by_cases c : t.toNat = s
    · rw [← qv, c, h0, f00]
    · rw [← qv]; exact h.1 _ c
  refine ⟨fun s' hs => (e2 s' hs).trans (h.1 s' hs), ?_⟩
  rcases hv with g | g
  · refine Or.inl ⟨by rw [e1]; exact g, fun p a b t' et => ?_⟩
    by_cases c : (p : Int) < k
    · rcases h.2 with ⟨_, x⟩ | ⟨x, _⟩
      · exact x p a c t' et
      · omega
    · rw [show p = k.toNat by omega] at et
      rw [(e t').mp et, ← ft]; omega
  · exact Or.inr ⟨by rw [e1]; exact g, t.toNat, ⟨k.toNat, by omega, by omega, (e _).mpr rfl⟩, by rw [← ft]; exact g⟩
/-- behind the places: sound still; closed at this one, or something is new -/
theorem hoS.put {E : Nat → Nat → Nat → Prop} {P : Nat → Prop} {r : Nat} {N k : Int} {f0 f : Nat → Int} {s : Nat} (h : hoS E P r N f0) (a : hoP E f0 f s k) (hs : (s : Int) < N) (hr : Rch E r s) (hE : ∀ t, anyP E s t → (t : Int) < N) (f00 : f0 s = 0) : hoS E P r N f := by
  refine ⟨fun s' h' g => ?_, fun s' h' hr' hp => ?_⟩
  · by_cases c : s' = s
    · subst c
      rcases a.2 with ⟨x, _⟩ | ⟨_, t, e, x⟩
      · omega
      · exact ⟨hr, Hop.step e (h.1 t (hE t e) x).2⟩
    · rw [a.1 s' c] at g
      exact h.1 s' h' g
  · by_cases c : s' = s
    · subst c
      have := h.2 s' h' hr' hp
      omega
    · rw [a.1 s' c]; exact h.2 s' h' hr' hp
theorem hoC.put {E : Nat → Nat → Nat → Prop} {q f0 f : Nat → Int} {n l k : Int} {s : Nat} (h : hoC E q f0 n l) (a : hoP E f0 f s k) (hk : 7 ≤ k) (f00 : f0 s = 0) (z : f s = 0) (ql : q l.toNat = (s : Int)) (l0 : 0 ≤ l) : hoC E q f n (l - 1) := by
  have e : f = f0 := funext fun s' => by
    by_cases c : s' = s
    · rw [c, z, f00]
    · exact a.1 s' c
  rw [e]
  intro j hj hn g t et
  by_cases c : l < (j : Int)
  · exact h j c hn g t et
  · have ej : j = l.toNat := by omega
    have es : (q j).toNat = s := by rw [ej, ql]; rfl
    rw [es] at et
    obtain ⟨p, p1, p2, p3⟩ := et
    rcases a.2 with ⟨_, x⟩ | ⟨x, _⟩
    · exact x p p1 (by omega) t p3
    · omega
theorem hoC.skip {E : Nat → Nat → Nat → Prop} {q f : Nat → Int} {n l : Int} {s : Nat} (h : hoC E q f n l) (g : f s = 1) (ql : q l.toNat = (s : Int)) (l0 : 0 ≤ l) : hoC E q f n (l - 1) := fun j hj hn x => by
  by_cases c : l < (j : Int)
  · exact h j c hn x
  · have ej : j = l.toNat := by omega
    have es : (q j).toNat = s := by rw [ej, ql]; rfl
    rw [es] at x
    exact absurd g x
theorem trA.two {E : Nat → Nat → Nat → Prop} {P : Nat → Prop} {r : Nat} {q lv f : Nat → Int} {n i k N l w z c : Int} (h : bfJ E r q lv n i k N) (hi : n ≤ i) (hN : 0 ≤ N) (a : hoS E P r N f) (b : hoC E q f n l) (hl : l < 0) (hw : w = 2) (hz : z = cnP (fun j => ¬ f (q j).toNat = 1) c.toNat) (hc : c = n) : trA E P r N.toNat w z := by
  refine Or.inr (Or.inr (Or.inr (Or.inl ⟨hw, ?_⟩)))
  rw [hz, hc, cnQ.all (Q := fun s => ¬ f s = 1) h hi hN]
  refine cnP.cg _ fun s hs => ?_
  constructor
  · rintro ⟨x, y⟩
    refine ⟨x, fun ⟨m, g⟩ => y (hoS.all h hi a b hl m s g x)⟩
  · rintro ⟨x, y⟩
    exact ⟨x, fun g => y (a.1 s (by omega) g).2⟩
theorem trB.rch {μ0 μ : mM} {n i k l e : Int} (h : trB μ0 μ n i k) (hl : 0 ≤ l ∧ l < n) (q : μ 190 l.toNat = ((e.toNat : Nat) : Int)) : Rch (trE μ0) (trr μ0) e.toNat := by
  have g := quE.rch h.1.1 (j := l.toNat) (by omega)
  rw [q] at g; exact g
theorem nxP.lt {μ : mM} {C L V m s t : Nat} (hC : ∀ p : Nat, 1 ≤ p → p ≤ 6 → 0 ≤ μ C p) (hs : (s : Int) < wgk (μ C) 6) (e : anyP (nxP μ C L V m) s t) : (t : Int) < wgk (μ C) 6 := by
  obtain ⟨p, p1, p2, a, ha, et⟩ := e
  have ep : ((p : Int)).toNat = p := rfl
  have ar : 0 ≤ a ∧ a ≤ μ C p := ⟨ha.1.1, by have := ha.1.2.1; rw [ep] at this; exact this⟩
  rw [et]
  exact (dgF.inN hC ⟨p1, p2⟩ ar ⟨by omega, hs⟩).2
