/-! The class's tries: levels by counting; going back from the rests. -/
abbrev ctE (μ : mM) : Nat → Nat → Nat → Prop := nxP μ 95 97 96 7
abbrev ctP (μ : mM) : Nat → Prop := RSt μ 95 97 96 7
abbrev ctN (μ : mM) : Int := wgk (μ 95) 6
abbrev ctr (μ : mM) : Nat := (wgk (μ 95) 6).toNat - 1
def flR (μ0 μ : mM) (bq bf : Nat) (n i : Int) : Prop := ∀ s : Nat, (s : Int) < ctN μ0 → ((¬ μ bf s = 0) ↔ inQ (μ bq) n s) ∧ (μ bf s = 0 ∨ μ bf s = 1 ∨ μ bf s = 3) ∧ (μ bf s = 3 ↔ ∃ j : Nat, (j : Int) < i ∧ μ bq j = (s : Int) ∧ ctP μ0 s)
def lvC (lv : Nat → Int) (n i e l : Int) : Prop := (i ≤ e ∧ e ≤ n ∧ 0 ≤ l) ∧ (∀ j : Nat, i ≤ (j : Int) → (j : Int) < e → lv j = l) ∧ ∀ j : Nat, e ≤ (j : Int) → (j : Int) < n → lv j = l + 1
/-- the queue, the flags, the level l whose end is e, the least level v, the rests c -/
def ctL (μ0 μ : mM) (bq bf : Nat) (n i k l e v c : Int) : Prop := ∃ lv : Nat → Int, bfJ (ctE μ0) (ctr μ0) (μ bq) lv n i k (ctN μ0) ∧ flR μ0 μ bq bf n i ∧ lvC lv n i e l ∧ lsZ (ctP μ0) (μ bq) lv i v ∧ c = cnP (fun j => ctP μ0 (μ bq j).toNat) i.toNat
theorem ctL.of {μ0 μ μ1 : mM} {bq bf : Nat} {n i k l e v c : Int} (h : ctL μ0 μ bq bf n i k l e v c) (e1 : μ1 bq = μ bq) (e2 : μ1 bf = μ bf) : ctL μ0 μ1 bq bf n i k l e v c := by
  unfold ctL flR at h ⊢
  rw [e1, e2]; exact h
theorem ctL.init {μ0 μ μ1 μ2 : mM} {bq bf : Nat} {N x : Int} (hz : ∀ s : Nat, (s : Int) < N → μ bf s = 0) (hN : N = ctN μ0) (h1 : 1 ≤ N) (hx : x = N - 1) (ne : bq ≠ bf) (u1 : mU μ bq ((0 : Int).toNat) x μ1) (u2 : mU μ1 bf x.toNat 1 μ2) : ctL μ0 μ2 bq bf 1 0 1 0 1 (-99999999) 0 := by
  have q0 : μ2 bq 0 = x := (u2.2 bq 0 (Or.inl ne)).trans u1.1
  have er : ((ctr μ0 : Nat) : Int) = x := by
    show (((wgk (μ0 95) 6).toNat - 1 : Nat) : Int) = x
    have : N = wgk (μ0 95) 6 := hN
    omega
  have old : ∀ s : Nat, ¬ s = x.toNat → μ2 bf s = μ bf s := fun s hs => (u2.2 bf s (Or.inr hs)).trans (u1.2 bf s (Or.inl (fun e => ne e.symm)))
  refine ⟨fun _ => 0, bfJ.start (by rw [q0, er]) rfl (by rw [er, ← hN]; omega), fun s hs => ?_, ⟨by omega, fun _ _ _ => rfl, fun j a b => by omega⟩, Or.inl ⟨fun j hj => by omega, rfl⟩, rfl⟩
  rw [← hN] at hs
  by_cases c : s = x.toNat
  · have v : μ2 bf s = 1 := by rw [c]; exact u2.1
    rw [v]
    exact ⟨⟨fun _ => ⟨0, by omega, by rw [q0]; omega⟩, fun _ => by decide⟩, Or.inr (Or.inl rfl), ⟨fun g => absurd g (by decide), fun ⟨j, a, _⟩ => by omega⟩⟩
  · have v : μ2 bf s = 0 := by rw [old s c]; exact hz s hs
    rw [v]
    refine ⟨⟨fun g => absurd rfl g, fun ⟨j, a, b⟩ => ?_⟩, Or.inl rfl, ⟨fun g => absurd g (by decide), fun ⟨j, a, _⟩ => by omega⟩⟩
    have : j = 0 := by omega
    rw [this, q0] at b
    omega
/-- the next level begins -/
theorem ctL.level {μ0 μ : mM} {bq bf : Nat} {n i k l e v c l' e' : Int} (h : ctL μ0 μ bq bf n i k l e v c) (hi : i < n) (he : i = e) (hl : l' = l + 1) (hn : e' = n) : ctL μ0 μ bq bf n i k l' e' v c := by
  obtain ⟨lv, h1, h2, ⟨⟨a1, a2, a3⟩, b, c'⟩, h4, h5⟩ := h
  refine ⟨lv, h1, h2, ⟨by omega, fun j x y => ?_, fun j x y => by omega⟩, h4, h5⟩
  rw [hl]; exact c' j (by omega) (by omega)
theorem ctL.old {μ0 μ : mM} {bq bf : Nat} {n i k l e v c t x : Int} (h : ctL μ0 μ bq bf n i k l e v c) (hi : i < n) (ht : 0 ≤ t ∧ t < ctN μ0) (qx : μ bf t.toNat = x) (hx : ¬ x = 0) (et : ∀ t' : Nat, ctE μ0 k.toNat (μ bq i.toNat).toNat t' ↔ t' = t.toNat) : ctL μ0 μ bq bf n i (k + 1) l e v c := by
  obtain ⟨lv, h1, h2, h3⟩ := h
  refine ⟨lv, h1.old hi fun t' g => ?_, h2, h3⟩
  rw [(et t').mp g]
  exact (h2 t.toNat (by omega)).1.mp (by rw [qx]; exact hx)
theorem ctL.push {μ0 μ μ1 μ2 : mM} {bq bf : Nat} {n i k l e v c t x : Int} (h : ctL μ0 μ bq bf n i k l e v c) (ne : bq ≠ bf) (hi : i < e) (hk : 1 ≤ k ∧ k ≤ 6) (ht : 0 ≤ t ∧ t < ctN μ0) (qx : μ bf t.toNat = x) (hx : x = 0) (et : ∀ t' : Nat, ctE μ0 k.toNat (μ bq i.toNat).toNat t' ↔ t' = t.toNat) (u1 : mU μ bf t.toNat 1 μ1) (u2 : mU μ1 bq n.toNat t μ2) : ctL μ0 μ2 bq bf (n + 1) i (k + 1) l e v c := by
  obtain ⟨lv, h1, h2, ⟨⟨a1, a2, a3⟩, b, c'⟩, h4, h5⟩ := h
  have hn := h1.2.1.1
  have hi0 := h1.2.1.2.1
  have ni : ¬ inQ (μ bq) n t.toNat := fun g => by
    have := (h2 t.toNat (by omega)).1.mpr g
    rw [qx] at this
    exact this hx
  have q2 : ∀ j : Nat, (j : Int) < n → μ2 bq j = μ bq j := fun j hj => (u2.2 bq j (Or.inr (by omega))).trans (u1.2 bq j (Or.inl ne))
  have f2 : ∀ s : Nat, s ≠ t.toNat → μ2 bf s = μ bf s := fun s hs => (u2.2 bf s (Or.inl (fun e => ne e.symm))).trans (u1.2 bf s (Or.inr hs))
  have ft : μ2 bf t.toNat = 1 := (u2.2 bf t.toNat (Or.inl (fun e => ne e.symm))).trans u1.1
  have lvi : lv i.toNat = l := b i.toNat (by omega) (by omega)
  refine ⟨fun j => if (j : Int) < n then lv j else l + 1, h1.new (t := t) (by omega) hk ht ((et _).mpr rfl) (fun t' g => (et t').mp g) ni u2.1 q2 ?_ (fun j hj => if_pos hj), fun s hs => ?_, ⟨⟨a1, by omega, a3⟩, fun j x y => ?_, fun j x y => ?_⟩, ?_, ?_⟩
  · show (if ((n.toNat : Nat) : Int) < n then lv n.toNat else l + 1) = lv i.toNat + 1
    rw [if_neg (by omega), lvi]
  · by_cases g : s = t.toNat
    · subst g
      rw [ft]
      refine ⟨⟨fun _ => ⟨n.toNat, by omega, by rw [u2.1]; omega⟩, fun _ => by decide⟩, Or.inr (Or.inl rfl), ⟨fun g => absurd g (by decide), fun ⟨j, x, y, _⟩ => ?_⟩⟩
      rw [q2 j (by omega)] at y
      exact absurd ⟨j, by omega, y⟩ ni
    · rw [f2 s g]
      obtain ⟨x1, x2, x3⟩ := h2 s hs
      refine ⟨?_, x2, ?_⟩
      · rw [x1]
        constructor
        · rintro ⟨j, y, z⟩; exact ⟨j, by omega, by rw [q2 j y]; exact z⟩
        · rintro ⟨j, y, z⟩
          by_cases d : (j : Int) < n
          · exact ⟨j, d, by rw [← q2 j d]; exact z⟩
          · exfalso
            rw [show j = n.toNat by omega, u2.1] at z
            exact g (by omega)
      · rw [x3]
        constructor
        · rintro ⟨j, y, z, w⟩; exact ⟨j, y, by rw [q2 j (by omega)]; exact z, w⟩
        · rintro ⟨j, y, z, w⟩; exact ⟨j, y, by rw [← q2 j (by omega)]; exact z, w⟩
  · show (if (j : Int) < n then lv j else l + 1) = l
    rw [if_pos (by omega)]; exact b j x y
  · show (if (j : Int) < n then lv j else l + 1) = l + 1
    by_cases d : (j : Int) < n
    · rw [if_pos d]; exact c' j x d
    · rw [if_neg d]
  · rcases h4 with ⟨x, y⟩ | ⟨j, x1, x2, x3, x4, x5⟩
    · exact Or.inl ⟨fun j hj => by rw [q2 j (by omega)]; exact x j hj, y⟩
    · refine Or.inr ⟨j, x1, by rw [q2 j (by omega)]; exact x2, fun j' hj' => by rw [q2 j' (by omega)]; exact x3 j' hj', ?_, x5⟩
      show v = if (j : Int) < n then lv j else l + 1
      rw [if_pos (by omega)]; exact x4
  · rw [h5]
    exact cnP.cg _ fun j hj => by rw [q2 j (by omega)]
/-- the next one's turn: it was no rest; it was one -/
theorem ctL.no {μ0 μ : mM} {bq bf : Nat} {n i k l e v c s : Int} (h : ctL μ0 μ bq bf n i k l e v c) (hi : i < e) (hk : 7 ≤ k) (qs : μ bq i.toNat = s) (hn : ¬ ctP μ0 s.toNat) : ctL μ0 μ bq bf n (i + 1) 1 l e v c := by
  obtain ⟨lv, h1, h2, ⟨⟨a1, a2, a3⟩, b, c'⟩, h4, h5⟩ := h
  have i0 := h1.2.1.2.1
  have ei : ∀ j : Nat, (j : Int) < i + 1 → ¬ (j : Int) < i → j = i.toNat := fun j a b => by omega
  refine ⟨lv, h1.next (by omega) hk, fun s' hs => ?_, ⟨by omega, fun j x y => b j (by omega) y, c'⟩, ?_, ?_⟩
  · obtain ⟨x1, x2, x3⟩ := h2 s' hs
    refine ⟨x1, x2, ?_⟩
    rw [x3]
    constructor
    · rintro ⟨j, x, y, z⟩; exact ⟨j, by omega, y, z⟩
    · rintro ⟨j, x, y, z⟩
      by_cases g : (j : Int) < i
      · exact ⟨j, g, y, z⟩
      · rw [ei j x g, qs] at y
        exact absurd (by rw [show s.toNat = s' by omega]; exact z) hn
  · rcases h4 with ⟨x, y⟩ | ⟨j, x1, x2, x3, x4, x5⟩
    · refine Or.inl ⟨fun j hj => ?_, y⟩
      by_cases g : (j : Int) < i
      · exact x j g
      · rw [ei j hj g, qs]; exact hn
    · exact Or.inr ⟨j, by omega, x2, x3, x4, x5⟩
  · rw [show (i + 1).toNat = i.toNat + 1 by omega, cnP.no (P := fun j => ctP μ0 (μ bq j).toNat) (by rw [qs]; exact hn)]; exact h5
theorem ctL.yes {μ0 μ μ1 : mM} {bq bf : Nat} {n i k l e v c s v' c' y : Int} (h : ctL μ0 μ bq bf n i k l e v c) (ne : bq ≠ bf) (hi : i < e) (hk : 7 ≤ k) (qs : μ bq i.toNat = s) (hs : 0 ≤ s) (hp : ctP μ0 s.toNat) (u : mU μ bf s.toNat y μ1) (hy : y = 3) (hv : (v = -99999999 ∧ v' = l) ∨ (¬ v = -99999999 ∧ v' = v)) (hc : c' = c + 1) : ctL μ0 μ1 bq bf n (i + 1) 1 l e v' c' := by
  obtain ⟨lv, h1, h2, ⟨⟨a1, a2, a3⟩, b, d'⟩, h4, h5⟩ := h
  have i0 := h1.2.1.2.1
  have e0 : μ1 bq = μ bq := funext fun j => u.2 bq j (Or.inl ne)
  have lvi : lv i.toNat = l := b i.toNat (by omega) (by omega)
  have ei : ∀ j : Nat, (j : Int) < i + 1 → ¬ (j : Int) < i → j = i.toNat := fun j a b => by omega
  refine ⟨lv, by rw [e0]; exact h1.next (by omega) hk, fun s' hs' => ?_, ⟨by omega, fun j x y => b j (by omega) y, d'⟩, ?_, ?_⟩
  · rw [e0]
    by_cases g : s' = s.toNat
    · subst g
      rw [u.1, hy]
      exact ⟨⟨fun _ => ⟨i.toNat, by omega, by rw [qs]; omega⟩, fun _ => by decide⟩, Or.inr (Or.inr rfl), ⟨fun _ => ⟨i.toNat, by omega, by rw [qs]; omega, hp⟩, fun _ => rfl⟩⟩
    · rw [u.2 bf s' (Or.inr g)]
      obtain ⟨x1, x2, x3⟩ := h2 s' hs'
      refine ⟨x1, x2, ?_⟩
      rw [x3]
      constructor
      · rintro ⟨j, x, y, z⟩; exact ⟨j, by omega, y, z⟩
      · rintro ⟨j, x, y, z⟩
        by_cases q : (j : Int) < i
        · exact ⟨j, q, y, z⟩
        · rw [ei j x q, qs] at y
          exact absurd (by omega) g
  · rw [e0]
    rcases h4 with ⟨x, y⟩ | ⟨j, x1, x2, x3, x4, x5⟩
    · rcases hv with ⟨_, e⟩ | ⟨e, _⟩
      · exact Or.inr ⟨i.toNat, by omega, by rw [qs]; exact hp, fun j' hj' => x j' (by omega), by rw [lvi]; exact e, by omega⟩
      · exact absurd y e
    · rcases hv with ⟨e, _⟩ | ⟨_, e⟩
      · omega
      · exact Or.inr ⟨j, by omega, x2, x3, by rw [e]; exact x4, by omega⟩
  · rw [e0, show (i + 1).toNat = i.toNat + 1 by omega, cnP.yes (P := fun j => ctP μ0 (μ bq j).toNat) (by rw [qs]; exact hp), hc, h5]
/-! going back -/
def ld0 (μ : mM) (bq bf : Nat) (n L : Int) : Prop := (∀ j : Nat, (j : Int) < n → 0 ≤ μ bq j ∧ μ bq j < L ∧ μ bf (μ bq j).toNat = 3) ∧ (∀ j k : Nat, j < k → (k : Int) < n → μ bq j ≠ μ bq k) ∧ ∀ s : Nat, (s : Int) < L → μ bf s = 3 → inQ (μ bq) n s
theorem ld0.zero {μ : mM} {bq bf : Nat} {n L : Int} (hn : n ≤ 0) (hL : L ≤ 0) : ld0 μ bq bf n L := ⟨fun j hj => by omega, fun j k _ hk => by omega, fun s hs => by omega⟩
theorem ld0.no {μ : mM} {bq bf : Nat} {n L x : Int} (h : ld0 μ bq bf n L) (h0 : 0 ≤ L) (q : μ bf L.toNat = x) (hx : ¬ x = 3) : ld0 μ bq bf n (L + 1) := ⟨fun j hj => by have := h.1 j hj; exact ⟨this.1, by omega, this.2.2⟩, h.2.1, fun s hs g => by
  by_cases c : (s : Int) < L
  · exact h.2.2 s c g
  · rw [show s = L.toNat by omega, q] at g
    exact absurd g hx⟩
theorem ld0.yes {μ μ1 : mM} {bq bf : Nat} {n L x : Int} (h : ld0 μ bq bf n L) (ne : bq ≠ bf) (h0 : 0 ≤ L ∧ 0 ≤ n) (q : μ bf L.toNat = x) (hx : x = 3) (u : mU μ bq n.toNat L μ1) : ld0 μ1 bq bf (n + 1) (L + 1) := by
  have e : μ1 bf = μ bf := funext fun j => u.2 bf j (Or.inl (fun e => ne e.symm))
  have q2 : ∀ j : Nat, (j : Int) < n → μ1 bq j = μ bq j := fun j hj => u.2 bq j (Or.inr (by omega))
  have en : ∀ j : Nat, (j : Int) < n + 1 → ¬ (j : Int) < n → j = n.toNat := fun j a b => by omega
  refine ⟨fun j hj => ?_, fun j k a b => ?_, fun s hs g => ?_⟩
  · by_cases c : (j : Int) < n
    · rw [q2 j c, e]
      have := h.1 j c
      exact ⟨this.1, by omega, this.2.2⟩
    · rw [en j hj c, u.1, e, q, hx]
      exact ⟨h0.1, by omega, rfl⟩
  · by_cases c : (k : Int) < n
    · rw [q2 j (by omega), q2 k c]; exact h.2.1 j k a c
    · rw [en k b c, u.1, q2 j (by omega)]
      have := h.1 j (by omega)
      omega
  · rw [e] at g
    by_cases c : (s : Int) < L
    · obtain ⟨j, x, y⟩ := h.2.2 s c g
      exact ⟨j, by omega, by rw [q2 j x]; exact y⟩
    · exact ⟨n.toNat, by omega, by rw [u.1]; omega⟩
/-- flags and the queue of those that lead to a rest -/
def ldB (μ0 μ : mM) (bq bf : Nat) (n : Int) : Prop := (∀ j : Nat, (j : Int) < n → 0 ≤ μ bq j ∧ μ bq j < ctN μ0) ∧ (∀ j k : Nat, j < k → (k : Int) < n → μ bq j ≠ μ bq k) ∧ ∀ s : Nat, (s : Int) < ctN μ0 → ((¬ μ bf s = 0) ↔ Rch (ctE μ0) (ctr μ0) s) ∧ (μ bf s = 0 ∨ μ bf s = 1 ∨ μ bf s = 3) ∧ (μ bf s = 3 ↔ inQ (μ bq) n s) ∧ (μ bf s = 3 → Hop (ctE μ0) (ctP μ0) s) ∧ (Rch (ctE μ0) (ctr μ0) s → ctP μ0 s → μ bf s = 3)
def srcS (μ0 : mM) (t : Nat) (p had : Int) (s : Nat) : Prop := (s : Int) = (t : Int) + (had - dgF (μ0 95) (t : Int) p.toNat) * wgk (μ0 95) (6 - p.toNat)
/-- those before i are done; of the i-th the places below k, and of k what is below h -/
def ldJ (μ0 μ : mM) (bq bf : Nat) (n i k h : Int) : Prop := ldB μ0 μ bq bf n ∧ (∀ j : Nat, (j : Int) < i → ∀ s : Nat, (s : Int) < ctN μ0 → anyP (ctE μ0) s (μ bq j).toNat → Rch (ctE μ0) (ctr μ0) s → μ bf s = 3) ∧ (∀ p : Nat, 1 ≤ p → (p : Int) < k → ∀ s : Nat, (s : Int) < ctN μ0 → ctE μ0 p s (μ bq i.toNat).toNat → Rch (ctE μ0) (ctr μ0) s → μ bf s = 3) ∧ (∀ had : Int, 0 ≤ had → had < h → ∀ s : Nat, (s : Int) < ctN μ0 → srcS μ0 (μ bq i.toNat).toNat k had s → Rch (ctE μ0) (ctr μ0) s → μ bf s = 3)
theorem ldJ.of {μ0 μ μ1 : mM} {bq bf : Nat} {n i k h : Int} (a : ldJ μ0 μ bq bf n i k h) (e1 : μ1 bq = μ bq) (e2 : μ1 bf = μ bf) : ldJ μ0 μ1 bq bf n i k h := by
  unfold ldJ ldB at a ⊢
  rw [e1, e2]; exact a
/-- out of what spread left -/
theorem ldB.of {μ0 μ μ1 : mM} {bq bf bq' : Nat} {n i k l e v c m L : Int} (a : ctL μ0 μ bq bf n i k l e v c) (hi : n ≤ i) (hi2 : i ≤ n) (ef : μ1 bf = μ bf) (b : ld0 μ1 bq' bf m L) (hL : ctN μ0 ≤ L) (hL2 : L ≤ ctN μ0) : ldB μ0 μ1 bq' bf m := by
  obtain ⟨lv, h1, h2, _⟩ := a
  refine ⟨fun j hj => by have := b.1 j hj; exact ⟨this.1, by omega⟩, b.2.1, fun s hs => ?_⟩
  obtain ⟨x1, x2, x3⟩ := h2 s hs
  rw [ef]
  have rc := h1.rch hi s
  refine ⟨by rw [x1, rc], x2, ⟨fun g => b.2.2 s (by omega) (by rw [ef]; exact g), fun ⟨j, y, z⟩ => ?_⟩, fun g => ?_, fun hr hp => ?_⟩
  · have := (b.1 j y).2.2
    rw [z, ef] at this
    exact this
  · obtain ⟨j, y, z, w⟩ := x3.mp g
    exact Hop.rest w
  · obtain ⟨j, y, z⟩ := rc.mp hr
    exact x3.mpr ⟨j, by omega, z, hp⟩
theorem ldJ.start {μ0 μ : mM} {bq bf : Nat} {n i k h : Int} (a : ldB μ0 μ bq bf n) (hi : i ≤ 0) (hk : k ≤ 1) (hh : h ≤ 0) : ldJ μ0 μ bq bf n i k h := ⟨a, fun j hj => by omega, fun p a b => by omega, fun had a b => by omega⟩
/-- a place that does otherwise has no sources -/
theorem ldJ.skip {μ0 μ : mM} {bq bf : Nat} {n i k h h' a : Int} (hN : NDQ μ0) (hC : ∀ p : Nat, 1 ≤ p → p ≤ 6 → 0 ≤ μ0 95 p) (J_ : ldJ μ0 μ bq bf n i k h) (hk : 1 ≤ k ∧ k ≤ 6) (ha : actR μ0 95 97 96 7 (dgF (μ0 95) ((μ bq i.toNat).toNat : Int)) k a) (hne : ¬ a = dgF (μ0 95) ((μ bq i.toNat).toNat : Int) k.toNat) (hh : h' ≤ 0) : ldJ μ0 μ bq bf n i (k + 1) h' := by
  obtain ⟨h1, h2, h3, h4⟩ := J_
  have ek : ((k.toNat : Nat) : Int) = k := by omega
  refine ⟨h1, h2, fun p x y s hs e hr => ?_, fun had x y => by omega⟩
  by_cases c : (p : Int) < k
  · exact h3 p x c s hs e hr
  · rw [show p = k.toNat by omega] at e
    have g := ((nxP.src hN hC (p := k.toNat) (by omega)).mp e).1
    rw [ek] at g
    exact absurd (ha.uniq g) hne
/-- all sources of a place are seen -/
theorem ldJ.place {μ0 μ : mM} {bq bf : Nat} {n i k h h' : Int} (hN : NDQ μ0) (hC : ∀ p : Nat, 1 ≤ p → p ≤ 6 → 0 ≤ μ0 95 p) (J_ : ldJ μ0 μ bq bf n i k h) (hk : 1 ≤ k ∧ k ≤ 6) (hh : μ0 95 k.toNat < h) (h0 : h' ≤ 0) : ldJ μ0 μ bq bf n i (k + 1) h' := by
  obtain ⟨h1, h2, h3, h4⟩ := J_
  refine ⟨h1, h2, fun p x y s hs e hr => ?_, fun had x y => by omega⟩
  by_cases c : (p : Int) < k
  · exact h3 p x c s hs e hr
  · rw [show p = k.toNat by omega] at e
    obtain ⟨_, had, hr2, es⟩ := (nxP.src hN hC (p := k.toNat) (by omega)).mp e
    exact h4 had hr2.1 (by omega) s hs es hr
theorem ldJ.src {μ0 μ : mM} {bq bf : Nat} {n i k h t x : Int} (J_ : ldJ μ0 μ bq bf n i k h) (ht : 0 ≤ t ∧ t < ctN μ0) (hs : srcS μ0 (μ bq i.toNat).toNat k h t.toNat) (qx : μ bf t.toNat = x) (hx : ¬ x = 1) : ldJ μ0 μ bq bf n i k (h + 1) := by
  obtain ⟨h1, h2, h3, h4⟩ := J_
  refine ⟨h1, h2, h3, fun had a b s hs' e hr => ?_⟩
  by_cases c : had < h
  · exact h4 had a c s hs' e hr
  · have eh : had = h := by omega
    rw [eh] at e
    unfold srcS at e hs
    have es : s = t.toNat := by omega
    rw [es]
    obtain ⟨x1, x2, _⟩ := h1.2.2 t.toNat (by omega)
    rw [es] at hr
    have := x1.mpr hr
    rw [qx] at this x2 ⊢
    omega
theorem ldJ.push {μ0 μ μ1 μ2 : mM} {bq bf : Nat} {n i k h t x y : Int} (hN : NDQ μ0) (hC : ∀ p : Nat, 1 ≤ p → p ≤ 6 → 0 ≤ μ0 95 p) (J_ : ldJ μ0 μ bq bf n i k h) (ne : bq ≠ bf) (hi : 0 ≤ i ∧ i < n) (hk : 1 ≤ k ∧ k ≤ 6) (hh : 0 ≤ h ∧ h ≤ μ0 95 k.toNat) (ha : actR μ0 95 97 96 7 (dgF (μ0 95) ((μ bq i.toNat).toNat : Int)) k (dgF (μ0 95) ((μ bq i.toNat).toNat : Int) k.toNat)) (ht : 0 ≤ t ∧ t < ctN μ0) (hs : srcS μ0 (μ bq i.toNat).toNat k h t.toNat) (qx : μ bf t.toNat = x) (hx : x = 1) (u1 : mU μ bf t.toNat y μ1) (hy : y = 3) (u2 : mU μ1 bq n.toNat t μ2) : ldJ μ0 μ2 bq bf (n + 1) i k (h + 1) := by
  obtain ⟨⟨b1, b2, b3⟩, h2, h3, h4⟩ := J_
  have ek : ((k.toNat : Nat) : Int) = k := by omega
  have q2 : ∀ j : Nat, (j : Int) < n → μ2 bq j = μ bq j := fun j hj => (u2.2 bq j (Or.inr (by omega))).trans (u1.2 bq j (Or.inl ne))
  have qi : μ2 bq i.toNat = μ bq i.toNat := q2 _ (by omega)
  have f2 : ∀ s : Nat, s ≠ t.toNat → μ2 bf s = μ bf s := fun s hs => (u2.2 bf s (Or.inl (fun e => ne e.symm))).trans (u1.2 bf s (Or.inr hs))
  have ft : μ2 bf t.toNat = 3 := (u2.2 bf t.toNat (Or.inl (fun e => ne e.symm))).trans (u1.1.trans hy)
  have up : ∀ s : Nat, μ bf s = 3 → μ2 bf s = 3 := fun s g => by
    by_cases c : s = t.toNat
    · rw [c]; exact ft
    · rw [f2 s c]; exact g
  have bt := b3 t.toNat (by omega)
  have ni : ¬ inQ (μ bq) n t.toNat := fun g => by
    have := bt.2.2.1.mpr g
    omega
  have bi := b1 i.toNat (by omega)
  have hop : Hop (ctE μ0) (ctP μ0) t.toNat := by
    have b' := b3 (μ bq i.toNat).toNat (by omega)
    have f3 := b'.2.2.1.mpr ⟨i.toNat, by omega, by omega⟩
    refine Hop.step ⟨k.toNat, by omega, by omega, ?_⟩ (b'.2.2.2.1 f3)
    refine (nxP.src hN hC (p := k.toNat) (by omega)).mpr ⟨by rw [ek]; exact ha, h, hh, hs⟩
  refine ⟨⟨fun j hj => ?_, fun j j' a b => ?_, fun s hs' => ?_⟩, fun j hj s hs' e hr => ?_, fun p a b s hs' e hr => ?_, fun had a b s hs' e hr => ?_⟩
  · by_cases c : (j : Int) < n
    · rw [q2 j c]; exact b1 j c
    · rw [show j = n.toNat by omega, u2.1]; exact ht
  · by_cases c : (j' : Int) < n
    · rw [q2 j (by omega), q2 j' c]; exact b2 j j' a c
    · rw [show j' = n.toNat by omega, u2.1, q2 j (by omega)]
      intro e
      exact ni ⟨j, by omega, by rw [e]; omega⟩
  · by_cases c : s = t.toNat
    · subst c
      rw [ft]
      have hr := bt.1.mp (by rw [qx, hx]; decide)
      exact ⟨⟨fun _ => hr, fun _ => by decide⟩, Or.inr (Or.inr rfl), ⟨fun _ => ⟨n.toNat, by omega, by rw [u2.1]; omega⟩, fun _ => rfl⟩, fun _ => hop, fun _ _ => rfl⟩
    · rw [f2 s c]
      obtain ⟨x1, x2, x3, x4, x5⟩ := b3 s hs'
      refine ⟨x1, x2, ?_, x4, x5⟩
      rw [x3]
      constructor
      · rintro ⟨j, a, b⟩; exact ⟨j, by omega, by rw [q2 j a]; exact b⟩
      · rintro ⟨j, a, b⟩
        by_cases d : (j : Int) < n
        · exact ⟨j, d, by rw [← q2 j d]; exact b⟩
        · exfalso
          rw [show j = n.toNat by omega, u2.1] at b
          exact c (by omega)
  · rw [q2 j (by omega)] at e
    exact up s (h2 j hj s hs' e hr)
  · rw [qi] at e
    exact up s (h3 p a b s hs' e hr)
  · rw [qi] at e
    by_cases c : had < h
    · exact up s (h4 had a c s hs' e hr)
    · have eh : had = h := by omega
      rw [eh] at e
      unfold srcS at e hs
      have es : s = t.toNat := by omega
      rw [es]; exact ft
theorem ldJ.next {μ0 μ : mM} {bq bf : Nat} {n i k h : Int} (J_ : ldJ μ0 μ bq bf n i k h) (hi : 0 ≤ i) (hk : 7 ≤ k) : ldJ μ0 μ bq bf n (i + 1) 1 0 := by
  obtain ⟨h1, h2, h3, h4⟩ := J_
  refine ⟨h1, fun j hj s hs e hr => ?_, fun p a b => by omega, fun had a b => by omega⟩
  by_cases c : (j : Int) < i
  · exact h2 j c s hs e hr
  · rw [show j = i.toNat by omega] at e
    obtain ⟨p, p1, p2, p3⟩ := e
    exact h3 p p1 (by omega) s hs p3 hr
theorem ldJ.all {μ0 μ : mM} {bq bf : Nat} {n i k h : Int} (hC : ∀ p : Nat, 1 ≤ p → p ≤ 6 → 0 ≤ μ0 95 p) (J_ : ldJ μ0 μ bq bf n i k h) (hi : n ≤ i) (n0 : 0 ≤ n) : n = cnP (fun s => Rch (ctE μ0) (ctr μ0) s ∧ Hop (ctE μ0) (ctP μ0) s) (ctN μ0).toNat := by
  obtain ⟨⟨b1, b2, b3⟩, h2, _, _⟩ := J_
  have full : ∀ m s, hpe (ctE μ0) (ctP μ0) m s → (s : Int) < ctN μ0 → Rch (ctE μ0) (ctr μ0) s → μ bf s = 3 := by
    intro m
    induction m with
    | zero => intro s hs hl hr; exact (b3 s hl).2.2.2.2 hr hs
    | succ m ih =>
      intro s hs hl hr
      obtain ⟨t, e, g⟩ := hs
      have tl := nxP.lt hC hl e
      obtain ⟨j, x, y⟩ := (b3 t tl).2.2.1.mp (ih t g tl (hr.step e))
      exact h2 j (by omega) s hl (by rw [show (μ bq j).toNat = t by omega]; exact e) hr
  have c1 := cnQ (q := μ bq) (N := (ctN μ0).toNat) (Q := fun _ => True) n.toNat (fun j hj => by have := b1 j (by omega); omega) (fun j k a b => b2 j k a (by omega))
  rw [cnP.true, show ((n.toNat : Nat) : Int) = n by omega] at c1
  rw [c1]
  refine cnP.cg _ fun s hs => ?_
  have hl : (s : Int) < ctN μ0 := by omega
  obtain ⟨x1, x2, x3, x4, x5⟩ := b3 s hl
  constructor
  · rintro ⟨g, _⟩
    have f3 := x3.mpr g
    exact ⟨x1.mp (by omega), x4 f3⟩
  · rintro ⟨hr, m, g⟩
    exact ⟨x3.mp (full m s g hl hr), trivial⟩
/-- the class's four answers -/
theorem ctL.a0 {μ0 μ : mM} {bq bf : Nat} {n i k l e v c : Int} (h : ctL μ0 μ bq bf n i k l e v c) (hi : n ≤ i) (hi2 : i ≤ n) (hN : 0 ≤ ctN μ0) : n = cnP (Rch (ctE μ0) (ctr μ0)) (ctN μ0).toNat ∧ c = cnP (fun s => Rch (ctE μ0) (ctr μ0) s ∧ ctP μ0 s) (ctN μ0).toNat ∧ (((∀ s, Rch (ctE μ0) (ctr μ0) s → ¬ ctP μ0 s) ∧ v = -99999999) ∨ ∃ (s m : Nat), ctP μ0 s ∧ minl (bakP (ctE μ0)) (ctr μ0) m s ∧ v = (m : Int) ∧ ∀ s' m' : Nat, ctP μ0 s' → minl (bakP (ctE μ0)) (ctr μ0) m' s' → m ≤ m') := by
  obtain ⟨lv, h1, _, _, h4, h5⟩ := h
  refine ⟨?_, ?_, ?_⟩
  · rcases trA.zero (P := ctP μ0) (w := 0) (z := n) h1 hi hN rfl rfl with ⟨a, _⟩ | ⟨_, a⟩ | ⟨a, _⟩ | ⟨a, _⟩ | ⟨a, _⟩
    · omega
    · exact a
    · omega
    · omega
    · omega
  · rcases trA.one (P := ctP μ0) (w := 1) (z := c) h1 hi hi2 hN rfl h5 with ⟨a, _⟩ | ⟨a, _⟩ | ⟨_, a⟩ | ⟨a, _⟩ | ⟨a, _⟩
    · omega
    · omega
    · exact a
    · omega
    · omega
  · rcases trA.three (P := ctP μ0) (w := 3) (z := v) h1 hi hi2 rfl h4 with ⟨a, _⟩ | ⟨a, _⟩ | ⟨a, _⟩ | ⟨a, _⟩ | ⟨_, a⟩
    · omega
    · omega
    · omega
    · omega
    · exact a
theorem nxP.isG {μ0 μ : mM} {C L V m H W : Nat} {s k a h w t : Int} (hd : hasD μ H C s) (hw : wgT μ W C) (e1 : μ C = μ0 C) (e2 : μ L = μ0 L) (e3 : μ V = μ0 V) (hV : ∀ i, 0 ≤ μ V i ∧ μ V i ≤ 6) (hs : 0 ≤ s) (hk : 1 ≤ k ∧ k ≤ 6) (ha : actR μ C L V m (μ H) k a) (qh : μ H k.toNat = h) (qw : μ W k.toNat = w) (ht : t = s + (a - h) * w) (t0 : 0 ≤ t) : ∀ t' : Nat, nxP μ0 C L V m k.toNat s.toNat t' ↔ t' = t.toNat := by
  have es : ((s.toNat : Nat) : Int) = s := by omega
  have ek : ((k.toNat : Nat) : Int) = k := by omega
  have ev : actR μ0 C L V m (dgF (μ0 C) s) k a := by
    have g := actR.h (h' := dgF (μ C) s) hV (fun p h1 h2 => hd p h1 h2) ha
    unfold actR offd sufW at g ⊢
    rw [e1, e2, e3] at g; exact g
  have eh : dgF (μ0 C) s k.toNat = h := by rw [← e1, ← hd k.toNat (by omega) (by omega)]; exact qh
  have ew : wgk (μ0 C) (6 - k.toNat) = w := by rw [← e1, ← hw k.toNat (by omega) (by omega)]; exact qw
  intro t'
  unfold nxP
  rw [es, ek]
  constructor
  · rintro ⟨a', g1, g2⟩
    have := g1.uniq ev
    rw [this, eh, ew] at g2
    omega
  · intro e
    refine ⟨a, ev, ?_⟩
    rw [eh, ew, e]; omega
theorem ctE.ext {μ μ1 : mM} (r : rwE μ μ1) : ctE μ1 = ctE μ := by
  funext p s t
  unfold ctE nxP actR offd sufW
  rw [r.1, r.2.1, r.2.2]
theorem ctL.base {μ0 μ0' μ : mM} {bq bf : Nat} {n i k l e v c : Int} (h : ctL μ0' μ bq bf n i k l e v c) (r : rwE μ0 μ0') : ctL μ0 μ bq bf n i k l e v c := by
  have e1 := ctE.ext r
  have e2 : ctP μ0' = ctP μ0 := RSt.ext r
  have e3 : ctN μ0' = ctN μ0 := by unfold ctN; rw [r.1]
  have e4 : ctr μ0' = ctr μ0 := by unfold ctr; rw [r.1]
  unfold ctL flR at h ⊢
  rw [e1, e2, e3, e4] at h
  exact h
theorem ldJ.base {μ0 μ0' μ : mM} {bq bf : Nat} {n i k h : Int} (a : ldJ μ0' μ bq bf n i k h) (r : rwE μ0 μ0') : ldJ μ0 μ bq bf n i k h := by
  have e1 := ctE.ext r
  have e2 : ctP μ0' = ctP μ0 := RSt.ext r
  have e3 : ctN μ0' = ctN μ0 := by unfold ctN; rw [r.1]
  have e4 : ctr μ0' = ctr μ0 := by unfold ctr; rw [r.1]
  unfold ldJ ldB srcS at a ⊢
  rw [e1, e2, e3, e4, r.1] at a
  exact a
theorem rwE.symm {μ μ1 : mM} (r : rwE μ μ1) : rwE μ1 μ := ⟨r.1.symm, r.2.1.symm, r.2.2.symm⟩
theorem fl3 {v a y : Int} (hv : v = 1) (q1 : bOr v 2 = a) (q2 : bByte a = y) : y = 3 := by
  subst hv
  rw [← q2, ← q1]
  decide
theorem fa2 {v z : Int} (hv : v = 0 ∨ v = 1 ∨ v = 3) (q : bAnd v 2 = z) : z = 0 ↔ ¬ v = 3 := by
  rcases hv with e | e | e <;> subst e <;> rw [← q] <;> decide
theorem ctL.f1 {μ0 μ : mM} {bq bf : Nat} {n i k l e v c s x : Int} (h : ctL μ0 μ bq bf n i k l e v c) (hi : i < n) (qs : μ bq i.toNat = s) (q : μ bf s.toNat = x) : x = 1 := by
  obtain ⟨lv, h1, h2, _⟩ := h
  have i0 := h1.2.1.2.1
  have r := h1.1.1 i.toNat (by omega)
  rw [qs] at r
  obtain ⟨x1, x2, x3⟩ := h2 s.toNat (by omega)
  rw [q] at x1 x2 x3
  have a : ¬ x = 0 := x1.mpr ⟨i.toNat, by omega, by rw [qs]; omega⟩
  have b : ¬ x = 3 := fun g => by
    obtain ⟨j, y, z, _⟩ := x3.mp g
    exact h1.1.2.1 j i.toNat (by omega) (by omega) (by rw [z, qs]; omega)
  omega
theorem ctL.fl {μ0 μ : mM} {bq bf : Nat} {n i k l e v c s x : Int} (h : ctL μ0 μ bq bf n i k l e v c) (hs : 0 ≤ s ∧ s < ctN μ0) (q : μ bf s.toNat = x) : x = 0 ∨ x = 1 ∨ x = 3 := by
  obtain ⟨lv, _, h2, _⟩ := h
  have := (h2 s.toNat (by omega)).2.1
  rw [q] at this; exact this
theorem ctL.ix {μ0 μ : mM} {bq bf : Nat} {n i k l e v c i' n' : Int} (h : ctL μ0 μ bq bf n i k l e v c) (hi : i = i') (hn : n = n') : ctL μ0 μ bq bf n' i' k l e v c := by rw [← hi, ← hn]; exact h
/-- is the state at hand a rest -/
theorem isP {w : mW} {μ0 μ : mM} {s z : Int} (r : rwE μ0 μ) (hd : hasD μ 101 95 s) (hw : mWF w) (hT : mT w μ) (hs : 0 ≤ s) (hz : z = 1 ↔ rstP μ 95 97 96 7 (μ 101)) : z = 1 ↔ ctP μ0 s.toNat := by
  have es : ((s.toNat : Nat) : Int) = s := by omega
  rw [hz]
  show _ ↔ RSt μ0 95 97 96 7 s.toNat
  rw [← RSt.cg (m := 7) (s := s.toNat) r.1 r.2.2 r.2.1]
  unfold RSt
  rw [es]
  exact rstP.h (fun i => hT 96 96 (A_96 hw) i) hd
theorem ctK {μ0 μ : mM} {bq bf : Nat} {n i k k' l e v c : Int} (h : ctL μ0 μ bq bf n i k l e v c) (hk : k = k') : ctL μ0 μ bq bf n i k' l e v c := by rw [← hk]; exact h
theorem acD {μ0 μ : mM} {s k a : Int} (r : rwE μ0 μ) (hd : hasD μ 101 95 s) (hV : ∀ i, 0 ≤ μ 96 i ∧ μ 96 i ≤ 6) (ha : actR μ 95 97 96 7 (μ 101) k a) : actR μ0 95 97 96 7 (dgF (μ0 95) s) k a := by
  have g := actR.h (h' := dgF (μ 95) s) hV (fun p h1 h2 => hd p h1 h2) ha
  unfold actR offd sufW at g ⊢
  rw [r.1, r.2.1, r.2.2] at g; exact g
theorem dgD {μ0 μ : mM} {s k x : Int} (r : rwE μ0 μ) (hd : hasD μ 101 95 s) (hk : 1 ≤ k ∧ k ≤ 6) (q : μ 101 k.toNat = x) : dgF (μ0 95) s k.toNat = x := by rw [← r.1, ← hd k.toNat (by omega) (by omega)]; exact q
theorem wgD {μ0 μ : mM} {k x : Int} (r : rwE μ0 μ) (hw : wgT μ 100 95) (hk : 1 ≤ k ∧ k ≤ 6) (q : μ 100 k.toNat = x) : wgk (μ0 95) (6 - k.toNat) = x := by rw [← r.1, ← hw k.toNat (by omega) (by omega)]; exact q
section LDS
variable {μ0 μ μ1 μ2 : mM} {bq bf : Nat} {n i k h h' a s x w t y v : Int}
theorem ldJ.skipS (hN : NDQ μ0) (hC : ∀ p : Nat, 1 ≤ p → p ≤ 6 → 0 ≤ μ0 95 p) (J_ : ldJ μ0 μ bq bf n i k h) (hk : 1 ≤ k ∧ k ≤ 6) (qs : μ bq i.toNat = s) (hs : 0 ≤ s) (ha : actR μ0 95 97 96 7 (dgF (μ0 95) s) k a) (hx : dgF (μ0 95) s k.toNat = x) (hne : ¬ a = x) (hh : h' ≤ 0) : ldJ μ0 μ bq bf n i (k + 1) h' := by
  have es : ((s.toNat : Nat) : Int) = s := by omega
  exact ldJ.skip hN hC J_ hk (by rw [qs, es]; exact ha) (by rw [qs, es, hx]; exact hne) hh
theorem srcS.mk (qs : μ bq i.toNat = s) (hs : 0 ≤ s) (hx : dgF (μ0 95) s k.toNat = x) (hw : wgk (μ0 95) (6 - k.toNat) = w) (ht : t = s + (h - x) * w) (t0 : 0 ≤ t) : srcS μ0 (μ bq i.toNat).toNat k h t.toNat := by
  have es : ((s.toNat : Nat) : Int) = s := by omega
  unfold srcS
  rw [qs, es, hx, hw]
  omega
theorem ldJ.pushS (hN : NDQ μ0) (hC : ∀ p : Nat, 1 ≤ p → p ≤ 6 → 0 ≤ μ0 95 p) (J_ : ldJ μ0 μ bq bf n i k h) (ne : bq ≠ bf) (hi : 0 ≤ i ∧ i < n) (hk : 1 ≤ k ∧ k ≤ 6) (qv : μ0 95 k.toNat = v) (hh : 0 ≤ h ∧ h ≤ v) (qs : μ bq i.toNat = s) (hs : 0 ≤ s) (ha : actR μ0 95 97 96 7 (dgF (μ0 95) s) k a) (hx : dgF (μ0 95) s k.toNat = x) (hax : a = x) (hw : wgk (μ0 95) (6 - k.toNat) = w) (ht : t = s + (h - x) * w) (htN : 0 ≤ t ∧ t < ctN μ0) {z : Int} (qx : μ bf t.toNat = z) (hz : z = 1) (u1 : mU μ bf t.toNat y μ1) (hy : y = 3) (u2 : mU μ1 bq n.toNat t μ2) : ldJ μ0 μ2 bq bf (n + 1) i k (h + 1) := by
  have es : ((s.toNat : Nat) : Int) = s := by omega
  refine ldJ.push hN hC J_ ne hi hk ⟨hh.1, by rw [qv]; exact hh.2⟩ ?_ htN (srcS.mk qs hs hx hw ht htN.1) qx hz u1 hy u2
  rw [qs, es, hx, ← hax]; exact ha
end LDS
theorem ldJ.fl {μ0 μ : mM} {bq bf : Nat} {n i k h s x : Int} (J_ : ldJ μ0 μ bq bf n i k h) (hs : 0 ≤ s ∧ s < ctN μ0) (q : μ bf s.toNat = x) : x = 0 ∨ x = 1 ∨ x = 3 := by
  have := (J_.1.2.2 s.toNat (by omega)).2.1
  rw [q] at this; exact this
theorem ldK {μ0 μ : mM} {bq bf : Nat} {n i k h k' h' : Int} (J_ : ldJ μ0 μ bq bf n i k h) (hk : k = k') (hh : h = h') : ldJ μ0 μ bq bf n i k' h' := by rw [← hk, ← hh]; exact J_
theorem fz8 {w : mW} {μ μ1 : mM} {b : Nat} (q : μ1 94 8 = (b : Int)) (f : mQF μ b (w.2.2.1 b) 0 μ1) : ∀ s : Nat, (s : Int) < (w.2.2.1 (μ1 94 8).toNat : Int) → μ1 (μ1 94 8).toNat s = 0 := fun s hs => by
  have e : ((b : Int)).toNat = b := rfl
  rw [q, e] at hs ⊢
  exact f.2 s (by omega)
/-- what spread left: everybody that can be reached has been seen -/
def ctX (μ0 μ : mM) (bq bf : Nat) (n : Int) : Prop := ∃ l e v c : Int, ctL μ0 μ bq bf n n 1 l e v c
theorem ctX.fl {μ0 μ : mM} {bq bf : Nat} {n s x : Int} (h : ctX μ0 μ bq bf n) (hs : 0 ≤ s ∧ s < ctN μ0) (q : μ bf s.toNat = x) : x = 0 ∨ x = 1 ∨ x = 3 := by
  obtain ⟨l, e, v, c, h⟩ := h
  exact h.fl hs q
theorem ctX.ldB {μ0 μ μ1 : mM} {bq bf : Nat} {n m L : Int} (h : ctX μ0 μ bq bf n) (ef : μ1 bf = μ bf) (b : ld0 μ1 bq bf m L) (hL : ctN μ0 ≤ L) (hL2 : L ≤ ctN μ0) : ldB μ0 μ1 bq bf m := by
  obtain ⟨l, e, v, c, h⟩ := h
  exact ldB.of h (Int.le_refl _) (Int.le_refl _) ef b hL hL2
theorem ctX.of {μ0 μ μ1 : mM} {bq bf : Nat} {n : Int} (h : ctX μ0 μ bq bf n) (e1 : μ1 bq = μ bq) (e2 : μ1 bf = μ bf) : ctX μ0 μ1 bq bf n := by
  obtain ⟨l, e, v, c, h⟩ := h
  exact ⟨l, e, v, c, h.of e1 e2⟩
theorem ctX.base {μ0 μ0' μ : mM} {bq bf : Nat} {n : Int} (h : ctX μ0' μ bq bf n) (r : rwE μ0 μ0') : ctX μ0 μ bq bf n := by
  obtain ⟨l, e, v, c, h⟩ := h
  exact ⟨l, e, v, c, h.base r⟩
theorem ctX.mk {μ0 μ : mM} {bq bf : Nat} {n v c : Int} (h : ∃ l e : Int, ctL μ0 μ bq bf n n 1 l e v c) : ctX μ0 μ bq bf n := by
  obtain ⟨l, e, h⟩ := h
  exact ⟨l, e, v, c, h⟩
theorem fzS {w : mW} {μ : mM} {b : Nat} {N : Int} (f : ∀ s : Nat, (s : Int) < (w.2.2.1 (μ 94 8).toNat : Int) → μ (μ 94 8).toNat s = 0) (lf : μ 94 9 ≤ (w.2.2.1 (μ 94 8).toNat : Int)) (q8 : μ 94 8 = (b : Int)) (q9 : μ 94 9 = N) : ∀ s : Nat, (s : Int) < N → μ b s = 0 := fun s hs => by
  have e : ((b : Int)).toNat = b := rfl
  rw [q8, e] at f lf
  exact f s (by omega)
/-- what the class keeps of its tries -/
def trF (μ : mM) : Prop := μ 105 0 = cnP (Rch (ctE μ) (ctr μ)) (ctN μ).toNat ∧ μ 105 1 = cnP (fun s => Rch (ctE μ) (ctr μ) s ∧ ctP μ s) (ctN μ).toNat ∧ μ 105 2 = cnP (fun s => Rch (ctE μ) (ctr μ) s ∧ ¬ Hop (ctE μ) (ctP μ) s) (ctN μ).toNat ∧ (((∀ s, Rch (ctE μ) (ctr μ) s → ¬ ctP μ s) ∧ μ 105 3 = -99999999) ∨ ∃ (s m : Nat), ctP μ s ∧ minl (bakP (ctE μ)) (ctr μ) m s ∧ μ 105 3 = (m : Int) ∧ ∀ s' m' : Nat, ctP μ s' → minl (bakP (ctE μ)) (ctr μ) m' s' → m ≤ m')
def TRQ (μ : mM) : Prop := μ 94 11 = 1 → trF μ
theorem trF.base {μ0 μ : mM} (r : rwE μ0 μ) (h : μ 105 0 = cnP (Rch (ctE μ0) (ctr μ0)) (ctN μ0).toNat ∧ μ 105 1 = cnP (fun s => Rch (ctE μ0) (ctr μ0) s ∧ ctP μ0 s) (ctN μ0).toNat ∧ μ 105 2 = cnP (fun s => Rch (ctE μ0) (ctr μ0) s ∧ ¬ Hop (ctE μ0) (ctP μ0) s) (ctN μ0).toNat ∧ (((∀ s, Rch (ctE μ0) (ctr μ0) s → ¬ ctP μ0 s) ∧ μ 105 3 = -99999999) ∨ ∃ (s m : Nat), ctP μ0 s ∧ minl (bakP (ctE μ0)) (ctr μ0) m s ∧ μ 105 3 = (m : Int) ∧ ∀ s' m' : Nat, ctP μ0 s' → minl (bakP (ctE μ0)) (ctr μ0) m' s' → m ≤ m')) : trF μ := by
  have e1 := ctE.ext r
  have e2 : ctP μ = ctP μ0 := RSt.ext r
  have e3 : ctN μ = ctN μ0 := by unfold ctN; rw [r.1]
  have e4 : ctr μ = ctr μ0 := by unfold ctr; rw [r.1]
  unfold trF
  rw [e1, e2, e3, e4]; exact h
theorem trF.mk {μa μs μf : mM} {bq bf : Nat} {n h v0 v2 : Int} (hs : ∃ l e : Int, ctL μa μs bq bf n n 1 l e (μs 105 3) (μs 105 1)) (hN : 0 ≤ ctN μa) (hl : h = cnP (fun s => Rch (ctE μs) (ctr μs) s ∧ Hop (ctE μs) (ctP μs) s) (ctN μs).toNat) (r1 : rwE μa μs) (r2 : rwE μa μf) (q0 : μf 105 0 = v0) (e0 : v0 = n) (q2 : μf 105 2 = v2) (e2 : v2 = n - h) (e1 : μf 105 1 = μs 105 1) (e3 : μf 105 3 = μs 105 3) : trF μf := by
  obtain ⟨l, e, hs⟩ := hs
  obtain ⟨a0, a1, a3⟩ := hs.a0 (Int.le_refl _) (Int.le_refl _) hN
  have x1 := ctE.ext r1
  have x2 : ctP μs = ctP μa := RSt.ext r1
  have x3 : ctN μs = ctN μa := by unfold ctN; rw [r1.1]
  have x4 : ctr μs = ctr μa := by unfold ctr; rw [r1.1]
  rw [x1, x2, x3, x4] at hl
  have sp := cnP.split (P := Rch (ctE μa) (ctr μa)) (Q := Hop (ctE μa) (ctP μa)) (ctN μa).toNat
  refine trF.base r2 ⟨by rw [q0, e0]; exact a0, by rw [e1]; exact a1, by rw [q2, e2]; omega, by rw [e3]; exact a3⟩
def tqL2 : List Nat := [94011, 95999, 96999, 97999, 105999]
theorem TRQ.of {μ μ1 : mM} (h : TRQ μ) (r : rwE μ μ1) (e1 : μ1 94 11 = μ 94 11) (e2 : μ1 105 = μ 105) : TRQ μ1 := fun g => by
  rw [e1] at g
  have k := h g
  refine trF.base r ?_
  rw [e2]; exact k
theorem TRQ.fr {lf : List Nat} {w : mW} {μ μ1 : mM} (h : TRQ μ) (hw : mWF w) (hT : mT w μ) (F : mF lf w μ μ1) (hl : (tqL2.all fun r => !lf.elem r) = true) : TRQ μ1 := h.of (rwE.fr ⟨rfl, rfl, rfl⟩ hw F (qA_le hl rfl)) (F.f (A_94 hw) (qA_no hl rfl) rfl) (rowB (A_105 hw) F (qA_no hl rfl) rfl)
theorem TRQ.frX {lf : List Nat} {w w1 : mW} {μ μ1 : mM} (h : TRQ μ) (hw : mWF w) (hT : mT w μ) (F : mX lf w μ w1 μ1) (hl : (tqL2.all fun r => !lf.elem r) = true) : TRQ μ1 := h.of (rwE.frX ⟨rfl, rfl, rfl⟩ hw F (qA_le hl rfl)) (F.f (A_94 hw) (qA_no hl rfl) rfl) (rowX (A_105 hw) F (qA_no hl rfl) rfl)
theorem TRQ.off {μ1 : mM} {z : Int} (h : μ1 94 11 = z) (hz : z = 0) : TRQ μ1 := fun g => by rw [h, hz] at g; exact absurd g (by decide)
theorem TRQ.wish {μ μ1 : mM} {n z k : Int} (h : TRQ μ) (h95 : ∀ p : Nat, 0 ≤ μ 95 p) (ha : wiA μ μ1 95 97 96 7 2 n z) (q : μ1 94 11 = k) (hk : z ≤ 0 ∨ k = 0) : TRQ μ1 := by
  rcases ha with ⟨_, _, e⟩ | ⟨a1, ⟨_, _, e⟩ | ⟨a2, ⟨_, _, e⟩ | ⟨a3, a4, _⟩⟩⟩
  · rw [e]; exact h
  · rw [e]; exact h
  · rw [e]; exact h
  · have := h95 (μ 2 0).toNat
    exact TRQ.off q (by omega)
theorem trF.ans {μ : mM} {p z : Int} (h : trF μ) (hp : 0 ≤ p ∧ p ≤ 3) (q : μ 105 p.toNat = z) : trA (ctE μ) (ctP μ) (ctr μ) (ctN μ).toNat p z := by
  obtain ⟨h0, h1, h2, h3⟩ := h
  have : p = 0 ∨ p = 1 ∨ p = 2 ∨ p = 3 := by omega
  rcases this with e | e | e | e <;> subst e
  · exact Or.inr (Or.inl ⟨rfl, q.symm.trans h0⟩)
  · exact Or.inr (Or.inr (Or.inl ⟨rfl, q.symm.trans h1⟩))
  · exact Or.inr (Or.inr (Or.inr (Or.inl ⟨rfl, q.symm.trans h2⟩)))
  · have q : μ 105 3 = z := q
    rw [q] at h3
    exact Or.inr (Or.inr (Or.inr (Or.inr ⟨rfl, h3⟩)))
/-- both sides' steps are the same -/
theorem netE {μ : mM} (hW : WSQ μ) (hN : NDQ μ) (h96 : ∀ i, 0 ≤ μ 96 i ∧ μ 96 i ≤ 6) : ∀ p s t : Nat, 1 ≤ p → p ≤ 6 → (nxP μ 95 97 96 7 p s t ↔ nxP μ 184 185 186 8 p s t) := fun p s t h1 h2 => by
  have e : ∀ p : Nat, 1 ≤ p → p ≤ 6 → μ 95 p = μ 184 p := fun p _ h2 => (hW p h2).2.1
  have ed : ∀ p : Nat, 1 ≤ p → p ≤ 6 → dgF (μ 95) (s : Int) p = dgF (μ 184) (s : Int) p := fun p h1 h2 => dgF.cg e h1 h2
  have hh : ∀ p : Nat, 1 ≤ p → p ≤ 6 → 0 ≤ dgF (μ 184) (s : Int) p ∧ dgF (μ 184) (s : Int) p ≤ μ 95 p := fun p h1 h2 => by
    rw [e p h1 h2]
    exact dgF.rng (by rw [← e p h1 h2]; exact (hW p h2).1.1)
  have ew : wgk (μ 95) (6 - p) = wgk (μ 184) (6 - p) := wgk.cg e (6 - p) (by omega)
  unfold nxP
  rw [ed p h1 h2, ew]
  constructor
  · rintro ⟨a, x, y⟩
    exact ⟨a, (actR.cg hW hN h1 h2 hh).mp (actR.h h96 ed x), y⟩
  · rintro ⟨a, x, y⟩
    exact ⟨a, actR.h h96 (fun p h1 h2 => (ed p h1 h2).symm) ((actR.cg hW hN h1 h2 hh).mpr x), y⟩
theorem netA {μ : mM} (hW : WSQ μ) (hN : NDQ μ) (h96 : ∀ i, 0 ≤ μ 96 i ∧ μ 96 i ≤ 6) : anyP (ctE μ) = anyP (trE μ) := by
  funext s t
  refine propext ⟨?_, ?_⟩
  · rintro ⟨p, a, b, c⟩; exact ⟨p, a, b, (netE hW hN h96 p s t a b).mp c⟩
  · rintro ⟨p, a, b, c⟩; exact ⟨p, a, b, (netE hW hN h96 p s t a b).mpr c⟩
theorem hpe.cg {E E' : Nat → Nat → Nat → Prop} {P : Nat → Prop} (e : anyP E = anyP E') : ∀ n : Nat, hpe E P n = hpe E' P n
  | 0 => rfl
  | n + 1 => by
    funext s
    show (∃ t, anyP E s t ∧ hpe E P n t) = ∃ t, anyP E' s t ∧ hpe E' P n t
    rw [e, hpe.cg e n]
theorem trA.cg {E E' : Nat → Nat → Nat → Prop} {P : Nat → Prop} {r N : Nat} {w z : Int} (e : anyP E = anyP E') (h : trA E P r N w z) : trA E' P r N w z := by
  have eb : bakP E = bakP E' := by funext t s; show anyP E s t = anyP E' s t; rw [e]
  have er : Rch E = Rch E' := by funext r s; unfold Rch; rw [eb]
  have eh : Hop E P = Hop E' P := by funext s; unfold Hop; simp only [hpe.cg e]
  unfold trA at h ⊢
  rw [← er, ← eb, ← eh]; exact h
theorem netTr {μ μ1 : mM} {p z z' : Int} (hW : WSQ μ1) (hN : NDQ μ1) (h96 : ∀ i, 0 ≤ μ1 96 i ∧ μ1 96 i ≤ 6) (h : trA (ctE μ1) (ctP μ1) (ctr μ1) (ctN μ1).toNat p z) (k : trA (trE μ1) (trP μ1) (trr μ1) (trN μ1).toNat p z') : z = z' := by
  have e1 : trP μ1 = ctP μ1 := (netP hW hN h96).symm
  have e2 : trN μ1 = ctN μ1 := (netW hW).symm
  have e3 : trr μ1 = ctr μ1 := by show (wgk (μ1 184) 6).toNat - 1 = (wgk (μ1 95) 6).toNat - 1; rw [netW hW]
  rw [e1, e2, e3] at k
  exact trA.eq h (trA.cg (netA hW hN h96).symm k)
theorem trB.lv0 {μ0 μ : mM} {n i k j s x : Int} (h : trB μ0 μ n i k) (hj : 0 ≤ j ∧ j < n) (qs : μ 190 j.toNat = s) (hs : 0 ≤ s ∧ s < trN μ0) (qx : μ 189 s.toNat = x) : 0 ≤ x := by
  have e : ((s.toNat : Nat) : Int) = s := Int.toNat_of_nonneg hs.1
  have g := (h.2 s.toNat (by rw [e]; exact hs.2)).mpr ⟨j.toNat, by omega, by rw [qs, e]⟩
  rw [qx] at g
  exact g
