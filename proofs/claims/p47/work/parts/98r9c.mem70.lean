/-! The class's nets: what a wish needs; the same act; rests kept. -/
def sfx (μ : mM) (v : Nat) (e n : Int) : Prop := μ 97 v = n ∧ ∀ i : Nat, (i : Int) < n → μ 96 (7 * v + i) = μ 96 (e + i).toNat
def sfI (μ : mM) (v : Nat) (e n k f : Int) : Prop := (f = 1 → μ 97 v = n ∧ ∀ i : Nat, (i : Int) < k → μ 96 (7 * v + i) = μ 96 (e + i).toNat) ∧ (¬ f = 1 → ¬ sfx μ v e n)
theorem sfI.start {μ : mM} {s e n k f l : Int} (q : μ 97 s.toNat = l) (hk : k ≤ 0) (hf : (l = n ∧ f = 1) ∨ (¬ l = n ∧ ¬ f = 1)) : sfI μ s.toNat e n k f := by
  refine ⟨fun g => ⟨by rw [q]; omega, fun i hi => by omega⟩, fun g w => ?_⟩
  have := w.1
  rw [q] at this
  omega
theorem sfI.next {μ : mM} {s e n k f g x y ex ey : Int} (h : sfI μ s.toNat e n k f) (hf : f = 1) (hk : 0 ≤ k ∧ k < n) (qx : μ 96 ex.toNat = x) (hx : 0 ≤ s ∧ ex = 7 * s + k) (qy : μ 96 ey.toNat = y) (hy : ey = e + k) (hg : (x = y ∧ g = 1) ∨ (¬ x = y ∧ ¬ g = 1)) : sfI μ s.toNat e n (k + 1) g := by
  obtain ⟨h1, h2⟩ := h.1 hf
  have e1 : 7 * s.toNat + k.toNat = ex.toNat := by omega
  have e2 : (e + (k.toNat : Int)).toNat = ey.toNat := by omega
  refine ⟨fun g1 => ⟨h1, fun i hi => ?_⟩, fun g1 w => ?_⟩
  · by_cases c : (i : Int) < k
    · exact h2 i c
    · rw [show i = k.toNat by omega, e1, e2, qx, qy]; omega
  · have := w.2 k.toNat (by omega)
    rw [e1, e2, qx, qy] at this
    omega
theorem sfI.yes {μ : mM} {v : Nat} {e n k f : Int} (h : sfI μ v e n k f) (hf : f = 1) (hk : n ≤ k) : sfx μ v e n := ⟨(h.1 hf).1, fun i hi => (h.1 hf).2 i (by omega)⟩
def nsf (μ : mM) (q e n k : Int) : Prop := ∀ c : Nat, (c : Int) < k → ¬ sfx μ (5 * q + c).toNat e n
theorem nsf.zero {μ : mM} {q e n k : Int} (hk : k ≤ 0) : nsf μ q e n k := fun c hc => by omega
theorem nsf.next {μ : mM} {q e n k s : Int} (h : nsf μ q e n k) (h0 : 0 ≤ k) (hs : s = 5 * q + k) (no : ¬ sfx μ s.toNat e n) : nsf μ q e n (k + 1) := fun c hc => by
  by_cases g : (c : Int) < k
  · exact h c g
  · rw [show (5 * q + (c : Int)).toNat = s.toNat by omega]; exact no
def fnG (μ : mM) (q e n N z : Int) : Prop := (z = -1 ∧ nsf μ q e n N) ∨ ((0 ≤ z ∧ z < N) ∧ sfx μ (5 * q + z).toNat e n)
theorem fnG.no {μ : mM} {q e n N k : Int} (h : nsf μ q e n k) (hk : N ≤ k) : fnG μ q e n N (-1) := Or.inl ⟨rfl, fun c hc => h c (by omega)⟩
theorem fnG.yes {μ : mM} {q e n N k s z : Int} (hk : 0 ≤ k ∧ k < N) (hs : s = 5 * q + k) (hz : z = k) (h : sfx μ s.toNat e n) : fnG μ q e n N z := Or.inr ⟨by omega, by rw [hz, ← hs]; exact h⟩
theorem sfx.suf {μ : mM} {s v : Nat} {e n : Int} (he : e = 7 * (s : Int) + 1) (hn : n = μ 97 s - 1) : sfx μ v e n ↔ sufW μ 97 96 7 s v := by
  have ei : ∀ i : Nat, (e + (i : Int)).toNat = 7 * s + (i + 1) := fun i => by omega
  unfold sfx sufW
  rw [hn]
  constructor
  · rintro ⟨a, b⟩
    refine ⟨a, fun i hi => ?_⟩
    rw [a] at hi
    have := b i hi
    rw [ei] at this; exact this
  · rintro ⟨a, b⟩
    refine ⟨a, fun i hi => ?_⟩
    rw [← a] at hi
    rw [ei]; exact b i hi
theorem fnG.fnd {μ : mM} {s : Nat} {q e n N z : Int} (h : fnG μ q e n N z) (hq : q = μ 96 (7 * s + 1)) (he : e = 7 * (s : Int) + 1) (hn : n = μ 97 s - 1) (hN : N = μ 95 (μ 96 (7 * s + 1)).toNat) : fndS μ s z := by
  unfold fndS
  rw [← hN, ← hq]
  rcases h with ⟨a, b⟩ | ⟨a, b⟩
  · exact Or.inl ⟨a, fun c hc g => b c hc ((sfx.suf he hn).mpr g)⟩
  · exact Or.inr ⟨a, (sfx.suf he hn).mp b⟩
theorem fnG.cg {μ μ1 : mM} {q e n N z : Int} (h : fnG μ1 q e n N z) (e6 : μ1 96 = μ 96) (e7 : μ1 97 = μ 97) : fnG μ q e n N z := by
  unfold fnG nsf sfx at h ⊢
  rw [e6, e7] at h; exact h
def ndW (μ μ1 : mM) (s : Int) : Prop := one μ μ1 98 s ∧ one μ μ1 99 s ∧ ndS μ s.toNat (μ1 98 s.toNat) (μ1 99 s.toNat)
theorem ndW.of {μ μ1 : mM} {s q z e n l N : Int} (o8 : one μ μ1 98 s) (o9 : one μ μ1 99 s) (q8 : μ1 98 s.toNat = q) (q9 : μ1 99 s.toNat = z) (qq : μ 96 e.toNat = q) (he : 0 ≤ s ∧ e = 7 * s + 1) (qn : μ 97 s.toNat = l) (qN : μ 95 q.toNat = N) (hz : ¬ q = 0 → n = l - 1 ∧ fnG μ q e n N z) : ndW μ μ1 s := by
  have ee : 7 * s.toNat + 1 = e.toNat := by omega
  refine ⟨o8, o9, ?_, fun g => ?_⟩
  · rw [q8, ee, qq]
  · rw [q8] at g
    obtain ⟨g1, g2⟩ := hz g
    rw [q9]
    refine g2.fnd (by rw [ee, qq]) (by omega) (by rw [qn]; exact g1) ?_
    rw [ee, qq, qN]
theorem ndS.cg {μ μ1 : mM} {s : Nat} {q z : Int} (h : ndS μ s q z) (e5 : μ1 95 = μ 95) (e6 : μ1 96 = μ 96) (e7 : μ1 97 = μ 97) : ndS μ1 s q z := by
  unfold ndS fndS sufW at h ⊢
  rw [e5, e6, e7]; exact h
/-- needs are told: of places above T, and the first k of T -/
def ndT (μ : mM) (T k : Int) : Prop := ∀ p c : Nat, 1 ≤ p → p ≤ 6 → (c : Int) < μ 95 p → (T < (p : Int) ∨ ((p : Int) = T ∧ (c : Int) < k)) → ndS μ (5 * p + c) (μ 98 (5 * p + c)) (μ 99 (5 * p + c))
def ndA (μ : mM) : Prop := ∀ p c : Nat, 1 ≤ p → p ≤ 6 → (c : Int) < μ 95 p → ndS μ (5 * p + c) (μ 98 (5 * p + c)) (μ 99 (5 * p + c))
theorem ndT.none {μ : mM} {T k : Int} (hT : 6 ≤ T) (hk : k ≤ 0) : ndT μ T k := fun p c h1 h2 h3 h4 => by omega
theorem ndT.of {μ μ1 : mM} {T k : Int} (h : ndT μ T k) (e5 : μ1 95 = μ 95) (e6 : μ1 96 = μ 96) (e7 : μ1 97 = μ 97) (e8 : μ1 98 = μ 98) (e9 : μ1 99 = μ 99) : ndT μ1 T k := fun p c h1 h2 h3 h4 => by
  rw [e5] at h3
  rw [e8, e9]
  exact (h p c h1 h2 h3 h4).cg e5 e6 e7
theorem ndT.shift {μ : mM} {T T' k k' n : Int} (h : ndT μ T k) (q : μ 95 T.toNat = n) (hn : n ≤ k) (hT : T' = T - 1) (h0 : 0 ≤ T) (hk : k' ≤ 0) : ndT μ T' k' := fun p c h1 h2 h3 h4 => by
  refine h p c h1 h2 h3 ?_
  by_cases g : T < (p : Int)
  · exact Or.inl g
  · refine Or.inr ⟨by omega, ?_⟩
    rw [show p = T.toNat by omega, q] at h3
    omega
theorem ndT.next {μ μ1 : mM} {T k s : Int} (h : ndT μ T k) (h5 : ∀ p : Nat, μ 95 p ≤ 5) (hs : s = 5 * T + k) (h0 : 0 ≤ T ∧ 0 ≤ k) (hw : ndW μ μ1 s) (e5 : μ1 95 = μ 95) (e6 : μ1 96 = μ 96) (e7 : μ1 97 = μ 97) : ndT μ1 T (k + 1) := fun p c h1 h2 h3 h4 => by
  rw [e5] at h3
  have hp := h5 p
  by_cases g : ((5 * p + c : Nat) : Int) = s
  · have e : 5 * p + c = s.toNat := by omega
    rw [e]
    exact hw.2.2.cg e5 e6 e7
  · rw [hw.1 _ g, hw.2.1 _ g]
    refine (h p c h1 h2 h3 ?_).cg e5 e6 e7
    omega
theorem ndT.all {μ : mM} {T k n : Int} (h : ndT μ T k) (hT : T = 1) (q : μ 95 T.toNat = n) (hn : n ≤ k) : ndA μ := fun p c h1 h2 h3 => by
  refine h p c h1 h2 h3 ?_
  by_cases g : T < (p : Int)
  · exact Or.inl g
  · refine Or.inr ⟨by omega, ?_⟩
    rw [show p = T.toNat by omega, q] at h3
    omega
theorem ndA.of {μ μ1 : mM} (h : ndA μ) (e5 : μ1 95 = μ 95) (e6 : μ1 96 = μ 96) (e7 : μ1 97 = μ 97) (e8 : μ1 98 = μ 98) (e9 : μ1 99 = μ 99) : ndA μ1 := fun p c h1 h2 h3 => by
  rw [e5] at h3
  rw [e8, e9]
  exact (h p c h1 h2 h3).cg e5 e6 e7
def hasB (μ : mM) : Prop := ∀ p : Nat, 1 ≤ p → p ≤ 6 → 0 ≤ μ 101 p ∧ μ 101 p ≤ μ 95 p
theorem ndA.off {μ : mM} {p k n s q z : Int} (hna : ndA μ) (hnd : NDQ μ) (hhs : hasB μ) (hp : 1 ≤ p ∧ p ≤ 6) (hk : 0 ≤ k ∧ k < n) (qn : μ 95 p.toNat = n) (hs : s = 5 * p + k) (q8 : μ 98 s.toNat = q) (q9 : μ 99 s.toNat = z) : (q = 0 ∨ μ 101 q.toNat = z) ↔ offd μ 95 97 96 7 (μ 101) s.toNat := by
  have es : s.toNat = 5 * p.toNat + k.toNat := by omega
  have hc : ((k.toNat : Nat) : Int) < μ 95 p.toNat := by rw [qn]; omega
  have a := hna p.toNat k.toNat (by omega) (by omega) hc
  rw [es] at q8 q9 ⊢
  rw [q8, q9] at a
  exact ndS.off hnd (by omega) (by omega) hc hhs a
theorem one.ne {μ μ1 μ2 : mM} {a b i : Nat} {k z : Int} (h : one μ μ1 a k) (u : mU μ1 b i z μ2) (hne : a ≠ b) : one μ μ2 a k := fun j q => (u.2 a j (Or.inl hne)).trans (h j q)
/-- the rests that are kept: in order, all below L -/
def rkI (P : Nat → Prop) (f : Nat → Int) (rc L : Int) : Prop := rc = cnP P L.toNat ∧ ∀ j : Nat, (j : Int) < rc → 0 ≤ f j ∧ f j < L ∧ P (f j).toNat ∧ cnP P (f j).toNat = (j : Int)
theorem rkI.zero {P : Nat → Prop} {f : Nat → Int} : rkI P f 0 0 := ⟨rfl, fun j hj => by omega⟩
theorem rkI.no {P : Nat → Prop} {f : Nat → Int} {rc L : Int} (h : rkI P f rc L) (h0 : 0 ≤ L) (hn : ¬ P L.toNat) : rkI P f rc (L + 1) := by
  refine ⟨?_, fun j hj => ?_⟩
  · rw [show (L + 1).toNat = L.toNat + 1 by omega, cnP.no hn]; exact h.1
  · obtain ⟨a, b, c, d⟩ := h.2 j hj
    exact ⟨a, by omega, c, d⟩
theorem rkI.yes {P : Nat → Prop} {f f' : Nat → Int} {rc L : Int} (h : rkI P f rc L) (h0 : 0 ≤ L) (r0 : 0 ≤ rc) (hp : P L.toNat) (e1 : f' rc.toNat = L) (e2 : ∀ j : Nat, (j : Int) < rc → f' j = f j) : rkI P f' (rc + 1) (L + 1) := by
  refine ⟨?_, fun j hj => ?_⟩
  · rw [show (L + 1).toNat = L.toNat + 1 by omega, cnP.yes hp, ← h.1]
  · by_cases c : (j : Int) < rc
    · rw [e2 j c]
      obtain ⟨a, b, c, d⟩ := h.2 j c
      exact ⟨a, by omega, c, d⟩
    · have ej : j = rc.toNat := by omega
      rw [ej, e1]
      exact ⟨h0, by omega, hp, by rw [← h.1]; omega⟩
/-- what is known of the rests, between calls -/
def NRQ (μ : mM) : Prop := μ 94 10 = 1 → wgT μ 100 95 ∧ rkI (RSt μ 95 97 96 7) (μ (μ 94 7).toNat) (μ 94 14) (wgk (μ 95) 6)
theorem wgT.pos {μ : mM} {a C : Nat} (h : wgT μ a C) (hC : ∀ p : Nat, 1 ≤ p → p ≤ 6 → 0 ≤ μ C p) {p : Int} (hp : 1 ≤ p ∧ p ≤ 6) : 1 ≤ μ a p.toNat := by
  rw [h p.toNat (by omega) (by omega)]
  exact wgk.pos hC _ (by omega)
def wiZ_ (μ : mM) (s p z : Int) : Prop := (dgF (μ 95) s p.toNat = μ 95 p.toNat ∧ z = -4) ∨ (¬ dgF (μ 95) s p.toNat = μ 95 p.toNat ∧ z = dgF (μ 95) s p.toNat)
theorem wiZ {μ : mM} {b : Nat} {e p g v x z : Int} (h : wgT μ 100 95) (qx : μ b e.toNat = x) (hg : g = x / μ 100 p.toNat % (μ 95 p.toNat + 1)) (hp : 1 ≤ p ∧ p ≤ 6) (qv : μ 95 p.toNat = v) (hz : (g = v ∧ z = -4) ∨ (¬ g = v ∧ z = g)) : wiZ_ μ (μ b e.toNat) p z := by
  have d : dgF (μ 95) x p.toNat = g := by
    unfold dgF
    rw [← h p.toNat (by omega) (by omega)]; exact hg.symm
  unfold wiZ_
  rw [qx, d, qv]; exact hz
