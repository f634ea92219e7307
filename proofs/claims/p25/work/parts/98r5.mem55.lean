/-! What domains begin themselves, on both sides. -/
def bg (μ : mM) (d p : Nat) : Int := μ ((μ 10 d).toNat + 2) p
theorem bgOf {μ : mM} {d p b : Nat} {v : Int} (q : μ 10 d = (b : Int)) (q2 : μ (b + 2) p = v) : bg μ d p = v := by unfold bg; rw [q]; exact q2
def oneR (w : mW) (μ μ1 : mM) (s b : Nat) (k : Int) : Prop := ∀ a i : Nat, w.2.1 a = s → ¬ (a = b ∧ (i : Int) = k) → μ1 a i = μ a i
theorem oneR.refl {w : mW} {μ : mM} {s b : Nat} {k : Int} : oneR w μ μ s b k := fun _ _ _ _ => rfl
theorem oneR.up {w : mW} {μ μ1 μ2 : mM} {s b : Nat} {k z : Int} (h : oneR w μ μ1 s b k) (h0 : 0 ≤ k) (u : mU μ1 b k.toNat z μ2) : oneR w μ μ2 s b k := fun a i hs q => by
  refine (u.2 a i ?_).trans (h a i hs q)
  by_cases e : a = b
  · exact Or.inr fun e2 => q ⟨e, by omega⟩
  · exact Or.inl e
theorem oneR.fr {w : mW} {μ μ1 μ2 : mM} {lf : List Nat} {s b : Nat} {k : Int} (h : oneR w μ μ1 s b k) (F : mF lf w μ1 μ2) (hl : lf.elem (1000 * s + 999) = false) (hm : mArr s = true) : oneR w μ μ2 s b k := fun a i hs q => by
  refine (F a i ?_).trans (h a i hs q)
  unfold mRg; rw [hs, hm]; exact hl
/-- the answer of announce and withdraw: x is what shall stand there -/
def anA (B : Prop) (v x z : Int) : Prop := (B ∧ z = -1) ∨ (¬ B ∧ ((v = x ∧ z = -2) ∨ (¬ v = x ∧ z = 0)))
def anC (w : mW) (μ μ1 : mM) (d p x z : Int) : Prop := (z < 0 ∧ μ1 = μ) ∨ (0 ≤ z ∧ ∃ b : Nat, μ 10 d.toNat = (b : Int) ∧ oneR w μ μ1 212 (b + 2) p ∧ μ1 (b + 2) p.toNat = x)
def anR (μ μ1 : mM) (d p x z : Int) : Prop := (z < 0 ∧ μ1 = μ) ∨ (0 ≤ z ∧ one μ μ1 162 (10 * d + p) ∧ μ1 162 (10 * d + p).toNat = x)
def OWQ (μ : mM) : Prop := (∀ i j : Nat, (i : Int) < μ 6 15 → (j : Int) < μ 6 15 → μ 10 i = μ 10 j → i = j) ∧ (∀ d p : Nat, (d : Int) < μ 6 15 → p < 10 → bg μ d p = μ 162 (10 * d + p)) ∧ (∀ k : Nat, 10 * μ 6 15 ≤ (k : Int) → k < 100 → μ 162 k = -1)
theorem bgAt {w : mW} {μ : mM} (hw : mWF w) (hT : mT w μ) {d : Nat} (hd : (d : Int) < μ 6 15) : 0 ≤ μ 10 d ∧ mAt w (μ 10 d).toNat 210 ∧ mAt w ((μ 10 d).toNat + 2) 212 := by
  have h6 := J.c0 hw hT
  have h : ((d : Int) < w.2.2.2 0 → 0 ≤ μ 10 d ∧ mAt w (μ 10 d).toNat 210) ∧ (¬ (d : Int) < w.2.2.2 0 → μ 10 d = -1) := hT 10 10 (A_10 hw) d
  obtain ⟨h1, h2⟩ := h.1 (by omega)
  exact ⟨h1, h2, (hT _ 210 h2 1).2⟩
theorem OWQ.of {w : mW} {μ μ1 : mM} (h : OWQ μ) (hw : mWF w) (hT : mT w μ) (e6 : μ1 6 15 = μ 6 15) (e10 : ∀ i, μ1 10 i = μ 10 i) (e162 : ∀ i, μ1 162 i = μ 162 i) (e212 : ∀ a i, mAt w a 212 → μ1 a i = μ a i) : OWQ μ1 := by
  refine ⟨fun i j hi hj q => h.1 i j (by omega) (by omega) (by rw [← e10, ← e10]; exact q), fun d p hd hp => ?_, fun k hk hl => ?_⟩
  · rw [e6] at hd
    have := h.2.1 d p hd hp
    unfold bg at this ⊢
    rw [e10, e162, e212 _ _ (bgAt hw hT hd).2.2]; exact this
  · rw [e6] at hk
    rw [e162]; exact h.2.2 k hk hl
def owL : List Nat := [6015, 10999, 162999, 212999]
theorem OWQ.fr {lf : List Nat} {w : mW} {μ μ1 : mM} (h : OWQ μ) (hw : mWF w) (hT : mT w μ) (F : mF lf w μ μ1) (hl : (owL.all fun r => !lf.elem r) = true) : OWQ μ1 :=
  h.of hw hT (F.f (A_6 hw) (qA_no hl rfl) rfl) (fun _ => F.f (A_10 hw) (qA_no hl rfl) rfl) (fun _ => F.f (A_162 hw) (qA_no hl rfl) rfl) (fun _ _ hA => F.f hA (qA_no hl rfl) rfl)
theorem OWQ.frX {lf : List Nat} {w w1 : mW} {μ μ1 : mM} (h : OWQ μ) (hw : mWF w) (hT : mT w μ) (F : mX lf w μ w1 μ1) (hl : (owL.all fun r => !lf.elem r) = true) : OWQ μ1 :=
  h.of hw hT (F.f (A_6 hw) (qA_no hl rfl) rfl) (fun _ => F.f (A_10 hw) (qA_no hl rfl) rfl) (fun _ => F.f (A_162 hw) (qA_no hl rfl) rfl) (fun _ _ hA => F.f hA (qA_no hl rfl) rfl)
theorem OWQ.an {w : mW} {μ μa μb : mM} {B : Prop} {d p x z y : Int} (h : OWQ μ) (hw : mWF w) (hT : mT w μ) (hr : ¬ B → 0 ≤ d ∧ d < μ 6 15 ∧ 0 ≤ p ∧ p < 10) (ha : anA B (bg μ d.toNat p.toNat) x z) (ea : anC w μ μa d p x z) (a6 : μa 6 15 = μ 6 15) (a10 : ∀ i, μa 10 i = μ 10 i) (a162 : ∀ i, μa 162 i = μ 162 i) (hb : anA B (μa 162 (10 * d + p).toNat) x y) (eb : anR μa μb d p x y) (b6 : μb 6 15 = μa 6 15) (b10 : ∀ i, μb 10 i = μa 10 i) (b212 : ∀ a i, mAt w a 212 → μb a i = μa a i) : z = y ∧ OWQ μb := by
  rw [a162] at hb
  rcases ha with ⟨h1, h2⟩ | ⟨h1, h2⟩
  · rcases hb with ⟨k1, k2⟩ | ⟨k1, k2⟩
    · refine ⟨by omega, ?_⟩
      have e1 : μa = μ := by rcases ea with ⟨_, e⟩ | ⟨e, _⟩; exact e; omega
      have e2 : μb = μa := by rcases eb with ⟨_, e⟩ | ⟨e, _⟩; exact e; omega
      rw [e2, e1]; exact h
    · exact absurd h1 k1
  · rcases hb with ⟨k1, k2⟩ | ⟨k1, k2⟩
    · exact absurd k1 h1
    · obtain ⟨r1, r2, r3, r4⟩ := hr h1
      have ed : (10 * d + p).toNat = 10 * d.toNat + p.toNat := by omega
      have hv := h.2.1 d.toNat p.toNat (by omega) (by omega)
      rw [ed, ← hv] at k2
      have zy : z = y := by
        rcases h2 with ⟨m1, m2⟩ | ⟨m1, m2⟩ <;> rcases k2 with ⟨n1, n2⟩ | ⟨n1, n2⟩
        · omega
        · exact absurd m1 n1
        · exact absurd n1 m1
        · omega
      refine ⟨zy, ?_⟩
      rcases ea with ⟨z0, rfl⟩ | ⟨z0, b, q10, qo, qx⟩ <;> rcases eb with ⟨y0, rfl⟩ | ⟨y0, ro, rx⟩
      · exact h
      · omega
      · omega
      · refine ⟨fun i j hi hj q => h.1 i j (by omega) (by omega) (by rw [← a10, ← a10, ← b10, ← b10]; exact q), fun d' p' hd' hp' => ?_, fun k hk hl => ?_⟩
        · rw [b6, a6] at hd'
          obtain ⟨g1, g2, g3⟩ := bgAt hw hT hd'
          have hb0 : 0 ≤ μ 10 d.toNat := (bgAt hw hT (d := d.toNat) (by omega)).1
          unfold bg
          rw [b10, a10, b212 _ _ g3]
          by_cases e : d' = d.toNat ∧ p' = p.toNat
          · obtain ⟨rfl, rfl⟩ := e
            rw [ed] at rx
            rw [rx, q10]; exact qx
          · rw [ro _ (by omega), a162, qo _ _ g3.1 ?_]
            · exact h.2.1 d' p' hd' hp'
            · rintro ⟨e1, e2⟩
              refine e ⟨h.1 d' d.toNat hd' (by omega) ?_, by omega⟩
              rw [q10]; rw [q10] at hb0; omega
        · rw [b6, a6] at hk
          rw [ro k (by omega), a162]; exact h.2.2 k hk hl
theorem OWQ.dom {w w1 : mW} {μ μ1 : mM} (h : OWQ μ) (hw : mWF w) (hT : mT w μ) (X : mX [6015, 10999] w μ w1 μ1) (h9 : μ 6 15 ≤ 9) (e6 : μ1 6 15 = μ 6 15 + 1) (e10 : μ1 10 (μ 6 15).toNat = (w.1 : Int)) (o10 : ∀ i : Nat, i ≠ (μ 6 15).toNat → μ1 10 i = μ 10 i) (eb : ∀ p, μ1 (w.1 + 2) p = -1) : OWQ μ1 := by
  have h6 := J.c0 hw hT
  have e162 : ∀ i, μ1 162 i = μ 162 i := fun i => X.f (A_162 hw) rfl rfl
  have old : ∀ i : Nat, (i : Int) < μ 6 15 → μ1 10 i = μ 10 i ∧ 0 ≤ μ 10 i ∧ (μ 10 i).toNat < w.1 := fun i hi => by
    obtain ⟨g1, g2, _⟩ := bgAt hw hT hi
    exact ⟨o10 i (by omega), g1, g2.2.1⟩
  refine ⟨fun i j hi hj q => ?_, fun d p hd hp => ?_, fun k hk hl => ?_⟩
  · rw [e6] at hi hj
    by_cases c1 : (i : Int) < μ 6 15 <;> by_cases c2 : (j : Int) < μ 6 15
    · rw [(old i c1).1, (old j c2).1] at q; exact h.1 i j c1 c2 q
    · exfalso
      have ej : j = (μ 6 15).toNat := by omega
      rw [(old i c1).1, ej, e10] at q
      have := (old i c1).2; omega
    · exfalso
      have ei : i = (μ 6 15).toNat := by omega
      rw [(old j c2).1, ei, e10] at q
      have := (old j c2).2; omega
    · omega
  · rw [e6] at hd
    rw [e162]
    by_cases c1 : (d : Int) < μ 6 15
    · have := h.2.1 d p c1 hp
      unfold bg at this ⊢
      rw [(old d c1).1, X.f (bgAt hw hT c1).2.2 rfl rfl]; exact this
    · have ed : d = (μ 6 15).toNat := by omega
      unfold bg
      rw [ed, e10, h.2.2 _ (by omega) (by omega)]
      exact eb p
  · rw [e6] at hk
    rw [e162]; exact h.2.2 k (by omega) hl
