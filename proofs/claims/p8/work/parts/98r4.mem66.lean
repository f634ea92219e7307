/-! Ties that are up, on both sides. -/
def oneF (w : mW) (μ μ1 : mM) (s b j : Nat) : Prop := ∀ a : Nat, w.2.1 a = s → a ≠ b → μ1 a j = μ a j
theorem oneF.refl {w : mW} {μ : mM} {s b j : Nat} : oneF w μ μ s b j := fun _ _ _ => rfl
theorem oneF.up {w : mW} {μ μ1 μ2 : mM} {s b j k : Nat} {z : Int} (h : oneF w μ μ1 s b j) (u : mU μ1 b k z μ2) : oneF w μ μ2 s b j := fun a hs q => (u.2 a j (Or.inl q)).trans (h a hs q)
theorem oneF.fr {w : mW} {μ μ1 μ2 : mM} {lf : List Nat} {s b j : Nat} (h : oneF w μ μ1 s b j) (F : mF lf w μ1 μ2) (hl : lf.elem (1000 * s + j) = false) (hm : mArr s = false) : oneF w μ μ2 s b j := fun a hs q => by
  refine (F a j ?_).trans (h a hs q)
  unfold mRg; rw [hs, hm]; exact hl
theorem oneF.trans {w : mW} {μ μ1 μ2 : mM} {s b j : Nat} (h : oneF w μ μ1 s b j) (k : oneF w μ1 μ2 s b j) : oneF w μ μ2 s b j := fun a hs q => (k a hs q).trans (h a hs q)
/-- silence: the tie at x falls -/
def siC (w : mW) (μ μ1 : mM) (x : Int) : Prop := ∃ b : Nat, μ 11 x.toNat = (b : Int) ∧ oneF w μ μ1 220 b 6 ∧ μ1 b 6 = 0
/-- raise -/
def riC (w : mW) (μ μ1 : mM) (n x y z : Int) : Prop := ((x < 0 ∨ n ≤ x) ∧ z = -1 ∧ μ1 = μ) ∨ (0 ≤ x ∧ x < n ∧ ∃ b : Nat, μ 11 x.toNat = (b : Int) ∧ z = μ b 6 ∧ oneF w μ μ1 220 b 6 ∧ μ1 b 6 = y)
def riR (μ μ1 : mM) (n x y z : Int) : Prop := ((x < 0 ∨ n ≤ x) ∧ z = -1 ∧ μ1 = μ) ∨ (0 ≤ x ∧ x < n ∧ z = μ 112 x.toNat ∧ one μ μ1 112 x ∧ μ1 112 x.toNat = y)
theorem siC.tr {w : mW} {μ μ1 : mM} {x : Int} {b : Nat} (h : siC w μ μ1 x) (q : μ 11 x.toNat = (b : Int)) : oneF w μ μ1 220 b 6 ∧ μ1 b 6 = 0 := by
  obtain ⟨b', q', h1, h2⟩ := h
  have e : b' = b := by rw [q] at q'; omega
  subst e
  exact ⟨h1, h2⟩
/-- what tie did to the ties that are up -/
def tuC (w : mW) (μ μ1 : mM) (z : Int) : Prop := (0 ≤ z ∧ μ1 6 16 = μ 6 16 + 1 ∧ μ1 11 (μ 6 16).toNat = (w.1 : Int) ∧ μ1 w.1 6 = 1 ∧ ∀ i : Nat, i ≠ (μ 6 16).toNat → μ1 11 i = μ 11 i) ∨ (z < 0 ∧ μ1 = μ)
def tuR (μ μ1 : mM) (z : Int) : Prop := (0 ≤ z ∧ μ1 112 (μ 106 6).toNat = 1 ∧ ∀ i : Nat, (i : Int) < μ 106 6 → μ1 112 i = μ 112 i) ∨ (z < 0 ∧ μ1 = μ)
theorem tuR.add {μ μa μ1 : mM} {z n m d : Int} (q : μ 106 6 = n) (hz : 0 ≤ z) (qd : μ1 112 n.toNat = d) (hd : d = 1) (ti : TI μ μa n) (u : mU μa 106 6 m μ1) : tuR μ μ1 z := by
  refine Or.inl ⟨hz, by rw [q, qd, hd], fun i hi => ?_⟩
  rw [q] at hi
  exact (u.2 112 _ (Or.inl (by decide))).trans (ti 112 _ (by omega))
def UPQ (μ : mM) : Prop := (∀ i j : Nat, (i : Int) < μ 6 16 → (j : Int) < μ 6 16 → μ 11 i = μ 11 j → i = j) ∧ ∀ i : Nat, (i : Int) < μ 6 16 → tc μ 6 i = μ 112 i
theorem tcNn {w : mW} {μ : mM} (hw : mWF w) (hT : mT w μ) {i : Nat} (hi : (i : Int) < μ 6 16) : 0 ≤ μ 11 i := by
  have h6 : μ 6 16 = w.2.2.2 1 ∧ 0 ≤ μ 6 16 ∧ μ 6 16 ≤ 20 := hT 6 6 (A_6 hw) 16
  have h : ((i : Int) < w.2.2.2 1 → 0 ≤ μ 11 i ∧ mAt w (μ 11 i).toNat 220) ∧ (¬ (i : Int) < w.2.2.2 1 → μ 11 i = -1) := hT 11 11 (A_11 hw) i
  exact (h.1 (by omega)).1
theorem UPQ.of {w : mW} {μ μ1 : mM} (h : UPQ μ) (hw : mWF w) (hT : mT w μ) (e6 : μ1 6 16 = μ 6 16) (e11 : ∀ i, μ1 11 i = μ 11 i) (e112 : ∀ i, μ1 112 i = μ 112 i) (e220 : ∀ a, mAt w a 220 → μ1 a 6 = μ a 6) : UPQ μ1 := by
  refine ⟨fun i j hi hj q => h.1 i j (by omega) (by omega) (by rw [← e11, ← e11]; exact q), fun i hi => ?_⟩
  rw [e6] at hi
  have g := h.2 i hi
  unfold tc at g ⊢
  rw [e11, e112, e220 _ (tcAt hw hT hi)]; exact g
def upL : List Nat := [6016, 11999, 220006, 112999]
theorem UPQ.fr {lf : List Nat} {w : mW} {μ μ1 : mM} (h : UPQ μ) (hw : mWF w) (hT : mT w μ) (F : mF lf w μ μ1) (hl : (upL.all fun r => !lf.elem r) = true) : UPQ μ1 :=
  h.of hw hT (F.f (A_6 hw) (qA_no hl rfl) rfl) (fun _ => F.f (A_11 hw) (qA_no hl rfl) rfl) (fun _ => F.f (A_112 hw) (qA_no hl rfl) rfl) (fun _ hA => F.f hA (qA_no hl rfl) rfl)
theorem UPQ.frX {lf : List Nat} {w w1 : mW} {μ μ1 : mM} (h : UPQ μ) (hw : mWF w) (hT : mT w μ) (F : mX lf w μ w1 μ1) (hl : (upL.all fun r => !lf.elem r) = true) : UPQ μ1 :=
  h.of hw hT (F.f (A_6 hw) (qA_no hl rfl) rfl) (fun _ => F.f (A_11 hw) (qA_no hl rfl) rfl) (fun _ => F.f (A_112 hw) (qA_no hl rfl) rfl) (fun _ hA => F.f hA (qA_no hl rfl) rfl)
theorem tcF6 {lf : List Nat} {w : mW} {μ μ1 : mM} (hw : mWF w) (hT : mT w μ) (F : mF lf w μ μ1) (hl : ([11999, 220006].all fun r => !lf.elem r) = true) (i : Nat) (hi : (i : Int) < μ 6 16) : tc μ1 6 i = tc μ 6 i := by
  have e : μ1 11 i = μ 11 i := F.f (A_11 hw) (qA_no hl rfl) rfl
  unfold tc
  rw [e]
  exact F.f (tcAt hw hT hi) (qA_no hl rfl) rfl
theorem UPQ.raise {w : mW} {μ μa μb : mM} {x y z z' : Int} (h : UPQ μ) (hw : mWF w) (hT : mT w μ) (ha : riC w μ μa (μ 6 16) x y z) (a6 : μa 6 16 = μ 6 16) (a11 : ∀ i, μa 11 i = μ 11 i) (a112 : ∀ i, μa 112 i = μ 112 i) (hb : riR μa μb (μ 6 16) x y z') (b6 : μb 6 16 = μa 6 16) (b11 : ∀ i, μb 11 i = μa 11 i) (b220 : ∀ i : Nat, (i : Int) < μa 6 16 → tc μb 6 i = tc μa 6 i) : z = z' ∧ UPQ μb := by
  rcases ha with ⟨h1, h2, h3⟩ | ⟨h1, h2, b, qb, hz, ho, hv⟩ <;> rcases hb with ⟨k1, k2, k3⟩ | ⟨k1, k2, kz, ko, kv⟩
  · rw [k3, h3]; exact ⟨by omega, h⟩
  · omega
  · omega
  · have hx := h.2 x.toNat (by omega)
    have hx2 : tc μ 6 x.toNat = μ b 6 := tcOf qb rfl
    refine ⟨by rw [hz, kz, a112, ← hx, hx2], fun i j hi hj q => h.1 i j (by omega) (by omega) (by rw [← a11, ← a11, ← b11, ← b11]; exact q), fun i hi => ?_⟩
    rw [b6] at hi
    rw [b220 i hi]
    rw [a6] at hi
    by_cases e : i = x.toNat
    · subst e
      rw [kv]
      exact tcOf (by rw [a11]; exact qb) hv
    · rw [ko i (by omega), a112, ← h.2 i hi]
      unfold tc
      rw [a11]
      refine ho _ (tcAt hw hT hi).1 fun e2 => e (h.1 i x.toNat hi (by omega) ?_)
      have := tcNn hw hT hi
      rw [qb]; omega
theorem UPQ.tie {w w1 : mW} {μ μa μb : mM} {z z' : Int} (h : UPQ μ) (hw : mWF w) (hT : mT w μ) (X : mX [6016, 11999] w μ w1 μa) (ha : tuC w μ μa z) (q6 : μ 6 16 = μ 106 6) (a106 : μa 106 6 = μ 106 6) (hb : tuR μa μb z') (b6 : μb 6 16 = μa 6 16) (b11 : ∀ i, μb 11 i = μa 11 i) (b220 : ∀ i : Nat, (i : Int) < μa 6 16 → tc μb 6 i = tc μa 6 i) (hz : z = z') : UPQ μb := by
  have n0 : 0 ≤ μ 6 16 := (show μ 6 16 = w.2.2.2 1 ∧ 0 ≤ μ 6 16 ∧ μ 6 16 ≤ 20 from hT 6 6 (A_6 hw) 16).2.1
  have a112 : ∀ i, μa 112 i = μ 112 i := fun i => X.f (A_112 hw) rfl rfl
  rcases ha with ⟨h1, h2, h3, h4, h5⟩ | ⟨h1, h2⟩ <;> rcases hb with ⟨k1, k2, k3⟩ | ⟨k1, k2⟩
  · have old : ∀ i : Nat, (i : Int) < μ 6 16 → μa 11 i = μ 11 i ∧ 0 ≤ μ 11 i ∧ (μ 11 i).toNat < w.1 := fun i hi => ⟨h5 i (by omega), tcNn hw hT hi, (tcAt hw hT hi).2.1⟩
    refine ⟨fun i j hi hj q => ?_, fun i hi => ?_⟩
    · rw [b6, h2] at hi hj
      rw [b11, b11] at q
      by_cases c1 : (i : Int) < μ 6 16 <;> by_cases c2 : (j : Int) < μ 6 16
      · rw [(old i c1).1, (old j c2).1] at q; exact h.1 i j c1 c2 q
      · exfalso
        have ej : j = (μ 6 16).toNat := by omega
        rw [(old i c1).1, ej, h3] at q
        have := old i c1
        omega
      · exfalso
        have ei : i = (μ 6 16).toNat := by omega
        rw [(old j c2).1, ei, h3] at q
        have := old j c2
        omega
      · omega
    · rw [b6] at hi
      rw [b220 i hi]
      rw [h2] at hi
      by_cases c1 : (i : Int) < μ 6 16
      · rw [k3 i (by omega), a112, ← h.2 i c1]
        unfold tc
        rw [(old i c1).1]
        exact X.f (tcAt hw hT c1) rfl rfl
      · have ei : i = (μ 6 16).toNat := by omega
        rw [a106, ← q6, ← ei] at k2
        rw [k2]
        rw [← ei] at h3
        exact tcOf h3 h4
  · omega
  · omega
  · rw [k2, h2]; exact h
