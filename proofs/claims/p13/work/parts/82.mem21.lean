/-! Nets: a state as a number of figures; queues without repeats. -/
theorem digT {W b K N s d t : Int} (hW : 0 < W) (hb : 0 < b) (hN : N = W * b * K) (hs : 0 ≤ s ∧ s < N) (hd : d = s / W % b) (ht : 0 ≤ t ∧ t < b) : 0 ≤ s + (t - d) * W ∧ s + (t - d) * W < N := by
  have h1 : s = W * (s / W) + s % W := (Int.mul_ediv_add_emod s W).symm
  have h2 : s / W = b * (s / W / b) + s / W % b := (Int.mul_ediv_add_emod (s / W) b).symm
  have r0 := Int.emod_nonneg s (show W ≠ 0 by omega)
  have r1 := Int.emod_lt_of_pos s hW
  have q0 : 0 ≤ s / W := Int.ediv_nonneg hs.1 (by omega)
  have p0 : 0 ≤ s / W / b := Int.ediv_nonneg q0 (by omega)
  have e : s + (t - d) * W = W * (b * (s / W / b) + t) + s % W := by
    rw [← hd] at h2
    have a1 : W * (s / W) = W * (b * (s / W / b)) + W * d := by
      have := congrArg (fun x => W * x) h2
      simp only [Int.mul_add] at this
      exact this
    have a2 : (t - d) * W = W * t - W * d := by rw [Int.mul_comm, Int.mul_sub]
    rw [Int.mul_add]
    omega
  have hp : s / W / b < K := by
    have e1 : s / W / b = s / (W * b) := Int.ediv_ediv_of_nonneg (by omega)
    rw [e1]
    refine Int.ediv_lt_of_lt_mul (Int.mul_pos hW hb) ?_
    rw [Int.mul_comm K (W * b), ← hN]; exact hs.2
  have hlow : 0 ≤ W * (b * (s / W / b) + t) := Int.mul_nonneg (by omega) (by have := Int.mul_nonneg (show 0 ≤ b by omega) p0; omega)
  have hup : W * (b * (s / W / b) + t) + W ≤ N := by
    have g1 : b * (s / W / b) + t + 1 ≤ b * (s / W / b + 1) := by rw [Int.mul_add]; omega
    have g2 : b * (s / W / b + 1) ≤ b * K := Int.mul_le_mul_of_nonneg_left (by omega) (by omega)
    have g3 : W * (b * (s / W / b) + t + 1) ≤ W * (b * K) := Int.mul_le_mul_of_nonneg_left (by omega) (by omega)
    rw [Int.mul_add W _ 1, Int.mul_one] at g3
    rw [hN, Int.mul_assoc]; exact g3
  rw [e]
  omega
theorem rMulS {x y m k e : Int} (hx : -m ≤ x ∧ x ≤ m) (hy : 0 ≤ y ∧ y ≤ k) (hm : 0 ≤ m) (he : m * k = e) : -e ≤ x * y ∧ x * y ≤ e := by
  have a1 : x * y ≤ m * y := Int.mul_le_mul_of_nonneg_right hx.2 hy.1
  have a2 : m * y ≤ m * k := Int.mul_le_mul_of_nonneg_left hy.2 hm
  have a3 : (-m) * y ≤ x * y := Int.mul_le_mul_of_nonneg_right hx.1 hy.1
  have a4 : (-m) * y = -(m * y) := Int.neg_mul m y
  omega
/-- the six places' weights: rows a (weights) and v (wishes), N states -/
def radx (μ : mM) (a v : Nat) (N : Int) (p : Nat) : Prop := 0 < μ a p ∧ ∃ K, N = μ a p * (μ v p + 1) * K
def radix (μ : mM) (a v : Nat) (N : Int) : Prop := radx μ a v N 1 ∧ radx μ a v N 2 ∧ radx μ a v N 3 ∧ radx μ a v N 4 ∧ radx μ a v N 5 ∧ radx μ a v N 6
theorem radix.mk {μ : mM} {a v : Nat} {v1 v2 v3 v4 v5 v6 w1 w2 w3 w4 w5 w6 N : Int} (qv1 : μ v 1 = v1) (qv2 : μ v 2 = v2) (qv3 : μ v 3 = v3) (qv4 : μ v 4 = v4) (qv5 : μ v 5 = v5) (qv6 : μ v 6 = v6) (q1 : μ a 1 = w1) (q2 : μ a 2 = w2) (q3 : μ a 3 = w3) (q4 : μ a 4 = w4) (q5 : μ a 5 = w5) (q6 : μ a 6 = w6) (p1 : 0 < w1) (p2 : 0 < w2) (p3 : 0 < w3) (p4 : 0 < w4) (p5 : 0 < w5) (p6 : 0 < w6) (e6 : w5 = w6 * (v6 + 1)) (e5 : w4 = w5 * (v5 + 1)) (e4 : w3 = w4 * (v4 + 1)) (e3 : w2 = w3 * (v3 + 1)) (e2 : w1 = w2 * (v2 + 1)) (e1 : N = w1 * (v1 + 1)) : radix μ a v N := by
  refine ⟨⟨by rw [q1]; exact p1, 1, ?_⟩, ⟨by rw [q2]; exact p2, v1 + 1, ?_⟩, ⟨by rw [q3]; exact p3, (v2 + 1) * (v1 + 1), ?_⟩, ⟨by rw [q4]; exact p4, (v3 + 1) * ((v2 + 1) * (v1 + 1)), ?_⟩, ⟨by rw [q5]; exact p5, (v4 + 1) * ((v3 + 1) * ((v2 + 1) * (v1 + 1))), ?_⟩, ⟨by rw [q6]; exact p6, (v5 + 1) * ((v4 + 1) * ((v3 + 1) * ((v2 + 1) * (v1 + 1)))), ?_⟩⟩
  · rw [q1, qv1, Int.mul_one]; exact e1
  · rw [q2, qv2, e1, e2]
  · rw [q3, qv3, e1, e2, e3]; simp only [Int.mul_assoc]
  · rw [q4, qv4, e1, e2, e3, e4]; simp only [Int.mul_assoc]
  · rw [q5, qv5, e1, e2, e3, e4, e5]; simp only [Int.mul_assoc]
  · rw [q6, qv6, e1, e2, e3, e4, e5, e6]; simp only [Int.mul_assoc]
theorem radix.at {μ : mM} {a v : Nat} {N p : Int} (h : radix μ a v N) (hp : 1 ≤ p ∧ p ≤ 6) : radx μ a v N p.toNat := by
  obtain ⟨h1, h2, h3, h4, h5, h6⟩ := h
  have : p = 1 ∨ p = 2 ∨ p = 3 ∨ p = 4 ∨ p = 5 ∨ p = 6 := by omega
  rcases this with e | e | e | e | e | e <;> subst e <;> assumption
theorem radix.keep {l : List Nat} {w : mW} {μ μ1 : mM} {a v sa sv : Nat} {N : Int} (h : radix μ a v N) (hF : mF l w μ μ1) (hA : mAt w a sa) (hV : mAt w v sv) (ha : ∀ i, l.elem (1000 * sa + (if mArr sa then 999 else i)) = false) (hv : ∀ i, l.elem (1000 * sv + (if mArr sv then 999 else i)) = false) : radix μ1 a v N := by
  have e1 : ∀ i, μ1 a i = μ a i := fun i => hF.f hA (ha i) rfl
  have e2 : ∀ i, μ1 v i = μ v i := fun i => hF.f hV (hv i) rfl
  unfold radix radx at h ⊢
  simp only [e1, e2]; exact h
def dig (μ : mM) (h a v : Nat) (s : Int) (p : Nat) : Prop := μ h p = s / μ a p % (μ v p + 1)
def digs (μ : mM) (h a v : Nat) (s : Int) : Prop := dig μ h a v s 1 ∧ dig μ h a v s 2 ∧ dig μ h a v s 3 ∧ dig μ h a v s 4 ∧ dig μ h a v s 5 ∧ dig μ h a v s 6
theorem dig.mk {μ : mM} {h a v p : Nat} {s z x y b : Int} (qh : μ h p = z) (qa : μ a p = x) (qv : μ v p = y) (e1 : s / x = b) (e2 : b % (y + 1) = z) : dig μ h a v s p := by
  unfold dig; rw [qh, qa, qv, e1, e2]
theorem digs.at {μ : mM} {h a v : Nat} {s p : Int} (g : digs μ h a v s) (hp : 1 ≤ p ∧ p ≤ 6) : dig μ h a v s p.toNat := by
  obtain ⟨h1, h2, h3, h4, h5, h6⟩ := g
  have : p = 1 ∨ p = 2 ∨ p = 3 ∨ p = 4 ∨ p = 5 ∨ p = 6 := by omega
  rcases this with e | e | e | e | e | e <;> subst e <;> assumption
theorem digs.keep {l : List Nat} {w : mW} {μ μ1 : mM} {h a v sh sa sv : Nat} {s : Int} (g : digs μ h a v s) (hF : mF l w μ μ1) (hH : mAt w h sh) (hA : mAt w a sa) (hV : mAt w v sv) (hh : ∀ i, l.elem (1000 * sh + (if mArr sh then 999 else i)) = false) (ha : ∀ i, l.elem (1000 * sa + (if mArr sa then 999 else i)) = false) (hv : ∀ i, l.elem (1000 * sv + (if mArr sv then 999 else i)) = false) : digs μ1 h a v s := by
  have e0 : ∀ i, μ1 h i = μ h i := fun i => hF.f hH (hh i) rfl
  have e1 : ∀ i, μ1 a i = μ a i := fun i => hF.f hA (ha i) rfl
  have e2 : ∀ i, μ1 v i = μ v i := fun i => hF.f hV (hv i) rfl
  unfold digs dig at g ⊢
  simp only [e0, e1, e2]; exact g
theorem net_t {μ : mM} {h a v : Nat} {N s p t x y z : Int} (hr : radix μ a v N) (hd : digs μ h a v s) (hp : 1 ≤ p ∧ p ≤ 6) (hs : 0 ≤ s ∧ s < N) (qa : μ a p.toNat = x) (qv : μ v p.toNat = y) (qh : μ h p.toNat = z) (hy : 0 ≤ y) (ht : 0 ≤ t ∧ t ≤ y) {e : Int} (he : (t - z) * x = e) : 0 ≤ s + e ∧ s + e < N := by
  obtain ⟨w0, K, hK⟩ := hr.at hp
  have d := hd.at hp
  unfold dig at d
  rw [qa] at w0
  rw [qa, qv] at hK
  rw [qa, qv, qh] at d
  rw [← he]
  exact digT w0 (by omega) hK hs d (by omega)
/-- a queue: its entries are states that were reached, none stands there twice -/
def quOK (μ : mM) (n N : Int) : Prop := (∀ i : Int, 0 ≤ i → i < n → 0 ≤ μ 190 i.toNat ∧ μ 190 i.toNat < N ∧ 0 ≤ μ 189 (μ 190 i.toNat).toNat ∧ μ 189 (μ 190 i.toNat).toNat ≤ i) ∧ dist μ 190 n
theorem quOK.pig {μ : mM} {n N : Int} (h : quOK μ n N) (hN : 0 ≤ N) : n ≤ N := by
  by_cases h0 : n ≤ 0
  · omega
  · have := pigeon N.toNat n.toNat (fun i => (μ 190 i).toNat) (fun i hi => by have := h.1 i (by omega) (by omega); have e : ((i : Int)).toNat = i := rfl; rw [e] at this; show (μ 190 i).toNat < N.toNat; omega) (fun i j hij hj => by
      have h1 := h.2 i j (by omega) (by omega) (by omega)
      have h2 := h.1 i (by omega) (by omega)
      have h3 := h.1 j (by omega) (by omega)
      have e1 : ((i : Int)).toNat = i := rfl
      have e2 : ((j : Int)).toNat = j := rfl
      rw [e1] at h1 h2
      rw [e2] at h1 h3
      show (μ 190 i).toNat ≠ (μ 190 j).toNat
      omega)
    omega
theorem quOK.rd {μ : mM} {n N i s v : Int} (h : quOK μ n N) (h0 : 0 ≤ i) (h1 : i < n) (q : μ 190 i.toNat = s) (qv : μ 189 s.toNat = v) : 0 ≤ v ∧ v ≤ i := by
  have := h.1 i h0 h1
  rw [q, qv] at this; exact this.2.2
theorem quOK.st {μ : mM} {n N i s : Int} (h : quOK μ n N) (h0 : 0 ≤ i) (h1 : i < n) (q : μ 190 i.toNat = s) : 0 ≤ s ∧ s < N := by
  have := h.1 i h0 h1
  rw [q] at this; exact ⟨this.1, this.2.1⟩
theorem quOK.keep {l : List Nat} {w : mW} {μ μ1 : mM} {n N : Int} (h : quOK μ n N) (hw : mWF w) (hF : mF l w μ μ1) (hl : (!(l.elem 189999) && !(l.elem 190999)) = true) : quOK μ1 n N := by
  simp only [Bool.and_eq_true, Bool.not_eq_true'] at hl
  have e1 : μ1 189 = μ 189 := funext fun i => hF.f (A_189 hw) hl.1 rfl
  have e2 : μ1 190 = μ 190 := funext fun i => hF.f (A_190 hw) hl.2 rfl
  unfold quOK dist at h ⊢
  rw [e1, e2]; exact h
theorem quOK.push {μ μ1 μ2 : mM} {n N t v o : Int} (h : quOK μ n N) (hn : 0 ≤ n) (ht : 0 ≤ t ∧ t < N) (qo : μ 189 t.toNat = o) (ho : o < 0) (u1 : mU μ 189 t.toNat v μ1) (hv : 0 ≤ v ∧ v ≤ n) (u2 : mU μ1 190 n.toNat t μ2) : quOK μ2 (n + 1) N := by
  have hq : ∀ i : Int, 0 ≤ i → i < n → μ2 190 i.toNat = μ 190 i.toNat := fun i h0 h1 => by rw [u2.2 190 _ (Or.inr (by omega)), u1.2 190 _ (Or.inl (by decide))]
  have hn2 : μ2 190 n.toNat = t := u2.1
  have ne : ∀ i : Int, 0 ≤ i → i < n → μ 190 i.toNat ≠ t := fun i h0 h1 e => by
    have := h.1 i h0 h1
    rw [e, qo] at this; omega
  refine ⟨fun i h0 h1 => ?_, ?_⟩
  · by_cases he : i = n
    · rw [he, hn2, u2.2 189 _ (Or.inl (by decide)), u1.1]; omega
    · have g := h.1 i h0 (by omega)
      have gn := ne i h0 (by omega)
      rw [hq i h0 (by omega), u2.2 189 _ (Or.inl (by decide)), u1.2 189 _ (Or.inr (by omega))]
      exact g
  · intro i j hi hij hj
    by_cases he : j = n
    · rw [he, hn2, hq i hi (by omega)]; exact ne i hi (by omega)
    · rw [hq i hi (by omega), hq j (by omega) (by omega)]; exact h.2 i j hi hij (by omega)
theorem quOK.room {μ : mM} {n N t o : Int} (h : quOK μ n N) (hn : 0 ≤ n) (ht : 0 ≤ t ∧ t < N) (qo : μ 189 t.toNat = o) (ho : o < 0) : n < N := by
  have := (h.push hn ht qo ho mUp_ok ⟨Int.le_refl 0, hn⟩ mUp_ok).pig (by omega)
  omega
theorem quOK.init {μ μ1 μ2 : mM} {N e : Int} (he : e = N - 1) (hN : 1 ≤ N) (u1 : mU μ 190 (0 : Int).toNat e μ1) (u2 : mU μ1 189 e.toNat 0 μ2) : quOK μ2 1 N := by
  have h0 : μ2 190 (0 : Int).toNat = e := by rw [u2.2 190 _ (Or.inl (by decide)), u1.1]
  refine ⟨fun i i0 i1 => ?_, fun i j i0 ij j1 => by omega⟩
  have : i = 0 := by omega
  subst this
  rw [h0, u2.1]; omega
