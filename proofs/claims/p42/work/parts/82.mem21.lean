section
/-! Nets: a state as a number of figures; queues without repeats. -/
theorem digT {W b K N s d t : Int} (hW : 0 < W) (hb : 0 < b) (hN : N = W * b * K) (hs : 0 ≤ s ∧ s < N) (hd : d = s / W % b) (ht : 0 ≤ t ∧ t < b) : 0 ≤ s + (t - d) * W ∧ s + (t - d) * W < N := by
  have h1 : s = W * (s / W) + s % W := (Int.mul_ediv_add_emod s W).symm
  have h2 : s / W = b * (s / W / b) + s / W % b := (Int.mul_ediv_add_emod (s / W) b).symm
  have r0 := Int.emod_nonneg s (show W ≠ 0 by omega)
  have r1 := Int.emod_lt_of_pos s hW
  have q0 : 0 ≤ s / W := Int.ediv_nonneg hs.1 (by omega)
  have p0 : 0 ≤ s / W / b := Int.ediv_nonneg q0 (by omega)
  have e : s + (t - d) * W = W * (b * (s / W / b) + t) + s % W := by
    rw [← hd] at h2
    have a1 : W * (s / W) = W * (b * (s / W / b)) + W * d := by
      have := congrArg (fun x => W * x) h2
      simp only [Int.mul_add] at this
      exact this
    have a2 : (t - d) * W = W * t - W * d := by rw [Int.mul_comm, Int.mul_sub]
    rw [Int.mul_add]
    omega
  have hp : s / W / b < K := by
    have e1 : s / W / b = s / (W * b) := Int.ediv_ediv_of_nonneg (by omega)
    rw [e1]
    refine Int.ediv_lt_of_lt_mul (Int.mul_pos hW hb) ?_
    rw [Int.mul_comm K (W * b), ← hN]; exact hs.2
  have hlow : 0 ≤ W * (b * (s / W / b) + t) := Int.mul_nonneg (by omega) (by have := Int.mul_nonneg (show 0 ≤ b by omega) p0; omega)
  have hup : W * (b * (s / W / b) + t) + W ≤ N := by
    have g1 : b * (s / W / b) + t + 1 ≤ b * (s / W / b + 1) := by rw [Int.mul_add]; omega
    have g2 : b * (s / W / b + 1) ≤ b * K := Int.mul_le_mul_of_nonneg_left (by omega) (by omega)
    have g3 : W * (b * (s / W / b) + t + 1) ≤ W * (b * K) := Int.mul_le_mul_of_nonneg_left (by omega) (by omega)
    rw [Int.mul_add W _ 1, Int.mul_one] at g3
    rw [hN, Int.mul_assoc]; exact g3
  rw [e]
  omega
theorem rMulS {x y m k e : Int} (hx : -m ≤ x ∧ x ≤ m) (hy : 0 ≤ y ∧ y ≤ k) (hm : 0 ≤ m) (he : m * k = e) : -e ≤ x * y ∧ x * y ≤ e := by
  have a1 : x * y ≤ m * y := Int.mul_le_mul_of_nonneg_right hx.2 hy.1
  have a2 : m * y ≤ m * k := Int.mul_le_mul_of_nonneg_left hy.2 hm
  have a3 : (-m) * y ≤ x * y := Int.mul_le_mul_of_nonneg_right hx.1 hy.1
  have a4 : (-m) * y = -(m * y) := Int.neg_mul m y
  omega
/-- the six places' weights: rows a (weights) and v (wishes), N states -/
def radx (μ : mM) (a v : Nat) (N : Int) (p : Nat) : Prop := 0 < μ a p ∧ ∃ K, N = μ a p * (μ v p + 1) * K
def radix (μ : mM) (a v : Nat) (N : Int) : Prop := radx μ a v N 1 ∧ radx μ a v N 2 ∧ radx μ a v N 3 ∧ radx μ a v N 4 ∧ radx μ a v N 5 ∧ radx μ a v N 6
theorem radix.mk {μ : mM} {a v : Nat} {v1 v2 v3 v4 v5 v6 w1 w2 w3 w4 w5 w6 N : Int} (qv1 : μ v 1 = v1) (qv2 : μ v 2 = v2) (qv3 : μ v 3 = v3) (qv4 : μ v 4 = v4) (qv5 : μ v 5 = v5) (qv6 : μ v 6 = v6) (q1 : μ a 1 = w1) (q2 : μ a 2 = w2) (q3 : μ a 3 = w3) (q4 : μ a 4 = w4) (q5 : μ a 5 = w5) (q6 : μ a 6 = w6) (p1 : 0 < w1) (p2 : 0 < w2) (p3 : 0 < w3) (p4 : 0 < w4) (p5 : 0 < w5) (p6 : 0 < w6) (e6 : w5 = w6 * (v6 + 1)) (e5 : w4 = w5 * (v5 + 1)) (e4 : w3 = w4 * (v4 + 1)) (e3 : w2 = w3 * (v3 + 1)) (e2 : w1 = w2 * (v2 + 1)) (e1 : N = w1 * (v1 + 1)) : radix μ a v N := by
  refine ⟨⟨by rw [q1]; exact p1, 1, ?_⟩, ⟨by rw [q2]; exact p2, v1 + 1, ?_⟩, ⟨by rw [q3]; exact p3, (v2 + 1) * (v1 + 1), ?_⟩, ⟨by rw [q4]; exact p4, (v3 + 1) * ((v2 + 1) * (v1 + 1)), ?_⟩, ⟨by rw [q5]; exact p5, (v4 + 1) * ((v3 + 1) * ((v2 + 1) * (v1 + 1))), ?_⟩, ⟨by rw [q6]; exact p6, (v5 + 1) * ((v4 + 1) * ((v3 + 1) * ((v2 + 1) * (v1 + 1)))), ?_⟩⟩
  · rw [q1, qv1, Int.mul_one]; exact e1
  · rw [q2, qv2, e1, e2]
  · rw [q3, qv3, e1, e2, e3]; simp only [Int.mul_assoc]
  · rw [q4, qv4, e1, e2, e3, e4]; simp only [Int.mul_assoc]
  · rw [q5, qv5, e1, e2, e3, e4, e5]; simp only [Int.mul_assoc]
  · rw [q6, qv6, e1, e2, e3, e4, e5, e6]; simp only [Int.mul_assoc]
theorem radix.at {μ : mM} {a v : Nat} {N p : Int} (h : radix μ a v N) (hp : 1 ≤ p ∧ p ≤ 6) : radx μ a v N p.toNat := by
  obtain ⟨h1, h2, h3, h4, h5, h6⟩ := h
  have : p = 1 ∨ p = 2 ∨ p = 3 ∨ p = 4 ∨ p = 5 ∨ p = 6 := by omega
  rcases this with e | e | e | e | e | e <;> subst e <;> assumption
theorem radix.keep {l : List Nat} {w : mW} {μ μ1 : mM} {a v sa sv : Nat} {N : Int} (h : radix μ a v N) (hF : mF l w μ μ1) (hA : mAt w a sa) (hV : mAt w v sv) (ha : ∀ i, l.elem (1000 * sa + (if mArr sa then 999 else i)) = false) (hv : ∀ i, l.elem (1000 * sv + (if mArr sv then 999 else i)) = false) : radix μ1 a v N := by
  have e1 : ∀ i, μ1 a i = μ a i := fun i => hF.f hA (ha i) rfl
  have e2 : ∀ i, μ1 v i = μ v i := fun i => hF.f hV (hv i) rfl
  unfold radix radx at h ⊢
  simp only [e1, e2]; exact h
def dig (μ : mM) (h a v : Nat) (s : Int) (p : Nat) : Prop := μ h p = s / μ a p % (μ v p + 1)
def digs (μ : mM) (h a v : Nat) (s : Int) : Prop := dig μ h a v s 1 ∧ dig μ h a v s 2 ∧ dig μ h a v s 3 ∧ dig μ h a v s 4 ∧ dig μ h a v s 5 ∧ dig μ h a v s 6
theorem dig.mk {μ : mM} {h a v p : Nat} {s z x y b : Int} (qh : μ h p = z) (qa : μ a p = x) (qv : μ v p = y) (e1 : s / x = b) (e2 : b % (y + 1) = z) : dig μ h a v s p := by
  unfold dig; rw [qh, qa, qv, e1, e2]
theorem digs.at {μ : mM} {h a v : Nat} {s p : Int} (g : digs μ h a v s) (hp : 1 ≤ p ∧ p ≤ 6) : dig μ h a v s p.toNat := by
  obtain ⟨h1, h2, h3, h4, h5, h6⟩ := g
  have : p = 1 ∨ p = 2 ∨ p = 3 ∨ p = 4 ∨ p = 5 ∨ p = 6 := by omega
  rcases this with e | e | e | e | e | e <;> subst e <;> assumption
theorem digs.keep {l : List Nat} {w : mW} {μ μ1 : mM} {h a v sh sa sv : Nat} {s : Int} (g : digs μ h a v s) (hF : mF l w μ μ1) (hH : mAt w h sh) (hA : mAt w a sa) (hV : mAt w v sv) (hh : ∀ i, l.elem (1000 * sh + (if mArr sh then 999 else i)) = false) (ha : ∀ i, l.elem (1000 * sa + (if mArr sa then 999 else i)) = false) (hv : ∀ i, l.elem (1000 * sv + (if mArr sv then 999 else i)) = false) : digs μ1 h a v s := by
  have e0 : ∀ i, μ1 h i = μ h i := fun i => hF.f hH (hh i) rfl
  have e1 : ∀ i, μ1 a i = μ a i := fun i => hF.f hA (ha i) rfl
  have e2 : ∀ i, μ1 v i = μ v i := fun i => hF.f hV (hv i) rfl
  unfold digs dig at g ⊢
  simp only [e0, e1, e2]; exact g
theorem net_t {μ : mM} {h a v : Nat} {N s p t x y z : Int} (hr : radix μ a v N) (hd : digs μ h a v s) (hp : 1 ≤ p ∧ p ≤ 6) (hs : 0 ≤ s ∧ s < N) (qa : μ a p.toNat = x) (qv : μ v p.toNat = y) (qh : μ h p.toNat = z) (hy : 0 ≤ y) (ht : 0 ≤ t ∧ t ≤ y) {e : Int} (he : (t - z) * x = e) : 0 ≤ s + e ∧ s + e < N := by
  obtain ⟨w0, K, hK⟩ := hr.at hp
  have d := hd.at hp
  unfold dig at d
  rw [qa] at w0
  rw [qa, qv] at hK
  rw [qa, qv, qh] at d
  rw [← he]
  exact digT w0 (by omega) hK hs d (by omega)
/-- a queue: its entries are states that were reached, none stands there twice -/
def quOK (μ : mM) (n N : Int) : Prop := (∀ i : Int, 0 ≤ i → i < n → 0 ≤ μ 190 i.toNat ∧ μ 190 i.toNat < N ∧ 0 ≤ μ 189 (μ 190 i.toNat).toNat ∧ μ 189 (μ 190 i.toNat).toNat ≤ i) ∧ dist μ 190 n
theorem quOK.pig {μ : mM} {n N : Int} (h : quOK μ n N) (hN : 0 ≤ N) : n ≤ N := by
  by_cases h0 : n ≤ 0
  · omega
  · have := pigeon N.toNat n.toNat (fun i => (μ 190 i).toNat) (fun i hi => by have := h.1 i (by omega) (by omega); have e : ((i : Int)).toNat = i := rfl; rw [e] at this; show (μ 190 i).toNat < N.toNat; omega) (fun i j hij hj => by
      have h1 := h.2 i j (by omega) (by omega) (by omega)
      have h2 := h.1 i (by omega) (by omega)
      have h3 := h.1 j (by omega) (by omega)
      have e1 : ((i : Int)).toNat = i := rfl
      have e2 : ((j : Int)).toNat = j := rfl
      rw [e1] at h1 h2
      rw [e2] at h1 h3
      show (μ 190 i).toNat ≠ (μ 190 j).toNat
      omega)
    omega
theorem quOK.rd {μ : mM} {n N i s v : Int} (h : quOK μ n N) (h0 : 0 ≤ i) (h1 : i < n) (q : μ 190 i.toNat = s) (qv : μ 189 s.toNat = v) : 0 ≤ v ∧ v ≤ i := by
  have := h.1 i h0 h1
  rw [q, qv] at this; exact this.2.2
theorem quOK.st {μ : mM} {n N i s : Int} (h : quOK μ n N) (h0 : 0 ≤ i) (h1 : i < n) (q : μ 190 i.toNat = s) : 0 ≤ s ∧ s < N := by
  have := h.1 i h0 h1
  rw [q] at this; exact ⟨this.1, this.2.1⟩
theorem quOK.keep {l : List Nat} {w : mW} {μ μ1 : mM} {n N : Int} (h : quOK μ n N) (hw : mWF w) (hF : mF l w μ μ1) (hl : (!(l.elem 189999) && !(l.elem 190999)) = true) : quOK μ1 n N := by
  simp only [Bool.and_eq_true, Bool.not_eq_true'] at hl
  have e1 : μ1 189 = μ 189 := funext fun i => hF.f (A_189 hw) hl.1 rfl
  have e2 : μ1 190 = μ 190 := funext fun i => hF.f (A_190 hw) hl.2 rfl
  unfold quOK dist at h ⊢
  rw [e1, e2]; exact h
theorem quOK.push {μ μ1 μ2 : mM} {n N t v o : Int} (h : quOK μ n N) (hn : 0 ≤ n) (ht : 0 ≤ t ∧ t < N) (qo : μ 189 t.toNat = o) (ho : o < 0) (u1 : mU μ 189 t.toNat v μ1) (hv : 0 ≤ v ∧ v ≤ n) (u2 : mU μ1 190 n.toNat t μ2) : quOK μ2 (n + 1) N := by
  have hq : ∀ i : Int, 0 ≤ i → i < n → μ2 190 i.toNat = μ 190 i.toNat := fun i h0 h1 => by rw [u2.2 190 _ (Or.inr (by omega)), u1.2 190 _ (Or.inl (by decide))]
  have hn2 : μ2 190 n.toNat = t := u2.1
  have ne : ∀ i : Int, 0 ≤ i → i < n → μ 190 i.toNat ≠ t := fun i h0 h1 e => by
    have := h.1 i h0 h1
    rw [e, qo] at this; omega
  refine ⟨fun i h0 h1 => ?_, ?_⟩
  · by_cases he : i = n
    · rw [he, hn2, u2.2 189 _ (Or.inl (by decide)), u1.1]; omega
    · have g := h.1 i h0 (by omega)
      have gn := ne i h0 (by omega)
      rw [hq i h0 (by omega), u2.2 189 _ (Or.inl (by decide)), u1.2 189 _ (Or.inr (by omega))]
      exact g
  · intro i j hi hij hj
    by_cases he : j = n
    · rw [he, hn2, hq i hi (by omega)]; exact ne i hi (by omega)
    · rw [hq i hi (by omega), hq j (by omega) (by omega)]; exact h.2 i j hi hij (by omega)
theorem quOK.room {μ : mM} {n N t o : Int} (h : quOK μ n N) (hn : 0 ≤ n) (ht : 0 ≤ t ∧ t < N) (qo : μ 189 t.toNat = o) (ho : o < 0) : n < N := by
  have := (h.push hn ht qo ho mUp_ok ⟨Int.le_refl 0, hn⟩ mUp_ok).pig (by omega)
  omega
theorem quOK.init {μ μ1 μ2 : mM} {N e : Int} (he : e = N - 1) (hN : 1 ≤ N) (u1 : mU μ 190 (0 : Int).toNat e μ1) (u2 : mU μ1 189 e.toNat 0 μ2) : quOK μ2 1 N := by
  have h0 : μ2 190 (0 : Int).toNat = e := by rw [u2.2 190 _ (Or.inl (by decide)), u1.1]
  refine ⟨fun i i0 i1 => ?_, fun i j i0 ij j1 => by omega⟩
  have : i = 0 := by omega
  subst this
  rw [h0, u2.1]; omega
end
section
theorem dX12_tries_0 : decode cX12_tries 0 = .ok (.iload_n 1, 1) := dc0 dO_27 (by decide +kernel)
theorem dX12_tries_1 : decode cX12_tries 1 = .ok (.iconst 0, 1) := dc0 dO_3 (by decide +kernel)
theorem dX12_tries_2 : decode cX12_tries 2 = .ok (.iconst 3, 1) := dc0 dO_6 (by decide +kernel)
theorem dX12_tries_3 : decode cX12_tries 3 = .ok (.invokestatic 18, 3) := dcU2 dO_184 (by decide +kernel)
theorem dX12_tries_6 : decode cX12_tries 6 = .ok (.ifCond .ne 5, 3) := dcS2 dO_154 (by decide +kernel)
theorem dX12_tries_9 : decode cX12_tries 9 = .ok (.iconst (-1), 1) := dc0 dO_2 (by decide +kernel)
theorem dX12_tries_10 : decode cX12_tries 10 = .ok (.ireturn, 1) := dc0 dO_172 (by decide +kernel)
theorem dX12_tries_11 : decode cX12_tries 11 = .ok (.aload_n 0, 1) := dc0 dO_42 (by decide +kernel)
theorem dX12_tries_12 : decode cX12_tries 12 = .ok (.invokevirtual 728, 3) := dcU2 dO_182 (by decide +kernel)
theorem dX12_tries_15 : decode cX12_tries 15 = .ok (.istore_n 2, 1) := dc0 dO_61 (by decide +kernel)
theorem dX12_tries_16 : decode cX12_tries 16 = .ok (.iconst 0, 1) := dc0 dO_3 (by decide +kernel)
theorem dX12_tries_17 : decode cX12_tries 17 = .ok (.istore_n 3, 1) := dc0 dO_62 (by decide +kernel)
theorem dX12_tries_18 : decode cX12_tries 18 = .ok (.iload_n 3, 1) := dc0 dO_29 (by decide +kernel)
theorem dX12_tries_19 : decode cX12_tries 19 = .ok (.iload_n 2, 1) := dc0 dO_28 (by decide +kernel)
theorem dX12_tries_20 : decode cX12_tries 20 = .ok (.if_icmp .ge 23, 3) := dcS2 dO_162 (by decide +kernel)
theorem dX12_tries_23 : decode cX12_tries 23 = .ok (.aload_n 0, 1) := dc0 dO_42 (by decide +kernel)
theorem dX12_tries_24 : decode cX12_tries 24 = .ok (.getfield 530, 3) := dcU2 dO_180 (by decide +kernel)
theorem dX12_tries_27 : decode cX12_tries 27 = .ok (.iload_n 3, 1) := dc0 dO_29 (by decide +kernel)
theorem dX12_tries_28 : decode cX12_tries 28 = .ok (.iconst (-1), 1) := dc0 dO_2 (by decide +kernel)
theorem dX12_tries_29 : decode cX12_tries 29 = .ok (.iastore, 1) := dc0 dO_79 (by decide +kernel)
theorem dX12_tries_30 : decode cX12_tries 30 = .ok (.aload_n 0, 1) := dc0 dO_42 (by decide +kernel)
theorem dX12_tries_31 : decode cX12_tries 31 = .ok (.getfield 536, 3) := dcU2 dO_180 (by decide +kernel)
theorem dX12_tries_34 : decode cX12_tries 34 = .ok (.iload_n 3, 1) := dc0 dO_29 (by decide +kernel)
theorem dX12_tries_35 : decode cX12_tries 35 = .ok (.iconst 0, 1) := dc0 dO_3 (by decide +kernel)
theorem dX12_tries_36 : decode cX12_tries 36 = .ok (.bastore, 1) := dc0 dO_84 (by decide +kernel)
theorem dX12_tries_37 : decode cX12_tries 37 = .ok (.iinc 3 1, 3) := dcI dO_132 (by decide +kernel)
theorem dX12_tries_40 : decode cX12_tries 40 = .ok (.goto (-22), 3) := dcS2 dO_167 (by decide +kernel)
theorem dX12_tries_43 : decode cX12_tries 43 = .ok (.iconst 0, 1) := dc0 dO_3 (by decide +kernel)
theorem dX12_tries_44 : decode cX12_tries 44 = .ok (.istore_n 3, 1) := dc0 dO_62 (by decide +kernel)
theorem dX12_tries_45 : decode cX12_tries 45 = .ok (.aload_n 0, 1) := dc0 dO_42 (by decide +kernel)
theorem dX12_tries_46 : decode cX12_tries 46 = .ok (.getfield 533, 3) := dcU2 dO_180 (by decide +kernel)
theorem dX12_tries_49 : decode cX12_tries 49 = .ok (.iload_n 3, 1) := dc0 dO_29 (by decide +kernel)
theorem dX12_tries_50 : decode cX12_tries 50 = .ok (.iload_n 2, 1) := dc0 dO_28 (by decide +kernel)
theorem dX12_tries_51 : decode cX12_tries 51 = .ok (.iconst 1, 1) := dc0 dO_4 (by decide +kernel)
theorem dX12_tries_52 : decode cX12_tries 52 = .ok (.isub, 1) := dc0 dO_100 (by decide +kernel)
theorem dX12_tries_53 : decode cX12_tries 53 = .ok (.iastore, 1) := dc0 dO_79 (by decide +kernel)
theorem dX12_tries_54 : decode cX12_tries 54 = .ok (.aload_n 0, 1) := dc0 dO_42 (by decide +kernel)
theorem dX12_tries_55 : decode cX12_tries 55 = .ok (.getfield 530, 3) := dcU2 dO_180 (by decide +kernel)
theorem dX12_tries_58 : decode cX12_tries 58 = .ok (.iload_n 2, 1) := dc0 dO_28 (by decide +kernel)
theorem dX12_tries_59 : decode cX12_tries 59 = .ok (.iconst 1, 1) := dc0 dO_4 (by decide +kernel)
theorem dX12_tries_60 : decode cX12_tries 60 = .ok (.isub, 1) := dc0 dO_100 (by decide +kernel)
theorem dX12_tries_61 : decode cX12_tries 61 = .ok (.iconst 0, 1) := dc0 dO_3 (by decide +kernel)
theorem dX12_tries_62 : decode cX12_tries 62 = .ok (.iastore, 1) := dc0 dO_79 (by decide +kernel)
theorem dX12_tries_63 : decode cX12_tries 63 = .ok (.iinc 3 1, 3) := dcI dO_132 (by decide +kernel)
theorem dX12_tries_66 : decode cX12_tries 66 = .ok (.iconst 0, 1) := dc0 dO_3 (by decide +kernel)
theorem dX12_tries_67 : decode cX12_tries 67 = .ok (.istore 4, 2) := dcU1 dO_54 (by decide +kernel)
theorem dX12_tries_69 : decode cX12_tries 69 = .ok (.ldc 29, 2) := dcU1 dO_18 (by decide +kernel)
theorem dX12_tries_71 : decode cX12_tries 71 = .ok (.istore 5, 2) := dcU1 dO_54 (by decide +kernel)
theorem dX12_tries_73 : decode cX12_tries 73 = .ok (.iconst 0, 1) := dc0 dO_3 (by decide +kernel)
theorem dX12_tries_74 : decode cX12_tries 74 = .ok (.istore 6, 2) := dcU1 dO_54 (by decide +kernel)
theorem dX12_tries_76 : decode cX12_tries 76 = .ok (.iload 6, 2) := dcU1 dO_21 (by decide +kernel)
theorem dX12_tries_78 : decode cX12_tries 78 = .ok (.iload_n 3, 1) := dc0 dO_29 (by decide +kernel)
theorem dX12_tries_79 : decode cX12_tries 79 = .ok (.if_icmp .ge 161, 3) := dcS2 dO_162 (by decide +kernel)
theorem dX12_tries_82 : decode cX12_tries 82 = .ok (.aload_n 0, 1) := dc0 dO_42 (by decide +kernel)
theorem dX12_tries_83 : decode cX12_tries 83 = .ok (.getfield 533, 3) := dcU2 dO_180 (by decide +kernel)
theorem dX12_tries_86 : decode cX12_tries 86 = .ok (.iload 6, 2) := dcU1 dO_21 (by decide +kernel)
theorem dX12_tries_88 : decode cX12_tries 88 = .ok (.iaload, 1) := dc0 dO_46 (by decide +kernel)
theorem dX12_tries_89 : decode cX12_tries 89 = .ok (.istore 7, 2) := dcU1 dO_54 (by decide +kernel)
theorem dX12_tries_91 : decode cX12_tries 91 = .ok (.iconst 1, 1) := dc0 dO_4 (by decide +kernel)
theorem dX12_tries_92 : decode cX12_tries 92 = .ok (.istore 8, 2) := dcU1 dO_54 (by decide +kernel)
theorem dX12_tries_94 : decode cX12_tries 94 = .ok (.aload_n 0, 1) := dc0 dO_42 (by decide +kernel)
theorem dX12_tries_95 : decode cX12_tries 95 = .ok (.iload 7, 2) := dcU1 dO_21 (by decide +kernel)
theorem dX12_tries_97 : decode cX12_tries 97 = .ok (.invokevirtual 722, 3) := dcU2 dO_182 (by decide +kernel)
theorem dX12_tries_100 : decode cX12_tries 100 = .ok (.iconst 1, 1) := dc0 dO_4 (by decide +kernel)
theorem dX12_tries_101 : decode cX12_tries 101 = .ok (.istore 9, 2) := dcU1 dO_54 (by decide +kernel)
theorem dX12_tries_103 : decode cX12_tries 103 = .ok (.iload 9, 2) := dcU1 dO_21 (by decide +kernel)
theorem dX12_tries_105 : decode cX12_tries 105 = .ok (.bipush 6, 2) := dcS1 dO_16 (by decide +kernel)
theorem dX12_tries_107 : decode cX12_tries 107 = .ok (.if_icmp .gt 95, 3) := dcS2 dO_163 (by decide +kernel)
theorem dX12_tries_110 : decode cX12_tries 110 = .ok (.aload_n 0, 1) := dc0 dO_42 (by decide +kernel)
theorem dX12_tries_111 : decode cX12_tries 111 = .ok (.iload 9, 2) := dcU1 dO_21 (by decide +kernel)
theorem dX12_tries_113 : decode cX12_tries 113 = .ok (.invokevirtual 725, 3) := dcU2 dO_182 (by decide +kernel)
theorem dX12_tries_116 : decode cX12_tries 116 = .ok (.istore 10, 2) := dcU1 dO_54 (by decide +kernel)
theorem dX12_tries_118 : decode cX12_tries 118 = .ok (.iload 10, 2) := dcU1 dO_21 (by decide +kernel)
theorem dX12_tries_120 : decode cX12_tries 120 = .ok (.aload_n 0, 1) := dc0 dO_42 (by decide +kernel)
theorem dX12_tries_121 : decode cX12_tries 121 = .ok (.getfield 526, 3) := dcU2 dO_180 (by decide +kernel)
theorem dX12_tries_124 : decode cX12_tries 124 = .ok (.iload 9, 2) := dcU1 dO_21 (by decide +kernel)
theorem dX12_tries_126 : decode cX12_tries 126 = .ok (.iaload, 1) := dc0 dO_46 (by decide +kernel)
theorem dX12_tries_127 : decode cX12_tries 127 = .ok (.if_icmp .ne 6, 3) := dcS2 dO_160 (by decide +kernel)
theorem sfx_cX12_tries_128 : (cX12_tries.data.toList.drop 128).take 67 = [0, 6, 167, 0, 66, 3, 54, 8, 21, 7, 21, 10, 42, 180, 2, 14, 21, 9, 46, 100, 42, 180, 2, 11, 21, 9, 46, 104, 96, 54, 11, 42, 180, 2, 18, 21, 11, 46, 156, 0, 30, 42, 180, 2, 18, 21, 11, 42, 180, 2, 18, 21, 7, 46, 4, 96, 79, 42, 180, 2, 21, 29, 21, 11, 79, 132, 3] := by decide +kernel
theorem dX12_tries_130 : decode cX12_tries 130 = .ok (.goto 66, 3) := dcS2 dO_167 (rdS2.ch sfx_cX12_tries_128 2 rfl (by decide +kernel))
theorem dX12_tries_133 : decode cX12_tries 133 = .ok (.iconst 0, 1) := dc0 dO_3 (rdB.ch sfx_cX12_tries_128 5 rfl (by decide +kernel))
theorem dX12_tries_134 : decode cX12_tries 134 = .ok (.istore 8, 2) := dcU1 dO_54 (rdU1.ch sfx_cX12_tries_128 6 rfl (by decide +kernel))
theorem dX12_tries_136 : decode cX12_tries 136 = .ok (.iload 7, 2) := dcU1 dO_21 (rdU1.ch sfx_cX12_tries_128 8 rfl (by decide +kernel))
theorem dX12_tries_138 : decode cX12_tries 138 = .ok (.iload 10, 2) := dcU1 dO_21 (rdU1.ch sfx_cX12_tries_128 10 rfl (by decide +kernel))
theorem dX12_tries_140 : decode cX12_tries 140 = .ok (.aload_n 0, 1) := dc0 dO_42 (rdB.ch sfx_cX12_tries_128 12 rfl (by decide +kernel))
theorem dX12_tries_141 : decode cX12_tries 141 = .ok (.getfield 526, 3) := dcU2 dO_180 (rdU2.ch sfx_cX12_tries_128 13 rfl (by decide +kernel))
theorem dX12_tries_144 : decode cX12_tries 144 = .ok (.iload 9, 2) := dcU1 dO_21 (rdU1.ch sfx_cX12_tries_128 16 rfl (by decide +kernel))
theorem dX12_tries_146 : decode cX12_tries 146 = .ok (.iaload, 1) := dc0 dO_46 (rdB.ch sfx_cX12_tries_128 18 rfl (by decide +kernel))
theorem dX12_tries_147 : decode cX12_tries 147 = .ok (.isub, 1) := dc0 dO_100 (rdB.ch sfx_cX12_tries_128 19 rfl (by decide +kernel))
theorem dX12_tries_148 : decode cX12_tries 148 = .ok (.aload_n 0, 1) := dc0 dO_42 (rdB.ch sfx_cX12_tries_128 20 rfl (by decide +kernel))
theorem dX12_tries_149 : decode cX12_tries 149 = .ok (.getfield 523, 3) := dcU2 dO_180 (rdU2.ch sfx_cX12_tries_128 21 rfl (by decide +kernel))
theorem dX12_tries_152 : decode cX12_tries 152 = .ok (.iload 9, 2) := dcU1 dO_21 (rdU1.ch sfx_cX12_tries_128 24 rfl (by decide +kernel))
theorem dX12_tries_154 : decode cX12_tries 154 = .ok (.iaload, 1) := dc0 dO_46 (rdB.ch sfx_cX12_tries_128 26 rfl (by decide +kernel))
theorem dX12_tries_155 : decode cX12_tries 155 = .ok (.imul, 1) := dc0 dO_104 (rdB.ch sfx_cX12_tries_128 27 rfl (by decide +kernel))
theorem dX12_tries_156 : decode cX12_tries 156 = .ok (.iadd, 1) := dc0 dO_96 (rdB.ch sfx_cX12_tries_128 28 rfl (by decide +kernel))
theorem dX12_tries_157 : decode cX12_tries 157 = .ok (.istore 11, 2) := dcU1 dO_54 (rdU1.ch sfx_cX12_tries_128 29 rfl (by decide +kernel))
theorem dX12_tries_159 : decode cX12_tries 159 = .ok (.aload_n 0, 1) := dc0 dO_42 (rdB.ch sfx_cX12_tries_128 31 rfl (by decide +kernel))
theorem dX12_tries_160 : decode cX12_tries 160 = .ok (.getfield 530, 3) := dcU2 dO_180 (rdU2.ch sfx_cX12_tries_128 32 rfl (by decide +kernel))
theorem dX12_tries_163 : decode cX12_tries 163 = .ok (.iload 11, 2) := dcU1 dO_21 (rdU1.ch sfx_cX12_tries_128 35 rfl (by decide +kernel))
theorem dX12_tries_165 : decode cX12_tries 165 = .ok (.iaload, 1) := dc0 dO_46 (rdB.ch sfx_cX12_tries_128 37 rfl (by decide +kernel))
theorem dX12_tries_166 : decode cX12_tries 166 = .ok (.ifCond .ge 30, 3) := dcS2 dO_156 (rdS2.ch sfx_cX12_tries_128 38 rfl (by decide +kernel))
theorem dX12_tries_169 : decode cX12_tries 169 = .ok (.aload_n 0, 1) := dc0 dO_42 (rdB.ch sfx_cX12_tries_128 41 rfl (by decide +kernel))
theorem dX12_tries_170 : decode cX12_tries 170 = .ok (.getfield 530, 3) := dcU2 dO_180 (rdU2.ch sfx_cX12_tries_128 42 rfl (by decide +kernel))
theorem dX12_tries_173 : decode cX12_tries 173 = .ok (.iload 11, 2) := dcU1 dO_21 (rdU1.ch sfx_cX12_tries_128 45 rfl (by decide +kernel))
theorem dX12_tries_175 : decode cX12_tries 175 = .ok (.aload_n 0, 1) := dc0 dO_42 (rdB.ch sfx_cX12_tries_128 47 rfl (by decide +kernel))
theorem dX12_tries_176 : decode cX12_tries 176 = .ok (.getfield 530, 3) := dcU2 dO_180 (rdU2.ch sfx_cX12_tries_128 48 rfl (by decide +kernel))
theorem dX12_tries_179 : decode cX12_tries 179 = .ok (.iload 7, 2) := dcU1 dO_21 (rdU1.ch sfx_cX12_tries_128 51 rfl (by decide +kernel))
theorem dX12_tries_181 : decode cX12_tries 181 = .ok (.iaload, 1) := dc0 dO_46 (rdB.ch sfx_cX12_tries_128 53 rfl (by decide +kernel))
theorem dX12_tries_182 : decode cX12_tries 182 = .ok (.iconst 1, 1) := dc0 dO_4 (rdB.ch sfx_cX12_tries_128 54 rfl (by decide +kernel))
theorem dX12_tries_183 : decode cX12_tries 183 = .ok (.iadd, 1) := dc0 dO_96 (rdB.ch sfx_cX12_tries_128 55 rfl (by decide +kernel))
theorem dX12_tries_184 : decode cX12_tries 184 = .ok (.iastore, 1) := dc0 dO_79 (rdB.ch sfx_cX12_tries_128 56 rfl (by decide +kernel))
theorem dX12_tries_185 : decode cX12_tries 185 = .ok (.aload_n 0, 1) := dc0 dO_42 (rdB.ch sfx_cX12_tries_128 57 rfl (by decide +kernel))
theorem dX12_tries_186 : decode cX12_tries 186 = .ok (.getfield 533, 3) := dcU2 dO_180 (rdU2.ch sfx_cX12_tries_128 58 rfl (by decide +kernel))
theorem dX12_tries_189 : decode cX12_tries 189 = .ok (.iload_n 3, 1) := dc0 dO_29 (rdB.ch sfx_cX12_tries_128 61 rfl (by decide +kernel))
theorem dX12_tries_190 : decode cX12_tries 190 = .ok (.iload 11, 2) := dcU1 dO_21 (rdU1.ch sfx_cX12_tries_128 62 rfl (by decide +kernel))
theorem sfx_cX12_tries_192 : (cX12_tries.data.toList.drop 192).take 67 = [79, 132, 3, 1, 132, 9, 1, 167, 255, 160, 21, 8, 153, 0, 30, 132, 4, 1, 42, 180, 2, 24, 21, 7, 4, 84, 21, 5, 18, 29, 160, 0, 12, 42, 180, 2, 18, 21, 7, 46, 54, 5, 132, 6, 1, 167, 255, 95, 27, 154, 0, 5, 29, 172, 27, 4, 160, 0, 6, 21, 4, 172, 27, 6, 160, 0, 6] := by decide +kernel
theorem dX12_tries_192 : decode cX12_tries 192 = .ok (.iastore, 1) := dc0 dO_79 (rdB.ch sfx_cX12_tries_192 0 rfl (by decide +kernel))
theorem dX12_tries_193 : decode cX12_tries 193 = .ok (.iinc 3 1, 3) := dcI dO_132 (rdI.ch sfx_cX12_tries_192 1 rfl (by decide +kernel))
theorem dX12_tries_196 : decode cX12_tries 196 = .ok (.iinc 9 1, 3) := dcI dO_132 (rdI.ch sfx_cX12_tries_192 4 rfl (by decide +kernel))
theorem dX12_tries_199 : decode cX12_tries 199 = .ok (.goto (-96), 3) := dcS2 dO_167 (rdS2.ch sfx_cX12_tries_192 7 rfl (by decide +kernel))
theorem dX12_tries_202 : decode cX12_tries 202 = .ok (.iload 8, 2) := dcU1 dO_21 (rdU1.ch sfx_cX12_tries_192 10 rfl (by decide +kernel))
theorem dX12_tries_204 : decode cX12_tries 204 = .ok (.ifCond .eq 30, 3) := dcS2 dO_153 (rdS2.ch sfx_cX12_tries_192 12 rfl (by decide +kernel))
theorem dX12_tries_207 : decode cX12_tries 207 = .ok (.iinc 4 1, 3) := dcI dO_132 (rdI.ch sfx_cX12_tries_192 15 rfl (by decide +kernel))
theorem dX12_tries_210 : decode cX12_tries 210 = .ok (.aload_n 0, 1) := dc0 dO_42 (rdB.ch sfx_cX12_tries_192 18 rfl (by decide +kernel))
theorem dX12_tries_211 : decode cX12_tries 211 = .ok (.getfield 536, 3) := dcU2 dO_180 (rdU2.ch sfx_cX12_tries_192 19 rfl (by decide +kernel))
theorem dX12_tries_214 : decode cX12_tries 214 = .ok (.iload 7, 2) := dcU1 dO_21 (rdU1.ch sfx_cX12_tries_192 22 rfl (by decide +kernel))
theorem dX12_tries_216 : decode cX12_tries 216 = .ok (.iconst 1, 1) := dc0 dO_4 (rdB.ch sfx_cX12_tries_192 24 rfl (by decide +kernel))
theorem dX12_tries_217 : decode cX12_tries 217 = .ok (.bastore, 1) := dc0 dO_84 (rdB.ch sfx_cX12_tries_192 25 rfl (by decide +kernel))
theorem dX12_tries_218 : decode cX12_tries 218 = .ok (.iload 5, 2) := dcU1 dO_21 (rdU1.ch sfx_cX12_tries_192 26 rfl (by decide +kernel))
theorem dX12_tries_220 : decode cX12_tries 220 = .ok (.ldc 29, 2) := dcU1 dO_18 (rdU1.ch sfx_cX12_tries_192 28 rfl (by decide +kernel))
theorem dX12_tries_222 : decode cX12_tries 222 = .ok (.if_icmp .ne 12, 3) := dcS2 dO_160 (rdS2.ch sfx_cX12_tries_192 30 rfl (by decide +kernel))
theorem dX12_tries_225 : decode cX12_tries 225 = .ok (.aload_n 0, 1) := dc0 dO_42 (rdB.ch sfx_cX12_tries_192 33 rfl (by decide +kernel))
theorem dX12_tries_226 : decode cX12_tries 226 = .ok (.getfield 530, 3) := dcU2 dO_180 (rdU2.ch sfx_cX12_tries_192 34 rfl (by decide +kernel))
theorem dX12_tries_229 : decode cX12_tries 229 = .ok (.iload 7, 2) := dcU1 dO_21 (rdU1.ch sfx_cX12_tries_192 37 rfl (by decide +kernel))
theorem dX12_tries_231 : decode cX12_tries 231 = .ok (.iaload, 1) := dc0 dO_46 (rdB.ch sfx_cX12_tries_192 39 rfl (by decide +kernel))
theorem dX12_tries_232 : decode cX12_tries 232 = .ok (.istore 5, 2) := dcU1 dO_54 (rdU1.ch sfx_cX12_tries_192 40 rfl (by decide +kernel))
theorem dX12_tries_234 : decode cX12_tries 234 = .ok (.iinc 6 1, 3) := dcI dO_132 (rdI.ch sfx_cX12_tries_192 42 rfl (by decide +kernel))
theorem dX12_tries_237 : decode cX12_tries 237 = .ok (.goto (-161), 3) := dcS2 dO_167 (rdS2.ch sfx_cX12_tries_192 45 rfl (by decide +kernel))
theorem dX12_tries_240 : decode cX12_tries 240 = .ok (.iload_n 1, 1) := dc0 dO_27 (rdB.ch sfx_cX12_tries_192 48 rfl (by decide +kernel))
theorem dX12_tries_241 : decode cX12_tries 241 = .ok (.ifCond .ne 5, 3) := dcS2 dO_154 (rdS2.ch sfx_cX12_tries_192 49 rfl (by decide +kernel))
theorem dX12_tries_244 : decode cX12_tries 244 = .ok (.iload_n 3, 1) := dc0 dO_29 (rdB.ch sfx_cX12_tries_192 52 rfl (by decide +kernel))
theorem dX12_tries_245 : decode cX12_tries 245 = .ok (.ireturn, 1) := dc0 dO_172 (rdB.ch sfx_cX12_tries_192 53 rfl (by decide +kernel))
theorem dX12_tries_246 : decode cX12_tries 246 = .ok (.iload_n 1, 1) := dc0 dO_27 (rdB.ch sfx_cX12_tries_192 54 rfl (by decide +kernel))
theorem dX12_tries_247 : decode cX12_tries 247 = .ok (.iconst 1, 1) := dc0 dO_4 (rdB.ch sfx_cX12_tries_192 55 rfl (by decide +kernel))
theorem dX12_tries_248 : decode cX12_tries 248 = .ok (.if_icmp .ne 6, 3) := dcS2 dO_160 (rdS2.ch sfx_cX12_tries_192 56 rfl (by decide +kernel))
theorem dX12_tries_251 : decode cX12_tries 251 = .ok (.iload 4, 2) := dcU1 dO_21 (rdU1.ch sfx_cX12_tries_192 59 rfl (by decide +kernel))
theorem dX12_tries_253 : decode cX12_tries 253 = .ok (.ireturn, 1) := dc0 dO_172 (rdB.ch sfx_cX12_tries_192 61 rfl (by decide +kernel))
theorem dX12_tries_254 : decode cX12_tries 254 = .ok (.iload_n 1, 1) := dc0 dO_27 (rdB.ch sfx_cX12_tries_192 62 rfl (by decide +kernel))
theorem dX12_tries_255 : decode cX12_tries 255 = .ok (.iconst 3, 1) := dc0 dO_6 (rdB.ch sfx_cX12_tries_192 63 rfl (by decide +kernel))
theorem sfx_cX12_tries_256 : (cX12_tries.data.toList.drop 256).take 67 = [160, 0, 6, 21, 5, 172, 4, 54, 6, 21, 6, 153, 0, 138, 3, 54, 6, 29, 4, 100, 54, 7, 21, 7, 155, 0, 122, 42, 180, 2, 21, 21, 7, 46, 54, 8, 42, 180, 2, 24, 21, 8, 51, 153, 0, 6, 167, 0, 94, 42, 21, 8, 182, 2, 210, 4, 54, 9, 21, 9, 16, 6, 163, 0, 56, 42, 180] := by decide +kernel
theorem dX12_tries_256 : decode cX12_tries 256 = .ok (.if_icmp .ne 6, 3) := dcS2 dO_160 (rdS2.ch sfx_cX12_tries_256 0 rfl (by decide +kernel))
theorem dX12_tries_259 : decode cX12_tries 259 = .ok (.iload 5, 2) := dcU1 dO_21 (rdU1.ch sfx_cX12_tries_256 3 rfl (by decide +kernel))
theorem dX12_tries_261 : decode cX12_tries 261 = .ok (.ireturn, 1) := dc0 dO_172 (rdB.ch sfx_cX12_tries_256 5 rfl (by decide +kernel))
theorem dX12_tries_262 : decode cX12_tries 262 = .ok (.iconst 1, 1) := dc0 dO_4 (rdB.ch sfx_cX12_tries_256 6 rfl (by decide +kernel))
theorem dX12_tries_263 : decode cX12_tries 263 = .ok (.istore 6, 2) := dcU1 dO_54 (rdU1.ch sfx_cX12_tries_256 7 rfl (by decide +kernel))
theorem dX12_tries_265 : decode cX12_tries 265 = .ok (.iload 6, 2) := dcU1 dO_21 (rdU1.ch sfx_cX12_tries_256 9 rfl (by decide +kernel))
theorem dX12_tries_267 : decode cX12_tries 267 = .ok (.ifCond .eq 138, 3) := dcS2 dO_153 (rdS2.ch sfx_cX12_tries_256 11 rfl (by decide +kernel))
theorem dX12_tries_270 : decode cX12_tries 270 = .ok (.iconst 0, 1) := dc0 dO_3 (rdB.ch sfx_cX12_tries_256 14 rfl (by decide +kernel))
theorem dX12_tries_271 : decode cX12_tries 271 = .ok (.istore 6, 2) := dcU1 dO_54 (rdU1.ch sfx_cX12_tries_256 15 rfl (by decide +kernel))
theorem dX12_tries_273 : decode cX12_tries 273 = .ok (.iload_n 3, 1) := dc0 dO_29 (rdB.ch sfx_cX12_tries_256 17 rfl (by decide +kernel))
theorem dX12_tries_274 : decode cX12_tries 274 = .ok (.iconst 1, 1) := dc0 dO_4 (rdB.ch sfx_cX12_tries_256 18 rfl (by decide +kernel))
theorem dX12_tries_275 : decode cX12_tries 275 = .ok (.isub, 1) := dc0 dO_100 (rdB.ch sfx_cX12_tries_256 19 rfl (by decide +kernel))
theorem dX12_tries_276 : decode cX12_tries 276 = .ok (.istore 7, 2) := dcU1 dO_54 (rdU1.ch sfx_cX12_tries_256 20 rfl (by decide +kernel))
theorem dX12_tries_278 : decode cX12_tries 278 = .ok (.iload 7, 2) := dcU1 dO_21 (rdU1.ch sfx_cX12_tries_256 22 rfl (by decide +kernel))
theorem dX12_tries_280 : decode cX12_tries 280 = .ok (.ifCond .lt 122, 3) := dcS2 dO_155 (rdS2.ch sfx_cX12_tries_256 24 rfl (by decide +kernel))
theorem dX12_tries_283 : decode cX12_tries 283 = .ok (.aload_n 0, 1) := dc0 dO_42 (rdB.ch sfx_cX12_tries_256 27 rfl (by decide +kernel))
theorem dX12_tries_284 : decode cX12_tries 284 = .ok (.getfield 533, 3) := dcU2 dO_180 (rdU2.ch sfx_cX12_tries_256 28 rfl (by decide +kernel))
theorem dX12_tries_287 : decode cX12_tries 287 = .ok (.iload 7, 2) := dcU1 dO_21 (rdU1.ch sfx_cX12_tries_256 31 rfl (by decide +kernel))
theorem dX12_tries_289 : decode cX12_tries 289 = .ok (.iaload, 1) := dc0 dO_46 (rdB.ch sfx_cX12_tries_256 33 rfl (by decide +kernel))
theorem dX12_tries_290 : decode cX12_tries 290 = .ok (.istore 8, 2) := dcU1 dO_54 (rdU1.ch sfx_cX12_tries_256 34 rfl (by decide +kernel))
theorem dX12_tries_292 : decode cX12_tries 292 = .ok (.aload_n 0, 1) := dc0 dO_42 (rdB.ch sfx_cX12_tries_256 36 rfl (by decide +kernel))
theorem dX12_tries_293 : decode cX12_tries 293 = .ok (.getfield 536, 3) := dcU2 dO_180 (rdU2.ch sfx_cX12_tries_256 37 rfl (by decide +kernel))
theorem dX12_tries_296 : decode cX12_tries 296 = .ok (.iload 8, 2) := dcU1 dO_21 (rdU1.ch sfx_cX12_tries_256 40 rfl (by decide +kernel))
theorem dX12_tries_298 : decode cX12_tries 298 = .ok (.baload, 1) := dc0 dO_51 (rdB.ch sfx_cX12_tries_256 42 rfl (by decide +kernel))
theorem dX12_tries_299 : decode cX12_tries 299 = .ok (.ifCond .eq 6, 3) := dcS2 dO_153 (rdS2.ch sfx_cX12_tries_256 43 rfl (by decide +kernel))
theorem dX12_tries_302 : decode cX12_tries 302 = .ok (.goto 94, 3) := dcS2 dO_167 (rdS2.ch sfx_cX12_tries_256 46 rfl (by decide +kernel))
theorem dX12_tries_305 : decode cX12_tries 305 = .ok (.aload_n 0, 1) := dc0 dO_42 (rdB.ch sfx_cX12_tries_256 49 rfl (by decide +kernel))
theorem dX12_tries_306 : decode cX12_tries 306 = .ok (.iload 8, 2) := dcU1 dO_21 (rdU1.ch sfx_cX12_tries_256 50 rfl (by decide +kernel))
theorem dX12_tries_308 : decode cX12_tries 308 = .ok (.invokevirtual 722, 3) := dcU2 dO_182 (rdU2.ch sfx_cX12_tries_256 52 rfl (by decide +kernel))
theorem dX12_tries_311 : decode cX12_tries 311 = .ok (.iconst 1, 1) := dc0 dO_4 (rdB.ch sfx_cX12_tries_256 55 rfl (by decide +kernel))
theorem dX12_tries_312 : decode cX12_tries 312 = .ok (.istore 9, 2) := dcU1 dO_54 (rdU1.ch sfx_cX12_tries_256 56 rfl (by decide +kernel))
theorem dX12_tries_314 : decode cX12_tries 314 = .ok (.iload 9, 2) := dcU1 dO_21 (rdU1.ch sfx_cX12_tries_256 58 rfl (by decide +kernel))
theorem dX12_tries_316 : decode cX12_tries 316 = .ok (.bipush 6, 2) := dcS1 dO_16 (rdS1.ch sfx_cX12_tries_256 60 rfl (by decide +kernel))
theorem dX12_tries_318 : decode cX12_tries 318 = .ok (.if_icmp .gt 56, 3) := dcS2 dO_163 (rdS2.ch sfx_cX12_tries_256 62 rfl (by decide +kernel))
theorem sfx_cX12_tries_320 : (cX12_tries.data.toList.drop 320).take 67 = [56, 42, 180, 2, 24, 21, 8, 51, 154, 0, 46, 42, 180, 2, 24, 21, 8, 42, 180, 2, 24, 21, 8, 42, 21, 9, 182, 2, 213, 42, 180, 2, 14, 21, 9, 46, 100, 42, 180, 2, 11, 21, 9, 46, 104, 96, 51, 84, 132, 9, 1, 167, 255, 199, 21, 6, 154, 0, 13, 42, 180, 2, 24, 21, 8, 51, 153] := by decide +kernel
theorem dX12_tries_321 : decode cX12_tries 321 = .ok (.aload_n 0, 1) := dc0 dO_42 (rdB.ch sfx_cX12_tries_320 1 rfl (by decide +kernel))
theorem dX12_tries_322 : decode cX12_tries 322 = .ok (.getfield 536, 3) := dcU2 dO_180 (rdU2.ch sfx_cX12_tries_320 2 rfl (by decide +kernel))
theorem dX12_tries_325 : decode cX12_tries 325 = .ok (.iload 8, 2) := dcU1 dO_21 (rdU1.ch sfx_cX12_tries_320 5 rfl (by decide +kernel))
theorem dX12_tries_327 : decode cX12_tries 327 = .ok (.baload, 1) := dc0 dO_51 (rdB.ch sfx_cX12_tries_320 7 rfl (by decide +kernel))
theorem dX12_tries_328 : decode cX12_tries 328 = .ok (.ifCond .ne 46, 3) := dcS2 dO_154 (rdS2.ch sfx_cX12_tries_320 8 rfl (by decide +kernel))
theorem dX12_tries_331 : decode cX12_tries 331 = .ok (.aload_n 0, 1) := dc0 dO_42 (rdB.ch sfx_cX12_tries_320 11 rfl (by decide +kernel))
theorem dX12_tries_332 : decode cX12_tries 332 = .ok (.getfield 536, 3) := dcU2 dO_180 (rdU2.ch sfx_cX12_tries_320 12 rfl (by decide +kernel))
theorem dX12_tries_335 : decode cX12_tries 335 = .ok (.iload 8, 2) := dcU1 dO_21 (rdU1.ch sfx_cX12_tries_320 15 rfl (by decide +kernel))
theorem dX12_tries_337 : decode cX12_tries 337 = .ok (.aload_n 0, 1) := dc0 dO_42 (rdB.ch sfx_cX12_tries_320 17 rfl (by decide +kernel))
theorem dX12_tries_338 : decode cX12_tries 338 = .ok (.getfield 536, 3) := dcU2 dO_180 (rdU2.ch sfx_cX12_tries_320 18 rfl (by decide +kernel))
theorem dX12_tries_341 : decode cX12_tries 341 = .ok (.iload 8, 2) := dcU1 dO_21 (rdU1.ch sfx_cX12_tries_320 21 rfl (by decide +kernel))
theorem dX12_tries_343 : decode cX12_tries 343 = .ok (.aload_n 0, 1) := dc0 dO_42 (rdB.ch sfx_cX12_tries_320 23 rfl (by decide +kernel))
theorem dX12_tries_344 : decode cX12_tries 344 = .ok (.iload 9, 2) := dcU1 dO_21 (rdU1.ch sfx_cX12_tries_320 24 rfl (by decide +kernel))
theorem dX12_tries_346 : decode cX12_tries 346 = .ok (.invokevirtual 725, 3) := dcU2 dO_182 (rdU2.ch sfx_cX12_tries_320 26 rfl (by decide +kernel))
theorem dX12_tries_349 : decode cX12_tries 349 = .ok (.aload_n 0, 1) := dc0 dO_42 (rdB.ch sfx_cX12_tries_320 29 rfl (by decide +kernel))
theorem dX12_tries_350 : decode cX12_tries 350 = .ok (.getfield 526, 3) := dcU2 dO_180 (rdU2.ch sfx_cX12_tries_320 30 rfl (by decide +kernel))
theorem dX12_tries_353 : decode cX12_tries 353 = .ok (.iload 9, 2) := dcU1 dO_21 (rdU1.ch sfx_cX12_tries_320 33 rfl (by decide +kernel))
theorem dX12_tries_355 : decode cX12_tries 355 = .ok (.iaload, 1) := dc0 dO_46 (rdB.ch sfx_cX12_tries_320 35 rfl (by decide +kernel))
theorem dX12_tries_356 : decode cX12_tries 356 = .ok (.isub, 1) := dc0 dO_100 (rdB.ch sfx_cX12_tries_320 36 rfl (by decide +kernel))
theorem dX12_tries_357 : decode cX12_tries 357 = .ok (.aload_n 0, 1) := dc0 dO_42 (rdB.ch sfx_cX12_tries_320 37 rfl (by decide +kernel))
theorem dX12_tries_358 : decode cX12_tries 358 = .ok (.getfield 523, 3) := dcU2 dO_180 (rdU2.ch sfx_cX12_tries_320 38 rfl (by decide +kernel))
theorem dX12_tries_361 : decode cX12_tries 361 = .ok (.iload 9, 2) := dcU1 dO_21 (rdU1.ch sfx_cX12_tries_320 41 rfl (by decide +kernel))
theorem dX12_tries_363 : decode cX12_tries 363 = .ok (.iaload, 1) := dc0 dO_46 (rdB.ch sfx_cX12_tries_320 43 rfl (by decide +kernel))
theorem dX12_tries_364 : decode cX12_tries 364 = .ok (.imul, 1) := dc0 dO_104 (rdB.ch sfx_cX12_tries_320 44 rfl (by decide +kernel))
theorem dX12_tries_365 : decode cX12_tries 365 = .ok (.iadd, 1) := dc0 dO_96 (rdB.ch sfx_cX12_tries_320 45 rfl (by decide +kernel))
theorem dX12_tries_366 : decode cX12_tries 366 = .ok (.baload, 1) := dc0 dO_51 (rdB.ch sfx_cX12_tries_320 46 rfl (by decide +kernel))
theorem dX12_tries_367 : decode cX12_tries 367 = .ok (.bastore, 1) := dc0 dO_84 (rdB.ch sfx_cX12_tries_320 47 rfl (by decide +kernel))
theorem dX12_tries_368 : decode cX12_tries 368 = .ok (.iinc 9 1, 3) := dcI dO_132 (rdI.ch sfx_cX12_tries_320 48 rfl (by decide +kernel))
theorem dX12_tries_371 : decode cX12_tries 371 = .ok (.goto (-57), 3) := dcS2 dO_167 (rdS2.ch sfx_cX12_tries_320 51 rfl (by decide +kernel))
theorem dX12_tries_374 : decode cX12_tries 374 = .ok (.iload 6, 2) := dcU1 dO_21 (rdU1.ch sfx_cX12_tries_320 54 rfl (by decide +kernel))
theorem dX12_tries_376 : decode cX12_tries 376 = .ok (.ifCond .ne 13, 3) := dcS2 dO_154 (rdS2.ch sfx_cX12_tries_320 56 rfl (by decide +kernel))
theorem dX12_tries_379 : decode cX12_tries 379 = .ok (.aload_n 0, 1) := dc0 dO_42 (rdB.ch sfx_cX12_tries_320 59 rfl (by decide +kernel))
theorem dX12_tries_380 : decode cX12_tries 380 = .ok (.getfield 536, 3) := dcU2 dO_180 (rdU2.ch sfx_cX12_tries_320 60 rfl (by decide +kernel))
theorem dX12_tries_383 : decode cX12_tries 383 = .ok (.iload 8, 2) := dcU1 dO_21 (rdU1.ch sfx_cX12_tries_320 63 rfl (by decide +kernel))
theorem sfx_cX12_tries_384 : (cX12_tries.data.toList.drop 384).take 67 = [8, 51, 153, 0, 7, 4, 167, 0, 4, 3, 54, 6, 132, 7, 255, 167, 255, 135, 167, 255, 119, 3, 54, 7, 3, 54, 8, 21, 8, 29, 162, 0, 34, 21, 7, 42, 180, 2, 24, 42, 180, 2, 21, 21, 8, 46, 51, 153, 0, 7, 3, 167, 0, 4, 4, 96, 54, 7, 132, 8, 1, 167, 255, 222, 21, 7, 172] := by decide +kernel
theorem dX12_tries_385 : decode cX12_tries 385 = .ok (.baload, 1) := dc0 dO_51 (rdB.ch sfx_cX12_tries_384 1 rfl (by decide +kernel))
theorem dX12_tries_386 : decode cX12_tries 386 = .ok (.ifCond .eq 7, 3) := dcS2 dO_153 (rdS2.ch sfx_cX12_tries_384 2 rfl (by decide +kernel))
theorem dX12_tries_389 : decode cX12_tries 389 = .ok (.iconst 1, 1) := dc0 dO_4 (rdB.ch sfx_cX12_tries_384 5 rfl (by decide +kernel))
theorem dX12_tries_390 : decode cX12_tries 390 = .ok (.goto 4, 3) := dcS2 dO_167 (rdS2.ch sfx_cX12_tries_384 6 rfl (by decide +kernel))
theorem dX12_tries_393 : decode cX12_tries 393 = .ok (.iconst 0, 1) := dc0 dO_3 (rdB.ch sfx_cX12_tries_384 9 rfl (by decide +kernel))
theorem dX12_tries_394 : decode cX12_tries 394 = .ok (.istore 6, 2) := dcU1 dO_54 (rdU1.ch sfx_cX12_tries_384 10 rfl (by decide +kernel))
theorem dX12_tries_396 : decode cX12_tries 396 = .ok (.iinc 7 (-1), 3) := dcI dO_132 (rdI.ch sfx_cX12_tries_384 12 rfl (by decide +kernel))
theorem dX12_tries_399 : decode cX12_tries 399 = .ok (.goto (-121), 3) := dcS2 dO_167 (rdS2.ch sfx_cX12_tries_384 15 rfl (by decide +kernel))
theorem dX12_tries_402 : decode cX12_tries 402 = .ok (.goto (-137), 3) := dcS2 dO_167 (rdS2.ch sfx_cX12_tries_384 18 rfl (by decide +kernel))
theorem dX12_tries_405 : decode cX12_tries 405 = .ok (.iconst 0, 1) := dc0 dO_3 (rdB.ch sfx_cX12_tries_384 21 rfl (by decide +kernel))
theorem dX12_tries_406 : decode cX12_tries 406 = .ok (.istore 7, 2) := dcU1 dO_54 (rdU1.ch sfx_cX12_tries_384 22 rfl (by decide +kernel))
theorem dX12_tries_408 : decode cX12_tries 408 = .ok (.iconst 0, 1) := dc0 dO_3 (rdB.ch sfx_cX12_tries_384 24 rfl (by decide +kernel))
theorem dX12_tries_409 : decode cX12_tries 409 = .ok (.istore 8, 2) := dcU1 dO_54 (rdU1.ch sfx_cX12_tries_384 25 rfl (by decide +kernel))
theorem dX12_tries_411 : decode cX12_tries 411 = .ok (.iload 8, 2) := dcU1 dO_21 (rdU1.ch sfx_cX12_tries_384 27 rfl (by decide +kernel))
theorem dX12_tries_413 : decode cX12_tries 413 = .ok (.iload_n 3, 1) := dc0 dO_29 (rdB.ch sfx_cX12_tries_384 29 rfl (by decide +kernel))
theorem dX12_tries_414 : decode cX12_tries 414 = .ok (.if_icmp .ge 34, 3) := dcS2 dO_162 (rdS2.ch sfx_cX12_tries_384 30 rfl (by decide +kernel))
theorem dX12_tries_417 : decode cX12_tries 417 = .ok (.iload 7, 2) := dcU1 dO_21 (rdU1.ch sfx_cX12_tries_384 33 rfl (by decide +kernel))
theorem dX12_tries_419 : decode cX12_tries 419 = .ok (.aload_n 0, 1) := dc0 dO_42 (rdB.ch sfx_cX12_tries_384 35 rfl (by decide +kernel))
theorem dX12_tries_420 : decode cX12_tries 420 = .ok (.getfield 536, 3) := dcU2 dO_180 (rdU2.ch sfx_cX12_tries_384 36 rfl (by decide +kernel))
theorem dX12_tries_423 : decode cX12_tries 423 = .ok (.aload_n 0, 1) := dc0 dO_42 (rdB.ch sfx_cX12_tries_384 39 rfl (by decide +kernel))
theorem dX12_tries_424 : decode cX12_tries 424 = .ok (.getfield 533, 3) := dcU2 dO_180 (rdU2.ch sfx_cX12_tries_384 40 rfl (by decide +kernel))
theorem dX12_tries_427 : decode cX12_tries 427 = .ok (.iload 8, 2) := dcU1 dO_21 (rdU1.ch sfx_cX12_tries_384 43 rfl (by decide +kernel))
theorem dX12_tries_429 : decode cX12_tries 429 = .ok (.iaload, 1) := dc0 dO_46 (rdB.ch sfx_cX12_tries_384 45 rfl (by decide +kernel))
theorem dX12_tries_430 : decode cX12_tries 430 = .ok (.baload, 1) := dc0 dO_51 (rdB.ch sfx_cX12_tries_384 46 rfl (by decide +kernel))
theorem dX12_tries_431 : decode cX12_tries 431 = .ok (.ifCond .eq 7, 3) := dcS2 dO_153 (rdS2.ch sfx_cX12_tries_384 47 rfl (by decide +kernel))
theorem dX12_tries_434 : decode cX12_tries 434 = .ok (.iconst 0, 1) := dc0 dO_3 (rdB.ch sfx_cX12_tries_384 50 rfl (by decide +kernel))
theorem dX12_tries_435 : decode cX12_tries 435 = .ok (.goto 4, 3) := dcS2 dO_167 (rdS2.ch sfx_cX12_tries_384 51 rfl (by decide +kernel))
theorem dX12_tries_438 : decode cX12_tries 438 = .ok (.iconst 1, 1) := dc0 dO_4 (rdB.ch sfx_cX12_tries_384 54 rfl (by decide +kernel))
theorem dX12_tries_439 : decode cX12_tries 439 = .ok (.iadd, 1) := dc0 dO_96 (rdB.ch sfx_cX12_tries_384 55 rfl (by decide +kernel))
theorem dX12_tries_440 : decode cX12_tries 440 = .ok (.istore 7, 2) := dcU1 dO_54 (rdU1.ch sfx_cX12_tries_384 56 rfl (by decide +kernel))
theorem dX12_tries_442 : decode cX12_tries 442 = .ok (.iinc 8 1, 3) := dcI dO_132 (rdI.ch sfx_cX12_tries_384 58 rfl (by decide +kernel))
theorem dX12_tries_445 : decode cX12_tries 445 = .ok (.goto (-34), 3) := dcS2 dO_167 (rdS2.ch sfx_cX12_tries_384 61 rfl (by decide +kernel))
theorem sfx_cX12_tries_448 : (cX12_tries.data.toList.drop 448).take 67 = [21, 7, 172] := by decide +kernel
theorem dX12_tries_448 : decode cX12_tries 448 = .ok (.iload 7, 2) := dcU1 dO_21 (rdU1.ch sfx_cX12_tries_448 0 rfl (by decide +kernel))
theorem dX12_tries_450 : decode cX12_tries 450 = .ok (.ireturn, 1) := dc0 dO_172 (rdB.ch sfx_cX12_tries_448 2 rfl (by decide +kernel))
end
section
theorem vc_X12_states_r_29 {z40 : Int} (h0 : 1 ≤ z40 ∧ z40 ≤ 7776) : 0 < z40 := by omega
theorem vc_X12_states_r_30 {z31 : Int} (h0 : 1 ≤ z31 ∧ z31 ≤ 1296) : 0 < z31 := by omega
theorem vc_X12_states_r_31 {z22 : Int} (h0 : 1 ≤ z22 ∧ z22 ≤ 216) : 0 < z22 := by omega
theorem vc_X12_states_r_32 {z13 : Int} (h0 : 1 ≤ z13 ∧ z13 ≤ 36) : 0 < z13 := by omega
theorem vc_X12_states_r_33 {z4 : Int} (h0 : 0 ≤ z4 ∧ z4 ≤ 5) : 0 < (1 * (z4 + 1)) := by omega
theorem vc_X12_states_r_34  : (0 : Int) < ((1 : Int) : Int) := by omega
set_option maxRecDepth 4000 in
set_option maxHeartbeats 4000000 in
theorem c_X12_states_r {l : Launch} {D : va_G} {c : Nat → ClassId} {H0 : Heap} {sa : Nat × Nat × (Nat → Int32)} {w : mW} {μ : mM} (hw : mWF w) (hT : mT w μ) : sC (gG l D c H0 sa) mX12_states 1 0 0 [.ref 106] (mk w μ) (qI w [187999] μ (fun z μ1 => ∃ o_w1 o_w2 o_w3 o_w4 o_w5 o_w6 : Int, μ1 187 ((1 : Int).toNat) = o_w1 ∧ μ1 187 ((2 : Int).toNat) = o_w2 ∧ μ1 187 ((3 : Int).toNat) = o_w3 ∧ μ1 187 ((4 : Int).toNat) = o_w4 ∧ μ1 187 ((5 : Int).toNat) = o_w5 ∧ μ1 187 ((6 : Int).toNat) = o_w6 ∧ (1 ≤ z ∧ z ≤ 46656) ∧ (1 ≤ o_w1) ∧ (1 ≤ o_w2) ∧ (1 ≤ o_w3) ∧ (1 ≤ o_w4) ∧ (1 ≤ o_w5) ∧ (1 ≤ o_w6) ∧ (radix μ1 187 184 z) ∧ True)) := by
  refine sC.of rfl (by decide) (le_t rfl) ?_
  refine mr_lvE (lv' := [(0, .ref 106)]) rfl ?_
  refine mr_iconst (pc := 0) (z := 1) dX12_states_0 ?_
  refine mr_istore_n (pc := 1) (lv' := [(1, iv 1), (0, .ref 106)]) dX12_states_1 rfl (by decide) rfl ?_
  refine mr_bipush (pc := 2) (z := 6) dX12_states_2 (by decide) ?_
  refine mr_istore_n (pc := 4) (lv' := [(2, iv 6), (1, iv 1), (0, .ref 106)]) dX12_states_4 rfl (by decide) rfl ?_
  refine mr_iload_n (pc := 5) (z := 6) dX12_states_5 rfl rfl ?_
  refine mr_iconst (pc := 6) (z := 1) dX12_states_6 ?_
  refine mr_icmp_lt (pc := 7) (tgt := 34) dX12_states_7 (by decide) (r32 (rR (x := 6)) rfl) (r32 (rR (x := 1)) rfl) (fun h => ((vc_X12_states_1 h)).elim) (fun _ => ?_)
  refine sv_aload_n (pc := 10) dX12_states_10 rfl rfl ?_
  refine gf_X12_121 (pc := 11) dX12_states_11 wF_X12_523 (A_106 hw) hT ?_
  refine mr_iload_n (pc := 14) (z := 6) dX12_states_14 rfl rfl ?_
  refine mr_iload_n (pc := 15) (z := 1) dX12_states_15 rfl rfl ?_
  refine ss_187 (pc := 16) dX12_states_16 (A_187 hw) hT (rIx (n := 8) (rR (x := 6)) rfl) (rW (c := 0) (d := 46656) (rR (x := 1)) rfl) fun μ1 u2 T3 => ?_
  refine mr_iload_n (pc := 17) (z := 1) dX12_states_17 rfl rfl ?_
  refine sv_aload_n (pc := 18) dX12_states_18 rfl rfl ?_
  refine gf_X12_118 (pc := 19) dX12_states_19 wF_X12_514 (A_106 hw) T3 ?_
  refine mr_iload_n (pc := 22) (z := 6) dX12_states_22 rfl rfl ?_
  refine la_184 (pc := 23) dX12_states_23 (A_184 hw) T3 (rIx (n := 7) (rR (x := 6)) rfl) fun z4 q5 h6 => ?_
  refine mr_iconst (pc := 24) (z := 1) dX12_states_24 ?_
  refine mr_iadd (pc := 25) (x := z4) (y := 1) dX12_states_25 ?_
  refine mr_imul (pc := 26) (x := 1) (y := (z4 + 1)) dX12_states_26 ?_
  refine mr_istore_n (pc := 27) (lv' := [(1, iv (1 * (z4 + 1))), (2, iv 6), (0, .ref 106)]) dX12_states_27 rfl (by decide) rfl ?_
  refine mr_iinc (pc := 28) (lv' := [(2, iv 5), (1, iv (1 * (z4 + 1))), (0, .ref 106)]) dX12_states_28 rfl (by decide) rfl ?_
  refine sv_goto (pc := 31) (tgt := 5) dX12_states_31 (by decide) ?_
  refine mr_iload_n (pc := 5) (z := 5) dX12_states_5 rfl rfl ?_
  refine mr_iconst (pc := 6) (z := 1) dX12_states_6 ?_
  refine mr_icmp_lt (pc := 7) (tgt := 34) dX12_states_7 (by decide) (r32 (rR (x := 5)) rfl) (r32 (rR (x := 1)) rfl) (fun h => ((vc_X12_states_2 h)).elim) (fun _ => ?_)
  refine sv_aload_n (pc := 10) dX12_states_10 rfl rfl ?_
  refine gf_X12_121 (pc := 11) dX12_states_11 wF_X12_523 (A_106 hw) T3 ?_
  refine mr_iload_n (pc := 14) (z := 5) dX12_states_14 rfl rfl ?_
  refine mr_iload_n (pc := 15) (z := (1 * (z4 + 1))) dX12_states_15 rfl rfl ?_
  refine ss_187 (pc := 16) dX12_states_16 (A_187 hw) T3 (rIx (n := 8) (rR (x := 5)) rfl) (rW (c := 0) (d := 46656) (rMulL (n := 1) (e := 1) (f := 6) (rAdd (e := 1) (f := 6) h6 (rR (x := 1)) rfl) rfl) rfl) fun μ7 u8 T9 => ?_
  refine mr_iload_n (pc := 17) (z := (1 * (z4 + 1))) dX12_states_17 rfl rfl ?_
  refine sv_aload_n (pc := 18) dX12_states_18 rfl rfl ?_
  refine gf_X12_118 (pc := 19) dX12_states_19 wF_X12_514 (A_106 hw) T9 ?_
  refine mr_iload_n (pc := 22) (z := 5) dX12_states_22 rfl rfl ?_
  refine la_184 (pc := 23) dX12_states_23 (A_184 hw) T9 (rIx (n := 7) (rR (x := 5)) rfl) fun z10 q11 h12 => ?_
  refine mr_iconst (pc := 24) (z := 1) dX12_states_24 ?_
  refine mr_iadd (pc := 25) (x := z10) (y := 1) dX12_states_25 ?_
  refine mr_imul (pc := 26) (x := (1 * (z4 + 1))) (y := (z10 + 1)) dX12_states_26 ?_
  refine mr_gen (P := fun z => 1 ≤ z ∧ z ≤ 36) (rMulP (rMulL (n := 1) (e := 1) (f := 6) (rAdd (e := 1) (f := 6) h6 (rR (x := 1)) rfl) rfl) (rAdd (e := 1) (f := 6) h12 (rR (x := 1)) rfl) rfl) fun z13 q14 h15 => ?_
  refine mr_istore_n (pc := 27) (lv' := [(1, iv z13), (2, iv 5), (0, .ref 106)]) dX12_states_27 rfl (by decide) rfl ?_
  refine mr_iinc (pc := 28) (lv' := [(2, iv 4), (1, iv z13), (0, .ref 106)]) dX12_states_28 rfl (by decide) rfl ?_
  refine sv_goto (pc := 31) (tgt := 5) dX12_states_31 (by decide) ?_
  refine mr_iload_n (pc := 5) (z := 4) dX12_states_5 rfl rfl ?_
  refine mr_iconst (pc := 6) (z := 1) dX12_states_6 ?_
  refine mr_icmp_lt (pc := 7) (tgt := 34) dX12_states_7 (by decide) (r32 (rR (x := 4)) rfl) (r32 (rR (x := 1)) rfl) (fun h => ((vc_X12_states_3 h)).elim) (fun _ => ?_)
  refine sv_aload_n (pc := 10) dX12_states_10 rfl rfl ?_
  refine gf_X12_121 (pc := 11) dX12_states_11 wF_X12_523 (A_106 hw) T9 ?_
  refine mr_iload_n (pc := 14) (z := 4) dX12_states_14 rfl rfl ?_
  refine mr_iload_n (pc := 15) (z := z13) dX12_states_15 rfl rfl ?_
  refine ss_187 (pc := 16) dX12_states_16 (A_187 hw) T9 (rIx (n := 8) (rR (x := 4)) rfl) (rW (c := 0) (d := 46656) h15 rfl) fun μ16 u17 T18 => ?_
  refine mr_iload_n (pc := 17) (z := z13) dX12_states_17 rfl rfl ?_
  refine sv_aload_n (pc := 18) dX12_states_18 rfl rfl ?_
  refine gf_X12_118 (pc := 19) dX12_states_19 wF_X12_514 (A_106 hw) T18 ?_
  refine mr_iload_n (pc := 22) (z := 4) dX12_states_22 rfl rfl ?_
  refine la_184 (pc := 23) dX12_states_23 (A_184 hw) T18 (rIx (n := 7) (rR (x := 4)) rfl) fun z19 q20 h21 => ?_
  refine mr_iconst (pc := 24) (z := 1) dX12_states_24 ?_
  refine mr_iadd (pc := 25) (x := z19) (y := 1) dX12_states_25 ?_
  refine mr_imul (pc := 26) (x := z13) (y := (z19 + 1)) dX12_states_26 ?_
  refine mr_gen (P := fun z => 1 ≤ z ∧ z ≤ 216) (rMulP h15 (rAdd (e := 1) (f := 6) h21 (rR (x := 1)) rfl) rfl) fun z22 q23 h24 => ?_
  refine mr_istore_n (pc := 27) (lv' := [(1, iv z22), (2, iv 4), (0, .ref 106)]) dX12_states_27 rfl (by decide) rfl ?_
  refine mr_iinc (pc := 28) (lv' := [(2, iv 3), (1, iv z22), (0, .ref 106)]) dX12_states_28 rfl (by decide) rfl ?_
  refine sv_goto (pc := 31) (tgt := 5) dX12_states_31 (by decide) ?_
  refine mr_iload_n (pc := 5) (z := 3) dX12_states_5 rfl rfl ?_
  refine mr_iconst (pc := 6) (z := 1) dX12_states_6 ?_
  refine mr_icmp_lt (pc := 7) (tgt := 34) dX12_states_7 (by decide) (r32 (rR (x := 3)) rfl) (r32 (rR (x := 1)) rfl) (fun h => ((vc_X12_states_4 h)).elim) (fun _ => ?_)
  refine sv_aload_n (pc := 10) dX12_states_10 rfl rfl ?_
  refine gf_X12_121 (pc := 11) dX12_states_11 wF_X12_523 (A_106 hw) T18 ?_
  refine mr_iload_n (pc := 14) (z := 3) dX12_states_14 rfl rfl ?_
  refine mr_iload_n (pc := 15) (z := z22) dX12_states_15 rfl rfl ?_
  refine ss_187 (pc := 16) dX12_states_16 (A_187 hw) T18 (rIx (n := 8) (rR (x := 3)) rfl) (rW (c := 0) (d := 46656) h24 rfl) fun μ25 u26 T27 => ?_
  refine mr_iload_n (pc := 17) (z := z22) dX12_states_17 rfl rfl ?_
  refine sv_aload_n (pc := 18) dX12_states_18 rfl rfl ?_
  refine gf_X12_118 (pc := 19) dX12_states_19 wF_X12_514 (A_106 hw) T27 ?_
  refine mr_iload_n (pc := 22) (z := 3) dX12_states_22 rfl rfl ?_
  refine la_184 (pc := 23) dX12_states_23 (A_184 hw) T27 (rIx (n := 7) (rR (x := 3)) rfl) fun z28 q29 h30 => ?_
  refine mr_iconst (pc := 24) (z := 1) dX12_states_24 ?_
  refine mr_iadd (pc := 25) (x := z28) (y := 1) dX12_states_25 ?_
  refine mr_imul (pc := 26) (x := z22) (y := (z28 + 1)) dX12_states_26 ?_
  refine mr_gen (P := fun z => 1 ≤ z ∧ z ≤ 1296) (rMulP h24 (rAdd (e := 1) (f := 6) h30 (rR (x := 1)) rfl) rfl) fun z31 q32 h33 => ?_
  refine mr_istore_n (pc := 27) (lv' := [(1, iv z31), (2, iv 3), (0, .ref 106)]) dX12_states_27 rfl (by decide) rfl ?_
  refine mr_iinc (pc := 28) (lv' := [(2, iv 2), (1, iv z31), (0, .ref 106)]) dX12_states_28 rfl (by decide) rfl ?_
  refine sv_goto (pc := 31) (tgt := 5) dX12_states_31 (by decide) ?_
  refine mr_iload_n (pc := 5) (z := 2) dX12_states_5 rfl rfl ?_
  refine mr_iconst (pc := 6) (z := 1) dX12_states_6 ?_
  refine mr_icmp_lt (pc := 7) (tgt := 34) dX12_states_7 (by decide) (r32 (rR (x := 2)) rfl) (r32 (rR (x := 1)) rfl) (fun h => ((vc_X12_states_5 h)).elim) (fun _ => ?_)
  refine sv_aload_n (pc := 10) dX12_states_10 rfl rfl ?_
  refine gf_X12_121 (pc := 11) dX12_states_11 wF_X12_523 (A_106 hw) T27 ?_
  refine mr_iload_n (pc := 14) (z := 2) dX12_states_14 rfl rfl ?_
  refine mr_iload_n (pc := 15) (z := z31) dX12_states_15 rfl rfl ?_
  refine ss_187 (pc := 16) dX12_states_16 (A_187 hw) T27 (rIx (n := 8) (rR (x := 2)) rfl) (rW (c := 0) (d := 46656) h33 rfl) fun μ34 u35 T36 => ?_
  refine mr_iload_n (pc := 17) (z := z31) dX12_states_17 rfl rfl ?_
  refine sv_aload_n (pc := 18) dX12_states_18 rfl rfl ?_
  refine gf_X12_118 (pc := 19) dX12_states_19 wF_X12_514 (A_106 hw) T36 ?_
  refine mr_iload_n (pc := 22) (z := 2) dX12_states_22 rfl rfl ?_
  refine la_184 (pc := 23) dX12_states_23 (A_184 hw) T36 (rIx (n := 7) (rR (x := 2)) rfl) fun z37 q38 h39 => ?_
  refine mr_iconst (pc := 24) (z := 1) dX12_states_24 ?_
  refine mr_iadd (pc := 25) (x := z37) (y := 1) dX12_states_25 ?_
  refine mr_imul (pc := 26) (x := z31) (y := (z37 + 1)) dX12_states_26 ?_
  refine mr_gen (P := fun z => 1 ≤ z ∧ z ≤ 7776) (rMulP h33 (rAdd (e := 1) (f := 6) h39 (rR (x := 1)) rfl) rfl) fun z40 q41 h42 => ?_
  refine mr_istore_n (pc := 27) (lv' := [(1, iv z40), (2, iv 2), (0, .ref 106)]) dX12_states_27 rfl (by decide) rfl ?_
  refine mr_iinc (pc := 28) (lv' := [(2, iv 1), (1, iv z40), (0, .ref 106)]) dX12_states_28 rfl (by decide) rfl ?_
  refine sv_goto (pc := 31) (tgt := 5) dX12_states_31 (by decide) ?_
  refine mr_iload_n (pc := 5) (z := 1) dX12_states_5 rfl rfl ?_
  refine mr_iconst (pc := 6) (z := 1) dX12_states_6 ?_
  refine mr_icmp_lt (pc := 7) (tgt := 34) dX12_states_7 (by decide) (r32 (rR (x := 1)) rfl) (r32 (rR (x := 1)) rfl) (fun h => ((vc_X12_states_6 h)).elim) (fun _ => ?_)
  refine sv_aload_n (pc := 10) dX12_states_10 rfl rfl ?_
  refine gf_X12_121 (pc := 11) dX12_states_11 wF_X12_523 (A_106 hw) T36 ?_
  refine mr_iload_n (pc := 14) (z := 1) dX12_states_14 rfl rfl ?_
  refine mr_iload_n (pc := 15) (z := z40) dX12_states_15 rfl rfl ?_
  refine ss_187 (pc := 16) dX12_states_16 (A_187 hw) T36 (rIx (n := 8) (rR (x := 1)) rfl) (rW (c := 0) (d := 46656) h42 rfl) fun μ43 u44 T45 => ?_
  refine mr_iload_n (pc := 17) (z := z40) dX12_states_17 rfl rfl ?_
  refine sv_aload_n (pc := 18) dX12_states_18 rfl rfl ?_
  refine gf_X12_118 (pc := 19) dX12_states_19 wF_X12_514 (A_106 hw) T45 ?_
  refine mr_iload_n (pc := 22) (z := 1) dX12_states_22 rfl rfl ?_
  refine la_184 (pc := 23) dX12_states_23 (A_184 hw) T45 (rIx (n := 7) (rR (x := 1)) rfl) fun z46 q47 h48 => ?_
  refine mr_iconst (pc := 24) (z := 1) dX12_states_24 ?_
  refine mr_iadd (pc := 25) (x := z46) (y := 1) dX12_states_25 ?_
  refine mr_imul (pc := 26) (x := z40) (y := (z46 + 1)) dX12_states_26 ?_
  refine mr_gen (P := fun z => 1 ≤ z ∧ z ≤ 46656) (rMulP h42 (rAdd (e := 1) (f := 6) h48 (rR (x := 1)) rfl) rfl) fun z49 q50 h51 => ?_
  refine mr_istore_n (pc := 27) (lv' := [(1, iv z49), (2, iv 1), (0, .ref 106)]) dX12_states_27 rfl (by decide) rfl ?_
  refine mr_iinc (pc := 28) (lv' := [(2, iv 0), (1, iv z49), (0, .ref 106)]) dX12_states_28 rfl (by decide) rfl ?_
  refine sv_goto (pc := 31) (tgt := 5) dX12_states_31 (by decide) ?_
  refine mr_iload_n (pc := 5) (z := 0) dX12_states_5 rfl rfl ?_
  refine mr_iconst (pc := 6) (z := 1) dX12_states_6 ?_
  refine mr_icmp_lt (pc := 7) (tgt := 34) dX12_states_7 (by decide) (r32 (rR (x := 0)) rfl) (r32 (rR (x := 1)) rfl) (fun _ => ?_) (fun h => ((vc_X12_states_7 h)).elim)
  refine mr_iload_n (pc := 34) (z := z49) dX12_states_34 rfl rfl ?_
  exact mr_iret dX12_states_35 rfl (le_t rfl) (le_t rfl) T45 (mF.up (mF.up (mF.up (mF.up (mF.up (mF.up mF.refl (A_187 hw) u2 rfl) (A_187 hw) u8 rfl) (A_187 hw) u17 rfl) (A_187 hw) u26 rfl) (A_187 hw) u35 rfl) (A_187 hw) u44 rfl) ⟨z40, z31, z22, z13, (1 * (z4 + 1)), 1, u44.1, (u44.f (Or.inr vc_X12_states_8) u35.1), (u44.f (Or.inr vc_X12_states_10) (u35.f (Or.inr vc_X12_states_9) u26.1)), (u44.f (Or.inr vc_X12_states_13) (u35.f (Or.inr vc_X12_states_12) (u26.f (Or.inr vc_X12_states_11) u17.1))), (u44.f (Or.inr vc_X12_states_17) (u35.f (Or.inr vc_X12_states_16) (u26.f (Or.inr vc_X12_states_15) (u17.f (Or.inr vc_X12_states_14) u8.1)))), (u44.f (Or.inr vc_X12_states_22) (u35.f (Or.inr vc_X12_states_21) (u26.f (Or.inr vc_X12_states_20) (u17.f (Or.inr vc_X12_states_19) (u8.f (Or.inr vc_X12_states_18) u2.1))))), h51, (vc_X12_states_23 h42), (vc_X12_states_24 h33), (vc_X12_states_25 h24), (vc_X12_states_26 h15), (vc_X12_states_27 h6), vc_X12_states_28, (radix.mk q47 (u44.f (Or.inl (mAt.ne (A_187 hw) (A_184 hw) rfl)) q38) (u44.f (Or.inl (mAt.ne (A_187 hw) (A_184 hw) rfl)) (u35.f (Or.inl (mAt.ne (A_187 hw) (A_184 hw) rfl)) q29)) (u44.f (Or.inl (mAt.ne (A_187 hw) (A_184 hw) rfl)) (u35.f (Or.inl (mAt.ne (A_187 hw) (A_184 hw) rfl)) (u26.f (Or.inl (mAt.ne (A_187 hw) (A_184 hw) rfl)) q20))) (u44.f (Or.inl (mAt.ne (A_187 hw) (A_184 hw) rfl)) (u35.f (Or.inl (mAt.ne (A_187 hw) (A_184 hw) rfl)) (u26.f (Or.inl (mAt.ne (A_187 hw) (A_184 hw) rfl)) (u17.f (Or.inl (mAt.ne (A_187 hw) (A_184 hw) rfl)) q11)))) (u44.f (Or.inl (mAt.ne (A_187 hw) (A_184 hw) rfl)) (u35.f (Or.inl (mAt.ne (A_187 hw) (A_184 hw) rfl)) (u26.f (Or.inl (mAt.ne (A_187 hw) (A_184 hw) rfl)) (u17.f (Or.inl (mAt.ne (A_187 hw) (A_184 hw) rfl)) (u8.f (Or.inl (mAt.ne (A_187 hw) (A_184 hw) rfl)) q5))))) u44.1 (u44.f (Or.inr vc_X12_states_8) u35.1) (u44.f (Or.inr vc_X12_states_10) (u35.f (Or.inr vc_X12_states_9) u26.1)) (u44.f (Or.inr vc_X12_states_13) (u35.f (Or.inr vc_X12_states_12) (u26.f (Or.inr vc_X12_states_11) u17.1))) (u44.f (Or.inr vc_X12_states_17) (u35.f (Or.inr vc_X12_states_16) (u26.f (Or.inr vc_X12_states_15) (u17.f (Or.inr vc_X12_states_14) u8.1)))) (u44.f (Or.inr vc_X12_states_22) (u35.f (Or.inr vc_X12_states_21) (u26.f (Or.inr vc_X12_states_20) (u17.f (Or.inr vc_X12_states_19) (u8.f (Or.inr vc_X12_states_18) u2.1))))) (vc_X12_states_r_29 h42) (vc_X12_states_r_30 h33) (vc_X12_states_r_31 h24) (vc_X12_states_r_32 h15) (vc_X12_states_r_33 h6) vc_X12_states_r_34 rfl q14.symm q23.symm q32.symm q41.symm q50.symm), trivial⟩
set_option maxRecDepth 4000 in
set_option maxHeartbeats 4000000 in
theorem c_X12_open_r {l : Launch} {D : va_G} {c : Nat → ClassId} {H0 : Heap} {sa : Nat × Nat × (Nat → Int32)} {w : mW} {μ : mM} (hw : mWF w) (hT : mT w μ) {p1 : Int} (hp1 : 0 ≤ p1 ∧ p1 ≤ 46655) {f_w1 : Int} (q_f_w1 : μ 187 ((1 : Int).toNat) = f_w1) {f_w2 : Int} (q_f_w2 : μ 187 ((2 : Int).toNat) = f_w2) {f_w3 : Int} (q_f_w3 : μ 187 ((3 : Int).toNat) = f_w3) {f_w4 : Int} (q_f_w4 : μ 187 ((4 : Int).toNat) = f_w4) {f_w5 : Int} (q_f_w5 : μ 187 ((5 : Int).toNat) = f_w5) {f_w6 : Int} (q_f_w6 : μ 187 ((6 : Int).toNat) = f_w6) {f_v1 : Int} (q_f_v1 : μ 184 ((1 : Int).toNat) = f_v1) {f_v2 : Int} (q_f_v2 : μ 184 ((2 : Int).toNat) = f_v2) {f_v3 : Int} (q_f_v3 : μ 184 ((3 : Int).toNat) = f_v3) {f_v4 : Int} (q_f_v4 : μ 184 ((4 : Int).toNat) = f_v4) {f_v5 : Int} (q_f_v5 : μ 184 ((5 : Int).toNat) = f_v5) {f_v6 : Int} (q_f_v6 : μ 184 ((6 : Int).toNat) = f_v6) (hq0 : 1 ≤ f_w1) (hq1 : 1 ≤ f_w2) (hq2 : 1 ≤ f_w3) (hq3 : 1 ≤ f_w4) (hq4 : 1 ≤ f_w5) (hq5 : 1 ≤ f_w6) : sC (gG l D c H0 sa) mX12_open 1 0 0 [.ref 106, iv p1] (mk w μ) (qV w [188999] μ (fun μ1 => ∃ o_h1 o_h2 o_h3 o_h4 o_h5 o_h6 : Int, μ1 188 ((1 : Int).toNat) = o_h1 ∧ μ1 188 ((2 : Int).toNat) = o_h2 ∧ μ1 188 ((3 : Int).toNat) = o_h3 ∧ μ1 188 ((4 : Int).toNat) = o_h4 ∧ μ1 188 ((5 : Int).toNat) = o_h5 ∧ μ1 188 ((6 : Int).toNat) = o_h6 ∧ (o_h1 ≤ f_v1) ∧ (o_h2 ≤ f_v2) ∧ (o_h3 ≤ f_v3) ∧ (o_h4 ≤ f_v4) ∧ (o_h5 ≤ f_v5) ∧ (o_h6 ≤ f_v6) ∧ (digs μ1 188 187 184 p1) ∧ True)) := by
  refine sC.of rfl (by decide) (le_t rfl) ?_
  have ht_f_w1 : (0 ≤ f_w1 ∧ f_w1 ≤ 46656) := by rw [← q_f_w1]; exact hT 187 187 (A_187 hw) ((1 : Int).toNat)
  have ht_f_w2 : (0 ≤ f_w2 ∧ f_w2 ≤ 46656) := by rw [← q_f_w2]; exact hT 187 187 (A_187 hw) ((2 : Int).toNat)
  have ht_f_w3 : (0 ≤ f_w3 ∧ f_w3 ≤ 46656) := by rw [← q_f_w3]; exact hT 187 187 (A_187 hw) ((3 : Int).toNat)
  have ht_f_w4 : (0 ≤ f_w4 ∧ f_w4 ≤ 46656) := by rw [← q_f_w4]; exact hT 187 187 (A_187 hw) ((4 : Int).toNat)
  have ht_f_w5 : (0 ≤ f_w5 ∧ f_w5 ≤ 46656) := by rw [← q_f_w5]; exact hT 187 187 (A_187 hw) ((5 : Int).toNat)
  have ht_f_w6 : (0 ≤ f_w6 ∧ f_w6 ≤ 46656) := by rw [← q_f_w6]; exact hT 187 187 (A_187 hw) ((6 : Int).toNat)
  have ht_f_v1 : (0 ≤ f_v1 ∧ f_v1 ≤ 5) := by rw [← q_f_v1]; exact hT 184 184 (A_184 hw) ((1 : Int).toNat)
  have ht_f_v2 : (0 ≤ f_v2 ∧ f_v2 ≤ 5) := by rw [← q_f_v2]; exact hT 184 184 (A_184 hw) ((2 : Int).toNat)
  have ht_f_v3 : (0 ≤ f_v3 ∧ f_v3 ≤ 5) := by rw [← q_f_v3]; exact hT 184 184 (A_184 hw) ((3 : Int).toNat)
  have ht_f_v4 : (0 ≤ f_v4 ∧ f_v4 ≤ 5) := by rw [← q_f_v4]; exact hT 184 184 (A_184 hw) ((4 : Int).toNat)
  have ht_f_v5 : (0 ≤ f_v5 ∧ f_v5 ≤ 5) := by rw [← q_f_v5]; exact hT 184 184 (A_184 hw) ((5 : Int).toNat)
  have ht_f_v6 : (0 ≤ f_v6 ∧ f_v6 ≤ 5) := by rw [← q_f_v6]; exact hT 184 184 (A_184 hw) ((6 : Int).toNat)
  have h1 : 1 ≤ f_w1 ∧ f_w1 ≤ 46656 := (vc_X12_open_1 hq0 ht_f_w1)
  have h2 : 1 ≤ f_w2 ∧ f_w2 ≤ 46656 := (vc_X12_open_1 hq1 ht_f_w2)
  have h3 : 1 ≤ f_w3 ∧ f_w3 ≤ 46656 := (vc_X12_open_1 hq2 ht_f_w3)
  have h4 : 1 ≤ f_w4 ∧ f_w4 ≤ 46656 := (vc_X12_open_1 hq3 ht_f_w4)
  have h5 : 1 ≤ f_w5 ∧ f_w5 ≤ 46656 := (vc_X12_open_1 hq4 ht_f_w5)
  have h6 : 1 ≤ f_w6 ∧ f_w6 ≤ 46656 := (vc_X12_open_1 hq5 ht_f_w6)
  refine mr_lvE (lv' := [(0, .ref 106), (1, iv p1)]) rfl ?_
  refine mr_iconst (pc := 0) (z := 1) dX12_open_0 ?_
  refine mr_istore_n (pc := 1) (lv' := [(2, iv 1), (0, .ref 106), (1, iv p1)]) dX12_open_1 rfl (by decide) rfl ?_
  refine mr_iload_n (pc := 2) (z := 1) dX12_open_2 rfl rfl ?_
  refine mr_bipush (pc := 3) (z := 6) dX12_open_3 (by decide) ?_
  refine mr_icmp_gt (pc := 5) (tgt := 37) dX12_open_5 (by decide) (r32 (rR (x := 1)) rfl) (r32 (rR (x := 6)) rfl) (fun h => ((vc_X12_states_1 h)).elim) (fun _ => ?_)
  refine sv_aload_n (pc := 8) dX12_open_8 rfl rfl ?_
  refine gf_X12_122 (pc := 9) dX12_open_9 wF_X12_526 (A_106 hw) hT ?_
  refine mr_iload_n (pc := 12) (z := 1) dX12_open_12 rfl rfl ?_
  refine mr_iload_n (pc := 13) (z := p1) dX12_open_13 rfl rfl ?_
  refine sv_aload_n (pc := 14) dX12_open_14 rfl rfl ?_
  refine gf_X12_121 (pc := 15) dX12_open_15 wF_X12_523 (A_106 hw) hT ?_
  refine mr_iload_n (pc := 18) (z := 1) dX12_open_18 rfl rfl ?_
  refine lk_187 (pc := 19) dX12_open_19 (A_187 hw) (rIx (n := 8) (rR (x := 1)) rfl) q_f_w1 ?_
  refine mr_idiv (pc := 20) (x := p1) (y := f_w1) dX12_open_20 (rW (c := 0) (d := 2147483647) hp1 rfl) (vc_X12_open_8 hq0 h1) ?_
  refine mr_gen (P := fun z => 0 ≤ z ∧ z ≤ 46655) (rDivV hp1 (vc_X12_open_8 hq0 h1) rfl) fun z169 q170 h171 => ?_
  refine sv_aload_n (pc := 21) dX12_open_21 rfl rfl ?_
  refine gf_X12_118 (pc := 22) dX12_open_22 wF_X12_514 (A_106 hw) hT ?_
  refine mr_iload_n (pc := 25) (z := 1) dX12_open_25 rfl rfl ?_
  refine lk_184 (pc := 26) dX12_open_26 (A_184 hw) (rIx (n := 7) (rR (x := 1)) rfl) q_f_v1 ?_
  refine mr_iconst (pc := 27) (z := 1) dX12_open_27 ?_
  refine mr_iadd (pc := 28) (x := f_v1) (y := 1) dX12_open_28 ?_
  refine mr_irem (pc := 29) (x := z169) (y := (f_v1 + 1)) dX12_open_29 (rW (c := 0) (d := 2147483647) h171 rfl) (vc_X12_open_9 ht_f_v1) ?_
  refine mr_gen (P := fun z => 0 ≤ z ∧ z ≤ 5) (rModV (rAdd (e := 1) (f := 6) ht_f_v1 (rR (x := 1)) rfl) (vc_X12_open_9 ht_f_v1) rfl) fun z172 q173 h174 => ?_
  refine ss_188 (pc := 30) dX12_open_30 (A_188 hw) hT (rIx (n := 7) (rR (x := 1)) rfl) h174 fun μ175 u176 T177 => ?_
  refine mr_iinc (pc := 31) (lv' := [(2, iv 2), (0, .ref 106), (1, iv p1)]) dX12_open_31 rfl (by decide) rfl ?_
  refine sv_goto (pc := 34) (tgt := 2) dX12_open_34 (by decide) ?_
  refine mr_iload_n (pc := 2) (z := 2) dX12_open_2 rfl rfl ?_
  refine mr_bipush (pc := 3) (z := 6) dX12_open_3 (by decide) ?_
  refine mr_icmp_gt (pc := 5) (tgt := 37) dX12_open_5 (by decide) (r32 (rR (x := 2)) rfl) (r32 (rR (x := 6)) rfl) (fun h => ((vc_X12_open_10 h)).elim) (fun _ => ?_)
  refine sv_aload_n (pc := 8) dX12_open_8 rfl rfl ?_
  refine gf_X12_122 (pc := 9) dX12_open_9 wF_X12_526 (A_106 hw) T177 ?_
  refine mr_iload_n (pc := 12) (z := 2) dX12_open_12 rfl rfl ?_
  refine mr_iload_n (pc := 13) (z := p1) dX12_open_13 rfl rfl ?_
  refine sv_aload_n (pc := 14) dX12_open_14 rfl rfl ?_
  refine gf_X12_121 (pc := 15) dX12_open_15 wF_X12_523 (A_106 hw) T177 ?_
  refine mr_iload_n (pc := 18) (z := 2) dX12_open_18 rfl rfl ?_
  refine lk_187 (pc := 19) dX12_open_19 (A_187 hw) (rIx (n := 8) (rR (x := 2)) rfl) (u176.f (Or.inl (mAt.ne (A_188 hw) (A_187 hw) rfl)) q_f_w2) ?_
  refine mr_idiv (pc := 20) (x := p1) (y := f_w2) dX12_open_20 (rW (c := 0) (d := 2147483647) hp1 rfl) (vc_X12_open_8 hq1 h2) ?_
  refine mr_gen (P := fun z => 0 ≤ z ∧ z ≤ 46655) (rDivV hp1 (vc_X12_open_8 hq1 h2) rfl) fun z178 q179 h180 => ?_
  refine sv_aload_n (pc := 21) dX12_open_21 rfl rfl ?_
  refine gf_X12_118 (pc := 22) dX12_open_22 wF_X12_514 (A_106 hw) T177 ?_
  refine mr_iload_n (pc := 25) (z := 2) dX12_open_25 rfl rfl ?_
  refine lk_184 (pc := 26) dX12_open_26 (A_184 hw) (rIx (n := 7) (rR (x := 2)) rfl) (u176.f (Or.inl (mAt.ne (A_188 hw) (A_184 hw) rfl)) q_f_v2) ?_
  refine mr_iconst (pc := 27) (z := 1) dX12_open_27 ?_
  refine mr_iadd (pc := 28) (x := f_v2) (y := 1) dX12_open_28 ?_
  refine mr_irem (pc := 29) (x := z178) (y := (f_v2 + 1)) dX12_open_29 (rW (c := 0) (d := 2147483647) h180 rfl) (vc_X12_open_9 ht_f_v2) ?_
  refine mr_gen (P := fun z => 0 ≤ z ∧ z ≤ 5) (rModV (rAdd (e := 1) (f := 6) ht_f_v2 (rR (x := 1)) rfl) (vc_X12_open_9 ht_f_v2) rfl) fun z181 q182 h183 => ?_
  refine ss_188 (pc := 30) dX12_open_30 (A_188 hw) T177 (rIx (n := 7) (rR (x := 2)) rfl) h183 fun μ184 u185 T186 => ?_
  refine mr_iinc (pc := 31) (lv' := [(2, iv 3), (0, .ref 106), (1, iv p1)]) dX12_open_31 rfl (by decide) rfl ?_
  refine sv_goto (pc := 34) (tgt := 2) dX12_open_34 (by decide) ?_
  refine mr_iload_n (pc := 2) (z := 3) dX12_open_2 rfl rfl ?_
  refine mr_bipush (pc := 3) (z := 6) dX12_open_3 (by decide) ?_
  refine mr_icmp_gt (pc := 5) (tgt := 37) dX12_open_5 (by decide) (r32 (rR (x := 3)) rfl) (r32 (rR (x := 6)) rfl) (fun h => ((vc_X12_open_13 h)).elim) (fun _ => ?_)
  refine sv_aload_n (pc := 8) dX12_open_8 rfl rfl ?_
  refine gf_X12_122 (pc := 9) dX12_open_9 wF_X12_526 (A_106 hw) T186 ?_
  refine mr_iload_n (pc := 12) (z := 3) dX12_open_12 rfl rfl ?_
  refine mr_iload_n (pc := 13) (z := p1) dX12_open_13 rfl rfl ?_
  refine sv_aload_n (pc := 14) dX12_open_14 rfl rfl ?_
  refine gf_X12_121 (pc := 15) dX12_open_15 wF_X12_523 (A_106 hw) T186 ?_
  refine mr_iload_n (pc := 18) (z := 3) dX12_open_18 rfl rfl ?_
  refine lk_187 (pc := 19) dX12_open_19 (A_187 hw) (rIx (n := 8) (rR (x := 3)) rfl) (u185.f (Or.inl (mAt.ne (A_188 hw) (A_187 hw) rfl)) (u176.f (Or.inl (mAt.ne (A_188 hw) (A_187 hw) rfl)) q_f_w3)) ?_
  refine mr_idiv (pc := 20) (x := p1) (y := f_w3) dX12_open_20 (rW (c := 0) (d := 2147483647) hp1 rfl) (vc_X12_open_8 hq2 h3) ?_
  refine mr_gen (P := fun z => 0 ≤ z ∧ z ≤ 46655) (rDivV hp1 (vc_X12_open_8 hq2 h3) rfl) fun z187 q188 h189 => ?_
  refine sv_aload_n (pc := 21) dX12_open_21 rfl rfl ?_
  refine gf_X12_118 (pc := 22) dX12_open_22 wF_X12_514 (A_106 hw) T186 ?_
  refine mr_iload_n (pc := 25) (z := 3) dX12_open_25 rfl rfl ?_
  refine lk_184 (pc := 26) dX12_open_26 (A_184 hw) (rIx (n := 7) (rR (x := 3)) rfl) (u185.f (Or.inl (mAt.ne (A_188 hw) (A_184 hw) rfl)) (u176.f (Or.inl (mAt.ne (A_188 hw) (A_184 hw) rfl)) q_f_v3)) ?_
  refine mr_iconst (pc := 27) (z := 1) dX12_open_27 ?_
  refine mr_iadd (pc := 28) (x := f_v3) (y := 1) dX12_open_28 ?_
  refine mr_irem (pc := 29) (x := z187) (y := (f_v3 + 1)) dX12_open_29 (rW (c := 0) (d := 2147483647) h189 rfl) (vc_X12_open_9 ht_f_v3) ?_
  refine mr_gen (P := fun z => 0 ≤ z ∧ z ≤ 5) (rModV (rAdd (e := 1) (f := 6) ht_f_v3 (rR (x := 1)) rfl) (vc_X12_open_9 ht_f_v3) rfl) fun z190 q191 h192 => ?_
  refine ss_188 (pc := 30) dX12_open_30 (A_188 hw) T186 (rIx (n := 7) (rR (x := 3)) rfl) h192 fun μ193 u194 T195 => ?_
  refine mr_iinc (pc := 31) (lv' := [(2, iv 4), (0, .ref 106), (1, iv p1)]) dX12_open_31 rfl (by decide) rfl ?_
  refine sv_goto (pc := 34) (tgt := 2) dX12_open_34 (by decide) ?_
  refine mr_iload_n (pc := 2) (z := 4) dX12_open_2 rfl rfl ?_
  refine mr_bipush (pc := 3) (z := 6) dX12_open_3 (by decide) ?_
  refine mr_icmp_gt (pc := 5) (tgt := 37) dX12_open_5 (by decide) (r32 (rR (x := 4)) rfl) (r32 (rR (x := 6)) rfl) (fun h => ((vc_X12_open_16 h)).elim) (fun _ => ?_)
  refine sv_aload_n (pc := 8) dX12_open_8 rfl rfl ?_
  refine gf_X12_122 (pc := 9) dX12_open_9 wF_X12_526 (A_106 hw) T195 ?_
  refine mr_iload_n (pc := 12) (z := 4) dX12_open_12 rfl rfl ?_
  refine mr_iload_n (pc := 13) (z := p1) dX12_open_13 rfl rfl ?_
  refine sv_aload_n (pc := 14) dX12_open_14 rfl rfl ?_
  refine gf_X12_121 (pc := 15) dX12_open_15 wF_X12_523 (A_106 hw) T195 ?_
  refine mr_iload_n (pc := 18) (z := 4) dX12_open_18 rfl rfl ?_
  refine lk_187 (pc := 19) dX12_open_19 (A_187 hw) (rIx (n := 8) (rR (x := 4)) rfl) (u194.f (Or.inl (mAt.ne (A_188 hw) (A_187 hw) rfl)) (u185.f (Or.inl (mAt.ne (A_188 hw) (A_187 hw) rfl)) (u176.f (Or.inl (mAt.ne (A_188 hw) (A_187 hw) rfl)) q_f_w4))) ?_
  refine mr_idiv (pc := 20) (x := p1) (y := f_w4) dX12_open_20 (rW (c := 0) (d := 2147483647) hp1 rfl) (vc_X12_open_8 hq3 h4) ?_
  refine mr_gen (P := fun z => 0 ≤ z ∧ z ≤ 46655) (rDivV hp1 (vc_X12_open_8 hq3 h4) rfl) fun z196 q197 h198 => ?_
  refine sv_aload_n (pc := 21) dX12_open_21 rfl rfl ?_
  refine gf_X12_118 (pc := 22) dX12_open_22 wF_X12_514 (A_106 hw) T195 ?_
  refine mr_iload_n (pc := 25) (z := 4) dX12_open_25 rfl rfl ?_
  refine lk_184 (pc := 26) dX12_open_26 (A_184 hw) (rIx (n := 7) (rR (x := 4)) rfl) (u194.f (Or.inl (mAt.ne (A_188 hw) (A_184 hw) rfl)) (u185.f (Or.inl (mAt.ne (A_188 hw) (A_184 hw) rfl)) (u176.f (Or.inl (mAt.ne (A_188 hw) (A_184 hw) rfl)) q_f_v4))) ?_
  refine mr_iconst (pc := 27) (z := 1) dX12_open_27 ?_
  refine mr_iadd (pc := 28) (x := f_v4) (y := 1) dX12_open_28 ?_
  refine mr_irem (pc := 29) (x := z196) (y := (f_v4 + 1)) dX12_open_29 (rW (c := 0) (d := 2147483647) h198 rfl) (vc_X12_open_9 ht_f_v4) ?_
  refine mr_gen (P := fun z => 0 ≤ z ∧ z ≤ 5) (rModV (rAdd (e := 1) (f := 6) ht_f_v4 (rR (x := 1)) rfl) (vc_X12_open_9 ht_f_v4) rfl) fun z199 q200 h201 => ?_
  refine ss_188 (pc := 30) dX12_open_30 (A_188 hw) T195 (rIx (n := 7) (rR (x := 4)) rfl) h201 fun μ202 u203 T204 => ?_
  refine mr_iinc (pc := 31) (lv' := [(2, iv 5), (0, .ref 106), (1, iv p1)]) dX12_open_31 rfl (by decide) rfl ?_
  refine sv_goto (pc := 34) (tgt := 2) dX12_open_34 (by decide) ?_
  refine mr_iload_n (pc := 2) (z := 5) dX12_open_2 rfl rfl ?_
  refine mr_bipush (pc := 3) (z := 6) dX12_open_3 (by decide) ?_
  refine mr_icmp_gt (pc := 5) (tgt := 37) dX12_open_5 (by decide) (r32 (rR (x := 5)) rfl) (r32 (rR (x := 6)) rfl) (fun h => ((vc_X12_open_19 h)).elim) (fun _ => ?_)
  refine sv_aload_n (pc := 8) dX12_open_8 rfl rfl ?_
  refine gf_X12_122 (pc := 9) dX12_open_9 wF_X12_526 (A_106 hw) T204 ?_
  refine mr_iload_n (pc := 12) (z := 5) dX12_open_12 rfl rfl ?_
  refine mr_iload_n (pc := 13) (z := p1) dX12_open_13 rfl rfl ?_
  refine sv_aload_n (pc := 14) dX12_open_14 rfl rfl ?_
  refine gf_X12_121 (pc := 15) dX12_open_15 wF_X12_523 (A_106 hw) T204 ?_
  refine mr_iload_n (pc := 18) (z := 5) dX12_open_18 rfl rfl ?_
  refine lk_187 (pc := 19) dX12_open_19 (A_187 hw) (rIx (n := 8) (rR (x := 5)) rfl) (u203.f (Or.inl (mAt.ne (A_188 hw) (A_187 hw) rfl)) (u194.f (Or.inl (mAt.ne (A_188 hw) (A_187 hw) rfl)) (u185.f (Or.inl (mAt.ne (A_188 hw) (A_187 hw) rfl)) (u176.f (Or.inl (mAt.ne (A_188 hw) (A_187 hw) rfl)) q_f_w5)))) ?_
  refine mr_idiv (pc := 20) (x := p1) (y := f_w5) dX12_open_20 (rW (c := 0) (d := 2147483647) hp1 rfl) (vc_X12_open_8 hq4 h5) ?_
  refine mr_gen (P := fun z => 0 ≤ z ∧ z ≤ 46655) (rDivV hp1 (vc_X12_open_8 hq4 h5) rfl) fun z205 q206 h207 => ?_
  refine sv_aload_n (pc := 21) dX12_open_21 rfl rfl ?_
  refine gf_X12_118 (pc := 22) dX12_open_22 wF_X12_514 (A_106 hw) T204 ?_
  refine mr_iload_n (pc := 25) (z := 5) dX12_open_25 rfl rfl ?_
  refine lk_184 (pc := 26) dX12_open_26 (A_184 hw) (rIx (n := 7) (rR (x := 5)) rfl) (u203.f (Or.inl (mAt.ne (A_188 hw) (A_184 hw) rfl)) (u194.f (Or.inl (mAt.ne (A_188 hw) (A_184 hw) rfl)) (u185.f (Or.inl (mAt.ne (A_188 hw) (A_184 hw) rfl)) (u176.f (Or.inl (mAt.ne (A_188 hw) (A_184 hw) rfl)) q_f_v5)))) ?_
  refine mr_iconst (pc := 27) (z := 1) dX12_open_27 ?_
  refine mr_iadd (pc := 28) (x := f_v5) (y := 1) dX12_open_28 ?_
  refine mr_irem (pc := 29) (x := z205) (y := (f_v5 + 1)) dX12_open_29 (rW (c := 0) (d := 2147483647) h207 rfl) (vc_X12_open_9 ht_f_v5) ?_
  refine mr_gen (P := fun z => 0 ≤ z ∧ z ≤ 5) (rModV (rAdd (e := 1) (f := 6) ht_f_v5 (rR (x := 1)) rfl) (vc_X12_open_9 ht_f_v5) rfl) fun z208 q209 h210 => ?_
  refine ss_188 (pc := 30) dX12_open_30 (A_188 hw) T204 (rIx (n := 7) (rR (x := 5)) rfl) h210 fun μ211 u212 T213 => ?_
  refine mr_iinc (pc := 31) (lv' := [(2, iv 6), (0, .ref 106), (1, iv p1)]) dX12_open_31 rfl (by decide) rfl ?_
  refine sv_goto (pc := 34) (tgt := 2) dX12_open_34 (by decide) ?_
  refine mr_iload_n (pc := 2) (z := 6) dX12_open_2 rfl rfl ?_
  refine mr_bipush (pc := 3) (z := 6) dX12_open_3 (by decide) ?_
  refine mr_icmp_gt (pc := 5) (tgt := 37) dX12_open_5 (by decide) (r32 (rR (x := 6)) rfl) (r32 (rR (x := 6)) rfl) (fun h => ((vc_X12_open_22 h)).elim) (fun _ => ?_)
  refine sv_aload_n (pc := 8) dX12_open_8 rfl rfl ?_
  refine gf_X12_122 (pc := 9) dX12_open_9 wF_X12_526 (A_106 hw) T213 ?_
  refine mr_iload_n (pc := 12) (z := 6) dX12_open_12 rfl rfl ?_
  refine mr_iload_n (pc := 13) (z := p1) dX12_open_13 rfl rfl ?_
  refine sv_aload_n (pc := 14) dX12_open_14 rfl rfl ?_
  refine gf_X12_121 (pc := 15) dX12_open_15 wF_X12_523 (A_106 hw) T213 ?_
  refine mr_iload_n (pc := 18) (z := 6) dX12_open_18 rfl rfl ?_
  refine lk_187 (pc := 19) dX12_open_19 (A_187 hw) (rIx (n := 8) (rR (x := 6)) rfl) (u212.f (Or.inl (mAt.ne (A_188 hw) (A_187 hw) rfl)) (u203.f (Or.inl (mAt.ne (A_188 hw) (A_187 hw) rfl)) (u194.f (Or.inl (mAt.ne (A_188 hw) (A_187 hw) rfl)) (u185.f (Or.inl (mAt.ne (A_188 hw) (A_187 hw) rfl)) (u176.f (Or.inl (mAt.ne (A_188 hw) (A_187 hw) rfl)) q_f_w6))))) ?_
  refine mr_idiv (pc := 20) (x := p1) (y := f_w6) dX12_open_20 (rW (c := 0) (d := 2147483647) hp1 rfl) (vc_X12_open_8 hq5 h6) ?_
  refine mr_gen (P := fun z => 0 ≤ z ∧ z ≤ 46655) (rDivV hp1 (vc_X12_open_8 hq5 h6) rfl) fun z214 q215 h216 => ?_
  refine sv_aload_n (pc := 21) dX12_open_21 rfl rfl ?_
  refine gf_X12_118 (pc := 22) dX12_open_22 wF_X12_514 (A_106 hw) T213 ?_
  refine mr_iload_n (pc := 25) (z := 6) dX12_open_25 rfl rfl ?_
  refine lk_184 (pc := 26) dX12_open_26 (A_184 hw) (rIx (n := 7) (rR (x := 6)) rfl) (u212.f (Or.inl (mAt.ne (A_188 hw) (A_184 hw) rfl)) (u203.f (Or.inl (mAt.ne (A_188 hw) (A_184 hw) rfl)) (u194.f (Or.inl (mAt.ne (A_188 hw) (A_184 hw) rfl)) (u185.f (Or.inl (mAt.ne (A_188 hw) (A_184 hw) rfl)) (u176.f (Or.inl (mAt.ne (A_188 hw) (A_184 hw) rfl)) q_f_v6))))) ?_
  refine mr_iconst (pc := 27) (z := 1) dX12_open_27 ?_
  refine mr_iadd (pc := 28) (x := f_v6) (y := 1) dX12_open_28 ?_
  refine mr_irem (pc := 29) (x := z214) (y := (f_v6 + 1)) dX12_open_29 (rW (c := 0) (d := 2147483647) h216 rfl) (vc_X12_open_9 ht_f_v6) ?_
  refine mr_gen (P := fun z => 0 ≤ z ∧ z ≤ 5) (rModV (rAdd (e := 1) (f := 6) ht_f_v6 (rR (x := 1)) rfl) (vc_X12_open_9 ht_f_v6) rfl) fun z217 q218 h219 => ?_
  refine ss_188 (pc := 30) dX12_open_30 (A_188 hw) T213 (rIx (n := 7) (rR (x := 6)) rfl) h219 fun μ220 u221 T222 => ?_
  refine mr_iinc (pc := 31) (lv' := [(2, iv 7), (0, .ref 106), (1, iv p1)]) dX12_open_31 rfl (by decide) rfl ?_
  refine sv_goto (pc := 34) (tgt := 2) dX12_open_34 (by decide) ?_
  refine mr_iload_n (pc := 2) (z := 7) dX12_open_2 rfl rfl ?_
  refine mr_bipush (pc := 3) (z := 6) dX12_open_3 (by decide) ?_
  refine mr_icmp_gt (pc := 5) (tgt := 37) dX12_open_5 (by decide) (r32 (rR (x := 7)) rfl) (r32 (rR (x := 6)) rfl) (fun _ => ?_) (fun h => ((vc_X12_open_25 h)).elim)
  exact mr_vret dX12_open_37 rfl (le_t rfl) (le_t rfl) T222 (mF.up (mF.up (mF.up (mF.up (mF.up (mF.up mF.refl (A_188 hw) u176 rfl) (A_188 hw) u185 rfl) (A_188 hw) u194 rfl) (A_188 hw) u203 rfl) (A_188 hw) u212 rfl) (A_188 hw) u221 rfl) ⟨z172, z181, z190, z199, z208, z217, (u221.f (Or.inr vc_X12_open_30) (u212.f (Or.inr vc_X12_open_29) (u203.f (Or.inr vc_X12_open_28) (u194.f (Or.inr vc_X12_open_27) (u185.f (Or.inr vc_X12_open_26) u176.1))))), (u221.f (Or.inr vc_X12_open_34) (u212.f (Or.inr vc_X12_open_33) (u203.f (Or.inr vc_X12_open_32) (u194.f (Or.inr vc_X12_open_31) u185.1)))), (u221.f (Or.inr vc_X12_open_37) (u212.f (Or.inr vc_X12_open_36) (u203.f (Or.inr vc_X12_open_35) u194.1))), (u221.f (Or.inr vc_X12_open_39) (u212.f (Or.inr vc_X12_open_38) u203.1)), (u221.f (Or.inr vc_X12_open_40) u212.1), u221.1, (vc_X12_open_41 (q173 ▸ Int.emod_lt_of_pos z169 (vc_X12_open_9 ht_f_v1).1) ht_f_v1 h174), (vc_X12_open_41 (q182 ▸ Int.emod_lt_of_pos z178 (vc_X12_open_9 ht_f_v2).1) ht_f_v2 h183), (vc_X12_open_41 (q191 ▸ Int.emod_lt_of_pos z187 (vc_X12_open_9 ht_f_v3).1) ht_f_v3 h192), (vc_X12_open_41 (q200 ▸ Int.emod_lt_of_pos z196 (vc_X12_open_9 ht_f_v4).1) ht_f_v4 h201), (vc_X12_open_41 (q209 ▸ Int.emod_lt_of_pos z205 (vc_X12_open_9 ht_f_v5).1) ht_f_v5 h210), (vc_X12_open_41 (q218 ▸ Int.emod_lt_of_pos z214 (vc_X12_open_9 ht_f_v6).1) ht_f_v6 h219), ⟨dig.mk (u221.f (Or.inr vc_X12_open_30) (u212.f (Or.inr vc_X12_open_29) (u203.f (Or.inr vc_X12_open_28) (u194.f (Or.inr vc_X12_open_27) (u185.f (Or.inr vc_X12_open_26) u176.1))))) (u221.f (Or.inl (mAt.ne (A_188 hw) (A_187 hw) rfl)) (u212.f (Or.inl (mAt.ne (A_188 hw) (A_187 hw) rfl)) (u203.f (Or.inl (mAt.ne (A_188 hw) (A_187 hw) rfl)) (u194.f (Or.inl (mAt.ne (A_188 hw) (A_187 hw) rfl)) (u185.f (Or.inl (mAt.ne (A_188 hw) (A_187 hw) rfl)) (u176.f (Or.inl (mAt.ne (A_188 hw) (A_187 hw) rfl)) q_f_w1)))))) (u221.f (Or.inl (mAt.ne (A_188 hw) (A_184 hw) rfl)) (u212.f (Or.inl (mAt.ne (A_188 hw) (A_184 hw) rfl)) (u203.f (Or.inl (mAt.ne (A_188 hw) (A_184 hw) rfl)) (u194.f (Or.inl (mAt.ne (A_188 hw) (A_184 hw) rfl)) (u185.f (Or.inl (mAt.ne (A_188 hw) (A_184 hw) rfl)) (u176.f (Or.inl (mAt.ne (A_188 hw) (A_184 hw) rfl)) q_f_v1)))))) q170 q173, dig.mk (u221.f (Or.inr vc_X12_open_34) (u212.f (Or.inr vc_X12_open_33) (u203.f (Or.inr vc_X12_open_32) (u194.f (Or.inr vc_X12_open_31) u185.1)))) (u221.f (Or.inl (mAt.ne (A_188 hw) (A_187 hw) rfl)) (u212.f (Or.inl (mAt.ne (A_188 hw) (A_187 hw) rfl)) (u203.f (Or.inl (mAt.ne (A_188 hw) (A_187 hw) rfl)) (u194.f (Or.inl (mAt.ne (A_188 hw) (A_187 hw) rfl)) (u185.f (Or.inl (mAt.ne (A_188 hw) (A_187 hw) rfl)) (u176.f (Or.inl (mAt.ne (A_188 hw) (A_187 hw) rfl)) q_f_w2)))))) (u221.f (Or.inl (mAt.ne (A_188 hw) (A_184 hw) rfl)) (u212.f (Or.inl (mAt.ne (A_188 hw) (A_184 hw) rfl)) (u203.f (Or.inl (mAt.ne (A_188 hw) (A_184 hw) rfl)) (u194.f (Or.inl (mAt.ne (A_188 hw) (A_184 hw) rfl)) (u185.f (Or.inl (mAt.ne (A_188 hw) (A_184 hw) rfl)) (u176.f (Or.inl (mAt.ne (A_188 hw) (A_184 hw) rfl)) q_f_v2)))))) q179 q182, dig.mk (u221.f (Or.inr vc_X12_open_37) (u212.f (Or.inr vc_X12_open_36) (u203.f (Or.inr vc_X12_open_35) u194.1))) (u221.f (Or.inl (mAt.ne (A_188 hw) (A_187 hw) rfl)) (u212.f (Or.inl (mAt.ne (A_188 hw) (A_187 hw) rfl)) (u203.f (Or.inl (mAt.ne (A_188 hw) (A_187 hw) rfl)) (u194.f (Or.inl (mAt.ne (A_188 hw) (A_187 hw) rfl)) (u185.f (Or.inl (mAt.ne (A_188 hw) (A_187 hw) rfl)) (u176.f (Or.inl (mAt.ne (A_188 hw) (A_187 hw) rfl)) q_f_w3)))))) (u221.f (Or.inl (mAt.ne (A_188 hw) (A_184 hw) rfl)) (u212.f (Or.inl (mAt.ne (A_188 hw) (A_184 hw) rfl)) (u203.f (Or.inl (mAt.ne (A_188 hw) (A_184 hw) rfl)) (u194.f (Or.inl (mAt.ne (A_188 hw) (A_184 hw) rfl)) (u185.f (Or.inl (mAt.ne (A_188 hw) (A_184 hw) rfl)) (u176.f (Or.inl (mAt.ne (A_188 hw) (A_184 hw) rfl)) q_f_v3)))))) q188 q191, dig.mk (u221.f (Or.inr vc_X12_open_39) (u212.f (Or.inr vc_X12_open_38) u203.1)) (u221.f (Or.inl (mAt.ne (A_188 hw) (A_187 hw) rfl)) (u212.f (Or.inl (mAt.ne (A_188 hw) (A_187 hw) rfl)) (u203.f (Or.inl (mAt.ne (A_188 hw) (A_187 hw) rfl)) (u194.f (Or.inl (mAt.ne (A_188 hw) (A_187 hw) rfl)) (u185.f (Or.inl (mAt.ne (A_188 hw) (A_187 hw) rfl)) (u176.f (Or.inl (mAt.ne (A_188 hw) (A_187 hw) rfl)) q_f_w4)))))) (u221.f (Or.inl (mAt.ne (A_188 hw) (A_184 hw) rfl)) (u212.f (Or.inl (mAt.ne (A_188 hw) (A_184 hw) rfl)) (u203.f (Or.inl (mAt.ne (A_188 hw) (A_184 hw) rfl)) (u194.f (Or.inl (mAt.ne (A_188 hw) (A_184 hw) rfl)) (u185.f (Or.inl (mAt.ne (A_188 hw) (A_184 hw) rfl)) (u176.f (Or.inl (mAt.ne (A_188 hw) (A_184 hw) rfl)) q_f_v4)))))) q197 q200, dig.mk (u221.f (Or.inr vc_X12_open_40) u212.1) (u221.f (Or.inl (mAt.ne (A_188 hw) (A_187 hw) rfl)) (u212.f (Or.inl (mAt.ne (A_188 hw) (A_187 hw) rfl)) (u203.f (Or.inl (mAt.ne (A_188 hw) (A_187 hw) rfl)) (u194.f (Or.inl (mAt.ne (A_188 hw) (A_187 hw) rfl)) (u185.f (Or.inl (mAt.ne (A_188 hw) (A_187 hw) rfl)) (u176.f (Or.inl (mAt.ne (A_188 hw) (A_187 hw) rfl)) q_f_w5)))))) (u221.f (Or.inl (mAt.ne (A_188 hw) (A_184 hw) rfl)) (u212.f (Or.inl (mAt.ne (A_188 hw) (A_184 hw) rfl)) (u203.f (Or.inl (mAt.ne (A_188 hw) (A_184 hw) rfl)) (u194.f (Or.inl (mAt.ne (A_188 hw) (A_184 hw) rfl)) (u185.f (Or.inl (mAt.ne (A_188 hw) (A_184 hw) rfl)) (u176.f (Or.inl (mAt.ne (A_188 hw) (A_184 hw) rfl)) q_f_v5)))))) q206 q209, dig.mk u221.1 (u221.f (Or.inl (mAt.ne (A_188 hw) (A_187 hw) rfl)) (u212.f (Or.inl (mAt.ne (A_188 hw) (A_187 hw) rfl)) (u203.f (Or.inl (mAt.ne (A_188 hw) (A_187 hw) rfl)) (u194.f (Or.inl (mAt.ne (A_188 hw) (A_187 hw) rfl)) (u185.f (Or.inl (mAt.ne (A_188 hw) (A_187 hw) rfl)) (u176.f (Or.inl (mAt.ne (A_188 hw) (A_187 hw) rfl)) q_f_w6)))))) (u221.f (Or.inl (mAt.ne (A_188 hw) (A_184 hw) rfl)) (u212.f (Or.inl (mAt.ne (A_188 hw) (A_184 hw) rfl)) (u203.f (Or.inl (mAt.ne (A_188 hw) (A_184 hw) rfl)) (u194.f (Or.inl (mAt.ne (A_188 hw) (A_184 hw) rfl)) (u185.f (Or.inl (mAt.ne (A_188 hw) (A_184 hw) rfl)) (u176.f (Or.inl (mAt.ne (A_188 hw) (A_184 hw) rfl)) q_f_v6)))))) q215 q218⟩, trivial⟩
theorem vc_X12_acted_v_2 {f_vp z141 : Int} (h0 : f_vp ≤ z141) (h1 : 0 ≤ f_vp ∧ f_vp ≤ 5) (h2 : 0 ≤ z141 ∧ z141 ≤ 5) : f_vp ≤ f_vp := by omega
theorem vc_X12_acted_v_14 {f_vp z141 : Int} (h0 : z141 < f_vp) (h1 : 1 ≤ f_vp ∧ f_vp ≤ 5) (h2 : 0 ≤ z141 ∧ z141 ≤ 4) : z141 ≤ f_vp := by omega
set_option maxRecDepth 4000 in
set_option maxHeartbeats 4000000 in
theorem c_X12_acted_v {l : Launch} {D : va_G} {c : Nat → ClassId} {H0 : Heap} {sa : Nat × Nat × (Nat → Int32)} {w : mW} {μ : mM} (hw : mWF w) (hT : mT w μ) {p1 : Int} (hp1 : 1 ≤ p1 ∧ p1 ≤ 6) {f_h1 : Int} (q_f_h1 : μ 188 ((1 : Int).toNat) = f_h1) {f_h2 : Int} (q_f_h2 : μ 188 ((2 : Int).toNat) = f_h2) {f_h3 : Int} (q_f_h3 : μ 188 ((3 : Int).toNat) = f_h3) {f_h4 : Int} (q_f_h4 : μ 188 ((4 : Int).toNat) = f_h4) {f_h5 : Int} (q_f_h5 : μ 188 ((5 : Int).toNat) = f_h5) {f_h6 : Int} (q_f_h6 : μ 188 ((6 : Int).toNat) = f_h6) {f_v1 : Int} (q_f_v1 : μ 184 ((1 : Int).toNat) = f_v1) {f_v2 : Int} (q_f_v2 : μ 184 ((2 : Int).toNat) = f_v2) {f_v3 : Int} (q_f_v3 : μ 184 ((3 : Int).toNat) = f_v3) {f_v4 : Int} (q_f_v4 : μ 184 ((4 : Int).toNat) = f_v4) {f_v5 : Int} (q_f_v5 : μ 184 ((5 : Int).toNat) = f_v5) {f_v6 : Int} (q_f_v6 : μ 184 ((6 : Int).toNat) = f_v6) {f_vp : Int} (q_f_vp : μ 184 (p1.toNat) = f_vp) (hq0 : f_h1 ≤ f_v1) (hq1 : f_h2 ≤ f_v2) (hq2 : f_h3 ≤ f_v3) (hq3 : f_h4 ≤ f_v4) (hq4 : f_h5 ≤ f_v5) (hq5 : f_h6 ≤ f_v6) : sC (gG l D c H0 sa) mX12_acted 2 0 0 [.ref 106, iv p1] (mk w μ) (qP w μ (fun z => (0 ≤ z ∧ z ≤ 5) ∧ (z ≤ f_vp) ∧ True)) := by
  refine sC.of rfl (by decide) (le_t rfl) ?_
  have ht_f_h1 : (0 ≤ f_h1 ∧ f_h1 ≤ 5) := by rw [← q_f_h1]; exact hT 188 188 (A_188 hw) ((1 : Int).toNat)
  have ht_f_h2 : (0 ≤ f_h2 ∧ f_h2 ≤ 5) := by rw [← q_f_h2]; exact hT 188 188 (A_188 hw) ((2 : Int).toNat)
  have ht_f_h3 : (0 ≤ f_h3 ∧ f_h3 ≤ 5) := by rw [← q_f_h3]; exact hT 188 188 (A_188 hw) ((3 : Int).toNat)
  have ht_f_h4 : (0 ≤ f_h4 ∧ f_h4 ≤ 5) := by rw [← q_f_h4]; exact hT 188 188 (A_188 hw) ((4 : Int).toNat)
  have ht_f_h5 : (0 ≤ f_h5 ∧ f_h5 ≤ 5) := by rw [← q_f_h5]; exact hT 188 188 (A_188 hw) ((5 : Int).toNat)
  have ht_f_h6 : (0 ≤ f_h6 ∧ f_h6 ≤ 5) := by rw [← q_f_h6]; exact hT 188 188 (A_188 hw) ((6 : Int).toNat)
  have ht_f_v1 : (0 ≤ f_v1 ∧ f_v1 ≤ 5) := by rw [← q_f_v1]; exact hT 184 184 (A_184 hw) ((1 : Int).toNat)
  have ht_f_v2 : (0 ≤ f_v2 ∧ f_v2 ≤ 5) := by rw [← q_f_v2]; exact hT 184 184 (A_184 hw) ((2 : Int).toNat)
  have ht_f_v3 : (0 ≤ f_v3 ∧ f_v3 ≤ 5) := by rw [← q_f_v3]; exact hT 184 184 (A_184 hw) ((3 : Int).toNat)
  have ht_f_v4 : (0 ≤ f_v4 ∧ f_v4 ≤ 5) := by rw [← q_f_v4]; exact hT 184 184 (A_184 hw) ((4 : Int).toNat)
  have ht_f_v5 : (0 ≤ f_v5 ∧ f_v5 ≤ 5) := by rw [← q_f_v5]; exact hT 184 184 (A_184 hw) ((5 : Int).toNat)
  have ht_f_v6 : (0 ≤ f_v6 ∧ f_v6 ≤ 5) := by rw [← q_f_v6]; exact hT 184 184 (A_184 hw) ((6 : Int).toNat)
  have ht_f_vp : (0 ≤ f_vp ∧ f_vp ≤ 5) := by rw [← q_f_vp]; exact hT 184 184 (A_184 hw) (p1.toNat)
  refine mr_lvE (lv' := [(0, .ref 106), (1, iv p1)]) rfl ?_
  refine mr_iconst (pc := 0) (z := 0) dX12_acted_0 ?_
  refine mr_istore_n (pc := 1) (lv' := [(2, iv 0), (0, .ref 106), (1, iv p1)]) dX12_acted_1 rfl (by decide) rfl ?_
  have L142 : ∀ (nL142 : Nat) (z141 : Int), True → (0 ≤ z141 ∧ z141 ≤ 5) → (6 - z141) < (nL142 : Int) → sV (gG l D c H0 sa) mX12_acted (sRm 2 0 0) (sZ (gG l D c H0 sa) 0 0 (qP w μ (fun z => (0 ≤ z ∧ z ≤ 5) ∧ (z ≤ f_vp) ∧ True))) 2 [(0, .ref 106), (1, iv p1), (2, iv z141)] [] (mk w μ) 0 0 := by
    intro nL142
    induction nL142 with
    | zero => intro z141 _ h143 h147; exact ((vc_X12_acted_1 h147 h143)).elim
    | succ nL142 ih148 =>
      intro z141 _ h143 h147
      refine mr_iload_n (pc := 2) (z := z141) dX12_acted_2 rfl rfl ?_
      refine sv_aload_n (pc := 3) dX12_acted_3 rfl rfl ?_
      refine gf_X12_118 (pc := 4) dX12_acted_4 wF_X12_514 (A_106 hw) hT ?_
      refine mr_iload_n (pc := 7) (z := p1) dX12_acted_7 rfl rfl ?_
      refine lk_184 (pc := 8) dX12_acted_8 (A_184 hw) (rIx (n := 7) hp1 rfl) q_f_vp ?_
      refine mr_icmp_ge (pc := 9) (tgt := 32) dX12_acted_9 (by decide) (r32 h143 rfl) (r32 ht_f_vp rfl) (fun h149 => ?_) (fun h149 => ?_)
      · refine sv_aload_n (pc := 32) dX12_acted_32 rfl rfl ?_
        refine gf_X12_118 (pc := 33) dX12_acted_33 wF_X12_514 (A_106 hw) hT ?_
        refine mr_iload_n (pc := 36) (z := p1) dX12_acted_36 rfl rfl ?_
        refine lk_184 (pc := 37) dX12_acted_37 (A_184 hw) (rIx (n := 7) hp1 rfl) q_f_vp ?_
        exact mr_iretP dX12_acted_38 rfl (le_t rfl) (le_t rfl) ⟨ht_f_vp, (vc_X12_acted_v_2 h149 ht_f_vp h143), trivial⟩
      have h150 : 0 ≤ z141 ∧ z141 ≤ 4 := (vc_X4_actOf_2 h149 ht_f_vp h143)
      have h151 : 1 ≤ f_vp ∧ f_vp ≤ 5 := (vc_X4_actOf_3 h149 ht_f_vp h150)
      refine sv_aload_n (pc := 12) dX12_acted_12 rfl rfl ?_
      refine mr_iconst (pc := 13) (z := 5) dX12_acted_13 ?_
      refine mr_iload_n (pc := 14) (z := p1) dX12_acted_14 rfl rfl ?_
      refine mr_imul (pc := 15) (x := 5) (y := p1) dX12_acted_15 ?_
      refine mr_iload_n (pc := 16) (z := z141) dX12_acted_16 rfl rfl ?_
      refine mr_iadd (pc := 17) (x := (5 * p1)) (y := z141) dX12_acted_17 ?_
      refine mr_cVP (pc := 18) (c_X12_isOffered hw hT (rAdd (e := 5) (f := 34) (rMulL (n := 5) (e := 5) (f := 30) hp1 rfl) h150 rfl) q_f_h1 q_f_h2 q_f_h3 q_f_h4 q_f_h5 q_f_h6 q_f_v1 q_f_v2 q_f_v3 q_f_v4 q_f_v5 q_f_v6 (vc_X12_acted_4 hq0 ht_f_h1 ht_f_v1) (vc_X12_acted_4 hq1 ht_f_h2 ht_f_v2) (vc_X12_acted_4 hq2 ht_f_h3 ht_f_v3) (vc_X12_acted_4 hq3 ht_f_h4 ht_f_v4) (vc_X12_acted_4 hq4 ht_f_h5 ht_f_v5) (vc_X12_acted_4 hq5 ht_f_h6 ht_f_v6)) (gOk _ _ _ _ _) dX12_acted_18 (tX12_isOffered _ _ _ _ _) ⟨wV_X12_isOffered, wL_X12_isOffered⟩ wM_X12_719 (gCX12 _ _ _ _ _) rfl (A_106 hw) rfl ⟨le_t rfl, le_t rfl⟩ ⟨le_t rfl, le_t rfl⟩ rfl (le_t rfl) fun z156 h155 => ?_
      refine mr_if_eq (pc := 21) (tgt := 26) dX12_acted_21 (by decide) (r32 h155.1 rfl) (fun h157 => ?_) (fun h157 => ?_)
      · have h158 : 0 ≤ z156 ∧ z156 ≤ 0 := (vc_X12_ring_22 h157 h155.1)
        refine mr_iinc (pc := 26) (lv' := [(2, iv (z141 + 1)), (0, .ref 106), (1, iv p1)]) dX12_acted_26 rfl (by decide) rfl ?_
        refine sv_goto (pc := 29) (tgt := 2) dX12_acted_29 (by decide) ?_
        refine mr_lvS (lv' := [(0, .ref 106), (1, iv p1), (2, iv (z141 + 1))]) (List.forall_mem_cons.mpr ⟨rfl, List.forall_mem_cons.mpr ⟨rfl, List.forall_mem_cons.mpr ⟨rfl, fun _ h => absurd h List.not_mem_nil⟩⟩⟩) ?_
        exact ih148 (z141 + 1) trivial (rW (c := 0) (d := 5) (rAdd (e := 1) (f := 5) h150 (rR (x := 1)) rfl) rfl) (vc_X4_actOf_6 (nS h147) h149 h151 h150)
      have h159 : 1 ≤ z156 ∧ z156 ≤ 1 := (vc_X12_ring_24 h157 h155.1)
      refine mr_iload_n (pc := 24) (z := z141) dX12_acted_24 rfl rfl ?_
      exact mr_iretP dX12_acted_25 rfl (le_t rfl) (le_t rfl) ⟨(rW (c := 0) (d := 5) h150 rfl), (vc_X12_acted_v_14 h149 h151 h150), trivial⟩
  refine mr_lvS (lv' := [(0, .ref 106), (1, iv p1), (2, iv 0)]) (List.forall_mem_cons.mpr ⟨rfl, List.forall_mem_cons.mpr ⟨rfl, List.forall_mem_cons.mpr ⟨rfl, fun _ h => absurd h List.not_mem_nil⟩⟩⟩) ?_
  exact L142 7 0 trivial (rW (c := 0) (d := 5) (rR (x := 0)) rfl) vc_X12_acted_13
theorem vc_X12_tries_1 {p1 z5 : Int} (h0 : ¬ z5 = 0) (h1 : (z5 = 1 → (0 : Int) ≤ p1 ∧ p1 ≤ (3 : Int))) (h2 : (z5 = 0 → p1 < (0 : Int) ∨ (3 : Int) < p1)) (h3 : (-2147483648) ≤ p1 ∧ p1 ≤ 2147483647) (h4 : 0 ≤ z5 ∧ z5 ≤ 1) : 1 ≤ z5 ∧ z5 ≤ 1 := by omega
theorem vc_X12_tries_2 {p1 z5 : Int} (h0 : (z5 = 1 → (0 : Int) ≤ p1 ∧ p1 ≤ (3 : Int))) (h1 : (z5 = 0 → p1 < (0 : Int) ∨ (3 : Int) < p1)) (h2 : ¬ z5 = 0) (h3 : (-2147483648) ≤ p1 ∧ p1 ≤ 2147483647) (h4 : 1 ≤ z5 ∧ z5 ≤ 1) : z5 = 1 := by omega
theorem vc_X12_tries_3 {p1 z5 : Int} (h0 : (0 : Int) ≤ p1 ∧ p1 ≤ (3 : Int)) (h1 : (z5 = 1 → (0 : Int) ≤ p1 ∧ p1 ≤ (3 : Int))) (h2 : (z5 = 0 → p1 < (0 : Int) ∨ (3 : Int) < p1)) (h3 : (-2147483648) ≤ p1 ∧ p1 ≤ 2147483647) (h4 : 1 ≤ z5 ∧ z5 ≤ 1) : 0 ≤ p1 ∧ p1 ≤ 3 := by omega
theorem vc_X12_tries_12 {z14 z23952 : Int} (h0 : z14 ≤ z23952) (h1 : 1 ≤ z14 ∧ z14 ≤ 46656) (h2 : 1 ≤ z23952 ∧ z23952 ≤ 46656) : (z14 - 1) = z14 - 1 := by omega
theorem vc_X12_tries_13 {z14 z23952 : Int} (h0 : z14 ≤ z23952) (h1 : 1 ≤ z14 ∧ z14 ≤ 46656) (h2 : 1 ≤ z23952 ∧ z23952 ≤ 46656) : 1 ≤ z14 := by omega
theorem vc_X12_tries_14 {z36173 z36175 z36176 : Int} (h0 : (46657 - z36173) < ((0 : Nat) : Int)) (h1 : z36175 ≤ z36173) (h2 : z36173 ≤ z36176) (h3 : 0 ≤ z36173 ∧ z36173 ≤ 46656) (h4 : 0 ≤ z36175 ∧ z36175 ≤ 46656) (h5 : 1 ≤ z36176 ∧ z36176 ≤ 46656) : False := by omega
theorem vc_X12_tries_15 {z36173 z36175 z36176 : Int} (h0 : z36176 ≤ z36173) (h1 : z36175 ≤ z36173) (h2 : z36173 ≤ z36176) (h3 : 0 ≤ z36173 ∧ z36173 ≤ 46656) (h4 : 0 ≤ z36175 ∧ z36175 ≤ 46656) (h5 : 1 ≤ z36176 ∧ z36176 ≤ 46656) : 1 ≤ z36173 ∧ z36173 ≤ 46656 := by omega
theorem vc_X12_tries_16 {p1 z5 : Int} (h0 : ¬ p1 = 0) (h1 : (z5 = 1 → (0 : Int) ≤ p1 ∧ p1 ≤ (3 : Int))) (h2 : (z5 = 0 → p1 < (0 : Int) ∨ (3 : Int) < p1)) (h3 : (0 : Int) ≤ p1 ∧ p1 ≤ (3 : Int)) (h4 : 0 ≤ p1 ∧ p1 ≤ 3) (h5 : 1 ≤ z5 ∧ z5 ≤ 1) : 1 ≤ p1 ∧ p1 ≤ 3 := by omega
theorem vc_X12_tries_17 {p1 z5 : Int} (h0 : ¬ p1 = 1) (h1 : (z5 = 1 → (0 : Int) ≤ p1 ∧ p1 ≤ (3 : Int))) (h2 : (z5 = 0 → p1 < (0 : Int) ∨ (3 : Int) < p1)) (h3 : (0 : Int) ≤ p1 ∧ p1 ≤ (3 : Int)) (h4 : ¬ p1 = 0) (h5 : 1 ≤ p1 ∧ p1 ≤ 3) (h6 : 1 ≤ z5 ∧ z5 ≤ 1) : 2 ≤ p1 ∧ p1 ≤ 3 := by omega
theorem vc_X12_tries_18 {p1 z5 : Int} (h0 : ¬ p1 = 3) (h1 : (z5 = 1 → (0 : Int) ≤ p1 ∧ p1 ≤ (3 : Int))) (h2 : (z5 = 0 → p1 < (0 : Int) ∨ (3 : Int) < p1)) (h3 : (0 : Int) ≤ p1 ∧ p1 ≤ (3 : Int)) (h4 : ¬ p1 = 0) (h5 : ¬ p1 = 1) (h6 : 2 ≤ p1 ∧ p1 ≤ 3) (h7 : 1 ≤ z5 ∧ z5 ≤ 1) : 2 ≤ p1 ∧ p1 ≤ 2 := by omega
theorem vc_X12_tries_19 {f_k z37188 : Int} (h0 : ((2 * (46656 - f_k)) + z37188) < ((0 : Nat) : Int)) (h1 : 0 ≤ f_k ∧ f_k ≤ 46656) (h2 : 0 ≤ z37188 ∧ z37188 ≤ 1) : False := by omega
theorem vc_X12_tries_22 {z36173 z36176 z37685 : Int} (h0 : z36176 ≤ z37685) (h1 : z36173 ≤ z36176) (h2 : z36176 ≤ z36173) (h3 : 1 ≤ z36173 ∧ z36173 ≤ 46656) (h4 : 1 ≤ z36176 ∧ z36176 ≤ 46656) (h5 : 0 ≤ z37685 ∧ z37685 ≤ 46656) : 1 ≤ z37685 ∧ z37685 ≤ 46656 := by omega
theorem vc_X12_tries_23 {z36173 z36176 z37685 : Int} (h0 : z37685 < z36176) (h1 : z36173 ≤ z36176) (h2 : z36176 ≤ z36173) (h3 : 1 ≤ z36173 ∧ z36173 ≤ 46656) (h4 : 1 ≤ z36176 ∧ z36176 ≤ 46656) (h5 : 0 ≤ z37685 ∧ z37685 ≤ 46656) : 0 ≤ z37685 ∧ z37685 ≤ 46655 := by omega
theorem vc_X12_tries_25 {N z36173 z36176 z37685 : Int} (h0 : (46657 - z37685) < N + 1) (h1 : z37685 < z36176) (h2 : z36173 ≤ z36176) (h3 : z36176 ≤ z36173) (h4 : 1 ≤ z36173 ∧ z36173 ≤ 46656) (h5 : 1 ≤ z36176 ∧ z36176 ≤ 46656) (h6 : 0 ≤ z37685 ∧ z37685 ≤ 46655) : (46657 - (z37685 + 1)) < N := by omega
theorem vc_X12_tries_29 {f_k f_k2 z36173 z36176 z38108 z38109 : Int} (h0 : (z38108 - (-2)) < ((0 : Nat) : Int)) (h1 : 0 ≤ f_k2 ∧ f_k2 ≤ 46656) (h2 : f_k ≤ f_k2) (h3 : z38109 = 0 ∨ f_k + 1 ≤ f_k2) (h4 : z38108 < z36176) (h5 : z36173 ≤ z36176) (h6 : z36176 ≤ z36173) (h7 : 0 ≤ f_k ∧ f_k ≤ 46656) (h8 : 1 ≤ z36173 ∧ z36173 ≤ 46656) (h9 : 1 ≤ z36176 ∧ z36176 ≤ 46656) (h10 : (-1) ≤ z38108 ∧ z38108 ≤ 46655) (h11 : 0 ≤ z38109 ∧ z38109 ≤ 1) : False := by omega
theorem vc_X12_tries_30 {z36176 z38108 : Int} (h0 : z38108 < 0) (h1 : z38108 < z36176) (h2 : 1 ≤ z36176 ∧ z36176 ≤ 46656) (h3 : (-1) ≤ z38108 ∧ z38108 ≤ 46655) : (-1) ≤ z38108 ∧ z38108 ≤ (-1) := by omega
theorem vc_X12_tries_31 {N f_k f_k2 z37188 z38109 : Int} (h0 : ((2 * (46656 - f_k)) + z37188) < N + 1) (h1 : ¬ z37188 = 0) (h2 : f_k ≤ f_k2) (h3 : z38109 = 0 ∨ f_k + 1 ≤ f_k2) (h4 : 0 ≤ f_k ∧ f_k ≤ 46656) (h5 : 0 ≤ f_k2 ∧ f_k2 ≤ 46656) (h6 : 1 ≤ z37188 ∧ z37188 ≤ 1) (h7 : 0 ≤ z38109 ∧ z38109 ≤ 1) : ((2 * (46656 - f_k2)) + z38109) < N := by omega
theorem vc_X12_tries_32 {z36176 z38108 : Int} (h0 : 0 ≤ z38108) (h1 : z38108 < z36176) (h2 : 1 ≤ z36176 ∧ z36176 ≤ 46656) (h3 : (-1) ≤ z38108 ∧ z38108 ≤ 46655) : 0 ≤ z38108 ∧ z38108 ≤ 46655 := by omega
theorem vc_X12_tries_33 {z36173 z36176 z38108 : Int} (h0 : z38108 < z36176) (h1 : 0 ≤ z38108) (h2 : z36173 ≤ z36176) (h3 : z36176 ≤ z36173) (h4 : 1 ≤ z36173 ∧ z36173 ≤ 46656) (h5 : 1 ≤ z36176 ∧ z36176 ≤ 46656) (h6 : 0 ≤ z38108 ∧ z38108 ≤ 46655) : 0 ≤ z38108 := by omega
theorem vc_X12_tries_34 {z36173 z36175 z36176 z38108 : Int} (h0 : z36173 ≤ z36176) (h1 : z36176 ≤ z36173) (h2 : z38108 < z36176) (h3 : 0 ≤ z38108) (h4 : z36175 ≤ z36173) (h5 : 1 ≤ z36173 ∧ z36173 ≤ 46656) (h6 : 0 ≤ z36175 ∧ z36175 ≤ 46656) (h7 : 1 ≤ z36176 ∧ z36176 ≤ 46656) (h8 : 0 ≤ z38108 ∧ z38108 ≤ 46655) : z38108 < z36176 := by omega
theorem vc_X12_tries_42 {f_hs f_k f_k2 f_k3 z38109 z38679 : Int} (h0 : (8 - z38679) < ((0 : Nat) : Int)) (h1 : 0 ≤ f_k3 ∧ f_k3 ≤ 46656) (h2 : f_k3 = f_k2 + f_hs) (h3 : f_k ≤ f_k2) (h4 : z38109 = 0 ∨ f_k + 1 ≤ f_k2) (h5 : 0 ≤ f_k ∧ f_k ≤ 46656) (h6 : 0 ≤ f_k2 ∧ f_k2 ≤ 46656) (h7 : 0 ≤ z38109 ∧ z38109 ≤ 1) (h8 : 1 ≤ z38679 ∧ z38679 ≤ 7) : False := by omega
theorem vc_X12_tries_43 {f_k f_k2 z38109 : Int} (h0 : ¬ z38109 = 0) (h1 : z38109 = 0 ∨ f_k + 1 ≤ f_k2) (h2 : 0 ≤ f_k ∧ f_k ≤ 46656) (h3 : 0 ≤ f_k2 ∧ f_k2 ≤ 46656) (h4 : 0 ≤ z38109 ∧ z38109 ≤ 1) : 1 ≤ z38109 ∧ z38109 ≤ 1 := by omega
theorem vc_X12_tries_44 {f_hs f_k f_k2 f_k3 z38109 : Int} (h0 : f_k ≤ f_k2) (h1 : z38109 = 0 ∨ f_k + 1 ≤ f_k2) (h2 : f_k3 = f_k2 + f_hs) (h3 : ¬ z38109 = 0) (h4 : 0 ≤ f_hs ∧ f_hs ≤ 1) (h5 : 0 ≤ f_k ∧ f_k ≤ 46656) (h6 : 0 ≤ f_k2 ∧ f_k2 ≤ 46656) (h7 : 0 ≤ f_k3 ∧ f_k3 ≤ 46656) (h8 : 1 ≤ z38109 ∧ z38109 ≤ 1) : f_k ≤ f_k3 := by omega
theorem vc_X12_tries_45 {f_hs f_k f_k2 f_k3 z38109 : Int} (h0 : f_k ≤ f_k2) (h1 : z38109 = 0 ∨ f_k + 1 ≤ f_k2) (h2 : f_k3 = f_k2 + f_hs) (h3 : ¬ z38109 = 0) (h4 : 0 ≤ f_hs ∧ f_hs ≤ 1) (h5 : 0 ≤ f_k ∧ f_k ≤ 46656) (h6 : 0 ≤ f_k2 ∧ f_k2 ≤ 46656) (h7 : 0 ≤ f_k3 ∧ f_k3 ≤ 46656) (h8 : 1 ≤ z38109 ∧ z38109 ≤ 1) : (1 : Int) = 0 ∨ f_k + 1 ≤ f_k3 := by omega
theorem vc_X12_tries_46 {z36173 z36175 z36176 z38108 : Int} (h0 : z36173 ≤ z36176) (h1 : z36176 ≤ z36173) (h2 : z38108 < z36176) (h3 : 0 ≤ z38108) (h4 : z36175 ≤ z36173) (h5 : 1 ≤ z36173 ∧ z36173 ≤ 46656) (h6 : 0 ≤ z36175 ∧ z36175 ≤ 46656) (h7 : 1 ≤ z36176 ∧ z36176 ≤ 46656) (h8 : 0 ≤ z38108 ∧ z38108 ≤ 46655) : (z38108 + (-1)) < z36176 := by omega
theorem vc_X12_tries_47 {N z36173 z36176 z38108 : Int} (h0 : (z38108 - (-2)) < N + 1) (h1 : z38108 < z36176) (h2 : 0 ≤ z38108) (h3 : z36173 ≤ z36176) (h4 : z36176 ≤ z36173) (h5 : 1 ≤ z36173 ∧ z36173 ≤ 46656) (h6 : 1 ≤ z36176 ∧ z36176 ≤ 46656) (h7 : 0 ≤ z38108 ∧ z38108 ≤ 46655) : ((z38108 + (-1)) - (-2)) < N := by omega
theorem vc_X12_tries_48 {f_k f_k2 z38109 : Int} (h0 : z38109 = 0) (h1 : z38109 = 0 ∨ f_k + 1 ≤ f_k2) (h2 : 0 ≤ f_k ∧ f_k ≤ 46656) (h3 : 0 ≤ f_k2 ∧ f_k2 ≤ 46656) (h4 : 0 ≤ z38109 ∧ z38109 ≤ 1) : 0 ≤ z38109 ∧ z38109 ≤ 0 := by omega
theorem vc_X12_tries_49 {f_hs f_k2 f_k3 : Int} (h0 : f_hs = 0) (h1 : f_k3 = f_k2 + f_hs) (h2 : 0 ≤ f_hs ∧ f_hs ≤ 1) (h3 : 0 ≤ f_k2 ∧ f_k2 ≤ 46656) (h4 : 0 ≤ f_k3 ∧ f_k3 ≤ 46656) : 0 ≤ f_hs ∧ f_hs ≤ 0 := by omega
theorem vc_X12_tries_50 {f_hs f_k f_k2 f_k3 z38109 : Int} (h0 : f_k ≤ f_k2) (h1 : z38109 = 0 ∨ f_k + 1 ≤ f_k2) (h2 : f_k3 = f_k2 + f_hs) (h3 : z38109 = 0) (h4 : f_hs = 0) (h5 : 0 ≤ f_hs ∧ f_hs ≤ 0) (h6 : 0 ≤ f_k ∧ f_k ≤ 46656) (h7 : 0 ≤ f_k2 ∧ f_k2 ≤ 46656) (h8 : 0 ≤ f_k3 ∧ f_k3 ≤ 46656) (h9 : 0 ≤ z38109 ∧ z38109 ≤ 0) : f_k ≤ f_k3 := by omega
theorem vc_X12_tries_51 {f_hs f_k f_k2 f_k3 z38109 : Int} (h0 : f_k ≤ f_k2) (h1 : z38109 = 0 ∨ f_k + 1 ≤ f_k2) (h2 : f_k3 = f_k2 + f_hs) (h3 : z38109 = 0) (h4 : f_hs = 0) (h5 : 0 ≤ f_hs ∧ f_hs ≤ 0) (h6 : 0 ≤ f_k ∧ f_k ≤ 46656) (h7 : 0 ≤ f_k2 ∧ f_k2 ≤ 46656) (h8 : 0 ≤ f_k3 ∧ f_k3 ≤ 46656) (h9 : 0 ≤ z38109 ∧ z38109 ≤ 0) : (0 : Int) = 0 ∨ f_k + 1 ≤ f_k3 := by omega
theorem vc_X12_tries_52 {f_hs f_k2 f_k3 : Int} (h0 : ¬ f_hs = 0) (h1 : f_k3 = f_k2 + f_hs) (h2 : 0 ≤ f_hs ∧ f_hs ≤ 1) (h3 : 0 ≤ f_k2 ∧ f_k2 ≤ 46656) (h4 : 0 ≤ f_k3 ∧ f_k3 ≤ 46656) : 1 ≤ f_hs ∧ f_hs ≤ 1 := by omega
theorem vc_X12_tries_53 {f_hs f_k f_k2 f_k3 z38109 : Int} (h0 : f_k ≤ f_k2) (h1 : z38109 = 0 ∨ f_k + 1 ≤ f_k2) (h2 : f_k3 = f_k2 + f_hs) (h3 : z38109 = 0) (h4 : ¬ f_hs = 0) (h5 : 1 ≤ f_hs ∧ f_hs ≤ 1) (h6 : 0 ≤ f_k ∧ f_k ≤ 46656) (h7 : 0 ≤ f_k2 ∧ f_k2 ≤ 46656) (h8 : 0 ≤ f_k3 ∧ f_k3 ≤ 46656) (h9 : 0 ≤ z38109 ∧ z38109 ≤ 0) : f_k ≤ f_k3 := by omega
theorem vc_X12_tries_54 {f_hs f_k f_k2 f_k3 z38109 : Int} (h0 : f_k ≤ f_k2) (h1 : z38109 = 0 ∨ f_k + 1 ≤ f_k2) (h2 : f_k3 = f_k2 + f_hs) (h3 : z38109 = 0) (h4 : ¬ f_hs = 0) (h5 : 1 ≤ f_hs ∧ f_hs ≤ 1) (h6 : 0 ≤ f_k ∧ f_k ≤ 46656) (h7 : 0 ≤ f_k2 ∧ f_k2 ≤ 46656) (h8 : 0 ≤ f_k3 ∧ f_k3 ≤ 46656) (h9 : 0 ≤ z38109 ∧ z38109 ≤ 0) : (1 : Int) = 0 ∨ f_k + 1 ≤ f_k3 := by omega
theorem vc_X12_tries_63 {z38679 : Int} (h0 : z38679 ≤ 6) (h1 : 1 ≤ z38679 ∧ z38679 ≤ 6) : 1 ≤ z38679 ∧ z38679 ≤ 6 := by omega
theorem vc_X12_tries_64 {z14 z23952 z38250 : Int} (h0 : z14 ≤ z23952) (h1 : 0 ≤ z38250 ∧ z38250 < z14) (h2 : 1 ≤ z14 ∧ z14 ≤ 46656) (h3 : 1 ≤ z23952 ∧ z23952 ≤ 46656) (h4 : 0 ≤ z38250 ∧ z38250 ≤ 46655) : 0 ≤ z38250 ∧ z38250 < z14 := by omega
theorem vc_X12_tries_65 {z38733 z38740 : Int} (h0 : z38740 ≤ z38733) (h1 : 0 ≤ z38733 ∧ z38733 ≤ 5) (h2 : 0 ≤ z38740 ∧ z38740 ≤ 5) : 0 ≤ z38733 := by omega
theorem vc_X12_tries_66 {z38733 z38740 : Int} (h0 : z38740 ≤ z38733) (h1 : 0 ≤ z38733 ∧ z38733 ≤ 5) (h2 : 0 ≤ z38740 ∧ z38740 ≤ 5) : 0 ≤ z38740 ∧ z38740 ≤ z38733 := by omega
theorem vc_X12_tries_67 {z14 z23952 z38250 z38747 : Int} (h0 : 0 ≤ z38250 ∧ z38250 < z14) (h1 : 0 ≤ (z38250 + z38747) ∧ (z38250 + z38747) < z14) (h2 : z14 ≤ z23952) (h3 : 1 ≤ z14 ∧ z14 ≤ 46656) (h4 : 1 ≤ z23952 ∧ z23952 ≤ 46656) (h5 : 0 ≤ z38250 ∧ z38250 ≤ 46655) (h6 : (-233280) ≤ z38747 ∧ z38747 ≤ 233280) : 0 ≤ (z38250 + z38747) ∧ (z38250 + z38747) < 46656 := by omega
theorem vc_X12_tries_68 {f_hs f_k f_k2 f_k3 z38109 z38751 : Int} (h0 : f_k ≤ f_k2) (h1 : z38109 = 0 ∨ f_k + 1 ≤ f_k2) (h2 : f_k3 = f_k2 + f_hs) (h3 : f_hs = 0) (h4 : 0 ≤ f_hs ∧ f_hs ≤ 0) (h5 : 0 ≤ f_k ∧ f_k ≤ 46656) (h6 : 0 ≤ f_k2 ∧ f_k2 ≤ 46656) (h7 : 0 ≤ f_k3 ∧ f_k3 ≤ 46656) (h8 : 0 ≤ z38109 ∧ z38109 ≤ 1) (h9 : 0 ≤ z38751 ∧ z38751 ≤ 1) : ((f_k3 + z38751) - f_hs) = f_k2 + z38751 := by omega
theorem vc_X12_tries_70 {f_k f_k2 z38109 z38254 : Int} (h0 : f_k ≤ f_k2) (h1 : z38109 = 0 ∨ f_k + 1 ≤ f_k2) (h2 : z38254 = 0) (h3 : 0 ≤ f_k ∧ f_k ≤ 46656) (h4 : 0 ≤ f_k2 ∧ f_k2 ≤ 46656) (h5 : 0 ≤ z38109 ∧ z38109 ≤ 1) (h6 : 0 ≤ z38254 ∧ z38254 ≤ 0) : f_k2 = f_k2 + z38254 := by omega
theorem vc_X12_tries_73 {f_k f_k2 z38109 : Int} (h0 : f_k ≤ f_k2) (h1 : z38109 = 0 ∨ f_k + 1 ≤ f_k2) (h2 : 0 ≤ f_k ∧ f_k ≤ 46656) (h3 : 0 ≤ f_k2 ∧ f_k2 ≤ 46656) (h4 : 0 ≤ z38109 ∧ z38109 ≤ 1) : f_k ≤ f_k2 := by omega
theorem vc_X12_tries_74 {f_k f_k2 z38109 : Int} (h0 : f_k ≤ f_k2) (h1 : z38109 = 0 ∨ f_k + 1 ≤ f_k2) (h2 : 0 ≤ f_k ∧ f_k ≤ 46656) (h3 : 0 ≤ f_k2 ∧ f_k2 ≤ 46656) (h4 : 0 ≤ z38109 ∧ z38109 ≤ 1) : z38109 = 0 ∨ f_k + 1 ≤ f_k2 := by omega
theorem vc_X12_tries_75 {f_k : Int} (h0 : 0 ≤ f_k ∧ f_k ≤ 46656) : f_k ≤ f_k := by omega
theorem vc_X12_tries_76 {f_k : Int} (h0 : 0 ≤ f_k ∧ f_k ≤ 46656) : (0 : Int) = 0 ∨ f_k + 1 ≤ f_k := by omega
theorem vc_X12_tries_77 {z36173 z36175 z36176 : Int} (h0 : z36173 ≤ z36176) (h1 : z36176 ≤ z36173) (h2 : z36175 ≤ z36173) (h3 : 1 ≤ z36173 ∧ z36173 ≤ 46656) (h4 : 0 ≤ z36175 ∧ z36175 ≤ 46656) (h5 : 1 ≤ z36176 ∧ z36176 ≤ 46656) : (z36176 - 1) < z36176 := by omega
theorem vc_X12_tries_78 {z36173 z36175 z36176 : Int} (h0 : z36173 ≤ z36176) (h1 : z36176 ≤ z36173) (h2 : z36175 ≤ z36173) (h3 : 1 ≤ z36173 ∧ z36173 ≤ 46656) (h4 : 0 ≤ z36175 ∧ z36175 ≤ 46656) (h5 : 1 ≤ z36176 ∧ z36176 ≤ 46656) : ((z36176 - 1) - (-2)) < ((46658 : Nat) : Int) := by omega
theorem vc_X12_tries_79 {z38758 : Int} (h0 : 0 ≤ z38758 ∧ z38758 ≤ 46656) : ((2 * (46656 - z38758)) + 1) < ((93314 : Nat) : Int) := by omega
theorem vc_X12_tries_80 {p1 z5 : Int} (h0 : p1 = 3) (h1 : (z5 = 1 → (0 : Int) ≤ p1 ∧ p1 ≤ (3 : Int))) (h2 : (z5 = 0 → p1 < (0 : Int) ∨ (3 : Int) < p1)) (h3 : (0 : Int) ≤ p1 ∧ p1 ≤ (3 : Int)) (h4 : ¬ p1 = 0) (h5 : ¬ p1 = 1) (h6 : 2 ≤ p1 ∧ p1 ≤ 3) (h7 : 1 ≤ z5 ∧ z5 ≤ 1) : 3 ≤ p1 ∧ p1 ≤ 3 := by omega
theorem vc_X12_tries_81 {p1 z5 : Int} (h0 : p1 = 1) (h1 : (z5 = 1 → (0 : Int) ≤ p1 ∧ p1 ≤ (3 : Int))) (h2 : (z5 = 0 → p1 < (0 : Int) ∨ (3 : Int) < p1)) (h3 : (0 : Int) ≤ p1 ∧ p1 ≤ (3 : Int)) (h4 : ¬ p1 = 0) (h5 : 1 ≤ p1 ∧ p1 ≤ 3) (h6 : 1 ≤ z5 ∧ z5 ≤ 1) : 1 ≤ p1 ∧ p1 ≤ 1 := by omega
theorem vc_X12_tries_82 {p1 z5 : Int} (h0 : p1 = 0) (h1 : (z5 = 1 → (0 : Int) ≤ p1 ∧ p1 ≤ (3 : Int))) (h2 : (z5 = 0 → p1 < (0 : Int) ∨ (3 : Int) < p1)) (h3 : (0 : Int) ≤ p1 ∧ p1 ≤ (3 : Int)) (h4 : 0 ≤ p1 ∧ p1 ≤ 3) (h5 : 1 ≤ z5 ∧ z5 ≤ 1) : 0 ≤ p1 ∧ p1 ≤ 0 := by omega
theorem vc_X12_tries_83 {z36173 z36175 z36176 : Int} (h0 : z36173 < z36176) (h1 : z36175 ≤ z36173) (h2 : z36173 ≤ z36176) (h3 : 0 ≤ z36173 ∧ z36173 ≤ 46656) (h4 : 0 ≤ z36175 ∧ z36175 ≤ 46656) (h5 : 1 ≤ z36176 ∧ z36176 ≤ 46656) : 0 ≤ z36173 ∧ z36173 ≤ 46655 := by omega
theorem vc_X12_tries_84 {z36173 z36175 z36176 : Int} (h0 : z36175 ≤ z36173) (h1 : z36173 ≤ z36176) (h2 : z36173 < z36176) (h3 : 0 ≤ z36173 ∧ z36173 ≤ 46655) (h4 : 0 ≤ z36175 ∧ z36175 ≤ 46656) (h5 : 1 ≤ z36176 ∧ z36176 ≤ 46656) : 0 ≤ z36173 := by omega
theorem vc_X12_tries_85 {z36173 z36175 z36176 : Int} (h0 : z36175 ≤ z36173) (h1 : z36173 ≤ z36176) (h2 : z36173 < z36176) (h3 : 0 ≤ z36173 ∧ z36173 ≤ 46655) (h4 : 0 ≤ z36175 ∧ z36175 ≤ 46656) (h5 : 1 ≤ z36176 ∧ z36176 ≤ 46656) : z36173 < z36176 := by omega
theorem vc_X12_tries_89 {z36173 z36175 z36176 z39122 : Int} (h0 : z36175 ≤ z36173) (h1 : z36173 ≤ z36176) (h2 : z36173 < z36176) (h3 : z36173 < z39122) (h4 : 0 ≤ z36173 ∧ z36173 ≤ 46655) (h5 : 0 ≤ z36175 ∧ z36175 ≤ 46656) (h6 : 1 ≤ z36176 ∧ z36176 ≤ 46656) (h7 : 1 ≤ z39122 ∧ z39122 ≤ 46656) : z36175 ≤ (z36173 + 1) := by omega
theorem vc_X12_tries_90 {z36173 z36175 z36176 z39122 : Int} (h0 : z36175 ≤ z36173) (h1 : z36173 ≤ z36176) (h2 : z36173 < z36176) (h3 : z36173 < z39122) (h4 : 0 ≤ z36173 ∧ z36173 ≤ 46655) (h5 : 0 ≤ z36175 ∧ z36175 ≤ 46656) (h6 : 1 ≤ z36176 ∧ z36176 ≤ 46656) (h7 : 1 ≤ z39122 ∧ z39122 ≤ 46656) : (z36173 + 1) ≤ z39122 := by omega
theorem vc_X12_tries_91 {N z36173 z36175 z36176 z39122 : Int} (h0 : (46657 - z36173) < N + 1) (h1 : z36175 ≤ z36173) (h2 : z36173 ≤ z36176) (h3 : z36173 < z36176) (h4 : z36173 < z39122) (h5 : 0 ≤ z36173 ∧ z36173 ≤ 46655) (h6 : 0 ≤ z36175 ∧ z36175 ≤ 46656) (h7 : 1 ≤ z36176 ∧ z36176 ≤ 46656) (h8 : 1 ≤ z39122 ∧ z39122 ≤ 46656) : (46657 - (z36173 + 1)) < N := by omega
theorem vc_X12_tries_93 {z36173 z36175 z36176 z39122 : Int} (h0 : z36175 ≤ z36173) (h1 : z36173 ≤ z36176) (h2 : z36173 < z36176) (h3 : z36173 < z39122) (h4 : 0 ≤ z36173 ∧ z36173 ≤ 46655) (h5 : 0 ≤ z36175 ∧ z36175 ≤ 46656) (h6 : 1 ≤ z36176 ∧ z36176 ≤ 46656) (h7 : 1 ≤ z39122 ∧ z39122 ≤ 46656) : 0 ≤ (z36175 + 1) ∧ (z36175 + 1) ≤ 46656 := by omega
theorem vc_X12_tries_94 {z36173 z36175 z36176 z39122 : Int} (h0 : z36175 ≤ z36173) (h1 : z36173 ≤ z36176) (h2 : z36173 < z36176) (h3 : z36173 < z39122) (h4 : 0 ≤ z36173 ∧ z36173 ≤ 46655) (h5 : 0 ≤ z36175 ∧ z36175 ≤ 46656) (h6 : 1 ≤ z36176 ∧ z36176 ≤ 46656) (h7 : 1 ≤ z39122 ∧ z39122 ≤ 46656) : (z36175 + 1) ≤ (z36173 + 1) := by omega
theorem vc_X12_tries_105 {z39196 z39203 z39204 : Int} (h0 : z39203 ≤ z39196) (h1 : ¬ z39203 = z39204) (h2 : 0 ≤ z39196 ∧ z39196 ≤ 5) (h3 : 0 ≤ z39203 ∧ z39203 ≤ 5) (h4 : 0 ≤ z39204 ∧ z39204 ≤ 5) : 0 ≤ z39196 := by omega
theorem vc_X12_tries_106 {z39196 z39203 z39204 : Int} (h0 : z39203 ≤ z39196) (h1 : ¬ z39203 = z39204) (h2 : 0 ≤ z39196 ∧ z39196 ≤ 5) (h3 : 0 ≤ z39203 ∧ z39203 ≤ 5) (h4 : 0 ≤ z39204 ∧ z39204 ≤ 5) : 0 ≤ z39203 ∧ z39203 ≤ z39196 := by omega
theorem vc_X12_tries_109 {z36173 z36175 z36176 z39122 : Int} (h0 : z36175 ≤ z36173) (h1 : z36173 ≤ z36176) (h2 : z36173 < z36176) (h3 : z36173 < z39122) (h4 : 0 ≤ z36173 ∧ z36173 ≤ 46655) (h5 : 0 ≤ z36175 ∧ z36175 ≤ 46656) (h6 : 1 ≤ z36176 ∧ z36176 ≤ 46656) (h7 : 1 ≤ z39122 ∧ z39122 ≤ 46656) : z36173 < z39122 := by omega
theorem vc_X12_tries_112 {z36173 z36175 z36176 z39122 : Int} (h0 : z36173 < z39122) (h1 : z36175 ≤ z36173) (h2 : z36173 ≤ z36176) (h3 : z36173 < z36176) (h4 : 0 ≤ z36173 ∧ z36173 ≤ 46655) (h5 : 0 ≤ z36175 ∧ z36175 ≤ 46656) (h6 : 1 ≤ z36176 ∧ z36176 ≤ 46656) (h7 : 1 ≤ z39122 ∧ z39122 ≤ 46656) : 0 ≤ z39122 := by omega
theorem vc_X12_tries_113 {z14 z23952 z38765 z39211 : Int} (h0 : z14 ≤ z23952) (h1 : 0 ≤ z38765 ∧ z38765 < z14) (h2 : 0 ≤ (z38765 + z39211) ∧ (z38765 + z39211) < z14) (h3 : 1 ≤ z14 ∧ z14 ≤ 46656) (h4 : 1 ≤ z23952 ∧ z23952 ≤ 46656) (h5 : 0 ≤ z38765 ∧ z38765 ≤ 46655) (h6 : (-233280) ≤ z39211 ∧ z39211 ≤ 233280) : 0 ≤ (z38765 + z39211) ∧ (z38765 + z39211) < z14 := by omega
theorem vc_X12_tries_114 {z39215 : Int} (h0 : z39215 < 0) (h1 : (-2147483648) ≤ z39215 ∧ z39215 ≤ (-1)) : z39215 < 0 := by omega
theorem vc_X12_tries_115 {z14 z36173 z36175 z36176 z39122 : Int} (h0 : z36175 ≤ z36173) (h1 : z36173 ≤ z36176) (h2 : z36173 < z36176) (h3 : z36173 < z39122) (h4 : z39122 < z14) (h5 : 1 ≤ z14 ∧ z14 ≤ 46656) (h6 : 0 ≤ z36173 ∧ z36173 ≤ 46655) (h7 : 0 ≤ z36175 ∧ z36175 ≤ 46656) (h8 : 1 ≤ z36176 ∧ z36176 ≤ 46656) (h9 : 1 ≤ z39122 ∧ z39122 ≤ 46656) : 0 ≤ z36173 := by omega
theorem vc_X12_tries_116 {z14 z23952 z36173 z36175 z36176 z38765 z39122 z39211 : Int} (h0 : z36175 ≤ z36173) (h1 : z36173 ≤ z36176) (h2 : z36173 < z36176) (h3 : z36173 < z39122) (h4 : z39122 < z14) (h5 : z14 ≤ z23952) (h6 : 0 ≤ z38765 ∧ z38765 < z14) (h7 : 0 ≤ (z38765 + z39211) ∧ (z38765 + z39211) < z14) (h8 : 1 ≤ z14 ∧ z14 ≤ 46656) (h9 : 1 ≤ z23952 ∧ z23952 ≤ 46656) (h10 : 0 ≤ z36173 ∧ z36173 ≤ 46655) (h11 : 0 ≤ z36175 ∧ z36175 ≤ 46656) (h12 : 1 ≤ z36176 ∧ z36176 ≤ 46656) (h13 : 0 ≤ z38765 ∧ z38765 ≤ 46655) (h14 : 1 ≤ z39122 ∧ z39122 ≤ 46656) (h15 : (-233280) ≤ z39211 ∧ z39211 ≤ 233280) : z36173 < z39122 := by omega
theorem vc_X12_tries_117 {z14 z36173 z36175 z36176 z39122 z39222 : Int} (h0 : z36175 ≤ z36173) (h1 : z36173 ≤ z36176) (h2 : z36173 < z36176) (h3 : z36173 < z39122) (h4 : 0 ≤ z39222 ∧ z39222 ≤ z36173) (h5 : z39122 < z14) (h6 : 1 ≤ z14 ∧ z14 ≤ 46656) (h7 : 0 ≤ z36173 ∧ z36173 ≤ 46655) (h8 : 0 ≤ z36175 ∧ z36175 ≤ 46656) (h9 : 1 ≤ z36176 ∧ z36176 ≤ 46656) (h10 : 1 ≤ z39122 ∧ z39122 ≤ 46656) (h11 : (-2147483648) ≤ z39222 ∧ z39222 ≤ 2147483647) : 0 ≤ z39222 ∧ z39222 ≤ 46656 := by omega
theorem vc_X12_tries_118 {z14 z23952 z38765 z39122 z39211 : Int} (h0 : 0 ≤ z38765 ∧ z38765 < z14) (h1 : 0 ≤ (z38765 + z39211) ∧ (z38765 + z39211) < z14) (h2 : z14 ≤ z23952) (h3 : z39122 < z14) (h4 : 1 ≤ z14 ∧ z14 ≤ 46656) (h5 : 1 ≤ z23952 ∧ z23952 ≤ 46656) (h6 : 0 ≤ z38765 ∧ z38765 ≤ 46655) (h7 : 1 ≤ z39122 ∧ z39122 ≤ 46656) (h8 : (-233280) ≤ z39211 ∧ z39211 ≤ 233280) : 0 ≤ (z38765 + z39211) ∧ (z38765 + z39211) < 46656 := by omega
theorem vc_X12_tries_119 {z14 z23952 z36173 z36175 z36176 z38765 z39122 z39211 z39222 : Int} (h0 : z36173 < z39122) (h1 : z39122 < z14) (h2 : z14 ≤ z23952) (h3 : z36175 ≤ z36173) (h4 : z36173 ≤ z36176) (h5 : z36173 < z36176) (h6 : 0 ≤ z38765 ∧ z38765 < z14) (h7 : 0 ≤ (z38765 + z39211) ∧ (z38765 + z39211) < z14) (h8 : 0 ≤ z39222 ∧ z39222 ≤ z36173) (h9 : 1 ≤ z14 ∧ z14 ≤ 46656) (h10 : 1 ≤ z23952 ∧ z23952 ≤ 46656) (h11 : 0 ≤ z36173 ∧ z36173 ≤ 46655) (h12 : 0 ≤ z36175 ∧ z36175 ≤ 46656) (h13 : 1 ≤ z36176 ∧ z36176 ≤ 46656) (h14 : 0 ≤ z38765 ∧ z38765 ≤ 46655) (h15 : 1 ≤ z39122 ∧ z39122 ≤ 46656) (h16 : (-233280) ≤ z39211 ∧ z39211 ≤ 233280) (h17 : 0 ≤ z39222 ∧ z39222 ≤ 46656) : 0 ≤ z39122 ∧ z39122 < 46656 := by omega
theorem vc_X12_tries_120 {z14 z23952 z38765 z39122 z39211 : Int} (h0 : 0 ≤ z38765 ∧ z38765 < z14) (h1 : 0 ≤ (z38765 + z39211) ∧ (z38765 + z39211) < z14) (h2 : z14 ≤ z23952) (h3 : z39122 < z14) (h4 : 1 ≤ z14 ∧ z14 ≤ 46656) (h5 : 1 ≤ z23952 ∧ z23952 ≤ 46656) (h6 : 0 ≤ z38765 ∧ z38765 ≤ 46655) (h7 : 1 ≤ z39122 ∧ z39122 ≤ 46656) (h8 : (-233280) ≤ z39211 ∧ z39211 ≤ 233280) : 0 ≤ (z38765 + z39211) ∧ (z38765 + z39211) ≤ 46655 := by omega
theorem vc_X12_tries_121 {z14 z23952 z36173 z36175 z36176 z38765 z39122 z39211 z39222 : Int} (h0 : z36173 < z39122) (h1 : z39122 < z14) (h2 : z14 ≤ z23952) (h3 : z36175 ≤ z36173) (h4 : z36173 ≤ z36176) (h5 : z36173 < z36176) (h6 : 0 ≤ z38765 ∧ z38765 < z14) (h7 : 0 ≤ (z38765 + z39211) ∧ (z38765 + z39211) < z14) (h8 : 0 ≤ z39222 ∧ z39222 ≤ z36173) (h9 : 1 ≤ z14 ∧ z14 ≤ 46656) (h10 : 1 ≤ z23952 ∧ z23952 ≤ 46656) (h11 : 0 ≤ z36173 ∧ z36173 ≤ 46655) (h12 : 0 ≤ z36175 ∧ z36175 ≤ 46656) (h13 : 1 ≤ z36176 ∧ z36176 ≤ 46656) (h14 : 0 ≤ z38765 ∧ z38765 ≤ 46655) (h15 : 1 ≤ z39122 ∧ z39122 ≤ 46656) (h16 : (-233280) ≤ z39211 ∧ z39211 ≤ 233280) (h17 : 0 ≤ z39222 ∧ z39222 ≤ 46656) : 0 ≤ z39122 := by omega
theorem vc_X12_tries_122 {z14 z23952 z36173 z38765 z39122 z39211 : Int} (h0 : z14 ≤ z23952) (h1 : 0 ≤ z38765 ∧ z38765 < z14) (h2 : 0 ≤ (z38765 + z39211) ∧ (z38765 + z39211) < z14) (h3 : z39122 < z14) (h4 : z36173 < z39122) (h5 : 1 ≤ z14 ∧ z14 ≤ 46656) (h6 : 1 ≤ z23952 ∧ z23952 ≤ 46656) (h7 : 0 ≤ z36173 ∧ z36173 ≤ 46655) (h8 : 0 ≤ z38765 ∧ z38765 ≤ 46655) (h9 : 1 ≤ z39122 ∧ z39122 ≤ 46656) (h10 : (-233280) ≤ z39211 ∧ z39211 ≤ 233280) : 0 ≤ (z38765 + z39211) ∧ (z38765 + z39211) < z14 := by omega
theorem vc_X12_tries_123 {z14 z23952 z36173 z36175 z36176 z38765 z39122 z39211 z39222 : Int} (h0 : z36173 < z39122) (h1 : z39122 < z14) (h2 : 0 ≤ z39222 ∧ z39222 ≤ z36173) (h3 : z14 ≤ z23952) (h4 : z36175 ≤ z36173) (h5 : z36173 ≤ z36176) (h6 : z36173 < z36176) (h7 : 0 ≤ z38765 ∧ z38765 < z14) (h8 : 0 ≤ (z38765 + z39211) ∧ (z38765 + z39211) < z14) (h9 : 1 ≤ z14 ∧ z14 ≤ 46656) (h10 : 1 ≤ z23952 ∧ z23952 ≤ 46656) (h11 : 0 ≤ z36173 ∧ z36173 ≤ 46655) (h12 : 0 ≤ z36175 ∧ z36175 ≤ 46656) (h13 : 1 ≤ z36176 ∧ z36176 ≤ 46656) (h14 : 0 ≤ z38765 ∧ z38765 ≤ 46655) (h15 : 1 ≤ z39122 ∧ z39122 ≤ 46656) (h16 : (-233280) ≤ z39211 ∧ z39211 ≤ 233280) (h17 : 0 ≤ z39222 ∧ z39222 ≤ 46656) : 0 ≤ (z39222 + 1) ∧ (z39222 + 1) ≤ z39122 := by omega
theorem vc_X12_tries_124 {z14 z23952 z36173 z36175 z36176 z38765 z39122 z39211 z39222 : Int} (h0 : z36175 ≤ z36173) (h1 : z36173 ≤ z36176) (h2 : z36173 < z36176) (h3 : z36173 < z39122) (h4 : z39122 < z14) (h5 : 0 ≤ z39222 ∧ z39222 ≤ z36173) (h6 : z14 ≤ z23952) (h7 : 0 ≤ z38765 ∧ z38765 < z14) (h8 : 0 ≤ (z38765 + z39211) ∧ (z38765 + z39211) < z14) (h9 : 1 ≤ z14 ∧ z14 ≤ 46656) (h10 : 1 ≤ z23952 ∧ z23952 ≤ 46656) (h11 : 0 ≤ z36173 ∧ z36173 ≤ 46655) (h12 : 0 ≤ z36175 ∧ z36175 ≤ 46656) (h13 : 1 ≤ z36176 ∧ z36176 ≤ 46656) (h14 : 0 ≤ z38765 ∧ z38765 ≤ 46655) (h15 : 1 ≤ z39122 ∧ z39122 ≤ 46656) (h16 : (-233280) ≤ z39211 ∧ z39211 ≤ 233280) (h17 : 0 ≤ z39222 ∧ z39222 ≤ 46656) : z36173.toNat ≠ z39122.toNat := by omega
theorem vc_X12_tries_125 {z14 z23952 z36173 z36175 z36176 z38765 z39122 z39211 z39222 : Int} (h0 : z36173 < z39122) (h1 : z39122 < z14) (h2 : z14 ≤ z23952) (h3 : z36175 ≤ z36173) (h4 : z36173 ≤ z36176) (h5 : z36173 < z36176) (h6 : 0 ≤ z38765 ∧ z38765 < z14) (h7 : 0 ≤ (z38765 + z39211) ∧ (z38765 + z39211) < z14) (h8 : 0 ≤ z39222 ∧ z39222 ≤ z36173) (h9 : 1 ≤ z14 ∧ z14 ≤ 46656) (h10 : 1 ≤ z23952 ∧ z23952 ≤ 46656) (h11 : 0 ≤ z36173 ∧ z36173 ≤ 46655) (h12 : 0 ≤ z36175 ∧ z36175 ≤ 46656) (h13 : 1 ≤ z36176 ∧ z36176 ≤ 46656) (h14 : 0 ≤ z38765 ∧ z38765 ≤ 46655) (h15 : 1 ≤ z39122 ∧ z39122 ≤ 46656) (h16 : (-233280) ≤ z39211 ∧ z39211 ≤ 233280) (h17 : 0 ≤ z39222 ∧ z39222 ≤ 46656) : 1 ≤ (z39122 + 1) ∧ (z39122 + 1) ≤ 46656 := by omega
theorem vc_X12_tries_126 {z14 z23952 z36173 z36175 z36176 z38765 z39122 z39211 z39222 : Int} (h0 : z36175 ≤ z36173) (h1 : z36173 ≤ z36176) (h2 : z36173 < z36176) (h3 : z36173 < z39122) (h4 : z39122 < z14) (h5 : 0 ≤ z39222 ∧ z39222 ≤ z36173) (h6 : z14 ≤ z23952) (h7 : 0 ≤ z38765 ∧ z38765 < z14) (h8 : 0 ≤ (z38765 + z39211) ∧ (z38765 + z39211) < z14) (h9 : 1 ≤ z14 ∧ z14 ≤ 46656) (h10 : 1 ≤ z23952 ∧ z23952 ≤ 46656) (h11 : 0 ≤ z36173 ∧ z36173 ≤ 46655) (h12 : 0 ≤ z36175 ∧ z36175 ≤ 46656) (h13 : 1 ≤ z36176 ∧ z36176 ≤ 46656) (h14 : 0 ≤ z38765 ∧ z38765 ≤ 46655) (h15 : 1 ≤ z39122 ∧ z39122 ≤ 46656) (h16 : (-233280) ≤ z39211 ∧ z39211 ≤ 233280) (h17 : 0 ≤ z39222 ∧ z39222 ≤ 46656) : z36173 < (z39122 + 1) := by omega
theorem vc_X12_tries_128  : ((0 : Int) : Int) ≤ ((1 : Int) : Int) := by omega
theorem vc_X12_tries_131 {p1 z5 : Int} (h0 : z5 = 0) (h1 : (z5 = 1 → (0 : Int) ≤ p1 ∧ p1 ≤ (3 : Int))) (h2 : (z5 = 0 → p1 < (0 : Int) ∨ (3 : Int) < p1)) (h3 : (-2147483648) ≤ p1 ∧ p1 ≤ 2147483647) (h4 : 0 ≤ z5 ∧ z5 ≤ 1) : 0 ≤ z5 ∧ z5 ≤ 0 := by omega
theorem vc_X12_tries_132 {p1 z5 : Int} (h0 : (z5 = 1 → (0 : Int) ≤ p1 ∧ p1 ≤ (3 : Int))) (h1 : (z5 = 0 → p1 < (0 : Int) ∨ (3 : Int) < p1)) (h2 : z5 = 0) (h3 : (-2147483648) ≤ p1 ∧ p1 ≤ 2147483647) (h4 : 0 ≤ z5 ∧ z5 ≤ 0) : z5 = 0 := by omega
set_option maxRecDepth 4000 in
set_option maxHeartbeats 4000000 in
theorem c_X12_tries {l : Launch} {D : va_G} {c : Nat → ClassId} {H0 : Heap} {sa : Nat × Nat × (Nat → Int32)} {w : mW} {μ : mM} (hw : mWF w) (hT : mT w μ) {p1 : Int} (hp1 : (-2147483648) ≤ p1 ∧ p1 ≤ 2147483647) : sC (gG l D c H0 sa) mX12_tries 3 0 0 [.ref 106, iv p1] (mk w μ) (qI w [187999, 188999, 189999, 190999, 191999] μ (fun z μ1 => ((-2147483648) ≤ z ∧ z ≤ 2147483647) ∧ True)) := by
  refine sC.of rfl (by decide) (le_t rfl) ?_
  refine mr_lvE (lv' := [(0, .ref 106), (1, iv p1)]) rfl ?_
  refine mr_iload_n (pc := 0) (z := p1) dX12_tries_0 rfl rfl ?_
  refine mr_iconst (pc := 1) (z := 0) dX12_tries_1 ?_
  refine mr_iconst (pc := 2) (z := 3) dX12_tries_2 ?_
  refine mr_cSP (pc := 3) (c_X12_in hw hT hp1 (rW (c := (-2147483648)) (d := 2147483647) (rR (x := 0)) rfl) (rW (c := (-2147483648)) (d := 2147483647) (rR (x := 3)) rfl)) (gOk _ _ _ _ _) dX12_tries_3 (tX12_in _ _ _ _ _) wS_X12_in wM_X12_18 ⟨le_t rfl, le_t rfl⟩ ⟨le_t rfl, le_t rfl⟩ rfl (le_t rfl) fun z5 h4 => ?_
  refine mr_if_ne (pc := 6) (tgt := 11) dX12_tries_6 (by decide) (r32 h4.1 rfl) (fun h6 => ?_) (fun h6 => ?_)
  · have h7 : 1 ≤ z5 ∧ z5 ≤ 1 := (vc_X12_tries_1 h6 h4.2.1 h4.2.2.1 hp1 h4.1)
    have h8 : (0 : Int) ≤ p1 ∧ p1 ≤ (3 : Int) := (h4.2.1 (vc_X12_tries_2 h4.2.1 h4.2.2.1 h6 hp1 h7))
    have h9 : 0 ≤ p1 ∧ p1 ≤ 3 := (vc_X12_tries_3 h8 h4.2.1 h4.2.2.1 hp1 h7)
    refine sv_aload_n (pc := 11) dX12_tries_11 rfl rfl ?_
    refine mr_cVI (pc := 12) (c_X12_states_r hw hT) (gOk _ _ _ _ _) dX12_tries_12 (tX12_states _ _ _ _ _) ⟨wV_X12_states, wL_X12_states⟩ wM_X12_728 (gCX12 _ _ _ _ _) rfl (A_106 hw) rfl ⟨le_t rfl, le_t rfl⟩ ⟨le_t rfl, le_t rfl⟩ rfl (le_t rfl) fun z14 μ10 T11 F12 h13 => ?_
    obtain ⟨z15, z17, z19, z21, z23, z25, q16, q18, q20, q22, q24, q26, h27⟩ := h13
    have h28 : (0 ≤ z15 ∧ z15 ≤ 46656) := by rw [← q16]; exact T11 187 187 (A_187 hw) ((1 : Int).toNat)
    have h29 : (0 ≤ z17 ∧ z17 ≤ 46656) := by rw [← q18]; exact T11 187 187 (A_187 hw) ((2 : Int).toNat)
    have h30 : (0 ≤ z19 ∧ z19 ≤ 46656) := by rw [← q20]; exact T11 187 187 (A_187 hw) ((3 : Int).toNat)
    have h31 : (0 ≤ z21 ∧ z21 ≤ 46656) := by rw [← q22]; exact T11 187 187 (A_187 hw) ((4 : Int).toNat)
    have h32 : (0 ≤ z23 ∧ z23 ≤ 46656) := by rw [← q24]; exact T11 187 187 (A_187 hw) ((5 : Int).toNat)
    have h33 : (0 ≤ z25 ∧ z25 ≤ 46656) := by rw [← q26]; exact T11 187 187 (A_187 hw) ((6 : Int).toNat)
    have h34 : 1 ≤ z15 ∧ z15 ≤ 46656 := (vc_X12_open_1 h27.2.1 h28)
    have h35 : 1 ≤ z17 ∧ z17 ≤ 46656 := (vc_X12_open_1 h27.2.2.1 h29)
    have h36 : 1 ≤ z19 ∧ z19 ≤ 46656 := (vc_X12_open_1 h27.2.2.2.1 h30)
    have h37 : 1 ≤ z21 ∧ z21 ≤ 46656 := (vc_X12_open_1 h27.2.2.2.2.1 h31)
    have h38 : 1 ≤ z23 ∧ z23 ≤ 46656 := (vc_X12_open_1 h27.2.2.2.2.2.1 h32)
    have h39 : 1 ≤ z25 ∧ z25 ≤ 46656 := (vc_X12_open_1 h27.2.2.2.2.2.2.1 h33)
    refine mr_istore_n (pc := 15) (lv' := [(2, iv z14), (0, .ref 106), (1, iv p1)]) dX12_tries_15 rfl (by decide) rfl ?_
    refine mr_iconst (pc := 16) (z := 0) dX12_tries_16 ?_
    refine mr_istore_n (pc := 17) (lv' := [(3, iv 0), (2, iv z14), (0, .ref 106), (1, iv p1)]) dX12_tries_17 rfl (by decide) rfl ?_
    have L23954 : ∀ (nL23954 : Nat) (z23952 : Int) (μ23953 : mM), mT w μ23953 → mF [189999, 191999] w μ10 μ23953 → (0 ≤ z23952 ∧ z23952 ≤ 46656) → (46657 - z23952) < (nL23954 : Int) → sV (gG l D c H0 sa) mX12_tries (sRm 3 0 0) (sZ (gG l D c H0 sa) 0 0 (qI w [187999, 188999, 189999, 190999, 191999] μ (fun z μ1 => ((-2147483648) ≤ z ∧ z ≤ 2147483647) ∧ True))) 18 [(0, .ref 106), (1, iv p1), (2, iv z14), (3, iv z23952)] [] (mk w μ23953) 0 0 := by
      intro nL23954
      induction nL23954 with
      | zero => intro z23952 μ23953 T23956 F23957 h23955 h23959; exact ((vc_X12_rests_7 h23959 h23955)).elim
      | succ nL23954 ih23960 =>
        intro z23952 μ23953 T23956 F23957 h23955 h23959
        refine mr_iload_n (pc := 18) (z := z23952) dX12_tries_18 rfl rfl ?_
        refine mr_iload_n (pc := 19) (z := z14) dX12_tries_19 rfl rfl ?_
        refine mr_icmp_ge (pc := 20) (tgt := 43) dX12_tries_20 (by decide) (r32 h23955 rfl) (r32 h27.1 rfl) (fun h23969 => ?_) (fun h23969 => ?_)
        · have h23970 : 1 ≤ z23952 ∧ z23952 ≤ 46656 := (vc_X12_rest_13 h23969 h27.1 h23955)
          refine mr_iconst (pc := 43) (z := 0) dX12_tries_43 ?_
          refine mr_istore_n (pc := 44) (lv' := [(3, iv 0), (0, .ref 106), (1, iv p1), (2, iv z14)]) dX12_tries_44 rfl (by decide) rfl ?_
          refine sv_aload_n (pc := 45) dX12_tries_45 rfl rfl ?_
          refine gf_X12_124 (pc := 46) dX12_tries_46 wF_X12_533 (A_106 hw) T23956 ?_
          refine mr_iload_n (pc := 49) (z := 0) dX12_tries_49 rfl rfl ?_
          refine mr_iload_n (pc := 50) (z := z14) dX12_tries_50 rfl rfl ?_
          refine mr_iconst (pc := 51) (z := 1) dX12_tries_51 ?_
          refine mr_isub (pc := 52) (x := z14) (y := 1) dX12_tries_52 ?_
          refine ss_190 (pc := 53) dX12_tries_53 (A_190 hw) T23956 (rIx (n := 46656) (rR (x := 0)) rfl) (rSub (e := 0) (f := 46655) h27.1 (rR (x := 1)) rfl) fun μ23971 u23972 T23973 => ?_
          refine sv_aload_n (pc := 54) dX12_tries_54 rfl rfl ?_
          refine gf_X12_123 (pc := 55) dX12_tries_55 wF_X12_530 (A_106 hw) T23973 ?_
          refine mr_iload_n (pc := 58) (z := z14) dX12_tries_58 rfl rfl ?_
          refine mr_iconst (pc := 59) (z := 1) dX12_tries_59 ?_
          refine mr_isub (pc := 60) (x := z14) (y := 1) dX12_tries_60 ?_
          refine mr_iconst (pc := 61) (z := 0) dX12_tries_61 ?_
          refine ss_189 (pc := 62) dX12_tries_62 (A_189 hw) T23973 (rIx (n := 46656) (rSub (e := 0) (f := 46655) h27.1 (rR (x := 1)) rfl) rfl) (rW (c := (-2147483648)) (d := 2147483647) (rR (x := 0)) rfl) fun μ23974 u23975 T23976 => ?_
          have Q23977 : quOK μ23974 1 z14 := quOK.init (vc_X12_tries_12 h23969 h27.1 h23970) (vc_X12_tries_13 h23969 h27.1 h23970) u23972 u23975
          refine mr_iinc (pc := 63) (lv' := [(3, iv 1), (0, .ref 106), (1, iv p1), (2, iv z14)]) dX12_tries_63 rfl (by decide) rfl ?_
          refine mr_iconst (pc := 66) (z := 0) dX12_tries_66 ?_
          refine mr_istore (pc := 67) (lv' := [(4, iv 0), (3, iv 1), (0, .ref 106), (1, iv p1), (2, iv z14)]) dX12_tries_67 (by decide) rfl ?_
          refine mr_ldc (pc := 69) (z := (-99999999)) dX12_tries_69 wG_X12_29 (by decide) ?_
          refine mr_istore (pc := 71) (lv' := [(5, iv (-99999999)), (4, iv 0), (3, iv 1), (0, .ref 106), (1, iv p1), (2, iv z14)]) dX12_tries_71 (by decide) rfl ?_
          refine mr_iconst (pc := 73) (z := 0) dX12_tries_73 ?_
          refine mr_istore (pc := 74) (lv' := [(6, iv 0), (5, iv (-99999999)), (4, iv 0), (3, iv 1), (0, .ref 106), (1, iv p1), (2, iv z14)]) dX12_tries_74 (by decide) rfl ?_
          have L36178 : ∀ (nL36178 : Nat) (z36176 z36175 z36174 z36173 : Int) (μ36177 : mM), mT w μ36177 → mF [188999, 189999, 190999, 191999] w μ23974 μ36177 → (1 ≤ z36176 ∧ z36176 ≤ 46656) → (0 ≤ z36175 ∧ z36175 ≤ 46656) → ((-2147483648) ≤ z36174 ∧ z36174 ≤ 2147483647) → (0 ≤ z36173 ∧ z36173 ≤ 46656) → (z36175 ≤ z36173) → (z36173 ≤ z36176) → quOK μ36177 z36176 z14 → (46657 - z36173) < (nL36178 : Int) → sV (gG l D c H0 sa) mX12_tries (sRm 3 0 0) (sZ (gG l D c H0 sa) 0 0 (qI w [187999, 188999, 189999, 190999, 191999] μ (fun z μ1 => ((-2147483648) ≤ z ∧ z ≤ 2147483647) ∧ True))) 76 [(0, .ref 106), (1, iv p1), (3, iv z36176), (4, iv z36175), (5, iv z36174), (6, iv z36173)] [] (mk w μ36177) 0 0 := by
            intro nL36178
            induction nL36178 with
            | zero => intro z36176 z36175 z36174 z36173 μ36177 T36183 F36184 h36179 h36180 h36181 h36182 h36186 h36187 R36188 h36189; exact ((vc_X12_tries_14 h36189 h36186 h36187 h36182 h36180 h36179)).elim
            | succ nL36178 ih36190 =>
              intro z36176 z36175 z36174 z36173 μ36177 T36183 F36184 h36179 h36180 h36181 h36182 h36186 h36187 R36188 h36189
              refine mr_iload (pc := 76) (z := z36173) dX12_tries_76 rfl ?_
              refine mr_iload_n (pc := 78) (z := z36176) dX12_tries_78 rfl rfl ?_
              refine mr_icmp_ge (pc := 79) (tgt := 240) dX12_tries_79 (by decide) (r32 h36182 rfl) (r32 h36179 rfl) (fun h36331 => ?_) (fun h36331 => ?_)
              · have h36332 : 1 ≤ z36173 ∧ z36173 ≤ 46656 := (vc_X12_tries_15 h36331 h36186 h36187 h36182 h36180 h36179)
                refine mr_iload_n (pc := 240) (z := p1) dX12_tries_240 rfl rfl ?_
                refine mr_if_ne (pc := 241) (tgt := 246) dX12_tries_241 (by decide) (r32 h9 rfl) (fun h36333 => ?_) (fun h36333 => ?_)
                · have h36334 : 1 ≤ p1 ∧ p1 ≤ 3 := (vc_X12_tries_16 h36333 h4.2.1 h4.2.2.1 h8 h9 h7)
                  refine mr_iload_n (pc := 246) (z := p1) dX12_tries_246 rfl rfl ?_
                  refine mr_iconst (pc := 247) (z := 1) dX12_tries_247 ?_
                  refine mr_icmp_ne (pc := 248) (tgt := 254) dX12_tries_248 (by decide) (r32 h36334 rfl) (r32 (rR (x := 1)) rfl) (fun h36335 => ?_) (fun h36335 => ?_)
                  · have h36336 : 2 ≤ p1 ∧ p1 ≤ 3 := (vc_X12_tries_17 h36335 h4.2.1 h4.2.2.1 h8 h36333 h36334 h7)
                    refine mr_iload_n (pc := 254) (z := p1) dX12_tries_254 rfl rfl ?_
                    refine mr_iconst (pc := 255) (z := 3) dX12_tries_255 ?_
                    refine mr_icmp_ne (pc := 256) (tgt := 262) dX12_tries_256 (by decide) (r32 h36336 rfl) (r32 (rR (x := 3)) rfl) (fun h36337 => ?_) (fun h36337 => ?_)
                    · have h36338 : 2 ≤ p1 ∧ p1 ≤ 2 := (vc_X12_tries_18 h36337 h4.2.1 h4.2.2.1 h8 h36333 h36335 h36336 h7)
                      refine mr_iconst (pc := 262) (z := 1) dX12_tries_262 ?_
                      refine mr_istore (pc := 263) (lv' := [(6, iv 1), (0, .ref 106), (1, iv p1), (3, iv z36176), (4, iv z36175), (5, iv z36174)]) dX12_tries_263 (by decide) rfl ?_
                      have L37190 : ∀ (nL37190 : Nat) (z37188 : Int) (μ37189 : mM) (f_k : Int), mT w μ37189 → mF [188999, 191999] w μ36177 μ37189 → cnt μ37189 191 46656 = f_k → (0 ≤ z37188 ∧ z37188 ≤ 1) → ((2 * (46656 - f_k)) + z37188) < (nL37190 : Int) → sV (gG l D c H0 sa) mX12_tries (sRm 3 0 0) (sZ (gG l D c H0 sa) 0 0 (qI w [187999, 188999, 189999, 190999, 191999] μ (fun z μ1 => ((-2147483648) ≤ z ∧ z ≤ 2147483647) ∧ True))) 265 [(0, .ref 106), (3, iv z36176), (6, iv z37188)] [] (mk w μ37189) 0 0 := by
                        intro nL37190
                        induction nL37190 with
                        | zero => intro z37188 μ37189 f_k T37192 F37193 q37196 h37191 h37195; exact ((vc_X12_tries_19 h37195 (by rw [← q37196]; exact cnt_rng (fun i => T37192 191 191 (A_191 hw) i) 46656) h37191)).elim
                        | succ nL37190 ih37197 =>
                          intro z37188 μ37189 f_k T37192 F37193 q37196 h37191 h37195
                          have h37198 : 0 ≤ f_k ∧ f_k ≤ 46656 := by rw [← q37196]; exact cnt_rng (fun i => T37192 191 191 (A_191 hw) i) 46656
                          refine mr_iload (pc := 265) (z := z37188) dX12_tries_265 rfl ?_
                          refine mr_if_eq (pc := 267) (tgt := 405) dX12_tries_267 (by decide) (r32 h37191 rfl) (fun h37461 => ?_) (fun h37461 => ?_)
                          · have h37462 : 0 ≤ z37188 ∧ z37188 ≤ 0 := (vc_X12_ring_22 h37461 h37191)
                            refine mr_iconst (pc := 405) (z := 0) dX12_tries_405 ?_
                            refine mr_istore (pc := 406) (lv' := [(7, iv 0), (0, .ref 106), (3, iv z36176), (6, iv z37188)]) dX12_tries_406 (by decide) rfl ?_
                            refine mr_iconst (pc := 408) (z := 0) dX12_tries_408 ?_
                            refine mr_istore (pc := 409) (lv' := [(8, iv 0), (7, iv 0), (0, .ref 106), (3, iv z36176), (6, iv z37188)]) dX12_tries_409 (by decide) rfl ?_
                            have L37687 : ∀ (nL37687 : Nat) (z37686 z37685 : Int), True → ((-2147483648) ≤ z37686 ∧ z37686 ≤ 2147483647) → (0 ≤ z37685 ∧ z37685 ≤ 46656) → (46657 - z37685) < (nL37687 : Int) → sV (gG l D c H0 sa) mX12_tries (sRm 3 0 0) (sZ (gG l D c H0 sa) 0 0 (qI w [187999, 188999, 189999, 190999, 191999] μ (fun z μ1 => ((-2147483648) ≤ z ∧ z ≤ 2147483647) ∧ True))) 411 [(0, .ref 106), (3, iv z36176), (7, iv z37686), (8, iv z37685)] [] (mk w μ37189) 0 0 := by
                              intro nL37687
                              induction nL37687 with
                              | zero => intro z37686 z37685 _ h37688 h37689 h37693; exact ((vc_X12_rests_7 h37693 h37689)).elim
                              | succ nL37687 ih37694 =>
                                intro z37686 z37685 _ h37688 h37689 h37693
                                refine mr_iload (pc := 411) (z := z37685) dX12_tries_411 rfl ?_
                                refine mr_iload_n (pc := 413) (z := z36176) dX12_tries_413 rfl rfl ?_
                                refine mr_icmp_ge (pc := 414) (tgt := 448) dX12_tries_414 (by decide) (r32 h37689 rfl) (r32 h36179 rfl) (fun h37707 => ?_) (fun h37707 => ?_)
                                · have h37708 : 1 ≤ z37685 ∧ z37685 ≤ 46656 := (vc_X12_tries_22 h37707 h36187 h36331 h36332 h36179 h37689)
                                  refine mr_iload (pc := 448) (z := z37686) dX12_tries_448 rfl ?_
                                  exact mr_iret dX12_tries_450 rfl (le_t rfl) (le_t rfl) T37192 (mF.call (mF.call (mF.up (mF.up (mF.call (mF.call mF.refl F12 rfl) F23957 rfl) (A_190 hw) u23972 rfl) (A_189 hw) u23975 rfl) F36184 rfl) F37193 rfl) ⟨h37688, trivial⟩
                                have h37709 : 0 ≤ z37685 ∧ z37685 ≤ 46655 := (vc_X12_tries_23 h37707 h36187 h36331 h36332 h36179 h37689)
                                refine mr_iload (pc := 417) (z := z37686) dX12_tries_417 rfl ?_
                                refine sv_aload_n (pc := 419) dX12_tries_419 rfl rfl ?_
                                refine gf_X12_125 (pc := 420) dX12_tries_420 wF_X12_536 (A_106 hw) T37192 ?_
                                refine sv_aload_n (pc := 423) dX12_tries_423 rfl rfl ?_
                                refine gf_X12_124 (pc := 424) dX12_tries_424 wF_X12_533 (A_106 hw) T37192 ?_
                                refine mr_iload (pc := 427) (z := z37685) dX12_tries_427 rfl ?_
                                refine la_190 (pc := 429) dX12_tries_429 (A_190 hw) T37192 (rIx (n := 46656) h37709 rfl) fun z37710 q37711 h37712 => ?_
                                refine la_191 (pc := 430) dX12_tries_430 (A_191 hw) T37192 (rIx (n := 46656) h37712 rfl) fun z37713 q37714 h37715 => ?_
                                refine mr_if_eq (pc := 431) (tgt := 438) dX12_tries_431 (by decide) (r32 h37715 rfl) (fun h37718 => ?_) (fun h37718 => ?_)
                                · have h37719 : 0 ≤ z37713 ∧ z37713 ≤ 0 := (vc_X12_ring_22 h37718 h37715)
                                  refine mr_iconst (pc := 438) (z := 1) dX12_tries_438 ?_
                                  refine mr_iadd (pc := 439) (x := z37686) (y := 1) dX12_tries_439 ?_
                                  refine mr_wrap fun z37720 h37721 => ?_
                                  refine mr_istore (pc := 440) (lv' := [(7, iv z37720), (0, .ref 106), (3, iv z36176), (8, iv z37685)]) dX12_tries_440 (by decide) rfl ?_
                                  refine mr_iinc (pc := 442) (lv' := [(8, iv (z37685 + 1)), (7, iv z37720), (0, .ref 106), (3, iv z36176)]) dX12_tries_442 rfl (by decide) rfl ?_
                                  refine sv_goto (pc := 445) (tgt := 411) dX12_tries_445 (by decide) ?_
                                  refine mr_lvS (lv' := [(0, .ref 106), (3, iv z36176), (7, iv z37720), (8, iv (z37685 + 1))]) (List.forall_mem_cons.mpr ⟨rfl, List.forall_mem_cons.mpr ⟨rfl, List.forall_mem_cons.mpr ⟨rfl, List.forall_mem_cons.mpr ⟨rfl, fun _ h => absurd h List.not_mem_nil⟩⟩⟩⟩) ?_
                                  exact ih37694 z37720 (z37685 + 1) trivial h37721 (rW (c := 0) (d := 46656) (rAdd (e := 1) (f := 46656) h37709 (rR (x := 1)) rfl) rfl) (vc_X12_tries_25 (nS h37693) h37707 h36187 h36331 h36332 h36179 h37709)
                                have h37722 : 1 ≤ z37713 ∧ z37713 ≤ 1 := (vc_X12_ring_24 h37718 h37715)
                                refine mr_iconst (pc := 434) (z := 0) dX12_tries_434 ?_
                                refine sv_goto (pc := 435) (tgt := 439) dX12_tries_435 (by decide) ?_
                                refine mr_iadd (pc := 439) (x := z37686) (y := 0) dX12_tries_439 ?_
                                refine mr_istore (pc := 440) (lv' := [(7, iv (z37686 + 0)), (0, .ref 106), (3, iv z36176), (8, iv z37685)]) dX12_tries_440 (by decide) rfl ?_
                                refine mr_iinc (pc := 442) (lv' := [(8, iv (z37685 + 1)), (7, iv (z37686 + 0)), (0, .ref 106), (3, iv z36176)]) dX12_tries_442 rfl (by decide) rfl ?_
                                refine sv_goto (pc := 445) (tgt := 411) dX12_tries_445 (by decide) ?_
                                refine mr_lvS (lv' := [(0, .ref 106), (3, iv z36176), (7, iv (z37686 + 0)), (8, iv (z37685 + 1))]) (List.forall_mem_cons.mpr ⟨rfl, List.forall_mem_cons.mpr ⟨rfl, List.forall_mem_cons.mpr ⟨rfl, List.forall_mem_cons.mpr ⟨rfl, fun _ h => absurd h List.not_mem_nil⟩⟩⟩⟩) ?_
                                exact ih37694 (z37686 + 0) (z37685 + 1) trivial (rAdd (e := (-2147483648)) (f := 2147483647) h37688 (rR (x := 0)) rfl) (rW (c := 0) (d := 46656) (rAdd (e := 1) (f := 46656) h37709 (rR (x := 1)) rfl) rfl) (vc_X12_tries_25 (nS h37693) h37707 h36187 h36331 h36332 h36179 h37709)
                            refine mr_lvS (lv' := [(0, .ref 106), (3, iv z36176), (7, iv 0), (8, iv 0)]) (List.forall_mem_cons.mpr ⟨rfl, List.forall_mem_cons.mpr ⟨rfl, List.forall_mem_cons.mpr ⟨rfl, List.forall_mem_cons.mpr ⟨rfl, fun _ h => absurd h List.not_mem_nil⟩⟩⟩⟩) ?_
                            exact L37687 46658 0 0 trivial (rW (c := (-2147483648)) (d := 2147483647) (rR (x := 0)) rfl) (rW (c := 0) (d := 46656) (rR (x := 0)) rfl) vc_X12_rests_19
                          have h37723 : 1 ≤ z37188 ∧ z37188 ≤ 1 := (vc_X12_ring_24 h37461 h37191)
                          refine mr_iconst (pc := 270) (z := 0) dX12_tries_270 ?_
                          refine mr_istore (pc := 271) (lv' := [(6, iv 0), (0, .ref 106), (3, iv z36176)]) dX12_tries_271 (by decide) rfl ?_
                          refine mr_iload_n (pc := 273) (z := z36176) dX12_tries_273 rfl rfl ?_
                          refine mr_iconst (pc := 274) (z := 1) dX12_tries_274 ?_
                          refine mr_isub (pc := 275) (x := z36176) (y := 1) dX12_tries_275 ?_
                          refine mr_istore (pc := 276) (lv' := [(7, iv (z36176 - 1)), (6, iv 0), (0, .ref 106), (3, iv z36176)]) dX12_tries_276 (by decide) rfl ?_
                          have L38111 : ∀ (nL38111 : Nat) (z38109 z38108 : Int) (μ38110 : mM) (f_k2 : Int), mT w μ38110 → mF [188999, 191999] w μ37189 μ38110 → cnt μ38110 191 46656 = f_k2 → (0 ≤ z38109 ∧ z38109 ≤ 1) → ((-1) ≤ z38108 ∧ z38108 ≤ 46655) → (f_k ≤ f_k2) → (z38109 = 0 ∨ f_k + 1 ≤ f_k2) → (z38108 < z36176) → (z38108 - (-2)) < (nL38111 : Int) → sV (gG l D c H0 sa) mX12_tries (sRm 3 0 0) (sZ (gG l D c H0 sa) 0 0 (qI w [187999, 188999, 189999, 190999, 191999] μ (fun z μ1 => ((-2147483648) ≤ z ∧ z ≤ 2147483647) ∧ True))) 278 [(0, .ref 106), (3, iv z36176), (6, iv z38109), (7, iv z38108)] [] (mk w μ38110) 0 0 := by
                            intro nL38111
                            induction nL38111 with
                            | zero => intro z38109 z38108 μ38110 f_k2 T38114 F38115 q38121 h38112 h38113 h38117 h38118 h38119 h38120; exact ((vc_X12_tries_29 h38120 (by rw [← q38121]; exact cnt_rng (fun i => T38114 191 191 (A_191 hw) i) 46656) h38117 h38118 h38119 h36187 h36331 h37198 h36332 h36179 h38113 h38112)).elim
                            | succ nL38111 ih38122 =>
                              intro z38109 z38108 μ38110 f_k2 T38114 F38115 q38121 h38112 h38113 h38117 h38118 h38119 h38120
                              have h38123 : 0 ≤ f_k2 ∧ f_k2 ≤ 46656 := by rw [← q38121]; exact cnt_rng (fun i => T38114 191 191 (A_191 hw) i) 46656
                              refine mr_iload (pc := 278) (z := z38108) dX12_tries_278 rfl ?_
                              refine mr_if_lt (pc := 280) (tgt := 402) dX12_tries_280 (by decide) (r32 h38113 rfl) (fun h38247 => ?_) (fun h38247 => ?_)
                              · have h38248 : (-1) ≤ z38108 ∧ z38108 ≤ (-1) := (vc_X12_tries_30 h38247 h38119 h36179 h38113)
                                refine sv_goto (pc := 402) (tgt := 265) dX12_tries_402 (by decide) ?_
                                refine mr_lvS (lv' := [(0, .ref 106), (3, iv z36176), (6, iv z38109)]) (List.forall_mem_cons.mpr ⟨rfl, List.forall_mem_cons.mpr ⟨rfl, List.forall_mem_cons.mpr ⟨rfl, fun _ h => absurd h List.not_mem_nil⟩⟩⟩) ?_
                                exact ih37197 z38109 μ38110 f_k2 T38114 (mF.call (mF.call mF.refl F37193 rfl) F38115 rfl) q38121 h38112 (vc_X12_tries_31 (nS h37195) h37461 h38117 h38118 h37198 h38123 h37723 h38112)
                              have h38249 : 0 ≤ z38108 ∧ z38108 ≤ 46655 := (vc_X12_tries_32 h38247 h38119 h36179 h38113)
                              refine sv_aload_n (pc := 283) dX12_tries_283 rfl rfl ?_
                              refine gf_X12_124 (pc := 284) dX12_tries_284 wF_X12_533 (A_106 hw) T38114 ?_
                              refine mr_iload (pc := 287) (z := z38108) dX12_tries_287 rfl ?_
                              refine la_190 (pc := 289) dX12_tries_289 (A_190 hw) T38114 (rIx (n := 46656) h38249 rfl) fun z38250 q38251 h38252 => ?_
                              have h38253 : 0 ≤ z38250 ∧ z38250 < z14 := quOK.st (quOK.keep R36188 hw ((mF.call (mF.call mF.refl F37193 rfl) F38115 rfl) : mF [188999, 191999] w μ36177 μ38110) rfl) (vc_X12_tries_33 h38119 h38247 h36187 h36331 h36332 h36179 h38249) (vc_X12_tries_34 h36187 h36331 h38119 h38247 h36186 h36332 h36180 h36179 h38249) q38251
                              refine mr_istore (pc := 290) (lv' := [(8, iv z38250), (0, .ref 106), (3, iv z36176), (6, iv z38109), (7, iv z38108)]) dX12_tries_290 (by decide) rfl ?_
                              refine sv_aload_n (pc := 292) dX12_tries_292 rfl rfl ?_
                              refine gf_X12_125 (pc := 293) dX12_tries_293 wF_X12_536 (A_106 hw) T38114 ?_
                              refine mr_iload (pc := 296) (z := z38250) dX12_tries_296 rfl ?_
                              refine la_191 (pc := 298) dX12_tries_298 (A_191 hw) T38114 (rIx (n := 46656) h38252 rfl) fun z38254 q38255 h38256 => ?_
                              refine mr_if_eq (pc := 299) (tgt := 305) dX12_tries_299 (by decide) (r32 h38256 rfl) (fun h38372 => ?_) (fun h38372 => ?_)
                              · have h38373 : 0 ≤ z38254 ∧ z38254 ≤ 0 := (vc_X12_ring_22 h38372 h38256)
                                refine sv_aload_n (pc := 305) dX12_tries_305 rfl rfl ?_
                                refine mr_iload (pc := 306) (z := z38250) dX12_tries_306 rfl ?_
                                obtain ⟨z38374, q38375⟩ : ∃ z, μ38110 184 ((1 : Int).toNat) = z := ⟨_, rfl⟩
                                have h38376 : (0 ≤ z38374 ∧ z38374 ≤ 5) := by rw [← q38375]; exact T38114 184 184 (A_184 hw) ((1 : Int).toNat)
                                obtain ⟨z38377, q38378⟩ : ∃ z, μ38110 184 ((2 : Int).toNat) = z := ⟨_, rfl⟩
                                have h38379 : (0 ≤ z38377 ∧ z38377 ≤ 5) := by rw [← q38378]; exact T38114 184 184 (A_184 hw) ((2 : Int).toNat)
                                obtain ⟨z38380, q38381⟩ : ∃ z, μ38110 184 ((3 : Int).toNat) = z := ⟨_, rfl⟩
                                have h38382 : (0 ≤ z38380 ∧ z38380 ≤ 5) := by rw [← q38381]; exact T38114 184 184 (A_184 hw) ((3 : Int).toNat)
                                obtain ⟨z38383, q38384⟩ : ∃ z, μ38110 184 ((4 : Int).toNat) = z := ⟨_, rfl⟩
                                have h38385 : (0 ≤ z38383 ∧ z38383 ≤ 5) := by rw [← q38384]; exact T38114 184 184 (A_184 hw) ((4 : Int).toNat)
                                obtain ⟨z38386, q38387⟩ : ∃ z, μ38110 184 ((5 : Int).toNat) = z := ⟨_, rfl⟩
                                have h38388 : (0 ≤ z38386 ∧ z38386 ≤ 5) := by rw [← q38387]; exact T38114 184 184 (A_184 hw) ((5 : Int).toNat)
                                obtain ⟨z38389, q38390⟩ : ∃ z, μ38110 184 ((6 : Int).toNat) = z := ⟨_, rfl⟩
                                have h38391 : (0 ≤ z38389 ∧ z38389 ≤ 5) := by rw [← q38390]; exact T38114 184 184 (A_184 hw) ((6 : Int).toNat)
                                refine mr_cVV (pc := 308) (c_X12_open_r hw T38114 h38252 (F38115.f (A_187 hw) rfl (F37193.f (A_187 hw) rfl (F36184.f (A_187 hw) rfl (u23975.f (Or.inl (mAt.ne (A_189 hw) (A_187 hw) rfl)) (u23972.f (Or.inl (mAt.ne (A_190 hw) (A_187 hw) rfl)) (F23957.f (A_187 hw) rfl q16)))))) (F38115.f (A_187 hw) rfl (F37193.f (A_187 hw) rfl (F36184.f (A_187 hw) rfl (u23975.f (Or.inl (mAt.ne (A_189 hw) (A_187 hw) rfl)) (u23972.f (Or.inl (mAt.ne (A_190 hw) (A_187 hw) rfl)) (F23957.f (A_187 hw) rfl q18)))))) (F38115.f (A_187 hw) rfl (F37193.f (A_187 hw) rfl (F36184.f (A_187 hw) rfl (u23975.f (Or.inl (mAt.ne (A_189 hw) (A_187 hw) rfl)) (u23972.f (Or.inl (mAt.ne (A_190 hw) (A_187 hw) rfl)) (F23957.f (A_187 hw) rfl q20)))))) (F38115.f (A_187 hw) rfl (F37193.f (A_187 hw) rfl (F36184.f (A_187 hw) rfl (u23975.f (Or.inl (mAt.ne (A_189 hw) (A_187 hw) rfl)) (u23972.f (Or.inl (mAt.ne (A_190 hw) (A_187 hw) rfl)) (F23957.f (A_187 hw) rfl q22)))))) (F38115.f (A_187 hw) rfl (F37193.f (A_187 hw) rfl (F36184.f (A_187 hw) rfl (u23975.f (Or.inl (mAt.ne (A_189 hw) (A_187 hw) rfl)) (u23972.f (Or.inl (mAt.ne (A_190 hw) (A_187 hw) rfl)) (F23957.f (A_187 hw) rfl q24)))))) (F38115.f (A_187 hw) rfl (F37193.f (A_187 hw) rfl (F36184.f (A_187 hw) rfl (u23975.f (Or.inl (mAt.ne (A_189 hw) (A_187 hw) rfl)) (u23972.f (Or.inl (mAt.ne (A_190 hw) (A_187 hw) rfl)) (F23957.f (A_187 hw) rfl q26)))))) q38375 q38378 q38381 q38384 q38387 q38390 (vc_X12_isRest_7 h27.2.1 h34) (vc_X12_isRest_7 h27.2.2.1 h35) (vc_X12_isRest_7 h27.2.2.2.1 h36) (vc_X12_isRest_7 h27.2.2.2.2.1 h37) (vc_X12_isRest_7 h27.2.2.2.2.2.1 h38) (vc_X12_isRest_7 h27.2.2.2.2.2.2.1 h39)) (gOk _ _ _ _ _) dX12_tries_308 (tX12_open _ _ _ _ _) ⟨wV_X12_open, wL_X12_open⟩ wM_X12_722 (gCX12 _ _ _ _ _) rfl (A_106 hw) rfl ⟨le_t rfl, le_t rfl⟩ ⟨le_t rfl, le_t rfl⟩ rfl (le_t rfl) fun μ38392 T38393 F38394 h38395 => ?_
                                obtain ⟨z38396, z38398, z38400, z38402, z38404, z38406, q38397, q38399, q38401, q38403, q38405, q38407, h38408⟩ := h38395
                                have h38409 : (0 ≤ z38396 ∧ z38396 ≤ 5) := by rw [← q38397]; exact T38393 188 188 (A_188 hw) ((1 : Int).toNat)
                                have h38410 : (0 ≤ z38398 ∧ z38398 ≤ 5) := by rw [← q38399]; exact T38393 188 188 (A_188 hw) ((2 : Int).toNat)
                                have h38411 : (0 ≤ z38400 ∧ z38400 ≤ 5) := by rw [← q38401]; exact T38393 188 188 (A_188 hw) ((3 : Int).toNat)
                                have h38412 : (0 ≤ z38402 ∧ z38402 ≤ 5) := by rw [← q38403]; exact T38393 188 188 (A_188 hw) ((4 : Int).toNat)
                                have h38413 : (0 ≤ z38404 ∧ z38404 ≤ 5) := by rw [← q38405]; exact T38393 188 188 (A_188 hw) ((5 : Int).toNat)
                                have h38414 : (0 ≤ z38406 ∧ z38406 ≤ 5) := by rw [← q38407]; exact T38393 188 188 (A_188 hw) ((6 : Int).toNat)
                                refine mr_iconst (pc := 311) (z := 1) dX12_tries_311 ?_
                                refine mr_istore (pc := 312) (lv' := [(9, iv 1), (8, iv z38250), (0, .ref 106), (3, iv z36176), (6, iv z38109), (7, iv z38108)]) dX12_tries_312 (by decide) rfl ?_
                                have L38681 : ∀ (nL38681 : Nat) (z38679 : Int) (μ38680 : mM) (f_k3 : Int) (f_hs : Int), mT w μ38680 → mF [191999] w μ38392 μ38680 → cnt μ38680 191 46656 = f_k3 → μ38680 191 (z38250.toNat) = f_hs → (1 ≤ z38679 ∧ z38679 ≤ 7) → (f_k3 = f_k2 + f_hs) → (8 - z38679) < (nL38681 : Int) → sV (gG l D c H0 sa) mX12_tries (sRm 3 0 0) (sZ (gG l D c H0 sa) 0 0 (qI w [187999, 188999, 189999, 190999, 191999] μ (fun z μ1 => ((-2147483648) ≤ z ∧ z ≤ 2147483647) ∧ True))) 314 [(0, .ref 106), (3, iv z36176), (6, iv z38109), (7, iv z38108), (8, iv z38250), (9, iv z38679)] [] (mk w μ38680) 0 0 := by
                                  intro nL38681
                                  induction nL38681 with
                                  | zero => intro z38679 μ38680 f_k3 f_hs T38683 F38684 q38688 q38689 h38682 h38686 h38687; exact ((vc_X12_tries_42 h38687 (by rw [← q38688]; exact cnt_rng (fun i => T38683 191 191 (A_191 hw) i) 46656) h38686 h38117 h38118 h37198 h38123 h38112 h38682)).elim
                                  | succ nL38681 ih38690 =>
                                    intro z38679 μ38680 f_k3 f_hs T38683 F38684 q38688 q38689 h38682 h38686 h38687
                                    have h38691 : 0 ≤ f_k3 ∧ f_k3 ≤ 46656 := by rw [← q38688]; exact cnt_rng (fun i => T38683 191 191 (A_191 hw) i) 46656
                                    have h38692 : (0 ≤ f_hs ∧ f_hs ≤ 1) := by rw [← q38689]; exact T38683 191 191 (A_191 hw) (z38250.toNat)
                                    refine mr_iload (pc := 314) (z := z38679) dX12_tries_314 rfl ?_
                                    refine mr_bipush (pc := 316) (z := 6) dX12_tries_316 (by decide) ?_
                                    have J38720 : sV (gG l D c H0 sa) mX12_tries (sRm 3 0 0) (sZ (gG l D c H0 sa) 0 0 (qI w [187999, 188999, 189999, 190999, 191999] μ (fun z μ1 => ((-2147483648) ≤ z ∧ z ≤ 2147483647) ∧ True))) 374 [(0, .ref 106), (3, iv z36176), (6, iv z38109), (7, iv z38108), (8, iv z38250)] [] (mk w μ38680) 0 0 := by
                                      refine mr_iload (pc := 374) (z := z38109) dX12_tries_374 rfl ?_
                                      refine mr_if_ne (pc := 376) (tgt := 389) dX12_tries_376 (by decide) (r32 h38112 rfl) (fun h38721 => ?_) (fun h38721 => ?_)
                                      · have h38722 : 1 ≤ z38109 ∧ z38109 ≤ 1 := (vc_X12_tries_43 h38721 h38118 h37198 h38123 h38112)
                                        refine mr_iconst (pc := 389) (z := 1) dX12_tries_389 ?_
                                        refine sv_goto (pc := 390) (tgt := 394) dX12_tries_390 (by decide) ?_
                                        refine mr_istore (pc := 394) (lv' := [(6, iv 1), (0, .ref 106), (3, iv z36176), (7, iv z38108), (8, iv z38250)]) dX12_tries_394 (by decide) rfl ?_
                                        refine mr_iinc (pc := 396) (lv' := [(7, iv (z38108 + (-1))), (6, iv 1), (0, .ref 106), (3, iv z36176), (8, iv z38250)]) dX12_tries_396 rfl (by decide) rfl ?_
                                        refine sv_goto (pc := 399) (tgt := 278) dX12_tries_399 (by decide) ?_
                                        refine mr_lvS (lv' := [(0, .ref 106), (3, iv z36176), (6, iv 1), (7, iv (z38108 + (-1)))]) (List.forall_mem_cons.mpr ⟨rfl, List.forall_mem_cons.mpr ⟨rfl, List.forall_mem_cons.mpr ⟨rfl, List.forall_mem_cons.mpr ⟨rfl, fun _ h => absurd h List.not_mem_nil⟩⟩⟩⟩) ?_
                                        exact ih38122 1 (z38108 + (-1)) μ38680 f_k3 T38683 (mF.call (mF.call (mF.call mF.refl F38115 rfl) F38394 rfl) F38684 rfl) q38688 (rW (c := 0) (d := 1) (rR (x := 1)) rfl) (rW (c := (-1)) (d := 46655) (rAdd (e := (-1)) (f := 46654) h38249 (rR (x := (-1))) rfl) rfl) (vc_X12_tries_44 h38117 h38118 h38686 h38721 h38692 h37198 h38123 h38691 h38722) (vc_X12_tries_45 h38117 h38118 h38686 h38721 h38692 h37198 h38123 h38691 h38722) (vc_X12_tries_46 h36187 h36331 h38119 h38247 h36186 h36332 h36180 h36179 h38249) (vc_X12_tries_47 (nS h38120) h38119 h38247 h36187 h36331 h36332 h36179 h38249)
                                      have h38723 : 0 ≤ z38109 ∧ z38109 ≤ 0 := (vc_X12_tries_48 h38721 h38118 h37198 h38123 h38112)
                                      refine sv_aload_n (pc := 379) dX12_tries_379 rfl rfl ?_
                                      refine gf_X12_125 (pc := 380) dX12_tries_380 wF_X12_536 (A_106 hw) T38683 ?_
                                      refine mr_iload (pc := 383) (z := z38250) dX12_tries_383 rfl ?_
                                      refine lk_191 (pc := 385) dX12_tries_385 (A_191 hw) (rIx (n := 46656) h38252 rfl) q38689 ?_
                                      refine mr_if_eq (pc := 386) (tgt := 393) dX12_tries_386 (by decide) (r32 h38692 rfl) (fun h38724 => ?_) (fun h38724 => ?_)
                                      · have h38725 : 0 ≤ f_hs ∧ f_hs ≤ 0 := (vc_X12_tries_49 h38724 h38686 h38692 h38123 h38691)
                                        refine mr_iconst (pc := 393) (z := 0) dX12_tries_393 ?_
                                        refine mr_istore (pc := 394) (lv' := [(6, iv 0), (0, .ref 106), (3, iv z36176), (7, iv z38108), (8, iv z38250)]) dX12_tries_394 (by decide) rfl ?_
                                        refine mr_iinc (pc := 396) (lv' := [(7, iv (z38108 + (-1))), (6, iv 0), (0, .ref 106), (3, iv z36176), (8, iv z38250)]) dX12_tries_396 rfl (by decide) rfl ?_
                                        refine sv_goto (pc := 399) (tgt := 278) dX12_tries_399 (by decide) ?_
                                        refine mr_lvS (lv' := [(0, .ref 106), (3, iv z36176), (6, iv 0), (7, iv (z38108 + (-1)))]) (List.forall_mem_cons.mpr ⟨rfl, List.forall_mem_cons.mpr ⟨rfl, List.forall_mem_cons.mpr ⟨rfl, List.forall_mem_cons.mpr ⟨rfl, fun _ h => absurd h List.not_mem_nil⟩⟩⟩⟩) ?_
                                        exact ih38122 0 (z38108 + (-1)) μ38680 f_k3 T38683 (mF.call (mF.call (mF.call mF.refl F38115 rfl) F38394 rfl) F38684 rfl) q38688 (rW (c := 0) (d := 1) (rR (x := 0)) rfl) (rW (c := (-1)) (d := 46655) (rAdd (e := (-1)) (f := 46654) h38249 (rR (x := (-1))) rfl) rfl) (vc_X12_tries_50 h38117 h38118 h38686 h38721 h38724 h38725 h37198 h38123 h38691 h38723) (vc_X12_tries_51 h38117 h38118 h38686 h38721 h38724 h38725 h37198 h38123 h38691 h38723) (vc_X12_tries_46 h36187 h36331 h38119 h38247 h36186 h36332 h36180 h36179 h38249) (vc_X12_tries_47 (nS h38120) h38119 h38247 h36187 h36331 h36332 h36179 h38249)
                                      have h38726 : 1 ≤ f_hs ∧ f_hs ≤ 1 := (vc_X12_tries_52 h38724 h38686 h38692 h38123 h38691)
                                      refine mr_iconst (pc := 389) (z := 1) dX12_tries_389 ?_
                                      refine sv_goto (pc := 390) (tgt := 394) dX12_tries_390 (by decide) ?_
                                      refine mr_istore (pc := 394) (lv' := [(6, iv 1), (0, .ref 106), (3, iv z36176), (7, iv z38108), (8, iv z38250)]) dX12_tries_394 (by decide) rfl ?_
                                      refine mr_iinc (pc := 396) (lv' := [(7, iv (z38108 + (-1))), (6, iv 1), (0, .ref 106), (3, iv z36176), (8, iv z38250)]) dX12_tries_396 rfl (by decide) rfl ?_
                                      refine sv_goto (pc := 399) (tgt := 278) dX12_tries_399 (by decide) ?_
                                      refine mr_lvS (lv' := [(0, .ref 106), (3, iv z36176), (6, iv 1), (7, iv (z38108 + (-1)))]) (List.forall_mem_cons.mpr ⟨rfl, List.forall_mem_cons.mpr ⟨rfl, List.forall_mem_cons.mpr ⟨rfl, List.forall_mem_cons.mpr ⟨rfl, fun _ h => absurd h List.not_mem_nil⟩⟩⟩⟩) ?_
                                      exact ih38122 1 (z38108 + (-1)) μ38680 f_k3 T38683 (mF.call (mF.call (mF.call mF.refl F38115 rfl) F38394 rfl) F38684 rfl) q38688 (rW (c := 0) (d := 1) (rR (x := 1)) rfl) (rW (c := (-1)) (d := 46655) (rAdd (e := (-1)) (f := 46654) h38249 (rR (x := (-1))) rfl) rfl) (vc_X12_tries_53 h38117 h38118 h38686 h38721 h38724 h38726 h37198 h38123 h38691 h38723) (vc_X12_tries_54 h38117 h38118 h38686 h38721 h38724 h38726 h37198 h38123 h38691 h38723) (vc_X12_tries_46 h36187 h36331 h38119 h38247 h36186 h36332 h36180 h36179 h38249) (vc_X12_tries_47 (nS h38120) h38119 h38247 h36187 h36331 h36332 h36179 h38249)
                                    refine mr_icmp_gt (pc := 318) (tgt := 374) dX12_tries_318 (by decide) (r32 h38682 rfl) (r32 (rR (x := 6)) rfl) (fun h38727 => ?_) (fun h38727 => ?_)
                                    · have h38728 : 7 ≤ z38679 ∧ z38679 ≤ 7 := (vc_X12_clear_2 h38727 h38682)
                                      refine mr_lvS (lv' := [(0, .ref 106), (3, iv z36176), (6, iv z38109), (7, iv z38108), (8, iv z38250)]) (List.forall_mem_cons.mpr ⟨rfl, List.forall_mem_cons.mpr ⟨rfl, List.forall_mem_cons.mpr ⟨rfl, List.forall_mem_cons.mpr ⟨rfl, List.forall_mem_cons.mpr ⟨rfl, fun _ h => absurd h List.not_mem_nil⟩⟩⟩⟩⟩) ?_
                                      exact J38720 
                                    have h38729 : 1 ≤ z38679 ∧ z38679 ≤ 6 := (vc_X12_clear_3 h38727 h38682)
                                    refine sv_aload_n (pc := 321) dX12_tries_321 rfl rfl ?_
                                    refine gf_X12_125 (pc := 322) dX12_tries_322 wF_X12_536 (A_106 hw) T38683 ?_
                                    refine mr_iload (pc := 325) (z := z38250) dX12_tries_325 rfl ?_
                                    refine lk_191 (pc := 327) dX12_tries_327 (A_191 hw) (rIx (n := 46656) h38252 rfl) q38689 ?_
                                    refine mr_if_ne (pc := 328) (tgt := 374) dX12_tries_328 (by decide) (r32 h38692 rfl) (fun h38730 => ?_) (fun h38730 => ?_)
                                    · have h38731 : 1 ≤ f_hs ∧ f_hs ≤ 1 := (vc_X12_tries_52 h38730 h38686 h38692 h38123 h38691)
                                      refine mr_lvS (lv' := [(0, .ref 106), (3, iv z36176), (6, iv z38109), (7, iv z38108), (8, iv z38250)]) (List.forall_mem_cons.mpr ⟨rfl, List.forall_mem_cons.mpr ⟨rfl, List.forall_mem_cons.mpr ⟨rfl, List.forall_mem_cons.mpr ⟨rfl, List.forall_mem_cons.mpr ⟨rfl, fun _ h => absurd h List.not_mem_nil⟩⟩⟩⟩⟩) ?_
                                      exact J38720 
                                    have h38732 : 0 ≤ f_hs ∧ f_hs ≤ 0 := (vc_X12_tries_49 h38730 h38686 h38692 h38123 h38691)
                                    refine sv_aload_n (pc := 331) dX12_tries_331 rfl rfl ?_
                                    refine gf_X12_125 (pc := 332) dX12_tries_332 wF_X12_536 (A_106 hw) T38683 ?_
                                    refine mr_iload (pc := 335) (z := z38250) dX12_tries_335 rfl ?_
                                    refine sv_aload_n (pc := 337) dX12_tries_337 rfl rfl ?_
                                    refine gf_X12_125 (pc := 338) dX12_tries_338 wF_X12_536 (A_106 hw) T38683 ?_
                                    refine mr_iload (pc := 341) (z := z38250) dX12_tries_341 rfl ?_
                                    refine sv_aload_n (pc := 343) dX12_tries_343 rfl rfl ?_
                                    refine mr_iload (pc := 344) (z := z38679) dX12_tries_344 rfl ?_
                                    obtain ⟨z38733, q38734⟩ : ∃ z, μ38680 184 (z38679.toNat) = z := ⟨_, rfl⟩
                                    have h38735 : (0 ≤ z38733 ∧ z38733 ≤ 5) := by rw [← q38734]; exact T38683 184 184 (A_184 hw) (z38679.toNat)
                                    refine mr_cVP (pc := 346) (c_X12_acted_v hw T38683 h38729 (F38684.f (A_188 hw) rfl q38397) (F38684.f (A_188 hw) rfl q38399) (F38684.f (A_188 hw) rfl q38401) (F38684.f (A_188 hw) rfl q38403) (F38684.f (A_188 hw) rfl q38405) (F38684.f (A_188 hw) rfl q38407) (F38684.f (A_184 hw) rfl (F38394.f (A_184 hw) rfl q38375)) (F38684.f (A_184 hw) rfl (F38394.f (A_184 hw) rfl q38378)) (F38684.f (A_184 hw) rfl (F38394.f (A_184 hw) rfl q38381)) (F38684.f (A_184 hw) rfl (F38394.f (A_184 hw) rfl q38384)) (F38684.f (A_184 hw) rfl (F38394.f (A_184 hw) rfl q38387)) (F38684.f (A_184 hw) rfl (F38394.f (A_184 hw) rfl q38390)) q38734 (vc_X12_isRest_18 h38408.1 h38376 h38409) (vc_X12_isRest_18 h38408.2.1 h38379 h38410) (vc_X12_isRest_18 h38408.2.2.1 h38382 h38411) (vc_X12_isRest_18 h38408.2.2.2.1 h38385 h38412) (vc_X12_isRest_18 h38408.2.2.2.2.1 h38388 h38413) (vc_X12_isRest_18 h38408.2.2.2.2.2.1 h38391 h38414)) (gOk _ _ _ _ _) dX12_tries_346 (tX12_acted _ _ _ _ _) ⟨wV_X12_acted, wL_X12_acted⟩ wM_X12_725 (gCX12 _ _ _ _ _) rfl (A_106 hw) rfl ⟨le_t rfl, le_t rfl⟩ ⟨le_t rfl, le_t rfl⟩ rfl (le_t rfl) fun z38740 h38739 => ?_
                                    refine sv_aload_n (pc := 349) dX12_tries_349 rfl rfl ?_
                                    refine gf_X12_122 (pc := 350) dX12_tries_350 wF_X12_526 (A_106 hw) T38683 ?_
                                    refine mr_iload (pc := 353) (z := z38679) dX12_tries_353 rfl ?_
                                    refine la_188 (pc := 355) dX12_tries_355 (A_188 hw) T38683 (rIx (n := 7) h38729 rfl) fun z38741 q38742 h38743 => ?_
                                    refine mr_isub (pc := 356) (x := z38740) (y := z38741) dX12_tries_356 ?_
                                    refine sv_aload_n (pc := 357) dX12_tries_357 rfl rfl ?_
                                    refine gf_X12_121 (pc := 358) dX12_tries_358 wF_X12_523 (A_106 hw) T38683 ?_
                                    refine mr_iload (pc := 361) (z := z38679) dX12_tries_361 rfl ?_
                                    refine la_187 (pc := 363) dX12_tries_363 (A_187 hw) T38683 (rIx (n := 8) h38729 rfl) fun z38744 q38745 h38746 => ?_
                                    refine mr_imul (pc := 364) (x := (z38740 - z38741)) (y := z38744) dX12_tries_364 ?_
                                    refine mr_gen (P := fun z => (-233280) ≤ z ∧ z ≤ 233280) (rMulS (m := 5) (k := 46656) (e := 233280) (rSub (e := (-5)) (f := 5) h38739.1 h38743 rfl) h38746 (by decide) rfl) fun z38747 q38748 h38749 => ?_
                                    refine mr_iadd (pc := 365) (x := z38250) (y := z38747) dX12_tries_365 ?_
                                    have h38750 : 0 ≤ (z38250 + z38747) ∧ (z38250 + z38747) < z14 := net_t (radix.keep h27.2.2.2.2.2.2.2.1 ((mF.call (mF.call (mF.call (mF.call (mF.call (mF.up (mF.up (mF.call mF.refl F23957 rfl) (A_190 hw) u23972 rfl) (A_189 hw) u23975 rfl) F36184 rfl) F37193 rfl) F38115 rfl) F38394 rfl) F38684 rfl) : mF [188999, 189999, 190999, 191999] w μ10 μ38680) (A_187 hw) (A_184 hw) (fun _ => rfl) (fun _ => rfl)) (digs.keep h38408.2.2.2.2.2.2.1 ((mF.call mF.refl F38684 rfl) : mF [191999] w μ38392 μ38680) (A_188 hw) (A_187 hw) (A_184 hw) (fun _ => rfl) (fun _ => rfl) (fun _ => rfl)) (vc_X12_tries_63 h38727 h38729) (vc_X12_tries_64 h23969 h38253 h27.1 h23970 h38252) q38745 q38734 q38742 (vc_X12_tries_65 h38739.2.1 h38735 h38739.1) (vc_X12_tries_66 h38739.2.1 h38735 h38739.1) q38748
                                    refine la_191 (pc := 366) dX12_tries_366 (A_191 hw) T38683 (vc_X12_tries_67 h38253 h38750 h23969 h27.1 h23970 h38252 h38749) fun z38751 q38752 h38753 => ?_
                                    refine ss_191 (pc := 367) dX12_tries_367 (A_191 hw) T38683 (rIx (n := 46656) h38252 rfl) h38753 fun μ38754 u38755 T38756 => ?_
                                    refine mr_iinc (pc := 368) (lv' := [(9, iv (z38679 + 1)), (0, .ref 106), (3, iv z36176), (6, iv z38109), (7, iv z38108), (8, iv z38250)]) dX12_tries_368 rfl (by decide) rfl ?_
                                    refine sv_goto (pc := 371) (tgt := 314) dX12_tries_371 (by decide) ?_
                                    refine mr_lvS (lv' := [(0, .ref 106), (3, iv z36176), (6, iv z38109), (7, iv z38108), (8, iv z38250), (9, iv (z38679 + 1))]) (List.forall_mem_cons.mpr ⟨rfl, List.forall_mem_cons.mpr ⟨rfl, List.forall_mem_cons.mpr ⟨rfl, List.forall_mem_cons.mpr ⟨rfl, List.forall_mem_cons.mpr ⟨rfl, List.forall_mem_cons.mpr ⟨rfl, fun _ h => absurd h List.not_mem_nil⟩⟩⟩⟩⟩⟩) ?_
                                    exact ih38690 (z38679 + 1) μ38754 ((f_k3 + z38751) - f_hs) z38751 T38756 (mF.up (mF.call mF.refl F38684 rfl) (A_191 hw) u38755 rfl) (cntU u38755 (rIx (n := 46656) h38252 rfl) rfl q38688 q38689) u38755.1 (rW (c := 1) (d := 7) (rAdd (e := 2) (f := 7) h38729 (rR (x := 1)) rfl) rfl) (vc_X12_tries_68 h38117 h38118 h38686 h38730 h38732 h37198 h38123 h38691 h38112 h38753) (vc_X12_clear_4 (nS h38687) h38727 h38729)
                                refine mr_lvS (lv' := [(0, .ref 106), (3, iv z36176), (6, iv z38109), (7, iv z38108), (8, iv z38250), (9, iv 1)]) (List.forall_mem_cons.mpr ⟨rfl, List.forall_mem_cons.mpr ⟨rfl, List.forall_mem_cons.mpr ⟨rfl, List.forall_mem_cons.mpr ⟨rfl, List.forall_mem_cons.mpr ⟨rfl, List.forall_mem_cons.mpr ⟨rfl, fun _ h => absurd h List.not_mem_nil⟩⟩⟩⟩⟩⟩) ?_
                                exact L38681 8 1 μ38392 f_k2 z38254 T38393 mF.refl (cntF F38394 (A_191 hw) rfl rfl q38121) (F38394.f (A_191 hw) rfl q38255) (rW (c := 1) (d := 7) (rR (x := 1)) rfl) (vc_X12_tries_70 h38117 h38118 h38372 h37198 h38123 h38112 h38373) vc_X12_clear_5
                              have h38757 : 1 ≤ z38254 ∧ z38254 ≤ 1 := (vc_X12_ring_24 h38372 h38256)
                              refine sv_goto (pc := 302) (tgt := 396) dX12_tries_302 (by decide) ?_
                              refine mr_iinc (pc := 396) (lv' := [(7, iv (z38108 + (-1))), (8, iv z38250), (0, .ref 106), (3, iv z36176), (6, iv z38109)]) dX12_tries_396 rfl (by decide) rfl ?_
                              refine sv_goto (pc := 399) (tgt := 278) dX12_tries_399 (by decide) ?_
                              refine mr_lvS (lv' := [(0, .ref 106), (3, iv z36176), (6, iv z38109), (7, iv (z38108 + (-1)))]) (List.forall_mem_cons.mpr ⟨rfl, List.forall_mem_cons.mpr ⟨rfl, List.forall_mem_cons.mpr ⟨rfl, List.forall_mem_cons.mpr ⟨rfl, fun _ h => absurd h List.not_mem_nil⟩⟩⟩⟩) ?_
                              exact ih38122 z38109 (z38108 + (-1)) μ38110 f_k2 T38114 (mF.call mF.refl F38115 rfl) q38121 h38112 (rW (c := (-1)) (d := 46655) (rAdd (e := (-1)) (f := 46654) h38249 (rR (x := (-1))) rfl) rfl) (vc_X12_tries_73 h38117 h38118 h37198 h38123 h38112) (vc_X12_tries_74 h38117 h38118 h37198 h38123 h38112) (vc_X12_tries_46 h36187 h36331 h38119 h38247 h36186 h36332 h36180 h36179 h38249) (vc_X12_tries_47 (nS h38120) h38119 h38247 h36187 h36331 h36332 h36179 h38249)
                          refine mr_lvS (lv' := [(0, .ref 106), (3, iv z36176), (6, iv 0), (7, iv (z36176 - 1))]) (List.forall_mem_cons.mpr ⟨rfl, List.forall_mem_cons.mpr ⟨rfl, List.forall_mem_cons.mpr ⟨rfl, List.forall_mem_cons.mpr ⟨rfl, fun _ h => absurd h List.not_mem_nil⟩⟩⟩⟩) ?_
                          exact L38111 46658 0 (z36176 - 1) μ37189 f_k T37192 mF.refl q37196 (rW (c := 0) (d := 1) (rR (x := 0)) rfl) (rW (c := (-1)) (d := 46655) (rSub (e := 0) (f := 46655) h36179 (rR (x := 1)) rfl) rfl) (vc_X12_tries_75 h37198) (vc_X12_tries_76 h37198) (vc_X12_tries_77 h36187 h36331 h36186 h36332 h36180 h36179) (vc_X12_tries_78 h36187 h36331 h36186 h36332 h36180 h36179)
                      obtain ⟨z38758, q38759⟩ : ∃ z, cnt μ36177 191 46656 = z := ⟨_, rfl⟩
                      have h38760 : 0 ≤ z38758 ∧ z38758 ≤ 46656 := by rw [← q38759]; exact cnt_rng (fun i => T36183 191 191 (A_191 hw) i) 46656
                      refine mr_lvS (lv' := [(0, .ref 106), (3, iv z36176), (6, iv 1)]) (List.forall_mem_cons.mpr ⟨rfl, List.forall_mem_cons.mpr ⟨rfl, List.forall_mem_cons.mpr ⟨rfl, fun _ h => absurd h List.not_mem_nil⟩⟩⟩) ?_
                      exact L37190 93314 1 μ36177 z38758 T36183 mF.refl q38759 (rW (c := 0) (d := 1) (rR (x := 1)) rfl) (vc_X12_tries_79 h38760)
                    have h38761 : 3 ≤ p1 ∧ p1 ≤ 3 := (vc_X12_tries_80 h36337 h4.2.1 h4.2.2.1 h8 h36333 h36335 h36336 h7)
                    refine mr_iload (pc := 259) (z := z36174) dX12_tries_259 rfl ?_
                    exact mr_iret dX12_tries_261 rfl (le_t rfl) (le_t rfl) T36183 (mF.call (mF.up (mF.up (mF.call (mF.call mF.refl F12 rfl) F23957 rfl) (A_190 hw) u23972 rfl) (A_189 hw) u23975 rfl) F36184 rfl) ⟨h36181, trivial⟩
                  have h38762 : 1 ≤ p1 ∧ p1 ≤ 1 := (vc_X12_tries_81 h36335 h4.2.1 h4.2.2.1 h8 h36333 h36334 h7)
                  refine mr_iload (pc := 251) (z := z36175) dX12_tries_251 rfl ?_
                  exact mr_iret dX12_tries_253 rfl (le_t rfl) (le_t rfl) T36183 (mF.call (mF.up (mF.up (mF.call (mF.call mF.refl F12 rfl) F23957 rfl) (A_190 hw) u23972 rfl) (A_189 hw) u23975 rfl) F36184 rfl) ⟨(rW (c := (-2147483648)) (d := 2147483647) h36180 rfl), trivial⟩
                have h38763 : 0 ≤ p1 ∧ p1 ≤ 0 := (vc_X12_tries_82 h36333 h4.2.1 h4.2.2.1 h8 h9 h7)
                refine mr_iload_n (pc := 244) (z := z36176) dX12_tries_244 rfl rfl ?_
                exact mr_iret dX12_tries_245 rfl (le_t rfl) (le_t rfl) T36183 (mF.call (mF.up (mF.up (mF.call (mF.call mF.refl F12 rfl) F23957 rfl) (A_190 hw) u23972 rfl) (A_189 hw) u23975 rfl) F36184 rfl) ⟨(rW (c := (-2147483648)) (d := 2147483647) h36179 rfl), trivial⟩
              have h38764 : 0 ≤ z36173 ∧ z36173 ≤ 46655 := (vc_X12_tries_83 h36331 h36186 h36187 h36182 h36180 h36179)
              refine sv_aload_n (pc := 82) dX12_tries_82 rfl rfl ?_
              refine gf_X12_124 (pc := 83) dX12_tries_83 wF_X12_533 (A_106 hw) T36183 ?_
              refine mr_iload (pc := 86) (z := z36173) dX12_tries_86 rfl ?_
              refine la_190 (pc := 88) dX12_tries_88 (A_190 hw) T36183 (rIx (n := 46656) h38764 rfl) fun z38765 q38766 h38767 => ?_
              have h38768 : 0 ≤ z38765 ∧ z38765 < z14 := quOK.st R36188 (vc_X12_tries_84 h36186 h36187 h36331 h38764 h36180 h36179) (vc_X12_tries_85 h36186 h36187 h36331 h38764 h36180 h36179) q38766
              refine mr_istore (pc := 89) (lv' := [(7, iv z38765), (0, .ref 106), (1, iv p1), (3, iv z36176), (4, iv z36175), (5, iv z36174), (6, iv z36173)]) dX12_tries_89 (by decide) rfl ?_
              refine mr_iconst (pc := 91) (z := 1) dX12_tries_91 ?_
              refine mr_istore (pc := 92) (lv' := [(8, iv 1), (7, iv z38765), (0, .ref 106), (1, iv p1), (3, iv z36176), (4, iv z36175), (5, iv z36174), (6, iv z36173)]) dX12_tries_92 (by decide) rfl ?_
              refine sv_aload_n (pc := 94) dX12_tries_94 rfl rfl ?_
              refine mr_iload (pc := 95) (z := z38765) dX12_tries_95 rfl ?_
              obtain ⟨z38769, q38770⟩ : ∃ z, μ36177 184 ((1 : Int).toNat) = z := ⟨_, rfl⟩
              have h38771 : (0 ≤ z38769 ∧ z38769 ≤ 5) := by rw [← q38770]; exact T36183 184 184 (A_184 hw) ((1 : Int).toNat)
              obtain ⟨z38772, q38773⟩ : ∃ z, μ36177 184 ((2 : Int).toNat) = z := ⟨_, rfl⟩
              have h38774 : (0 ≤ z38772 ∧ z38772 ≤ 5) := by rw [← q38773]; exact T36183 184 184 (A_184 hw) ((2 : Int).toNat)
              obtain ⟨z38775, q38776⟩ : ∃ z, μ36177 184 ((3 : Int).toNat) = z := ⟨_, rfl⟩
              have h38777 : (0 ≤ z38775 ∧ z38775 ≤ 5) := by rw [← q38776]; exact T36183 184 184 (A_184 hw) ((3 : Int).toNat)
              obtain ⟨z38778, q38779⟩ : ∃ z, μ36177 184 ((4 : Int).toNat) = z := ⟨_, rfl⟩
              have h38780 : (0 ≤ z38778 ∧ z38778 ≤ 5) := by rw [← q38779]; exact T36183 184 184 (A_184 hw) ((4 : Int).toNat)
              obtain ⟨z38781, q38782⟩ : ∃ z, μ36177 184 ((5 : Int).toNat) = z := ⟨_, rfl⟩
              have h38783 : (0 ≤ z38781 ∧ z38781 ≤ 5) := by rw [← q38782]; exact T36183 184 184 (A_184 hw) ((5 : Int).toNat)
              obtain ⟨z38784, q38785⟩ : ∃ z, μ36177 184 ((6 : Int).toNat) = z := ⟨_, rfl⟩
              have h38786 : (0 ≤ z38784 ∧ z38784 ≤ 5) := by rw [← q38785]; exact T36183 184 184 (A_184 hw) ((6 : Int).toNat)
              refine mr_cVV (pc := 97) (c_X12_open_r hw T36183 h38767 (F36184.f (A_187 hw) rfl (u23975.f (Or.inl (mAt.ne (A_189 hw) (A_187 hw) rfl)) (u23972.f (Or.inl (mAt.ne (A_190 hw) (A_187 hw) rfl)) (F23957.f (A_187 hw) rfl q16)))) (F36184.f (A_187 hw) rfl (u23975.f (Or.inl (mAt.ne (A_189 hw) (A_187 hw) rfl)) (u23972.f (Or.inl (mAt.ne (A_190 hw) (A_187 hw) rfl)) (F23957.f (A_187 hw) rfl q18)))) (F36184.f (A_187 hw) rfl (u23975.f (Or.inl (mAt.ne (A_189 hw) (A_187 hw) rfl)) (u23972.f (Or.inl (mAt.ne (A_190 hw) (A_187 hw) rfl)) (F23957.f (A_187 hw) rfl q20)))) (F36184.f (A_187 hw) rfl (u23975.f (Or.inl (mAt.ne (A_189 hw) (A_187 hw) rfl)) (u23972.f (Or.inl (mAt.ne (A_190 hw) (A_187 hw) rfl)) (F23957.f (A_187 hw) rfl q22)))) (F36184.f (A_187 hw) rfl (u23975.f (Or.inl (mAt.ne (A_189 hw) (A_187 hw) rfl)) (u23972.f (Or.inl (mAt.ne (A_190 hw) (A_187 hw) rfl)) (F23957.f (A_187 hw) rfl q24)))) (F36184.f (A_187 hw) rfl (u23975.f (Or.inl (mAt.ne (A_189 hw) (A_187 hw) rfl)) (u23972.f (Or.inl (mAt.ne (A_190 hw) (A_187 hw) rfl)) (F23957.f (A_187 hw) rfl q26)))) q38770 q38773 q38776 q38779 q38782 q38785 (vc_X12_isRest_7 h27.2.1 h34) (vc_X12_isRest_7 h27.2.2.1 h35) (vc_X12_isRest_7 h27.2.2.2.1 h36) (vc_X12_isRest_7 h27.2.2.2.2.1 h37) (vc_X12_isRest_7 h27.2.2.2.2.2.1 h38) (vc_X12_isRest_7 h27.2.2.2.2.2.2.1 h39)) (gOk _ _ _ _ _) dX12_tries_97 (tX12_open _ _ _ _ _) ⟨wV_X12_open, wL_X12_open⟩ wM_X12_722 (gCX12 _ _ _ _ _) rfl (A_106 hw) rfl ⟨le_t rfl, le_t rfl⟩ ⟨le_t rfl, le_t rfl⟩ rfl (le_t rfl) fun μ38787 T38788 F38789 h38790 => ?_
              obtain ⟨z38791, z38793, z38795, z38797, z38799, z38801, q38792, q38794, q38796, q38798, q38800, q38802, h38803⟩ := h38790
              have h38804 : (0 ≤ z38791 ∧ z38791 ≤ 5) := by rw [← q38792]; exact T38788 188 188 (A_188 hw) ((1 : Int).toNat)
              have h38805 : (0 ≤ z38793 ∧ z38793 ≤ 5) := by rw [← q38794]; exact T38788 188 188 (A_188 hw) ((2 : Int).toNat)
              have h38806 : (0 ≤ z38795 ∧ z38795 ≤ 5) := by rw [← q38796]; exact T38788 188 188 (A_188 hw) ((3 : Int).toNat)
              have h38807 : (0 ≤ z38797 ∧ z38797 ≤ 5) := by rw [← q38798]; exact T38788 188 188 (A_188 hw) ((4 : Int).toNat)
              have h38808 : (0 ≤ z38799 ∧ z38799 ≤ 5) := by rw [← q38800]; exact T38788 188 188 (A_188 hw) ((5 : Int).toNat)
              have h38809 : (0 ≤ z38801 ∧ z38801 ≤ 5) := by rw [← q38802]; exact T38788 188 188 (A_188 hw) ((6 : Int).toNat)
              refine mr_iconst (pc := 100) (z := 1) dX12_tries_100 ?_
              refine mr_istore (pc := 101) (lv' := [(9, iv 1), (8, iv 1), (7, iv z38765), (0, .ref 106), (1, iv p1), (3, iv z36176), (4, iv z36175), (5, iv z36174), (6, iv z36173)]) dX12_tries_101 (by decide) rfl ?_
              have L39124 : ∀ (nL39124 : Nat) (z39122 z39121 z39120 : Int) (μ39123 : mM), mT w μ39123 → mF [189999, 190999] w μ38787 μ39123 → (1 ≤ z39122 ∧ z39122 ≤ 46656) → (0 ≤ z39121 ∧ z39121 ≤ 1) → (1 ≤ z39120 ∧ z39120 ≤ 7) → (z36173 < z39122) → quOK μ39123 z39122 z14 → μ39123 190 (z36173).toNat = z38765 → (8 - z39120) < (nL39124 : Int) → sV (gG l D c H0 sa) mX12_tries (sRm 3 0 0) (sZ (gG l D c H0 sa) 0 0 (qI w [187999, 188999, 189999, 190999, 191999] μ (fun z μ1 => ((-2147483648) ≤ z ∧ z ≤ 2147483647) ∧ True))) 103 [(0, .ref 106), (1, iv p1), (3, iv z39122), (4, iv z36175), (5, iv z36174), (6, iv z36173), (7, iv z38765), (8, iv z39121), (9, iv z39120)] [] (mk w μ39123) 0 0 := by
                intro nL39124
                induction nL39124 with
                | zero => intro z39122 z39121 z39120 μ39123 T39128 F39129 h39125 h39126 h39127 h39131 R39132 R39133 h39134; exact ((vc_X12_clear_1 h39134 h39127)).elim
                | succ nL39124 ih39135 =>
                  intro z39122 z39121 z39120 μ39123 T39128 F39129 h39125 h39126 h39127 h39131 R39132 R39133 h39134
                  refine mr_iload (pc := 103) (z := z39120) dX12_tries_103 rfl ?_
                  refine mr_bipush (pc := 105) (z := 6) dX12_tries_105 (by decide) ?_
                  refine mr_icmp_gt (pc := 107) (tgt := 202) dX12_tries_107 (by decide) (r32 h39127 rfl) (r32 (rR (x := 6)) rfl) (fun h39169 => ?_) (fun h39169 => ?_)
                  · have h39170 : 7 ≤ z39120 ∧ z39120 ≤ 7 := (vc_X12_clear_2 h39169 h39127)
                    refine mr_iload (pc := 202) (z := z39121) dX12_tries_202 rfl ?_
                    refine mr_if_eq (pc := 204) (tgt := 234) dX12_tries_204 (by decide) (r32 h39126 rfl) (fun h39180 => ?_) (fun h39180 => ?_)
                    · have h39181 : 0 ≤ z39121 ∧ z39121 ≤ 0 := (vc_X12_ring_22 h39180 h39126)
                      refine mr_iinc (pc := 234) (lv' := [(6, iv (z36173 + 1)), (0, .ref 106), (1, iv p1), (3, iv z39122), (4, iv z36175), (5, iv z36174), (7, iv z38765), (8, iv z39121), (9, iv z39120)]) dX12_tries_234 rfl (by decide) rfl ?_
                      refine sv_goto (pc := 237) (tgt := 76) dX12_tries_237 (by decide) ?_
                      refine mr_lvS (lv' := [(0, .ref 106), (1, iv p1), (3, iv z39122), (4, iv z36175), (5, iv z36174), (6, iv (z36173 + 1))]) (List.forall_mem_cons.mpr ⟨rfl, List.forall_mem_cons.mpr ⟨rfl, List.forall_mem_cons.mpr ⟨rfl, List.forall_mem_cons.mpr ⟨rfl, List.forall_mem_cons.mpr ⟨rfl, List.forall_mem_cons.mpr ⟨rfl, fun _ h => absurd h List.not_mem_nil⟩⟩⟩⟩⟩⟩) ?_
                      exact ih36190 z39122 z36175 z36174 (z36173 + 1) μ39123 T39128 (mF.call (mF.call (mF.call mF.refl F36184 rfl) F38789 rfl) F39129 rfl) h39125 h36180 h36181 (rW (c := 0) (d := 46656) (rAdd (e := 1) (f := 46656) h38764 (rR (x := 1)) rfl) rfl) (vc_X12_tries_89 h36186 h36187 h36331 h39131 h38764 h36180 h36179 h39125) (vc_X12_tries_90 h36186 h36187 h36331 h39131 h38764 h36180 h36179 h39125) R39132 (vc_X12_tries_91 (nS h36189) h36186 h36187 h36331 h39131 h38764 h36180 h36179 h39125)
                    have h39182 : 1 ≤ z39121 ∧ z39121 ≤ 1 := (vc_X12_ring_24 h39180 h39126)
                    refine mr_iinc (pc := 207) (lv' := [(4, iv (z36175 + 1)), (0, .ref 106), (1, iv p1), (3, iv z39122), (5, iv z36174), (6, iv z36173), (7, iv z38765), (8, iv z39121), (9, iv z39120)]) dX12_tries_207 rfl (by decide) rfl ?_
                    refine sv_aload_n (pc := 210) dX12_tries_210 rfl rfl ?_
                    refine gf_X12_125 (pc := 211) dX12_tries_211 wF_X12_536 (A_106 hw) T39128 ?_
                    refine mr_iload (pc := 214) (z := z38765) dX12_tries_214 rfl ?_
                    refine mr_iconst (pc := 216) (z := 1) dX12_tries_216 ?_
                    refine ss_191 (pc := 217) dX12_tries_217 (A_191 hw) T39128 (rIx (n := 46656) h38767 rfl) (rW (c := 0) (d := 1) (rR (x := 1)) rfl) fun μ39183 u39184 T39185 => ?_
                    refine mr_iload (pc := 218) (z := z36174) dX12_tries_218 rfl ?_
                    refine mr_ldc (pc := 220) (z := (-99999999)) dX12_tries_220 wG_X12_29 (by decide) ?_
                    refine mr_icmp_ne (pc := 222) (tgt := 234) dX12_tries_222 (by decide) h36181 (r32 (rR (x := (-99999999))) rfl) (fun h39190 => ?_) (fun h39190 => ?_)
                    · refine mr_iinc (pc := 234) (lv' := [(6, iv (z36173 + 1)), (4, iv (z36175 + 1)), (0, .ref 106), (1, iv p1), (3, iv z39122), (5, iv z36174), (7, iv z38765), (8, iv z39121), (9, iv z39120)]) dX12_tries_234 rfl (by decide) rfl ?_
                      refine sv_goto (pc := 237) (tgt := 76) dX12_tries_237 (by decide) ?_
                      refine mr_lvS (lv' := [(0, .ref 106), (1, iv p1), (3, iv z39122), (4, iv (z36175 + 1)), (5, iv z36174), (6, iv (z36173 + 1))]) (List.forall_mem_cons.mpr ⟨rfl, List.forall_mem_cons.mpr ⟨rfl, List.forall_mem_cons.mpr ⟨rfl, List.forall_mem_cons.mpr ⟨rfl, List.forall_mem_cons.mpr ⟨rfl, List.forall_mem_cons.mpr ⟨rfl, fun _ h => absurd h List.not_mem_nil⟩⟩⟩⟩⟩⟩) ?_
                      exact ih36190 z39122 (z36175 + 1) z36174 (z36173 + 1) μ39183 T39185 (mF.up (mF.call (mF.call (mF.call mF.refl F36184 rfl) F38789 rfl) F39129 rfl) (A_191 hw) u39184 rfl) h39125 (vc_X12_tries_93 h36186 h36187 h36331 h39131 h38764 h36180 h36179 h39125) h36181 (rW (c := 0) (d := 46656) (rAdd (e := 1) (f := 46656) h38764 (rR (x := 1)) rfl) rfl) (vc_X12_tries_94 h36186 h36187 h36331 h39131 h38764 h36180 h36179 h39125) (vc_X12_tries_90 h36186 h36187 h36331 h39131 h38764 h36180 h36179 h39125) (quOK.keep R39132 hw ((mF.up mF.refl (A_191 hw) u39184 rfl) : mF [191999] w μ39123 μ39183) rfl) (vc_X12_tries_91 (nS h36189) h36186 h36187 h36331 h39131 h38764 h36180 h36179 h39125)
                    have h39191 : (-99999999) ≤ z36174 ∧ z36174 ≤ (-99999999) := (vc_X12_judgedAnew_21 h39190 h36181)
                    refine sv_aload_n (pc := 225) dX12_tries_225 rfl rfl ?_
                    refine gf_X12_123 (pc := 226) dX12_tries_226 wF_X12_530 (A_106 hw) T39185 ?_
                    refine mr_iload (pc := 229) (z := z38765) dX12_tries_229 rfl ?_
                    refine la_189 (pc := 231) dX12_tries_231 (A_189 hw) T39185 (rIx (n := 46656) h38767 rfl) fun z39192 q39193 h39194 => ?_
                    refine mr_istore (pc := 232) (lv' := [(5, iv z39192), (4, iv (z36175 + 1)), (0, .ref 106), (1, iv p1), (3, iv z39122), (6, iv z36173), (7, iv z38765), (8, iv z39121), (9, iv z39120)]) dX12_tries_232 (by decide) rfl ?_
                    refine mr_iinc (pc := 234) (lv' := [(6, iv (z36173 + 1)), (5, iv z39192), (4, iv (z36175 + 1)), (0, .ref 106), (1, iv p1), (3, iv z39122), (7, iv z38765), (8, iv z39121), (9, iv z39120)]) dX12_tries_234 rfl (by decide) rfl ?_
                    refine sv_goto (pc := 237) (tgt := 76) dX12_tries_237 (by decide) ?_
                    refine mr_lvS (lv' := [(0, .ref 106), (1, iv p1), (3, iv z39122), (4, iv (z36175 + 1)), (5, iv z39192), (6, iv (z36173 + 1))]) (List.forall_mem_cons.mpr ⟨rfl, List.forall_mem_cons.mpr ⟨rfl, List.forall_mem_cons.mpr ⟨rfl, List.forall_mem_cons.mpr ⟨rfl, List.forall_mem_cons.mpr ⟨rfl, List.forall_mem_cons.mpr ⟨rfl, fun _ h => absurd h List.not_mem_nil⟩⟩⟩⟩⟩⟩) ?_
                    exact ih36190 z39122 (z36175 + 1) z39192 (z36173 + 1) μ39183 T39185 (mF.up (mF.call (mF.call (mF.call mF.refl F36184 rfl) F38789 rfl) F39129 rfl) (A_191 hw) u39184 rfl) h39125 (vc_X12_tries_93 h36186 h36187 h36331 h39131 h38764 h36180 h36179 h39125) h39194 (rW (c := 0) (d := 46656) (rAdd (e := 1) (f := 46656) h38764 (rR (x := 1)) rfl) rfl) (vc_X12_tries_94 h36186 h36187 h36331 h39131 h38764 h36180 h36179 h39125) (vc_X12_tries_90 h36186 h36187 h36331 h39131 h38764 h36180 h36179 h39125) (quOK.keep R39132 hw ((mF.up mF.refl (A_191 hw) u39184 rfl) : mF [191999] w μ39123 μ39183) rfl) (vc_X12_tries_91 (nS h36189) h36186 h36187 h36331 h39131 h38764 h36180 h36179 h39125)
                  have h39195 : 1 ≤ z39120 ∧ z39120 ≤ 6 := (vc_X12_clear_3 h39169 h39127)
                  refine sv_aload_n (pc := 110) dX12_tries_110 rfl rfl ?_
                  refine mr_iload (pc := 111) (z := z39120) dX12_tries_111 rfl ?_
                  obtain ⟨z39196, q39197⟩ : ∃ z, μ39123 184 (z39120.toNat) = z := ⟨_, rfl⟩
                  have h39198 : (0 ≤ z39196 ∧ z39196 ≤ 5) := by rw [← q39197]; exact T39128 184 184 (A_184 hw) (z39120.toNat)
                  refine mr_cVP (pc := 113) (c_X12_acted_v hw T39128 h39195 (F39129.f (A_188 hw) rfl q38792) (F39129.f (A_188 hw) rfl q38794) (F39129.f (A_188 hw) rfl q38796) (F39129.f (A_188 hw) rfl q38798) (F39129.f (A_188 hw) rfl q38800) (F39129.f (A_188 hw) rfl q38802) (F39129.f (A_184 hw) rfl (F38789.f (A_184 hw) rfl q38770)) (F39129.f (A_184 hw) rfl (F38789.f (A_184 hw) rfl q38773)) (F39129.f (A_184 hw) rfl (F38789.f (A_184 hw) rfl q38776)) (F39129.f (A_184 hw) rfl (F38789.f (A_184 hw) rfl q38779)) (F39129.f (A_184 hw) rfl (F38789.f (A_184 hw) rfl q38782)) (F39129.f (A_184 hw) rfl (F38789.f (A_184 hw) rfl q38785)) q39197 (vc_X12_isRest_18 h38803.1 h38771 h38804) (vc_X12_isRest_18 h38803.2.1 h38774 h38805) (vc_X12_isRest_18 h38803.2.2.1 h38777 h38806) (vc_X12_isRest_18 h38803.2.2.2.1 h38780 h38807) (vc_X12_isRest_18 h38803.2.2.2.2.1 h38783 h38808) (vc_X12_isRest_18 h38803.2.2.2.2.2.1 h38786 h38809)) (gOk _ _ _ _ _) dX12_tries_113 (tX12_acted _ _ _ _ _) ⟨wV_X12_acted, wL_X12_acted⟩ wM_X12_725 (gCX12 _ _ _ _ _) rfl (A_106 hw) rfl ⟨le_t rfl, le_t rfl⟩ ⟨le_t rfl, le_t rfl⟩ rfl (le_t rfl) fun z39203 h39202 => ?_
                  refine mr_istore (pc := 116) (lv' := [(10, iv z39203), (0, .ref 106), (1, iv p1), (3, iv z39122), (4, iv z36175), (5, iv z36174), (6, iv z36173), (7, iv z38765), (8, iv z39121), (9, iv z39120)]) dX12_tries_116 (by decide) rfl ?_
                  refine mr_iload (pc := 118) (z := z39203) dX12_tries_118 rfl ?_
                  refine sv_aload_n (pc := 120) dX12_tries_120 rfl rfl ?_
                  refine gf_X12_122 (pc := 121) dX12_tries_121 wF_X12_526 (A_106 hw) T39128 ?_
                  refine mr_iload (pc := 124) (z := z39120) dX12_tries_124 rfl ?_
                  refine la_188 (pc := 126) dX12_tries_126 (A_188 hw) T39128 (rIx (n := 7) h39195 rfl) fun z39204 q39205 h39206 => ?_
                  refine mr_icmp_ne (pc := 127) (tgt := 133) dX12_tries_127 (by decide) (r32 h39202.1 rfl) (r32 h39206 rfl) (fun h39207 => ?_) (fun h39207 => ?_)
                  · refine mr_iconst (pc := 133) (z := 0) dX12_tries_133 ?_
                    refine mr_istore (pc := 134) (lv' := [(8, iv 0), (10, iv z39203), (0, .ref 106), (1, iv p1), (3, iv z39122), (4, iv z36175), (5, iv z36174), (6, iv z36173), (7, iv z38765), (9, iv z39120)]) dX12_tries_134 (by decide) rfl ?_
                    refine mr_iload (pc := 136) (z := z38765) dX12_tries_136 rfl ?_
                    refine mr_iload (pc := 138) (z := z39203) dX12_tries_138 rfl ?_
                    refine sv_aload_n (pc := 140) dX12_tries_140 rfl rfl ?_
                    refine gf_X12_122 (pc := 141) dX12_tries_141 wF_X12_526 (A_106 hw) T39128 ?_
                    refine mr_iload (pc := 144) (z := z39120) dX12_tries_144 rfl ?_
                    refine lk_188 (pc := 146) dX12_tries_146 (A_188 hw) (rIx (n := 7) h39195 rfl) q39205 ?_
                    refine mr_isub (pc := 147) (x := z39203) (y := z39204) dX12_tries_147 ?_
                    refine sv_aload_n (pc := 148) dX12_tries_148 rfl rfl ?_
                    refine gf_X12_121 (pc := 149) dX12_tries_149 wF_X12_523 (A_106 hw) T39128 ?_
                    refine mr_iload (pc := 152) (z := z39120) dX12_tries_152 rfl ?_
                    refine la_187 (pc := 154) dX12_tries_154 (A_187 hw) T39128 (rIx (n := 8) h39195 rfl) fun z39208 q39209 h39210 => ?_
                    refine mr_imul (pc := 155) (x := (z39203 - z39204)) (y := z39208) dX12_tries_155 ?_
                    refine mr_gen (P := fun z => (-233280) ≤ z ∧ z ≤ 233280) (rMulS (m := 5) (k := 46656) (e := 233280) (rSub (e := (-5)) (f := 5) h39202.1 h39206 rfl) h39210 (by decide) rfl) fun z39211 q39212 h39213 => ?_
                    refine mr_iadd (pc := 156) (x := z38765) (y := z39211) dX12_tries_156 ?_
                    have h39214 : 0 ≤ (z38765 + z39211) ∧ (z38765 + z39211) < z14 := net_t (radix.keep h27.2.2.2.2.2.2.2.1 ((mF.call (mF.call (mF.call (mF.up (mF.up (mF.call mF.refl F23957 rfl) (A_190 hw) u23972 rfl) (A_189 hw) u23975 rfl) F36184 rfl) F38789 rfl) F39129 rfl) : mF [188999, 189999, 190999, 191999] w μ10 μ39123) (A_187 hw) (A_184 hw) (fun _ => rfl) (fun _ => rfl)) (digs.keep h38803.2.2.2.2.2.2.1 ((mF.call mF.refl F39129 rfl) : mF [189999, 190999] w μ38787 μ39123) (A_188 hw) (A_187 hw) (A_184 hw) (fun _ => rfl) (fun _ => rfl) (fun _ => rfl)) (vc_X12_tries_63 h39169 h39195) (vc_X12_tries_64 h23969 h38768 h27.1 h23970 h38767) q39209 q39197 q39205 (vc_X12_tries_105 h39202.2.1 h39207 h39198 h39202.1 h39206) (vc_X12_tries_106 h39202.2.1 h39207 h39198 h39202.1 h39206) q39212
                    refine mr_istore (pc := 157) (lv' := [(11, iv (z38765 + z39211)), (8, iv 0), (10, iv z39203), (0, .ref 106), (1, iv p1), (3, iv z39122), (4, iv z36175), (5, iv z36174), (6, iv z36173), (7, iv z38765), (9, iv z39120)]) dX12_tries_157 (by decide) rfl ?_
                    refine sv_aload_n (pc := 159) dX12_tries_159 rfl rfl ?_
                    refine gf_X12_123 (pc := 160) dX12_tries_160 wF_X12_530 (A_106 hw) T39128 ?_
                    refine mr_iload (pc := 163) (z := (z38765 + z39211)) dX12_tries_163 rfl ?_
                    refine la_189 (pc := 165) dX12_tries_165 (A_189 hw) T39128 (vc_X12_tries_67 h38768 h39214 h23969 h27.1 h23970 h38767 h39213) fun z39215 q39216 h39217 => ?_
                    refine mr_if_ge (pc := 166) (tgt := 196) dX12_tries_166 (by decide) h39217 (fun h39218 => ?_) (fun h39218 => ?_)
                    · have h39219 : 0 ≤ z39215 ∧ z39215 ≤ 2147483647 := (vc_X12_ring_1 h39218 h39217)
                      refine mr_iinc (pc := 196) (lv' := [(9, iv (z39120 + 1)), (11, iv (z38765 + z39211)), (8, iv 0), (10, iv z39203), (0, .ref 106), (1, iv p1), (3, iv z39122), (4, iv z36175), (5, iv z36174), (6, iv z36173), (7, iv z38765)]) dX12_tries_196 rfl (by decide) rfl ?_
                      refine sv_goto (pc := 199) (tgt := 103) dX12_tries_199 (by decide) ?_
                      refine mr_lvS (lv' := [(0, .ref 106), (1, iv p1), (3, iv z39122), (4, iv z36175), (5, iv z36174), (6, iv z36173), (7, iv z38765), (8, iv 0), (9, iv (z39120 + 1))]) (List.forall_mem_cons.mpr ⟨rfl, List.forall_mem_cons.mpr ⟨rfl, List.forall_mem_cons.mpr ⟨rfl, List.forall_mem_cons.mpr ⟨rfl, List.forall_mem_cons.mpr ⟨rfl, List.forall_mem_cons.mpr ⟨rfl, List.forall_mem_cons.mpr ⟨rfl, List.forall_mem_cons.mpr ⟨rfl, List.forall_mem_cons.mpr ⟨rfl, fun _ h => absurd h List.not_mem_nil⟩⟩⟩⟩⟩⟩⟩⟩⟩) ?_
                      exact ih39135 z39122 0 (z39120 + 1) μ39123 T39128 (mF.call mF.refl F39129 rfl) h39125 (rW (c := 0) (d := 1) (rR (x := 0)) rfl) (rW (c := 1) (d := 7) (rAdd (e := 2) (f := 7) h39195 (rR (x := 1)) rfl) rfl) (vc_X12_tries_109 h36186 h36187 h36331 h39131 h38764 h36180 h36179 h39125) R39132 R39133 (vc_X12_clear_4 (nS h39134) h39169 h39195)
                    have h39220 : (-2147483648) ≤ z39215 ∧ z39215 ≤ (-1) := (vc_X12_ring_60 h39218 h39217)
                    have h39221 : z39122 < z14 := quOK.room R39132 (vc_X12_tries_112 h39131 h36186 h36187 h36331 h38764 h36180 h36179 h39125) (vc_X12_tries_113 h23969 h38768 h39214 h27.1 h23970 h38767 h39213) q39216 (vc_X12_tries_114 h39218 h39220)
                    refine sv_aload_n (pc := 169) dX12_tries_169 rfl rfl ?_
                    refine gf_X12_123 (pc := 170) dX12_tries_170 wF_X12_530 (A_106 hw) T39128 ?_
                    refine mr_iload (pc := 173) (z := (z38765 + z39211)) dX12_tries_173 rfl ?_
                    refine sv_aload_n (pc := 175) dX12_tries_175 rfl rfl ?_
                    refine gf_X12_123 (pc := 176) dX12_tries_176 wF_X12_530 (A_106 hw) T39128 ?_
                    refine mr_iload (pc := 179) (z := z38765) dX12_tries_179 rfl ?_
                    refine la_189 (pc := 181) dX12_tries_181 (A_189 hw) T39128 (rIx (n := 46656) h38767 rfl) fun z39222 q39223 h39224 => ?_
                    have h39225 : 0 ≤ z39222 ∧ z39222 ≤ z36173 := quOK.rd R39132 (vc_X12_tries_115 h36186 h36187 h36331 h39131 h39221 h27.1 h38764 h36180 h36179 h39125) (vc_X12_tries_116 h36186 h36187 h36331 h39131 h39221 h23969 h38768 h39214 h27.1 h23970 h38764 h36180 h36179 h38767 h39125 h39213) R39133 q39223
                    have h39226 : 0 ≤ z39222 ∧ z39222 ≤ 46656 := (vc_X12_tries_117 h36186 h36187 h36331 h39131 h39225 h39221 h27.1 h38764 h36180 h36179 h39125 h39224)
                    refine mr_iconst (pc := 182) (z := 1) dX12_tries_182 ?_
                    refine mr_iadd (pc := 183) (x := z39222) (y := 1) dX12_tries_183 ?_
                    refine ss_189 (pc := 184) dX12_tries_184 (A_189 hw) T39128 (vc_X12_tries_118 h38768 h39214 h23969 h39221 h27.1 h23970 h38767 h39125 h39213) (rW (c := (-2147483648)) (d := 2147483647) (rAdd (e := 1) (f := 46657) h39226 (rR (x := 1)) rfl) rfl) fun μ39227 u39228 T39229 => ?_
                    refine sv_aload_n (pc := 185) dX12_tries_185 rfl rfl ?_
                    refine gf_X12_124 (pc := 186) dX12_tries_186 wF_X12_533 (A_106 hw) T39229 ?_
                    refine mr_iload_n (pc := 189) (z := z39122) dX12_tries_189 rfl rfl ?_
                    refine mr_iload (pc := 190) (z := (z38765 + z39211)) dX12_tries_190 rfl ?_
                    refine ss_190 (pc := 192) dX12_tries_192 (A_190 hw) T39229 (vc_X12_tries_119 h39131 h39221 h23969 h36186 h36187 h36331 h38768 h39214 h39225 h27.1 h23970 h38764 h36180 h36179 h38767 h39125 h39213 h39226) (vc_X12_tries_120 h38768 h39214 h23969 h39221 h27.1 h23970 h38767 h39125 h39213) fun μ39230 u39231 T39232 => ?_
                    have Q39233 : quOK μ39230 (z39122 + 1) z14 := quOK.push R39132 (vc_X12_tries_121 h39131 h39221 h23969 h36186 h36187 h36331 h38768 h39214 h39225 h27.1 h23970 h38764 h36180 h36179 h38767 h39125 h39213 h39226) (vc_X12_tries_122 h23969 h38768 h39214 h39221 h39131 h27.1 h23970 h38764 h38767 h39125 h39213) q39216 (vc_X12_tries_114 h39218 h39220) u39228 (vc_X12_tries_123 h39131 h39221 h39225 h23969 h36186 h36187 h36331 h38768 h39214 h27.1 h23970 h38764 h36180 h36179 h38767 h39125 h39213 h39226) u39231
                    refine mr_iinc (pc := 193) (lv' := [(3, iv (z39122 + 1)), (11, iv (z38765 + z39211)), (8, iv 0), (10, iv z39203), (0, .ref 106), (1, iv p1), (4, iv z36175), (5, iv z36174), (6, iv z36173), (7, iv z38765), (9, iv z39120)]) dX12_tries_193 rfl (by decide) rfl ?_
                    refine mr_iinc (pc := 196) (lv' := [(9, iv (z39120 + 1)), (3, iv (z39122 + 1)), (11, iv (z38765 + z39211)), (8, iv 0), (10, iv z39203), (0, .ref 106), (1, iv p1), (4, iv z36175), (5, iv z36174), (6, iv z36173), (7, iv z38765)]) dX12_tries_196 rfl (by decide) rfl ?_
                    refine sv_goto (pc := 199) (tgt := 103) dX12_tries_199 (by decide) ?_
                    refine mr_lvS (lv' := [(0, .ref 106), (1, iv p1), (3, iv (z39122 + 1)), (4, iv z36175), (5, iv z36174), (6, iv z36173), (7, iv z38765), (8, iv 0), (9, iv (z39120 + 1))]) (List.forall_mem_cons.mpr ⟨rfl, List.forall_mem_cons.mpr ⟨rfl, List.forall_mem_cons.mpr ⟨rfl, List.forall_mem_cons.mpr ⟨rfl, List.forall_mem_cons.mpr ⟨rfl, List.forall_mem_cons.mpr ⟨rfl, List.forall_mem_cons.mpr ⟨rfl, List.forall_mem_cons.mpr ⟨rfl, List.forall_mem_cons.mpr ⟨rfl, fun _ h => absurd h List.not_mem_nil⟩⟩⟩⟩⟩⟩⟩⟩⟩) ?_
                    exact ih39135 (z39122 + 1) 0 (z39120 + 1) μ39230 T39232 (mF.up (mF.up (mF.call mF.refl F39129 rfl) (A_189 hw) u39228 rfl) (A_190 hw) u39231 rfl) (vc_X12_tries_125 h39131 h39221 h23969 h36186 h36187 h36331 h38768 h39214 h39225 h27.1 h23970 h38764 h36180 h36179 h38767 h39125 h39213 h39226) (rW (c := 0) (d := 1) (rR (x := 0)) rfl) (rW (c := 1) (d := 7) (rAdd (e := 2) (f := 7) h39195 (rR (x := 1)) rfl) rfl) (vc_X12_tries_126 h36186 h36187 h36331 h39131 h39221 h39225 h23969 h38768 h39214 h27.1 h23970 h38764 h36180 h36179 h38767 h39125 h39213 h39226) Q39233 (mU.f u39231 (Or.inr (vc_X12_tries_124 h36186 h36187 h36331 h39131 h39221 h39225 h23969 h38768 h39214 h27.1 h23970 h38764 h36180 h36179 h38767 h39125 h39213 h39226)) (mU.f u39228 (Or.inl (by decide)) R39133)) (vc_X12_clear_4 (nS h39134) h39169 h39195)
                  refine sv_goto (pc := 130) (tgt := 196) dX12_tries_130 (by decide) ?_
                  refine mr_iinc (pc := 196) (lv' := [(9, iv (z39120 + 1)), (10, iv z39203), (0, .ref 106), (1, iv p1), (3, iv z39122), (4, iv z36175), (5, iv z36174), (6, iv z36173), (7, iv z38765), (8, iv z39121)]) dX12_tries_196 rfl (by decide) rfl ?_
                  refine sv_goto (pc := 199) (tgt := 103) dX12_tries_199 (by decide) ?_
                  refine mr_lvS (lv' := [(0, .ref 106), (1, iv p1), (3, iv z39122), (4, iv z36175), (5, iv z36174), (6, iv z36173), (7, iv z38765), (8, iv z39121), (9, iv (z39120 + 1))]) (List.forall_mem_cons.mpr ⟨rfl, List.forall_mem_cons.mpr ⟨rfl, List.forall_mem_cons.mpr ⟨rfl, List.forall_mem_cons.mpr ⟨rfl, List.forall_mem_cons.mpr ⟨rfl, List.forall_mem_cons.mpr ⟨rfl, List.forall_mem_cons.mpr ⟨rfl, List.forall_mem_cons.mpr ⟨rfl, List.forall_mem_cons.mpr ⟨rfl, fun _ h => absurd h List.not_mem_nil⟩⟩⟩⟩⟩⟩⟩⟩⟩) ?_
                  exact ih39135 z39122 z39121 (z39120 + 1) μ39123 T39128 (mF.call mF.refl F39129 rfl) h39125 h39126 (rW (c := 1) (d := 7) (rAdd (e := 2) (f := 7) h39195 (rR (x := 1)) rfl) rfl) (vc_X12_tries_109 h36186 h36187 h36331 h39131 h38764 h36180 h36179 h39125) R39132 R39133 (vc_X12_clear_4 (nS h39134) h39169 h39195)
              refine mr_lvS (lv' := [(0, .ref 106), (1, iv p1), (3, iv z36176), (4, iv z36175), (5, iv z36174), (6, iv z36173), (7, iv z38765), (8, iv 1), (9, iv 1)]) (List.forall_mem_cons.mpr ⟨rfl, List.forall_mem_cons.mpr ⟨rfl, List.forall_mem_cons.mpr ⟨rfl, List.forall_mem_cons.mpr ⟨rfl, List.forall_mem_cons.mpr ⟨rfl, List.forall_mem_cons.mpr ⟨rfl, List.forall_mem_cons.mpr ⟨rfl, List.forall_mem_cons.mpr ⟨rfl, List.forall_mem_cons.mpr ⟨rfl, fun _ h => absurd h List.not_mem_nil⟩⟩⟩⟩⟩⟩⟩⟩⟩) ?_
              exact L39124 8 z36176 1 1 μ38787 T38788 mF.refl h36179 (rW (c := 0) (d := 1) (rR (x := 1)) rfl) (rW (c := 1) (d := 7) (rR (x := 1)) rfl) (vc_X12_tries_85 h36186 h36187 h36331 h38764 h36180 h36179) (quOK.keep R36188 hw ((mF.call mF.refl F38789 rfl) : mF [188999] w μ36177 μ38787) rfl) (F38789.f (A_190 hw) rfl q38766) vc_X12_clear_5
          refine mr_lvS (lv' := [(0, .ref 106), (1, iv p1), (3, iv 1), (4, iv 0), (5, iv (-99999999)), (6, iv 0)]) (List.forall_mem_cons.mpr ⟨rfl, List.forall_mem_cons.mpr ⟨rfl, List.forall_mem_cons.mpr ⟨rfl, List.forall_mem_cons.mpr ⟨rfl, List.forall_mem_cons.mpr ⟨rfl, List.forall_mem_cons.mpr ⟨rfl, fun _ h => absurd h List.not_mem_nil⟩⟩⟩⟩⟩⟩) ?_
          exact L36178 46658 1 0 (-99999999) 0 μ23974 T23976 mF.refl (rW (c := 1) (d := 46656) (rR (x := 1)) rfl) (rW (c := 0) (d := 46656) (rR (x := 0)) rfl) (rW (c := (-2147483648)) (d := 2147483647) (rR (x := (-99999999))) rfl) (rW (c := 0) (d := 46656) (rR (x := 0)) rfl) vc_X12_dropMark_20 vc_X12_tries_128 Q23977 vc_X12_rests_19
        have h39234 : 0 ≤ z23952 ∧ z23952 ≤ 46655 := (vc_X12_rest_14 h23969 h27.1 h23955)
        refine sv_aload_n (pc := 23) dX12_tries_23 rfl rfl ?_
        refine gf_X12_123 (pc := 24) dX12_tries_24 wF_X12_530 (A_106 hw) T23956 ?_
        refine mr_iload_n (pc := 27) (z := z23952) dX12_tries_27 rfl rfl ?_
        refine mr_iconst (pc := 28) (z := (-1)) dX12_tries_28 ?_
        refine ss_189 (pc := 29) dX12_tries_29 (A_189 hw) T23956 (rIx (n := 46656) h39234 rfl) (rW (c := (-2147483648)) (d := 2147483647) (rR (x := (-1))) rfl) fun μ39235 u39236 T39237 => ?_
        refine sv_aload_n (pc := 30) dX12_tries_30 rfl rfl ?_
        refine gf_X12_125 (pc := 31) dX12_tries_31 wF_X12_536 (A_106 hw) T39237 ?_
        refine mr_iload_n (pc := 34) (z := z23952) dX12_tries_34 rfl rfl ?_
        refine mr_iconst (pc := 35) (z := 0) dX12_tries_35 ?_
        refine ss_191 (pc := 36) dX12_tries_36 (A_191 hw) T39237 (rIx (n := 46656) h39234 rfl) (rW (c := 0) (d := 1) (rR (x := 0)) rfl) fun μ39238 u39239 T39240 => ?_
        refine mr_iinc (pc := 37) (lv' := [(3, iv (z23952 + 1)), (0, .ref 106), (1, iv p1), (2, iv z14)]) dX12_tries_37 rfl (by decide) rfl ?_
        refine sv_goto (pc := 40) (tgt := 18) dX12_tries_40 (by decide) ?_
        refine mr_lvS (lv' := [(0, .ref 106), (1, iv p1), (2, iv z14), (3, iv (z23952 + 1))]) (List.forall_mem_cons.mpr ⟨rfl, List.forall_mem_cons.mpr ⟨rfl, List.forall_mem_cons.mpr ⟨rfl, List.forall_mem_cons.mpr ⟨rfl, fun _ h => absurd h List.not_mem_nil⟩⟩⟩⟩) ?_
        exact ih23960 (z23952 + 1) μ39238 T39240 (mF.up (mF.up (mF.call mF.refl F23957 rfl) (A_189 hw) u39236 rfl) (A_191 hw) u39239 rfl) (rW (c := 0) (d := 46656) (rAdd (e := 1) (f := 46656) h39234 (rR (x := 1)) rfl) rfl) (vc_X12_rest_23 (nS h23959) h23969 h27.1 h39234)
    refine mr_lvS (lv' := [(0, .ref 106), (1, iv p1), (2, iv z14), (3, iv 0)]) (List.forall_mem_cons.mpr ⟨rfl, List.forall_mem_cons.mpr ⟨rfl, List.forall_mem_cons.mpr ⟨rfl, List.forall_mem_cons.mpr ⟨rfl, fun _ h => absurd h List.not_mem_nil⟩⟩⟩⟩) ?_
    exact L23954 46658 0 μ10 T11 mF.refl (rW (c := 0) (d := 46656) (rR (x := 0)) rfl) vc_X12_rests_19
  have h39241 : 0 ≤ z5 ∧ z5 ≤ 0 := (vc_X12_tries_131 h6 h4.2.1 h4.2.2.1 hp1 h4.1)
  have h39242 : p1 < (0 : Int) ∨ (3 : Int) < p1 := (h4.2.2.1 (vc_X12_tries_132 h4.2.1 h4.2.2.1 h6 hp1 h39241))
  refine mr_iconst (pc := 9) (z := (-1)) dX12_tries_9 ?_
  exact mr_iret dX12_tries_10 rfl (le_t rfl) (le_t rfl) hT mF.refl ⟨(rW (c := (-2147483648)) (d := 2147483647) (rR (x := (-1))) rfl), trivial⟩
end
section
/-! The class's queue of states: cells q (queue) and f (flags); no entry's flag is c. -/
def quC (μ : mM) (q f : Nat) (n N c : Int) : Prop := (∀ i : Int, 0 ≤ i → i < n → 0 ≤ μ q i.toNat ∧ μ q i.toNat < N ∧ μ f (μ q i.toNat).toNat ≠ c) ∧ dist μ q n
theorem quC.pig {μ : mM} {q f : Nat} {n N c : Int} (h : quC μ q f n N c) (hN : 0 ≤ N) : n ≤ N := by
  by_cases h0 : n ≤ 0
  · omega
  · have := pigeon N.toNat n.toNat (fun i => (μ q i).toNat) (fun i hi => by have := h.1 i (by omega) (by omega); have e : ((i : Int)).toNat = i := rfl; rw [e] at this; show (μ q i).toNat < N.toNat; omega) (fun i j hij hj => by
      have h1 := h.2 i j (by omega) (by omega) (by omega)
      have h2 := h.1 i (by omega) (by omega)
      have h3 := h.1 j (by omega) (by omega)
      have e1 : ((i : Int)).toNat = i := rfl
      have e2 : ((j : Int)).toNat = j := rfl
      rw [e1] at h1 h2
      rw [e2] at h1 h3
      show (μ q i).toNat ≠ (μ q j).toNat
      omega)
    omega
theorem quC.st {μ : mM} {q f : Nat} {n N c i s : Int} (h : quC μ q f n N c) (h0 : 0 ≤ i) (h1 : i < n) (e : μ q i.toNat = s) : 0 ≤ s ∧ s < N := by
  have := h.1 i h0 h1
  rw [e] at this; exact ⟨this.1, this.2.1⟩
theorem quC.fl {μ : mM} {q f : Nat} {n N c i s v : Int} (h : quC μ q f n N c) (h0 : 0 ≤ i) (h1 : i < n) (e : μ q i.toNat = s) (ev : μ f s.toNat = v) : ¬ v = c := by
  have := h.1 i h0 h1
  rw [e, ev] at this; exact this.2.2
theorem quC.keep {l : List Nat} {w : mW} {μ μ1 : mM} {q f sq sf : Nat} {n N c : Int} (h : quC μ q f n N c) (hF : mF l w μ μ1) (hQ : mAt w q sq) (hG : mAt w f sf) (lq : ∀ i, l.elem (1000 * sq + (if mArr sq then 999 else i)) = false) (lf : ∀ i, l.elem (1000 * sf + (if mArr sf then 999 else i)) = false) : quC μ1 q f n N c := by
  have e1 : μ1 q = μ q := funext fun i => hF.f hQ (lq i) rfl
  have e2 : μ1 f = μ f := funext fun i => hF.f hG (lf i) rfl
  unfold quC dist at h ⊢
  rw [e1, e2]; exact h
theorem quC.push {μ μ1 μ2 : mM} {q f : Nat} {n N c t v o : Int} (h : quC μ q f n N c) (hqf : f ≠ q) (hn : 0 ≤ n) (ht : 0 ≤ t ∧ t < N) (qo : μ f t.toNat = o) (ho : o = c) (u1 : mU μ f t.toNat v μ1) (hv : ¬ v = c) (u2 : mU μ1 q n.toNat t μ2) : quC μ2 q f (n + 1) N c := by
  have hq : ∀ i : Int, 0 ≤ i → i < n → μ2 q i.toNat = μ q i.toNat := fun i h0 h1 => by rw [u2.2 q _ (Or.inr (by omega)), u1.2 q _ (Or.inl (Ne.symm hqf))]
  have hn2 : μ2 q n.toNat = t := u2.1
  have ne : ∀ i : Int, 0 ≤ i → i < n → μ q i.toNat ≠ t := fun i h0 h1 e => by
    have := h.1 i h0 h1
    rw [e, qo] at this; exact this.2.2 ho
  refine ⟨fun i h0 h1 => ?_, ?_⟩
  · by_cases he : i = n
    · rw [he, hn2, u2.2 f _ (Or.inl hqf), u1.1]; exact ⟨ht.1, ht.2, hv⟩
    · have g := h.1 i h0 (by omega)
      have gn := ne i h0 (by omega)
      rw [hq i h0 (by omega), u2.2 f _ (Or.inl hqf), u1.2 f _ (Or.inr (by omega))]
      exact g
  · intro i j hi hij hj
    by_cases he : j = n
    · rw [he, hn2, hq i hi (by omega)]; exact ne i hi (by omega)
    · rw [hq i hi (by omega), hq j (by omega) (by omega)]; exact h.2 i j hi hij (by omega)
theorem quC.room {μ : mM} {q f : Nat} {n N c t o : Int} (h : quC μ q f n N c) (hqf : f ≠ q) (hn : 0 ≤ n) (ht : 0 ≤ t ∧ t < N) (qo : μ f t.toNat = o) (ho : o = c) : n < N := by
  have := (h.push hqf hn ht qo ho mUp_ok (show ¬ c + 1 = c by omega) mUp_ok).pig (by omega)
  omega
theorem quC.set {μ μ1 : mM} {q f : Nat} {n N c e v : Int} (h : quC μ q f n N c) (hqf : q ≠ f) (u : mU μ f e.toNat v μ1) (hv : ¬ v = c) : quC μ1 q f n N c := by
  have e1 : μ1 q = μ q := funext fun i => u.2 q i (Or.inl hqf)
  refine ⟨fun i h0 h1 => ?_, ?_⟩
  · have g := h.1 i h0 h1
    rw [e1]
    refine ⟨g.1, g.2.1, ?_⟩
    by_cases he : (μ q i.toNat).toNat = e.toNat
    · rw [he, u.1]; exact hv
    · rw [u.2 f _ (Or.inr he)]; exact g.2.2
  · have := h.2
    unfold dist at this ⊢
    rw [e1]; exact this
theorem quC.init {μ μ1 μ2 : mM} {q f : Nat} {N e : Int} (hqf : q ≠ f) (he : e = N - 1) (hN : 1 ≤ N) (u1 : mU μ q (0 : Int).toNat e μ1) (u2 : mU μ1 f e.toNat 1 μ2) : quC μ2 q f 1 N 0 := by
  have h0 : μ2 q (0 : Int).toNat = e := by rw [u2.2 q _ (Or.inl hqf), u1.1]
  refine ⟨fun i i0 i1 => ?_, fun i j i0 ij j1 => by omega⟩
  have : i = 0 := by omega
  subst this
  rw [h0, u2.1]
  exact ⟨by omega, by omega, by decide⟩
/-- states in order, with a flag that isn't 1 -/
def quA (μ : mM) (q f : Nat) (n k c : Int) : Prop := (∀ i : Int, 0 ≤ i → i < n → 0 ≤ μ q i.toNat ∧ μ q i.toNat < k ∧ μ f (μ q i.toNat).toNat ≠ c) ∧ dist μ q n
theorem quA.add {μ μ1 : mM} {q f : Nat} {n k c v : Int} (h : quC μ q f n k c) (hqf : f ≠ q) (hn : 0 ≤ n) (hk : 0 ≤ k) (qv : μ f k.toNat = v) (hv : ¬ v = c) (u : mU μ q n.toNat k μ1) : quC μ1 q f (n + 1) (k + 1) c := by
  have hq : ∀ i : Int, 0 ≤ i → i < n → μ1 q i.toNat = μ q i.toNat := fun i h0 h1 => u.2 q _ (Or.inr (by omega))
  have hf : ∀ j, μ1 f j = μ f j := fun j => u.2 f j (Or.inl hqf)
  refine ⟨fun i h0 h1 => ?_, ?_⟩
  · by_cases he : i = n
    · rw [he, u.1, hf, qv]; exact ⟨hk, by omega, hv⟩
    · have g := h.1 i h0 (by omega)
      rw [hq i h0 (by omega), hf]
      exact ⟨g.1, by omega, g.2.2⟩
  · intro i j hi hij hj
    by_cases he : j = n
    · rw [he, u.1, hq i hi (by omega)]
      have g := h.1 i hi (by omega)
      omega
    · rw [hq i hi (by omega), hq j (by omega) (by omega)]; exact h.2 i j hi hij (by omega)
theorem quC.up {μ : mM} {q f : Nat} {n k m c : Int} (h : quC μ q f n k c) (hm : k ≤ m) : quC μ q f n m c := ⟨fun i h0 h1 => by have g := h.1 i h0 h1; exact ⟨g.1, by omega, g.2.2⟩, h.2⟩
theorem quC.zero {μ : mM} {q f : Nat} {N c : Int} : quC μ q f 0 N c := ⟨fun i h0 h1 => by omega, fun i j h0 h1 h2 => by omega⟩
theorem flag_fin : ∀ v : Fin 256, bByte (bOr ((v.val : Int) - 128) 2) ≠ 0 ∧ bByte (bOr ((v.val : Int) - 128) 2) ≠ 1 := by decide +kernel
theorem flag2 {v a z : Int} (hv : -128 ≤ v ∧ v ≤ 127) (q1 : bOr v 2 = a) (q2 : bByte a = z) : ¬ z = 0 ∧ ¬ z = 1 := by
  subst q1; subst q2
  have := flag_fin ⟨(v + 128).toNat, by omega⟩
  have e : (((v + 128).toNat : Nat) : Int) - 128 = v := by omega
  simp only [e] at this
  exact this
theorem and2_fin : bAnd 1 2 = 0 := by decide +kernel
theorem flagA {v z : Int} (q : bAnd v 2 = z) (hz : ¬ z = 0) : ¬ v = 1 := by
  intro e; subst e; rw [and2_fin] at q; exact hz q.symm
theorem refE {w : mW} {μ : mM} {a k s : Nat} (h : 0 ≤ μ a k ∧ mAt w (μ a k).toNat s) : ∃ b : Nat, μ a k = (b : Int) ∧ mAt w b s := ⟨(μ a k).toNat, (Int.toNat_of_nonneg h.1).symm, h.2⟩
theorem figE {μ : mM} {a v k : Nat} {s x y b z : Int} (qa : μ a k = x) (qv : μ v k = y) (e1 : s / x = b) (e2 : b % (y + 1) = z) : z = s / μ a k % (μ v k + 1) := by rw [qa, qv, e1, e2]
theorem figV {μ : mM} {a v k : Nat} {s x y z : Int} (h : z = s / μ a k % (μ v k + 1)) (qa : μ a k = x) (qv : μ v k = y) : z = s / x % (y + 1) := by rw [qa, qv] at h; exact h
theorem dig.mk2 {μ : mM} {h a v p : Nat} {s z x y : Int} (qh : μ h p = z) (qa : μ a p = x) (qv : μ v p = y) (e : z = s / x % (y + 1)) : dig μ h a v s p := by
  unfold dig; rw [qh, qa, qv]; exact e
theorem lenLe {w : mW} {b : Nat} {x y n : Int} (h : x ≤ (w.2.2.1 b : Int)) (qx : x = y) (qn : (w.2.2.1 b : Int) = n) : y ≤ n := by omega
theorem lenGe {w : mW} {b : Nat} {x y n : Int} (qx : x = y) (qn : (w.2.2.1 b : Int) = n) (h : y ≤ n) : x ≤ (w.2.2.1 b : Int) := by omega
theorem digs.le {μ : mM} {h a v : Nat} {s p y z : Int} (g : digs μ h a v s) (hp : 1 ≤ p ∧ p ≤ 6) (qv : μ v p.toNat = y) (qh : μ h p.toNat = z) (hy : 0 ≤ y) : 0 ≤ z ∧ z ≤ y := by
  have d := g.at hp
  unfold dig at d
  rw [qv, qh] at d
  have h1 := Int.emod_nonneg (s / μ a p.toNat) (show y + 1 ≠ 0 by omega)
  have h2 := Int.emod_lt_of_pos (s / μ a p.toNat) (show 0 < y + 1 by omega)
  omega
def hasLe (μ : mM) (n : Int) : Prop := ∀ i : Nat, 1 ≤ i → i < 7 → μ 101 i ≤ n
theorem hasLe.up {μ μ1 : mM} {n e z : Int} (h : hasLe μ n) (u : mU μ 101 e.toNat z μ1) (hz : z ≤ n) : hasLe μ1 n := fun i h1 hi => by
  by_cases hk : i = e.toNat
  · rw [hk, u.1]; exact hz
  · rw [u.2 101 i (Or.inr hk)]; exact h i h1 hi
theorem hasLe.at {μ : mM} {n e z : Int} (h : hasLe μ n) (he : 1 ≤ e ∧ e ≤ 6) (q : μ 101 e.toNat = z) : z ≤ n := by rw [← q]; exact h _ (by omega) (by omega)
theorem hasLe.le {μ : mM} {n m : Int} (h : hasLe μ n) (hm : n ≤ m) : hasLe μ m := fun i h1 hi => Int.le_trans (h i h1 hi) hm
theorem hasLe.keep {l : List Nat} {w : mW} {μ μ1 : mM} {n : Int} (h : hasLe μ n) (hw : mWF w) (hF : mF l w μ μ1) (hl : l.elem 101999 = false) : hasLe μ1 n := fun i h1 hi => by
  rw [hF.f (z := μ 101 i) (A_101 hw) hl rfl]; exact h i h1 hi
end
section
theorem dX4_addNeighbours_0 : decode cX4_addNeighbours 0 = .ok (.iload_n 2, 1) := dc0 dO_28 (by decide +kernel)
theorem dX4_addNeighbours_1 : decode cX4_addNeighbours 1 = .ok (.istore_n 3, 1) := dc0 dO_62 (by decide +kernel)
theorem dX4_addNeighbours_2 : decode cX4_addNeighbours 2 = .ok (.iconst 1, 1) := dc0 dO_4 (by decide +kernel)
theorem dX4_addNeighbours_3 : decode cX4_addNeighbours 3 = .ok (.istore 4, 2) := dcU1 dO_54 (by decide +kernel)
theorem dX4_addNeighbours_5 : decode cX4_addNeighbours 5 = .ok (.iload 4, 2) := dcU1 dO_21 (by decide +kernel)
theorem dX4_addNeighbours_7 : decode cX4_addNeighbours 7 = .ok (.bipush 7, 2) := dcS1 dO_16 (by decide +kernel)
theorem dX4_addNeighbours_9 : decode cX4_addNeighbours 9 = .ok (.if_icmp .ge 64, 3) := dcS2 dO_162 (by decide +kernel)
theorem dX4_addNeighbours_12 : decode cX4_addNeighbours 12 = .ok (.iload_n 1, 1) := dc0 dO_27 (by decide +kernel)
theorem dX4_addNeighbours_13 : decode cX4_addNeighbours 13 = .ok (.aload_n 0, 1) := dc0 dO_42 (by decide +kernel)
theorem dX4_addNeighbours_14 : decode cX4_addNeighbours 14 = .ok (.iload 4, 2) := dcU1 dO_21 (by decide +kernel)
theorem dX4_addNeighbours_16 : decode cX4_addNeighbours 16 = .ok (.invokevirtual 71, 3) := dcU2 dO_182 (by decide +kernel)
theorem dX4_addNeighbours_19 : decode cX4_addNeighbours 19 = .ok (.aload_n 0, 1) := dc0 dO_42 (by decide +kernel)
theorem dX4_addNeighbours_20 : decode cX4_addNeighbours 20 = .ok (.getfield 30, 3) := dcU2 dO_180 (by decide +kernel)
theorem dX4_addNeighbours_23 : decode cX4_addNeighbours 23 = .ok (.iload 4, 2) := dcU1 dO_21 (by decide +kernel)
theorem dX4_addNeighbours_25 : decode cX4_addNeighbours 25 = .ok (.iaload, 1) := dc0 dO_46 (by decide +kernel)
theorem dX4_addNeighbours_26 : decode cX4_addNeighbours 26 = .ok (.isub, 1) := dc0 dO_100 (by decide +kernel)
theorem dX4_addNeighbours_27 : decode cX4_addNeighbours 27 = .ok (.aload_n 0, 1) := dc0 dO_42 (by decide +kernel)
theorem dX4_addNeighbours_28 : decode cX4_addNeighbours 28 = .ok (.getfield 27, 3) := dcU2 dO_180 (by decide +kernel)
theorem dX4_addNeighbours_31 : decode cX4_addNeighbours 31 = .ok (.iload 4, 2) := dcU1 dO_21 (by decide +kernel)
theorem dX4_addNeighbours_33 : decode cX4_addNeighbours 33 = .ok (.iaload, 1) := dc0 dO_46 (by decide +kernel)
theorem dX4_addNeighbours_34 : decode cX4_addNeighbours 34 = .ok (.imul, 1) := dc0 dO_104 (by decide +kernel)
theorem dX4_addNeighbours_35 : decode cX4_addNeighbours 35 = .ok (.iadd, 1) := dc0 dO_96 (by decide +kernel)
theorem dX4_addNeighbours_36 : decode cX4_addNeighbours 36 = .ok (.istore 5, 2) := dcU1 dO_54 (by decide +kernel)
theorem dX4_addNeighbours_38 : decode cX4_addNeighbours 38 = .ok (.aload_n 0, 1) := dc0 dO_42 (by decide +kernel)
theorem dX4_addNeighbours_39 : decode cX4_addNeighbours 39 = .ok (.getfield 39, 3) := dcU2 dO_180 (by decide +kernel)
theorem dX4_addNeighbours_42 : decode cX4_addNeighbours 42 = .ok (.iload 5, 2) := dcU1 dO_21 (by decide +kernel)
theorem dX4_addNeighbours_44 : decode cX4_addNeighbours 44 = .ok (.baload, 1) := dc0 dO_51 (by decide +kernel)
theorem dX4_addNeighbours_45 : decode cX4_addNeighbours 45 = .ok (.ifCond .ne 22, 3) := dcS2 dO_154 (by decide +kernel)
theorem dX4_addNeighbours_48 : decode cX4_addNeighbours 48 = .ok (.aload_n 0, 1) := dc0 dO_42 (by decide +kernel)
theorem dX4_addNeighbours_49 : decode cX4_addNeighbours 49 = .ok (.getfield 39, 3) := dcU2 dO_180 (by decide +kernel)
theorem dX4_addNeighbours_52 : decode cX4_addNeighbours 52 = .ok (.iload 5, 2) := dcU1 dO_21 (by decide +kernel)
theorem dX4_addNeighbours_54 : decode cX4_addNeighbours 54 = .ok (.iconst 1, 1) := dc0 dO_4 (by decide +kernel)
theorem dX4_addNeighbours_55 : decode cX4_addNeighbours 55 = .ok (.bastore, 1) := dc0 dO_84 (by decide +kernel)
theorem dX4_addNeighbours_56 : decode cX4_addNeighbours 56 = .ok (.aload_n 0, 1) := dc0 dO_42 (by decide +kernel)
theorem dX4_addNeighbours_57 : decode cX4_addNeighbours 57 = .ok (.getfield 33, 3) := dcU2 dO_180 (by decide +kernel)
theorem dX4_addNeighbours_60 : decode cX4_addNeighbours 60 = .ok (.iload_n 3, 1) := dc0 dO_29 (by decide +kernel)
theorem dX4_addNeighbours_61 : decode cX4_addNeighbours 61 = .ok (.iload 5, 2) := dcU1 dO_21 (by decide +kernel)
theorem dX4_addNeighbours_63 : decode cX4_addNeighbours 63 = .ok (.iastore, 1) := dc0 dO_79 (by decide +kernel)
theorem dX4_addNeighbours_64 : decode cX4_addNeighbours 64 = .ok (.iinc 3 1, 3) := dcI dO_132 (by decide +kernel)
theorem dX4_addNeighbours_67 : decode cX4_addNeighbours 67 = .ok (.iinc 4 1, 3) := dcI dO_132 (by decide +kernel)
theorem dX4_addNeighbours_70 : decode cX4_addNeighbours 70 = .ok (.goto (-65), 3) := dcS2 dO_167 (by decide +kernel)
theorem dX4_addNeighbours_73 : decode cX4_addNeighbours 73 = .ok (.iload_n 3, 1) := dc0 dO_29 (by decide +kernel)
theorem dX4_addNeighbours_74 : decode cX4_addNeighbours 74 = .ok (.ireturn, 1) := dc0 dO_172 (by decide +kernel)
theorem dX4_addSources_0 : decode cX4_addSources 0 = .ok (.iload_n 2, 1) := dc0 dO_28 (by decide +kernel)
theorem dX4_addSources_1 : decode cX4_addSources 1 = .ok (.istore_n 3, 1) := dc0 dO_62 (by decide +kernel)
theorem dX4_addSources_2 : decode cX4_addSources 2 = .ok (.iconst 1, 1) := dc0 dO_4 (by decide +kernel)
theorem dX4_addSources_3 : decode cX4_addSources 3 = .ok (.istore 4, 2) := dcU1 dO_54 (by decide +kernel)
theorem dX4_addSources_5 : decode cX4_addSources 5 = .ok (.iload 4, 2) := dcU1 dO_21 (by decide +kernel)
theorem dX4_addSources_7 : decode cX4_addSources 7 = .ok (.bipush 7, 2) := dcS1 dO_16 (by decide +kernel)
theorem dX4_addSources_9 : decode cX4_addSources 9 = .ok (.if_icmp .ge 105, 3) := dcS2 dO_162 (by decide +kernel)
theorem dX4_addSources_12 : decode cX4_addSources 12 = .ok (.aload_n 0, 1) := dc0 dO_42 (by decide +kernel)
theorem dX4_addSources_13 : decode cX4_addSources 13 = .ok (.iload 4, 2) := dcU1 dO_21 (by decide +kernel)
theorem dX4_addSources_15 : decode cX4_addSources 15 = .ok (.invokevirtual 71, 3) := dcU2 dO_182 (by decide +kernel)
theorem dX4_addSources_18 : decode cX4_addSources 18 = .ok (.aload_n 0, 1) := dc0 dO_42 (by decide +kernel)
theorem dX4_addSources_19 : decode cX4_addSources 19 = .ok (.getfield 30, 3) := dcU2 dO_180 (by decide +kernel)
theorem dX4_addSources_22 : decode cX4_addSources 22 = .ok (.iload 4, 2) := dcU1 dO_21 (by decide +kernel)
theorem dX4_addSources_24 : decode cX4_addSources 24 = .ok (.iaload, 1) := dc0 dO_46 (by decide +kernel)
theorem dX4_addSources_25 : decode cX4_addSources 25 = .ok (.if_icmp .eq 6, 3) := dcS2 dO_159 (by decide +kernel)
theorem dX4_addSources_28 : decode cX4_addSources 28 = .ok (.goto 80, 3) := dcS2 dO_167 (by decide +kernel)
theorem dX4_addSources_31 : decode cX4_addSources 31 = .ok (.iconst 0, 1) := dc0 dO_3 (by decide +kernel)
theorem dX4_addSources_32 : decode cX4_addSources 32 = .ok (.istore 5, 2) := dcU1 dO_54 (by decide +kernel)
theorem dX4_addSources_34 : decode cX4_addSources 34 = .ok (.iload 5, 2) := dcU1 dO_21 (by decide +kernel)
theorem dX4_addSources_36 : decode cX4_addSources 36 = .ok (.aload_n 0, 1) := dc0 dO_42 (by decide +kernel)
theorem dX4_addSources_37 : decode cX4_addSources 37 = .ok (.getfield 11, 3) := dcU2 dO_180 (by decide +kernel)
theorem dX4_addSources_40 : decode cX4_addSources 40 = .ok (.iload 4, 2) := dcU1 dO_21 (by decide +kernel)
theorem dX4_addSources_42 : decode cX4_addSources 42 = .ok (.iaload, 1) := dc0 dO_46 (by decide +kernel)
theorem dX4_addSources_43 : decode cX4_addSources 43 = .ok (.if_icmp .gt 65, 3) := dcS2 dO_163 (by decide +kernel)
theorem dX4_addSources_46 : decode cX4_addSources 46 = .ok (.iload_n 1, 1) := dc0 dO_27 (by decide +kernel)
theorem dX4_addSources_47 : decode cX4_addSources 47 = .ok (.iload 5, 2) := dcU1 dO_21 (by decide +kernel)
theorem dX4_addSources_49 : decode cX4_addSources 49 = .ok (.aload_n 0, 1) := dc0 dO_42 (by decide +kernel)
theorem dX4_addSources_50 : decode cX4_addSources 50 = .ok (.getfield 30, 3) := dcU2 dO_180 (by decide +kernel)
theorem dX4_addSources_53 : decode cX4_addSources 53 = .ok (.iload 4, 2) := dcU1 dO_21 (by decide +kernel)
theorem dX4_addSources_55 : decode cX4_addSources 55 = .ok (.iaload, 1) := dc0 dO_46 (by decide +kernel)
theorem dX4_addSources_56 : decode cX4_addSources 56 = .ok (.isub, 1) := dc0 dO_100 (by decide +kernel)
theorem dX4_addSources_57 : decode cX4_addSources 57 = .ok (.aload_n 0, 1) := dc0 dO_42 (by decide +kernel)
theorem dX4_addSources_58 : decode cX4_addSources 58 = .ok (.getfield 27, 3) := dcU2 dO_180 (by decide +kernel)
theorem dX4_addSources_61 : decode cX4_addSources 61 = .ok (.iload 4, 2) := dcU1 dO_21 (by decide +kernel)
theorem dX4_addSources_63 : decode cX4_addSources 63 = .ok (.iaload, 1) := dc0 dO_46 (by decide +kernel)
theorem dX4_addSources_64 : decode cX4_addSources 64 = .ok (.imul, 1) := dc0 dO_104 (by decide +kernel)
theorem dX4_addSources_65 : decode cX4_addSources 65 = .ok (.iadd, 1) := dc0 dO_96 (by decide +kernel)
theorem dX4_addSources_66 : decode cX4_addSources 66 = .ok (.istore 6, 2) := dcU1 dO_54 (by decide +kernel)
theorem dX4_addSources_68 : decode cX4_addSources 68 = .ok (.aload_n 0, 1) := dc0 dO_42 (by decide +kernel)
theorem dX4_addSources_69 : decode cX4_addSources 69 = .ok (.getfield 39, 3) := dcU2 dO_180 (by decide +kernel)
theorem dX4_addSources_72 : decode cX4_addSources 72 = .ok (.iload 6, 2) := dcU1 dO_21 (by decide +kernel)
theorem dX4_addSources_74 : decode cX4_addSources 74 = .ok (.baload, 1) := dc0 dO_51 (by decide +kernel)
theorem dX4_addSources_75 : decode cX4_addSources 75 = .ok (.iconst 1, 1) := dc0 dO_4 (by decide +kernel)
theorem dX4_addSources_76 : decode cX4_addSources 76 = .ok (.if_icmp .ne 26, 3) := dcS2 dO_160 (by decide +kernel)
theorem dX4_addSources_79 : decode cX4_addSources 79 = .ok (.aload_n 0, 1) := dc0 dO_42 (by decide +kernel)
theorem dX4_addSources_80 : decode cX4_addSources 80 = .ok (.getfield 39, 3) := dcU2 dO_180 (by decide +kernel)
theorem dX4_addSources_83 : decode cX4_addSources 83 = .ok (.iload 6, 2) := dcU1 dO_21 (by decide +kernel)
theorem dX4_addSources_85 : decode cX4_addSources 85 = .ok (.dup2, 1) := dc0 dO_92 (by decide +kernel)
theorem dX4_addSources_86 : decode cX4_addSources 86 = .ok (.baload, 1) := dc0 dO_51 (by decide +kernel)
theorem dX4_addSources_87 : decode cX4_addSources 87 = .ok (.iconst 2, 1) := dc0 dO_5 (by decide +kernel)
theorem dX4_addSources_88 : decode cX4_addSources 88 = .ok (.ior, 1) := dc0 dO_128 (by decide +kernel)
theorem dX4_addSources_89 : decode cX4_addSources 89 = .ok (.i2b, 1) := dc0 dO_145 (by decide +kernel)
theorem dX4_addSources_90 : decode cX4_addSources 90 = .ok (.bastore, 1) := dc0 dO_84 (by decide +kernel)
theorem dX4_addSources_91 : decode cX4_addSources 91 = .ok (.aload_n 0, 1) := dc0 dO_42 (by decide +kernel)
theorem dX4_addSources_92 : decode cX4_addSources 92 = .ok (.getfield 33, 3) := dcU2 dO_180 (by decide +kernel)
theorem dX4_addSources_95 : decode cX4_addSources 95 = .ok (.iload_n 3, 1) := dc0 dO_29 (by decide +kernel)
theorem dX4_addSources_96 : decode cX4_addSources 96 = .ok (.iload 6, 2) := dcU1 dO_21 (by decide +kernel)
theorem dX4_addSources_98 : decode cX4_addSources 98 = .ok (.iastore, 1) := dc0 dO_79 (by decide +kernel)
theorem dX4_addSources_99 : decode cX4_addSources 99 = .ok (.iinc 3 1, 3) := dcI dO_132 (by decide +kernel)
theorem dX4_addSources_102 : decode cX4_addSources 102 = .ok (.iinc 5 1, 3) := dcI dO_132 (by decide +kernel)
theorem dX4_addSources_105 : decode cX4_addSources 105 = .ok (.goto (-71), 3) := dcS2 dO_167 (by decide +kernel)
theorem dX4_addSources_108 : decode cX4_addSources 108 = .ok (.iinc 4 1, 3) := dcI dO_132 (by decide +kernel)
theorem dX4_addSources_111 : decode cX4_addSources 111 = .ok (.goto (-106), 3) := dcS2 dO_167 (by decide +kernel)
theorem dX4_addSources_114 : decode cX4_addSources 114 = .ok (.iload_n 3, 1) := dc0 dO_29 (by decide +kernel)
theorem dX4_addSources_115 : decode cX4_addSources 115 = .ok (.ireturn, 1) := dc0 dO_172 (by decide +kernel)
theorem dX4_countUp_0 : decode cX4_countUp 0 = .ok (.bipush 6, 2) := dcS1 dO_16 (by decide +kernel)
theorem dX4_countUp_2 : decode cX4_countUp 2 = .ok (.istore_n 1, 1) := dc0 dO_60 (by decide +kernel)
theorem dX4_countUp_3 : decode cX4_countUp 3 = .ok (.iload_n 1, 1) := dc0 dO_27 (by decide +kernel)
theorem dX4_countUp_4 : decode cX4_countUp 4 = .ok (.iconst 1, 1) := dc0 dO_4 (by decide +kernel)
theorem dX4_countUp_5 : decode cX4_countUp 5 = .ok (.if_icmp .le 31, 3) := dcS2 dO_164 (by decide +kernel)
theorem dX4_countUp_8 : decode cX4_countUp 8 = .ok (.aload_n 0, 1) := dc0 dO_42 (by decide +kernel)
theorem dX4_countUp_9 : decode cX4_countUp 9 = .ok (.getfield 30, 3) := dcU2 dO_180 (by decide +kernel)
theorem dX4_countUp_12 : decode cX4_countUp 12 = .ok (.iload_n 1, 1) := dc0 dO_27 (by decide +kernel)
theorem dX4_countUp_13 : decode cX4_countUp 13 = .ok (.iaload, 1) := dc0 dO_46 (by decide +kernel)
theorem dX4_countUp_14 : decode cX4_countUp 14 = .ok (.aload_n 0, 1) := dc0 dO_42 (by decide +kernel)
theorem dX4_countUp_15 : decode cX4_countUp 15 = .ok (.getfield 11, 3) := dcU2 dO_180 (by decide +kernel)
theorem dX4_countUp_18 : decode cX4_countUp 18 = .ok (.iload_n 1, 1) := dc0 dO_27 (by decide +kernel)
theorem dX4_countUp_19 : decode cX4_countUp 19 = .ok (.iaload, 1) := dc0 dO_46 (by decide +kernel)
theorem dX4_countUp_20 : decode cX4_countUp 20 = .ok (.if_icmp .ne 16, 3) := dcS2 dO_160 (by decide +kernel)
theorem dX4_countUp_23 : decode cX4_countUp 23 = .ok (.aload_n 0, 1) := dc0 dO_42 (by decide +kernel)
theorem dX4_countUp_24 : decode cX4_countUp 24 = .ok (.getfield 30, 3) := dcU2 dO_180 (by decide +kernel)
theorem dX4_countUp_27 : decode cX4_countUp 27 = .ok (.iload_n 1, 1) := dc0 dO_27 (by decide +kernel)
theorem dX4_countUp_28 : decode cX4_countUp 28 = .ok (.iconst 0, 1) := dc0 dO_3 (by decide +kernel)
theorem dX4_countUp_29 : decode cX4_countUp 29 = .ok (.iastore, 1) := dc0 dO_79 (by decide +kernel)
theorem dX4_countUp_30 : decode cX4_countUp 30 = .ok (.iinc 1 (-1), 3) := dcI dO_132 (by decide +kernel)
theorem dX4_countUp_33 : decode cX4_countUp 33 = .ok (.goto (-30), 3) := dcS2 dO_167 (by decide +kernel)
theorem dX4_countUp_36 : decode cX4_countUp 36 = .ok (.aload_n 0, 1) := dc0 dO_42 (by decide +kernel)
theorem dX4_countUp_37 : decode cX4_countUp 37 = .ok (.getfield 30, 3) := dcU2 dO_180 (by decide +kernel)
theorem dX4_countUp_40 : decode cX4_countUp 40 = .ok (.iload_n 1, 1) := dc0 dO_27 (by decide +kernel)
theorem dX4_countUp_41 : decode cX4_countUp 41 = .ok (.dup2, 1) := dc0 dO_92 (by decide +kernel)
theorem dX4_countUp_42 : decode cX4_countUp 42 = .ok (.iaload, 1) := dc0 dO_46 (by decide +kernel)
theorem dX4_countUp_43 : decode cX4_countUp 43 = .ok (.iconst 1, 1) := dc0 dO_4 (by decide +kernel)
theorem dX4_countUp_44 : decode cX4_countUp 44 = .ok (.iadd, 1) := dc0 dO_96 (by decide +kernel)
theorem dX4_countUp_45 : decode cX4_countUp 45 = .ok (.iastore, 1) := dc0 dO_79 (by decide +kernel)
theorem dX4_countUp_46 : decode cX4_countUp 46 = .ok (.return_, 1) := dc0 dO_177 (by decide +kernel)
theorem dX4_find_0 : decode cX4_find 0 = .ok (.aload_n 1, 1) := dc0 dO_43 (by decide +kernel)
theorem dX4_find_1 : decode cX4_find 1 = .ok (.iload_n 2, 1) := dc0 dO_28 (by decide +kernel)
theorem dX4_find_2 : decode cX4_find 2 = .ok (.iaload, 1) := dc0 dO_46 (by decide +kernel)
theorem dX4_find_3 : decode cX4_find 3 = .ok (.istore 4, 2) := dcU1 dO_54 (by decide +kernel)
theorem dX4_find_5 : decode cX4_find 5 = .ok (.iconst 0, 1) := dc0 dO_3 (by decide +kernel)
theorem dX4_find_6 : decode cX4_find 6 = .ok (.istore 5, 2) := dcU1 dO_54 (by decide +kernel)
theorem dX4_find_8 : decode cX4_find 8 = .ok (.iload 5, 2) := dcU1 dO_21 (by decide +kernel)
theorem dX4_find_10 : decode cX4_find 10 = .ok (.aload_n 0, 1) := dc0 dO_42 (by decide +kernel)
theorem dX4_find_11 : decode cX4_find 11 = .ok (.getfield 11, 3) := dcU2 dO_180 (by decide +kernel)
theorem dX4_find_14 : decode cX4_find 14 = .ok (.iload 4, 2) := dcU1 dO_21 (by decide +kernel)
theorem dX4_find_16 : decode cX4_find 16 = .ok (.iaload, 1) := dc0 dO_46 (by decide +kernel)
theorem dX4_find_17 : decode cX4_find 17 = .ok (.if_icmp .ge 93, 3) := dcS2 dO_162 (by decide +kernel)
theorem dX4_find_20 : decode cX4_find 20 = .ok (.iload 4, 2) := dcU1 dO_21 (by decide +kernel)
theorem dX4_find_22 : decode cX4_find 22 = .ok (.iconst 5, 1) := dc0 dO_8 (by decide +kernel)
theorem dX4_find_23 : decode cX4_find 23 = .ok (.imul, 1) := dc0 dO_104 (by decide +kernel)
theorem dX4_find_24 : decode cX4_find 24 = .ok (.iload 5, 2) := dcU1 dO_21 (by decide +kernel)
theorem dX4_find_26 : decode cX4_find 26 = .ok (.iadd, 1) := dc0 dO_96 (by decide +kernel)
theorem dX4_find_27 : decode cX4_find 27 = .ok (.istore 6, 2) := dcU1 dO_54 (by decide +kernel)
theorem dX4_find_29 : decode cX4_find 29 = .ok (.aload_n 0, 1) := dc0 dO_42 (by decide +kernel)
theorem dX4_find_30 : decode cX4_find 30 = .ok (.getfield 18, 3) := dcU2 dO_180 (by decide +kernel)
theorem dX4_find_33 : decode cX4_find 33 = .ok (.iload 6, 2) := dcU1 dO_21 (by decide +kernel)
theorem dX4_find_35 : decode cX4_find 35 = .ok (.iaload, 1) := dc0 dO_46 (by decide +kernel)
theorem dX4_find_36 : decode cX4_find 36 = .ok (.iload_n 3, 1) := dc0 dO_29 (by decide +kernel)
theorem dX4_find_37 : decode cX4_find 37 = .ok (.if_icmp .ne 7, 3) := dcS2 dO_160 (by decide +kernel)
theorem dX4_find_40 : decode cX4_find 40 = .ok (.iconst 1, 1) := dc0 dO_4 (by decide +kernel)
theorem dX4_find_41 : decode cX4_find 41 = .ok (.goto 4, 3) := dcS2 dO_167 (by decide +kernel)
theorem dX4_find_44 : decode cX4_find 44 = .ok (.iconst 0, 1) := dc0 dO_3 (by decide +kernel)
theorem dX4_find_45 : decode cX4_find 45 = .ok (.istore 7, 2) := dcU1 dO_54 (by decide +kernel)
theorem dX4_find_47 : decode cX4_find 47 = .ok (.iconst 0, 1) := dc0 dO_3 (by decide +kernel)
theorem dX4_find_48 : decode cX4_find 48 = .ok (.istore 8, 2) := dcU1 dO_54 (by decide +kernel)
theorem dX4_find_50 : decode cX4_find 50 = .ok (.iload 8, 2) := dcU1 dO_21 (by decide +kernel)
theorem dX4_find_52 : decode cX4_find 52 = .ok (.iload_n 3, 1) := dc0 dO_29 (by decide +kernel)
theorem dX4_find_53 : decode cX4_find 53 = .ok (.if_icmp .ge 43, 3) := dcS2 dO_162 (by decide +kernel)
theorem dX4_find_56 : decode cX4_find 56 = .ok (.iload 7, 2) := dcU1 dO_21 (by decide +kernel)
theorem dX4_find_58 : decode cX4_find 58 = .ok (.ifCond .eq 38, 3) := dcS2 dO_153 (by decide +kernel)
theorem dX4_find_61 : decode cX4_find 61 = .ok (.aload_n 0, 1) := dc0 dO_42 (by decide +kernel)
theorem dX4_find_62 : decode cX4_find 62 = .ok (.getfield 15, 3) := dcU2 dO_180 (by decide +kernel)
theorem dX4_find_65 : decode cX4_find 65 = .ok (.iload 6, 2) := dcU1 dO_21 (by decide +kernel)
theorem dX4_find_67 : decode cX4_find 67 = .ok (.bipush 7, 2) := dcS1 dO_16 (by decide +kernel)
theorem dX4_find_69 : decode cX4_find 69 = .ok (.imul, 1) := dc0 dO_104 (by decide +kernel)
theorem dX4_find_70 : decode cX4_find 70 = .ok (.iload 8, 2) := dcU1 dO_21 (by decide +kernel)
theorem dX4_find_72 : decode cX4_find 72 = .ok (.iadd, 1) := dc0 dO_96 (by decide +kernel)
theorem dX4_find_73 : decode cX4_find 73 = .ok (.iaload, 1) := dc0 dO_46 (by decide +kernel)
theorem dX4_find_74 : decode cX4_find 74 = .ok (.aload_n 1, 1) := dc0 dO_43 (by decide +kernel)
theorem dX4_find_75 : decode cX4_find 75 = .ok (.iload_n 2, 1) := dc0 dO_28 (by decide +kernel)
theorem dX4_find_76 : decode cX4_find 76 = .ok (.iload 8, 2) := dcU1 dO_21 (by decide +kernel)
theorem dX4_find_78 : decode cX4_find 78 = .ok (.iadd, 1) := dc0 dO_96 (by decide +kernel)
theorem dX4_find_79 : decode cX4_find 79 = .ok (.iaload, 1) := dc0 dO_46 (by decide +kernel)
theorem dX4_find_80 : decode cX4_find 80 = .ok (.if_icmp .ne 7, 3) := dcS2 dO_160 (by decide +kernel)
theorem dX4_find_83 : decode cX4_find 83 = .ok (.iconst 1, 1) := dc0 dO_4 (by decide +kernel)
theorem dX4_find_84 : decode cX4_find 84 = .ok (.goto 4, 3) := dcS2 dO_167 (by decide +kernel)
theorem dX4_find_87 : decode cX4_find 87 = .ok (.iconst 0, 1) := dc0 dO_3 (by decide +kernel)
theorem dX4_find_88 : decode cX4_find 88 = .ok (.istore 7, 2) := dcU1 dO_54 (by decide +kernel)
theorem dX4_find_90 : decode cX4_find 90 = .ok (.iinc 8 1, 3) := dcI dO_132 (by decide +kernel)
theorem dX4_find_93 : decode cX4_find 93 = .ok (.goto (-43), 3) := dcS2 dO_167 (by decide +kernel)
theorem dX4_find_96 : decode cX4_find 96 = .ok (.iload 7, 2) := dcU1 dO_21 (by decide +kernel)
theorem dX4_find_98 : decode cX4_find 98 = .ok (.ifCond .eq 6, 3) := dcS2 dO_153 (by decide +kernel)
theorem dX4_find_101 : decode cX4_find 101 = .ok (.iload 5, 2) := dcU1 dO_21 (by decide +kernel)
theorem dX4_find_103 : decode cX4_find 103 = .ok (.ireturn, 1) := dc0 dO_172 (by decide +kernel)
theorem dX4_find_104 : decode cX4_find 104 = .ok (.iinc 5 1, 3) := dcI dO_132 (by decide +kernel)
theorem dX4_find_107 : decode cX4_find 107 = .ok (.goto (-99), 3) := dcS2 dO_167 (by decide +kernel)
theorem dX4_find_110 : decode cX4_find 110 = .ok (.iconst (-1), 1) := dc0 dO_2 (by decide +kernel)
theorem dX4_find_111 : decode cX4_find 111 = .ok (.ireturn, 1) := dc0 dO_172 (by decide +kernel)
theorem dX4_leadBack_0 : decode cX4_leadBack 0 = .ok (.iconst 0, 1) := dc0 dO_3 (by decide +kernel)
theorem dX4_leadBack_1 : decode cX4_leadBack 1 = .ok (.istore_n 1, 1) := dc0 dO_60 (by decide +kernel)
theorem dX4_leadBack_2 : decode cX4_leadBack 2 = .ok (.iconst 0, 1) := dc0 dO_3 (by decide +kernel)
theorem dX4_leadBack_3 : decode cX4_leadBack 3 = .ok (.istore_n 2, 1) := dc0 dO_61 (by decide +kernel)
theorem dX4_leadBack_4 : decode cX4_leadBack 4 = .ok (.iload_n 2, 1) := dc0 dO_28 (by decide +kernel)
theorem dX4_leadBack_5 : decode cX4_leadBack 5 = .ok (.aload_n 0, 1) := dc0 dO_42 (by decide +kernel)
theorem dX4_leadBack_6 : decode cX4_leadBack 6 = .ok (.getfield 59, 3) := dcU2 dO_180 (by decide +kernel)
theorem dX4_leadBack_9 : decode cX4_leadBack 9 = .ok (.if_icmp .ge 30, 3) := dcS2 dO_162 (by decide +kernel)
theorem dX4_leadBack_12 : decode cX4_leadBack 12 = .ok (.aload_n 0, 1) := dc0 dO_42 (by decide +kernel)
theorem dX4_leadBack_13 : decode cX4_leadBack 13 = .ok (.getfield 39, 3) := dcU2 dO_180 (by decide +kernel)
theorem dX4_leadBack_16 : decode cX4_leadBack 16 = .ok (.iload_n 2, 1) := dc0 dO_28 (by decide +kernel)
theorem dX4_leadBack_17 : decode cX4_leadBack 17 = .ok (.baload, 1) := dc0 dO_51 (by decide +kernel)
theorem dX4_leadBack_18 : decode cX4_leadBack 18 = .ok (.iconst 2, 1) := dc0 dO_5 (by decide +kernel)
theorem dX4_leadBack_19 : decode cX4_leadBack 19 = .ok (.iand, 1) := dc0 dO_126 (by decide +kernel)
theorem dX4_leadBack_20 : decode cX4_leadBack 20 = .ok (.ifCond .eq 13, 3) := dcS2 dO_153 (by decide +kernel)
theorem dX4_leadBack_23 : decode cX4_leadBack 23 = .ok (.aload_n 0, 1) := dc0 dO_42 (by decide +kernel)
theorem dX4_leadBack_24 : decode cX4_leadBack 24 = .ok (.getfield 33, 3) := dcU2 dO_180 (by decide +kernel)
theorem dX4_leadBack_27 : decode cX4_leadBack 27 = .ok (.iload_n 1, 1) := dc0 dO_27 (by decide +kernel)
theorem dX4_leadBack_28 : decode cX4_leadBack 28 = .ok (.iload_n 2, 1) := dc0 dO_28 (by decide +kernel)
theorem dX4_leadBack_29 : decode cX4_leadBack 29 = .ok (.iastore, 1) := dc0 dO_79 (by decide +kernel)
theorem dX4_leadBack_30 : decode cX4_leadBack 30 = .ok (.iinc 1 1, 3) := dcI dO_132 (by decide +kernel)
theorem dX4_leadBack_33 : decode cX4_leadBack 33 = .ok (.iinc 2 1, 3) := dcI dO_132 (by decide +kernel)
theorem dX4_leadBack_36 : decode cX4_leadBack 36 = .ok (.goto (-32), 3) := dcS2 dO_167 (by decide +kernel)
theorem dX4_leadBack_39 : decode cX4_leadBack 39 = .ok (.iconst 0, 1) := dc0 dO_3 (by decide +kernel)
theorem dX4_leadBack_40 : decode cX4_leadBack 40 = .ok (.istore_n 2, 1) := dc0 dO_61 (by decide +kernel)
theorem dX4_leadBack_41 : decode cX4_leadBack 41 = .ok (.iload_n 2, 1) := dc0 dO_28 (by decide +kernel)
theorem dX4_leadBack_42 : decode cX4_leadBack 42 = .ok (.iload_n 1, 1) := dc0 dO_27 (by decide +kernel)
theorem dX4_leadBack_43 : decode cX4_leadBack 43 = .ok (.if_icmp .ge 31, 3) := dcS2 dO_162 (by decide +kernel)
theorem dX4_leadBack_46 : decode cX4_leadBack 46 = .ok (.aload_n 0, 1) := dc0 dO_42 (by decide +kernel)
theorem dX4_leadBack_47 : decode cX4_leadBack 47 = .ok (.aload_n 0, 1) := dc0 dO_42 (by decide +kernel)
theorem dX4_leadBack_48 : decode cX4_leadBack 48 = .ok (.getfield 33, 3) := dcU2 dO_180 (by decide +kernel)
theorem dX4_leadBack_51 : decode cX4_leadBack 51 = .ok (.iload_n 2, 1) := dc0 dO_28 (by decide +kernel)
theorem dX4_leadBack_52 : decode cX4_leadBack 52 = .ok (.iaload, 1) := dc0 dO_46 (by decide +kernel)
theorem dX4_leadBack_53 : decode cX4_leadBack 53 = .ok (.invokevirtual 85, 3) := dcU2 dO_182 (by decide +kernel)
theorem dX4_leadBack_56 : decode cX4_leadBack 56 = .ok (.aload_n 0, 1) := dc0 dO_42 (by decide +kernel)
theorem dX4_leadBack_57 : decode cX4_leadBack 57 = .ok (.aload_n 0, 1) := dc0 dO_42 (by decide +kernel)
theorem dX4_leadBack_58 : decode cX4_leadBack 58 = .ok (.getfield 33, 3) := dcU2 dO_180 (by decide +kernel)
theorem dX4_leadBack_61 : decode cX4_leadBack 61 = .ok (.iload_n 2, 1) := dc0 dO_28 (by decide +kernel)
theorem dX4_leadBack_62 : decode cX4_leadBack 62 = .ok (.iaload, 1) := dc0 dO_46 (by decide +kernel)
theorem dX4_leadBack_63 : decode cX4_leadBack 63 = .ok (.iload_n 1, 1) := dc0 dO_27 (by decide +kernel)
theorem dX4_leadBack_64 : decode cX4_leadBack 64 = .ok (.invokevirtual 127, 3) := dcU2 dO_182 (by decide +kernel)
theorem dX4_leadBack_67 : decode cX4_leadBack 67 = .ok (.istore_n 1, 1) := dc0 dO_60 (by decide +kernel)
theorem dX4_leadBack_68 : decode cX4_leadBack 68 = .ok (.iinc 2 1, 3) := dcI dO_132 (by decide +kernel)
theorem dX4_leadBack_71 : decode cX4_leadBack 71 = .ok (.goto (-30), 3) := dcS2 dO_167 (by decide +kernel)
theorem dX4_leadBack_74 : decode cX4_leadBack 74 = .ok (.iload_n 1, 1) := dc0 dO_27 (by decide +kernel)
theorem dX4_leadBack_75 : decode cX4_leadBack 75 = .ok (.ireturn, 1) := dc0 dO_172 (by decide +kernel)
theorem dX4_need_0 : decode cX4_need 0 = .ok (.aload_n 0, 1) := dc0 dO_42 (by decide +kernel)
theorem dX4_need_1 : decode cX4_need 1 = .ok (.getfield 15, 3) := dcU2 dO_180 (by decide +kernel)
theorem dX4_need_4 : decode cX4_need 4 = .ok (.iload_n 1, 1) := dc0 dO_27 (by decide +kernel)
theorem dX4_need_5 : decode cX4_need 5 = .ok (.bipush 7, 2) := dcS1 dO_16 (by decide +kernel)
theorem dX4_need_7 : decode cX4_need 7 = .ok (.imul, 1) := dc0 dO_104 (by decide +kernel)
theorem dX4_need_8 : decode cX4_need 8 = .ok (.iconst 1, 1) := dc0 dO_4 (by decide +kernel)
theorem dX4_need_9 : decode cX4_need 9 = .ok (.iadd, 1) := dc0 dO_96 (by decide +kernel)
theorem dX4_need_10 : decode cX4_need 10 = .ok (.iaload, 1) := dc0 dO_46 (by decide +kernel)
theorem dX4_need_11 : decode cX4_need 11 = .ok (.istore_n 2, 1) := dc0 dO_61 (by decide +kernel)
theorem dX4_need_12 : decode cX4_need 12 = .ok (.aload_n 0, 1) := dc0 dO_42 (by decide +kernel)
theorem dX4_need_13 : decode cX4_need 13 = .ok (.getfield 21, 3) := dcU2 dO_180 (by decide +kernel)
theorem dX4_need_16 : decode cX4_need 16 = .ok (.iload_n 1, 1) := dc0 dO_27 (by decide +kernel)
theorem dX4_need_17 : decode cX4_need 17 = .ok (.iload_n 2, 1) := dc0 dO_28 (by decide +kernel)
theorem dX4_need_18 : decode cX4_need 18 = .ok (.iastore, 1) := dc0 dO_79 (by decide +kernel)
theorem dX4_need_19 : decode cX4_need 19 = .ok (.aload_n 0, 1) := dc0 dO_42 (by decide +kernel)
theorem dX4_need_20 : decode cX4_need 20 = .ok (.getfield 24, 3) := dcU2 dO_180 (by decide +kernel)
theorem dX4_need_23 : decode cX4_need 23 = .ok (.iload_n 1, 1) := dc0 dO_27 (by decide +kernel)
theorem dX4_need_24 : decode cX4_need 24 = .ok (.iload_n 2, 1) := dc0 dO_28 (by decide +kernel)
theorem dX4_need_25 : decode cX4_need 25 = .ok (.ifCond .ne 7, 3) := dcS2 dO_154 (by decide +kernel)
theorem dX4_need_28 : decode cX4_need 28 = .ok (.iconst 0, 1) := dc0 dO_3 (by decide +kernel)
theorem dX4_need_29 : decode cX4_need 29 = .ok (.goto 25, 3) := dcS2 dO_167 (by decide +kernel)
theorem dX4_need_32 : decode cX4_need 32 = .ok (.aload_n 0, 1) := dc0 dO_42 (by decide +kernel)
theorem dX4_need_33 : decode cX4_need 33 = .ok (.aload_n 0, 1) := dc0 dO_42 (by decide +kernel)
theorem dX4_need_34 : decode cX4_need 34 = .ok (.getfield 15, 3) := dcU2 dO_180 (by decide +kernel)
theorem dX4_need_37 : decode cX4_need 37 = .ok (.iload_n 1, 1) := dc0 dO_27 (by decide +kernel)
theorem dX4_need_38 : decode cX4_need 38 = .ok (.bipush 7, 2) := dcS1 dO_16 (by decide +kernel)
theorem dX4_need_40 : decode cX4_need 40 = .ok (.imul, 1) := dc0 dO_104 (by decide +kernel)
theorem dX4_need_41 : decode cX4_need 41 = .ok (.iconst 1, 1) := dc0 dO_4 (by decide +kernel)
theorem dX4_need_42 : decode cX4_need 42 = .ok (.iadd, 1) := dc0 dO_96 (by decide +kernel)
theorem dX4_need_43 : decode cX4_need 43 = .ok (.aload_n 0, 1) := dc0 dO_42 (by decide +kernel)
theorem dX4_need_44 : decode cX4_need 44 = .ok (.getfield 18, 3) := dcU2 dO_180 (by decide +kernel)
theorem dX4_need_47 : decode cX4_need 47 = .ok (.iload_n 1, 1) := dc0 dO_27 (by decide +kernel)
theorem dX4_need_48 : decode cX4_need 48 = .ok (.iaload, 1) := dc0 dO_46 (by decide +kernel)
theorem dX4_need_49 : decode cX4_need 49 = .ok (.iconst 1, 1) := dc0 dO_4 (by decide +kernel)
theorem dX4_need_50 : decode cX4_need 50 = .ok (.isub, 1) := dc0 dO_100 (by decide +kernel)
theorem dX4_need_51 : decode cX4_need 51 = .ok (.invokevirtual 67, 3) := dcU2 dO_182 (by decide +kernel)
theorem dX4_need_54 : decode cX4_need 54 = .ok (.iastore, 1) := dc0 dO_79 (by decide +kernel)
theorem dX4_need_55 : decode cX4_need 55 = .ok (.return_, 1) := dc0 dO_177 (by decide +kernel)
theorem dX4_prepare_0 : decode cX4_prepare 0 = .ok (.aload_n 0, 1) := dc0 dO_42 (by decide +kernel)
theorem dX4_prepare_1 : decode cX4_prepare 1 = .ok (.iconst 1, 1) := dc0 dO_4 (by decide +kernel)
theorem dX4_prepare_2 : decode cX4_prepare 2 = .ok (.putfield 59, 3) := dcU2 dO_181 (by decide +kernel)
theorem dX4_prepare_5 : decode cX4_prepare 5 = .ok (.bipush 6, 2) := dcS1 dO_16 (by decide +kernel)
theorem dX4_prepare_7 : decode cX4_prepare 7 = .ok (.istore_n 1, 1) := dc0 dO_60 (by decide +kernel)
theorem dX4_prepare_8 : decode cX4_prepare 8 = .ok (.iload_n 1, 1) := dc0 dO_27 (by decide +kernel)
theorem dX4_prepare_9 : decode cX4_prepare 9 = .ok (.iconst 1, 1) := dc0 dO_4 (by decide +kernel)
theorem dX4_prepare_10 : decode cX4_prepare 10 = .ok (.if_icmp .lt 63, 3) := dcS2 dO_161 (by decide +kernel)
theorem dX4_prepare_13 : decode cX4_prepare 13 = .ok (.aload_n 0, 1) := dc0 dO_42 (by decide +kernel)
theorem dX4_prepare_14 : decode cX4_prepare 14 = .ok (.getfield 27, 3) := dcU2 dO_180 (by decide +kernel)
theorem dX4_prepare_17 : decode cX4_prepare 17 = .ok (.iload_n 1, 1) := dc0 dO_27 (by decide +kernel)
theorem dX4_prepare_18 : decode cX4_prepare 18 = .ok (.aload_n 0, 1) := dc0 dO_42 (by decide +kernel)
theorem dX4_prepare_19 : decode cX4_prepare 19 = .ok (.getfield 59, 3) := dcU2 dO_180 (by decide +kernel)
theorem dX4_prepare_22 : decode cX4_prepare 22 = .ok (.iastore, 1) := dc0 dO_79 (by decide +kernel)
theorem dX4_prepare_23 : decode cX4_prepare 23 = .ok (.aload_n 0, 1) := dc0 dO_42 (by decide +kernel)
theorem dX4_prepare_24 : decode cX4_prepare 24 = .ok (.dup, 1) := dc0 dO_89 (by decide +kernel)
theorem dX4_prepare_25 : decode cX4_prepare 25 = .ok (.getfield 59, 3) := dcU2 dO_180 (by decide +kernel)
theorem dX4_prepare_28 : decode cX4_prepare 28 = .ok (.aload_n 0, 1) := dc0 dO_42 (by decide +kernel)
theorem dX4_prepare_29 : decode cX4_prepare 29 = .ok (.getfield 11, 3) := dcU2 dO_180 (by decide +kernel)
theorem dX4_prepare_32 : decode cX4_prepare 32 = .ok (.iload_n 1, 1) := dc0 dO_27 (by decide +kernel)
theorem dX4_prepare_33 : decode cX4_prepare 33 = .ok (.iaload, 1) := dc0 dO_46 (by decide +kernel)
theorem dX4_prepare_34 : decode cX4_prepare 34 = .ok (.iconst 1, 1) := dc0 dO_4 (by decide +kernel)
theorem dX4_prepare_35 : decode cX4_prepare 35 = .ok (.iadd, 1) := dc0 dO_96 (by decide +kernel)
theorem dX4_prepare_36 : decode cX4_prepare 36 = .ok (.imul, 1) := dc0 dO_104 (by decide +kernel)
theorem dX4_prepare_37 : decode cX4_prepare 37 = .ok (.putfield 59, 3) := dcU2 dO_181 (by decide +kernel)
theorem dX4_prepare_40 : decode cX4_prepare 40 = .ok (.iconst 0, 1) := dc0 dO_3 (by decide +kernel)
theorem dX4_prepare_41 : decode cX4_prepare 41 = .ok (.istore_n 2, 1) := dc0 dO_61 (by decide +kernel)
theorem dX4_prepare_42 : decode cX4_prepare 42 = .ok (.iload_n 2, 1) := dc0 dO_28 (by decide +kernel)
theorem dX4_prepare_43 : decode cX4_prepare 43 = .ok (.aload_n 0, 1) := dc0 dO_42 (by decide +kernel)
theorem dX4_prepare_44 : decode cX4_prepare 44 = .ok (.getfield 11, 3) := dcU2 dO_180 (by decide +kernel)
theorem dX4_prepare_47 : decode cX4_prepare 47 = .ok (.iload_n 1, 1) := dc0 dO_27 (by decide +kernel)
theorem dX4_prepare_48 : decode cX4_prepare 48 = .ok (.iaload, 1) := dc0 dO_46 (by decide +kernel)
theorem dX4_prepare_49 : decode cX4_prepare 49 = .ok (.if_icmp .ge 18, 3) := dcS2 dO_162 (by decide +kernel)
theorem dX4_prepare_52 : decode cX4_prepare 52 = .ok (.aload_n 0, 1) := dc0 dO_42 (by decide +kernel)
theorem dX4_prepare_53 : decode cX4_prepare 53 = .ok (.iload_n 1, 1) := dc0 dO_27 (by decide +kernel)
theorem dX4_prepare_54 : decode cX4_prepare 54 = .ok (.iconst 5, 1) := dc0 dO_8 (by decide +kernel)
theorem dX4_prepare_55 : decode cX4_prepare 55 = .ok (.imul, 1) := dc0 dO_104 (by decide +kernel)
theorem dX4_prepare_56 : decode cX4_prepare 56 = .ok (.iload_n 2, 1) := dc0 dO_28 (by decide +kernel)
theorem dX4_prepare_57 : decode cX4_prepare 57 = .ok (.iadd, 1) := dc0 dO_96 (by decide +kernel)
theorem dX4_prepare_58 : decode cX4_prepare 58 = .ok (.invokevirtual 63, 3) := dcU2 dO_182 (by decide +kernel)
theorem dX4_prepare_61 : decode cX4_prepare 61 = .ok (.iinc 2 1, 3) := dcI dO_132 (by decide +kernel)
theorem dX4_prepare_64 : decode cX4_prepare 64 = .ok (.goto (-22), 3) := dcS2 dO_167 (by decide +kernel)
theorem dX4_prepare_67 : decode cX4_prepare 67 = .ok (.iinc 1 (-1), 3) := dcI dO_132 (by decide +kernel)
theorem dX4_prepare_70 : decode cX4_prepare 70 = .ok (.goto (-62), 3) := dcS2 dO_167 (by decide +kernel)
theorem dX4_prepare_73 : decode cX4_prepare 73 = .ok (.return_, 1) := dc0 dO_177 (by decide +kernel)
theorem dX4_spread_0 : decode cX4_spread 0 = .ok (.aload_n 0, 1) := dc0 dO_42 (by decide +kernel)
theorem dX4_spread_1 : decode cX4_spread 1 = .ok (.getfield 43, 3) := dcU2 dO_180 (by decide +kernel)
theorem dX4_spread_4 : decode cX4_spread 4 = .ok (.iconst 1, 1) := dc0 dO_4 (by decide +kernel)
theorem dX4_spread_5 : decode cX4_spread 5 = .ok (.iconst 0, 1) := dc0 dO_3 (by decide +kernel)
theorem dX4_spread_6 : decode cX4_spread 6 = .ok (.iastore, 1) := dc0 dO_79 (by decide +kernel)
theorem dX4_spread_7 : decode cX4_spread 7 = .ok (.aload_n 0, 1) := dc0 dO_42 (by decide +kernel)
theorem dX4_spread_8 : decode cX4_spread 8 = .ok (.getfield 43, 3) := dcU2 dO_180 (by decide +kernel)
theorem dX4_spread_11 : decode cX4_spread 11 = .ok (.iconst 3, 1) := dc0 dO_6 (by decide +kernel)
theorem dX4_spread_12 : decode cX4_spread 12 = .ok (.ldc 123, 2) := dcU1 dO_18 (by decide +kernel)
theorem dX4_spread_14 : decode cX4_spread 14 = .ok (.iastore, 1) := dc0 dO_79 (by decide +kernel)
theorem dX4_spread_15 : decode cX4_spread 15 = .ok (.aload_n 0, 1) := dc0 dO_42 (by decide +kernel)
theorem dX4_spread_16 : decode cX4_spread 16 = .ok (.getfield 33, 3) := dcU2 dO_180 (by decide +kernel)
theorem dX4_spread_19 : decode cX4_spread 19 = .ok (.iconst 0, 1) := dc0 dO_3 (by decide +kernel)
theorem dX4_spread_20 : decode cX4_spread 20 = .ok (.aload_n 0, 1) := dc0 dO_42 (by decide +kernel)
theorem dX4_spread_21 : decode cX4_spread 21 = .ok (.getfield 59, 3) := dcU2 dO_180 (by decide +kernel)
theorem dX4_spread_24 : decode cX4_spread 24 = .ok (.iconst 1, 1) := dc0 dO_4 (by decide +kernel)
theorem dX4_spread_25 : decode cX4_spread 25 = .ok (.isub, 1) := dc0 dO_100 (by decide +kernel)
theorem dX4_spread_26 : decode cX4_spread 26 = .ok (.iastore, 1) := dc0 dO_79 (by decide +kernel)
theorem dX4_spread_27 : decode cX4_spread 27 = .ok (.aload_n 0, 1) := dc0 dO_42 (by decide +kernel)
theorem dX4_spread_28 : decode cX4_spread 28 = .ok (.getfield 39, 3) := dcU2 dO_180 (by decide +kernel)
theorem dX4_spread_31 : decode cX4_spread 31 = .ok (.aload_n 0, 1) := dc0 dO_42 (by decide +kernel)
theorem dX4_spread_32 : decode cX4_spread 32 = .ok (.getfield 59, 3) := dcU2 dO_180 (by decide +kernel)
theorem dX4_spread_35 : decode cX4_spread 35 = .ok (.iconst 1, 1) := dc0 dO_4 (by decide +kernel)
theorem dX4_spread_36 : decode cX4_spread 36 = .ok (.isub, 1) := dc0 dO_100 (by decide +kernel)
theorem dX4_spread_37 : decode cX4_spread 37 = .ok (.iconst 1, 1) := dc0 dO_4 (by decide +kernel)
theorem dX4_spread_38 : decode cX4_spread 38 = .ok (.bastore, 1) := dc0 dO_84 (by decide +kernel)
theorem dX4_spread_39 : decode cX4_spread 39 = .ok (.iconst 1, 1) := dc0 dO_4 (by decide +kernel)
theorem dX4_spread_40 : decode cX4_spread 40 = .ok (.istore_n 1, 1) := dc0 dO_60 (by decide +kernel)
theorem dX4_spread_41 : decode cX4_spread 41 = .ok (.iconst 0, 1) := dc0 dO_3 (by decide +kernel)
theorem dX4_spread_42 : decode cX4_spread 42 = .ok (.istore_n 2, 1) := dc0 dO_61 (by decide +kernel)
theorem dX4_spread_43 : decode cX4_spread 43 = .ok (.iconst 1, 1) := dc0 dO_4 (by decide +kernel)
theorem dX4_spread_44 : decode cX4_spread 44 = .ok (.istore_n 3, 1) := dc0 dO_62 (by decide +kernel)
theorem dX4_spread_45 : decode cX4_spread 45 = .ok (.iconst 0, 1) := dc0 dO_3 (by decide +kernel)
theorem dX4_spread_46 : decode cX4_spread 46 = .ok (.istore 4, 2) := dcU1 dO_54 (by decide +kernel)
theorem dX4_spread_48 : decode cX4_spread 48 = .ok (.iload 4, 2) := dcU1 dO_21 (by decide +kernel)
theorem dX4_spread_50 : decode cX4_spread 50 = .ok (.iload_n 1, 1) := dc0 dO_27 (by decide +kernel)
theorem dX4_spread_51 : decode cX4_spread 51 = .ok (.if_icmp .ge 105, 3) := dcS2 dO_162 (by decide +kernel)
theorem dX4_spread_54 : decode cX4_spread 54 = .ok (.iload 4, 2) := dcU1 dO_21 (by decide +kernel)
theorem dX4_spread_56 : decode cX4_spread 56 = .ok (.iload_n 3, 1) := dc0 dO_29 (by decide +kernel)
theorem dX4_spread_57 : decode cX4_spread 57 = .ok (.if_icmp .ne 8, 3) := dcS2 dO_160 (by decide +kernel)
theorem dX4_spread_60 : decode cX4_spread 60 = .ok (.iinc 2 1, 3) := dcI dO_132 (by decide +kernel)
theorem dX4_spread_63 : decode cX4_spread 63 = .ok (.iload_n 1, 1) := dc0 dO_27 (by decide +kernel)
theorem dX4_spread_64 : decode cX4_spread 64 = .ok (.istore_n 3, 1) := dc0 dO_62 (by decide +kernel)
theorem dX4_spread_65 : decode cX4_spread 65 = .ok (.aload_n 0, 1) := dc0 dO_42 (by decide +kernel)
theorem dX4_spread_66 : decode cX4_spread 66 = .ok (.aload_n 0, 1) := dc0 dO_42 (by decide +kernel)
theorem dX4_spread_67 : decode cX4_spread 67 = .ok (.getfield 33, 3) := dcU2 dO_180 (by decide +kernel)
theorem dX4_spread_70 : decode cX4_spread 70 = .ok (.iload 4, 2) := dcU1 dO_21 (by decide +kernel)
theorem dX4_spread_72 : decode cX4_spread 72 = .ok (.iaload, 1) := dc0 dO_46 (by decide +kernel)
theorem dX4_spread_73 : decode cX4_spread 73 = .ok (.invokevirtual 85, 3) := dcU2 dO_182 (by decide +kernel)
theorem dX4_spread_76 : decode cX4_spread 76 = .ok (.aload_n 0, 1) := dc0 dO_42 (by decide +kernel)
theorem dX4_spread_77 : decode cX4_spread 77 = .ok (.aload_n 0, 1) := dc0 dO_42 (by decide +kernel)
theorem dX4_spread_78 : decode cX4_spread 78 = .ok (.getfield 33, 3) := dcU2 dO_180 (by decide +kernel)
theorem dX4_spread_81 : decode cX4_spread 81 = .ok (.iload 4, 2) := dcU1 dO_21 (by decide +kernel)
theorem dX4_spread_83 : decode cX4_spread 83 = .ok (.iaload, 1) := dc0 dO_46 (by decide +kernel)
theorem dX4_spread_84 : decode cX4_spread 84 = .ok (.iload_n 1, 1) := dc0 dO_27 (by decide +kernel)
theorem dX4_spread_85 : decode cX4_spread 85 = .ok (.invokevirtual 124, 3) := dcU2 dO_182 (by decide +kernel)
theorem dX4_spread_88 : decode cX4_spread 88 = .ok (.istore_n 1, 1) := dc0 dO_60 (by decide +kernel)
theorem dX4_spread_89 : decode cX4_spread 89 = .ok (.aload_n 0, 1) := dc0 dO_42 (by decide +kernel)
theorem dX4_spread_90 : decode cX4_spread 90 = .ok (.invokevirtual 88, 3) := dcU2 dO_182 (by decide +kernel)
theorem dX4_spread_93 : decode cX4_spread 93 = .ok (.ifCond .eq 57, 3) := dcS2 dO_153 (by decide +kernel)
theorem dX4_spread_96 : decode cX4_spread 96 = .ok (.aload_n 0, 1) := dc0 dO_42 (by decide +kernel)
theorem dX4_spread_97 : decode cX4_spread 97 = .ok (.getfield 39, 3) := dcU2 dO_180 (by decide +kernel)
theorem dX4_spread_100 : decode cX4_spread 100 = .ok (.aload_n 0, 1) := dc0 dO_42 (by decide +kernel)
theorem dX4_spread_101 : decode cX4_spread 101 = .ok (.getfield 33, 3) := dcU2 dO_180 (by decide +kernel)
theorem dX4_spread_104 : decode cX4_spread 104 = .ok (.iload 4, 2) := dcU1 dO_21 (by decide +kernel)
theorem dX4_spread_106 : decode cX4_spread 106 = .ok (.iaload, 1) := dc0 dO_46 (by decide +kernel)
theorem dX4_spread_107 : decode cX4_spread 107 = .ok (.dup2, 1) := dc0 dO_92 (by decide +kernel)
theorem dX4_spread_108 : decode cX4_spread 108 = .ok (.baload, 1) := dc0 dO_51 (by decide +kernel)
theorem dX4_spread_109 : decode cX4_spread 109 = .ok (.iconst 2, 1) := dc0 dO_5 (by decide +kernel)
theorem dX4_spread_110 : decode cX4_spread 110 = .ok (.ior, 1) := dc0 dO_128 (by decide +kernel)
theorem dX4_spread_111 : decode cX4_spread 111 = .ok (.i2b, 1) := dc0 dO_145 (by decide +kernel)
theorem dX4_spread_112 : decode cX4_spread 112 = .ok (.bastore, 1) := dc0 dO_84 (by decide +kernel)
theorem dX4_spread_113 : decode cX4_spread 113 = .ok (.aload_n 0, 1) := dc0 dO_42 (by decide +kernel)
theorem dX4_spread_114 : decode cX4_spread 114 = .ok (.getfield 43, 3) := dcU2 dO_180 (by decide +kernel)
theorem dX4_spread_117 : decode cX4_spread 117 = .ok (.iconst 1, 1) := dc0 dO_4 (by decide +kernel)
theorem dX4_spread_118 : decode cX4_spread 118 = .ok (.dup2, 1) := dc0 dO_92 (by decide +kernel)
theorem dX4_spread_119 : decode cX4_spread 119 = .ok (.iaload, 1) := dc0 dO_46 (by decide +kernel)
theorem dX4_spread_120 : decode cX4_spread 120 = .ok (.iconst 1, 1) := dc0 dO_4 (by decide +kernel)
theorem dX4_spread_121 : decode cX4_spread 121 = .ok (.iadd, 1) := dc0 dO_96 (by decide +kernel)
theorem dX4_spread_122 : decode cX4_spread 122 = .ok (.iastore, 1) := dc0 dO_79 (by decide +kernel)
theorem dX4_spread_123 : decode cX4_spread 123 = .ok (.aload_n 0, 1) := dc0 dO_42 (by decide +kernel)
theorem dX4_spread_124 : decode cX4_spread 124 = .ok (.getfield 43, 3) := dcU2 dO_180 (by decide +kernel)
theorem dX4_spread_127 : decode cX4_spread 127 = .ok (.iconst 3, 1) := dc0 dO_6 (by decide +kernel)
theorem sfx_cX4_spread_128 : (cX4_spread.data.toList.drop 128).take 67 = [42, 180, 0, 43, 6, 46, 18, 123, 160, 0, 7, 28, 167, 0, 9, 42, 180, 0, 43, 6, 46, 79, 132, 4, 1, 167, 255, 151, 27, 172] := by decide +kernel
theorem dX4_spread_128 : decode cX4_spread 128 = .ok (.aload_n 0, 1) := dc0 dO_42 (rdB.ch sfx_cX4_spread_128 0 rfl (by decide +kernel))
theorem dX4_spread_129 : decode cX4_spread 129 = .ok (.getfield 43, 3) := dcU2 dO_180 (rdU2.ch sfx_cX4_spread_128 1 rfl (by decide +kernel))
theorem dX4_spread_132 : decode cX4_spread 132 = .ok (.iconst 3, 1) := dc0 dO_6 (rdB.ch sfx_cX4_spread_128 4 rfl (by decide +kernel))
theorem dX4_spread_133 : decode cX4_spread 133 = .ok (.iaload, 1) := dc0 dO_46 (rdB.ch sfx_cX4_spread_128 5 rfl (by decide +kernel))
theorem dX4_spread_134 : decode cX4_spread 134 = .ok (.ldc 123, 2) := dcU1 dO_18 (rdU1.ch sfx_cX4_spread_128 6 rfl (by decide +kernel))
theorem dX4_spread_136 : decode cX4_spread 136 = .ok (.if_icmp .ne 7, 3) := dcS2 dO_160 (rdS2.ch sfx_cX4_spread_128 8 rfl (by decide +kernel))
theorem dX4_spread_139 : decode cX4_spread 139 = .ok (.iload_n 2, 1) := dc0 dO_28 (rdB.ch sfx_cX4_spread_128 11 rfl (by decide +kernel))
theorem dX4_spread_140 : decode cX4_spread 140 = .ok (.goto 9, 3) := dcS2 dO_167 (rdS2.ch sfx_cX4_spread_128 12 rfl (by decide +kernel))
theorem dX4_spread_143 : decode cX4_spread 143 = .ok (.aload_n 0, 1) := dc0 dO_42 (rdB.ch sfx_cX4_spread_128 15 rfl (by decide +kernel))
theorem dX4_spread_144 : decode cX4_spread 144 = .ok (.getfield 43, 3) := dcU2 dO_180 (rdU2.ch sfx_cX4_spread_128 16 rfl (by decide +kernel))
theorem dX4_spread_147 : decode cX4_spread 147 = .ok (.iconst 3, 1) := dc0 dO_6 (rdB.ch sfx_cX4_spread_128 19 rfl (by decide +kernel))
theorem dX4_spread_148 : decode cX4_spread 148 = .ok (.iaload, 1) := dc0 dO_46 (rdB.ch sfx_cX4_spread_128 20 rfl (by decide +kernel))
theorem dX4_spread_149 : decode cX4_spread 149 = .ok (.iastore, 1) := dc0 dO_79 (rdB.ch sfx_cX4_spread_128 21 rfl (by decide +kernel))
theorem dX4_spread_150 : decode cX4_spread 150 = .ok (.iinc 4 1, 3) := dcI dO_132 (rdI.ch sfx_cX4_spread_128 22 rfl (by decide +kernel))
theorem dX4_spread_153 : decode cX4_spread 153 = .ok (.goto (-105), 3) := dcS2 dO_167 (rdS2.ch sfx_cX4_spread_128 25 rfl (by decide +kernel))
theorem dX4_spread_156 : decode cX4_spread 156 = .ok (.iload_n 1, 1) := dc0 dO_27 (rdB.ch sfx_cX4_spread_128 28 rfl (by decide +kernel))
theorem dX4_spread_157 : decode cX4_spread 157 = .ok (.ireturn, 1) := dc0 dO_172 (rdB.ch sfx_cX4_spread_128 29 rfl (by decide +kernel))
theorem dX4_wayInRest_0 : decode cX4_wayInRest 0 = .ok (.aload_n 0, 1) := dc0 dO_42 (by decide +kernel)
theorem dX4_wayInRest_1 : decode cX4_wayInRest 1 = .ok (.aload_n 0, 1) := dc0 dO_42 (by decide +kernel)
theorem dX4_wayInRest_2 : decode cX4_wayInRest 2 = .ok (.getfield 36, 3) := dcU2 dO_180 (by decide +kernel)
theorem dX4_wayInRest_5 : decode cX4_wayInRest 5 = .ok (.iload_n 1, 1) := dc0 dO_27 (by decide +kernel)
theorem dX4_wayInRest_6 : decode cX4_wayInRest 6 = .ok (.iaload, 1) := dc0 dO_46 (by decide +kernel)
theorem dX4_wayInRest_7 : decode cX4_wayInRest 7 = .ok (.iload_n 2, 1) := dc0 dO_28 (by decide +kernel)
theorem dX4_wayInRest_8 : decode cX4_wayInRest 8 = .ok (.invokevirtual 75, 3) := dcU2 dO_182 (by decide +kernel)
theorem dX4_wayInRest_11 : decode cX4_wayInRest 11 = .ok (.istore_n 3, 1) := dc0 dO_62 (by decide +kernel)
theorem dX4_wayInRest_12 : decode cX4_wayInRest 12 = .ok (.iload_n 3, 1) := dc0 dO_29 (by decide +kernel)
theorem dX4_wayInRest_13 : decode cX4_wayInRest 13 = .ok (.aload_n 0, 1) := dc0 dO_42 (by decide +kernel)
theorem dX4_wayInRest_14 : decode cX4_wayInRest 14 = .ok (.getfield 11, 3) := dcU2 dO_180 (by decide +kernel)
theorem dX4_wayInRest_17 : decode cX4_wayInRest 17 = .ok (.iload_n 2, 1) := dc0 dO_28 (by decide +kernel)
theorem dX4_wayInRest_18 : decode cX4_wayInRest 18 = .ok (.iaload, 1) := dc0 dO_46 (by decide +kernel)
theorem dX4_wayInRest_19 : decode cX4_wayInRest 19 = .ok (.if_icmp .ne 8, 3) := dcS2 dO_160 (by decide +kernel)
theorem dX4_wayInRest_22 : decode cX4_wayInRest 22 = .ok (.bipush (-4), 2) := dcS1 dO_16 (by decide +kernel)
theorem dX4_wayInRest_24 : decode cX4_wayInRest 24 = .ok (.goto 4, 3) := dcS2 dO_167 (by decide +kernel)
theorem dX4_wayInRest_27 : decode cX4_wayInRest 27 = .ok (.iload_n 3, 1) := dc0 dO_29 (by decide +kernel)
theorem dX4_wayInRest_28 : decode cX4_wayInRest 28 = .ok (.ireturn, 1) := dc0 dO_172 (by decide +kernel)
end
