/-! The class's queue of states: cells q (queue) and f (flags); no entry's flag is c. -/
def quC (μ : mM) (q f : Nat) (n N c : Int) : Prop := (∀ i : Int, 0 ≤ i → i < n → 0 ≤ μ q i.toNat ∧ μ q i.toNat < N ∧ μ f (μ q i.toNat).toNat ≠ c) ∧ dist μ q n
theorem quC.pig {μ : mM} {q f : Nat} {n N c : Int} (h : quC μ q f n N c) (hN : 0 ≤ N) : n ≤ N := by
  by_cases h0 : n ≤ 0
  · omega
  · have := pigeon N.toNat n.toNat (fun i => (μ q i).toNat) (fun i hi => by have := h.1 i (by omega) (by omega); have e : ((i : Int)).toNat = i := rfl; rw [e] at this; show (μ q i).toNat < N.toNat; omega) (fun i j hij hj => by
      have h1 := h.2 i j (by omega) (by omega) (by omega)
      have h2 := h.1 i (by omega) (by omega)
      have h3 := h.1 j (by omega) (by omega)
      have e1 : ((i : Int)).toNat = i := rfl
      have e2 : ((j : Int)).toNat = j := rfl
      rw [e1] at h1 h2
      rw [e2] at h1 h3
      show (μ q i).toNat ≠ (μ q j).toNat
      omega)
    omega
theorem quC.st {μ : mM} {q f : Nat} {n N c i s : Int} (h : quC μ q f n N c) (h0 : 0 ≤ i) (h1 : i < n) (e : μ q i.toNat = s) : 0 ≤ s ∧ s < N := by
  have := h.1 i h0 h1
  rw [e] at this; exact ⟨this.1, this.2.1⟩
theorem quC.fl {μ : mM} {q f : Nat} {n N c i s v : Int} (h : quC μ q f n N c) (h0 : 0 ≤ i) (h1 : i < n) (e : μ q i.toNat = s) (ev : μ f s.toNat = v) : ¬ v = c := by
  have := h.1 i h0 h1
  rw [e, ev] at this; exact this.2.2
theorem quC.keep {l : List Nat} {w : mW} {μ μ1 : mM} {q f sq sf : Nat} {n N c : Int} (h : quC μ q f n N c) (hF : mF l w μ μ1) (hQ : mAt w q sq) (hG : mAt w f sf) (lq : ∀ i, l.elem (1000 * sq + (if mArr sq then 999 else i)) = false) (lf : ∀ i, l.elem (1000 * sf + (if mArr sf then 999 else i)) = false) : quC μ1 q f n N c := by
  have e1 : μ1 q = μ q := funext fun i => hF.f hQ (lq i) rfl
  have e2 : μ1 f = μ f := funext fun i => hF.f hG (lf i) rfl
  unfold quC dist at h ⊢
  rw [e1, e2]; exact h
theorem quC.push {μ μ1 μ2 : mM} {q f : Nat} {n N c t v o : Int} (h : quC μ q f n N c) (hqf : f ≠ q) (hn : 0 ≤ n) (ht : 0 ≤ t ∧ t < N) (qo : μ f t.toNat = o) (ho : o = c) (u1 : mU μ f t.toNat v μ1) (hv : ¬ v = c) (u2 : mU μ1 q n.toNat t μ2) : quC μ2 q f (n + 1) N c := by
  have hq : ∀ i : Int, 0 ≤ i → i < n → μ2 q i.toNat = μ q i.toNat := fun i h0 h1 => by rw [u2.2 q _ (Or.inr (by omega)), u1.2 q _ (Or.inl (Ne.symm hqf))]
  have hn2 : μ2 q n.toNat = t := u2.1
  have ne : ∀ i : Int, 0 ≤ i → i < n → μ q i.toNat ≠ t := fun i h0 h1 e => by
    have := h.1 i h0 h1
    rw [e, qo] at this; exact this.2.2 ho
  refine ⟨fun i h0 h1 => ?_, ?_⟩
  · by_cases he : i = n
    · rw [he, hn2, u2.2 f _ (Or.inl hqf), u1.1]; exact ⟨ht.1, ht.2, hv⟩
    · have g := h.1 i h0 (by omega)
      have gn := ne i h0 (by omega)
      rw [hq i h0 (by omega), u2.2 f _ (Or.inl hqf), u1.2 f _ (Or.inr (by omega))]
      exact g
  · intro i j hi hij hj
    by_cases he : j = n
    · rw [he, hn2, hq i hi (by omega)]; exact ne i hi (by omega)
    · rw [hq i hi (by omega), hq j (by omega) (by omega)]; exact h.2 i j hi hij (by omega)
theorem quC.room {μ : mM} {q f : Nat} {n N c t o : Int} (h : quC μ q f n N c) (hqf : f ≠ q) (hn : 0 ≤ n) (ht : 0 ≤ t ∧ t < N) (qo : μ f t.toNat = o) (ho : o = c) : n < N := by
  have := (h.push hqf hn ht qo ho mUp_ok (show ¬ c + 1 = c by omega) mUp_ok).pig (by omega)
  omega
theorem quC.set {μ μ1 : mM} {q f : Nat} {n N c e v : Int} (h : quC μ q f n N c) (hqf : q ≠ f) (u : mU μ f e.toNat v μ1) (hv : ¬ v = c) : quC μ1 q f n N c := by
  have e1 : μ1 q = μ q := funext fun i => u.2 q i (Or.inl hqf)
  refine ⟨fun i h0 h1 => ?_, ?_⟩
  · have g := h.1 i h0 h1
    rw [e1]
    refine ⟨g.1, g.2.1, ?_⟩
    by_cases he : (μ q i.toNat).toNat = e.toNat
    · rw [he, u.1]; exact hv
    · rw [u.2 f _ (Or.inr he)]; exact g.2.2
  · have := h.2
    unfold dist at this ⊢
    rw [e1]; exact this
theorem quC.init {μ μ1 μ2 : mM} {q f : Nat} {N e : Int} (hqf : q ≠ f) (he : e = N - 1) (hN : 1 ≤ N) (u1 : mU μ q (0 : Int).toNat e μ1) (u2 : mU μ1 f e.toNat 1 μ2) : quC μ2 q f 1 N 0 := by
  have h0 : μ2 q (0 : Int).toNat = e := by rw [u2.2 q _ (Or.inl hqf), u1.1]
  refine ⟨fun i i0 i1 => ?_, fun i j i0 ij j1 => by omega⟩
  have : i = 0 := by omega
  subst this
  rw [h0, u2.1]
  exact ⟨by omega, by omega, by decide⟩
/-- states in order, with a flag that isn't 1 -/
def quA (μ : mM) (q f : Nat) (n k c : Int) : Prop := (∀ i : Int, 0 ≤ i → i < n → 0 ≤ μ q i.toNat ∧ μ q i.toNat < k ∧ μ f (μ q i.toNat).toNat ≠ c) ∧ dist μ q n
theorem quA.add {μ μ1 : mM} {q f : Nat} {n k c v : Int} (h : quC μ q f n k c) (hqf : f ≠ q) (hn : 0 ≤ n) (hk : 0 ≤ k) (qv : μ f k.toNat = v) (hv : ¬ v = c) (u : mU μ q n.toNat k μ1) : quC μ1 q f (n + 1) (k + 1) c := by
  have hq : ∀ i : Int, 0 ≤ i → i < n → μ1 q i.toNat = μ q i.toNat := fun i h0 h1 => u.2 q _ (Or.inr (by omega))
  have hf : ∀ j, μ1 f j = μ f j := fun j => u.2 f j (Or.inl hqf)
  refine ⟨fun i h0 h1 => ?_, ?_⟩
  · by_cases he : i = n
    · rw [he, u.1, hf, qv]; exact ⟨hk, by omega, hv⟩
    · have g := h.1 i h0 (by omega)
      rw [hq i h0 (by omega), hf]
      exact ⟨g.1, by omega, g.2.2⟩
  · intro i j hi hij hj
    by_cases he : j = n
    · rw [he, u.1, hq i hi (by omega)]
      have g := h.1 i hi (by omega)
      omega
    · rw [hq i hi (by omega), hq j (by omega) (by omega)]; exact h.2 i j hi hij (by omega)
theorem quC.up {μ : mM} {q f : Nat} {n k m c : Int} (h : quC μ q f n k c) (hm : k ≤ m) : quC μ q f n m c := ⟨fun i h0 h1 => by have g := h.1 i h0 h1; exact ⟨g.1, by omega, g.2.2⟩, h.2⟩
theorem quC.zero {μ : mM} {q f : Nat} {N c : Int} : quC μ q f 0 N c := ⟨fun i h0 h1 => by omega, fun i j h0 h1 h2 => by omega⟩
theorem flag_fin : ∀ v : Fin 256, bByte (bOr ((v.val : Int) - 128) 2) ≠ 0 ∧ bByte (bOr ((v.val : Int) - 128) 2) ≠ 1 := by decide +kernel
theorem flag2 {v a z : Int} (hv : -128 ≤ v ∧ v ≤ 127) (q1 : bOr v 2 = a) (q2 : bByte a = z) : ¬ z = 0 ∧ ¬ z = 1 := by
  subst q1; subst q2
  have := flag_fin ⟨(v + 128).toNat, by omega⟩
  have e : (((v + 128).toNat : Nat) : Int) - 128 = v := by omega
  simp only [e] at this
  exact this
theorem and2_fin : bAnd 1 2 = 0 := by decide +kernel
theorem flagA {v z : Int} (q : bAnd v 2 = z) (hz : ¬ z = 0) : ¬ v = 1 := by
  intro e; subst e; rw [and2_fin] at q; exact hz q.symm
theorem refE {w : mW} {μ : mM} {a k s : Nat} (h : 0 ≤ μ a k ∧ mAt w (μ a k).toNat s) : ∃ b : Nat, μ a k = (b : Int) ∧ mAt w b s := ⟨(μ a k).toNat, (Int.toNat_of_nonneg h.1).symm, h.2⟩
theorem figE {μ : mM} {a v k : Nat} {s x y b z : Int} (qa : μ a k = x) (qv : μ v k = y) (e1 : s / x = b) (e2 : b % (y + 1) = z) : z = s / μ a k % (μ v k + 1) := by rw [qa, qv, e1, e2]
theorem figV {μ : mM} {a v k : Nat} {s x y z : Int} (h : z = s / μ a k % (μ v k + 1)) (qa : μ a k = x) (qv : μ v k = y) : z = s / x % (y + 1) := by rw [qa, qv] at h; exact h
theorem dig.mk2 {μ : mM} {h a v p : Nat} {s z x y : Int} (qh : μ h p = z) (qa : μ a p = x) (qv : μ v p = y) (e : z = s / x % (y + 1)) : dig μ h a v s p := by
  unfold dig; rw [qh, qa, qv]; exact e
theorem lenLe {w : mW} {b : Nat} {x y n : Int} (h : x ≤ (w.2.2.1 b : Int)) (qx : x = y) (qn : (w.2.2.1 b : Int) = n) : y ≤ n := by omega
theorem lenGe {w : mW} {b : Nat} {x y n : Int} (qx : x = y) (qn : (w.2.2.1 b : Int) = n) (h : y ≤ n) : x ≤ (w.2.2.1 b : Int) := by omega
theorem digs.le {μ : mM} {h a v : Nat} {s p y z : Int} (g : digs μ h a v s) (hp : 1 ≤ p ∧ p ≤ 6) (qv : μ v p.toNat = y) (qh : μ h p.toNat = z) (hy : 0 ≤ y) : 0 ≤ z ∧ z ≤ y := by
  have d := g.at hp
  unfold dig at d
  rw [qv, qh] at d
  have h1 := Int.emod_nonneg (s / μ a p.toNat) (show y + 1 ≠ 0 by omega)
  have h2 := Int.emod_lt_of_pos (s / μ a p.toNat) (show 0 < y + 1 by omega)
  omega
def hasLe (μ : mM) (n : Int) : Prop := ∀ i : Nat, 1 ≤ i → i < 7 → μ 101 i ≤ n
theorem hasLe.up {μ μ1 : mM} {n e z : Int} (h : hasLe μ n) (u : mU μ 101 e.toNat z μ1) (hz : z ≤ n) : hasLe μ1 n := fun i h1 hi => by
  by_cases hk : i = e.toNat
  · rw [hk, u.1]; exact hz
  · rw [u.2 101 i (Or.inr hk)]; exact h i h1 hi
theorem hasLe.at {μ : mM} {n e z : Int} (h : hasLe μ n) (he : 1 ≤ e ∧ e ≤ 6) (q : μ 101 e.toNat = z) : z ≤ n := by rw [← q]; exact h _ (by omega) (by omega)
theorem hasLe.le {μ : mM} {n m : Int} (h : hasLe μ n) (hm : n ≤ m) : hasLe μ m := fun i h1 hi => Int.le_trans (h i h1 hi) hm
theorem hasLe.keep {l : List Nat} {w : mW} {μ μ1 : mM} {n : Int} (h : hasLe μ n) (hw : mWF w) (hF : mF l w μ μ1) (hl : l.elem 101999 = false) : hasLe μ1 n := fun i h1 hi => by
  rw [hF.f (z := μ 101 i) (A_101 hw) hl rfl]; exact h i h1 hi
