/-! The pieces of a way as bytes: each count once more than it stands, all within the end. -/
def ChnN (μ : mM) (e : Int) : Nat → Int → Int → Prop
  | 0, k, s => e ≤ k ∧ s = 0
  | n + 1, k, s => k < e ∧ k + 2 ≤ e ∧ 1 ≤ byteF μ (k + 1) ∧ k + 2 + 4 * byteF μ (k + 1) ≤ e ∧ ChnN μ e n (k + 2 + 4 * byteF μ (k + 1)) (s - byteF μ (k + 1))
def Chn (μ : mM) (e k s : Int) : Prop := ∃ n, ChnN μ e n k s
theorem ChnN.nn {μ : mM} {e : Int} : ∀ {n : Nat} {k s : Int}, ChnN μ e n k s → 0 ≤ s
  | 0, _, _, h => by have := h.2; omega
  | n + 1, k, s, h => by have h1 := ChnN.nn h.2.2.2.2; have h2 := h.2.2.1; omega
theorem ChnN.keep {l : List Nat} {w : mW} {μ μ1 : mM} {e : Int} (hw : mWF w) (hF : mF l w μ μ1) (hl : tpFree l = true) : ∀ {n : Nat} {k s : Int}, ChnN μ e n k s → ChnN μ1 e n k s
  | 0, _, _, h => h
  | n + 1, k, s, h => by
    have e1 : byteF μ1 (k + 1) = byteF μ (k + 1) := byteF.keep hw hF hl
    simp only [ChnN, e1]
    exact ⟨h.1, h.2.1, h.2.2.1, h.2.2.2.1, ChnN.keep hw hF hl h.2.2.2.2⟩
theorem Chn.keep {l : List Nat} {w : mW} {μ μ1 : mM} {e k s : Int} (h : Chn μ e k s) (hw : mWF w) (hF : mF l w μ μ1) (hl : tpFree l = true) : Chn μ1 e k s := by
  obtain ⟨n, h⟩ := h; exact ⟨n, ChnN.keep hw hF hl h⟩
theorem Chn.un {μ : mM} {e k s : Int} (h : Chn μ e k s) (hk : k < e) : k + 2 ≤ e ∧ 1 ≤ byteF μ (k + 1) ∧ k + 2 + 4 * byteF μ (k + 1) ≤ e ∧ byteF μ (k + 1) ≤ s ∧ Chn μ e (k + 2 + 4 * byteF μ (k + 1)) (s - byteF μ (k + 1)) := by
  obtain ⟨n, h⟩ := h
  cases n with
  | zero => have := h.1; omega
  | succ n =>
    have h5 := h.2.2.2.2
    have := h5.nn
    exact ⟨h.2.1, h.2.2.1, h.2.2.2.1, by omega, ⟨n, h5⟩⟩
theorem Chn.id {μ : mM} {e k m : Int} (hm : m = 0) : ∀ s, Chn μ e k s → Chn μ e k (m + s) := fun s h => by rw [hm, Int.zero_add]; exact h
theorem Chn.step {μ : mM} {e k a b m k' m' : Int} (R : ∀ s, Chn μ e k s → Chn μ e a (m + s)) (h0 : k < e) (h1 : k + 2 ≤ e) (q : byteF μ (k + 1) = b) (hb : 1 ≤ b) (h2 : k + 2 + 4 * b ≤ e) (hk : k' = k + 2 + 4 * b) (hm : m' = m + b) : ∀ s, Chn μ e k' s → Chn μ e a (m' + s) := by
  intro s h
  obtain ⟨n, h⟩ := h
  have := R (b + s) ⟨n + 1, h0, h1, by rw [q]; exact hb, by rw [q]; exact h2, by rw [q, ← hk]; have e1 : b + s - b = s := by omega
                                                                                 rw [e1]; exact h⟩
  have e2 : m' + s = m + (b + s) := by omega
  rw [e2]; exact this
theorem Chn.fin {μ : mM} {e k a m s : Int} (R : ∀ s, Chn μ e k s → Chn μ e a (m + s)) (hk : e ≤ k) (hs : s = m) : Chn μ e a s := by
  have := R 0 ⟨0, hk, rfl⟩
  rw [hs]; rw [Int.add_zero] at this; exact this
theorem Chn.cg {μ : mM} {e k s k' s' : Int} (h : Chn μ e k s) (hk : k' = k) (hs : s' = s) : Chn μ e k' s' := by rw [hk, hs]; exact h
