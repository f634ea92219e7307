/-! Rows of changing length; a policy's rows read. -/
theorem lnR {w : mW} {b s m : Nat} {n : Int} (h : (w.2.2.1 b : Int) = n) (hA : mAt w b s) (hm : Nat.ble (mLen s) m = true) : 0 ≤ n ∧ n ≤ (m : Int) := by
  have h1 := hA.2.2.1
  have h2 := le_t hm
  omega
theorem lnC {e n : Int} {m : Nat} (h : (m : Int) = n) (p : 0 ≤ e ∧ e < n) : 0 ≤ e ∧ e < (m : Int) := by rw [h]; exact p
theorem lnE {w : mW} {μ : mM} {a k b : Nat} {e : Int} (q : μ a k = (b : Int)) (h : e < (w.2.2.1 (μ a k).toNat : Int)) : e < (w.2.2.1 b : Int) := by
  rw [q] at h; exact h
section MV8
variable {g : sG} {M : sM} {R : Room} {Z : sZT} {pc : Nat} {lv : List (Nat × Value)} {st : List Value} {w : mW} {μ : mM} {ce sl : Nat}
theorem mr_alen {a s kd k : Nat} {cA : ClassId} {ty : FieldType} {z : Int} (hd : decode M.2.1 pc = .ok (.arraylength, 1)) (ht : g.2.2.1[kd]? = some (cA, ty)) (hA : mAt w a s) (hs : mTab s = .inr (kd, k)) (q : (w.2.2.1 a : Int) = z) (kt : sV g M R Z (pc + 1) lv (iv z :: st) (mk w μ) ce sl) : sV g M R Z pc lv (.ref a :: st) (mk w μ) ce sl :=
  sv_arraylength hd ht hA.2.1 (mk_arr hA hs) (v := Int32.ofInt z) (by rw [← q]; rfl) kt
end MV8
theorem PC.read {w : mW} {μ : mM} {b : Nat} {p : Int} (h : PC w μ) (hT : mT w μ) (hB : mAt w b 230) (h0 : 0 ≤ p) (hp : p < w.2.2.2 2) (q : μ 22 p.toNat = (b : Int)) : ∃ (c : Nat) (r : Int), μ b 1 = (c : Int) ∧ mAt w c 231 ∧ μ b 0 = r ∧ wfR (μ c) (w.2.2.1 c) (0 : Int).toNat (r - 0).toNat ∧ w.2.2.1 (μ b 2).toNat = w.2.2.1 (μ b 3).toNat ∧ w.2.2.1 (μ b 4).toNat = w.2.2.1 (μ b 5).toNat := by
  have hh := h p.toNat (by rw [Int.toNat_of_nonneg h0]; exact hp)
  rw [q] at hh
  have e : ((b : Int)).toNat = b := rfl
  have hb : μ b 1 = ((μ b 1).toNat : Int) := (Int.toNat_of_nonneg (hT b 230 hB 1).1).symm
  rw [e] at hh
  obtain ⟨hA, hA1, h1, h2, h3⟩ := hh
  exact ⟨(μ b 1).toNat, μ b 0, hb, hA1, rfl, by rw [Int.sub_zero]; exact h1, h2, h3⟩
theorem wfR.hd {m : Nat → Int} {len : Nat} {a r row : Int} (h : wfR m len a.toNat (r - row).toNat) (h0 : 0 ≤ a) (hr : row < r) : a + 1 < (len : Int) := by
  obtain ⟨k, hk⟩ : ∃ k, (r - row).toNat = k + 1 := ⟨(r - row).toNat - 1, by omega⟩
  rw [hk] at h
  have h1 : a.toNat + 1 < len := h.1
  omega
theorem wfR.bd {m : Nat → Int} {len : Nat} {a r row t k : Int} (h : wfR m len a.toNat (r - row).toNat) (h0 : 0 ≤ a) (hr : row < r) (q : m a.toNat = t) (q' : m (a + 1).toNat = k) : (0 ≤ t ∧ 0 ≤ k ∧ a + 2 + 5 * t + 2 * k ≤ (len : Int)) ∧ (∀ i : Int, 0 ≤ i → i < k → 0 ≤ m (a + 2 + 5 * t + 2 * i + 1).toNat ∧ m (a + 2 + 5 * t + 2 * i + 1).toNat ≤ 1000000) ∧ wfR m len (a + 2 + 5 * t + 2 * k).toNat (r - (row + 1)).toNat := by
  obtain ⟨n, hn⟩ : ∃ n, (r - row).toNat = n + 1 := ⟨(r - row).toNat - 1, by omega⟩
  rw [hn] at h
  have e1 : (a + 1).toNat = a.toNat + 1 := by omega
  rw [e1] at q'
  obtain ⟨h1, h2, h3, h4, h5, h6⟩ := h
  rw [q, q'] at h4 h5 h6
  rw [q] at h2
  rw [q'] at h3
  refine ⟨⟨h2, h3, by omega⟩, fun i hi hk => ?_, ?_⟩
  · have := h5 i.toNat (by omega)
    have e : (a + 2 + 5 * t + 2 * i + 1).toNat = a.toNat + 2 + 5 * t.toNat + 2 * i.toNat + 1 := by omega
    rw [e]; exact this
  · have e : (a + 2 + 5 * t + 2 * k).toNat = a.toNat + 2 + 5 * t.toNat + 2 * k.toNat := by omega
    have e2 : (r - (row + 1)).toNat = n := by omega
    rw [e, e2]; exact h6
