/-! Rows: all below a bound, none equal, no two equal; events of the reference. -/
theorem ixE {μ : mM} {a : Nat} {e f z : Int} (q : μ a e.toNat = z) (h : f = e) : μ a f.toNat = z := by rw [h]; exact q
def allLe (μ : mM) (a : Nat) (n c : Int) : Prop := ∀ i : Int, 0 ≤ i → i < n → μ a i.toNat ≤ c
theorem allLe.zero {μ : mM} {a : Nat} {n c : Int} (h : n ≤ 0) : allLe μ a n c := fun i h0 h1 => by omega
theorem allLe.succ {μ : mM} {a : Nat} {n c v : Int} (h : allLe μ a n c) (q : μ a n.toNat = v) (hv : v ≤ c) : allLe μ a (n + 1) c := by
  intro i h0 h1
  by_cases hi : i = n
  · rw [hi, q]; exact hv
  · exact h i h0 (by omega)
theorem allLe.at {μ : mM} {a : Nat} {n c e v : Int} (h : allLe μ a n c) (h0 : 0 ≤ e) (h1 : e < n) (q : μ a e.toNat = v) : v ≤ c := by
  rw [← q]; exact h e h0 h1
def noneEq (μ : mM) (a : Nat) (n c : Int) : Prop := ∀ i : Int, 0 ≤ i → i < n → μ a i.toNat ≠ c
theorem noneEq.zero {μ : mM} {a : Nat} {c : Int} : noneEq μ a 0 c := fun i h0 h1 => by omega
theorem noneEq.succ {μ : mM} {a : Nat} {n c v : Int} (h : noneEq μ a n c) (q : μ a n.toNat = v) (hv : ¬ v = c) : noneEq μ a (n + 1) c := by
  intro i h0 h1
  by_cases hi : i = n
  · rw [hi, q]; exact hv
  · exact h i h0 (by omega)
def dist (μ : mM) (a : Nat) (n : Int) : Prop := ∀ i j : Int, 0 ≤ i → i < j → j < n → μ a i.toNat ≠ μ a j.toNat
theorem dist.zero {μ : mM} {a : Nat} {n : Int} (h : n ≤ 0) : dist μ a n := fun i j h0 h1 h2 => by omega
theorem dist.succ {μ μ1 : mM} {a : Nat} {n v : Int} (h : dist μ a n) (hn : noneEq μ a n v) (h0 : 0 ≤ n) (hU : mU μ a n.toNat v μ1) : dist μ1 a (n + 1) := by
  intro i j hi hij hj
  have e1 : μ1 a i.toNat = μ a i.toNat := hU.2 a _ (Or.inr (by omega))
  by_cases hjn : j = n
  · rw [e1, hjn, hU.1]; exact hn i hi (by omega)
  · have e2 : μ1 a j.toNat = μ a j.toNat := hU.2 a _ (Or.inr (by omega))
    rw [e1, e2]; exact h i j hi hij (by omega)
theorem dist.keep {l : List Nat} {w : mW} {μ μ1 : mM} {a s : Nat} {n : Int} (h : dist μ a n) (hF : mF l w μ μ1) (hA : mAt w a s) (hl : ∀ i, l.elem (1000 * s + (if mArr s then 999 else i)) = false) : dist μ1 a n := by
  intro i j hi hij hj
  rw [hF.f (z := μ a i.toNat) hA (hl _) rfl, hF.f (z := μ a j.toNat) hA (hl _) rfl]
  exact h i j hi hij hj
theorem pigeon : ∀ (m n : Nat) (f : Nat → Nat), (∀ i, i < n → f i < m) → (∀ i j, i < j → j < n → f i ≠ f j) → n ≤ m
  | 0, n, f, h, _ => by
    rcases Nat.eq_zero_or_pos n with q | q
    · omega
    · exact absurd (h 0 q) (Nat.not_lt_zero _)
  | m + 1, n, f, h, d => by
    by_cases hx : ∃ k, k < n ∧ f k = m
    · obtain ⟨k, hk, hkm⟩ := hx
      have := pigeon m (n - 1) (fun i => if i < k then f i else f (i + 1)) (by
        intro i hi
        by_cases hik : i < k
        · simp only [hik, if_true]
          have h1 := h i (by omega)
          have h2 := d i k hik hk
          omega
        · simp only [hik, if_false]
          have h1 := h (i + 1) (by omega)
          have h2 := d k (i + 1) (by omega) (by omega)
          omega) (by
        intro i j hij hj
        by_cases hik : i < k
        · by_cases hjk : j < k
          · simp only [hik, hjk, if_true]; exact d i j hij (by omega)
          · simp only [hik, hjk, if_true, if_false]; exact d i (j + 1) (by omega) (by omega)
        · have hjk : ¬ j < k := by omega
          simp only [hik, hjk, if_false]; exact d (i + 1) (j + 1) (by omega) (by omega))
      omega
    · have := pigeon m n f (fun i hi => by
        have h1 := h i hi
        have h2 : f i ≠ m := fun q => hx ⟨i, hi, q⟩
        omega) d
      omega
theorem dist.pig {μ : mM} {a : Nat} {n m : Int} (h : dist μ a n) (hr : ∀ i, 0 ≤ μ a i ∧ μ a i < m) : n ≤ m := by
  by_cases h0 : n ≤ 0
  · have := hr 0; omega
  · have := pigeon m.toNat n.toNat (fun i => (μ a i).toNat) (fun i _ => by have := hr i; show (μ a i).toNat < m.toNat; omega) (fun i j hij hj => by
      have h1 := h i j (by omega) (by omega) (by omega)
      have h2 := hr i
      have h3 := hr j
      have e1 : ((i : Int)).toNat = i := rfl
      have e2 : ((j : Int)).toNat = j := rfl
      rw [e1, e2] at h1
      show (μ a i).toNat ≠ (μ a j).toNat
      omega)
    omega
/-! events: only ties that are there have them -/
def EV (μ : mM) : Prop := ∀ s : Nat, s < 400 → (0 ≤ μ 157 s ∨ 0 ≤ μ 159 s) → (s : Int) < 20 * μ 106 6
def evFree (l : List Nat) : Bool := !(l.elem 157999) && (!(l.elem 159999) && !(l.elem 106006))
theorem EV.keep {l : List Nat} {w : mW} {μ μ1 : mM} (h : EV μ) (hw : mWF w) (hF : mF l w μ μ1) (hl : evFree l = true) : EV μ1 := by
  simp only [evFree, Bool.and_eq_true, Bool.not_eq_true'] at hl
  obtain ⟨l1, l2, l3⟩ := hl
  have e1 : μ1 157 = μ 157 := funext fun i => hF.f (A_157 hw) l1 rfl
  have e2 : μ1 159 = μ 159 := funext fun i => hF.f (A_159 hw) l2 rfl
  have e3 : μ1 106 6 = μ 106 6 := hF.f (A_106 hw) l3 rfl
  unfold EV at h ⊢
  rw [e1, e2, e3]; exact h
theorem EV.up1 {μ μ1 : mM} {e z n : Int} (h : EV μ) (hU : mU μ 157 e.toNat z μ1) (q : μ1 106 6 = n) (h0 : 0 ≤ e) (hz : z < 0 ∨ e < 20 * n) : EV μ1 := by
  have e3 : μ1 106 6 = μ 106 6 := hU.2 106 6 (Or.inl (by decide))
  intro s hs hp
  rw [hU.2 159 s (Or.inl (by decide))] at hp
  by_cases hk : s = e.toNat
  · subst hk
    rw [hU.1] at hp
    rcases hz with hz | hz
    · have := h e.toNat hs (Or.inr (by omega)); rw [e3]; exact this
    · rw [q]; omega
  · rw [hU.2 157 s (Or.inr hk)] at hp
    rw [e3]; exact h s hs hp
theorem EV.up2 {μ μ1 : mM} {e z n : Int} (h : EV μ) (hU : mU μ 159 e.toNat z μ1) (q : μ1 106 6 = n) (h0 : 0 ≤ e) (hz : z < 0 ∨ e < 20 * n) : EV μ1 := by
  have e3 : μ1 106 6 = μ 106 6 := hU.2 106 6 (Or.inl (by decide))
  intro s hs hp
  rw [hU.2 157 s (Or.inl (by decide))] at hp
  by_cases hk : s = e.toNat
  · subst hk
    rw [hU.1] at hp
    rcases hz with hz | hz
    · have := h e.toNat hs (Or.inl (by omega)); rw [e3]; exact this
    · rw [q]; omega
  · rw [hU.2 159 s (Or.inr hk)] at hp
    rw [e3]; exact h s hs hp
theorem EV.grow {μ μ1 : mM} {z o : Int} (h : EV μ) (q : μ 106 6 = o) (hU : mU μ 106 6 z μ1) (hz : o ≤ z) : EV μ1 := by
  intro s hs hp
  rw [hU.2 157 s (Or.inl (by decide)), hU.2 159 s (Or.inl (by decide))] at hp
  have := h s hs hp
  rw [hU.1]; omega
def evF (μ : mM) (e : Int) : Int := if e < 400 then μ 157 e.toNat else μ 159 (e - 400).toNat
def evM (μ : mM) (e : Int) : Int := if e < 400 then μ 158 e.toNat else μ 160 (e - 400).toNat
def ev1Free (l : List Nat) : Bool := !(l.elem 157999) && !(l.elem 159999)
theorem evF.keep {l : List Nat} {w : mW} {μ μ1 : mM} {e : Int} (hw : mWF w) (hF : mF l w μ μ1) (hl : ev1Free l = true) : evF μ1 e = evF μ e := by
  simp only [ev1Free, Bool.and_eq_true, Bool.not_eq_true'] at hl
  simp only [evF, hF.f (A_157 hw) hl.1 rfl, hF.f (A_159 hw) hl.2 rfl]
theorem evF.lo {μ : mM} {e z : Int} (h : e < 400) (q : μ 157 e.toNat = z) : z = evF μ e := by rw [evF, if_pos h, q]
theorem evF.hi {μ : mM} {e f z : Int} (h : 400 ≤ e) (hf : f = e - 400) (q : μ 159 f.toNat = z) : z = evF μ e := by rw [evF, if_neg (by omega), ← hf, q]
theorem evM.lo {μ : mM} {e z : Int} (h : e < 400) (q : μ 158 e.toNat = z) : z = evM μ e := by rw [evM, if_pos h, q]
theorem evM.hi {μ : mM} {e f z : Int} (h : 400 ≤ e) (hf : f = e - 400) (q : μ 160 f.toNat = z) : z = evM μ e := by rw [evM, if_neg (by omega), ← hf, q]
abbrev nevC (w m : Int) (x : Int × Int × Int) : Prop := 0 ≤ w ∧ w ≤ 2000000000 ∧ (x.1 = -99999999 ∨ w < x.2.1 ∨ (w = x.2.1 ∧ m < x.2.2))
def nevL (μ : mM) : Nat → Int × Int × Int
  | 0 => (-99999999, 0, 0)
  | n + 1 => if nevC (evF μ n) (evM μ n) (nevL μ n) then ((n : Int), evF μ n, evM μ n) else nevL μ n
def nevF (μ : mM) : Int := (nevL μ 800).1
theorem nevF.keep {l : List Nat} {w : mW} {μ μ1 : mM} (hw : mWF w) (hF : mF l w μ μ1) (hl : (!(l.elem 157999) && (!(l.elem 158999) && (!(l.elem 159999) && !(l.elem 160999)))) = true) : nevF μ1 = nevF μ := by
  simp only [Bool.and_eq_true, Bool.not_eq_true'] at hl
  obtain ⟨l1, l2, l3, l4⟩ := hl
  have e1 : ∀ e, evF μ1 e = evF μ e := fun e => by simp only [evF, hF.f (A_157 hw) l1 rfl, hF.f (A_159 hw) l3 rfl]
  have e2 : ∀ e, evM μ1 e = evM μ e := fun e => by simp only [evM, hF.f (A_158 hw) l2 rfl, hF.f (A_160 hw) l4 rfl]
  have : ∀ n, nevL μ1 n = nevL μ n := by
    intro n
    induction n with
    | zero => rfl
    | succ n ih => simp only [nevL, e1, e2, ih]
  simp only [nevF, this]
theorem nev.zero {μ : mM} : nevL μ (0 : Int).toNat = (-99999999, 0, 0) := rfl
theorem nev.upd {μ : mM} {k a b c w m : Int} (h : nevL μ k.toNat = (a, b, c)) (h0 : 0 ≤ k) (qw : w = evF μ k) (qm : m = evM μ k) (hc : 0 ≤ w ∧ w ≤ 2000000000 ∧ (a = -99999999 ∨ w < b ∨ (w = b ∧ m < c))) : nevL μ (k + 1).toNat = (k, w, m) := by
  have e1 : (k + 1).toNat = k.toNat + 1 := by omega
  have e2 : ((k.toNat : Nat) : Int) = k := Int.toNat_of_nonneg h0
  rw [e1]
  simp only [nevL, e2]
  rw [← qw, ← qm, h, if_pos hc]
theorem nev.not {μ : mM} {k a b c w m : Int} (h : nevL μ k.toNat = (a, b, c)) (h0 : 0 ≤ k) (qw : w = evF μ k) (qm : m = evM μ k) (hc : ¬ (0 ≤ w ∧ w ≤ 2000000000 ∧ (a = -99999999 ∨ w < b ∨ (w = b ∧ m < c)))) : nevL μ (k + 1).toNat = (a, b, c) := by
  have e1 : (k + 1).toNat = k.toNat + 1 := by omega
  have e2 : ((k.toNat : Nat) : Int) = k := Int.toNat_of_nonneg h0
  rw [e1]
  simp only [nevL, e2]
  rw [← qw, ← qm, h, if_neg hc]
theorem nev.fin {μ : mM} {k a b c : Int} (h : nevL μ k.toNat = (a, b, c)) (hk : k = 800) : a = nevF μ := by
  subst hk; rw [nevF]; have e : (800 : Int).toNat = 800 := rfl; rw [e] at h; rw [h]
theorem nevL.ok (μ : mM) : ∀ n : Nat, (nevL μ n).1 = -99999999 ∨ (0 ≤ (nevL μ n).1 ∧ (nevL μ n).1 < (n : Int) ∧ evF μ (nevL μ n).1 = (nevL μ n).2.1 ∧ 0 ≤ (nevL μ n).2.1 ∧ (nevL μ n).2.1 ≤ 2000000000)
  | 0 => Or.inl rfl
  | n + 1 => by
    simp only [nevL]
    by_cases hc : nevC (evF μ n) (evM μ n) (nevL μ n)
    · rw [if_pos hc]
      refine Or.inr ?_
      dsimp only
      refine ⟨Int.natCast_nonneg n, ?_, ?_, hc.1, hc.2.1⟩
      · omega
      · exact Eq.refl _
    · rw [if_neg hc]
      rcases nevL.ok μ n with h | ⟨h1, h2, h3⟩
      · exact Or.inl h
      · exact Or.inr ⟨h1, by omega, h3⟩
theorem nev.ok {μ : mM} {z e : Int} (q : nevF μ = z) (h : e = z) (hn : ¬ e = -99999999) : 0 ≤ evF μ e ∧ evF μ e ≤ 2000000000 := by
  subst h; rw [← q] at hn ⊢
  rcases nevL.ok μ 800 with h | ⟨h1, h2, h3, h4, h5⟩
  · exact absurd h hn
  · show 0 ≤ evF μ (nevL μ 800).1 ∧ evF μ (nevL μ 800).1 ≤ 2000000000
    omega
theorem EV.at {μ : mM} {e s n : Int} (h : EV μ) (he : 0 ≤ e ∧ e ≤ 799) (hv : 0 ≤ evF μ e) (hs : e % 400 = s) (q : μ 106 6 = n) : s < 20 * n := by
  by_cases hl : e < 400
  · rw [evF, if_pos hl] at hv
    have := h e.toNat (by omega) (Or.inl hv)
    rw [q] at this; omega
  · rw [evF, if_neg hl] at hv
    have := h (e - 400).toNat (by omega) (Or.inr hv)
    rw [q] at this; omega
