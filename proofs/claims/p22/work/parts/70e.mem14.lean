section
/-! Rows: all below a bound, none equal, no two equal; events of the reference. -/
theorem ixE {μ : mM} {a : Nat} {e f z : Int} (q : μ a e.toNat = z) (h : f = e) : μ a f.toNat = z := by rw [h]; exact q
def allLe (μ : mM) (a : Nat) (n c : Int) : Prop := ∀ i : Int, 0 ≤ i → i < n → μ a i.toNat ≤ c
theorem allLe.zero {μ : mM} {a : Nat} {n c : Int} (h : n ≤ 0) : allLe μ a n c := fun i h0 h1 => by omega
theorem allLe.succ {μ : mM} {a : Nat} {n c v : Int} (h : allLe μ a n c) (q : μ a n.toNat = v) (hv : v ≤ c) : allLe μ a (n + 1) c := by
  intro i h0 h1
  by_cases hi : i = n
  · rw [hi, q]; exact hv
  · exact h i h0 (by omega)
theorem allLe.at {μ : mM} {a : Nat} {n c e v : Int} (h : allLe μ a n c) (h0 : 0 ≤ e) (h1 : e < n) (q : μ a e.toNat = v) : v ≤ c := by
  rw [← q]; exact h e h0 h1
def noneEq (μ : mM) (a : Nat) (n c : Int) : Prop := ∀ i : Int, 0 ≤ i → i < n → μ a i.toNat ≠ c
theorem noneEq.zero {μ : mM} {a : Nat} {c : Int} : noneEq μ a 0 c := fun i h0 h1 => by omega
theorem noneEq.succ {μ : mM} {a : Nat} {n c v : Int} (h : noneEq μ a n c) (q : μ a n.toNat = v) (hv : ¬ v = c) : noneEq μ a (n + 1) c := by
  intro i h0 h1
  by_cases hi : i = n
  · rw [hi, q]; exact hv
  · exact h i h0 (by omega)
def dist (μ : mM) (a : Nat) (n : Int) : Prop := ∀ i j : Int, 0 ≤ i → i < j → j < n → μ a i.toNat ≠ μ a j.toNat
theorem dist.zero {μ : mM} {a : Nat} {n : Int} (h : n ≤ 0) : dist μ a n := fun i j h0 h1 h2 => by omega
theorem dist.succ {μ μ1 : mM} {a : Nat} {n v : Int} (h : dist μ a n) (hn : noneEq μ a n v) (h0 : 0 ≤ n) (hU : mU μ a n.toNat v μ1) : dist μ1 a (n + 1) := by
  intro i j hi hij hj
  have e1 : μ1 a i.toNat = μ a i.toNat := hU.2 a _ (Or.inr (by omega))
  by_cases hjn : j = n
  · rw [e1, hjn, hU.1]; exact hn i hi (by omega)
  · have e2 : μ1 a j.toNat = μ a j.toNat := hU.2 a _ (Or.inr (by omega))
    rw [e1, e2]; exact h i j hi hij (by omega)
theorem dist.keep {l : List Nat} {w : mW} {μ μ1 : mM} {a s : Nat} {n : Int} (h : dist μ a n) (hF : mF l w μ μ1) (hA : mAt w a s) (hl : ∀ i, l.elem (1000 * s + (if mArr s then 999 else i)) = false) : dist μ1 a n := by
  intro i j hi hij hj
  rw [hF.f (z := μ a i.toNat) hA (hl _) rfl, hF.f (z := μ a j.toNat) hA (hl _) rfl]
  exact h i j hi hij hj
theorem pigeon : ∀ (m n : Nat) (f : Nat → Nat), (∀ i, i < n → f i < m) → (∀ i j, i < j → j < n → f i ≠ f j) → n ≤ m
  | 0, n, f, h, _ => by
    rcases Nat.eq_zero_or_pos n with q | q
    · omega
    · exact absurd (h 0 q) (Nat.not_lt_zero _)
  | m + 1, n, f, h, d => by
    by_cases hx : ∃ k, k < n ∧ f k = m
    · obtain ⟨k, hk, hkm⟩ := hx
      have := pigeon m (n - 1) (fun i => if i < k then f i else f (i + 1)) (by
        intro i hi
        by_cases hik : i < k
        · simp only [hik, if_true]
          have h1 := h i (by omega)
          have h2 := d i k hik hk
          omega
        · simp only [hik, if_false]
          have h1 := h (i + 1) (by omega)
          have h2 := d k (i + 1) (by omega) (by omega)
          omega) (by
        intro i j hij hj
        by_cases hik : i < k
        · by_cases hjk : j < k
          · simp only [hik, hjk, if_true]; exact d i j hij (by omega)
          · simp only [hik, hjk, if_true, if_false]; exact d i (j + 1) (by omega) (by omega)
        · have hjk : ¬ j < k := by omega
          simp only [hik, hjk, if_false]; exact d (i + 1) (j + 1) (by omega) (by omega))
      omega
    · have := pigeon m n f (fun i hi => by
        have h1 := h i hi
        have h2 : f i ≠ m := fun q => hx ⟨i, hi, q⟩
        omega) d
      omega
theorem dist.pig {μ : mM} {a : Nat} {n m : Int} (h : dist μ a n) (hr : ∀ i, 0 ≤ μ a i ∧ μ a i < m) : n ≤ m := by
  by_cases h0 : n ≤ 0
  · have := hr 0; omega
  · have := pigeon m.toNat n.toNat (fun i => (μ a i).toNat) (fun i _ => by have := hr i; show (μ a i).toNat < m.toNat; omega) (fun i j hij hj => by
      have h1 := h i j (by omega) (by omega) (by omega)
      have h2 := hr i
      have h3 := hr j
      have e1 : ((i : Int)).toNat = i := rfl
      have e2 : ((j : Int)).toNat = j := rfl
      rw [e1, e2] at h1
      show (μ a i).toNat ≠ (μ a j).toNat
      omega)
    omega
/-! events: only ties that are there have them -/
def EV (μ : mM) : Prop := ∀ s : Nat, s < 400 → (0 ≤ μ 157 s ∨ 0 ≤ μ 159 s) → (s : Int) < 20 * μ 106 6
def evFree (l : List Nat) : Bool := !(l.elem 157999) && (!(l.elem 159999) && !(l.elem 106006))
theorem EV.keep {l : List Nat} {w : mW} {μ μ1 : mM} (h : EV μ) (hw : mWF w) (hF : mF l w μ μ1) (hl : evFree l = true) : EV μ1 := by
  simp only [evFree, Bool.and_eq_true, Bool.not_eq_true'] at hl
  obtain ⟨l1, l2, l3⟩ := hl
  have e1 : μ1 157 = μ 157 := funext fun i => hF.f (A_157 hw) l1 rfl
  have e2 : μ1 159 = μ 159 := funext fun i => hF.f (A_159 hw) l2 rfl
  have e3 : μ1 106 6 = μ 106 6 := hF.f (A_106 hw) l3 rfl
  unfold EV at h ⊢
  rw [e1, e2, e3]; exact h
theorem EV.up1 {μ μ1 : mM} {e z n : Int} (h : EV μ) (hU : mU μ 157 e.toNat z μ1) (q : μ1 106 6 = n) (h0 : 0 ≤ e) (hz : z < 0 ∨ e < 20 * n) : EV μ1 := by
  have e3 : μ1 106 6 = μ 106 6 := hU.2 106 6 (Or.inl (by decide))
  intro s hs hp
  rw [hU.2 159 s (Or.inl (by decide))] at hp
  by_cases hk : s = e.toNat
  · subst hk
    rw [hU.1] at hp
    rcases hz with hz | hz
    · have := h e.toNat hs (Or.inr (by omega)); rw [e3]; exact this
    · rw [q]; omega
  · rw [hU.2 157 s (Or.inr hk)] at hp
    rw [e3]; exact h s hs hp
theorem EV.up2 {μ μ1 : mM} {e z n : Int} (h : EV μ) (hU : mU μ 159 e.toNat z μ1) (q : μ1 106 6 = n) (h0 : 0 ≤ e) (hz : z < 0 ∨ e < 20 * n) : EV μ1 := by
  have e3 : μ1 106 6 = μ 106 6 := hU.2 106 6 (Or.inl (by decide))
  intro s hs hp
  rw [hU.2 157 s (Or.inl (by decide))] at hp
  by_cases hk : s = e.toNat
  · subst hk
    rw [hU.1] at hp
    rcases hz with hz | hz
    · have := h e.toNat hs (Or.inl (by omega)); rw [e3]; exact this
    · rw [q]; omega
  · rw [hU.2 159 s (Or.inr hk)] at hp
    rw [e3]; exact h s hs hp
theorem EV.grow {μ μ1 : mM} {z o : Int} (h : EV μ) (q : μ 106 6 = o) (hU : mU μ 106 6 z μ1) (hz : o ≤ z) : EV μ1 := by
  intro s hs hp
  rw [hU.2 157 s (Or.inl (by decide)), hU.2 159 s (Or.inl (by decide))] at hp
  have := h s hs hp
  rw [hU.1]; omega
def evF (μ : mM) (e : Int) : Int := if e < 400 then μ 157 e.toNat else μ 159 (e - 400).toNat
def evM (μ : mM) (e : Int) : Int := if e < 400 then μ 158 e.toNat else μ 160 (e - 400).toNat
def ev1Free (l : List Nat) : Bool := !(l.elem 157999) && !(l.elem 159999)
theorem evF.keep {l : List Nat} {w : mW} {μ μ1 : mM} {e : Int} (hw : mWF w) (hF : mF l w μ μ1) (hl : ev1Free l = true) : evF μ1 e = evF μ e := by
  simp only [ev1Free, Bool.and_eq_true, Bool.not_eq_true'] at hl
  simp only [evF, hF.f (A_157 hw) hl.1 rfl, hF.f (A_159 hw) hl.2 rfl]
theorem evF.lo {μ : mM} {e z : Int} (h : e < 400) (q : μ 157 e.toNat = z) : z = evF μ e := by rw [evF, if_pos h, q]
theorem evF.hi {μ : mM} {e f z : Int} (h : 400 ≤ e) (hf : f = e - 400) (q : μ 159 f.toNat = z) : z = evF μ e := by rw [evF, if_neg (by omega), ← hf, q]
theorem evM.lo {μ : mM} {e z : Int} (h : e < 400) (q : μ 158 e.toNat = z) : z = evM μ e := by rw [evM, if_pos h, q]
theorem evM.hi {μ : mM} {e f z : Int} (h : 400 ≤ e) (hf : f = e - 400) (q : μ 160 f.toNat = z) : z = evM μ e := by rw [evM, if_neg (by omega), ← hf, q]
abbrev nevC (w m : Int) (x : Int × Int × Int) : Prop := 0 ≤ w ∧ w ≤ 2000000000 ∧ (x.1 = -99999999 ∨ w < x.2.1 ∨ (w = x.2.1 ∧ m < x.2.2))
def nevL (μ : mM) : Nat → Int × Int × Int
  | 0 => (-99999999, 0, 0)
  | n + 1 => if nevC (evF μ n) (evM μ n) (nevL μ n) then ((n : Int), evF μ n, evM μ n) else nevL μ n
def nevF (μ : mM) : Int := (nevL μ 800).1
theorem nevF.keep {l : List Nat} {w : mW} {μ μ1 : mM} (hw : mWF w) (hF : mF l w μ μ1) (hl : (!(l.elem 157999) && (!(l.elem 158999) && (!(l.elem 159999) && !(l.elem 160999)))) = true) : nevF μ1 = nevF μ := by
  simp only [Bool.and_eq_true, Bool.not_eq_true'] at hl
  obtain ⟨l1, l2, l3, l4⟩ := hl
  have e1 : ∀ e, evF μ1 e = evF μ e := fun e => by simp only [evF, hF.f (A_157 hw) l1 rfl, hF.f (A_159 hw) l3 rfl]
  have e2 : ∀ e, evM μ1 e = evM μ e := fun e => by simp only [evM, hF.f (A_158 hw) l2 rfl, hF.f (A_160 hw) l4 rfl]
  have : ∀ n, nevL μ1 n = nevL μ n := by
    intro n
    induction n with
    | zero => rfl
    | succ n ih => simp only [nevL, e1, e2, ih]
  simp only [nevF, this]
theorem nev.zero {μ : mM} : nevL μ (0 : Int).toNat = (-99999999, 0, 0) := rfl
theorem nev.upd {μ : mM} {k a b c w m : Int} (h : nevL μ k.toNat = (a, b, c)) (h0 : 0 ≤ k) (qw : w = evF μ k) (qm : m = evM μ k) (hc : 0 ≤ w ∧ w ≤ 2000000000 ∧ (a = -99999999 ∨ w < b ∨ (w = b ∧ m < c))) : nevL μ (k + 1).toNat = (k, w, m) := by
  have e1 : (k + 1).toNat = k.toNat + 1 := by omega
  have e2 : ((k.toNat : Nat) : Int) = k := Int.toNat_of_nonneg h0
  rw [e1]
  simp only [nevL, e2]
  rw [← qw, ← qm, h, if_pos hc]
theorem nev.not {μ : mM} {k a b c w m : Int} (h : nevL μ k.toNat = (a, b, c)) (h0 : 0 ≤ k) (qw : w = evF μ k) (qm : m = evM μ k) (hc : ¬ (0 ≤ w ∧ w ≤ 2000000000 ∧ (a = -99999999 ∨ w < b ∨ (w = b ∧ m < c)))) : nevL μ (k + 1).toNat = (a, b, c) := by
  have e1 : (k + 1).toNat = k.toNat + 1 := by omega
  have e2 : ((k.toNat : Nat) : Int) = k := Int.toNat_of_nonneg h0
  rw [e1]
  simp only [nevL, e2]
  rw [← qw, ← qm, h, if_neg hc]
theorem nev.fin {μ : mM} {k a b c : Int} (h : nevL μ k.toNat = (a, b, c)) (hk : k = 800) : a = nevF μ := by
  subst hk; rw [nevF]; have e : (800 : Int).toNat = 800 := rfl; rw [e] at h; rw [h]
theorem nevL.ok (μ : mM) : ∀ n : Nat, (nevL μ n).1 = -99999999 ∨ (0 ≤ (nevL μ n).1 ∧ (nevL μ n).1 < (n : Int) ∧ evF μ (nevL μ n).1 = (nevL μ n).2.1 ∧ 0 ≤ (nevL μ n).2.1 ∧ (nevL μ n).2.1 ≤ 2000000000)
  | 0 => Or.inl rfl
  | n + 1 => by
    simp only [nevL]
    by_cases hc : nevC (evF μ n) (evM μ n) (nevL μ n)
    · rw [if_pos hc]
      refine Or.inr ?_
      dsimp only
      refine ⟨Int.natCast_nonneg n, ?_, ?_, hc.1, hc.2.1⟩
      · omega
      · exact Eq.refl _
    · rw [if_neg hc]
      rcases nevL.ok μ n with h | ⟨h1, h2, h3⟩
      · exact Or.inl h
      · exact Or.inr ⟨h1, by omega, h3⟩
theorem nev.ok {μ : mM} {z e : Int} (q : nevF μ = z) (h : e = z) (hn : ¬ e = -99999999) : 0 ≤ evF μ e ∧ evF μ e ≤ 2000000000 := by
  subst h; rw [← q] at hn ⊢
  rcases nevL.ok μ 800 with h | ⟨h1, h2, h3, h4, h5⟩
  · exact absurd h hn
  · show 0 ≤ evF μ (nevL μ 800).1 ∧ evF μ (nevL μ 800).1 ≤ 2000000000
    omega
theorem EV.at {μ : mM} {e s n : Int} (h : EV μ) (he : 0 ≤ e ∧ e ≤ 799) (hv : 0 ≤ evF μ e) (hs : e % 400 = s) (q : μ 106 6 = n) : s < 20 * n := by
  by_cases hl : e < 400
  · rw [evF, if_pos hl] at hv
    have := h e.toNat (by omega) (Or.inl hv)
    rw [q] at this; omega
  · rw [evF, if_neg hl] at hv
    have := h (e - 400).toNat (by omega) (Or.inr hv)
    rw [q] at this; omega
end
section
/-! The reference picks: what is left, what is hit, what wins. -/
def bestOK (μ : mM) (n z : Int) : Prop := (z = -99999999 ∨ μ 165 z.toNat = 1) ∧ (z = -99999999 → noneEq μ 165 n 1)
theorem bestOK.zero {μ : mM} : bestOK μ 0 (-99999999) := ⟨Or.inl rfl, fun _ => noneEq.zero⟩
theorem bestOK.put {μ : mM} {t v : Int} (q : μ 165 t.toNat = v) (hv : v = 1) (h0 : 0 ≤ t) : bestOK μ (t + 1) t := ⟨Or.inr (by rw [q]; exact hv), fun h => by omega⟩
theorem bestOK.not {μ : mM} {t v z : Int} (h : bestOK μ t z) (q : μ 165 t.toNat = v) (hc : ¬ v = 1 ∨ ¬ z = -99999999) : bestOK μ (t + 1) z :=
  ⟨h.1, fun hz => (h.2 hz).succ q (hc.resolve_right (fun k => k hz))⟩
def wOK (μ : mM) (z : Int) : Prop := z = -99999999 ∨ 0 ≤ μ 126 (160 + 40 * z).toNat
theorem wOK.keep {l : List Nat} {w : mW} {μ μ1 : mM} {z : Int} (h : wOK μ z) (hw : mWF w) (hF : mF l w μ μ1) (hl : l.elem 126999 = false) : wOK μ1 z := by
  have e : μ1 126 (160 + 40 * z).toNat = μ 126 (160 + 40 * z).toNat := hF.f (A_126 hw) hl rfl
  unfold wOK at h ⊢; rw [e]; exact h
theorem wOK.of {μ : mM} {z f x : Int} (hf : f = 160 + 40 * z) (q : μ 126 f.toNat = x) (hx : 0 ≤ x) : wOK μ z := Or.inr (by rw [← hf, q]; exact hx)
def leftOK (μ : mM) (n : Int) : Prop := ∀ i : Int, 0 ≤ i → i < n → μ 165 i.toNat = 1 → 0 ≤ μ 126 (160 + 40 * i).toNat
theorem leftOK.zero {μ : mM} : leftOK μ 0 := fun i h0 h1 => by omega
theorem leftOK.put {μ μ1 : mM} {n v f x : Int} (h : leftOK μ n) (h0 : 0 ≤ n) (hU : mU μ 165 n.toNat v μ1) (hf : f = 160 + 40 * n) (q : μ1 126 f.toNat = x) (hv : ¬ v = 1 ∨ 0 ≤ x) : leftOK μ1 (n + 1) := by
  intro i hi hin h1
  by_cases he : i = n
  · subst he
    rw [hU.1] at h1
    rw [← hf, q]; exact hv.resolve_left (fun k => k h1)
  · rw [hU.2 165 i.toNat (Or.inr (by omega))] at h1
    rw [hU.2 126 _ (Or.inl (by decide))]
    exact h i hi (by omega) h1
theorem leftOK.best {μ : mM} {n z : Int} (h : leftOK μ n) (hb : bestOK μ n z) (hz : z < n) (h0 : z = -99999999 ∨ (0 ≤ z ∧ z ≤ 19)) : wOK μ z := by
  rcases h0 with h0 | h0
  · exact Or.inl h0
  · exact Or.inr (h z h0.1 hz (hb.1.resolve_left (by omega)))
def hit (μ : mM) (n v : Int) : Prop := ∃ i : Int, 0 ≤ i ∧ i < n ∧ 0 ≤ μ 126 (160 + 40 * i).toNat ∧ 0 < μ 126 (164 + 40 * i).toNat ∧ μ 126 (166 + 40 * i).toNat = v
theorem hit.new {μ : mM} {t v f g k x y : Int} (h0 : 0 ≤ t) (hf : f = 160 + 40 * t) (qf : μ 126 f.toNat = x) (hx : 0 ≤ x) (hg : g = 164 + 40 * t) (qg : μ 126 g.toNat = y) (hy : 0 < y) (hk : k = 166 + 40 * t) (qk : μ 126 k.toNat = v) : hit μ (t + 1) v :=
  ⟨t, h0, by omega, by rw [← hf, qf]; exact hx, by rw [← hg, qg]; exact hy, by rw [← hk, qk]⟩
theorem hit.or {μ : mM} {n m v b : Int} (h : b = 0 ∨ hit μ n v) (hm : n ≤ m) : b = 0 ∨ hit μ m v := by
  rcases h with h | ⟨i, h0, h1, h2⟩
  · exact Or.inl h
  · exact Or.inr ⟨i, h0, by omega, h2⟩
theorem hit.keep {l : List Nat} {w : mW} {μ μ1 : mM} {n v : Int} (h : hit μ n v) (hw : mWF w) (hF : mF l w μ μ1) (hl : l.elem 126999 = false) : hit μ1 n v := by
  have e : ∀ i, μ1 126 i = μ 126 i := fun i => hF.f (A_126 hw) hl rfl
  unfold hit at h ⊢; simp only [e]; exact h
def lft (μ : mM) (v n : Int) : Prop := leftOK μ n ∧ ∀ i : Int, 0 ≤ i → i < n → 0 ≤ μ 126 (160 + 40 * i).toNat → 0 < μ 126 (164 + 40 * i).toNat → μ 126 (166 + 40 * i).toNat = v → μ 165 i.toNat = 1
theorem lft.zero {μ : mM} {v : Int} : lft μ v 0 := ⟨leftOK.zero, fun i h0 h1 => by omega⟩
theorem lft.put {μ μ1 : mM} {v n b : Int} (h : lft μ v n) (h0 : 0 ≤ n) (hU : mU μ 165 n.toNat b μ1) (h1 : ¬ b = 1 ∨ 0 ≤ μ1 126 (160 + 40 * n).toNat) (h2 : b = 1 ∨ ¬ (0 ≤ μ1 126 (160 + 40 * n).toNat ∧ 0 < μ1 126 (164 + 40 * n).toNat ∧ μ1 126 (166 + 40 * n).toNat = v)) : lft μ1 v (n + 1) := by
  refine ⟨h.1.put h0 hU rfl rfl h1, fun i hi hin a1 a2 a3 => ?_⟩
  by_cases he : i = n
  · subst he
    rw [hU.1]; exact h2.resolve_right (fun k => k ⟨a1, a2, a3⟩)
  · rw [hU.2 165 i.toNat (Or.inr (by omega))]
    rw [hU.2 126 _ (Or.inl (by decide))] at a1 a2 a3
    exact h.2 i hi (by omega) a1 a2 a3
theorem lft.p1 {μ μ1 : mM} {v n b f x : Int} (h : lft μ v n) (h0 : 0 ≤ n) (hU : mU μ 165 n.toNat b μ1) (hb : b = 1) (hf : f = 160 + 40 * n) (q : μ1 126 f.toNat = x) (hx : 0 ≤ x) : lft μ1 v (n + 1) :=
  h.put h0 hU (Or.inr (by rw [← hf, q]; exact hx)) (Or.inl hb)
theorem lft.z1 {μ μ1 : mM} {v n b f x : Int} (h : lft μ v n) (h0 : 0 ≤ n) (hU : mU μ 165 n.toNat b μ1) (hb : ¬ b = 1) (hf : f = 160 + 40 * n) (q : μ1 126 f.toNat = x) (hx : x < 0) : lft μ1 v (n + 1) :=
  h.put h0 hU (Or.inl hb) (Or.inr (fun k => by have := k.1; rw [← hf, q] at this; omega))
theorem lft.z2 {μ μ1 : mM} {v n b f x : Int} (h : lft μ v n) (h0 : 0 ≤ n) (hU : mU μ 165 n.toNat b μ1) (hb : ¬ b = 1) (hf : f = 164 + 40 * n) (q : μ1 126 f.toNat = x) (hx : x ≤ 0) : lft μ1 v (n + 1) :=
  h.put h0 hU (Or.inl hb) (Or.inr (fun k => by have := k.2.1; rw [← hf, q] at this; omega))
theorem lft.z3 {μ μ1 : mM} {v n b f x : Int} (h : lft μ v n) (h0 : 0 ≤ n) (hU : mU μ 165 n.toNat b μ1) (hb : ¬ b = 1) (hf : f = 166 + 40 * n) (q : μ1 126 f.toNat = x) (hx : ¬ x = v) : lft μ1 v (n + 1) :=
  h.put h0 hU (Or.inl hb) (Or.inr (fun k => by have := k.2.2; rw [← hf, q] at this; exact hx this))
theorem lft.some {μ : mM} {v n k z : Int} (hl : lft μ v k) (hk : n ≤ k) (hh : hit μ n v) (hb : bestOK μ n z) (hz : z < n) (h0 : z = -99999999 ∨ (0 ≤ z ∧ z ≤ 19)) : 0 ≤ z ∧ wOK μ z := by
  obtain ⟨i, i0, i1, i2, i3, i4⟩ := hh
  have hi := hl.2 i i0 (by omega) i2 i3 i4
  rcases h0 with h0 | h0
  · exact absurd hi (hb.2 h0 i i0 i1)
  · refine ⟨h0.1, leftOK.best (n := n) (fun j j0 j1 => hl.1 j j0 (by omega)) hb hz (Or.inr h0)⟩
end
section
/-! Going through a policy: what stands at the levels. -/
theorem PK.act {μ : mM} {p n r R e v A : Int} (h : PK μ) (hp : 0 ≤ p ∧ p < n) (qn : μ 106 39 = n) (hr : 0 ≤ r ∧ r < R) (qR : μ 127 p.toNat = R) (he : e = 31 * p + r + 1) (qv : μ 129 e.toNat = v) (qA : μ 131 p.toNat = A) : v ≤ A := by
  have h1 := (h.2 p.toNat (by rw [qn]; omega)).1 r.toNat (by rw [qR]; omega)
  have e1 : 31 * p.toNat + r.toNat + 1 = e.toNat := by omega
  rw [e1, qv, qA] at h1; exact h1.2
theorem PK.call {μ : mM} {p n a A c y x : Int} (h : PK μ) (hp : 0 ≤ p ∧ p < n) (qn : μ 106 39 = n) (ha : 0 ≤ a ∧ a < A) (qA : μ 131 p.toNat = A) (hc : c = 300 * p + a) (qw : μ 140 c.toNat = y) (hy : y = 28) (qx : μ 141 c.toNat = x) : 0 ≤ x ∧ x < p := by
  have h1 := (h.2 p.toNat (by rw [qn]; omega)).2 a.toNat (by rw [qA]; omega)
  have e1 : 300 * p.toNat + a.toNat = c.toNat := by omega
  rw [e1, qw, qx] at h1
  have := h1 hy
  omega
def lvOK (μ : mM) (d : Int) : Prop := ∀ i : Nat, (i : Int) < d → 0 ≤ μ 151 i ∧ μ 151 i < μ 106 39 ∧ μ 151 i + (i : Int) ≤ 11 ∧ μ 152 i < μ 127 (μ 151 i).toNat ∧ (0 ≤ μ 152 i → μ 153 i ≤ μ 129 (31 * (μ 151 i).toNat + (μ 152 i).toNat + 1))
theorem lvOK.zero {μ : mM} : lvOK μ 0 := fun i h => by omega
def lvFree (l : List Nat) : Bool := !(l.elem 106039) && (!(l.elem 127999) && (!(l.elem 129999) && (!(l.elem 151999) && (!(l.elem 152999) && !(l.elem 153999)))))
theorem lvOK.keep {l : List Nat} {w : mW} {μ μ1 : mM} {d : Int} (h : lvOK μ d) (hw : mWF w) (hF : mF l w μ μ1) (hl : lvFree l = true) : lvOK μ1 d := by
  simp only [lvFree, Bool.and_eq_true, Bool.not_eq_true'] at hl
  obtain ⟨l1, l2, l3, l4, l5, l6⟩ := hl
  have e1 : μ1 106 39 = μ 106 39 := hF.f (A_106 hw) l1 rfl
  have e2 : μ1 127 = μ 127 := funext fun i => hF.f (A_127 hw) l2 rfl
  have e3 : μ1 129 = μ 129 := funext fun i => hF.f (A_129 hw) l3 rfl
  have e4 : μ1 151 = μ 151 := funext fun i => hF.f (A_151 hw) l4 rfl
  have e5 : μ1 152 = μ 152 := funext fun i => hF.f (A_152 hw) l5 rfl
  have e6 : μ1 153 = μ 153 := funext fun i => hF.f (A_153 hw) l6 rfl
  unfold lvOK at h ⊢
  rw [e1, e2, e3, e4, e5, e6]; exact h
theorem lvOK.pred {μ : mM} {d k : Int} (h : lvOK μ d) (hk : k ≤ d) : lvOK μ k := fun i hi => h i (by omega)
theorem lvOK.p {μ : mM} {d l p n : Int} (h : lvOK μ d) (h0 : 0 ≤ l ∧ l < d) (q : μ 151 l.toNat = p) (qn : μ 106 39 = n) : 0 ≤ p ∧ p < n ∧ p + l ≤ 11 := by
  have := h l.toNat (by omega)
  rw [q, qn] at this
  omega
theorem lvOK.r {μ : mM} {d l p r R : Int} (h : lvOK μ d) (h0 : 0 ≤ l ∧ l < d) (q : μ 151 l.toNat = p) (qr : μ 152 l.toNat = r) (qR : μ 127 p.toNat = R) : r < R := by
  have := h l.toNat (by omega)
  rw [q, qr, qR] at this
  exact this.2.2.2.1
theorem lvOK.a {μ : mM} {d l p r a e v : Int} (h : lvOK μ d) (h0 : 0 ≤ l ∧ l < d) (q : μ 151 l.toNat = p) (qr : μ 152 l.toNat = r) (qa : μ 153 l.toNat = a) (hp : 0 ≤ p) (hr : 0 ≤ r) (he : e = 31 * p + r + 1) (qv : μ 129 e.toNat = v) : a ≤ v := by
  have := (h l.toNat (by omega)).2.2.2.2
  rw [q, qr, qa] at this
  have e1 : 31 * p.toNat + r.toNat + 1 = e.toNat := by omega
  rw [e1, qv] at this
  exact this hr
theorem lvOK.push {μ μ1 μ2 μ3 : mM} {d x n y R : Int} (h : lvOK μ d) (h0 : 0 ≤ d) (u1 : mU μ 151 d.toNat x μ1) (u2 : mU μ1 152 d.toNat (-1) μ2) (u3 : mU μ2 153 d.toNat y μ3) (qn : μ3 106 39 = n) (hx : 0 ≤ x ∧ x < n ∧ x + d ≤ 11) (qR : μ3 127 x.toNat = R) (hR : 0 ≤ R) : lvOK μ3 (d + 1) := by
  have f : ∀ a k, a ≠ 151 → a ≠ 152 → a ≠ 153 → μ3 a k = μ a k := fun a k h1 h2 h3 => by rw [u3.2 a k (Or.inl h3), u2.2 a k (Or.inl h2), u1.2 a k (Or.inl h1)]
  intro i hi
  by_cases hk : i = d.toNat
  · subst hk
    have e1 : μ3 151 d.toNat = x := by rw [u3.2 151 _ (Or.inl (by decide)), u2.2 151 _ (Or.inl (by decide)), u1.1]
    have e2 : μ3 152 d.toNat = -1 := by rw [u3.2 152 _ (Or.inl (by decide)), u2.1]
    rw [e1, e2, qn, qR]
    refine ⟨hx.1, hx.2.1, by omega, by omega, fun q => by omega⟩
  · have e1 : μ3 151 i = μ 151 i := by rw [u3.2 151 _ (Or.inl (by decide)), u2.2 151 _ (Or.inl (by decide)), u1.2 151 i (Or.inr hk)]
    have e2 : μ3 152 i = μ 152 i := by rw [u3.2 152 _ (Or.inl (by decide)), u2.2 152 i (Or.inr hk), u1.2 152 i (Or.inl (by decide))]
    have e3 : μ3 153 i = μ 153 i := by rw [u3.2 153 i (Or.inr hk), u2.2 153 i (Or.inl (by decide)), u1.2 153 i (Or.inl (by decide))]
    rw [e1, e2, e3, f 106 39 (by decide) (by decide) (by decide)]
    rw [f 127 _ (by decide) (by decide) (by decide), f 129 _ (by decide) (by decide) (by decide)]
    exact h i (by omega)
theorem lvOK.act {μ μ1 : mM} {d l p r b e v : Int} (h : lvOK μ d) (h0 : 0 ≤ l ∧ l < d) (u : mU μ 153 l.toNat b μ1) (q : μ1 151 l.toNat = p) (qr : μ1 152 l.toNat = r) (hp : 0 ≤ p) (hr : 0 ≤ r) (he : e = 31 * p + r + 1) (qv : μ1 129 e.toNat = v) (hb : b ≤ v) : lvOK μ1 d := by
  intro i hi
  have f : ∀ a k, a ≠ 153 → μ1 a k = μ a k := fun a k h1 => u.2 a k (Or.inl h1)
  have g := h i hi
  by_cases hk : i = l.toNat
  · subst hk
    have e1 : 31 * p.toNat + r.toNat + 1 = e.toNat := by omega
    rw [f 106 39 (by decide), f 127 _ (by decide), f 151 _ (by decide), f 152 _ (by decide)]
    refine ⟨g.1, g.2.1, g.2.2.1, g.2.2.2.1, fun _ => ?_⟩
    rw [u.1]
    rw [f 151 _ (by decide)] at q
    rw [f 152 _ (by decide)] at qr
    rw [q, qr, e1, qv]; exact hb
  · rw [f 106 39 (by decide), f 127 _ (by decide), f 151 _ (by decide), f 152 _ (by decide), u.2 153 i (Or.inr hk), f 129 _ (by decide)]
    exact g
theorem lvOK.row {μ μ1 μ2 : mM} {d l p n r R b e : Int} (h : lvOK μ d) (hk : PK μ2) (h0 : 0 ≤ l ∧ l < d) (u1 : mU μ 152 l.toNat r μ1) (u2 : mU μ1 153 l.toNat b μ2) (q : μ2 151 l.toNat = p) (hp : 0 ≤ p ∧ p < n) (qn : μ2 106 39 = n) (hr : 0 ≤ r ∧ r < R) (qR : μ2 127 p.toNat = R) (he : e = 31 * p + r) (qb : μ2 129 e.toNat = b) : lvOK μ2 d := by
  intro i hi
  have f : ∀ a k, a ≠ 152 → a ≠ 153 → μ2 a k = μ a k := fun a k h1 h2 => by rw [u2.2 a k (Or.inl h2), u1.2 a k (Or.inl h1)]
  have g := h i hi
  by_cases hk2 : i = l.toNat
  · subst hk2
    have e1 : 31 * p.toNat + r.toNat = e.toNat := by omega
    have e2 : μ2 152 l.toNat = r := by rw [u2.2 152 _ (Or.inl (by decide)), u1.1]
    have e3 : μ2 153 l.toNat = b := u2.1
    have g1 := ((hk.2 p.toNat (by rw [qn]; omega)).1 r.toNat (by rw [qR]; omega)).1
    rw [e1, qb] at g1
    rw [q, e2, e3, qR, qn]
    refine ⟨hp.1, hp.2, ?_, hr.2, fun _ => by rw [e1]; exact g1⟩
    have g2 := g.2.2.1
    rw [← f 151 _ (by decide) (by decide), q] at g2
    exact g2
  · have e2 : μ2 152 i = μ 152 i := by rw [u2.2 152 _ (Or.inl (by decide)), u1.2 152 i (Or.inr hk2)]
    have e3 : μ2 153 i = μ 153 i := by rw [u2.2 153 i (Or.inr hk2), u1.2 153 i (Or.inl (by decide))]
    rw [e2, e3, f 106 39 (by decide) (by decide), f 127 _ (by decide) (by decide), f 151 _ (by decide) (by decide), f 129 _ (by decide) (by decide)]
    exact g
theorem topE {μ : mM} {d l R z : Int} (h : d = 0 ∨ μ 152 (d - 1).toNat = R) (hd : ¬ d = 0) (hl : l = d - 1) (q : μ 152 l.toNat = z) : z = R := by
  have := h.resolve_left hd
  rw [← hl, q] at this; exact this
end
section
/-! The pieces of a way as bytes: each count once more than it stands, all within the end. -/
def ChnN (μ : mM) (e : Int) : Nat → Int → Int → Prop
  | 0, k, s => e ≤ k ∧ s = 0
  | n + 1, k, s => k < e ∧ k + 2 ≤ e ∧ 1 ≤ byteF μ (k + 1) ∧ k + 2 + 4 * byteF μ (k + 1) ≤ e ∧ ChnN μ e n (k + 2 + 4 * byteF μ (k + 1)) (s - byteF μ (k + 1))
def Chn (μ : mM) (e k s : Int) : Prop := ∃ n, ChnN μ e n k s
theorem ChnN.nn {μ : mM} {e : Int} : ∀ {n : Nat} {k s : Int}, ChnN μ e n k s → 0 ≤ s
  | 0, _, _, h => by have := h.2; omega
  | n + 1, k, s, h => by have h1 := ChnN.nn h.2.2.2.2; have h2 := h.2.2.1; omega
theorem ChnN.keep {l : List Nat} {w : mW} {μ μ1 : mM} {e : Int} (hw : mWF w) (hF : mF l w μ μ1) (hl : tpFree l = true) : ∀ {n : Nat} {k s : Int}, ChnN μ e n k s → ChnN μ1 e n k s
  | 0, _, _, h => h
  | n + 1, k, s, h => by
    have e1 : byteF μ1 (k + 1) = byteF μ (k + 1) := byteF.keep hw hF hl
    simp only [ChnN, e1]
    exact ⟨h.1, h.2.1, h.2.2.1, h.2.2.2.1, ChnN.keep hw hF hl h.2.2.2.2⟩
theorem Chn.keep {l : List Nat} {w : mW} {μ μ1 : mM} {e k s : Int} (h : Chn μ e k s) (hw : mWF w) (hF : mF l w μ μ1) (hl : tpFree l = true) : Chn μ1 e k s := by
  obtain ⟨n, h⟩ := h; exact ⟨n, ChnN.keep hw hF hl h⟩
theorem Chn.un {μ : mM} {e k s : Int} (h : Chn μ e k s) (hk : k < e) : k + 2 ≤ e ∧ 1 ≤ byteF μ (k + 1) ∧ k + 2 + 4 * byteF μ (k + 1) ≤ e ∧ byteF μ (k + 1) ≤ s ∧ Chn μ e (k + 2 + 4 * byteF μ (k + 1)) (s - byteF μ (k + 1)) := by
  obtain ⟨n, h⟩ := h
  cases n with
  | zero => have := h.1; omega
  | succ n =>
    have h5 := h.2.2.2.2
    have := h5.nn
    exact ⟨h.2.1, h.2.2.1, h.2.2.2.1, by omega, ⟨n, h5⟩⟩
theorem Chn.id {μ : mM} {e k m : Int} (hm : m = 0) : ∀ s, Chn μ e k s → Chn μ e k (m + s) := fun s h => by rw [hm, Int.zero_add]; exact h
theorem Chn.step {μ : mM} {e k a b m k' m' : Int} (R : ∀ s, Chn μ e k s → Chn μ e a (m + s)) (h0 : k < e) (h1 : k + 2 ≤ e) (q : byteF μ (k + 1) = b) (hb : 1 ≤ b) (h2 : k + 2 + 4 * b ≤ e) (hk : k' = k + 2 + 4 * b) (hm : m' = m + b) : ∀ s, Chn μ e k' s → Chn μ e a (m' + s) := by
  intro s h
  obtain ⟨n, h⟩ := h
  have := R (b + s) ⟨n + 1, h0, h1, by rw [q]; exact hb, by rw [q]; exact h2, by rw [q, ← hk]; have e1 : b + s - b = s := by omega
                                                                                 rw [e1]; exact h⟩
  have e2 : m' + s = m + (b + s) := by omega
  rw [e2]; exact this
theorem Chn.fin {μ : mM} {e k a m s : Int} (R : ∀ s, Chn μ e k s → Chn μ e a (m + s)) (hk : e ≤ k) (hs : s = m) : Chn μ e a s := by
  have := R 0 ⟨0, hk, rfl⟩
  rw [hs]; rw [Int.add_zero] at this; exact this
theorem Chn.cg {μ : mM} {e k s k' s' : Int} (h : Chn μ e k s) (hk : k' = k) (hs : s' = s) : Chn μ e k' s' := by rw [hk, hs]; exact h
end
section
/-! Words as numbers; what a policy's draft keeps. -/
theorem lCmp_eq {x y z : Int} (q : lCmp x y = z) (hx : -9223372036854775808 ≤ x ∧ x ≤ 9223372036854775807) (hy : -9223372036854775808 ≤ y ∧ y ≤ 9223372036854775807) (hz : z = 0) : x = y := by
  subst q
  unfold lCmp lg_cmp at hz
  split at hz
  · exact absurd hz (by decide)
  · split at hz
    · rename_i _ h
      have h2 := congrArg Int64.toInt h
      rw [jvI hx, jvI hy] at h2; exact h2
    · exact absurd hz (by decide)
theorem lShl8_fin : ∀ b : Fin 256, lShl ((b.val : Nat) : Int) 8 = ((b.val : Nat) : Int) * 256 := by decide +kernel
theorem lShl0_fin : ∀ b : Fin 256, lShl ((b.val : Nat) : Int) 0 = ((b.val : Nat) : Int) := by decide +kernel
theorem lOr_r {a b : Int} (k : Nat) (hk : k ≤ 62) (ha : 0 ≤ a ∧ a < 2 ^ k) (hb : 0 ≤ b ∧ b < 2 ^ k) : 0 ≤ lOr a b ∧ lOr a b < 2 ^ k := by
  have hp : (2 : Nat) ^ k ≤ 2 ^ 62 := Nat.pow_le_pow_right (by decide) hk
  have hc : ((2 ^ k : Nat) : Int) = (2 : Int) ^ k := by exact Int.natCast_pow 2 k
  have h1 : (BitVec.ofInt 64 b).toNat = b.toNat := by rw [BitVec.toNat_ofInt]; omega
  have h0 : (BitVec.ofInt 64 a).toNat = a.toNat := by rw [BitVec.toNat_ofInt]; omega
  have h2 : (Int64.ofInt a ||| Int64.ofInt b).toBitVec.toNat < 2 ^ k := by
    rw [Int64.toBitVec_or, BitVec.toNat_or, Int64.toBitVec_ofInt, Int64.toBitVec_ofInt, h1, h0]
    exact Nat.or_lt_two_pow (by omega) (by omega)
  have h3 : (Int64.ofInt a ||| Int64.ofInt b).toInt = ((Int64.ofInt a ||| Int64.ofInt b).toBitVec.toNat : Int) := BitVec.toInt_eq_toNat_of_lt (by omega)
  unfold lOr; omega
theorem word1 {b c s z : Int} (hb : 0 ≤ b ∧ b ≤ 255) (q0 : b = c) (q1 : lShl c 0 = s) (q2 : lOr 0 s = z) : 0 ≤ z ∧ z ≤ 255 := by
  subst q0; subst q1; subst q2
  have hs : ((b.toNat : Nat) : Int) = b := Int.toNat_of_nonneg hb.1
  have := lShl0_fin ⟨b.toNat, by omega⟩
  simp only [hs] at this
  rw [this]
  have := lOr_r (a := 0) (b := b) 8 (by decide) (by omega) (by omega)
  omega
theorem word2 {b c s v z : Int} (hv : 0 ≤ v ∧ v ≤ 255) (hb : 0 ≤ b ∧ b ≤ 255) (q0 : b = c) (q1 : lShl c 8 = s) (q2 : lOr v s = z) : 0 ≤ z ∧ z ≤ 65535 := by
  subst q0; subst q1; subst q2
  have hs : ((b.toNat : Nat) : Int) = b := Int.toNat_of_nonneg hb.1
  have := lShl8_fin ⟨b.toNat, by omega⟩
  simp only [hs] at this
  rw [this]
  have := lOr_r (a := v) (b := b * 256) 16 (by decide) (by omega) (by omega)
  omega
end
section
theorem dX12_announce_0 : decode cX12_announce 0 = .ok (.aload_n 0, 1) := dc0 dO_42 (by decide +kernel)
theorem dX12_announce_1 : decode cX12_announce 1 = .ok (.iload_n 1, 1) := dc0 dO_27 (by decide +kernel)
theorem dX12_announce_2 : decode cX12_announce 2 = .ok (.invokevirtual 49, 3) := dcU2 dO_182 (by decide +kernel)
theorem dX12_announce_5 : decode cX12_announce 5 = .ok (.ifCond .eq 20, 3) := dcS2 dO_153 (by decide +kernel)
theorem dX12_announce_8 : decode cX12_announce 8 = .ok (.aload_n 0, 1) := dc0 dO_42 (by decide +kernel)
theorem dX12_announce_9 : decode cX12_announce 9 = .ok (.iload_n 2, 1) := dc0 dO_28 (by decide +kernel)
theorem dX12_announce_10 : decode cX12_announce 10 = .ok (.invokevirtual 92, 3) := dcU2 dO_182 (by decide +kernel)
theorem dX12_announce_13 : decode cX12_announce 13 = .ok (.ifCond .eq 12, 3) := dcS2 dO_153 (by decide +kernel)
theorem dX12_announce_16 : decode cX12_announce 16 = .ok (.iload_n 3, 1) := dc0 dO_29 (by decide +kernel)
theorem dX12_announce_17 : decode cX12_announce 17 = .ok (.iconst 0, 1) := dc0 dO_3 (by decide +kernel)
theorem dX12_announce_18 : decode cX12_announce 18 = .ok (.iconst 2, 1) := dc0 dO_5 (by decide +kernel)
theorem dX12_announce_19 : decode cX12_announce 19 = .ok (.invokestatic 18, 3) := dcU2 dO_184 (by decide +kernel)
theorem dX12_announce_22 : decode cX12_announce 22 = .ok (.ifCond .ne 5, 3) := dcS2 dO_154 (by decide +kernel)
theorem dX12_announce_25 : decode cX12_announce 25 = .ok (.iconst (-1), 1) := dc0 dO_2 (by decide +kernel)
theorem dX12_announce_26 : decode cX12_announce 26 = .ok (.ireturn, 1) := dc0 dO_172 (by decide +kernel)
theorem dX12_announce_27 : decode cX12_announce 27 = .ok (.bipush 10, 2) := dcS1 dO_16 (by decide +kernel)
theorem dX12_announce_29 : decode cX12_announce 29 = .ok (.iload_n 1, 1) := dc0 dO_27 (by decide +kernel)
theorem dX12_announce_30 : decode cX12_announce 30 = .ok (.imul, 1) := dc0 dO_104 (by decide +kernel)
theorem dX12_announce_31 : decode cX12_announce 31 = .ok (.iload_n 2, 1) := dc0 dO_28 (by decide +kernel)
theorem dX12_announce_32 : decode cX12_announce 32 = .ok (.iadd, 1) := dc0 dO_96 (by decide +kernel)
theorem dX12_announce_33 : decode cX12_announce 33 = .ok (.istore 4, 2) := dcU1 dO_54 (by decide +kernel)
theorem dX12_announce_35 : decode cX12_announce 35 = .ok (.aload_n 0, 1) := dc0 dO_42 (by decide +kernel)
theorem dX12_announce_36 : decode cX12_announce 36 = .ok (.getfield 448, 3) := dcU2 dO_180 (by decide +kernel)
theorem dX12_announce_39 : decode cX12_announce 39 = .ok (.iload 4, 2) := dcU1 dO_21 (by decide +kernel)
theorem dX12_announce_41 : decode cX12_announce 41 = .ok (.iaload, 1) := dc0 dO_46 (by decide +kernel)
theorem dX12_announce_42 : decode cX12_announce 42 = .ok (.iload_n 3, 1) := dc0 dO_29 (by decide +kernel)
theorem dX12_announce_43 : decode cX12_announce 43 = .ok (.if_icmp .ne 6, 3) := dcS2 dO_160 (by decide +kernel)
theorem dX12_announce_46 : decode cX12_announce 46 = .ok (.bipush (-2), 2) := dcS1 dO_16 (by decide +kernel)
theorem dX12_announce_48 : decode cX12_announce 48 = .ok (.ireturn, 1) := dc0 dO_172 (by decide +kernel)
theorem dX12_announce_49 : decode cX12_announce 49 = .ok (.aload_n 0, 1) := dc0 dO_42 (by decide +kernel)
theorem dX12_announce_50 : decode cX12_announce 50 = .ok (.getfield 448, 3) := dcU2 dO_180 (by decide +kernel)
theorem dX12_announce_53 : decode cX12_announce 53 = .ok (.iload 4, 2) := dcU1 dO_21 (by decide +kernel)
theorem dX12_announce_55 : decode cX12_announce 55 = .ok (.iload_n 3, 1) := dc0 dO_29 (by decide +kernel)
theorem dX12_announce_56 : decode cX12_announce 56 = .ok (.iastore, 1) := dc0 dO_79 (by decide +kernel)
theorem dX12_announce_57 : decode cX12_announce 57 = .ok (.aload_n 0, 1) := dc0 dO_42 (by decide +kernel)
theorem dX12_announce_58 : decode cX12_announce 58 = .ok (.iload_n 1, 1) := dc0 dO_27 (by decide +kernel)
theorem dX12_announce_59 : decode cX12_announce 59 = .ok (.iload_n 2, 1) := dc0 dO_28 (by decide +kernel)
theorem dX12_announce_60 : decode cX12_announce 60 = .ok (.invokevirtual 597, 3) := dcU2 dO_182 (by decide +kernel)
theorem dX12_announce_63 : decode cX12_announce 63 = .ok (.iconst 0, 1) := dc0 dO_3 (by decide +kernel)
theorem dX12_announce_64 : decode cX12_announce 64 = .ok (.ireturn, 1) := dc0 dO_172 (by decide +kernel)
theorem dX12_candidate_0 : decode cX12_candidate 0 = .ok (.aload_n 0, 1) := dc0 dO_42 (by decide +kernel)
theorem dX12_candidate_1 : decode cX12_candidate 1 = .ok (.iload_n 2, 1) := dc0 dO_28 (by decide +kernel)
theorem dX12_candidate_2 : decode cX12_candidate 2 = .ok (.iload_n 1, 1) := dc0 dO_27 (by decide +kernel)
theorem dX12_candidate_3 : decode cX12_candidate 3 = .ok (.invokevirtual 542, 3) := dcU2 dO_182 (by decide +kernel)
theorem dX12_candidate_6 : decode cX12_candidate 6 = .ok (.istore 4, 2) := dcU1 dO_54 (by decide +kernel)
theorem dX12_candidate_8 : decode cX12_candidate 8 = .ok (.aload_n 0, 1) := dc0 dO_42 (by decide +kernel)
theorem dX12_candidate_9 : decode cX12_candidate 9 = .ok (.iconst 4, 1) := dc0 dO_7 (by decide +kernel)
theorem dX12_candidate_10 : decode cX12_candidate 10 = .ok (.iload_n 2, 1) := dc0 dO_28 (by decide +kernel)
theorem dX12_candidate_11 : decode cX12_candidate 11 = .ok (.iadd, 1) := dc0 dO_96 (by decide +kernel)
theorem dX12_candidate_12 : decode cX12_candidate 12 = .ok (.invokevirtual 539, 3) := dcU2 dO_182 (by decide +kernel)
theorem dX12_candidate_15 : decode cX12_candidate 15 = .ok (.sipush 130, 3) := dcS2 dO_17 (by decide +kernel)
theorem dX12_candidate_18 : decode cX12_candidate 18 = .ok (.iload_n 2, 1) := dc0 dO_28 (by decide +kernel)
theorem dX12_candidate_19 : decode cX12_candidate 19 = .ok (.iload 4, 2) := dcU1 dO_21 (by decide +kernel)
theorem dX12_candidate_21 : decode cX12_candidate 21 = .ok (.iload_n 3, 1) := dc0 dO_29 (by decide +kernel)
theorem dX12_candidate_22 : decode cX12_candidate 22 = .ok (.invokestatic 545, 3) := dcU2 dO_184 (by decide +kernel)
theorem dX12_candidate_25 : decode cX12_candidate 25 = .ok (.iadd, 1) := dc0 dO_96 (by decide +kernel)
theorem dX12_candidate_26 : decode cX12_candidate 26 = .ok (.istore 5, 2) := dcU1 dO_54 (by decide +kernel)
theorem dX12_candidate_28 : decode cX12_candidate 28 = .ok (.aload_n 0, 1) := dc0 dO_42 (by decide +kernel)
theorem dX12_candidate_29 : decode cX12_candidate 29 = .ok (.getfield 53, 3) := dcU2 dO_180 (by decide +kernel)
theorem dX12_candidate_32 : decode cX12_candidate 32 = .ok (.iload_n 2, 1) := dc0 dO_28 (by decide +kernel)
theorem dX12_candidate_33 : decode cX12_candidate 33 = .ok (.baload, 1) := dc0 dO_51 (by decide +kernel)
theorem dX12_candidate_34 : decode cX12_candidate 34 = .ok (.ifCond .eq 12, 3) := dcS2 dO_153 (by decide +kernel)
theorem dX12_candidate_37 : decode cX12_candidate 37 = .ok (.aload_n 0, 1) := dc0 dO_42 (by decide +kernel)
theorem dX12_candidate_38 : decode cX12_candidate 38 = .ok (.iload 5, 2) := dcU1 dO_21 (by decide +kernel)
theorem dX12_candidate_40 : decode cX12_candidate 40 = .ok (.invokevirtual 151, 3) := dcU2 dO_182 (by decide +kernel)
theorem dX12_candidate_43 : decode cX12_candidate 43 = .ok (.ifCond .ne 6, 3) := dcS2 dO_154 (by decide +kernel)
theorem dX12_candidate_46 : decode cX12_candidate 46 = .ok (.ldc 29, 2) := dcU1 dO_18 (by decide +kernel)
theorem dX12_candidate_48 : decode cX12_candidate 48 = .ok (.ireturn, 1) := dc0 dO_172 (by decide +kernel)
theorem dX12_candidate_49 : decode cX12_candidate 49 = .ok (.aload_n 0, 1) := dc0 dO_42 (by decide +kernel)
theorem dX12_candidate_50 : decode cX12_candidate 50 = .ok (.iload 5, 2) := dcU1 dO_21 (by decide +kernel)
theorem dX12_candidate_52 : decode cX12_candidate 52 = .ok (.iload_n 1, 1) := dc0 dO_27 (by decide +kernel)
theorem dX12_candidate_53 : decode cX12_candidate 53 = .ok (.invokevirtual 556, 3) := dcU2 dO_182 (by decide +kernel)
theorem dX12_candidate_56 : decode cX12_candidate 56 = .ok (.ifCond .eq 6, 3) := dcS2 dO_153 (by decide +kernel)
theorem dX12_candidate_59 : decode cX12_candidate 59 = .ok (.bipush 9, 2) := dcS1 dO_16 (by decide +kernel)
theorem dX12_candidate_61 : decode cX12_candidate 61 = .ok (.ireturn, 1) := dc0 dO_172 (by decide +kernel)
theorem dX12_candidate_62 : decode cX12_candidate 62 = .ok (.aload_n 0, 1) := dc0 dO_42 (by decide +kernel)
theorem dX12_candidate_63 : decode cX12_candidate 63 = .ok (.iload 5, 2) := dcU1 dO_21 (by decide +kernel)
theorem dX12_candidate_65 : decode cX12_candidate 65 = .ok (.iconst 4, 1) := dc0 dO_7 (by decide +kernel)
theorem dX12_candidate_66 : decode cX12_candidate 66 = .ok (.iload_n 2, 1) := dc0 dO_28 (by decide +kernel)
theorem dX12_candidate_67 : decode cX12_candidate 67 = .ok (.iadd, 1) := dc0 dO_96 (by decide +kernel)
theorem dX12_candidate_68 : decode cX12_candidate 68 = .ok (.invokevirtual 559, 3) := dcU2 dO_182 (by decide +kernel)
theorem dX12_candidate_71 : decode cX12_candidate 71 = .ok (.aload_n 0, 1) := dc0 dO_42 (by decide +kernel)
theorem dX12_candidate_72 : decode cX12_candidate 72 = .ok (.aload_n 0, 1) := dc0 dO_42 (by decide +kernel)
theorem dX12_candidate_73 : decode cX12_candidate 73 = .ok (.getfield 63, 3) := dcU2 dO_180 (by decide +kernel)
theorem dX12_candidate_76 : decode cX12_candidate 76 = .ok (.iconst 4, 1) := dc0 dO_7 (by decide +kernel)
theorem dX12_candidate_77 : decode cX12_candidate 77 = .ok (.iload_n 2, 1) := dc0 dO_28 (by decide +kernel)
theorem dX12_candidate_78 : decode cX12_candidate 78 = .ok (.imul, 1) := dc0 dO_104 (by decide +kernel)
theorem dX12_candidate_79 : decode cX12_candidate 79 = .ok (.iconst 2, 1) := dc0 dO_5 (by decide +kernel)
theorem dX12_candidate_80 : decode cX12_candidate 80 = .ok (.iload 4, 2) := dcU1 dO_21 (by decide +kernel)
theorem dX12_candidate_82 : decode cX12_candidate 82 = .ok (.imul, 1) := dc0 dO_104 (by decide +kernel)
theorem dX12_candidate_83 : decode cX12_candidate 83 = .ok (.iadd, 1) := dc0 dO_96 (by decide +kernel)
theorem dX12_candidate_84 : decode cX12_candidate 84 = .ok (.iaload, 1) := dc0 dO_46 (by decide +kernel)
theorem dX12_candidate_85 : decode cX12_candidate 85 = .ok (.iconst 4, 1) := dc0 dO_7 (by decide +kernel)
theorem dX12_candidate_86 : decode cX12_candidate 86 = .ok (.iload_n 2, 1) := dc0 dO_28 (by decide +kernel)
theorem dX12_candidate_87 : decode cX12_candidate 87 = .ok (.iadd, 1) := dc0 dO_96 (by decide +kernel)
theorem dX12_candidate_88 : decode cX12_candidate 88 = .ok (.iload_n 1, 1) := dc0 dO_27 (by decide +kernel)
theorem dX12_candidate_89 : decode cX12_candidate 89 = .ok (.aload_n 0, 1) := dc0 dO_42 (by decide +kernel)
theorem dX12_candidate_90 : decode cX12_candidate 90 = .ok (.iload_n 2, 1) := dc0 dO_28 (by decide +kernel)
theorem dX12_candidate_91 : decode cX12_candidate 91 = .ok (.iload_n 1, 1) := dc0 dO_27 (by decide +kernel)
theorem dX12_candidate_92 : decode cX12_candidate 92 = .ok (.invokevirtual 553, 3) := dcU2 dO_182 (by decide +kernel)
theorem dX12_candidate_95 : decode cX12_candidate 95 = .ok (.invokevirtual 414, 3) := dcU2 dO_182 (by decide +kernel)
theorem dX12_candidate_98 : decode cX12_candidate 98 = .ok (.ifCond .eq 5, 3) := dcS2 dO_153 (by decide +kernel)
theorem dX12_candidate_101 : decode cX12_candidate 101 = .ok (.iconst 0, 1) := dc0 dO_3 (by decide +kernel)
theorem dX12_candidate_102 : decode cX12_candidate 102 = .ok (.ireturn, 1) := dc0 dO_172 (by decide +kernel)
theorem dX12_candidate_103 : decode cX12_candidate 103 = .ok (.aload_n 0, 1) := dc0 dO_42 (by decide +kernel)
theorem dX12_candidate_104 : decode cX12_candidate 104 = .ok (.iconst 4, 1) := dc0 dO_7 (by decide +kernel)
theorem dX12_candidate_105 : decode cX12_candidate 105 = .ok (.iload_n 2, 1) := dc0 dO_28 (by decide +kernel)
theorem dX12_candidate_106 : decode cX12_candidate 106 = .ok (.iadd, 1) := dc0 dO_96 (by decide +kernel)
theorem dX12_candidate_107 : decode cX12_candidate 107 = .ok (.invokevirtual 539, 3) := dcU2 dO_182 (by decide +kernel)
theorem dX12_candidate_110 : decode cX12_candidate 110 = .ok (.bipush 10, 2) := dcS1 dO_16 (by decide +kernel)
theorem dX12_candidate_112 : decode cX12_candidate 112 = .ok (.ireturn, 1) := dc0 dO_172 (by decide +kernel)
theorem dX12_candidates_0 : decode cX12_candidates 0 = .ok (.iconst 0, 1) := dc0 dO_3 (by decide +kernel)
theorem dX12_candidates_1 : decode cX12_candidates 1 = .ok (.istore_n 3, 1) := dc0 dO_62 (by decide +kernel)
theorem dX12_candidates_2 : decode cX12_candidates 2 = .ok (.iload_n 3, 1) := dc0 dO_29 (by decide +kernel)
theorem dX12_candidates_3 : decode cX12_candidates 3 = .ok (.aload_n 0, 1) := dc0 dO_42 (by decide +kernel)
theorem dX12_candidates_4 : decode cX12_candidates 4 = .ok (.getfield 37, 3) := dcU2 dO_180 (by decide +kernel)
theorem dX12_candidates_7 : decode cX12_candidates 7 = .ok (.if_icmp .ge 36, 3) := dcS2 dO_162 (by decide +kernel)
theorem dX12_candidates_10 : decode cX12_candidates 10 = .ok (.aload_n 0, 1) := dc0 dO_42 (by decide +kernel)
theorem dX12_candidates_11 : decode cX12_candidates 11 = .ok (.iload_n 3, 1) := dc0 dO_29 (by decide +kernel)
theorem dX12_candidates_12 : decode cX12_candidates 12 = .ok (.iload_n 1, 1) := dc0 dO_27 (by decide +kernel)
theorem dX12_candidates_13 : decode cX12_candidates 13 = .ok (.invokevirtual 562, 3) := dcU2 dO_182 (by decide +kernel)
theorem dX12_candidates_16 : decode cX12_candidates 16 = .ok (.ifCond .eq 14, 3) := dcS2 dO_153 (by decide +kernel)
theorem dX12_candidates_19 : decode cX12_candidates 19 = .ok (.aload_n 0, 1) := dc0 dO_42 (by decide +kernel)
theorem dX12_candidates_20 : decode cX12_candidates 20 = .ok (.iload_n 1, 1) := dc0 dO_27 (by decide +kernel)
theorem dX12_candidates_21 : decode cX12_candidates 21 = .ok (.iload_n 3, 1) := dc0 dO_29 (by decide +kernel)
theorem dX12_candidates_22 : decode cX12_candidates 22 = .ok (.iload_n 2, 1) := dc0 dO_28 (by decide +kernel)
theorem dX12_candidates_23 : decode cX12_candidates 23 = .ok (.invokevirtual 565, 3) := dcU2 dO_182 (by decide +kernel)
theorem dX12_candidates_26 : decode cX12_candidates 26 = .ok (.pop, 1) := dc0 dO_87 (by decide +kernel)
theorem dX12_candidates_27 : decode cX12_candidates 27 = .ok (.goto 10, 3) := dcS2 dO_167 (by decide +kernel)
theorem dX12_candidates_30 : decode cX12_candidates 30 = .ok (.aload_n 0, 1) := dc0 dO_42 (by decide +kernel)
theorem dX12_candidates_31 : decode cX12_candidates 31 = .ok (.iconst 4, 1) := dc0 dO_7 (by decide +kernel)
theorem dX12_candidates_32 : decode cX12_candidates 32 = .ok (.iload_n 3, 1) := dc0 dO_29 (by decide +kernel)
theorem dX12_candidates_33 : decode cX12_candidates 33 = .ok (.iadd, 1) := dc0 dO_96 (by decide +kernel)
theorem dX12_candidates_34 : decode cX12_candidates 34 = .ok (.invokevirtual 539, 3) := dcU2 dO_182 (by decide +kernel)
theorem dX12_candidates_37 : decode cX12_candidates 37 = .ok (.iinc 3 1, 3) := dcI dO_132 (by decide +kernel)
theorem dX12_candidates_40 : decode cX12_candidates 40 = .ok (.goto (-38), 3) := dcS2 dO_167 (by decide +kernel)
theorem dX12_candidates_43 : decode cX12_candidates 43 = .ok (.return_, 1) := dc0 dO_177 (by decide +kernel)
theorem dX12_cone_0 : decode cX12_cone 0 = .ok (.aload_n 0, 1) := dc0 dO_42 (by decide +kernel)
theorem dX12_cone_1 : decode cX12_cone 1 = .ok (.iload_n 1, 1) := dc0 dO_27 (by decide +kernel)
theorem dX12_cone_2 : decode cX12_cone 2 = .ok (.invokevirtual 49, 3) := dcU2 dO_182 (by decide +kernel)
theorem dX12_cone_5 : decode cX12_cone 5 = .ok (.ifCond .eq 16, 3) := dcS2 dO_153 (by decide +kernel)
theorem dX12_cone_8 : decode cX12_cone 8 = .ok (.iload_n 2, 1) := dc0 dO_28 (by decide +kernel)
theorem dX12_cone_9 : decode cX12_cone 9 = .ok (.iconst (-1), 1) := dc0 dO_2 (by decide +kernel)
theorem dX12_cone_10 : decode cX12_cone 10 = .ok (.if_icmp .eq 13, 3) := dcS2 dO_159 (by decide +kernel)
theorem dX12_cone_13 : decode cX12_cone 13 = .ok (.aload_n 0, 1) := dc0 dO_42 (by decide +kernel)
theorem dX12_cone_14 : decode cX12_cone 14 = .ok (.iload_n 2, 1) := dc0 dO_28 (by decide +kernel)
theorem dX12_cone_15 : decode cX12_cone 15 = .ok (.invokevirtual 49, 3) := dcU2 dO_182 (by decide +kernel)
theorem dX12_cone_18 : decode cX12_cone 18 = .ok (.ifCond .ne 5, 3) := dcS2 dO_154 (by decide +kernel)
theorem dX12_cone_21 : decode cX12_cone 21 = .ok (.iconst (-1), 1) := dc0 dO_2 (by decide +kernel)
theorem dX12_cone_22 : decode cX12_cone 22 = .ok (.ireturn, 1) := dc0 dO_172 (by decide +kernel)
theorem dX12_cone_23 : decode cX12_cone 23 = .ok (.iconst 0, 1) := dc0 dO_3 (by decide +kernel)
theorem dX12_cone_24 : decode cX12_cone 24 = .ok (.istore_n 3, 1) := dc0 dO_62 (by decide +kernel)
theorem dX12_cone_25 : decode cX12_cone 25 = .ok (.iload_n 3, 1) := dc0 dO_29 (by decide +kernel)
theorem dX12_cone_26 : decode cX12_cone 26 = .ok (.bipush 10, 2) := dcS1 dO_16 (by decide +kernel)
theorem dX12_cone_28 : decode cX12_cone 28 = .ok (.if_icmp .ge 25, 3) := dcS2 dO_162 (by decide +kernel)
theorem dX12_cone_31 : decode cX12_cone 31 = .ok (.aload_n 0, 1) := dc0 dO_42 (by decide +kernel)
theorem dX12_cone_32 : decode cX12_cone 32 = .ok (.getfield 69, 3) := dcU2 dO_180 (by decide +kernel)
theorem dX12_cone_35 : decode cX12_cone 35 = .ok (.iload_n 3, 1) := dc0 dO_29 (by decide +kernel)
theorem dX12_cone_36 : decode cX12_cone 36 = .ok (.iload_n 3, 1) := dc0 dO_29 (by decide +kernel)
theorem dX12_cone_37 : decode cX12_cone 37 = .ok (.iload_n 1, 1) := dc0 dO_27 (by decide +kernel)
theorem dX12_cone_38 : decode cX12_cone 38 = .ok (.if_icmp .ne 7, 3) := dcS2 dO_160 (by decide +kernel)
theorem dX12_cone_41 : decode cX12_cone 41 = .ok (.iconst 1, 1) := dc0 dO_4 (by decide +kernel)
theorem dX12_cone_42 : decode cX12_cone 42 = .ok (.goto 4, 3) := dcS2 dO_167 (by decide +kernel)
theorem dX12_cone_45 : decode cX12_cone 45 = .ok (.iconst 0, 1) := dc0 dO_3 (by decide +kernel)
theorem dX12_cone_46 : decode cX12_cone 46 = .ok (.bastore, 1) := dc0 dO_84 (by decide +kernel)
theorem dX12_cone_47 : decode cX12_cone 47 = .ok (.iinc 3 1, 3) := dcI dO_132 (by decide +kernel)
theorem dX12_cone_50 : decode cX12_cone 50 = .ok (.goto (-25), 3) := dcS2 dO_167 (by decide +kernel)
theorem dX12_cone_53 : decode cX12_cone 53 = .ok (.iconst 1, 1) := dc0 dO_4 (by decide +kernel)
theorem dX12_cone_54 : decode cX12_cone 54 = .ok (.istore_n 3, 1) := dc0 dO_62 (by decide +kernel)
theorem dX12_cone_55 : decode cX12_cone 55 = .ok (.iload_n 3, 1) := dc0 dO_29 (by decide +kernel)
theorem dX12_cone_56 : decode cX12_cone 56 = .ok (.ifCond .eq 91, 3) := dcS2 dO_153 (by decide +kernel)
theorem dX12_cone_59 : decode cX12_cone 59 = .ok (.iconst 0, 1) := dc0 dO_3 (by decide +kernel)
theorem dX12_cone_60 : decode cX12_cone 60 = .ok (.istore_n 3, 1) := dc0 dO_62 (by decide +kernel)
theorem dX12_cone_61 : decode cX12_cone 61 = .ok (.iconst 0, 1) := dc0 dO_3 (by decide +kernel)
theorem dX12_cone_62 : decode cX12_cone 62 = .ok (.istore 4, 2) := dcU1 dO_54 (by decide +kernel)
theorem dX12_cone_64 : decode cX12_cone 64 = .ok (.iload 4, 2) := dcU1 dO_21 (by decide +kernel)
theorem dX12_cone_66 : decode cX12_cone 66 = .ok (.aload_n 0, 1) := dc0 dO_42 (by decide +kernel)
theorem dX12_cone_67 : decode cX12_cone 67 = .ok (.getfield 37, 3) := dcU2 dO_180 (by decide +kernel)
theorem dX12_cone_70 : decode cX12_cone 70 = .ok (.if_icmp .ge 74, 3) := dcS2 dO_162 (by decide +kernel)
theorem dX12_cone_73 : decode cX12_cone 73 = .ok (.aload_n 0, 1) := dc0 dO_42 (by decide +kernel)
theorem dX12_cone_74 : decode cX12_cone 74 = .ok (.getfield 46, 3) := dcU2 dO_180 (by decide +kernel)
theorem dX12_cone_77 : decode cX12_cone 77 = .ok (.iload 4, 2) := dcU1 dO_21 (by decide +kernel)
theorem dX12_cone_79 : decode cX12_cone 79 = .ok (.iaload, 1) := dc0 dO_46 (by decide +kernel)
theorem dX12_cone_80 : decode cX12_cone 80 = .ok (.ifCond .ne 58, 3) := dcS2 dO_154 (by decide +kernel)
theorem dX12_cone_83 : decode cX12_cone 83 = .ok (.aload_n 0, 1) := dc0 dO_42 (by decide +kernel)
theorem dX12_cone_84 : decode cX12_cone 84 = .ok (.getfield 69, 3) := dcU2 dO_180 (by decide +kernel)
theorem dX12_cone_87 : decode cX12_cone 87 = .ok (.aload_n 0, 1) := dc0 dO_42 (by decide +kernel)
theorem dX12_cone_88 : decode cX12_cone 88 = .ok (.getfield 40, 3) := dcU2 dO_180 (by decide +kernel)
theorem dX12_cone_91 : decode cX12_cone 91 = .ok (.iconst 2, 1) := dc0 dO_5 (by decide +kernel)
theorem dX12_cone_92 : decode cX12_cone 92 = .ok (.iload 4, 2) := dcU1 dO_21 (by decide +kernel)
theorem dX12_cone_94 : decode cX12_cone 94 = .ok (.imul, 1) := dc0 dO_104 (by decide +kernel)
theorem dX12_cone_95 : decode cX12_cone 95 = .ok (.iaload, 1) := dc0 dO_46 (by decide +kernel)
theorem dX12_cone_96 : decode cX12_cone 96 = .ok (.baload, 1) := dc0 dO_51 (by decide +kernel)
theorem dX12_cone_97 : decode cX12_cone 97 = .ok (.ifCond .eq 41, 3) := dcS2 dO_153 (by decide +kernel)
theorem dX12_cone_100 : decode cX12_cone 100 = .ok (.aload_n 0, 1) := dc0 dO_42 (by decide +kernel)
theorem dX12_cone_101 : decode cX12_cone 101 = .ok (.getfield 69, 3) := dcU2 dO_180 (by decide +kernel)
theorem dX12_cone_104 : decode cX12_cone 104 = .ok (.aload_n 0, 1) := dc0 dO_42 (by decide +kernel)
theorem dX12_cone_105 : decode cX12_cone 105 = .ok (.getfield 40, 3) := dcU2 dO_180 (by decide +kernel)
theorem dX12_cone_108 : decode cX12_cone 108 = .ok (.iconst 2, 1) := dc0 dO_5 (by decide +kernel)
theorem dX12_cone_109 : decode cX12_cone 109 = .ok (.iload 4, 2) := dcU1 dO_21 (by decide +kernel)
theorem dX12_cone_111 : decode cX12_cone 111 = .ok (.imul, 1) := dc0 dO_104 (by decide +kernel)
theorem dX12_cone_112 : decode cX12_cone 112 = .ok (.iconst 1, 1) := dc0 dO_4 (by decide +kernel)
theorem dX12_cone_113 : decode cX12_cone 113 = .ok (.iadd, 1) := dc0 dO_96 (by decide +kernel)
theorem dX12_cone_114 : decode cX12_cone 114 = .ok (.iaload, 1) := dc0 dO_46 (by decide +kernel)
theorem dX12_cone_115 : decode cX12_cone 115 = .ok (.baload, 1) := dc0 dO_51 (by decide +kernel)
theorem dX12_cone_116 : decode cX12_cone 116 = .ok (.ifCond .ne 22, 3) := dcS2 dO_154 (by decide +kernel)
theorem dX12_cone_119 : decode cX12_cone 119 = .ok (.aload_n 0, 1) := dc0 dO_42 (by decide +kernel)
theorem dX12_cone_120 : decode cX12_cone 120 = .ok (.getfield 69, 3) := dcU2 dO_180 (by decide +kernel)
theorem dX12_cone_123 : decode cX12_cone 123 = .ok (.aload_n 0, 1) := dc0 dO_42 (by decide +kernel)
theorem dX12_cone_124 : decode cX12_cone 124 = .ok (.getfield 40, 3) := dcU2 dO_180 (by decide +kernel)
theorem dX12_cone_127 : decode cX12_cone 127 = .ok (.iconst 2, 1) := dc0 dO_5 (by decide +kernel)
theorem sfx_cX12_cone_128 : (cX12_cone.data.toList.drop 128).take 67 = [21, 4, 104, 4, 96, 46, 4, 84, 4, 62, 132, 4, 1, 167, 255, 179, 167, 255, 167, 3, 54, 4, 3, 54, 5, 21, 5, 42, 180, 0, 34, 162, 0, 29, 21, 4, 42, 180, 0, 69, 21, 5, 51, 153, 0, 7, 4, 167, 0, 4, 3, 96, 54, 4, 132, 5, 1, 167, 255, 224, 28, 156, 0, 8, 21, 4, 167] := by decide +kernel
theorem dX12_cone_128 : decode cX12_cone 128 = .ok (.iload 4, 2) := dcU1 dO_21 (rdU1.ch sfx_cX12_cone_128 0 rfl (by decide +kernel))
theorem dX12_cone_130 : decode cX12_cone 130 = .ok (.imul, 1) := dc0 dO_104 (rdB.ch sfx_cX12_cone_128 2 rfl (by decide +kernel))
theorem dX12_cone_131 : decode cX12_cone 131 = .ok (.iconst 1, 1) := dc0 dO_4 (rdB.ch sfx_cX12_cone_128 3 rfl (by decide +kernel))
theorem dX12_cone_132 : decode cX12_cone 132 = .ok (.iadd, 1) := dc0 dO_96 (rdB.ch sfx_cX12_cone_128 4 rfl (by decide +kernel))
theorem dX12_cone_133 : decode cX12_cone 133 = .ok (.iaload, 1) := dc0 dO_46 (rdB.ch sfx_cX12_cone_128 5 rfl (by decide +kernel))
theorem dX12_cone_134 : decode cX12_cone 134 = .ok (.iconst 1, 1) := dc0 dO_4 (rdB.ch sfx_cX12_cone_128 6 rfl (by decide +kernel))
theorem dX12_cone_135 : decode cX12_cone 135 = .ok (.bastore, 1) := dc0 dO_84 (rdB.ch sfx_cX12_cone_128 7 rfl (by decide +kernel))
theorem dX12_cone_136 : decode cX12_cone 136 = .ok (.iconst 1, 1) := dc0 dO_4 (rdB.ch sfx_cX12_cone_128 8 rfl (by decide +kernel))
theorem dX12_cone_137 : decode cX12_cone 137 = .ok (.istore_n 3, 1) := dc0 dO_62 (rdB.ch sfx_cX12_cone_128 9 rfl (by decide +kernel))
theorem dX12_cone_138 : decode cX12_cone 138 = .ok (.iinc 4 1, 3) := dcI dO_132 (rdI.ch sfx_cX12_cone_128 10 rfl (by decide +kernel))
theorem dX12_cone_141 : decode cX12_cone 141 = .ok (.goto (-77), 3) := dcS2 dO_167 (rdS2.ch sfx_cX12_cone_128 13 rfl (by decide +kernel))
theorem dX12_cone_144 : decode cX12_cone 144 = .ok (.goto (-89), 3) := dcS2 dO_167 (rdS2.ch sfx_cX12_cone_128 16 rfl (by decide +kernel))
theorem dX12_cone_147 : decode cX12_cone 147 = .ok (.iconst 0, 1) := dc0 dO_3 (rdB.ch sfx_cX12_cone_128 19 rfl (by decide +kernel))
theorem dX12_cone_148 : decode cX12_cone 148 = .ok (.istore 4, 2) := dcU1 dO_54 (rdU1.ch sfx_cX12_cone_128 20 rfl (by decide +kernel))
theorem dX12_cone_150 : decode cX12_cone 150 = .ok (.iconst 0, 1) := dc0 dO_3 (rdB.ch sfx_cX12_cone_128 22 rfl (by decide +kernel))
theorem dX12_cone_151 : decode cX12_cone 151 = .ok (.istore 5, 2) := dcU1 dO_54 (rdU1.ch sfx_cX12_cone_128 23 rfl (by decide +kernel))
theorem dX12_cone_153 : decode cX12_cone 153 = .ok (.iload 5, 2) := dcU1 dO_21 (rdU1.ch sfx_cX12_cone_128 25 rfl (by decide +kernel))
theorem dX12_cone_155 : decode cX12_cone 155 = .ok (.aload_n 0, 1) := dc0 dO_42 (rdB.ch sfx_cX12_cone_128 27 rfl (by decide +kernel))
theorem dX12_cone_156 : decode cX12_cone 156 = .ok (.getfield 34, 3) := dcU2 dO_180 (rdU2.ch sfx_cX12_cone_128 28 rfl (by decide +kernel))
theorem dX12_cone_159 : decode cX12_cone 159 = .ok (.if_icmp .ge 29, 3) := dcS2 dO_162 (rdS2.ch sfx_cX12_cone_128 31 rfl (by decide +kernel))
theorem dX12_cone_162 : decode cX12_cone 162 = .ok (.iload 4, 2) := dcU1 dO_21 (rdU1.ch sfx_cX12_cone_128 34 rfl (by decide +kernel))
theorem dX12_cone_164 : decode cX12_cone 164 = .ok (.aload_n 0, 1) := dc0 dO_42 (rdB.ch sfx_cX12_cone_128 36 rfl (by decide +kernel))
theorem dX12_cone_165 : decode cX12_cone 165 = .ok (.getfield 69, 3) := dcU2 dO_180 (rdU2.ch sfx_cX12_cone_128 37 rfl (by decide +kernel))
theorem dX12_cone_168 : decode cX12_cone 168 = .ok (.iload 5, 2) := dcU1 dO_21 (rdU1.ch sfx_cX12_cone_128 40 rfl (by decide +kernel))
theorem dX12_cone_170 : decode cX12_cone 170 = .ok (.baload, 1) := dc0 dO_51 (rdB.ch sfx_cX12_cone_128 42 rfl (by decide +kernel))
theorem dX12_cone_171 : decode cX12_cone 171 = .ok (.ifCond .eq 7, 3) := dcS2 dO_153 (rdS2.ch sfx_cX12_cone_128 43 rfl (by decide +kernel))
theorem dX12_cone_174 : decode cX12_cone 174 = .ok (.iconst 1, 1) := dc0 dO_4 (rdB.ch sfx_cX12_cone_128 46 rfl (by decide +kernel))
theorem dX12_cone_175 : decode cX12_cone 175 = .ok (.goto 4, 3) := dcS2 dO_167 (rdS2.ch sfx_cX12_cone_128 47 rfl (by decide +kernel))
theorem dX12_cone_178 : decode cX12_cone 178 = .ok (.iconst 0, 1) := dc0 dO_3 (rdB.ch sfx_cX12_cone_128 50 rfl (by decide +kernel))
theorem dX12_cone_179 : decode cX12_cone 179 = .ok (.iadd, 1) := dc0 dO_96 (rdB.ch sfx_cX12_cone_128 51 rfl (by decide +kernel))
theorem dX12_cone_180 : decode cX12_cone 180 = .ok (.istore 4, 2) := dcU1 dO_54 (rdU1.ch sfx_cX12_cone_128 52 rfl (by decide +kernel))
theorem dX12_cone_182 : decode cX12_cone 182 = .ok (.iinc 5 1, 3) := dcI dO_132 (rdI.ch sfx_cX12_cone_128 54 rfl (by decide +kernel))
theorem dX12_cone_185 : decode cX12_cone 185 = .ok (.goto (-32), 3) := dcS2 dO_167 (rdS2.ch sfx_cX12_cone_128 57 rfl (by decide +kernel))
theorem dX12_cone_188 : decode cX12_cone 188 = .ok (.iload_n 2, 1) := dc0 dO_28 (rdB.ch sfx_cX12_cone_128 60 rfl (by decide +kernel))
theorem dX12_cone_189 : decode cX12_cone 189 = .ok (.ifCond .ge 8, 3) := dcS2 dO_156 (rdS2.ch sfx_cX12_cone_128 61 rfl (by decide +kernel))
theorem sfx_cX12_cone_192 : (cX12_cone.data.toList.drop 192).take 67 = [21, 4, 167, 0, 17, 42, 180, 0, 69, 28, 51, 153, 0, 7, 4, 167, 0, 4, 3, 172] := by decide +kernel
theorem dX12_cone_192 : decode cX12_cone 192 = .ok (.iload 4, 2) := dcU1 dO_21 (rdU1.ch sfx_cX12_cone_192 0 rfl (by decide +kernel))
theorem dX12_cone_194 : decode cX12_cone 194 = .ok (.goto 17, 3) := dcS2 dO_167 (rdS2.ch sfx_cX12_cone_192 2 rfl (by decide +kernel))
theorem dX12_cone_197 : decode cX12_cone 197 = .ok (.aload_n 0, 1) := dc0 dO_42 (rdB.ch sfx_cX12_cone_192 5 rfl (by decide +kernel))
theorem dX12_cone_198 : decode cX12_cone 198 = .ok (.getfield 69, 3) := dcU2 dO_180 (rdU2.ch sfx_cX12_cone_192 6 rfl (by decide +kernel))
theorem dX12_cone_201 : decode cX12_cone 201 = .ok (.iload_n 2, 1) := dc0 dO_28 (rdB.ch sfx_cX12_cone_192 9 rfl (by decide +kernel))
theorem dX12_cone_202 : decode cX12_cone 202 = .ok (.baload, 1) := dc0 dO_51 (rdB.ch sfx_cX12_cone_192 10 rfl (by decide +kernel))
theorem dX12_cone_203 : decode cX12_cone 203 = .ok (.ifCond .eq 7, 3) := dcS2 dO_153 (rdS2.ch sfx_cX12_cone_192 11 rfl (by decide +kernel))
theorem dX12_cone_206 : decode cX12_cone 206 = .ok (.iconst 1, 1) := dc0 dO_4 (rdB.ch sfx_cX12_cone_192 14 rfl (by decide +kernel))
theorem dX12_cone_207 : decode cX12_cone 207 = .ok (.goto 4, 3) := dcS2 dO_167 (rdS2.ch sfx_cX12_cone_192 15 rfl (by decide +kernel))
theorem dX12_cone_210 : decode cX12_cone 210 = .ok (.iconst 0, 1) := dc0 dO_3 (rdB.ch sfx_cX12_cone_192 18 rfl (by decide +kernel))
theorem dX12_cone_211 : decode cX12_cone 211 = .ok (.ireturn, 1) := dc0 dO_172 (rdB.ch sfx_cX12_cone_192 19 rfl (by decide +kernel))
theorem dX12_isBelow_0 : decode cX12_isBelow 0 = .ok (.iload_n 0, 1) := dc0 dO_26 (by decide +kernel)
theorem dX12_isBelow_1 : decode cX12_isBelow 1 = .ok (.ldc_w 571, 3) := dcU2 dO_19 (by decide +kernel)
theorem dX12_isBelow_4 : decode cX12_isBelow 4 = .ok (.iadd, 1) := dc0 dO_96 (by decide +kernel)
theorem dX12_isBelow_5 : decode cX12_isBelow 5 = .ok (.iload_n 1, 1) := dc0 dO_27 (by decide +kernel)
theorem dX12_isBelow_6 : decode cX12_isBelow 6 = .ok (.ldc_w 571, 3) := dcU2 dO_19 (by decide +kernel)
theorem dX12_isBelow_9 : decode cX12_isBelow 9 = .ok (.iadd, 1) := dc0 dO_96 (by decide +kernel)
theorem dX12_isBelow_10 : decode cX12_isBelow 10 = .ok (.if_icmp .ge 7, 3) := dcS2 dO_162 (by decide +kernel)
theorem dX12_isBelow_13 : decode cX12_isBelow 13 = .ok (.iconst 1, 1) := dc0 dO_4 (by decide +kernel)
theorem dX12_isBelow_14 : decode cX12_isBelow 14 = .ok (.goto 4, 3) := dcS2 dO_167 (by decide +kernel)
theorem dX12_isBelow_17 : decode cX12_isBelow 17 = .ok (.iconst 0, 1) := dc0 dO_3 (by decide +kernel)
theorem dX12_isBelow_18 : decode cX12_isBelow 18 = .ok (.ireturn, 1) := dc0 dO_172 (by decide +kernel)
theorem dX12_isSo_0 : decode cX12_isSo 0 = .ok (.aload_n 0, 1) := dc0 dO_42 (by decide +kernel)
theorem dX12_isSo_1 : decode cX12_isSo 1 = .ok (.getfield 148, 3) := dcU2 dO_180 (by decide +kernel)
theorem dX12_isSo_4 : decode cX12_isSo 4 = .ok (.bipush 40, 2) := dcS1 dO_16 (by decide +kernel)
theorem dX12_isSo_6 : decode cX12_isSo 6 = .ok (.iload_n 3, 1) := dc0 dO_29 (by decide +kernel)
theorem dX12_isSo_7 : decode cX12_isSo 7 = .ok (.imul, 1) := dc0 dO_104 (by decide +kernel)
theorem dX12_isSo_8 : decode cX12_isSo 8 = .ok (.iaload, 1) := dc0 dO_46 (by decide +kernel)
theorem dX12_isSo_9 : decode cX12_isSo 9 = .ok (.istore 6, 2) := dcU1 dO_54 (by decide +kernel)
theorem dX12_isSo_11 : decode cX12_isSo 11 = .ok (.aload_n 0, 1) := dc0 dO_42 (by decide +kernel)
theorem dX12_isSo_12 : decode cX12_isSo 12 = .ok (.getfield 148, 3) := dcU2 dO_180 (by decide +kernel)
theorem dX12_isSo_15 : decode cX12_isSo 15 = .ok (.bipush 40, 2) := dcS1 dO_16 (by decide +kernel)
theorem dX12_isSo_17 : decode cX12_isSo 17 = .ok (.iload_n 3, 1) := dc0 dO_29 (by decide +kernel)
theorem dX12_isSo_18 : decode cX12_isSo 18 = .ok (.imul, 1) := dc0 dO_104 (by decide +kernel)
theorem dX12_isSo_19 : decode cX12_isSo 19 = .ok (.iconst 4, 1) := dc0 dO_7 (by decide +kernel)
theorem dX12_isSo_20 : decode cX12_isSo 20 = .ok (.iadd, 1) := dc0 dO_96 (by decide +kernel)
theorem dX12_isSo_21 : decode cX12_isSo 21 = .ok (.iaload, 1) := dc0 dO_46 (by decide +kernel)
theorem dX12_isSo_22 : decode cX12_isSo 22 = .ok (.istore 8, 2) := dcU1 dO_54 (by decide +kernel)
theorem dX12_isSo_24 : decode cX12_isSo 24 = .ok (.aload_n 0, 1) := dc0 dO_42 (by decide +kernel)
theorem dX12_isSo_25 : decode cX12_isSo 25 = .ok (.getfield 323, 3) := dcU2 dO_180 (by decide +kernel)
theorem dX12_isSo_28 : decode cX12_isSo 28 = .ok (.iload_n 2, 1) := dc0 dO_28 (by decide +kernel)
theorem dX12_isSo_29 : decode cX12_isSo 29 = .ok (.iaload, 1) := dc0 dO_46 (by decide +kernel)
theorem dX12_isSo_30 : decode cX12_isSo 30 = .ok (.iconst 4, 1) := dc0 dO_7 (by decide +kernel)
theorem dX12_isSo_31 : decode cX12_isSo 31 = .ok (.if_icmp .ne 70, 3) := dcS2 dO_160 (by decide +kernel)
theorem dX12_isSo_34 : decode cX12_isSo 34 = .ok (.aload_n 0, 1) := dc0 dO_42 (by decide +kernel)
theorem dX12_isSo_35 : decode cX12_isSo 35 = .ok (.getfield 26, 3) := dcU2 dO_180 (by decide +kernel)
theorem dX12_isSo_38 : decode cX12_isSo 38 = .ok (.iload 6, 2) := dcU1 dO_21 (by decide +kernel)
theorem dX12_isSo_40 : decode cX12_isSo 40 = .ok (.iaload, 1) := dc0 dO_46 (by decide +kernel)
theorem dX12_isSo_41 : decode cX12_isSo 41 = .ok (.aload_n 0, 1) := dc0 dO_42 (by decide +kernel)
theorem dX12_isSo_42 : decode cX12_isSo 42 = .ok (.getfield 336, 3) := dcU2 dO_180 (by decide +kernel)
theorem dX12_isSo_45 : decode cX12_isSo 45 = .ok (.iload_n 2, 1) := dc0 dO_28 (by decide +kernel)
theorem dX12_isSo_46 : decode cX12_isSo 46 = .ok (.iaload, 1) := dc0 dO_46 (by decide +kernel)
theorem dX12_isSo_47 : decode cX12_isSo 47 = .ok (.if_icmp .lt 48, 3) := dcS2 dO_161 (by decide +kernel)
theorem dX12_isSo_50 : decode cX12_isSo 50 = .ok (.aload_n 0, 1) := dc0 dO_42 (by decide +kernel)
theorem dX12_isSo_51 : decode cX12_isSo 51 = .ok (.getfield 329, 3) := dcU2 dO_180 (by decide +kernel)
theorem dX12_isSo_54 : decode cX12_isSo 54 = .ok (.iload_n 2, 1) := dc0 dO_28 (by decide +kernel)
theorem dX12_isSo_55 : decode cX12_isSo 55 = .ok (.iaload, 1) := dc0 dO_46 (by decide +kernel)
theorem dX12_isSo_56 : decode cX12_isSo 56 = .ok (.aload_n 0, 1) := dc0 dO_42 (by decide +kernel)
theorem dX12_isSo_57 : decode cX12_isSo 57 = .ok (.getfield 336, 3) := dcU2 dO_180 (by decide +kernel)
theorem dX12_isSo_60 : decode cX12_isSo 60 = .ok (.iload_n 2, 1) := dc0 dO_28 (by decide +kernel)
theorem dX12_isSo_61 : decode cX12_isSo 61 = .ok (.iaload, 1) := dc0 dO_46 (by decide +kernel)
theorem dX12_isSo_62 : decode cX12_isSo 62 = .ok (.aload_n 0, 1) := dc0 dO_42 (by decide +kernel)
theorem dX12_isSo_63 : decode cX12_isSo 63 = .ok (.getfield 22, 3) := dcU2 dO_180 (by decide +kernel)
theorem dX12_isSo_66 : decode cX12_isSo 66 = .ok (.iload 6, 2) := dcU1 dO_21 (by decide +kernel)
theorem dX12_isSo_68 : decode cX12_isSo 68 = .ok (.iaload, 1) := dc0 dO_46 (by decide +kernel)
theorem dX12_isSo_69 : decode cX12_isSo 69 = .ok (.invokestatic 142, 3) := dcU2 dO_184 (by decide +kernel)
theorem dX12_isSo_72 : decode cX12_isSo 72 = .ok (.ifCond .eq 23, 3) := dcS2 dO_153 (by decide +kernel)
theorem dX12_isSo_75 : decode cX12_isSo 75 = .ok (.aload_n 0, 1) := dc0 dO_42 (by decide +kernel)
theorem dX12_isSo_76 : decode cX12_isSo 76 = .ok (.getfield 26, 3) := dcU2 dO_180 (by decide +kernel)
theorem dX12_isSo_79 : decode cX12_isSo 79 = .ok (.iload 6, 2) := dcU1 dO_21 (by decide +kernel)
theorem dX12_isSo_81 : decode cX12_isSo 81 = .ok (.iaload, 1) := dc0 dO_46 (by decide +kernel)
theorem dX12_isSo_82 : decode cX12_isSo 82 = .ok (.aload_n 0, 1) := dc0 dO_42 (by decide +kernel)
theorem dX12_isSo_83 : decode cX12_isSo 83 = .ok (.getfield 339, 3) := dcU2 dO_180 (by decide +kernel)
theorem dX12_isSo_86 : decode cX12_isSo 86 = .ok (.iload_n 2, 1) := dc0 dO_28 (by decide +kernel)
theorem dX12_isSo_87 : decode cX12_isSo 87 = .ok (.iaload, 1) := dc0 dO_46 (by decide +kernel)
theorem dX12_isSo_88 : decode cX12_isSo 88 = .ok (.if_icmp .gt 7, 3) := dcS2 dO_163 (by decide +kernel)
theorem dX12_isSo_91 : decode cX12_isSo 91 = .ok (.iconst 1, 1) := dc0 dO_4 (by decide +kernel)
theorem dX12_isSo_92 : decode cX12_isSo 92 = .ok (.goto 4, 3) := dcS2 dO_167 (by decide +kernel)
theorem dX12_isSo_95 : decode cX12_isSo 95 = .ok (.iconst 0, 1) := dc0 dO_3 (by decide +kernel)
theorem dX12_isSo_96 : decode cX12_isSo 96 = .ok (.istore 7, 2) := dcU1 dO_54 (by decide +kernel)
theorem dX12_isSo_98 : decode cX12_isSo 98 = .ok (.goto 364, 3) := dcS2 dO_167 (by decide +kernel)
theorem dX12_isSo_101 : decode cX12_isSo 101 = .ok (.aload_n 0, 1) := dc0 dO_42 (by decide +kernel)
theorem dX12_isSo_102 : decode cX12_isSo 102 = .ok (.getfield 323, 3) := dcU2 dO_180 (by decide +kernel)
theorem dX12_isSo_105 : decode cX12_isSo 105 = .ok (.iload_n 2, 1) := dc0 dO_28 (by decide +kernel)
theorem dX12_isSo_106 : decode cX12_isSo 106 = .ok (.iaload, 1) := dc0 dO_46 (by decide +kernel)
theorem dX12_isSo_107 : decode cX12_isSo 107 = .ok (.bipush 6, 2) := dcS1 dO_16 (by decide +kernel)
theorem dX12_isSo_109 : decode cX12_isSo 109 = .ok (.if_icmp .ne 15, 3) := dcS2 dO_160 (by decide +kernel)
theorem dX12_isSo_112 : decode cX12_isSo 112 = .ok (.aload_n 0, 1) := dc0 dO_42 (by decide +kernel)
theorem dX12_isSo_113 : decode cX12_isSo 113 = .ok (.iload_n 1, 1) := dc0 dO_27 (by decide +kernel)
theorem dX12_isSo_114 : decode cX12_isSo 114 = .ok (.iload_n 2, 1) := dc0 dO_28 (by decide +kernel)
theorem dX12_isSo_115 : decode cX12_isSo 115 = .ok (.iload_n 3, 1) := dc0 dO_29 (by decide +kernel)
theorem dX12_isSo_116 : decode cX12_isSo 116 = .ok (.invokevirtual 379, 3) := dcU2 dO_182 (by decide +kernel)
theorem dX12_isSo_119 : decode cX12_isSo 119 = .ok (.istore 7, 2) := dcU1 dO_54 (by decide +kernel)
theorem dX12_isSo_121 : decode cX12_isSo 121 = .ok (.goto 341, 3) := dcS2 dO_167 (by decide +kernel)
theorem dX12_isSo_124 : decode cX12_isSo 124 = .ok (.aload_n 0, 1) := dc0 dO_42 (by decide +kernel)
theorem dX12_isSo_125 : decode cX12_isSo 125 = .ok (.getfield 323, 3) := dcU2 dO_180 (by decide +kernel)
theorem sfx_cX12_isSo_128 : (cX12_isSo.data.toList.drop 128).take 67 = [28, 46, 16, 8, 160, 0, 19, 42, 29, 42, 180, 1, 73, 28, 46, 182, 0, 154, 54, 7, 167, 1, 58, 42, 180, 1, 67, 28, 46, 16, 9, 160, 0, 24, 21, 5, 42, 180, 1, 73, 28, 46, 160, 0, 7, 4, 167, 0, 4, 3, 54, 7, 167, 1, 26, 42, 180, 1, 67, 28, 46, 16, 10, 160, 0, 30, 42] := by decide +kernel
theorem dX12_isSo_128 : decode cX12_isSo 128 = .ok (.iload_n 2, 1) := dc0 dO_28 (rdB.ch sfx_cX12_isSo_128 0 rfl (by decide +kernel))
theorem dX12_isSo_129 : decode cX12_isSo 129 = .ok (.iaload, 1) := dc0 dO_46 (rdB.ch sfx_cX12_isSo_128 1 rfl (by decide +kernel))
theorem dX12_isSo_130 : decode cX12_isSo 130 = .ok (.bipush 8, 2) := dcS1 dO_16 (rdS1.ch sfx_cX12_isSo_128 2 rfl (by decide +kernel))
theorem dX12_isSo_132 : decode cX12_isSo 132 = .ok (.if_icmp .ne 19, 3) := dcS2 dO_160 (rdS2.ch sfx_cX12_isSo_128 4 rfl (by decide +kernel))
theorem dX12_isSo_135 : decode cX12_isSo 135 = .ok (.aload_n 0, 1) := dc0 dO_42 (rdB.ch sfx_cX12_isSo_128 7 rfl (by decide +kernel))
theorem dX12_isSo_136 : decode cX12_isSo 136 = .ok (.iload_n 3, 1) := dc0 dO_29 (rdB.ch sfx_cX12_isSo_128 8 rfl (by decide +kernel))
theorem dX12_isSo_137 : decode cX12_isSo 137 = .ok (.aload_n 0, 1) := dc0 dO_42 (rdB.ch sfx_cX12_isSo_128 9 rfl (by decide +kernel))
theorem dX12_isSo_138 : decode cX12_isSo 138 = .ok (.getfield 329, 3) := dcU2 dO_180 (rdU2.ch sfx_cX12_isSo_128 10 rfl (by decide +kernel))
theorem dX12_isSo_141 : decode cX12_isSo 141 = .ok (.iload_n 2, 1) := dc0 dO_28 (rdB.ch sfx_cX12_isSo_128 13 rfl (by decide +kernel))
theorem dX12_isSo_142 : decode cX12_isSo 142 = .ok (.iaload, 1) := dc0 dO_46 (rdB.ch sfx_cX12_isSo_128 14 rfl (by decide +kernel))
theorem dX12_isSo_143 : decode cX12_isSo 143 = .ok (.invokevirtual 154, 3) := dcU2 dO_182 (rdU2.ch sfx_cX12_isSo_128 15 rfl (by decide +kernel))
theorem dX12_isSo_146 : decode cX12_isSo 146 = .ok (.istore 7, 2) := dcU1 dO_54 (rdU1.ch sfx_cX12_isSo_128 18 rfl (by decide +kernel))
theorem dX12_isSo_148 : decode cX12_isSo 148 = .ok (.goto 314, 3) := dcS2 dO_167 (rdS2.ch sfx_cX12_isSo_128 20 rfl (by decide +kernel))
theorem dX12_isSo_151 : decode cX12_isSo 151 = .ok (.aload_n 0, 1) := dc0 dO_42 (rdB.ch sfx_cX12_isSo_128 23 rfl (by decide +kernel))
theorem dX12_isSo_152 : decode cX12_isSo 152 = .ok (.getfield 323, 3) := dcU2 dO_180 (rdU2.ch sfx_cX12_isSo_128 24 rfl (by decide +kernel))
theorem dX12_isSo_155 : decode cX12_isSo 155 = .ok (.iload_n 2, 1) := dc0 dO_28 (rdB.ch sfx_cX12_isSo_128 27 rfl (by decide +kernel))
theorem dX12_isSo_156 : decode cX12_isSo 156 = .ok (.iaload, 1) := dc0 dO_46 (rdB.ch sfx_cX12_isSo_128 28 rfl (by decide +kernel))
theorem dX12_isSo_157 : decode cX12_isSo 157 = .ok (.bipush 9, 2) := dcS1 dO_16 (rdS1.ch sfx_cX12_isSo_128 29 rfl (by decide +kernel))
theorem dX12_isSo_159 : decode cX12_isSo 159 = .ok (.if_icmp .ne 24, 3) := dcS2 dO_160 (rdS2.ch sfx_cX12_isSo_128 31 rfl (by decide +kernel))
theorem dX12_isSo_162 : decode cX12_isSo 162 = .ok (.iload 5, 2) := dcU1 dO_21 (rdU1.ch sfx_cX12_isSo_128 34 rfl (by decide +kernel))
theorem dX12_isSo_164 : decode cX12_isSo 164 = .ok (.aload_n 0, 1) := dc0 dO_42 (rdB.ch sfx_cX12_isSo_128 36 rfl (by decide +kernel))
theorem dX12_isSo_165 : decode cX12_isSo 165 = .ok (.getfield 329, 3) := dcU2 dO_180 (rdU2.ch sfx_cX12_isSo_128 37 rfl (by decide +kernel))
theorem dX12_isSo_168 : decode cX12_isSo 168 = .ok (.iload_n 2, 1) := dc0 dO_28 (rdB.ch sfx_cX12_isSo_128 40 rfl (by decide +kernel))
theorem dX12_isSo_169 : decode cX12_isSo 169 = .ok (.iaload, 1) := dc0 dO_46 (rdB.ch sfx_cX12_isSo_128 41 rfl (by decide +kernel))
theorem dX12_isSo_170 : decode cX12_isSo 170 = .ok (.if_icmp .ne 7, 3) := dcS2 dO_160 (rdS2.ch sfx_cX12_isSo_128 42 rfl (by decide +kernel))
theorem dX12_isSo_173 : decode cX12_isSo 173 = .ok (.iconst 1, 1) := dc0 dO_4 (rdB.ch sfx_cX12_isSo_128 45 rfl (by decide +kernel))
theorem dX12_isSo_174 : decode cX12_isSo 174 = .ok (.goto 4, 3) := dcS2 dO_167 (rdS2.ch sfx_cX12_isSo_128 46 rfl (by decide +kernel))
theorem dX12_isSo_177 : decode cX12_isSo 177 = .ok (.iconst 0, 1) := dc0 dO_3 (rdB.ch sfx_cX12_isSo_128 49 rfl (by decide +kernel))
theorem dX12_isSo_178 : decode cX12_isSo 178 = .ok (.istore 7, 2) := dcU1 dO_54 (rdU1.ch sfx_cX12_isSo_128 50 rfl (by decide +kernel))
theorem dX12_isSo_180 : decode cX12_isSo 180 = .ok (.goto 282, 3) := dcS2 dO_167 (rdS2.ch sfx_cX12_isSo_128 52 rfl (by decide +kernel))
theorem dX12_isSo_183 : decode cX12_isSo 183 = .ok (.aload_n 0, 1) := dc0 dO_42 (rdB.ch sfx_cX12_isSo_128 55 rfl (by decide +kernel))
theorem dX12_isSo_184 : decode cX12_isSo 184 = .ok (.getfield 323, 3) := dcU2 dO_180 (rdU2.ch sfx_cX12_isSo_128 56 rfl (by decide +kernel))
theorem dX12_isSo_187 : decode cX12_isSo 187 = .ok (.iload_n 2, 1) := dc0 dO_28 (rdB.ch sfx_cX12_isSo_128 59 rfl (by decide +kernel))
theorem dX12_isSo_188 : decode cX12_isSo 188 = .ok (.iaload, 1) := dc0 dO_46 (rdB.ch sfx_cX12_isSo_128 60 rfl (by decide +kernel))
theorem dX12_isSo_189 : decode cX12_isSo 189 = .ok (.bipush 10, 2) := dcS1 dO_16 (rdS1.ch sfx_cX12_isSo_128 61 rfl (by decide +kernel))
theorem dX12_isSo_191 : decode cX12_isSo 191 = .ok (.if_icmp .ne 30, 3) := dcS2 dO_160 (rdS2.ch sfx_cX12_isSo_128 63 rfl (by decide +kernel))
theorem sfx_cX12_isSo_192 : (cX12_isSo.data.toList.drop 192).take 67 = [0, 30, 42, 21, 4, 21, 5, 182, 1, 126, 42, 180, 1, 73, 28, 46, 160, 0, 7, 4, 167, 0, 4, 3, 54, 7, 167, 0, 244, 42, 180, 1, 67, 28, 46, 16, 11, 160, 0, 26, 42, 21, 8, 42, 180, 1, 80, 28, 46, 42, 180, 1, 73, 28, 46, 182, 1, 129, 54, 7, 167, 0, 210, 42, 180, 1, 67] := by decide +kernel
theorem dX12_isSo_194 : decode cX12_isSo 194 = .ok (.aload_n 0, 1) := dc0 dO_42 (rdB.ch sfx_cX12_isSo_192 2 rfl (by decide +kernel))
theorem dX12_isSo_195 : decode cX12_isSo 195 = .ok (.iload 4, 2) := dcU1 dO_21 (rdU1.ch sfx_cX12_isSo_192 3 rfl (by decide +kernel))
theorem dX12_isSo_197 : decode cX12_isSo 197 = .ok (.iload 5, 2) := dcU1 dO_21 (rdU1.ch sfx_cX12_isSo_192 5 rfl (by decide +kernel))
theorem dX12_isSo_199 : decode cX12_isSo 199 = .ok (.invokevirtual 382, 3) := dcU2 dO_182 (rdU2.ch sfx_cX12_isSo_192 7 rfl (by decide +kernel))
theorem dX12_isSo_202 : decode cX12_isSo 202 = .ok (.aload_n 0, 1) := dc0 dO_42 (rdB.ch sfx_cX12_isSo_192 10 rfl (by decide +kernel))
theorem dX12_isSo_203 : decode cX12_isSo 203 = .ok (.getfield 329, 3) := dcU2 dO_180 (rdU2.ch sfx_cX12_isSo_192 11 rfl (by decide +kernel))
theorem dX12_isSo_206 : decode cX12_isSo 206 = .ok (.iload_n 2, 1) := dc0 dO_28 (rdB.ch sfx_cX12_isSo_192 14 rfl (by decide +kernel))
theorem dX12_isSo_207 : decode cX12_isSo 207 = .ok (.iaload, 1) := dc0 dO_46 (rdB.ch sfx_cX12_isSo_192 15 rfl (by decide +kernel))
theorem dX12_isSo_208 : decode cX12_isSo 208 = .ok (.if_icmp .ne 7, 3) := dcS2 dO_160 (rdS2.ch sfx_cX12_isSo_192 16 rfl (by decide +kernel))
theorem dX12_isSo_211 : decode cX12_isSo 211 = .ok (.iconst 1, 1) := dc0 dO_4 (rdB.ch sfx_cX12_isSo_192 19 rfl (by decide +kernel))
theorem dX12_isSo_212 : decode cX12_isSo 212 = .ok (.goto 4, 3) := dcS2 dO_167 (rdS2.ch sfx_cX12_isSo_192 20 rfl (by decide +kernel))
theorem dX12_isSo_215 : decode cX12_isSo 215 = .ok (.iconst 0, 1) := dc0 dO_3 (rdB.ch sfx_cX12_isSo_192 23 rfl (by decide +kernel))
theorem dX12_isSo_216 : decode cX12_isSo 216 = .ok (.istore 7, 2) := dcU1 dO_54 (rdU1.ch sfx_cX12_isSo_192 24 rfl (by decide +kernel))
theorem dX12_isSo_218 : decode cX12_isSo 218 = .ok (.goto 244, 3) := dcS2 dO_167 (rdS2.ch sfx_cX12_isSo_192 26 rfl (by decide +kernel))
theorem dX12_isSo_221 : decode cX12_isSo 221 = .ok (.aload_n 0, 1) := dc0 dO_42 (rdB.ch sfx_cX12_isSo_192 29 rfl (by decide +kernel))
theorem dX12_isSo_222 : decode cX12_isSo 222 = .ok (.getfield 323, 3) := dcU2 dO_180 (rdU2.ch sfx_cX12_isSo_192 30 rfl (by decide +kernel))
theorem dX12_isSo_225 : decode cX12_isSo 225 = .ok (.iload_n 2, 1) := dc0 dO_28 (rdB.ch sfx_cX12_isSo_192 33 rfl (by decide +kernel))
theorem dX12_isSo_226 : decode cX12_isSo 226 = .ok (.iaload, 1) := dc0 dO_46 (rdB.ch sfx_cX12_isSo_192 34 rfl (by decide +kernel))
theorem dX12_isSo_227 : decode cX12_isSo 227 = .ok (.bipush 11, 2) := dcS1 dO_16 (rdS1.ch sfx_cX12_isSo_192 35 rfl (by decide +kernel))
theorem dX12_isSo_229 : decode cX12_isSo 229 = .ok (.if_icmp .ne 26, 3) := dcS2 dO_160 (rdS2.ch sfx_cX12_isSo_192 37 rfl (by decide +kernel))
theorem dX12_isSo_232 : decode cX12_isSo 232 = .ok (.aload_n 0, 1) := dc0 dO_42 (rdB.ch sfx_cX12_isSo_192 40 rfl (by decide +kernel))
theorem dX12_isSo_233 : decode cX12_isSo 233 = .ok (.iload 8, 2) := dcU1 dO_21 (rdU1.ch sfx_cX12_isSo_192 41 rfl (by decide +kernel))
theorem dX12_isSo_235 : decode cX12_isSo 235 = .ok (.aload_n 0, 1) := dc0 dO_42 (rdB.ch sfx_cX12_isSo_192 43 rfl (by decide +kernel))
theorem dX12_isSo_236 : decode cX12_isSo 236 = .ok (.getfield 336, 3) := dcU2 dO_180 (rdU2.ch sfx_cX12_isSo_192 44 rfl (by decide +kernel))
theorem dX12_isSo_239 : decode cX12_isSo 239 = .ok (.iload_n 2, 1) := dc0 dO_28 (rdB.ch sfx_cX12_isSo_192 47 rfl (by decide +kernel))
theorem dX12_isSo_240 : decode cX12_isSo 240 = .ok (.iaload, 1) := dc0 dO_46 (rdB.ch sfx_cX12_isSo_192 48 rfl (by decide +kernel))
theorem dX12_isSo_241 : decode cX12_isSo 241 = .ok (.aload_n 0, 1) := dc0 dO_42 (rdB.ch sfx_cX12_isSo_192 49 rfl (by decide +kernel))
theorem dX12_isSo_242 : decode cX12_isSo 242 = .ok (.getfield 329, 3) := dcU2 dO_180 (rdU2.ch sfx_cX12_isSo_192 50 rfl (by decide +kernel))
theorem dX12_isSo_245 : decode cX12_isSo 245 = .ok (.iload_n 2, 1) := dc0 dO_28 (rdB.ch sfx_cX12_isSo_192 53 rfl (by decide +kernel))
theorem dX12_isSo_246 : decode cX12_isSo 246 = .ok (.iaload, 1) := dc0 dO_46 (rdB.ch sfx_cX12_isSo_192 54 rfl (by decide +kernel))
theorem dX12_isSo_247 : decode cX12_isSo 247 = .ok (.invokevirtual 385, 3) := dcU2 dO_182 (rdU2.ch sfx_cX12_isSo_192 55 rfl (by decide +kernel))
theorem dX12_isSo_250 : decode cX12_isSo 250 = .ok (.istore 7, 2) := dcU1 dO_54 (rdU1.ch sfx_cX12_isSo_192 58 rfl (by decide +kernel))
theorem dX12_isSo_252 : decode cX12_isSo 252 = .ok (.goto 210, 3) := dcS2 dO_167 (rdS2.ch sfx_cX12_isSo_192 60 rfl (by decide +kernel))
theorem dX12_isSo_255 : decode cX12_isSo 255 = .ok (.aload_n 0, 1) := dc0 dO_42 (rdB.ch sfx_cX12_isSo_192 63 rfl (by decide +kernel))
theorem sfx_cX12_isSo_256 : (cX12_isSo.data.toList.drop 256).take 67 = [180, 1, 67, 28, 46, 16, 12, 160, 0, 35, 42, 42, 180, 0, 148, 16, 40, 29, 104, 4, 96, 46, 42, 180, 1, 80, 28, 46, 42, 180, 1, 73, 28, 46, 182, 1, 129, 54, 7, 167, 0, 167, 42, 180, 1, 67, 28, 46, 16, 13, 160, 0, 35, 42, 42, 180, 0, 148, 16, 40, 29, 104, 6, 96, 46, 42, 180] := by decide +kernel
theorem dX12_isSo_256 : decode cX12_isSo 256 = .ok (.getfield 323, 3) := dcU2 dO_180 (rdU2.ch sfx_cX12_isSo_256 0 rfl (by decide +kernel))
theorem dX12_isSo_259 : decode cX12_isSo 259 = .ok (.iload_n 2, 1) := dc0 dO_28 (rdB.ch sfx_cX12_isSo_256 3 rfl (by decide +kernel))
theorem dX12_isSo_260 : decode cX12_isSo 260 = .ok (.iaload, 1) := dc0 dO_46 (rdB.ch sfx_cX12_isSo_256 4 rfl (by decide +kernel))
theorem dX12_isSo_261 : decode cX12_isSo 261 = .ok (.bipush 12, 2) := dcS1 dO_16 (rdS1.ch sfx_cX12_isSo_256 5 rfl (by decide +kernel))
theorem dX12_isSo_263 : decode cX12_isSo 263 = .ok (.if_icmp .ne 35, 3) := dcS2 dO_160 (rdS2.ch sfx_cX12_isSo_256 7 rfl (by decide +kernel))
theorem dX12_isSo_266 : decode cX12_isSo 266 = .ok (.aload_n 0, 1) := dc0 dO_42 (rdB.ch sfx_cX12_isSo_256 10 rfl (by decide +kernel))
theorem dX12_isSo_267 : decode cX12_isSo 267 = .ok (.aload_n 0, 1) := dc0 dO_42 (rdB.ch sfx_cX12_isSo_256 11 rfl (by decide +kernel))
theorem dX12_isSo_268 : decode cX12_isSo 268 = .ok (.getfield 148, 3) := dcU2 dO_180 (rdU2.ch sfx_cX12_isSo_256 12 rfl (by decide +kernel))
theorem dX12_isSo_271 : decode cX12_isSo 271 = .ok (.bipush 40, 2) := dcS1 dO_16 (rdS1.ch sfx_cX12_isSo_256 15 rfl (by decide +kernel))
theorem dX12_isSo_273 : decode cX12_isSo 273 = .ok (.iload_n 3, 1) := dc0 dO_29 (rdB.ch sfx_cX12_isSo_256 17 rfl (by decide +kernel))
theorem dX12_isSo_274 : decode cX12_isSo 274 = .ok (.imul, 1) := dc0 dO_104 (rdB.ch sfx_cX12_isSo_256 18 rfl (by decide +kernel))
theorem dX12_isSo_275 : decode cX12_isSo 275 = .ok (.iconst 1, 1) := dc0 dO_4 (rdB.ch sfx_cX12_isSo_256 19 rfl (by decide +kernel))
theorem dX12_isSo_276 : decode cX12_isSo 276 = .ok (.iadd, 1) := dc0 dO_96 (rdB.ch sfx_cX12_isSo_256 20 rfl (by decide +kernel))
theorem dX12_isSo_277 : decode cX12_isSo 277 = .ok (.iaload, 1) := dc0 dO_46 (rdB.ch sfx_cX12_isSo_256 21 rfl (by decide +kernel))
theorem dX12_isSo_278 : decode cX12_isSo 278 = .ok (.aload_n 0, 1) := dc0 dO_42 (rdB.ch sfx_cX12_isSo_256 22 rfl (by decide +kernel))
theorem dX12_isSo_279 : decode cX12_isSo 279 = .ok (.getfield 336, 3) := dcU2 dO_180 (rdU2.ch sfx_cX12_isSo_256 23 rfl (by decide +kernel))
theorem dX12_isSo_282 : decode cX12_isSo 282 = .ok (.iload_n 2, 1) := dc0 dO_28 (rdB.ch sfx_cX12_isSo_256 26 rfl (by decide +kernel))
theorem dX12_isSo_283 : decode cX12_isSo 283 = .ok (.iaload, 1) := dc0 dO_46 (rdB.ch sfx_cX12_isSo_256 27 rfl (by decide +kernel))
theorem dX12_isSo_284 : decode cX12_isSo 284 = .ok (.aload_n 0, 1) := dc0 dO_42 (rdB.ch sfx_cX12_isSo_256 28 rfl (by decide +kernel))
theorem dX12_isSo_285 : decode cX12_isSo 285 = .ok (.getfield 329, 3) := dcU2 dO_180 (rdU2.ch sfx_cX12_isSo_256 29 rfl (by decide +kernel))
theorem dX12_isSo_288 : decode cX12_isSo 288 = .ok (.iload_n 2, 1) := dc0 dO_28 (rdB.ch sfx_cX12_isSo_256 32 rfl (by decide +kernel))
theorem dX12_isSo_289 : decode cX12_isSo 289 = .ok (.iaload, 1) := dc0 dO_46 (rdB.ch sfx_cX12_isSo_256 33 rfl (by decide +kernel))
theorem dX12_isSo_290 : decode cX12_isSo 290 = .ok (.invokevirtual 385, 3) := dcU2 dO_182 (rdU2.ch sfx_cX12_isSo_256 34 rfl (by decide +kernel))
theorem dX12_isSo_293 : decode cX12_isSo 293 = .ok (.istore 7, 2) := dcU1 dO_54 (rdU1.ch sfx_cX12_isSo_256 37 rfl (by decide +kernel))
theorem dX12_isSo_295 : decode cX12_isSo 295 = .ok (.goto 167, 3) := dcS2 dO_167 (rdS2.ch sfx_cX12_isSo_256 39 rfl (by decide +kernel))
theorem dX12_isSo_298 : decode cX12_isSo 298 = .ok (.aload_n 0, 1) := dc0 dO_42 (rdB.ch sfx_cX12_isSo_256 42 rfl (by decide +kernel))
theorem dX12_isSo_299 : decode cX12_isSo 299 = .ok (.getfield 323, 3) := dcU2 dO_180 (rdU2.ch sfx_cX12_isSo_256 43 rfl (by decide +kernel))
theorem dX12_isSo_302 : decode cX12_isSo 302 = .ok (.iload_n 2, 1) := dc0 dO_28 (rdB.ch sfx_cX12_isSo_256 46 rfl (by decide +kernel))
theorem dX12_isSo_303 : decode cX12_isSo 303 = .ok (.iaload, 1) := dc0 dO_46 (rdB.ch sfx_cX12_isSo_256 47 rfl (by decide +kernel))
theorem dX12_isSo_304 : decode cX12_isSo 304 = .ok (.bipush 13, 2) := dcS1 dO_16 (rdS1.ch sfx_cX12_isSo_256 48 rfl (by decide +kernel))
theorem dX12_isSo_306 : decode cX12_isSo 306 = .ok (.if_icmp .ne 35, 3) := dcS2 dO_160 (rdS2.ch sfx_cX12_isSo_256 50 rfl (by decide +kernel))
theorem dX12_isSo_309 : decode cX12_isSo 309 = .ok (.aload_n 0, 1) := dc0 dO_42 (rdB.ch sfx_cX12_isSo_256 53 rfl (by decide +kernel))
theorem dX12_isSo_310 : decode cX12_isSo 310 = .ok (.aload_n 0, 1) := dc0 dO_42 (rdB.ch sfx_cX12_isSo_256 54 rfl (by decide +kernel))
theorem dX12_isSo_311 : decode cX12_isSo 311 = .ok (.getfield 148, 3) := dcU2 dO_180 (rdU2.ch sfx_cX12_isSo_256 55 rfl (by decide +kernel))
theorem dX12_isSo_314 : decode cX12_isSo 314 = .ok (.bipush 40, 2) := dcS1 dO_16 (rdS1.ch sfx_cX12_isSo_256 58 rfl (by decide +kernel))
theorem dX12_isSo_316 : decode cX12_isSo 316 = .ok (.iload_n 3, 1) := dc0 dO_29 (rdB.ch sfx_cX12_isSo_256 60 rfl (by decide +kernel))
theorem dX12_isSo_317 : decode cX12_isSo 317 = .ok (.imul, 1) := dc0 dO_104 (rdB.ch sfx_cX12_isSo_256 61 rfl (by decide +kernel))
theorem dX12_isSo_318 : decode cX12_isSo 318 = .ok (.iconst 3, 1) := dc0 dO_6 (rdB.ch sfx_cX12_isSo_256 62 rfl (by decide +kernel))
theorem dX12_isSo_319 : decode cX12_isSo 319 = .ok (.iadd, 1) := dc0 dO_96 (rdB.ch sfx_cX12_isSo_256 63 rfl (by decide +kernel))
theorem sfx_cX12_isSo_320 : (cX12_isSo.data.toList.drop 320).take 67 = [46, 42, 180, 1, 80, 28, 46, 42, 180, 1, 73, 28, 46, 182, 1, 129, 54, 7, 167, 0, 124, 42, 180, 1, 67, 28, 46, 16, 14, 160, 0, 33, 42, 180, 0, 148, 16, 40, 29, 104, 5, 96, 46, 42, 180, 1, 73, 28, 46, 160, 0, 7, 4, 167, 0, 4, 3, 54, 7, 167, 0, 83, 42, 21, 6, 21, 8] := by decide +kernel
theorem dX12_isSo_320 : decode cX12_isSo 320 = .ok (.iaload, 1) := dc0 dO_46 (rdB.ch sfx_cX12_isSo_320 0 rfl (by decide +kernel))
theorem dX12_isSo_321 : decode cX12_isSo 321 = .ok (.aload_n 0, 1) := dc0 dO_42 (rdB.ch sfx_cX12_isSo_320 1 rfl (by decide +kernel))
theorem dX12_isSo_322 : decode cX12_isSo 322 = .ok (.getfield 336, 3) := dcU2 dO_180 (rdU2.ch sfx_cX12_isSo_320 2 rfl (by decide +kernel))
theorem dX12_isSo_325 : decode cX12_isSo 325 = .ok (.iload_n 2, 1) := dc0 dO_28 (rdB.ch sfx_cX12_isSo_320 5 rfl (by decide +kernel))
theorem dX12_isSo_326 : decode cX12_isSo 326 = .ok (.iaload, 1) := dc0 dO_46 (rdB.ch sfx_cX12_isSo_320 6 rfl (by decide +kernel))
theorem dX12_isSo_327 : decode cX12_isSo 327 = .ok (.aload_n 0, 1) := dc0 dO_42 (rdB.ch sfx_cX12_isSo_320 7 rfl (by decide +kernel))
theorem dX12_isSo_328 : decode cX12_isSo 328 = .ok (.getfield 329, 3) := dcU2 dO_180 (rdU2.ch sfx_cX12_isSo_320 8 rfl (by decide +kernel))
theorem dX12_isSo_331 : decode cX12_isSo 331 = .ok (.iload_n 2, 1) := dc0 dO_28 (rdB.ch sfx_cX12_isSo_320 11 rfl (by decide +kernel))
theorem dX12_isSo_332 : decode cX12_isSo 332 = .ok (.iaload, 1) := dc0 dO_46 (rdB.ch sfx_cX12_isSo_320 12 rfl (by decide +kernel))
theorem dX12_isSo_333 : decode cX12_isSo 333 = .ok (.invokevirtual 385, 3) := dcU2 dO_182 (rdU2.ch sfx_cX12_isSo_320 13 rfl (by decide +kernel))
theorem dX12_isSo_336 : decode cX12_isSo 336 = .ok (.istore 7, 2) := dcU1 dO_54 (rdU1.ch sfx_cX12_isSo_320 16 rfl (by decide +kernel))
theorem dX12_isSo_338 : decode cX12_isSo 338 = .ok (.goto 124, 3) := dcS2 dO_167 (rdS2.ch sfx_cX12_isSo_320 18 rfl (by decide +kernel))
theorem dX12_isSo_341 : decode cX12_isSo 341 = .ok (.aload_n 0, 1) := dc0 dO_42 (rdB.ch sfx_cX12_isSo_320 21 rfl (by decide +kernel))
theorem dX12_isSo_342 : decode cX12_isSo 342 = .ok (.getfield 323, 3) := dcU2 dO_180 (rdU2.ch sfx_cX12_isSo_320 22 rfl (by decide +kernel))
theorem dX12_isSo_345 : decode cX12_isSo 345 = .ok (.iload_n 2, 1) := dc0 dO_28 (rdB.ch sfx_cX12_isSo_320 25 rfl (by decide +kernel))
theorem dX12_isSo_346 : decode cX12_isSo 346 = .ok (.iaload, 1) := dc0 dO_46 (rdB.ch sfx_cX12_isSo_320 26 rfl (by decide +kernel))
theorem dX12_isSo_347 : decode cX12_isSo 347 = .ok (.bipush 14, 2) := dcS1 dO_16 (rdS1.ch sfx_cX12_isSo_320 27 rfl (by decide +kernel))
theorem dX12_isSo_349 : decode cX12_isSo 349 = .ok (.if_icmp .ne 33, 3) := dcS2 dO_160 (rdS2.ch sfx_cX12_isSo_320 29 rfl (by decide +kernel))
theorem dX12_isSo_352 : decode cX12_isSo 352 = .ok (.aload_n 0, 1) := dc0 dO_42 (rdB.ch sfx_cX12_isSo_320 32 rfl (by decide +kernel))
theorem dX12_isSo_353 : decode cX12_isSo 353 = .ok (.getfield 148, 3) := dcU2 dO_180 (rdU2.ch sfx_cX12_isSo_320 33 rfl (by decide +kernel))
theorem dX12_isSo_356 : decode cX12_isSo 356 = .ok (.bipush 40, 2) := dcS1 dO_16 (rdS1.ch sfx_cX12_isSo_320 36 rfl (by decide +kernel))
theorem dX12_isSo_358 : decode cX12_isSo 358 = .ok (.iload_n 3, 1) := dc0 dO_29 (rdB.ch sfx_cX12_isSo_320 38 rfl (by decide +kernel))
theorem dX12_isSo_359 : decode cX12_isSo 359 = .ok (.imul, 1) := dc0 dO_104 (rdB.ch sfx_cX12_isSo_320 39 rfl (by decide +kernel))
theorem dX12_isSo_360 : decode cX12_isSo 360 = .ok (.iconst 2, 1) := dc0 dO_5 (rdB.ch sfx_cX12_isSo_320 40 rfl (by decide +kernel))
theorem dX12_isSo_361 : decode cX12_isSo 361 = .ok (.iadd, 1) := dc0 dO_96 (rdB.ch sfx_cX12_isSo_320 41 rfl (by decide +kernel))
theorem dX12_isSo_362 : decode cX12_isSo 362 = .ok (.iaload, 1) := dc0 dO_46 (rdB.ch sfx_cX12_isSo_320 42 rfl (by decide +kernel))
theorem dX12_isSo_363 : decode cX12_isSo 363 = .ok (.aload_n 0, 1) := dc0 dO_42 (rdB.ch sfx_cX12_isSo_320 43 rfl (by decide +kernel))
theorem dX12_isSo_364 : decode cX12_isSo 364 = .ok (.getfield 329, 3) := dcU2 dO_180 (rdU2.ch sfx_cX12_isSo_320 44 rfl (by decide +kernel))
theorem dX12_isSo_367 : decode cX12_isSo 367 = .ok (.iload_n 2, 1) := dc0 dO_28 (rdB.ch sfx_cX12_isSo_320 47 rfl (by decide +kernel))
theorem dX12_isSo_368 : decode cX12_isSo 368 = .ok (.iaload, 1) := dc0 dO_46 (rdB.ch sfx_cX12_isSo_320 48 rfl (by decide +kernel))
theorem dX12_isSo_369 : decode cX12_isSo 369 = .ok (.if_icmp .ne 7, 3) := dcS2 dO_160 (rdS2.ch sfx_cX12_isSo_320 49 rfl (by decide +kernel))
theorem dX12_isSo_372 : decode cX12_isSo 372 = .ok (.iconst 1, 1) := dc0 dO_4 (rdB.ch sfx_cX12_isSo_320 52 rfl (by decide +kernel))
theorem dX12_isSo_373 : decode cX12_isSo 373 = .ok (.goto 4, 3) := dcS2 dO_167 (rdS2.ch sfx_cX12_isSo_320 53 rfl (by decide +kernel))
theorem dX12_isSo_376 : decode cX12_isSo 376 = .ok (.iconst 0, 1) := dc0 dO_3 (rdB.ch sfx_cX12_isSo_320 56 rfl (by decide +kernel))
theorem dX12_isSo_377 : decode cX12_isSo 377 = .ok (.istore 7, 2) := dcU1 dO_54 (rdU1.ch sfx_cX12_isSo_320 57 rfl (by decide +kernel))
theorem dX12_isSo_379 : decode cX12_isSo 379 = .ok (.goto 83, 3) := dcS2 dO_167 (rdS2.ch sfx_cX12_isSo_320 59 rfl (by decide +kernel))
theorem dX12_isSo_382 : decode cX12_isSo 382 = .ok (.aload_n 0, 1) := dc0 dO_42 (rdB.ch sfx_cX12_isSo_320 62 rfl (by decide +kernel))
theorem dX12_isSo_383 : decode cX12_isSo 383 = .ok (.iload 6, 2) := dcU1 dO_21 (rdU1.ch sfx_cX12_isSo_320 63 rfl (by decide +kernel))
theorem sfx_cX12_isSo_384 : (cX12_isSo.data.toList.drop 384).take 67 = [6, 21, 8, 154, 0, 8, 21, 4, 167, 0, 17, 42, 180, 0, 148, 16, 40, 29, 104, 8, 96, 21, 8, 96, 46, 42, 180, 0, 85, 42, 180, 0, 85, 182, 0, 145, 54, 9, 42, 180, 1, 73, 28, 46, 21, 9, 4, 160, 0, 8, 16, 20, 167, 0, 16, 21, 9, 5, 160, 0, 8, 16, 21, 167, 0, 5, 16] := by decide +kernel
theorem dX12_isSo_385 : decode cX12_isSo 385 = .ok (.iload 8, 2) := dcU1 dO_21 (rdU1.ch sfx_cX12_isSo_384 1 rfl (by decide +kernel))
theorem dX12_isSo_387 : decode cX12_isSo 387 = .ok (.ifCond .ne 8, 3) := dcS2 dO_154 (rdS2.ch sfx_cX12_isSo_384 3 rfl (by decide +kernel))
theorem dX12_isSo_390 : decode cX12_isSo 390 = .ok (.iload 4, 2) := dcU1 dO_21 (rdU1.ch sfx_cX12_isSo_384 6 rfl (by decide +kernel))
theorem dX12_isSo_392 : decode cX12_isSo 392 = .ok (.goto 17, 3) := dcS2 dO_167 (rdS2.ch sfx_cX12_isSo_384 8 rfl (by decide +kernel))
theorem dX12_isSo_395 : decode cX12_isSo 395 = .ok (.aload_n 0, 1) := dc0 dO_42 (rdB.ch sfx_cX12_isSo_384 11 rfl (by decide +kernel))
theorem dX12_isSo_396 : decode cX12_isSo 396 = .ok (.getfield 148, 3) := dcU2 dO_180 (rdU2.ch sfx_cX12_isSo_384 12 rfl (by decide +kernel))
theorem dX12_isSo_399 : decode cX12_isSo 399 = .ok (.bipush 40, 2) := dcS1 dO_16 (rdS1.ch sfx_cX12_isSo_384 15 rfl (by decide +kernel))
theorem dX12_isSo_401 : decode cX12_isSo 401 = .ok (.iload_n 3, 1) := dc0 dO_29 (rdB.ch sfx_cX12_isSo_384 17 rfl (by decide +kernel))
theorem dX12_isSo_402 : decode cX12_isSo 402 = .ok (.imul, 1) := dc0 dO_104 (rdB.ch sfx_cX12_isSo_384 18 rfl (by decide +kernel))
theorem dX12_isSo_403 : decode cX12_isSo 403 = .ok (.iconst 5, 1) := dc0 dO_8 (rdB.ch sfx_cX12_isSo_384 19 rfl (by decide +kernel))
theorem dX12_isSo_404 : decode cX12_isSo 404 = .ok (.iadd, 1) := dc0 dO_96 (rdB.ch sfx_cX12_isSo_384 20 rfl (by decide +kernel))
theorem dX12_isSo_405 : decode cX12_isSo 405 = .ok (.iload 8, 2) := dcU1 dO_21 (rdU1.ch sfx_cX12_isSo_384 21 rfl (by decide +kernel))
theorem dX12_isSo_407 : decode cX12_isSo 407 = .ok (.iadd, 1) := dc0 dO_96 (rdB.ch sfx_cX12_isSo_384 23 rfl (by decide +kernel))
theorem dX12_isSo_408 : decode cX12_isSo 408 = .ok (.iaload, 1) := dc0 dO_46 (rdB.ch sfx_cX12_isSo_384 24 rfl (by decide +kernel))
theorem dX12_isSo_409 : decode cX12_isSo 409 = .ok (.aload_n 0, 1) := dc0 dO_42 (rdB.ch sfx_cX12_isSo_384 25 rfl (by decide +kernel))
theorem dX12_isSo_410 : decode cX12_isSo 410 = .ok (.getfield 85, 3) := dcU2 dO_180 (rdU2.ch sfx_cX12_isSo_384 26 rfl (by decide +kernel))
theorem dX12_isSo_413 : decode cX12_isSo 413 = .ok (.aload_n 0, 1) := dc0 dO_42 (rdB.ch sfx_cX12_isSo_384 29 rfl (by decide +kernel))
theorem dX12_isSo_414 : decode cX12_isSo 414 = .ok (.getfield 85, 3) := dcU2 dO_180 (rdU2.ch sfx_cX12_isSo_384 30 rfl (by decide +kernel))
theorem dX12_isSo_417 : decode cX12_isSo 417 = .ok (.invokevirtual 145, 3) := dcU2 dO_182 (rdU2.ch sfx_cX12_isSo_384 33 rfl (by decide +kernel))
theorem dX12_isSo_420 : decode cX12_isSo 420 = .ok (.istore 9, 2) := dcU1 dO_54 (rdU1.ch sfx_cX12_isSo_384 36 rfl (by decide +kernel))
theorem dX12_isSo_422 : decode cX12_isSo 422 = .ok (.aload_n 0, 1) := dc0 dO_42 (rdB.ch sfx_cX12_isSo_384 38 rfl (by decide +kernel))
theorem dX12_isSo_423 : decode cX12_isSo 423 = .ok (.getfield 329, 3) := dcU2 dO_180 (rdU2.ch sfx_cX12_isSo_384 39 rfl (by decide +kernel))
theorem dX12_isSo_426 : decode cX12_isSo 426 = .ok (.iload_n 2, 1) := dc0 dO_28 (rdB.ch sfx_cX12_isSo_384 42 rfl (by decide +kernel))
theorem dX12_isSo_427 : decode cX12_isSo 427 = .ok (.iaload, 1) := dc0 dO_46 (rdB.ch sfx_cX12_isSo_384 43 rfl (by decide +kernel))
theorem dX12_isSo_428 : decode cX12_isSo 428 = .ok (.iload 9, 2) := dcU1 dO_21 (rdU1.ch sfx_cX12_isSo_384 44 rfl (by decide +kernel))
theorem dX12_isSo_430 : decode cX12_isSo 430 = .ok (.iconst 1, 1) := dc0 dO_4 (rdB.ch sfx_cX12_isSo_384 46 rfl (by decide +kernel))
theorem dX12_isSo_431 : decode cX12_isSo 431 = .ok (.if_icmp .ne 8, 3) := dcS2 dO_160 (rdS2.ch sfx_cX12_isSo_384 47 rfl (by decide +kernel))
theorem dX12_isSo_434 : decode cX12_isSo 434 = .ok (.bipush 20, 2) := dcS1 dO_16 (rdS1.ch sfx_cX12_isSo_384 50 rfl (by decide +kernel))
theorem dX12_isSo_436 : decode cX12_isSo 436 = .ok (.goto 16, 3) := dcS2 dO_167 (rdS2.ch sfx_cX12_isSo_384 52 rfl (by decide +kernel))
theorem dX12_isSo_439 : decode cX12_isSo 439 = .ok (.iload 9, 2) := dcU1 dO_21 (rdU1.ch sfx_cX12_isSo_384 55 rfl (by decide +kernel))
theorem dX12_isSo_441 : decode cX12_isSo 441 = .ok (.iconst 2, 1) := dc0 dO_5 (rdB.ch sfx_cX12_isSo_384 57 rfl (by decide +kernel))
theorem dX12_isSo_442 : decode cX12_isSo 442 = .ok (.if_icmp .ne 8, 3) := dcS2 dO_160 (rdS2.ch sfx_cX12_isSo_384 58 rfl (by decide +kernel))
theorem dX12_isSo_445 : decode cX12_isSo 445 = .ok (.bipush 21, 2) := dcS1 dO_16 (rdS1.ch sfx_cX12_isSo_384 61 rfl (by decide +kernel))
theorem dX12_isSo_447 : decode cX12_isSo 447 = .ok (.goto 5, 3) := dcS2 dO_167 (rdS2.ch sfx_cX12_isSo_384 63 rfl (by decide +kernel))
theorem sfx_cX12_isSo_448 : (cX12_isSo.data.toList.drop 448).take 67 = [0, 5, 16, 22, 160, 0, 7, 4, 167, 0, 4, 3, 54, 7, 21, 7, 42, 180, 1, 70, 28, 51, 159, 0, 7, 4, 167, 0, 4, 3, 172] := by decide +kernel
theorem dX12_isSo_450 : decode cX12_isSo 450 = .ok (.bipush 22, 2) := dcS1 dO_16 (rdS1.ch sfx_cX12_isSo_448 2 rfl (by decide +kernel))
theorem dX12_isSo_452 : decode cX12_isSo 452 = .ok (.if_icmp .ne 7, 3) := dcS2 dO_160 (rdS2.ch sfx_cX12_isSo_448 4 rfl (by decide +kernel))
theorem dX12_isSo_455 : decode cX12_isSo 455 = .ok (.iconst 1, 1) := dc0 dO_4 (rdB.ch sfx_cX12_isSo_448 7 rfl (by decide +kernel))
theorem dX12_isSo_456 : decode cX12_isSo 456 = .ok (.goto 4, 3) := dcS2 dO_167 (rdS2.ch sfx_cX12_isSo_448 8 rfl (by decide +kernel))
theorem dX12_isSo_459 : decode cX12_isSo 459 = .ok (.iconst 0, 1) := dc0 dO_3 (rdB.ch sfx_cX12_isSo_448 11 rfl (by decide +kernel))
theorem dX12_isSo_460 : decode cX12_isSo 460 = .ok (.istore 7, 2) := dcU1 dO_54 (rdU1.ch sfx_cX12_isSo_448 12 rfl (by decide +kernel))
theorem dX12_isSo_462 : decode cX12_isSo 462 = .ok (.iload 7, 2) := dcU1 dO_21 (rdU1.ch sfx_cX12_isSo_448 14 rfl (by decide +kernel))
theorem dX12_isSo_464 : decode cX12_isSo 464 = .ok (.aload_n 0, 1) := dc0 dO_42 (rdB.ch sfx_cX12_isSo_448 16 rfl (by decide +kernel))
theorem dX12_isSo_465 : decode cX12_isSo 465 = .ok (.getfield 326, 3) := dcU2 dO_180 (rdU2.ch sfx_cX12_isSo_448 17 rfl (by decide +kernel))
theorem dX12_isSo_468 : decode cX12_isSo 468 = .ok (.iload_n 2, 1) := dc0 dO_28 (rdB.ch sfx_cX12_isSo_448 20 rfl (by decide +kernel))
theorem dX12_isSo_469 : decode cX12_isSo 469 = .ok (.baload, 1) := dc0 dO_51 (rdB.ch sfx_cX12_isSo_448 21 rfl (by decide +kernel))
theorem dX12_isSo_470 : decode cX12_isSo 470 = .ok (.if_icmp .eq 7, 3) := dcS2 dO_159 (rdS2.ch sfx_cX12_isSo_448 22 rfl (by decide +kernel))
theorem dX12_isSo_473 : decode cX12_isSo 473 = .ok (.iconst 1, 1) := dc0 dO_4 (rdB.ch sfx_cX12_isSo_448 25 rfl (by decide +kernel))
theorem dX12_isSo_474 : decode cX12_isSo 474 = .ok (.goto 4, 3) := dcS2 dO_167 (rdS2.ch sfx_cX12_isSo_448 26 rfl (by decide +kernel))
theorem dX12_isSo_477 : decode cX12_isSo 477 = .ok (.iconst 0, 1) := dc0 dO_3 (rdB.ch sfx_cX12_isSo_448 29 rfl (by decide +kernel))
theorem dX12_isSo_478 : decode cX12_isSo 478 = .ok (.ireturn, 1) := dc0 dO_172 (rdB.ch sfx_cX12_isSo_448 30 rfl (by decide +kernel))
theorem dX12_look_0 : decode cX12_look 0 = .ok (.bipush 10, 2) := dcS1 dO_16 (by decide +kernel)
theorem dX12_look_2 : decode cX12_look 2 = .ok (.iload_n 1, 1) := dc0 dO_27 (by decide +kernel)
theorem dX12_look_3 : decode cX12_look 3 = .ok (.imul, 1) := dc0 dO_104 (by decide +kernel)
theorem dX12_look_4 : decode cX12_look 4 = .ok (.iload_n 2, 1) := dc0 dO_28 (by decide +kernel)
theorem dX12_look_5 : decode cX12_look 5 = .ok (.iadd, 1) := dc0 dO_96 (by decide +kernel)
theorem dX12_look_6 : decode cX12_look 6 = .ok (.istore_n 3, 1) := dc0 dO_62 (by decide +kernel)
theorem dX12_look_7 : decode cX12_look 7 = .ok (.aload_n 0, 1) := dc0 dO_42 (by decide +kernel)
theorem dX12_look_8 : decode cX12_look 8 = .ok (.getfield 448, 3) := dcU2 dO_180 (by decide +kernel)
theorem dX12_look_11 : decode cX12_look 11 = .ok (.iload_n 3, 1) := dc0 dO_29 (by decide +kernel)
theorem dX12_look_12 : decode cX12_look 12 = .ok (.iaload, 1) := dc0 dO_46 (by decide +kernel)
theorem dX12_look_13 : decode cX12_look 13 = .ok (.ifCond .lt 78, 3) := dcS2 dO_155 (by decide +kernel)
theorem dX12_look_16 : decode cX12_look 16 = .ok (.bipush (-4), 2) := dcS1 dO_16 (by decide +kernel)
theorem dX12_look_18 : decode cX12_look 18 = .ok (.istore 4, 2) := dcU1 dO_54 (by decide +kernel)
theorem dX12_look_20 : decode cX12_look 20 = .ok (.bipush 120, 2) := dcS1 dO_16 (by decide +kernel)
theorem dX12_look_22 : decode cX12_look 22 = .ok (.istore 5, 2) := dcU1 dO_54 (by decide +kernel)
theorem dX12_look_24 : decode cX12_look 24 = .ok (.aload_n 0, 1) := dc0 dO_42 (by decide +kernel)
theorem dX12_look_25 : decode cX12_look 25 = .ok (.getfield 148, 3) := dcU2 dO_180 (by decide +kernel)
theorem dX12_look_28 : decode cX12_look 28 = .ok (.iload 5, 2) := dcU1 dO_21 (by decide +kernel)
theorem dX12_look_30 : decode cX12_look 30 = .ok (.iload_n 2, 1) := dc0 dO_28 (by decide +kernel)
theorem dX12_look_31 : decode cX12_look 31 = .ok (.iastore, 1) := dc0 dO_79 (by decide +kernel)
theorem dX12_look_32 : decode cX12_look 32 = .ok (.aload_n 0, 1) := dc0 dO_42 (by decide +kernel)
theorem dX12_look_33 : decode cX12_look 33 = .ok (.getfield 148, 3) := dcU2 dO_180 (by decide +kernel)
theorem dX12_look_36 : decode cX12_look 36 = .ok (.iload 5, 2) := dcU1 dO_21 (by decide +kernel)
theorem dX12_look_38 : decode cX12_look 38 = .ok (.iconst 1, 1) := dc0 dO_4 (by decide +kernel)
theorem dX12_look_39 : decode cX12_look 39 = .ok (.iadd, 1) := dc0 dO_96 (by decide +kernel)
theorem dX12_look_40 : decode cX12_look 40 = .ok (.bipush 100, 2) := dcS1 dO_16 (by decide +kernel)
theorem dX12_look_42 : decode cX12_look 42 = .ok (.iastore, 1) := dc0 dO_79 (by decide +kernel)
theorem dX12_look_43 : decode cX12_look 43 = .ok (.aload_n 0, 1) := dc0 dO_42 (by decide +kernel)
theorem dX12_look_44 : decode cX12_look 44 = .ok (.getfield 148, 3) := dcU2 dO_180 (by decide +kernel)
theorem dX12_look_47 : decode cX12_look 47 = .ok (.iload 5, 2) := dcU1 dO_21 (by decide +kernel)
theorem dX12_look_49 : decode cX12_look 49 = .ok (.iconst 2, 1) := dc0 dO_5 (by decide +kernel)
theorem dX12_look_50 : decode cX12_look 50 = .ok (.iadd, 1) := dc0 dO_96 (by decide +kernel)
theorem dX12_look_51 : decode cX12_look 51 = .ok (.aload_n 0, 1) := dc0 dO_42 (by decide +kernel)
theorem dX12_look_52 : decode cX12_look 52 = .ok (.getfield 448, 3) := dcU2 dO_180 (by decide +kernel)
theorem dX12_look_55 : decode cX12_look 55 = .ok (.iload_n 3, 1) := dc0 dO_29 (by decide +kernel)
theorem dX12_look_56 : decode cX12_look 56 = .ok (.iaload, 1) := dc0 dO_46 (by decide +kernel)
theorem dX12_look_57 : decode cX12_look 57 = .ok (.iastore, 1) := dc0 dO_79 (by decide +kernel)
theorem dX12_look_58 : decode cX12_look 58 = .ok (.aload_n 0, 1) := dc0 dO_42 (by decide +kernel)
theorem dX12_look_59 : decode cX12_look 59 = .ok (.getfield 148, 3) := dcU2 dO_180 (by decide +kernel)
theorem dX12_look_62 : decode cX12_look 62 = .ok (.iload 5, 2) := dcU1 dO_21 (by decide +kernel)
theorem dX12_look_64 : decode cX12_look 64 = .ok (.iconst 3, 1) := dc0 dO_6 (by decide +kernel)
theorem dX12_look_65 : decode cX12_look 65 = .ok (.iadd, 1) := dc0 dO_96 (by decide +kernel)
theorem dX12_look_66 : decode cX12_look 66 = .ok (.iconst 0, 1) := dc0 dO_3 (by decide +kernel)
theorem dX12_look_67 : decode cX12_look 67 = .ok (.iastore, 1) := dc0 dO_79 (by decide +kernel)
theorem dX12_look_68 : decode cX12_look 68 = .ok (.aload_n 0, 1) := dc0 dO_42 (by decide +kernel)
theorem dX12_look_69 : decode cX12_look 69 = .ok (.getfield 148, 3) := dcU2 dO_180 (by decide +kernel)
theorem dX12_look_72 : decode cX12_look 72 = .ok (.iload 5, 2) := dcU1 dO_21 (by decide +kernel)
theorem dX12_look_74 : decode cX12_look 74 = .ok (.iconst 4, 1) := dc0 dO_7 (by decide +kernel)
theorem dX12_look_75 : decode cX12_look 75 = .ok (.iadd, 1) := dc0 dO_96 (by decide +kernel)
theorem dX12_look_76 : decode cX12_look 76 = .ok (.iconst 0, 1) := dc0 dO_3 (by decide +kernel)
theorem dX12_look_77 : decode cX12_look 77 = .ok (.iastore, 1) := dc0 dO_79 (by decide +kernel)
theorem dX12_look_78 : decode cX12_look 78 = .ok (.aload_n 0, 1) := dc0 dO_42 (by decide +kernel)
theorem dX12_look_79 : decode cX12_look 79 = .ok (.getfield 148, 3) := dcU2 dO_180 (by decide +kernel)
theorem dX12_look_82 : decode cX12_look 82 = .ok (.iload 5, 2) := dcU1 dO_21 (by decide +kernel)
theorem dX12_look_84 : decode cX12_look 84 = .ok (.iconst 5, 1) := dc0 dO_8 (by decide +kernel)
theorem dX12_look_85 : decode cX12_look 85 = .ok (.iadd, 1) := dc0 dO_96 (by decide +kernel)
theorem dX12_look_86 : decode cX12_look 86 = .ok (.iconst 0, 1) := dc0 dO_3 (by decide +kernel)
theorem dX12_look_87 : decode cX12_look 87 = .ok (.iastore, 1) := dc0 dO_79 (by decide +kernel)
theorem dX12_look_88 : decode cX12_look 88 = .ok (.goto 35, 3) := dcS2 dO_167 (by decide +kernel)
theorem dX12_look_91 : decode cX12_look 91 = .ok (.aload_n 0, 1) := dc0 dO_42 (by decide +kernel)
theorem dX12_look_92 : decode cX12_look 92 = .ok (.iload_n 1, 1) := dc0 dO_27 (by decide +kernel)
theorem dX12_look_93 : decode cX12_look 93 = .ok (.iload_n 2, 1) := dc0 dO_28 (by decide +kernel)
theorem dX12_look_94 : decode cX12_look 94 = .ok (.invokevirtual 581, 3) := dcU2 dO_182 (by decide +kernel)
theorem dX12_look_97 : decode cX12_look 97 = .ok (.istore 4, 2) := dcU1 dO_54 (by decide +kernel)
theorem dX12_look_99 : decode cX12_look 99 = .ok (.iload 4, 2) := dcU1 dO_21 (by decide +kernel)
theorem dX12_look_101 : decode cX12_look 101 = .ok (.ldc 29, 2) := dcU1 dO_18 (by decide +kernel)
theorem dX12_look_103 : decode cX12_look 103 = .ok (.if_icmp .ne 11, 3) := dcS2 dO_160 (by decide +kernel)
theorem dX12_look_106 : decode cX12_look 106 = .ok (.aload_n 0, 1) := dc0 dO_42 (by decide +kernel)
theorem dX12_look_107 : decode cX12_look 107 = .ok (.iconst 3, 1) := dc0 dO_6 (by decide +kernel)
theorem dX12_look_108 : decode cX12_look 108 = .ok (.invokevirtual 539, 3) := dcU2 dO_182 (by decide +kernel)
theorem dX12_look_111 : decode cX12_look 111 = .ok (.goto 12, 3) := dcS2 dO_167 (by decide +kernel)
theorem dX12_look_114 : decode cX12_look 114 = .ok (.aload_n 0, 1) := dc0 dO_42 (by decide +kernel)
theorem dX12_look_115 : decode cX12_look 115 = .ok (.iconst 4, 1) := dc0 dO_7 (by decide +kernel)
theorem dX12_look_116 : decode cX12_look 116 = .ok (.iload 4, 2) := dcU1 dO_21 (by decide +kernel)
theorem dX12_look_118 : decode cX12_look 118 = .ok (.iadd, 1) := dc0 dO_96 (by decide +kernel)
theorem dX12_look_119 : decode cX12_look 119 = .ok (.iconst 3, 1) := dc0 dO_6 (by decide +kernel)
theorem dX12_look_120 : decode cX12_look 120 = .ok (.invokevirtual 559, 3) := dcU2 dO_182 (by decide +kernel)
theorem dX12_look_123 : decode cX12_look 123 = .ok (.iload 4, 2) := dcU1 dO_21 (by decide +kernel)
theorem dX12_look_125 : decode cX12_look 125 = .ok (.aload_n 0, 1) := dc0 dO_42 (by decide +kernel)
theorem dX12_look_126 : decode cX12_look 126 = .ok (.getfield 445, 3) := dcU2 dO_180 (by decide +kernel)
theorem sfx_cX12_look_128 : (cX12_look.data.toList.drop 128).take 67 = [189, 29, 46, 160, 0, 16, 42, 6, 16, 30, 29, 96, 182, 2, 72, 153, 0, 4, 177, 42, 180, 1, 189, 29, 21, 4, 79, 42, 6, 16, 30, 29, 96, 182, 2, 47, 3, 54, 5, 21, 5, 42, 180, 0, 37, 162, 0, 37, 42, 21, 5, 27, 182, 2, 50, 153, 0, 21, 42, 180, 0, 53, 21, 5, 51, 153, 0] := by decide +kernel
theorem dX12_look_129 : decode cX12_look 129 = .ok (.iload_n 3, 1) := dc0 dO_29 (rdB.ch sfx_cX12_look_128 1 rfl (by decide +kernel))
theorem dX12_look_130 : decode cX12_look 130 = .ok (.iaload, 1) := dc0 dO_46 (rdB.ch sfx_cX12_look_128 2 rfl (by decide +kernel))
theorem dX12_look_131 : decode cX12_look 131 = .ok (.if_icmp .ne 16, 3) := dcS2 dO_160 (rdS2.ch sfx_cX12_look_128 3 rfl (by decide +kernel))
theorem dX12_look_134 : decode cX12_look 134 = .ok (.aload_n 0, 1) := dc0 dO_42 (rdB.ch sfx_cX12_look_128 6 rfl (by decide +kernel))
theorem dX12_look_135 : decode cX12_look 135 = .ok (.iconst 3, 1) := dc0 dO_6 (rdB.ch sfx_cX12_look_128 7 rfl (by decide +kernel))
theorem dX12_look_136 : decode cX12_look 136 = .ok (.bipush 30, 2) := dcS1 dO_16 (rdS1.ch sfx_cX12_look_128 8 rfl (by decide +kernel))
theorem dX12_look_138 : decode cX12_look 138 = .ok (.iload_n 3, 1) := dc0 dO_29 (rdB.ch sfx_cX12_look_128 10 rfl (by decide +kernel))
theorem dX12_look_139 : decode cX12_look 139 = .ok (.iadd, 1) := dc0 dO_96 (rdB.ch sfx_cX12_look_128 11 rfl (by decide +kernel))
theorem dX12_look_140 : decode cX12_look 140 = .ok (.invokevirtual 584, 3) := dcU2 dO_182 (rdU2.ch sfx_cX12_look_128 12 rfl (by decide +kernel))
theorem dX12_look_143 : decode cX12_look 143 = .ok (.ifCond .eq 4, 3) := dcS2 dO_153 (rdS2.ch sfx_cX12_look_128 15 rfl (by decide +kernel))
theorem dX12_look_146 : decode cX12_look 146 = .ok (.return_, 1) := dc0 dO_177 (rdB.ch sfx_cX12_look_128 18 rfl (by decide +kernel))
theorem dX12_look_147 : decode cX12_look 147 = .ok (.aload_n 0, 1) := dc0 dO_42 (rdB.ch sfx_cX12_look_128 19 rfl (by decide +kernel))
theorem dX12_look_148 : decode cX12_look 148 = .ok (.getfield 445, 3) := dcU2 dO_180 (rdU2.ch sfx_cX12_look_128 20 rfl (by decide +kernel))
theorem dX12_look_151 : decode cX12_look 151 = .ok (.iload_n 3, 1) := dc0 dO_29 (rdB.ch sfx_cX12_look_128 23 rfl (by decide +kernel))
theorem dX12_look_152 : decode cX12_look 152 = .ok (.iload 4, 2) := dcU1 dO_21 (rdU1.ch sfx_cX12_look_128 24 rfl (by decide +kernel))
theorem dX12_look_154 : decode cX12_look 154 = .ok (.iastore, 1) := dc0 dO_79 (rdB.ch sfx_cX12_look_128 26 rfl (by decide +kernel))
theorem dX12_look_155 : decode cX12_look 155 = .ok (.aload_n 0, 1) := dc0 dO_42 (rdB.ch sfx_cX12_look_128 27 rfl (by decide +kernel))
theorem dX12_look_156 : decode cX12_look 156 = .ok (.iconst 3, 1) := dc0 dO_6 (rdB.ch sfx_cX12_look_128 28 rfl (by decide +kernel))
theorem dX12_look_157 : decode cX12_look 157 = .ok (.bipush 30, 2) := dcS1 dO_16 (rdS1.ch sfx_cX12_look_128 29 rfl (by decide +kernel))
theorem dX12_look_159 : decode cX12_look 159 = .ok (.iload_n 3, 1) := dc0 dO_29 (rdB.ch sfx_cX12_look_128 31 rfl (by decide +kernel))
theorem dX12_look_160 : decode cX12_look 160 = .ok (.iadd, 1) := dc0 dO_96 (rdB.ch sfx_cX12_look_128 32 rfl (by decide +kernel))
theorem dX12_look_161 : decode cX12_look 161 = .ok (.invokevirtual 559, 3) := dcU2 dO_182 (rdU2.ch sfx_cX12_look_128 33 rfl (by decide +kernel))
theorem dX12_look_164 : decode cX12_look 164 = .ok (.iconst 0, 1) := dc0 dO_3 (rdB.ch sfx_cX12_look_128 36 rfl (by decide +kernel))
theorem dX12_look_165 : decode cX12_look 165 = .ok (.istore 5, 2) := dcU1 dO_54 (rdU1.ch sfx_cX12_look_128 37 rfl (by decide +kernel))
theorem dX12_look_167 : decode cX12_look 167 = .ok (.iload 5, 2) := dcU1 dO_21 (rdU1.ch sfx_cX12_look_128 39 rfl (by decide +kernel))
theorem dX12_look_169 : decode cX12_look 169 = .ok (.aload_n 0, 1) := dc0 dO_42 (rdB.ch sfx_cX12_look_128 41 rfl (by decide +kernel))
theorem dX12_look_170 : decode cX12_look 170 = .ok (.getfield 37, 3) := dcU2 dO_180 (rdU2.ch sfx_cX12_look_128 42 rfl (by decide +kernel))
theorem dX12_look_173 : decode cX12_look 173 = .ok (.if_icmp .ge 37, 3) := dcS2 dO_162 (rdS2.ch sfx_cX12_look_128 45 rfl (by decide +kernel))
theorem dX12_look_176 : decode cX12_look 176 = .ok (.aload_n 0, 1) := dc0 dO_42 (rdB.ch sfx_cX12_look_128 48 rfl (by decide +kernel))
theorem dX12_look_177 : decode cX12_look 177 = .ok (.iload 5, 2) := dcU1 dO_21 (rdU1.ch sfx_cX12_look_128 49 rfl (by decide +kernel))
theorem dX12_look_179 : decode cX12_look 179 = .ok (.iload_n 1, 1) := dc0 dO_27 (rdB.ch sfx_cX12_look_128 51 rfl (by decide +kernel))
theorem dX12_look_180 : decode cX12_look 180 = .ok (.invokevirtual 562, 3) := dcU2 dO_182 (rdU2.ch sfx_cX12_look_128 52 rfl (by decide +kernel))
theorem dX12_look_183 : decode cX12_look 183 = .ok (.ifCond .eq 21, 3) := dcS2 dO_153 (rdS2.ch sfx_cX12_look_128 55 rfl (by decide +kernel))
theorem dX12_look_186 : decode cX12_look 186 = .ok (.aload_n 0, 1) := dc0 dO_42 (rdB.ch sfx_cX12_look_128 58 rfl (by decide +kernel))
theorem dX12_look_187 : decode cX12_look 187 = .ok (.getfield 53, 3) := dcU2 dO_180 (rdU2.ch sfx_cX12_look_128 59 rfl (by decide +kernel))
theorem dX12_look_190 : decode cX12_look 190 = .ok (.iload 5, 2) := dcU1 dO_21 (rdU1.ch sfx_cX12_look_128 62 rfl (by decide +kernel))
theorem sfx_cX12_look_192 : (cX12_look.data.toList.drop 192).take 67 = [51, 153, 0, 11, 42, 27, 21, 5, 28, 182, 2, 75, 132, 5, 1, 167, 255, 216, 177] := by decide +kernel
theorem dX12_look_192 : decode cX12_look 192 = .ok (.baload, 1) := dc0 dO_51 (rdB.ch sfx_cX12_look_192 0 rfl (by decide +kernel))
theorem dX12_look_193 : decode cX12_look 193 = .ok (.ifCond .eq 11, 3) := dcS2 dO_153 (rdS2.ch sfx_cX12_look_192 1 rfl (by decide +kernel))
theorem dX12_look_196 : decode cX12_look 196 = .ok (.aload_n 0, 1) := dc0 dO_42 (rdB.ch sfx_cX12_look_192 4 rfl (by decide +kernel))
theorem dX12_look_197 : decode cX12_look 197 = .ok (.iload_n 1, 1) := dc0 dO_27 (rdB.ch sfx_cX12_look_192 5 rfl (by decide +kernel))
theorem dX12_look_198 : decode cX12_look 198 = .ok (.iload 5, 2) := dcU1 dO_21 (rdU1.ch sfx_cX12_look_192 6 rfl (by decide +kernel))
theorem dX12_look_200 : decode cX12_look 200 = .ok (.iload_n 2, 1) := dc0 dO_28 (rdB.ch sfx_cX12_look_192 8 rfl (by decide +kernel))
theorem dX12_look_201 : decode cX12_look 201 = .ok (.invokevirtual 587, 3) := dcU2 dO_182 (rdU2.ch sfx_cX12_look_192 9 rfl (by decide +kernel))
theorem dX12_look_204 : decode cX12_look 204 = .ok (.iinc 5 1, 3) := dcI dO_132 (rdI.ch sfx_cX12_look_192 12 rfl (by decide +kernel))
theorem dX12_look_207 : decode cX12_look 207 = .ok (.goto (-40), 3) := dcS2 dO_167 (rdS2.ch sfx_cX12_look_192 15 rfl (by decide +kernel))
theorem dX12_look_210 : decode cX12_look 210 = .ok (.return_, 1) := dc0 dO_177 (rdB.ch sfx_cX12_look_192 18 rfl (by decide +kernel))
theorem dX12_lookAll_0 : decode cX12_lookAll 0 = .ok (.iconst 0, 1) := dc0 dO_3 (by decide +kernel)
theorem dX12_lookAll_1 : decode cX12_lookAll 1 = .ok (.istore_n 2, 1) := dc0 dO_61 (by decide +kernel)
theorem dX12_lookAll_2 : decode cX12_lookAll 2 = .ok (.iload_n 2, 1) := dc0 dO_28 (by decide +kernel)
theorem dX12_lookAll_3 : decode cX12_lookAll 3 = .ok (.aload_n 0, 1) := dc0 dO_42 (by decide +kernel)
theorem dX12_lookAll_4 : decode cX12_lookAll 4 = .ok (.getfield 15, 3) := dcU2 dO_180 (by decide +kernel)
theorem dX12_lookAll_7 : decode cX12_lookAll 7 = .ok (.if_icmp .ge 15, 3) := dcS2 dO_162 (by decide +kernel)
theorem dX12_lookAll_10 : decode cX12_lookAll 10 = .ok (.aload_n 0, 1) := dc0 dO_42 (by decide +kernel)
theorem dX12_lookAll_11 : decode cX12_lookAll 11 = .ok (.iload_n 1, 1) := dc0 dO_27 (by decide +kernel)
theorem dX12_lookAll_12 : decode cX12_lookAll 12 = .ok (.iload_n 2, 1) := dc0 dO_28 (by decide +kernel)
theorem dX12_lookAll_13 : decode cX12_lookAll 13 = .ok (.invokevirtual 597, 3) := dcU2 dO_182 (by decide +kernel)
theorem dX12_lookAll_16 : decode cX12_lookAll 16 = .ok (.iinc 2 1, 3) := dcI dO_132 (by decide +kernel)
theorem dX12_lookAll_19 : decode cX12_lookAll 19 = .ok (.goto (-17), 3) := dcS2 dO_167 (by decide +kernel)
theorem dX12_lookAll_22 : decode cX12_lookAll 22 = .ok (.return_, 1) := dc0 dO_177 (by decide +kernel)
theorem dX12_pick_0 : decode cX12_pick 0 = .ok (.aload_n 0, 1) := dc0 dO_42 (by decide +kernel)
theorem dX12_pick_1 : decode cX12_pick 1 = .ok (.iload_n 1, 1) := dc0 dO_27 (by decide +kernel)
theorem dX12_pick_2 : decode cX12_pick 2 = .ok (.iload_n 2, 1) := dc0 dO_28 (by decide +kernel)
theorem dX12_pick_3 : decode cX12_pick 3 = .ok (.invokevirtual 572, 3) := dcU2 dO_182 (by decide +kernel)
theorem dX12_pick_6 : decode cX12_pick 6 = .ok (.aload_n 0, 1) := dc0 dO_42 (by decide +kernel)
theorem dX12_pick_7 : decode cX12_pick 7 = .ok (.getfield 454, 3) := dcU2 dO_180 (by decide +kernel)
theorem dX12_pick_10 : decode cX12_pick 10 = .ok (.iload_n 1, 1) := dc0 dO_27 (by decide +kernel)
theorem dX12_pick_11 : decode cX12_pick 11 = .ok (.baload, 1) := dc0 dO_51 (by decide +kernel)
theorem dX12_pick_12 : decode cX12_pick 12 = .ok (.ifCond .ne 39, 3) := dcS2 dO_154 (by decide +kernel)
theorem dX12_pick_15 : decode cX12_pick 15 = .ok (.iconst 0, 1) := dc0 dO_3 (by decide +kernel)
theorem dX12_pick_16 : decode cX12_pick 16 = .ok (.istore_n 3, 1) := dc0 dO_62 (by decide +kernel)
theorem dX12_pick_17 : decode cX12_pick 17 = .ok (.iload_n 3, 1) := dc0 dO_29 (by decide +kernel)
theorem dX12_pick_18 : decode cX12_pick 18 = .ok (.aload_n 0, 1) := dc0 dO_42 (by decide +kernel)
theorem dX12_pick_19 : decode cX12_pick 19 = .ok (.getfield 37, 3) := dcU2 dO_180 (by decide +kernel)
theorem dX12_pick_22 : decode cX12_pick 22 = .ok (.if_icmp .ge 22, 3) := dcS2 dO_162 (by decide +kernel)
theorem dX12_pick_25 : decode cX12_pick 25 = .ok (.aload_n 0, 1) := dc0 dO_42 (by decide +kernel)
theorem dX12_pick_26 : decode cX12_pick 26 = .ok (.getfield 457, 3) := dcU2 dO_180 (by decide +kernel)
theorem dX12_pick_29 : decode cX12_pick 29 = .ok (.iload_n 3, 1) := dc0 dO_29 (by decide +kernel)
theorem dX12_pick_30 : decode cX12_pick 30 = .ok (.aload_n 0, 1) := dc0 dO_42 (by decide +kernel)
theorem dX12_pick_31 : decode cX12_pick 31 = .ok (.iconst 4, 1) := dc0 dO_7 (by decide +kernel)
theorem dX12_pick_32 : decode cX12_pick 32 = .ok (.iload_n 3, 1) := dc0 dO_29 (by decide +kernel)
theorem dX12_pick_33 : decode cX12_pick 33 = .ok (.iadd, 1) := dc0 dO_96 (by decide +kernel)
theorem dX12_pick_34 : decode cX12_pick 34 = .ok (.invokevirtual 151, 3) := dcU2 dO_182 (by decide +kernel)
theorem dX12_pick_37 : decode cX12_pick 37 = .ok (.bastore, 1) := dc0 dO_84 (by decide +kernel)
theorem dX12_pick_38 : decode cX12_pick 38 = .ok (.iinc 3 1, 3) := dcI dO_132 (by decide +kernel)
theorem dX12_pick_41 : decode cX12_pick 41 = .ok (.goto (-24), 3) := dcS2 dO_167 (by decide +kernel)
theorem dX12_pick_44 : decode cX12_pick 44 = .ok (.aload_n 0, 1) := dc0 dO_42 (by decide +kernel)
theorem dX12_pick_45 : decode cX12_pick 45 = .ok (.iload_n 1, 1) := dc0 dO_27 (by decide +kernel)
theorem dX12_pick_46 : decode cX12_pick 46 = .ok (.iload_n 2, 1) := dc0 dO_28 (by decide +kernel)
theorem dX12_pick_47 : decode cX12_pick 47 = .ok (.invokevirtual 575, 3) := dcU2 dO_182 (by decide +kernel)
theorem dX12_pick_50 : decode cX12_pick 50 = .ok (.ireturn, 1) := dc0 dO_172 (by decide +kernel)
theorem dX12_pick_51 : decode cX12_pick 51 = .ok (.ldc 29, 2) := dcU1 dO_18 (by decide +kernel)
theorem dX12_pick_53 : decode cX12_pick 53 = .ok (.istore_n 3, 1) := dc0 dO_62 (by decide +kernel)
theorem dX12_pick_54 : decode cX12_pick 54 = .ok (.iconst 0, 1) := dc0 dO_3 (by decide +kernel)
theorem dX12_pick_55 : decode cX12_pick 55 = .ok (.istore 4, 2) := dcU1 dO_54 (by decide +kernel)
theorem dX12_pick_57 : decode cX12_pick 57 = .ok (.iload 4, 2) := dcU1 dO_21 (by decide +kernel)
theorem dX12_pick_59 : decode cX12_pick 59 = .ok (.aload_n 0, 1) := dc0 dO_42 (by decide +kernel)
theorem dX12_pick_60 : decode cX12_pick 60 = .ok (.getfield 37, 3) := dcU2 dO_180 (by decide +kernel)
theorem dX12_pick_63 : decode cX12_pick 63 = .ok (.if_icmp .ge 58, 3) := dcS2 dO_162 (by decide +kernel)
theorem dX12_pick_66 : decode cX12_pick 66 = .ok (.aload_n 0, 1) := dc0 dO_42 (by decide +kernel)
theorem dX12_pick_67 : decode cX12_pick 67 = .ok (.iconst 4, 1) := dc0 dO_7 (by decide +kernel)
theorem dX12_pick_68 : decode cX12_pick 68 = .ok (.iload 4, 2) := dcU1 dO_21 (by decide +kernel)
theorem dX12_pick_70 : decode cX12_pick 70 = .ok (.iadd, 1) := dc0 dO_96 (by decide +kernel)
theorem dX12_pick_71 : decode cX12_pick 71 = .ok (.invokevirtual 151, 3) := dcU2 dO_182 (by decide +kernel)
theorem dX12_pick_74 : decode cX12_pick 74 = .ok (.ifCond .eq 41, 3) := dcS2 dO_153 (by decide +kernel)
theorem dX12_pick_77 : decode cX12_pick 77 = .ok (.aload_n 0, 1) := dc0 dO_42 (by decide +kernel)
theorem dX12_pick_78 : decode cX12_pick 78 = .ok (.getfield 148, 3) := dcU2 dO_180 (by decide +kernel)
theorem dX12_pick_81 : decode cX12_pick 81 = .ok (.bipush 40, 2) := dcS1 dO_16 (by decide +kernel)
theorem dX12_pick_83 : decode cX12_pick 83 = .ok (.iconst 4, 1) := dc0 dO_7 (by decide +kernel)
theorem dX12_pick_84 : decode cX12_pick 84 = .ok (.iload 4, 2) := dcU1 dO_21 (by decide +kernel)
theorem dX12_pick_86 : decode cX12_pick 86 = .ok (.iadd, 1) := dc0 dO_96 (by decide +kernel)
theorem dX12_pick_87 : decode cX12_pick 87 = .ok (.imul, 1) := dc0 dO_104 (by decide +kernel)
theorem dX12_pick_88 : decode cX12_pick 88 = .ok (.iconst 4, 1) := dc0 dO_7 (by decide +kernel)
theorem dX12_pick_89 : decode cX12_pick 89 = .ok (.iadd, 1) := dc0 dO_96 (by decide +kernel)
theorem dX12_pick_90 : decode cX12_pick 90 = .ok (.iaload, 1) := dc0 dO_46 (by decide +kernel)
theorem dX12_pick_91 : decode cX12_pick 91 = .ok (.ifCond .ne 24, 3) := dcS2 dO_154 (by decide +kernel)
theorem dX12_pick_94 : decode cX12_pick 94 = .ok (.iload_n 3, 1) := dc0 dO_29 (by decide +kernel)
theorem dX12_pick_95 : decode cX12_pick 95 = .ok (.ldc 29, 2) := dcU1 dO_18 (by decide +kernel)
theorem dX12_pick_97 : decode cX12_pick 97 = .ok (.if_icmp .eq 15, 3) := dcS2 dO_159 (by decide +kernel)
theorem dX12_pick_100 : decode cX12_pick 100 = .ok (.aload_n 0, 1) := dc0 dO_42 (by decide +kernel)
theorem dX12_pick_101 : decode cX12_pick 101 = .ok (.iload_n 1, 1) := dc0 dO_27 (by decide +kernel)
theorem dX12_pick_102 : decode cX12_pick 102 = .ok (.iload 4, 2) := dcU1 dO_21 (by decide +kernel)
theorem dX12_pick_104 : decode cX12_pick 104 = .ok (.iload_n 3, 1) := dc0 dO_29 (by decide +kernel)
theorem dX12_pick_105 : decode cX12_pick 105 = .ok (.iload_n 2, 1) := dc0 dO_28 (by decide +kernel)
theorem dX12_pick_106 : decode cX12_pick 106 = .ok (.invokevirtual 568, 3) := dcU2 dO_182 (by decide +kernel)
theorem dX12_pick_109 : decode cX12_pick 109 = .ok (.ifCond .eq 6, 3) := dcS2 dO_153 (by decide +kernel)
theorem dX12_pick_112 : decode cX12_pick 112 = .ok (.iload 4, 2) := dcU1 dO_21 (by decide +kernel)
theorem dX12_pick_114 : decode cX12_pick 114 = .ok (.istore_n 3, 1) := dc0 dO_62 (by decide +kernel)
theorem dX12_pick_115 : decode cX12_pick 115 = .ok (.iinc 4 1, 3) := dcI dO_132 (by decide +kernel)
theorem dX12_pick_118 : decode cX12_pick 118 = .ok (.goto (-61), 3) := dcS2 dO_167 (by decide +kernel)
theorem dX12_pick_121 : decode cX12_pick 121 = .ok (.iconst 0, 1) := dc0 dO_3 (by decide +kernel)
theorem dX12_pick_122 : decode cX12_pick 122 = .ok (.istore 4, 2) := dcU1 dO_54 (by decide +kernel)
theorem dX12_pick_124 : decode cX12_pick 124 = .ok (.iconst 0, 1) := dc0 dO_3 (by decide +kernel)
theorem dX12_pick_125 : decode cX12_pick 125 = .ok (.istore 5, 2) := dcU1 dO_54 (by decide +kernel)
theorem dX12_pick_127 : decode cX12_pick 127 = .ok (.iconst 1, 1) := dc0 dO_4 (by decide +kernel)
theorem sfx_cX12_pick_128 : (cX12_pick.data.toList.drop 128).take 67 = [54, 6, 21, 6, 153, 0, 241, 3, 54, 7, 3, 54, 8, 3, 54, 9, 21, 9, 42, 180, 0, 37, 162, 0, 94, 42, 7, 21, 9, 96, 182, 0, 151, 153, 0, 77, 42, 180, 0, 148, 16, 40, 7, 21, 9, 96, 104, 7, 96, 46, 154, 0, 6, 167, 0, 57, 42, 180, 0, 148, 16, 40, 7, 21, 9, 96, 104] := by decide +kernel
theorem dX12_pick_128 : decode cX12_pick 128 = .ok (.istore 6, 2) := dcU1 dO_54 (rdU1.ch sfx_cX12_pick_128 0 rfl (by decide +kernel))
theorem dX12_pick_130 : decode cX12_pick 130 = .ok (.iload 6, 2) := dcU1 dO_21 (rdU1.ch sfx_cX12_pick_128 2 rfl (by decide +kernel))
theorem dX12_pick_132 : decode cX12_pick 132 = .ok (.ifCond .eq 241, 3) := dcS2 dO_153 (rdS2.ch sfx_cX12_pick_128 4 rfl (by decide +kernel))
theorem dX12_pick_135 : decode cX12_pick 135 = .ok (.iconst 0, 1) := dc0 dO_3 (rdB.ch sfx_cX12_pick_128 7 rfl (by decide +kernel))
theorem dX12_pick_136 : decode cX12_pick 136 = .ok (.istore 7, 2) := dcU1 dO_54 (rdU1.ch sfx_cX12_pick_128 8 rfl (by decide +kernel))
theorem dX12_pick_138 : decode cX12_pick 138 = .ok (.iconst 0, 1) := dc0 dO_3 (rdB.ch sfx_cX12_pick_128 10 rfl (by decide +kernel))
theorem dX12_pick_139 : decode cX12_pick 139 = .ok (.istore 8, 2) := dcU1 dO_54 (rdU1.ch sfx_cX12_pick_128 11 rfl (by decide +kernel))
theorem dX12_pick_141 : decode cX12_pick 141 = .ok (.iconst 0, 1) := dc0 dO_3 (rdB.ch sfx_cX12_pick_128 13 rfl (by decide +kernel))
theorem dX12_pick_142 : decode cX12_pick 142 = .ok (.istore 9, 2) := dcU1 dO_54 (rdU1.ch sfx_cX12_pick_128 14 rfl (by decide +kernel))
theorem dX12_pick_144 : decode cX12_pick 144 = .ok (.iload 9, 2) := dcU1 dO_21 (rdU1.ch sfx_cX12_pick_128 16 rfl (by decide +kernel))
theorem dX12_pick_146 : decode cX12_pick 146 = .ok (.aload_n 0, 1) := dc0 dO_42 (rdB.ch sfx_cX12_pick_128 18 rfl (by decide +kernel))
theorem dX12_pick_147 : decode cX12_pick 147 = .ok (.getfield 37, 3) := dcU2 dO_180 (rdU2.ch sfx_cX12_pick_128 19 rfl (by decide +kernel))
theorem dX12_pick_150 : decode cX12_pick 150 = .ok (.if_icmp .ge 94, 3) := dcS2 dO_162 (rdS2.ch sfx_cX12_pick_128 22 rfl (by decide +kernel))
theorem dX12_pick_153 : decode cX12_pick 153 = .ok (.aload_n 0, 1) := dc0 dO_42 (rdB.ch sfx_cX12_pick_128 25 rfl (by decide +kernel))
theorem dX12_pick_154 : decode cX12_pick 154 = .ok (.iconst 4, 1) := dc0 dO_7 (rdB.ch sfx_cX12_pick_128 26 rfl (by decide +kernel))
theorem dX12_pick_155 : decode cX12_pick 155 = .ok (.iload 9, 2) := dcU1 dO_21 (rdU1.ch sfx_cX12_pick_128 27 rfl (by decide +kernel))
theorem dX12_pick_157 : decode cX12_pick 157 = .ok (.iadd, 1) := dc0 dO_96 (rdB.ch sfx_cX12_pick_128 29 rfl (by decide +kernel))
theorem dX12_pick_158 : decode cX12_pick 158 = .ok (.invokevirtual 151, 3) := dcU2 dO_182 (rdU2.ch sfx_cX12_pick_128 30 rfl (by decide +kernel))
theorem dX12_pick_161 : decode cX12_pick 161 = .ok (.ifCond .eq 77, 3) := dcS2 dO_153 (rdS2.ch sfx_cX12_pick_128 33 rfl (by decide +kernel))
theorem dX12_pick_164 : decode cX12_pick 164 = .ok (.aload_n 0, 1) := dc0 dO_42 (rdB.ch sfx_cX12_pick_128 36 rfl (by decide +kernel))
theorem dX12_pick_165 : decode cX12_pick 165 = .ok (.getfield 148, 3) := dcU2 dO_180 (rdU2.ch sfx_cX12_pick_128 37 rfl (by decide +kernel))
theorem dX12_pick_168 : decode cX12_pick 168 = .ok (.bipush 40, 2) := dcS1 dO_16 (rdS1.ch sfx_cX12_pick_128 40 rfl (by decide +kernel))
theorem dX12_pick_170 : decode cX12_pick 170 = .ok (.iconst 4, 1) := dc0 dO_7 (rdB.ch sfx_cX12_pick_128 42 rfl (by decide +kernel))
theorem dX12_pick_171 : decode cX12_pick 171 = .ok (.iload 9, 2) := dcU1 dO_21 (rdU1.ch sfx_cX12_pick_128 43 rfl (by decide +kernel))
theorem dX12_pick_173 : decode cX12_pick 173 = .ok (.iadd, 1) := dc0 dO_96 (rdB.ch sfx_cX12_pick_128 45 rfl (by decide +kernel))
theorem dX12_pick_174 : decode cX12_pick 174 = .ok (.imul, 1) := dc0 dO_104 (rdB.ch sfx_cX12_pick_128 46 rfl (by decide +kernel))
theorem dX12_pick_175 : decode cX12_pick 175 = .ok (.iconst 4, 1) := dc0 dO_7 (rdB.ch sfx_cX12_pick_128 47 rfl (by decide +kernel))
theorem dX12_pick_176 : decode cX12_pick 176 = .ok (.iadd, 1) := dc0 dO_96 (rdB.ch sfx_cX12_pick_128 48 rfl (by decide +kernel))
theorem dX12_pick_177 : decode cX12_pick 177 = .ok (.iaload, 1) := dc0 dO_46 (rdB.ch sfx_cX12_pick_128 49 rfl (by decide +kernel))
theorem dX12_pick_178 : decode cX12_pick 178 = .ok (.ifCond .ne 6, 3) := dcS2 dO_154 (rdS2.ch sfx_cX12_pick_128 50 rfl (by decide +kernel))
theorem dX12_pick_181 : decode cX12_pick 181 = .ok (.goto 57, 3) := dcS2 dO_167 (rdS2.ch sfx_cX12_pick_128 53 rfl (by decide +kernel))
theorem dX12_pick_184 : decode cX12_pick 184 = .ok (.aload_n 0, 1) := dc0 dO_42 (rdB.ch sfx_cX12_pick_128 56 rfl (by decide +kernel))
theorem dX12_pick_185 : decode cX12_pick 185 = .ok (.getfield 148, 3) := dcU2 dO_180 (rdU2.ch sfx_cX12_pick_128 57 rfl (by decide +kernel))
theorem dX12_pick_188 : decode cX12_pick 188 = .ok (.bipush 40, 2) := dcS1 dO_16 (rdS1.ch sfx_cX12_pick_128 60 rfl (by decide +kernel))
theorem dX12_pick_190 : decode cX12_pick 190 = .ok (.iconst 4, 1) := dc0 dO_7 (rdB.ch sfx_cX12_pick_128 62 rfl (by decide +kernel))
theorem dX12_pick_191 : decode cX12_pick 191 = .ok (.iload 9, 2) := dcU1 dO_21 (rdU1.ch sfx_cX12_pick_128 63 rfl (by decide +kernel))
theorem sfx_cX12_pick_192 : (cX12_pick.data.toList.drop 192).take 67 = [9, 96, 104, 16, 6, 96, 46, 54, 10, 21, 4, 153, 0, 13, 21, 5, 21, 10, 184, 2, 66, 153, 0, 25, 21, 7, 153, 0, 13, 21, 10, 21, 8, 184, 2, 66, 153, 0, 10, 21, 10, 54, 8, 4, 54, 7, 132, 9, 1, 167, 255, 159, 21, 7, 54, 6, 21, 7, 154, 0, 6, 167, 255, 133, 4, 54, 4] := by decide +kernel
theorem dX12_pick_193 : decode cX12_pick 193 = .ok (.iadd, 1) := dc0 dO_96 (rdB.ch sfx_cX12_pick_192 1 rfl (by decide +kernel))
theorem dX12_pick_194 : decode cX12_pick 194 = .ok (.imul, 1) := dc0 dO_104 (rdB.ch sfx_cX12_pick_192 2 rfl (by decide +kernel))
theorem dX12_pick_195 : decode cX12_pick 195 = .ok (.bipush 6, 2) := dcS1 dO_16 (rdS1.ch sfx_cX12_pick_192 3 rfl (by decide +kernel))
theorem dX12_pick_197 : decode cX12_pick 197 = .ok (.iadd, 1) := dc0 dO_96 (rdB.ch sfx_cX12_pick_192 5 rfl (by decide +kernel))
theorem dX12_pick_198 : decode cX12_pick 198 = .ok (.iaload, 1) := dc0 dO_46 (rdB.ch sfx_cX12_pick_192 6 rfl (by decide +kernel))
theorem dX12_pick_199 : decode cX12_pick 199 = .ok (.istore 10, 2) := dcU1 dO_54 (rdU1.ch sfx_cX12_pick_192 7 rfl (by decide +kernel))
theorem dX12_pick_201 : decode cX12_pick 201 = .ok (.iload 4, 2) := dcU1 dO_21 (rdU1.ch sfx_cX12_pick_192 9 rfl (by decide +kernel))
theorem dX12_pick_203 : decode cX12_pick 203 = .ok (.ifCond .eq 13, 3) := dcS2 dO_153 (rdS2.ch sfx_cX12_pick_192 11 rfl (by decide +kernel))
theorem dX12_pick_206 : decode cX12_pick 206 = .ok (.iload 5, 2) := dcU1 dO_21 (rdU1.ch sfx_cX12_pick_192 14 rfl (by decide +kernel))
theorem dX12_pick_208 : decode cX12_pick 208 = .ok (.iload 10, 2) := dcU1 dO_21 (rdU1.ch sfx_cX12_pick_192 16 rfl (by decide +kernel))
theorem dX12_pick_210 : decode cX12_pick 210 = .ok (.invokestatic 578, 3) := dcU2 dO_184 (rdU2.ch sfx_cX12_pick_192 18 rfl (by decide +kernel))
theorem dX12_pick_213 : decode cX12_pick 213 = .ok (.ifCond .eq 25, 3) := dcS2 dO_153 (rdS2.ch sfx_cX12_pick_192 21 rfl (by decide +kernel))
theorem dX12_pick_216 : decode cX12_pick 216 = .ok (.iload 7, 2) := dcU1 dO_21 (rdU1.ch sfx_cX12_pick_192 24 rfl (by decide +kernel))
theorem dX12_pick_218 : decode cX12_pick 218 = .ok (.ifCond .eq 13, 3) := dcS2 dO_153 (rdS2.ch sfx_cX12_pick_192 26 rfl (by decide +kernel))
theorem dX12_pick_221 : decode cX12_pick 221 = .ok (.iload 10, 2) := dcU1 dO_21 (rdU1.ch sfx_cX12_pick_192 29 rfl (by decide +kernel))
theorem dX12_pick_223 : decode cX12_pick 223 = .ok (.iload 8, 2) := dcU1 dO_21 (rdU1.ch sfx_cX12_pick_192 31 rfl (by decide +kernel))
theorem dX12_pick_225 : decode cX12_pick 225 = .ok (.invokestatic 578, 3) := dcU2 dO_184 (rdU2.ch sfx_cX12_pick_192 33 rfl (by decide +kernel))
theorem dX12_pick_228 : decode cX12_pick 228 = .ok (.ifCond .eq 10, 3) := dcS2 dO_153 (rdS2.ch sfx_cX12_pick_192 36 rfl (by decide +kernel))
theorem dX12_pick_231 : decode cX12_pick 231 = .ok (.iload 10, 2) := dcU1 dO_21 (rdU1.ch sfx_cX12_pick_192 39 rfl (by decide +kernel))
theorem dX12_pick_233 : decode cX12_pick 233 = .ok (.istore 8, 2) := dcU1 dO_54 (rdU1.ch sfx_cX12_pick_192 41 rfl (by decide +kernel))
theorem dX12_pick_235 : decode cX12_pick 235 = .ok (.iconst 1, 1) := dc0 dO_4 (rdB.ch sfx_cX12_pick_192 43 rfl (by decide +kernel))
theorem dX12_pick_236 : decode cX12_pick 236 = .ok (.istore 7, 2) := dcU1 dO_54 (rdU1.ch sfx_cX12_pick_192 44 rfl (by decide +kernel))
theorem dX12_pick_238 : decode cX12_pick 238 = .ok (.iinc 9 1, 3) := dcI dO_132 (rdI.ch sfx_cX12_pick_192 46 rfl (by decide +kernel))
theorem dX12_pick_241 : decode cX12_pick 241 = .ok (.goto (-97), 3) := dcS2 dO_167 (rdS2.ch sfx_cX12_pick_192 49 rfl (by decide +kernel))
theorem dX12_pick_244 : decode cX12_pick 244 = .ok (.iload 7, 2) := dcU1 dO_21 (rdU1.ch sfx_cX12_pick_192 52 rfl (by decide +kernel))
theorem dX12_pick_246 : decode cX12_pick 246 = .ok (.istore 6, 2) := dcU1 dO_54 (rdU1.ch sfx_cX12_pick_192 54 rfl (by decide +kernel))
theorem dX12_pick_248 : decode cX12_pick 248 = .ok (.iload 7, 2) := dcU1 dO_21 (rdU1.ch sfx_cX12_pick_192 56 rfl (by decide +kernel))
theorem dX12_pick_250 : decode cX12_pick 250 = .ok (.ifCond .ne 6, 3) := dcS2 dO_154 (rdS2.ch sfx_cX12_pick_192 58 rfl (by decide +kernel))
theorem dX12_pick_253 : decode cX12_pick 253 = .ok (.goto (-123), 3) := dcS2 dO_167 (rdS2.ch sfx_cX12_pick_192 61 rfl (by decide +kernel))
theorem sfx_cX12_pick_256 : (cX12_pick.data.toList.drop 256).take 67 = [4, 54, 4, 21, 8, 54, 5, 3, 54, 9, 21, 9, 42, 180, 0, 37, 162, 0, 69, 42, 180, 1, 201, 21, 9, 42, 7, 21, 9, 96, 182, 0, 151, 153, 0, 44, 42, 180, 0, 148, 16, 40, 7, 21, 9, 96, 104, 7, 96, 46, 158, 0, 27, 42, 180, 0, 148, 16, 40, 7, 21, 9, 96, 104, 16, 6, 96] := by decide +kernel
theorem dX12_pick_256 : decode cX12_pick 256 = .ok (.iconst 1, 1) := dc0 dO_4 (rdB.ch sfx_cX12_pick_256 0 rfl (by decide +kernel))
theorem dX12_pick_257 : decode cX12_pick 257 = .ok (.istore 4, 2) := dcU1 dO_54 (rdU1.ch sfx_cX12_pick_256 1 rfl (by decide +kernel))
theorem dX12_pick_259 : decode cX12_pick 259 = .ok (.iload 8, 2) := dcU1 dO_21 (rdU1.ch sfx_cX12_pick_256 3 rfl (by decide +kernel))
theorem dX12_pick_261 : decode cX12_pick 261 = .ok (.istore 5, 2) := dcU1 dO_54 (rdU1.ch sfx_cX12_pick_256 5 rfl (by decide +kernel))
theorem dX12_pick_263 : decode cX12_pick 263 = .ok (.iconst 0, 1) := dc0 dO_3 (rdB.ch sfx_cX12_pick_256 7 rfl (by decide +kernel))
theorem dX12_pick_264 : decode cX12_pick 264 = .ok (.istore 9, 2) := dcU1 dO_54 (rdU1.ch sfx_cX12_pick_256 8 rfl (by decide +kernel))
theorem dX12_pick_266 : decode cX12_pick 266 = .ok (.iload 9, 2) := dcU1 dO_21 (rdU1.ch sfx_cX12_pick_256 10 rfl (by decide +kernel))
theorem dX12_pick_268 : decode cX12_pick 268 = .ok (.aload_n 0, 1) := dc0 dO_42 (rdB.ch sfx_cX12_pick_256 12 rfl (by decide +kernel))
theorem dX12_pick_269 : decode cX12_pick 269 = .ok (.getfield 37, 3) := dcU2 dO_180 (rdU2.ch sfx_cX12_pick_256 13 rfl (by decide +kernel))
theorem dX12_pick_272 : decode cX12_pick 272 = .ok (.if_icmp .ge 69, 3) := dcS2 dO_162 (rdS2.ch sfx_cX12_pick_256 16 rfl (by decide +kernel))
theorem dX12_pick_275 : decode cX12_pick 275 = .ok (.aload_n 0, 1) := dc0 dO_42 (rdB.ch sfx_cX12_pick_256 19 rfl (by decide +kernel))
theorem dX12_pick_276 : decode cX12_pick 276 = .ok (.getfield 457, 3) := dcU2 dO_180 (rdU2.ch sfx_cX12_pick_256 20 rfl (by decide +kernel))
theorem dX12_pick_279 : decode cX12_pick 279 = .ok (.iload 9, 2) := dcU1 dO_21 (rdU1.ch sfx_cX12_pick_256 23 rfl (by decide +kernel))
theorem dX12_pick_281 : decode cX12_pick 281 = .ok (.aload_n 0, 1) := dc0 dO_42 (rdB.ch sfx_cX12_pick_256 25 rfl (by decide +kernel))
theorem dX12_pick_282 : decode cX12_pick 282 = .ok (.iconst 4, 1) := dc0 dO_7 (rdB.ch sfx_cX12_pick_256 26 rfl (by decide +kernel))
theorem dX12_pick_283 : decode cX12_pick 283 = .ok (.iload 9, 2) := dcU1 dO_21 (rdU1.ch sfx_cX12_pick_256 27 rfl (by decide +kernel))
theorem dX12_pick_285 : decode cX12_pick 285 = .ok (.iadd, 1) := dc0 dO_96 (rdB.ch sfx_cX12_pick_256 29 rfl (by decide +kernel))
theorem dX12_pick_286 : decode cX12_pick 286 = .ok (.invokevirtual 151, 3) := dcU2 dO_182 (rdU2.ch sfx_cX12_pick_256 30 rfl (by decide +kernel))
theorem dX12_pick_289 : decode cX12_pick 289 = .ok (.ifCond .eq 44, 3) := dcS2 dO_153 (rdS2.ch sfx_cX12_pick_256 33 rfl (by decide +kernel))
theorem dX12_pick_292 : decode cX12_pick 292 = .ok (.aload_n 0, 1) := dc0 dO_42 (rdB.ch sfx_cX12_pick_256 36 rfl (by decide +kernel))
theorem dX12_pick_293 : decode cX12_pick 293 = .ok (.getfield 148, 3) := dcU2 dO_180 (rdU2.ch sfx_cX12_pick_256 37 rfl (by decide +kernel))
theorem dX12_pick_296 : decode cX12_pick 296 = .ok (.bipush 40, 2) := dcS1 dO_16 (rdS1.ch sfx_cX12_pick_256 40 rfl (by decide +kernel))
theorem dX12_pick_298 : decode cX12_pick 298 = .ok (.iconst 4, 1) := dc0 dO_7 (rdB.ch sfx_cX12_pick_256 42 rfl (by decide +kernel))
theorem dX12_pick_299 : decode cX12_pick 299 = .ok (.iload 9, 2) := dcU1 dO_21 (rdU1.ch sfx_cX12_pick_256 43 rfl (by decide +kernel))
theorem dX12_pick_301 : decode cX12_pick 301 = .ok (.iadd, 1) := dc0 dO_96 (rdB.ch sfx_cX12_pick_256 45 rfl (by decide +kernel))
theorem dX12_pick_302 : decode cX12_pick 302 = .ok (.imul, 1) := dc0 dO_104 (rdB.ch sfx_cX12_pick_256 46 rfl (by decide +kernel))
theorem dX12_pick_303 : decode cX12_pick 303 = .ok (.iconst 4, 1) := dc0 dO_7 (rdB.ch sfx_cX12_pick_256 47 rfl (by decide +kernel))
theorem dX12_pick_304 : decode cX12_pick 304 = .ok (.iadd, 1) := dc0 dO_96 (rdB.ch sfx_cX12_pick_256 48 rfl (by decide +kernel))
theorem dX12_pick_305 : decode cX12_pick 305 = .ok (.iaload, 1) := dc0 dO_46 (rdB.ch sfx_cX12_pick_256 49 rfl (by decide +kernel))
theorem dX12_pick_306 : decode cX12_pick 306 = .ok (.ifCond .le 27, 3) := dcS2 dO_158 (rdS2.ch sfx_cX12_pick_256 50 rfl (by decide +kernel))
theorem dX12_pick_309 : decode cX12_pick 309 = .ok (.aload_n 0, 1) := dc0 dO_42 (rdB.ch sfx_cX12_pick_256 53 rfl (by decide +kernel))
theorem dX12_pick_310 : decode cX12_pick 310 = .ok (.getfield 148, 3) := dcU2 dO_180 (rdU2.ch sfx_cX12_pick_256 54 rfl (by decide +kernel))
theorem dX12_pick_313 : decode cX12_pick 313 = .ok (.bipush 40, 2) := dcS1 dO_16 (rdS1.ch sfx_cX12_pick_256 57 rfl (by decide +kernel))
theorem dX12_pick_315 : decode cX12_pick 315 = .ok (.iconst 4, 1) := dc0 dO_7 (rdB.ch sfx_cX12_pick_256 59 rfl (by decide +kernel))
theorem dX12_pick_316 : decode cX12_pick 316 = .ok (.iload 9, 2) := dcU1 dO_21 (rdU1.ch sfx_cX12_pick_256 60 rfl (by decide +kernel))
theorem dX12_pick_318 : decode cX12_pick 318 = .ok (.iadd, 1) := dc0 dO_96 (rdB.ch sfx_cX12_pick_256 62 rfl (by decide +kernel))
theorem dX12_pick_319 : decode cX12_pick 319 = .ok (.imul, 1) := dc0 dO_104 (rdB.ch sfx_cX12_pick_256 63 rfl (by decide +kernel))
theorem sfx_cX12_pick_320 : (cX12_pick.data.toList.drop 320).take 67 = [16, 6, 96, 46, 21, 8, 160, 0, 7, 4, 167, 0, 4, 3, 84, 132, 9, 1, 167, 255, 184, 42, 27, 28, 182, 2, 63, 54, 9, 29, 18, 29, 159, 0, 15, 42, 27, 21, 9, 29, 28, 182, 2, 56, 153, 0, 6, 21, 9, 62, 167, 255, 16, 29, 172] := by decide +kernel
theorem dX12_pick_320 : decode cX12_pick 320 = .ok (.bipush 6, 2) := dcS1 dO_16 (rdS1.ch sfx_cX12_pick_320 0 rfl (by decide +kernel))
theorem dX12_pick_322 : decode cX12_pick 322 = .ok (.iadd, 1) := dc0 dO_96 (rdB.ch sfx_cX12_pick_320 2 rfl (by decide +kernel))
theorem dX12_pick_323 : decode cX12_pick 323 = .ok (.iaload, 1) := dc0 dO_46 (rdB.ch sfx_cX12_pick_320 3 rfl (by decide +kernel))
theorem dX12_pick_324 : decode cX12_pick 324 = .ok (.iload 8, 2) := dcU1 dO_21 (rdU1.ch sfx_cX12_pick_320 4 rfl (by decide +kernel))
theorem dX12_pick_326 : decode cX12_pick 326 = .ok (.if_icmp .ne 7, 3) := dcS2 dO_160 (rdS2.ch sfx_cX12_pick_320 6 rfl (by decide +kernel))
theorem dX12_pick_329 : decode cX12_pick 329 = .ok (.iconst 1, 1) := dc0 dO_4 (rdB.ch sfx_cX12_pick_320 9 rfl (by decide +kernel))
theorem dX12_pick_330 : decode cX12_pick 330 = .ok (.goto 4, 3) := dcS2 dO_167 (rdS2.ch sfx_cX12_pick_320 10 rfl (by decide +kernel))
theorem dX12_pick_333 : decode cX12_pick 333 = .ok (.iconst 0, 1) := dc0 dO_3 (rdB.ch sfx_cX12_pick_320 13 rfl (by decide +kernel))
theorem dX12_pick_334 : decode cX12_pick 334 = .ok (.bastore, 1) := dc0 dO_84 (rdB.ch sfx_cX12_pick_320 14 rfl (by decide +kernel))
theorem dX12_pick_335 : decode cX12_pick 335 = .ok (.iinc 9 1, 3) := dcI dO_132 (rdI.ch sfx_cX12_pick_320 15 rfl (by decide +kernel))
theorem dX12_pick_338 : decode cX12_pick 338 = .ok (.goto (-72), 3) := dcS2 dO_167 (rdS2.ch sfx_cX12_pick_320 18 rfl (by decide +kernel))
theorem dX12_pick_341 : decode cX12_pick 341 = .ok (.aload_n 0, 1) := dc0 dO_42 (rdB.ch sfx_cX12_pick_320 21 rfl (by decide +kernel))
theorem dX12_pick_342 : decode cX12_pick 342 = .ok (.iload_n 1, 1) := dc0 dO_27 (rdB.ch sfx_cX12_pick_320 22 rfl (by decide +kernel))
theorem dX12_pick_343 : decode cX12_pick 343 = .ok (.iload_n 2, 1) := dc0 dO_28 (rdB.ch sfx_cX12_pick_320 23 rfl (by decide +kernel))
theorem dX12_pick_344 : decode cX12_pick 344 = .ok (.invokevirtual 575, 3) := dcU2 dO_182 (rdU2.ch sfx_cX12_pick_320 24 rfl (by decide +kernel))
theorem dX12_pick_347 : decode cX12_pick 347 = .ok (.istore 9, 2) := dcU1 dO_54 (rdU1.ch sfx_cX12_pick_320 27 rfl (by decide +kernel))
theorem dX12_pick_349 : decode cX12_pick 349 = .ok (.iload_n 3, 1) := dc0 dO_29 (rdB.ch sfx_cX12_pick_320 29 rfl (by decide +kernel))
theorem dX12_pick_350 : decode cX12_pick 350 = .ok (.ldc 29, 2) := dcU1 dO_18 (rdU1.ch sfx_cX12_pick_320 30 rfl (by decide +kernel))
theorem dX12_pick_352 : decode cX12_pick 352 = .ok (.if_icmp .eq 15, 3) := dcS2 dO_159 (rdS2.ch sfx_cX12_pick_320 32 rfl (by decide +kernel))
theorem dX12_pick_355 : decode cX12_pick 355 = .ok (.aload_n 0, 1) := dc0 dO_42 (rdB.ch sfx_cX12_pick_320 35 rfl (by decide +kernel))
theorem dX12_pick_356 : decode cX12_pick 356 = .ok (.iload_n 1, 1) := dc0 dO_27 (rdB.ch sfx_cX12_pick_320 36 rfl (by decide +kernel))
theorem dX12_pick_357 : decode cX12_pick 357 = .ok (.iload 9, 2) := dcU1 dO_21 (rdU1.ch sfx_cX12_pick_320 37 rfl (by decide +kernel))
theorem dX12_pick_359 : decode cX12_pick 359 = .ok (.iload_n 3, 1) := dc0 dO_29 (rdB.ch sfx_cX12_pick_320 39 rfl (by decide +kernel))
theorem dX12_pick_360 : decode cX12_pick 360 = .ok (.iload_n 2, 1) := dc0 dO_28 (rdB.ch sfx_cX12_pick_320 40 rfl (by decide +kernel))
theorem dX12_pick_361 : decode cX12_pick 361 = .ok (.invokevirtual 568, 3) := dcU2 dO_182 (rdU2.ch sfx_cX12_pick_320 41 rfl (by decide +kernel))
theorem dX12_pick_364 : decode cX12_pick 364 = .ok (.ifCond .eq 6, 3) := dcS2 dO_153 (rdS2.ch sfx_cX12_pick_320 44 rfl (by decide +kernel))
theorem dX12_pick_367 : decode cX12_pick 367 = .ok (.iload 9, 2) := dcU1 dO_21 (rdU1.ch sfx_cX12_pick_320 47 rfl (by decide +kernel))
theorem dX12_pick_369 : decode cX12_pick 369 = .ok (.istore_n 3, 1) := dc0 dO_62 (rdB.ch sfx_cX12_pick_320 49 rfl (by decide +kernel))
theorem dX12_pick_370 : decode cX12_pick 370 = .ok (.goto (-240), 3) := dcS2 dO_167 (rdS2.ch sfx_cX12_pick_320 50 rfl (by decide +kernel))
theorem dX12_pick_373 : decode cX12_pick 373 = .ok (.iload_n 3, 1) := dc0 dO_29 (rdB.ch sfx_cX12_pick_320 53 rfl (by decide +kernel))
theorem dX12_pick_374 : decode cX12_pick 374 = .ok (.ireturn, 1) := dc0 dO_172 (rdB.ch sfx_cX12_pick_320 54 rfl (by decide +kernel))
theorem dX12_raise_0 : decode cX12_raise 0 = .ok (.aload_n 0, 1) := dc0 dO_42 (by decide +kernel)
theorem dX12_raise_1 : decode cX12_raise 1 = .ok (.iload_n 1, 1) := dc0 dO_27 (by decide +kernel)
theorem dX12_raise_2 : decode cX12_raise 2 = .ok (.invokevirtual 66, 3) := dcU2 dO_182 (by decide +kernel)
theorem dX12_raise_5 : decode cX12_raise 5 = .ok (.ifCond .ne 5, 3) := dcS2 dO_154 (by decide +kernel)
theorem dX12_raise_8 : decode cX12_raise 8 = .ok (.iconst (-1), 1) := dc0 dO_2 (by decide +kernel)
theorem dX12_raise_9 : decode cX12_raise 9 = .ok (.ireturn, 1) := dc0 dO_172 (by decide +kernel)
theorem dX12_raise_10 : decode cX12_raise 10 = .ok (.aload_n 0, 1) := dc0 dO_42 (by decide +kernel)
theorem dX12_raise_11 : decode cX12_raise 11 = .ok (.getfield 53, 3) := dcU2 dO_180 (by decide +kernel)
theorem dX12_raise_14 : decode cX12_raise 14 = .ok (.iload_n 1, 1) := dc0 dO_27 (by decide +kernel)
theorem dX12_raise_15 : decode cX12_raise 15 = .ok (.baload, 1) := dc0 dO_51 (by decide +kernel)
theorem dX12_raise_16 : decode cX12_raise 16 = .ok (.ifCond .eq 7, 3) := dcS2 dO_153 (by decide +kernel)
theorem dX12_raise_19 : decode cX12_raise 19 = .ok (.iconst 1, 1) := dc0 dO_4 (by decide +kernel)
theorem dX12_raise_20 : decode cX12_raise 20 = .ok (.goto 4, 3) := dcS2 dO_167 (by decide +kernel)
theorem dX12_raise_23 : decode cX12_raise 23 = .ok (.iconst 0, 1) := dc0 dO_3 (by decide +kernel)
theorem dX12_raise_24 : decode cX12_raise 24 = .ok (.istore_n 3, 1) := dc0 dO_62 (by decide +kernel)
theorem dX12_raise_25 : decode cX12_raise 25 = .ok (.iload_n 2, 1) := dc0 dO_28 (by decide +kernel)
theorem dX12_raise_26 : decode cX12_raise 26 = .ok (.ifCond .ne 9, 3) := dcS2 dO_154 (by decide +kernel)
theorem dX12_raise_29 : decode cX12_raise 29 = .ok (.iload_n 3, 1) := dc0 dO_29 (by decide +kernel)
theorem dX12_raise_30 : decode cX12_raise 30 = .ok (.ifCond .ne 5, 3) := dcS2 dO_154 (by decide +kernel)
theorem dX12_raise_33 : decode cX12_raise 33 = .ok (.iconst 0, 1) := dc0 dO_3 (by decide +kernel)
theorem dX12_raise_34 : decode cX12_raise 34 = .ok (.ireturn, 1) := dc0 dO_172 (by decide +kernel)
theorem dX12_raise_35 : decode cX12_raise 35 = .ok (.aload_n 0, 1) := dc0 dO_42 (by decide +kernel)
theorem dX12_raise_36 : decode cX12_raise 36 = .ok (.getfield 53, 3) := dcU2 dO_180 (by decide +kernel)
theorem dX12_raise_39 : decode cX12_raise 39 = .ok (.iload_n 1, 1) := dc0 dO_27 (by decide +kernel)
theorem dX12_raise_40 : decode cX12_raise 40 = .ok (.iload_n 2, 1) := dc0 dO_28 (by decide +kernel)
theorem dX12_raise_41 : decode cX12_raise 41 = .ok (.bastore, 1) := dc0 dO_84 (by decide +kernel)
theorem dX12_raise_42 : decode cX12_raise 42 = .ok (.iload_n 2, 1) := dc0 dO_28 (by decide +kernel)
theorem dX12_raise_43 : decode cX12_raise 43 = .ok (.ifCond .eq 33, 3) := dcS2 dO_153 (by decide +kernel)
theorem dX12_raise_46 : decode cX12_raise 46 = .ok (.aload_n 0, 1) := dc0 dO_42 (by decide +kernel)
theorem dX12_raise_47 : decode cX12_raise 47 = .ok (.aload_n 0, 1) := dc0 dO_42 (by decide +kernel)
theorem dX12_raise_48 : decode cX12_raise 48 = .ok (.getfield 40, 3) := dcU2 dO_180 (by decide +kernel)
theorem dX12_raise_51 : decode cX12_raise 51 = .ok (.iconst 2, 1) := dc0 dO_5 (by decide +kernel)
theorem dX12_raise_52 : decode cX12_raise 52 = .ok (.iload_n 1, 1) := dc0 dO_27 (by decide +kernel)
theorem dX12_raise_53 : decode cX12_raise 53 = .ok (.imul, 1) := dc0 dO_104 (by decide +kernel)
theorem dX12_raise_54 : decode cX12_raise 54 = .ok (.iaload, 1) := dc0 dO_46 (by decide +kernel)
theorem dX12_raise_55 : decode cX12_raise 55 = .ok (.iload_n 1, 1) := dc0 dO_27 (by decide +kernel)
theorem dX12_raise_56 : decode cX12_raise 56 = .ok (.invokevirtual 603, 3) := dcU2 dO_182 (by decide +kernel)
theorem dX12_raise_59 : decode cX12_raise 59 = .ok (.aload_n 0, 1) := dc0 dO_42 (by decide +kernel)
theorem dX12_raise_60 : decode cX12_raise 60 = .ok (.aload_n 0, 1) := dc0 dO_42 (by decide +kernel)
theorem dX12_raise_61 : decode cX12_raise 61 = .ok (.getfield 40, 3) := dcU2 dO_180 (by decide +kernel)
theorem dX12_raise_64 : decode cX12_raise 64 = .ok (.iconst 2, 1) := dc0 dO_5 (by decide +kernel)
theorem dX12_raise_65 : decode cX12_raise 65 = .ok (.iload_n 1, 1) := dc0 dO_27 (by decide +kernel)
theorem dX12_raise_66 : decode cX12_raise 66 = .ok (.imul, 1) := dc0 dO_104 (by decide +kernel)
theorem dX12_raise_67 : decode cX12_raise 67 = .ok (.iconst 1, 1) := dc0 dO_4 (by decide +kernel)
theorem dX12_raise_68 : decode cX12_raise 68 = .ok (.iadd, 1) := dc0 dO_96 (by decide +kernel)
theorem dX12_raise_69 : decode cX12_raise 69 = .ok (.iaload, 1) := dc0 dO_46 (by decide +kernel)
theorem dX12_raise_70 : decode cX12_raise 70 = .ok (.iload_n 1, 1) := dc0 dO_27 (by decide +kernel)
theorem dX12_raise_71 : decode cX12_raise 71 = .ok (.invokevirtual 603, 3) := dcU2 dO_182 (by decide +kernel)
theorem dX12_raise_74 : decode cX12_raise 74 = .ok (.iload_n 3, 1) := dc0 dO_29 (by decide +kernel)
theorem dX12_raise_75 : decode cX12_raise 75 = .ok (.ireturn, 1) := dc0 dO_172 (by decide +kernel)
theorem dX12_raise_76 : decode cX12_raise 76 = .ok (.iload_n 1, 1) := dc0 dO_27 (by decide +kernel)
theorem dX12_raise_77 : decode cX12_raise 77 = .ok (.iconst 0, 1) := dc0 dO_3 (by decide +kernel)
theorem dX12_raise_78 : decode cX12_raise 78 = .ok (.iconst 0, 1) := dc0 dO_3 (by decide +kernel)
theorem dX12_raise_79 : decode cX12_raise 79 = .ok (.invokestatic 545, 3) := dcU2 dO_184 (by decide +kernel)
theorem dX12_raise_82 : decode cX12_raise 82 = .ok (.istore 4, 2) := dcU1 dO_54 (by decide +kernel)
theorem dX12_raise_84 : decode cX12_raise 84 = .ok (.iload 4, 2) := dcU1 dO_21 (by decide +kernel)
theorem dX12_raise_86 : decode cX12_raise 86 = .ok (.iload_n 1, 1) := dc0 dO_27 (by decide +kernel)
theorem dX12_raise_87 : decode cX12_raise 87 = .ok (.iconst 2, 1) := dc0 dO_5 (by decide +kernel)
theorem dX12_raise_88 : decode cX12_raise 88 = .ok (.iconst 0, 1) := dc0 dO_3 (by decide +kernel)
theorem dX12_raise_89 : decode cX12_raise 89 = .ok (.invokestatic 545, 3) := dcU2 dO_184 (by decide +kernel)
theorem dX12_raise_92 : decode cX12_raise 92 = .ok (.if_icmp .ge 53, 3) := dcS2 dO_162 (by decide +kernel)
theorem dX12_raise_95 : decode cX12_raise 95 = .ok (.aload_n 0, 1) := dc0 dO_42 (by decide +kernel)
theorem dX12_raise_96 : decode cX12_raise 96 = .ok (.sipush 130, 3) := dcS2 dO_17 (by decide +kernel)
theorem dX12_raise_99 : decode cX12_raise 99 = .ok (.iload 4, 2) := dcU1 dO_21 (by decide +kernel)
theorem dX12_raise_101 : decode cX12_raise 101 = .ok (.iadd, 1) := dc0 dO_96 (by decide +kernel)
theorem dX12_raise_102 : decode cX12_raise 102 = .ok (.invokevirtual 539, 3) := dcU2 dO_182 (by decide +kernel)
theorem dX12_raise_105 : decode cX12_raise 105 = .ok (.aload_n 0, 1) := dc0 dO_42 (by decide +kernel)
theorem dX12_raise_106 : decode cX12_raise 106 = .ok (.sipush 530, 3) := dcS2 dO_17 (by decide +kernel)
theorem dX12_raise_109 : decode cX12_raise 109 = .ok (.iload 4, 2) := dcU1 dO_21 (by decide +kernel)
theorem dX12_raise_111 : decode cX12_raise 111 = .ok (.iadd, 1) := dc0 dO_96 (by decide +kernel)
theorem dX12_raise_112 : decode cX12_raise 112 = .ok (.invokevirtual 539, 3) := dcU2 dO_182 (by decide +kernel)
theorem dX12_raise_115 : decode cX12_raise 115 = .ok (.aload_n 0, 1) := dc0 dO_42 (by decide +kernel)
theorem dX12_raise_116 : decode cX12_raise 116 = .ok (.getfield 427, 3) := dcU2 dO_180 (by decide +kernel)
theorem dX12_raise_119 : decode cX12_raise 119 = .ok (.iload 4, 2) := dcU1 dO_21 (by decide +kernel)
theorem dX12_raise_121 : decode cX12_raise 121 = .ok (.iconst 0, 1) := dc0 dO_3 (by decide +kernel)
theorem dX12_raise_122 : decode cX12_raise 122 = .ok (.bastore, 1) := dc0 dO_84 (by decide +kernel)
theorem dX12_raise_123 : decode cX12_raise 123 = .ok (.aload_n 0, 1) := dc0 dO_42 (by decide +kernel)
theorem dX12_raise_124 : decode cX12_raise 124 = .ok (.getfield 433, 3) := dcU2 dO_180 (by decide +kernel)
theorem dX12_raise_127 : decode cX12_raise 127 = .ok (.iload 4, 2) := dcU1 dO_21 (by decide +kernel)
theorem sfx_cX12_raise_128 : (cX12_raise.data.toList.drop 128).take 67 = [4, 2, 79, 42, 180, 1, 183, 21, 4, 2, 79, 132, 4, 1, 167, 255, 198, 42, 42, 180, 0, 40, 5, 27, 104, 46, 182, 2, 88, 42, 42, 180, 0, 40, 5, 27, 104, 4, 96, 46, 182, 2, 88, 29, 172] := by decide +kernel
theorem dX12_raise_129 : decode cX12_raise 129 = .ok (.iconst (-1), 1) := dc0 dO_2 (rdB.ch sfx_cX12_raise_128 1 rfl (by decide +kernel))
theorem dX12_raise_130 : decode cX12_raise 130 = .ok (.iastore, 1) := dc0 dO_79 (rdB.ch sfx_cX12_raise_128 2 rfl (by decide +kernel))
theorem dX12_raise_131 : decode cX12_raise 131 = .ok (.aload_n 0, 1) := dc0 dO_42 (rdB.ch sfx_cX12_raise_128 3 rfl (by decide +kernel))
theorem dX12_raise_132 : decode cX12_raise 132 = .ok (.getfield 439, 3) := dcU2 dO_180 (rdU2.ch sfx_cX12_raise_128 4 rfl (by decide +kernel))
theorem dX12_raise_135 : decode cX12_raise 135 = .ok (.iload 4, 2) := dcU1 dO_21 (rdU1.ch sfx_cX12_raise_128 7 rfl (by decide +kernel))
theorem dX12_raise_137 : decode cX12_raise 137 = .ok (.iconst (-1), 1) := dc0 dO_2 (rdB.ch sfx_cX12_raise_128 9 rfl (by decide +kernel))
theorem dX12_raise_138 : decode cX12_raise 138 = .ok (.iastore, 1) := dc0 dO_79 (rdB.ch sfx_cX12_raise_128 10 rfl (by decide +kernel))
theorem dX12_raise_139 : decode cX12_raise 139 = .ok (.iinc 4 1, 3) := dcI dO_132 (rdI.ch sfx_cX12_raise_128 11 rfl (by decide +kernel))
theorem dX12_raise_142 : decode cX12_raise 142 = .ok (.goto (-58), 3) := dcS2 dO_167 (rdS2.ch sfx_cX12_raise_128 14 rfl (by decide +kernel))
theorem dX12_raise_145 : decode cX12_raise 145 = .ok (.aload_n 0, 1) := dc0 dO_42 (rdB.ch sfx_cX12_raise_128 17 rfl (by decide +kernel))
theorem dX12_raise_146 : decode cX12_raise 146 = .ok (.aload_n 0, 1) := dc0 dO_42 (rdB.ch sfx_cX12_raise_128 18 rfl (by decide +kernel))
theorem dX12_raise_147 : decode cX12_raise 147 = .ok (.getfield 40, 3) := dcU2 dO_180 (rdU2.ch sfx_cX12_raise_128 19 rfl (by decide +kernel))
theorem dX12_raise_150 : decode cX12_raise 150 = .ok (.iconst 2, 1) := dc0 dO_5 (rdB.ch sfx_cX12_raise_128 22 rfl (by decide +kernel))
theorem dX12_raise_151 : decode cX12_raise 151 = .ok (.iload_n 1, 1) := dc0 dO_27 (rdB.ch sfx_cX12_raise_128 23 rfl (by decide +kernel))
theorem dX12_raise_152 : decode cX12_raise 152 = .ok (.imul, 1) := dc0 dO_104 (rdB.ch sfx_cX12_raise_128 24 rfl (by decide +kernel))
theorem dX12_raise_153 : decode cX12_raise 153 = .ok (.iaload, 1) := dc0 dO_46 (rdB.ch sfx_cX12_raise_128 25 rfl (by decide +kernel))
theorem dX12_raise_154 : decode cX12_raise 154 = .ok (.invokevirtual 600, 3) := dcU2 dO_182 (rdU2.ch sfx_cX12_raise_128 26 rfl (by decide +kernel))
theorem dX12_raise_157 : decode cX12_raise 157 = .ok (.aload_n 0, 1) := dc0 dO_42 (rdB.ch sfx_cX12_raise_128 29 rfl (by decide +kernel))
theorem dX12_raise_158 : decode cX12_raise 158 = .ok (.aload_n 0, 1) := dc0 dO_42 (rdB.ch sfx_cX12_raise_128 30 rfl (by decide +kernel))
theorem dX12_raise_159 : decode cX12_raise 159 = .ok (.getfield 40, 3) := dcU2 dO_180 (rdU2.ch sfx_cX12_raise_128 31 rfl (by decide +kernel))
theorem dX12_raise_162 : decode cX12_raise 162 = .ok (.iconst 2, 1) := dc0 dO_5 (rdB.ch sfx_cX12_raise_128 34 rfl (by decide +kernel))
theorem dX12_raise_163 : decode cX12_raise 163 = .ok (.iload_n 1, 1) := dc0 dO_27 (rdB.ch sfx_cX12_raise_128 35 rfl (by decide +kernel))
theorem dX12_raise_164 : decode cX12_raise 164 = .ok (.imul, 1) := dc0 dO_104 (rdB.ch sfx_cX12_raise_128 36 rfl (by decide +kernel))
theorem dX12_raise_165 : decode cX12_raise 165 = .ok (.iconst 1, 1) := dc0 dO_4 (rdB.ch sfx_cX12_raise_128 37 rfl (by decide +kernel))
theorem dX12_raise_166 : decode cX12_raise 166 = .ok (.iadd, 1) := dc0 dO_96 (rdB.ch sfx_cX12_raise_128 38 rfl (by decide +kernel))
theorem dX12_raise_167 : decode cX12_raise 167 = .ok (.iaload, 1) := dc0 dO_46 (rdB.ch sfx_cX12_raise_128 39 rfl (by decide +kernel))
theorem dX12_raise_168 : decode cX12_raise 168 = .ok (.invokevirtual 600, 3) := dcU2 dO_182 (rdU2.ch sfx_cX12_raise_128 40 rfl (by decide +kernel))
theorem dX12_raise_171 : decode cX12_raise 171 = .ok (.iload_n 3, 1) := dc0 dO_29 (rdB.ch sfx_cX12_raise_128 43 rfl (by decide +kernel))
theorem dX12_raise_172 : decode cX12_raise 172 = .ok (.ireturn, 1) := dc0 dO_172 (rdB.ch sfx_cX12_raise_128 44 rfl (by decide +kernel))
theorem dX12_rethink_0 : decode cX12_rethink 0 = .ok (.iconst 0, 1) := dc0 dO_3 (by decide +kernel)
theorem dX12_rethink_1 : decode cX12_rethink 1 = .ok (.istore_n 1, 1) := dc0 dO_60 (by decide +kernel)
theorem dX12_rethink_2 : decode cX12_rethink 2 = .ok (.iload_n 1, 1) := dc0 dO_27 (by decide +kernel)
theorem dX12_rethink_3 : decode cX12_rethink 3 = .ok (.aload_n 0, 1) := dc0 dO_42 (by decide +kernel)
theorem dX12_rethink_4 : decode cX12_rethink 4 = .ok (.getfield 34, 3) := dcU2 dO_180 (by decide +kernel)
theorem dX12_rethink_7 : decode cX12_rethink 7 = .ok (.if_icmp .ge 14, 3) := dcS2 dO_162 (by decide +kernel)
theorem dX12_rethink_10 : decode cX12_rethink 10 = .ok (.aload_n 0, 1) := dc0 dO_42 (by decide +kernel)
theorem dX12_rethink_11 : decode cX12_rethink 11 = .ok (.iload_n 1, 1) := dc0 dO_27 (by decide +kernel)
theorem dX12_rethink_12 : decode cX12_rethink 12 = .ok (.invokevirtual 600, 3) := dcU2 dO_182 (by decide +kernel)
theorem dX12_rethink_15 : decode cX12_rethink 15 = .ok (.iinc 1 1, 3) := dcI dO_132 (by decide +kernel)
theorem dX12_rethink_18 : decode cX12_rethink 18 = .ok (.goto (-16), 3) := dcS2 dO_167 (by decide +kernel)
theorem dX12_rethink_21 : decode cX12_rethink 21 = .ok (.iconst 0, 1) := dc0 dO_3 (by decide +kernel)
theorem dX12_rethink_22 : decode cX12_rethink 22 = .ok (.istore_n 1, 1) := dc0 dO_60 (by decide +kernel)
theorem dX12_rethink_23 : decode cX12_rethink 23 = .ok (.iload_n 1, 1) := dc0 dO_27 (by decide +kernel)
theorem dX12_rethink_24 : decode cX12_rethink 24 = .ok (.aload_n 0, 1) := dc0 dO_42 (by decide +kernel)
theorem dX12_rethink_25 : decode cX12_rethink 25 = .ok (.getfield 34, 3) := dcU2 dO_180 (by decide +kernel)
theorem dX12_rethink_28 : decode cX12_rethink 28 = .ok (.if_icmp .ge 40, 3) := dcS2 dO_162 (by decide +kernel)
theorem dX12_rethink_31 : decode cX12_rethink 31 = .ok (.iconst 0, 1) := dc0 dO_3 (by decide +kernel)
theorem dX12_rethink_32 : decode cX12_rethink 32 = .ok (.istore_n 2, 1) := dc0 dO_61 (by decide +kernel)
theorem dX12_rethink_33 : decode cX12_rethink 33 = .ok (.iload_n 2, 1) := dc0 dO_28 (by decide +kernel)
theorem dX12_rethink_34 : decode cX12_rethink 34 = .ok (.aload_n 0, 1) := dc0 dO_42 (by decide +kernel)
theorem dX12_rethink_35 : decode cX12_rethink 35 = .ok (.getfield 37, 3) := dcU2 dO_180 (by decide +kernel)
theorem dX12_rethink_38 : decode cX12_rethink 38 = .ok (.if_icmp .ge 24, 3) := dcS2 dO_162 (by decide +kernel)
theorem dX12_rethink_41 : decode cX12_rethink 41 = .ok (.aload_n 0, 1) := dc0 dO_42 (by decide +kernel)
theorem dX12_rethink_42 : decode cX12_rethink 42 = .ok (.iload_n 2, 1) := dc0 dO_28 (by decide +kernel)
theorem dX12_rethink_43 : decode cX12_rethink 43 = .ok (.iload_n 1, 1) := dc0 dO_27 (by decide +kernel)
theorem dX12_rethink_44 : decode cX12_rethink 44 = .ok (.invokevirtual 562, 3) := dcU2 dO_182 (by decide +kernel)
theorem dX12_rethink_47 : decode cX12_rethink 47 = .ok (.ifCond .eq 9, 3) := dcS2 dO_153 (by decide +kernel)
theorem dX12_rethink_50 : decode cX12_rethink 50 = .ok (.aload_n 0, 1) := dc0 dO_42 (by decide +kernel)
theorem dX12_rethink_51 : decode cX12_rethink 51 = .ok (.iload_n 1, 1) := dc0 dO_27 (by decide +kernel)
theorem dX12_rethink_52 : decode cX12_rethink 52 = .ok (.iload_n 2, 1) := dc0 dO_28 (by decide +kernel)
theorem dX12_rethink_53 : decode cX12_rethink 53 = .ok (.invokevirtual 603, 3) := dcU2 dO_182 (by decide +kernel)
theorem dX12_rethink_56 : decode cX12_rethink 56 = .ok (.iinc 2 1, 3) := dcI dO_132 (by decide +kernel)
theorem dX12_rethink_59 : decode cX12_rethink 59 = .ok (.goto (-26), 3) := dcS2 dO_167 (by decide +kernel)
theorem dX12_rethink_62 : decode cX12_rethink 62 = .ok (.iinc 1 1, 3) := dcI dO_132 (by decide +kernel)
theorem dX12_rethink_65 : decode cX12_rethink 65 = .ok (.goto (-42), 3) := dcS2 dO_167 (by decide +kernel)
theorem dX12_rethink_68 : decode cX12_rethink 68 = .ok (.return_, 1) := dc0 dO_177 (by decide +kernel)
theorem dX12_right_0 : decode cX12_right 0 = .ok (.aload_n 0, 1) := dc0 dO_42 (by decide +kernel)
theorem dX12_right_1 : decode cX12_right 1 = .ok (.iload_n 1, 1) := dc0 dO_27 (by decide +kernel)
theorem dX12_right_2 : decode cX12_right 2 = .ok (.invokevirtual 92, 3) := dcU2 dO_182 (by decide +kernel)
theorem dX12_right_5 : decode cX12_right 5 = .ok (.ifCond .eq 43, 3) := dcS2 dO_153 (by decide +kernel)
theorem dX12_right_8 : decode cX12_right 8 = .ok (.aload_n 0, 1) := dc0 dO_42 (by decide +kernel)
theorem dX12_right_9 : decode cX12_right 9 = .ok (.iload_n 3, 1) := dc0 dO_29 (by decide +kernel)
theorem dX12_right_10 : decode cX12_right 10 = .ok (.invokevirtual 49, 3) := dcU2 dO_182 (by decide +kernel)
theorem dX12_right_13 : decode cX12_right 13 = .ok (.ifCond .eq 35, 3) := dcS2 dO_153 (by decide +kernel)
theorem dX12_right_16 : decode cX12_right 16 = .ok (.iload_n 2, 1) := dc0 dO_28 (by decide +kernel)
theorem dX12_right_17 : decode cX12_right 17 = .ok (.aload_n 0, 1) := dc0 dO_42 (by decide +kernel)
theorem dX12_right_18 : decode cX12_right 18 = .ok (.getfield 26, 3) := dcU2 dO_180 (by decide +kernel)
theorem dX12_right_21 : decode cX12_right 21 = .ok (.iload_n 1, 1) := dc0 dO_27 (by decide +kernel)
theorem dX12_right_22 : decode cX12_right 22 = .ok (.iaload, 1) := dc0 dO_46 (by decide +kernel)
theorem dX12_right_23 : decode cX12_right 23 = .ok (.bipush 32, 2) := dcS1 dO_16 (by decide +kernel)
theorem dX12_right_25 : decode cX12_right 25 = .ok (.invokestatic 18, 3) := dcU2 dO_184 (by decide +kernel)
theorem dX12_right_28 : decode cX12_right 28 = .ok (.ifCond .eq 20, 3) := dcS2 dO_153 (by decide +kernel)
theorem dX12_right_31 : decode cX12_right 31 = .ok (.iload 4, 2) := dcU1 dO_21 (by decide +kernel)
theorem dX12_right_33 : decode cX12_right 33 = .ok (.ifCond .lt 15, 3) := dcS2 dO_155 (by decide +kernel)
theorem dX12_right_36 : decode cX12_right 36 = .ok (.iload 5, 2) := dcU1 dO_21 (by decide +kernel)
theorem dX12_right_38 : decode cX12_right 38 = .ok (.iload 4, 2) := dcU1 dO_21 (by decide +kernel)
theorem dX12_right_40 : decode cX12_right 40 = .ok (.if_icmp .le 8, 3) := dcS2 dO_164 (by decide +kernel)
theorem dX12_right_43 : decode cX12_right 43 = .ok (.iload 6, 2) := dcU1 dO_21 (by decide +kernel)
theorem dX12_right_45 : decode cX12_right 45 = .ok (.ifCond .ge 5, 3) := dcS2 dO_156 (by decide +kernel)
theorem dX12_right_48 : decode cX12_right 48 = .ok (.iconst (-1), 1) := dc0 dO_2 (by decide +kernel)
theorem dX12_right_49 : decode cX12_right 49 = .ok (.ireturn, 1) := dc0 dO_172 (by decide +kernel)
theorem dX12_right_50 : decode cX12_right 50 = .ok (.aload_n 0, 1) := dc0 dO_42 (by decide +kernel)
theorem dX12_right_51 : decode cX12_right 51 = .ok (.getfield 95, 3) := dcU2 dO_180 (by decide +kernel)
theorem dX12_right_54 : decode cX12_right 54 = .ok (.bipush 30, 2) := dcS1 dO_16 (by decide +kernel)
theorem dX12_right_56 : decode cX12_right 56 = .ok (.if_icmp .ne 6, 3) := dcS2 dO_160 (by decide +kernel)
theorem dX12_right_59 : decode cX12_right 59 = .ok (.bipush (-3), 2) := dcS1 dO_16 (by decide +kernel)
theorem dX12_right_61 : decode cX12_right 61 = .ok (.ireturn, 1) := dc0 dO_172 (by decide +kernel)
theorem dX12_right_62 : decode cX12_right 62 = .ok (.aload_n 0, 1) := dc0 dO_42 (by decide +kernel)
theorem dX12_right_63 : decode cX12_right 63 = .ok (.getfield 98, 3) := dcU2 dO_180 (by decide +kernel)
theorem dX12_right_66 : decode cX12_right 66 = .ok (.aload_n 0, 1) := dc0 dO_42 (by decide +kernel)
theorem dX12_right_67 : decode cX12_right 67 = .ok (.getfield 95, 3) := dcU2 dO_180 (by decide +kernel)
theorem dX12_right_70 : decode cX12_right 70 = .ok (.iload_n 1, 1) := dc0 dO_27 (by decide +kernel)
theorem dX12_right_71 : decode cX12_right 71 = .ok (.iastore, 1) := dc0 dO_79 (by decide +kernel)
theorem dX12_right_72 : decode cX12_right 72 = .ok (.aload_n 0, 1) := dc0 dO_42 (by decide +kernel)
theorem dX12_right_73 : decode cX12_right 73 = .ok (.getfield 101, 3) := dcU2 dO_180 (by decide +kernel)
theorem dX12_right_76 : decode cX12_right 76 = .ok (.aload_n 0, 1) := dc0 dO_42 (by decide +kernel)
theorem dX12_right_77 : decode cX12_right 77 = .ok (.getfield 95, 3) := dcU2 dO_180 (by decide +kernel)
theorem dX12_right_80 : decode cX12_right 80 = .ok (.iload_n 2, 1) := dc0 dO_28 (by decide +kernel)
theorem dX12_right_81 : decode cX12_right 81 = .ok (.iastore, 1) := dc0 dO_79 (by decide +kernel)
theorem dX12_right_82 : decode cX12_right 82 = .ok (.aload_n 0, 1) := dc0 dO_42 (by decide +kernel)
theorem dX12_right_83 : decode cX12_right 83 = .ok (.getfield 104, 3) := dcU2 dO_180 (by decide +kernel)
theorem dX12_right_86 : decode cX12_right 86 = .ok (.aload_n 0, 1) := dc0 dO_42 (by decide +kernel)
theorem dX12_right_87 : decode cX12_right 87 = .ok (.getfield 95, 3) := dcU2 dO_180 (by decide +kernel)
theorem dX12_right_90 : decode cX12_right 90 = .ok (.iload_n 3, 1) := dc0 dO_29 (by decide +kernel)
theorem dX12_right_91 : decode cX12_right 91 = .ok (.iastore, 1) := dc0 dO_79 (by decide +kernel)
theorem dX12_right_92 : decode cX12_right 92 = .ok (.aload_n 0, 1) := dc0 dO_42 (by decide +kernel)
theorem dX12_right_93 : decode cX12_right 93 = .ok (.getfield 107, 3) := dcU2 dO_180 (by decide +kernel)
theorem dX12_right_96 : decode cX12_right 96 = .ok (.aload_n 0, 1) := dc0 dO_42 (by decide +kernel)
theorem dX12_right_97 : decode cX12_right 97 = .ok (.getfield 95, 3) := dcU2 dO_180 (by decide +kernel)
theorem dX12_right_100 : decode cX12_right 100 = .ok (.iload 4, 2) := dcU1 dO_21 (by decide +kernel)
theorem dX12_right_102 : decode cX12_right 102 = .ok (.iastore, 1) := dc0 dO_79 (by decide +kernel)
theorem dX12_right_103 : decode cX12_right 103 = .ok (.aload_n 0, 1) := dc0 dO_42 (by decide +kernel)
theorem dX12_right_104 : decode cX12_right 104 = .ok (.getfield 110, 3) := dcU2 dO_180 (by decide +kernel)
theorem dX12_right_107 : decode cX12_right 107 = .ok (.aload_n 0, 1) := dc0 dO_42 (by decide +kernel)
theorem dX12_right_108 : decode cX12_right 108 = .ok (.getfield 95, 3) := dcU2 dO_180 (by decide +kernel)
theorem dX12_right_111 : decode cX12_right 111 = .ok (.iload 5, 2) := dcU1 dO_21 (by decide +kernel)
theorem dX12_right_113 : decode cX12_right 113 = .ok (.iastore, 1) := dc0 dO_79 (by decide +kernel)
theorem dX12_right_114 : decode cX12_right 114 = .ok (.aload_n 0, 1) := dc0 dO_42 (by decide +kernel)
theorem dX12_right_115 : decode cX12_right 115 = .ok (.getfield 113, 3) := dcU2 dO_180 (by decide +kernel)
theorem dX12_right_118 : decode cX12_right 118 = .ok (.aload_n 0, 1) := dc0 dO_42 (by decide +kernel)
theorem dX12_right_119 : decode cX12_right 119 = .ok (.getfield 95, 3) := dcU2 dO_180 (by decide +kernel)
theorem dX12_right_122 : decode cX12_right 122 = .ok (.iload 6, 2) := dcU1 dO_21 (by decide +kernel)
theorem dX12_right_124 : decode cX12_right 124 = .ok (.iastore, 1) := dc0 dO_79 (by decide +kernel)
theorem dX12_right_125 : decode cX12_right 125 = .ok (.aload_n 0, 1) := dc0 dO_42 (by decide +kernel)
theorem dX12_right_126 : decode cX12_right 126 = .ok (.getfield 116, 3) := dcU2 dO_180 (by decide +kernel)
theorem sfx_cX12_right_128 : (cX12_right.data.toList.drop 128).take 67 = [116, 42, 180, 0, 95, 18, 29, 79, 42, 89, 180, 0, 95, 4, 96, 181, 0, 95, 42, 3, 181, 0, 119, 42, 182, 0, 88, 42, 180, 0, 95, 4, 100, 172] := by decide +kernel
theorem dX12_right_129 : decode cX12_right 129 = .ok (.aload_n 0, 1) := dc0 dO_42 (rdB.ch sfx_cX12_right_128 1 rfl (by decide +kernel))
theorem dX12_right_130 : decode cX12_right 130 = .ok (.getfield 95, 3) := dcU2 dO_180 (rdU2.ch sfx_cX12_right_128 2 rfl (by decide +kernel))
theorem dX12_right_133 : decode cX12_right 133 = .ok (.ldc 29, 2) := dcU1 dO_18 (rdU1.ch sfx_cX12_right_128 5 rfl (by decide +kernel))
theorem dX12_right_135 : decode cX12_right 135 = .ok (.iastore, 1) := dc0 dO_79 (rdB.ch sfx_cX12_right_128 7 rfl (by decide +kernel))
theorem dX12_right_136 : decode cX12_right 136 = .ok (.aload_n 0, 1) := dc0 dO_42 (rdB.ch sfx_cX12_right_128 8 rfl (by decide +kernel))
theorem dX12_right_137 : decode cX12_right 137 = .ok (.dup, 1) := dc0 dO_89 (rdB.ch sfx_cX12_right_128 9 rfl (by decide +kernel))
theorem dX12_right_138 : decode cX12_right 138 = .ok (.getfield 95, 3) := dcU2 dO_180 (rdU2.ch sfx_cX12_right_128 10 rfl (by decide +kernel))
theorem dX12_right_141 : decode cX12_right 141 = .ok (.iconst 1, 1) := dc0 dO_4 (rdB.ch sfx_cX12_right_128 13 rfl (by decide +kernel))
theorem dX12_right_142 : decode cX12_right 142 = .ok (.iadd, 1) := dc0 dO_96 (rdB.ch sfx_cX12_right_128 14 rfl (by decide +kernel))
theorem dX12_right_143 : decode cX12_right 143 = .ok (.putfield 95, 3) := dcU2 dO_181 (rdU2.ch sfx_cX12_right_128 15 rfl (by decide +kernel))
theorem dX12_right_146 : decode cX12_right 146 = .ok (.aload_n 0, 1) := dc0 dO_42 (rdB.ch sfx_cX12_right_128 18 rfl (by decide +kernel))
theorem dX12_right_147 : decode cX12_right 147 = .ok (.iconst 0, 1) := dc0 dO_3 (rdB.ch sfx_cX12_right_128 19 rfl (by decide +kernel))
theorem dX12_right_148 : decode cX12_right 148 = .ok (.putfield 119, 3) := dcU2 dO_181 (rdU2.ch sfx_cX12_right_128 20 rfl (by decide +kernel))
theorem dX12_right_151 : decode cX12_right 151 = .ok (.aload_n 0, 1) := dc0 dO_42 (rdB.ch sfx_cX12_right_128 23 rfl (by decide +kernel))
theorem dX12_right_152 : decode cX12_right 152 = .ok (.invokevirtual 88, 3) := dcU2 dO_182 (rdU2.ch sfx_cX12_right_128 24 rfl (by decide +kernel))
theorem dX12_right_155 : decode cX12_right 155 = .ok (.aload_n 0, 1) := dc0 dO_42 (rdB.ch sfx_cX12_right_128 27 rfl (by decide +kernel))
theorem dX12_right_156 : decode cX12_right 156 = .ok (.getfield 95, 3) := dcU2 dO_180 (rdU2.ch sfx_cX12_right_128 28 rfl (by decide +kernel))
theorem dX12_right_159 : decode cX12_right 159 = .ok (.iconst 1, 1) := dc0 dO_4 (rdB.ch sfx_cX12_right_128 31 rfl (by decide +kernel))
theorem dX12_right_160 : decode cX12_right 160 = .ok (.isub, 1) := dc0 dO_100 (rdB.ch sfx_cX12_right_128 32 rfl (by decide +kernel))
theorem dX12_right_161 : decode cX12_right 161 = .ok (.ireturn, 1) := dc0 dO_172 (rdB.ch sfx_cX12_right_128 33 rfl (by decide +kernel))
theorem dX12_say_0 : decode cX12_say 0 = .ok (.aload_n 0, 1) := dc0 dO_42 (by decide +kernel)
theorem dX12_say_1 : decode cX12_say 1 = .ok (.iload_n 2, 1) := dc0 dO_28 (by decide +kernel)
theorem dX12_say_2 : decode cX12_say 2 = .ok (.iload_n 1, 1) := dc0 dO_27 (by decide +kernel)
theorem dX12_say_3 : decode cX12_say 3 = .ok (.invokevirtual 542, 3) := dcU2 dO_182 (by decide +kernel)
theorem dX12_say_6 : decode cX12_say 6 = .ok (.istore 4, 2) := dcU1 dO_54 (by decide +kernel)
theorem dX12_say_8 : decode cX12_say 8 = .ok (.iload_n 2, 1) := dc0 dO_28 (by decide +kernel)
theorem dX12_say_9 : decode cX12_say 9 = .ok (.iload 4, 2) := dcU1 dO_21 (by decide +kernel)
theorem dX12_say_11 : decode cX12_say 11 = .ok (.iload_n 3, 1) := dc0 dO_29 (by decide +kernel)
theorem dX12_say_12 : decode cX12_say 12 = .ok (.invokestatic 545, 3) := dcU2 dO_184 (by decide +kernel)
theorem dX12_say_15 : decode cX12_say 15 = .ok (.istore 5, 2) := dcU1 dO_54 (by decide +kernel)
theorem dX12_say_17 : decode cX12_say 17 = .ok (.bipush 10, 2) := dcS1 dO_16 (by decide +kernel)
theorem dX12_say_19 : decode cX12_say 19 = .ok (.iload_n 1, 1) := dc0 dO_27 (by decide +kernel)
theorem dX12_say_20 : decode cX12_say 20 = .ok (.imul, 1) := dc0 dO_104 (by decide +kernel)
theorem dX12_say_21 : decode cX12_say 21 = .ok (.iload_n 3, 1) := dc0 dO_29 (by decide +kernel)
theorem dX12_say_22 : decode cX12_say 22 = .ok (.iadd, 1) := dc0 dO_96 (by decide +kernel)
theorem dX12_say_23 : decode cX12_say 23 = .ok (.istore 6, 2) := dcU1 dO_54 (by decide +kernel)
theorem dX12_say_25 : decode cX12_say 25 = .ok (.aload_n 0, 1) := dc0 dO_42 (by decide +kernel)
theorem dX12_say_26 : decode cX12_say 26 = .ok (.iconst 2, 1) := dc0 dO_5 (by decide +kernel)
theorem dX12_say_27 : decode cX12_say 27 = .ok (.invokevirtual 539, 3) := dcU2 dO_182 (by decide +kernel)
theorem dX12_say_30 : decode cX12_say 30 = .ok (.aload_n 0, 1) := dc0 dO_42 (by decide +kernel)
theorem dX12_say_31 : decode cX12_say 31 = .ok (.getfield 445, 3) := dcU2 dO_180 (by decide +kernel)
theorem dX12_say_34 : decode cX12_say 34 = .ok (.iload 6, 2) := dcU1 dO_21 (by decide +kernel)
theorem dX12_say_36 : decode cX12_say 36 = .ok (.iaload, 1) := dc0 dO_46 (by decide +kernel)
theorem dX12_say_37 : decode cX12_say 37 = .ok (.ldc 29, 2) := dcU1 dO_18 (by decide +kernel)
theorem dX12_say_39 : decode cX12_say 39 = .ok (.if_icmp .eq 98, 3) := dcS2 dO_159 (by decide +kernel)
theorem dX12_say_42 : decode cX12_say 42 = .ok (.aload_n 0, 1) := dc0 dO_42 (by decide +kernel)
theorem dX12_say_43 : decode cX12_say 43 = .ok (.getfield 445, 3) := dcU2 dO_180 (by decide +kernel)
theorem dX12_say_46 : decode cX12_say 46 = .ok (.iload 6, 2) := dcU1 dO_21 (by decide +kernel)
theorem dX12_say_48 : decode cX12_say 48 = .ok (.iaload, 1) := dc0 dO_46 (by decide +kernel)
theorem dX12_say_49 : decode cX12_say 49 = .ok (.iload_n 2, 1) := dc0 dO_28 (by decide +kernel)
theorem dX12_say_50 : decode cX12_say 50 = .ok (.if_icmp .eq 87, 3) := dcS2 dO_159 (by decide +kernel)
theorem dX12_say_53 : decode cX12_say 53 = .ok (.aload_n 0, 1) := dc0 dO_42 (by decide +kernel)
theorem dX12_say_54 : decode cX12_say 54 = .ok (.bipush 30, 2) := dcS1 dO_16 (by decide +kernel)
theorem dX12_say_56 : decode cX12_say 56 = .ok (.iload 6, 2) := dcU1 dO_21 (by decide +kernel)
theorem dX12_say_58 : decode cX12_say 58 = .ok (.iadd, 1) := dc0 dO_96 (by decide +kernel)
theorem dX12_say_59 : decode cX12_say 59 = .ok (.iconst 2, 1) := dc0 dO_5 (by decide +kernel)
theorem dX12_say_60 : decode cX12_say 60 = .ok (.invokevirtual 559, 3) := dcU2 dO_182 (by decide +kernel)
theorem dX12_say_63 : decode cX12_say 63 = .ok (.aload_n 0, 1) := dc0 dO_42 (by decide +kernel)
theorem dX12_say_64 : decode cX12_say 64 = .ok (.getfield 148, 3) := dcU2 dO_180 (by decide +kernel)
theorem dX12_say_67 : decode cX12_say 67 = .ok (.bipush 81, 2) := dcS1 dO_16 (by decide +kernel)
theorem dX12_say_69 : decode cX12_say 69 = .ok (.bipush 100, 2) := dcS1 dO_16 (by decide +kernel)
theorem dX12_say_71 : decode cX12_say 71 = .ok (.iastore, 1) := dc0 dO_79 (by decide +kernel)
theorem dX12_say_72 : decode cX12_say 72 = .ok (.aload_n 0, 1) := dc0 dO_42 (by decide +kernel)
theorem dX12_say_73 : decode cX12_say 73 = .ok (.iconst 2, 1) := dc0 dO_5 (by decide +kernel)
theorem dX12_say_74 : decode cX12_say 74 = .ok (.iload_n 1, 1) := dc0 dO_27 (by decide +kernel)
theorem dX12_say_75 : decode cX12_say 75 = .ok (.invokevirtual 408, 3) := dcU2 dO_182 (by decide +kernel)
theorem dX12_say_78 : decode cX12_say 78 = .ok (.ifCond .eq 37, 3) := dcS2 dO_153 (by decide +kernel)
theorem dX12_say_81 : decode cX12_say 81 = .ok (.aload_n 0, 1) := dc0 dO_42 (by decide +kernel)
theorem dX12_say_82 : decode cX12_say 82 = .ok (.aload_n 0, 1) := dc0 dO_42 (by decide +kernel)
theorem dX12_say_83 : decode cX12_say 83 = .ok (.getfield 63, 3) := dcU2 dO_180 (by decide +kernel)
theorem dX12_say_86 : decode cX12_say 86 = .ok (.iconst 4, 1) := dc0 dO_7 (by decide +kernel)
theorem dX12_say_87 : decode cX12_say 87 = .ok (.iload_n 2, 1) := dc0 dO_28 (by decide +kernel)
theorem dX12_say_88 : decode cX12_say 88 = .ok (.imul, 1) := dc0 dO_104 (by decide +kernel)
theorem dX12_say_89 : decode cX12_say 89 = .ok (.iconst 2, 1) := dc0 dO_5 (by decide +kernel)
theorem dX12_say_90 : decode cX12_say 90 = .ok (.iload 4, 2) := dcU1 dO_21 (by decide +kernel)
theorem dX12_say_92 : decode cX12_say 92 = .ok (.imul, 1) := dc0 dO_104 (by decide +kernel)
theorem dX12_say_93 : decode cX12_say 93 = .ok (.iadd, 1) := dc0 dO_96 (by decide +kernel)
theorem dX12_say_94 : decode cX12_say 94 = .ok (.iconst 1, 1) := dc0 dO_4 (by decide +kernel)
theorem dX12_say_95 : decode cX12_say 95 = .ok (.iadd, 1) := dc0 dO_96 (by decide +kernel)
theorem dX12_say_96 : decode cX12_say 96 = .ok (.iaload, 1) := dc0 dO_46 (by decide +kernel)
theorem dX12_say_97 : decode cX12_say 97 = .ok (.iconst 2, 1) := dc0 dO_5 (by decide +kernel)
theorem dX12_say_98 : decode cX12_say 98 = .ok (.iload_n 1, 1) := dc0 dO_27 (by decide +kernel)
theorem dX12_say_99 : decode cX12_say 99 = .ok (.aload_n 0, 1) := dc0 dO_42 (by decide +kernel)
theorem dX12_say_100 : decode cX12_say 100 = .ok (.iload_n 2, 1) := dc0 dO_28 (by decide +kernel)
theorem dX12_say_101 : decode cX12_say 101 = .ok (.iload_n 1, 1) := dc0 dO_27 (by decide +kernel)
theorem dX12_say_102 : decode cX12_say 102 = .ok (.invokevirtual 553, 3) := dcU2 dO_182 (by decide +kernel)
theorem dX12_say_105 : decode cX12_say 105 = .ok (.invokevirtual 414, 3) := dcU2 dO_182 (by decide +kernel)
theorem dX12_say_108 : decode cX12_say 108 = .ok (.ifCond .eq 7, 3) := dcS2 dO_153 (by decide +kernel)
theorem dX12_say_111 : decode cX12_say 111 = .ok (.iconst 1, 1) := dc0 dO_4 (by decide +kernel)
theorem dX12_say_112 : decode cX12_say 112 = .ok (.goto 4, 3) := dcS2 dO_167 (by decide +kernel)
theorem dX12_say_115 : decode cX12_say 115 = .ok (.iconst 0, 1) := dc0 dO_3 (by decide +kernel)
theorem dX12_say_116 : decode cX12_say 116 = .ok (.istore 7, 2) := dcU1 dO_54 (by decide +kernel)
theorem dX12_say_118 : decode cX12_say 118 = .ok (.aload_n 0, 1) := dc0 dO_42 (by decide +kernel)
theorem dX12_say_119 : decode cX12_say 119 = .ok (.getfield 148, 3) := dcU2 dO_180 (by decide +kernel)
theorem dX12_say_122 : decode cX12_say 122 = .ok (.bipush 81, 2) := dcS1 dO_16 (by decide +kernel)
theorem dX12_say_124 : decode cX12_say 124 = .ok (.bipush 100, 2) := dcS1 dO_16 (by decide +kernel)
theorem dX12_say_126 : decode cX12_say 126 = .ok (.iastore, 1) := dc0 dO_79 (by decide +kernel)
theorem dX12_say_127 : decode cX12_say 127 = .ok (.iload 7, 2) := dcU1 dO_21 (by decide +kernel)
theorem sfx_cX12_say_128 : (cX12_say.data.toList.drop 128).take 67 = [7, 154, 0, 8, 42, 5, 182, 2, 27, 42, 5, 17, 2, 18, 21, 5, 96, 182, 2, 72, 153, 0, 4, 177, 42, 180, 1, 171, 21, 5, 51, 153, 0, 77, 42, 180, 2, 79, 42, 180, 1, 174, 21, 5, 46, 42, 180, 0, 60, 28, 46, 96, 162, 0, 56, 42, 180, 1, 183, 21, 5, 46, 156, 0, 45, 42, 180] := by decide +kernel
theorem dX12_say_129 : decode cX12_say 129 = .ok (.ifCond .ne 8, 3) := dcS2 dO_154 (rdS2.ch sfx_cX12_say_128 1 rfl (by decide +kernel))
theorem dX12_say_132 : decode cX12_say 132 = .ok (.aload_n 0, 1) := dc0 dO_42 (rdB.ch sfx_cX12_say_128 4 rfl (by decide +kernel))
theorem dX12_say_133 : decode cX12_say 133 = .ok (.iconst 2, 1) := dc0 dO_5 (rdB.ch sfx_cX12_say_128 5 rfl (by decide +kernel))
theorem dX12_say_134 : decode cX12_say 134 = .ok (.invokevirtual 539, 3) := dcU2 dO_182 (rdU2.ch sfx_cX12_say_128 6 rfl (by decide +kernel))
theorem dX12_say_137 : decode cX12_say 137 = .ok (.aload_n 0, 1) := dc0 dO_42 (rdB.ch sfx_cX12_say_128 9 rfl (by decide +kernel))
theorem dX12_say_138 : decode cX12_say 138 = .ok (.iconst 2, 1) := dc0 dO_5 (rdB.ch sfx_cX12_say_128 10 rfl (by decide +kernel))
theorem dX12_say_139 : decode cX12_say 139 = .ok (.sipush 530, 3) := dcS2 dO_17 (rdS2.ch sfx_cX12_say_128 11 rfl (by decide +kernel))
theorem dX12_say_142 : decode cX12_say 142 = .ok (.iload 5, 2) := dcU1 dO_21 (rdU1.ch sfx_cX12_say_128 14 rfl (by decide +kernel))
theorem dX12_say_144 : decode cX12_say 144 = .ok (.iadd, 1) := dc0 dO_96 (rdB.ch sfx_cX12_say_128 16 rfl (by decide +kernel))
theorem dX12_say_145 : decode cX12_say 145 = .ok (.invokevirtual 584, 3) := dcU2 dO_182 (rdU2.ch sfx_cX12_say_128 17 rfl (by decide +kernel))
theorem dX12_say_148 : decode cX12_say 148 = .ok (.ifCond .eq 4, 3) := dcS2 dO_153 (rdS2.ch sfx_cX12_say_128 20 rfl (by decide +kernel))
theorem dX12_say_151 : decode cX12_say 151 = .ok (.return_, 1) := dc0 dO_177 (rdB.ch sfx_cX12_say_128 23 rfl (by decide +kernel))
theorem dX12_say_152 : decode cX12_say 152 = .ok (.aload_n 0, 1) := dc0 dO_42 (rdB.ch sfx_cX12_say_128 24 rfl (by decide +kernel))
theorem dX12_say_153 : decode cX12_say 153 = .ok (.getfield 427, 3) := dcU2 dO_180 (rdU2.ch sfx_cX12_say_128 25 rfl (by decide +kernel))
theorem dX12_say_156 : decode cX12_say 156 = .ok (.iload 5, 2) := dcU1 dO_21 (rdU1.ch sfx_cX12_say_128 28 rfl (by decide +kernel))
theorem dX12_say_158 : decode cX12_say 158 = .ok (.baload, 1) := dc0 dO_51 (rdB.ch sfx_cX12_say_128 30 rfl (by decide +kernel))
theorem dX12_say_159 : decode cX12_say 159 = .ok (.ifCond .eq 77, 3) := dcS2 dO_153 (rdS2.ch sfx_cX12_say_128 31 rfl (by decide +kernel))
theorem dX12_say_162 : decode cX12_say 162 = .ok (.aload_n 0, 1) := dc0 dO_42 (rdB.ch sfx_cX12_say_128 34 rfl (by decide +kernel))
theorem dX12_say_163 : decode cX12_say 163 = .ok (.getfield 591, 3) := dcU2 dO_180 (rdU2.ch sfx_cX12_say_128 35 rfl (by decide +kernel))
theorem dX12_say_166 : decode cX12_say 166 = .ok (.aload_n 0, 1) := dc0 dO_42 (rdB.ch sfx_cX12_say_128 38 rfl (by decide +kernel))
theorem dX12_say_167 : decode cX12_say 167 = .ok (.getfield 430, 3) := dcU2 dO_180 (rdU2.ch sfx_cX12_say_128 39 rfl (by decide +kernel))
theorem dX12_say_170 : decode cX12_say 170 = .ok (.iload 5, 2) := dcU1 dO_21 (rdU1.ch sfx_cX12_say_128 42 rfl (by decide +kernel))
theorem dX12_say_172 : decode cX12_say 172 = .ok (.iaload, 1) := dc0 dO_46 (rdB.ch sfx_cX12_say_128 44 rfl (by decide +kernel))
theorem dX12_say_173 : decode cX12_say 173 = .ok (.aload_n 0, 1) := dc0 dO_42 (rdB.ch sfx_cX12_say_128 45 rfl (by decide +kernel))
theorem dX12_say_174 : decode cX12_say 174 = .ok (.getfield 60, 3) := dcU2 dO_180 (rdU2.ch sfx_cX12_say_128 46 rfl (by decide +kernel))
theorem dX12_say_177 : decode cX12_say 177 = .ok (.iload_n 2, 1) := dc0 dO_28 (rdB.ch sfx_cX12_say_128 49 rfl (by decide +kernel))
theorem dX12_say_178 : decode cX12_say 178 = .ok (.iaload, 1) := dc0 dO_46 (rdB.ch sfx_cX12_say_128 50 rfl (by decide +kernel))
theorem dX12_say_179 : decode cX12_say 179 = .ok (.iadd, 1) := dc0 dO_96 (rdB.ch sfx_cX12_say_128 51 rfl (by decide +kernel))
theorem dX12_say_180 : decode cX12_say 180 = .ok (.if_icmp .ge 56, 3) := dcS2 dO_162 (rdS2.ch sfx_cX12_say_128 52 rfl (by decide +kernel))
theorem dX12_say_183 : decode cX12_say 183 = .ok (.aload_n 0, 1) := dc0 dO_42 (rdB.ch sfx_cX12_say_128 55 rfl (by decide +kernel))
theorem dX12_say_184 : decode cX12_say 184 = .ok (.getfield 439, 3) := dcU2 dO_180 (rdU2.ch sfx_cX12_say_128 56 rfl (by decide +kernel))
theorem dX12_say_187 : decode cX12_say 187 = .ok (.iload 5, 2) := dcU1 dO_21 (rdU1.ch sfx_cX12_say_128 59 rfl (by decide +kernel))
theorem dX12_say_189 : decode cX12_say 189 = .ok (.iaload, 1) := dc0 dO_46 (rdB.ch sfx_cX12_say_128 61 rfl (by decide +kernel))
theorem dX12_say_190 : decode cX12_say 190 = .ok (.ifCond .ge 45, 3) := dcS2 dO_156 (rdS2.ch sfx_cX12_say_128 62 rfl (by decide +kernel))
theorem sfx_cX12_say_192 : (cX12_say.data.toList.drop 192).take 67 = [45, 42, 180, 1, 183, 21, 5, 42, 180, 1, 174, 21, 5, 46, 42, 180, 0, 60, 28, 46, 96, 79, 42, 180, 1, 186, 21, 5, 42, 180, 2, 82, 79, 42, 89, 180, 2, 82, 4, 96, 181, 2, 82, 177, 42, 5, 17, 2, 18, 21, 5, 96, 182, 2, 47, 42, 180, 1, 171, 21, 5, 4, 84, 42, 180, 1, 174] := by decide +kernel
theorem dX12_say_193 : decode cX12_say 193 = .ok (.aload_n 0, 1) := dc0 dO_42 (rdB.ch sfx_cX12_say_192 1 rfl (by decide +kernel))
theorem dX12_say_194 : decode cX12_say 194 = .ok (.getfield 439, 3) := dcU2 dO_180 (rdU2.ch sfx_cX12_say_192 2 rfl (by decide +kernel))
theorem dX12_say_197 : decode cX12_say 197 = .ok (.iload 5, 2) := dcU1 dO_21 (rdU1.ch sfx_cX12_say_192 5 rfl (by decide +kernel))
theorem dX12_say_199 : decode cX12_say 199 = .ok (.aload_n 0, 1) := dc0 dO_42 (rdB.ch sfx_cX12_say_192 7 rfl (by decide +kernel))
theorem dX12_say_200 : decode cX12_say 200 = .ok (.getfield 430, 3) := dcU2 dO_180 (rdU2.ch sfx_cX12_say_192 8 rfl (by decide +kernel))
theorem dX12_say_203 : decode cX12_say 203 = .ok (.iload 5, 2) := dcU1 dO_21 (rdU1.ch sfx_cX12_say_192 11 rfl (by decide +kernel))
theorem dX12_say_205 : decode cX12_say 205 = .ok (.iaload, 1) := dc0 dO_46 (rdB.ch sfx_cX12_say_192 13 rfl (by decide +kernel))
theorem dX12_say_206 : decode cX12_say 206 = .ok (.aload_n 0, 1) := dc0 dO_42 (rdB.ch sfx_cX12_say_192 14 rfl (by decide +kernel))
theorem dX12_say_207 : decode cX12_say 207 = .ok (.getfield 60, 3) := dcU2 dO_180 (rdU2.ch sfx_cX12_say_192 15 rfl (by decide +kernel))
theorem dX12_say_210 : decode cX12_say 210 = .ok (.iload_n 2, 1) := dc0 dO_28 (rdB.ch sfx_cX12_say_192 18 rfl (by decide +kernel))
theorem dX12_say_211 : decode cX12_say 211 = .ok (.iaload, 1) := dc0 dO_46 (rdB.ch sfx_cX12_say_192 19 rfl (by decide +kernel))
theorem dX12_say_212 : decode cX12_say 212 = .ok (.iadd, 1) := dc0 dO_96 (rdB.ch sfx_cX12_say_192 20 rfl (by decide +kernel))
theorem dX12_say_213 : decode cX12_say 213 = .ok (.iastore, 1) := dc0 dO_79 (rdB.ch sfx_cX12_say_192 21 rfl (by decide +kernel))
theorem dX12_say_214 : decode cX12_say 214 = .ok (.aload_n 0, 1) := dc0 dO_42 (rdB.ch sfx_cX12_say_192 22 rfl (by decide +kernel))
theorem dX12_say_215 : decode cX12_say 215 = .ok (.getfield 442, 3) := dcU2 dO_180 (rdU2.ch sfx_cX12_say_192 23 rfl (by decide +kernel))
theorem dX12_say_218 : decode cX12_say 218 = .ok (.iload 5, 2) := dcU1 dO_21 (rdU1.ch sfx_cX12_say_192 26 rfl (by decide +kernel))
theorem dX12_say_220 : decode cX12_say 220 = .ok (.aload_n 0, 1) := dc0 dO_42 (rdB.ch sfx_cX12_say_192 28 rfl (by decide +kernel))
theorem dX12_say_221 : decode cX12_say 221 = .ok (.getfield 594, 3) := dcU2 dO_180 (rdU2.ch sfx_cX12_say_192 29 rfl (by decide +kernel))
theorem dX12_say_224 : decode cX12_say 224 = .ok (.iastore, 1) := dc0 dO_79 (rdB.ch sfx_cX12_say_192 32 rfl (by decide +kernel))
theorem dX12_say_225 : decode cX12_say 225 = .ok (.aload_n 0, 1) := dc0 dO_42 (rdB.ch sfx_cX12_say_192 33 rfl (by decide +kernel))
theorem dX12_say_226 : decode cX12_say 226 = .ok (.dup, 1) := dc0 dO_89 (rdB.ch sfx_cX12_say_192 34 rfl (by decide +kernel))
theorem dX12_say_227 : decode cX12_say 227 = .ok (.getfield 594, 3) := dcU2 dO_180 (rdU2.ch sfx_cX12_say_192 35 rfl (by decide +kernel))
theorem dX12_say_230 : decode cX12_say 230 = .ok (.iconst 1, 1) := dc0 dO_4 (rdB.ch sfx_cX12_say_192 38 rfl (by decide +kernel))
theorem dX12_say_231 : decode cX12_say 231 = .ok (.iadd, 1) := dc0 dO_96 (rdB.ch sfx_cX12_say_192 39 rfl (by decide +kernel))
theorem dX12_say_232 : decode cX12_say 232 = .ok (.putfield 594, 3) := dcU2 dO_181 (rdU2.ch sfx_cX12_say_192 40 rfl (by decide +kernel))
theorem dX12_say_235 : decode cX12_say 235 = .ok (.return_, 1) := dc0 dO_177 (rdB.ch sfx_cX12_say_192 43 rfl (by decide +kernel))
theorem dX12_say_236 : decode cX12_say 236 = .ok (.aload_n 0, 1) := dc0 dO_42 (rdB.ch sfx_cX12_say_192 44 rfl (by decide +kernel))
theorem dX12_say_237 : decode cX12_say 237 = .ok (.iconst 2, 1) := dc0 dO_5 (rdB.ch sfx_cX12_say_192 45 rfl (by decide +kernel))
theorem dX12_say_238 : decode cX12_say 238 = .ok (.sipush 530, 3) := dcS2 dO_17 (rdS2.ch sfx_cX12_say_192 46 rfl (by decide +kernel))
theorem dX12_say_241 : decode cX12_say 241 = .ok (.iload 5, 2) := dcU1 dO_21 (rdU1.ch sfx_cX12_say_192 49 rfl (by decide +kernel))
theorem dX12_say_243 : decode cX12_say 243 = .ok (.iadd, 1) := dc0 dO_96 (rdB.ch sfx_cX12_say_192 51 rfl (by decide +kernel))
theorem dX12_say_244 : decode cX12_say 244 = .ok (.invokevirtual 559, 3) := dcU2 dO_182 (rdU2.ch sfx_cX12_say_192 52 rfl (by decide +kernel))
theorem dX12_say_247 : decode cX12_say 247 = .ok (.aload_n 0, 1) := dc0 dO_42 (rdB.ch sfx_cX12_say_192 55 rfl (by decide +kernel))
theorem dX12_say_248 : decode cX12_say 248 = .ok (.getfield 427, 3) := dcU2 dO_180 (rdU2.ch sfx_cX12_say_192 56 rfl (by decide +kernel))
theorem dX12_say_251 : decode cX12_say 251 = .ok (.iload 5, 2) := dcU1 dO_21 (rdU1.ch sfx_cX12_say_192 59 rfl (by decide +kernel))
theorem dX12_say_253 : decode cX12_say 253 = .ok (.iconst 1, 1) := dc0 dO_4 (rdB.ch sfx_cX12_say_192 61 rfl (by decide +kernel))
theorem dX12_say_254 : decode cX12_say 254 = .ok (.bastore, 1) := dc0 dO_84 (rdB.ch sfx_cX12_say_192 62 rfl (by decide +kernel))
theorem dX12_say_255 : decode cX12_say 255 = .ok (.aload_n 0, 1) := dc0 dO_42 (rdB.ch sfx_cX12_say_192 63 rfl (by decide +kernel))
theorem sfx_cX12_say_256 : (cX12_say.data.toList.drop 256).take 67 = [180, 1, 174, 21, 5, 42, 180, 2, 79, 79, 42, 5, 17, 3, 162, 21, 5, 96, 182, 2, 47, 42, 180, 1, 177, 21, 5, 42, 180, 2, 79, 42, 180, 0, 57, 28, 46, 96, 79, 42, 180, 1, 180, 21, 5, 42, 180, 2, 82, 79, 42, 89, 180, 2, 82, 4, 96, 181, 2, 82, 177] := by decide +kernel
theorem dX12_say_256 : decode cX12_say 256 = .ok (.getfield 430, 3) := dcU2 dO_180 (rdU2.ch sfx_cX12_say_256 0 rfl (by decide +kernel))
theorem dX12_say_259 : decode cX12_say 259 = .ok (.iload 5, 2) := dcU1 dO_21 (rdU1.ch sfx_cX12_say_256 3 rfl (by decide +kernel))
theorem dX12_say_261 : decode cX12_say 261 = .ok (.aload_n 0, 1) := dc0 dO_42 (rdB.ch sfx_cX12_say_256 5 rfl (by decide +kernel))
theorem dX12_say_262 : decode cX12_say 262 = .ok (.getfield 591, 3) := dcU2 dO_180 (rdU2.ch sfx_cX12_say_256 6 rfl (by decide +kernel))
theorem dX12_say_265 : decode cX12_say 265 = .ok (.iastore, 1) := dc0 dO_79 (rdB.ch sfx_cX12_say_256 9 rfl (by decide +kernel))
theorem dX12_say_266 : decode cX12_say 266 = .ok (.aload_n 0, 1) := dc0 dO_42 (rdB.ch sfx_cX12_say_256 10 rfl (by decide +kernel))
theorem dX12_say_267 : decode cX12_say 267 = .ok (.iconst 2, 1) := dc0 dO_5 (rdB.ch sfx_cX12_say_256 11 rfl (by decide +kernel))
theorem dX12_say_268 : decode cX12_say 268 = .ok (.sipush 930, 3) := dcS2 dO_17 (rdS2.ch sfx_cX12_say_256 12 rfl (by decide +kernel))
theorem dX12_say_271 : decode cX12_say 271 = .ok (.iload 5, 2) := dcU1 dO_21 (rdU1.ch sfx_cX12_say_256 15 rfl (by decide +kernel))
theorem dX12_say_273 : decode cX12_say 273 = .ok (.iadd, 1) := dc0 dO_96 (rdB.ch sfx_cX12_say_256 17 rfl (by decide +kernel))
theorem dX12_say_274 : decode cX12_say 274 = .ok (.invokevirtual 559, 3) := dcU2 dO_182 (rdU2.ch sfx_cX12_say_256 18 rfl (by decide +kernel))
theorem dX12_say_277 : decode cX12_say 277 = .ok (.aload_n 0, 1) := dc0 dO_42 (rdB.ch sfx_cX12_say_256 21 rfl (by decide +kernel))
theorem dX12_say_278 : decode cX12_say 278 = .ok (.getfield 433, 3) := dcU2 dO_180 (rdU2.ch sfx_cX12_say_256 22 rfl (by decide +kernel))
theorem dX12_say_281 : decode cX12_say 281 = .ok (.iload 5, 2) := dcU1 dO_21 (rdU1.ch sfx_cX12_say_256 25 rfl (by decide +kernel))
theorem dX12_say_283 : decode cX12_say 283 = .ok (.aload_n 0, 1) := dc0 dO_42 (rdB.ch sfx_cX12_say_256 27 rfl (by decide +kernel))
theorem dX12_say_284 : decode cX12_say 284 = .ok (.getfield 591, 3) := dcU2 dO_180 (rdU2.ch sfx_cX12_say_256 28 rfl (by decide +kernel))
theorem dX12_say_287 : decode cX12_say 287 = .ok (.aload_n 0, 1) := dc0 dO_42 (rdB.ch sfx_cX12_say_256 31 rfl (by decide +kernel))
theorem dX12_say_288 : decode cX12_say 288 = .ok (.getfield 57, 3) := dcU2 dO_180 (rdU2.ch sfx_cX12_say_256 32 rfl (by decide +kernel))
theorem dX12_say_291 : decode cX12_say 291 = .ok (.iload_n 2, 1) := dc0 dO_28 (rdB.ch sfx_cX12_say_256 35 rfl (by decide +kernel))
theorem dX12_say_292 : decode cX12_say 292 = .ok (.iaload, 1) := dc0 dO_46 (rdB.ch sfx_cX12_say_256 36 rfl (by decide +kernel))
theorem dX12_say_293 : decode cX12_say 293 = .ok (.iadd, 1) := dc0 dO_96 (rdB.ch sfx_cX12_say_256 37 rfl (by decide +kernel))
theorem dX12_say_294 : decode cX12_say 294 = .ok (.iastore, 1) := dc0 dO_79 (rdB.ch sfx_cX12_say_256 38 rfl (by decide +kernel))
theorem dX12_say_295 : decode cX12_say 295 = .ok (.aload_n 0, 1) := dc0 dO_42 (rdB.ch sfx_cX12_say_256 39 rfl (by decide +kernel))
theorem dX12_say_296 : decode cX12_say 296 = .ok (.getfield 436, 3) := dcU2 dO_180 (rdU2.ch sfx_cX12_say_256 40 rfl (by decide +kernel))
theorem dX12_say_299 : decode cX12_say 299 = .ok (.iload 5, 2) := dcU1 dO_21 (rdU1.ch sfx_cX12_say_256 43 rfl (by decide +kernel))
theorem dX12_say_301 : decode cX12_say 301 = .ok (.aload_n 0, 1) := dc0 dO_42 (rdB.ch sfx_cX12_say_256 45 rfl (by decide +kernel))
theorem dX12_say_302 : decode cX12_say 302 = .ok (.getfield 594, 3) := dcU2 dO_180 (rdU2.ch sfx_cX12_say_256 46 rfl (by decide +kernel))
theorem dX12_say_305 : decode cX12_say 305 = .ok (.iastore, 1) := dc0 dO_79 (rdB.ch sfx_cX12_say_256 49 rfl (by decide +kernel))
theorem dX12_say_306 : decode cX12_say 306 = .ok (.aload_n 0, 1) := dc0 dO_42 (rdB.ch sfx_cX12_say_256 50 rfl (by decide +kernel))
theorem dX12_say_307 : decode cX12_say 307 = .ok (.dup, 1) := dc0 dO_89 (rdB.ch sfx_cX12_say_256 51 rfl (by decide +kernel))
theorem dX12_say_308 : decode cX12_say 308 = .ok (.getfield 594, 3) := dcU2 dO_180 (rdU2.ch sfx_cX12_say_256 52 rfl (by decide +kernel))
theorem dX12_say_311 : decode cX12_say 311 = .ok (.iconst 1, 1) := dc0 dO_4 (rdB.ch sfx_cX12_say_256 55 rfl (by decide +kernel))
theorem dX12_say_312 : decode cX12_say 312 = .ok (.iadd, 1) := dc0 dO_96 (rdB.ch sfx_cX12_say_256 56 rfl (by decide +kernel))
theorem dX12_say_313 : decode cX12_say 313 = .ok (.putfield 594, 3) := dcU2 dO_181 (rdU2.ch sfx_cX12_say_256 57 rfl (by decide +kernel))
theorem dX12_say_316 : decode cX12_say 316 = .ok (.return_, 1) := dc0 dO_177 (rdB.ch sfx_cX12_say_256 60 rfl (by decide +kernel))
theorem dX12_sayAll_0 : decode cX12_sayAll 0 = .ok (.iconst 0, 1) := dc0 dO_3 (by decide +kernel)
theorem dX12_sayAll_1 : decode cX12_sayAll 1 = .ok (.istore_n 3, 1) := dc0 dO_62 (by decide +kernel)
theorem dX12_sayAll_2 : decode cX12_sayAll 2 = .ok (.iload_n 3, 1) := dc0 dO_29 (by decide +kernel)
theorem dX12_sayAll_3 : decode cX12_sayAll 3 = .ok (.aload_n 0, 1) := dc0 dO_42 (by decide +kernel)
theorem dX12_sayAll_4 : decode cX12_sayAll 4 = .ok (.getfield 15, 3) := dcU2 dO_180 (by decide +kernel)
theorem dX12_sayAll_7 : decode cX12_sayAll 7 = .ok (.if_icmp .ge 25, 3) := dcS2 dO_162 (by decide +kernel)
theorem dX12_sayAll_10 : decode cX12_sayAll 10 = .ok (.aload_n 0, 1) := dc0 dO_42 (by decide +kernel)
theorem dX12_sayAll_11 : decode cX12_sayAll 11 = .ok (.getfield 53, 3) := dcU2 dO_180 (by decide +kernel)
theorem dX12_sayAll_14 : decode cX12_sayAll 14 = .ok (.iload_n 2, 1) := dc0 dO_28 (by decide +kernel)
theorem dX12_sayAll_15 : decode cX12_sayAll 15 = .ok (.baload, 1) := dc0 dO_51 (by decide +kernel)
theorem dX12_sayAll_16 : decode cX12_sayAll 16 = .ok (.ifCond .eq 16, 3) := dcS2 dO_153 (by decide +kernel)
theorem dX12_sayAll_19 : decode cX12_sayAll 19 = .ok (.aload_n 0, 1) := dc0 dO_42 (by decide +kernel)
theorem dX12_sayAll_20 : decode cX12_sayAll 20 = .ok (.iload_n 1, 1) := dc0 dO_27 (by decide +kernel)
theorem dX12_sayAll_21 : decode cX12_sayAll 21 = .ok (.iload_n 2, 1) := dc0 dO_28 (by decide +kernel)
theorem dX12_sayAll_22 : decode cX12_sayAll 22 = .ok (.iload_n 3, 1) := dc0 dO_29 (by decide +kernel)
theorem dX12_sayAll_23 : decode cX12_sayAll 23 = .ok (.invokevirtual 587, 3) := dcU2 dO_182 (by decide +kernel)
theorem dX12_sayAll_26 : decode cX12_sayAll 26 = .ok (.iinc 3 1, 3) := dcI dO_132 (by decide +kernel)
theorem dX12_sayAll_29 : decode cX12_sayAll 29 = .ok (.goto (-27), 3) := dcS2 dO_167 (by decide +kernel)
theorem dX12_sayAll_32 : decode cX12_sayAll 32 = .ok (.return_, 1) := dc0 dO_177 (by decide +kernel)
theorem dX12_strike_0 : decode cX12_strike 0 = .ok (.iload_n 1, 1) := dc0 dO_27 (by decide +kernel)
theorem dX12_strike_1 : decode cX12_strike 1 = .ok (.iconst 0, 1) := dc0 dO_3 (by decide +kernel)
theorem dX12_strike_2 : decode cX12_strike 2 = .ok (.aload_n 0, 1) := dc0 dO_42 (by decide +kernel)
theorem dX12_strike_3 : decode cX12_strike 3 = .ok (.getfield 95, 3) := dcU2 dO_180 (by decide +kernel)
theorem dX12_strike_6 : decode cX12_strike 6 = .ok (.iconst 1, 1) := dc0 dO_4 (by decide +kernel)
theorem dX12_strike_7 : decode cX12_strike 7 = .ok (.isub, 1) := dc0 dO_100 (by decide +kernel)
theorem dX12_strike_8 : decode cX12_strike 8 = .ok (.invokestatic 18, 3) := dcU2 dO_184 (by decide +kernel)
theorem dX12_strike_11 : decode cX12_strike 11 = .ok (.ifCond .eq 13, 3) := dcS2 dO_153 (by decide +kernel)
theorem dX12_strike_14 : decode cX12_strike 14 = .ok (.iload_n 2, 1) := dc0 dO_28 (by decide +kernel)
theorem dX12_strike_15 : decode cX12_strike 15 = .ok (.aload_n 0, 1) := dc0 dO_42 (by decide +kernel)
theorem dX12_strike_16 : decode cX12_strike 16 = .ok (.getfield 113, 3) := dcU2 dO_180 (by decide +kernel)
theorem dX12_strike_19 : decode cX12_strike 19 = .ok (.iload_n 1, 1) := dc0 dO_27 (by decide +kernel)
theorem dX12_strike_20 : decode cX12_strike 20 = .ok (.iaload, 1) := dc0 dO_46 (by decide +kernel)
theorem dX12_strike_21 : decode cX12_strike 21 = .ok (.if_icmp .ge 5, 3) := dcS2 dO_162 (by decide +kernel)
theorem dX12_strike_24 : decode cX12_strike 24 = .ok (.iconst (-1), 1) := dc0 dO_2 (by decide +kernel)
theorem dX12_strike_25 : decode cX12_strike 25 = .ok (.ireturn, 1) := dc0 dO_172 (by decide +kernel)
theorem dX12_strike_26 : decode cX12_strike 26 = .ok (.aload_n 0, 1) := dc0 dO_42 (by decide +kernel)
theorem dX12_strike_27 : decode cX12_strike 27 = .ok (.getfield 116, 3) := dcU2 dO_180 (by decide +kernel)
theorem dX12_strike_30 : decode cX12_strike 30 = .ok (.iload_n 1, 1) := dc0 dO_27 (by decide +kernel)
theorem dX12_strike_31 : decode cX12_strike 31 = .ok (.iaload, 1) := dc0 dO_46 (by decide +kernel)
theorem dX12_strike_32 : decode cX12_strike 32 = .ok (.ldc 29, 2) := dcU1 dO_18 (by decide +kernel)
theorem dX12_strike_34 : decode cX12_strike 34 = .ok (.if_icmp .eq 6, 3) := dcS2 dO_159 (by decide +kernel)
theorem dX12_strike_37 : decode cX12_strike 37 = .ok (.bipush (-2), 2) := dcS1 dO_16 (by decide +kernel)
theorem dX12_strike_39 : decode cX12_strike 39 = .ok (.ireturn, 1) := dc0 dO_172 (by decide +kernel)
theorem dX12_strike_40 : decode cX12_strike 40 = .ok (.aload_n 0, 1) := dc0 dO_42 (by decide +kernel)
theorem dX12_strike_41 : decode cX12_strike 41 = .ok (.getfield 116, 3) := dcU2 dO_180 (by decide +kernel)
theorem dX12_strike_44 : decode cX12_strike 44 = .ok (.iload_n 1, 1) := dc0 dO_27 (by decide +kernel)
theorem dX12_strike_45 : decode cX12_strike 45 = .ok (.iload_n 2, 1) := dc0 dO_28 (by decide +kernel)
theorem dX12_strike_46 : decode cX12_strike 46 = .ok (.iastore, 1) := dc0 dO_79 (by decide +kernel)
theorem dX12_strike_47 : decode cX12_strike 47 = .ok (.aload_n 0, 1) := dc0 dO_42 (by decide +kernel)
theorem dX12_strike_48 : decode cX12_strike 48 = .ok (.iconst 0, 1) := dc0 dO_3 (by decide +kernel)
theorem dX12_strike_49 : decode cX12_strike 49 = .ok (.putfield 119, 3) := dcU2 dO_181 (by decide +kernel)
theorem dX12_strike_52 : decode cX12_strike 52 = .ok (.aload_n 0, 1) := dc0 dO_42 (by decide +kernel)
theorem dX12_strike_53 : decode cX12_strike 53 = .ok (.invokevirtual 88, 3) := dcU2 dO_182 (by decide +kernel)
theorem dX12_strike_56 : decode cX12_strike 56 = .ok (.iconst 0, 1) := dc0 dO_3 (by decide +kernel)
theorem dX12_strike_57 : decode cX12_strike 57 = .ok (.ireturn, 1) := dc0 dO_172 (by decide +kernel)
theorem dX12_through_0 : decode cX12_through 0 = .ok (.iload_n 1, 1) := dc0 dO_27 (by decide +kernel)
theorem dX12_through_1 : decode cX12_through 1 = .ok (.ldc 29, 2) := dcU1 dO_18 (by decide +kernel)
theorem dX12_through_3 : decode cX12_through 3 = .ok (.if_icmp .ne 5, 3) := dcS2 dO_160 (by decide +kernel)
theorem dX12_through_6 : decode cX12_through 6 = .ok (.iconst 1, 1) := dc0 dO_4 (by decide +kernel)
theorem dX12_through_7 : decode cX12_through 7 = .ok (.ireturn, 1) := dc0 dO_172 (by decide +kernel)
theorem dX12_through_8 : decode cX12_through 8 = .ok (.iconst 1, 1) := dc0 dO_4 (by decide +kernel)
theorem dX12_through_9 : decode cX12_through 9 = .ok (.istore 5, 2) := dcU1 dO_54 (by decide +kernel)
theorem dX12_through_11 : decode cX12_through 11 = .ok (.iconst 0, 1) := dc0 dO_3 (by decide +kernel)
theorem dX12_through_12 : decode cX12_through 12 = .ok (.istore 6, 2) := dcU1 dO_54 (by decide +kernel)
theorem dX12_through_14 : decode cX12_through 14 = .ok (.aload_n 0, 1) := dc0 dO_42 (by decide +kernel)
theorem dX12_through_15 : decode cX12_through 15 = .ok (.getfield 388, 3) := dcU2 dO_180 (by decide +kernel)
theorem dX12_through_18 : decode cX12_through 18 = .ok (.iconst 0, 1) := dc0 dO_3 (by decide +kernel)
theorem dX12_through_19 : decode cX12_through 19 = .ok (.iload_n 1, 1) := dc0 dO_27 (by decide +kernel)
theorem dX12_through_20 : decode cX12_through 20 = .ok (.iastore, 1) := dc0 dO_79 (by decide +kernel)
theorem dX12_through_21 : decode cX12_through 21 = .ok (.aload_n 0, 1) := dc0 dO_42 (by decide +kernel)
theorem dX12_through_22 : decode cX12_through 22 = .ok (.getfield 391, 3) := dcU2 dO_180 (by decide +kernel)
theorem dX12_through_25 : decode cX12_through 25 = .ok (.iconst 0, 1) := dc0 dO_3 (by decide +kernel)
theorem dX12_through_26 : decode cX12_through 26 = .ok (.iconst (-1), 1) := dc0 dO_2 (by decide +kernel)
theorem dX12_through_27 : decode cX12_through 27 = .ok (.iastore, 1) := dc0 dO_79 (by decide +kernel)
theorem dX12_through_28 : decode cX12_through 28 = .ok (.aload_n 0, 1) := dc0 dO_42 (by decide +kernel)
theorem dX12_through_29 : decode cX12_through 29 = .ok (.getfield 394, 3) := dcU2 dO_180 (by decide +kernel)
theorem dX12_through_32 : decode cX12_through 32 = .ok (.iconst 0, 1) := dc0 dO_3 (by decide +kernel)
theorem dX12_through_33 : decode cX12_through 33 = .ok (.iconst 0, 1) := dc0 dO_3 (by decide +kernel)
theorem dX12_through_34 : decode cX12_through 34 = .ok (.iastore, 1) := dc0 dO_79 (by decide +kernel)
theorem dX12_through_35 : decode cX12_through 35 = .ok (.iload 5, 2) := dcU1 dO_21 (by decide +kernel)
theorem dX12_through_37 : decode cX12_through 37 = .ok (.ifCond .le 492, 3) := dcS2 dO_158 (by decide +kernel)
theorem dX12_through_40 : decode cX12_through 40 = .ok (.iload 5, 2) := dcU1 dO_21 (by decide +kernel)
theorem dX12_through_42 : decode cX12_through 42 = .ok (.iconst 1, 1) := dc0 dO_4 (by decide +kernel)
theorem dX12_through_43 : decode cX12_through 43 = .ok (.isub, 1) := dc0 dO_100 (by decide +kernel)
theorem dX12_through_44 : decode cX12_through 44 = .ok (.istore 7, 2) := dcU1 dO_54 (by decide +kernel)
theorem dX12_through_46 : decode cX12_through 46 = .ok (.aload_n 0, 1) := dc0 dO_42 (by decide +kernel)
theorem dX12_through_47 : decode cX12_through 47 = .ok (.getfield 388, 3) := dcU2 dO_180 (by decide +kernel)
theorem dX12_through_50 : decode cX12_through 50 = .ok (.iload 7, 2) := dcU1 dO_21 (by decide +kernel)
theorem dX12_through_52 : decode cX12_through 52 = .ok (.iaload, 1) := dc0 dO_46 (by decide +kernel)
theorem dX12_through_53 : decode cX12_through 53 = .ok (.istore 8, 2) := dcU1 dO_54 (by decide +kernel)
theorem dX12_through_55 : decode cX12_through 55 = .ok (.aload_n 0, 1) := dc0 dO_42 (by decide +kernel)
theorem dX12_through_56 : decode cX12_through 56 = .ok (.getfield 391, 3) := dcU2 dO_180 (by decide +kernel)
theorem dX12_through_59 : decode cX12_through 59 = .ok (.iload 7, 2) := dcU1 dO_21 (by decide +kernel)
theorem dX12_through_61 : decode cX12_through 61 = .ok (.iaload, 1) := dc0 dO_46 (by decide +kernel)
theorem dX12_through_62 : decode cX12_through 62 = .ok (.istore 9, 2) := dcU1 dO_54 (by decide +kernel)
theorem dX12_through_64 : decode cX12_through 64 = .ok (.iload 9, 2) := dcU1 dO_21 (by decide +kernel)
theorem dX12_through_66 : decode cX12_through 66 = .ok (.ifCond .lt 28, 3) := dcS2 dO_155 (by decide +kernel)
theorem dX12_through_69 : decode cX12_through 69 = .ok (.aload_n 0, 1) := dc0 dO_42 (by decide +kernel)
theorem dX12_through_70 : decode cX12_through 70 = .ok (.getfield 394, 3) := dcU2 dO_180 (by decide +kernel)
theorem dX12_through_73 : decode cX12_through 73 = .ok (.iload 7, 2) := dcU1 dO_21 (by decide +kernel)
theorem dX12_through_75 : decode cX12_through 75 = .ok (.iaload, 1) := dc0 dO_46 (by decide +kernel)
theorem dX12_through_76 : decode cX12_through 76 = .ok (.aload_n 0, 1) := dc0 dO_42 (by decide +kernel)
theorem dX12_through_77 : decode cX12_through 77 = .ok (.getfield 364, 3) := dcU2 dO_180 (by decide +kernel)
theorem dX12_through_80 : decode cX12_through 80 = .ok (.bipush 31, 2) := dcS1 dO_16 (by decide +kernel)
theorem dX12_through_82 : decode cX12_through 82 = .ok (.iload 8, 2) := dcU1 dO_21 (by decide +kernel)
theorem dX12_through_84 : decode cX12_through 84 = .ok (.imul, 1) := dc0 dO_104 (by decide +kernel)
theorem dX12_through_85 : decode cX12_through 85 = .ok (.iload 9, 2) := dcU1 dO_21 (by decide +kernel)
theorem dX12_through_87 : decode cX12_through 87 = .ok (.iadd, 1) := dc0 dO_96 (by decide +kernel)
theorem dX12_through_88 : decode cX12_through 88 = .ok (.iconst 1, 1) := dc0 dO_4 (by decide +kernel)
theorem dX12_through_89 : decode cX12_through 89 = .ok (.iadd, 1) := dc0 dO_96 (by decide +kernel)
theorem dX12_through_90 : decode cX12_through 90 = .ok (.iaload, 1) := dc0 dO_46 (by decide +kernel)
theorem dX12_through_91 : decode cX12_through 91 = .ok (.if_icmp .ne 150, 3) := dcS2 dO_160 (by decide +kernel)
theorem dX12_through_94 : decode cX12_through 94 = .ok (.iinc 9 1, 3) := dcI dO_132 (by decide +kernel)
theorem dX12_through_97 : decode cX12_through 97 = .ok (.iconst 0, 1) := dc0 dO_3 (by decide +kernel)
theorem dX12_through_98 : decode cX12_through 98 = .ok (.istore 10, 2) := dcU1 dO_54 (by decide +kernel)
theorem dX12_through_100 : decode cX12_through 100 = .ok (.iload 9, 2) := dcU1 dO_21 (by decide +kernel)
theorem dX12_through_102 : decode cX12_through 102 = .ok (.aload_n 0, 1) := dc0 dO_42 (by decide +kernel)
theorem dX12_through_103 : decode cX12_through 103 = .ok (.getfield 358, 3) := dcU2 dO_180 (by decide +kernel)
theorem dX12_through_106 : decode cX12_through 106 = .ok (.iload 8, 2) := dcU1 dO_21 (by decide +kernel)
theorem dX12_through_108 : decode cX12_through 108 = .ok (.iaload, 1) := dc0 dO_46 (by decide +kernel)
theorem dX12_through_109 : decode cX12_through 109 = .ok (.if_icmp .ge 89, 3) := dcS2 dO_162 (by decide +kernel)
theorem dX12_through_112 : decode cX12_through 112 = .ok (.iload 10, 2) := dcU1 dO_21 (by decide +kernel)
theorem dX12_through_114 : decode cX12_through 114 = .ok (.ifCond .ne 84, 3) := dcS2 dO_154 (by decide +kernel)
theorem dX12_through_117 : decode cX12_through 117 = .ok (.iconst 1, 1) := dc0 dO_4 (by decide +kernel)
theorem dX12_through_118 : decode cX12_through 118 = .ok (.istore 10, 2) := dcU1 dO_54 (by decide +kernel)
theorem dX12_through_120 : decode cX12_through 120 = .ok (.aload_n 0, 1) := dc0 dO_42 (by decide +kernel)
theorem dX12_through_121 : decode cX12_through 121 = .ok (.getfield 361, 3) := dcU2 dO_180 (by decide +kernel)
theorem dX12_through_124 : decode cX12_through 124 = .ok (.bipush 31, 2) := dcS1 dO_16 (by decide +kernel)
theorem dX12_through_126 : decode cX12_through 126 = .ok (.iload 8, 2) := dcU1 dO_21 (by decide +kernel)
theorem sfx_cX12_through_128 : (cX12_through.data.toList.drop 128).take 67 = [104, 21, 9, 96, 46, 54, 11, 21, 11, 42, 180, 1, 105, 16, 31, 21, 8, 104, 21, 9, 96, 4, 96, 46, 162, 0, 35, 21, 10, 153, 0, 30, 42, 21, 8, 17, 1, 44, 21, 8, 104, 21, 11, 96, 28, 29, 21, 4, 182, 1, 141, 54, 10, 132, 11, 1, 167, 255, 207, 21, 10, 154, 255, 167, 132, 9, 1] := by decide +kernel
theorem dX12_through_128 : decode cX12_through 128 = .ok (.imul, 1) := dc0 dO_104 (rdB.ch sfx_cX12_through_128 0 rfl (by decide +kernel))
theorem dX12_through_129 : decode cX12_through 129 = .ok (.iload 9, 2) := dcU1 dO_21 (rdU1.ch sfx_cX12_through_128 1 rfl (by decide +kernel))
theorem dX12_through_131 : decode cX12_through 131 = .ok (.iadd, 1) := dc0 dO_96 (rdB.ch sfx_cX12_through_128 3 rfl (by decide +kernel))
theorem dX12_through_132 : decode cX12_through 132 = .ok (.iaload, 1) := dc0 dO_46 (rdB.ch sfx_cX12_through_128 4 rfl (by decide +kernel))
theorem dX12_through_133 : decode cX12_through 133 = .ok (.istore 11, 2) := dcU1 dO_54 (rdU1.ch sfx_cX12_through_128 5 rfl (by decide +kernel))
theorem dX12_through_135 : decode cX12_through 135 = .ok (.iload 11, 2) := dcU1 dO_21 (rdU1.ch sfx_cX12_through_128 7 rfl (by decide +kernel))
theorem dX12_through_137 : decode cX12_through 137 = .ok (.aload_n 0, 1) := dc0 dO_42 (rdB.ch sfx_cX12_through_128 9 rfl (by decide +kernel))
theorem dX12_through_138 : decode cX12_through 138 = .ok (.getfield 361, 3) := dcU2 dO_180 (rdU2.ch sfx_cX12_through_128 10 rfl (by decide +kernel))
theorem dX12_through_141 : decode cX12_through 141 = .ok (.bipush 31, 2) := dcS1 dO_16 (rdS1.ch sfx_cX12_through_128 13 rfl (by decide +kernel))
theorem dX12_through_143 : decode cX12_through 143 = .ok (.iload 8, 2) := dcU1 dO_21 (rdU1.ch sfx_cX12_through_128 15 rfl (by decide +kernel))
theorem dX12_through_145 : decode cX12_through 145 = .ok (.imul, 1) := dc0 dO_104 (rdB.ch sfx_cX12_through_128 17 rfl (by decide +kernel))
theorem dX12_through_146 : decode cX12_through 146 = .ok (.iload 9, 2) := dcU1 dO_21 (rdU1.ch sfx_cX12_through_128 18 rfl (by decide +kernel))
theorem dX12_through_148 : decode cX12_through 148 = .ok (.iadd, 1) := dc0 dO_96 (rdB.ch sfx_cX12_through_128 20 rfl (by decide +kernel))
theorem dX12_through_149 : decode cX12_through 149 = .ok (.iconst 1, 1) := dc0 dO_4 (rdB.ch sfx_cX12_through_128 21 rfl (by decide +kernel))
theorem dX12_through_150 : decode cX12_through 150 = .ok (.iadd, 1) := dc0 dO_96 (rdB.ch sfx_cX12_through_128 22 rfl (by decide +kernel))
theorem dX12_through_151 : decode cX12_through 151 = .ok (.iaload, 1) := dc0 dO_46 (rdB.ch sfx_cX12_through_128 23 rfl (by decide +kernel))
theorem dX12_through_152 : decode cX12_through 152 = .ok (.if_icmp .ge 35, 3) := dcS2 dO_162 (rdS2.ch sfx_cX12_through_128 24 rfl (by decide +kernel))
theorem dX12_through_155 : decode cX12_through 155 = .ok (.iload 10, 2) := dcU1 dO_21 (rdU1.ch sfx_cX12_through_128 27 rfl (by decide +kernel))
theorem dX12_through_157 : decode cX12_through 157 = .ok (.ifCond .eq 30, 3) := dcS2 dO_153 (rdS2.ch sfx_cX12_through_128 29 rfl (by decide +kernel))
theorem dX12_through_160 : decode cX12_through 160 = .ok (.aload_n 0, 1) := dc0 dO_42 (rdB.ch sfx_cX12_through_128 32 rfl (by decide +kernel))
theorem dX12_through_161 : decode cX12_through 161 = .ok (.iload 8, 2) := dcU1 dO_21 (rdU1.ch sfx_cX12_through_128 33 rfl (by decide +kernel))
theorem dX12_through_163 : decode cX12_through 163 = .ok (.sipush 300, 3) := dcS2 dO_17 (rdS2.ch sfx_cX12_through_128 35 rfl (by decide +kernel))
theorem dX12_through_166 : decode cX12_through 166 = .ok (.iload 8, 2) := dcU1 dO_21 (rdU1.ch sfx_cX12_through_128 38 rfl (by decide +kernel))
theorem dX12_through_168 : decode cX12_through 168 = .ok (.imul, 1) := dc0 dO_104 (rdB.ch sfx_cX12_through_128 40 rfl (by decide +kernel))
theorem dX12_through_169 : decode cX12_through 169 = .ok (.iload 11, 2) := dcU1 dO_21 (rdU1.ch sfx_cX12_through_128 41 rfl (by decide +kernel))
theorem dX12_through_171 : decode cX12_through 171 = .ok (.iadd, 1) := dc0 dO_96 (rdB.ch sfx_cX12_through_128 43 rfl (by decide +kernel))
theorem dX12_through_172 : decode cX12_through 172 = .ok (.iload_n 2, 1) := dc0 dO_28 (rdB.ch sfx_cX12_through_128 44 rfl (by decide +kernel))
theorem dX12_through_173 : decode cX12_through 173 = .ok (.iload_n 3, 1) := dc0 dO_29 (rdB.ch sfx_cX12_through_128 45 rfl (by decide +kernel))
theorem dX12_through_174 : decode cX12_through 174 = .ok (.iload 4, 2) := dcU1 dO_21 (rdU1.ch sfx_cX12_through_128 46 rfl (by decide +kernel))
theorem dX12_through_176 : decode cX12_through 176 = .ok (.invokevirtual 397, 3) := dcU2 dO_182 (rdU2.ch sfx_cX12_through_128 48 rfl (by decide +kernel))
theorem dX12_through_179 : decode cX12_through 179 = .ok (.istore 10, 2) := dcU1 dO_54 (rdU1.ch sfx_cX12_through_128 51 rfl (by decide +kernel))
theorem dX12_through_181 : decode cX12_through 181 = .ok (.iinc 11 1, 3) := dcI dO_132 (rdI.ch sfx_cX12_through_128 53 rfl (by decide +kernel))
theorem dX12_through_184 : decode cX12_through 184 = .ok (.goto (-49), 3) := dcS2 dO_167 (rdS2.ch sfx_cX12_through_128 56 rfl (by decide +kernel))
theorem dX12_through_187 : decode cX12_through 187 = .ok (.iload 10, 2) := dcU1 dO_21 (rdU1.ch sfx_cX12_through_128 59 rfl (by decide +kernel))
theorem dX12_through_189 : decode cX12_through 189 = .ok (.ifCond .ne (-89), 3) := dcS2 dO_154 (rdS2.ch sfx_cX12_through_128 61 rfl (by decide +kernel))
theorem sfx_cX12_through_192 : (cX12_through.data.toList.drop 192).take 67 = [132, 9, 1, 167, 255, 161, 21, 10, 154, 0, 9, 132, 5, 255, 167, 255, 85, 42, 180, 1, 135, 21, 7, 21, 9, 79, 42, 180, 1, 138, 21, 7, 42, 180, 1, 108, 16, 31, 21, 8, 104, 21, 9, 96, 46, 79, 167, 255, 53, 17, 1, 44, 21, 8, 104, 42, 180, 1, 138, 21, 7, 46, 96, 54, 10, 42, 180] := by decide +kernel
theorem dX12_through_192 : decode cX12_through 192 = .ok (.iinc 9 1, 3) := dcI dO_132 (rdI.ch sfx_cX12_through_192 0 rfl (by decide +kernel))
theorem dX12_through_195 : decode cX12_through 195 = .ok (.goto (-95), 3) := dcS2 dO_167 (rdS2.ch sfx_cX12_through_192 3 rfl (by decide +kernel))
theorem dX12_through_198 : decode cX12_through 198 = .ok (.iload 10, 2) := dcU1 dO_21 (rdU1.ch sfx_cX12_through_192 6 rfl (by decide +kernel))
theorem dX12_through_200 : decode cX12_through 200 = .ok (.ifCond .ne 9, 3) := dcS2 dO_154 (rdS2.ch sfx_cX12_through_192 8 rfl (by decide +kernel))
theorem dX12_through_203 : decode cX12_through 203 = .ok (.iinc 5 (-1), 3) := dcI dO_132 (rdI.ch sfx_cX12_through_192 11 rfl (by decide +kernel))
theorem dX12_through_206 : decode cX12_through 206 = .ok (.goto (-171), 3) := dcS2 dO_167 (rdS2.ch sfx_cX12_through_192 14 rfl (by decide +kernel))
theorem dX12_through_209 : decode cX12_through 209 = .ok (.aload_n 0, 1) := dc0 dO_42 (rdB.ch sfx_cX12_through_192 17 rfl (by decide +kernel))
theorem dX12_through_210 : decode cX12_through 210 = .ok (.getfield 391, 3) := dcU2 dO_180 (rdU2.ch sfx_cX12_through_192 18 rfl (by decide +kernel))
theorem dX12_through_213 : decode cX12_through 213 = .ok (.iload 7, 2) := dcU1 dO_21 (rdU1.ch sfx_cX12_through_192 21 rfl (by decide +kernel))
theorem dX12_through_215 : decode cX12_through 215 = .ok (.iload 9, 2) := dcU1 dO_21 (rdU1.ch sfx_cX12_through_192 23 rfl (by decide +kernel))
theorem dX12_through_217 : decode cX12_through 217 = .ok (.iastore, 1) := dc0 dO_79 (rdB.ch sfx_cX12_through_192 25 rfl (by decide +kernel))
theorem dX12_through_218 : decode cX12_through 218 = .ok (.aload_n 0, 1) := dc0 dO_42 (rdB.ch sfx_cX12_through_192 26 rfl (by decide +kernel))
theorem dX12_through_219 : decode cX12_through 219 = .ok (.getfield 394, 3) := dcU2 dO_180 (rdU2.ch sfx_cX12_through_192 27 rfl (by decide +kernel))
theorem dX12_through_222 : decode cX12_through 222 = .ok (.iload 7, 2) := dcU1 dO_21 (rdU1.ch sfx_cX12_through_192 30 rfl (by decide +kernel))
theorem dX12_through_224 : decode cX12_through 224 = .ok (.aload_n 0, 1) := dc0 dO_42 (rdB.ch sfx_cX12_through_192 32 rfl (by decide +kernel))
theorem dX12_through_225 : decode cX12_through 225 = .ok (.getfield 364, 3) := dcU2 dO_180 (rdU2.ch sfx_cX12_through_192 33 rfl (by decide +kernel))
theorem dX12_through_228 : decode cX12_through 228 = .ok (.bipush 31, 2) := dcS1 dO_16 (rdS1.ch sfx_cX12_through_192 36 rfl (by decide +kernel))
theorem dX12_through_230 : decode cX12_through 230 = .ok (.iload 8, 2) := dcU1 dO_21 (rdU1.ch sfx_cX12_through_192 38 rfl (by decide +kernel))
theorem dX12_through_232 : decode cX12_through 232 = .ok (.imul, 1) := dc0 dO_104 (rdB.ch sfx_cX12_through_192 40 rfl (by decide +kernel))
theorem dX12_through_233 : decode cX12_through 233 = .ok (.iload 9, 2) := dcU1 dO_21 (rdU1.ch sfx_cX12_through_192 41 rfl (by decide +kernel))
theorem dX12_through_235 : decode cX12_through 235 = .ok (.iadd, 1) := dc0 dO_96 (rdB.ch sfx_cX12_through_192 43 rfl (by decide +kernel))
theorem dX12_through_236 : decode cX12_through 236 = .ok (.iaload, 1) := dc0 dO_46 (rdB.ch sfx_cX12_through_192 44 rfl (by decide +kernel))
theorem dX12_through_237 : decode cX12_through 237 = .ok (.iastore, 1) := dc0 dO_79 (rdB.ch sfx_cX12_through_192 45 rfl (by decide +kernel))
theorem dX12_through_238 : decode cX12_through 238 = .ok (.goto (-203), 3) := dcS2 dO_167 (rdS2.ch sfx_cX12_through_192 46 rfl (by decide +kernel))
theorem dX12_through_241 : decode cX12_through 241 = .ok (.sipush 300, 3) := dcS2 dO_17 (rdS2.ch sfx_cX12_through_192 49 rfl (by decide +kernel))
theorem dX12_through_244 : decode cX12_through 244 = .ok (.iload 8, 2) := dcU1 dO_21 (rdU1.ch sfx_cX12_through_192 52 rfl (by decide +kernel))
theorem dX12_through_246 : decode cX12_through 246 = .ok (.imul, 1) := dc0 dO_104 (rdB.ch sfx_cX12_through_192 54 rfl (by decide +kernel))
theorem dX12_through_247 : decode cX12_through 247 = .ok (.aload_n 0, 1) := dc0 dO_42 (rdB.ch sfx_cX12_through_192 55 rfl (by decide +kernel))
theorem dX12_through_248 : decode cX12_through 248 = .ok (.getfield 394, 3) := dcU2 dO_180 (rdU2.ch sfx_cX12_through_192 56 rfl (by decide +kernel))
theorem dX12_through_251 : decode cX12_through 251 = .ok (.iload 7, 2) := dcU1 dO_21 (rdU1.ch sfx_cX12_through_192 59 rfl (by decide +kernel))
theorem dX12_through_253 : decode cX12_through 253 = .ok (.iaload, 1) := dc0 dO_46 (rdB.ch sfx_cX12_through_192 61 rfl (by decide +kernel))
theorem dX12_through_254 : decode cX12_through 254 = .ok (.iadd, 1) := dc0 dO_96 (rdB.ch sfx_cX12_through_192 62 rfl (by decide +kernel))
theorem dX12_through_255 : decode cX12_through 255 = .ok (.istore 10, 2) := dcU1 dO_54 (rdU1.ch sfx_cX12_through_192 63 rfl (by decide +kernel))
theorem sfx_cX12_through_256 : (cX12_through.data.toList.drop 256).take 67 = [10, 42, 180, 1, 138, 21, 7, 92, 46, 4, 96, 79, 132, 6, 1, 21, 6, 17, 1, 244, 164, 0, 5, 3, 172, 42, 180, 1, 93, 21, 10, 46, 54, 11, 21, 11, 16, 23, 160, 0, 5, 4, 172, 21, 11, 16, 24, 160, 0, 5, 3, 172, 21, 11, 16, 25, 160, 0, 15, 42, 28, 42, 180, 1, 96, 21, 10] := by decide +kernel
theorem dX12_through_257 : decode cX12_through 257 = .ok (.aload_n 0, 1) := dc0 dO_42 (rdB.ch sfx_cX12_through_256 1 rfl (by decide +kernel))
theorem dX12_through_258 : decode cX12_through 258 = .ok (.getfield 394, 3) := dcU2 dO_180 (rdU2.ch sfx_cX12_through_256 2 rfl (by decide +kernel))
theorem dX12_through_261 : decode cX12_through 261 = .ok (.iload 7, 2) := dcU1 dO_21 (rdU1.ch sfx_cX12_through_256 5 rfl (by decide +kernel))
theorem dX12_through_263 : decode cX12_through 263 = .ok (.dup2, 1) := dc0 dO_92 (rdB.ch sfx_cX12_through_256 7 rfl (by decide +kernel))
theorem dX12_through_264 : decode cX12_through 264 = .ok (.iaload, 1) := dc0 dO_46 (rdB.ch sfx_cX12_through_256 8 rfl (by decide +kernel))
theorem dX12_through_265 : decode cX12_through 265 = .ok (.iconst 1, 1) := dc0 dO_4 (rdB.ch sfx_cX12_through_256 9 rfl (by decide +kernel))
theorem dX12_through_266 : decode cX12_through 266 = .ok (.iadd, 1) := dc0 dO_96 (rdB.ch sfx_cX12_through_256 10 rfl (by decide +kernel))
theorem dX12_through_267 : decode cX12_through 267 = .ok (.iastore, 1) := dc0 dO_79 (rdB.ch sfx_cX12_through_256 11 rfl (by decide +kernel))
theorem dX12_through_268 : decode cX12_through 268 = .ok (.iinc 6 1, 3) := dcI dO_132 (rdI.ch sfx_cX12_through_256 12 rfl (by decide +kernel))
theorem dX12_through_271 : decode cX12_through 271 = .ok (.iload 6, 2) := dcU1 dO_21 (rdU1.ch sfx_cX12_through_256 15 rfl (by decide +kernel))
theorem dX12_through_273 : decode cX12_through 273 = .ok (.sipush 500, 3) := dcS2 dO_17 (rdS2.ch sfx_cX12_through_256 17 rfl (by decide +kernel))
theorem dX12_through_276 : decode cX12_through 276 = .ok (.if_icmp .le 5, 3) := dcS2 dO_164 (rdS2.ch sfx_cX12_through_256 20 rfl (by decide +kernel))
theorem dX12_through_279 : decode cX12_through 279 = .ok (.iconst 0, 1) := dc0 dO_3 (rdB.ch sfx_cX12_through_256 23 rfl (by decide +kernel))
theorem dX12_through_280 : decode cX12_through 280 = .ok (.ireturn, 1) := dc0 dO_172 (rdB.ch sfx_cX12_through_256 24 rfl (by decide +kernel))
theorem dX12_through_281 : decode cX12_through 281 = .ok (.aload_n 0, 1) := dc0 dO_42 (rdB.ch sfx_cX12_through_256 25 rfl (by decide +kernel))
theorem dX12_through_282 : decode cX12_through 282 = .ok (.getfield 349, 3) := dcU2 dO_180 (rdU2.ch sfx_cX12_through_256 26 rfl (by decide +kernel))
theorem dX12_through_285 : decode cX12_through 285 = .ok (.iload 10, 2) := dcU1 dO_21 (rdU1.ch sfx_cX12_through_256 29 rfl (by decide +kernel))
theorem dX12_through_287 : decode cX12_through 287 = .ok (.iaload, 1) := dc0 dO_46 (rdB.ch sfx_cX12_through_256 31 rfl (by decide +kernel))
theorem dX12_through_288 : decode cX12_through 288 = .ok (.istore 11, 2) := dcU1 dO_54 (rdU1.ch sfx_cX12_through_256 32 rfl (by decide +kernel))
theorem dX12_through_290 : decode cX12_through 290 = .ok (.iload 11, 2) := dcU1 dO_21 (rdU1.ch sfx_cX12_through_256 34 rfl (by decide +kernel))
theorem dX12_through_292 : decode cX12_through 292 = .ok (.bipush 23, 2) := dcS1 dO_16 (rdS1.ch sfx_cX12_through_256 36 rfl (by decide +kernel))
theorem dX12_through_294 : decode cX12_through 294 = .ok (.if_icmp .ne 5, 3) := dcS2 dO_160 (rdS2.ch sfx_cX12_through_256 38 rfl (by decide +kernel))
theorem dX12_through_297 : decode cX12_through 297 = .ok (.iconst 1, 1) := dc0 dO_4 (rdB.ch sfx_cX12_through_256 41 rfl (by decide +kernel))
theorem dX12_through_298 : decode cX12_through 298 = .ok (.ireturn, 1) := dc0 dO_172 (rdB.ch sfx_cX12_through_256 42 rfl (by decide +kernel))
theorem dX12_through_299 : decode cX12_through 299 = .ok (.iload 11, 2) := dcU1 dO_21 (rdU1.ch sfx_cX12_through_256 43 rfl (by decide +kernel))
theorem dX12_through_301 : decode cX12_through 301 = .ok (.bipush 24, 2) := dcS1 dO_16 (rdS1.ch sfx_cX12_through_256 45 rfl (by decide +kernel))
theorem dX12_through_303 : decode cX12_through 303 = .ok (.if_icmp .ne 5, 3) := dcS2 dO_160 (rdS2.ch sfx_cX12_through_256 47 rfl (by decide +kernel))
theorem dX12_through_306 : decode cX12_through 306 = .ok (.iconst 0, 1) := dc0 dO_3 (rdB.ch sfx_cX12_through_256 50 rfl (by decide +kernel))
theorem dX12_through_307 : decode cX12_through 307 = .ok (.ireturn, 1) := dc0 dO_172 (rdB.ch sfx_cX12_through_256 51 rfl (by decide +kernel))
theorem dX12_through_308 : decode cX12_through 308 = .ok (.iload 11, 2) := dcU1 dO_21 (rdU1.ch sfx_cX12_through_256 52 rfl (by decide +kernel))
theorem dX12_through_310 : decode cX12_through 310 = .ok (.bipush 25, 2) := dcS1 dO_16 (rdS1.ch sfx_cX12_through_256 54 rfl (by decide +kernel))
theorem dX12_through_312 : decode cX12_through 312 = .ok (.if_icmp .ne 15, 3) := dcS2 dO_160 (rdS2.ch sfx_cX12_through_256 56 rfl (by decide +kernel))
theorem dX12_through_315 : decode cX12_through 315 = .ok (.aload_n 0, 1) := dc0 dO_42 (rdB.ch sfx_cX12_through_256 59 rfl (by decide +kernel))
theorem dX12_through_316 : decode cX12_through 316 = .ok (.iload_n 2, 1) := dc0 dO_28 (rdB.ch sfx_cX12_through_256 60 rfl (by decide +kernel))
theorem dX12_through_317 : decode cX12_through 317 = .ok (.aload_n 0, 1) := dc0 dO_42 (rdB.ch sfx_cX12_through_256 61 rfl (by decide +kernel))
theorem dX12_through_318 : decode cX12_through 318 = .ok (.getfield 352, 3) := dcU2 dO_180 (rdU2.ch sfx_cX12_through_256 62 rfl (by decide +kernel))
theorem sfx_cX12_through_320 : (cX12_through.data.toList.drop 320).take 67 = [96, 21, 10, 46, 182, 1, 145, 21, 11, 16, 26, 160, 0, 15, 42, 28, 42, 180, 1, 96, 21, 10, 46, 182, 1, 149, 21, 11, 16, 12, 160, 0, 21, 42, 180, 0, 148, 16, 40, 28, 104, 4, 96, 42, 180, 1, 96, 21, 10, 46, 79, 21, 11, 16, 13, 160, 0, 21, 42, 180, 0, 148, 16, 40, 28, 104, 6] := by decide +kernel
theorem dX12_through_321 : decode cX12_through 321 = .ok (.iload 10, 2) := dcU1 dO_21 (rdU1.ch sfx_cX12_through_320 1 rfl (by decide +kernel))
theorem dX12_through_323 : decode cX12_through 323 = .ok (.iaload, 1) := dc0 dO_46 (rdB.ch sfx_cX12_through_320 3 rfl (by decide +kernel))
theorem dX12_through_324 : decode cX12_through 324 = .ok (.invokevirtual 401, 3) := dcU2 dO_182 (rdU2.ch sfx_cX12_through_320 4 rfl (by decide +kernel))
theorem dX12_through_327 : decode cX12_through 327 = .ok (.iload 11, 2) := dcU1 dO_21 (rdU1.ch sfx_cX12_through_320 7 rfl (by decide +kernel))
theorem dX12_through_329 : decode cX12_through 329 = .ok (.bipush 26, 2) := dcS1 dO_16 (rdS1.ch sfx_cX12_through_320 9 rfl (by decide +kernel))
theorem dX12_through_331 : decode cX12_through 331 = .ok (.if_icmp .ne 15, 3) := dcS2 dO_160 (rdS2.ch sfx_cX12_through_320 11 rfl (by decide +kernel))
theorem dX12_through_334 : decode cX12_through 334 = .ok (.aload_n 0, 1) := dc0 dO_42 (rdB.ch sfx_cX12_through_320 14 rfl (by decide +kernel))
theorem dX12_through_335 : decode cX12_through 335 = .ok (.iload_n 2, 1) := dc0 dO_28 (rdB.ch sfx_cX12_through_320 15 rfl (by decide +kernel))
theorem dX12_through_336 : decode cX12_through 336 = .ok (.aload_n 0, 1) := dc0 dO_42 (rdB.ch sfx_cX12_through_320 16 rfl (by decide +kernel))
theorem dX12_through_337 : decode cX12_through 337 = .ok (.getfield 352, 3) := dcU2 dO_180 (rdU2.ch sfx_cX12_through_320 17 rfl (by decide +kernel))
theorem dX12_through_340 : decode cX12_through 340 = .ok (.iload 10, 2) := dcU1 dO_21 (rdU1.ch sfx_cX12_through_320 20 rfl (by decide +kernel))
theorem dX12_through_342 : decode cX12_through 342 = .ok (.iaload, 1) := dc0 dO_46 (rdB.ch sfx_cX12_through_320 22 rfl (by decide +kernel))
theorem dX12_through_343 : decode cX12_through 343 = .ok (.invokevirtual 405, 3) := dcU2 dO_182 (rdU2.ch sfx_cX12_through_320 23 rfl (by decide +kernel))
theorem dX12_through_346 : decode cX12_through 346 = .ok (.iload 11, 2) := dcU1 dO_21 (rdU1.ch sfx_cX12_through_320 26 rfl (by decide +kernel))
theorem dX12_through_348 : decode cX12_through 348 = .ok (.bipush 12, 2) := dcS1 dO_16 (rdS1.ch sfx_cX12_through_320 28 rfl (by decide +kernel))
theorem dX12_through_350 : decode cX12_through 350 = .ok (.if_icmp .ne 21, 3) := dcS2 dO_160 (rdS2.ch sfx_cX12_through_320 30 rfl (by decide +kernel))
theorem dX12_through_353 : decode cX12_through 353 = .ok (.aload_n 0, 1) := dc0 dO_42 (rdB.ch sfx_cX12_through_320 33 rfl (by decide +kernel))
theorem dX12_through_354 : decode cX12_through 354 = .ok (.getfield 148, 3) := dcU2 dO_180 (rdU2.ch sfx_cX12_through_320 34 rfl (by decide +kernel))
theorem dX12_through_357 : decode cX12_through 357 = .ok (.bipush 40, 2) := dcS1 dO_16 (rdS1.ch sfx_cX12_through_320 37 rfl (by decide +kernel))
theorem dX12_through_359 : decode cX12_through 359 = .ok (.iload_n 2, 1) := dc0 dO_28 (rdB.ch sfx_cX12_through_320 39 rfl (by decide +kernel))
theorem dX12_through_360 : decode cX12_through 360 = .ok (.imul, 1) := dc0 dO_104 (rdB.ch sfx_cX12_through_320 40 rfl (by decide +kernel))
theorem dX12_through_361 : decode cX12_through 361 = .ok (.iconst 1, 1) := dc0 dO_4 (rdB.ch sfx_cX12_through_320 41 rfl (by decide +kernel))
theorem dX12_through_362 : decode cX12_through 362 = .ok (.iadd, 1) := dc0 dO_96 (rdB.ch sfx_cX12_through_320 42 rfl (by decide +kernel))
theorem dX12_through_363 : decode cX12_through 363 = .ok (.aload_n 0, 1) := dc0 dO_42 (rdB.ch sfx_cX12_through_320 43 rfl (by decide +kernel))
theorem dX12_through_364 : decode cX12_through 364 = .ok (.getfield 352, 3) := dcU2 dO_180 (rdU2.ch sfx_cX12_through_320 44 rfl (by decide +kernel))
theorem dX12_through_367 : decode cX12_through 367 = .ok (.iload 10, 2) := dcU1 dO_21 (rdU1.ch sfx_cX12_through_320 47 rfl (by decide +kernel))
theorem dX12_through_369 : decode cX12_through 369 = .ok (.iaload, 1) := dc0 dO_46 (rdB.ch sfx_cX12_through_320 49 rfl (by decide +kernel))
theorem dX12_through_370 : decode cX12_through 370 = .ok (.iastore, 1) := dc0 dO_79 (rdB.ch sfx_cX12_through_320 50 rfl (by decide +kernel))
theorem dX12_through_371 : decode cX12_through 371 = .ok (.iload 11, 2) := dcU1 dO_21 (rdU1.ch sfx_cX12_through_320 51 rfl (by decide +kernel))
theorem dX12_through_373 : decode cX12_through 373 = .ok (.bipush 13, 2) := dcS1 dO_16 (rdS1.ch sfx_cX12_through_320 53 rfl (by decide +kernel))
theorem dX12_through_375 : decode cX12_through 375 = .ok (.if_icmp .ne 21, 3) := dcS2 dO_160 (rdS2.ch sfx_cX12_through_320 55 rfl (by decide +kernel))
theorem dX12_through_378 : decode cX12_through 378 = .ok (.aload_n 0, 1) := dc0 dO_42 (rdB.ch sfx_cX12_through_320 58 rfl (by decide +kernel))
theorem dX12_through_379 : decode cX12_through 379 = .ok (.getfield 148, 3) := dcU2 dO_180 (rdU2.ch sfx_cX12_through_320 59 rfl (by decide +kernel))
theorem dX12_through_382 : decode cX12_through 382 = .ok (.bipush 40, 2) := dcS1 dO_16 (rdS1.ch sfx_cX12_through_320 62 rfl (by decide +kernel))
theorem sfx_cX12_through_384 : (cX12_through.data.toList.drop 384).take 67 = [28, 104, 6, 96, 42, 180, 1, 96, 21, 10, 46, 79, 21, 11, 16, 27, 160, 0, 86, 42, 180, 0, 148, 16, 40, 28, 104, 7, 96, 46, 158, 0, 72, 42, 180, 0, 148, 16, 40, 28, 104, 16, 6, 96, 46, 54, 12, 42, 180, 0, 148, 16, 40, 28, 104, 7, 96, 46, 42, 180, 1, 96, 21, 10, 46, 96, 16] := by decide +kernel
theorem dX12_through_384 : decode cX12_through 384 = .ok (.iload_n 2, 1) := dc0 dO_28 (rdB.ch sfx_cX12_through_384 0 rfl (by decide +kernel))
theorem dX12_through_385 : decode cX12_through 385 = .ok (.imul, 1) := dc0 dO_104 (rdB.ch sfx_cX12_through_384 1 rfl (by decide +kernel))
theorem dX12_through_386 : decode cX12_through 386 = .ok (.iconst 3, 1) := dc0 dO_6 (rdB.ch sfx_cX12_through_384 2 rfl (by decide +kernel))
theorem dX12_through_387 : decode cX12_through 387 = .ok (.iadd, 1) := dc0 dO_96 (rdB.ch sfx_cX12_through_384 3 rfl (by decide +kernel))
theorem dX12_through_388 : decode cX12_through 388 = .ok (.aload_n 0, 1) := dc0 dO_42 (rdB.ch sfx_cX12_through_384 4 rfl (by decide +kernel))
theorem dX12_through_389 : decode cX12_through 389 = .ok (.getfield 352, 3) := dcU2 dO_180 (rdU2.ch sfx_cX12_through_384 5 rfl (by decide +kernel))
theorem dX12_through_392 : decode cX12_through 392 = .ok (.iload 10, 2) := dcU1 dO_21 (rdU1.ch sfx_cX12_through_384 8 rfl (by decide +kernel))
theorem dX12_through_394 : decode cX12_through 394 = .ok (.iaload, 1) := dc0 dO_46 (rdB.ch sfx_cX12_through_384 10 rfl (by decide +kernel))
theorem dX12_through_395 : decode cX12_through 395 = .ok (.iastore, 1) := dc0 dO_79 (rdB.ch sfx_cX12_through_384 11 rfl (by decide +kernel))
theorem dX12_through_396 : decode cX12_through 396 = .ok (.iload 11, 2) := dcU1 dO_21 (rdU1.ch sfx_cX12_through_384 12 rfl (by decide +kernel))
theorem dX12_through_398 : decode cX12_through 398 = .ok (.bipush 27, 2) := dcS1 dO_16 (rdS1.ch sfx_cX12_through_384 14 rfl (by decide +kernel))
theorem dX12_through_400 : decode cX12_through 400 = .ok (.if_icmp .ne 86, 3) := dcS2 dO_160 (rdS2.ch sfx_cX12_through_384 16 rfl (by decide +kernel))
theorem dX12_through_403 : decode cX12_through 403 = .ok (.aload_n 0, 1) := dc0 dO_42 (rdB.ch sfx_cX12_through_384 19 rfl (by decide +kernel))
theorem dX12_through_404 : decode cX12_through 404 = .ok (.getfield 148, 3) := dcU2 dO_180 (rdU2.ch sfx_cX12_through_384 20 rfl (by decide +kernel))
theorem dX12_through_407 : decode cX12_through 407 = .ok (.bipush 40, 2) := dcS1 dO_16 (rdS1.ch sfx_cX12_through_384 23 rfl (by decide +kernel))
theorem dX12_through_409 : decode cX12_through 409 = .ok (.iload_n 2, 1) := dc0 dO_28 (rdB.ch sfx_cX12_through_384 25 rfl (by decide +kernel))
theorem dX12_through_410 : decode cX12_through 410 = .ok (.imul, 1) := dc0 dO_104 (rdB.ch sfx_cX12_through_384 26 rfl (by decide +kernel))
theorem dX12_through_411 : decode cX12_through 411 = .ok (.iconst 4, 1) := dc0 dO_7 (rdB.ch sfx_cX12_through_384 27 rfl (by decide +kernel))
theorem dX12_through_412 : decode cX12_through 412 = .ok (.iadd, 1) := dc0 dO_96 (rdB.ch sfx_cX12_through_384 28 rfl (by decide +kernel))
theorem dX12_through_413 : decode cX12_through 413 = .ok (.iaload, 1) := dc0 dO_46 (rdB.ch sfx_cX12_through_384 29 rfl (by decide +kernel))
theorem dX12_through_414 : decode cX12_through 414 = .ok (.ifCond .le 72, 3) := dcS2 dO_158 (rdS2.ch sfx_cX12_through_384 30 rfl (by decide +kernel))
theorem dX12_through_417 : decode cX12_through 417 = .ok (.aload_n 0, 1) := dc0 dO_42 (rdB.ch sfx_cX12_through_384 33 rfl (by decide +kernel))
theorem dX12_through_418 : decode cX12_through 418 = .ok (.getfield 148, 3) := dcU2 dO_180 (rdU2.ch sfx_cX12_through_384 34 rfl (by decide +kernel))
theorem dX12_through_421 : decode cX12_through 421 = .ok (.bipush 40, 2) := dcS1 dO_16 (rdS1.ch sfx_cX12_through_384 37 rfl (by decide +kernel))
theorem dX12_through_423 : decode cX12_through 423 = .ok (.iload_n 2, 1) := dc0 dO_28 (rdB.ch sfx_cX12_through_384 39 rfl (by decide +kernel))
theorem dX12_through_424 : decode cX12_through 424 = .ok (.imul, 1) := dc0 dO_104 (rdB.ch sfx_cX12_through_384 40 rfl (by decide +kernel))
theorem dX12_through_425 : decode cX12_through 425 = .ok (.bipush 6, 2) := dcS1 dO_16 (rdS1.ch sfx_cX12_through_384 41 rfl (by decide +kernel))
theorem dX12_through_427 : decode cX12_through 427 = .ok (.iadd, 1) := dc0 dO_96 (rdB.ch sfx_cX12_through_384 43 rfl (by decide +kernel))
theorem dX12_through_428 : decode cX12_through 428 = .ok (.iaload, 1) := dc0 dO_46 (rdB.ch sfx_cX12_through_384 44 rfl (by decide +kernel))
theorem dX12_through_429 : decode cX12_through 429 = .ok (.istore 12, 2) := dcU1 dO_54 (rdU1.ch sfx_cX12_through_384 45 rfl (by decide +kernel))
theorem dX12_through_431 : decode cX12_through 431 = .ok (.aload_n 0, 1) := dc0 dO_42 (rdB.ch sfx_cX12_through_384 47 rfl (by decide +kernel))
theorem dX12_through_432 : decode cX12_through 432 = .ok (.getfield 148, 3) := dcU2 dO_180 (rdU2.ch sfx_cX12_through_384 48 rfl (by decide +kernel))
theorem dX12_through_435 : decode cX12_through 435 = .ok (.bipush 40, 2) := dcS1 dO_16 (rdS1.ch sfx_cX12_through_384 51 rfl (by decide +kernel))
theorem dX12_through_437 : decode cX12_through 437 = .ok (.iload_n 2, 1) := dc0 dO_28 (rdB.ch sfx_cX12_through_384 53 rfl (by decide +kernel))
theorem dX12_through_438 : decode cX12_through 438 = .ok (.imul, 1) := dc0 dO_104 (rdB.ch sfx_cX12_through_384 54 rfl (by decide +kernel))
theorem dX12_through_439 : decode cX12_through 439 = .ok (.iconst 4, 1) := dc0 dO_7 (rdB.ch sfx_cX12_through_384 55 rfl (by decide +kernel))
theorem dX12_through_440 : decode cX12_through 440 = .ok (.iadd, 1) := dc0 dO_96 (rdB.ch sfx_cX12_through_384 56 rfl (by decide +kernel))
theorem dX12_through_441 : decode cX12_through 441 = .ok (.iaload, 1) := dc0 dO_46 (rdB.ch sfx_cX12_through_384 57 rfl (by decide +kernel))
theorem dX12_through_442 : decode cX12_through 442 = .ok (.aload_n 0, 1) := dc0 dO_42 (rdB.ch sfx_cX12_through_384 58 rfl (by decide +kernel))
theorem dX12_through_443 : decode cX12_through 443 = .ok (.getfield 352, 3) := dcU2 dO_180 (rdU2.ch sfx_cX12_through_384 59 rfl (by decide +kernel))
theorem dX12_through_446 : decode cX12_through 446 = .ok (.iload 10, 2) := dcU1 dO_21 (rdU1.ch sfx_cX12_through_384 62 rfl (by decide +kernel))
theorem sfx_cX12_through_448 : (cX12_through.data.toList.drop 448).take 67 = [46, 96, 16, 20, 164, 0, 5, 3, 172, 3, 54, 13, 21, 13, 42, 180, 1, 96, 21, 10, 46, 162, 0, 17, 42, 28, 21, 12, 182, 1, 152, 87, 132, 13, 1, 167, 255, 233, 21, 11, 16, 28, 160, 0, 36, 42, 180, 1, 132, 21, 5, 42, 180, 1, 96, 21, 10, 46, 79, 42, 180, 1, 135, 21, 5, 2, 79] := by decide +kernel
theorem dX12_through_448 : decode cX12_through 448 = .ok (.iaload, 1) := dc0 dO_46 (rdB.ch sfx_cX12_through_448 0 rfl (by decide +kernel))
theorem dX12_through_449 : decode cX12_through 449 = .ok (.iadd, 1) := dc0 dO_96 (rdB.ch sfx_cX12_through_448 1 rfl (by decide +kernel))
theorem dX12_through_450 : decode cX12_through 450 = .ok (.bipush 20, 2) := dcS1 dO_16 (rdS1.ch sfx_cX12_through_448 2 rfl (by decide +kernel))
theorem dX12_through_452 : decode cX12_through 452 = .ok (.if_icmp .le 5, 3) := dcS2 dO_164 (rdS2.ch sfx_cX12_through_448 4 rfl (by decide +kernel))
theorem dX12_through_455 : decode cX12_through 455 = .ok (.iconst 0, 1) := dc0 dO_3 (rdB.ch sfx_cX12_through_448 7 rfl (by decide +kernel))
theorem dX12_through_456 : decode cX12_through 456 = .ok (.ireturn, 1) := dc0 dO_172 (rdB.ch sfx_cX12_through_448 8 rfl (by decide +kernel))
theorem dX12_through_457 : decode cX12_through 457 = .ok (.iconst 0, 1) := dc0 dO_3 (rdB.ch sfx_cX12_through_448 9 rfl (by decide +kernel))
theorem dX12_through_458 : decode cX12_through 458 = .ok (.istore 13, 2) := dcU1 dO_54 (rdU1.ch sfx_cX12_through_448 10 rfl (by decide +kernel))
theorem dX12_through_460 : decode cX12_through 460 = .ok (.iload 13, 2) := dcU1 dO_21 (rdU1.ch sfx_cX12_through_448 12 rfl (by decide +kernel))
theorem dX12_through_462 : decode cX12_through 462 = .ok (.aload_n 0, 1) := dc0 dO_42 (rdB.ch sfx_cX12_through_448 14 rfl (by decide +kernel))
theorem dX12_through_463 : decode cX12_through 463 = .ok (.getfield 352, 3) := dcU2 dO_180 (rdU2.ch sfx_cX12_through_448 15 rfl (by decide +kernel))
theorem dX12_through_466 : decode cX12_through 466 = .ok (.iload 10, 2) := dcU1 dO_21 (rdU1.ch sfx_cX12_through_448 18 rfl (by decide +kernel))
theorem dX12_through_468 : decode cX12_through 468 = .ok (.iaload, 1) := dc0 dO_46 (rdB.ch sfx_cX12_through_448 20 rfl (by decide +kernel))
theorem dX12_through_469 : decode cX12_through 469 = .ok (.if_icmp .ge 17, 3) := dcS2 dO_162 (rdS2.ch sfx_cX12_through_448 21 rfl (by decide +kernel))
theorem dX12_through_472 : decode cX12_through 472 = .ok (.aload_n 0, 1) := dc0 dO_42 (rdB.ch sfx_cX12_through_448 24 rfl (by decide +kernel))
theorem dX12_through_473 : decode cX12_through 473 = .ok (.iload_n 2, 1) := dc0 dO_28 (rdB.ch sfx_cX12_through_448 25 rfl (by decide +kernel))
theorem dX12_through_474 : decode cX12_through 474 = .ok (.iload 12, 2) := dcU1 dO_21 (rdU1.ch sfx_cX12_through_448 26 rfl (by decide +kernel))
theorem dX12_through_476 : decode cX12_through 476 = .ok (.invokevirtual 408, 3) := dcU2 dO_182 (rdU2.ch sfx_cX12_through_448 28 rfl (by decide +kernel))
theorem dX12_through_479 : decode cX12_through 479 = .ok (.pop, 1) := dc0 dO_87 (rdB.ch sfx_cX12_through_448 31 rfl (by decide +kernel))
theorem dX12_through_480 : decode cX12_through 480 = .ok (.iinc 13 1, 3) := dcI dO_132 (rdI.ch sfx_cX12_through_448 32 rfl (by decide +kernel))
theorem dX12_through_483 : decode cX12_through 483 = .ok (.goto (-23), 3) := dcS2 dO_167 (rdS2.ch sfx_cX12_through_448 35 rfl (by decide +kernel))
theorem dX12_through_486 : decode cX12_through 486 = .ok (.iload 11, 2) := dcU1 dO_21 (rdU1.ch sfx_cX12_through_448 38 rfl (by decide +kernel))
theorem dX12_through_488 : decode cX12_through 488 = .ok (.bipush 28, 2) := dcS1 dO_16 (rdS1.ch sfx_cX12_through_448 40 rfl (by decide +kernel))
theorem dX12_through_490 : decode cX12_through 490 = .ok (.if_icmp .ne 36, 3) := dcS2 dO_160 (rdS2.ch sfx_cX12_through_448 42 rfl (by decide +kernel))
theorem dX12_through_493 : decode cX12_through 493 = .ok (.aload_n 0, 1) := dc0 dO_42 (rdB.ch sfx_cX12_through_448 45 rfl (by decide +kernel))
theorem dX12_through_494 : decode cX12_through 494 = .ok (.getfield 388, 3) := dcU2 dO_180 (rdU2.ch sfx_cX12_through_448 46 rfl (by decide +kernel))
theorem dX12_through_497 : decode cX12_through 497 = .ok (.iload 5, 2) := dcU1 dO_21 (rdU1.ch sfx_cX12_through_448 49 rfl (by decide +kernel))
theorem dX12_through_499 : decode cX12_through 499 = .ok (.aload_n 0, 1) := dc0 dO_42 (rdB.ch sfx_cX12_through_448 51 rfl (by decide +kernel))
theorem dX12_through_500 : decode cX12_through 500 = .ok (.getfield 352, 3) := dcU2 dO_180 (rdU2.ch sfx_cX12_through_448 52 rfl (by decide +kernel))
theorem dX12_through_503 : decode cX12_through 503 = .ok (.iload 10, 2) := dcU1 dO_21 (rdU1.ch sfx_cX12_through_448 55 rfl (by decide +kernel))
theorem dX12_through_505 : decode cX12_through 505 = .ok (.iaload, 1) := dc0 dO_46 (rdB.ch sfx_cX12_through_448 57 rfl (by decide +kernel))
theorem dX12_through_506 : decode cX12_through 506 = .ok (.iastore, 1) := dc0 dO_79 (rdB.ch sfx_cX12_through_448 58 rfl (by decide +kernel))
theorem dX12_through_507 : decode cX12_through 507 = .ok (.aload_n 0, 1) := dc0 dO_42 (rdB.ch sfx_cX12_through_448 59 rfl (by decide +kernel))
theorem dX12_through_508 : decode cX12_through 508 = .ok (.getfield 391, 3) := dcU2 dO_180 (rdU2.ch sfx_cX12_through_448 60 rfl (by decide +kernel))
theorem dX12_through_511 : decode cX12_through 511 = .ok (.iload 5, 2) := dcU1 dO_21 (rdU1.ch sfx_cX12_through_448 63 rfl (by decide +kernel))
theorem sfx_cX12_through_512 : (cX12_through.data.toList.drop 512).take 67 = [5, 2, 79, 42, 180, 1, 138, 21, 5, 3, 79, 132, 5, 1, 167, 254, 21, 4, 172] := by decide +kernel
theorem dX12_through_513 : decode cX12_through 513 = .ok (.iconst (-1), 1) := dc0 dO_2 (rdB.ch sfx_cX12_through_512 1 rfl (by decide +kernel))
theorem dX12_through_514 : decode cX12_through 514 = .ok (.iastore, 1) := dc0 dO_79 (rdB.ch sfx_cX12_through_512 2 rfl (by decide +kernel))
theorem dX12_through_515 : decode cX12_through 515 = .ok (.aload_n 0, 1) := dc0 dO_42 (rdB.ch sfx_cX12_through_512 3 rfl (by decide +kernel))
theorem dX12_through_516 : decode cX12_through 516 = .ok (.getfield 394, 3) := dcU2 dO_180 (rdU2.ch sfx_cX12_through_512 4 rfl (by decide +kernel))
theorem dX12_through_519 : decode cX12_through 519 = .ok (.iload 5, 2) := dcU1 dO_21 (rdU1.ch sfx_cX12_through_512 7 rfl (by decide +kernel))
theorem dX12_through_521 : decode cX12_through 521 = .ok (.iconst 0, 1) := dc0 dO_3 (rdB.ch sfx_cX12_through_512 9 rfl (by decide +kernel))
theorem dX12_through_522 : decode cX12_through 522 = .ok (.iastore, 1) := dc0 dO_79 (rdB.ch sfx_cX12_through_512 10 rfl (by decide +kernel))
theorem dX12_through_523 : decode cX12_through 523 = .ok (.iinc 5 1, 3) := dcI dO_132 (rdI.ch sfx_cX12_through_512 11 rfl (by decide +kernel))
theorem dX12_through_526 : decode cX12_through 526 = .ok (.goto (-491), 3) := dcS2 dO_167 (rdS2.ch sfx_cX12_through_512 14 rfl (by decide +kernel))
theorem dX12_through_529 : decode cX12_through 529 = .ok (.iconst 1, 1) := dc0 dO_4 (rdB.ch sfx_cX12_through_512 17 rfl (by decide +kernel))
theorem dX12_through_530 : decode cX12_through 530 = .ok (.ireturn, 1) := dc0 dO_172 (rdB.ch sfx_cX12_through_512 18 rfl (by decide +kernel))
theorem dX12_tieWord_0 : decode cX12_tieWord 0 = .ok (.aload_n 0, 1) := dc0 dO_42 (by decide +kernel)
theorem dX12_tieWord_1 : decode cX12_tieWord 1 = .ok (.iload_n 1, 1) := dc0 dO_27 (by decide +kernel)
theorem dX12_tieWord_2 : decode cX12_tieWord 2 = .ok (.iload_n 2, 1) := dc0 dO_28 (by decide +kernel)
theorem dX12_tieWord_3 : decode cX12_tieWord 3 = .ok (.invokevirtual 43, 3) := dcU2 dO_182 (by decide +kernel)
theorem dX12_tieWord_6 : decode cX12_tieWord 6 = .ok (.istore_n 3, 1) := dc0 dO_62 (by decide +kernel)
theorem dX12_tieWord_7 : decode cX12_tieWord 7 = .ok (.aload_n 0, 1) := dc0 dO_42 (by decide +kernel)
theorem dX12_tieWord_8 : decode cX12_tieWord 8 = .ok (.getfield 46, 3) := dcU2 dO_180 (by decide +kernel)
theorem dX12_tieWord_11 : decode cX12_tieWord 11 = .ok (.iload_n 3, 1) := dc0 dO_29 (by decide +kernel)
theorem dX12_tieWord_12 : decode cX12_tieWord 12 = .ok (.iaload, 1) := dc0 dO_46 (by decide +kernel)
theorem dX12_tieWord_13 : decode cX12_tieWord 13 = .ok (.iconst 1, 1) := dc0 dO_4 (by decide +kernel)
theorem dX12_tieWord_14 : decode cX12_tieWord 14 = .ok (.if_icmp .ne 6, 3) := dcS2 dO_160 (by decide +kernel)
theorem dX12_tieWord_17 : decode cX12_tieWord 17 = .ok (.bipush 18, 2) := dcS1 dO_16 (by decide +kernel)
theorem dX12_tieWord_19 : decode cX12_tieWord 19 = .ok (.ireturn, 1) := dc0 dO_172 (by decide +kernel)
theorem dX12_tieWord_20 : decode cX12_tieWord 20 = .ok (.aload_n 0, 1) := dc0 dO_42 (by decide +kernel)
theorem dX12_tieWord_21 : decode cX12_tieWord 21 = .ok (.getfield 46, 3) := dcU2 dO_180 (by decide +kernel)
theorem dX12_tieWord_24 : decode cX12_tieWord 24 = .ok (.iload_n 3, 1) := dc0 dO_29 (by decide +kernel)
theorem dX12_tieWord_25 : decode cX12_tieWord 25 = .ok (.iaload, 1) := dc0 dO_46 (by decide +kernel)
theorem dX12_tieWord_26 : decode cX12_tieWord 26 = .ok (.iconst 2, 1) := dc0 dO_5 (by decide +kernel)
theorem dX12_tieWord_27 : decode cX12_tieWord 27 = .ok (.if_icmp .ne 6, 3) := dcS2 dO_160 (by decide +kernel)
theorem dX12_tieWord_30 : decode cX12_tieWord 30 = .ok (.bipush 19, 2) := dcS1 dO_16 (by decide +kernel)
theorem dX12_tieWord_32 : decode cX12_tieWord 32 = .ok (.ireturn, 1) := dc0 dO_172 (by decide +kernel)
theorem dX12_tieWord_33 : decode cX12_tieWord 33 = .ok (.aload_n 0, 1) := dc0 dO_42 (by decide +kernel)
theorem dX12_tieWord_34 : decode cX12_tieWord 34 = .ok (.getfield 40, 3) := dcU2 dO_180 (by decide +kernel)
theorem dX12_tieWord_37 : decode cX12_tieWord 37 = .ok (.iconst 2, 1) := dc0 dO_5 (by decide +kernel)
theorem dX12_tieWord_38 : decode cX12_tieWord 38 = .ok (.iload_n 3, 1) := dc0 dO_29 (by decide +kernel)
theorem dX12_tieWord_39 : decode cX12_tieWord 39 = .ok (.imul, 1) := dc0 dO_104 (by decide +kernel)
theorem dX12_tieWord_40 : decode cX12_tieWord 40 = .ok (.iaload, 1) := dc0 dO_46 (by decide +kernel)
theorem dX12_tieWord_41 : decode cX12_tieWord 41 = .ok (.iload_n 1, 1) := dc0 dO_27 (by decide +kernel)
theorem dX12_tieWord_42 : decode cX12_tieWord 42 = .ok (.if_icmp .ne 8, 3) := dcS2 dO_160 (by decide +kernel)
theorem dX12_tieWord_45 : decode cX12_tieWord 45 = .ok (.bipush 16, 2) := dcS1 dO_16 (by decide +kernel)
theorem dX12_tieWord_47 : decode cX12_tieWord 47 = .ok (.goto 5, 3) := dcS2 dO_167 (by decide +kernel)
theorem dX12_tieWord_50 : decode cX12_tieWord 50 = .ok (.bipush 17, 2) := dcS1 dO_16 (by decide +kernel)
theorem dX12_tieWord_52 : decode cX12_tieWord 52 = .ok (.ireturn, 1) := dc0 dO_172 (by decide +kernel)
theorem dX12_today_0 : decode cX12_today 0 = .ok (.iload_n 1, 1) := dc0 dO_27 (by decide +kernel)
theorem dX12_today_1 : decode cX12_today 1 = .ok (.ifCond .ge 5, 3) := dcS2 dO_156 (by decide +kernel)
theorem dX12_today_4 : decode cX12_today 4 = .ok (.iconst (-1), 1) := dc0 dO_2 (by decide +kernel)
theorem dX12_today_5 : decode cX12_today 5 = .ok (.ireturn, 1) := dc0 dO_172 (by decide +kernel)
theorem dX12_today_6 : decode cX12_today 6 = .ok (.aload_n 0, 1) := dc0 dO_42 (by decide +kernel)
theorem dX12_today_7 : decode cX12_today 7 = .ok (.getfield 85, 3) := dcU2 dO_180 (by decide +kernel)
theorem dX12_today_10 : decode cX12_today 10 = .ok (.istore_n 2, 1) := dc0 dO_61 (by decide +kernel)
theorem dX12_today_11 : decode cX12_today 11 = .ok (.aload_n 0, 1) := dc0 dO_42 (by decide +kernel)
theorem dX12_today_12 : decode cX12_today 12 = .ok (.iload_n 1, 1) := dc0 dO_27 (by decide +kernel)
theorem dX12_today_13 : decode cX12_today 13 = .ok (.putfield 85, 3) := dcU2 dO_181 (by decide +kernel)
theorem dX12_today_16 : decode cX12_today 16 = .ok (.aload_n 0, 1) := dc0 dO_42 (by decide +kernel)
theorem dX12_today_17 : decode cX12_today 17 = .ok (.invokevirtual 88, 3) := dcU2 dO_182 (by decide +kernel)
theorem dX12_today_20 : decode cX12_today 20 = .ok (.iload_n 2, 1) := dc0 dO_28 (by decide +kernel)
theorem dX12_today_21 : decode cX12_today 21 = .ok (.ireturn, 1) := dc0 dO_172 (by decide +kernel)
theorem dX12_use_0 : decode cX12_use 0 = .ok (.aload_n 0, 1) := dc0 dO_42 (by decide +kernel)
theorem dX12_use_1 : decode cX12_use 1 = .ok (.iload_n 1, 1) := dc0 dO_27 (by decide +kernel)
theorem dX12_use_2 : decode cX12_use 2 = .ok (.invokevirtual 66, 3) := dcU2 dO_182 (by decide +kernel)
theorem dX12_use_5 : decode cX12_use 5 = .ok (.ifCond .eq 43, 3) := dcS2 dO_153 (by decide +kernel)
theorem dX12_use_8 : decode cX12_use 8 = .ok (.iload_n 2, 1) := dc0 dO_28 (by decide +kernel)
theorem dX12_use_9 : decode cX12_use 9 = .ok (.iconst 0, 1) := dc0 dO_3 (by decide +kernel)
theorem dX12_use_10 : decode cX12_use 10 = .ok (.iconst 1, 1) := dc0 dO_4 (by decide +kernel)
theorem dX12_use_11 : decode cX12_use 11 = .ok (.invokestatic 18, 3) := dcU2 dO_184 (by decide +kernel)
theorem dX12_use_14 : decode cX12_use 14 = .ok (.ifCond .eq 34, 3) := dcS2 dO_153 (by decide +kernel)
theorem dX12_use_17 : decode cX12_use 17 = .ok (.iload_n 3, 1) := dc0 dO_29 (by decide +kernel)
theorem dX12_use_18 : decode cX12_use 18 = .ok (.iconst 0, 1) := dc0 dO_3 (by decide +kernel)
theorem dX12_use_19 : decode cX12_use 19 = .ok (.iconst 1, 1) := dc0 dO_4 (by decide +kernel)
theorem dX12_use_20 : decode cX12_use 20 = .ok (.invokestatic 18, 3) := dcU2 dO_184 (by decide +kernel)
theorem dX12_use_23 : decode cX12_use 23 = .ok (.ifCond .eq 25, 3) := dcS2 dO_153 (by decide +kernel)
theorem dX12_use_26 : decode cX12_use 26 = .ok (.iload 4, 2) := dcU1 dO_21 (by decide +kernel)
theorem dX12_use_28 : decode cX12_use 28 = .ok (.ldc 29, 2) := dcU1 dO_18 (by decide +kernel)
theorem dX12_use_30 : decode cX12_use 30 = .ok (.if_icmp .eq 20, 3) := dcS2 dO_159 (by decide +kernel)
theorem dX12_use_33 : decode cX12_use 33 = .ok (.iload 4, 2) := dcU1 dO_21 (by decide +kernel)
theorem dX12_use_35 : decode cX12_use 35 = .ok (.iconst 0, 1) := dc0 dO_3 (by decide +kernel)
theorem dX12_use_36 : decode cX12_use 36 = .ok (.aload_n 0, 1) := dc0 dO_42 (by decide +kernel)
theorem dX12_use_37 : decode cX12_use 37 = .ok (.getfield 355, 3) := dcU2 dO_180 (by decide +kernel)
theorem dX12_use_40 : decode cX12_use 40 = .ok (.iconst 1, 1) := dc0 dO_4 (by decide +kernel)
theorem dX12_use_41 : decode cX12_use 41 = .ok (.isub, 1) := dc0 dO_100 (by decide +kernel)
theorem dX12_use_42 : decode cX12_use 42 = .ok (.invokestatic 18, 3) := dcU2 dO_184 (by decide +kernel)
theorem dX12_use_45 : decode cX12_use 45 = .ok (.ifCond .ne 5, 3) := dcS2 dO_154 (by decide +kernel)
theorem dX12_use_48 : decode cX12_use 48 = .ok (.iconst (-1), 1) := dc0 dO_2 (by decide +kernel)
theorem dX12_use_49 : decode cX12_use 49 = .ok (.ireturn, 1) := dc0 dO_172 (by decide +kernel)
theorem dX12_use_50 : decode cX12_use 50 = .ok (.aload_n 0, 1) := dc0 dO_42 (by decide +kernel)
theorem dX12_use_51 : decode cX12_use 51 = .ok (.getfield 63, 3) := dcU2 dO_180 (by decide +kernel)
theorem dX12_use_54 : decode cX12_use 54 = .ok (.iconst 4, 1) := dc0 dO_7 (by decide +kernel)
theorem dX12_use_55 : decode cX12_use 55 = .ok (.iload_n 1, 1) := dc0 dO_27 (by decide +kernel)
theorem dX12_use_56 : decode cX12_use 56 = .ok (.imul, 1) := dc0 dO_104 (by decide +kernel)
theorem dX12_use_57 : decode cX12_use 57 = .ok (.iconst 2, 1) := dc0 dO_5 (by decide +kernel)
theorem dX12_use_58 : decode cX12_use 58 = .ok (.iload_n 2, 1) := dc0 dO_28 (by decide +kernel)
theorem dX12_use_59 : decode cX12_use 59 = .ok (.imul, 1) := dc0 dO_104 (by decide +kernel)
theorem dX12_use_60 : decode cX12_use 60 = .ok (.iadd, 1) := dc0 dO_96 (by decide +kernel)
theorem dX12_use_61 : decode cX12_use 61 = .ok (.iload_n 3, 1) := dc0 dO_29 (by decide +kernel)
theorem dX12_use_62 : decode cX12_use 62 = .ok (.iadd, 1) := dc0 dO_96 (by decide +kernel)
theorem dX12_use_63 : decode cX12_use 63 = .ok (.iload 4, 2) := dcU1 dO_21 (by decide +kernel)
theorem dX12_use_65 : decode cX12_use 65 = .ok (.iastore, 1) := dc0 dO_79 (by decide +kernel)
theorem dX12_use_66 : decode cX12_use 66 = .ok (.aload_n 0, 1) := dc0 dO_42 (by decide +kernel)
theorem dX12_use_67 : decode cX12_use 67 = .ok (.getfield 40, 3) := dcU2 dO_180 (by decide +kernel)
theorem dX12_use_70 : decode cX12_use 70 = .ok (.iconst 2, 1) := dc0 dO_5 (by decide +kernel)
theorem dX12_use_71 : decode cX12_use 71 = .ok (.iload_n 1, 1) := dc0 dO_27 (by decide +kernel)
theorem dX12_use_72 : decode cX12_use 72 = .ok (.imul, 1) := dc0 dO_104 (by decide +kernel)
theorem dX12_use_73 : decode cX12_use 73 = .ok (.iload_n 2, 1) := dc0 dO_28 (by decide +kernel)
theorem dX12_use_74 : decode cX12_use 74 = .ok (.iadd, 1) := dc0 dO_96 (by decide +kernel)
theorem dX12_use_75 : decode cX12_use 75 = .ok (.iaload, 1) := dc0 dO_46 (by decide +kernel)
theorem dX12_use_76 : decode cX12_use 76 = .ok (.istore 5, 2) := dcU1 dO_54 (by decide +kernel)
theorem dX12_use_78 : decode cX12_use 78 = .ok (.iload_n 3, 1) := dc0 dO_29 (by decide +kernel)
theorem dX12_use_79 : decode cX12_use 79 = .ok (.ifCond .ne 12, 3) := dcS2 dO_154 (by decide +kernel)
theorem dX12_use_82 : decode cX12_use 82 = .ok (.aload_n 0, 1) := dc0 dO_42 (by decide +kernel)
theorem dX12_use_83 : decode cX12_use 83 = .ok (.iload 5, 2) := dcU1 dO_21 (by decide +kernel)
theorem dX12_use_85 : decode cX12_use 85 = .ok (.invokevirtual 600, 3) := dcU2 dO_182 (by decide +kernel)
theorem dX12_use_88 : decode cX12_use 88 = .ok (.goto 10, 3) := dcS2 dO_167 (by decide +kernel)
theorem dX12_use_91 : decode cX12_use 91 = .ok (.aload_n 0, 1) := dc0 dO_42 (by decide +kernel)
theorem dX12_use_92 : decode cX12_use 92 = .ok (.iload 5, 2) := dcU1 dO_21 (by decide +kernel)
theorem dX12_use_94 : decode cX12_use 94 = .ok (.iload_n 1, 1) := dc0 dO_27 (by decide +kernel)
theorem dX12_use_95 : decode cX12_use 95 = .ok (.invokevirtual 603, 3) := dcU2 dO_182 (by decide +kernel)
theorem dX12_use_98 : decode cX12_use 98 = .ok (.iconst 0, 1) := dc0 dO_3 (by decide +kernel)
theorem dX12_use_99 : decode cX12_use 99 = .ok (.ireturn, 1) := dc0 dO_172 (by decide +kernel)
theorem dX12_withdraw_0 : decode cX12_withdraw 0 = .ok (.aload_n 0, 1) := dc0 dO_42 (by decide +kernel)
theorem dX12_withdraw_1 : decode cX12_withdraw 1 = .ok (.iload_n 1, 1) := dc0 dO_27 (by decide +kernel)
theorem dX12_withdraw_2 : decode cX12_withdraw 2 = .ok (.invokevirtual 49, 3) := dcU2 dO_182 (by decide +kernel)
theorem dX12_withdraw_5 : decode cX12_withdraw 5 = .ok (.ifCond .eq 11, 3) := dcS2 dO_153 (by decide +kernel)
theorem dX12_withdraw_8 : decode cX12_withdraw 8 = .ok (.aload_n 0, 1) := dc0 dO_42 (by decide +kernel)
theorem dX12_withdraw_9 : decode cX12_withdraw 9 = .ok (.iload_n 2, 1) := dc0 dO_28 (by decide +kernel)
theorem dX12_withdraw_10 : decode cX12_withdraw 10 = .ok (.invokevirtual 92, 3) := dcU2 dO_182 (by decide +kernel)
theorem dX12_withdraw_13 : decode cX12_withdraw 13 = .ok (.ifCond .ne 5, 3) := dcS2 dO_154 (by decide +kernel)
theorem dX12_withdraw_16 : decode cX12_withdraw 16 = .ok (.iconst (-1), 1) := dc0 dO_2 (by decide +kernel)
theorem dX12_withdraw_17 : decode cX12_withdraw 17 = .ok (.ireturn, 1) := dc0 dO_172 (by decide +kernel)
theorem dX12_withdraw_18 : decode cX12_withdraw 18 = .ok (.aload_n 0, 1) := dc0 dO_42 (by decide +kernel)
theorem dX12_withdraw_19 : decode cX12_withdraw 19 = .ok (.getfield 448, 3) := dcU2 dO_180 (by decide +kernel)
theorem dX12_withdraw_22 : decode cX12_withdraw 22 = .ok (.bipush 10, 2) := dcS1 dO_16 (by decide +kernel)
theorem dX12_withdraw_24 : decode cX12_withdraw 24 = .ok (.iload_n 1, 1) := dc0 dO_27 (by decide +kernel)
theorem dX12_withdraw_25 : decode cX12_withdraw 25 = .ok (.imul, 1) := dc0 dO_104 (by decide +kernel)
theorem dX12_withdraw_26 : decode cX12_withdraw 26 = .ok (.iload_n 2, 1) := dc0 dO_28 (by decide +kernel)
theorem dX12_withdraw_27 : decode cX12_withdraw 27 = .ok (.iadd, 1) := dc0 dO_96 (by decide +kernel)
theorem dX12_withdraw_28 : decode cX12_withdraw 28 = .ok (.iaload, 1) := dc0 dO_46 (by decide +kernel)
theorem dX12_withdraw_29 : decode cX12_withdraw 29 = .ok (.ifCond .ge 6, 3) := dcS2 dO_156 (by decide +kernel)
theorem dX12_withdraw_32 : decode cX12_withdraw 32 = .ok (.bipush (-2), 2) := dcS1 dO_16 (by decide +kernel)
theorem dX12_withdraw_34 : decode cX12_withdraw 34 = .ok (.ireturn, 1) := dc0 dO_172 (by decide +kernel)
theorem dX12_withdraw_35 : decode cX12_withdraw 35 = .ok (.aload_n 0, 1) := dc0 dO_42 (by decide +kernel)
theorem dX12_withdraw_36 : decode cX12_withdraw 36 = .ok (.getfield 448, 3) := dcU2 dO_180 (by decide +kernel)
theorem dX12_withdraw_39 : decode cX12_withdraw 39 = .ok (.bipush 10, 2) := dcS1 dO_16 (by decide +kernel)
theorem dX12_withdraw_41 : decode cX12_withdraw 41 = .ok (.iload_n 1, 1) := dc0 dO_27 (by decide +kernel)
theorem dX12_withdraw_42 : decode cX12_withdraw 42 = .ok (.imul, 1) := dc0 dO_104 (by decide +kernel)
theorem dX12_withdraw_43 : decode cX12_withdraw 43 = .ok (.iload_n 2, 1) := dc0 dO_28 (by decide +kernel)
theorem dX12_withdraw_44 : decode cX12_withdraw 44 = .ok (.iadd, 1) := dc0 dO_96 (by decide +kernel)
theorem dX12_withdraw_45 : decode cX12_withdraw 45 = .ok (.iconst (-1), 1) := dc0 dO_2 (by decide +kernel)
theorem dX12_withdraw_46 : decode cX12_withdraw 46 = .ok (.iastore, 1) := dc0 dO_79 (by decide +kernel)
theorem dX12_withdraw_47 : decode cX12_withdraw 47 = .ok (.aload_n 0, 1) := dc0 dO_42 (by decide +kernel)
theorem dX12_withdraw_48 : decode cX12_withdraw 48 = .ok (.iload_n 1, 1) := dc0 dO_27 (by decide +kernel)
theorem dX12_withdraw_49 : decode cX12_withdraw 49 = .ok (.iload_n 2, 1) := dc0 dO_28 (by decide +kernel)
theorem dX12_withdraw_50 : decode cX12_withdraw 50 = .ok (.invokevirtual 597, 3) := dcU2 dO_182 (by decide +kernel)
theorem dX12_withdraw_53 : decode cX12_withdraw 53 = .ok (.iconst 0, 1) := dc0 dO_3 (by decide +kernel)
theorem dX12_withdraw_54 : decode cX12_withdraw 54 = .ok (.ireturn, 1) := dc0 dO_172 (by decide +kernel)
end
section
theorem vc_X12_cone_10 {f_c z766 : Int} (h0 : ((2 * (10 - f_c)) + z766) < ((0 : Nat) : Int)) (h1 : 0 ≤ f_c ∧ f_c ≤ 10) (h2 : 0 ≤ z766 ∧ z766 ≤ 1) : False := by omega
theorem vc_X12_cone_13 {p1 z1 z8 z981 : Int} (h0 : z1 ≤ z981) (h1 : (z8 = 1 → 0 ≤ p1 ∧ p1 < z1)) (h2 : (z8 = 0 → p1 < 0 ∨ z1 ≤ p1)) (h3 : 0 ≤ p1 ∧ p1 < z1) (h4 : 0 ≤ p1 ∧ p1 ≤ 9) (h5 : 1 ≤ z1 ∧ z1 ≤ 10) (h6 : 1 ≤ z8 ∧ z8 ≤ 1) (h7 : 0 ≤ z981 ∧ z981 ≤ 10) : 1 ≤ z981 ∧ z981 ≤ 10 := by omega
theorem vc_X12_cone_14 {p2 : Int} (h0 : 0 ≤ p2) (h1 : (-1) ≤ p2 ∧ p2 ≤ (-1)) : False := by omega
theorem vc_X12_cone_15 {p1 z1 z8 z981 : Int} (h0 : z981 < z1) (h1 : (z8 = 1 → 0 ≤ p1 ∧ p1 < z1)) (h2 : (z8 = 0 → p1 < 0 ∨ z1 ≤ p1)) (h3 : 0 ≤ p1 ∧ p1 < z1) (h4 : 0 ≤ p1 ∧ p1 ≤ 9) (h5 : 1 ≤ z1 ∧ z1 ≤ 10) (h6 : 1 ≤ z8 ∧ z8 ≤ 1) (h7 : 0 ≤ z981 ∧ z981 ≤ 10) : 0 ≤ z981 ∧ z981 ≤ 9 := by omega
theorem vc_X12_cone_17 {N p1 z1 z8 z981 : Int} (h0 : (11 - z981) < N + 1) (h1 : z981 < z1) (h2 : (z8 = 1 → 0 ≤ p1 ∧ p1 < z1)) (h3 : (z8 = 0 → p1 < 0 ∨ z1 ≤ p1)) (h4 : 0 ≤ p1 ∧ p1 < z1) (h5 : 0 ≤ p1 ∧ p1 ≤ 9) (h6 : 1 ≤ z1 ∧ z1 ≤ 10) (h7 : 1 ≤ z8 ∧ z8 ≤ 1) (h8 : 0 ≤ z981 ∧ z981 ≤ 9) : (11 - (z981 + 1)) < N := by omega
theorem vc_X12_cone_21 {f_c f_d z1399 z1400 : Int} (h0 : (21 - z1399) < ((0 : Nat) : Int)) (h1 : 0 ≤ f_d ∧ f_d ≤ 10) (h2 : f_c ≤ f_d) (h3 : z1400 = 0 ∨ f_c + 1 ≤ f_d) (h4 : 0 ≤ f_c ∧ f_c ≤ 10) (h5 : 0 ≤ z1399 ∧ z1399 ≤ 20) (h6 : 0 ≤ z1400 ∧ z1400 ≤ 1) : False := by omega
theorem vc_X12_cone_22 {N f_c f_d z1400 z766 : Int} (h0 : ((2 * (10 - f_c)) + z766) < N + 1) (h1 : ¬ z766 = 0) (h2 : f_c ≤ f_d) (h3 : z1400 = 0 ∨ f_c + 1 ≤ f_d) (h4 : 0 ≤ f_c ∧ f_c ≤ 10) (h5 : 0 ≤ f_d ∧ f_d ≤ 10) (h6 : 0 ≤ z1400 ∧ z1400 ≤ 1) (h7 : 1 ≤ z766 ∧ z766 ≤ 1) : ((2 * (10 - f_d)) + z1400) < N := by omega
theorem vc_X12_cone_26 {f_c f_d z1400 : Int} (h0 : f_c ≤ f_d) (h1 : z1400 = 0 ∨ f_c + 1 ≤ f_d) (h2 : 0 ≤ f_c ∧ f_c ≤ 10) (h3 : 0 ≤ f_d ∧ f_d ≤ 10) (h4 : 0 ≤ z1400 ∧ z1400 ≤ 1) : f_c ≤ f_d := by omega
theorem vc_X12_cone_27 {f_c f_d z1400 : Int} (h0 : f_c ≤ f_d) (h1 : z1400 = 0 ∨ f_c + 1 ≤ f_d) (h2 : 0 ≤ f_c ∧ f_c ≤ 10) (h3 : 0 ≤ f_d ∧ f_d ≤ 10) (h4 : 0 ≤ z1400 ∧ z1400 ≤ 1) : z1400 = 0 ∨ f_c + 1 ≤ f_d := by omega
theorem vc_X12_cone_34 {f_c f_d z1400 z1498 : Int} (h0 : f_c ≤ f_d) (h1 : z1400 = 0 ∨ f_c + 1 ≤ f_d) (h2 : z1498 = 0) (h3 : 0 ≤ f_c ∧ f_c ≤ 10) (h4 : 0 ≤ f_d ∧ f_d ≤ 10) (h5 : 0 ≤ z1400 ∧ z1400 ≤ 1) (h6 : 0 ≤ z1498 ∧ z1498 ≤ 0) : f_c ≤ ((f_d + 1) - z1498) := by omega
theorem vc_X12_cone_35 {f_c f_d z1400 z1498 : Int} (h0 : f_c ≤ f_d) (h1 : z1400 = 0 ∨ f_c + 1 ≤ f_d) (h2 : z1498 = 0) (h3 : 0 ≤ f_c ∧ f_c ≤ 10) (h4 : 0 ≤ f_d ∧ f_d ≤ 10) (h5 : 0 ≤ z1400 ∧ z1400 ≤ 1) (h6 : 0 ≤ z1498 ∧ z1498 ≤ 0) : (1 : Int) = 0 ∨ f_c + 1 ≤ ((f_d + 1) - z1498) := by omega
theorem vc_X12_cone_36 {f_c : Int} (h0 : 0 ≤ f_c ∧ f_c ≤ 10) : f_c ≤ f_c := by omega
theorem vc_X12_cone_37 {f_c : Int} (h0 : 0 ≤ f_c ∧ f_c ≤ 10) : (0 : Int) = 0 ∨ f_c + 1 ≤ f_c := by omega
theorem vc_X12_cone_39 {z1512 : Int} (h0 : 0 ≤ z1512 ∧ z1512 ≤ 10) : ((2 * (10 - z1512)) + 1) < ((22 : Nat) : Int) := by omega
theorem vc_X12_cone_41 {N p1 z1 z480 z8 : Int} (h0 : (11 - z480) < N + 1) (h1 : z480 < 10) (h2 : ¬ z480 = p1) (h3 : (z8 = 1 → 0 ≤ p1 ∧ p1 < z1)) (h4 : (z8 = 0 → p1 < 0 ∨ z1 ≤ p1)) (h5 : 0 ≤ p1 ∧ p1 < z1) (h6 : 0 ≤ p1 ∧ p1 ≤ 9) (h7 : 1 ≤ z1 ∧ z1 ≤ 10) (h8 : 0 ≤ z480 ∧ z480 ≤ 9) (h9 : 1 ≤ z8 ∧ z8 ≤ 1) : (11 - (z480 + 1)) < N := by omega
theorem vc_X12_cone_42 {N p1 z1 z480 z8 : Int} (h0 : (11 - z480) < N + 1) (h1 : z480 < 10) (h2 : z480 = p1) (h3 : (z8 = 1 → 0 ≤ p1 ∧ p1 < z1)) (h4 : (z8 = 0 → p1 < 0 ∨ z1 ≤ p1)) (h5 : 0 ≤ p1 ∧ p1 < z1) (h6 : 0 ≤ p1 ∧ p1 ≤ 9) (h7 : 1 ≤ z1 ∧ z1 ≤ 10) (h8 : 0 ≤ z480 ∧ z480 ≤ 9) (h9 : 1 ≤ z8 ∧ z8 ≤ 1) : (11 - (z480 + 1)) < N := by omega
theorem vc_X12_cone_44 {p1 p2 z1 z1527 z8 : Int} (h0 : (z1527 = 1 → 0 ≤ p2 ∧ p2 < z1)) (h1 : (z1527 = 0 → p2 < 0 ∨ z1 ≤ p2)) (h2 : ¬ z1527 = 0) (h3 : (z8 = 1 → 0 ≤ p1 ∧ p1 < z1)) (h4 : (z8 = 0 → p1 < 0 ∨ z1 ≤ p1)) (h5 : 0 ≤ p1 ∧ p1 < z1) (h6 : ¬ p2 = (-1)) (h7 : 0 ≤ p1 ∧ p1 ≤ 9) (h8 : (-2147483648) ≤ p2 ∧ p2 ≤ 2147483647) (h9 : 1 ≤ z1 ∧ z1 ≤ 10) (h10 : 1 ≤ z1527 ∧ z1527 ≤ 1) (h11 : 1 ≤ z8 ∧ z8 ≤ 1) : z1527 = 1 := by omega
theorem vc_X12_cone_45 {p1 p2 z1 z1527 z8 : Int} (h0 : 0 ≤ p2 ∧ p2 < z1) (h1 : (z8 = 1 → 0 ≤ p1 ∧ p1 < z1)) (h2 : (z8 = 0 → p1 < 0 ∨ z1 ≤ p1)) (h3 : 0 ≤ p1 ∧ p1 < z1) (h4 : ¬ p2 = (-1)) (h5 : (z1527 = 1 → 0 ≤ p2 ∧ p2 < z1)) (h6 : (z1527 = 0 → p2 < 0 ∨ z1 ≤ p2)) (h7 : 0 ≤ p1 ∧ p1 ≤ 9) (h8 : (-2147483648) ≤ p2 ∧ p2 ≤ 2147483647) (h9 : 1 ≤ z1 ∧ z1 ≤ 10) (h10 : 1 ≤ z1527 ∧ z1527 ≤ 1) (h11 : 1 ≤ z8 ∧ z8 ≤ 1) : 0 ≤ p2 ∧ p2 ≤ 9 := by omega
theorem vc_X12_cone_51 {p1 p2 z1 z1527 z2620 z8 : Int} (h0 : z1 ≤ z2620) (h1 : (z8 = 1 → 0 ≤ p1 ∧ p1 < z1)) (h2 : (z8 = 0 → p1 < 0 ∨ z1 ≤ p1)) (h3 : 0 ≤ p1 ∧ p1 < z1) (h4 : (z1527 = 1 → 0 ≤ p2 ∧ p2 < z1)) (h5 : (z1527 = 0 → p2 < 0 ∨ z1 ≤ p2)) (h6 : 0 ≤ p2 ∧ p2 < z1) (h7 : 0 ≤ p1 ∧ p1 ≤ 9) (h8 : 0 ≤ p2 ∧ p2 ≤ 9) (h9 : 1 ≤ z1 ∧ z1 ≤ 10) (h10 : 1 ≤ z1527 ∧ z1527 ≤ 1) (h11 : 0 ≤ z2620 ∧ z2620 ≤ 10) (h12 : 1 ≤ z8 ∧ z8 ≤ 1) : 1 ≤ z2620 ∧ z2620 ≤ 10 := by omega
theorem vc_X12_cone_52 {p2 : Int} (h0 : p2 < 0) (h1 : 0 ≤ p2 ∧ p2 ≤ 9) : False := by omega
theorem vc_X12_cone_55 {p1 p2 z1 z1527 z2620 z8 : Int} (h0 : z2620 < z1) (h1 : (z8 = 1 → 0 ≤ p1 ∧ p1 < z1)) (h2 : (z8 = 0 → p1 < 0 ∨ z1 ≤ p1)) (h3 : 0 ≤ p1 ∧ p1 < z1) (h4 : (z1527 = 1 → 0 ≤ p2 ∧ p2 < z1)) (h5 : (z1527 = 0 → p2 < 0 ∨ z1 ≤ p2)) (h6 : 0 ≤ p2 ∧ p2 < z1) (h7 : 0 ≤ p1 ∧ p1 ≤ 9) (h8 : 0 ≤ p2 ∧ p2 ≤ 9) (h9 : 1 ≤ z1 ∧ z1 ≤ 10) (h10 : 1 ≤ z1527 ∧ z1527 ≤ 1) (h11 : 0 ≤ z2620 ∧ z2620 ≤ 10) (h12 : 1 ≤ z8 ∧ z8 ≤ 1) : 0 ≤ z2620 ∧ z2620 ≤ 9 := by omega
theorem vc_X12_cone_57 {N p1 p2 z1 z1527 z2620 z8 : Int} (h0 : (11 - z2620) < N + 1) (h1 : z2620 < z1) (h2 : (z8 = 1 → 0 ≤ p1 ∧ p1 < z1)) (h3 : (z8 = 0 → p1 < 0 ∨ z1 ≤ p1)) (h4 : 0 ≤ p1 ∧ p1 < z1) (h5 : (z1527 = 1 → 0 ≤ p2 ∧ p2 < z1)) (h6 : (z1527 = 0 → p2 < 0 ∨ z1 ≤ p2)) (h7 : 0 ≤ p2 ∧ p2 < z1) (h8 : 0 ≤ p1 ∧ p1 ≤ 9) (h9 : 0 ≤ p2 ∧ p2 ≤ 9) (h10 : 1 ≤ z1 ∧ z1 ≤ 10) (h11 : 1 ≤ z1527 ∧ z1527 ≤ 1) (h12 : 0 ≤ z2620 ∧ z2620 ≤ 9) (h13 : 1 ≤ z8 ∧ z8 ≤ 1) : (11 - (z2620 + 1)) < N := by omega
theorem vc_X12_cone_61 {N f_c f_d z2340 z3047 : Int} (h0 : ((2 * (10 - f_c)) + z2340) < N + 1) (h1 : ¬ z2340 = 0) (h2 : f_c ≤ f_d) (h3 : z3047 = 0 ∨ f_c + 1 ≤ f_d) (h4 : 0 ≤ f_c ∧ f_c ≤ 10) (h5 : 0 ≤ f_d ∧ f_d ≤ 10) (h6 : 1 ≤ z2340 ∧ z2340 ≤ 1) (h7 : 0 ≤ z3047 ∧ z3047 ≤ 1) : ((2 * (10 - f_d)) + z3047) < N := by omega
theorem vc_X12_cone_80 {p1 p2 z1 z1527 z8 : Int} (h0 : (z1527 = 1 → 0 ≤ p2 ∧ p2 < z1)) (h1 : (z1527 = 0 → p2 < 0 ∨ z1 ≤ p2)) (h2 : z1527 = 0) (h3 : (z8 = 1 → 0 ≤ p1 ∧ p1 < z1)) (h4 : (z8 = 0 → p1 < 0 ∨ z1 ≤ p1)) (h5 : 0 ≤ p1 ∧ p1 < z1) (h6 : ¬ p2 = (-1)) (h7 : 0 ≤ p1 ∧ p1 ≤ 9) (h8 : (-2147483648) ≤ p2 ∧ p2 ≤ 2147483647) (h9 : 1 ≤ z1 ∧ z1 ≤ 10) (h10 : 0 ≤ z1527 ∧ z1527 ≤ 0) (h11 : 1 ≤ z8 ∧ z8 ≤ 1) : z1527 = 0 := by omega
set_option maxRecDepth 4000 in
set_option maxHeartbeats 4000000 in
theorem c_X12_cone {l : Launch} {D : va_G} {c : Nat → ClassId} {H0 : Heap} {sa : Nat × Nat × (Nat → Int32)} {w : mW} {μ : mM} (hw : mWF w) (hT : mT w μ) {p1 : Int} (hp1 : (-2147483648) ≤ p1 ∧ p1 ≤ 2147483647) {p2 : Int} (hp2 : (-2147483648) ≤ p2 ∧ p2 ≤ 2147483647) : sC (gG l D c H0 sa) mX12_cone 3 0 0 [.ref 106, iv p1, iv p2] (mk w μ) (qI w [116999] μ (fun z μ1 => ((-2147483648) ≤ z ∧ z ≤ 2147483647) ∧ True)) := by
  refine sC.of rfl (by decide) (le_t rfl) ?_
  refine mr_lvE (lv' := [(0, .ref 106), (1, iv p1), (2, iv p2)]) rfl ?_
  refine sv_aload_n (pc := 0) dX12_cone_0 rfl rfl ?_
  refine mr_iload_n (pc := 1) (z := p1) dX12_cone_1 rfl rfl ?_
  obtain ⟨z1, q2⟩ : ∃ z, μ 106 5 = z := ⟨_, rfl⟩
  have h3 : (0 ≤ z1 ∧ z1 ≤ 10) := by rw [← q2]; exact hT 106 106 (A_106 hw) 5
  refine mr_cVP (pc := 2) (c_X12_isDomain hw hT hp1 q2) (gOk _ _ _ _ _) dX12_cone_2 (tX12_isDomain _ _ _ _ _) ⟨wV_X12_isDomain, wL_X12_isDomain⟩ wM_X12_49 (gCX12 _ _ _ _ _) rfl (A_106 hw) rfl ⟨le_t rfl, le_t rfl⟩ ⟨le_t rfl, le_t rfl⟩ rfl (le_t rfl) fun z8 h7 => ?_
  refine mr_if_eq (pc := 5) (tgt := 21) dX12_cone_5 (by decide) (r32 h7.1 rfl) (fun h9 => ?_) (fun h9 => ?_)
  · have h10 : 0 ≤ z8 ∧ z8 ≤ 0 := (vc_X12_write_78 h9 h7.2.1 h7.2.2.1 hp1 h3 h7.1)
    have h11 : p1 < 0 ∨ z1 ≤ p1 := (h7.2.2.1 (vc_X12_write_79 h7.2.1 h7.2.2.1 h9 hp1 h3 h10))
    refine mr_iconst (pc := 21) (z := (-1)) dX12_cone_21 ?_
    exact mr_iret dX12_cone_22 rfl (le_t rfl) (le_t rfl) hT mF.refl ⟨(rW (c := (-2147483648)) (d := 2147483647) (rR (x := (-1))) rfl), trivial⟩
  have h12 : 1 ≤ z8 ∧ z8 ≤ 1 := (vc_X12_write_12 h9 h7.2.1 h7.2.2.1 hp1 h3 h7.1)
  have h13 : 0 ≤ p1 ∧ p1 < z1 := (h7.2.1 (vc_X12_write_13 h7.2.1 h7.2.2.1 h9 hp1 h3 h12))
  have h14 : 0 ≤ p1 ∧ p1 ≤ 9 := (vc_X12_write_14 h13 h7.2.1 h7.2.2.1 hp1 h3 h12)
  have h15 : 1 ≤ z1 ∧ z1 ≤ 10 := (vc_X12_write_15 h13 h7.2.1 h7.2.2.1 h14 h3 h12)
  refine mr_iload_n (pc := 8) (z := p2) dX12_cone_8 rfl rfl ?_
  refine mr_iconst (pc := 9) (z := (-1)) dX12_cone_9 ?_
  refine mr_icmp_eq (pc := 10) (tgt := 23) dX12_cone_10 (by decide) hp2 (r32 (rR (x := (-1))) rfl) (fun h16 => ?_) (fun h16 => ?_)
  · have h17 : (-1) ≤ p2 ∧ p2 ≤ (-1) := (vc_X10_verdictOn_17 h16 hp2)
    refine mr_iconst (pc := 23) (z := 0) dX12_cone_23 ?_
    refine mr_istore_n (pc := 24) (lv' := [(3, iv 0), (0, .ref 106), (1, iv p1), (2, iv p2)]) dX12_cone_24 rfl (by decide) rfl ?_
    have L482 : ∀ (nL482 : Nat) (z480 : Int) (μ481 : mM), mT w μ481 → mF [116999] w μ μ481 → (0 ≤ z480 ∧ z480 ≤ 10) → (11 - z480) < (nL482 : Int) → sV (gG l D c H0 sa) mX12_cone (sRm 3 0 0) (sZ (gG l D c H0 sa) 0 0 (qI w [116999] μ (fun z μ1 => ((-2147483648) ≤ z ∧ z ≤ 2147483647) ∧ True))) 25 [(0, .ref 106), (1, iv p1), (2, iv p2), (3, iv z480)] [] (mk w μ481) 0 0 := by
      intro nL482
      induction nL482 with
      | zero => intro z480 μ481 T484 F485 h483 h487; exact ((vc_X12_ring_2 h487 h483)).elim
      | succ nL482 ih488 =>
        intro z480 μ481 T484 F485 h483 h487
        refine mr_iload_n (pc := 25) (z := z480) dX12_cone_25 rfl rfl ?_
        refine mr_bipush (pc := 26) (z := 10) dX12_cone_26 (by decide) ?_
        refine mr_icmp_ge (pc := 28) (tgt := 53) dX12_cone_28 (by decide) (r32 h483 rfl) (r32 (rR (x := 10)) rfl) (fun h497 => ?_) (fun h497 => ?_)
        · have h498 : 10 ≤ z480 ∧ z480 ≤ 10 := (vc_X12_ring_6 h497 h483)
          refine mr_iconst (pc := 53) (z := 1) dX12_cone_53 ?_
          refine mr_istore_n (pc := 54) (lv' := [(3, iv 1), (0, .ref 106), (1, iv p1), (2, iv p2)]) dX12_cone_54 rfl (by decide) rfl ?_
          have L768 : ∀ (nL768 : Nat) (z766 : Int) (μ767 : mM) (f_c : Int), mT w μ767 → mF [116999] w μ481 μ767 → cnt μ767 116 10 = f_c → (0 ≤ z766 ∧ z766 ≤ 1) → ((2 * (10 - f_c)) + z766) < (nL768 : Int) → sV (gG l D c H0 sa) mX12_cone (sRm 3 0 0) (sZ (gG l D c H0 sa) 0 0 (qI w [116999] μ (fun z μ1 => ((-2147483648) ≤ z ∧ z ≤ 2147483647) ∧ True))) 55 [(0, .ref 106), (2, iv p2), (3, iv z766)] [] (mk w μ767) 0 0 := by
            intro nL768
            induction nL768 with
            | zero => intro z766 μ767 f_c T770 F771 q774 h769 h773; exact ((vc_X12_cone_10 h773 (by rw [← q774]; exact cnt_rng (fun i => T770 116 116 (A_116 hw) i) 10) h769)).elim
            | succ nL768 ih775 =>
              intro z766 μ767 f_c T770 F771 q774 h769 h773
              have h776 : 0 ≤ f_c ∧ f_c ≤ 10 := by rw [← q774]; exact cnt_rng (fun i => T770 116 116 (A_116 hw) i) 10
              refine mr_iload_n (pc := 55) (z := z766) dX12_cone_55 rfl rfl ?_
              refine mr_if_eq (pc := 56) (tgt := 147) dX12_cone_56 (by decide) (r32 h769 rfl) (fun h849 => ?_) (fun h849 => ?_)
              · have h850 : 0 ≤ z766 ∧ z766 ≤ 0 := (vc_X12_ring_22 h849 h769)
                refine mr_iconst (pc := 147) (z := 0) dX12_cone_147 ?_
                refine mr_istore (pc := 148) (lv' := [(4, iv 0), (0, .ref 106), (2, iv p2), (3, iv z766)]) dX12_cone_148 (by decide) rfl ?_
                refine mr_iconst (pc := 150) (z := 0) dX12_cone_150 ?_
                refine mr_istore (pc := 151) (lv' := [(5, iv 0), (4, iv 0), (0, .ref 106), (2, iv p2), (3, iv z766)]) dX12_cone_151 (by decide) rfl ?_
                have L983 : ∀ (nL983 : Nat) (z982 z981 : Int), True → ((-2147483648) ≤ z982 ∧ z982 ≤ 2147483647) → (0 ≤ z981 ∧ z981 ≤ 10) → (11 - z981) < (nL983 : Int) → sV (gG l D c H0 sa) mX12_cone (sRm 3 0 0) (sZ (gG l D c H0 sa) 0 0 (qI w [116999] μ (fun z μ1 => ((-2147483648) ≤ z ∧ z ≤ 2147483647) ∧ True))) 153 [(0, .ref 106), (2, iv p2), (4, iv z982), (5, iv z981)] [] (mk w μ767) 0 0 := by
                  intro nL983
                  induction nL983 with
                  | zero => intro z982 z981 _ h984 h985 h989; exact ((vc_X12_ring_2 h989 h985)).elim
                  | succ nL983 ih990 =>
                    intro z982 z981 _ h984 h985 h989
                    refine mr_iload (pc := 153) (z := z981) dX12_cone_153 rfl ?_
                    refine sv_aload_n (pc := 155) dX12_cone_155 rfl rfl ?_
                    refine gk_X12_5 (pc := 156) dX12_cone_156 wF_X12_34 (A_106 hw) (F771.f (A_106 hw) rfl (F485.f (A_106 hw) rfl q2)) ?_
                    refine mr_icmp_ge (pc := 159) (tgt := 188) dX12_cone_159 (by decide) (r32 h985 rfl) (r32 h15 rfl) (fun h1000 => ?_) (fun h1000 => ?_)
                    · have h1001 : 1 ≤ z981 ∧ z981 ≤ 10 := (vc_X12_cone_13 h1000 h7.2.1 h7.2.2.1 h13 h14 h15 h12 h985)
                      refine mr_iload_n (pc := 188) (z := p2) dX12_cone_188 rfl rfl ?_
                      refine mr_if_ge (pc := 189) (tgt := 197) dX12_cone_189 (by decide) (r32 h17 rfl) (fun h => ((vc_X12_cone_14 h h17)).elim) (fun _ => ?_)
                      refine mr_iload (pc := 192) (z := z982) dX12_cone_192 rfl ?_
                      refine sv_goto (pc := 194) (tgt := 211) dX12_cone_194 (by decide) ?_
                      exact mr_iret dX12_cone_211 rfl (le_t rfl) (le_t rfl) T770 (mF.call (mF.call mF.refl F485 rfl) F771 rfl) ⟨h984, trivial⟩
                    have h1002 : 0 ≤ z981 ∧ z981 ≤ 9 := (vc_X12_cone_15 h1000 h7.2.1 h7.2.2.1 h13 h14 h15 h12 h985)
                    refine mr_iload (pc := 162) (z := z982) dX12_cone_162 rfl ?_
                    refine sv_aload_n (pc := 164) dX12_cone_164 rfl rfl ?_
                    refine gf_X12_13 (pc := 165) dX12_cone_165 wF_X12_69 (A_106 hw) T770 ?_
                    refine mr_iload (pc := 168) (z := z981) dX12_cone_168 rfl ?_
                    refine la_116 (pc := 170) dX12_cone_170 (A_116 hw) T770 (rIx (n := 10) h1002 rfl) fun z1003 q1004 h1005 => ?_
                    refine mr_if_eq (pc := 171) (tgt := 178) dX12_cone_171 (by decide) (r32 h1005 rfl) (fun h1008 => ?_) (fun h1008 => ?_)
                    · have h1009 : 0 ≤ z1003 ∧ z1003 ≤ 0 := (vc_X12_ring_22 h1008 h1005)
                      refine mr_iconst (pc := 178) (z := 0) dX12_cone_178 ?_
                      refine mr_iadd (pc := 179) (x := z982) (y := 0) dX12_cone_179 ?_
                      refine mr_istore (pc := 180) (lv' := [(4, iv (z982 + 0)), (0, .ref 106), (2, iv p2), (5, iv z981)]) dX12_cone_180 (by decide) rfl ?_
                      refine mr_iinc (pc := 182) (lv' := [(5, iv (z981 + 1)), (4, iv (z982 + 0)), (0, .ref 106), (2, iv p2)]) dX12_cone_182 rfl (by decide) rfl ?_
                      refine sv_goto (pc := 185) (tgt := 153) dX12_cone_185 (by decide) ?_
                      refine mr_lvS (lv' := [(0, .ref 106), (2, iv p2), (4, iv (z982 + 0)), (5, iv (z981 + 1))]) (List.forall_mem_cons.mpr ⟨rfl, List.forall_mem_cons.mpr ⟨rfl, List.forall_mem_cons.mpr ⟨rfl, List.forall_mem_cons.mpr ⟨rfl, fun _ h => absurd h List.not_mem_nil⟩⟩⟩⟩) ?_
                      exact ih990 (z982 + 0) (z981 + 1) trivial (rAdd (e := (-2147483648)) (f := 2147483647) h984 (rR (x := 0)) rfl) (rW (c := 0) (d := 10) (rAdd (e := 1) (f := 10) h1002 (rR (x := 1)) rfl) rfl) (vc_X12_cone_17 (nS h989) h1000 h7.2.1 h7.2.2.1 h13 h14 h15 h12 h1002)
                    have h1010 : 1 ≤ z1003 ∧ z1003 ≤ 1 := (vc_X12_ring_24 h1008 h1005)
                    refine mr_iconst (pc := 174) (z := 1) dX12_cone_174 ?_
                    refine sv_goto (pc := 175) (tgt := 179) dX12_cone_175 (by decide) ?_
                    refine mr_iadd (pc := 179) (x := z982) (y := 1) dX12_cone_179 ?_
                    refine mr_wrap fun z1011 h1012 => ?_
                    refine mr_istore (pc := 180) (lv' := [(4, iv z1011), (0, .ref 106), (2, iv p2), (5, iv z981)]) dX12_cone_180 (by decide) rfl ?_
                    refine mr_iinc (pc := 182) (lv' := [(5, iv (z981 + 1)), (4, iv z1011), (0, .ref 106), (2, iv p2)]) dX12_cone_182 rfl (by decide) rfl ?_
                    refine sv_goto (pc := 185) (tgt := 153) dX12_cone_185 (by decide) ?_
                    refine mr_lvS (lv' := [(0, .ref 106), (2, iv p2), (4, iv z1011), (5, iv (z981 + 1))]) (List.forall_mem_cons.mpr ⟨rfl, List.forall_mem_cons.mpr ⟨rfl, List.forall_mem_cons.mpr ⟨rfl, List.forall_mem_cons.mpr ⟨rfl, fun _ h => absurd h List.not_mem_nil⟩⟩⟩⟩) ?_
                    exact ih990 z1011 (z981 + 1) trivial h1012 (rW (c := 0) (d := 10) (rAdd (e := 1) (f := 10) h1002 (rR (x := 1)) rfl) rfl) (vc_X12_cone_17 (nS h989) h1000 h7.2.1 h7.2.2.1 h13 h14 h15 h12 h1002)
                refine mr_lvS (lv' := [(0, .ref 106), (2, iv p2), (4, iv 0), (5, iv 0)]) (List.forall_mem_cons.mpr ⟨rfl, List.forall_mem_cons.mpr ⟨rfl, List.forall_mem_cons.mpr ⟨rfl, List.forall_mem_cons.mpr ⟨rfl, fun _ h => absurd h List.not_mem_nil⟩⟩⟩⟩) ?_
                exact L983 12 0 0 trivial (rW (c := (-2147483648)) (d := 2147483647) (rR (x := 0)) rfl) (rW (c := 0) (d := 10) (rR (x := 0)) rfl) vc_X12_ring_27
              have h1013 : 1 ≤ z766 ∧ z766 ≤ 1 := (vc_X12_ring_24 h849 h769)
              refine mr_iconst (pc := 59) (z := 0) dX12_cone_59 ?_
              refine mr_istore_n (pc := 60) (lv' := [(3, iv 0), (0, .ref 106), (2, iv p2)]) dX12_cone_60 rfl (by decide) rfl ?_
              refine mr_iconst (pc := 61) (z := 0) dX12_cone_61 ?_
              refine mr_istore (pc := 62) (lv' := [(4, iv 0), (3, iv 0), (0, .ref 106), (2, iv p2)]) dX12_cone_62 (by decide) rfl ?_
              have L1402 : ∀ (nL1402 : Nat) (z1400 z1399 : Int) (μ1401 : mM) (f_d : Int), mT w μ1401 → mF [116999] w μ767 μ1401 → cnt μ1401 116 10 = f_d → (0 ≤ z1400 ∧ z1400 ≤ 1) → (0 ≤ z1399 ∧ z1399 ≤ 20) → (f_c ≤ f_d) → (z1400 = 0 ∨ f_c + 1 ≤ f_d) → (21 - z1399) < (nL1402 : Int) → sV (gG l D c H0 sa) mX12_cone (sRm 3 0 0) (sZ (gG l D c H0 sa) 0 0 (qI w [116999] μ (fun z μ1 => ((-2147483648) ≤ z ∧ z ≤ 2147483647) ∧ True))) 64 [(0, .ref 106), (2, iv p2), (3, iv z1400), (4, iv z1399)] [] (mk w μ1401) 0 0 := by
                intro nL1402
                induction nL1402 with
                | zero => intro z1400 z1399 μ1401 f_d T1405 F1406 q1411 h1403 h1404 h1408 h1409 h1410; exact ((vc_X12_cone_21 h1410 (by rw [← q1411]; exact cnt_rng (fun i => T1405 116 116 (A_116 hw) i) 10) h1408 h1409 h776 h1404 h1403)).elim
                | succ nL1402 ih1412 =>
                  intro z1400 z1399 μ1401 f_d T1405 F1406 q1411 h1403 h1404 h1408 h1409 h1410
                  have h1413 : 0 ≤ f_d ∧ f_d ≤ 10 := by rw [← q1411]; exact cnt_rng (fun i => T1405 116 116 (A_116 hw) i) 10
                  refine mr_iload (pc := 64) (z := z1399) dX12_cone_64 rfl ?_
                  refine sv_aload_n (pc := 66) dX12_cone_66 rfl rfl ?_
                  refine gf_X12_6 (pc := 67) dX12_cone_67 wF_X12_37 (A_106 hw) T1405 fun z1414 q1415 h1416 => ?_
                  refine mr_icmp_ge (pc := 70) (tgt := 144) dX12_cone_70 (by decide) (r32 h1404 rfl) (r32 h1416 rfl) (fun h1443 => ?_) (fun h1443 => ?_)
                  · refine sv_goto (pc := 144) (tgt := 55) dX12_cone_144 (by decide) ?_
                    refine mr_lvS (lv' := [(0, .ref 106), (2, iv p2), (3, iv z1400)]) (List.forall_mem_cons.mpr ⟨rfl, List.forall_mem_cons.mpr ⟨rfl, List.forall_mem_cons.mpr ⟨rfl, fun _ h => absurd h List.not_mem_nil⟩⟩⟩) ?_
                    exact ih775 z1400 μ1401 f_d T1405 (mF.call (mF.call mF.refl F771 rfl) F1406 rfl) q1411 h1403 (vc_X12_cone_22 (nS h773) h849 h1408 h1409 h776 h1413 h1403 h1013)
                  have h1444 : 0 ≤ z1399 ∧ z1399 ≤ 19 := (vc_X12_tieOf_3 h1443 h1404 h1416)
                  have h1445 : 1 ≤ z1414 ∧ z1414 ≤ 20 := (vc_X12_tieOf_4 h1443 h1444 h1416)
                  refine sv_aload_n (pc := 73) dX12_cone_73 rfl rfl ?_
                  refine gf_X12_8 (pc := 74) dX12_cone_74 wF_X12_46 (A_106 hw) T1405 ?_
                  refine mr_iload (pc := 77) (z := z1399) dX12_cone_77 rfl ?_
                  refine la_111 (pc := 79) dX12_cone_79 (A_111 hw) T1405 (rIx (n := 20) h1444 rfl) fun z1446 q1447 h1448 => ?_
                  refine mr_if_ne (pc := 80) (tgt := 138) dX12_cone_80 (by decide) (r32 h1448 rfl) (fun h1470 => ?_) (fun h1470 => ?_)
                  · have h1471 : 1 ≤ z1446 ∧ z1446 ≤ 2 := (vc_X12_provides_3 h1470 h1448)
                    refine mr_iinc (pc := 138) (lv' := [(4, iv (z1399 + 1)), (0, .ref 106), (2, iv p2), (3, iv z1400)]) dX12_cone_138 rfl (by decide) rfl ?_
                    refine sv_goto (pc := 141) (tgt := 64) dX12_cone_141 (by decide) ?_
                    refine mr_lvS (lv' := [(0, .ref 106), (2, iv p2), (3, iv z1400), (4, iv (z1399 + 1))]) (List.forall_mem_cons.mpr ⟨rfl, List.forall_mem_cons.mpr ⟨rfl, List.forall_mem_cons.mpr ⟨rfl, List.forall_mem_cons.mpr ⟨rfl, fun _ h => absurd h List.not_mem_nil⟩⟩⟩⟩) ?_
                    exact ih1412 z1400 (z1399 + 1) μ1401 f_d T1405 (mF.call mF.refl F1406 rfl) q1411 h1403 (rW (c := 0) (d := 20) (rAdd (e := 1) (f := 20) h1444 (rR (x := 1)) rfl) rfl) (vc_X12_cone_26 h1408 h1409 h776 h1413 h1403) (vc_X12_cone_27 h1408 h1409 h776 h1413 h1403) (vc_X12_tieOf_5 (nS h1410) h1443 h1444 h1445)
                  have h1472 : 0 ≤ z1446 ∧ z1446 ≤ 0 := (vc_X12_provides_4 h1470 h1448)
                  refine sv_aload_n (pc := 83) dX12_cone_83 rfl rfl ?_
                  refine gf_X12_13 (pc := 84) dX12_cone_84 wF_X12_69 (A_106 hw) T1405 ?_
                  refine sv_aload_n (pc := 87) dX12_cone_87 rfl rfl ?_
                  refine gf_X12_7 (pc := 88) dX12_cone_88 wF_X12_40 (A_106 hw) T1405 ?_
                  refine mr_iconst (pc := 91) (z := 2) dX12_cone_91 ?_
                  refine mr_iload (pc := 92) (z := z1399) dX12_cone_92 rfl ?_
                  refine mr_imul (pc := 94) (x := 2) (y := z1399) dX12_cone_94 ?_
                  refine la_110 (pc := 95) dX12_cone_95 (A_110 hw) T1405 (rIx (n := 40) (rMulL (n := 2) (e := 0) (f := 38) h1444 rfl) rfl) fun z1473 q1474 h1475 => ?_
                  refine la_116 (pc := 96) dX12_cone_96 (A_116 hw) T1405 (rIx (n := 10) h1475 rfl) fun z1476 q1477 h1478 => ?_
                  refine mr_if_eq (pc := 97) (tgt := 138) dX12_cone_97 (by decide) (r32 h1478 rfl) (fun h1492 => ?_) (fun h1492 => ?_)
                  · have h1493 : 0 ≤ z1476 ∧ z1476 ≤ 0 := (vc_X12_ring_22 h1492 h1478)
                    refine mr_iinc (pc := 138) (lv' := [(4, iv (z1399 + 1)), (0, .ref 106), (2, iv p2), (3, iv z1400)]) dX12_cone_138 rfl (by decide) rfl ?_
                    refine sv_goto (pc := 141) (tgt := 64) dX12_cone_141 (by decide) ?_
                    refine mr_lvS (lv' := [(0, .ref 106), (2, iv p2), (3, iv z1400), (4, iv (z1399 + 1))]) (List.forall_mem_cons.mpr ⟨rfl, List.forall_mem_cons.mpr ⟨rfl, List.forall_mem_cons.mpr ⟨rfl, List.forall_mem_cons.mpr ⟨rfl, fun _ h => absurd h List.not_mem_nil⟩⟩⟩⟩) ?_
                    exact ih1412 z1400 (z1399 + 1) μ1401 f_d T1405 (mF.call mF.refl F1406 rfl) q1411 h1403 (rW (c := 0) (d := 20) (rAdd (e := 1) (f := 20) h1444 (rR (x := 1)) rfl) rfl) (vc_X12_cone_26 h1408 h1409 h776 h1413 h1403) (vc_X12_cone_27 h1408 h1409 h776 h1413 h1403) (vc_X12_tieOf_5 (nS h1410) h1443 h1444 h1445)
                  have h1494 : 1 ≤ z1476 ∧ z1476 ≤ 1 := (vc_X12_ring_24 h1492 h1478)
                  refine sv_aload_n (pc := 100) dX12_cone_100 rfl rfl ?_
                  refine gf_X12_13 (pc := 101) dX12_cone_101 wF_X12_69 (A_106 hw) T1405 ?_
                  refine sv_aload_n (pc := 104) dX12_cone_104 rfl rfl ?_
                  refine gf_X12_7 (pc := 105) dX12_cone_105 wF_X12_40 (A_106 hw) T1405 ?_
                  refine mr_iconst (pc := 108) (z := 2) dX12_cone_108 ?_
                  refine mr_iload (pc := 109) (z := z1399) dX12_cone_109 rfl ?_
                  refine mr_imul (pc := 111) (x := 2) (y := z1399) dX12_cone_111 ?_
                  refine mr_iconst (pc := 112) (z := 1) dX12_cone_112 ?_
                  refine mr_iadd (pc := 113) (x := (2 * z1399)) (y := 1) dX12_cone_113 ?_
                  refine la_110 (pc := 114) dX12_cone_114 (A_110 hw) T1405 (rIx (n := 40) (rAdd (e := 1) (f := 39) (rMulL (n := 2) (e := 0) (f := 38) h1444 rfl) (rR (x := 1)) rfl) rfl) fun z1495 q1496 h1497 => ?_
                  refine la_116 (pc := 115) dX12_cone_115 (A_116 hw) T1405 (rIx (n := 10) h1497 rfl) fun z1498 q1499 h1500 => ?_
                  refine mr_if_ne (pc := 116) (tgt := 138) dX12_cone_116 (by decide) (r32 h1500 rfl) (fun h1506 => ?_) (fun h1506 => ?_)
                  · have h1507 : 1 ≤ z1498 ∧ z1498 ≤ 1 := (vc_X12_ring_24 h1506 h1500)
                    refine mr_iinc (pc := 138) (lv' := [(4, iv (z1399 + 1)), (0, .ref 106), (2, iv p2), (3, iv z1400)]) dX12_cone_138 rfl (by decide) rfl ?_
                    refine sv_goto (pc := 141) (tgt := 64) dX12_cone_141 (by decide) ?_
                    refine mr_lvS (lv' := [(0, .ref 106), (2, iv p2), (3, iv z1400), (4, iv (z1399 + 1))]) (List.forall_mem_cons.mpr ⟨rfl, List.forall_mem_cons.mpr ⟨rfl, List.forall_mem_cons.mpr ⟨rfl, List.forall_mem_cons.mpr ⟨rfl, fun _ h => absurd h List.not_mem_nil⟩⟩⟩⟩) ?_
                    exact ih1412 z1400 (z1399 + 1) μ1401 f_d T1405 (mF.call mF.refl F1406 rfl) q1411 h1403 (rW (c := 0) (d := 20) (rAdd (e := 1) (f := 20) h1444 (rR (x := 1)) rfl) rfl) (vc_X12_cone_26 h1408 h1409 h776 h1413 h1403) (vc_X12_cone_27 h1408 h1409 h776 h1413 h1403) (vc_X12_tieOf_5 (nS h1410) h1443 h1444 h1445)
                  have h1508 : 0 ≤ z1498 ∧ z1498 ≤ 0 := (vc_X12_ring_22 h1506 h1500)
                  refine sv_aload_n (pc := 119) dX12_cone_119 rfl rfl ?_
                  refine gf_X12_13 (pc := 120) dX12_cone_120 wF_X12_69 (A_106 hw) T1405 ?_
                  refine sv_aload_n (pc := 123) dX12_cone_123 rfl rfl ?_
                  refine gf_X12_7 (pc := 124) dX12_cone_124 wF_X12_40 (A_106 hw) T1405 ?_
                  refine mr_iconst (pc := 127) (z := 2) dX12_cone_127 ?_
                  refine mr_iload (pc := 128) (z := z1399) dX12_cone_128 rfl ?_
                  refine mr_imul (pc := 130) (x := 2) (y := z1399) dX12_cone_130 ?_
                  refine mr_iconst (pc := 131) (z := 1) dX12_cone_131 ?_
                  refine mr_iadd (pc := 132) (x := (2 * z1399)) (y := 1) dX12_cone_132 ?_
                  refine lk_110 (pc := 133) dX12_cone_133 (A_110 hw) (rIx (n := 40) (rAdd (e := 1) (f := 39) (rMulL (n := 2) (e := 0) (f := 38) h1444 rfl) (rR (x := 1)) rfl) rfl) q1496 ?_
                  refine mr_iconst (pc := 134) (z := 1) dX12_cone_134 ?_
                  refine ss_116 (pc := 135) dX12_cone_135 (A_116 hw) T1405 (rIx (n := 10) h1497 rfl) (rW (c := 0) (d := 1) (rR (x := 1)) rfl) fun μ1509 u1510 T1511 => ?_
                  refine mr_iconst (pc := 136) (z := 1) dX12_cone_136 ?_
                  refine mr_istore_n (pc := 137) (lv' := [(3, iv 1), (0, .ref 106), (2, iv p2), (4, iv z1399)]) dX12_cone_137 rfl (by decide) rfl ?_
                  refine mr_iinc (pc := 138) (lv' := [(4, iv (z1399 + 1)), (3, iv 1), (0, .ref 106), (2, iv p2)]) dX12_cone_138 rfl (by decide) rfl ?_
                  refine sv_goto (pc := 141) (tgt := 64) dX12_cone_141 (by decide) ?_
                  refine mr_lvS (lv' := [(0, .ref 106), (2, iv p2), (3, iv 1), (4, iv (z1399 + 1))]) (List.forall_mem_cons.mpr ⟨rfl, List.forall_mem_cons.mpr ⟨rfl, List.forall_mem_cons.mpr ⟨rfl, List.forall_mem_cons.mpr ⟨rfl, fun _ h => absurd h List.not_mem_nil⟩⟩⟩⟩) ?_
                  exact ih1412 1 (z1399 + 1) μ1509 ((f_d + 1) - z1498) T1511 (mF.up (mF.call mF.refl F1406 rfl) (A_116 hw) u1510 rfl) (cntU u1510 (rIx (n := 10) h1497 rfl) rfl q1411 q1499) (rW (c := 0) (d := 1) (rR (x := 1)) rfl) (rW (c := 0) (d := 20) (rAdd (e := 1) (f := 20) h1444 (rR (x := 1)) rfl) rfl) (vc_X12_cone_34 h1408 h1409 h1506 h776 h1413 h1403 h1508) (vc_X12_cone_35 h1408 h1409 h1506 h776 h1413 h1403 h1508) (vc_X12_tieOf_5 (nS h1410) h1443 h1444 h1445)
              refine mr_lvS (lv' := [(0, .ref 106), (2, iv p2), (3, iv 0), (4, iv 0)]) (List.forall_mem_cons.mpr ⟨rfl, List.forall_mem_cons.mpr ⟨rfl, List.forall_mem_cons.mpr ⟨rfl, List.forall_mem_cons.mpr ⟨rfl, fun _ h => absurd h List.not_mem_nil⟩⟩⟩⟩) ?_
              exact L1402 22 0 0 μ767 f_c T770 mF.refl q774 (rW (c := 0) (d := 1) (rR (x := 0)) rfl) (rW (c := 0) (d := 20) (rR (x := 0)) rfl) (vc_X12_cone_36 h776) (vc_X12_cone_37 h776) vc_X12_tieOf_12
          obtain ⟨z1512, q1513⟩ : ∃ z, cnt μ481 116 10 = z := ⟨_, rfl⟩
          have h1514 : 0 ≤ z1512 ∧ z1512 ≤ 10 := by rw [← q1513]; exact cnt_rng (fun i => T484 116 116 (A_116 hw) i) 10
          refine mr_lvS (lv' := [(0, .ref 106), (2, iv p2), (3, iv 1)]) (List.forall_mem_cons.mpr ⟨rfl, List.forall_mem_cons.mpr ⟨rfl, List.forall_mem_cons.mpr ⟨rfl, fun _ h => absurd h List.not_mem_nil⟩⟩⟩) ?_
          exact L768 22 1 μ481 z1512 T484 mF.refl q1513 (rW (c := 0) (d := 1) (rR (x := 1)) rfl) (vc_X12_cone_39 h1514)
        have h1515 : 0 ≤ z480 ∧ z480 ≤ 9 := (vc_X12_ring_57 h497 h483)
        refine sv_aload_n (pc := 31) dX12_cone_31 rfl rfl ?_
        refine gf_X12_13 (pc := 32) dX12_cone_32 wF_X12_69 (A_106 hw) T484 ?_
        refine mr_iload_n (pc := 35) (z := z480) dX12_cone_35 rfl rfl ?_
        refine mr_iload_n (pc := 36) (z := z480) dX12_cone_36 rfl rfl ?_
        refine mr_iload_n (pc := 37) (z := p1) dX12_cone_37 rfl rfl ?_
        refine mr_icmp_ne (pc := 38) (tgt := 45) dX12_cone_38 (by decide) (r32 h1515 rfl) (r32 h14 rfl) (fun h1516 => ?_) (fun h1516 => ?_)
        · refine mr_iconst (pc := 45) (z := 0) dX12_cone_45 ?_
          refine ss_116 (pc := 46) dX12_cone_46 (A_116 hw) T484 (rIx (n := 10) h1515 rfl) (rW (c := 0) (d := 1) (rR (x := 0)) rfl) fun μ1517 u1518 T1519 => ?_
          refine mr_iinc (pc := 47) (lv' := [(3, iv (z480 + 1)), (0, .ref 106), (1, iv p1), (2, iv p2)]) dX12_cone_47 rfl (by decide) rfl ?_
          refine sv_goto (pc := 50) (tgt := 25) dX12_cone_50 (by decide) ?_
          refine mr_lvS (lv' := [(0, .ref 106), (1, iv p1), (2, iv p2), (3, iv (z480 + 1))]) (List.forall_mem_cons.mpr ⟨rfl, List.forall_mem_cons.mpr ⟨rfl, List.forall_mem_cons.mpr ⟨rfl, List.forall_mem_cons.mpr ⟨rfl, fun _ h => absurd h List.not_mem_nil⟩⟩⟩⟩) ?_
          exact ih488 (z480 + 1) μ1517 T1519 (mF.up (mF.call mF.refl F485 rfl) (A_116 hw) u1518 rfl) (rW (c := 0) (d := 10) (rAdd (e := 1) (f := 10) h1515 (rR (x := 1)) rfl) rfl) (vc_X12_cone_41 (nS h487) h497 h1516 h7.2.1 h7.2.2.1 h13 h14 h15 h1515 h12)
        refine mr_iconst (pc := 41) (z := 1) dX12_cone_41 ?_
        refine sv_goto (pc := 42) (tgt := 46) dX12_cone_42 (by decide) ?_
        refine ss_116 (pc := 46) dX12_cone_46 (A_116 hw) T484 (rIx (n := 10) h1515 rfl) (rW (c := 0) (d := 1) (rR (x := 1)) rfl) fun μ1520 u1521 T1522 => ?_
        refine mr_iinc (pc := 47) (lv' := [(3, iv (z480 + 1)), (0, .ref 106), (1, iv p1), (2, iv p2)]) dX12_cone_47 rfl (by decide) rfl ?_
        refine sv_goto (pc := 50) (tgt := 25) dX12_cone_50 (by decide) ?_
        refine mr_lvS (lv' := [(0, .ref 106), (1, iv p1), (2, iv p2), (3, iv (z480 + 1))]) (List.forall_mem_cons.mpr ⟨rfl, List.forall_mem_cons.mpr ⟨rfl, List.forall_mem_cons.mpr ⟨rfl, List.forall_mem_cons.mpr ⟨rfl, fun _ h => absurd h List.not_mem_nil⟩⟩⟩⟩) ?_
        exact ih488 (z480 + 1) μ1520 T1522 (mF.up (mF.call mF.refl F485 rfl) (A_116 hw) u1521 rfl) (rW (c := 0) (d := 10) (rAdd (e := 1) (f := 10) h1515 (rR (x := 1)) rfl) rfl) (vc_X12_cone_42 (nS h487) h497 h1516 h7.2.1 h7.2.2.1 h13 h14 h15 h1515 h12)
    refine mr_lvS (lv' := [(0, .ref 106), (1, iv p1), (2, iv p2), (3, iv 0)]) (List.forall_mem_cons.mpr ⟨rfl, List.forall_mem_cons.mpr ⟨rfl, List.forall_mem_cons.mpr ⟨rfl, List.forall_mem_cons.mpr ⟨rfl, fun _ h => absurd h List.not_mem_nil⟩⟩⟩⟩) ?_
    exact L482 12 0 μ hT mF.refl (rW (c := 0) (d := 10) (rR (x := 0)) rfl) vc_X12_ring_27
  refine sv_aload_n (pc := 13) dX12_cone_13 rfl rfl ?_
  refine mr_iload_n (pc := 14) (z := p2) dX12_cone_14 rfl rfl ?_
  refine mr_cVP (pc := 15) (c_X12_isDomain hw hT hp2 q2) (gOk _ _ _ _ _) dX12_cone_15 (tX12_isDomain _ _ _ _ _) ⟨wV_X12_isDomain, wL_X12_isDomain⟩ wM_X12_49 (gCX12 _ _ _ _ _) rfl (A_106 hw) rfl ⟨le_t rfl, le_t rfl⟩ ⟨le_t rfl, le_t rfl⟩ rfl (le_t rfl) fun z1527 h1526 => ?_
  refine mr_if_ne (pc := 18) (tgt := 23) dX12_cone_18 (by decide) (r32 h1526.1 rfl) (fun h1528 => ?_) (fun h1528 => ?_)
  · have h1529 : 1 ≤ z1527 ∧ z1527 ≤ 1 := (vc_X12_differ_7 h1528 h1526.2.1 h1526.2.2.1 hp2 h15 h1526.1)
    have h1530 : 0 ≤ p2 ∧ p2 < z1 := (h1526.2.1 (vc_X12_cone_44 h1526.2.1 h1526.2.2.1 h1528 h7.2.1 h7.2.2.1 h13 h16 h14 hp2 h15 h1529 h12))
    have h1531 : 0 ≤ p2 ∧ p2 ≤ 9 := (vc_X12_cone_45 h1530 h7.2.1 h7.2.2.1 h13 h16 h1526.2.1 h1526.2.2.1 h14 hp2 h15 h1529 h12)
    refine mr_iconst (pc := 23) (z := 0) dX12_cone_23 ?_
    refine mr_istore_n (pc := 24) (lv' := [(3, iv 0), (0, .ref 106), (1, iv p1), (2, iv p2)]) dX12_cone_24 rfl (by decide) rfl ?_
    have L2036 : ∀ (nL2036 : Nat) (z2034 : Int) (μ2035 : mM), mT w μ2035 → mF [116999] w μ μ2035 → (0 ≤ z2034 ∧ z2034 ≤ 10) → (11 - z2034) < (nL2036 : Int) → sV (gG l D c H0 sa) mX12_cone (sRm 3 0 0) (sZ (gG l D c H0 sa) 0 0 (qI w [116999] μ (fun z μ1 => ((-2147483648) ≤ z ∧ z ≤ 2147483647) ∧ True))) 25 [(0, .ref 106), (1, iv p1), (2, iv p2), (3, iv z2034)] [] (mk w μ2035) 0 0 := by
      intro nL2036
      induction nL2036 with
      | zero => intro z2034 μ2035 T2038 F2039 h2037 h2041; exact ((vc_X12_ring_2 h2041 h2037)).elim
      | succ nL2036 ih2042 =>
        intro z2034 μ2035 T2038 F2039 h2037 h2041
        refine mr_iload_n (pc := 25) (z := z2034) dX12_cone_25 rfl rfl ?_
        refine mr_bipush (pc := 26) (z := 10) dX12_cone_26 (by decide) ?_
        refine mr_icmp_ge (pc := 28) (tgt := 53) dX12_cone_28 (by decide) (r32 h2037 rfl) (r32 (rR (x := 10)) rfl) (fun h2051 => ?_) (fun h2051 => ?_)
        · have h2052 : 10 ≤ z2034 ∧ z2034 ≤ 10 := (vc_X12_ring_6 h2051 h2037)
          refine mr_iconst (pc := 53) (z := 1) dX12_cone_53 ?_
          refine mr_istore_n (pc := 54) (lv' := [(3, iv 1), (0, .ref 106), (1, iv p1), (2, iv p2)]) dX12_cone_54 rfl (by decide) rfl ?_
          have L2342 : ∀ (nL2342 : Nat) (z2340 : Int) (μ2341 : mM) (f_c : Int), mT w μ2341 → mF [116999] w μ2035 μ2341 → cnt μ2341 116 10 = f_c → (0 ≤ z2340 ∧ z2340 ≤ 1) → ((2 * (10 - f_c)) + z2340) < (nL2342 : Int) → sV (gG l D c H0 sa) mX12_cone (sRm 3 0 0) (sZ (gG l D c H0 sa) 0 0 (qI w [116999] μ (fun z μ1 => ((-2147483648) ≤ z ∧ z ≤ 2147483647) ∧ True))) 55 [(0, .ref 106), (2, iv p2), (3, iv z2340)] [] (mk w μ2341) 0 0 := by
            intro nL2342
            induction nL2342 with
            | zero => intro z2340 μ2341 f_c T2344 F2345 q2348 h2343 h2347; exact ((vc_X12_cone_10 h2347 (by rw [← q2348]; exact cnt_rng (fun i => T2344 116 116 (A_116 hw) i) 10) h2343)).elim
            | succ nL2342 ih2349 =>
              intro z2340 μ2341 f_c T2344 F2345 q2348 h2343 h2347
              have h2350 : 0 ≤ f_c ∧ f_c ≤ 10 := by rw [← q2348]; exact cnt_rng (fun i => T2344 116 116 (A_116 hw) i) 10
              refine mr_iload_n (pc := 55) (z := z2340) dX12_cone_55 rfl rfl ?_
              refine mr_if_eq (pc := 56) (tgt := 147) dX12_cone_56 (by decide) (r32 h2343 rfl) (fun h2423 => ?_) (fun h2423 => ?_)
              · have h2424 : 0 ≤ z2340 ∧ z2340 ≤ 0 := (vc_X12_ring_22 h2423 h2343)
                refine mr_iconst (pc := 147) (z := 0) dX12_cone_147 ?_
                refine mr_istore (pc := 148) (lv' := [(4, iv 0), (0, .ref 106), (2, iv p2), (3, iv z2340)]) dX12_cone_148 (by decide) rfl ?_
                refine mr_iconst (pc := 150) (z := 0) dX12_cone_150 ?_
                refine mr_istore (pc := 151) (lv' := [(5, iv 0), (4, iv 0), (0, .ref 106), (2, iv p2), (3, iv z2340)]) dX12_cone_151 (by decide) rfl ?_
                have L2622 : ∀ (nL2622 : Nat) (z2621 z2620 : Int), True → ((-2147483648) ≤ z2621 ∧ z2621 ≤ 2147483647) → (0 ≤ z2620 ∧ z2620 ≤ 10) → (11 - z2620) < (nL2622 : Int) → sV (gG l D c H0 sa) mX12_cone (sRm 3 0 0) (sZ (gG l D c H0 sa) 0 0 (qI w [116999] μ (fun z μ1 => ((-2147483648) ≤ z ∧ z ≤ 2147483647) ∧ True))) 153 [(0, .ref 106), (2, iv p2), (4, iv z2621), (5, iv z2620)] [] (mk w μ2341) 0 0 := by
                  intro nL2622
                  induction nL2622 with
                  | zero => intro z2621 z2620 _ h2623 h2624 h2628; exact ((vc_X12_ring_2 h2628 h2624)).elim
                  | succ nL2622 ih2629 =>
                    intro z2621 z2620 _ h2623 h2624 h2628
                    refine mr_iload (pc := 153) (z := z2620) dX12_cone_153 rfl ?_
                    refine sv_aload_n (pc := 155) dX12_cone_155 rfl rfl ?_
                    refine gk_X12_5 (pc := 156) dX12_cone_156 wF_X12_34 (A_106 hw) (F2345.f (A_106 hw) rfl (F2039.f (A_106 hw) rfl q2)) ?_
                    refine mr_icmp_ge (pc := 159) (tgt := 188) dX12_cone_159 (by decide) (r32 h2624 rfl) (r32 h15 rfl) (fun h2639 => ?_) (fun h2639 => ?_)
                    · have h2640 : 1 ≤ z2620 ∧ z2620 ≤ 10 := (vc_X12_cone_51 h2639 h7.2.1 h7.2.2.1 h13 h1526.2.1 h1526.2.2.1 h1530 h14 h1531 h15 h1529 h2624 h12)
                      refine mr_iload_n (pc := 188) (z := p2) dX12_cone_188 rfl rfl ?_
                      refine mr_if_ge (pc := 189) (tgt := 197) dX12_cone_189 (by decide) (r32 h1531 rfl) (fun _ => ?_) (fun h => ((vc_X12_cone_52 h h1531)).elim)
                      refine sv_aload_n (pc := 197) dX12_cone_197 rfl rfl ?_
                      refine gf_X12_13 (pc := 198) dX12_cone_198 wF_X12_69 (A_106 hw) T2344 ?_
                      refine mr_iload_n (pc := 201) (z := p2) dX12_cone_201 rfl rfl ?_
                      refine la_116 (pc := 202) dX12_cone_202 (A_116 hw) T2344 (rIx (n := 10) h1531 rfl) fun z2641 q2642 h2643 => ?_
                      refine mr_if_eq (pc := 203) (tgt := 210) dX12_cone_203 (by decide) (r32 h2643 rfl) (fun h2646 => ?_) (fun h2646 => ?_)
                      · have h2647 : 0 ≤ z2641 ∧ z2641 ≤ 0 := (vc_X12_ring_22 h2646 h2643)
                        refine mr_iconst (pc := 210) (z := 0) dX12_cone_210 ?_
                        exact mr_iret dX12_cone_211 rfl (le_t rfl) (le_t rfl) T2344 (mF.call (mF.call mF.refl F2039 rfl) F2345 rfl) ⟨(rW (c := (-2147483648)) (d := 2147483647) (rR (x := 0)) rfl), trivial⟩
                      have h2648 : 1 ≤ z2641 ∧ z2641 ≤ 1 := (vc_X12_ring_24 h2646 h2643)
                      refine mr_iconst (pc := 206) (z := 1) dX12_cone_206 ?_
                      refine sv_goto (pc := 207) (tgt := 211) dX12_cone_207 (by decide) ?_
                      exact mr_iret dX12_cone_211 rfl (le_t rfl) (le_t rfl) T2344 (mF.call (mF.call mF.refl F2039 rfl) F2345 rfl) ⟨(rW (c := (-2147483648)) (d := 2147483647) (rR (x := 1)) rfl), trivial⟩
                    have h2649 : 0 ≤ z2620 ∧ z2620 ≤ 9 := (vc_X12_cone_55 h2639 h7.2.1 h7.2.2.1 h13 h1526.2.1 h1526.2.2.1 h1530 h14 h1531 h15 h1529 h2624 h12)
                    refine mr_iload (pc := 162) (z := z2621) dX12_cone_162 rfl ?_
                    refine sv_aload_n (pc := 164) dX12_cone_164 rfl rfl ?_
                    refine gf_X12_13 (pc := 165) dX12_cone_165 wF_X12_69 (A_106 hw) T2344 ?_
                    refine mr_iload (pc := 168) (z := z2620) dX12_cone_168 rfl ?_
                    refine la_116 (pc := 170) dX12_cone_170 (A_116 hw) T2344 (rIx (n := 10) h2649 rfl) fun z2650 q2651 h2652 => ?_
                    refine mr_if_eq (pc := 171) (tgt := 178) dX12_cone_171 (by decide) (r32 h2652 rfl) (fun h2655 => ?_) (fun h2655 => ?_)
                    · have h2656 : 0 ≤ z2650 ∧ z2650 ≤ 0 := (vc_X12_ring_22 h2655 h2652)
                      refine mr_iconst (pc := 178) (z := 0) dX12_cone_178 ?_
                      refine mr_iadd (pc := 179) (x := z2621) (y := 0) dX12_cone_179 ?_
                      refine mr_istore (pc := 180) (lv' := [(4, iv (z2621 + 0)), (0, .ref 106), (2, iv p2), (5, iv z2620)]) dX12_cone_180 (by decide) rfl ?_
                      refine mr_iinc (pc := 182) (lv' := [(5, iv (z2620 + 1)), (4, iv (z2621 + 0)), (0, .ref 106), (2, iv p2)]) dX12_cone_182 rfl (by decide) rfl ?_
                      refine sv_goto (pc := 185) (tgt := 153) dX12_cone_185 (by decide) ?_
                      refine mr_lvS (lv' := [(0, .ref 106), (2, iv p2), (4, iv (z2621 + 0)), (5, iv (z2620 + 1))]) (List.forall_mem_cons.mpr ⟨rfl, List.forall_mem_cons.mpr ⟨rfl, List.forall_mem_cons.mpr ⟨rfl, List.forall_mem_cons.mpr ⟨rfl, fun _ h => absurd h List.not_mem_nil⟩⟩⟩⟩) ?_
                      exact ih2629 (z2621 + 0) (z2620 + 1) trivial (rAdd (e := (-2147483648)) (f := 2147483647) h2623 (rR (x := 0)) rfl) (rW (c := 0) (d := 10) (rAdd (e := 1) (f := 10) h2649 (rR (x := 1)) rfl) rfl) (vc_X12_cone_57 (nS h2628) h2639 h7.2.1 h7.2.2.1 h13 h1526.2.1 h1526.2.2.1 h1530 h14 h1531 h15 h1529 h2649 h12)
                    have h2657 : 1 ≤ z2650 ∧ z2650 ≤ 1 := (vc_X12_ring_24 h2655 h2652)
                    refine mr_iconst (pc := 174) (z := 1) dX12_cone_174 ?_
                    refine sv_goto (pc := 175) (tgt := 179) dX12_cone_175 (by decide) ?_
                    refine mr_iadd (pc := 179) (x := z2621) (y := 1) dX12_cone_179 ?_
                    refine mr_wrap fun z2658 h2659 => ?_
                    refine mr_istore (pc := 180) (lv' := [(4, iv z2658), (0, .ref 106), (2, iv p2), (5, iv z2620)]) dX12_cone_180 (by decide) rfl ?_
                    refine mr_iinc (pc := 182) (lv' := [(5, iv (z2620 + 1)), (4, iv z2658), (0, .ref 106), (2, iv p2)]) dX12_cone_182 rfl (by decide) rfl ?_
                    refine sv_goto (pc := 185) (tgt := 153) dX12_cone_185 (by decide) ?_
                    refine mr_lvS (lv' := [(0, .ref 106), (2, iv p2), (4, iv z2658), (5, iv (z2620 + 1))]) (List.forall_mem_cons.mpr ⟨rfl, List.forall_mem_cons.mpr ⟨rfl, List.forall_mem_cons.mpr ⟨rfl, List.forall_mem_cons.mpr ⟨rfl, fun _ h => absurd h List.not_mem_nil⟩⟩⟩⟩) ?_
                    exact ih2629 z2658 (z2620 + 1) trivial h2659 (rW (c := 0) (d := 10) (rAdd (e := 1) (f := 10) h2649 (rR (x := 1)) rfl) rfl) (vc_X12_cone_57 (nS h2628) h2639 h7.2.1 h7.2.2.1 h13 h1526.2.1 h1526.2.2.1 h1530 h14 h1531 h15 h1529 h2649 h12)
                refine mr_lvS (lv' := [(0, .ref 106), (2, iv p2), (4, iv 0), (5, iv 0)]) (List.forall_mem_cons.mpr ⟨rfl, List.forall_mem_cons.mpr ⟨rfl, List.forall_mem_cons.mpr ⟨rfl, List.forall_mem_cons.mpr ⟨rfl, fun _ h => absurd h List.not_mem_nil⟩⟩⟩⟩) ?_
                exact L2622 12 0 0 trivial (rW (c := (-2147483648)) (d := 2147483647) (rR (x := 0)) rfl) (rW (c := 0) (d := 10) (rR (x := 0)) rfl) vc_X12_ring_27
              have h2660 : 1 ≤ z2340 ∧ z2340 ≤ 1 := (vc_X12_ring_24 h2423 h2343)
              refine mr_iconst (pc := 59) (z := 0) dX12_cone_59 ?_
              refine mr_istore_n (pc := 60) (lv' := [(3, iv 0), (0, .ref 106), (2, iv p2)]) dX12_cone_60 rfl (by decide) rfl ?_
              refine mr_iconst (pc := 61) (z := 0) dX12_cone_61 ?_
              refine mr_istore (pc := 62) (lv' := [(4, iv 0), (3, iv 0), (0, .ref 106), (2, iv p2)]) dX12_cone_62 (by decide) rfl ?_
              have L3049 : ∀ (nL3049 : Nat) (z3047 z3046 : Int) (μ3048 : mM) (f_d : Int), mT w μ3048 → mF [116999] w μ2341 μ3048 → cnt μ3048 116 10 = f_d → (0 ≤ z3047 ∧ z3047 ≤ 1) → (0 ≤ z3046 ∧ z3046 ≤ 20) → (f_c ≤ f_d) → (z3047 = 0 ∨ f_c + 1 ≤ f_d) → (21 - z3046) < (nL3049 : Int) → sV (gG l D c H0 sa) mX12_cone (sRm 3 0 0) (sZ (gG l D c H0 sa) 0 0 (qI w [116999] μ (fun z μ1 => ((-2147483648) ≤ z ∧ z ≤ 2147483647) ∧ True))) 64 [(0, .ref 106), (2, iv p2), (3, iv z3047), (4, iv z3046)] [] (mk w μ3048) 0 0 := by
                intro nL3049
                induction nL3049 with
                | zero => intro z3047 z3046 μ3048 f_d T3052 F3053 q3058 h3050 h3051 h3055 h3056 h3057; exact ((vc_X12_cone_21 h3057 (by rw [← q3058]; exact cnt_rng (fun i => T3052 116 116 (A_116 hw) i) 10) h3055 h3056 h2350 h3051 h3050)).elim
                | succ nL3049 ih3059 =>
                  intro z3047 z3046 μ3048 f_d T3052 F3053 q3058 h3050 h3051 h3055 h3056 h3057
                  have h3060 : 0 ≤ f_d ∧ f_d ≤ 10 := by rw [← q3058]; exact cnt_rng (fun i => T3052 116 116 (A_116 hw) i) 10
                  refine mr_iload (pc := 64) (z := z3046) dX12_cone_64 rfl ?_
                  refine sv_aload_n (pc := 66) dX12_cone_66 rfl rfl ?_
                  refine gf_X12_6 (pc := 67) dX12_cone_67 wF_X12_37 (A_106 hw) T3052 fun z3061 q3062 h3063 => ?_
                  refine mr_icmp_ge (pc := 70) (tgt := 144) dX12_cone_70 (by decide) (r32 h3051 rfl) (r32 h3063 rfl) (fun h3090 => ?_) (fun h3090 => ?_)
                  · refine sv_goto (pc := 144) (tgt := 55) dX12_cone_144 (by decide) ?_
                    refine mr_lvS (lv' := [(0, .ref 106), (2, iv p2), (3, iv z3047)]) (List.forall_mem_cons.mpr ⟨rfl, List.forall_mem_cons.mpr ⟨rfl, List.forall_mem_cons.mpr ⟨rfl, fun _ h => absurd h List.not_mem_nil⟩⟩⟩) ?_
                    exact ih2349 z3047 μ3048 f_d T3052 (mF.call (mF.call mF.refl F2345 rfl) F3053 rfl) q3058 h3050 (vc_X12_cone_61 (nS h2347) h2423 h3055 h3056 h2350 h3060 h2660 h3050)
                  have h3091 : 0 ≤ z3046 ∧ z3046 ≤ 19 := (vc_X12_tieOf_3 h3090 h3051 h3063)
                  have h3092 : 1 ≤ z3061 ∧ z3061 ≤ 20 := (vc_X12_tieOf_4 h3090 h3091 h3063)
                  refine sv_aload_n (pc := 73) dX12_cone_73 rfl rfl ?_
                  refine gf_X12_8 (pc := 74) dX12_cone_74 wF_X12_46 (A_106 hw) T3052 ?_
                  refine mr_iload (pc := 77) (z := z3046) dX12_cone_77 rfl ?_
                  refine la_111 (pc := 79) dX12_cone_79 (A_111 hw) T3052 (rIx (n := 20) h3091 rfl) fun z3093 q3094 h3095 => ?_
                  refine mr_if_ne (pc := 80) (tgt := 138) dX12_cone_80 (by decide) (r32 h3095 rfl) (fun h3117 => ?_) (fun h3117 => ?_)
                  · have h3118 : 1 ≤ z3093 ∧ z3093 ≤ 2 := (vc_X12_provides_3 h3117 h3095)
                    refine mr_iinc (pc := 138) (lv' := [(4, iv (z3046 + 1)), (0, .ref 106), (2, iv p2), (3, iv z3047)]) dX12_cone_138 rfl (by decide) rfl ?_
                    refine sv_goto (pc := 141) (tgt := 64) dX12_cone_141 (by decide) ?_
                    refine mr_lvS (lv' := [(0, .ref 106), (2, iv p2), (3, iv z3047), (4, iv (z3046 + 1))]) (List.forall_mem_cons.mpr ⟨rfl, List.forall_mem_cons.mpr ⟨rfl, List.forall_mem_cons.mpr ⟨rfl, List.forall_mem_cons.mpr ⟨rfl, fun _ h => absurd h List.not_mem_nil⟩⟩⟩⟩) ?_
                    exact ih3059 z3047 (z3046 + 1) μ3048 f_d T3052 (mF.call mF.refl F3053 rfl) q3058 h3050 (rW (c := 0) (d := 20) (rAdd (e := 1) (f := 20) h3091 (rR (x := 1)) rfl) rfl) (vc_X12_cone_26 h3055 h3056 h2350 h3060 h3050) (vc_X12_cone_27 h3055 h3056 h2350 h3060 h3050) (vc_X12_tieOf_5 (nS h3057) h3090 h3091 h3092)
                  have h3119 : 0 ≤ z3093 ∧ z3093 ≤ 0 := (vc_X12_provides_4 h3117 h3095)
                  refine sv_aload_n (pc := 83) dX12_cone_83 rfl rfl ?_
                  refine gf_X12_13 (pc := 84) dX12_cone_84 wF_X12_69 (A_106 hw) T3052 ?_
                  refine sv_aload_n (pc := 87) dX12_cone_87 rfl rfl ?_
                  refine gf_X12_7 (pc := 88) dX12_cone_88 wF_X12_40 (A_106 hw) T3052 ?_
                  refine mr_iconst (pc := 91) (z := 2) dX12_cone_91 ?_
                  refine mr_iload (pc := 92) (z := z3046) dX12_cone_92 rfl ?_
                  refine mr_imul (pc := 94) (x := 2) (y := z3046) dX12_cone_94 ?_
                  refine la_110 (pc := 95) dX12_cone_95 (A_110 hw) T3052 (rIx (n := 40) (rMulL (n := 2) (e := 0) (f := 38) h3091 rfl) rfl) fun z3120 q3121 h3122 => ?_
                  refine la_116 (pc := 96) dX12_cone_96 (A_116 hw) T3052 (rIx (n := 10) h3122 rfl) fun z3123 q3124 h3125 => ?_
                  refine mr_if_eq (pc := 97) (tgt := 138) dX12_cone_97 (by decide) (r32 h3125 rfl) (fun h3139 => ?_) (fun h3139 => ?_)
                  · have h3140 : 0 ≤ z3123 ∧ z3123 ≤ 0 := (vc_X12_ring_22 h3139 h3125)
                    refine mr_iinc (pc := 138) (lv' := [(4, iv (z3046 + 1)), (0, .ref 106), (2, iv p2), (3, iv z3047)]) dX12_cone_138 rfl (by decide) rfl ?_
                    refine sv_goto (pc := 141) (tgt := 64) dX12_cone_141 (by decide) ?_
                    refine mr_lvS (lv' := [(0, .ref 106), (2, iv p2), (3, iv z3047), (4, iv (z3046 + 1))]) (List.forall_mem_cons.mpr ⟨rfl, List.forall_mem_cons.mpr ⟨rfl, List.forall_mem_cons.mpr ⟨rfl, List.forall_mem_cons.mpr ⟨rfl, fun _ h => absurd h List.not_mem_nil⟩⟩⟩⟩) ?_
                    exact ih3059 z3047 (z3046 + 1) μ3048 f_d T3052 (mF.call mF.refl F3053 rfl) q3058 h3050 (rW (c := 0) (d := 20) (rAdd (e := 1) (f := 20) h3091 (rR (x := 1)) rfl) rfl) (vc_X12_cone_26 h3055 h3056 h2350 h3060 h3050) (vc_X12_cone_27 h3055 h3056 h2350 h3060 h3050) (vc_X12_tieOf_5 (nS h3057) h3090 h3091 h3092)
                  have h3141 : 1 ≤ z3123 ∧ z3123 ≤ 1 := (vc_X12_ring_24 h3139 h3125)
                  refine sv_aload_n (pc := 100) dX12_cone_100 rfl rfl ?_
                  refine gf_X12_13 (pc := 101) dX12_cone_101 wF_X12_69 (A_106 hw) T3052 ?_
                  refine sv_aload_n (pc := 104) dX12_cone_104 rfl rfl ?_
                  refine gf_X12_7 (pc := 105) dX12_cone_105 wF_X12_40 (A_106 hw) T3052 ?_
                  refine mr_iconst (pc := 108) (z := 2) dX12_cone_108 ?_
                  refine mr_iload (pc := 109) (z := z3046) dX12_cone_109 rfl ?_
                  refine mr_imul (pc := 111) (x := 2) (y := z3046) dX12_cone_111 ?_
                  refine mr_iconst (pc := 112) (z := 1) dX12_cone_112 ?_
                  refine mr_iadd (pc := 113) (x := (2 * z3046)) (y := 1) dX12_cone_113 ?_
                  refine la_110 (pc := 114) dX12_cone_114 (A_110 hw) T3052 (rIx (n := 40) (rAdd (e := 1) (f := 39) (rMulL (n := 2) (e := 0) (f := 38) h3091 rfl) (rR (x := 1)) rfl) rfl) fun z3142 q3143 h3144 => ?_
                  refine la_116 (pc := 115) dX12_cone_115 (A_116 hw) T3052 (rIx (n := 10) h3144 rfl) fun z3145 q3146 h3147 => ?_
                  refine mr_if_ne (pc := 116) (tgt := 138) dX12_cone_116 (by decide) (r32 h3147 rfl) (fun h3153 => ?_) (fun h3153 => ?_)
                  · have h3154 : 1 ≤ z3145 ∧ z3145 ≤ 1 := (vc_X12_ring_24 h3153 h3147)
                    refine mr_iinc (pc := 138) (lv' := [(4, iv (z3046 + 1)), (0, .ref 106), (2, iv p2), (3, iv z3047)]) dX12_cone_138 rfl (by decide) rfl ?_
                    refine sv_goto (pc := 141) (tgt := 64) dX12_cone_141 (by decide) ?_
                    refine mr_lvS (lv' := [(0, .ref 106), (2, iv p2), (3, iv z3047), (4, iv (z3046 + 1))]) (List.forall_mem_cons.mpr ⟨rfl, List.forall_mem_cons.mpr ⟨rfl, List.forall_mem_cons.mpr ⟨rfl, List.forall_mem_cons.mpr ⟨rfl, fun _ h => absurd h List.not_mem_nil⟩⟩⟩⟩) ?_
                    exact ih3059 z3047 (z3046 + 1) μ3048 f_d T3052 (mF.call mF.refl F3053 rfl) q3058 h3050 (rW (c := 0) (d := 20) (rAdd (e := 1) (f := 20) h3091 (rR (x := 1)) rfl) rfl) (vc_X12_cone_26 h3055 h3056 h2350 h3060 h3050) (vc_X12_cone_27 h3055 h3056 h2350 h3060 h3050) (vc_X12_tieOf_5 (nS h3057) h3090 h3091 h3092)
                  have h3155 : 0 ≤ z3145 ∧ z3145 ≤ 0 := (vc_X12_ring_22 h3153 h3147)
                  refine sv_aload_n (pc := 119) dX12_cone_119 rfl rfl ?_
                  refine gf_X12_13 (pc := 120) dX12_cone_120 wF_X12_69 (A_106 hw) T3052 ?_
                  refine sv_aload_n (pc := 123) dX12_cone_123 rfl rfl ?_
                  refine gf_X12_7 (pc := 124) dX12_cone_124 wF_X12_40 (A_106 hw) T3052 ?_
                  refine mr_iconst (pc := 127) (z := 2) dX12_cone_127 ?_
                  refine mr_iload (pc := 128) (z := z3046) dX12_cone_128 rfl ?_
                  refine mr_imul (pc := 130) (x := 2) (y := z3046) dX12_cone_130 ?_
                  refine mr_iconst (pc := 131) (z := 1) dX12_cone_131 ?_
                  refine mr_iadd (pc := 132) (x := (2 * z3046)) (y := 1) dX12_cone_132 ?_
                  refine lk_110 (pc := 133) dX12_cone_133 (A_110 hw) (rIx (n := 40) (rAdd (e := 1) (f := 39) (rMulL (n := 2) (e := 0) (f := 38) h3091 rfl) (rR (x := 1)) rfl) rfl) q3143 ?_
                  refine mr_iconst (pc := 134) (z := 1) dX12_cone_134 ?_
                  refine ss_116 (pc := 135) dX12_cone_135 (A_116 hw) T3052 (rIx (n := 10) h3144 rfl) (rW (c := 0) (d := 1) (rR (x := 1)) rfl) fun μ3156 u3157 T3158 => ?_
                  refine mr_iconst (pc := 136) (z := 1) dX12_cone_136 ?_
                  refine mr_istore_n (pc := 137) (lv' := [(3, iv 1), (0, .ref 106), (2, iv p2), (4, iv z3046)]) dX12_cone_137 rfl (by decide) rfl ?_
                  refine mr_iinc (pc := 138) (lv' := [(4, iv (z3046 + 1)), (3, iv 1), (0, .ref 106), (2, iv p2)]) dX12_cone_138 rfl (by decide) rfl ?_
                  refine sv_goto (pc := 141) (tgt := 64) dX12_cone_141 (by decide) ?_
                  refine mr_lvS (lv' := [(0, .ref 106), (2, iv p2), (3, iv 1), (4, iv (z3046 + 1))]) (List.forall_mem_cons.mpr ⟨rfl, List.forall_mem_cons.mpr ⟨rfl, List.forall_mem_cons.mpr ⟨rfl, List.forall_mem_cons.mpr ⟨rfl, fun _ h => absurd h List.not_mem_nil⟩⟩⟩⟩) ?_
                  exact ih3059 1 (z3046 + 1) μ3156 ((f_d + 1) - z3145) T3158 (mF.up (mF.call mF.refl F3053 rfl) (A_116 hw) u3157 rfl) (cntU u3157 (rIx (n := 10) h3144 rfl) rfl q3058 q3146) (rW (c := 0) (d := 1) (rR (x := 1)) rfl) (rW (c := 0) (d := 20) (rAdd (e := 1) (f := 20) h3091 (rR (x := 1)) rfl) rfl) (vc_X12_cone_34 h3055 h3056 h3153 h2350 h3060 h3050 h3155) (vc_X12_cone_35 h3055 h3056 h3153 h2350 h3060 h3050 h3155) (vc_X12_tieOf_5 (nS h3057) h3090 h3091 h3092)
              refine mr_lvS (lv' := [(0, .ref 106), (2, iv p2), (3, iv 0), (4, iv 0)]) (List.forall_mem_cons.mpr ⟨rfl, List.forall_mem_cons.mpr ⟨rfl, List.forall_mem_cons.mpr ⟨rfl, List.forall_mem_cons.mpr ⟨rfl, fun _ h => absurd h List.not_mem_nil⟩⟩⟩⟩) ?_
              exact L3049 22 0 0 μ2341 f_c T2344 mF.refl q2348 (rW (c := 0) (d := 1) (rR (x := 0)) rfl) (rW (c := 0) (d := 20) (rR (x := 0)) rfl) (vc_X12_cone_36 h2350) (vc_X12_cone_37 h2350) vc_X12_tieOf_12
          obtain ⟨z3159, q3160⟩ : ∃ z, cnt μ2035 116 10 = z := ⟨_, rfl⟩
          have h3161 : 0 ≤ z3159 ∧ z3159 ≤ 10 := by rw [← q3160]; exact cnt_rng (fun i => T2038 116 116 (A_116 hw) i) 10
          refine mr_lvS (lv' := [(0, .ref 106), (2, iv p2), (3, iv 1)]) (List.forall_mem_cons.mpr ⟨rfl, List.forall_mem_cons.mpr ⟨rfl, List.forall_mem_cons.mpr ⟨rfl, fun _ h => absurd h List.not_mem_nil⟩⟩⟩) ?_
          exact L2342 22 1 μ2035 z3159 T2038 mF.refl q3160 (rW (c := 0) (d := 1) (rR (x := 1)) rfl) (vc_X12_cone_39 h3161)
        have h3162 : 0 ≤ z2034 ∧ z2034 ≤ 9 := (vc_X12_ring_57 h2051 h2037)
        refine sv_aload_n (pc := 31) dX12_cone_31 rfl rfl ?_
        refine gf_X12_13 (pc := 32) dX12_cone_32 wF_X12_69 (A_106 hw) T2038 ?_
        refine mr_iload_n (pc := 35) (z := z2034) dX12_cone_35 rfl rfl ?_
        refine mr_iload_n (pc := 36) (z := z2034) dX12_cone_36 rfl rfl ?_
        refine mr_iload_n (pc := 37) (z := p1) dX12_cone_37 rfl rfl ?_
        refine mr_icmp_ne (pc := 38) (tgt := 45) dX12_cone_38 (by decide) (r32 h3162 rfl) (r32 h14 rfl) (fun h3163 => ?_) (fun h3163 => ?_)
        · refine mr_iconst (pc := 45) (z := 0) dX12_cone_45 ?_
          refine ss_116 (pc := 46) dX12_cone_46 (A_116 hw) T2038 (rIx (n := 10) h3162 rfl) (rW (c := 0) (d := 1) (rR (x := 0)) rfl) fun μ3164 u3165 T3166 => ?_
          refine mr_iinc (pc := 47) (lv' := [(3, iv (z2034 + 1)), (0, .ref 106), (1, iv p1), (2, iv p2)]) dX12_cone_47 rfl (by decide) rfl ?_
          refine sv_goto (pc := 50) (tgt := 25) dX12_cone_50 (by decide) ?_
          refine mr_lvS (lv' := [(0, .ref 106), (1, iv p1), (2, iv p2), (3, iv (z2034 + 1))]) (List.forall_mem_cons.mpr ⟨rfl, List.forall_mem_cons.mpr ⟨rfl, List.forall_mem_cons.mpr ⟨rfl, List.forall_mem_cons.mpr ⟨rfl, fun _ h => absurd h List.not_mem_nil⟩⟩⟩⟩) ?_
          exact ih2042 (z2034 + 1) μ3164 T3166 (mF.up (mF.call mF.refl F2039 rfl) (A_116 hw) u3165 rfl) (rW (c := 0) (d := 10) (rAdd (e := 1) (f := 10) h3162 (rR (x := 1)) rfl) rfl) (vc_X12_cone_41 (nS h2041) h2051 h3163 h7.2.1 h7.2.2.1 h13 h14 h15 h3162 h12)
        refine mr_iconst (pc := 41) (z := 1) dX12_cone_41 ?_
        refine sv_goto (pc := 42) (tgt := 46) dX12_cone_42 (by decide) ?_
        refine ss_116 (pc := 46) dX12_cone_46 (A_116 hw) T2038 (rIx (n := 10) h3162 rfl) (rW (c := 0) (d := 1) (rR (x := 1)) rfl) fun μ3167 u3168 T3169 => ?_
        refine mr_iinc (pc := 47) (lv' := [(3, iv (z2034 + 1)), (0, .ref 106), (1, iv p1), (2, iv p2)]) dX12_cone_47 rfl (by decide) rfl ?_
        refine sv_goto (pc := 50) (tgt := 25) dX12_cone_50 (by decide) ?_
        refine mr_lvS (lv' := [(0, .ref 106), (1, iv p1), (2, iv p2), (3, iv (z2034 + 1))]) (List.forall_mem_cons.mpr ⟨rfl, List.forall_mem_cons.mpr ⟨rfl, List.forall_mem_cons.mpr ⟨rfl, List.forall_mem_cons.mpr ⟨rfl, fun _ h => absurd h List.not_mem_nil⟩⟩⟩⟩) ?_
        exact ih2042 (z2034 + 1) μ3167 T3169 (mF.up (mF.call mF.refl F2039 rfl) (A_116 hw) u3168 rfl) (rW (c := 0) (d := 10) (rAdd (e := 1) (f := 10) h3162 (rR (x := 1)) rfl) rfl) (vc_X12_cone_42 (nS h2041) h2051 h3163 h7.2.1 h7.2.2.1 h13 h14 h15 h3162 h12)
    refine mr_lvS (lv' := [(0, .ref 106), (1, iv p1), (2, iv p2), (3, iv 0)]) (List.forall_mem_cons.mpr ⟨rfl, List.forall_mem_cons.mpr ⟨rfl, List.forall_mem_cons.mpr ⟨rfl, List.forall_mem_cons.mpr ⟨rfl, fun _ h => absurd h List.not_mem_nil⟩⟩⟩⟩) ?_
    exact L2036 12 0 μ hT mF.refl (rW (c := 0) (d := 10) (rR (x := 0)) rfl) vc_X12_ring_27
  have h3170 : 0 ≤ z1527 ∧ z1527 ≤ 0 := (vc_X12_differ_44 h1528 h1526.2.1 h1526.2.2.1 hp2 h15 h1526.1)
  have h3171 : p2 < 0 ∨ z1 ≤ p2 := (h1526.2.2.1 (vc_X12_cone_80 h1526.2.1 h1526.2.2.1 h1528 h7.2.1 h7.2.2.1 h13 h16 h14 hp2 h15 h3170 h12))
  refine mr_iconst (pc := 21) (z := (-1)) dX12_cone_21 ?_
  exact mr_iret dX12_cone_22 rfl (le_t rfl) (le_t rfl) hT mF.refl ⟨(rW (c := (-2147483648)) (d := 2147483647) (rR (x := (-1))) rfl), trivial⟩
theorem vc_X12_tieOf_hit_2 {f_ties g1 z416 : Int} (h0 : (21 - z416) < ((0 : Nat) : Int)) (h1 : z416 ≤ g1) (h2 : g1 < f_ties) (h3 : 1 ≤ f_ties ∧ f_ties ≤ 20) (h4 : 0 ≤ g1 ∧ g1 ≤ 19) (h5 : 0 ≤ z416 ∧ z416 ≤ 20) : False := by omega
theorem vc_X12_tieOf_hit_3 {f_ties g1 z416 : Int} (h0 : f_ties ≤ z416) (h1 : g1 < f_ties) (h2 : z416 ≤ g1) (h3 : 1 ≤ f_ties ∧ f_ties ≤ 20) (h4 : 0 ≤ g1 ∧ g1 ≤ 19) (h5 : 0 ≤ z416 ∧ z416 ≤ 20) : False := by omega
theorem vc_X12_tieOf_hit_4 {f_ties g1 z416 : Int} (h0 : z416 < f_ties) (h1 : g1 < f_ties) (h2 : z416 ≤ g1) (h3 : 1 ≤ f_ties ∧ f_ties ≤ 20) (h4 : 0 ≤ g1 ∧ g1 ≤ 19) (h5 : 0 ≤ z416 ∧ z416 ≤ 20) : 0 ≤ z416 ∧ z416 ≤ 19 := by omega
theorem vc_X12_tieOf_hit_5 {f_e0 f_e1 f_ties g1 p1 p2 z416 z427 : Int} (h0 : g1 < f_ties) (h1 : z416 ≤ g1) (h2 : z416 < f_ties) (h3 : ((2 * z416) = (2 * g1) → z427 = f_e0)) (h4 : ((2 * z416) = ((2 * g1) + 1) → z427 = f_e1)) (h5 : (f_e0 = p1 ∧ f_e1 = p2) ∨ (f_e0 = p2 ∧ f_e1 = p1)) (h6 : ¬ z427 = p1) (h7 : ¬ z427 = p2) (h8 : 0 ≤ f_e0 ∧ f_e0 ≤ 9) (h9 : 0 ≤ f_e1 ∧ f_e1 ≤ 9) (h10 : 1 ≤ f_ties ∧ f_ties ≤ 20) (h11 : 0 ≤ g1 ∧ g1 ≤ 19) (h12 : (-2147483648) ≤ p1 ∧ p1 ≤ 2147483647) (h13 : (-2147483648) ≤ p2 ∧ p2 ≤ 2147483647) (h14 : 0 ≤ z416 ∧ z416 ≤ 19) (h15 : 0 ≤ z427 ∧ z427 ≤ 9) : (z416 + 1) ≤ g1 := by omega
theorem vc_X12_tieOf_hit_6 {N f_e0 f_e1 f_ties g1 p1 p2 z416 z427 : Int} (h0 : (21 - z416) < N + 1) (h1 : z416 ≤ g1) (h2 : z416 < f_ties) (h3 : ((2 * z416) = (2 * g1) → z427 = f_e0)) (h4 : ((2 * z416) = ((2 * g1) + 1) → z427 = f_e1)) (h5 : g1 < f_ties) (h6 : (f_e0 = p1 ∧ f_e1 = p2) ∨ (f_e0 = p2 ∧ f_e1 = p1)) (h7 : ¬ z427 = p1) (h8 : ¬ z427 = p2) (h9 : 0 ≤ f_e0 ∧ f_e0 ≤ 9) (h10 : 0 ≤ f_e1 ∧ f_e1 ≤ 9) (h11 : 1 ≤ f_ties ∧ f_ties ≤ 20) (h12 : 0 ≤ g1 ∧ g1 ≤ 19) (h13 : (-2147483648) ≤ p1 ∧ p1 ≤ 2147483647) (h14 : (-2147483648) ≤ p2 ∧ p2 ≤ 2147483647) (h15 : 0 ≤ z416 ∧ z416 ≤ 19) (h16 : 0 ≤ z427 ∧ z427 ≤ 9) : (21 - (z416 + 1)) < N := by omega
theorem vc_X12_tieOf_hit_7 {f_e0 f_e1 g1 p1 p2 z416 z427 : Int} (h0 : z427 = p2) (h1 : (f_e0 = p1 ∧ f_e1 = p2) ∨ (f_e0 = p2 ∧ f_e1 = p1)) (h2 : ((2 * z416) = (2 * g1) → z427 = f_e0)) (h3 : ((2 * z416) = ((2 * g1) + 1) → z427 = f_e1)) (h4 : ¬ z427 = p1) (h5 : 0 ≤ f_e0 ∧ f_e0 ≤ 9) (h6 : 0 ≤ f_e1 ∧ f_e1 ≤ 9) (h7 : 0 ≤ g1 ∧ g1 ≤ 19) (h8 : (-2147483648) ≤ p1 ∧ p1 ≤ 2147483647) (h9 : (-2147483648) ≤ p2 ∧ p2 ≤ 2147483647) (h10 : 0 ≤ z416 ∧ z416 ≤ 19) (h11 : 0 ≤ z427 ∧ z427 ≤ 9) : 0 ≤ p2 ∧ p2 ≤ 9 := by omega
theorem vc_X12_tieOf_hit_8 {f_e0 f_e1 f_ties g1 p1 p2 z416 z427 z433 : Int} (h0 : g1 < f_ties) (h1 : z416 ≤ g1) (h2 : z416 < f_ties) (h3 : ((2 * z416) = (2 * g1) → z427 = f_e0)) (h4 : ((2 * z416) = ((2 * g1) + 1) → z427 = f_e1)) (h5 : (((2 * z416) + 1) = (2 * g1) → z433 = f_e0)) (h6 : (((2 * z416) + 1) = ((2 * g1) + 1) → z433 = f_e1)) (h7 : (((2 * z416) + 1) = (2 * z416) → z433 = z427)) (h8 : (f_e0 = p1 ∧ f_e1 = p2) ∨ (f_e0 = p2 ∧ f_e1 = p1)) (h9 : ¬ z427 = p1) (h10 : z427 = p2) (h11 : ¬ z433 = p1) (h12 : 0 ≤ f_e0 ∧ f_e0 ≤ 9) (h13 : 0 ≤ f_e1 ∧ f_e1 ≤ 9) (h14 : 1 ≤ f_ties ∧ f_ties ≤ 20) (h15 : 0 ≤ g1 ∧ g1 ≤ 19) (h16 : (-2147483648) ≤ p1 ∧ p1 ≤ 2147483647) (h17 : 0 ≤ p2 ∧ p2 ≤ 9) (h18 : 0 ≤ z416 ∧ z416 ≤ 19) (h19 : 0 ≤ z427 ∧ z427 ≤ 9) (h20 : 0 ≤ z433 ∧ z433 ≤ 9) : (z416 + 1) ≤ g1 := by omega
theorem vc_X12_tieOf_hit_9 {N f_e0 f_e1 f_ties g1 p1 p2 z416 z427 z433 : Int} (h0 : (21 - z416) < N + 1) (h1 : z416 ≤ g1) (h2 : z416 < f_ties) (h3 : ((2 * z416) = (2 * g1) → z427 = f_e0)) (h4 : ((2 * z416) = ((2 * g1) + 1) → z427 = f_e1)) (h5 : (((2 * z416) + 1) = (2 * g1) → z433 = f_e0)) (h6 : (((2 * z416) + 1) = ((2 * g1) + 1) → z433 = f_e1)) (h7 : (((2 * z416) + 1) = (2 * z416) → z433 = z427)) (h8 : g1 < f_ties) (h9 : (f_e0 = p1 ∧ f_e1 = p2) ∨ (f_e0 = p2 ∧ f_e1 = p1)) (h10 : ¬ z427 = p1) (h11 : z427 = p2) (h12 : ¬ z433 = p1) (h13 : 0 ≤ f_e0 ∧ f_e0 ≤ 9) (h14 : 0 ≤ f_e1 ∧ f_e1 ≤ 9) (h15 : 1 ≤ f_ties ∧ f_ties ≤ 20) (h16 : 0 ≤ g1 ∧ g1 ≤ 19) (h17 : (-2147483648) ≤ p1 ∧ p1 ≤ 2147483647) (h18 : 0 ≤ p2 ∧ p2 ≤ 9) (h19 : 0 ≤ z416 ∧ z416 ≤ 19) (h20 : 0 ≤ z427 ∧ z427 ≤ 9) (h21 : 0 ≤ z433 ∧ z433 ≤ 9) : (21 - (z416 + 1)) < N := by omega
theorem vc_X12_tieOf_hit_10 {f_e0 f_e1 g1 p1 p2 z416 z427 z433 : Int} (h0 : z433 = p1) (h1 : (f_e0 = p1 ∧ f_e1 = p2) ∨ (f_e0 = p2 ∧ f_e1 = p1)) (h2 : ¬ z427 = p1) (h3 : (((2 * z416) + 1) = (2 * g1) → z433 = f_e0)) (h4 : (((2 * z416) + 1) = ((2 * g1) + 1) → z433 = f_e1)) (h5 : (((2 * z416) + 1) = (2 * z416) → z433 = z427)) (h6 : 0 ≤ f_e0 ∧ f_e0 ≤ 9) (h7 : 0 ≤ f_e1 ∧ f_e1 ≤ 9) (h8 : 0 ≤ g1 ∧ g1 ≤ 19) (h9 : (-2147483648) ≤ p1 ∧ p1 ≤ 2147483647) (h10 : 0 ≤ p2 ∧ p2 ≤ 9) (h11 : 0 ≤ z416 ∧ z416 ≤ 19) (h12 : 0 ≤ z427 ∧ z427 ≤ 9) (h13 : 0 ≤ z433 ∧ z433 ≤ 9) : 0 ≤ p1 ∧ p1 ≤ 9 := by omega
theorem vc_X12_tieOf_hit_11 {f_e0 f_e1 g1 p1 p2 z416 z427 : Int} (h0 : z427 = p1) (h1 : (f_e0 = p1 ∧ f_e1 = p2) ∨ (f_e0 = p2 ∧ f_e1 = p1)) (h2 : ((2 * z416) = (2 * g1) → z427 = f_e0)) (h3 : ((2 * z416) = ((2 * g1) + 1) → z427 = f_e1)) (h4 : 0 ≤ f_e0 ∧ f_e0 ≤ 9) (h5 : 0 ≤ f_e1 ∧ f_e1 ≤ 9) (h6 : 0 ≤ g1 ∧ g1 ≤ 19) (h7 : (-2147483648) ≤ p1 ∧ p1 ≤ 2147483647) (h8 : (-2147483648) ≤ p2 ∧ p2 ≤ 2147483647) (h9 : 0 ≤ z416 ∧ z416 ≤ 19) (h10 : 0 ≤ z427 ∧ z427 ≤ 9) : 0 ≤ p1 ∧ p1 ≤ 9 := by omega
theorem vc_X12_tieOf_hit_12 {f_e0 f_e1 g1 p1 p2 z416 z427 z439 : Int} (h0 : z439 = p2) (h1 : (f_e0 = p1 ∧ f_e1 = p2) ∨ (f_e0 = p2 ∧ f_e1 = p1)) (h2 : (((2 * z416) + 1) = (2 * g1) → z439 = f_e0)) (h3 : (((2 * z416) + 1) = ((2 * g1) + 1) → z439 = f_e1)) (h4 : (((2 * z416) + 1) = (2 * z416) → z439 = z427)) (h5 : 0 ≤ f_e0 ∧ f_e0 ≤ 9) (h6 : 0 ≤ f_e1 ∧ f_e1 ≤ 9) (h7 : 0 ≤ g1 ∧ g1 ≤ 19) (h8 : 0 ≤ p1 ∧ p1 ≤ 9) (h9 : (-2147483648) ≤ p2 ∧ p2 ≤ 2147483647) (h10 : 0 ≤ z416 ∧ z416 ≤ 19) (h11 : 0 ≤ z427 ∧ z427 ≤ 9) (h12 : 0 ≤ z439 ∧ z439 ≤ 9) : 0 ≤ p2 ∧ p2 ≤ 9 := by omega
theorem vc_X12_tieOf_hit_13 {f_e0 f_e1 f_ties g1 p1 p2 z416 z427 z439 : Int} (h0 : g1 < f_ties) (h1 : z416 ≤ g1) (h2 : z416 < f_ties) (h3 : ((2 * z416) = (2 * g1) → z427 = f_e0)) (h4 : ((2 * z416) = ((2 * g1) + 1) → z427 = f_e1)) (h5 : (((2 * z416) + 1) = (2 * g1) → z439 = f_e0)) (h6 : (((2 * z416) + 1) = ((2 * g1) + 1) → z439 = f_e1)) (h7 : (((2 * z416) + 1) = (2 * z416) → z439 = z427)) (h8 : (f_e0 = p1 ∧ f_e1 = p2) ∨ (f_e0 = p2 ∧ f_e1 = p1)) (h9 : z427 = p1) (h10 : ¬ z439 = p2) (h11 : ¬ z427 = p2) (h12 : 0 ≤ f_e0 ∧ f_e0 ≤ 9) (h13 : 0 ≤ f_e1 ∧ f_e1 ≤ 9) (h14 : 1 ≤ f_ties ∧ f_ties ≤ 20) (h15 : 0 ≤ g1 ∧ g1 ≤ 19) (h16 : 0 ≤ p1 ∧ p1 ≤ 9) (h17 : (-2147483648) ≤ p2 ∧ p2 ≤ 2147483647) (h18 : 0 ≤ z416 ∧ z416 ≤ 19) (h19 : 0 ≤ z427 ∧ z427 ≤ 9) (h20 : 0 ≤ z439 ∧ z439 ≤ 9) : (z416 + 1) ≤ g1 := by omega
theorem vc_X12_tieOf_hit_14 {N f_e0 f_e1 f_ties g1 p1 p2 z416 z427 z439 : Int} (h0 : (21 - z416) < N + 1) (h1 : z416 ≤ g1) (h2 : z416 < f_ties) (h3 : ((2 * z416) = (2 * g1) → z427 = f_e0)) (h4 : ((2 * z416) = ((2 * g1) + 1) → z427 = f_e1)) (h5 : (((2 * z416) + 1) = (2 * g1) → z439 = f_e0)) (h6 : (((2 * z416) + 1) = ((2 * g1) + 1) → z439 = f_e1)) (h7 : (((2 * z416) + 1) = (2 * z416) → z439 = z427)) (h8 : g1 < f_ties) (h9 : (f_e0 = p1 ∧ f_e1 = p2) ∨ (f_e0 = p2 ∧ f_e1 = p1)) (h10 : z427 = p1) (h11 : ¬ z439 = p2) (h12 : ¬ z427 = p2) (h13 : 0 ≤ f_e0 ∧ f_e0 ≤ 9) (h14 : 0 ≤ f_e1 ∧ f_e1 ≤ 9) (h15 : 1 ≤ f_ties ∧ f_ties ≤ 20) (h16 : 0 ≤ g1 ∧ g1 ≤ 19) (h17 : 0 ≤ p1 ∧ p1 ≤ 9) (h18 : (-2147483648) ≤ p2 ∧ p2 ≤ 2147483647) (h19 : 0 ≤ z416 ∧ z416 ≤ 19) (h20 : 0 ≤ z427 ∧ z427 ≤ 9) (h21 : 0 ≤ z439 ∧ z439 ≤ 9) : (21 - (z416 + 1)) < N := by omega
theorem vc_X12_tieOf_hit_15 {f_e0 f_e1 g1 p1 p2 z416 z427 z439 : Int} (h0 : z427 = p2) (h1 : (f_e0 = p1 ∧ f_e1 = p2) ∨ (f_e0 = p2 ∧ f_e1 = p1)) (h2 : ((2 * z416) = (2 * g1) → z427 = f_e0)) (h3 : ((2 * z416) = ((2 * g1) + 1) → z427 = f_e1)) (h4 : z427 = p1) (h5 : (((2 * z416) + 1) = (2 * z416) → z439 = z427)) (h6 : ¬ z439 = p2) (h7 : 0 ≤ f_e0 ∧ f_e0 ≤ 9) (h8 : 0 ≤ f_e1 ∧ f_e1 ≤ 9) (h9 : 0 ≤ g1 ∧ g1 ≤ 19) (h10 : 0 ≤ p1 ∧ p1 ≤ 9) (h11 : (-2147483648) ≤ p2 ∧ p2 ≤ 2147483647) (h12 : 0 ≤ z416 ∧ z416 ≤ 19) (h13 : 0 ≤ z427 ∧ z427 ≤ 9) (h14 : 0 ≤ z439 ∧ z439 ≤ 9) : 0 ≤ p2 ∧ p2 ≤ 9 := by omega
theorem vc_X12_tieOf_hit_16 {f_e0 f_e1 f_ties g1 p1 p2 z416 z427 z439 : Int} (h0 : g1 < f_ties) (h1 : z416 ≤ g1) (h2 : z416 < f_ties) (h3 : ((2 * z416) = (2 * g1) → z427 = f_e0)) (h4 : ((2 * z416) = ((2 * g1) + 1) → z427 = f_e1)) (h5 : (((2 * z416) + 1) = (2 * g1) → z439 = f_e0)) (h6 : (((2 * z416) + 1) = ((2 * g1) + 1) → z439 = f_e1)) (h7 : (((2 * z416) + 1) = (2 * z416) → z439 = z427)) (h8 : (f_e0 = p1 ∧ f_e1 = p2) ∨ (f_e0 = p2 ∧ f_e1 = p1)) (h9 : z427 = p1) (h10 : ¬ z439 = p2) (h11 : z427 = p2) (h12 : ¬ z439 = p1) (h13 : 0 ≤ f_e0 ∧ f_e0 ≤ 9) (h14 : 0 ≤ f_e1 ∧ f_e1 ≤ 9) (h15 : 1 ≤ f_ties ∧ f_ties ≤ 20) (h16 : 0 ≤ g1 ∧ g1 ≤ 19) (h17 : 0 ≤ p1 ∧ p1 ≤ 9) (h18 : 0 ≤ p2 ∧ p2 ≤ 9) (h19 : 0 ≤ z416 ∧ z416 ≤ 19) (h20 : 0 ≤ z427 ∧ z427 ≤ 9) (h21 : 0 ≤ z439 ∧ z439 ≤ 9) : (z416 + 1) ≤ g1 := by omega
theorem vc_X12_tieOf_hit_17 {N f_e0 f_e1 f_ties g1 p1 p2 z416 z427 z439 : Int} (h0 : (21 - z416) < N + 1) (h1 : z416 ≤ g1) (h2 : z416 < f_ties) (h3 : ((2 * z416) = (2 * g1) → z427 = f_e0)) (h4 : ((2 * z416) = ((2 * g1) + 1) → z427 = f_e1)) (h5 : (((2 * z416) + 1) = (2 * g1) → z439 = f_e0)) (h6 : (((2 * z416) + 1) = ((2 * g1) + 1) → z439 = f_e1)) (h7 : (((2 * z416) + 1) = (2 * z416) → z439 = z427)) (h8 : g1 < f_ties) (h9 : (f_e0 = p1 ∧ f_e1 = p2) ∨ (f_e0 = p2 ∧ f_e1 = p1)) (h10 : z427 = p1) (h11 : ¬ z439 = p2) (h12 : z427 = p2) (h13 : ¬ z439 = p1) (h14 : 0 ≤ f_e0 ∧ f_e0 ≤ 9) (h15 : 0 ≤ f_e1 ∧ f_e1 ≤ 9) (h16 : 1 ≤ f_ties ∧ f_ties ≤ 20) (h17 : 0 ≤ g1 ∧ g1 ≤ 19) (h18 : 0 ≤ p1 ∧ p1 ≤ 9) (h19 : 0 ≤ p2 ∧ p2 ≤ 9) (h20 : 0 ≤ z416 ∧ z416 ≤ 19) (h21 : 0 ≤ z427 ∧ z427 ≤ 9) (h22 : 0 ≤ z439 ∧ z439 ≤ 9) : (21 - (z416 + 1)) < N := by omega
theorem vc_X12_tieOf_hit_18 {f_ties g1 : Int} (h0 : g1 < f_ties) (h1 : 1 ≤ f_ties ∧ f_ties ≤ 20) (h2 : 0 ≤ g1 ∧ g1 ≤ 19) : (0 : Int) ≤ g1 := by omega
set_option maxRecDepth 4000 in
set_option maxHeartbeats 4000000 in
theorem c_X12_tieOf_hit {l : Launch} {D : va_G} {c : Nat → ClassId} {H0 : Heap} {sa : Nat × Nat × (Nat → Int32)} {w : mW} {μ : mM} (hw : mWF w) (hT : mT w μ) {p1 : Int} (hp1 : (-2147483648) ≤ p1 ∧ p1 ≤ 2147483647) {p2 : Int} (hp2 : (-2147483648) ≤ p2 ∧ p2 ≤ 2147483647) {g1 : Int} (hg1 : 0 ≤ g1 ∧ g1 ≤ 19) {f_e0 : Int} (q_f_e0 : μ 110 ((2 * g1).toNat) = f_e0) {f_e1 : Int} (q_f_e1 : μ 110 (((2 * g1) + 1).toNat) = f_e1) {f_ties : Int} (q_f_ties : μ 106 6 = f_ties) (hq0 : g1 < f_ties) (hq1 : (f_e0 = p1 ∧ f_e1 = p2) ∨ (f_e0 = p2 ∧ f_e1 = p1)) : sC (gG l D c H0 sa) mX12_tieOf 1 0 0 [.ref 106, iv p1, iv p2] (mk w μ) (qP w μ (fun z => (0 ≤ z ∧ z ≤ 19) ∧ True)) := by
  refine sC.of rfl (by decide) (le_t rfl) ?_
  have ht_f_e0 : (0 ≤ f_e0 ∧ f_e0 ≤ 9) := by rw [← q_f_e0]; exact hT 110 110 (A_110 hw) ((2 * g1).toNat)
  have ht_f_e1 : (0 ≤ f_e1 ∧ f_e1 ≤ 9) := by rw [← q_f_e1]; exact hT 110 110 (A_110 hw) (((2 * g1) + 1).toNat)
  have ht_f_ties : (0 ≤ f_ties ∧ f_ties ≤ 20) := by rw [← q_f_ties]; exact hT 106 106 (A_106 hw) 6
  have h1 : 1 ≤ f_ties ∧ f_ties ≤ 20 := (vc_X3_putAttributes_11 hq0 ht_f_ties hg1)
  refine mr_lvE (lv' := [(0, .ref 106), (1, iv p1), (2, iv p2)]) rfl ?_
  refine mr_iconst (pc := 0) (z := 0) dX12_tieOf_0 ?_
  refine mr_istore_n (pc := 1) (lv' := [(3, iv 0), (0, .ref 106), (1, iv p1), (2, iv p2)]) dX12_tieOf_1 rfl (by decide) rfl ?_
  have L417 : ∀ (nL417 : Nat) (z416 : Int), True → (0 ≤ z416 ∧ z416 ≤ 20) → (z416 ≤ g1) → (21 - z416) < (nL417 : Int) → sV (gG l D c H0 sa) mX12_tieOf (sRm 1 0 0) (sZ (gG l D c H0 sa) 0 0 (qP w μ (fun z => (0 ≤ z ∧ z ≤ 19) ∧ True))) 2 [(0, .ref 106), (1, iv p1), (2, iv p2), (3, iv z416)] [] (mk w μ) 0 0 := by
    intro nL417
    induction nL417 with
    | zero => intro z416 _ h418 h422 h423; exact ((vc_X12_tieOf_hit_2 h423 h422 hq0 h1 hg1 h418)).elim
    | succ nL417 ih424 =>
      intro z416 _ h418 h422 h423
      refine mr_iload_n (pc := 2) (z := z416) dX12_tieOf_2 rfl rfl ?_
      refine sv_aload_n (pc := 3) dX12_tieOf_3 rfl rfl ?_
      refine gk_X12_6 (pc := 4) dX12_tieOf_4 wF_X12_37 (A_106 hw) q_f_ties ?_
      refine mr_icmp_ge (pc := 7) (tgt := 70) dX12_tieOf_7 (by decide) (r32 h418 rfl) (r32 h1 rfl) (fun h => ((vc_X12_tieOf_hit_3 h hq0 h422 h1 hg1 h418)).elim) (fun h425 => ?_)
      have h426 : 0 ≤ z416 ∧ z416 ≤ 19 := (vc_X12_tieOf_hit_4 h425 hq0 h422 h1 hg1 h418)
      refine sv_aload_n (pc := 10) dX12_tieOf_10 rfl rfl ?_
      refine gf_X12_7 (pc := 11) dX12_tieOf_11 wF_X12_40 (A_106 hw) hT ?_
      refine mr_iconst (pc := 14) (z := 2) dX12_tieOf_14 ?_
      refine mr_iload_n (pc := 15) (z := z416) dX12_tieOf_15 rfl rfl ?_
      refine mr_imul (pc := 16) (x := 2) (y := z416) dX12_tieOf_16 ?_
      refine la_110 (pc := 17) dX12_tieOf_17 (A_110 hw) hT (rIx (n := 40) (rMulL (n := 2) (e := 0) (f := 38) h426 rfl) rfl) fun z427 q428 h429 => ?_
      refine mr_iload_n (pc := 18) (z := p1) dX12_tieOf_18 rfl rfl ?_
      refine mr_icmp_ne (pc := 19) (tgt := 36) dX12_tieOf_19 (by decide) (r32 h429 rfl) hp1 (fun h430 => ?_) (fun h430 => ?_)
      · refine sv_aload_n (pc := 36) dX12_tieOf_36 rfl rfl ?_
        refine gf_X12_7 (pc := 37) dX12_tieOf_37 wF_X12_40 (A_106 hw) hT ?_
        refine mr_iconst (pc := 40) (z := 2) dX12_tieOf_40 ?_
        refine mr_iload_n (pc := 41) (z := z416) dX12_tieOf_41 rfl rfl ?_
        refine mr_imul (pc := 42) (x := 2) (y := z416) dX12_tieOf_42 ?_
        refine lk_110 (pc := 43) dX12_tieOf_43 (A_110 hw) (rIx (n := 40) (rMulL (n := 2) (e := 0) (f := 38) h426 rfl) rfl) q428 ?_
        refine mr_iload_n (pc := 44) (z := p2) dX12_tieOf_44 rfl rfl ?_
        refine mr_icmp_ne (pc := 45) (tgt := 64) dX12_tieOf_45 (by decide) (r32 h429 rfl) hp2 (fun h431 => ?_) (fun h431 => ?_)
        · refine mr_iinc (pc := 64) (lv' := [(3, iv (z416 + 1)), (0, .ref 106), (1, iv p1), (2, iv p2)]) dX12_tieOf_64 rfl (by decide) rfl ?_
          refine sv_goto (pc := 67) (tgt := 2) dX12_tieOf_67 (by decide) ?_
          refine mr_lvS (lv' := [(0, .ref 106), (1, iv p1), (2, iv p2), (3, iv (z416 + 1))]) (List.forall_mem_cons.mpr ⟨rfl, List.forall_mem_cons.mpr ⟨rfl, List.forall_mem_cons.mpr ⟨rfl, List.forall_mem_cons.mpr ⟨rfl, fun _ h => absurd h List.not_mem_nil⟩⟩⟩⟩) ?_
          exact ih424 (z416 + 1) trivial (rW (c := 0) (d := 20) (rAdd (e := 1) (f := 20) h426 (rR (x := 1)) rfl) rfl) (vc_X12_tieOf_hit_5 hq0 h422 h425 (cgr q428 q_f_e0) (cgr q428 q_f_e1) hq1 h430 h431 ht_f_e0 ht_f_e1 h1 hg1 hp1 hp2 h426 h429) (vc_X12_tieOf_hit_6 (nS h423) h422 h425 (cgr q428 q_f_e0) (cgr q428 q_f_e1) hq0 hq1 h430 h431 ht_f_e0 ht_f_e1 h1 hg1 hp1 hp2 h426 h429)
        have h432 : 0 ≤ p2 ∧ p2 ≤ 9 := (vc_X12_tieOf_hit_7 h431 hq1 (cgr q428 q_f_e0) (cgr q428 q_f_e1) h430 ht_f_e0 ht_f_e1 hg1 hp1 hp2 h426 h429)
        refine sv_aload_n (pc := 48) dX12_tieOf_48 rfl rfl ?_
        refine gf_X12_7 (pc := 49) dX12_tieOf_49 wF_X12_40 (A_106 hw) hT ?_
        refine mr_iconst (pc := 52) (z := 2) dX12_tieOf_52 ?_
        refine mr_iload_n (pc := 53) (z := z416) dX12_tieOf_53 rfl rfl ?_
        refine mr_imul (pc := 54) (x := 2) (y := z416) dX12_tieOf_54 ?_
        refine mr_iconst (pc := 55) (z := 1) dX12_tieOf_55 ?_
        refine mr_iadd (pc := 56) (x := (2 * z416)) (y := 1) dX12_tieOf_56 ?_
        refine la_110 (pc := 57) dX12_tieOf_57 (A_110 hw) hT (rIx (n := 40) (rAdd (e := 1) (f := 39) (rMulL (n := 2) (e := 0) (f := 38) h426 rfl) (rR (x := 1)) rfl) rfl) fun z433 q434 h435 => ?_
        refine mr_iload_n (pc := 58) (z := p1) dX12_tieOf_58 rfl rfl ?_
        refine mr_icmp_ne (pc := 59) (tgt := 64) dX12_tieOf_59 (by decide) (r32 h435 rfl) hp1 (fun h436 => ?_) (fun h436 => ?_)
        · refine mr_iinc (pc := 64) (lv' := [(3, iv (z416 + 1)), (0, .ref 106), (1, iv p1), (2, iv p2)]) dX12_tieOf_64 rfl (by decide) rfl ?_
          refine sv_goto (pc := 67) (tgt := 2) dX12_tieOf_67 (by decide) ?_
          refine mr_lvS (lv' := [(0, .ref 106), (1, iv p1), (2, iv p2), (3, iv (z416 + 1))]) (List.forall_mem_cons.mpr ⟨rfl, List.forall_mem_cons.mpr ⟨rfl, List.forall_mem_cons.mpr ⟨rfl, List.forall_mem_cons.mpr ⟨rfl, fun _ h => absurd h List.not_mem_nil⟩⟩⟩⟩) ?_
          exact ih424 (z416 + 1) trivial (rW (c := 0) (d := 20) (rAdd (e := 1) (f := 20) h426 (rR (x := 1)) rfl) rfl) (vc_X12_tieOf_hit_8 hq0 h422 h425 (cgr q428 q_f_e0) (cgr q428 q_f_e1) (cgr q434 q_f_e0) (cgr q434 q_f_e1) (cgr q434 q428) hq1 h430 h431 h436 ht_f_e0 ht_f_e1 h1 hg1 hp1 h432 h426 h429 h435) (vc_X12_tieOf_hit_9 (nS h423) h422 h425 (cgr q428 q_f_e0) (cgr q428 q_f_e1) (cgr q434 q_f_e0) (cgr q434 q_f_e1) (cgr q434 q428) hq0 hq1 h430 h431 h436 ht_f_e0 ht_f_e1 h1 hg1 hp1 h432 h426 h429 h435)
        have h437 : 0 ≤ p1 ∧ p1 ≤ 9 := (vc_X12_tieOf_hit_10 h436 hq1 h430 (cgr q434 q_f_e0) (cgr q434 q_f_e1) (cgr q434 q428) ht_f_e0 ht_f_e1 hg1 hp1 h432 h426 h429 h435)
        refine mr_iload_n (pc := 62) (z := z416) dX12_tieOf_62 rfl rfl ?_
        exact mr_iretP dX12_tieOf_63 rfl (le_t rfl) (le_t rfl) ⟨h426, trivial⟩
      have h438 : 0 ≤ p1 ∧ p1 ≤ 9 := (vc_X12_tieOf_hit_11 h430 hq1 (cgr q428 q_f_e0) (cgr q428 q_f_e1) ht_f_e0 ht_f_e1 hg1 hp1 hp2 h426 h429)
      refine sv_aload_n (pc := 22) dX12_tieOf_22 rfl rfl ?_
      refine gf_X12_7 (pc := 23) dX12_tieOf_23 wF_X12_40 (A_106 hw) hT ?_
      refine mr_iconst (pc := 26) (z := 2) dX12_tieOf_26 ?_
      refine mr_iload_n (pc := 27) (z := z416) dX12_tieOf_27 rfl rfl ?_
      refine mr_imul (pc := 28) (x := 2) (y := z416) dX12_tieOf_28 ?_
      refine mr_iconst (pc := 29) (z := 1) dX12_tieOf_29 ?_
      refine mr_iadd (pc := 30) (x := (2 * z416)) (y := 1) dX12_tieOf_30 ?_
      refine la_110 (pc := 31) dX12_tieOf_31 (A_110 hw) hT (rIx (n := 40) (rAdd (e := 1) (f := 39) (rMulL (n := 2) (e := 0) (f := 38) h426 rfl) (rR (x := 1)) rfl) rfl) fun z439 q440 h441 => ?_
      refine mr_iload_n (pc := 32) (z := p2) dX12_tieOf_32 rfl rfl ?_
      refine mr_icmp_eq (pc := 33) (tgt := 62) dX12_tieOf_33 (by decide) (r32 h441 rfl) hp2 (fun h442 => ?_) (fun h442 => ?_)
      · have h443 : 0 ≤ p2 ∧ p2 ≤ 9 := (vc_X12_tieOf_hit_12 h442 hq1 (cgr q440 q_f_e0) (cgr q440 q_f_e1) (cgr q440 q428) ht_f_e0 ht_f_e1 hg1 h438 hp2 h426 h429 h441)
        refine mr_iload_n (pc := 62) (z := z416) dX12_tieOf_62 rfl rfl ?_
        exact mr_iretP dX12_tieOf_63 rfl (le_t rfl) (le_t rfl) ⟨h426, trivial⟩
      refine sv_aload_n (pc := 36) dX12_tieOf_36 rfl rfl ?_
      refine gf_X12_7 (pc := 37) dX12_tieOf_37 wF_X12_40 (A_106 hw) hT ?_
      refine mr_iconst (pc := 40) (z := 2) dX12_tieOf_40 ?_
      refine mr_iload_n (pc := 41) (z := z416) dX12_tieOf_41 rfl rfl ?_
      refine mr_imul (pc := 42) (x := 2) (y := z416) dX12_tieOf_42 ?_
      refine lk_110 (pc := 43) dX12_tieOf_43 (A_110 hw) (rIx (n := 40) (rMulL (n := 2) (e := 0) (f := 38) h426 rfl) rfl) q428 ?_
      refine mr_iload_n (pc := 44) (z := p2) dX12_tieOf_44 rfl rfl ?_
      refine mr_icmp_ne (pc := 45) (tgt := 64) dX12_tieOf_45 (by decide) (r32 h429 rfl) hp2 (fun h444 => ?_) (fun h444 => ?_)
      · refine mr_iinc (pc := 64) (lv' := [(3, iv (z416 + 1)), (0, .ref 106), (1, iv p1), (2, iv p2)]) dX12_tieOf_64 rfl (by decide) rfl ?_
        refine sv_goto (pc := 67) (tgt := 2) dX12_tieOf_67 (by decide) ?_
        refine mr_lvS (lv' := [(0, .ref 106), (1, iv p1), (2, iv p2), (3, iv (z416 + 1))]) (List.forall_mem_cons.mpr ⟨rfl, List.forall_mem_cons.mpr ⟨rfl, List.forall_mem_cons.mpr ⟨rfl, List.forall_mem_cons.mpr ⟨rfl, fun _ h => absurd h List.not_mem_nil⟩⟩⟩⟩) ?_
        exact ih424 (z416 + 1) trivial (rW (c := 0) (d := 20) (rAdd (e := 1) (f := 20) h426 (rR (x := 1)) rfl) rfl) (vc_X12_tieOf_hit_13 hq0 h422 h425 (cgr q428 q_f_e0) (cgr q428 q_f_e1) (cgr q440 q_f_e0) (cgr q440 q_f_e1) (cgr q440 q428) hq1 h430 h442 h444 ht_f_e0 ht_f_e1 h1 hg1 h438 hp2 h426 h429 h441) (vc_X12_tieOf_hit_14 (nS h423) h422 h425 (cgr q428 q_f_e0) (cgr q428 q_f_e1) (cgr q440 q_f_e0) (cgr q440 q_f_e1) (cgr q440 q428) hq0 hq1 h430 h442 h444 ht_f_e0 ht_f_e1 h1 hg1 h438 hp2 h426 h429 h441)
      have h445 : 0 ≤ p2 ∧ p2 ≤ 9 := (vc_X12_tieOf_hit_15 h444 hq1 (cgr q428 q_f_e0) (cgr q428 q_f_e1) h430 (cgr q440 q428) h442 ht_f_e0 ht_f_e1 hg1 h438 hp2 h426 h429 h441)
      refine sv_aload_n (pc := 48) dX12_tieOf_48 rfl rfl ?_
      refine gf_X12_7 (pc := 49) dX12_tieOf_49 wF_X12_40 (A_106 hw) hT ?_
      refine mr_iconst (pc := 52) (z := 2) dX12_tieOf_52 ?_
      refine mr_iload_n (pc := 53) (z := z416) dX12_tieOf_53 rfl rfl ?_
      refine mr_imul (pc := 54) (x := 2) (y := z416) dX12_tieOf_54 ?_
      refine mr_iconst (pc := 55) (z := 1) dX12_tieOf_55 ?_
      refine mr_iadd (pc := 56) (x := (2 * z416)) (y := 1) dX12_tieOf_56 ?_
      refine lk_110 (pc := 57) dX12_tieOf_57 (A_110 hw) (rIx (n := 40) (rAdd (e := 1) (f := 39) (rMulL (n := 2) (e := 0) (f := 38) h426 rfl) (rR (x := 1)) rfl) rfl) q440 ?_
      refine mr_iload_n (pc := 58) (z := p1) dX12_tieOf_58 rfl rfl ?_
      refine mr_icmp_ne (pc := 59) (tgt := 64) dX12_tieOf_59 (by decide) (r32 h441 rfl) (r32 h438 rfl) (fun h446 => ?_) (fun h446 => ?_)
      · refine mr_iinc (pc := 64) (lv' := [(3, iv (z416 + 1)), (0, .ref 106), (1, iv p1), (2, iv p2)]) dX12_tieOf_64 rfl (by decide) rfl ?_
        refine sv_goto (pc := 67) (tgt := 2) dX12_tieOf_67 (by decide) ?_
        refine mr_lvS (lv' := [(0, .ref 106), (1, iv p1), (2, iv p2), (3, iv (z416 + 1))]) (List.forall_mem_cons.mpr ⟨rfl, List.forall_mem_cons.mpr ⟨rfl, List.forall_mem_cons.mpr ⟨rfl, List.forall_mem_cons.mpr ⟨rfl, fun _ h => absurd h List.not_mem_nil⟩⟩⟩⟩) ?_
        exact ih424 (z416 + 1) trivial (rW (c := 0) (d := 20) (rAdd (e := 1) (f := 20) h426 (rR (x := 1)) rfl) rfl) (vc_X12_tieOf_hit_16 hq0 h422 h425 (cgr q428 q_f_e0) (cgr q428 q_f_e1) (cgr q440 q_f_e0) (cgr q440 q_f_e1) (cgr q440 q428) hq1 h430 h442 h444 h446 ht_f_e0 ht_f_e1 h1 hg1 h438 h445 h426 h429 h441) (vc_X12_tieOf_hit_17 (nS h423) h422 h425 (cgr q428 q_f_e0) (cgr q428 q_f_e1) (cgr q440 q_f_e0) (cgr q440 q_f_e1) (cgr q440 q428) hq0 hq1 h430 h442 h444 h446 ht_f_e0 ht_f_e1 h1 hg1 h438 h445 h426 h429 h441)
      refine mr_iload_n (pc := 62) (z := z416) dX12_tieOf_62 rfl rfl ?_
      exact mr_iretP dX12_tieOf_63 rfl (le_t rfl) (le_t rfl) ⟨h426, trivial⟩
  refine mr_lvS (lv' := [(0, .ref 106), (1, iv p1), (2, iv p2), (3, iv 0)]) (List.forall_mem_cons.mpr ⟨rfl, List.forall_mem_cons.mpr ⟨rfl, List.forall_mem_cons.mpr ⟨rfl, List.forall_mem_cons.mpr ⟨rfl, fun _ h => absurd h List.not_mem_nil⟩⟩⟩⟩) ?_
  exact L417 22 0 trivial (rW (c := 0) (d := 20) (rR (x := 0)) rfl) (vc_X12_tieOf_hit_18 hq0 h1 hg1) vc_X12_tieOf_12
theorem vc_X12_tieWord_2 {f_ties g1 : Int} (h0 : g1 < f_ties) (h1 : 1 ≤ f_ties ∧ f_ties ≤ 20) (h2 : 0 ≤ g1 ∧ g1 ≤ 19) : g1 < f_ties := by omega
theorem vc_X12_tieWord_3 {f_e0 f_e1 p1 p2 : Int} (h0 : (f_e0 = p1 ∧ f_e1 = p2) ∨ (f_e0 = p2 ∧ f_e1 = p1)) (h1 : 0 ≤ f_e0 ∧ f_e0 ≤ 9) (h2 : 0 ≤ f_e1 ∧ f_e1 ≤ 9) (h3 : (-2147483648) ≤ p1 ∧ p1 ≤ 2147483647) (h4 : (-2147483648) ≤ p2 ∧ p2 ≤ 2147483647) : (f_e0 = p1 ∧ f_e1 = p2) ∨ (f_e0 = p2 ∧ f_e1 = p1) := by omega
theorem vc_X12_tieWord_5 {f_e0 f_e1 p1 p2 z58 : Int} (h0 : z58 = p1) (h1 : (f_e0 = p1 ∧ f_e1 = p2) ∨ (f_e0 = p2 ∧ f_e1 = p1)) (h2 : 0 ≤ f_e0 ∧ f_e0 ≤ 9) (h3 : 0 ≤ f_e1 ∧ f_e1 ≤ 9) (h4 : (-2147483648) ≤ p1 ∧ p1 ≤ 2147483647) (h5 : (-2147483648) ≤ p2 ∧ p2 ≤ 2147483647) (h6 : 0 ≤ z58 ∧ z58 ≤ 9) : 0 ≤ p1 ∧ p1 ≤ 9 := by omega
set_option maxRecDepth 4000 in
set_option maxHeartbeats 4000000 in
theorem c_X12_tieWord {l : Launch} {D : va_G} {c : Nat → ClassId} {H0 : Heap} {sa : Nat × Nat × (Nat → Int32)} {w : mW} {μ : mM} (hw : mWF w) (hT : mT w μ) {p1 : Int} (hp1 : (-2147483648) ≤ p1 ∧ p1 ≤ 2147483647) {p2 : Int} (hp2 : (-2147483648) ≤ p2 ∧ p2 ≤ 2147483647) {g1 : Int} (hg1 : 0 ≤ g1 ∧ g1 ≤ 19) {f_e0 : Int} (q_f_e0 : μ 110 ((2 * g1).toNat) = f_e0) {f_e1 : Int} (q_f_e1 : μ 110 (((2 * g1) + 1).toNat) = f_e1) {f_ties : Int} (q_f_ties : μ 106 6 = f_ties) (hq0 : g1 < f_ties) (hq1 : (f_e0 = p1 ∧ f_e1 = p2) ∨ (f_e0 = p2 ∧ f_e1 = p1)) : sC (gG l D c H0 sa) mX12_tieWord 2 0 0 [.ref 106, iv p1, iv p2] (mk w μ) (qP w μ (fun z => (16 ≤ z ∧ z ≤ 19) ∧ True)) := by
  refine sC.of rfl (by decide) (le_t rfl) ?_
  have ht_f_e0 : (0 ≤ f_e0 ∧ f_e0 ≤ 9) := by rw [← q_f_e0]; exact hT 110 110 (A_110 hw) ((2 * g1).toNat)
  have ht_f_e1 : (0 ≤ f_e1 ∧ f_e1 ≤ 9) := by rw [← q_f_e1]; exact hT 110 110 (A_110 hw) (((2 * g1) + 1).toNat)
  have ht_f_ties : (0 ≤ f_ties ∧ f_ties ≤ 20) := by rw [← q_f_ties]; exact hT 106 106 (A_106 hw) 6
  have h1 : 1 ≤ f_ties ∧ f_ties ≤ 20 := (vc_X3_putAttributes_11 hq0 ht_f_ties hg1)
  refine mr_lvE (lv' := [(0, .ref 106), (1, iv p1), (2, iv p2)]) rfl ?_
  refine sv_aload_n (pc := 0) dX12_tieWord_0 rfl rfl ?_
  refine mr_iload_n (pc := 1) (z := p1) dX12_tieWord_1 rfl rfl ?_
  refine mr_iload_n (pc := 2) (z := p2) dX12_tieWord_2 rfl rfl ?_
  refine mr_cVP (pc := 3) (c_X12_tieOf_hit hw hT hp1 hp2 hg1 q_f_e0 q_f_e1 q_f_ties (vc_X12_tieWord_2 hq0 h1 hg1) (vc_X12_tieWord_3 hq1 ht_f_e0 ht_f_e1 hp1 hp2)) (gOk _ _ _ _ _) dX12_tieWord_3 (tX12_tieOf _ _ _ _ _) ⟨wV_X12_tieOf, wL_X12_tieOf⟩ wM_X12_43 (gCX12 _ _ _ _ _) rfl (A_106 hw) rfl ⟨le_t rfl, le_t rfl⟩ ⟨le_t rfl, le_t rfl⟩ rfl (le_t rfl) fun z51 h50 => ?_
  refine mr_istore_n (pc := 6) (lv' := [(3, iv z51), (0, .ref 106), (1, iv p1), (2, iv p2)]) dX12_tieWord_6 rfl (by decide) rfl ?_
  refine sv_aload_n (pc := 7) dX12_tieWord_7 rfl rfl ?_
  refine gf_X12_8 (pc := 8) dX12_tieWord_8 wF_X12_46 (A_106 hw) hT ?_
  refine mr_iload_n (pc := 11) (z := z51) dX12_tieWord_11 rfl rfl ?_
  refine la_111 (pc := 12) dX12_tieWord_12 (A_111 hw) hT (rIx (n := 20) h50.1 rfl) fun z52 q53 h54 => ?_
  refine mr_iconst (pc := 13) (z := 1) dX12_tieWord_13 ?_
  refine mr_icmp_ne (pc := 14) (tgt := 20) dX12_tieWord_14 (by decide) (r32 h54 rfl) (r32 (rR (x := 1)) rfl) (fun h55 => ?_) (fun h55 => ?_)
  · refine sv_aload_n (pc := 20) dX12_tieWord_20 rfl rfl ?_
    refine gf_X12_8 (pc := 21) dX12_tieWord_21 wF_X12_46 (A_106 hw) hT ?_
    refine mr_iload_n (pc := 24) (z := z51) dX12_tieWord_24 rfl rfl ?_
    refine lk_111 (pc := 25) dX12_tieWord_25 (A_111 hw) (rIx (n := 20) h50.1 rfl) q53 ?_
    refine mr_iconst (pc := 26) (z := 2) dX12_tieWord_26 ?_
    refine mr_icmp_ne (pc := 27) (tgt := 33) dX12_tieWord_27 (by decide) (r32 h54 rfl) (r32 (rR (x := 2)) rfl) (fun h56 => ?_) (fun h56 => ?_)
    · have h57 : 0 ≤ z52 ∧ z52 ≤ 1 := (vc_X9_partnerRole_1 h56 h55 h54)
      refine sv_aload_n (pc := 33) dX12_tieWord_33 rfl rfl ?_
      refine gf_X12_7 (pc := 34) dX12_tieWord_34 wF_X12_40 (A_106 hw) hT ?_
      refine mr_iconst (pc := 37) (z := 2) dX12_tieWord_37 ?_
      refine mr_iload_n (pc := 38) (z := z51) dX12_tieWord_38 rfl rfl ?_
      refine mr_imul (pc := 39) (x := 2) (y := z51) dX12_tieWord_39 ?_
      refine la_110 (pc := 40) dX12_tieWord_40 (A_110 hw) hT (rIx (n := 40) (rMulL (n := 2) (e := 0) (f := 38) h50.1 rfl) rfl) fun z58 q59 h60 => ?_
      refine mr_iload_n (pc := 41) (z := p1) dX12_tieWord_41 rfl rfl ?_
      refine mr_icmp_ne (pc := 42) (tgt := 50) dX12_tieWord_42 (by decide) (r32 h60 rfl) hp1 (fun h62 => ?_) (fun h62 => ?_)
      · refine mr_bipush (pc := 50) (z := 17) dX12_tieWord_50 (by decide) ?_
        exact mr_iretP dX12_tieWord_52 rfl (le_t rfl) (le_t rfl) ⟨(rW (c := 16) (d := 19) (rR (x := 17)) rfl), trivial⟩
      have h63 : 0 ≤ p1 ∧ p1 ≤ 9 := (vc_X12_tieWord_5 h62 hq1 ht_f_e0 ht_f_e1 hp1 hp2 h60)
      refine mr_bipush (pc := 45) (z := 16) dX12_tieWord_45 (by decide) ?_
      refine sv_goto (pc := 47) (tgt := 52) dX12_tieWord_47 (by decide) ?_
      exact mr_iretP dX12_tieWord_52 rfl (le_t rfl) (le_t rfl) ⟨(rW (c := 16) (d := 19) (rR (x := 16)) rfl), trivial⟩
    have h64 : 2 ≤ z52 ∧ z52 ≤ 2 := (vc_X9_partnerRole_3 h56 h55 h54)
    refine mr_bipush (pc := 30) (z := 19) dX12_tieWord_30 (by decide) ?_
    exact mr_iretP dX12_tieWord_32 rfl (le_t rfl) (le_t rfl) ⟨(rW (c := 16) (d := 19) (rR (x := 19)) rfl), trivial⟩
  have h65 : 1 ≤ z52 ∧ z52 ≤ 1 := (vc_X9_partnerRole_4 h55 h54)
  refine mr_bipush (pc := 17) (z := 18) dX12_tieWord_17 (by decide) ?_
  exact mr_iretP dX12_tieWord_19 rfl (le_t rfl) (le_t rfl) ⟨(rW (c := 16) (d := 19) (rR (x := 18)) rfl), trivial⟩
theorem vc_X12_isSo_7 {z611 : Int} (h0 : z611 = 22) (h1 : (-2147483648) ≤ z611 ∧ z611 ≤ 2147483647) : 22 ≤ z611 ∧ z611 ≤ 22 := by omega
theorem vc_X12_isSo_9 {z611 : Int} (h0 : z611 = 21) (h1 : (-2147483648) ≤ z611 ∧ z611 ≤ 2147483647) : 21 ≤ z611 ∧ z611 ≤ 21 := by omega
theorem vc_X12_isSo_14 {z443 : Int} (h0 : z443 = 14) (h1 : ¬ z443 = 6) (h2 : ¬ z443 = 8) (h3 : ¬ z443 = 9) (h4 : ¬ z443 = 10) (h5 : ¬ z443 = 11) (h6 : ¬ z443 = 12) (h7 : ¬ z443 = 13) (h8 : (-2147483648) ≤ z443 ∧ z443 ≤ 2147483647) : 14 ≤ z443 ∧ z443 ≤ 14 := by omega
theorem vc_X12_isSo_15 {z443 : Int} (h0 : z443 = 13) (h1 : ¬ z443 = 4) (h2 : ¬ z443 = 6) (h3 : ¬ z443 = 8) (h4 : ¬ z443 = 9) (h5 : ¬ z443 = 10) (h6 : ¬ z443 = 11) (h7 : ¬ z443 = 12) (h8 : (-2147483648) ≤ z443 ∧ z443 ≤ 2147483647) : 13 ≤ z443 ∧ z443 ≤ 13 := by omega
theorem vc_X12_isSo_16 {z443 : Int} (h0 : z443 = 12) (h1 : ¬ z443 = 4) (h2 : ¬ z443 = 6) (h3 : ¬ z443 = 8) (h4 : ¬ z443 = 9) (h5 : ¬ z443 = 10) (h6 : ¬ z443 = 11) (h7 : (-2147483648) ≤ z443 ∧ z443 ≤ 2147483647) : 12 ≤ z443 ∧ z443 ≤ 12 := by omega
theorem vc_X12_isSo_17 {z443 : Int} (h0 : z443 = 11) (h1 : ¬ z443 = 4) (h2 : ¬ z443 = 6) (h3 : ¬ z443 = 8) (h4 : ¬ z443 = 9) (h5 : ¬ z443 = 10) (h6 : (-2147483648) ≤ z443 ∧ z443 ≤ 2147483647) : 11 ≤ z443 ∧ z443 ≤ 11 := by omega
theorem vc_X12_isSo_18 {z443 : Int} (h0 : z443 = 10) (h1 : ¬ z443 = 4) (h2 : ¬ z443 = 6) (h3 : ¬ z443 = 8) (h4 : ¬ z443 = 9) (h5 : (-2147483648) ≤ z443 ∧ z443 ≤ 2147483647) : 10 ≤ z443 ∧ z443 ≤ 10 := by omega
theorem vc_X12_isSo_21 {z694 z695 : Int} (h0 : z694 = z695) (h1 : 16 ≤ z694 ∧ z694 ≤ 19) (h2 : (-2147483648) ≤ z695 ∧ z695 ≤ 2147483647) : 16 ≤ z695 ∧ z695 ≤ 19 := by omega
theorem vc_X12_isSo_22 {z443 : Int} (h0 : z443 = 9) (h1 : ¬ z443 = 4) (h2 : ¬ z443 = 6) (h3 : ¬ z443 = 8) (h4 : (-2147483648) ≤ z443 ∧ z443 ≤ 2147483647) : 9 ≤ z443 ∧ z443 ≤ 9 := by omega
theorem vc_X12_isSo_23 {z443 : Int} (h0 : z443 = 8) (h1 : ¬ z443 = 4) (h2 : ¬ z443 = 6) (h3 : (-2147483648) ≤ z443 ∧ z443 ≤ 2147483647) : 8 ≤ z443 ∧ z443 ≤ 8 := by omega
theorem vc_X12_isSo_24 {z443 : Int} (h0 : z443 = 6) (h1 : ¬ z443 = 4) (h2 : (-2147483648) ≤ z443 ∧ z443 ≤ 2147483647) : 6 ≤ z443 ∧ z443 ≤ 6 := by omega
theorem vc_X12_isSo_26 {z722 z725 : Int} (h0 : z722 < z725) (h1 : 0 ≤ z722 ∧ z722 ≤ 32) (h2 : (-2147483648) ≤ z725 ∧ z725 ≤ 2147483647) : 1 ≤ z725 ∧ z725 ≤ 2147483647 := by omega
theorem vc_X12_isSo_27 {z722 z725 : Int} (h0 : z725 ≤ z722) (h1 : 0 ≤ z722 ∧ z722 ≤ 32) (h2 : (-2147483648) ≤ z725 ∧ z725 ≤ 2147483647) : (-2147483648) ≤ z725 ∧ z725 ≤ 32 := by omega
theorem vc_X12_isSo_30 {z722 z725 z772 : Int} (h0 : z772 < z722) (h1 : z725 ≤ z722) (h2 : 0 ≤ z722 ∧ z722 ≤ 32) (h3 : (-2147483648) ≤ z725 ∧ z725 ≤ 32) (h4 : (-2147483648) ≤ z772 ∧ z772 ≤ 2147483647) : (-2147483648) ≤ z772 ∧ z772 ≤ 31 := by omega
theorem vc_X12_isSo_31 {z722 z725 z772 : Int} (h0 : z722 ≤ z772) (h1 : z725 ≤ z722) (h2 : 0 ≤ z722 ∧ z722 ≤ 32) (h3 : (-2147483648) ≤ z725 ∧ z725 ≤ 32) (h4 : (-2147483648) ≤ z772 ∧ z772 ≤ 2147483647) : 0 ≤ z772 ∧ z772 ≤ 2147483647 := by omega
theorem vc_X12_through_5 {f_pol p1 : Int} (h0 : p1 = -99999999 ∨ (0 ≤ p1 ∧ p1 < f_pol)) (h1 : ¬ p1 = (-99999999)) (h2 : 0 ≤ f_pol ∧ f_pol ≤ 12) (h3 : (-2147483648) ≤ p1 ∧ p1 ≤ 2147483647) : 0 ≤ p1 ∧ p1 ≤ 11 := by omega
theorem vc_X12_through_6  : (0 : Int) ≤ ((0 : Int) : Int) := by omega
theorem vc_X12_through_7 {f_pol p1 : Int} (h0 : p1 = -99999999 ∨ (0 ≤ p1 ∧ p1 < f_pol)) (h1 : ¬ p1 = (-99999999)) (h2 : 0 ≤ f_pol ∧ f_pol ≤ 12) (h3 : (-2147483648) ≤ p1 ∧ p1 ≤ 2147483647) : 0 ≤ p1 ∧ p1 < f_pol ∧ p1 + (0 : Int) ≤ 11 := by omega
theorem vc_X12_through_8 {z17646 : Int} (h0 : 0 ≤ z17646 ∧ z17646 ≤ 30) : 0 ≤ z17646 := by omega
theorem vc_X12_through_9 {f_R z31894 z31895 : Int} (h0 : (((100 * (501 - z31894)) + (34 * z31895)) - f_R) < ((0 : Nat) : Int)) (h1 : (-1) ≤ f_R ∧ f_R ≤ 30) (h2 : 0 ≤ z31894 ∧ z31894 ≤ 500) (h3 : 0 ≤ z31895 ∧ z31895 ≤ 12) : False := by omega
theorem vc_X12_through_10 {z31895 : Int} (h0 : z31895 ≤ 0) (h1 : 0 ≤ z31895 ∧ z31895 ≤ 12) : 0 ≤ z31895 ∧ z31895 ≤ 0 := by omega
theorem vc_X12_through_12 {f_x f_y : Int} (h0 : 0 ≤ f_x) (h1 : f_y = f_x) (h2 : 0 ≤ f_x ∧ f_x ≤ 9) (h3 : (-1) ≤ f_y ∧ f_y ≤ 9) : f_y = f_x := by omega
theorem vc_X12_through_13 {z31895 : Int} (h0 : 0 < z31895) (h1 : 0 ≤ z31895 ∧ z31895 ≤ 12) : 1 ≤ z31895 ∧ z31895 ≤ 12 := by omega
theorem vc_X12_through_14 {z31895 : Int} (h0 : 0 < z31895) (h1 : 1 ≤ z31895 ∧ z31895 ≤ 12) : 0 ≤ (z31895 - 1) ∧ (z31895 - 1) < z31895 := by omega
theorem vc_X12_through_15 {f_pol p1 z31895 z31916 : Int} (h0 : 0 < z31895) (h1 : 0 ≤ z31916 ∧ z31916 < f_pol ∧ z31916 + (z31895 - 1) ≤ 11) (h2 : p1 = -99999999 ∨ (0 ≤ p1 ∧ p1 < f_pol)) (h3 : 0 ≤ f_pol ∧ f_pol ≤ 12) (h4 : (-2147483648) ≤ p1 ∧ p1 ≤ 2147483647) (h5 : 1 ≤ z31895 ∧ z31895 ≤ 12) (h6 : 0 ≤ z31916 ∧ z31916 ≤ 11) : 0 ≤ (z31895 - 1) ∧ (z31895 - 1) < z31895 := by omega
theorem vc_X12_through_16 {f_pol p1 z31895 z31916 : Int} (h0 : 0 < z31895) (h1 : 0 ≤ z31916 ∧ z31916 < f_pol ∧ z31916 + (z31895 - 1) ≤ 11) (h2 : p1 = -99999999 ∨ (0 ≤ p1 ∧ p1 < f_pol)) (h3 : 0 ≤ f_pol ∧ f_pol ≤ 12) (h4 : (-2147483648) ≤ p1 ∧ p1 ≤ 2147483647) (h5 : 1 ≤ z31895 ∧ z31895 ≤ 12) (h6 : 0 ≤ z31916 ∧ z31916 ≤ 11) : ¬ z31895 = 0 := by omega
theorem vc_X12_through_17 {f_pol p1 z31895 z31916 : Int} (h0 : 0 < z31895) (h1 : 0 ≤ z31916 ∧ z31916 < f_pol ∧ z31916 + (z31895 - 1) ≤ 11) (h2 : p1 = -99999999 ∨ (0 ≤ p1 ∧ p1 < f_pol)) (h3 : 0 ≤ f_pol ∧ f_pol ≤ 12) (h4 : (-2147483648) ≤ p1 ∧ p1 ≤ 2147483647) (h5 : 1 ≤ z31895 ∧ z31895 ≤ 12) (h6 : 0 ≤ z31916 ∧ z31916 ≤ 11) : (z31895 - 1) = z31895 - 1 := by omega
theorem vc_X12_through_18 {f_R z31920 z31923 : Int} (h0 : z31920 < z31923) (h1 : z31920 < z31923 ∧ z31920 = f_R) (h2 : (-1) ≤ f_R ∧ f_R ≤ 30) (h3 : (-1) ≤ z31920 ∧ z31920 ≤ 30) (h4 : 0 ≤ z31923 ∧ z31923 ≤ 30) : (-1) ≤ z31920 ∧ z31920 ≤ 29 := by omega
theorem vc_X12_through_19 {f_R z31920 z31923 : Int} (h0 : z31920 < 0) (h1 : z31920 < z31923 ∧ z31920 = f_R) (h2 : z31920 < z31923) (h3 : (-1) ≤ f_R ∧ f_R ≤ 30) (h4 : (-1) ≤ z31920 ∧ z31920 ≤ 29) (h5 : 0 ≤ z31923 ∧ z31923 ≤ 30) : (-1) ≤ z31920 ∧ z31920 ≤ (-1) := by omega
theorem vc_X12_through_20 {f_R z31920 z31923 z33600 z33601 : Int} (h0 : (70 - ((2 * z33601) + z33600)) < ((0 : Nat) : Int)) (h1 : z33600 = 0 ∨ z33601 < z31923) (h2 : f_R < z33601) (h3 : z31920 < z31923 ∧ z31920 = f_R) (h4 : z31920 < z31923) (h5 : (-1) ≤ f_R ∧ f_R ≤ 30) (h6 : (-1) ≤ z31920 ∧ z31920 ≤ (-1)) (h7 : 0 ≤ z31923 ∧ z31923 ≤ 30) (h8 : 0 ≤ z33600 ∧ z33600 ≤ 1) (h9 : 0 ≤ z33601 ∧ z33601 ≤ 30) : False := by omega
theorem vc_X12_through_21 {z31923 z33600 z33601 : Int} (h0 : ¬ z33600 = 0) (h1 : z33600 = 0 ∨ z33601 < z31923) (h2 : 0 ≤ z31923 ∧ z31923 ≤ 30) (h3 : 0 ≤ z33600 ∧ z33600 ≤ 1) (h4 : 0 ≤ z33601 ∧ z33601 ≤ 30) : 1 ≤ z33600 ∧ z33600 ≤ 1 := by omega
theorem vc_X12_through_22 {f_pol p1 z31895 z31916 : Int} (h0 : p1 = -99999999 ∨ (0 ≤ p1 ∧ p1 < f_pol)) (h1 : 0 ≤ z31916 ∧ z31916 < f_pol ∧ z31916 + (z31895 - 1) ≤ 11) (h2 : ¬ p1 = (-99999999)) (h3 : 0 < z31895) (h4 : 0 ≤ f_pol ∧ f_pol ≤ 12) (h5 : (-2147483648) ≤ p1 ∧ p1 ≤ 2147483647) (h6 : 1 ≤ z31895 ∧ z31895 ≤ 12) (h7 : 0 ≤ z31916 ∧ z31916 ≤ 11) : 0 ≤ z31916 ∧ z31916 < f_pol := by omega
theorem vc_X12_through_23 {f_R z31920 z31923 z33600 z33601 : Int} (h0 : z31920 < z31923 ∧ z31920 = f_R) (h1 : z31920 < z31923) (h2 : z33600 = 0 ∨ z33601 < z31923) (h3 : f_R < z33601) (h4 : z31920 < 0) (h5 : ¬ z33600 = 0) (h6 : (-1) ≤ f_R ∧ f_R ≤ 30) (h7 : (-1) ≤ z31920 ∧ z31920 ≤ (-1)) (h8 : 0 ≤ z31923 ∧ z31923 ≤ 30) (h9 : 1 ≤ z33600 ∧ z33600 ≤ 1) (h10 : 0 ≤ z33601 ∧ z33601 ≤ 30) : 0 ≤ z33601 ∧ z33601 < z31923 := by omega
theorem vc_X12_through_24 {f_R f_pol p1 z31895 z31916 z31920 z31923 z33600 z33601 : Int} (h0 : 0 ≤ z31916 ∧ z31916 < f_pol ∧ z31916 + (z31895 - 1) ≤ 11) (h1 : z33600 = 0 ∨ z33601 < z31923) (h2 : f_R < z33601) (h3 : p1 = -99999999 ∨ (0 ≤ p1 ∧ p1 < f_pol)) (h4 : 0 < z31895) (h5 : z31920 < z31923 ∧ z31920 = f_R) (h6 : z31920 < z31923) (h7 : ¬ z33600 = 0) (h8 : (-1) ≤ f_R ∧ f_R ≤ 30) (h9 : 0 ≤ f_pol ∧ f_pol ≤ 12) (h10 : (-2147483648) ≤ p1 ∧ p1 ≤ 2147483647) (h11 : 1 ≤ z31895 ∧ z31895 ≤ 12) (h12 : 0 ≤ z31916 ∧ z31916 ≤ 11) (h13 : (-1) ≤ z31920 ∧ z31920 ≤ (-1)) (h14 : 0 ≤ z31923 ∧ z31923 ≤ 30) (h15 : 1 ≤ z33600 ∧ z33600 ≤ 1) (h16 : 0 ≤ z33601 ∧ z33601 ≤ 30) : ((31 * z31916) + z33601) = 31 * z31916 + z33601 := by omega
theorem vc_X12_through_25 {N f_R f_pol p1 z31894 z31895 z31916 z31920 z31923 z33600 z33601 : Int} (h0 : (((100 * (501 - z31894)) + (34 * z31895)) - f_R) < N + 1) (h1 : 0 < z31895) (h2 : 0 ≤ z31916 ∧ z31916 < f_pol ∧ z31916 + (z31895 - 1) ≤ 11) (h3 : z31920 < z31923 ∧ z31920 = f_R) (h4 : z33600 = 0 ∨ z33601 < z31923) (h5 : f_R < z33601) (h6 : p1 = -99999999 ∨ (0 ≤ p1 ∧ p1 < f_pol)) (h7 : z31920 < z31923) (h8 : z31920 < 0) (h9 : ¬ z33600 = 0) (h10 : (-1) ≤ f_R ∧ f_R ≤ 30) (h11 : 0 ≤ f_pol ∧ f_pol ≤ 12) (h12 : (-2147483648) ≤ p1 ∧ p1 ≤ 2147483647) (h13 : 0 ≤ z31894 ∧ z31894 ≤ 500) (h14 : 1 ≤ z31895 ∧ z31895 ≤ 12) (h15 : 0 ≤ z31916 ∧ z31916 ≤ 11) (h16 : (-1) ≤ z31920 ∧ z31920 ≤ (-1)) (h17 : 0 ≤ z31923 ∧ z31923 ≤ 30) (h18 : 1 ≤ z33600 ∧ z33600 ≤ 1) (h19 : 0 ≤ z33601 ∧ z33601 ≤ 30) : (((100 * (501 - z31894)) + (34 * z31895)) - z33601) < N := by omega
theorem vc_X12_through_26 {f_pol p1 z31895 z31916 : Int} (h0 : 0 < z31895) (h1 : 0 ≤ z31916 ∧ z31916 < f_pol ∧ z31916 + (z31895 - 1) ≤ 11) (h2 : p1 = -99999999 ∨ (0 ≤ p1 ∧ p1 < f_pol)) (h3 : 0 ≤ f_pol ∧ f_pol ≤ 12) (h4 : (-2147483648) ≤ p1 ∧ p1 ≤ 2147483647) (h5 : 1 ≤ z31895 ∧ z31895 ≤ 12) (h6 : 0 ≤ z31916 ∧ z31916 ≤ 11) : z31895 ≤ z31895 := by omega
theorem vc_X12_through_27 {z31923 z33600 z33601 : Int} (h0 : z33600 = 0) (h1 : z33600 = 0 ∨ z33601 < z31923) (h2 : 0 ≤ z31923 ∧ z31923 ≤ 30) (h3 : 0 ≤ z33600 ∧ z33600 ≤ 1) (h4 : 0 ≤ z33601 ∧ z33601 ≤ 30) : 0 ≤ z33600 ∧ z33600 ≤ 0 := by omega
theorem vc_X12_through_28 {f_pol z31895 z31916 : Int} (h0 : (z31895 + (-1)) = 0) (h1 : 0 < z31895) (h2 : 0 ≤ z31916 ∧ z31916 < f_pol ∧ z31916 + (z31895 - 1) ≤ 11) (h3 : 0 ≤ f_pol ∧ f_pol ≤ 12) (h4 : 1 ≤ z31895 ∧ z31895 ≤ 12) (h5 : 0 ≤ z31916 ∧ z31916 ≤ 11) : 1 ≤ z31895 ∧ z31895 ≤ 1 := by omega
theorem vc_X12_through_29 {N f_R f_pol p1 z31894 z31895 z31916 z31920 z31923 z33600 z33601 : Int} (h0 : (((100 * (501 - z31894)) + (34 * z31895)) - f_R) < N + 1) (h1 : 0 < z31895) (h2 : 0 ≤ z31916 ∧ z31916 < f_pol ∧ z31916 + (z31895 - 1) ≤ 11) (h3 : z31920 < z31923 ∧ z31920 = f_R) (h4 : f_R < z33601) (h5 : (z31895 + (-1)) = 0) (h6 : p1 = -99999999 ∨ (0 ≤ p1 ∧ p1 < f_pol)) (h7 : z31920 < z31923) (h8 : z31920 < 0) (h9 : z33600 = 0 ∨ z33601 < z31923) (h10 : (-1) ≤ f_R ∧ f_R ≤ 30) (h11 : 0 ≤ f_pol ∧ f_pol ≤ 12) (h12 : (-2147483648) ≤ p1 ∧ p1 ≤ 2147483647) (h13 : 0 ≤ z31894 ∧ z31894 ≤ 500) (h14 : 1 ≤ z31895 ∧ z31895 ≤ 1) (h15 : 0 ≤ z31916 ∧ z31916 ≤ 11) (h16 : (-1) ≤ z31920 ∧ z31920 ≤ (-1)) (h17 : 0 ≤ z31923 ∧ z31923 ≤ 30) (h18 : 0 ≤ z33600 ∧ z33600 ≤ 0) (h19 : 0 ≤ z33601 ∧ z33601 ≤ 30) : (((100 * (501 - z31894)) + (34 * (z31895 + (-1)))) - 0) < N := by omega
theorem vc_X12_through_30 {f_pol p1 z31895 z31916 : Int} (h0 : 0 < z31895) (h1 : 0 ≤ z31916 ∧ z31916 < f_pol ∧ z31916 + (z31895 - 1) ≤ 11) (h2 : (z31895 + (-1)) = 0) (h3 : p1 = -99999999 ∨ (0 ≤ p1 ∧ p1 < f_pol)) (h4 : 0 ≤ f_pol ∧ f_pol ≤ 12) (h5 : (-2147483648) ≤ p1 ∧ p1 ≤ 2147483647) (h6 : 1 ≤ z31895 ∧ z31895 ≤ 1) (h7 : 0 ≤ z31916 ∧ z31916 ≤ 11) : (z31895 + (-1)) ≤ z31895 := by omega
theorem vc_X12_through_31 {f_pol p1 z31895 z31916 : Int} (h0 : 0 < z31895) (h1 : 0 ≤ z31916 ∧ z31916 < f_pol ∧ z31916 + (z31895 - 1) ≤ 11) (h2 : (z31895 + (-1)) = 0) (h3 : p1 = -99999999 ∨ (0 ≤ p1 ∧ p1 < f_pol)) (h4 : 0 ≤ f_pol ∧ f_pol ≤ 12) (h5 : (-2147483648) ≤ p1 ∧ p1 ≤ 2147483647) (h6 : 1 ≤ z31895 ∧ z31895 ≤ 1) (h7 : 0 ≤ z31916 ∧ z31916 ≤ 11) : (z31895 + (-1)) = 0 := by omega
theorem vc_X12_through_32 {f_pol z31895 z31916 : Int} (h0 : ¬ (z31895 + (-1)) = 0) (h1 : 0 < z31895) (h2 : 0 ≤ z31916 ∧ z31916 < f_pol ∧ z31916 + (z31895 - 1) ≤ 11) (h3 : 0 ≤ f_pol ∧ f_pol ≤ 12) (h4 : 1 ≤ z31895 ∧ z31895 ≤ 12) (h5 : 0 ≤ z31916 ∧ z31916 ≤ 11) : 2 ≤ z31895 ∧ z31895 ≤ 12 := by omega
theorem vc_X12_through_33 {N f_R f_pol p1 z31894 z31895 z31916 z31920 z31923 z33600 z33601 z33672 : Int} (h0 : (((100 * (501 - z31894)) + (34 * z31895)) - f_R) < N + 1) (h1 : 0 < z31895) (h2 : 0 ≤ z31916 ∧ z31916 < f_pol ∧ z31916 + (z31895 - 1) ≤ 11) (h3 : z31920 < z31923 ∧ z31920 = f_R) (h4 : f_R < z33601) (h5 : ¬ (z31895 + (-1)) = 0) (h6 : p1 = -99999999 ∨ (0 ≤ p1 ∧ p1 < f_pol)) (h7 : z31920 < z31923) (h8 : z31920 < 0) (h9 : z33600 = 0 ∨ z33601 < z31923) (h10 : (-1) ≤ f_R ∧ f_R ≤ 30) (h11 : 0 ≤ f_pol ∧ f_pol ≤ 12) (h12 : (-2147483648) ≤ p1 ∧ p1 ≤ 2147483647) (h13 : 0 ≤ z31894 ∧ z31894 ≤ 500) (h14 : 2 ≤ z31895 ∧ z31895 ≤ 12) (h15 : 0 ≤ z31916 ∧ z31916 ≤ 11) (h16 : (-1) ≤ z31920 ∧ z31920 ≤ (-1)) (h17 : 0 ≤ z31923 ∧ z31923 ≤ 30) (h18 : 0 ≤ z33600 ∧ z33600 ≤ 0) (h19 : 0 ≤ z33601 ∧ z33601 ≤ 30) (h20 : (-1) ≤ z33672 ∧ z33672 ≤ 30) : (((100 * (501 - z31894)) + (34 * (z31895 + (-1)))) - z33672) < N := by omega
theorem vc_X12_through_34 {f_pol p1 z31895 z31916 : Int} (h0 : 0 < z31895) (h1 : 0 ≤ z31916 ∧ z31916 < f_pol ∧ z31916 + (z31895 - 1) ≤ 11) (h2 : ¬ (z31895 + (-1)) = 0) (h3 : p1 = -99999999 ∨ (0 ≤ p1 ∧ p1 < f_pol)) (h4 : 0 ≤ f_pol ∧ f_pol ≤ 12) (h5 : (-2147483648) ≤ p1 ∧ p1 ≤ 2147483647) (h6 : 2 ≤ z31895 ∧ z31895 ≤ 12) (h7 : 0 ≤ z31916 ∧ z31916 ≤ 11) : (z31895 + (-1)) ≤ z31895 := by omega
theorem vc_X12_through_35 {f_R z31920 z31923 z33600 z33601 : Int} (h0 : z33601 < z31923) (h1 : z31920 < z31923 ∧ z31920 = f_R) (h2 : z31920 < z31923) (h3 : z33600 = 0 ∨ z33601 < z31923) (h4 : f_R < z33601) (h5 : (-1) ≤ f_R ∧ f_R ≤ 30) (h6 : (-1) ≤ z31920 ∧ z31920 ≤ (-1)) (h7 : 0 ≤ z31923 ∧ z31923 ≤ 30) (h8 : 0 ≤ z33600 ∧ z33600 ≤ 1) (h9 : 0 ≤ z33601 ∧ z33601 ≤ 30) : 0 ≤ z33601 ∧ z33601 ≤ 29 := by omega
theorem vc_X12_through_36 {f_R z31920 z31923 z33600 z33601 : Int} (h0 : z33601 < z31923) (h1 : z31920 < z31923 ∧ z31920 = f_R) (h2 : z31920 < z31923) (h3 : z33600 = 0 ∨ z33601 < z31923) (h4 : f_R < z33601) (h5 : (-1) ≤ f_R ∧ f_R ≤ 30) (h6 : (-1) ≤ z31920 ∧ z31920 ≤ (-1)) (h7 : 0 ≤ z31923 ∧ z31923 ≤ 30) (h8 : 0 ≤ z33600 ∧ z33600 ≤ 1) (h9 : 0 ≤ z33601 ∧ z33601 ≤ 29) : 1 ≤ z31923 ∧ z31923 ≤ 30 := by omega
theorem vc_X12_through_37 {z31923 z33600 z33601 : Int} (h0 : ¬ z33600 = 0) (h1 : z33600 = 0 ∨ z33601 < z31923) (h2 : 1 ≤ z31923 ∧ z31923 ≤ 30) (h3 : 0 ≤ z33600 ∧ z33600 ≤ 1) (h4 : 0 ≤ z33601 ∧ z33601 ≤ 29) : 1 ≤ z33600 ∧ z33600 ≤ 1 := by omega
theorem vc_X12_through_38 {z31923 z33600 z33601 : Int} (h0 : z33600 = 0) (h1 : z33600 = 0 ∨ z33601 < z31923) (h2 : 1 ≤ z31923 ∧ z31923 ≤ 30) (h3 : 0 ≤ z33600 ∧ z33600 ≤ 1) (h4 : 0 ≤ z33601 ∧ z33601 ≤ 29) : 0 ≤ z33600 ∧ z33600 ≤ 0 := by omega
theorem vc_X12_through_39 {z33731 : Int} (h0 : (301 - z33731) < ((0 : Nat) : Int)) (h1 : 0 ≤ z33731 ∧ z33731 ≤ 300) : False := by omega
theorem vc_X12_through_41 {f_R z31920 z31923 z33600 z33601 z33732 : Int} (h0 : z31920 < z31923 ∧ z31920 = f_R) (h1 : z31920 < z31923) (h2 : z33600 = 0 ∨ z33601 < z31923) (h3 : f_R < z33601) (h4 : z33601 < z31923) (h5 : ¬ z33732 = 0) (h6 : z31920 < 0) (h7 : z33600 = 0) (h8 : (-1) ≤ f_R ∧ f_R ≤ 30) (h9 : (-1) ≤ z31920 ∧ z31920 ≤ (-1)) (h10 : 1 ≤ z31923 ∧ z31923 ≤ 30) (h11 : 0 ≤ z33600 ∧ z33600 ≤ 0) (h12 : 0 ≤ z33601 ∧ z33601 ≤ 29) (h13 : 1 ≤ z33732 ∧ z33732 ≤ 1) : z33732 = 0 ∨ z33601 < z31923 := by omega
theorem vc_X12_through_42 {f_R z31920 z31923 z33600 z33601 : Int} (h0 : z31920 < z31923 ∧ z31920 = f_R) (h1 : z33600 = 0 ∨ z33601 < z31923) (h2 : f_R < z33601) (h3 : z33601 < z31923) (h4 : z31920 < z31923) (h5 : z31920 < 0) (h6 : z33600 = 0) (h7 : (-1) ≤ f_R ∧ f_R ≤ 30) (h8 : (-1) ≤ z31920 ∧ z31920 ≤ (-1)) (h9 : 1 ≤ z31923 ∧ z31923 ≤ 30) (h10 : 0 ≤ z33600 ∧ z33600 ≤ 0) (h11 : 0 ≤ z33601 ∧ z33601 ≤ 29) : f_R < z33601 := by omega
theorem vc_X12_through_43 {N f_R z31920 z31923 z33600 z33601 z33732 : Int} (h0 : (70 - ((2 * z33601) + z33600)) < N + 1) (h1 : z33600 = 0 ∨ z33601 < z31923) (h2 : f_R < z33601) (h3 : z33601 < z31923) (h4 : z33600 = 0) (h5 : ¬ z33732 = 0) (h6 : z31920 < z31923 ∧ z31920 = f_R) (h7 : z31920 < z31923) (h8 : (-1) ≤ f_R ∧ f_R ≤ 30) (h9 : (-1) ≤ z31920 ∧ z31920 ≤ (-1)) (h10 : 1 ≤ z31923 ∧ z31923 ≤ 30) (h11 : 0 ≤ z33600 ∧ z33600 ≤ 0) (h12 : 0 ≤ z33601 ∧ z33601 ≤ 29) (h13 : 1 ≤ z33732 ∧ z33732 ≤ 1) : (70 - ((2 * z33601) + z33732)) < N := by omega
theorem vc_X12_through_45 {f_R z31920 z31923 z33600 z33601 z33732 : Int} (h0 : z31920 < z31923 ∧ z31920 = f_R) (h1 : z31920 < z31923) (h2 : z33600 = 0 ∨ z33601 < z31923) (h3 : f_R < z33601) (h4 : z33601 < z31923) (h5 : z33732 = 0) (h6 : z31920 < 0) (h7 : z33600 = 0) (h8 : (-1) ≤ f_R ∧ f_R ≤ 30) (h9 : (-1) ≤ z31920 ∧ z31920 ≤ (-1)) (h10 : 1 ≤ z31923 ∧ z31923 ≤ 30) (h11 : 0 ≤ z33600 ∧ z33600 ≤ 0) (h12 : 0 ≤ z33601 ∧ z33601 ≤ 29) (h13 : 0 ≤ z33732 ∧ z33732 ≤ 0) : z33732 = 0 ∨ (z33601 + 1) < z31923 := by omega
theorem vc_X12_through_46 {f_R z31920 z31923 z33600 z33601 : Int} (h0 : z31920 < z31923 ∧ z31920 = f_R) (h1 : z33600 = 0 ∨ z33601 < z31923) (h2 : f_R < z33601) (h3 : z33601 < z31923) (h4 : z31920 < z31923) (h5 : z31920 < 0) (h6 : z33600 = 0) (h7 : (-1) ≤ f_R ∧ f_R ≤ 30) (h8 : (-1) ≤ z31920 ∧ z31920 ≤ (-1)) (h9 : 1 ≤ z31923 ∧ z31923 ≤ 30) (h10 : 0 ≤ z33600 ∧ z33600 ≤ 0) (h11 : 0 ≤ z33601 ∧ z33601 ≤ 29) : f_R < (z33601 + 1) := by omega
theorem vc_X12_through_47 {N f_R z31920 z31923 z33600 z33601 z33732 : Int} (h0 : (70 - ((2 * z33601) + z33600)) < N + 1) (h1 : z33600 = 0 ∨ z33601 < z31923) (h2 : f_R < z33601) (h3 : z33601 < z31923) (h4 : z33600 = 0) (h5 : z33732 = 0) (h6 : z31920 < z31923 ∧ z31920 = f_R) (h7 : z31920 < z31923) (h8 : (-1) ≤ f_R ∧ f_R ≤ 30) (h9 : (-1) ≤ z31920 ∧ z31920 ≤ (-1)) (h10 : 1 ≤ z31923 ∧ z31923 ≤ 30) (h11 : 0 ≤ z33600 ∧ z33600 ≤ 0) (h12 : 0 ≤ z33601 ∧ z33601 ≤ 29) (h13 : 0 ≤ z33732 ∧ z33732 ≤ 0) : (70 - ((2 * (z33601 + 1)) + z33732)) < N := by omega
theorem vc_X12_through_48 {z33731 z33743 : Int} (h0 : z33731 < z33743) (h1 : 0 ≤ z33731 ∧ z33731 ≤ 300) (h2 : 0 ≤ z33743 ∧ z33743 ≤ 300) : 0 ≤ z33731 ∧ z33731 ≤ 299 := by omega
theorem vc_X12_through_49 {z33731 z33743 : Int} (h0 : z33731 < z33743) (h1 : 0 ≤ z33731 ∧ z33731 ≤ 299) (h2 : 0 ≤ z33743 ∧ z33743 ≤ 300) : 1 ≤ z33743 ∧ z33743 ≤ 300 := by omega
theorem vc_X12_through_53 {f_x f_y : Int} (h0 : f_y = f_x) (h1 : 0 ≤ f_x) (h2 : 0 ≤ f_x ∧ f_x ≤ 9) (h3 : (-1) ≤ f_y ∧ f_y ≤ 9) : 0 ≤ f_y := by omega
theorem vc_X12_through_54 {N z33731 z33743 : Int} (h0 : (301 - z33731) < N + 1) (h1 : z33731 < z33743) (h2 : 0 ≤ z33731 ∧ z33731 ≤ 299) (h3 : 1 ≤ z33743 ∧ z33743 ≤ 300) : (301 - (z33731 + 1)) < N := by omega
theorem vc_X12_through_55 {z33681 : Int} (h0 : 0 ≤ z33681 ∧ z33681 ≤ 300) : (301 - z33681) < ((302 : Nat) : Int) := by omega
theorem vc_X12_through_56 {f_R z31920 z31923 : Int} (h0 : z31920 < z31923 ∧ z31920 = f_R) (h1 : z31920 < z31923) (h2 : z31920 < 0) (h3 : (-1) ≤ f_R ∧ f_R ≤ 30) (h4 : (-1) ≤ z31920 ∧ z31920 ≤ (-1)) (h5 : 0 ≤ z31923 ∧ z31923 ≤ 30) : (0 : Int) = 0 ∨ (z31920 + 1) < z31923 := by omega
theorem vc_X12_through_57 {f_R z31920 z31923 : Int} (h0 : z31920 < z31923 ∧ z31920 = f_R) (h1 : z31920 < z31923) (h2 : z31920 < 0) (h3 : (-1) ≤ f_R ∧ f_R ≤ 30) (h4 : (-1) ≤ z31920 ∧ z31920 ≤ (-1)) (h5 : 0 ≤ z31923 ∧ z31923 ≤ 30) : f_R < (z31920 + 1) := by omega
theorem vc_X12_through_58 {f_R z31920 z31923 : Int} (h0 : z31920 < z31923 ∧ z31920 = f_R) (h1 : z31920 < z31923) (h2 : z31920 < 0) (h3 : (-1) ≤ f_R ∧ f_R ≤ 30) (h4 : (-1) ≤ z31920 ∧ z31920 ≤ (-1)) (h5 : 0 ≤ z31923 ∧ z31923 ≤ 30) : (70 - ((2 * (z31920 + 1)) + 0)) < ((71 : Nat) : Int) := by omega
theorem vc_X12_through_59 {f_R z31920 z31923 : Int} (h0 : 0 ≤ z31920) (h1 : z31920 < z31923 ∧ z31920 = f_R) (h2 : z31920 < z31923) (h3 : (-1) ≤ f_R ∧ f_R ≤ 30) (h4 : (-1) ≤ z31920 ∧ z31920 ≤ 29) (h5 : 0 ≤ z31923 ∧ z31923 ≤ 30) : 0 ≤ z31920 ∧ z31920 ≤ 29 := by omega
theorem vc_X12_through_60 {f_R f_pol p1 z31895 z31916 z31920 z31923 : Int} (h0 : 0 ≤ z31916 ∧ z31916 < f_pol ∧ z31916 + (z31895 - 1) ≤ 11) (h1 : z31920 < z31923 ∧ z31920 = f_R) (h2 : z31920 < z31923) (h3 : 0 ≤ z31920) (h4 : p1 = -99999999 ∨ (0 ≤ p1 ∧ p1 < f_pol)) (h5 : 0 < z31895) (h6 : (-1) ≤ f_R ∧ f_R ≤ 30) (h7 : 0 ≤ f_pol ∧ f_pol ≤ 12) (h8 : (-2147483648) ≤ p1 ∧ p1 ≤ 2147483647) (h9 : 1 ≤ z31895 ∧ z31895 ≤ 12) (h10 : 0 ≤ z31916 ∧ z31916 ≤ 11) (h11 : 0 ≤ z31920 ∧ z31920 ≤ 29) (h12 : 0 ≤ z31923 ∧ z31923 ≤ 30) : (((31 * z31916) + z31920) + 1) = 31 * z31916 + z31920 + 1 := by omega
theorem vc_X12_through_61 {f_pol p1 z31895 z31916 : Int} (h0 : 0 ≤ z31916 ∧ z31916 < f_pol ∧ z31916 + (z31895 - 1) ≤ 11) (h1 : p1 = -99999999 ∨ (0 ≤ p1 ∧ p1 < f_pol)) (h2 : 0 < z31895) (h3 : 0 ≤ f_pol ∧ f_pol ≤ 12) (h4 : (-2147483648) ≤ p1 ∧ p1 ≤ 2147483647) (h5 : 1 ≤ z31895 ∧ z31895 ≤ 12) (h6 : 0 ≤ z31916 ∧ z31916 ≤ 11) : 0 ≤ z31916 := by omega
theorem vc_X12_through_62 {f_R z31920 z31923 : Int} (h0 : z31920 < z31923 ∧ z31920 = f_R) (h1 : z31920 < z31923) (h2 : 0 ≤ z31920) (h3 : (-1) ≤ f_R ∧ f_R ≤ 30) (h4 : 0 ≤ z31920 ∧ z31920 ≤ 29) (h5 : 0 ≤ z31923 ∧ z31923 ≤ 30) : 0 ≤ z31920 := by omega
theorem vc_X12_through_63 {f_R z31920 z31923 : Int} (h0 : z31920 < z31923 ∧ z31920 = f_R) (h1 : z31920 < z31923) (h2 : 0 ≤ z31920) (h3 : (-1) ≤ f_R ∧ f_R ≤ 30) (h4 : 0 ≤ z31920 ∧ z31920 ≤ 29) (h5 : 0 ≤ z31923 ∧ z31923 ≤ 30) : 0 ≤ z31920 ∧ z31920 < z31923 := by omega
theorem vc_X12_through_64 {z31926 z33777 z33780 : Int} (h0 : z33777 ≤ z33780 ∧ z33780 ≤ z31926) (h1 : ¬ z33777 = z33780) (h2 : 0 ≤ z31926 ∧ z31926 ≤ 300) (h3 : 0 ≤ z33777 ∧ z33777 ≤ 300) (h4 : 0 ≤ z33780 ∧ z33780 ≤ 300) : 0 ≤ (z33777 + 1) ∧ (z33777 + 1) ≤ 300 := by omega
theorem vc_X12_through_65 {z31926 z33777 z33780 : Int} (h0 : z33777 ≤ z33780 ∧ z33780 ≤ z31926) (h1 : ¬ z33777 = z33780) (h2 : 0 ≤ z31926 ∧ z31926 ≤ 300) (h3 : 0 ≤ z33777 ∧ z33777 ≤ 300) (h4 : 0 ≤ z33780 ∧ z33780 ≤ 300) : (z33777 + 1) ≤ z33780 := by omega
theorem vc_X12_through_66 {z31894 : Int} (h0 : (z31894 + 1) ≤ 500) (h1 : 0 ≤ z31894 ∧ z31894 ≤ 500) : 0 ≤ z31894 ∧ z31894 ≤ 499 := by omega
theorem vc_X12_through_67 {p2 : Int} (h0 : 0 ≤ p2 ∧ p2 ≤ 2099) : (40 * p2) < ((40 * p2) + 1) ∨ ((40 * p2) + 40) ≤ (40 * p2) := by omega
theorem vc_X12_through_68 {N f_R f_pol p1 z31894 z31895 z31916 z31920 z31923 : Int} (h0 : (((100 * (501 - z31894)) + (34 * z31895)) - f_R) < N + 1) (h1 : 0 < z31895) (h2 : 0 ≤ z31916 ∧ z31916 < f_pol ∧ z31916 + (z31895 - 1) ≤ 11) (h3 : z31920 < z31923 ∧ z31920 = f_R) (h4 : z31920 < z31923) (h5 : 0 ≤ z31920) (h6 : (z31894 + 1) ≤ 500) (h7 : p1 = -99999999 ∨ (0 ≤ p1 ∧ p1 < f_pol)) (h8 : (-1) ≤ f_R ∧ f_R ≤ 30) (h9 : 0 ≤ f_pol ∧ f_pol ≤ 12) (h10 : (-2147483648) ≤ p1 ∧ p1 ≤ 2147483647) (h11 : 0 ≤ z31894 ∧ z31894 ≤ 499) (h12 : 1 ≤ z31895 ∧ z31895 ≤ 12) (h13 : 0 ≤ z31916 ∧ z31916 ≤ 11) (h14 : 0 ≤ z31920 ∧ z31920 ≤ 29) (h15 : 0 ≤ z31923 ∧ z31923 ≤ 30) : (((100 * (501 - (z31894 + 1))) + (34 * z31895)) - z31920) < N := by omega
theorem vc_X12_through_69 {z33791 : Int} (h0 : z33791 = 28) (h1 : ¬ z33791 = 23) (h2 : ¬ z33791 = 24) (h3 : ¬ z33791 = 27) (h4 : (-2147483648) ≤ z33791 ∧ z33791 ≤ 2147483647) : 28 ≤ z33791 ∧ z33791 ≤ 28 := by omega
theorem vc_X12_through_70 {f_pol p1 z31895 z31916 z31926 z33777 z33780 : Int} (h0 : 0 ≤ z31916 ∧ z31916 < f_pol ∧ z31916 + (z31895 - 1) ≤ 11) (h1 : z33777 ≤ z33780 ∧ z33780 ≤ z31926) (h2 : ¬ z33777 = z33780) (h3 : p1 = -99999999 ∨ (0 ≤ p1 ∧ p1 < f_pol)) (h4 : 0 < z31895) (h5 : 0 ≤ f_pol ∧ f_pol ≤ 12) (h6 : (-2147483648) ≤ p1 ∧ p1 ≤ 2147483647) (h7 : 1 ≤ z31895 ∧ z31895 ≤ 12) (h8 : 0 ≤ z31916 ∧ z31916 ≤ 11) (h9 : 0 ≤ z31926 ∧ z31926 ≤ 300) (h10 : 0 ≤ z33777 ∧ z33777 ≤ 300) (h11 : 0 ≤ z33780 ∧ z33780 ≤ 300) : 0 ≤ (((300 * z31916) + z33777) - (300 * z31916)) ∧ (((300 * z31916) + z33777) - (300 * z31916)) < z31926 := by omega
theorem vc_X12_through_71 {f_pol p1 z31895 z31916 z31926 z33777 z33780 : Int} (h0 : 0 ≤ z31916 ∧ z31916 < f_pol ∧ z31916 + (z31895 - 1) ≤ 11) (h1 : z33777 ≤ z33780 ∧ z33780 ≤ z31926) (h2 : ¬ z33777 = z33780) (h3 : p1 = -99999999 ∨ (0 ≤ p1 ∧ p1 < f_pol)) (h4 : 0 < z31895) (h5 : 0 ≤ f_pol ∧ f_pol ≤ 12) (h6 : (-2147483648) ≤ p1 ∧ p1 ≤ 2147483647) (h7 : 1 ≤ z31895 ∧ z31895 ≤ 12) (h8 : 0 ≤ z31916 ∧ z31916 ≤ 11) (h9 : 0 ≤ z31926 ∧ z31926 ≤ 300) (h10 : 0 ≤ z33777 ∧ z33777 ≤ 300) (h11 : 0 ≤ z33780 ∧ z33780 ≤ 300) : ((300 * z31916) + z33777) = 300 * z31916 + (((300 * z31916) + z33777) - (300 * z31916)) := by omega
theorem vc_X12_through_72 {z33791 : Int} (h0 : ¬ z33791 = 23) (h1 : ¬ z33791 = 24) (h2 : ¬ z33791 = 27) (h3 : z33791 = 28) (h4 : 28 ≤ z33791 ∧ z33791 ≤ 28) : z33791 = 28 := by omega
theorem vc_X12_through_73 {f_pol z31895 z31916 z33866 : Int} (h0 : 0 ≤ z33866 ∧ z33866 < z31916) (h1 : 0 ≤ z31916 ∧ z31916 < f_pol ∧ z31916 + (z31895 - 1) ≤ 11) (h2 : 0 ≤ f_pol ∧ f_pol ≤ 12) (h3 : 1 ≤ z31895 ∧ z31895 ≤ 12) (h4 : 0 ≤ z31916 ∧ z31916 ≤ 11) (h5 : (-2147483648) ≤ z33866 ∧ z33866 ≤ 2147483647) : 0 ≤ z33866 ∧ z33866 ≤ 10 := by omega
theorem vc_X12_through_74 {f_pol p1 z31895 z31916 z33866 : Int} (h0 : 0 < z31895) (h1 : 0 ≤ z31916 ∧ z31916 < f_pol ∧ z31916 + (z31895 - 1) ≤ 11) (h2 : p1 = -99999999 ∨ (0 ≤ p1 ∧ p1 < f_pol)) (h3 : 0 ≤ z33866 ∧ z33866 < z31916) (h4 : 0 ≤ f_pol ∧ f_pol ≤ 12) (h5 : (-2147483648) ≤ p1 ∧ p1 ≤ 2147483647) (h6 : 1 ≤ z31895 ∧ z31895 ≤ 12) (h7 : 0 ≤ z31916 ∧ z31916 ≤ 11) (h8 : 0 ≤ z33866 ∧ z33866 ≤ 10) : 0 ≤ z31895 := by omega
theorem vc_X12_through_75 {f_pol p1 z31895 z31916 z33866 : Int} (h0 : p1 = -99999999 ∨ (0 ≤ p1 ∧ p1 < f_pol)) (h1 : 0 < z31895) (h2 : 0 ≤ z31916 ∧ z31916 < f_pol ∧ z31916 + (z31895 - 1) ≤ 11) (h3 : 0 ≤ z33866 ∧ z33866 < z31916) (h4 : ¬ p1 = (-99999999)) (h5 : 0 ≤ f_pol ∧ f_pol ≤ 12) (h6 : (-2147483648) ≤ p1 ∧ p1 ≤ 2147483647) (h7 : 1 ≤ z31895 ∧ z31895 ≤ 12) (h8 : 0 ≤ z31916 ∧ z31916 ≤ 11) (h9 : 0 ≤ z33866 ∧ z33866 ≤ 10) : 0 ≤ z33866 ∧ z33866 < f_pol ∧ z33866 + z31895 ≤ 11 := by omega
theorem vc_X12_through_77 {z31895 : Int} (h0 : 1 ≤ z31895 ∧ z31895 ≤ 12) : ((z31895 + 1) - 1) = z31895 := by omega
theorem vc_X12_through_78 {f_pol p1 z31895 z31916 z33866 : Int} (h0 : 0 < z31895) (h1 : 0 ≤ z31916 ∧ z31916 < f_pol ∧ z31916 + (z31895 - 1) ≤ 11) (h2 : p1 = -99999999 ∨ (0 ≤ p1 ∧ p1 < f_pol)) (h3 : 0 ≤ z33866 ∧ z33866 < z31916) (h4 : 0 ≤ f_pol ∧ f_pol ≤ 12) (h5 : (-2147483648) ≤ p1 ∧ p1 ≤ 2147483647) (h6 : 1 ≤ z31895 ∧ z31895 ≤ 12) (h7 : 0 ≤ z31916 ∧ z31916 ≤ 11) (h8 : 0 ≤ z33866 ∧ z33866 ≤ 10) : 0 ≤ (z31895 + 1) ∧ (z31895 + 1) ≤ 12 := by omega
theorem vc_X12_through_79 {N f_R f_pol p1 z31894 z31895 z31916 z31920 z31923 z33866 : Int} (h0 : (((100 * (501 - z31894)) + (34 * z31895)) - f_R) < N + 1) (h1 : 0 < z31895) (h2 : 0 ≤ z31916 ∧ z31916 < f_pol ∧ z31916 + (z31895 - 1) ≤ 11) (h3 : z31920 < z31923 ∧ z31920 = f_R) (h4 : (z31894 + 1) ≤ 500) (h5 : p1 = -99999999 ∨ (0 ≤ p1 ∧ p1 < f_pol)) (h6 : z31920 < z31923) (h7 : 0 ≤ z31920) (h8 : 0 ≤ z33866 ∧ z33866 < z31916) (h9 : (-1) ≤ f_R ∧ f_R ≤ 30) (h10 : 0 ≤ f_pol ∧ f_pol ≤ 12) (h11 : (-2147483648) ≤ p1 ∧ p1 ≤ 2147483647) (h12 : 0 ≤ z31894 ∧ z31894 ≤ 499) (h13 : 1 ≤ z31895 ∧ z31895 ≤ 12) (h14 : 0 ≤ z31916 ∧ z31916 ≤ 11) (h15 : 0 ≤ z31920 ∧ z31920 ≤ 29) (h16 : 0 ≤ z31923 ∧ z31923 ≤ 30) (h17 : 0 ≤ z33866 ∧ z33866 ≤ 10) : (((100 * (501 - (z31894 + 1))) + (34 * (z31895 + 1))) - (-1)) < N := by omega
theorem vc_X12_through_80 {f_pol p1 z31895 z31916 z33866 : Int} (h0 : 0 < z31895) (h1 : 0 ≤ z31916 ∧ z31916 < f_pol ∧ z31916 + (z31895 - 1) ≤ 11) (h2 : p1 = -99999999 ∨ (0 ≤ p1 ∧ p1 < f_pol)) (h3 : 0 ≤ z33866 ∧ z33866 < z31916) (h4 : 0 ≤ f_pol ∧ f_pol ≤ 12) (h5 : (-2147483648) ≤ p1 ∧ p1 ≤ 2147483647) (h6 : 1 ≤ z31895 ∧ z31895 ≤ 12) (h7 : 0 ≤ z31916 ∧ z31916 ≤ 11) (h8 : 0 ≤ z33866 ∧ z33866 ≤ 10) : (z31895 + 1) ≤ (z31895 + 1) := by omega
theorem vc_X12_through_81 {z33791 : Int} (h0 : z33791 = 27) (h1 : ¬ z33791 = 23) (h2 : ¬ z33791 = 24) (h3 : (-2147483648) ≤ z33791 ∧ z33791 ≤ 2147483647) : 27 ≤ z33791 ∧ z33791 ≤ 27 := by omega
theorem vc_X12_through_84 {z33791 : Int} (h0 : z33791 = 28) (h1 : 27 ≤ z33791 ∧ z33791 ≤ 27) : False := by omega
theorem vc_X12_through_86 {z33898 : Int} (h0 : z33898 ≤ 20) (h1 : (-2147483648) ≤ z33898 ∧ z33898 ≤ 2147483647) : (-2147483648) ≤ z33898 ∧ z33898 ≤ 20 := by omega
theorem vc_X12_through_87 {z33895 z34262 : Int} (h0 : ((z33895 - z34262) + 4294967296) < ((0 : Nat) : Int)) (h1 : (-2147483648) ≤ z33895 ∧ z33895 ≤ 2147483647) (h2 : 0 ≤ z34262 ∧ z34262 ≤ 2147483647) : False := by omega
theorem vc_X12_through_88 {z33895 z34262 : Int} (h0 : z34262 < z33895) (h1 : (-2147483648) ≤ z33895 ∧ z33895 ≤ 2147483647) (h2 : 0 ≤ z34262 ∧ z34262 ≤ 2147483647) : 0 ≤ z34262 ∧ z34262 ≤ 2147483646 := by omega
theorem vc_X12_through_89 {z33895 z34262 : Int} (h0 : z34262 < z33895) (h1 : (-2147483648) ≤ z33895 ∧ z33895 ≤ 2147483647) (h2 : 0 ≤ z34262 ∧ z34262 ≤ 2147483646) : 1 ≤ z33895 ∧ z33895 ≤ 2147483647 := by omega
theorem vc_X12_through_90 {N z33895 z34262 : Int} (h0 : ((z33895 - z34262) + 4294967296) < N + 1) (h1 : z34262 < z33895) (h2 : 1 ≤ z33895 ∧ z33895 ≤ 2147483647) (h3 : 0 ≤ z34262 ∧ z34262 ≤ 2147483646) : ((z33895 - (z34262 + 1)) + 4294967296) < N := by omega
theorem vc_X12_through_91 {z33895 : Int} (h0 : (-2147483648) ≤ z33895 ∧ z33895 ≤ 2147483647) : ((z33895 - 0) + 4294967296) < ((6442450944 : Nat) : Int) := by omega
theorem vc_X12_through_92 {z33898 : Int} (h0 : 20 < z33898) (h1 : (-2147483648) ≤ z33898 ∧ z33898 ≤ 2147483647) : 21 ≤ z33898 ∧ z33898 ≤ 2147483647 := by omega
theorem vc_X12_through_93 {z33791 : Int} (h0 : z33791 = 13) (h1 : ¬ z33791 = 23) (h2 : ¬ z33791 = 24) (h3 : (-2147483648) ≤ z33791 ∧ z33791 ≤ 2147483647) : 13 ≤ z33791 ∧ z33791 ≤ 13 := by omega
theorem vc_X12_through_94 {p2 z34290 : Int} (h0 : 0 ≤ p2 ∧ p2 ≤ 2099) (h1 : (-2147483648) ≤ z34290 ∧ z34290 ≤ 2147483647) : (-2147483648 ≤ z34290 ∧ z34290 ≤ 2147483647) ∧ (((40 * p2) + 3) % 40 = 0 → -1 ≤ z34290 ∧ z34290 ≤ 9) ∧ (((40 * p2) + 3) % 40 = 4 → 0 ≤ z34290 ∧ z34290 ≤ 20) ∧ (((40 * p2) + 3) % 40 = 5 → 0 ≤ z34290 ∧ z34290 ≤ 8) := by omega
theorem vc_X12_through_95 {p2 : Int} (h0 : 0 ≤ p2 ∧ p2 ≤ 2099) : 0 ≤ ((40 * p2) + 3) ∧ ((40 * p2) + 1) ≤ ((40 * p2) + 3) ∧ ((40 * p2) + 3) < ((40 * p2) + 40) := by omega
theorem vc_X12_through_96 {z33791 : Int} (h0 : z33791 = 12) (h1 : ¬ z33791 = 23) (h2 : ¬ z33791 = 24) (h3 : (-2147483648) ≤ z33791 ∧ z33791 ≤ 2147483647) : 12 ≤ z33791 ∧ z33791 ≤ 12 := by omega
theorem vc_X12_through_97 {p2 z34298 : Int} (h0 : 0 ≤ p2 ∧ p2 ≤ 2099) (h1 : (-2147483648) ≤ z34298 ∧ z34298 ≤ 2147483647) : (-2147483648 ≤ z34298 ∧ z34298 ≤ 2147483647) ∧ (((40 * p2) + 1) % 40 = 0 → -1 ≤ z34298 ∧ z34298 ≤ 9) ∧ (((40 * p2) + 1) % 40 = 4 → 0 ≤ z34298 ∧ z34298 ≤ 20) ∧ (((40 * p2) + 1) % 40 = 5 → 0 ≤ z34298 ∧ z34298 ≤ 8) := by omega
theorem vc_X12_through_98 {p2 : Int} (h0 : 0 ≤ p2 ∧ p2 ≤ 2099) : 0 ≤ ((40 * p2) + 1) ∧ ((40 * p2) + 1) ≤ ((40 * p2) + 1) ∧ ((40 * p2) + 1) < ((40 * p2) + 40) := by omega
theorem vc_X12_through_99 {z33791 : Int} (h0 : z33791 = 26) (h1 : ¬ z33791 = 23) (h2 : ¬ z33791 = 24) (h3 : (-2147483648) ≤ z33791 ∧ z33791 ≤ 2147483647) : 26 ≤ z33791 ∧ z33791 ≤ 26 := by omega
theorem vc_X12_through_100 {z33791 : Int} (h0 : z33791 = 25) (h1 : ¬ z33791 = 23) (h2 : ¬ z33791 = 24) (h3 : (-2147483648) ≤ z33791 ∧ z33791 ≤ 2147483647) : 25 ≤ z33791 ∧ z33791 ≤ 25 := by omega
theorem vc_X12_through_101 {z33791 : Int} (h0 : z33791 = 24) (h1 : ¬ z33791 = 23) (h2 : (-2147483648) ≤ z33791 ∧ z33791 ≤ 2147483647) : 24 ≤ z33791 ∧ z33791 ≤ 24 := by omega
theorem vc_X12_through_102 {z33791 : Int} (h0 : z33791 = 23) (h1 : (-2147483648) ≤ z33791 ∧ z33791 ≤ 2147483647) : 23 ≤ z33791 ∧ z33791 ≤ 23 := by omega
theorem vc_X12_through_103 {z31894 : Int} (h0 : 500 < (z31894 + 1)) (h1 : 0 ≤ z31894 ∧ z31894 ≤ 500) : 500 ≤ z31894 ∧ z31894 ≤ 500 := by omega
theorem vc_X12_through_104 {f_R z31920 z31923 z34492 z34493 : Int} (h0 : (70 - ((2 * z34493) + z34492)) < ((0 : Nat) : Int)) (h1 : z34492 = 0 ∨ z34493 < z31923) (h2 : f_R < z34493) (h3 : z31920 < z31923 ∧ z31920 = f_R) (h4 : z31920 < z31923) (h5 : (-1) ≤ f_R ∧ f_R ≤ 30) (h6 : 0 ≤ z31920 ∧ z31920 ≤ 29) (h7 : 0 ≤ z31923 ∧ z31923 ≤ 30) (h8 : 0 ≤ z34492 ∧ z34492 ≤ 1) (h9 : 1 ≤ z34493 ∧ z34493 ≤ 30) : False := by omega
theorem vc_X12_through_105 {z31923 z34492 z34493 : Int} (h0 : ¬ z34492 = 0) (h1 : z34492 = 0 ∨ z34493 < z31923) (h2 : 0 ≤ z31923 ∧ z31923 ≤ 30) (h3 : 0 ≤ z34492 ∧ z34492 ≤ 1) (h4 : 1 ≤ z34493 ∧ z34493 ≤ 30) : 1 ≤ z34492 ∧ z34492 ≤ 1 := by omega
theorem vc_X12_through_106 {f_R z31920 z31923 z34492 z34493 : Int} (h0 : z31920 < z31923 ∧ z31920 = f_R) (h1 : z31920 < z31923) (h2 : z34492 = 0 ∨ z34493 < z31923) (h3 : f_R < z34493) (h4 : 0 ≤ z31920) (h5 : ¬ z34492 = 0) (h6 : (-1) ≤ f_R ∧ f_R ≤ 30) (h7 : 0 ≤ z31920 ∧ z31920 ≤ 29) (h8 : 0 ≤ z31923 ∧ z31923 ≤ 30) (h9 : 1 ≤ z34492 ∧ z34492 ≤ 1) (h10 : 1 ≤ z34493 ∧ z34493 ≤ 30) : 0 ≤ z34493 ∧ z34493 < z31923 := by omega
theorem vc_X12_through_107 {f_R f_pol p1 z31895 z31916 z31920 z31923 z34492 z34493 : Int} (h0 : 0 ≤ z31916 ∧ z31916 < f_pol ∧ z31916 + (z31895 - 1) ≤ 11) (h1 : z34492 = 0 ∨ z34493 < z31923) (h2 : f_R < z34493) (h3 : p1 = -99999999 ∨ (0 ≤ p1 ∧ p1 < f_pol)) (h4 : 0 < z31895) (h5 : z31920 < z31923 ∧ z31920 = f_R) (h6 : z31920 < z31923) (h7 : ¬ z34492 = 0) (h8 : (-1) ≤ f_R ∧ f_R ≤ 30) (h9 : 0 ≤ f_pol ∧ f_pol ≤ 12) (h10 : (-2147483648) ≤ p1 ∧ p1 ≤ 2147483647) (h11 : 1 ≤ z31895 ∧ z31895 ≤ 12) (h12 : 0 ≤ z31916 ∧ z31916 ≤ 11) (h13 : 0 ≤ z31920 ∧ z31920 ≤ 29) (h14 : 0 ≤ z31923 ∧ z31923 ≤ 30) (h15 : 1 ≤ z34492 ∧ z34492 ≤ 1) (h16 : 1 ≤ z34493 ∧ z34493 ≤ 30) : ((31 * z31916) + z34493) = 31 * z31916 + z34493 := by omega
theorem vc_X12_through_108 {N f_R f_pol p1 z31894 z31895 z31916 z31920 z31923 z34492 z34493 : Int} (h0 : (((100 * (501 - z31894)) + (34 * z31895)) - f_R) < N + 1) (h1 : 0 < z31895) (h2 : 0 ≤ z31916 ∧ z31916 < f_pol ∧ z31916 + (z31895 - 1) ≤ 11) (h3 : z31920 < z31923 ∧ z31920 = f_R) (h4 : z34492 = 0 ∨ z34493 < z31923) (h5 : f_R < z34493) (h6 : p1 = -99999999 ∨ (0 ≤ p1 ∧ p1 < f_pol)) (h7 : z31920 < z31923) (h8 : 0 ≤ z31920) (h9 : ¬ z34492 = 0) (h10 : (-1) ≤ f_R ∧ f_R ≤ 30) (h11 : 0 ≤ f_pol ∧ f_pol ≤ 12) (h12 : (-2147483648) ≤ p1 ∧ p1 ≤ 2147483647) (h13 : 0 ≤ z31894 ∧ z31894 ≤ 500) (h14 : 1 ≤ z31895 ∧ z31895 ≤ 12) (h15 : 0 ≤ z31916 ∧ z31916 ≤ 11) (h16 : 0 ≤ z31920 ∧ z31920 ≤ 29) (h17 : 0 ≤ z31923 ∧ z31923 ≤ 30) (h18 : 1 ≤ z34492 ∧ z34492 ≤ 1) (h19 : 1 ≤ z34493 ∧ z34493 ≤ 30) : (((100 * (501 - z31894)) + (34 * z31895)) - z34493) < N := by omega
theorem vc_X12_through_109 {z31923 z34492 z34493 : Int} (h0 : z34492 = 0) (h1 : z34492 = 0 ∨ z34493 < z31923) (h2 : 0 ≤ z31923 ∧ z31923 ≤ 30) (h3 : 0 ≤ z34492 ∧ z34492 ≤ 1) (h4 : 1 ≤ z34493 ∧ z34493 ≤ 30) : 0 ≤ z34492 ∧ z34492 ≤ 0 := by omega
theorem vc_X12_through_110 {N f_R f_pol p1 z31894 z31895 z31916 z31920 z31923 z34492 z34493 : Int} (h0 : (((100 * (501 - z31894)) + (34 * z31895)) - f_R) < N + 1) (h1 : 0 < z31895) (h2 : 0 ≤ z31916 ∧ z31916 < f_pol ∧ z31916 + (z31895 - 1) ≤ 11) (h3 : z31920 < z31923 ∧ z31920 = f_R) (h4 : f_R < z34493) (h5 : (z31895 + (-1)) = 0) (h6 : p1 = -99999999 ∨ (0 ≤ p1 ∧ p1 < f_pol)) (h7 : z31920 < z31923) (h8 : 0 ≤ z31920) (h9 : z34492 = 0 ∨ z34493 < z31923) (h10 : (-1) ≤ f_R ∧ f_R ≤ 30) (h11 : 0 ≤ f_pol ∧ f_pol ≤ 12) (h12 : (-2147483648) ≤ p1 ∧ p1 ≤ 2147483647) (h13 : 0 ≤ z31894 ∧ z31894 ≤ 500) (h14 : 1 ≤ z31895 ∧ z31895 ≤ 1) (h15 : 0 ≤ z31916 ∧ z31916 ≤ 11) (h16 : 0 ≤ z31920 ∧ z31920 ≤ 29) (h17 : 0 ≤ z31923 ∧ z31923 ≤ 30) (h18 : 0 ≤ z34492 ∧ z34492 ≤ 0) (h19 : 1 ≤ z34493 ∧ z34493 ≤ 30) : (((100 * (501 - z31894)) + (34 * (z31895 + (-1)))) - 0) < N := by omega
theorem vc_X12_through_111 {N f_R f_pol p1 z31894 z31895 z31916 z31920 z31923 z34492 z34493 z34564 : Int} (h0 : (((100 * (501 - z31894)) + (34 * z31895)) - f_R) < N + 1) (h1 : 0 < z31895) (h2 : 0 ≤ z31916 ∧ z31916 < f_pol ∧ z31916 + (z31895 - 1) ≤ 11) (h3 : z31920 < z31923 ∧ z31920 = f_R) (h4 : f_R < z34493) (h5 : ¬ (z31895 + (-1)) = 0) (h6 : p1 = -99999999 ∨ (0 ≤ p1 ∧ p1 < f_pol)) (h7 : z31920 < z31923) (h8 : 0 ≤ z31920) (h9 : z34492 = 0 ∨ z34493 < z31923) (h10 : (-1) ≤ f_R ∧ f_R ≤ 30) (h11 : 0 ≤ f_pol ∧ f_pol ≤ 12) (h12 : (-2147483648) ≤ p1 ∧ p1 ≤ 2147483647) (h13 : 0 ≤ z31894 ∧ z31894 ≤ 500) (h14 : 2 ≤ z31895 ∧ z31895 ≤ 12) (h15 : 0 ≤ z31916 ∧ z31916 ≤ 11) (h16 : 0 ≤ z31920 ∧ z31920 ≤ 29) (h17 : 0 ≤ z31923 ∧ z31923 ≤ 30) (h18 : 0 ≤ z34492 ∧ z34492 ≤ 0) (h19 : 1 ≤ z34493 ∧ z34493 ≤ 30) (h20 : (-1) ≤ z34564 ∧ z34564 ≤ 30) : (((100 * (501 - z31894)) + (34 * (z31895 + (-1)))) - z34564) < N := by omega
theorem vc_X12_through_112 {f_R z31920 z31923 z34492 z34493 : Int} (h0 : z34493 < z31923) (h1 : z31920 < z31923 ∧ z31920 = f_R) (h2 : z31920 < z31923) (h3 : z34492 = 0 ∨ z34493 < z31923) (h4 : f_R < z34493) (h5 : (-1) ≤ f_R ∧ f_R ≤ 30) (h6 : 0 ≤ z31920 ∧ z31920 ≤ 29) (h7 : 0 ≤ z31923 ∧ z31923 ≤ 30) (h8 : 0 ≤ z34492 ∧ z34492 ≤ 1) (h9 : 1 ≤ z34493 ∧ z34493 ≤ 30) : 1 ≤ z34493 ∧ z34493 ≤ 29 := by omega
theorem vc_X12_through_113 {f_R z31920 z31923 z34492 z34493 : Int} (h0 : z34493 < z31923) (h1 : z31920 < z31923 ∧ z31920 = f_R) (h2 : z31920 < z31923) (h3 : z34492 = 0 ∨ z34493 < z31923) (h4 : f_R < z34493) (h5 : (-1) ≤ f_R ∧ f_R ≤ 30) (h6 : 0 ≤ z31920 ∧ z31920 ≤ 29) (h7 : 0 ≤ z31923 ∧ z31923 ≤ 30) (h8 : 0 ≤ z34492 ∧ z34492 ≤ 1) (h9 : 1 ≤ z34493 ∧ z34493 ≤ 29) : 2 ≤ z31923 ∧ z31923 ≤ 30 := by omega
theorem vc_X12_through_114 {z31923 z34492 z34493 : Int} (h0 : ¬ z34492 = 0) (h1 : z34492 = 0 ∨ z34493 < z31923) (h2 : 2 ≤ z31923 ∧ z31923 ≤ 30) (h3 : 0 ≤ z34492 ∧ z34492 ≤ 1) (h4 : 1 ≤ z34493 ∧ z34493 ≤ 29) : 1 ≤ z34492 ∧ z34492 ≤ 1 := by omega
theorem vc_X12_through_115 {z31923 z34492 z34493 : Int} (h0 : z34492 = 0) (h1 : z34492 = 0 ∨ z34493 < z31923) (h2 : 2 ≤ z31923 ∧ z31923 ≤ 30) (h3 : 0 ≤ z34492 ∧ z34492 ≤ 1) (h4 : 1 ≤ z34493 ∧ z34493 ≤ 29) : 0 ≤ z34492 ∧ z34492 ≤ 0 := by omega
theorem vc_X12_through_118 {f_R z31920 z31923 z34492 z34493 z34624 : Int} (h0 : z31920 < z31923 ∧ z31920 = f_R) (h1 : z31920 < z31923) (h2 : z34492 = 0 ∨ z34493 < z31923) (h3 : f_R < z34493) (h4 : z34493 < z31923) (h5 : ¬ z34624 = 0) (h6 : 0 ≤ z31920) (h7 : z34492 = 0) (h8 : (-1) ≤ f_R ∧ f_R ≤ 30) (h9 : 0 ≤ z31920 ∧ z31920 ≤ 29) (h10 : 2 ≤ z31923 ∧ z31923 ≤ 30) (h11 : 0 ≤ z34492 ∧ z34492 ≤ 0) (h12 : 1 ≤ z34493 ∧ z34493 ≤ 29) (h13 : 1 ≤ z34624 ∧ z34624 ≤ 1) : z34624 = 0 ∨ z34493 < z31923 := by omega
theorem vc_X12_through_119 {f_R z31920 z31923 z34492 z34493 : Int} (h0 : z31920 < z31923 ∧ z31920 = f_R) (h1 : z34492 = 0 ∨ z34493 < z31923) (h2 : f_R < z34493) (h3 : z34493 < z31923) (h4 : z31920 < z31923) (h5 : 0 ≤ z31920) (h6 : z34492 = 0) (h7 : (-1) ≤ f_R ∧ f_R ≤ 30) (h8 : 0 ≤ z31920 ∧ z31920 ≤ 29) (h9 : 2 ≤ z31923 ∧ z31923 ≤ 30) (h10 : 0 ≤ z34492 ∧ z34492 ≤ 0) (h11 : 1 ≤ z34493 ∧ z34493 ≤ 29) : f_R < z34493 := by omega
theorem vc_X12_through_120 {N f_R z31920 z31923 z34492 z34493 z34624 : Int} (h0 : (70 - ((2 * z34493) + z34492)) < N + 1) (h1 : z34492 = 0 ∨ z34493 < z31923) (h2 : f_R < z34493) (h3 : z34493 < z31923) (h4 : z34492 = 0) (h5 : ¬ z34624 = 0) (h6 : z31920 < z31923 ∧ z31920 = f_R) (h7 : z31920 < z31923) (h8 : (-1) ≤ f_R ∧ f_R ≤ 30) (h9 : 0 ≤ z31920 ∧ z31920 ≤ 29) (h10 : 2 ≤ z31923 ∧ z31923 ≤ 30) (h11 : 0 ≤ z34492 ∧ z34492 ≤ 0) (h12 : 1 ≤ z34493 ∧ z34493 ≤ 29) (h13 : 1 ≤ z34624 ∧ z34624 ≤ 1) : (70 - ((2 * z34493) + z34624)) < N := by omega
theorem vc_X12_through_122 {f_R z31920 z31923 z34492 z34493 z34624 : Int} (h0 : z31920 < z31923 ∧ z31920 = f_R) (h1 : z31920 < z31923) (h2 : z34492 = 0 ∨ z34493 < z31923) (h3 : f_R < z34493) (h4 : z34493 < z31923) (h5 : z34624 = 0) (h6 : 0 ≤ z31920) (h7 : z34492 = 0) (h8 : (-1) ≤ f_R ∧ f_R ≤ 30) (h9 : 0 ≤ z31920 ∧ z31920 ≤ 29) (h10 : 2 ≤ z31923 ∧ z31923 ≤ 30) (h11 : 0 ≤ z34492 ∧ z34492 ≤ 0) (h12 : 1 ≤ z34493 ∧ z34493 ≤ 29) (h13 : 0 ≤ z34624 ∧ z34624 ≤ 0) : z34624 = 0 ∨ (z34493 + 1) < z31923 := by omega
theorem vc_X12_through_123 {f_R z31920 z31923 z34492 z34493 : Int} (h0 : z31920 < z31923 ∧ z31920 = f_R) (h1 : z34492 = 0 ∨ z34493 < z31923) (h2 : f_R < z34493) (h3 : z34493 < z31923) (h4 : z31920 < z31923) (h5 : 0 ≤ z31920) (h6 : z34492 = 0) (h7 : (-1) ≤ f_R ∧ f_R ≤ 30) (h8 : 0 ≤ z31920 ∧ z31920 ≤ 29) (h9 : 2 ≤ z31923 ∧ z31923 ≤ 30) (h10 : 0 ≤ z34492 ∧ z34492 ≤ 0) (h11 : 1 ≤ z34493 ∧ z34493 ≤ 29) : f_R < (z34493 + 1) := by omega
theorem vc_X12_through_124 {N f_R z31920 z31923 z34492 z34493 z34624 : Int} (h0 : (70 - ((2 * z34493) + z34492)) < N + 1) (h1 : z34492 = 0 ∨ z34493 < z31923) (h2 : f_R < z34493) (h3 : z34493 < z31923) (h4 : z34492 = 0) (h5 : z34624 = 0) (h6 : z31920 < z31923 ∧ z31920 = f_R) (h7 : z31920 < z31923) (h8 : (-1) ≤ f_R ∧ f_R ≤ 30) (h9 : 0 ≤ z31920 ∧ z31920 ≤ 29) (h10 : 2 ≤ z31923 ∧ z31923 ≤ 30) (h11 : 0 ≤ z34492 ∧ z34492 ≤ 0) (h12 : 1 ≤ z34493 ∧ z34493 ≤ 29) (h13 : 0 ≤ z34624 ∧ z34624 ≤ 0) : (70 - ((2 * (z34493 + 1)) + z34624)) < N := by omega
theorem vc_X12_through_130 {f_R z31920 z31923 : Int} (h0 : z31920 < z31923 ∧ z31920 = f_R) (h1 : z31920 < z31923) (h2 : 0 ≤ z31920) (h3 : (-1) ≤ f_R ∧ f_R ≤ 30) (h4 : 0 ≤ z31920 ∧ z31920 ≤ 29) (h5 : 0 ≤ z31923 ∧ z31923 ≤ 30) : (0 : Int) = 0 ∨ (z31920 + 1) < z31923 := by omega
theorem vc_X12_through_131 {f_R z31920 z31923 : Int} (h0 : z31920 < z31923 ∧ z31920 = f_R) (h1 : z31920 < z31923) (h2 : 0 ≤ z31920) (h3 : (-1) ≤ f_R ∧ f_R ≤ 30) (h4 : 0 ≤ z31920 ∧ z31920 ≤ 29) (h5 : 0 ≤ z31923 ∧ z31923 ≤ 30) : f_R < (z31920 + 1) := by omega
theorem vc_X12_through_132 {f_R z31920 z31923 : Int} (h0 : z31920 < z31923 ∧ z31920 = f_R) (h1 : z31920 < z31923) (h2 : 0 ≤ z31920) (h3 : (-1) ≤ f_R ∧ f_R ≤ 30) (h4 : 0 ≤ z31920 ∧ z31920 ≤ 29) (h5 : 0 ≤ z31923 ∧ z31923 ≤ 30) : (70 - ((2 * (z31920 + 1)) + 0)) < ((69 : Nat) : Int) := by omega
theorem vc_X12_through_133  : ((1 : Int) - (1 : Int)) = (0 : Int) := by omega
theorem vc_X12_through_134 {f_x : Int} (h0 : 0 ≤ f_x) (h1 : 0 ≤ f_x ∧ f_x ≤ 9) : f_x = f_x := by omega
theorem vc_X12_through_135  : (((100 * (501 - 0)) + (34 * 1)) - (-1)) < ((50136 : Nat) : Int) := by omega
theorem vc_X12_through_136  : ((1 : Int) : Int) ≤ (0 : Int) + (1 : Int) := by omega
theorem vc_X12_through_137 {f_pol p1 : Int} (h0 : p1 = (-99999999)) (h1 : p1 = -99999999 ∨ (0 ≤ p1 ∧ p1 < f_pol)) (h2 : 0 ≤ f_pol ∧ f_pol ≤ 12) (h3 : (-2147483648) ≤ p1 ∧ p1 ≤ 2147483647) : (-99999999) ≤ p1 ∧ p1 ≤ (-99999999) := by omega
end
section
theorem vc_X12_partnerOf_pt_1 {f_e0 f_e1 p1 p2 z29 z30 : Int} (h0 : (z29 = 0 → f_e0 = p2)) (h1 : (z29 = 1 → ¬ f_e0 = p2)) (h2 : ((((2 * p1) + 1) - z29) = (2 * p1) → z30 = f_e0)) (h3 : ((((2 * p1) + 1) - z29) = ((2 * p1) + 1) → z30 = f_e1)) (h4 : 0 ≤ f_e0 ∧ f_e0 ≤ 9) (h5 : 0 ≤ f_e1 ∧ f_e1 ≤ 9) (h6 : 0 ≤ p1 ∧ p1 ≤ 19) (h7 : (-2147483648) ≤ p2 ∧ p2 ≤ 2147483647) (h8 : 0 ≤ z29 ∧ z29 ≤ 1) (h9 : 0 ≤ z30 ∧ z30 ≤ 9) : (f_e0 = p2 → z30 = f_e1) ∧ (¬ f_e0 = p2 → z30 = f_e0) := by omega
set_option maxRecDepth 4000 in
set_option maxHeartbeats 4000000 in
theorem c_X12_partnerOf_pt {l : Launch} {D : va_G} {c : Nat → ClassId} {H0 : Heap} {sa : Nat × Nat × (Nat → Int32)} {w : mW} {μ : mM} (hw : mWF w) (hT : mT w μ) {p1 : Int} (hp1 : 0 ≤ p1 ∧ p1 ≤ 19) {p2 : Int} (hp2 : (-2147483648) ≤ p2 ∧ p2 ≤ 2147483647) {f_e0 : Int} (q_f_e0 : μ 110 ((2 * p1).toNat) = f_e0) {f_e1 : Int} (q_f_e1 : μ 110 (((2 * p1) + 1).toNat) = f_e1) : sC (gG l D c H0 sa) mX12_partnerOf 2 0 0 [.ref 106, iv p1, iv p2] (mk w μ) (qP w μ (fun z => (0 ≤ z ∧ z ≤ 9) ∧ ((f_e0 = p2 → z = f_e1) ∧ (¬ f_e0 = p2 → z = f_e0)) ∧ True)) := by
  refine sC.of rfl (by decide) (le_t rfl) ?_
  have ht_f_e0 : (0 ≤ f_e0 ∧ f_e0 ≤ 9) := by rw [← q_f_e0]; exact hT 110 110 (A_110 hw) ((2 * p1).toNat)
  have ht_f_e1 : (0 ≤ f_e1 ∧ f_e1 ≤ 9) := by rw [← q_f_e1]; exact hT 110 110 (A_110 hw) (((2 * p1) + 1).toNat)
  refine mr_lvE (lv' := [(0, .ref 106), (1, iv p1), (2, iv p2)]) rfl ?_
  refine sv_aload_n (pc := 0) dX12_partnerOf_0 rfl rfl ?_
  refine gf_X12_7 (pc := 1) dX12_partnerOf_1 wF_X12_40 (A_106 hw) hT ?_
  refine mr_iconst (pc := 4) (z := 2) dX12_partnerOf_4 ?_
  refine mr_iload_n (pc := 5) (z := p1) dX12_partnerOf_5 rfl rfl ?_
  refine mr_imul (pc := 6) (x := 2) (y := p1) dX12_partnerOf_6 ?_
  refine mr_iconst (pc := 7) (z := 1) dX12_partnerOf_7 ?_
  refine mr_iadd (pc := 8) (x := (2 * p1)) (y := 1) dX12_partnerOf_8 ?_
  refine sv_aload_n (pc := 9) dX12_partnerOf_9 rfl rfl ?_
  refine mr_iload_n (pc := 10) (z := p1) dX12_partnerOf_10 rfl rfl ?_
  refine mr_iload_n (pc := 11) (z := p2) dX12_partnerOf_11 rfl rfl ?_
  refine mr_cVP (pc := 12) (c_X12_sideOf hw hT hp1 hp2 q_f_e0) (gOk _ _ _ _ _) dX12_partnerOf_12 (tX12_sideOf _ _ _ _ _) ⟨wV_X12_sideOf, wL_X12_sideOf⟩ wM_X12_542 (gCX12 _ _ _ _ _) rfl (A_106 hw) rfl ⟨le_t rfl, le_t rfl⟩ ⟨le_t rfl, le_t rfl⟩ rfl (le_t rfl) fun z29 h28 => ?_
  refine mr_isub (pc := 15) (x := ((2 * p1) + 1)) (y := z29) dX12_partnerOf_15 ?_
  refine la_110 (pc := 16) dX12_partnerOf_16 (A_110 hw) hT (rIx (n := 40) (rSub (e := 0) (f := 39) (rAdd (e := 1) (f := 39) (rMulL (n := 2) (e := 0) (f := 38) hp1 rfl) (rR (x := 1)) rfl) h28.1 rfl) rfl) fun z30 q31 h32 => ?_
  exact mr_iretP dX12_partnerOf_17 rfl (le_t rfl) (le_t rfl) ⟨h32, (vc_X12_partnerOf_pt_1 h28.2.1 h28.2.2.1 (cgr q31 q_f_e0) (cgr q31 q_f_e1) ht_f_e0 ht_f_e1 hp1 hp2 h28.1 h32), trivial⟩
theorem vc_X12_candidate_2 {f_ties p2 : Int} (h0 : p2 < f_ties) (h1 : 1 ≤ f_ties ∧ f_ties ≤ 20) (h2 : 0 ≤ p2 ∧ p2 ≤ 19) : 0 ≤ (40 * (4 + p2)) := by omega
theorem vc_X12_candidate_3 {f_ties p2 : Int} (h0 : p2 < f_ties) (h1 : 1 ≤ f_ties ∧ f_ties ≤ 20) (h2 : 0 ≤ p2 ∧ p2 ≤ 19) : (40 * (4 + p2)) % 40 = 0 := by omega
theorem vc_X12_candidate_4 {z302 : Int} (h0 : z302 = -1) (h1 : (-1) ≤ z302 ∧ z302 ≤ 9) : (-1) ≤ z302 ∧ z302 ≤ (-1) := by omega
theorem vc_X12_candidate_5 {f_e0 f_ties p1 p2 p3 z297 z313 : Int} (h0 : z313 = (((20 * p2) + (10 * z297)) + p3)) (h1 : p2 < f_ties) (h2 : (z297 = 0 → f_e0 = p1)) (h3 : (z297 = 1 → ¬ f_e0 = p1)) (h4 : 0 ≤ f_e0 ∧ f_e0 ≤ 9) (h5 : 1 ≤ f_ties ∧ f_ties ≤ 20) (h6 : 0 ≤ p1 ∧ p1 ≤ 9) (h7 : 0 ≤ p2 ∧ p2 ≤ 19) (h8 : 0 ≤ p3 ∧ p3 ≤ 9) (h9 : 0 ≤ z297 ∧ z297 ≤ 1) (h10 : 0 ≤ z313 ∧ z313 ≤ 449) : 0 ≤ z313 ∧ z313 ≤ 399 := by omega
theorem vc_X12_candidate_7 {f_e0 f_ties p1 p2 p3 z297 z313 : Int} (h0 : p2 < f_ties) (h1 : z313 = (((20 * p2) + (10 * z297)) + p3)) (h2 : (z297 = 0 → f_e0 = p1)) (h3 : (z297 = 1 → ¬ f_e0 = p1)) (h4 : 0 ≤ f_e0 ∧ f_e0 ≤ 9) (h5 : 1 ≤ f_ties ∧ f_ties ≤ 20) (h6 : 0 ≤ p1 ∧ p1 ≤ 9) (h7 : 0 ≤ p2 ∧ p2 ≤ 19) (h8 : 0 ≤ p3 ∧ p3 ≤ 9) (h9 : 0 ≤ z297 ∧ z297 ≤ 1) (h10 : 0 ≤ z313 ∧ z313 ≤ 399) : ((40 * p2) + 160) ≤ (40 * (4 + p2)) ∧ ((40 * (4 + p2)) + 1) ≤ ((40 * p2) + 200) := by omega
theorem vc_X12_candidate_9 {f_e0 f_ties p1 p2 p3 z297 z313 : Int} (h0 : z313 = (((20 * p2) + (10 * z297)) + p3)) (h1 : p2 < f_ties) (h2 : (z297 = 0 → f_e0 = p1)) (h3 : (z297 = 1 → ¬ f_e0 = p1)) (h4 : 0 ≤ f_e0 ∧ f_e0 ≤ 9) (h5 : 1 ≤ f_ties ∧ f_ties ≤ 20) (h6 : 0 ≤ p1 ∧ p1 ≤ 9) (h7 : 0 ≤ p2 ∧ p2 ≤ 19) (h8 : 0 ≤ p3 ∧ p3 ≤ 9) (h9 : 0 ≤ z297 ∧ z297 ≤ 1) (h10 : 0 ≤ z313 ∧ z313 ≤ 399) : 0 ≤ (40 * (130 + z313)) := by omega
theorem vc_X12_candidate_10 {f_e0 f_ties p1 p2 p3 z297 z313 : Int} (h0 : z313 = (((20 * p2) + (10 * z297)) + p3)) (h1 : p2 < f_ties) (h2 : (z297 = 0 → f_e0 = p1)) (h3 : (z297 = 1 → ¬ f_e0 = p1)) (h4 : 0 ≤ f_e0 ∧ f_e0 ≤ 9) (h5 : 1 ≤ f_ties ∧ f_ties ≤ 20) (h6 : 0 ≤ p1 ∧ p1 ≤ 9) (h7 : 0 ≤ p2 ∧ p2 ≤ 19) (h8 : 0 ≤ p3 ∧ p3 ≤ 9) (h9 : 0 ≤ z297 ∧ z297 ≤ 1) (h10 : 0 ≤ z313 ∧ z313 ≤ 399) : (40 * (130 + z313)) % 40 = 0 := by omega
theorem vc_X12_candidate_15 {f_e0 f_ties p1 p2 p3 z297 z313 : Int} (h0 : p2 < f_ties) (h1 : z313 = (((20 * p2) + (10 * z297)) + p3)) (h2 : (z297 = 0 → f_e0 = p1)) (h3 : (z297 = 1 → ¬ f_e0 = p1)) (h4 : 0 ≤ f_e0 ∧ f_e0 ≤ 9) (h5 : 1 ≤ f_ties ∧ f_ties ≤ 20) (h6 : 0 ≤ p1 ∧ p1 ≤ 9) (h7 : 0 ≤ p2 ∧ p2 ≤ 19) (h8 : 0 ≤ p3 ∧ p3 ≤ 9) (h9 : 0 ≤ z297 ∧ z297 ≤ 1) (h10 : 0 ≤ z313 ∧ z313 ≤ 399) : (130 + z313) < (4 + p2) ∨ (4 + p2) < (130 + z313) := by omega
theorem vc_X12_candidate_16 {f_e0 f_ties p1 p2 p3 z297 z313 : Int} (h0 : p2 < f_ties) (h1 : z313 = (((20 * p2) + (10 * z297)) + p3)) (h2 : (z297 = 0 → f_e0 = p1)) (h3 : (z297 = 1 → ¬ f_e0 = p1)) (h4 : 0 ≤ f_e0 ∧ f_e0 ≤ 9) (h5 : 1 ≤ f_ties ∧ f_ties ≤ 20) (h6 : 0 ≤ p1 ∧ p1 ≤ 9) (h7 : 0 ≤ p2 ∧ p2 ≤ 19) (h8 : 0 ≤ p3 ∧ p3 ≤ 9) (h9 : 0 ≤ z297 ∧ z297 ≤ 1) (h10 : 0 ≤ z313 ∧ z313 ≤ 399) : 0 ≤ (40 * (4 + p2)) := by omega
theorem vc_X12_candidate_17 {f_e0 f_ties p1 p2 p3 z297 z313 : Int} (h0 : p2 < f_ties) (h1 : z313 = (((20 * p2) + (10 * z297)) + p3)) (h2 : (z297 = 0 → f_e0 = p1)) (h3 : (z297 = 1 → ¬ f_e0 = p1)) (h4 : 0 ≤ f_e0 ∧ f_e0 ≤ 9) (h5 : 1 ≤ f_ties ∧ f_ties ≤ 20) (h6 : 0 ≤ p1 ∧ p1 ≤ 9) (h7 : 0 ≤ p2 ∧ p2 ≤ 19) (h8 : 0 ≤ p3 ∧ p3 ≤ 9) (h9 : 0 ≤ z297 ∧ z297 ≤ 1) (h10 : 0 ≤ z313 ∧ z313 ≤ 399) : (40 * (4 + p2)) % 40 = 0 := by omega
theorem vc_X12_candidate_18 {z321 z329 z345 : Int} (h0 : z345 = z321) (h1 : (z329 = 1 → 0 ≤ z321)) (h2 : (z329 = 0 → z321 < 0)) (h3 : 0 ≤ z321) (h4 : 0 ≤ z321 ∧ z321 ≤ 9) (h5 : 1 ≤ z329 ∧ z329 ≤ 1) (h6 : (-1) ≤ z345 ∧ z345 ≤ 9) : 0 ≤ z345 ∧ z345 ≤ 9 := by omega
theorem vc_X12_candidate_20 {f_e0 f_e1 f_ties p1 p2 p3 z297 z313 : Int} (h0 : p2 < f_ties) (h1 : (z297 = 0 → f_e0 = p1)) (h2 : (z297 = 1 → ¬ f_e0 = p1)) (h3 : z313 = (((20 * p2) + (10 * z297)) + p3)) (h4 : f_e0 = p1 ∨ f_e1 = p1) (h5 : 0 ≤ f_e0 ∧ f_e0 ≤ 9) (h6 : 0 ≤ f_e1 ∧ f_e1 ≤ 9) (h7 : 1 ≤ f_ties ∧ f_ties ≤ 20) (h8 : 0 ≤ p1 ∧ p1 ≤ 9) (h9 : 0 ≤ p2 ∧ p2 ≤ 19) (h10 : 0 ≤ p3 ∧ p3 ≤ 9) (h11 : 0 ≤ z297 ∧ z297 ≤ 1) (h12 : 0 ≤ z313 ∧ z313 ≤ 399) : ((4 * p2) + (2 * z297)) < 4 * f_ties := by omega
theorem vc_X12_candidate_21 {f_e0 f_ties p1 p2 p3 z297 z313 : Int} (h0 : p2 < f_ties) (h1 : z313 = (((20 * p2) + (10 * z297)) + p3)) (h2 : (z297 = 0 → f_e0 = p1)) (h3 : (z297 = 1 → ¬ f_e0 = p1)) (h4 : 0 ≤ f_e0 ∧ f_e0 ≤ 9) (h5 : 1 ≤ f_ties ∧ f_ties ≤ 20) (h6 : 0 ≤ p1 ∧ p1 ≤ 9) (h7 : 0 ≤ p2 ∧ p2 ≤ 19) (h8 : 0 ≤ p3 ∧ p3 ≤ 9) (h9 : 0 ≤ z297 ∧ z297 ≤ 1) (h10 : 0 ≤ z313 ∧ z313 ≤ 399) : p2 < f_ties := by omega
theorem vc_X12_candidate_22 {f_e0 f_e1 p1 p2 p3 z297 z313 z364 : Int} (h0 : f_e0 = p1 ∨ f_e1 = p1) (h1 : (z297 = 0 → f_e0 = p1)) (h2 : (z297 = 1 → ¬ f_e0 = p1)) (h3 : (f_e0 = p1 → z364 = f_e1) ∧ (¬ f_e0 = p1 → z364 = f_e0)) (h4 : z313 = (((20 * p2) + (10 * z297)) + p3)) (h5 : 0 ≤ f_e0 ∧ f_e0 ≤ 9) (h6 : 0 ≤ f_e1 ∧ f_e1 ≤ 9) (h7 : 0 ≤ p1 ∧ p1 ≤ 9) (h8 : 0 ≤ p2 ∧ p2 ≤ 19) (h9 : 0 ≤ p3 ∧ p3 ≤ 9) (h10 : 0 ≤ z297 ∧ z297 ≤ 1) (h11 : 0 ≤ z313 ∧ z313 ≤ 399) (h12 : 0 ≤ z364 ∧ z364 ≤ 9) : (f_e0 = p1 ∧ f_e1 = z364) ∨ (f_e0 = z364 ∧ f_e1 = p1) := by omega
theorem vc_X12_candidate_23 {z321 z329 z345 : Int} (h0 : (z329 = 1 → 0 ≤ z321)) (h1 : (z329 = 0 → z321 < 0)) (h2 : 0 ≤ z321) (h3 : z345 = z321) (h4 : ¬ z329 = 0) (h5 : 0 ≤ z321 ∧ z321 ≤ 9) (h6 : 1 ≤ z329 ∧ z329 ≤ 1) (h7 : 0 ≤ z345 ∧ z345 ≤ 9) : 0 ≤ z321 := by omega
theorem vc_X12_candidate_24 {z352 z356 : Int} (h0 : z352 = -99999999 ∨ (0 ≤ z352 ∧ z352 < z356)) (h1 : (-99999999) ≤ z352 ∧ z352 ≤ 11) (h2 : z352 = -99999999 ∨ (0 ≤ z352 ∧ z352 ≤ 11)) (h3 : 0 ≤ z356 ∧ z356 ≤ 12) : z352 = -99999999 ∨ (0 ≤ z352 ∧ z352 < z356) := by omega
theorem vc_X12_candidate_25 {z321 z329 z345 z370 : Int} (h0 : z370 = z321) (h1 : (z329 = 1 → 0 ≤ z321)) (h2 : (z329 = 0 → z321 < 0)) (h3 : 0 ≤ z321) (h4 : z345 = z321) (h5 : 0 ≤ z321 ∧ z321 ≤ 9) (h6 : 1 ≤ z329 ∧ z329 ≤ 1) (h7 : 0 ≤ z345 ∧ z345 ≤ 9) (h8 : (-1) ≤ z370 ∧ z370 ≤ 9) : 0 ≤ z370 ∧ z370 ≤ 9 := by omega
theorem vc_X12_candidate_28 {f_e0 f_ties p1 p2 p3 z297 z313 : Int} (h0 : p2 < f_ties) (h1 : z313 = (((20 * p2) + (10 * z297)) + p3)) (h2 : (z297 = 0 → f_e0 = p1)) (h3 : (z297 = 1 → ¬ f_e0 = p1)) (h4 : 0 ≤ f_e0 ∧ f_e0 ≤ 9) (h5 : 1 ≤ f_ties ∧ f_ties ≤ 20) (h6 : 0 ≤ p1 ∧ p1 ≤ 9) (h7 : 0 ≤ p2 ∧ p2 ≤ 19) (h8 : 0 ≤ p3 ∧ p3 ≤ 9) (h9 : 0 ≤ z297 ∧ z297 ≤ 1) (h10 : 0 ≤ z313 ∧ z313 ≤ 399) : ((40 * p2) + 160) ≤ (40 * (4 + p2)) ∧ ((40 * (4 + p2)) + 40) ≤ ((40 * p2) + 200) := by omega
theorem vc_X12_candidate_29 {f_e0 f_ties p1 p2 p3 z297 z313 : Int} (h0 : p2 < f_ties) (h1 : z313 = (((20 * p2) + (10 * z297)) + p3)) (h2 : (z297 = 0 → f_e0 = p1)) (h3 : (z297 = 1 → ¬ f_e0 = p1)) (h4 : 0 ≤ f_e0 ∧ f_e0 ≤ 9) (h5 : 1 ≤ f_ties ∧ f_ties ≤ 20) (h6 : 0 ≤ p1 ∧ p1 ≤ 9) (h7 : 0 ≤ p2 ∧ p2 ≤ 19) (h8 : 0 ≤ p3 ∧ p3 ≤ 9) (h9 : 0 ≤ z297 ∧ z297 ≤ 1) (h10 : 0 ≤ z313 ∧ z313 ≤ 399) : ((40 * p2) + 160) ≤ ((40 * (4 + p2)) + 1) ∧ ((40 * (4 + p2)) + 40) ≤ ((40 * p2) + 200) := by omega
theorem vc_X12_candidates_2  : (160 : Int) ≤ (160 : Int) ∧ (960 : Int) ≤ (960 : Int) := by omega
theorem vc_X12_candidates_5 {p1 z468 z471 z478 : Int} (h0 : z478 = 0) (h1 : (z478 = 1 → z468 = p1 ∨ z471 = p1)) (h2 : (z478 = 0 → ¬ z468 = p1 ∧ ¬ z471 = p1)) (h3 : 0 ≤ p1 ∧ p1 ≤ 9) (h4 : 0 ≤ z468 ∧ z468 ≤ 9) (h5 : 0 ≤ z471 ∧ z471 ≤ 9) (h6 : 0 ≤ z478 ∧ z478 ≤ 1) : 0 ≤ z478 ∧ z478 ≤ 0 := by omega
theorem vc_X12_candidates_6 {p1 z468 z471 z478 : Int} (h0 : (z478 = 1 → z468 = p1 ∨ z471 = p1)) (h1 : (z478 = 0 → ¬ z468 = p1 ∧ ¬ z471 = p1)) (h2 : z478 = 0) (h3 : 0 ≤ p1 ∧ p1 ≤ 9) (h4 : 0 ≤ z468 ∧ z468 ≤ 9) (h5 : 0 ≤ z471 ∧ z471 ≤ 9) (h6 : 0 ≤ z478 ∧ z478 ≤ 0) : z478 = 0 := by omega
theorem vc_X12_candidates_7 {z419 z429 : Int} (h0 : z419 < z429) (h1 : 0 ≤ z419 ∧ z419 ≤ 19) (h2 : 1 ≤ z429 ∧ z429 ≤ 20) : 0 ≤ (40 * (4 + z419)) := by omega
theorem vc_X12_candidates_8 {z419 z429 : Int} (h0 : z419 < z429) (h1 : 0 ≤ z419 ∧ z419 ≤ 19) (h2 : 1 ≤ z429 ∧ z429 ≤ 20) : (40 * (4 + z419)) % 40 = 0 := by omega
theorem vc_X12_candidates_11 {z419 z429 : Int} (h0 : z419 < z429) (h1 : 0 ≤ z419 ∧ z419 ≤ 19) (h2 : 1 ≤ z429 ∧ z429 ≤ 20) : 160 ≤ (40 * (4 + z419)) ∧ ((40 * (4 + z419)) + 1) ≤ 960 := by omega
theorem vc_X12_candidates_12 {p1 z468 z471 z478 : Int} (h0 : ¬ z478 = 0) (h1 : (z478 = 1 → z468 = p1 ∨ z471 = p1)) (h2 : (z478 = 0 → ¬ z468 = p1 ∧ ¬ z471 = p1)) (h3 : 0 ≤ p1 ∧ p1 ≤ 9) (h4 : 0 ≤ z468 ∧ z468 ≤ 9) (h5 : 0 ≤ z471 ∧ z471 ≤ 9) (h6 : 0 ≤ z478 ∧ z478 ≤ 1) : 1 ≤ z478 ∧ z478 ≤ 1 := by omega
theorem vc_X12_candidates_13 {p1 z468 z471 z478 : Int} (h0 : (z478 = 1 → z468 = p1 ∨ z471 = p1)) (h1 : (z478 = 0 → ¬ z468 = p1 ∧ ¬ z471 = p1)) (h2 : ¬ z478 = 0) (h3 : 0 ≤ p1 ∧ p1 ≤ 9) (h4 : 0 ≤ z468 ∧ z468 ≤ 9) (h5 : 0 ≤ z471 ∧ z471 ≤ 9) (h6 : 1 ≤ z478 ∧ z478 ≤ 1) : z478 = 1 := by omega
theorem vc_X12_candidates_14 {z419 z429 : Int} (h0 : z419 < z429) (h1 : 0 ≤ z419 ∧ z419 ≤ 19) (h2 : 1 ≤ z429 ∧ z429 ≤ 20) : z419 < z429 := by omega
theorem vc_X12_candidates_15 {p1 z468 z471 z478 : Int} (h0 : (z478 = 1 → z468 = p1 ∨ z471 = p1)) (h1 : (z478 = 0 → ¬ z468 = p1 ∧ ¬ z471 = p1)) (h2 : z468 = p1 ∨ z471 = p1) (h3 : ¬ z478 = 0) (h4 : 0 ≤ p1 ∧ p1 ≤ 9) (h5 : 0 ≤ z468 ∧ z468 ≤ 9) (h6 : 0 ≤ z471 ∧ z471 ≤ 9) (h7 : 1 ≤ z478 ∧ z478 ≤ 1) : z468 = p1 ∨ z471 = p1 := by omega
theorem vc_X12_candidates_16 {z419 z429 : Int} (h0 : z419 < z429) (h1 : 0 ≤ z419 ∧ z419 ≤ 19) (h2 : 1 ≤ z429 ∧ z429 ≤ 20) : 160 ≤ ((40 * z419) + 160) ∧ ((40 * z419) + 200) ≤ 960 := by omega
theorem vc_X12_isBelow_1 {p1 p2 z1 z4 : Int} (h0 : (z1 - (p1 + (-2147483648))) % 4294967296 = 0) (h1 : (z4 - (p2 + (-2147483648))) % 4294967296 = 0) (h2 : z4 ≤ z1) (h3 : (-2147483648) ≤ p1 ∧ p1 ≤ 2147483647) (h4 : (-2147483648) ≤ p2 ∧ p2 ≤ 2147483647) (h5 : (-2147483648) ≤ z1 ∧ z1 ≤ 2147483647) (h6 : (-2147483648) ≤ z4 ∧ z4 ≤ 2147483647) : (0 : Int) = 1 → p1 % 4294967296 < p2 % 4294967296 := by omega
theorem vc_X12_isBelow_2 {p1 p2 z1 z4 : Int} (h0 : (z1 - (p1 + (-2147483648))) % 4294967296 = 0) (h1 : (z4 - (p2 + (-2147483648))) % 4294967296 = 0) (h2 : z4 ≤ z1) (h3 : (-2147483648) ≤ p1 ∧ p1 ≤ 2147483647) (h4 : (-2147483648) ≤ p2 ∧ p2 ≤ 2147483647) (h5 : (-2147483648) ≤ z1 ∧ z1 ≤ 2147483647) (h6 : (-2147483648) ≤ z4 ∧ z4 ≤ 2147483647) : (0 : Int) = 0 → p2 % 4294967296 ≤ p1 % 4294967296 := by omega
theorem vc_X12_isBelow_3 {p1 p2 z1 z4 : Int} (h0 : z1 < z4) (h1 : (z1 - (p1 + (-2147483648))) % 4294967296 = 0) (h2 : (z4 - (p2 + (-2147483648))) % 4294967296 = 0) (h3 : (-2147483648) ≤ p1 ∧ p1 ≤ 2147483647) (h4 : (-2147483648) ≤ p2 ∧ p2 ≤ 2147483647) (h5 : (-2147483648) ≤ z1 ∧ z1 ≤ 2147483647) (h6 : (-2147483648) ≤ z4 ∧ z4 ≤ 2147483647) : (-2147483648) ≤ z1 ∧ z1 ≤ 2147483646 := by omega
theorem vc_X12_isBelow_4 {p1 p2 z1 z4 : Int} (h0 : z1 < z4) (h1 : (z1 - (p1 + (-2147483648))) % 4294967296 = 0) (h2 : (z4 - (p2 + (-2147483648))) % 4294967296 = 0) (h3 : (-2147483648) ≤ p1 ∧ p1 ≤ 2147483647) (h4 : (-2147483648) ≤ p2 ∧ p2 ≤ 2147483647) (h5 : (-2147483648) ≤ z1 ∧ z1 ≤ 2147483646) (h6 : (-2147483648) ≤ z4 ∧ z4 ≤ 2147483647) : (-2147483647) ≤ z4 ∧ z4 ≤ 2147483647 := by omega
theorem vc_X12_isBelow_5 {p1 p2 z1 z4 : Int} (h0 : (z1 - (p1 + (-2147483648))) % 4294967296 = 0) (h1 : (z4 - (p2 + (-2147483648))) % 4294967296 = 0) (h2 : z1 < z4) (h3 : (-2147483648) ≤ p1 ∧ p1 ≤ 2147483647) (h4 : (-2147483648) ≤ p2 ∧ p2 ≤ 2147483647) (h5 : (-2147483648) ≤ z1 ∧ z1 ≤ 2147483646) (h6 : (-2147483647) ≤ z4 ∧ z4 ≤ 2147483647) : (1 : Int) = 1 → p1 % 4294967296 < p2 % 4294967296 := by omega
theorem vc_X12_isBelow_6 {p1 p2 z1 z4 : Int} (h0 : (z1 - (p1 + (-2147483648))) % 4294967296 = 0) (h1 : (z4 - (p2 + (-2147483648))) % 4294967296 = 0) (h2 : z1 < z4) (h3 : (-2147483648) ≤ p1 ∧ p1 ≤ 2147483647) (h4 : (-2147483648) ≤ p2 ∧ p2 ≤ 2147483647) (h5 : (-2147483648) ≤ z1 ∧ z1 ≤ 2147483646) (h6 : (-2147483647) ≤ z4 ∧ z4 ≤ 2147483647) : (1 : Int) = 0 → p2 % 4294967296 ≤ p1 % 4294967296 := by omega
set_option maxRecDepth 4000 in
set_option maxHeartbeats 4000000 in
theorem c_X12_isBelow {l : Launch} {D : va_G} {c : Nat → ClassId} {H0 : Heap} {sa : Nat × Nat × (Nat → Int32)} {w : mW} {μ : mM} (hw : mWF w) (hT : mT w μ) {p1 : Int} (hp1 : (-2147483648) ≤ p1 ∧ p1 ≤ 2147483647) {p2 : Int} (hp2 : (-2147483648) ≤ p2 ∧ p2 ≤ 2147483647) : sC (gG l D c H0 sa) mX12_isBelow 1 0 0 [iv p1, iv p2] (mk w μ) (qP w μ (fun z => (0 ≤ z ∧ z ≤ 1) ∧ (z = 1 → p1 % 4294967296 < p2 % 4294967296) ∧ (z = 0 → p2 % 4294967296 ≤ p1 % 4294967296) ∧ True)) := by
  refine sC.of rfl (by decide) (le_t rfl) ?_
  refine mr_lvE (lv' := [(0, iv p1), (1, iv p2)]) rfl ?_
  refine mr_iload_n (pc := 0) (z := p1) dX12_isBelow_0 rfl rfl ?_
  refine mr_ldcw (pc := 1) (z := (-2147483648)) dX12_isBelow_1 wG_X12_571 (by decide) ?_
  refine mr_iadd (pc := 4) (x := p1) (y := (-2147483648)) dX12_isBelow_4 ?_
  refine mr_wrapF fun z1 h2 h3 => ?_
  refine mr_iload_n (pc := 5) (z := p2) dX12_isBelow_5 rfl rfl ?_
  refine mr_ldcw (pc := 6) (z := (-2147483648)) dX12_isBelow_6 wG_X12_571 (by decide) ?_
  refine mr_iadd (pc := 9) (x := p2) (y := (-2147483648)) dX12_isBelow_9 ?_
  refine mr_wrapF fun z4 h5 h6 => ?_
  refine mr_icmp_ge (pc := 10) (tgt := 17) dX12_isBelow_10 (by decide) h2 h5 (fun h9 => ?_) (fun h9 => ?_)
  · refine mr_iconst (pc := 17) (z := 0) dX12_isBelow_17 ?_
    exact mr_zretP dX12_isBelow_18 rfl (rW (c := 0) (d := 1) (rR (x := 0)) rfl) (le_t rfl) (le_t rfl) ⟨(rW (c := 0) (d := 1) (rR (x := 0)) rfl), (vc_X12_isBelow_1 h3 h6 h9 hp1 hp2 h2 h5), (vc_X12_isBelow_2 h3 h6 h9 hp1 hp2 h2 h5), trivial⟩
  have h10 : (-2147483648) ≤ z1 ∧ z1 ≤ 2147483646 := (vc_X12_isBelow_3 h9 h3 h6 hp1 hp2 h2 h5)
  have h11 : (-2147483647) ≤ z4 ∧ z4 ≤ 2147483647 := (vc_X12_isBelow_4 h9 h3 h6 hp1 hp2 h10 h5)
  refine mr_iconst (pc := 13) (z := 1) dX12_isBelow_13 ?_
  refine sv_goto (pc := 14) (tgt := 18) dX12_isBelow_14 (by decide) ?_
  exact mr_zretP dX12_isBelow_18 rfl (rW (c := 0) (d := 1) (rR (x := 1)) rfl) (le_t rfl) (le_t rfl) ⟨(rW (c := 0) (d := 1) (rR (x := 1)) rfl), (vc_X12_isBelow_5 h3 h6 h9 hp1 hp2 h10 h11), (vc_X12_isBelow_6 h3 h6 h9 hp1 hp2 h10 h11), trivial⟩
theorem vc_X12_best_l_1 {f_ties z383 z384 : Int} (h0 : (21 - z383) < ((0 : Nat) : Int)) (h1 : z384 < z383) (h2 : z383 ≤ f_ties) (h3 : 0 ≤ f_ties ∧ f_ties ≤ 20) (h4 : 0 ≤ z383 ∧ z383 ≤ 20) (h5 : (-99999999) ≤ z384 ∧ z384 ≤ 19) (h6 : z384 = (-99999999) ∨ (0 ≤ z384 ∧ z384 ≤ 19)) : False := by omega
theorem vc_X12_best_l_2 {f_ties z383 z384 : Int} (h0 : z384 < z383) (h1 : z383 ≤ f_ties) (h2 : f_ties ≤ z383) (h3 : 0 ≤ f_ties ∧ f_ties ≤ 20) (h4 : 0 ≤ z383 ∧ z383 ≤ 20) (h5 : (-99999999) ≤ z384 ∧ z384 ≤ 19) (h6 : z384 = (-99999999) ∨ (0 ≤ z384 ∧ z384 ≤ 19)) : z384 = -99999999 ∨ (0 ≤ z384 ∧ z384 ≤ 19) := by omega
theorem vc_X12_best_l_3 {f_ties z383 z384 : Int} (h0 : z384 < z383) (h1 : z383 ≤ f_ties) (h2 : f_ties ≤ z383) (h3 : 0 ≤ f_ties ∧ f_ties ≤ 20) (h4 : 0 ≤ z383 ∧ z383 ≤ 20) (h5 : (-99999999) ≤ z384 ∧ z384 ≤ 19) (h6 : z384 = (-99999999) ∨ (0 ≤ z384 ∧ z384 ≤ 19)) : z384 < f_ties := by omega
theorem vc_X12_best_l_4 {f_ties z383 z384 : Int} (h0 : z384 < z383) (h1 : z383 ≤ f_ties) (h2 : f_ties ≤ z383) (h3 : 0 ≤ f_ties ∧ f_ties ≤ 20) (h4 : 0 ≤ z383 ∧ z383 ≤ 20) (h5 : (-99999999) ≤ z384 ∧ z384 ≤ 19) (h6 : z384 = (-99999999) ∨ (0 ≤ z384 ∧ z384 ≤ 19)) : z383 = f_ties := by omega
theorem vc_X12_best_l_5 {f_ties z383 z384 : Int} (h0 : z383 < f_ties) (h1 : z384 < z383) (h2 : z383 ≤ f_ties) (h3 : 0 ≤ f_ties ∧ f_ties ≤ 20) (h4 : 0 ≤ z383 ∧ z383 ≤ 20) (h5 : (-99999999) ≤ z384 ∧ z384 ≤ 19) (h6 : z384 = (-99999999) ∨ (0 ≤ z384 ∧ z384 ≤ 19)) : 0 ≤ z383 ∧ z383 ≤ 19 := by omega
theorem vc_X12_best_l_6 {f_ties z383 z384 : Int} (h0 : z383 < f_ties) (h1 : z384 < z383) (h2 : z383 ≤ f_ties) (h3 : 0 ≤ f_ties ∧ f_ties ≤ 20) (h4 : 0 ≤ z383 ∧ z383 ≤ 19) (h5 : (-99999999) ≤ z384 ∧ z384 ≤ 19) (h6 : z384 = (-99999999) ∨ (0 ≤ z384 ∧ z384 ≤ 19)) : 1 ≤ f_ties ∧ f_ties ≤ 20 := by omega
theorem vc_X12_best_l_8 {f_ties z383 z384 : Int} (h0 : z384 < z383) (h1 : z383 ≤ f_ties) (h2 : z383 < f_ties) (h3 : 1 ≤ f_ties ∧ f_ties ≤ 20) (h4 : 0 ≤ z383 ∧ z383 ≤ 19) (h5 : (-99999999) ≤ z384 ∧ z384 ≤ 19) (h6 : z384 = (-99999999) ∨ (0 ≤ z384 ∧ z384 ≤ 19)) : z384 < (z383 + 1) := by omega
theorem vc_X12_best_l_9 {f_ties z383 z384 : Int} (h0 : z384 < z383) (h1 : z383 ≤ f_ties) (h2 : z383 < f_ties) (h3 : 1 ≤ f_ties ∧ f_ties ≤ 20) (h4 : 0 ≤ z383 ∧ z383 ≤ 19) (h5 : (-99999999) ≤ z384 ∧ z384 ≤ 19) (h6 : z384 = (-99999999) ∨ (0 ≤ z384 ∧ z384 ≤ 19)) : (z383 + 1) ≤ f_ties := by omega
theorem vc_X12_best_l_10 {N f_ties z383 z384 : Int} (h0 : (21 - z383) < N + 1) (h1 : z384 < z383) (h2 : z383 ≤ f_ties) (h3 : z383 < f_ties) (h4 : 1 ≤ f_ties ∧ f_ties ≤ 20) (h5 : 0 ≤ z383 ∧ z383 ≤ 19) (h6 : (-99999999) ≤ z384 ∧ z384 ≤ 19) (h7 : z384 = (-99999999) ∨ (0 ≤ z384 ∧ z384 ≤ 19)) : (21 - (z383 + 1)) < N := by omega
theorem vc_X12_best_l_11 {f_ties z383 z384 z416 : Int} (h0 : z384 < z383) (h1 : z416 = 0) (h2 : z383 ≤ f_ties) (h3 : z383 < f_ties) (h4 : 1 ≤ f_ties ∧ f_ties ≤ 20) (h5 : 0 ≤ z383 ∧ z383 ≤ 19) (h6 : (-99999999) ≤ z384 ∧ z384 ≤ 19) (h7 : z384 = (-99999999) ∨ (0 ≤ z384 ∧ z384 ≤ 19)) (h8 : 0 ≤ z416 ∧ z416 ≤ 0) : ¬ z416 = 1 ∨ ¬ z384 = -99999999 := by omega
theorem vc_X12_best_l_12 {f_ties z383 z384 : Int} (h0 : z384 < z383) (h1 : z383 ≤ f_ties) (h2 : z383 < f_ties) (h3 : 1 ≤ f_ties ∧ f_ties ≤ 20) (h4 : 0 ≤ z383 ∧ z383 ≤ 19) (h5 : (-99999999) ≤ z384 ∧ z384 ≤ 19) (h6 : z384 = (-99999999) ∨ (0 ≤ z384 ∧ z384 ≤ 19)) : z384 = (-99999999) ∨ (0 ≤ z384 ∧ z384 ≤ 19) := by omega
theorem vc_X12_best_l_14 {z383 z384 : Int} (h0 : z384 = (-99999999)) (h1 : z384 < z383) (h2 : 0 ≤ z383 ∧ z383 ≤ 19) (h3 : (-99999999) ≤ z384 ∧ z384 ≤ 19) (h4 : z384 = (-99999999) ∨ (0 ≤ z384 ∧ z384 ≤ 19)) : (-99999999) ≤ z384 ∧ z384 ≤ (-99999999) := by omega
theorem vc_X12_best_l_15 {f_ties z383 z384 : Int} (h0 : z384 < z383) (h1 : z383 ≤ f_ties) (h2 : z383 < f_ties) (h3 : z384 = (-99999999)) (h4 : 1 ≤ f_ties ∧ f_ties ≤ 20) (h5 : 0 ≤ z383 ∧ z383 ≤ 19) (h6 : (-99999999) ≤ z384 ∧ z384 ≤ (-99999999)) (h7 : z384 = (-99999999) ∨ (0 ≤ z384 ∧ z384 ≤ 19)) : z383 < (z383 + 1) := by omega
theorem vc_X12_best_l_16 {f_ties z383 z384 : Int} (h0 : z384 < z383) (h1 : z383 ≤ f_ties) (h2 : z383 < f_ties) (h3 : z384 = (-99999999)) (h4 : 1 ≤ f_ties ∧ f_ties ≤ 20) (h5 : 0 ≤ z383 ∧ z383 ≤ 19) (h6 : (-99999999) ≤ z384 ∧ z384 ≤ (-99999999)) (h7 : z384 = (-99999999) ∨ (0 ≤ z384 ∧ z384 ≤ 19)) : (z383 + 1) ≤ f_ties := by omega
theorem vc_X12_best_l_17 {N f_ties z383 z384 : Int} (h0 : (21 - z383) < N + 1) (h1 : z384 < z383) (h2 : z383 ≤ f_ties) (h3 : z383 < f_ties) (h4 : z384 = (-99999999)) (h5 : 1 ≤ f_ties ∧ f_ties ≤ 20) (h6 : 0 ≤ z383 ∧ z383 ≤ 19) (h7 : (-99999999) ≤ z384 ∧ z384 ≤ (-99999999)) (h8 : z384 = (-99999999) ∨ (0 ≤ z384 ∧ z384 ≤ 19)) : (21 - (z383 + 1)) < N := by omega
theorem vc_X12_best_l_18 {z416 : Int} (h0 : ¬ z416 = 0) (h1 : 1 ≤ z416 ∧ z416 ≤ 1) : z416 = 1 := by omega
theorem vc_X12_best_l_19 {f_ties z383 z384 : Int} (h0 : z384 < z383) (h1 : z383 ≤ f_ties) (h2 : z383 < f_ties) (h3 : z384 = (-99999999)) (h4 : 1 ≤ f_ties ∧ f_ties ≤ 20) (h5 : 0 ≤ z383 ∧ z383 ≤ 19) (h6 : (-99999999) ≤ z384 ∧ z384 ≤ (-99999999)) (h7 : z384 = (-99999999) ∨ (0 ≤ z384 ∧ z384 ≤ 19)) : 0 ≤ z383 := by omega
theorem vc_X12_best_l_20 {f_ties z383 z384 : Int} (h0 : z384 < z383) (h1 : z383 ≤ f_ties) (h2 : z383 < f_ties) (h3 : z384 = (-99999999)) (h4 : 1 ≤ f_ties ∧ f_ties ≤ 20) (h5 : 0 ≤ z383 ∧ z383 ≤ 19) (h6 : (-99999999) ≤ z384 ∧ z384 ≤ (-99999999)) (h7 : z384 = (-99999999) ∨ (0 ≤ z384 ∧ z384 ≤ 19)) : z383 = (-99999999) ∨ (0 ≤ z383 ∧ z383 ≤ 19) := by omega
theorem vc_X12_best_l_21 {z383 z384 : Int} (h0 : ¬ z384 = (-99999999)) (h1 : z384 < z383) (h2 : 0 ≤ z383 ∧ z383 ≤ 19) (h3 : (-99999999) ≤ z384 ∧ z384 ≤ 19) (h4 : z384 = (-99999999) ∨ (0 ≤ z384 ∧ z384 ≤ 19)) : 0 ≤ z384 ∧ z384 ≤ 19 := by omega
theorem vc_X12_best_l_23 {f_ties z383 z384 : Int} (h0 : z384 < z383) (h1 : z383 ≤ f_ties) (h2 : z383 < f_ties) (h3 : ¬ z384 = (-99999999)) (h4 : 1 ≤ f_ties ∧ f_ties ≤ 20) (h5 : 0 ≤ z383 ∧ z383 ≤ 19) (h6 : 0 ≤ z384 ∧ z384 ≤ 19) (h7 : z384 = (-99999999) ∨ (0 ≤ z384 ∧ z384 ≤ 19)) : z384 < (z383 + 1) := by omega
theorem vc_X12_best_l_24 {f_ties z383 z384 : Int} (h0 : z384 < z383) (h1 : z383 ≤ f_ties) (h2 : z383 < f_ties) (h3 : ¬ z384 = (-99999999)) (h4 : 1 ≤ f_ties ∧ f_ties ≤ 20) (h5 : 0 ≤ z383 ∧ z383 ≤ 19) (h6 : 0 ≤ z384 ∧ z384 ≤ 19) (h7 : z384 = (-99999999) ∨ (0 ≤ z384 ∧ z384 ≤ 19)) : (z383 + 1) ≤ f_ties := by omega
theorem vc_X12_best_l_25 {N f_ties z383 z384 : Int} (h0 : (21 - z383) < N + 1) (h1 : z384 < z383) (h2 : z383 ≤ f_ties) (h3 : z383 < f_ties) (h4 : ¬ z384 = (-99999999)) (h5 : 1 ≤ f_ties ∧ f_ties ≤ 20) (h6 : 0 ≤ z383 ∧ z383 ≤ 19) (h7 : 0 ≤ z384 ∧ z384 ≤ 19) (h8 : z384 = (-99999999) ∨ (0 ≤ z384 ∧ z384 ≤ 19)) : (21 - (z383 + 1)) < N := by omega
theorem vc_X12_best_l_26 {f_ties z383 z384 z416 : Int} (h0 : z384 < z383) (h1 : ¬ z416 = 0) (h2 : ¬ z384 = (-99999999)) (h3 : z383 ≤ f_ties) (h4 : z383 < f_ties) (h5 : 1 ≤ f_ties ∧ f_ties ≤ 20) (h6 : 0 ≤ z383 ∧ z383 ≤ 19) (h7 : 0 ≤ z384 ∧ z384 ≤ 19) (h8 : z384 = (-99999999) ∨ (0 ≤ z384 ∧ z384 ≤ 19)) (h9 : 1 ≤ z416 ∧ z416 ≤ 1) : ¬ z416 = 1 ∨ ¬ z384 = -99999999 := by omega
theorem vc_X12_best_l_27 {f_ties z383 z384 : Int} (h0 : z384 < z383) (h1 : ¬ z384 = (-99999999)) (h2 : z383 ≤ f_ties) (h3 : z383 < f_ties) (h4 : 1 ≤ f_ties ∧ f_ties ≤ 20) (h5 : 0 ≤ z383 ∧ z383 ≤ 19) (h6 : 0 ≤ z384 ∧ z384 ≤ 19) (h7 : z384 = (-99999999) ∨ (0 ≤ z384 ∧ z384 ≤ 19)) : z384 = (-99999999) ∨ (0 ≤ z384 ∧ z384 ≤ 19) := by omega
theorem vc_X12_best_l_29 {f_ties z383 z384 : Int} (h0 : z384 < z383) (h1 : z383 ≤ f_ties) (h2 : z383 < f_ties) (h3 : ¬ z384 = (-99999999)) (h4 : 1 ≤ f_ties ∧ f_ties ≤ 20) (h5 : 0 ≤ z383 ∧ z383 ≤ 19) (h6 : 0 ≤ z384 ∧ z384 ≤ 19) (h7 : z384 = (-99999999) ∨ (0 ≤ z384 ∧ z384 ≤ 19)) : z383 < (z383 + 1) := by omega
theorem vc_X12_best_l_30 {f_ties z383 z384 : Int} (h0 : z384 < z383) (h1 : z383 ≤ f_ties) (h2 : z383 < f_ties) (h3 : ¬ z384 = (-99999999)) (h4 : 1 ≤ f_ties ∧ f_ties ≤ 20) (h5 : 0 ≤ z383 ∧ z383 ≤ 19) (h6 : 0 ≤ z384 ∧ z384 ≤ 19) (h7 : z384 = (-99999999) ∨ (0 ≤ z384 ∧ z384 ≤ 19)) : 0 ≤ z383 := by omega
theorem vc_X12_best_l_31 {f_ties z383 z384 : Int} (h0 : z384 < z383) (h1 : z383 ≤ f_ties) (h2 : z383 < f_ties) (h3 : ¬ z384 = (-99999999)) (h4 : 1 ≤ f_ties ∧ f_ties ≤ 20) (h5 : 0 ≤ z383 ∧ z383 ≤ 19) (h6 : 0 ≤ z384 ∧ z384 ≤ 19) (h7 : z384 = (-99999999) ∨ (0 ≤ z384 ∧ z384 ≤ 19)) : z383 = (-99999999) ∨ (0 ≤ z383 ∧ z383 ≤ 19) := by omega
theorem vc_X12_best_l_32  : (((-99999999) : Int) : Int) < ((0 : Int) : Int) := by omega
theorem vc_X12_best_l_33 {f_ties : Int} (h0 : 0 ≤ f_ties ∧ f_ties ≤ 20) : (0 : Int) ≤ f_ties := by omega
theorem vc_X12_best_l_35  : (((-99999999) : Int) : Int) = ((-99999999) : Int) ∨ ((0 : Int) ≤ (((-99999999) : Int) : Int) ∧ (((-99999999) : Int) : Int) ≤ (19 : Int)) := by omega
set_option maxRecDepth 4000 in
set_option maxHeartbeats 4000000 in
theorem c_X12_best_l {l : Launch} {D : va_G} {c : Nat → ClassId} {H0 : Heap} {sa : Nat × Nat × (Nat → Int32)} {w : mW} {μ : mM} (hw : mWF w) (hT : mT w μ) {p1 : Int} (hp1 : 0 ≤ p1 ∧ p1 ≤ 9) {p2 : Int} (hp2 : 0 ≤ p2 ∧ p2 ≤ 9) {f_ties : Int} (q_f_ties : μ 106 6 = f_ties) : sC (gG l D c H0 sa) mX12_best 4 0 0 [.ref 106, iv p1, iv p2] (mk w μ) (qP w μ (fun z => ((-99999999) ≤ z ∧ z ≤ 19) ∧ (z = -99999999 ∨ (0 ≤ z ∧ z ≤ 19)) ∧ (z < f_ties) ∧ (bestOK μ f_ties z) ∧ True)) := by
  refine sC.of rfl (by decide) (le_t rfl) ?_
  have ht_f_ties : (0 ≤ f_ties ∧ f_ties ≤ 20) := by rw [← q_f_ties]; exact hT 106 106 (A_106 hw) 6
  refine mr_lvE (lv' := [(0, .ref 106), (1, iv p1), (2, iv p2)]) rfl ?_
  refine mr_ldc (pc := 0) (z := (-99999999)) dX12_best_0 wG_X12_29 (by decide) ?_
  refine mr_istore_n (pc := 2) (lv' := [(3, iv (-99999999)), (0, .ref 106), (1, iv p1), (2, iv p2)]) dX12_best_2 rfl (by decide) rfl ?_
  refine mr_iconst (pc := 3) (z := 0) dX12_best_3 ?_
  refine mr_istore (pc := 4) (lv' := [(4, iv 0), (3, iv (-99999999)), (0, .ref 106), (1, iv p1), (2, iv p2)]) dX12_best_4 (by decide) rfl ?_
  have L385 : ∀ (nL385 : Nat) (z384 z383 : Int), True → ((-99999999) ≤ z384 ∧ z384 ≤ 19) → (0 ≤ z383 ∧ z383 ≤ 20) → (z384 < z383) → (z383 ≤ f_ties) → bestOK μ z383 z384 → (z384 = (-99999999) ∨ (0 ≤ z384 ∧ z384 ≤ 19)) → (21 - z383) < (nL385 : Int) → sV (gG l D c H0 sa) mX12_best (sRm 4 0 0) (sZ (gG l D c H0 sa) 0 0 (qP w μ (fun z => ((-99999999) ≤ z ∧ z ≤ 19) ∧ (z = -99999999 ∨ (0 ≤ z ∧ z ≤ 19)) ∧ (z < f_ties) ∧ (bestOK μ f_ties z) ∧ True))) 6 [(0, .ref 106), (1, iv p1), (2, iv p2), (3, iv z384), (4, iv z383)] [] (mk w μ) 0 0 := by
    intro nL385
    induction nL385 with
    | zero => intro z384 z383 _ h386 h387 h391 h392 R393 h394 h395; exact ((vc_X12_best_l_1 h395 h391 h392 ht_f_ties h387 h386 h394)).elim
    | succ nL385 ih396 =>
      intro z384 z383 _ h386 h387 h391 h392 R393 h394 h395
      refine mr_iload (pc := 6) (z := z383) dX12_best_6 rfl ?_
      refine sv_aload_n (pc := 8) dX12_best_8 rfl rfl ?_
      refine gk_X12_6 (pc := 9) dX12_best_9 wF_X12_37 (A_106 hw) q_f_ties ?_
      refine mr_icmp_ge (pc := 12) (tgt := 52) dX12_best_12 (by decide) (r32 h387 rfl) (r32 ht_f_ties rfl) (fun h413 => ?_) (fun h413 => ?_)
      · refine mr_iload_n (pc := 52) (z := z384) dX12_best_52 rfl rfl ?_
        exact mr_iretP dX12_best_53 rfl (le_t rfl) (le_t rfl) ⟨h386, (vc_X12_best_l_2 h391 h392 h413 ht_f_ties h387 h386 h394), (vc_X12_best_l_3 h391 h392 h413 ht_f_ties h387 h386 h394), (by have h := R393; rw [show z383 = f_ties from (vc_X12_best_l_4 h391 h392 h413 ht_f_ties h387 h386 h394)] at h; exact h), trivial⟩
      have h414 : 0 ≤ z383 ∧ z383 ≤ 19 := (vc_X12_best_l_5 h413 h391 h392 ht_f_ties h387 h386 h394)
      have h415 : 1 ≤ f_ties ∧ f_ties ≤ 20 := (vc_X12_best_l_6 h413 h391 h392 ht_f_ties h414 h386 h394)
      refine sv_aload_n (pc := 15) dX12_best_15 rfl rfl ?_
      refine gf_X12_85 (pc := 16) dX12_best_16 wF_X12_457 (A_106 hw) hT ?_
      refine mr_iload (pc := 19) (z := z383) dX12_best_19 rfl ?_
      refine la_165 (pc := 21) dX12_best_21 (A_165 hw) hT (rIx (n := 20) h414 rfl) fun z416 q417 h418 => ?_
      refine mr_if_eq (pc := 22) (tgt := 46) dX12_best_22 (by decide) (r32 h418 rfl) (fun h419 => ?_) (fun h419 => ?_)
      · have h420 : 0 ≤ z416 ∧ z416 ≤ 0 := (vc_X12_ring_22 h419 h418)
        refine mr_iinc (pc := 46) (lv' := [(4, iv (z383 + 1)), (0, .ref 106), (1, iv p1), (2, iv p2), (3, iv z384)]) dX12_best_46 rfl (by decide) rfl ?_
        refine sv_goto (pc := 49) (tgt := 6) dX12_best_49 (by decide) ?_
        refine mr_lvS (lv' := [(0, .ref 106), (1, iv p1), (2, iv p2), (3, iv z384), (4, iv (z383 + 1))]) (List.forall_mem_cons.mpr ⟨rfl, List.forall_mem_cons.mpr ⟨rfl, List.forall_mem_cons.mpr ⟨rfl, List.forall_mem_cons.mpr ⟨rfl, List.forall_mem_cons.mpr ⟨rfl, fun _ h => absurd h List.not_mem_nil⟩⟩⟩⟩⟩) ?_
        exact ih396 z384 (z383 + 1) trivial h386 (rW (c := 0) (d := 20) (rAdd (e := 1) (f := 20) h414 (rR (x := 1)) rfl) rfl) (vc_X12_best_l_8 h391 h392 h413 h415 h414 h386 h394) (vc_X12_best_l_9 h391 h392 h413 h415 h414 h386 h394) (bestOK.not R393 q417 (vc_X12_best_l_11 h391 h419 h392 h413 h415 h414 h386 h394 h420)) (vc_X12_best_l_12 h391 h392 h413 h415 h414 h386 h394) (vc_X12_best_l_10 (nS h395) h391 h392 h413 h415 h414 h386 h394)
      have h421 : 1 ≤ z416 ∧ z416 ≤ 1 := (vc_X12_ring_24 h419 h418)
      refine mr_iload_n (pc := 25) (z := z384) dX12_best_25 rfl rfl ?_
      refine mr_ldc (pc := 26) (z := (-99999999)) dX12_best_26 wG_X12_29 (by decide) ?_
      refine mr_icmp_eq (pc := 28) (tgt := 43) dX12_best_28 (by decide) (r32 h386 rfl) (r32 (rR (x := (-99999999))) rfl) (fun h422 => ?_) (fun h422 => ?_)
      · have h423 : (-99999999) ≤ z384 ∧ z384 ≤ (-99999999) := (vc_X12_best_l_14 h422 h391 h414 h386 h394)
        refine mr_iload (pc := 43) (z := z383) dX12_best_43 rfl ?_
        refine mr_istore_n (pc := 45) (lv' := [(3, iv z383), (0, .ref 106), (1, iv p1), (2, iv p2), (4, iv z383)]) dX12_best_45 rfl (by decide) rfl ?_
        refine mr_iinc (pc := 46) (lv' := [(4, iv (z383 + 1)), (3, iv z383), (0, .ref 106), (1, iv p1), (2, iv p2)]) dX12_best_46 rfl (by decide) rfl ?_
        refine sv_goto (pc := 49) (tgt := 6) dX12_best_49 (by decide) ?_
        refine mr_lvS (lv' := [(0, .ref 106), (1, iv p1), (2, iv p2), (3, iv z383), (4, iv (z383 + 1))]) (List.forall_mem_cons.mpr ⟨rfl, List.forall_mem_cons.mpr ⟨rfl, List.forall_mem_cons.mpr ⟨rfl, List.forall_mem_cons.mpr ⟨rfl, List.forall_mem_cons.mpr ⟨rfl, fun _ h => absurd h List.not_mem_nil⟩⟩⟩⟩⟩) ?_
        exact ih396 z383 (z383 + 1) trivial (rW (c := (-99999999)) (d := 19) h414 rfl) (rW (c := 0) (d := 20) (rAdd (e := 1) (f := 20) h414 (rR (x := 1)) rfl) rfl) (vc_X12_best_l_15 h391 h392 h413 h422 h415 h414 h423 h394) (vc_X12_best_l_16 h391 h392 h413 h422 h415 h414 h423 h394) (bestOK.put q417 (vc_X12_best_l_18 h419 h421) (vc_X12_best_l_19 h391 h392 h413 h422 h415 h414 h423 h394)) (vc_X12_best_l_20 h391 h392 h413 h422 h415 h414 h423 h394) (vc_X12_best_l_17 (nS h395) h391 h392 h413 h422 h415 h414 h423 h394)
      have h424 : 0 ≤ z384 ∧ z384 ≤ 19 := (vc_X12_best_l_21 h422 h391 h414 h386 h394)
      refine sv_aload_n (pc := 31) dX12_best_31 rfl rfl ?_
      refine mr_iload_n (pc := 32) (z := p1) dX12_best_32 rfl rfl ?_
      refine mr_iload (pc := 33) (z := z383) dX12_best_33 rfl ?_
      refine mr_iload_n (pc := 35) (z := z384) dX12_best_35 rfl rfl ?_
      refine mr_iload_n (pc := 36) (z := p2) dX12_best_36 rfl rfl ?_
      refine mr_cVP (pc := 37) (c_X12_beats hw hT hp1 h414 h424 hp2) (gOk _ _ _ _ _) dX12_best_37 (tX12_beats _ _ _ _ _) ⟨wV_X12_beats, wL_X12_beats⟩ wM_X12_568 (gCX12 _ _ _ _ _) rfl (A_106 hw) rfl ⟨le_t rfl, le_t rfl⟩ ⟨le_t rfl, le_t rfl⟩ rfl (le_t rfl) fun z429 h428 => ?_
      refine mr_if_eq (pc := 40) (tgt := 46) dX12_best_40 (by decide) (r32 h428.1 rfl) (fun h430 => ?_) (fun h430 => ?_)
      · have h431 : 0 ≤ z429 ∧ z429 ≤ 0 := (vc_X12_ring_22 h430 h428.1)
        refine mr_iinc (pc := 46) (lv' := [(4, iv (z383 + 1)), (0, .ref 106), (1, iv p1), (2, iv p2), (3, iv z384)]) dX12_best_46 rfl (by decide) rfl ?_
        refine sv_goto (pc := 49) (tgt := 6) dX12_best_49 (by decide) ?_
        refine mr_lvS (lv' := [(0, .ref 106), (1, iv p1), (2, iv p2), (3, iv z384), (4, iv (z383 + 1))]) (List.forall_mem_cons.mpr ⟨rfl, List.forall_mem_cons.mpr ⟨rfl, List.forall_mem_cons.mpr ⟨rfl, List.forall_mem_cons.mpr ⟨rfl, List.forall_mem_cons.mpr ⟨rfl, fun _ h => absurd h List.not_mem_nil⟩⟩⟩⟩⟩) ?_
        exact ih396 z384 (z383 + 1) trivial (rW (c := (-99999999)) (d := 19) h424 rfl) (rW (c := 0) (d := 20) (rAdd (e := 1) (f := 20) h414 (rR (x := 1)) rfl) rfl) (vc_X12_best_l_23 h391 h392 h413 h422 h415 h414 h424 h394) (vc_X12_best_l_24 h391 h392 h413 h422 h415 h414 h424 h394) (bestOK.not R393 q417 (vc_X12_best_l_26 h391 h419 h422 h392 h413 h415 h414 h424 h394 h421)) (vc_X12_best_l_27 h391 h422 h392 h413 h415 h414 h424 h394) (vc_X12_best_l_25 (nS h395) h391 h392 h413 h422 h415 h414 h424 h394)
      have h432 : 1 ≤ z429 ∧ z429 ≤ 1 := (vc_X12_ring_24 h430 h428.1)
      refine mr_iload (pc := 43) (z := z383) dX12_best_43 rfl ?_
      refine mr_istore_n (pc := 45) (lv' := [(3, iv z383), (0, .ref 106), (1, iv p1), (2, iv p2), (4, iv z383)]) dX12_best_45 rfl (by decide) rfl ?_
      refine mr_iinc (pc := 46) (lv' := [(4, iv (z383 + 1)), (3, iv z383), (0, .ref 106), (1, iv p1), (2, iv p2)]) dX12_best_46 rfl (by decide) rfl ?_
      refine sv_goto (pc := 49) (tgt := 6) dX12_best_49 (by decide) ?_
      refine mr_lvS (lv' := [(0, .ref 106), (1, iv p1), (2, iv p2), (3, iv z383), (4, iv (z383 + 1))]) (List.forall_mem_cons.mpr ⟨rfl, List.forall_mem_cons.mpr ⟨rfl, List.forall_mem_cons.mpr ⟨rfl, List.forall_mem_cons.mpr ⟨rfl, List.forall_mem_cons.mpr ⟨rfl, fun _ h => absurd h List.not_mem_nil⟩⟩⟩⟩⟩) ?_
      exact ih396 z383 (z383 + 1) trivial (rW (c := (-99999999)) (d := 19) h414 rfl) (rW (c := 0) (d := 20) (rAdd (e := 1) (f := 20) h414 (rR (x := 1)) rfl) rfl) (vc_X12_best_l_29 h391 h392 h413 h422 h415 h414 h424 h394) (vc_X12_best_l_24 h391 h392 h413 h422 h415 h414 h424 h394) (bestOK.put q417 (vc_X12_best_l_18 h419 h421) (vc_X12_best_l_30 h391 h392 h413 h422 h415 h414 h424 h394)) (vc_X12_best_l_31 h391 h392 h413 h422 h415 h414 h424 h394) (vc_X12_best_l_25 (nS h395) h391 h392 h413 h422 h415 h414 h424 h394)
  refine mr_lvS (lv' := [(0, .ref 106), (1, iv p1), (2, iv p2), (3, iv (-99999999)), (4, iv 0)]) (List.forall_mem_cons.mpr ⟨rfl, List.forall_mem_cons.mpr ⟨rfl, List.forall_mem_cons.mpr ⟨rfl, List.forall_mem_cons.mpr ⟨rfl, List.forall_mem_cons.mpr ⟨rfl, fun _ h => absurd h List.not_mem_nil⟩⟩⟩⟩⟩) ?_
  exact L385 22 (-99999999) 0 trivial (rW (c := (-99999999)) (d := 19) (rR (x := (-99999999))) rfl) (rW (c := 0) (d := 20) (rR (x := 0)) rfl) vc_X12_best_l_32 (vc_X12_best_l_33 ht_f_ties) bestOK.zero vc_X12_best_l_35 vc_X12_tieOf_12
end
section
/-! no rows -/
end
