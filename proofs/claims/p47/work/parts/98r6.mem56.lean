/-! Steps along the way in hand. -/
def stR (f g kd : Nat → Int) (n x y v : Int) : Prop := (noneQ f g n x y ∧ v = -1) ∨ ∃ t : Nat, (t : Int) < n ∧ matQ f g t x y ∧ noneQ f g t x y ∧ ((kd t = 2 ∧ v = 0) ∨ (kd t = 1 ∧ v = 1) ∨ (¬ kd t = 2 ∧ ¬ kd t = 1 ∧ f t = x ∧ v = 2) ∨ (¬ kd t = 2 ∧ ¬ kd t = 1 ∧ ¬ f t = x ∧ v = 3))
theorem stR.uniq {f g kd : Nat → Int} {n x y v v' : Int} (h : stR f g kd n x y v) (k : stR f g kd n x y v') : v = v' := by
  rcases h with ⟨h1, h2⟩ | ⟨t, h1, h2, h3, h4⟩ <;> rcases k with ⟨k1, k2⟩ | ⟨s, k1, k2, k3, k4⟩
  · omega
  · exact absurd k2 (h1 s k1)
  · exact absurd h2 (k1 t h1)
  · have e : t = s := by
      by_cases c : t < s
      · exact absurd h2 (k3 t (by omega))
      · by_cases c2 : s < t
        · exact absurd k2 (h3 s (by omega))
        · omega
    subst e
    omega
noncomputable def stF (f g kd : Nat → Int) (n x y : Int) : Int := Classical.epsilon (stR f g kd n x y)
theorem stF.of {f g kd : Nat → Int} {n x y v : Int} (h : stR f g kd n x y v) : stF f g kd n x y = v := (Classical.epsilon_spec (p := stR f g kd n x y) ⟨v, h⟩).uniq h
theorem stF.no {f g kd : Nat → Int} {n x y no t : Int} (q : fndQ f g n x y no t) (hn : no < 0) (ht : t < 0) : stF f g kd n x y = -1 := stF.of (Or.inl ⟨q.not hn ht, rfl⟩)
theorem stF.ex {f g kd : Nat → Int} {n x y no t kk a : Int} (q : fndQ f g n x y no t) (hn : no < 0) (ht : 0 ≤ t) (qk : kd t.toNat = kk) (qf : f t.toNat = a) : ∃ v : Int, stF f g kd n x y = v ∧ (0 ≤ v ∧ v ≤ 3) ∧ ((kk = 2 ∧ v = 0) ∨ (kk = 1 ∧ v = 1) ∨ (¬ kk = 2 ∧ ¬ kk = 1 ∧ a = x ∧ v = 2) ∨ (¬ kk = 2 ∧ ¬ kk = 1 ∧ ¬ a = x ∧ v = 3)) := by
  rcases q with ⟨h1, _⟩ | ⟨h1, h2, h3, h4⟩
  · omega
  · have go : ∀ v : Int, ((kk = 2 ∧ v = 0) ∨ (kk = 1 ∧ v = 1) ∨ (¬ kk = 2 ∧ ¬ kk = 1 ∧ a = x ∧ v = 2) ∨ (¬ kk = 2 ∧ ¬ kk = 1 ∧ ¬ a = x ∧ v = 3)) → stF f g kd n x y = v := fun v hv => stF.of (Or.inr ⟨t.toNat, by omega, h3, fun i hi => h4 i (by omega), by rw [qk, qf]; exact hv⟩)
    by_cases c1 : kk = 2
    · exact ⟨0, go 0 (by omega), by decide, by omega⟩
    · by_cases c2 : kk = 1
      · exact ⟨1, go 1 (by omega), by decide, by omega⟩
      · by_cases c3 : a = x
        · exact ⟨2, go 2 (by omega), by decide, by omega⟩
        · exact ⟨3, go 3 (by omega), by decide, by omega⟩
theorem stF.cg {f g kd f' g' kd' : Nat → Int} {n x y : Int} (e : ∀ i : Nat, (i : Int) < n → f' i = f i ∧ g' i = g i ∧ kd' i = kd i) : stF f' g' kd' n x y = stF f g kd n x y := by
  have en : ∀ k : Int, k ≤ n → (noneQ f' g' k x y ↔ noneQ f g k x y) := fun k hk => ⟨fun h => h.cg fun i hi => ⟨(e i (by omega)).1.symm, (e i (by omega)).2.1.symm⟩, fun h => h.cg fun i hi => ⟨(e i (by omega)).1, (e i (by omega)).2.1⟩⟩
  have : stR f' g' kd' n x y = stR f g kd n x y := by
    funext v
    apply propext
    unfold stR
    rw [en n (Int.le_refl n)]
    constructor
    · rintro (h | ⟨t, h1, h2, h3, h4⟩)
      · exact Or.inl h
      · obtain ⟨e1, e2, e3⟩ := e t h1
        unfold matQ at h2
        rw [e1, e2] at h2
        rw [e1, e3] at h4
        exact Or.inr ⟨t, h1, h2, (en t (by omega)).mp h3, h4⟩
    · rintro (h | ⟨t, h1, h2, h3, h4⟩)
      · exact Or.inl h
      · obtain ⟨e1, e2, e3⟩ := e t h1
        refine Or.inr ⟨t, h1, ?_, (en t (by omega)).mpr h3, ?_⟩
        · unfold matQ; rw [e1, e2]; exact h2
        · rw [e1, e3]; exact h4
  unfold stF
  rw [this]
def lwF (s : Nat → Int) : Nat → Nat → Int → Int
  | 0, _, _ => 0
  | r + 1, k, d => if s k = -1 then (k : Int) + 1 else if s k = 0 then lwF s r (k + 1) d else if d = 1 ∧ ¬ s k = 2 then (k : Int) + 1 else lwF s r (k + 1) (if s k = 3 then d else 1)
theorem lwF.cg {s s' : Nat → Int} : ∀ (r k : Nat) (d : Int), (∀ j : Nat, k ≤ j → j < k + r → s' j = s j) → lwF s' r k d = lwF s r k d
  | 0, _, _, _ => rfl
  | r + 1, k, d, h => by
    have e := h k (Nat.le_refl k) (by omega)
    have ih := fun d => lwF.cg r (k + 1) d fun j h1 h2 => h j (by omega) (by omega)
    unfold lwF
    rw [e, ih, ih]
def lwI (s : Nat → Int) (n k d : Int) : Int := lwF s (n - 1 - k).toNat k.toNat d
theorem lwI.done {s : Nat → Int} {n k d : Int} (h : n ≤ k + 1) : lwI s n k d = 0 := by
  unfold lwI
  rw [show (n - 1 - k).toNat = 0 by omega]; rfl
theorem lwI.next {s : Nat → Int} {n k d d' v : Int} (h0 : 0 ≤ k ∧ k + 1 < n) (h : s k.toNat = v) (hc : (v = 0 ∧ d' = d) ∨ (v = 3 ∧ d = 0 ∧ d' = d) ∨ (v = 1 ∧ d = 0 ∧ d' = 1) ∨ (v = 2 ∧ d' = 1)) : lwI s n k d = lwI s n (k + 1) d' := by
  unfold lwI
  rw [show (n - 1 - k).toNat = (n - 1 - (k + 1)).toNat + 1 by omega, show (k + 1).toNat = k.toNat + 1 by omega]
  show (if s k.toNat = -1 then ((k.toNat : Nat) : Int) + 1 else if s k.toNat = 0 then lwF s _ (k.toNat + 1) d else if d = 1 ∧ ¬ s k.toNat = 2 then ((k.toNat : Nat) : Int) + 1 else lwF s _ (k.toNat + 1) (if s k.toNat = 3 then d else 1)) = _
  rw [h]
  rcases hc with ⟨rfl, rfl⟩ | ⟨rfl, rfl, rfl⟩ | ⟨rfl, rfl, rfl⟩ | ⟨rfl, rfl⟩
  · rw [if_neg (by decide), if_pos rfl]
  · rw [if_neg (by decide), if_neg (by decide), if_neg (by decide), if_pos rfl]
  · rw [if_neg (by decide), if_neg (by decide), if_neg (by decide), if_neg (by decide)]
  · rw [if_neg (by decide), if_neg (by decide), if_neg (fun q => q.2 rfl), if_neg (by decide)]
theorem lwI.stop {s : Nat → Int} {n k d v : Int} (h0 : 0 ≤ k ∧ k + 1 < n) (h : s k.toNat = v) (hc : v = -1 ∨ (d = 1 ∧ (v = 1 ∨ v = 3))) : lwI s n k d = k + 1 := by
  unfold lwI
  rw [show (n - 1 - k).toNat = (n - 1 - (k + 1)).toNat + 1 by omega]
  show (if s k.toNat = -1 then ((k.toNat : Nat) : Int) + 1 else if s k.toNat = 0 then lwF s _ (k.toNat + 1) d else if d = 1 ∧ ¬ s k.toNat = 2 then ((k.toNat : Nat) : Int) + 1 else lwF s _ (k.toNat + 1) (if s k.toNat = 3 then d else 1)) = _
  rw [h]
  rcases hc with rfl | ⟨rfl, rfl | rfl⟩
  · rw [if_pos rfl]; omega
  · rw [if_neg (by decide), if_neg (by decide), if_pos ⟨rfl, by decide⟩]; omega
  · rw [if_neg (by decide), if_neg (by decide), if_pos ⟨rfl, by decide⟩]; omega
noncomputable def swC (μ : mM) (k : Nat) : Int := stF (tc μ 0) (tc μ 1) (tc μ 2) (μ 6 16) (μ 2 k) (μ 2 (k + 1))
noncomputable def swR (μ : mM) (k : Nat) : Int := stF (tr μ 0) (tr μ 1) (μ 111) (μ 106 6) (μ 118 k) (μ 118 (k + 1))
theorem swC.of {μ : mM} {k e n x y v : Int} (qx : μ 2 k.toNat = x) (qy : μ 2 e.toNat = y) (he : 0 ≤ k ∧ e = k + 1) (qn : μ 6 16 = n) (h : stF (tc μ 0) (tc μ 1) (tc μ 2) n x y = v) : swC μ k.toNat = v := by
  unfold swC
  rw [show k.toNat + 1 = e.toNat by omega, qx, qy, qn, h]
theorem swR.of {μ : mM} {k e n x y v : Int} (qx : μ 118 k.toNat = x) (qy : μ 118 e.toNat = y) (he : 0 ≤ k ∧ e = k + 1) (qn : μ 106 6 = n) (h : stF (tr μ 0) (tr μ 1) (μ 111) n x y = v) : swR μ k.toNat = v := by
  unfold swR
  rw [show k.toNat + 1 = e.toNat by omega, qx, qy, qn, h]
def WYQ (μ : mM) : Prop := μ 0 11 = μ 106 15 ∧ ∀ i : Nat, (i : Int) < μ 106 15 → μ 2 i = μ 118 i
theorem sw_eq {μ : mM} (h : TQR μ) (hw : WYQ μ) {k : Nat} (hk : (k : Int) + 1 < μ 106 15) : swC μ k = swR μ k := by
  unfold swC swR
  rw [hw.2 k (by omega), hw.2 (k + 1) (by omega), h.1]
  refine stF.cg fun i hi => ?_
  obtain ⟨a, b, c⟩ := h.2 i (by rw [h.1]; exact hi)
  exact ⟨a, b, c⟩
theorem lw_eq {μ : mM} (h : TQR μ) (hw : WYQ μ) : lwI (swC μ) (μ 0 11) 0 0 = lwI (swR μ) (μ 106 15) 0 0 := by
  rw [hw.1]
  unfold lwI
  exact lwF.cg _ _ _ fun j _ h2 => sw_eq h hw (by omega)
/-- what walk did to a row -/
def wkT (μ μ1 : mM) (a : Nat) (n o x : Int) : Prop := tabS μ μ1 a n ∧ (o = n + 1 → μ1 a n.toNat = x)
theorem WYQ.walk {μ μa μb : mM} {x o : Int} (h : WYQ μ) (h0 : 0 ≤ μ 106 15) (ho : o = 0 ∨ o = μ 106 15 ∨ o = μ 106 15 + 1) (ha : wkT μ μa 2 (μ 106 15) o x) (ea : ∀ i, μa 118 i = μ 118 i) (hb : wkT μa μb 118 (μ 106 15) o x) (eb : ∀ i, μb 2 i = μa 2 i) (e1 : μb 0 11 = o) (e2 : μb 106 15 = o) : WYQ μb := by
  refine ⟨by rw [e1, e2], fun i hi => ?_⟩
  rw [e2] at hi
  rw [eb]
  by_cases c : (i : Int) < μ 106 15
  · rw [ha.1 i c, hb.1 i c, ea]; exact h.2 i c
  · have ei : i = (μ 106 15).toNat := by omega
    have eo : o = μ 106 15 + 1 := by omega
    rw [ei, ha.2 eo, hb.2 eo]
def wyL : List Nat := [11, 106015, 2999, 118999]
theorem WYQ.fr {lf : List Nat} {w : mW} {μ μ1 : mM} (h : WYQ μ) (hw : mWF w) (hT : mT w μ) (F : mF lf w μ μ1) (hl : (wyL.all fun r => !lf.elem r) = true) : WYQ μ1 := by
  have a : μ1 0 11 = μ 0 11 := F.f (A_0 hw) (qA_no hl rfl) rfl
  have b : μ1 106 15 = μ 106 15 := F.f (A_106 hw) (qA_no hl rfl) rfl
  refine ⟨by rw [a, b]; exact h.1, fun i hi => ?_⟩
  rw [b] at hi
  rw [show μ1 2 i = μ 2 i from F.f (A_2 hw) (qA_no hl rfl) rfl, show μ1 118 i = μ 118 i from F.f (A_118 hw) (qA_no hl rfl) rfl]; exact h.2 i hi
theorem WYQ.frX {lf : List Nat} {w w1 : mW} {μ μ1 : mM} (h : WYQ μ) (hw : mWF w) (hT : mT w μ) (F : mX lf w μ w1 μ1) (hl : (wyL.all fun r => !lf.elem r) = true) : WYQ μ1 := by
  have a : μ1 0 11 = μ 0 11 := F.f (A_0 hw) (qA_no hl rfl) rfl
  have b : μ1 106 15 = μ 106 15 := F.f (A_106 hw) (qA_no hl rfl) rfl
  refine ⟨by rw [a, b]; exact h.1, fun i hi => ?_⟩
  rw [b] at hi
  rw [show μ1 2 i = μ 2 i from F.f (A_2 hw) (qA_no hl rfl) rfl, show μ1 118 i = μ 118 i from F.f (A_118 hw) (qA_no hl rfl) rfl]; exact h.2 i hi
