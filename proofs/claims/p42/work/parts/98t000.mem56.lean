section
/-! Steps along the way in hand. -/
def stR (f g kd : Nat → Int) (n x y v : Int) : Prop := (noneQ f g n x y ∧ v = -1) ∨ ∃ t : Nat, (t : Int) < n ∧ matQ f g t x y ∧ noneQ f g t x y ∧ ((kd t = 2 ∧ v = 0) ∨ (kd t = 1 ∧ v = 1) ∨ (¬ kd t = 2 ∧ ¬ kd t = 1 ∧ f t = x ∧ v = 2) ∨ (¬ kd t = 2 ∧ ¬ kd t = 1 ∧ ¬ f t = x ∧ v = 3))
theorem stR.uniq {f g kd : Nat → Int} {n x y v v' : Int} (h : stR f g kd n x y v) (k : stR f g kd n x y v') : v = v' := by
  rcases h with ⟨h1, h2⟩ | ⟨t, h1, h2, h3, h4⟩ <;> rcases k with ⟨k1, k2⟩ | ⟨s, k1, k2, k3, k4⟩
  · omega
  · exact absurd k2 (h1 s k1)
  · exact absurd h2 (k1 t h1)
  · have e : t = s := by
      by_cases c : t < s
      · exact absurd h2 (k3 t (by omega))
      · by_cases c2 : s < t
        · exact absurd k2 (h3 s (by omega))
        · omega
    subst e
    omega
noncomputable def stF (f g kd : Nat → Int) (n x y : Int) : Int := Classical.epsilon (stR f g kd n x y)
theorem stF.of {f g kd : Nat → Int} {n x y v : Int} (h : stR f g kd n x y v) : stF f g kd n x y = v := (Classical.epsilon_spec (p := stR f g kd n x y) ⟨v, h⟩).uniq h
theorem stF.no {f g kd : Nat → Int} {n x y no t : Int} (q : fndQ f g n x y no t) (hn : no < 0) (ht : t < 0) : stF f g kd n x y = -1 := stF.of (Or.inl ⟨q.not hn ht, rfl⟩)
theorem stF.ex {f g kd : Nat → Int} {n x y no t kk a : Int} (q : fndQ f g n x y no t) (hn : no < 0) (ht : 0 ≤ t) (qk : kd t.toNat = kk) (qf : f t.toNat = a) : ∃ v : Int, stF f g kd n x y = v ∧ (0 ≤ v ∧ v ≤ 3) ∧ ((kk = 2 ∧ v = 0) ∨ (kk = 1 ∧ v = 1) ∨ (¬ kk = 2 ∧ ¬ kk = 1 ∧ a = x ∧ v = 2) ∨ (¬ kk = 2 ∧ ¬ kk = 1 ∧ ¬ a = x ∧ v = 3)) := by
  rcases q with ⟨h1, _⟩ | ⟨h1, h2, h3, h4⟩
  · omega
  · have go : ∀ v : Int, ((kk = 2 ∧ v = 0) ∨ (kk = 1 ∧ v = 1) ∨ (¬ kk = 2 ∧ ¬ kk = 1 ∧ a = x ∧ v = 2) ∨ (¬ kk = 2 ∧ ¬ kk = 1 ∧ ¬ a = x ∧ v = 3)) → stF f g kd n x y = v := fun v hv => stF.of (Or.inr ⟨t.toNat, by omega, h3, fun i hi => h4 i (by omega), by rw [qk, qf]; exact hv⟩)
    by_cases c1 : kk = 2
    · exact ⟨0, go 0 (by omega), by decide, by omega⟩
    · by_cases c2 : kk = 1
      · exact ⟨1, go 1 (by omega), by decide, by omega⟩
      · by_cases c3 : a = x
        · exact ⟨2, go 2 (by omega), by decide, by omega⟩
        · exact ⟨3, go 3 (by omega), by decide, by omega⟩
theorem stF.cg {f g kd f' g' kd' : Nat → Int} {n x y : Int} (e : ∀ i : Nat, (i : Int) < n → f' i = f i ∧ g' i = g i ∧ kd' i = kd i) : stF f' g' kd' n x y = stF f g kd n x y := by
  have en : ∀ k : Int, k ≤ n → (noneQ f' g' k x y ↔ noneQ f g k x y) := fun k hk => ⟨fun h => h.cg fun i hi => ⟨(e i (by omega)).1.symm, (e i (by omega)).2.1.symm⟩, fun h => h.cg fun i hi => ⟨(e i (by omega)).1, (e i (by omega)).2.1⟩⟩
  have : stR f' g' kd' n x y = stR f g kd n x y := by
    funext v
    apply propext
    unfold stR
    rw [en n (Int.le_refl n)]
    constructor
    · rintro (h | ⟨t, h1, h2, h3, h4⟩)
      · exact Or.inl h
      · obtain ⟨e1, e2, e3⟩ := e t h1
        unfold matQ at h2
        rw [e1, e2] at h2
        rw [e1, e3] at h4
        exact Or.inr ⟨t, h1, h2, (en t (by omega)).mp h3, h4⟩
    · rintro (h | ⟨t, h1, h2, h3, h4⟩)
      · exact Or.inl h
      · obtain ⟨e1, e2, e3⟩ := e t h1
        refine Or.inr ⟨t, h1, ?_, (en t (by omega)).mpr h3, ?_⟩
        · unfold matQ; rw [e1, e2]; exact h2
        · rw [e1, e3]; exact h4
  unfold stF
  rw [this]
def lwF (s : Nat → Int) : Nat → Nat → Int → Int
  | 0, _, _ => 0
  | r + 1, k, d => if s k = -1 then (k : Int) + 1 else if s k = 0 then lwF s r (k + 1) d else if d = 1 ∧ ¬ s k = 2 then (k : Int) + 1 else lwF s r (k + 1) (if s k = 3 then d else 1)
theorem lwF.cg {s s' : Nat → Int} : ∀ (r k : Nat) (d : Int), (∀ j : Nat, k ≤ j → j < k + r → s' j = s j) → lwF s' r k d = lwF s r k d
  | 0, _, _, _ => rfl
  | r + 1, k, d, h => by
    have e := h k (Nat.le_refl k) (by omega)
    have ih := fun d => lwF.cg r (k + 1) d fun j h1 h2 => h j (by omega) (by omega)
    unfold lwF
    rw [e, ih, ih]
def lwI (s : Nat → Int) (n k d : Int) : Int := lwF s (n - 1 - k).toNat k.toNat d
theorem lwI.done {s : Nat → Int} {n k d : Int} (h : n ≤ k + 1) : lwI s n k d = 0 := by
  unfold lwI
  rw [show (n - 1 - k).toNat = 0 by omega]; rfl
theorem lwI.next {s : Nat → Int} {n k d d' v : Int} (h0 : 0 ≤ k ∧ k + 1 < n) (h : s k.toNat = v) (hc : (v = 0 ∧ d' = d) ∨ (v = 3 ∧ d = 0 ∧ d' = d) ∨ (v = 1 ∧ d = 0 ∧ d' = 1) ∨ (v = 2 ∧ d' = 1)) : lwI s n k d = lwI s n (k + 1) d' := by
  unfold lwI
  rw [show (n - 1 - k).toNat = (n - 1 - (k + 1)).toNat + 1 by omega, show (k + 1).toNat = k.toNat + 1 by omega]
  show (if s k.toNat = -1 then ((k.toNat : Nat) : Int) + 1 else if s k.toNat = 0 then lwF s _ (k.toNat + 1) d else if d = 1 ∧ ¬ s k.toNat = 2 then ((k.toNat : Nat) : Int) + 1 else lwF s _ (k.toNat + 1) (if s k.toNat = 3 then d else 1)) = _
  rw [h]
  rcases hc with ⟨rfl, rfl⟩ | ⟨rfl, rfl, rfl⟩ | ⟨rfl, rfl, rfl⟩ | ⟨rfl, rfl⟩
  · rw [if_neg (by decide), if_pos rfl]
  · rw [if_neg (by decide), if_neg (by decide), if_neg (by decide), if_pos rfl]
  · rw [if_neg (by decide), if_neg (by decide), if_neg (by decide), if_neg (by decide)]
  · rw [if_neg (by decide), if_neg (by decide), if_neg (fun q => q.2 rfl), if_neg (by decide)]
theorem lwI.stop {s : Nat → Int} {n k d v : Int} (h0 : 0 ≤ k ∧ k + 1 < n) (h : s k.toNat = v) (hc : v = -1 ∨ (d = 1 ∧ (v = 1 ∨ v = 3))) : lwI s n k d = k + 1 := by
  unfold lwI
  rw [show (n - 1 - k).toNat = (n - 1 - (k + 1)).toNat + 1 by omega]
  show (if s k.toNat = -1 then ((k.toNat : Nat) : Int) + 1 else if s k.toNat = 0 then lwF s _ (k.toNat + 1) d else if d = 1 ∧ ¬ s k.toNat = 2 then ((k.toNat : Nat) : Int) + 1 else lwF s _ (k.toNat + 1) (if s k.toNat = 3 then d else 1)) = _
  rw [h]
  rcases hc with rfl | ⟨rfl, rfl | rfl⟩
  · rw [if_pos rfl]; omega
  · rw [if_neg (by decide), if_neg (by decide), if_pos ⟨rfl, by decide⟩]; omega
  · rw [if_neg (by decide), if_neg (by decide), if_pos ⟨rfl, by decide⟩]; omega
noncomputable def swC (μ : mM) (k : Nat) : Int := stF (tc μ 0) (tc μ 1) (tc μ 2) (μ 6 16) (μ 2 k) (μ 2 (k + 1))
noncomputable def swR (μ : mM) (k : Nat) : Int := stF (tr μ 0) (tr μ 1) (μ 111) (μ 106 6) (μ 118 k) (μ 118 (k + 1))
theorem swC.of {μ : mM} {k e n x y v : Int} (qx : μ 2 k.toNat = x) (qy : μ 2 e.toNat = y) (he : 0 ≤ k ∧ e = k + 1) (qn : μ 6 16 = n) (h : stF (tc μ 0) (tc μ 1) (tc μ 2) n x y = v) : swC μ k.toNat = v := by
  unfold swC
  rw [show k.toNat + 1 = e.toNat by omega, qx, qy, qn, h]
theorem swR.of {μ : mM} {k e n x y v : Int} (qx : μ 118 k.toNat = x) (qy : μ 118 e.toNat = y) (he : 0 ≤ k ∧ e = k + 1) (qn : μ 106 6 = n) (h : stF (tr μ 0) (tr μ 1) (μ 111) n x y = v) : swR μ k.toNat = v := by
  unfold swR
  rw [show k.toNat + 1 = e.toNat by omega, qx, qy, qn, h]
def WYQ (μ : mM) : Prop := μ 0 11 = μ 106 15 ∧ ∀ i : Nat, (i : Int) < μ 106 15 → μ 2 i = μ 118 i
theorem sw_eq {μ : mM} (h : TQR μ) (hw : WYQ μ) {k : Nat} (hk : (k : Int) + 1 < μ 106 15) : swC μ k = swR μ k := by
  unfold swC swR
  rw [hw.2 k (by omega), hw.2 (k + 1) (by omega), h.1]
  refine stF.cg fun i hi => ?_
  obtain ⟨a, b, c⟩ := h.2 i (by rw [h.1]; exact hi)
  exact ⟨a, b, c⟩
theorem lw_eq {μ : mM} (h : TQR μ) (hw : WYQ μ) : lwI (swC μ) (μ 0 11) 0 0 = lwI (swR μ) (μ 106 15) 0 0 := by
  rw [hw.1]
  unfold lwI
  exact lwF.cg _ _ _ fun j _ h2 => sw_eq h hw (by omega)
/-- what walk did to a row -/
def wkT (μ μ1 : mM) (a : Nat) (n o x : Int) : Prop := tabS μ μ1 a n ∧ (o = n + 1 → μ1 a n.toNat = x)
theorem WYQ.walk {μ μa μb : mM} {x o : Int} (h : WYQ μ) (h0 : 0 ≤ μ 106 15) (ho : o = 0 ∨ o = μ 106 15 ∨ o = μ 106 15 + 1) (ha : wkT μ μa 2 (μ 106 15) o x) (ea : ∀ i, μa 118 i = μ 118 i) (hb : wkT μa μb 118 (μ 106 15) o x) (eb : ∀ i, μb 2 i = μa 2 i) (e1 : μb 0 11 = o) (e2 : μb 106 15 = o) : WYQ μb := by
  refine ⟨by rw [e1, e2], fun i hi => ?_⟩
  rw [e2] at hi
  rw [eb]
  by_cases c : (i : Int) < μ 106 15
  · rw [ha.1 i c, hb.1 i c, ea]; exact h.2 i c
  · have ei : i = (μ 106 15).toNat := by omega
    have eo : o = μ 106 15 + 1 := by omega
    rw [ei, ha.2 eo, hb.2 eo]
def wyL : List Nat := [11, 106015, 2999, 118999]
theorem WYQ.fr {lf : List Nat} {w : mW} {μ μ1 : mM} (h : WYQ μ) (hw : mWF w) (hT : mT w μ) (F : mF lf w μ μ1) (hl : (wyL.all fun r => !lf.elem r) = true) : WYQ μ1 := by
  have a : μ1 0 11 = μ 0 11 := F.f (A_0 hw) (qA_no hl rfl) rfl
  have b : μ1 106 15 = μ 106 15 := F.f (A_106 hw) (qA_no hl rfl) rfl
  refine ⟨by rw [a, b]; exact h.1, fun i hi => ?_⟩
  rw [b] at hi
  rw [show μ1 2 i = μ 2 i from F.f (A_2 hw) (qA_no hl rfl) rfl, show μ1 118 i = μ 118 i from F.f (A_118 hw) (qA_no hl rfl) rfl]; exact h.2 i hi
theorem WYQ.frX {lf : List Nat} {w w1 : mW} {μ μ1 : mM} (h : WYQ μ) (hw : mWF w) (hT : mT w μ) (F : mX lf w μ w1 μ1) (hl : (wyL.all fun r => !lf.elem r) = true) : WYQ μ1 := by
  have a : μ1 0 11 = μ 0 11 := F.f (A_0 hw) (qA_no hl rfl) rfl
  have b : μ1 106 15 = μ 106 15 := F.f (A_106 hw) (qA_no hl rfl) rfl
  refine ⟨by rw [a, b]; exact h.1, fun i hi => ?_⟩
  rw [b] at hi
  rw [show μ1 2 i = μ 2 i from F.f (A_2 hw) (qA_no hl rfl) rfl, show μ1 118 i = μ 118 i from F.f (A_118 hw) (qA_no hl rfl) rfl]; exact h.2 i hi
end
section
/-! Rows as lists; routes. -/
def rowL (f : Nat → Int) (n : Nat) : List Int := (List.range n).map f
theorem rowL.len {f : Nat → Int} {n : Nat} : (rowL f n).length = n := by
  unfold rowL
  rw [List.length_map, List.length_range]
theorem rowL.ext {f g : Nat → Int} {n : Nat} (h : ∀ i, i < n → g i = f i) : rowL g n = rowL f n := List.map_congr_left fun i hi => h i (List.mem_range.mp hi)
theorem rowL.get {f : Nat → Int} {n i : Nat} (h : i < n) : (rowL f n)[i]? = some (f i) := by
  unfold rowL
  rw [List.getElem?_map, List.getElem?_range h]
  rfl
theorem rowL.leq {f g : Nat → Int} {n m : Nat} (e : rowL f n = rowL g m) : n = m := by
  have h := congrArg List.length e
  rw [rowL.len, rowL.len] at h
  exact h
theorem rowL.at {f g : Nat → Int} {n m i : Nat} (e : rowL f n = rowL g m) (h : i < n) : f i = g i := by
  have hm := rowL.leq e
  subst hm
  have k : (rowL f n)[i]? = (rowL g n)[i]? := by rw [e]
  rw [rowL.get h, rowL.get h] at k
  exact Option.some.inj k
theorem rowL.add {f : Nat → Int} {a b : Nat} : rowL f (a + b) = rowL f a ++ rowL (fun i => f (a + i)) b := by
  unfold rowL
  rw [List.range_add, List.map_append, List.map_map]
  rfl
theorem rowL.succ {f : Nat → Int} {n : Nat} : rowL f (n + 1) = rowL f n ++ [f n] := by
  unfold rowL
  rw [List.range_succ, List.map_append]
  rfl
theorem rowL.mem {f : Nat → Int} {n : Nat} {x : Int} : x ∈ rowL f n ↔ ∃ i, i < n ∧ f i = x := by
  unfold rowL
  rw [List.mem_map]
  constructor
  · rintro ⟨i, h1, h2⟩
    exact ⟨i, List.mem_range.mp h1, h2⟩
  · rintro ⟨i, h1, h2⟩
    exact ⟨i, List.mem_range.mpr h1, h2⟩
theorem rowL.rep {f : Nat → Int} {n : Nat} {x : Int} (h : ∀ i, i < n → f i = x) : rowL f n = List.replicate n x := List.eq_replicate_iff.mpr ⟨rowL.len, fun y hy => by
  obtain ⟨i, hi, e⟩ := rowL.mem.mp hy
  rw [← e]; exact h i hi⟩
theorem rowL.front {f g : Nat → Int} {n t : Nat} {x : Int} (h1 : ∀ i, i < t → g i = x) (h2 : ∀ i, i < n → g (t + i) = f i) : rowL g (t + n) = List.replicate t x ++ rowL f n := by
  rw [rowL.add, rowL.rep h1, rowL.ext h2]
theorem rowL.ins {f g : Nat → Int} {p k : Nat} {m : Int} (h1 : ∀ i, i < p → g i = f i) (h2 : g p = m) (h3 : ∀ i, i < k → g (p + 1 + i) = f (p + i)) : rowL g (p + k + 1) = rowL f p ++ m :: rowL (fun i => f (p + i)) k := by
  rw [show p + k + 1 = (p + 1) + k by omega, rowL.add, rowL.succ, rowL.ext h1, h2, rowL.ext h3, List.append_assoc]
  rfl
abbrev srt (l : List Int) : Prop := l.Pairwise (fun x y => x < y)
def addM (l : List Int) (m : Int) : List Int := if m ∈ l ∨ 8 ≤ l.length then l else l.filter (fun x => decide (x < m)) ++ m :: l.filter (fun x => decide (m < x))
theorem addM.skip {l : List Int} {m : Int} (h : m ∈ l ∨ 8 ≤ l.length) : addM l m = l := if_pos h
theorem addM.ins {a b : List Int} {m : Int} (ha : ∀ x ∈ a, x < m) (hb : ∀ x ∈ b, m < x) (h8 : ¬ 8 ≤ (a ++ b).length) : addM (a ++ b) m = a ++ m :: b := by
  have hn : ¬ (m ∈ a ++ b ∨ 8 ≤ (a ++ b).length) := by
    rintro (h | h)
    · rcases List.mem_append.mp h with h | h
      · exact absurd (ha m h) (Int.lt_irrefl m)
      · exact absurd (hb m h) (Int.lt_irrefl m)
    · exact h8 h
  have e1 : a.filter (fun x => decide (x < m)) = a := List.filter_eq_self.mpr fun x hx => decide_eq_true (ha x hx)
  have e2 : b.filter (fun x => decide (x < m)) = [] := List.filter_eq_nil_iff.mpr fun x hx g => by have h1 := hb x hx; have h2 := of_decide_eq_true g; omega
  have e3 : a.filter (fun x => decide (m < x)) = [] := List.filter_eq_nil_iff.mpr fun x hx g => by have h1 := ha x hx; have h2 := of_decide_eq_true g; omega
  have e4 : b.filter (fun x => decide (m < x)) = b := List.filter_eq_self.mpr fun x hx => decide_eq_true (hb x hx)
  unfold addM
  rw [if_neg hn, List.filter_append, List.filter_append, e1, e2, e3, e4, List.append_nil, List.nil_append]
theorem addM.srt {l : List Int} {m : Int} (h : srt l) : srt (addM l m) := by
  unfold addM
  by_cases q : m ∈ l ∨ 8 ≤ l.length
  · rw [if_pos q]; exact h
  · rw [if_neg q]
    refine List.pairwise_append.mpr ⟨h.filter _, List.pairwise_cons.mpr ⟨fun x hx => ?_, h.filter _⟩, fun x hx y hy => ?_⟩
    · exact of_decide_eq_true (List.mem_filter.mp hx).2
    · have h1 := of_decide_eq_true (List.mem_filter.mp hx).2
      rcases List.mem_cons.mp hy with e | g
      · rw [e]; exact h1
      · have h2 := of_decide_eq_true (List.mem_filter.mp g).2
        omega
def dropM (l : List Int) (m : Int) : List Int := l.filter (fun x => decide (¬ x = m))
theorem dropM.srt {l : List Int} {m : Int} (h : srt l) : srt (dropM l m) := h.filter _
theorem dropM.no {l : List Int} {m : Int} (h : ¬ m ∈ l) : dropM l m = l := List.filter_eq_self.mpr fun x hx => decide_eq_true fun e => h (e ▸ hx)
theorem dropM.next {f : Nat → Int} {n : Nat} {m : Int} : dropM (rowL f (n + 1)) m = if f n = m then dropM (rowL f n) m else dropM (rowL f n) m ++ [f n] := by
  unfold dropM
  rw [rowL.succ, List.filter_append]
  by_cases e : f n = m
  · rw [if_pos e, List.filter_cons_of_neg (by simp [e])]
    simp
  · rw [if_neg e, List.filter_cons_of_pos (by simp [e])]
    simp
/-- a route: where it leads, wish, origin, cost, way, marks -/
abbrev Rt : Type := Int × Int × Int × Int × List Int × List Int
def rtC (μ : mM) (a : Nat) : Option Rt := if μ a 2 = 0 then none else some (μ a 3, μ a 4, μ a 5, μ a 6, rowL (μ (a + 1)) (μ a 7).toNat, rowL (μ (a + 2)) (μ a 8).toNat)
def rtR (μ : mM) (r : Int) : Option Rt := if μ 126 (40 * r).toNat < 0 then none else some (μ 126 (40 * r).toNat, μ 126 (40 * r + 1).toNat, μ 126 (40 * r + 2).toNat, μ 126 (40 * r + 3).toNat, rowL (fun k => μ 126 (40 * r + 6 + (k : Int)).toNat) (μ 126 (40 * r + 4).toNat).toNat, rowL (fun k => μ 126 (40 * r + 26 + (k : Int)).toNat) (μ 126 (40 * r + 5).toNat).toNat)
/-- nothing but the route at a has changed -/
def onC (μ μ1 : mM) (a : Nat) : Prop := ∀ b i, b ≠ a → b ≠ a + 1 → b ≠ a + 2 → μ1 b i = μ b i
theorem onC.refl {μ : mM} {a : Nat} : onC μ μ a := fun _ _ _ _ _ => rfl
theorem onC.trans {μ μ1 μ2 : mM} {a : Nat} (h : onC μ μ1 a) (k : onC μ1 μ2 a) : onC μ μ2 a := fun b i h0 h1 h2 => (k b i h0 h1 h2).trans (h b i h0 h1 h2)
theorem onC.up {μ μ1 μ2 : mM} {a c k : Nat} {z : Int} (h : onC μ μ1 a) (u : mU μ1 c k z μ2) (hc : c = a ∨ c = a + 1 ∨ c = a + 2) : onC μ μ2 a := fun b i h0 h1 h2 => (u.2 b i (Or.inl (by omega))).trans (h b i h0 h1 h2)
theorem onC.cp {μ μ1 μ2 : mM} {a c s : Nat} {sp dp n : Int} (h : onC μ μ1 a) (q : mQ μ1 s c sp dp n μ2) (hc : c = a ∨ c = a + 1 ∨ c = a + 2) : onC μ μ2 a := fun b i h0 h1 h2 => (q.1 b i (by omega)).trans (h b i h0 h1 h2)
theorem rtC.of {μ μ1 : mM} {a : Nat} (h0 : ∀ i, μ1 a i = μ a i) (h1 : ∀ i, μ1 (a + 1) i = μ (a + 1) i) (h2 : ∀ i, μ1 (a + 2) i = μ (a + 2) i) : rtC μ1 a = rtC μ a := by
  unfold rtC
  rw [h0, h0, h0, h0, h0, h0, h0, rowL.ext (fun i _ => h1 i), rowL.ext (fun i _ => h2 i)]
/-- routes lie apart -/
theorem onC.rt {w : mW} {μ μ1 : mM} {a b : Nat} (h : onC μ μ1 a) (hne : b ≠ a) (e1 : b ≠ a + 1) (e2 : b ≠ a + 2) (e3 : b + 1 ≠ a) (e4 : b + 2 ≠ a) (e5 : b + 1 ≠ a + 2) (e6 : b + 2 ≠ a + 1) : rtC μ1 b = rtC μ b := rtC.of (fun i => h b i hne e1 e2) (fun i => h (b + 1) i e3 (by omega) e5) (fun i => h (b + 2) i e4 e6 (by omega))
theorem rtC.copy {μ μ1 : mM} {a b : Nat} (h2 : μ1 a 2 = μ b 2) (h3 : μ1 a 3 = μ b 3) (h4 : μ1 a 4 = μ b 4) (h5 : μ1 a 5 = μ b 5) (h6 : μ1 a 6 = μ b 6) (h7 : μ1 a 7 = μ b 7) (h8 : μ1 a 8 = μ b 8) (hw : ∀ i : Nat, (i : Int) < μ b 7 → μ1 (a + 1) i = μ (b + 1) i) (hm : ∀ i : Nat, (i : Int) < μ b 8 → μ1 (a + 2) i = μ (b + 2) i) : rtC μ1 a = rtC μ b := by
  unfold rtC
  rw [h2, h3, h4, h5, h6, h7, h8, rowL.ext (fun i hi => hw i (by omega)), rowL.ext (fun i hi => hm i (by omega))]
end
section
/-! Routes of the class: what its calls do. -/
theorem mU.id {μ μ1 : mM} {a k : Nat} {z : Int} (u : mU μ a k z μ1) (q : μ a k = z) : ∀ b i, μ1 b i = μ b i := fun b i => by
  by_cases h : b ≠ a ∨ i ≠ k
  · exact u.2 b i h
  · have hb : b = a := Classical.byContradiction fun g => h (Or.inl g)
    have hi : i = k := Classical.byContradiction fun g => h (Or.inr g)
    rw [hb, hi, u.1, q]
theorem rtC.become {μ μa μb μc μd μe μf μg μh μ1 : mM} {a b : Nat} {z2 z3 z4 z5 z6 z7 z8 n m : Int} (hab : b + 1 ≠ a) (hba : a + 1 ≠ b) (h2 : b + 2 ≠ a) (h2' : a + 2 ≠ b) (h3 : a + 1 ≠ b + 2) (h3' : a + 2 ≠ b + 1)
    (q2 : μ b 2 = z2) (u2 : mU μ a 2 z2 μa) (q3 : μa b 3 = z3) (u3 : mU μa a 3 z3 μb) (q4 : μb b 4 = z4) (u4 : mU μb a 4 z4 μc) (q5 : μc b 5 = z5) (u5 : mU μc a 5 z5 μd) (q6 : μd b 6 = z6) (u6 : mU μd a 6 z6 μe) (q7 : μe b 7 = z7) (u7 : mU μe a 7 z7 μf) (q8 : μf b 8 = z8) (u8 : mU μf a 8 z8 μg)
    (qn : μg b 7 = n) (c1 : mQ μg (b + 1) (a + 1) 0 0 n μh) (qm : μh b 8 = m) (c2 : mQ μh (b + 2) (a + 2) 0 0 m μ1) : rtC μ1 a = rtC μ b ∧ onC μ μ1 a := by
  have o : onC μ μ1 a := ((((((((onC.refl.up u2 (Or.inl rfl)).up u3 (Or.inl rfl)).up u4 (Or.inl rfl)).up u5 (Or.inl rfl)).up u6 (Or.inl rfl)).up u7 (Or.inl rfl)).up u8 (Or.inl rfl)).cp c1 (Or.inr (Or.inl rfl))).cp c2 (Or.inr (Or.inr rfl))
  refine ⟨?_, o⟩
  by_cases e : a = b
  · subst e
    have k2 := u2.id q2
    have k3 := u3.id q3
    have k4 := u4.id q4
    have k5 := u5.id q5
    have k6 := u6.id q6
    have k7 := u7.id q7
    have k8 := u8.id q8
    have kg : ∀ x i, μg x i = μ x i := fun x i => by rw [k8, k7, k6, k5, k4, k3, k2]
    have kh : ∀ x i, μh x i = μg x i := fun x i => by
      by_cases g : x = a + 1
      · subst g
        rw [c1.2 i]
        split
        · show μg (a + 1) (0 + (i - 0)) = _
          rw [Nat.sub_zero, Nat.zero_add]
        · rfl
      · exact c1.1 x i g
    have k1 : ∀ x i, μ1 x i = μh x i := fun x i => by
      by_cases g : x = a + 2
      · subst g
        rw [c2.2 i]
        split
        · show μh (a + 2) (0 + (i - 0)) = _
          rw [Nat.sub_zero, Nat.zero_add]
        · rfl
      · exact c2.1 x i g
    have ka : ∀ x i, μ1 x i = μ x i := fun x i => by rw [k1, kh, kg]
    exact rtC.of (ka a) (ka (a + 1)) (ka (a + 2))
  · have eb : ∀ i, μa b i = μ b i := fun i => u2.2 b i (Or.inl (Ne.symm e))
    have ec : ∀ i, μb b i = μ b i := fun i => (u3.2 b i (Or.inl (Ne.symm e))).trans (eb i)
    have ed : ∀ i, μc b i = μ b i := fun i => (u4.2 b i (Or.inl (Ne.symm e))).trans (ec i)
    have ee : ∀ i, μd b i = μ b i := fun i => (u5.2 b i (Or.inl (Ne.symm e))).trans (ed i)
    have ef : ∀ i, μe b i = μ b i := fun i => (u6.2 b i (Or.inl (Ne.symm e))).trans (ee i)
    have eg : ∀ i, μf b i = μ b i := fun i => (u7.2 b i (Or.inl (Ne.symm e))).trans (ef i)
    have eh : ∀ i, μg b i = μ b i := fun i => (u8.2 b i (Or.inl (Ne.symm e))).trans (eg i)
    have ei : ∀ i, μh b i = μ b i := fun i => (c1.1 b i (by omega)).trans (eh i)
    have gw : ∀ i, μg (b + 1) i = μ (b + 1) i := fun i => by
      rw [u8.2 _ _ (Or.inl hab), u7.2 _ _ (Or.inl hab), u6.2 _ _ (Or.inl hab), u5.2 _ _ (Or.inl hab), u4.2 _ _ (Or.inl hab), u3.2 _ _ (Or.inl hab), u2.2 _ _ (Or.inl hab)]
    have gm : ∀ i, μh (b + 2) i = μ (b + 2) i := fun i => by
      rw [c1.1 _ _ (by omega), u8.2 _ _ (Or.inl h2), u7.2 _ _ (Or.inl h2), u6.2 _ _ (Or.inl h2), u5.2 _ _ (Or.inl h2), u4.2 _ _ (Or.inl h2), u3.2 _ _ (Or.inl h2), u2.2 _ _ (Or.inl h2)]
    have last : ∀ i, μ1 a i = μg a i := fun i => (c2.1 a i (by omega)).trans (c1.1 a i (by omega))
    refine rtC.copy ?_ ?_ ?_ ?_ ?_ ?_ ?_ (fun i hi => ?_) (fun i hi => ?_)
    · rw [last, u8.2 _ _ (Or.inr (by decide)), u7.2 _ _ (Or.inr (by decide)), u6.2 _ _ (Or.inr (by decide)), u5.2 _ _ (Or.inr (by decide)), u4.2 _ _ (Or.inr (by decide)), u3.2 _ _ (Or.inr (by decide)), u2.1, q2]
    · rw [last, u8.2 _ _ (Or.inr (by decide)), u7.2 _ _ (Or.inr (by decide)), u6.2 _ _ (Or.inr (by decide)), u5.2 _ _ (Or.inr (by decide)), u4.2 _ _ (Or.inr (by decide)), u3.1, ← q3, eb]
    · rw [last, u8.2 _ _ (Or.inr (by decide)), u7.2 _ _ (Or.inr (by decide)), u6.2 _ _ (Or.inr (by decide)), u5.2 _ _ (Or.inr (by decide)), u4.1, ← q4, ec]
    · rw [last, u8.2 _ _ (Or.inr (by decide)), u7.2 _ _ (Or.inr (by decide)), u6.2 _ _ (Or.inr (by decide)), u5.1, ← q5, ed]
    · rw [last, u8.2 _ _ (Or.inr (by decide)), u7.2 _ _ (Or.inr (by decide)), u6.1, ← q6, ee]
    · rw [last, u8.2 _ _ (Or.inr (by decide)), u7.1, ← q7, ef]
    · rw [last, u8.1, ← q8, eg]
    · rw [c2.1 _ _ (by omega), c1.2 i, if_pos (by rw [eh] at qn; omega)]
      show μg (b + 1) (0 + (i - 0)) = _
      rw [Nat.sub_zero, Nat.zero_add, gw]
    · rw [c2.2 i, if_pos (by rw [ei] at qm; omega)]
      show μh (b + 2) (0 + (i - 0)) = _
      rw [Nat.sub_zero, Nat.zero_add, gm]
end
section
/-! What the reader of policies lays down, beside its machine (mem82). Sets of places are predicates. -/
abbrev Bs : Type := Nat → Prop
/-- a piece of a way: its first places, its last places, whether it may be empty -/
abbrev Pce : Type := Bs × Bs × Prop
/-- a test: what, turned, three numbers; of a way: the whole way as a piece -/
abbrev Tst : Type := Int × Int × Int × Int × Int × Pce
abbrev Act : Type := Int × Int
/-- a level of a way: all rows so far, the row in hand -/
abbrev Lvl : Type := Pce × Pce
/-- places: their numbers, what follows them; the levels; the piece in hand -/
abbrev Wst : Type := (Nat → Int) × (Nat → Nat → Prop) × List Lvl × Pce
/-- rows done; tests, acts of the row in hand; turned, what, two numbers; the way -/
abbrev Out : Type := List (List Tst × List Act) × List Tst × List Act × (Int × Int × Int × Int) × Wst
def bs0 : Bs := fun _ => False
def bs1 (m : Int) : Bs := fun k => (k : Int) = m
def bsU (a b : Bs) : Bs := fun k => a k ∨ b k
def pc0 : Pce := (bs0, bs0, False)
def pcE : Pce := (bs0, bs0, True)
def lv0 : Lvl := (pc0, pcE)
def wt0 : Wst := (fun _ => 0, fun _ _ => False, [], pc0)
def ou0 : Out := ([], [], [], (0, 0, 0, 0), wt0)
/-- a row begins -/
def ouNew (o : Out) : Out := (o.1, [], [], (0, 0, 0, 0), o.2.2.2.2)
def ouNot (o : Out) : Out := (o.1, o.2.1, o.2.2.1, (1 - o.2.2.2.1.1, o.2.2.2.1.2), o.2.2.2.2)
def ouWhat (o : Out) (t : Int) : Out := (o.1, o.2.1, o.2.2.1, (o.2.2.2.1.1, t, 0, 0), o.2.2.2.2)
def ouA (o : Out) (a : Int) : Out := (o.1, o.2.1, o.2.2.1, (o.2.2.2.1.1, o.2.2.2.1.2.1, a, 0), o.2.2.2.2)
def ouAB (o : Out) (a b : Int) : Out := (o.1, o.2.1, o.2.2.1, (o.2.2.2.1.1, o.2.2.2.1.2.1, a, b), o.2.2.2.2)
def ouT (o : Out) (x : Tst) : Out := (o.1, o.2.1 ++ [x], o.2.2.1, (0, 0, 0, 0), o.2.2.2.2)
/-- the test that ends with the number v -/
def tsNum (c : Int × Int × Int × Int) (v : Int) : Tst := if c.2.1 = 4 then (4, c.1, c.2.2.1, c.2.2.2, v, pc0) else if 11 ≤ c.2.1 ∧ c.2.1 ≤ 13 then (c.2.1, c.1, c.2.2.1, v, 0, pc0) else (c.2.1, c.1, v, 0, 0, pc0)
def vdOf (t : Int) : Int := if t = 20 then 1 else if t = 21 then 2 else 0
def tsWord (c : Int × Int × Int × Int) (t : Int) : Tst := if c.2.1 = 10 then (10, c.1, t - 16, 0, 0, pc0) else (c.2.1, c.1, vdOf t, 0, 0, pc0)
def ouNum (o : Out) (v : Int) : Out := ouT o (tsNum o.2.2.2.1 v)
def ouWord (o : Out) (t : Int) : Out := ouT o (tsWord o.2.2.2.1 t)
def ouAct (o : Out) (a : Act) : Out := (o.1, o.2.1, o.2.2.1 ++ [a], (0, 0, 0, 0), o.2.2.2.2)
def ouEnd (o : Out) : Out := (o.1 ++ [(o.2.1, o.2.2.1)], [], [], (0, 0, 0, 0), o.2.2.2.2)
def ouW (o : Out) (w : Wst) : Out := (o.1, o.2.1, o.2.2.1, o.2.2.2.1, w)
/-- rows side by side -/
def pcOr (a b : Pce) : Pce := (bsU a.1 b.1, bsU a.2.1 b.2.1, a.2.2 ∨ b.2.2)
/-- a piece behind a row -/
def pcThen (a b : Pce) : Pce := (fun k => a.1 k ∨ (a.2.2 ∧ b.1 k), fun k => b.2.1 k ∨ (b.2.2 ∧ a.2.1 k), a.2.2 ∧ b.2.2)
def foU (f : Nat → Nat → Prop) (a b : Bs) : Nat → Nat → Prop := fun k j => f k j ∨ (a k ∧ b j)
def wtBeg (w : Wst) : Wst := (w.1, w.2.1, [lv0], pc0)
def wtAtom (w : Wst) (m x : Int) : Wst := (fun k => if (k : Int) = m then x else w.1 k, fun k j => ¬ (k : Int) = m ∧ w.2.1 k j, w.2.2.1, (bs1 m, bs1 m, False))
def wtPush (w : Wst) : Wst := (w.1, w.2.1, lv0 :: w.2.2.1, w.2.2.2)
def wtBar (w : Wst) : Wst := (w.1, w.2.1, (match w.2.2.1 with | [] => [] | v :: s => (pcOr v.1 v.2, pcE) :: s), w.2.2.2)
def wtPop (w : Wst) : Wst := match w.2.2.1 with | [] => w | v :: s => (w.1, w.2.1, s, pcOr v.1 v.2)
/-- a sign of repeating: 1042 *, 1043 +, 1063 ? -/
def wtRep (w : Wst) (t : Int) : Wst := (w.1, (if t = 1042 ∨ t = 1043 then foU w.2.1 w.2.2.2.2.1 w.2.2.2.1 else w.2.1), w.2.2.1, (w.2.2.2.1, w.2.2.2.2.1, w.2.2.2.2.2 ∨ t = 1042 ∨ t = 1063))
def wtJoin (w : Wst) : Wst := match w.2.2.1 with | [] => w | v :: s => (w.1, foU w.2.1 v.2.2.1 w.2.2.2.1, (v.1, pcThen v.2 w.2.2.2) :: s, w.2.2.2)
def ouWay (o : Out) : Out := ouT (ouW o (wtPop o.2.2.2.2)) (6, o.2.2.2.1.1, 0, 0, 0, (wtPop o.2.2.2.2).2.2.2)
/-- what a token does: s, x the machine's state and its number, m the places so far -/
def nxO (s m x : Int) (o : Out) (t v : Int) : Out :=
  if s = 0 then ouNew o
  else if s = 1 then (if t = 3 then ouNot o else ouWhat o t)
  else if s = 2 then ouNum o v
  else if s = 3 then ouWord o t
  else if s = 4 then ouA o (t - 1060)
  else if s = 6 then (if t = 23 ∨ t = 24 then ouAct o (t, 0) else ouWhat o t)
  else if s = 7 then ouAct o (o.2.2.2.1.2.1, v)
  else if s = 8 then (if t = 1059 then ouEnd o else o)
  else if s = 12 then ouAB o x v
  else if s = 13 then (if t = 5 then o else ouNum o 32)
  else if s = 14 then ouW o (wtBeg o.2.2.2.2)
  else if s = 15 then (if t = -2 then ouW o (wtAtom o.2.2.2.2 m v) else if t = 7 then ouW o (wtAtom o.2.2.2.2 m (-1)) else if t = 1040 then ouW o (wtPush o.2.2.2.2) else if t = 1124 then ouW o (wtBar o.2.2.2.2) else if x = 1 then ouWay o else ouW o (wtPop o.2.2.2.2))
  else if s = 16 then (if t = 1042 ∨ t = 1043 ∨ t = 1063 then ouW o (wtJoin (wtRep o.2.2.2.2 t)) else ouW o (wtJoin o.2.2.2.2))
  else o
section MchO
variable {wr : Int → Int → Int → Prop} {mk : Int → Int} {B : Int → Int} {c : Int}
/-- reached in n steps, and this was laid down -/
def rcP (wr : Int → Int → Int → Prop) (mk : Int → Int) (B : Int → Int) (c : Int) (a : Cfg) (o : Out) : Nat → Cfg → Out → Prop
  | 0, b, u => a = b ∧ o = u
  | n + 1, b, u => ∃ x y, rcP wr mk B c a o n x y ∧ ¬ x.1 = -1 ∧ ∃ t v f q, TokX wr B x.2.1 t v f q ∧ b = nxC mk c x t v f q ∧ u = nxO x.1 x.2.2.2.1 x.2.2.2.2.1 y t v
theorem rcP.rc {a : Cfg} {o : Out} : ∀ (n : Nat) {b : Cfg} {u : Out}, rcP wr mk B c a o n b u → rcN wr mk B c n a b
  | 0, _, _, h => h.1
  | n + 1, _, _, ⟨x, y, h1, h2, t, v, f, q, h3, h4, _⟩ => ⟨x, rcP.rc n h1, h2, t, v, f, q, h3, h4⟩
theorem rcP.of {a : Cfg} {o : Out} : ∀ (n : Nat) {b : Cfg}, rcN wr mk B c n a b → ∃ u, rcP wr mk B c a o n b u
  | 0, _, h => ⟨o, h, rfl⟩
  | n + 1, _, ⟨x, h1, h2, t, v, f, q, h3, h4⟩ => by
    obtain ⟨y, g⟩ := rcP.of n h1
    exact ⟨_, x, y, g, h2, t, v, f, q, h3, h4, rfl⟩
theorem rcP.uniq (hw : ∀ a n x y, wr a n x → wr a n y → x = y) {a : Cfg} {o : Out} : ∀ (n : Nat) {b b' : Cfg} {u u' : Out}, rcP wr mk B c a o n b u → rcP wr mk B c a o n b' u' → b = b' ∧ u = u'
  | 0, _, _, _, _, h, g => ⟨h.1.symm.trans g.1, h.2.symm.trans g.2⟩
  | n + 1, _, _, _, _, ⟨x, y, h1, _, t, v, f, q, h3, h4, h5⟩, ⟨x', y', g1, _, t', v', f', q', g3, g4, g5⟩ => by
    obtain ⟨e1, e2⟩ := rcP.uniq hw n h1 g1
    subst e1 e2
    obtain ⟨d1, d2, d3, d4⟩ := h3.uniq hw g3
    subst d1 d2 d3 d4
    exact ⟨h4.trans g4.symm, h5.trans g5.symm⟩
/-- reached, and this was laid down -/
def rcO (wr : Int → Int → Int → Prop) (mk : Int → Int) (B : Int → Int) (c : Int) (a b : Cfg) (u : Out) : Prop := ∃ n, rcP wr mk B c a ou0 n b u
theorem rcO.refl {a : Cfg} : rcO wr mk B c a a ou0 := ⟨0, rfl, rfl⟩
theorem rcO.rc {a b : Cfg} {u : Out} (h : rcO wr mk B c a b u) : rcC wr mk B c a b := by
  obtain ⟨n, h⟩ := h
  exact ⟨n, rcP.rc n h⟩
theorem rcO.st {a : Cfg} {u : Out} {s p r m x y t v f q : Int} (h : rcO wr mk B c a (s, p, r, m, x, y) u) (hs : ¬ s = -1) (k : TokX wr B p t v f q) : rcO wr mk B c a (nxC mk c (s, p, r, m, x, y) t v f q) (nxO s m x u t v) := by
  obtain ⟨n, h⟩ := h
  exact ⟨n + 1, _, _, h, hs, t, v, f, q, k, rfl, rfl⟩
/-- both came to the same end: they laid down the same -/
theorem rcO.fin (hw : ∀ a n x y, wr a n x → wr a n y → x = y) {a : Cfg} {k f k' f' : Int} {u u' : Out} (h : rcO wr mk B c a (erC k f) u) (g : rcO wr mk B c a (erC k' f') u') : u = u' := by
  obtain ⟨n, h⟩ := h
  obtain ⟨m, g⟩ := g
  have e : n = m := by
    rcases Nat.lt_trichotomy n m with l | l | l
    · obtain ⟨d, rfl⟩ := Nat.exists_eq_add_of_lt l
      obtain ⟨x, x1, x2⟩ := rcN.pre n (d + 1) (rcP.rc _ g)
      have e := rcN.uniq hw n (rcP.rc n h) x1
      subst e
      obtain ⟨y, y1, y2⟩ := rcN.pre 1 d (show rcN wr mk B c (1 + d) (erC k f) _ by rw [Nat.add_comm]; exact x2)
      obtain ⟨z, z1, z2⟩ := y1
      have ez : erC k f = z := z1
      subst ez
      exact absurd rfl z2.1
    · exact l
    · obtain ⟨d, rfl⟩ := Nat.exists_eq_add_of_lt l
      obtain ⟨x, x1, x2⟩ := rcN.pre m (d + 1) (rcP.rc _ h)
      have e := rcN.uniq hw m (rcP.rc m g) x1
      subst e
      obtain ⟨y, y1, y2⟩ := rcN.pre 1 d (show rcN wr mk B c (1 + d) (erC k' f') _ by rw [Nat.add_comm]; exact x2)
      obtain ⟨z, z1, z2⟩ := y1
      have ez : erC k' f' = z := z1
      subst ez
      exact absurd rfl z2.1
  subst e
  exact (rcP.uniq hw n h g).2
end MchO
end
section
/-! Where both readers stand, with what they laid down: only of texts without a fault. -/
def CSo (μ : mM) (e : Int → Cfg) (u : Out) : Prop := μ 23 18 = 0 → ∃ p, SqT (wrW (bC 1 μ)) (bC 1 μ) μ (μ 23 9) p ∧ rcO (wrW (bC 1 μ)) mskF (bC 1 μ) (μ 23 14) (0, 0, 0, 0, 0, 0) (e p) u
theorem CSo.vac {μ : mM} {e : Int → Cfg} {u : Out} (h : ¬ μ 23 18 = 0) : CSo μ e u := fun g => absurd g h
theorem CSo.same {μ μ1 : mM} {e : Int → Cfg} {u : Out} (h : CSo μ e u) (tb : tbC μ μ1) (s : smK μ μ1) : CSo μ1 e u := fun g => by
  obtain ⟨⟨t1, t2, t3, t4⟩, t5, t6, t7⟩ := tb
  obtain ⟨s1, s2, _⟩ := s
  obtain ⟨p, h1, h2⟩ := h (s2.symm.trans g)
  refine ⟨p, ?_, ?_⟩
  · rw [bC.of t5 t6, s1]
    exact h1.of t1 t2 t3 t4
  · rw [bC.of t5 t6, t7]; exact h2
/-- a token is taken -/
theorem CSo.mvs {μ μ1 : mM} {s r m x y t v : Int} {e' : Int → Cfg} {u u' : Out} (h : CSo μ (fun p => (s, p, r, m, x, y)) u) (hc : CSc μ (fun p => (s, p, r, m, x, y))) (tb : tbC μ μ1) (st : stK μ μ1) (ht : ¬ t = -1) (hs : ¬ s = -1) (qt : cT μ = t) (qv : cV μ = v) (hE : ∀ p f q, nxC mskF (μ 23 14) (s, p, r, m, x, y) t v f q = e' q) (hu : nxO s m x u t v = u') : CSo μ1 e' u' := fun g => by
  have ht' : ¬ cT μ = -1 := by rw [qt]; exact ht
  obtain ⟨s1, s2, _⟩ := st (CSt.lt hc ht')
  obtain ⟨⟨t1, t2, t3, t4⟩, t5, t6, t7⟩ := tb
  obtain ⟨p, h1, h2⟩ := h (s2.symm.trans g)
  obtain ⟨_, q, g1, g2⟩ := h1.tok ht'
  refine ⟨q, ?_, ?_⟩
  · rw [bC.of t5 t6, s1]
    exact g2.of t1 t2 t3 t4
  · rw [bC.of t5 t6, t7]
    have k := h2.st hs g1
    have e1 : μ 24 (μ 23 9).toNat = t := qt
    have e2 : μ 25 (μ 23 9).toNat = v := qv
    rw [e1, e2, hE, hu] at k
    exact k
/-- nothing is taken, the machine goes on -/
theorem CSo.stay {μ : mM} {s r m x y t : Int} {e' : Int → Cfg} {u u' : Out} (h : CSo μ (fun p => (s, p, r, m, x, y)) u) (hs : ¬ s = -1) (qt : cT μ = t) (hE : ∀ p v f q, nxC mskF (μ 23 14) (s, p, r, m, x, y) t v f q = e' p) (hu : ∀ v, nxO s m x u t v = u') : CSo μ e' u' := fun g => by
  obtain ⟨p, h1, h2⟩ := h g
  have e1 : μ 24 (μ 23 9).toNat = t := qt
  refine ⟨p, h1, ?_⟩
  by_cases ht : μ 24 (μ 23 9).toNat = -1
  · obtain ⟨_, q, g1⟩ := h1.end ht
    have k := h2.st hs g1
    have et : t = -1 := e1.symm.trans ht
    rw [← et, hE, hu] at k
    exact k
  · obtain ⟨_, q, g1, _⟩ := h1.tok ht
    have k := h2.st hs g1
    rw [e1, hE, hu] at k
    exact k
theorem CSo.fail {μ μ1 : mM} {e : Int → Cfg} {u : Out} {k : Int} (n : flK μ μ1 k) (hk : ¬ k = 0) : CSo μ1 e u := CSo.vac (by
  rcases n.2 with ⟨a, b, _⟩ | ⟨_, b, _⟩
  · rw [b]; exact a
  · rw [b]
    split
    · decide
    · exact hk)
theorem CSo.cg {μ : mM} {s r m x y r' m' x' y' : Int} {u u' : Out} (h : CSo μ (fun p => (s, p, r, m, x, y)) u) (er : r = r') (em : m = m') (ex : x = x') (ey : y = y') (eu : u = u') : CSo μ (fun p => (s, p, r', m', x', y')) u' := by
  subst er; subst em; subst ex; subst ey; subst eu; exact h
theorem CSo.init {μ : mM} (h : SqT (wrW (bC 1 μ)) (bC 1 μ) μ (μ 23 9) 0) : CSo μ (fun p => (0, p, 0, 0, 0, 0)) ou0 := fun _ => ⟨0, h, rcO.refl⟩
/-- at the end -/
theorem CSo.done {μ : mM} {r m : Int} {u : Out} (h : CSo μ (fun p => (0, p, r, m, 0, 0)) u) (hf : μ 23 18 = 0) (ht : cT μ = -1) : rcO (wrW (bC 1 μ)) mskF (bC 1 μ) (μ 23 14) (0, 0, 0, 0, 0, 0) (erC 0 0) (ouNew u) := by
  obtain ⟨p, h1, h2⟩ := h hf
  obtain ⟨_, q, g1⟩ := h1.end ht
  exact h2.st (by decide) g1
def RSo (μ : mM) (e : Int → Cfg) (u : Out) : Prop := μ 106 37 = 0 → ∃ p t v q, TokX (wrW (bR μ)) (bR μ) p t v (μ 106 34) q ∧ ¬ t = -3 ∧ tyM μ t v ∧ μ 106 33 = q ∧ rcO (wrW (bR μ)) mskF (bR μ) (μ 106 39) (0, 0, 0, 0, 0, 0) (e p) u
theorem RSo.vac {μ : mM} {e : Int → Cfg} {u : Out} (h : ¬ μ 106 37 = 0) : RSo μ e u := fun g => absurd g h
theorem RSo.same {μ μ1 : mM} {e : Int → Cfg} {u : Out} (h : RSo μ e u) (tb : tbR μ μ1) (s : tsK μ μ1) : RSo μ1 e u := fun g => by
  obtain ⟨b1, b2⟩ := tb
  obtain ⟨s1, s2, s3, s4, s5, s6⟩ := s
  obtain ⟨p, t, v, q, h1, h2, h3, h4, h5⟩ := h (s5.symm.trans g)
  refine ⟨p, t, v, q, ?_, h2, h3.of s3 s4, s1.trans h4, ?_⟩
  · rw [b1, s2]; exact h1
  · rw [b1, b2]; exact h5
/-- a token is taken, the next one read -/
theorem RSo.next {μ μ1 : mM} {s r m x y : Int} {e' : Int → Cfg} {u u' : Out} (h : RSo μ (fun p => (s, p, r, m, x, y)) u) (tb : tbR μ μ1) (n : nxR μ μ1) (hs : ¬ s = -1) (hE : ∀ p t v f q, tyM μ t v → ¬ t = -3 → nxC mskF (μ 106 39) (s, p, r, m, x, y) t v f q = e' q) (hu : ∀ t v, tyM μ t v → ¬ t = -3 → nxO s m x u t v = u') : RSo μ1 e' u' := fun g => by
  obtain ⟨b1, b2⟩ := tb
  rcases n with ⟨n1, n2, _⟩ | ⟨n1, t', v', f', q', n2, n3⟩
  · exact absurd (n2.symm.trans g) n1
  · obtain ⟨p, t, v, q, h1, h2, h3, h4, h5⟩ := h n1
    have k := h5.st hs h1
    rw [hE p t v _ q h3 h2, hu t v h3 h2] at k
    rcases n3 with ⟨x1, _, x3, x4, x5⟩ | ⟨_, x2, _⟩
    · refine ⟨q, t', v', q', ?_, x1, x3, x5, ?_⟩
      · rw [b1, x4, ← h4]; exact n2
      · rw [b1, b2]; exact k
    · omega
/-- the machine goes on at the same token -/
theorem RSo.stay {μ : mM} {s r m x y : Int} {e' : Int → Cfg} {u u' : Out} (h : RSo μ (fun p => (s, p, r, m, x, y)) u) (hs : ¬ s = -1) (hE : ∀ p t v f q, μ 106 37 = 0 → tyM μ t v → ¬ t = -3 → nxC mskF (μ 106 39) (s, p, r, m, x, y) t v f q = e' p) (hu : ∀ t v, μ 106 37 = 0 → tyM μ t v → ¬ t = -3 → nxO s m x u t v = u') : RSo μ e' u' := fun g => by
  obtain ⟨p, t, v, q, h1, h2, h3, h4, h5⟩ := h g
  have k := h5.st hs h1
  rw [hE p t v _ q g h3 h2, hu t v g h3 h2] at k
  exact ⟨p, t, v, q, h1, h2, h3, h4, k⟩
theorem RSo.wrong {μ μ1 : mM} {e : Int → Cfg} {u : Out} {k : Int} (n : wrK μ μ1 k) (hk : ¬ k = 0) : RSo μ1 e u := RSo.vac (by
  rcases n with ⟨a, b, _⟩ | ⟨_, b, _⟩
  · rw [b]; exact a
  · rw [b]; exact hk)
theorem RSo.cg {μ : mM} {s r m x y r' m' x' y' : Int} {u u' : Out} (h : RSo μ (fun p => (s, p, r, m, x, y)) u) (er : r = r') (em : m = m') (ex : x = x') (ey : y = y') (eu : u = u') : RSo μ (fun p => (s, p, r', m', x', y')) u' := by
  subst er; subst em; subst ex; subst ey; subst eu; exact h
theorem RSo.done {μ : mM} {r m : Int} {u : Out} (h : RSo μ (fun p => (0, p, r, m, 0, 0)) u) (hf : μ 106 37 = 0) (ht : μ 106 35 = 0) : rcO (wrW (bR μ)) mskF (bR μ) (μ 106 39) (0, 0, 0, 0, 0, 0) (erC 0 0) (ouNew u) := by
  obtain ⟨p, t, v, q, h1, h2, h3, h4, h5⟩ := h hf
  have e : t = -1 := h3.fin.mpr ht
  subst e
  exact h5.st (by decide) h1
/-- both ends of a text without a fault: the same was laid down -/
theorem ro_same {B : Int → Int} {c : Int} {u u' : Out} (h : rcO (wrW B) mskF B c (0, 0, 0, 0, 0, 0) (erC 0 0) u) (g : rcO (wrW B) mskF B c (0, 0, 0, 0, 0, 0) (erC 0 0) u') : u = u' := rcO.fin wrW.uniq h g
end
section
/-! The verdict on rights, as a function of the rows. -/
noncomputable def vdF (ap ok : Nat → Prop) : Nat → Int
  | 0 => 2
  | k + 1 => @ite Int (ap k) (Classical.propDecidable _) (@ite Int (ok k) (Classical.propDecidable _) 1 (if vdF ap ok k = 2 then 0 else vdF ap ok k)) (vdF ap ok k)
section VDF
variable {ap ok ap' ok' : Nat → Prop}
theorem vdF.skip {k : Nat} (h : ¬ ap k) : vdF ap ok (k + 1) = vdF ap ok k := by
  show @ite Int (ap k) (Classical.propDecidable _) _ _ = _
  rw [if_neg h]
theorem vdF.hit {k : Nat} (h : ap k) (h2 : ok k) : vdF ap ok (k + 1) = 1 := by
  show @ite Int (ap k) (Classical.propDecidable _) (@ite Int (ok k) (Classical.propDecidable _) _ _) _ = _
  rw [if_pos h, if_pos h2]
theorem vdF.miss {k : Nat} (h : ap k) (h2 : ¬ ok k) : vdF ap ok (k + 1) = if vdF ap ok k = 2 then 0 else vdF ap ok k := by
  show @ite Int (ap k) (Classical.propDecidable _) (@ite Int (ok k) (Classical.propDecidable _) _ _) _ = _
  rw [if_pos h, if_neg h2]
theorem vdF.rng : ∀ k : Nat, 0 ≤ vdF ap ok k ∧ vdF ap ok k ≤ 2
  | 0 => by show (0 : Int) ≤ 2 ∧ (2 : Int) ≤ 2; decide
  | k + 1 => by
    have ih := vdF.rng k
    by_cases a : ap k
    · by_cases b : ok k
      · rw [vdF.hit a b]; decide
      · rw [vdF.miss a b]
        by_cases c : vdF ap ok k = 2
        · rw [if_pos c]; decide
        · rw [if_neg c]; exact ih
    · rw [vdF.skip a]; exact ih
theorem vdF.cg : ∀ k : Nat, (∀ r, r < k → (ap r ↔ ap' r) ∧ (ok r ↔ ok' r)) → vdF ap ok k = vdF ap' ok' k
  | 0, _ => rfl
  | k + 1, h => by
    have ih := vdF.cg k fun r hr => h r (by omega)
    obtain ⟨h1, h2⟩ := h k (by omega)
    by_cases a : ap k
    · by_cases b : ok k
      · rw [vdF.hit a b, vdF.hit (h1.mp a) (h2.mp b)]
      · rw [vdF.miss a b, vdF.miss (h1.mp a) (fun q => b (h2.mpr q)), ih]
    · rw [vdF.skip a, vdF.skip (fun q => a (h1.mpr q)), ih]
theorem vdF.stay {k : Nat} (h : vdF ap ok k = 1) : ∀ m : Nat, k ≤ m → vdF ap ok m = 1
  | m, hm => by
    by_cases e : m = k
    · rw [e]; exact h
    · obtain ⟨j, rfl⟩ : ∃ j, m = j + 1 := ⟨m - 1, by omega⟩
      have ih := vdF.stay h j (by omega)
      by_cases a : ap j
      · by_cases b : ok j
        · exact vdF.hit a b
        · rw [vdF.miss a b, ih]; rfl
      · rw [vdF.skip a]; exact ih
theorem vd.skip {v k : Int} (h : v = vdF ap ok k.toNat) (h0 : 0 ≤ k) (hn : ¬ ap k.toNat) : v = vdF ap ok (k + 1).toNat := by
  rw [show (k + 1).toNat = k.toNat + 1 by omega, vdF.skip hn]; exact h
theorem vd.go {v v' k : Int} (h : v = vdF ap ok k.toNat) (h0 : 0 ≤ k) (ha : ap k.toNat) (hv : (ok k.toNat ∧ v' = 1) ∨ (¬ ok k.toNat ∧ ((v = 2 ∧ v' = 0) ∨ (¬ v = 2 ∧ v' = v)))) : v' = vdF ap ok (k + 1).toNat := by
  rw [show (k + 1).toNat = k.toNat + 1 by omega]
  rcases hv with ⟨a, b⟩ | ⟨a, b⟩
  · rw [vdF.hit ha a, b]
  · rw [vdF.miss ha a, ← h]
    rcases b with ⟨c, d⟩ | ⟨c, d⟩
    · rw [if_pos c, d]
    · rw [if_neg c, d]
theorem vd.one {k n : Int} (h0 : 0 ≤ k ∧ k < n) (ha : ap k.toNat) (hb : ok k.toNat) : 1 = vdF ap ok n.toNat := by
  have := vdF.hit ha hb
  exact (vdF.stay this n.toNat (by omega)).symm
end VDF
def apR (μ : mM) (p d k : Int) (r : Nat) : Prop := (μ 122 r ≤ d ∧ d < μ 123 r ∧ μ 124 r ≤ k ∧ (μ 125 r = -99999999 ∨ k < μ 125 r) ∧ μ 109 (μ 119 r).toNat ≤ μ 109 p.toNat) ∧ bAnd (bXor (μ 108 (μ 119 r).toNat) (μ 108 p.toNat)) (mskF (μ 109 (μ 119 r).toNat)) = 0
def okR (μ : mM) (p n : Int) (r : Nat) : Prop := μ 121 r = n ∧ μ 109 p.toNat ≤ μ 120 r
noncomputable def vR (μ : mM) (p n d k : Int) : Int := vdF (apR μ p d k) (okR μ p n) (μ 106 18).toNat
section APR
variable {μ : mM} {p d k a b c s t lr lp ar aq n x y : Int} {r : Nat}
theorem apR.yes (q1 : μ 122 r = a) (q2 : μ 123 r = b) (q3 : μ 124 r = c) (q4 : μ 125 r = s) (q5 : μ 119 r = t) (q6 : μ 109 t.toNat = lr) (q7 : μ 109 p.toNat = lp) (q8 : μ 108 t.toNat = ar) (q9 : μ 108 p.toNat = aq) (h : a ≤ d ∧ d < b ∧ c ≤ k ∧ (s = -99999999 ∨ k < s) ∧ lr ≤ lp) (hy : bAnd (bXor ar aq) (mskF lr) = 0) : apR μ p d k r := by
  unfold apR; rw [q1, q2, q3, q4, q5, q6, q7, q8, q9]; exact ⟨h, hy⟩
theorem apR.no1 (q1 : μ 122 r = a) (q2 : μ 123 r = b) (q3 : μ 124 r = c) (q4 : μ 125 r = s) (q5 : μ 119 r = t) (q6 : μ 109 t.toNat = lr) (q7 : μ 109 p.toNat = lp) (h : ¬ (a ≤ d ∧ d < b ∧ c ≤ k ∧ (s = -99999999 ∨ k < s) ∧ lr ≤ lp)) : ¬ apR μ p d k r := by
  unfold apR; rw [q1, q2, q3, q4, q5, q6, q7]; exact fun g => h g.1
theorem apR.no2 (q5 : μ 119 r = t) (q6 : μ 109 t.toNat = lr) (q8 : μ 108 t.toNat = ar) (q9 : μ 108 p.toNat = aq) (hy : ¬ bAnd (bXor ar aq) (mskF lr) = 0) : ¬ apR μ p d k r := by
  unfold apR; rw [q5, q6, q8, q9]; exact fun g => hy g.2
theorem okR.iff (q1 : μ 121 r = x) (q2 : μ 109 p.toNat = lp) (q3 : μ 120 r = y) {v v' : Int} (h : (x = n ∧ lp ≤ y ∧ v' = 1) ∨ (¬ (x = n ∧ lp ≤ y) ∧ ((v = 2 ∧ v' = 0) ∨ (¬ v = 2 ∧ v' = v)))) : (okR μ p n r ∧ v' = 1) ∨ (¬ okR μ p n r ∧ ((v = 2 ∧ v' = 0) ∨ (¬ v = 2 ∧ v' = v))) := by
  unfold okR; rw [q1, q2, q3]
  rcases h with ⟨a, b, c⟩ | ⟨a, b⟩
  · exact Or.inl ⟨⟨a, b⟩, c⟩
  · exact Or.inr ⟨a, b⟩
end APR
end
section
/-! The verdict: the class's rows, and both sides. -/
def vrA (B : Prop) (v z : Int) : Prop := (B ∧ z = -1) ∨ (¬ B ∧ z = v)
theorem vrA.eq {B : Prop} {v v' z z' : Int} (h : vrA B v z) (k : vrA B v' z') (e : ¬ B → v = v') : z = z' := by
  rcases h with ⟨a, b⟩ | ⟨a, b⟩ <;> rcases k with ⟨c, d⟩ | ⟨c, d⟩
  · omega
  · exact absurd a c
  · exact absurd c a
  · rw [b, d, e a]
def apC (μ : mM) (p d k : Int) (r : Nat) : Prop := (μ 17 r ≤ d ∧ d < μ 18 r ∧ μ 19 r ≤ k ∧ (μ 20 r = -1 ∨ k < μ 20 r) ∧ μ 8 (μ 14 r).toNat ≤ μ 8 p.toNat) ∧ bAnd (μ 7 p.toNat) (μ 9 (μ 14 r).toNat) = μ 7 (μ 14 r).toNat
def okC (μ : mM) (p n : Int) (r : Nat) : Prop := μ 16 r = n ∧ μ 8 p.toNat ≤ μ 15 r
noncomputable def vC (μ : mM) (p n d k : Int) : Int := vdF (apC μ p d k) (okC μ p n) (μ 6 17).toNat
section APC
variable {μ : mM} {p d k a b c s t lr lp ar aq mk n x y z : Int} {r : Nat}
theorem apC.yes (q1 : μ 17 r = a) (q2 : μ 18 r = b) (q3 : μ 19 r = c) (q4 : μ 20 r = s) (q5 : μ 14 r = t) (q6 : μ 8 t.toNat = lr) (q7 : μ 8 p.toNat = lp) (q8 : μ 7 t.toNat = ar) (q9 : μ 7 p.toNat = aq) (q10 : μ 9 t.toNat = mk) (h : a ≤ d ∧ d < b ∧ c ≤ k ∧ (s = -1 ∨ k < s) ∧ lr ≤ lp) (qz : bAnd aq mk = z) (hz : z = ar) : apC μ p d k r := by
  unfold apC; rw [q1, q2, q3, q4, q5, q6, q7, q8, q9, q10]; exact ⟨h, qz.trans hz⟩
theorem apC.no1 (q1 : μ 17 r = a) (q2 : μ 18 r = b) (q3 : μ 19 r = c) (q4 : μ 20 r = s) (q5 : μ 14 r = t) (q6 : μ 8 t.toNat = lr) (q7 : μ 8 p.toNat = lp) (h : ¬ (a ≤ d ∧ d < b ∧ c ≤ k ∧ (s = -1 ∨ k < s) ∧ lr ≤ lp)) : ¬ apC μ p d k r := by
  unfold apC; rw [q1, q2, q3, q4, q5, q6, q7]; exact fun g => h g.1
theorem apC.no2 (q5 : μ 14 r = t) (q8 : μ 7 t.toNat = ar) (q9 : μ 7 p.toNat = aq) (q10 : μ 9 t.toNat = mk) (qz : bAnd aq mk = z) (hz : ¬ z = ar) : ¬ apC μ p d k r := by
  unfold apC; rw [q5, q8, q9, q10]; exact fun g => hz (qz.symm.trans g.2)
theorem okC.no (q1 : μ 16 r = x) (q2 : μ 8 p.toNat = lp) (q3 : μ 15 r = y) {v : Int} (h : ¬ (x = n ∧ lp ≤ y)) (hv : v = 0 ∨ v = 2) : (okC μ p n r ∧ (0 : Int) = 1) ∨ (¬ okC μ p n r ∧ ((v = 2 ∧ (0 : Int) = 0) ∨ (¬ v = 2 ∧ (0 : Int) = v))) := by
  unfold okC; rw [q1, q2, q3]
  exact Or.inr ⟨h, by omega⟩
theorem okC.yes (q1 : μ 16 r = x) (q2 : μ 8 p.toNat = lp) (q3 : μ 15 r = y) (h : x = n ∧ lp ≤ y) : okC μ p n r := by
  unfold okC; rw [q1, q2, q3]; exact h
end APC
/-! bits -/
theorem bvCover (a x m : BitVec 32) (h : a &&& (m ^^^ BitVec.allOnes 32) = 0#32) : (x &&& m) = a ↔ ((a ^^^ x) &&& m) = 0#32 := by
  have hb : ∀ i, i < 32 → (a.getLsbD i && !(m.getLsbD i)) = false := fun i hi => by
    have := congrArg (fun v => BitVec.getLsbD v i) h
    simp only [BitVec.getLsbD_and, BitVec.getLsbD_xor, BitVec.getLsbD_allOnes, hi, decide_true, Bool.xor_true, BitVec.getLsbD_zero] at this
    exact this
  constructor
  · intro e
    apply BitVec.eq_of_getLsbD_eq
    intro i hi
    have := congrArg (fun v => BitVec.getLsbD v i) e
    simp only [BitVec.getLsbD_and] at this
    simp only [BitVec.getLsbD_and, BitVec.getLsbD_xor, BitVec.getLsbD_zero]
    rw [← this]
    cases x.getLsbD i <;> cases m.getLsbD i <;> rfl
  · intro e
    apply BitVec.eq_of_getLsbD_eq
    intro i hi
    have h1 := congrArg (fun v => BitVec.getLsbD v i) e
    simp only [BitVec.getLsbD_and, BitVec.getLsbD_xor, BitVec.getLsbD_zero] at h1
    have h2 := hb i hi
    simp only [BitVec.getLsbD_and]
    revert h1 h2
    cases a.getLsbD i <;> cases x.getLsbD i <;> cases m.getLsbD i <;> decide
theorem bCover {ar aq m : Int} (ha : -2147483648 ≤ ar ∧ ar ≤ 2147483647) (h : bAnd ar (bXor m (-1)) = 0) : bAnd aq m = ar ↔ bAnd (bXor ar aq) m = 0 := by
  have z0 : ∀ v : Int32, v.toInt = 0 ↔ v.toBitVec = 0#32 := fun v => by
    constructor
    · intro e
      have : v = 0 := Int32.toInt_inj.mp e
      rw [this]; rfl
    · intro e
      have : v = 0 := Int32.toBitVec_inj.mp e
      rw [this]; rfl
  unfold bAnd bXor at *
  rw [Int32.ofInt_toInt] at h
  rw [Int32.ofInt_toInt]
  have h := (z0 _).mp h
  rw [z0]
  rw [Int32.toBitVec_and, Int32.toBitVec_xor] at h
  rw [Int32.toBitVec_and, Int32.toBitVec_xor]
  have em : (Int32.ofInt (-1)).toBitVec = BitVec.allOnes 32 := by decide
  rw [em] at h
  rw [← bvCover _ _ _ h, ← Int32.toBitVec_and]
  constructor
  · intro e
    have : Int32.ofInt aq &&& Int32.ofInt m = Int32.ofInt ar := by
      apply Int32.toInt_inj.mp
      rw [e, ivI ha]
    rw [this]
  · intro e
    have : Int32.ofInt aq &&& Int32.ofInt m = Int32.ofInt ar := Int32.toBitVec_inj.mp e
    rw [this, ivI ha]
end
section
/-! Longs as sets of places. -/
def bLg (x : Int) (k : Nat) : Prop := (Int64.ofInt x).toBitVec.getLsbD k = true
theorem bLg.or {x y z : Int} (q : lOr x y = z) (k : Nat) : bLg z k ↔ (bLg x k ∨ bLg y k) := by
  subst q
  unfold bLg lOr
  rw [Int64.ofInt_toInt, Int64.toBitVec_or, BitVec.getLsbD_or, Bool.or_eq_true]
theorem bLg.and {x y z : Int} (q : lAnd x y = z) (k : Nat) : bLg z k ↔ (bLg x k ∧ bLg y k) := by
  subst q
  unfold bLg lAnd
  rw [Int64.ofInt_toInt, Int64.toBitVec_and, BitVec.getLsbD_and, Bool.and_eq_true]
theorem bLg.zero (k : Nat) : ¬ bLg 0 k := by
  unfold bLg
  rw [show (Int64.ofInt 0).toBitVec = 0#64 from by decide, BitVec.getLsbD_zero]
  decide
theorem bLg_one_fin : ∀ m : Fin 41, ∀ k : Fin 64, (Int64.ofInt (lShl 1 ((m.val : Nat) : Int))).toBitVec.getLsbD k.val = decide (k.val = m.val) := by decide +kernel
theorem bLg.one {m z : Int} (h : 0 ≤ m ∧ m ≤ 40) (q : lShl 1 m = z) (k : Nat) : bLg z k ↔ (k : Int) = m := by
  subst q
  have em : ((m.toNat : Nat) : Int) = m := Int.toNat_of_nonneg h.1
  by_cases c : k < 64
  · have g := bLg_one_fin ⟨m.toNat, by omega⟩ ⟨k, c⟩
    simp only [em] at g
    unfold bLg
    rw [g, decide_eq_true_eq]
    omega
  · unfold bLg
    rw [BitVec.getLsbD_of_ge _ _ (by omega)]
    constructor
    · intro g; exact absurd g (by decide)
    · intro g; omega
theorem lAnd1 {y z : Int} (q : lAnd y 1 = z) : (z = 1 ∧ bLg y 0) ∨ (z = 0 ∧ ¬ bLg y 0) := by
  subst q
  unfold lAnd bLg
  have e : (Int64.ofInt y &&& Int64.ofInt 1).toBitVec = BitVec.setWidth 64 (BitVec.ofBool ((Int64.ofInt y).toBitVec.getLsbD 0)) := by
    rw [Int64.toBitVec_and]
    exact BitVec.and_one_eq_setWidth_ofBool_getLsbD
  have t : (Int64.ofInt y &&& Int64.ofInt 1).toInt = (Int64.ofInt y &&& Int64.ofInt 1).toBitVec.toInt := rfl
  rw [t, e]
  cases (Int64.ofInt y).toBitVec.getLsbD 0 with
  | false => exact Or.inr ⟨by decide, by decide⟩
  | true => exact Or.inl ⟨by decide, by decide⟩
theorem ush_fin : ∀ k : Fin 64, ((((Int32.ofInt ((k.val : Nat) : Int)).toInt64.toUInt64 &&& Int64.toUInt64 63).toBitVec % 64).toNat) = k.val := by decide +kernel
theorem shr_fin : ∀ k : Fin 64, ((((Int32.ofInt ((k.val : Nat) : Int)).toInt64 &&& 63).toBitVec.smod 64).toNat) = k.val := by decide +kernel
theorem bLg.ush {x k y : Int} (hk : 0 ≤ k ∧ k < 64) (q : lUsh x k = y) : bLg y 0 ↔ bLg x k.toNat := by
  subst q
  have ek : ((k.toNat : Nat) : Int) = k := Int.toNat_of_nonneg hk.1
  have g := ush_fin ⟨k.toNat, by omega⟩
  simp only [ek] at g
  unfold bLg lUsh
  rw [Int64.ofInt_toInt]
  have r : (((Int64.ofInt x).toUInt64 >>> ((Int32.ofInt k).toInt64.toUInt64 &&& Int64.toUInt64 63)).toInt64).toBitVec = (Int64.ofInt x).toBitVec >>> k.toNat := by
    show ((Int64.ofInt x).toUInt64 >>> ((Int32.ofInt k).toInt64.toUInt64 &&& Int64.toUInt64 63)).toBitVec = _
    rw [UInt64.toBitVec_shiftRight, BitVec.ushiftRight_eq', g]
    rfl
  rw [r, BitVec.getLsbD_ushiftRight, Nat.add_zero]
theorem bLg.shr {x k y : Int} (hk : 0 ≤ k ∧ k < 64) (q : lShr x k = y) : bLg y 0 ↔ bLg x k.toNat := by
  subst q
  have ek : ((k.toNat : Nat) : Int) = k := Int.toNat_of_nonneg hk.1
  have g := shr_fin ⟨k.toNat, by omega⟩
  simp only [ek] at g
  unfold bLg lShr
  rw [Int64.ofInt_toInt, Int64.toBitVec_shiftRight, BitVec.sshiftRight', g, BitVec.getLsbD_sshiftRight, Nat.add_zero, if_pos (show k.toNat < 64 by omega)]
  simp
/-- the class asks so -/
theorem bLg.c {x k y z : Int} (hk : 0 ≤ k ∧ k < 64) (q1 : lUsh x k = y) (q2 : lAnd y 1 = z) : ¬ z = 0 ↔ bLg x k.toNat := by
  rw [← bLg.ush hk q1]
  rcases lAnd1 q2 with ⟨a, b⟩ | ⟨a, b⟩
  · exact ⟨fun _ => b, fun _ => by omega⟩
  · exact ⟨fun h => absurd a h, fun h => absurd h b⟩
/-- the reference asks so -/
theorem bLg.r {x k y z : Int} (hk : 0 ≤ k ∧ k < 64) (q1 : lShr x k = y) (q2 : lAnd y 1 = z) : z = 1 ↔ bLg x k.toNat := by
  rw [← bLg.shr hk q1]
  rcases lAnd1 q2 with ⟨a, b⟩ | ⟨a, b⟩
  · exact ⟨fun _ => b, fun _ => a⟩
  · exact ⟨fun h => by omega, fun h => absurd h b⟩
/-- none of them: the long is 0 -/
theorem bLg.none {x : Int} (hx : -9223372036854775808 ≤ x ∧ x ≤ 9223372036854775807) : x = 0 ↔ ∀ k, ¬ bLg x k := by
  constructor
  · intro e k
    rw [e]; exact bLg.zero k
  · intro h
    have e : (Int64.ofInt x).toBitVec = 0#64 := by
      apply BitVec.eq_of_getLsbD_eq
      intro i hi
      have g : ¬ (Int64.ofInt x).toBitVec.getLsbD i = true := h i
      rw [BitVec.getLsbD_zero]
      exact Bool.eq_false_iff.mpr g
    have t : (Int64.ofInt x).toInt = (Int64.ofInt x).toBitVec.toInt := rfl
    rw [jvI hx, e] at t
    exact t
end
section
/-! Whether a way fits: sets of places, one number behind another. Nm: the numbers of the places, Nx: what follows them. -/
def isS (x : Int) (S : Bs) : Prop := ∀ j, bLg x j ↔ S j
theorem isS.zero : isS 0 bs0 := fun j => ⟨fun h => absurd h (bLg.zero j), fun h => h.elim⟩
theorem isS.cg {x : Int} {S T : Bs} (h : isS x S) (e : ∀ j, S j ↔ T j) : isS x T := fun j => (h j).trans (e j)
theorem isS.or {x y z : Int} {S T : Bs} (h : isS x S) (k : isS y T) (q : lOr x y = z) : isS z (bsU S T) := fun j => (bLg.or q j).trans (or_congr (h j) (k j))
theorem isS.one {m z : Int} (h : 0 ≤ m ∧ m ≤ 40) (q : lShl 1 m = z) : isS z (bs1 m) := fun j => bLg.one h q j
/-- the places below k that are in S and fit w -/
def rcS (Nm : Nat → Int) (S : Bs) (w : Int) (k : Nat) : Bs := fun j => j < k ∧ S j ∧ (Nm j < 0 ∨ Nm j = w)
def opS (Nx : Nat → Bs) (R : Bs) : Bs := fun x => ∃ j, R j ∧ Nx j x
theorem rcS.zero {Nm : Nat → Int} {S : Bs} {w : Int} : isS 0 (rcS Nm S w 0) := isS.zero.cg fun j => ⟨fun h => h.elim, fun h => absurd h.1 (Nat.not_lt_zero j)⟩
theorem opS.zero {Nm : Nat → Int} {Nx : Nat → Bs} {S : Bs} {w : Int} : isS 0 (opS Nx (rcS Nm S w 0)) := isS.zero.cg fun j => ⟨fun h => h.elim, fun ⟨i, h, _⟩ => absurd h.1 (Nat.not_lt_zero i)⟩
theorem rcS.yes {Nm : Nat → Int} {S : Bs} {w : Int} {k : Nat} (h1 : S k) (h2 : Nm k < 0 ∨ Nm k = w) (j : Nat) : rcS Nm S w (k + 1) j ↔ (rcS Nm S w k j ∨ j = k) := by
  unfold rcS
  constructor
  · rintro ⟨a, b⟩
    by_cases e : j = k
    · exact Or.inr e
    · exact Or.inl ⟨by omega, b⟩
  · rintro (⟨a, b⟩ | e)
    · exact ⟨by omega, b⟩
    · subst e
      exact ⟨by omega, h1, h2⟩
theorem rcS.no {Nm : Nat → Int} {S : Bs} {w : Int} {k : Nat} (h : ¬ (S k ∧ (Nm k < 0 ∨ Nm k = w))) (j : Nat) : rcS Nm S w (k + 1) j ↔ rcS Nm S w k j := by
  unfold rcS
  constructor
  · rintro ⟨a, b⟩
    refine ⟨?_, b⟩
    by_cases e : j = k
    · subst e; exact absurd b h
    · omega
  · rintro ⟨a, b⟩
    exact ⟨by omega, b⟩
theorem isS.put {Nm : Nat → Int} {S : Bs} {w x y z k k' : Int} (h : isS x (rcS Nm S w k.toNat)) (hk : 0 ≤ k ∧ k ≤ 40) (h1 : S k.toNat) (h2 : Nm k.toNat < 0 ∨ Nm k.toNat = w) (q1 : lShl 1 k = y) (q2 : lOr x y = z) (e : k' = k + 1) : isS z (rcS Nm S w k'.toNat) := by
  rw [show k'.toNat = k.toNat + 1 by omega]
  exact (h.or (isS.one hk q1) q2).cg fun j => by
    rw [rcS.yes h1 h2]
    unfold bsU bs1
    rw [show ((j : Int) = k) = (j = k.toNat) from propext ⟨fun _ => by omega, fun _ => by omega⟩]
theorem isS.skip {Nm : Nat → Int} {S : Bs} {w x k k' : Int} (h : isS x (rcS Nm S w k.toNat)) (hk : 0 ≤ k) (hn : ¬ (S k.toNat ∧ (Nm k.toNat < 0 ∨ Nm k.toNat = w))) (e : k' = k + 1) : isS x (rcS Nm S w k'.toNat) := by
  rw [show k'.toNat = k.toNat + 1 by omega]
  exact h.cg fun j => (rcS.no hn j).symm
theorem opS.put {Nm : Nat → Int} {Nx : Nat → Bs} {S : Bs} {w x n z k k' : Int} (h : isS x (opS Nx (rcS Nm S w k.toNat))) (hk : 0 ≤ k) (h1 : S k.toNat) (h2 : Nm k.toNat < 0 ∨ Nm k.toNat = w) (hn : isS n (Nx k.toNat)) (q : lOr x n = z) (e : k' = k + 1) : isS z (opS Nx (rcS Nm S w k'.toNat)) := by
  rw [show k'.toNat = k.toNat + 1 by omega]
  exact (h.or hn q).cg fun j => by
    unfold bsU opS
    constructor
    · rintro (⟨i, a, b⟩ | b)
      · exact ⟨i, (rcS.yes h1 h2 i).mpr (Or.inl a), b⟩
      · exact ⟨k.toNat, (rcS.yes h1 h2 _).mpr (Or.inr rfl), b⟩
    · rintro ⟨i, a, b⟩
      rcases (rcS.yes h1 h2 i).mp a with c | c
      · exact Or.inl ⟨i, c, b⟩
      · subst c; exact Or.inr b
theorem opS.skip {Nm : Nat → Int} {Nx : Nat → Bs} {S : Bs} {w x k k' : Int} (h : isS x (opS Nx (rcS Nm S w k.toNat))) (hk : 0 ≤ k) (hn : ¬ (S k.toNat ∧ (Nm k.toNat < 0 ∨ Nm k.toNat = w))) (e : k' = k + 1) : isS x (opS Nx (rcS Nm S w k'.toNat)) := by
  rw [show k'.toNat = k.toNat + 1 by omega]
  exact h.cg fun j => by
    unfold opS
    constructor
    · rintro ⟨i, a, b⟩
      exact ⟨i, (rcS.no hn i).mpr a, b⟩
    · rintro ⟨i, a, b⟩
      exact ⟨i, (rcS.no hn i).mp a, b⟩
/-- the reference does it in two rounds: what follows those of R below k -/
def opB (Nx : Nat → Bs) (R : Bs) (k : Nat) : Bs := fun x => ∃ j, j < k ∧ R j ∧ Nx j x
theorem opB.zero {Nx : Nat → Bs} {R : Bs} : isS 0 (opB Nx R 0) := isS.zero.cg fun j => ⟨fun h => h.elim, fun ⟨i, h, _⟩ => absurd h (Nat.not_lt_zero i)⟩
theorem opB.put {Nx : Nat → Bs} {R : Bs} {x n z k k' : Int} (h : isS x (opB Nx R k.toNat)) (hk : 0 ≤ k) (h1 : R k.toNat) (hn : isS n (Nx k.toNat)) (q : lOr x n = z) (e : k' = k + 1) : isS z (opB Nx R k'.toNat) := by
  rw [show k'.toNat = k.toNat + 1 by omega]
  exact (h.or hn q).cg fun j => by
    unfold bsU opB
    constructor
    · rintro (⟨i, a, b⟩ | b)
      · exact ⟨i, by omega, b⟩
      · exact ⟨k.toNat, by omega, h1, b⟩
    · rintro ⟨i, a, b, d⟩
      by_cases c : i = k.toNat
      · subst c; exact Or.inr d
      · exact Or.inl ⟨i, by omega, b, d⟩
theorem opB.skip {Nx : Nat → Bs} {R : Bs} {x k k' : Int} (h : isS x (opB Nx R k.toNat)) (hk : 0 ≤ k) (h1 : ¬ R k.toNat) (e : k' = k + 1) : isS x (opB Nx R k'.toNat) := by
  rw [show k'.toNat = k.toNat + 1 by omega]
  exact h.cg fun j => by
    unfold opB
    constructor
    · rintro ⟨i, a, b⟩
      exact ⟨i, by omega, b⟩
    · rintro ⟨i, a, b, d⟩
      refine ⟨i, ?_, b, d⟩
      by_cases c : i = k.toNat
      · subst c; exact absurd b h1
      · omega
theorem opB.all {Nm : Nat → Int} {Nx : Nat → Bs} {S : Bs} {w x : Int} {m : Nat} (h : isS x (opB Nx (rcS Nm S w m) m)) : isS x (opS Nx (rcS Nm S w m)) := h.cg fun j => by
  unfold opB opS
  constructor
  · rintro ⟨i, _, b⟩; exact ⟨i, b⟩
  · rintro ⟨i, b⟩; exact ⟨i, b.1.1, b⟩
/-- what may come behind i numbers -/
def opI (Nm : Nat → Int) (Nx : Nat → Bs) (F : Bs) (m : Nat) (ws : Nat → Int) : Nat → Bs
  | 0 => F
  | i + 1 => opS Nx (rcS Nm (opI Nm Nx F m ws i) (ws i) m)
def rcI (Nm : Nat → Int) (Nx : Nat → Bs) (F : Bs) (m : Nat) (ws : Nat → Int) (i : Nat) : Bs := rcS Nm (opI Nm Nx F m ws i) (ws i) m
/-- a way of n numbers fits -/
def wyM (Nm : Nat → Int) (Nx : Nat → Bs) (P : Pce) (m : Nat) (ws : Nat → Int) (n : Nat) : Prop := (n = 0 ∧ P.2.2) ∨ (0 < n ∧ ∃ k, rcI Nm Nx P.1 m ws (n - 1) k ∧ P.2.1 k)
theorem opI.next {Nm : Nat → Int} {Nx : Nat → Bs} {F : Bs} {m : Nat} {ws : Nat → Int} {x w i i' : Int} (h : isS x (opS Nx (rcS Nm (opI Nm Nx F m ws i.toNat) w m))) (h0 : 0 ≤ i) (hw : ws i.toNat = w) (e : i' = i + 1) : isS x (opI Nm Nx F m ws i'.toNat) := by
  rw [show i'.toNat = i.toNat + 1 by omega]
  subst hw
  exact h
theorem wyM.end {Nm : Nat → Int} {Nx : Nat → Bs} {P : Pce} {m : Nat} {ws : Nat → Int} {x y z n i : Int} (hn : 0 < n) (hi : n = i + 1) (h : isS x (rcI Nm Nx P.1 m ws i.toNat)) (k : isS y P.2.1) (q : lAnd x y = z) (hz : -9223372036854775808 ≤ z ∧ z ≤ 9223372036854775807) : ¬ z = 0 ↔ wyM Nm Nx P m ws n.toNat := by
  have e : n.toNat - 1 = i.toNat := by omega
  constructor
  · intro g
    refine Or.inr ⟨by omega, ?_⟩
    rw [e]
    apply Classical.byContradiction
    intro c
    refine g ((bLg.none hz).mpr fun j b => c ⟨j, ?_⟩)
    have b' := (bLg.and q j).mp b
    exact ⟨(h j).mp b'.1, (k j).mp b'.2⟩
  · rintro (⟨a, _⟩ | ⟨_, j, a, b⟩) g
    · omega
    · rw [e] at a
      exact (bLg.none hz).mp g j ((bLg.and q j).mpr ⟨(h j).mpr a, (k j).mpr b⟩)
theorem wyM.nil {Nm : Nat → Int} {Nx : Nat → Bs} {P : Pce} {m : Nat} {ws : Nat → Int} {n : Int} (hn : n = 0) : wyM Nm Nx P m ws n.toNat ↔ P.2.2 := by
  subst hn
  constructor
  · rintro (⟨_, a⟩ | ⟨a, _⟩)
    · exact a
    · exact absurd a (Nat.lt_irrefl 0)
  · intro a; exact Or.inl ⟨rfl, a⟩
theorem wyM.cg {Nm Nm' : Nat → Int} {Nx : Nat → Bs} {P : Pce} {m : Nat} {ws ws' : Nat → Int} {n : Nat} (hm : ∀ k, k < m → Nm' k = Nm k) (hw : ∀ i, i < n → ws' i = ws i) : wyM Nm' Nx P m ws' n ↔ wyM Nm Nx P m ws n := by
  have eS : ∀ (S : Bs) (w : Int), rcS Nm' S w m = rcS Nm S w m := fun S w => by
    funext j
    unfold rcS
    exact propext ⟨fun ⟨a, b, d⟩ => ⟨a, b, by rw [← hm j a]; exact d⟩, fun ⟨a, b, d⟩ => ⟨a, b, by rw [hm j a]; exact d⟩⟩
  have eO : ∀ i, i ≤ n → opI Nm' Nx P.1 m ws' i = opI Nm Nx P.1 m ws i := by
    intro i
    induction i with
    | zero => intro _; rfl
    | succ i ih =>
      intro hi
      show opS Nx (rcS Nm' (opI Nm' Nx P.1 m ws' i) (ws' i) m) = opS Nx (rcS Nm (opI Nm Nx P.1 m ws i) (ws i) m)
      rw [eS, ih (by omega), hw i (by omega)]
  unfold wyM rcI
  by_cases c : n = 0
  · subst c
    exact or_congr Iff.rfl ⟨fun a => absurd a.1 (Nat.lt_irrefl 0), fun a => absurd a.1 (Nat.lt_irrefl 0)⟩
  · rw [eS, eO (n - 1) (by omega), hw (n - 1) (by omega)]
theorem lCmp_nz {x y z : Int} (q : lCmp x y = z) (hz : ¬ z = 0) : ¬ x = y := fun e => by
  subst e
  refine hz ?_
  rw [← q]
  unfold lCmp lg_cmp
  split
  · rename_i h
    exact absurd (Int64.lt_iff_toInt_lt.mp h) (Int.lt_irrefl _)
  · split
    · rfl
    · rename_i h
      exact absurd rfl h
theorem isS.self {x : Int} : isS x (bLg x) := fun _ => Iff.rfl
theorem isS.at {μ : mM} {a i : Nat} {x : Int} (q : μ a i = x) : isS x (bLg (μ a i)) := by rw [q]; exact isS.self
/-- the reference's policy p: places, what follows them; a test's way; the way of the route r -/
def wNm (μ : mM) (p : Int) : Nat → Int := fun k => μ 143 (41 * p + (k : Int)).toNat
def wNx (μ : mM) (p : Int) : Nat → Bs := fun k => bLg (μ 144 (41 * p + (k : Int)).toNat)
def wPc (μ : mM) (t : Int) : Pce := (bLg (μ 137 t.toNat), bLg (μ 138 t.toNat), μ 139 t.toNat = 1)
def wWs (μ : mM) (r : Int) : Nat → Int := fun i => μ 126 (40 * r + 6 + (i : Int)).toNat
theorem wNm.at {μ : mM} {p k e x : Int} (h0 : 0 ≤ k) (he : e = 41 * p + k) (q : μ 143 e.toNat = x) : wNm μ p k.toNat = x := by
  unfold wNm
  rw [Int.toNat_of_nonneg h0, ← he]; exact q
theorem wNx.at {μ : mM} {p k e x : Int} (h0 : 0 ≤ k) (he : e = 41 * p + k) (q : μ 144 e.toNat = x) : isS x (wNx μ p k.toNat) := by
  unfold wNx
  rw [Int.toNat_of_nonneg h0, ← he, q]; exact isS.self
theorem wWs.at {μ : mM} {r i e x : Int} (h0 : 0 ≤ i) (he : e = 40 * r + 6 + i) (q : μ 126 e.toNat = x) : wWs μ r i.toNat = x := by
  unfold wWs
  rw [Int.toNat_of_nonneg h0, ← he]; exact q
/-- a place is in the set, and fits -/
theorem fit.y {Nm : Nat → Int} {w a b : Int} {k : Nat} (q : Nm k = a) (qw : w = b) (h : a < 0 ∨ a = b) : Nm k < 0 ∨ Nm k = w := by rw [q, qw]; exact h
theorem fit.n {Nm : Nat → Int} {S : Bs} {w a b : Int} {k : Nat} (q : Nm k = a) (qw : w = b) (h : ¬ (a < 0 ∨ a = b)) : ¬ (S k ∧ (Nm k < 0 ∨ Nm k = w)) := fun g => h (by rw [← q, ← qw]; exact g.2)
theorem out.n {Nm : Nat → Int} {S : Bs} {w : Int} {k : Nat} (h : ¬ S k) : ¬ (S k ∧ (Nm k < 0 ∨ Nm k = w)) := fun g => h g.1
/-- what waysMatch tells -/
def wyR (μ : mM) (p t r : Int) : Prop := wyM (wNm μ p) (wNx μ p) (wPc μ t) (μ 142 p.toNat).toNat (wWs μ r) (μ 126 (40 * r + 4).toNat).toNat
theorem rcI.of {Nm : Nat → Int} {Nx : Nat → Bs} {F : Bs} {m : Nat} {ws : Nat → Int} {x k n : Int} {i : Nat} (h : isS x (rcS Nm (opI Nm Nx F m ws i) (ws i) k.toNat)) (e : k = n) (hm : m = n.toNat) : isS x (rcI Nm Nx F m ws i) := by
  subst e hm
  exact h
theorem opI.of {Nm : Nat → Int} {Nx : Nat → Bs} {F : Bs} {m : Nat} {ws : Nat → Int} {x k n i i' : Int} (h : isS x (opB Nx (rcI Nm Nx F m ws i.toNat) k.toNat)) (e : k = n) (hm : m = n.toNat) (h0 : 0 ≤ i) (ei : i' = i + 1) : isS x (opI Nm Nx F m ws i'.toNat) := by
  subst e hm
  exact opI.next (w := ws i.toNat) (opB.all h) h0 rfl ei
/-- what tells tells: the rows of a policy of the class (places, what follows, first, last), the route r -/
def wyC (w : mW) (μ : mM) (bp bn bf bl r : Nat) (p1 p2 : Int) : Prop := wyM (μ bp) (fun k => bLg (μ bn k)) (bLg (μ bf p1.toNat), bLg (μ bl p1.toNat), p2 = 1) (w.2.2.1 bp) (μ (r + 1)) (μ r 7).toNat
theorem plGe {w : mW} {μ : mM} {b : Nat} {k n a : Int} (h : ∀ i : Nat, i < w.2.2.1 b → -1 ≤ μ b i) (h0 : 0 ≤ k) (hn : (w.2.2.1 b : Int) = n) (hk : k < n) (q : μ b k.toNat = a) : -1 ≤ a := by
  rw [← q]
  exact h k.toNat (by omega)
theorem plLe {w : mW} {b : Nat} {k n : Int} (hn : (w.2.2.1 b : Int) = n) (hk : k ≤ n) : k ≤ ((w.2.2.1 b : Nat) : Int) := by omega
theorem plAll {w : mW} {b : Nat} {k n : Int} (hn : (w.2.2.1 b : Int) = n) (hk : n ≤ k) (h : k ≤ ((w.2.2.1 b : Nat) : Int)) : k.toNat = w.2.2.1 b := by omega
theorem nxAt {μ : mM} {b : Nat} {k x : Int} (q : μ b k.toNat = x) : isS x ((fun i => bLg (μ b i)) k.toNat) := by
  show isS x (bLg (μ b k.toNat))
  rw [q]; exact isS.self
theorem rcI.ofC {Nm : Nat → Int} {Nx : Nat → Bs} {F : Bs} {m : Nat} {ws : Nat → Int} {x k : Int} {i : Nat} (h : isS x (rcS Nm (opI Nm Nx F m ws i) (ws i) k.toNat)) (e : k.toNat = m) : isS x (rcI Nm Nx F m ws i) := by
  rw [e] at h; exact h
theorem opI.ofC {Nm : Nat → Int} {Nx : Nat → Bs} {F : Bs} {m : Nat} {ws : Nat → Int} {x k i i' : Int} (h : isS x (opS Nx (rcS Nm (opI Nm Nx F m ws i.toNat) (ws i.toNat) k.toNat))) (e : k.toNat = m) (h0 : 0 ≤ i) (ei : i' = i + 1) : isS x (opI Nm Nx F m ws i'.toNat) := by
  rw [e] at h
  exact opI.next h h0 rfl ei
end
section
/-! Loops of weakest preconditions. -/
def loopF {σ : Type} (B : (σ → Prop) → σ → Prop) (d : Prop) : Nat → σ → Prop
  | 0, _ => d
  | n + 1, s => B (loopF B d n) s
theorem loopF.ind {σ : Type} {B : (σ → Prop) → σ → Prop} (I : σ → Prop) (m : σ → Nat) (step : ∀ (rec : σ → Prop) (s : σ), I s → (∀ s', I s' → m s' < m s → rec s') → B rec s) : ∀ (n : Nat) (s : σ), I s → m s < n → loopF B False n s
  | 0, _, _, h => absurd h (Nat.not_lt_zero _)
  | n + 1, s, hI, h => step (loopF B False n) s hI fun s' hI' h' => loopF.ind I m step n s' hI' (by omega)
theorem mU.is {μ μ1 : mM} {a k : Nat} {z : Int} (u : mU μ a k z μ1) : μ1 = mUp μ a k z := by
  funext b j
  by_cases h : b = a ∧ j = k
  · obtain ⟨rfl, rfl⟩ := h
    rw [u.1]; exact (if_pos ⟨rfl, rfl⟩).symm
  · rw [u.2 b j (Classical.byContradiction fun g => h ⟨Classical.byContradiction fun x => g (Or.inl x), Classical.byContradiction fun x => g (Or.inr x)⟩)]
    exact (if_neg h).symm
theorem mUp.yes {μ : mM} {a k b j : Nat} {z : Int} (h : b = a ∧ j = k) : mUp μ a k z b j = z := if_pos h
theorem mUp.no {μ : mM} {a k b j : Nat} {z : Int} (h : ¬ (b = a ∧ j = k)) : mUp μ a k z b j = μ b j := if_neg h
end
section
/-! The engine as functions: going through a policy, candidates, picks, sayings, events. -/
noncomputable def cIf {α : Type} (P : Prop) (a b : α) : α := @ite α P (Classical.propDecidable P) a b
theorem cIf.pos {α : Type} {P : Prop} {a b : α} (h : P) : cIf P a b = a := by unfold cIf; exact if_pos h
theorem cIf.neg {α : Type} {P : Prop} {a b : α} (h : ¬ P) : cIf P a b = b := by unfold cIf; exact if_neg h
theorem cIf.cg {α : Type} {P Q : Prop} {a b : α} (h : P ↔ Q) : cIf P a b = cIf Q a b := by
  by_cases q : Q
  · rw [cIf.pos q, cIf.pos (h.mpr q)]
  · rw [cIf.neg q, cIf.neg (fun g => q (h.mp g))]
abbrev wOf (r : Rt) : List Int := r.2.2.2.2.1
abbrev mOf (r : Rt) : List Int := r.2.2.2.2.2
def rtWish (r : Rt) (x : Int) : Rt := (r.1, x, r.2.2)
def rtCost (r : Rt) (x : Int) : Rt := (r.1, r.2.1, r.2.2.1, x, r.2.2.2.2)
def rtWay (r : Rt) (l : List Int) : Rt := (r.1, r.2.1, r.2.2.1, r.2.2.2.1, l, r.2.2.2.2.2)
def rtMks (r : Rt) (l : List Int) : Rt := (r.1, r.2.1, r.2.2.1, r.2.2.2.1, r.2.2.2.2.1, l)
/-- the first number of the way n times more in front; none: above 20 -/
def moreR (r : Rt) (n : Int) : Option Rt := match wOf r with
  | [] => some r
  | x :: l => if 20 < ((x :: l).length : Int) + n then none else some (rtWay r (List.replicate n.toNat x ++ x :: l))
/-- acts done, the route -/
abbrev Js : Type := Int × Rt
/-- 0 open, 1 let, 2 barred; acts done, the route -/
abbrev Je : Type := Int × Int × Rt
def actS (g : Int → Js → Je) (a : Act) (s : Js) : Je :=
  if a.1 = 23 then (1, s)
  else if a.1 = 24 then (2, s)
  else if a.1 = 25 then (0, s.1, rtMks s.2 (addM (mOf s.2) a.2))
  else if a.1 = 26 then (0, s.1, rtMks s.2 (dropM (mOf s.2) a.2))
  else if a.1 = 12 then (0, s.1, rtWish s.2 a.2)
  else if a.1 = 13 then (0, s.1, rtCost s.2 a.2)
  else if a.1 = 27 then (match moreR s.2 a.2 with | none => (2, s) | some r => (0, s.1, r))
  else if a.1 = 28 then g a.2 s
  else (0, s)
def doA (g : Int → Js → Je) : List Act → Js → Je
  | [], s => (0, s)
  | a :: l, s => if 500 ≤ s.1 then (2, s) else if (actS g a (s.1 + 1, s.2)).1 = 0 then doA g l (actS g a (s.1 + 1, s.2)).2 else actS g a (s.1 + 1, s.2)
abbrev Rw : Type := List Tst × List Act
noncomputable def goR (g : Int → Js → Je) (T : Tst → Rt → Prop) : List Rw → Js → Je
  | [], s => (0, s)
  | x :: l, s => cIf (∀ t ∈ x.1, T t s.2) (if (doA g x.2 s).1 = 0 then goR g T l (doA g x.2 s).2 else doA g x.2 s) (goR g T l s)
noncomputable def goP (P : Int → List Rw) (T : Int → Tst → Rt → Prop) : Nat → Int → Js → Je
  | 0, _, s => (0, s)
  | n + 1, p, s => goR (goP P T n) (T p) (P p) s
/-- rows of acts call only policies ahead of p -/
def callsB (R : List Rw) (p : Int) : Prop := ∀ x ∈ R, ∀ a ∈ x.2, a.1 = 28 → 0 ≤ a.2 ∧ a.2 < p
theorem actS.cg {g h : Int → Js → Je} {a : Act} {s : Js} (e : a.1 = 28 → ∀ s, g a.2 s = h a.2 s) : actS g a s = actS h a s := by
  unfold actS
  by_cases c : a.1 = 28
  · rw [e c]
  · simp only [if_neg c]
theorem doA.cg {g h : Int → Js → Je} : ∀ {l : List Act} {s : Js}, (∀ a ∈ l, a.1 = 28 → ∀ s, g a.2 s = h a.2 s) → doA g l s = doA h l s
  | [], s, _ => rfl
  | a :: l, s, e => by
    have e1 : actS g a (s.1 + 1, s.2) = actS h a (s.1 + 1, s.2) := actS.cg (e a List.mem_cons_self)
    show (if 500 ≤ s.1 then (2, s) else if (actS g a (s.1 + 1, s.2)).1 = 0 then doA g l (actS g a (s.1 + 1, s.2)).2 else actS g a (s.1 + 1, s.2)) = (if 500 ≤ s.1 then (2, s) else if (actS h a (s.1 + 1, s.2)).1 = 0 then doA h l (actS h a (s.1 + 1, s.2)).2 else actS h a (s.1 + 1, s.2))
    rw [e1, doA.cg (l := l) fun b hb => e b (List.mem_cons_of_mem _ hb)]
theorem goR.cg {g h : Int → Js → Je} {T : Tst → Rt → Prop} : ∀ {l : List Rw} {s : Js}, (∀ x ∈ l, ∀ a ∈ x.2, a.1 = 28 → ∀ s, g a.2 s = h a.2 s) → goR g T l s = goR h T l s
  | [], s, _ => rfl
  | x :: l, s, e => by
    have e1 : doA g x.2 s = doA h x.2 s := doA.cg (e x List.mem_cons_self)
    have e2 : ∀ s, goR g T l s = goR h T l s := fun s => goR.cg fun y hy => e y (List.mem_cons_of_mem _ hy)
    show cIf _ (if (doA g x.2 s).1 = 0 then goR g T l (doA g x.2 s).2 else doA g x.2 s) (goR g T l s) = cIf _ (if (doA h x.2 s).1 = 0 then goR h T l (doA h x.2 s).2 else doA h x.2 s) (goR h T l s)
    rw [e1, e2, e2]
/-- how much is enough doesn't matter -/
theorem goP.enough {P : Int → List Rw} {T : Int → Tst → Rt → Prop} (h : ∀ p, 0 ≤ p → callsB (P p) p) : ∀ (n m : Nat) (p : Int) (s : Js), 0 ≤ p → p < (n : Int) → p < (m : Int) → goP P T n p s = goP P T m p s
  | 0, _, p, _, h0, h1, _ => absurd h1 (by simp; omega)
  | _ + 1, 0, p, _, h0, _, h2 => absurd h2 (by simp; omega)
  | n + 1, m + 1, p, s, h0, h1, h2 => goR.cg fun x hx a ha e s => by
    have k := h p h0 x hx a ha e
    exact goP.enough h n m a.2 s k.1 (by omega) (by omega)
end
section
/-! Candidates, picks, sayings, events. -/
/-- a candidate: tie, partner, when it was heard, the route -/
abbrev Cd : Type := Int × Int × Int × Rt
def shF (x y : List Int) : Prop := match x, y with
  | a :: _, b :: _ => a = b
  | _, _ => False
/-- below 0: the first one is before the second at this step -/
noncomputable def stD (s : Int) (x y : Cd) : Int :=
  if s = 1 then y.2.2.2.2.1 - x.2.2.2.2.1
  else if s = 2 then ((wOf x.2.2.2).length : Int) - (wOf y.2.2.2).length
  else if s = 3 then x.2.2.2.2.2.1 - y.2.2.2.2.2.1
  else if s = 4 then cIf (shF (wOf x.2.2.2) (wOf y.2.2.2)) (x.2.2.2.2.2.2.1 - y.2.2.2.2.2.2.1) 0
  else if s = 5 then x.2.2.1 - y.2.2.1
  else if s = 6 then x.2.2.2.2.2.2.1 - y.2.2.2.2.2.2.1
  else 0
/-- the first step at which they are unlike: s, -s; 0: none -/
noncomputable def unl : List Int → Cd → Cd → Int
  | [], _, _ => 0
  | s :: l, x, y => if stD s x y = 0 then unl l x y else if stD s x y < 0 then s else -s
noncomputable def bts (l : List Int) (x y : Cd) : Bool := if unl l x y = 0 then decide (x.2.1 < y.2.1) else decide (0 < unl l x y)
noncomputable def bst (l : List Int) : List Cd → Option Cd → Option Cd
  | [], b => b
  | x :: xs, none => bst l xs (some x)
  | x :: xs, some b => bst l xs (if bts l x b = true then some x else some b)
theorem bst.app {l : List Int} : ∀ {a b : List Cd} {o : Option Cd}, bst l (a ++ b) o = bst l b (bst l a o)
  | [], _, _ => rfl
  | x :: a, b, none => by
    show bst l (a ++ b) (some x) = bst l b (bst l a (some x))
    exact bst.app
  | x :: a, b, some y => by
    show bst l (a ++ b) (if bts l x y = true then some x else some y) = bst l b (bst l a (if bts l x y = true then some x else some y))
    exact bst.app
theorem unl.zeros {l : List Int} {x y : Cd} : ∀ n : Nat, unl (l ++ List.replicate n 0) x y = unl l x y := by
  have z : ∀ n : Nat, unl (List.replicate n 0) x y = 0 := by
    intro n
    induction n with
    | zero => rfl
    | succ n ih =>
      show (if stD 0 x y = 0 then unl (List.replicate n 0) x y else if stD 0 x y < 0 then (0 : Int) else -0) = 0
      rw [ih]
      have e : stD 0 x y = 0 := rfl
      rw [if_pos e]
  intro n
  induction l with
  | nil => exact z n
  | cons s l ih =>
    show (if stD s x y = 0 then unl (l ++ List.replicate n 0) x y else if stD s x y < 0 then s else -s) = (if stD s x y = 0 then unl l x y else if stD s x y < 0 then s else -s)
    rw [ih]
/-- the first number of the way, as one without sign; -1: none -/
def kyL (l : List Int) : Int := match l with
  | [] => -1
  | x :: _ => if x < 0 then x + 4294967296 else x
def ky (c : Cd) : Int := kyL (wOf c.2.2.2)
def insK (k : Int) : List Int → List Int
  | [] => [k]
  | x :: l => if k < x then k :: x :: l else if k = x then x :: l else x :: insK k l
/-- the keys of those whose way isn't empty, rising -/
def kys : List Cd → List Int → List Int
  | [], a => a
  | c :: l, a => kys l (if ky c = -1 then a else insK (ky c) a)
noncomputable def grp (l : List Int) (cs : List Cd) (k : Int) : Option Cd := bst l (cs.filter fun c => decide (ky c = k)) none
/-- empty ones as they come; of each key the best -/
noncomputable def pickG (l : List Int) (cs : List Cd) : Option Cd := bst l (cs.filter (fun c => decide (ky c = -1)) ++ (kys cs []).filterMap (grp l cs)) none
noncomputable def pickE (g : Int) (l : List Int) (cs : List Cd) : Option Cd := if g = 0 then bst l cs none else pickG l cs
/-- what doesn't change while routes are said: ties, ends, up, delay, gap, policies, going through, begun, steps, grouped, prefixes, domains -/
abbrev En : Type := Nat × (Nat → Int) × (Nat → Int) × (Nat → Int) × (Nat → Int) × (Nat → Int) × (Nat → Int) × (Int → Int → Int → Rt → Bool × Rt) × (Nat → Int) × (Nat → List Int) × (Nat → Int) × Nat × Nat
abbrev eT (E : En) : Nat := E.1
abbrev eA (E : En) : Nat → Int := E.2.1
abbrev eB (E : En) : Nat → Int := E.2.2.1
abbrev eU (E : En) : Nat → Int := E.2.2.2.1
abbrev eL (E : En) : Nat → Int := E.2.2.2.2.1
abbrev eG (E : En) : Nat → Int := E.2.2.2.2.2.1
abbrev ePl (E : En) : Nat → Int := E.2.2.2.2.2.2.1
abbrev eTh (E : En) : Int → Int → Int → Rt → Bool × Rt := E.2.2.2.2.2.2.2.1
abbrev eOw (E : En) : Nat → Int := E.2.2.2.2.2.2.2.2.1
abbrev eSt (E : En) : Nat → List Int := E.2.2.2.2.2.2.2.2.2.1
abbrev eGr (E : En) : Nat → Int := E.2.2.2.2.2.2.2.2.2.2.1
abbrev eP (E : En) : Nat := E.2.2.2.2.2.2.2.2.2.2.2.1
abbrev eD (E : En) : Nat := E.2.2.2.2.2.2.2.2.2.2.2.2
abbrev Ev : Type := Int × Nat
/-- what changes: picked, said and when (-1: never), events, heard, when, the clock, done, made -/
abbrev Sn : Type := (Nat → Int × Option Rt) × (Nat → Option Rt × Int) × List Ev × (Nat → Option Rt) × (Nat → Int) × Int × Int × Int
abbrev sPk (S : Sn) : Nat → Int × Option Rt := S.1
abbrev sSd (S : Sn) : Nat → Option Rt × Int := S.2.1
abbrev sQu (S : Sn) : List Ev := S.2.2.1
abbrev sHd (S : Sn) : Nat → Option Rt := S.2.2.2.1
abbrev sHw (S : Sn) : Nat → Int := S.2.2.2.2.1
abbrev sCk (S : Sn) : Int := S.2.2.2.2.2.1
abbrev sDn (S : Sn) : Int := S.2.2.2.2.2.2.1
abbrev sMd (S : Sn) : Int := S.2.2.2.2.2.2.2
def pk! (S : Sn) (k : Nat) (v : Int × Option Rt) : Sn := (fun i => if i = k then v else sPk S i, S.2)
def sd! (S : Sn) (k : Nat) (v : Option Rt × Int) : Sn := (S.1, fun i => if i = k then v else sSd S i, S.2.2)
def qu! (S : Sn) (q : List Ev) : Sn := (S.1, S.2.1, q, S.2.2.2)
/-- an event is made -/
def mk! (S : Sn) (q : List Ev) : Sn := (S.1, S.2.1, q, S.2.2.2.1, S.2.2.2.2.1, S.2.2.2.2.2.1, S.2.2.2.2.2.2.1, S.2.2.2.2.2.2.2 + 1)
def hd! (S : Sn) (k : Nat) (v : Option Rt) (m : Int) : Sn := (S.1, S.2.1, S.2.2.1, fun i => if i = k then v else sHd S i, fun i => if i = k then m else sHw S i, S.2.2.2.2.2)
def ck! (S : Sn) (m : Int) : Sn := (S.1, S.2.1, S.2.2.1, S.2.2.2.1, S.2.2.2.2.1, m, S.2.2.2.2.2.2)
def dn! (S : Sn) : Sn := (S.1, S.2.1, S.2.2.1, S.2.2.2.1, S.2.2.2.2.1, S.2.2.2.2.2.1, S.2.2.2.2.2.2.1 + 1, S.2.2.2.2.2.2.2)
def eN (E : En) (t s : Nat) : Int := if s = 0 then eA E t else eB E t
/-- the side of a tie at which a domain stands; -1: none -/
def sdI (a b d : Int) : Int := if a = d then 0 else if b = d then 1 else -1
def sdE (E : En) (d : Int) (t : Nat) : Int := sdI (eA E t) (eB E t) d
def slt (t s p : Nat) : Nat := 20 * t + 10 * s + p
def cdAt (E : En) (S : Sn) (d : Int) (p t s : Nat) : Option Cd := if eU E t = 0 then none else match sHd S (slt t s p) with
  | none => none
  | some r => if d ∈ wOf r then none else if (eTh E (ePl E (4 * t + 2 * s)) d (eN E t (1 - s)) r).1 = true then some ((t : Int), eN E t (1 - s), sHw S (slt t s p), (eTh E (ePl E (4 * t + 2 * s)) d (eN E t (1 - s)) r).2) else none
def cdE (E : En) (S : Sn) (d : Int) (p t : Nat) : Option Cd := if sdE E d t < 0 then none else cdAt E S d p t (sdE E d t).toNat
def cdsN (E : En) (S : Sn) (d : Int) (p n : Nat) : List Cd := (List.range n).filterMap (cdE E S d p)
noncomputable def newP (E : En) (S : Sn) (d : Int) (p : Nat) : Int × Option Rt := if 0 ≤ eOw E (10 * d.toNat + p) then (-4, some ((p : Int), 100, eOw E (10 * d.toNat + p), 0, [], [])) else match pickE (eGr E d.toNat) (eSt E d.toNat) (cdsN E S d p (eT E)) with
  | none => (-99999999, none)
  | some c => (c.1, some c.2.2.2)
/-- what would be said -/
def outE (E : En) (S : Sn) (t s p : Nat) : Option Rt := match (sPk S (10 * (eN E t s).toNat + p)).2 with
  | none => none
  | some r => if (sPk S (10 * (eN E t s).toNat + p)).1 = (t : Int) ∨ 20 ≤ (wOf r).length then none else if (eTh E (ePl E (4 * t + 2 * s + 1)) (eN E t s) (eN E t (1 - s)) (rtWish (rtWay r (eN E t s :: wOf r)) 100)).1 = true then some (rtWish (eTh E (ePl E (4 * t + 2 * s + 1)) (eN E t s) (eN E t (1 - s)) (rtWish (rtWay r (eN E t s :: wOf r)) 100)).2 100) else none
def insQ (e : Ev) : List Ev → List Ev
  | [] => [e]
  | x :: l => if e.1 < x.1 then e :: x :: l else x :: insQ e l
def remQ (s : Nat) (q : List Ev) : List Ev := q.filter fun x => decide (¬ x.2 = s)
noncomputable def sayE (E : En) (S : Sn) (t s p : Nat) : Sn :=
  if eU E t = 0 then S
  else cIf (outE E S t s p = (sSd S (slt t s p)).1) S
    (if ¬ (sSd S (slt t s p)).2 = -1 ∧ sCk S < (sSd S (slt t s p)).2 + eG E t then cIf (∃ m, (m, 2 * slt t s p + 1) ∈ sQu S) S (mk! S (insQ ((sSd S (slt t s p)).2 + eG E t, 2 * slt t s p + 1) (sQu S)))
    else mk! (sd! S (slt t s p) (outE E S t s p, sCk S)) (insQ (sCk S + eL E t, 2 * slt t s p) (remQ (2 * slt t s p) (sQu S))))
def forN {α : Type} (f : Nat → α → α) : Nat → α → α
  | 0, a => a
  | n + 1, a => f n (forN f n a)
noncomputable def sayD (E : En) (d : Int) (p t : Nat) (S : Sn) : Sn := if sdE E d t < 0 then S else sayE E S t (sdE E d t).toNat p
noncomputable def lookE (E : En) (S : Sn) (d : Int) (p : Nat) : Sn := cIf (newP E S d p = sPk S (10 * d.toNat + p)) S (forN (sayD E d p) (eT E) (pk! S (10 * d.toNat + p) (newP E S d p)))
noncomputable def lookA (E : En) (S : Sn) (d : Int) : Sn := forN (fun p S => lookE E S d p) (eP E) S
noncomputable def sayA (E : En) (S : Sn) (t s : Nat) : Sn := forN (fun p S => sayE E S t s p) (eP E) S
noncomputable def anew (E : En) (S : Sn) : Sn := forN (fun d S => forN (fun t S => if sdE E d t < 0 then S else sayA E S t (sdE E d t).toNat) (eT E) S) (eD E) (forN (fun d S => lookA E S d) (eD E) S)
/-- an event is done -/
noncomputable def doEv (E : En) (S : Sn) (e : Ev) : Sn := if e.2 % 2 = 1 then sayE E (qu! (dn! (ck! S e.1)) (remQ e.2 (sQu S))) (e.2 / 40) (e.2 / 20 % 2) (e.2 / 2 % 10)
  else lookE E (hd! (qu! (dn! (ck! S e.1)) (remQ e.2 (sQu S))) (slt (e.2 / 40) (1 - e.2 / 20 % 2) (e.2 / 2 % 10)) (sSd S (e.2 / 2)).1 e.1) (eN E (e.2 / 40) (1 - e.2 / 20 % 2)) (e.2 / 2 % 10)
/-- one event, if there is one up to a moment -/
noncomputable def nextE (E : En) (m : Int) (S : Sn) : Option Sn := match sQu S with
  | [] => none
  | e :: _ => if m < e.1 then none else some (doEv E S e)
/-- k events at most: how many, the state -/
noncomputable def goE (E : En) (m : Int) : Nat → Sn → Nat × Sn
  | 0, S => (0, S)
  | n + 1, S => match nextE E m S with
    | none => (0, S)
    | some S1 => ((goE E m n S1).1 + 1, (goE E m n S1).2)
end
