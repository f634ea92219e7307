section
/-! The class's events: a row of slots, by moments. -/
def lst {α : Type} (g : Nat → α) (n : Nat) : List α := (List.range n).map g
theorem lst.len {α : Type} {g : Nat → α} {n : Nat} : (lst g n).length = n := by
  unfold lst
  rw [List.length_map, List.length_range]
theorem lst.ext {α : Type} {f g : Nat → α} {n : Nat} (h : ∀ i, i < n → g i = f i) : lst g n = lst f n := List.map_congr_left fun i hi => h i (List.mem_range.mp hi)
theorem lst.add {α : Type} {g : Nat → α} {a b : Nat} : lst g (a + b) = lst g a ++ lst (fun i => g (a + i)) b := by
  unfold lst
  rw [List.range_add, List.map_append, List.map_map]
  rfl
theorem lst.succ {α : Type} {g : Nat → α} {n : Nat} : lst g (n + 1) = lst g n ++ [g n] := by
  unfold lst
  rw [List.range_succ, List.map_append]
  rfl
theorem lst.mem {α : Type} {g : Nat → α} {n : Nat} {x : α} : x ∈ lst g n ↔ ∃ i, i < n ∧ g i = x := by
  unfold lst
  rw [List.mem_map]
  constructor
  · rintro ⟨i, h1, h2⟩
    exact ⟨i, List.mem_range.mp h1, h2⟩
  · rintro ⟨i, h1, h2⟩
    exact ⟨i, List.mem_range.mpr h1, h2⟩
theorem lst.head {α : Type} {g : Nat → α} {n : Nat} : lst g (n + 1) = g 0 :: lst (fun i => g (i + 1)) n := by
  rw [Nat.add_comm, lst.add]
  have e : lst g 1 = [g 0] := rfl
  rw [e]
  show g 0 :: lst (fun i => g (1 + i)) n = _
  rw [lst.ext (f := fun i => g (i + 1)) fun i _ => by rw [Nat.add_comm]]
theorem remQ.no {s : Nat} {q : List Ev} (h : ∀ e ∈ q, ¬ e.2 = s) : remQ s q = q := List.filter_eq_self.mpr fun e he => decide_eq_true (h e he)
theorem remQ.at {g : Nat → Ev} {n z s : Nat} (hz : z < n) (hs : (g z).2 = s) (h : ∀ i, i < n → i ≠ z → ¬ (g i).2 = s) : remQ s (lst g n) = lst g z ++ lst (fun i => g (z + 1 + i)) (n - 1 - z) := by
  have e : lst g n = lst g z ++ (g z :: lst (fun i => g (z + 1 + i)) (n - 1 - z)) := by
    have e1 : n = z + ((n - 1 - z) + 1) := by omega
    rw [e1, lst.add, lst.head]
    have e2 : z + (n - 1 - z + 1) - 1 - z = n - 1 - z := by omega
    rw [e2]
    congr 2
    exact lst.ext fun i _ => by rw [show z + 1 + i = z + (i + 1) by omega]
  rw [e]
  unfold remQ
  rw [List.filter_append, List.filter_cons_of_neg (by simp [hs])]
  congr 1
  · refine List.filter_eq_self.mpr fun x hx => decide_eq_true ?_
    obtain ⟨i, hi, q⟩ := lst.mem.mp hx
    rw [← q]; exact h i (by omega) (by omega)
  · refine List.filter_eq_self.mpr fun x hx => decide_eq_true ?_
    obtain ⟨i, hi, q⟩ := lst.mem.mp hx
    rw [← q]; exact h _ (by omega) (by omega)
theorem insQ.at {e : Ev} : ∀ {a b : List Ev}, (∀ x ∈ a, x.1 ≤ e.1) → (∀ x ∈ b, e.1 < x.1) → insQ e (a ++ b) = a ++ e :: b
  | [], [], _, _ => rfl
  | [], x :: b, _, h => if_pos (h x List.mem_cons_self)
  | x :: a, b, h, k => by
    show (if e.1 < x.1 then e :: x :: (a ++ b) else x :: insQ e (a ++ b)) = x :: (a ++ e :: b)
    have hx := h x List.mem_cons_self
    rw [if_neg (by omega), insQ.at (fun y hy => h y (List.mem_cons_of_mem _ hy)) k]
theorem evC.eq {μ : mM} : evC μ = lst (fun i => (μ 34 (μ 33 i).toNat, (μ 33 i).toNat)) (μ 32 10).toNat := rfl
/-- what cancel and schedule leave alone -/
def frQ (μ μ1 : mM) (s : Nat) : Prop := ∀ b i, ¬ b = 33 → ¬ (b = 34 ∧ i = s) → ¬ (b = 32 ∧ i = 10) → μ1 b i = μ b i
theorem X8_cancel_s {w : mW} {μ : mM} {s : Int} {Q : mM → Prop} (hs : 0 ≤ s) (hn : 0 ≤ μ 32 10) (hp : ∀ i, i < (μ 32 10).toNat → 0 ≤ μ 33 i) (hd : ∀ i j, i < (μ 32 10).toNat → j < (μ 32 10).toNat → μ 33 i = μ 33 j → i = j) (hq : (∃ i, i < (μ 32 10).toNat ∧ μ 33 i = s) → ¬ μ 34 s.toNat = -1)
    (k : ∀ μ1 : mM, evC μ1 = remQ s.toNat (evC μ) → μ1 34 s.toNat = -1 → frQ μ μ1 s.toNat → Q μ1) : WP_X8_cancel_W w μ s Q := by
  intro x ex hx
  refine ⟨fun hne m6 u6 _ => ?_, fun e => ?_⟩
  · obtain rfl := u6.is
    have e10 : mUp μ 34 s.toNat (-1) 32 10 = μ 32 10 := rfl
    have e33 : ∀ i, mUp μ 34 s.toNat (-1) 33 i = μ 33 i := fun i => rfl
    have J : ∀ z n : Int, 0 ≤ z → n = μ 32 10 → (∀ i : Nat, (i : Int) < z → ¬ μ 33 i = s) → (z < n → μ 33 z.toNat = s) → WJ_X8_cancel_W_2 w Q (mUp μ 34 s.toNat (-1)) z n := by
      intro z n hz en h1 h2
      subst en
      refine ⟨fun g => ?_, fun g m u _ m' c _ => ?_⟩
      · refine k _ ?_ ?_ fun b i h1 h2 h3 => ?_
        · rw [remQ.no]
          · rw [evC.eq, evC.eq, e10]
            refine lst.ext fun i hi => ?_
            have a : ¬ μ 33 i = s := h1 i (by omega)
            have b := hp i hi
            show (mUp μ 34 s.toNat (-1) 34 (μ 33 i).toNat, (μ 33 i).toNat) = _
            rw [mUp.no (by omega)]
          · rw [evC.eq]
            intro e he q
            obtain ⟨i, hi, r⟩ := lst.mem.mp he
            rw [← r] at q
            have a : ¬ μ 33 i = s := h1 i (by omega)
            have b := hp i hi
            have q : (μ 33 i).toNat = s.toNat := q
            omega
        · rw [mUp.yes ⟨rfl, rfl⟩]
        · rw [mUp.no (by omega)]
      · obtain rfl := u.is
        have hz2 := h2 g
        have row : ∀ j : Nat, m' 33 j = if z ≤ (j : Int) ∧ (j : Int) < z + (μ 32 10 - 1 - z) then μ 33 (j + 1) else μ 33 j := fun j => by
          rw [c.2 j]
          by_cases q : z ≤ (j : Int) ∧ (j : Int) < z + (μ 32 10 - 1 - z)
          · rw [if_pos q, if_pos q]
            show μ 33 _ = μ 33 _
            congr 1
            omega
          · rw [if_neg q, if_neg q]
            rfl
        have oth : ∀ b i, ¬ b = 33 → m' b i = mUp (mUp μ 34 s.toNat (-1)) 32 10 (μ 32 10 - 1) b i := fun b i hb => c.1 b i hb
        have m10 : m' 32 10 = μ 32 10 - 1 := by rw [oth _ _ (by decide)]; rfl
        refine k _ ?_ ?_ fun b i h1 h2 h3 => ?_
        · rw [evC.eq, evC.eq, remQ.at (z := z.toNat) (by omega) (by show (μ 33 z.toNat).toNat = s.toNat; rw [hz2]) (fun i hi hne q => hne (hd _ _ hi (by omega) (by have a := hp i hi; have q : (μ 33 i).toNat = s.toNat := q; omega))), m10]
          rw [show (μ 32 10 - 1).toNat = z.toNat + ((μ 32 10).toNat - 1 - z.toNat) by omega, lst.add]
          have val : ∀ i, i < (μ 32 10).toNat → ¬ μ 33 i = s → m' 34 (μ 33 i).toNat = μ 34 (μ 33 i).toNat := fun i hi hne => by
            have a := hp i hi
            rw [oth _ _ (by decide)]
            rw [mUp.no (by omega), mUp.no (by omega)]
          congr 1
          · refine lst.ext fun i hi => ?_
            show (m' 34 (m' 33 i).toNat, (m' 33 i).toNat) = (μ 34 (μ 33 i).toNat, (μ 33 i).toNat)
            rw [row, if_neg (by omega), val i (by omega) (h1 i (by omega))]
          · refine lst.ext fun i hi => ?_
            show (m' 34 (m' 33 (z.toNat + i)).toNat, (m' 33 (z.toNat + i)).toNat) = (μ 34 (μ 33 (z.toNat + 1 + i)).toNat, (μ 33 (z.toNat + 1 + i)).toNat)
            rw [row, if_pos (by omega), show z.toNat + i + 1 = z.toNat + 1 + i by omega, val _ (by omega) (fun q => ?_)]
            have := hd (z.toNat + 1 + i) z.toNat (by omega) (by omega) (q.trans hz2.symm)
            omega
        · rw [oth _ _ (by decide)]
          rw [mUp.no (by omega), mUp.yes ⟨rfl, rfl⟩]
        · rw [oth _ _ h1]
          rw [mUp.no (by omega), mUp.no (by omega)]
    refine loopF.i (fun z => 0 ≤ z ∧ (z = 0 ∨ z ≤ μ 32 10) ∧ ∀ i : Nat, (i : Int) < z → ¬ μ 33 i = s) (fun z => (801 - z).toNat) ⟨by omega, Or.inl rfl, fun i hi => by omega⟩ (by omega) ?_
    rintro rc z ⟨z0, z1, h⟩ ih z' e hz n en hnn
    subst e
    rw [e10] at en
    subst en
    refine ⟨fun g => J z _ z0 rfl h (fun c => by omega), fun g y ey _ => ⟨fun c => J z _ z0 rfl h (fun _ => ey.trans c), fun c => ih _ ⟨by omega, by omega, fun i hi => ?_⟩ (by omega)⟩⟩
    by_cases d : (i : Int) < z
    · exact h i d
    · rw [show i = z.toNat by omega]
      exact fun q => c (ey.symm.trans q)
  · refine k μ (remQ.no ?_).symm (ex.trans e) fun _ _ _ _ _ => rfl
    rw [evC.eq]
    intro e' he q
    obtain ⟨i, hi, r⟩ := lst.mem.mp he
    rw [← r] at q
    have a := hp i hi
    have q : (μ 33 i).toNat = s.toNat := q
    exact hq ⟨i, hi, by omega⟩ (ex.trans e)
theorem X8_schedule_s {w : mW} {μ : mM} {s v : Int} {Q : mM → Prop} (hs : 0 ≤ s) (hn : 0 ≤ μ 32 10 ∧ μ 32 10 < 800) (hp : ∀ i, i < (μ 32 10).toNat → 0 ≤ μ 33 i ∧ ¬ μ 33 i = s) (ho : ∀ i j, i < j → j < (μ 32 10).toNat → μ 34 (μ 33 i).toNat ≤ μ 34 (μ 33 j).toNat)
    (k : ∀ μ1 : mM, evC μ1 = insQ (v, s.toNat) (evC μ) → μ1 34 s.toNat = v → frQ μ μ1 s.toNat → Q μ1) : WP_X8_schedule_W w μ s v Q := by
  intro n en hnn
  subst en
  refine ⟨fun hlt => ?_, fun h => by omega⟩
  have J : ∀ z : Int, (0 ≤ z ∧ z ≤ μ 32 10) → (∀ i : Nat, z ≤ (i : Int) → (i : Int) < μ 32 10 → v < μ 34 (μ 33 i).toNat) → (0 < z → μ 34 (μ 33 (z - 1).toNat).toNat ≤ v) → WJ_X8_schedule_W_2 w μ s v Q (μ 32 10) z := by
    intro z hz h1 h2 m1 c _ m2 u2 _ m3 u3 _ m4 u4 _
    obtain rfl := u2.is
    obtain rfl := u3.is
    obtain rfl := u4.is
    have row : ∀ j : Nat, m1 33 j = if z + 1 ≤ (j : Int) ∧ (j : Int) < z + 1 + (μ 32 10 - z) then μ 33 (j - 1) else μ 33 j := fun j => by
      rw [c.2 j]
      by_cases q : z + 1 ≤ (j : Int) ∧ (j : Int) < z + 1 + (μ 32 10 - z)
      · rw [if_pos q, if_pos q]
        congr 1
        omega
      · rw [if_neg q, if_neg q]
    have oth : ∀ b i, ¬ b = 33 → m1 b i = μ b i := fun b i hb => c.1 b i hb
    have e10 : mUp (mUp (mUp m1 33 z.toNat s) 34 s.toNat v) 32 10 (μ 32 10 + 1) 32 10 = μ 32 10 + 1 := by
      rw [mUp.yes ⟨rfl, rfl⟩]
    have e33 : ∀ j, mUp (mUp (mUp m1 33 z.toNat s) 34 s.toNat v) 32 10 (μ 32 10 + 1) 33 j = if j = z.toNat then s else m1 33 j := fun j => by
      rw [mUp.no (by omega), mUp.no (by omega)]
      by_cases q : j = z.toNat
      · rw [if_pos q, mUp.yes ⟨rfl, q⟩]
      · rw [if_neg q, mUp.no (by omega)]
    have e34 : ∀ j, mUp (mUp (mUp m1 33 z.toNat s) 34 s.toNat v) 32 10 (μ 32 10 + 1) 34 j = if j = s.toNat then v else μ 34 j := fun j => by
      rw [mUp.no (by omega)]
      by_cases q : j = s.toNat
      · rw [if_pos q, mUp.yes ⟨rfl, q⟩]
      · rw [if_neg q, mUp.no (by omega), mUp.no (by omega), oth _ _ (by decide)]
    refine k _ ?_ ?_ fun b i h1 h2 h3 => ?_
    · rw [evC.eq, evC.eq, e10]
      have cut : lst (fun i => (μ 34 (μ 33 i).toNat, (μ 33 i).toNat)) (μ 32 10).toNat = lst (fun i => (μ 34 (μ 33 i).toNat, (μ 33 i).toNat)) z.toNat ++ lst (fun i => (μ 34 (μ 33 (z.toNat + i)).toNat, (μ 33 (z.toNat + i)).toNat)) ((μ 32 10).toNat - z.toNat) := by
        have e : (μ 32 10).toNat = z.toNat + ((μ 32 10).toNat - z.toNat) := by omega
        rw [e, lst.add]
        congr 2
        omega
      rw [cut, insQ.at, show (μ 32 10 + 1).toNat = z.toNat + (((μ 32 10).toNat - z.toNat) + 1) by omega, lst.add, lst.head]
      · congr 1
        · refine lst.ext fun i hi => ?_
          have a := hp i (by omega)
          show (mUp (mUp (mUp m1 33 z.toNat s) 34 s.toNat v) 32 10 (μ 32 10 + 1) 34 (mUp (mUp (mUp m1 33 z.toNat s) 34 s.toNat v) 32 10 (μ 32 10 + 1) 33 i).toNat, (mUp (mUp (mUp m1 33 z.toNat s) 34 s.toNat v) 32 10 (μ 32 10 + 1) 33 i).toNat) = _
          rw [e33, if_neg (by omega), row, if_neg (by omega), e34, if_neg (by omega)]
        · congr 1
          · show (mUp (mUp (mUp m1 33 z.toNat s) 34 s.toNat v) 32 10 (μ 32 10 + 1) 34 (mUp (mUp (mUp m1 33 z.toNat s) 34 s.toNat v) 32 10 (μ 32 10 + 1) 33 (z.toNat + 0)).toNat, (mUp (mUp (mUp m1 33 z.toNat s) 34 s.toNat v) 32 10 (μ 32 10 + 1) 33 (z.toNat + 0)).toNat) = _
            rw [e33, if_pos (by omega), e34, if_pos rfl]
          · refine lst.ext fun i hi => ?_
            have a := hp (z.toNat + i) (by omega)
            show (mUp (mUp (mUp m1 33 z.toNat s) 34 s.toNat v) 32 10 (μ 32 10 + 1) 34 (mUp (mUp (mUp m1 33 z.toNat s) 34 s.toNat v) 32 10 (μ 32 10 + 1) 33 (z.toNat + (i + 1))).toNat, (mUp (mUp (mUp m1 33 z.toNat s) 34 s.toNat v) 32 10 (μ 32 10 + 1) 33 (z.toNat + (i + 1))).toNat) = _
            rw [e33, if_neg (by omega), row, if_pos (by omega), show z.toNat + (i + 1) - 1 = z.toNat + i by omega, e34, if_neg (by omega)]
      · intro x hx
        obtain ⟨i, hi, q⟩ := lst.mem.mp hx
        rw [← q]
        show μ 34 (μ 33 i).toNat ≤ v
        have a := h2 (by omega)
        by_cases c : i = (z - 1).toNat
        · rw [c]; exact a
        · have b := ho i (z - 1).toNat (by omega) (by omega)
          omega
      · intro x hx
        obtain ⟨i, hi, q⟩ := lst.mem.mp hx
        rw [← q]
        exact h1 (z.toNat + i) (by omega) (by omega)
    · rw [e34, if_pos rfl]
    · rw [mUp.no (by omega), mUp.no (by omega), mUp.no (by omega), oth _ _ h1]
  refine loopF.i (fun z => (0 ≤ z ∧ z ≤ μ 32 10) ∧ ∀ i : Nat, z ≤ (i : Int) → (i : Int) < μ 32 10 → v < μ 34 (μ 33 i).toNat) (fun z => z.toNat) ⟨by omega, fun i h1 h2 => by omega⟩ (by omega) ?_
  rintro rc z ⟨hz, h⟩ ih z' e hzz
  subst e
  refine ⟨fun g => J z hz h (fun c => by omega), fun g y ey _ x ex _ => ⟨fun c => J z hz h (fun _ => ?_), fun c => ih _ ⟨by omega, fun i i1 i2 => ?_⟩ (by omega)⟩⟩
  · rw [ey, ex]; exact c
  · by_cases d : z ≤ (i : Int)
    · exact h i d i2
    · rw [show i = (z - 1).toNat by omega, ey, ex]; exact c
end
section
/-! The class's picks. -/
def rtv (μ : mM) (a : Nat) : Rt := (μ a 3, μ a 4, μ a 5, μ a 6, rowL (μ (a + 1)) (μ a 7).toNat, rowL (μ (a + 2)) (μ a 8).toNat)
def cdv (μ : mM) (a : Nat) : Cd := (μ a 10, μ a 11, μ a 9, rtv μ a)
def cdC (μ : mM) (i : Nat) : Cd := cdv μ (36 + 3 * i)
theorem cdv.of {μ μ1 : mM} {a : Nat} (h0 : ∀ i, μ1 a i = μ a i) (h1 : ∀ i, μ1 (a + 1) i = μ (a + 1) i) (h2 : ∀ i, μ1 (a + 2) i = μ (a + 2) i) : cdv μ1 a = cdv μ a := by
  unfold cdv rtv
  rw [h0, h0, h0, h0, h0, h0, h0, h0, h0, rowL.ext (fun i _ => h1 i), rowL.ext (fun i _ => h2 i)]
theorem rowL.head {f : Nat → Int} {n : Nat} : rowL f (n + 1) = f 0 :: rowL (fun i => f (i + 1)) n := lst.head
theorem shF.row {f g : Nat → Int} {n m : Int} (hn : 0 ≤ n) (hm : 0 ≤ m) : shF (rowL f n.toNat) (rowL g m.toNat) ↔ (0 < n ∧ 0 < m ∧ f 0 = g 0) := by
  by_cases a : n.toNat = 0
  · rw [a]
    constructor
    · intro h
      have h : shF [] (rowL g m.toNat) := h
      unfold shF at h
      exact h.elim
    · intro h
      omega
  · obtain ⟨k, ek⟩ := Nat.exists_eq_succ_of_ne_zero a
    by_cases b : m.toNat = 0
    · rw [b, ek, rowL.head]
      constructor
      · intro h
        have h : shF (f 0 :: rowL (fun i => f (i + 1)) k) [] := h
        unfold shF at h
        exact h.elim
      · intro h
        omega
    · obtain ⟨j, ej⟩ := Nat.exists_eq_succ_of_ne_zero b
      rw [ek, ej, rowL.head, rowL.head]
      constructor
      · intro h
        exact ⟨by omega, by omega, h⟩
      · intro h
        exact h.2.2
theorem shF.get {f g : Nat → Int} {n m : Int} (h : shF (rowL f n.toNat) (rowL g m.toNat)) : 0 < n ∧ 0 < m ∧ f 0 = g 0 := by
  by_cases a : 0 ≤ n
  · by_cases b : 0 ≤ m
    · exact (shF.row a b).mp h
    · rw [show m.toNat = (0 : Int).toNat by omega] at h
      have := (shF.row a (Int.le_refl 0)).mp h
      omega
  · rw [show n.toNat = (0 : Int).toNat by omega] at h
    by_cases b : 0 ≤ m
    · have := (shF.row (Int.le_refl 0) b).mp h
      omega
    · rw [show m.toNat = (0 : Int).toNat by omega] at h
      have := (shF.row (Int.le_refl 0) (Int.le_refl 0)).mp h
      omega
theorem stD.pos {s : Int} {x y : Cd} (h : ¬ stD s x y = 0) : 1 ≤ s ∧ s ≤ 6 := by
  apply Classical.byContradiction
  intro c
  refine h ?_
  unfold stD
  rw [if_neg (by omega), if_neg (by omega), if_neg (by omega), if_neg (by omega), if_neg (by omega), if_neg (by omega)]
theorem X0_compareAt_s {w : mW} {μ : mM} {s : Int} {a b : Nat} {Q : Int → mM → Prop} (k : ∀ z : Int, (z < 0 ↔ stD s (cdv μ a) (cdv μ b) < 0) → (z = 0 ↔ stD s (cdv μ a) (cdv μ b) = 0) → Q z μ) : WP_X0_compareAt_W w μ s a b Q := by
  have fin : ∀ {x y z : Int}, ((x < y → z = -1) ∧ (x = y → z = 0) ∧ (y < x → z = 1)) → stD s (cdv μ a) (cdv μ b) = x - y → Q z μ := fun h e => k _ (by rw [e]; omega) (by rw [e]; omega)
  refine ⟨fun c x ex _ y ey _ z hz => fin hz ?_, fun c1 => ⟨fun c x ex hx y ey hy z hz => fin hz ?_, fun c2 => ⟨fun c x ex _ y ey _ z hz => fin hz ?_, fun c3 => ⟨fun c => ?_, fun c4 => ⟨fun c x ex _ y ey _ z hz => fin hz ?_, fun c5 => ⟨fun c x ex _ y ey _ z hz => fin hz ?_, fun c6 => k 0 ?_ ?_⟩⟩⟩⟩⟩⟩
  · subst c ex ey; rfl
  · subst c
    show ((rowL (μ (a + 1)) (μ a 7).toNat).length : Int) - (rowL (μ (b + 1)) (μ b 7).toNat).length = x - y
    rw [rowL.len, rowL.len]
    omega
  · subst c ex ey; rfl
  · subst c
    refine X7_sharesFirst_s fun v hv rv => ?_
    have e4 : stD 4 (cdv μ a) (cdv μ b) = cIf (shF (wOf (rtv μ a)) (wOf (rtv μ b))) (μ a 6 - μ b 6) 0 := rfl
    have sh : 0 ≤ μ a 7 → 0 ≤ μ b 7 → (shF (wOf (rtv μ a)) (wOf (rtv μ b)) ↔ (0 < μ a 7 ∧ 0 < μ b 7 ∧ μ (a + 1) 0 = μ (b + 1) 0)) := fun h1 h2 => shF.row h1 h2
    refine ⟨fun d => ?_, fun d x ex _ y ey _ z hz => fin hz ?_⟩
    · have ns : ¬ shF (wOf (rtv μ a)) (wOf (rtv μ b)) := fun q => by
        have q' : 0 < μ a 7 ∧ 0 < μ b 7 ∧ μ (a + 1) 0 = μ (b + 1) 0 := shF.get q
        have := hv.mpr q'
        omega
      rw [cIf.neg ns] at e4
      exact k 0 (by rw [e4]) (by rw [e4])
    · have q := hv.mp (by omega)
      rw [e4, cIf.pos ((sh (by omega) (by omega)).mpr q)]
      subst ex ey
      rfl
  · subst c ex ey; rfl
  · subst c ex ey; rfl
  · have e : stD s (cdv μ a) (cdv μ b) = 0 := Classical.byContradiction fun g => by
      have := stD.pos g
      omega
    rw [e]
  · have e : stD s (cdv μ a) (cdv μ b) = 0 := Classical.byContradiction fun g => by
      have := stD.pos g
      omega
    rw [e]
theorem X0_prefers_s {w : mW} {μ : mM} {a0 a b : Nat} {Q : Int → mM → Prop} (k : ∀ z : Int, (z = 1 ↔ bts (rowL (μ (a0 + 1)) (μ a0 4).toNat) (cdv μ a) (cdv μ b) = true) → Q z μ) : WP_X0_prefers_W w μ a0 a b Q := by
  refine loopF.i (fun s => 0 ≤ s ∧ (s = 0 ∨ s ≤ μ a0 4) ∧ unl (rowL (μ (a0 + 1)) (μ a0 4).toNat) (cdv μ a) (cdv μ b) = unl (rowL (fun i => μ (a0 + 1) (s.toNat + i)) ((μ a0 4).toNat - s.toNat)) (cdv μ a) (cdv μ b)) (fun s => (7 - s).toNat) ⟨by omega, Or.inl rfl, by simp⟩ (by omega) ?_
  rintro rc s ⟨s0, s1, h⟩ ih s' e hs n en hn
  subst e en
  refine ⟨fun g x ex _ y ey _ => ?_, fun g v ev hv => ?_⟩
  · have u0 : unl (rowL (μ (a0 + 1)) (μ a0 4).toNat) (cdv μ a) (cdv μ b) = 0 := by
      rw [h, show (μ a0 4).toNat - s.toNat = 0 by omega]
      rfl
    have eb : bts (rowL (μ (a0 + 1)) (μ a0 4).toNat) (cdv μ a) (cdv μ b) = decide (x < y) := by
      unfold bts
      rw [if_pos u0]
      subst ex ey
      rfl
    refine ⟨fun c => k 0 ⟨fun e => absurd e (by decide), fun e => ?_⟩, fun c => k 1 ⟨fun _ => ?_, fun _ => rfl⟩⟩
    · rw [eb] at e
      have := of_decide_eq_true e
      omega
    · rw [eb]
      exact decide_eq_true c
  · have hd : unl (rowL (μ (a0 + 1)) (μ a0 4).toNat) (cdv μ a) (cdv μ b) = (if stD v (cdv μ a) (cdv μ b) = 0 then unl (rowL (fun i => μ (a0 + 1) ((s + 1).toNat + i)) ((μ a0 4).toNat - (s + 1).toNat)) (cdv μ a) (cdv μ b) else if stD v (cdv μ a) (cdv μ b) < 0 then v else -v) := by
      rw [h, show (μ a0 4).toNat - s.toNat = ((μ a0 4).toNat - (s + 1).toNat) + 1 by omega, rowL.head]
      have e0 : μ (a0 + 1) (s.toNat + 0) = v := ev
      rw [e0]
      have e1 : (fun i => μ (a0 + 1) (s.toNat + (i + 1))) = (fun i => μ (a0 + 1) ((s + 1).toNat + i)) := by
        funext i
        rw [show s.toNat + (i + 1) = (s + 1).toNat + i by omega]
      rw [e1]
      rfl
    refine X0_compareAt_s fun z h1 h2 rz => ⟨fun c => ih _ ⟨by omega, by omega, ?_⟩ (by omega), fun c => ?_⟩
    · rw [hd, if_pos (h2.mp c)]
    · have hne : ¬ stD v (cdv μ a) (cdv μ b) = 0 := fun e => c (h2.mpr e)
      have hv6 := stD.pos hne
      rw [if_neg hne] at hd
      have eb : bts (rowL (μ (a0 + 1)) (μ a0 4).toNat) (cdv μ a) (cdv μ b) = decide (stD v (cdv μ a) (cdv μ b) < 0) := by
        unfold bts
        rw [hd]
        by_cases q : stD v (cdv μ a) (cdv μ b) < 0
        · rw [if_pos q, if_neg (by omega), decide_eq_true (show 0 < v by omega), decide_eq_true q]
        · rw [if_neg q, if_neg (by omega), decide_eq_false (show ¬ 0 < -v by omega), decide_eq_false q]
      refine ⟨fun d => k 0 ⟨fun e => absurd e (by decide), fun e => ?_⟩, fun d => k 1 ⟨fun _ => ?_, fun _ => rfl⟩⟩
      · rw [eb] at e
        have := h1.mpr (of_decide_eq_true e)
        omega
      · rw [eb]
        exact decide_eq_true (h1.mp d)
theorem bst.one {l : List Int} {g : Nat → Cd} {n : Nat} {b : Cd} (h : bst l (lst g n) none = some b) : bst l (lst g (n + 1)) none = if bts l (g n) b = true then some (g n) else some b := by
  rw [lst.succ, bst.app, h]
  rfl
theorem X8_lastStanding_s {w : mW} {μ : mM} {a0 : Nat} {n : Int} {Q : Int → mM → Prop} (h35 : ∀ i, i < 10 → μ 35 i = ((36 + 3 * i : Nat) : Int)) (hn10 : n ≤ 10) (k0 : n ≤ 0 → Q (-1) μ) (k : ∀ z : Int, 0 < n → 0 ≤ z → (∃ i, i < n.toNat ∧ μ 66 i = z) → bst (rowL (μ (a0 + 1)) (μ a0 4).toNat) (lst (fun i => cdC μ (μ 66 i).toNat) n.toNat) none = some (cdC μ z.toNat) → Q z μ) : WP_X8_lastStanding_W w μ a0 n Q := by
  refine ⟨fun h => ?_, fun h z0 ez hz => ?_⟩
  · refine loopF.ii (fun _ _ => True) (fun _ _ => 0) trivial (by omega) ?_
    rintro rc x y _ ih x' y' e hx hy
    cases e
    have : x = -1 := by omega
    subst this
    exact k0 h
  · refine loopF.ii (fun b s => 0 ≤ b ∧ b ≤ 9 ∧ 1 ≤ s ∧ s ≤ n ∧ (∃ i, i < s.toNat ∧ μ 66 i = b) ∧ bst (rowL (μ (a0 + 1)) (μ a0 4).toNat) (lst (fun i => cdC μ (μ 66 i).toNat) s.toNat) none = some (cdC μ b.toNat)) (fun _ s => (10 - s).toNat) ⟨by omega, by omega, by omega, by omega, ⟨0, by omega, ez⟩, ?_⟩ (by omega) ?_
    · show bst _ (lst (fun i => cdC μ (μ 66 i).toNat) 1) none = some (cdC μ z0.toNat)
      have e : μ 66 0 = z0 := ez
      rw [← e]
      rfl
    rintro rc b s ⟨b0, b9, s1, sn, hx, hb⟩ ih b' s' e hbb hss
    cases e
    refine ⟨fun g => ?_, fun g v ev hv c ec _ d ed _ => ?_⟩
    · have e : s = n := by omega
      subst e
      exact k b h b0 hx hb
    · have ec' : c = 36 + 3 * v.toNat := by
        have := h35 v.toNat (by omega)
        rw [ec] at this
        omega
      have ed' : d = 36 + 3 * b.toNat := by
        have := h35 b.toNat (by omega)
        rw [ed] at this
        omega
      subst ec' ed'
      have nx := bst.one hb
      have ev' : μ 66 s.toNat = v := ev
      refine X0_prefers_s fun z hz1 rz => ?_
      have hz2 : z = 1 ↔ bts (rowL (μ (a0 + 1)) (μ a0 4).toNat) (cdC μ v.toNat) (cdC μ b.toNat) = true := hz1
      refine ⟨fun q => ih _ _ ⟨b0, b9, by omega, by omega, ?_, ?_⟩ (by omega), fun q => ih _ _ ⟨by omega, by omega, by omega, by omega, ⟨s.toNat, by omega, ev'⟩, ?_⟩ (by omega)⟩
      · obtain ⟨i, hi, hj⟩ := hx
        exact ⟨i, by omega, hj⟩
      · rw [show (s + 1).toNat = s.toNat + 1 by omega, nx, ev', if_neg (fun t => by have := hz2.mpr t; omega)]
      · rw [show (s + 1).toNat = s.toNat + 1 by omega, nx, ev', if_pos (hz2.mp (by omega))]
/-- only winners have changed -/
def onW (μ μ1 : mM) : Prop := ∀ b i, ¬ b = 66 → μ1 b i = μ b i
theorem cdC.onW {μ μ1 : mM} {i : Nat} (h : onW μ μ1) (hi : i < 10) : cdC μ1 i = cdC μ i := cdv.of (fun j => h _ _ (by omega)) (fun j => h _ _ (by omega)) (fun j => h _ _ (by omega))
theorem X8_pickPlain_s {w : mW} {μ : mM} {a0 : Nat} {Q : Int → mM → Prop} (hw : ¬ a0 = 66 ∧ ¬ a0 + 1 = 66) (h35 : ∀ i, i < 10 → μ 35 i = ((36 + 3 * i : Nat) : Int))
    (k : ∀ (z : Int) (μ1 : mM), onW μ μ1 → ((z = -1 ∧ bst (rowL (μ (a0 + 1)) (μ a0 4).toNat) (lst (cdC μ) (μ 32 9).toNat) none = none) ∨ (0 ≤ z ∧ z < μ 32 9 ∧ bst (rowL (μ (a0 + 1)) (μ a0 4).toNat) (lst (cdC μ) (μ 32 9).toNat) none = some (cdC μ z.toNat))) → Q z μ1) : WP_X8_pickPlain_W w μ a0 Q := by
  refine loopF.im (fun s m => 0 ≤ s ∧ (s = 0 ∨ s ≤ μ 32 9) ∧ onW μ m ∧ ∀ i : Nat, (i : Int) < s → m 66 i = (i : Int)) (fun s => (11 - s).toNat) ⟨by omega, Or.inl rfl, fun _ _ _ => rfl, fun i hi => by omega⟩ (by omega) ?_
  rintro rc s m ⟨s0, s1, o, h⟩ ih s' m' e hs _ _ n en hn
  cases e
  rw [o _ _ (by decide)] at en
  subst en
  refine ⟨fun g => ?_, fun g m1 u1 _ => ih _ _ ⟨by omega, by omega, fun b i hb => ?_, fun i hi => ?_⟩ (by omega)⟩
  · have es : lst (fun i => cdC m (m 66 i).toNat) (μ 32 9).toNat = lst (cdC μ) (μ 32 9).toNat := lst.ext fun i hi => by
      rw [h i (by omega), Int.toNat_natCast, cdC.onW o (by omega)]
    have st : rowL (m (a0 + 1)) (m a0 4).toNat = rowL (μ (a0 + 1)) (μ a0 4).toNat := by
      rw [o _ _ hw.1]
      exact rowL.ext fun i _ => o _ _ hw.2
    refine X8_lastStanding_s (fun i hi => by rw [o _ _ (by decide)]; exact h35 i hi) (by omega) (fun c _ => k _ m o (Or.inl ⟨rfl, ?_⟩)) (fun z hz z0 hx hb _ => k z m o (Or.inr ?_))
    · rw [show (μ 32 9).toNat = 0 by omega]
      rfl
    · obtain ⟨i, hi, hj⟩ := hx
      rw [h i (by omega)] at hj
      rw [es, st, cdC.onW o (by omega)] at hb
      exact ⟨z0, by omega, hb⟩
  · obtain rfl := u1.is
    rw [mUp.no (by omega)]
    exact o b i hb
  · obtain rfl := u1.is
    by_cases c : i = s.toNat
    · rw [mUp.yes ⟨rfl, c⟩]
      omega
    · rw [mUp.no (by omega)]
      exact h i (by omega)
end
section
/-! The reference's picks. -/
def rvR (μ : mM) (r : Int) : Rt := (μ 126 (40 * r).toNat, μ 126 (40 * r + 1).toNat, μ 126 (40 * r + 2).toNat, μ 126 (40 * r + 3).toNat, rowL (fun k => μ 126 (40 * r + 6 + (k : Int)).toNat) (μ 126 (40 * r + 4).toNat).toNat, rowL (fun k => μ 126 (40 * r + 26 + (k : Int)).toNat) (μ 126 (40 * r + 5).toNat).toNat)
def sdR (μ : mM) (t d : Int) : Int := if μ 110 (2 * t).toNat = d then 0 else 1
def ptR (μ : mM) (t d : Int) : Int := μ 110 (2 * t + 1 - sdR μ t d).toNat
def slR (μ : mM) (t d p : Int) : Int := (2 * t + sdR μ t d) * 10 + p
/-- the row r as what is heard over the tie t -/
def cdX (μ : mM) (d p r t : Int) : Cd := (t, ptR μ t d, μ 154 (slR μ t d p).toNat, rvR μ r)
theorem X12_sideOf_s {w : mW} {μ : mM} {t d : Int} {Q : Int → mM → Prop} (k : Q (sdR μ t d) μ) : WP_X12_sideOf_W w μ t d Q := by
  intro e ee _
  subst ee
  unfold sdR at k
  refine ⟨fun c => ?_, fun c => ?_⟩
  · rw [if_neg c] at k; exact k
  · rw [if_pos c] at k; exact k
theorem sdR.rng {μ : mM} {t d : Int} : 0 ≤ sdR μ t d ∧ sdR μ t d ≤ 1 := by
  unfold sdR
  split <;> omega
theorem X12_partnerOf_s {w : mW} {μ : mM} {t d : Int} {Q : Int → mM → Prop} (k : Q (ptR μ t d) μ) : WP_X12_partnerOf_W w μ t d Q := by
  intro e ee _
  refine X12_sideOf_s fun _ z ez _ => ?_
  subst ez
  exact k
theorem X12_unlike_s {w : mW} {μ : mM} {d x tx y ty p : Int} {Q : Int → mM → Prop} (hd : 0 ≤ d) (rx : rgV (rvR μ x)) (ry : rgV (rvR μ y)) (k : Q (unl (rowL (fun i => μ 163 (6 * d + (i : Int)).toNat) 6) (cdX μ d p x tx) (cdX μ d p y ty)) μ) : WP_X12_unlike_W w μ d x tx y ty p Q := by
  obtain ⟨⟨w1, w2⟩, ⟨o1, o2⟩, ⟨c1, c2⟩⟩ := rx
  obtain ⟨⟨w3, w4⟩, ⟨o3, o4⟩, ⟨c3, c4⟩⟩ := ry
  have w1 : 0 ≤ μ 126 (40 * x + 1).toNat := w1
  have w2 : μ 126 (40 * x + 1).toNat ≤ 1000 := w2
  have w3 : 0 ≤ μ 126 (40 * y + 1).toNat := w3
  have w4 : μ 126 (40 * y + 1).toNat ≤ 1000 := w4
  have o1 : 0 ≤ μ 126 (40 * x + 2).toNat := o1
  have o2 : μ 126 (40 * x + 2).toNat ≤ 2 := o2
  have o3 : 0 ≤ μ 126 (40 * y + 2).toNat := o3
  have o4 : μ 126 (40 * y + 2).toNat ≤ 2 := o4
  have c1 : 0 ≤ μ 126 (40 * x + 3).toNat := c1
  have c2 : μ 126 (40 * x + 3).toNat ≤ 1000000 := c2
  have c3 : 0 ≤ μ 126 (40 * y + 3).toNat := c3
  have c4 : μ 126 (40 * y + 3).toNat ≤ 1000000 := c4
  refine loopF.i (fun s => 0 ≤ s ∧ s ≤ 6 ∧ unl (rowL (fun i => μ 163 (6 * d + (i : Int)).toNat) 6) (cdX μ d p x tx) (cdX μ d p y ty) = unl (rowL (fun i => μ 163 (6 * d + ((s.toNat + i : Nat) : Int)).toNat) (6 - s.toNat)) (cdX μ d p x tx) (cdX μ d p y ty)) (fun s => (6 - s).toNat) ⟨by omega, by omega, by simp⟩ (by omega) ?_
  rintro rc s ⟨s0, s6, h⟩ ih s' e hs
  subst e
  refine ⟨fun g => ?_, fun g v ev hv n en hn => ?_⟩
  · rw [h, show 6 - s.toNat = 0 by omega] at k
    exact k
  have hdd : unl (rowL (fun i => μ 163 (6 * d + (i : Int)).toNat) 6) (cdX μ d p x tx) (cdX μ d p y ty) = (if stD v (cdX μ d p x tx) (cdX μ d p y ty) = 0 then unl (rowL (fun i => μ 163 (6 * d + (((s + 1).toNat + i : Nat) : Int)).toNat) (6 - (s + 1).toNat)) (cdX μ d p x tx) (cdX μ d p y ty) else if stD v (cdX μ d p x tx) (cdX μ d p y ty) < 0 then v else -v) := by
    rw [h, show 6 - s.toNat = (6 - (s + 1).toNat) + 1 by omega, rowL.head]
    have e0 : μ 163 (6 * d + ((s.toNat + 0 : Nat) : Int)).toNat = v := by
      rw [← ev]
      congr 2
      omega
    rw [e0]
    have e1 : (fun i : Nat => μ 163 (6 * d + ((s.toNat + (i + 1) : Nat) : Int)).toNat) = (fun i : Nat => μ 163 (6 * d + (((s + 1).toNat + i : Nat) : Int)).toNat) := by
      funext i
      rw [show s.toNat + (i + 1) = (s + 1).toNat + i by omega]
    rw [e1]
    rfl
  have J7 : ∀ z : Int, z = stD v (cdX μ d p x tx) (cdX μ d p y ty) → WJ_X12_unlike_W_7 μ Q rc s v z := by
    intro z ez _
    refine ⟨fun c => ih _ ⟨by omega, by omega, ?_⟩ (by omega), fun c => ⟨fun c2 => ?_, fun c2 => ?_⟩⟩
    · rw [hdd, if_pos (by omega)]
    · rw [hdd, if_neg (by omega), if_neg (by omega)] at k
      rw [Int.zero_sub]
      exact k
    · rw [hdd, if_neg (by omega), if_pos (by omega)] at k
      exact k
  have J6 : ∀ z : Int, (¬ v = 5 → z = stD v (cdX μ d p x tx) (cdX μ d p y ty)) → WJ_X12_unlike_W_6 w μ d tx ty p Q rc s v z := by
    intro z ez _
    refine ⟨fun c => J7 z (ez c), fun c e ee _ => ?_⟩
    refine X12_sideOf_s fun _ _ a ea _ f ff _ => ?_
    refine X12_sideOf_s fun _ _ b eb _ => J7 _ ?_
    subst c ea eb
    rfl
  have J5 : ∀ (z one : Int), (¬ v = 4 → ¬ v = 5 → ¬ v = 6 → z = stD v (cdX μ d p x tx) (cdX μ d p y ty)) → (v = 4 → z = 0) → (one = 0 ∨ one = 1) → (one = 1 ↔ shF (wOf (rvR μ x)) (wOf (rvR μ y))) → WJ_X12_unlike_W_5 w μ d x tx y ty p Q rc s v one z := by
    intro z one ez e4 h01 ho _
    refine ⟨fun n4 => ⟨fun n6 => J6 z (fun n5 => ez n4 n5 n6), fun c a ea _ b eb _ r hr er => J6 r (fun _ => ?_)⟩, fun c => ⟨fun q a ea _ b eb _ r hr er => J6 r (fun _ => ?_), fun q => J6 z (fun _ => ?_)⟩⟩
    · subst c
      show r = μ 126 (40 * x + 3).toNat - μ 126 (40 * y + 3).toNat
      omega
    · subst c
      show r = cIf (shF (wOf (rvR μ x)) (wOf (rvR μ y))) (μ 126 (40 * x + 3).toNat - μ 126 (40 * y + 3).toNat) 0
      rw [cIf.pos (ho.mp (by omega))]
      omega
    · rw [e4 c]
      subst c
      show 0 = cIf (shF (wOf (rvR μ x)) (wOf (rvR μ y))) (μ 126 (40 * x + 3).toNat - μ 126 (40 * y + 3).toNat) 0
      rw [cIf.neg (fun g => by have := ho.mpr g; omega)]
  have J2 : ∀ one : Int, (one = 0 ∨ one = 1) → (one = 1 ↔ shF (wOf (rvR μ x)) (wOf (rvR μ y))) → WJ_X12_unlike_W_2 w μ d x tx y ty p Q rc s v n one := by
    intro one h01 ho _
    have J4 : ∀ z : Int, (¬ v = 3 → ¬ v = 4 → ¬ v = 5 → ¬ v = 6 → z = stD v (cdX μ d p x tx) (cdX μ d p y ty)) → (v = 4 → z = 0) → WJ_X12_unlike_W_4 w μ d x tx y ty p Q rc s v one z := by
      intro z ez e4 _
      refine ⟨fun n3 => J5 z one (ez n3) e4 h01 ho, fun c a ea _ b eb _ r hr er => J5 r one (fun _ _ _ => ?_) (fun c4 => by omega) h01 ho⟩
      subst c
      show r = μ 126 (40 * x + 2).toNat - μ 126 (40 * y + 2).toNat
      omega
    have J3 : ∀ z : Int, (¬ v = 2 → ¬ v = 3 → ¬ v = 4 → ¬ v = 5 → ¬ v = 6 → z = stD v (cdX μ d p x tx) (cdX μ d p y ty)) → (v = 4 → z = 0) → WJ_X12_unlike_W_3 w μ d x tx y ty p Q rc s v n one z := by
      intro z ez e4 _
      refine ⟨fun n2 => J4 z (ez n2) e4, fun c a ea ha => J4 _ (fun _ _ _ _ => ?_) (fun c4 => by omega)⟩
      have h1 := hn.2.2.1 (by omega)
      have h2 := ha.2.2.1 (by omega)
      subst c
      show n - a = ((rowL (fun k => μ 126 (40 * x + 6 + (k : Int)).toNat) (μ 126 (40 * x + 4).toNat).toNat).length : Int) - (rowL (fun k => μ 126 (40 * y + 6 + (k : Int)).toNat) (μ 126 (40 * y + 4).toNat).toNat).length
      rw [rowL.len, rowL.len]
      omega
    refine ⟨fun n1 => J3 0 (fun n2 n3 n4 n5 n6 => ?_) (fun _ => rfl), fun c a ea _ b eb _ r hr er => J3 r (fun _ _ _ _ _ => ?_) (fun c4 => by omega)⟩
    · apply Classical.byContradiction
      intro g
      have := stD.pos (fun e => g e.symm)
      omega
    · subst c
      show r = μ 126 (40 * y + 1).toNat - μ 126 (40 * x + 1).toNat
      omega
  have h1 := hn.2.2.1 (by omega)
  have sx : shF (wOf (rvR μ x)) (wOf (rvR μ y)) → 0 < n ∧ 0 < μ 126 (40 * y + 4).toNat ∧ μ 126 (40 * x + 6).toNat = μ 126 (40 * y + 6).toNat := fun g => by
    have q := shF.get g
    rw [en] at q
    have q3 : μ 126 (40 * x + 6 + ((0 : Nat) : Int)).toNat = μ 126 (40 * y + 6 + ((0 : Nat) : Int)).toNat := q.2.2
    simp only [Int.natCast_zero, Int.add_zero] at q3
    exact ⟨q.1, q.2.1, q3⟩
  refine ⟨fun c => J2 0 (Or.inl rfl) ⟨fun e => absurd e (by decide), fun e => ?_⟩, fun c m em hm => ⟨fun c2 => J2 0 (Or.inl rfl) ⟨fun e => absurd e (by decide), fun e => ?_⟩, fun c2 a ea _ b eb _ => ⟨fun c3 => J2 0 (Or.inl rfl) ⟨fun e => absurd e (by decide), fun e => ?_⟩, fun c3 => J2 1 (Or.inr rfl) ⟨fun _ => ?_, fun _ => rfl⟩⟩⟩⟩
  · have := sx e
    omega
  · have := sx e
    omega
  · have := sx e
    omega
  · have hm4 := hm.2.2.1 (by omega)
    refine (shF.row (by omega) (by omega)).mpr ⟨by omega, by omega, ?_⟩
    show μ 126 (40 * x + 6 + ((0 : Nat) : Int)).toNat = μ 126 (40 * y + 6 + ((0 : Nat) : Int)).toNat
    simp only [Int.natCast_zero, Int.add_zero]
    rw [ea, eb, c3]
theorem X12_beats_s {w : mW} {μ : mM} {d tx ty p : Int} {Q : Int → mM → Prop} (hd : 0 ≤ d) (rx : rgV (rvR μ (4 + tx))) (ry : rgV (rvR μ (4 + ty))) (k : ∀ z : Int, (z = 1 ↔ bts (rowL (fun i => μ 163 (6 * d + (i : Int)).toNat) 6) (cdX μ d p (4 + tx) tx) (cdX μ d p (4 + ty) ty) = true) → Q z μ) : WP_X12_beats_W w μ d tx ty p Q := by
  refine X12_unlike_s hd rx ry fun _ => ?_
  generalize eu : unl (rowL (fun i => μ 163 (6 * d + (i : Int)).toNat) 6) (cdX μ d p (4 + tx) tx) (cdX μ d p (4 + ty) ty) = u
  refine ⟨fun c => ?_, fun c => ?_⟩
  · have eb : bts (rowL (fun i => μ 163 (6 * d + (i : Int)).toNat) 6) (cdX μ d p (4 + tx) tx) (cdX μ d p (4 + ty) ty) = decide (ptR μ tx d < ptR μ ty d) := by
      unfold bts
      rw [eu, if_pos c]
      rfl
    refine X12_partnerOf_s fun _ => X12_partnerOf_s fun _ => ⟨fun q => k 0 ⟨fun e => absurd e (by decide), fun e => ?_⟩, fun q => k 1 ⟨fun _ => ?_, fun _ => rfl⟩⟩
    · rw [eb] at e
      have := of_decide_eq_true e
      omega
    · rw [eb]
      exact decide_eq_true q
  · have eb : bts (rowL (fun i => μ 163 (6 * d + (i : Int)).toNat) 6) (cdX μ d p (4 + tx) tx) (cdX μ d p (4 + ty) ty) = decide (0 < u) := by
      unfold bts
      rw [eu, if_neg c]
    refine ⟨fun q => k 0 ⟨fun e => absurd e (by decide), fun e => ?_⟩, fun q => k 1 ⟨fun _ => ?_, fun _ => rfl⟩⟩
    · rw [eb] at e
      have := of_decide_eq_true e
      omega
    · rw [eb]
      exact decide_eq_true q
end
section
/-! Lists of what is there; the best of those left. -/
def fmN {α : Type} (f : Nat → Option α) (n : Nat) : List α := (List.range n).filterMap f
theorem fmN.zero {α : Type} {f : Nat → Option α} : fmN f 0 = [] := rfl
theorem fmN.no {α : Type} {f : Nat → Option α} {n : Nat} (h : f n = none) : fmN f (n + 1) = fmN f n := by
  unfold fmN
  rw [List.range_succ, List.filterMap_append]
  simp [h]
theorem fmN.yes {α : Type} {f : Nat → Option α} {n : Nat} {x : α} (h : f n = some x) : fmN f (n + 1) = fmN f n ++ [x] := by
  unfold fmN
  rw [List.range_succ, List.filterMap_append]
  simp [h]
theorem fmN.ext {α : Type} {f g : Nat → Option α} {n : Nat} (h : ∀ i, i < n → f i = g i) : fmN f n = fmN g n := by
  induction n with
  | zero => rfl
  | succ n ih =>
    have e := ih fun i hi => h i (by omega)
    have q := h n (by omega)
    cases c : g n with
    | none => rw [fmN.no (q.trans c), fmN.no c, e]
    | some x => rw [fmN.yes (q.trans c), fmN.yes c, e]
/-- those left: by ties -/
def lfR (μ : mM) (d p : Int) (t : Nat) : Option Cd := if μ 165 t = 0 then none else some (cdX μ d p (4 + (t : Int)) (t : Int))
theorem X12_best_s {w : mW} {μ : mM} {d p : Int} {Q : Int → mM → Prop} (hd : 0 ≤ d) (hr : ∀ t : Nat, (t : Int) < μ 106 6 → ¬ μ 165 t = 0 → rgV (rvR μ (4 + (t : Int))))
    (k : ∀ z : Int, ((z = -99999999 ∧ bst (rowL (fun i => μ 163 (6 * d + (i : Int)).toNat) 6) (fmN (lfR μ d p) (μ 106 6).toNat) none = none) ∨ (0 ≤ z ∧ z < μ 106 6 ∧ ¬ μ 165 z.toNat = 0 ∧ bst (rowL (fun i => μ 163 (6 * d + (i : Int)).toNat) 6) (fmN (lfR μ d p) (μ 106 6).toNat) none = some (cdX μ d p (4 + z) z))) → Q z μ) : WP_X12_best_Wl w μ d p Q := by
  intro n en hn
  subst en
  refine loopF.ii (fun b s => 0 ≤ s ∧ s ≤ μ 106 6 ∧ ((b = -99999999 ∧ bst (rowL (fun i => μ 163 (6 * d + (i : Int)).toNat) 6) (fmN (lfR μ d p) s.toNat) none = none) ∨ (0 ≤ b ∧ b < s ∧ ¬ μ 165 b.toNat = 0 ∧ bst (rowL (fun i => μ 163 (6 * d + (i : Int)).toNat) 6) (fmN (lfR μ d p) s.toNat) none = some (cdX μ d p (4 + b) b)))) (fun _ s => (21 - s).toNat) ⟨by omega, by omega, Or.inl ⟨rfl, rfl⟩⟩ (by omega) ?_
  rintro rc b s ⟨s0, s1, h⟩ ih b' s' e _ _
  cases e
  refine ⟨fun g => ?_, fun g v ev hv => ⟨fun c => ih _ _ ⟨by omega, by omega, ?_⟩ (by omega), fun c => ?_⟩⟩
  · have e : s = μ 106 6 := by omega
    subst e
    exact k b h
  · have f : fmN (lfR μ d p) (s + 1).toNat = fmN (lfR μ d p) s.toNat := by
      rw [show (s + 1).toNat = s.toNat + 1 by omega]
      exact fmN.no (if_pos (ev.trans c))
    rw [f]
    exact h.imp id fun q => ⟨q.1, by omega, q.2.2⟩
  · have hne : ¬ μ 165 s.toNat = 0 := by rw [ev]; exact c
    have f : fmN (lfR μ d p) (s + 1).toNat = fmN (lfR μ d p) s.toNat ++ [cdX μ d p (4 + s) s] := by
      rw [show (s + 1).toNat = s.toNat + 1 by omega]
      refine fmN.yes ?_
      unfold lfR
      rw [if_neg hne, Int.toNat_of_nonneg s0]
    refine ⟨fun q => ih _ _ ⟨by omega, by omega, Or.inr ⟨s0, by omega, hne, ?_⟩⟩ (by omega), fun q => ?_⟩
    · rcases h with ⟨h1, h2⟩ | ⟨h1, _⟩
      · rw [f, bst.app, h2]
        rfl
      · omega
    · rcases h with ⟨h1, h2⟩ | ⟨h1, h2, h3, h4⟩
      · exact absurd h1 q
      · have r1 := hr s.toNat (by omega) hne
        have r2 := hr b.toNat (by omega) h3
        rw [Int.toNat_of_nonneg s0] at r1
        rw [Int.toNat_of_nonneg h1] at r2
        refine X12_beats_s hd r1 r2 fun z hz rz => ⟨fun c2 => ih _ _ ⟨by omega, by omega, Or.inr ⟨h1, by omega, h3, ?_⟩⟩ (by omega), fun c2 => ih _ _ ⟨by omega, by omega, Or.inr ⟨s0, by omega, hne, ?_⟩⟩ (by omega)⟩
        · rw [f, bst.app, h4]
          show (if bts _ (cdX μ d p (4 + s) s) (cdX μ d p (4 + b) b) = true then some (cdX μ d p (4 + s) s) else some (cdX μ d p (4 + b) b)) = _
          rw [if_neg (fun t => by have := hz.mpr t; omega)]
        · rw [f, bst.app, h4]
          show (if bts _ (cdX μ d p (4 + s) s) (cdX μ d p (4 + b) b) = true then some (cdX μ d p (4 + s) s) else some (cdX μ d p (4 + b) b)) = _
          rw [if_pos (hz.mp (by omega))]
end
section
/-! What memory says of the engine: the reference. -/
def mdR (μ : mM) (e : Nat) : Int := if e % 2 = 0 then μ 158 (e / 2) else μ 160 (e / 2)
def atR (μ : mM) (e : Nat) : Int := if e % 2 = 0 then μ 157 (e / 2) else μ 159 (e / 2)
/-- the events, in their order -/
def quR (μ : mM) (q : List Ev) : Prop := (∀ e, e < 800 → 0 ≤ atR μ e → (atR μ e, e) ∈ q) ∧ (∀ x ∈ q, x.2 < 800 ∧ atR μ x.2 = x.1 ∧ 0 ≤ x.1 ∧ mdR μ x.2 < μ 106 72) ∧ q.Pairwise (fun x y => x.1 < y.1 ∨ (x.1 = y.1 ∧ mdR μ x.2 < mdR μ y.2))
def lER : List Nat := [106026, 106027, 106028, 106029, 106030, 106031, 106071, 106072, 106073, 126999, 151999, 152999, 153999, 154999, 155999, 156999, 157999, 158999, 159999, 160999, 161999, 165999]
def lLR : List Nat := lER ++ [106070, 112999, 113999, 114999, 115999, 162999, 163999, 164999]
/-- what through answers, in every memory that differs from μ only there -/
def letR (w : mW) (μ : mM) (E : En) (G : mM → Prop) : Prop := (∀ t i, t < eT E → i < 4 → plO (μ 106 39) (ePl E (4 * t + i))) ∧ ∀ (m : mM) (pl r : Int) (t s : Nat) (x : Rt) (Q : Int → mM → Prop), mT w m → mF lLR w μ m → G m → t < eT E → s < 2 → plO (μ 106 39) pl → 0 ≤ r → r < 2100 → rtR m r = some x → srt (mOf x) → x.1 < (eP E : Int) →
  (∀ z m1, (z = 1 ↔ (eTh E pl (eN E t s) (eN E t (1 - s)) x).1 = true) → rtR m1 r = some (eTh E pl (eN E t s) (eN E t (1 - s)) x).2 → G m1 → (∀ (b i : Nat), ¬ (b = 126 ∧ 40 * r ≤ (i : Int) ∧ (i : Int) < 40 * r + 40) → ¬ b = 151 → ¬ b = 152 → ¬ b = 153 → ¬ (b = 106 ∧ 26 ≤ i ∧ i ≤ 31) → m1 b i = m b i) → Q z m1) → WP_X12_through_W w m pl r (eN E t s) (eN E t (1 - s)) (t : Int) Q
def envR (w : mW) (μ : mM) (E : En) (G : mM → Prop) : Prop :=
  μ 106 6 = (eT E : Int) ∧ μ 106 2 = (eP E : Int) ∧ μ 106 5 = (eD E : Int) ∧
  (∀ t, t < eT E → μ 110 (2 * t) = eA E t ∧ μ 110 (2 * t + 1) = eB E t ∧ μ 112 t = eU E t ∧ μ 113 t = eL E t ∧ μ 114 t = eG E t ∧ ∀ i, i < 4 → μ 115 (4 * t + i) = ePl E (4 * t + i)) ∧
  (∀ d, (d < eD E ∨ d < 10) → (∀ p, p < 10 → μ 162 (10 * d + p) = eOw E (10 * d + p)) ∧ (∃ n, rowL (fun i => μ 163 (6 * d + i)) 6 = eSt E d ++ List.replicate n 0) ∧ μ 164 d = eGr E d) ∧
  letR w μ E G
def snR (μ : mM) (E : En) (S : Sn) : Prop :=
  (∀ s : Nat, (s < 20 * eT E ∨ s < 400) → rtR μ (130 + (s : Int)) = sHd S s ∧ (¬ sHd S s = none → μ 154 s = sHw S s) ∧ rtR μ (530 + (s : Int)) = (sSd S s).1 ∧ (if μ 155 s = 0 then -1 else μ 156 s) = (sSd S s).2 ∧ (0 ≤ μ 157 s → rtR μ (930 + (s : Int)) = (sSd S s).1)) ∧
  (∀ k : Nat, (k < 10 * eD E ∨ k < 100) → μ 161 k = (sPk S k).1 ∧ rtR μ (30 + (k : Int)) = (sPk S k).2) ∧
  quR μ (sQu S) ∧ μ 106 71 = sCk S ∧ (μ 106 73 - sDn S) % 4294967296 = 0 ∧ μ 106 72 = sMd S
end
section
/-! The class: what leaves the state of the engine as it is. -/
def frC (μ m : mM) : Prop := ∀ b i, ¬ (b = 21 ∧ 2 ≤ i ∧ i ≤ 7) → ¬ (b = 32 ∧ i = 9) → ¬ (36 ≤ b ∧ b ≤ 69) → ¬ (73 ≤ b ∧ b ≤ 75) → m b i = μ b i
theorem frC.refl {μ : mM} : frC μ μ := fun _ _ _ _ _ _ => rfl
theorem frC.trans {μ m n : mM} (h : frC μ m) (k : frC m n) : frC μ n := fun b i h1 h2 h3 h4 => (k b i h1 h2 h3 h4).trans (h b i h1 h2 h3 h4)
theorem frC.tb {μ m : mM} (h : frC μ m) (t : Nat) : tbA m t = tbA μ t := by
  unfold tbA
  rw [h _ _ (by omega) (by omega) (by omega) (by omega)]
theorem frC.db {μ m : mM} (h : frC μ m) (t : Nat) : dbA m t = dbA μ t := by
  unfold dbA
  rw [h _ _ (by omega) (by omega) (by omega) (by omega)]
theorem frC.hi {μ m : mM} (h : frC μ m) {b i : Nat} (hb : 76 ≤ b) : m b i = μ b i := h b i (by omega) (by omega) (by omega) (by omega)
theorem frC.rt {μ m : mM} (h : frC μ m) {a : Nat} (ha : 76 ≤ a) : rtC m a = rtC μ a := rtC.of (fun i => h.hi ha) (fun i => h.hi (by omega)) (fun i => h.hi (by omega))
theorem frC.ev {μ m : mM} (h : frC μ m) : evC m = evC μ := by
  rw [evC.eq, evC.eq, h 32 10 (by omega) (by omega) (by omega) (by omega)]
  refine lst.ext fun i _ => ?_
  rw [h 33 i (by omega) (by omega) (by omega) (by omega), h 34 _ (by omega) (by omega) (by omega) (by omega)]
theorem snC.fr {μ m : mM} {E : En} {S : Sn} (h : snC μ E S) (ly : LYC μ (eT E) (eD E)) (f : frC μ m) : snC m E S := by
  obtain ⟨h1, h2, h3, h4, h5, h6, h7⟩ := h
  refine ⟨fun t k ht hk => ?_, fun d p hd hp => ?_, ?_, fun i hi => ?_, ?_, ?_, ?_⟩
  · have a := ly.1 t ht
    have b := h1 t k ht hk
    show rtC m (tbA m t + 4 + 6 * k) = _ ∧ (_ → m (tbA m t + 4 + 6 * k) 9 = _) ∧ rtC m (tbA m t + 7 + 6 * k) = _ ∧ m (tbA m t + 7 + 6 * k) 9 = _
    rw [f.tb, f.rt (by omega), f.hi (b := tbA μ t + 4 + 6 * k) (by omega), f.rt (by omega), f.hi (b := tbA μ t + 7 + 6 * k) (by omega)]
    exact b
  · have a := ly.2.1 d hd
    have b := h2 d p hd hp
    show m (dbA m d + 3) p = _ ∧ rtC m (dbA m d + 5 + 3 * p) = _
    rw [f.db, f.hi (by omega), f.rt (by omega)]
    exact b
  · rw [f.ev]; exact h3
  · rw [f 34 i (by omega) (by omega) (by omega) (by omega)]; exact h4 i hi
  · rw [f 32 11 (by omega) (by omega) (by omega) (by omega)]; exact h5
  · rw [f 32 12 (by omega) (by omega) (by omega) (by omega)]; exact h6
  · rw [rtC.of (fun i => f 70 i (by omega) (by omega) (by omega) (by omega)) (fun i => f 71 i (by omega) (by omega) (by omega) (by omega)) (fun i => f 72 i (by omega) (by omega) (by omega) (by omega))]
    exact h7
/-- something else is said over a tie -/
theorem snC.say {μ m : mM} {E : En} {S : Sn} {t k : Nat} {o : Option Rt} {v : Int} {q : List Ev} (h : snC μ E S) (ly : LYC μ (eT E) (eD E)) (ht : t < eT E) (hk : k < 20)
    (f : ∀ b i, ¬ (b = 21 ∧ 2 ≤ i ∧ i ≤ 7) → ¬ (b = 32 ∧ (i = 9 ∨ i = 10)) → ¬ b = 33 → ¬ b = 34 → ¬ (36 ≤ b ∧ b ≤ 69) → ¬ (73 ≤ b ∧ b ≤ 75) → ¬ (tbA μ t + 7 + 6 * k ≤ b ∧ b ≤ tbA μ t + 9 + 6 * k) → m b i = μ b i)
    (ho : rtC m (tbA μ t + 7 + 6 * k) = o) (hv : m (tbA μ t + 7 + 6 * k) 9 = v) (hq : evC m = q) (hf : ∀ i, i < 800 → (¬ m 34 i = -1 ↔ ∃ x, (x, i) ∈ q)) : snC m E (mk! (sd! S (20 * t + k) (o, v)) q) := by
  obtain ⟨h1, h2, h3, h4, h5, h6, h7⟩ := h
  obtain ⟨l1, l2, l3, l4, l5, l6⟩ := ly
  have tb : ∀ s, tbA m s = tbA μ s := fun s => by
    unfold tbA
    rw [f _ _ (by omega) (by omega) (by omega) (by omega) (by omega) (by omega) (by have := (l1 t ht).2.1; omega)]
  have db : ∀ s, dbA m s = dbA μ s := fun s => by
    unfold dbA
    rw [f _ _ (by omega) (by omega) (by omega) (by omega) (by omega) (by omega) (by have := (l1 t ht).2.1; omega)]
  have at_ : ∀ b i, 192 ≤ b → ¬ (tbA μ t + 7 + 6 * k ≤ b ∧ b ≤ tbA μ t + 9 + 6 * k) → m b i = μ b i := fun b i h8 h9 => f b i (by omega) (by omega) (by omega) (by omega) (by omega) (by omega) h9
  have rt : ∀ a, 192 ≤ a → (a + 2 < tbA μ t + 7 + 6 * k ∨ tbA μ t + 9 + 6 * k < a) → rtC m a = rtC μ a := fun a ha h9 => rtC.of (fun i => at_ a i ha (by omega)) (fun i => at_ (a + 1) i (by omega) (by omega)) (fun i => at_ (a + 2) i (by omega) (by omega))
  refine ⟨fun s j hs hj => ?_, fun d p hd hp => ?_, hq, hf, ?_, ?_, ?_⟩
  · have a := l1 s hs
    have b := h1 s j hs hj
    show rtC m (tbA m s + 4 + 6 * j) = sHd S (20 * s + j) ∧ (¬ sHd S (20 * s + j) = none → m (tbA m s + 4 + 6 * j) 9 = sHw S (20 * s + j)) ∧ rtC m (tbA m s + 7 + 6 * j) = (if 20 * s + j = 20 * t + k then (o, v) else sSd S (20 * s + j)).1 ∧ m (tbA m s + 7 + 6 * j) 9 = (if 20 * s + j = 20 * t + k then (o, v) else sSd S (20 * s + j)).2
    by_cases c : s = t
    · subst c
      rw [tb, rt _ (by omega) (by omega), at_ (tbA μ s + 4 + 6 * j) 9 (by omega) (by omega)]
      refine ⟨b.1, b.2.1, ?_⟩
      by_cases e : j = k
      · subst e
        rw [if_pos rfl]
        exact ⟨ho, hv⟩
      · rw [if_neg (by omega), rt _ (by omega) (by omega), at_ (tbA μ s + 7 + 6 * j) 9 (by omega) (by omega)]
        exact b.2.2
    · have c1 := l3 s t hs ht c
      rw [tb, rt _ (by omega) (by omega), at_ (tbA μ s + 4 + 6 * j) 9 (by omega) (by omega), if_neg (by omega), rt _ (by omega) (by omega), at_ (tbA μ s + 7 + 6 * j) 9 (by omega) (by omega)]
      exact b
  · have a := l2 d hd
    have b := h2 d p hd hp
    have c := l5 t d ht hd
    show m (dbA m d + 3) p = _ ∧ rtC m (dbA m d + 5 + 3 * p) = _
    rw [db, at_ _ _ (by omega) (by omega), rt _ (by omega) (by omega)]
    exact b
  · have a := (l1 t ht).2.1
    rw [f 32 11 (by omega) (by omega) (by omega) (by omega) (by omega) (by omega) (by omega)]; exact h5
  · have a := (l1 t ht).2.1
    rw [f 32 12 (by omega) (by omega) (by omega) (by omega) (by omega) (by omega) (by omega)]; exact h6
  · have a := (l1 t ht).2.1
    rw [rtC.of (fun i => f 70 i (by omega) (by omega) (by omega) (by omega) (by omega) (by omega) (by omega)) (fun i => f 71 i (by omega) (by omega) (by omega) (by omega) (by omega) (by omega) (by omega)) (fun i => f 72 i (by omega) (by omega) (by omega) (by omega) (by omega) (by omega) (by omega))]
    exact h7
end
section
/-! The reference: what leaves the state as it is; candidates. -/
def frT (μ m : mM) (r : Int) : Prop := ∀ (b i : Nat), ¬ (b = 126 ∧ 40 * r ≤ (i : Int) ∧ (i : Int) < 40 * r + 40) → ¬ b = 151 → ¬ b = 152 → ¬ b = 153 → ¬ (b = 106 ∧ 26 ≤ i ∧ i ≤ 31) → m b i = μ b i
def frR (μ m : mM) : Prop := ∀ (b i : Nat), ¬ (b = 126 ∧ 40 ≤ i ∧ i < 960) → ¬ b = 151 → ¬ b = 152 → ¬ b = 153 → ¬ b = 165 → ¬ (b = 106 ∧ 26 ≤ i ∧ i ≤ 31) → m b i = μ b i
theorem frT.refl {μ : mM} {r : Int} : frT μ μ r := fun _ _ _ _ _ _ _ => rfl
theorem frT.trans {μ m n : mM} {r : Int} (h : frT μ m r) (k : frT m n r) : frT μ n r := fun b i h1 h2 h3 h4 h5 => (k b i h1 h2 h3 h4 h5).trans (h b i h1 h2 h3 h4 h5)
theorem frT.on {μ m n : mM} {r : Int} (h : frT μ m r) (k : onR m n r) : frT μ n r := fun b i h1 h2 h3 h4 h5 => (k b i h1).trans (h b i h1 h2 h3 h4 h5)
theorem frT.no {μ m n : mM} {r : Int} (h : frT μ m r) (k : ∀ (b i : Nat), ¬ (b = 126 ∧ (i : Int) = 40 * r) → n b i = m b i) : frT μ n r := fun b i h1 h2 h3 h4 h5 => (k b i (by omega)).trans (h b i h1 h2 h3 h4 h5)
theorem frT.fr {μ m : mM} {r : Int} (h : frT μ m r) (hr : 1 ≤ r ∧ r < 24) : frR μ m := fun b i h1 h2 h3 h4 _ h6 => h b i (by omega) h2 h3 h4 h6
theorem frR.refl {μ : mM} : frR μ μ := fun _ _ _ _ _ _ _ _ => rfl
theorem frR.trans {μ m n : mM} (h : frR μ m) (k : frR m n) : frR μ n := fun b i h1 h2 h3 h4 h5 h6 => (k b i h1 h2 h3 h4 h5 h6).trans (h b i h1 h2 h3 h4 h5 h6)
/-- lengths of rows -/
theorem mT.rb {w : mW} {μ : mM} (hw : mWF w) (h : mT w μ) {r : Int} (hr : 0 ≤ r) : (0 ≤ μ 126 (40 * r + 4).toNat ∧ μ 126 (40 * r + 4).toNat ≤ 20) ∧ (0 ≤ μ 126 (40 * r + 5).toNat ∧ μ 126 (40 * r + 5).toNat ≤ 8) :=
  ⟨(rt7 h (A_126 hw) (e := 40 * r + 4) (by omega) rfl).2.2.1 (by omega), (rt7 h (A_126 hw) (e := 40 * r + 5) (by omega) rfl).2.2.2 (by omega)⟩
theorem frT.rt {w : mW} {μ m : mM} {r s : Int} (h : frT μ m r) (hw : mWF w) (hT : mT w μ) (hs : 0 ≤ s) (hne : ¬ s = r) : rtR m s = rtR μ s := rtR.cg (hT.rb hw hs).1.2 (hT.rb hw hs).2.2 fun k hk => h _ _ (by omega) (by omega) (by omega) (by omega) (by omega)
theorem frR.rt {w : mW} {μ m : mM} {s : Int} (h : frR μ m) (hw : mWF w) (hT : mT w μ) (hs : s = 0 ∨ 24 ≤ s) : rtR m s = rtR μ s := rtR.cg (hT.rb hw (by omega)).1.2 (hT.rb hw (by omega)).2.2 fun k hk => h _ _ (by omega) (by omega) (by omega) (by omega) (by omega) (by omega)
theorem snR.fr {w : mW} {μ m : mM} {E : En} {S : Sn} (h : snR μ E S) (hw : mWF w) (hT : mT w μ) (f : frR μ m) : snR m E S := by
  obtain ⟨h1, h2, h3, h4, h5, h6⟩ := h
  have c : ∀ b i, ¬ b = 126 → ¬ b = 151 → ¬ b = 152 → ¬ b = 153 → ¬ b = 165 → ¬ b = 106 → m b i = μ b i := fun b i a1 a2 a3 a4 a5 a6 => f b i (by omega) a2 a3 a4 a5 (by omega)
  have c6 : ∀ i, 71 ≤ i → m 106 i = μ 106 i := fun i hi => f 106 i (by omega) (by omega) (by omega) (by omega) (by omega) (by omega)
  have ea : ∀ e, atR m e = atR μ e := fun e => by
    unfold atR
    rw [c 157 _ (by decide) (by decide) (by decide) (by decide) (by decide) (by decide), c 159 _ (by decide) (by decide) (by decide) (by decide) (by decide) (by decide)]
  have em : ∀ e, mdR m e = mdR μ e := fun e => by
    unfold mdR
    rw [c 158 _ (by decide) (by decide) (by decide) (by decide) (by decide) (by decide), c 160 _ (by decide) (by decide) (by decide) (by decide) (by decide) (by decide)]
  refine ⟨fun s hs => ?_, fun k hk => ?_, ⟨fun e he h0 => ?_, fun x hx => ?_, ?_⟩, ?_, ?_, ?_⟩
  · rw [f.rt hw hT (by omega), c 154 _ (by decide) (by decide) (by decide) (by decide) (by decide) (by decide), f.rt hw hT (by omega), c 155 _ (by decide) (by decide) (by decide) (by decide) (by decide) (by decide), c 156 _ (by decide) (by decide) (by decide) (by decide) (by decide) (by decide), c 157 _ (by decide) (by decide) (by decide) (by decide) (by decide) (by decide), f.rt hw hT (by omega)]
    exact h1 s hs
  · rw [c 161 _ (by decide) (by decide) (by decide) (by decide) (by decide) (by decide), f.rt hw hT (by omega)]
    exact h2 k hk
  · rw [ea] at h0 ⊢
    exact h3.1 e he h0
  · rw [ea, em, c6 72 (by decide)]
    exact h3.2.1 x hx
  · have e : (fun x y : Ev => x.1 < y.1 ∨ (x.1 = y.1 ∧ mdR m x.2 < mdR m y.2)) = (fun x y : Ev => x.1 < y.1 ∨ (x.1 = y.1 ∧ mdR μ x.2 < mdR μ y.2)) := by
      funext x y
      rw [em, em]
    rw [e]
    exact h3.2.2
  · rw [c6 71 (by decide)]; exact h4
  · rw [c6 73 (by decide)]; exact h5
  · rw [c6 72 (by decide)]; exact h6
/-- ties: two ends that differ, each pair once -/
def tiG (E : En) : Prop := (∀ t, t < eT E → ¬ eA E t = eB E t ∧ (0 ≤ eA E t ∧ eA E t < (eD E : Int)) ∧ (0 ≤ eB E t ∧ eB E t < (eD E : Int))) ∧ (∀ t s, t < eT E → s < eT E → t ≠ s → ¬ ((eA E t = eA E s ∧ eB E t = eB E s) ∨ (eA E t = eB E s ∧ eB E t = eA E s))) ∧ eT E ≤ 20 ∧ eD E ≤ 10 ∧ eP E ≤ 10
/-- the reference's words of a tie's side -/
theorem sdR.of {μ : mM} {E : En} {t s : Nat} {d : Int} (ha : μ 110 (2 * t) = eA E t) (hne : ¬ eA E t = eB E t) (hs : s < 2) (hd : d = eN E t s) : sdR μ (t : Int) d = (s : Int) := by
  unfold sdR
  rw [show (2 * (t : Int)).toNat = 2 * t by omega, ha]
  have z : s = 0 ∨ s = 1 := by omega
  rcases z with q | q <;> subst q
  · rw [if_pos (by rw [hd]; rfl)]
    rfl
  · rw [if_neg (by rw [hd]; exact hne)]
    rfl
theorem ptR.of {μ : mM} {E : En} {t s : Nat} {d : Int} (ha : μ 110 (2 * t) = eA E t) (hb : μ 110 (2 * t + 1) = eB E t) (hne : ¬ eA E t = eB E t) (hs : s < 2) (hd : d = eN E t s) : ptR μ (t : Int) d = eN E t (1 - s) := by
  unfold ptR
  rw [sdR.of ha hne hs hd]
  have z : s = 0 ∨ s = 1 := by omega
  rcases z with q | q <;> subst q
  · rw [show (2 * (t : Int) + 1 - ((0 : Nat) : Int)).toNat = 2 * t + 1 by omega, hb]
    rfl
  · rw [show (2 * (t : Int) + 1 - ((1 : Nat) : Int)).toNat = 2 * t by omega, ha]
    rfl
theorem slR.of {μ : mM} {E : En} {t s p : Nat} {d : Int} (ha : μ 110 (2 * t) = eA E t) (hne : ¬ eA E t = eB E t) (hs : s < 2) (hd : d = eN E t s) : slR μ (t : Int) d (p : Int) = ((slt t s p : Nat) : Int) := by
  unfold slR slt
  rw [sdR.of ha hne hs hd]
  omega
theorem envR.fr {w : mW} {μ m : mM} {E : En} {G : mM → Prop} (hw : mWF w) (h : envR w μ E G) (F : mF lER w μ m) : envR w m E G := by
  obtain ⟨h1, h2, h3, h4, h5, h6⟩ := h
  refine ⟨F.f (A_106 hw) rfl h1, F.f (A_106 hw) rfl h2, F.f (A_106 hw) rfl h3, fun t ht => ?_, fun d hd => ?_, ?_⟩
  · obtain ⟨a1, a2, a3, a4, a5, a6⟩ := h4 t ht
    exact ⟨F.f (A_110 hw) rfl a1, F.f (A_110 hw) rfl a2, F.f (A_112 hw) rfl a3, F.f (A_113 hw) rfl a4, F.f (A_114 hw) rfl a5, fun i hi => F.f (A_115 hw) rfl (a6 i hi)⟩
  · obtain ⟨a1, ⟨n, a2⟩, a3⟩ := h5 d hd
    refine ⟨fun p hp => F.f (A_162 hw) rfl (a1 p hp), ⟨n, ?_⟩, F.f (A_164 hw) rfl a3⟩
    rw [← a2]
    exact rowL.ext fun i _ => F.f (A_163 hw) rfl rfl
  · have n39 : m 106 39 = μ 106 39 := F.f (A_106 hw) rfl rfl
    refine ⟨fun t i ht hi => by rw [n39]; exact h6.1 t i ht hi, ?_⟩
    intro m2 pl r t s x Q hT2 F2
    rw [n39]
    exact h6.2 m2 pl r t s x Q hT2 ((mF.refl.call F rfl).call F2 rfl)
theorem X12_partnerOf_pt_s {w : mW} {μ : mM} {t d : Int} {Q : Int → mM → Prop} (k : Q (ptR μ t d) μ) : WP_X12_partnerOf_Wpt w μ t d Q := by
  intro e ee _ f ef _
  refine X12_sideOf_s fun _ z ez _ => ?_
  subst ez
  exact k
/-- nothing of the engine's own touches G -/
def gSt (G : mM → Prop) : Prop := ∀ m m1 : mM, G m → (∀ (b i : Nat), ¬ b = 126 → ¬ ((112 ≤ b ∧ b ≤ 115) ∨ (151 ≤ b ∧ b ≤ 165)) → ¬ (b = 106 ∧ 70 ≤ i) → m1 b i = m b i) → G m1
section Cand
variable {w : mW} {μ : mM} {E : En} {S : Sn} {G : mM → Prop} {d : Int} {p t s : Nat}
theorem cdAt.some' {x : Cd} (h : cdAt E S d p t s = some x) : ¬ eU E t = 0 ∧ ∃ r, sHd S (slt t s p) = some r ∧ ¬ d ∈ wOf r ∧ (eTh E (ePl E (4 * t + 2 * s)) d (eN E t (1 - s)) r).1 = true ∧ x = ((t : Int), eN E t (1 - s), sHw S (slt t s p), (eTh E (ePl E (4 * t + 2 * s)) d (eN E t (1 - s)) r).2) := by
  unfold cdAt at h
  by_cases c : eU E t = 0
  · rw [if_pos c] at h; cases h
  · rw [if_neg c] at h
    refine ⟨c, ?_⟩
    cases e : sHd S (slt t s p) with
    | none => rw [e] at h; cases h
    | some r =>
      rw [e] at h
      have h : (if d ∈ wOf r then none else if (eTh E (ePl E (4 * t + 2 * s)) d (eN E t (1 - s)) r).1 = true then some ((t : Int), eN E t (1 - s), sHw S (slt t s p), (eTh E (ePl E (4 * t + 2 * s)) d (eN E t (1 - s)) r).2) else none) = some x := h
      by_cases c2 : d ∈ wOf r
      · rw [if_pos c2] at h; cases h
      · rw [if_neg c2] at h
        by_cases c3 : (eTh E (ePl E (4 * t + 2 * s)) d (eN E t (1 - s)) r).1 = true
        · rw [if_pos c3] at h
          exact ⟨r, rfl, c2, c3, (Option.some.inj h).symm⟩
        · rw [if_neg c3] at h; cases h
theorem X12_candidate_s {Q : Int → mM → Prop} (hw : mWF w) (hT : mT w μ) (ev : envR w μ E G) (hG : G μ) (gG : gSt G) (st : snR μ E S) (sn : snG E S) (ti : tiG E) (ht : t < eT E) (hs : s < 2) (hd : d = eN E t s) (hp : p < 10)
    (k : ∀ (z : Int) (m : mM), G m → frT μ m (4 + (t : Int)) → rtR m (4 + (t : Int)) = (cdAt E S d p t s).map (fun x => x.2.2.2) → (z = -99999999 ↔ (eU E t = 0 ∨ sHd S (slt t s p) = none)) → (z = 0 ↔ ¬ cdAt E S d p t s = none) → (z = 9 → ∃ r, sHd S (slt t s p) = some r ∧ d ∈ wOf r) → Q z m) : WP_X12_candidate_W w μ d (t : Int) (p : Int) Q := by
  obtain ⟨h1, h2, h3, h4, h5, h6⟩ := ev
  obtain ⟨a1, a2, a3, a4, a5, a6⟩ := h4 t ht
  have hne := (ti.1 t ht).1
  have t20 := ti.2.2.1
  intro e0 ee0 _ e1 ee1 _ n en hn
  refine X12_sideOf_s ?_
  rw [sdR.of a1 hne hs hd]
  intro _
  refine X12_nothing_s (by omega) fun m1 r1 f1 T1 F1 x1 _ => ?_
  have g1 : G m1 := gG μ m1 hG fun b i h1 h2 h3 => f1 b i (by omega)
  have fr1 : frT μ m1 (4 + (t : Int)) := frT.refl.no f1
  have sl : (2 * (t : Int) + (s : Int)) * 10 + (p : Int) = ((slt t s p : Nat) : Int) := by unfold slt; omega
  show (0 ≤ (2 * (t : Int) + (s : Int)) * 10 + (p : Int) ∧ (2 * (t : Int) + (s : Int)) * 10 + (p : Int) ≤ 449) → _
  rw [sl]
  intro hsl u eu hu
  have eu' : eU E t = u := by
    rw [← eu, f1 112 _ (by omega), ← a3]
    congr 1
  have sb : slt t s p < 20 * eT E := by unfold slt; omega
  obtain ⟨b1, b2, _⟩ := st.1 (slt t s p) (Or.inl sb)
  have rh : rtR m1 (130 + ((slt t s p : Nat) : Int)) = sHd S (slt t s p) := by rw [fr1.rt hw hT (by omega) (by omega), b1]
  refine ⟨fun c => ?_, fun c y ey hy => ?_⟩
  · have cn : cdAt E S d p t s = none := if_pos (eu'.trans c)
    exact k _ m1 g1 fr1 (by rw [r1, cn]; rfl) ⟨fun _ => Or.inl (eu'.trans c), fun _ => rfl⟩ ⟨fun e => absurd e (by decide), fun e => absurd cn e⟩ (fun e => absurd e (by decide))
  refine X12_isThere_s fun z hz rz => ⟨fun c2 => ?_, fun c2 => ?_⟩
  rotate_left 1
  · have hn : sHd S (slt t s p) = none := Classical.byContradiction fun g => by
      have := hz.mpr (by rw [rh]; exact g)
      omega
    have cn : cdAt E S d p t s = none := by
      unfold cdAt
      rw [if_neg (by rw [eu']; exact c), hn]
    exact k _ m1 g1 fr1 (by rw [r1, cn]; rfl) ⟨fun _ => Or.inr hn, fun _ => rfl⟩ ⟨fun e => absurd e (by decide), fun e => absurd cn e⟩ (fun e => absurd e (by decide))
  obtain ⟨r, er⟩ : ∃ r, sHd S (slt t s p) = some r := by
    cases e : sHd S (slt t s p) with
    | none => exact absurd (rh.trans e) (hz.mp (by omega))
    | some r => exact ⟨r, rfl⟩
  have rr := rtR.get (rh.trans er)
  have rg := sn.2.2.1 (slt t s p) r er
  have px : r.1 < (eP E : Int) := by
    have pm : slt t s p % 10 = p := by unfold slt; omega
    have g1 := rg.1
    rw [pm] at g1
    rw [g1]
    have c : ¬ eP E ≤ slt t s p % 10 := fun g => by
      have := (sn.2.2.2.2.2.2.2.2.2 _ g).2.2
      rw [er] at this
      cases this
    omega
  have wy : rowL (fun k => m1 126 (40 * (130 + ((slt t s p : Nat) : Int)) + 6 + (k : Int)).toNat) (m1 126 (40 * (130 + ((slt t s p : Nat) : Int)) + 4).toNat).toNat = wOf r := by rw [rr.2]
  refine X12_isIn_s (by omega) fun z2 hz2 rz2 => ⟨fun c3 => ?_, fun c3 => ?_⟩
  rotate_left 1
  · have hin : d ∈ wOf r := by rw [← wy]; exact hz2.mp (by omega)
    have cn : cdAt E S d p t s = none := by
      unfold cdAt
      rw [if_neg (by rw [eu']; exact c), er]
      show (if d ∈ wOf r then none else _) = none
      rw [if_pos hin]
    exact k _ m1 g1 fr1 (by rw [r1, cn]; rfl) ⟨fun e => absurd e (by decide), fun e => by rcases e with e | e; exact absurd (eu'.symm.trans e) c; rw [er] at e; cases e⟩ ⟨fun e => absurd e (by decide), fun e => absurd cn e⟩ (fun _ => ⟨r, er, hin⟩)
  have hnin : ¬ d ∈ wOf r := fun g => by
    have := hz2.mpr (by rw [wy]; exact g)
    omega
  refine X12_copy_s (by omega) (by omega) (by omega) (T1.rb hw (by omega)).1.2 (T1.rb hw (by omega)).2.2 fun m2 r2 _ f2 T2 F2 x2 _ pl epl hpl po epo hpo => ?_
  have fr2 : frT μ m2 (4 + (t : Int)) := fr1.on f2
  have g2 : G m2 := gG m1 m2 g1 fun b i h1 h2 h3 => f2 b i (by omega)
  have e110 : ∀ i, m2 110 i = μ 110 i := fun i => fr2 110 i (by omega) (by omega) (by omega) (by omega) (by omega)
  have plE : pl = ePl E (4 * t + 2 * s) := by
    rw [← epl, fr2 115 _ (by omega) (by omega) (by omega) (by omega) (by omega), ← a6 (2 * s) (by omega)]
    congr 1
  refine X12_partnerOf_pt_s ?_
  rw [ptR.of ((e110 _).trans a1) ((e110 _).trans a2) hne hs hd, hd]
  intro _
  refine h6.2 m2 pl (4 + (t : Int)) t s r _ T2 ?_ g2 ht hs (by rw [plE]; exact h6.1 _ _ ht (by omega)) (by omega) (by omega) (r2.trans (rh.trans er)) rg.2.1 px fun z3 m3 hz3 r3 g3 f3 T3 F3 rz3 x3 _ => ?_
  · exact (mF.refl.call F1 rfl).call F2 rfl
  have fr3 : frT μ m3 (4 + (t : Int)) := fr2.trans fun b i q1 q2 q3 q4 q5 => f3 b i q1 q2 q3 q4 q5
  rw [plE, ← hd] at hz3 r3
  refine ⟨fun c4 => ?_, fun c4 => ?_⟩
  · refine X12_nothing_s (by omega) fun m4 r4 f4 _ _ x4 _ => ?_
    have cn : cdAt E S d p t s = none := by
      unfold cdAt
      rw [if_neg (by rw [eu']; exact c), er]
      show (if d ∈ wOf r then none else if (eTh E (ePl E (4 * t + 2 * s)) d (eN E t (1 - s)) r).1 = true then _ else none) = none
      rw [if_neg hnin, if_neg (fun g => by have := hz3.mpr g; omega)]
    exact k _ m4 (gG m3 m4 g3 fun b i h1 h2 h3 => f4 b i (by omega)) (fr3.no f4) (by rw [r4, cn]; rfl) ⟨fun e => absurd e (by decide), fun e => by rcases e with e | e; exact absurd (eu'.symm.trans e) c; rw [er] at e; cases e⟩ ⟨fun e => absurd e (by decide), fun e => absurd cn e⟩ (fun e => absurd e (by decide))
  · have cs : cdAt E S d p t s = some ((t : Int), eN E t (1 - s), sHw S (slt t s p), (eTh E (ePl E (4 * t + 2 * s)) d (eN E t (1 - s)) r).2) := by
      unfold cdAt
      rw [if_neg (by rw [eu']; exact c), er]
      show (if d ∈ wOf r then none else if (eTh E (ePl E (4 * t + 2 * s)) d (eN E t (1 - s)) r).1 = true then _ else none) = _
      rw [if_neg hnin, if_pos (hz3.mp (by omega))]
    exact k _ m3 g3 fr3 (by rw [r3, cs]; rfl) ⟨fun e => absurd e (by decide), fun e => by rcases e with e | e; exact absurd (eu'.symm.trans e) c; rw [er] at e; cases e⟩ ⟨fun _ e => (by rw [cs] at e; cases e), fun _ => rfl⟩ (fun e => absurd e (by decide))
end Cand
end
section
/-! The reference: something is said. -/
theorem insQ.mem {e : Ev} : ∀ {q : List Ev} {x : Ev}, x ∈ insQ e q ↔ (x = e ∨ x ∈ q)
  | [], x => by
    show x ∈ [e] ↔ _
    simp
  | y :: l, x => by
    show x ∈ (if e.1 < y.1 then e :: y :: l else y :: insQ e l) ↔ _
    by_cases c : e.1 < y.1
    · rw [if_pos c]
      simp
    · rw [if_neg c, List.mem_cons, insQ.mem, List.mem_cons]
      constructor
      · rintro (h | h | h)
        · exact Or.inr (Or.inl h)
        · exact Or.inl h
        · exact Or.inr (Or.inr h)
      · rintro (h | h | h)
        · exact Or.inr (Or.inl h)
        · exact Or.inl h
        · exact Or.inr (Or.inr h)
theorem remQ.mem {s : Nat} {q : List Ev} {x : Ev} : x ∈ remQ s q ↔ (x ∈ q ∧ ¬ x.2 = s) := by
  unfold remQ
  rw [List.mem_filter]
  simp
theorem insQ.pw {R : Ev → Ev → Prop} {e : Ev} (mo : ∀ x y, R x y → x.1 ≤ y.1) : ∀ {q : List Ev}, q.Pairwise R → (∀ x ∈ q, x.1 ≤ e.1 → R x e) → (∀ x ∈ q, e.1 < x.1 → R e x) → (insQ e q).Pairwise R
  | [], _, _, _ => List.pairwise_singleton R e
  | y :: l, h, h1, h2 => by
    obtain ⟨a, b⟩ := List.pairwise_cons.mp h
    show (if e.1 < y.1 then e :: y :: l else y :: insQ e l).Pairwise R
    by_cases c : e.1 < y.1
    · rw [if_pos c]
      refine List.pairwise_cons.mpr ⟨fun x hx => ?_, h⟩
      rcases List.mem_cons.mp hx with q | q
      · rw [q]; exact h2 y List.mem_cons_self c
      · have := mo y x (a x q)
        exact h2 x (List.mem_cons_of_mem _ q) (by omega)
    · rw [if_neg c]
      refine List.pairwise_cons.mpr ⟨fun x hx => ?_, insQ.pw mo b (fun x hx => h1 x (List.mem_cons_of_mem _ hx)) (fun x hx => h2 x (List.mem_cons_of_mem _ hx))⟩
      rcases insQ.mem.mp hx with q | q
      · rw [q]; exact h1 y List.mem_cons_self (by omega)
      · exact a x q
/-- an event is made -/
theorem quR.put {μ m : mM} {q : List Ev} {s : Nat} {v : Int} (h : quR μ q) (hs : s < 800) (hv : 0 ≤ v) (ea : ∀ e, e < 800 → atR m e = if e = s then v else atR μ e) (em : ∀ e, e < 800 → mdR m e = if e = s then μ 106 72 else mdR μ e) (ek : m 106 72 = μ 106 72 + 1) : quR m (insQ (v, s) (remQ s q)) := by
  obtain ⟨h1, h2, h3⟩ := h
  refine ⟨fun e he h0 => ?_, fun x hx => ?_, ?_⟩
  · rw [ea e he] at h0 ⊢
    by_cases c : e = s
    · rw [if_pos c]
      exact insQ.mem.mpr (Or.inl (by rw [c]))
    · rw [if_neg c] at h0 ⊢
      exact insQ.mem.mpr (Or.inr (remQ.mem.mpr ⟨h1 e he h0, c⟩))
  · rcases insQ.mem.mp hx with c | c
    · subst c
      show s < 800 ∧ atR m s = v ∧ 0 ≤ v ∧ mdR m s < m 106 72
      rw [ea s hs, em s hs, if_pos rfl, if_pos rfl, ek]
      exact ⟨hs, rfl, hv, by omega⟩
    · obtain ⟨c1, c2⟩ := remQ.mem.mp c
      obtain ⟨a1, a2, a3, a4⟩ := h2 x c1
      rw [ea x.2 a1, em x.2 a1, if_neg c2, if_neg c2, ek]
      exact ⟨a1, a2, a3, by omega⟩
  · have hr : (remQ s q).Pairwise (fun x y => x.1 < y.1 ∨ (x.1 = y.1 ∧ mdR m x.2 < mdR m y.2)) := by
      have g : (remQ s q).Pairwise (fun x y => x.1 < y.1 ∨ (x.1 = y.1 ∧ mdR μ x.2 < mdR μ y.2)) := h3.filter _
      refine g.imp_of_mem fun {x y} hx hy r => ?_
      obtain ⟨c1, c2⟩ := remQ.mem.mp hx
      obtain ⟨d1, d2⟩ := remQ.mem.mp hy
      rw [em x.2 (h2 x c1).1, em y.2 (h2 y d1).1, if_neg c2, if_neg d2]
      exact r
    refine insQ.pw (fun x y r => by omega) hr (fun x hx hle => ?_) (fun x hx hlt => Or.inl hlt)
    obtain ⟨c1, c2⟩ := remQ.mem.mp hx
    obtain ⟨a1, a2, a3, a4⟩ := h2 x c1
    show x.1 < v ∨ (x.1 = v ∧ mdR m x.2 < mdR m s)
    rw [em x.2 a1, em s hs, if_neg c2, if_pos rfl]
    have hle : x.1 ≤ v := hle
    omega
theorem quR.has {μ : mM} {q : List Ev} {e : Nat} (h : quR μ q) (he : e < 800) : (∃ m, (m, e) ∈ q) ↔ 0 ≤ atR μ e := by
  constructor
  · rintro ⟨m, hm⟩
    obtain ⟨_, a2, a3, _⟩ := h.2.1 _ hm
    have a2 : atR μ e = m := a2
    have a3 : 0 ≤ m := a3
    omega
  · intro h0
    exact ⟨_, h.1 e he h0⟩
theorem rtR.wish {μ : mM} {r v : Int} {x : Rt} (hr : 0 ≤ r) (hn : μ 126 (40 * r + 4).toNat ≤ 20) (h : rtR μ r = some x) : rtR (mUp μ 126 (40 * r + 1).toNat v) r = some (rtWish x v) ∧ onR μ (mUp μ 126 (40 * r + 1).toNat v) r := by
  obtain ⟨g, e⟩ := rtR.get h
  have o : ∀ j : Int, 0 ≤ j → ¬ j = 1 → mUp μ 126 (40 * r + 1).toNat v 126 (40 * r + j).toNat = μ 126 (40 * r + j).toNat := fun j h0 h1 => mUp.no (by omega)
  have k0 : mUp μ 126 (40 * r + 1).toNat v 126 (40 * r).toNat = μ 126 (40 * r).toNat := mUp.no (by omega)
  refine ⟨?_, fun b i hb => mUp.no (by omega)⟩
  rw [rtR.the (by rw [k0]; exact g), e, k0, o 2 (by decide) (by decide), o 3 (by decide) (by decide), o 4 (by decide) (by decide), o 5 (by decide) (by decide), mUp.yes ⟨rfl, rfl⟩]
  have e6 : rowL (fun k => mUp μ 126 (40 * r + 1).toNat v 126 (40 * r + 6 + (k : Int)).toNat) (μ 126 (40 * r + 4).toNat).toNat = rowL (fun k => μ 126 (40 * r + 6 + (k : Int)).toNat) (μ 126 (40 * r + 4).toNat).toNat := rowL.ext fun i _ => mUp.no (by omega)
  have e7 : rowL (fun k => mUp μ 126 (40 * r + 1).toNat v 126 (40 * r + 26 + (k : Int)).toNat) (μ 126 (40 * r + 5).toNat).toNat = rowL (fun k => μ 126 (40 * r + 26 + (k : Int)).toNat) (μ 126 (40 * r + 5).toNat).toNat := rowL.ext fun i _ => mUp.no (by omega)
  rw [e6, e7]
  rfl
/-- something is said: the tables -/
theorem snR.go {w : mW} {μ m : mM} {E : En} {S : Sn} {s : Nat} {o : Option Rt} {v : Int} (h : snR μ E S) (hw : mWF w) (hT : mT w μ) (hs : s < 20 * eT E) (h20 : eT E ≤ 20) (hD : eD E ≤ 10) (hv : 0 ≤ v)
    (f : ∀ (b i : Nat), ¬ (b = 126 ∧ 40 ≤ i ∧ i < 960) → ¬ (b = 126 ∧ 40 * (530 + (s : Int)) ≤ (i : Int) ∧ (i : Int) < 40 * (530 + (s : Int)) + 40) → ¬ (b = 126 ∧ 40 * (930 + (s : Int)) ≤ (i : Int) ∧ (i : Int) < 40 * (930 + (s : Int)) + 40) → ¬ (b = 155 ∧ i = s) → ¬ (b = 156 ∧ i = s) → ¬ (b = 157 ∧ i = s) → ¬ (b = 158 ∧ i = s) → ¬ (b = 106 ∧ i = 72) → ¬ b = 151 → ¬ b = 152 → ¬ b = 153 → ¬ b = 165 → ¬ (b = 106 ∧ 26 ≤ i ∧ i ≤ 31) → m b i = μ b i)
    (r1 : rtR m (530 + (s : Int)) = o) (r2 : rtR m (930 + (s : Int)) = o) (c1 : m 155 s = 1) (c2 : m 156 s = sCk S) (c3 : m 157 s = v) (c4 : m 158 s = μ 106 72) (c5 : m 106 72 = μ 106 72 + 1) : snR m E (mk! (sd! S s (o, sCk S)) (insQ (v, 2 * s) (remQ (2 * s) (sQu S)))) := by
  obtain ⟨h1, h2, h3, h4, h5, h6⟩ := h
  have c : ∀ b i, ¬ b = 126 → ¬ (155 ≤ b ∧ b ≤ 158) → ¬ b = 151 → ¬ b = 152 → ¬ b = 153 → ¬ b = 165 → ¬ b = 106 → m b i = μ b i := fun b i a1 a2 a3 a4 a5 a6 a7 => f b i (by omega) (by omega) (by omega) (by omega) (by omega) (by omega) (by omega) (by omega) a3 a4 a5 a6 (by omega)
  have cs : ∀ b i, ¬ b = 126 → ¬ i = s → ¬ b = 151 → ¬ b = 152 → ¬ b = 153 → ¬ b = 165 → ¬ b = 106 → m b i = μ b i := fun b i a1 a2 a3 a4 a5 a6 a7 => f b i (by omega) (by omega) (by omega) (by omega) (by omega) (by omega) (by omega) (by omega) a3 a4 a5 a6 (by omega)
  have rt : ∀ r : Int, 24 ≤ r → ¬ r = 530 + (s : Int) → ¬ r = 930 + (s : Int) → rtR m r = rtR μ r := fun r a1 a2 a3 => rtR.cg (hT.rb hw (by omega)).1.2 (hT.rb hw (by omega)).2.2 fun k hk => f _ _ (by omega) (by omega) (by omega) (by omega) (by omega) (by omega) (by omega) (by omega) (by omega) (by omega) (by omega) (by omega) (by omega)
  refine ⟨fun j hj => ?_, fun k hk => ?_, ?_, ?_, ?_, ?_⟩
  · obtain ⟨a1, a2, a3, a4, a5⟩ := h1 j hj
    show rtR m (130 + (j : Int)) = sHd S j ∧ (¬ sHd S j = none → m 154 j = sHw S j) ∧ rtR m (530 + (j : Int)) = (if j = s then (o, sCk S) else sSd S j).1 ∧ (if m 155 j = 0 then -1 else m 156 j) = (if j = s then (o, sCk S) else sSd S j).2 ∧ (0 ≤ m 157 j → rtR m (930 + (j : Int)) = (if j = s then (o, sCk S) else sSd S j).1)
    rw [rt _ (by omega) (by omega) (by omega), c 154 _ (by decide) (by decide) (by decide) (by decide) (by decide) (by decide) (by decide)]
    refine ⟨a1, a2, ?_⟩
    by_cases q : j = s
    · subst q
      rw [if_pos rfl, c1, if_neg (by decide), c2]
      exact ⟨r1, rfl, fun _ => r2⟩
    · rw [if_neg q, rt _ (by omega) (by omega) (by omega), rt _ (by omega) (by omega) (by omega), cs 155 _ (by decide) q (by decide) (by decide) (by decide) (by decide) (by decide), cs 156 _ (by decide) q (by decide) (by decide) (by decide) (by decide) (by decide), cs 157 _ (by decide) q (by decide) (by decide) (by decide) (by decide) (by decide)]
      exact ⟨a3, a4, a5⟩
  · rw [c 161 _ (by decide) (by decide) (by decide) (by decide) (by decide) (by decide) (by decide), rt _ (by omega) (by omega) (by omega)]
    exact h2 k hk
  · refine h3.put (by omega) hv (fun e he => ?_) (fun e he => ?_) c5
    · unfold atR
      by_cases q : e % 2 = 0
      · rw [if_pos q, if_pos q]
        by_cases q2 : e = 2 * s
        · rw [if_pos q2, show e / 2 = s by omega, c3]
        · rw [if_neg q2, cs 157 _ (by decide) (by omega) (by decide) (by decide) (by decide) (by decide) (by decide)]
      · rw [if_neg q, if_neg q, if_neg (by omega), c 159 _ (by decide) (by decide) (by decide) (by decide) (by decide) (by decide) (by decide)]
    · unfold mdR
      by_cases q : e % 2 = 0
      · rw [if_pos q, if_pos q]
        by_cases q2 : e = 2 * s
        · rw [if_pos q2, show e / 2 = s by omega, c4]
        · rw [if_neg q2, cs 158 _ (by decide) (by omega) (by decide) (by decide) (by decide) (by decide) (by decide)]
      · rw [if_neg q, if_neg q, if_neg (by omega), c 160 _ (by decide) (by decide) (by decide) (by decide) (by decide) (by decide) (by decide)]
  · rw [f 106 71 (by omega) (by omega) (by omega) (by omega) (by omega) (by omega) (by omega) (by omega) (by omega) (by omega) (by omega) (by omega) (by omega)]
    exact h4
  · rw [f 106 73 (by omega) (by omega) (by omega) (by omega) (by omega) (by omega) (by omega) (by omega) (by omega) (by omega) (by omega) (by omega) (by omega)]
    exact h5
  · rw [c5, h6]
    rfl
/-- it waits: the tables -/
theorem snR.wait {w : mW} {μ m : mM} {E : En} {S : Sn} {s : Nat} {v : Int} (h : snR μ E S) (hw : mWF w) (hT : mT w μ) (hs : s < 20 * eT E) (h20 : eT E ≤ 20) (hv : 0 ≤ v) (hn : ¬ ∃ x, (x, 2 * s + 1) ∈ sQu S)
    (f : ∀ (b i : Nat), ¬ (b = 126 ∧ 40 ≤ i ∧ i < 960) → ¬ (b = 159 ∧ i = s) → ¬ (b = 160 ∧ i = s) → ¬ (b = 106 ∧ i = 72) → ¬ b = 151 → ¬ b = 152 → ¬ b = 153 → ¬ b = 165 → ¬ (b = 106 ∧ 26 ≤ i ∧ i ≤ 31) → m b i = μ b i)
    (c3 : m 159 s = v) (c4 : m 160 s = μ 106 72) (c5 : m 106 72 = μ 106 72 + 1) : snR m E (mk! S (insQ (v, 2 * s + 1) (sQu S))) := by
  obtain ⟨h1, h2, h3, h4, h5, h6⟩ := h
  have c : ∀ b i, ¬ b = 126 → ¬ b = 159 → ¬ b = 160 → ¬ b = 151 → ¬ b = 152 → ¬ b = 153 → ¬ b = 165 → ¬ b = 106 → m b i = μ b i := fun b i a1 a2 a2' a3 a4 a5 a6 a7 => f b i (by omega) (by omega) (by omega) (by omega) a3 a4 a5 a6 (by omega)
  have rt : ∀ r : Int, 24 ≤ r → rtR m r = rtR μ r := fun r a1 => rtR.cg (hT.rb hw (by omega)).1.2 (hT.rb hw (by omega)).2.2 fun k hk => f _ _ (by omega) (by omega) (by omega) (by omega) (by omega) (by omega) (by omega) (by omega) (by omega)
  refine ⟨fun j hj => ?_, fun k hk => ?_, ?_, ?_, ?_, ?_⟩
  · rw [rt _ (by omega), c 154 _ (by decide) (by decide) (by decide) (by decide) (by decide) (by decide) (by decide) (by decide), rt _ (by omega), c 155 _ (by decide) (by decide) (by decide) (by decide) (by decide) (by decide) (by decide) (by decide), c 156 _ (by decide) (by decide) (by decide) (by decide) (by decide) (by decide) (by decide) (by decide), c 157 _ (by decide) (by decide) (by decide) (by decide) (by decide) (by decide) (by decide) (by decide), rt _ (by omega)]
    exact h1 j hj
  · rw [c 161 _ (by decide) (by decide) (by decide) (by decide) (by decide) (by decide) (by decide) (by decide), rt _ (by omega)]
    exact h2 k hk
  · have g := h3.put (m := m) (s := 2 * s + 1) (by omega) hv (fun e he => ?_) (fun e he => ?_) c5
    · rw [remQ.no (fun x hx q => hn ⟨x.1, by rw [← q]; exact hx⟩)] at g
      exact g
    · unfold atR
      by_cases q : e % 2 = 0
      · rw [if_pos q, if_pos q, if_neg (by omega), c 157 _ (by decide) (by decide) (by decide) (by decide) (by decide) (by decide) (by decide) (by decide)]
      · rw [if_neg q, if_neg q]
        by_cases q2 : e = 2 * s + 1
        · rw [if_pos q2, show e / 2 = s by omega, c3]
        · rw [if_neg q2, f 159 _ (by omega) (by omega) (by omega) (by omega) (by omega) (by omega) (by omega) (by omega) (by omega)]
    · unfold mdR
      by_cases q : e % 2 = 0
      · rw [if_pos q, if_pos q, if_neg (by omega), c 158 _ (by decide) (by decide) (by decide) (by decide) (by decide) (by decide) (by decide) (by decide)]
      · rw [if_neg q, if_neg q]
        by_cases q2 : e = 2 * s + 1
        · rw [if_pos q2, show e / 2 = s by omega, c4]
        · rw [if_neg q2, f 160 _ (by omega) (by omega) (by omega) (by omega) (by omega) (by omega) (by omega) (by omega) (by omega)]
  · rw [f 106 71 (by omega) (by omega) (by omega) (by omega) (by omega) (by omega) (by omega) (by omega) (by omega)]
    exact h4
  · rw [f 106 73 (by omega) (by omega) (by omega) (by omega) (by omega) (by omega) (by omega) (by omega) (by omega)]
    exact h5
  · rw [c5, h6]
    rfl
end
