section
/-! The class says. -/
theorem alk.eq {x y : Option Rt} {p : Nat} (hx : rtO p x) (hy : rtO p y) : alk x y ↔ x = y := by
  cases x with
  | none =>
    cases y with
    | none => exact ⟨fun _ => rfl, fun _ => trivial⟩
    | some s => exact ⟨fun h => False.elim h, fun h => by cases h⟩
  | some r =>
    cases y with
    | none => exact ⟨fun h => False.elim h, fun h => by cases h⟩
    | some s =>
      constructor
      · intro h
        have h : r.2 = s.2 := h
        have e : r.1 = s.1 := (hx r rfl).1.trans (hy s rfl).1.symm
        exact congrArg some (Prod.ext e h)
      · intro h
        cases h
        rfl
/-- what goes out, ahead of the policy -/
def cmpE (E : En) (S : Sn) (t s p : Nat) : Option Rt := match (sPk S (10 * (eN E t s).toNat + p)).2 with
  | none => none
  | some r => if (sPk S (10 * (eN E t s).toNat + p)).1 = (t : Int) ∨ 20 ≤ (wOf r).length then none else some (rtWish (rtWay r (eN E t s :: wOf r)) 100)
theorem outE.none' {E : En} {S : Sn} {t s p : Nat} (h : cmpE E S t s p = none) : outE E S t s p = none := by
  unfold cmpE at h
  unfold outE
  cases e : (sPk S (10 * (eN E t s).toNat + p)).2 with
  | none => rfl
  | some r =>
    rw [e] at h
    have h : (if (sPk S (10 * (eN E t s).toNat + p)).1 = (t : Int) ∨ 20 ≤ (wOf r).length then none else some (rtWish (rtWay r (eN E t s :: wOf r)) 100)) = none := h
    show (if (sPk S (10 * (eN E t s).toNat + p)).1 = (t : Int) ∨ 20 ≤ (wOf r).length then none else _) = none
    by_cases c : (sPk S (10 * (eN E t s).toNat + p)).1 = (t : Int) ∨ 20 ≤ (wOf r).length
    · rw [if_pos c]
    · rw [if_neg c] at h; cases h
theorem outE.some' {E : En} {S : Sn} {t s p : Nat} {x : Rt} (h : cmpE E S t s p = some x) : outE E S t s p = if (eTh E (ePl E (4 * t + 2 * s + 1)) (eN E t s) (eN E t (1 - s)) x).1 = true then some (rtWish (eTh E (ePl E (4 * t + 2 * s + 1)) (eN E t s) (eN E t (1 - s)) x).2 100) else none := by
  unfold cmpE at h
  unfold outE
  cases e : (sPk S (10 * (eN E t s).toNat + p)).2 with
  | none => rw [e] at h; cases h
  | some r =>
    rw [e] at h
    have h : (if (sPk S (10 * (eN E t s).toNat + p)).1 = (t : Int) ∨ 20 ≤ (wOf r).length then none else some (rtWish (rtWay r (eN E t s :: wOf r)) 100)) = some x := h
    show (if (sPk S (10 * (eN E t s).toNat + p)).1 = (t : Int) ∨ 20 ≤ (wOf r).length then none else _) = _
    by_cases c : (sPk S (10 * (eN E t s).toNat + p)).1 = (t : Int) ∨ 20 ≤ (wOf r).length
    · rw [if_pos c] at h; cases h
    · rw [if_neg c] at h ⊢
      rw [Option.some.inj h]
theorem rtC.wish {m : mM} {a : Nat} {v : Int} {x : Rt} (h : rtC m a = some x) : rtC (mUp m a 4 v) a = some (rtWish x v) := by
  obtain ⟨g, e⟩ := rtC.get h
  rw [rtC.the (by rw [mUp.no (by omega)]; exact g), mUp.no (by omega), mUp.yes ⟨rfl, rfl⟩, mUp.no (by omega), mUp.no (by omega), mUp.no (by omega), mUp.no (by omega), e, rowL.ext (f := m (a + 1)) (fun i _ => mUp.no (by omega)), rowL.ext (f := m (a + 2)) (fun i _ => mUp.no (by omega))]
  rfl
theorem rtC.wishN {m : mM} {a : Nat} {v : Int} (h : rtC m a = none) : rtC (mUp m a 4 v) a = none := rtC.nil (by rw [mUp.no (by omega)]; exact rtC.no h)
section SayC
variable {w : mW} {μ : mM} {E : En} {S : Sn} {p t s : Nat}
theorem X8_compose_s {Q : mM → Prop} (hw : mWF w) (hT : mT w μ) (ev : envC w μ E) (st : snC μ E S) (sn : snG E S) (ti : tiG E) (ht : t < eT E) (hs : s < 2) (hp : p < 10)
    (k : ∀ m : mM, rtC m 73 = cmpE E S t s p → (∀ b i, ¬ (73 ≤ b ∧ b ≤ 75) → m b i = μ b i) → Q m) : WP_X8_compose_W w μ (tbA μ t) (t : Int) (s : Int) (p : Int) Q := by
  obtain ⟨h1, h2, h3, ⟨l1, l2, l3, l4, l5, l6⟩, h5, h6, h7⟩ := ev
  obtain ⟨a1, a2, a3, a4, a5, a6⟩ := h5 t ht
  refine X9_end_s ?_
  rw [a1, a2]
  have ep : (if (s : Int) = 0 then eA E t else eB E t) = eN E t s := by
    unfold eN
    by_cases c : s = 0
    · rw [if_pos (by omega), if_pos c]
    · rw [if_neg (by omega), if_neg c]
  rw [ep]
  intro rd b6 e6 hb6 b10 e10 hb10
  have dr : 0 ≤ eN E t s ∧ eN E t s < (eD E : Int) := by
    unfold eN
    split
    · exact (ti.1 t ht).2.1
    · exact (ti.1 t ht).2.2
  have dl : (eN E t s).toNat < eD E := by omega
  obtain ⟨d1, d2, d3⟩ := l2 (eN E t s).toNat dl
  have eb6 : b6 = dbA μ (eN E t s).toNat := by omega
  subst eb6
  have eb10 : b10 = pkA μ (eN E t s).toNat p := by
    have g := d3 p hp
    rw [show ((p : Int)).toNat = p by omega, g] at e10
    have e10 : ((dbA μ (eN E t s).toNat + 5 + 3 * p : Nat) : Int) = (b10 : Int) := e10
    show b10 = dbA μ (eN E t s).toNat + 5 + 3 * p
    omega
  subst eb10
  obtain ⟨q1, q2⟩ := st.2.1 (eN E t s).toNat p dl hp
  refine X7_become_s ?_ fun m13 r13 o13 T13 F13 m17 u17 T17 tie etie htie => ?_
  · show 73 ≠ dbA μ (eN E t s).toNat + 5 + 3 * p ∧ _
    have hE : pkA μ (eN E t s).toNat p = dbA μ (eN E t s).toNat + 5 + 3 * p := rfl
    refine ⟨?_, ?_, ?_, ?_, ?_, ?_, ?_⟩ <;> omega
  obtain rfl := u17.is
  have o17 : ∀ b i, ¬ (73 ≤ b ∧ b ≤ 75) → mUp m13 73 4 100 b i = μ b i := fun b i hb => by
    rw [mUp.no (by omega), o13 b i (by omega) (by omega) (by omega)]
  have etie' : (sPk S (10 * (eN E t s).toNat + p)).1 = tie := by
    rw [← etie, o17 _ _ (by omega), show ((p : Int)).toNat = p by omega, q1]
  refine ⟨fun c m u _ => ?_, fun c => ?_⟩
  · obtain rfl := u.is
    refine k _ ?_ fun b i hb => by rw [mUp.no (by omega), o17 b i hb]
    rw [rtC.nil (mUp.yes ⟨rfl, rfl⟩)]
    unfold cmpE
    cases e : (sPk S (10 * (eN E t s).toNat + p)).2 with
    | none => rfl
    | some r =>
      show none = (if (sPk S (10 * (eN E t s).toNat + p)).1 = (t : Int) ∨ 20 ≤ (wOf r).length then none else _)
      rw [if_pos (Or.inl (etie'.trans c))]
  · cases e : (sPk S (10 * (eN E t s).toNat + p)).2 with
    | none =>
      have cn : cmpE E S t s p = none := by
        unfold cmpE
        rw [e]
      have z2 : mUp m13 73 4 100 73 2 = 0 := by
        rw [mUp.no (by omega)]
        exact rtC.no (r13.trans (q2.trans e))
      refine X7_putInFront_s (fun _ _ _ _ => ⟨fun q => ?_, fun q m u _ => ?_⟩) fun m1 _ _ _ _ _ _ o1 T1 F1 _ => ⟨fun q => ?_, fun q => absurd q (by decide)⟩
      · exact absurd rfl q
      · obtain rfl := u.is
        exact k _ (by rw [rtC.nil (mUp.yes ⟨rfl, rfl⟩), cn]) fun b i hb => by rw [mUp.no (by omega), o17 b i hb]
      · exact k _ (by rw [rtC.nil ((o1 73 2 (by omega) (by omega)).trans z2), cn]) fun b i hb => by rw [o1 b i (by omega) (by omega), o17 b i hb]
    | some r =>
      have r17 : rtC (mUp m13 73 4 100) 73 = some (rtWish r 100) := rtC.wish (r13.trans (q2.trans e))
      have len : ((wOf r).length : Int) = ((mUp m13 73 4 100 73 7).toNat : Int) := by
        have g := (rtC.get r17).2
        have e2 : wOf (rtWish r 100) = rowL (mUp m13 73 4 100 (73 + 1)) (mUp m13 73 4 100 73 7).toNat := by rw [g]
        have e3 : wOf (rtWish r 100) = wOf r := rfl
        rw [← e3, e2, rowL.len]
      refine X7_putInFront_s (fun h _ _ _ => ⟨fun q => absurd rfl q, fun q m u _ => ?_⟩) fun m1 _ n0 n20 e7 w1 w2 o1 T1 F1 _ => ⟨fun q => ?_, fun q => absurd q (by decide)⟩
      · obtain rfl := u.is
        have cn : cmpE E S t s p = none := by
          unfold cmpE
          rw [e]
          show (if (sPk S (10 * (eN E t s).toNat + p)).1 = (t : Int) ∨ 20 ≤ (wOf r).length then none else _) = none
          rw [if_pos (Or.inr (by omega))]
        exact k _ (by rw [rtC.nil (mUp.yes ⟨rfl, rfl⟩), cn]) fun b i hb => by rw [mUp.no (by omega), o17 b i hb]
      · have f := rtC.front r17 (by decide) n0 e7 w1 w2 o1
        have cs : cmpE E S t s p = some (rtWish (rtWay r (eN E t s :: wOf r)) 100) := by
          unfold cmpE
          rw [e]
          show (if (sPk S (10 * (eN E t s).toNat + p)).1 = (t : Int) ∨ 20 ≤ (wOf r).length then none else _) = _
          rw [if_neg (by rw [etie']; rintro (x | x); exact c x; omega)]
        exact k _ (by rw [f, cs]; rfl) fun b i hb => by rw [o1 b i (by omega) (by omega), o17 b i hb]
end SayC
end
section
/-! The class says: the queue's side; the whole. -/
theorem lst.pw {α : Type} {R : α → α → Prop} {g : Nat → α} {n i j : Nat} (h : (lst g n).Pairwise R) (hij : i < j) (hj : j < n) : R (g i) (g j) := by
  have h2 := List.pairwise_iff_getElem.mp h i j (by rw [lst.len]; omega) (by rw [lst.len]; omega) hij
  unfold lst at h2
  rw [List.getElem_map, List.getElem_map, List.getElem_range, List.getElem_range] at h2
  exact h2
theorem lst.map {α β : Type} {g : Nat → α} {f : α → β} {n : Nat} : (lst g n).map f = lst (fun i => f (g i)) n := by
  unfold lst
  rw [List.map_map]
  rfl
theorem evC.slots {m : mM} {q : List Ev} (h : evC m = q) : q.map (·.2) = lst (fun i => (m 33 i).toNat) (m 32 10).toNat := by
  rw [← h, evC.eq, lst.map]
theorem evC.typ {w : mW} {m : mM} (hw : mWF w) (hT : mT w m) (i : Nat) : 0 ≤ m 33 i ∧ m 33 i ≤ 799 := by
  have h : 0 ≤ m 33 i ∧ m 33 i ≤ 799 ∧ (m 33 i = 0 ∨ m 33 i < 40 * w.2.2.2 1) := hT 33 33 (A_33 hw) i
  exact ⟨h.1, h.2.1⟩
theorem evC.cnt {w : mW} {m : mM} (hw : mWF w) (hT : mT w m) : 0 ≤ m 32 10 ∧ m 32 10 ≤ 800 := by
  have h : 0 ≤ m 32 10 ∧ m 32 10 ≤ 800 ∧ (m 32 10 = 0 ∨ 0 < w.2.2.2 1) := hT 32 32 (A_32 hw) 10
  exact ⟨h.1, h.2.1⟩
theorem evC.inj {w : mW} {m : mM} {q : List Ev} (hw : mWF w) (hT : mT w m) (h : evC m = q) (hd : (q.map (·.2)).Nodup) : ∀ i j, i < (m 32 10).toNat → j < (m 32 10).toNat → m 33 i = m 33 j → i = j := by
  rw [evC.slots h] at hd
  intro i j hi hj e
  rcases Nat.lt_trichotomy i j with c | c | c
  · exact absurd (congrArg Int.toNat e) (lst.pw hd c hj)
  · exact c
  · exact absurd (congrArg Int.toNat e.symm) (lst.pw hd c hi)
theorem evC.out {w : mW} {m : mM} {q : List Ev} {e i : Nat} (hw : mWF w) (hT : mT w m) (h : evC m = q) (he : ∀ x ∈ q, ¬ x.2 = e) (hi : i < (m 32 10).toNat) : 0 ≤ m 33 i ∧ ¬ m 33 i = (e : Int) := by
  have t := evC.typ hw hT i
  refine ⟨t.1, fun g => ?_⟩
  refine he (m 34 (m 33 i).toNat, (m 33 i).toNat) (by rw [← h, evC.eq]; exact lst.mem.mpr ⟨i, hi, rfl⟩) ?_
  show (m 33 i).toNat = e
  omega
theorem evC.room {w : mW} {m : mM} {q : List Ev} {e : Nat} (hw : mWF w) (hT : mT w m) (h : evC m = q) (hd : (q.map (·.2)).Nodup) (he : ∀ x ∈ q, ¬ x.2 = e) (h8 : e < 800) : m 32 10 < 800 := by
  have c := evC.cnt hw hT
  have g := pigeon 800 ((m 32 10).toNat + 1) (fun i => if i < (m 32 10).toNat then (m 33 i).toNat else e) (fun i hi => ?_) (fun i j hij hj => ?_)
  · omega
  · have t := evC.typ hw hT i
    show (if i < (m 32 10).toNat then (m 33 i).toNat else e) < 800
    split
    · omega
    · exact h8
  · show (if i < (m 32 10).toNat then (m 33 i).toNat else e) ≠ (if j < (m 32 10).toNat then (m 33 j).toNat else e)
    rw [if_pos (by omega)]
    have o := evC.out hw hT h he (show i < (m 32 10).toNat by omega)
    by_cases q : j < (m 32 10).toNat
    · rw [if_pos q]
      intro g
      have t1 := evC.typ hw hT i
      have t2 := evC.typ hw hT j
      have := evC.inj hw hT h hd i j (by omega) q (by omega)
      omega
    · rw [if_neg q]
      omega
theorem evC.ord {m : mM} {q : List Ev} (h : evC m = q) (hs : q.Pairwise (fun x y => x.1 ≤ y.1)) : ∀ i j, i < j → j < (m 32 10).toNat → m 34 (m 33 i).toNat ≤ m 34 (m 33 j).toNat := by
  rw [← h, evC.eq] at hs
  intro i j hij hj
  exact lst.pw (R := fun x y : Ev => x.1 ≤ y.1) (g := fun i => (m 34 (m 33 i).toNat, (m 33 i).toNat)) hs hij hj
section SayC2
variable {w : mW} {μ : mM} {E : En} {S : Sn} {p t s : Nat}
/-- an event of the state: made anew -/
theorem X8_sched_s {Q : mM → Prop} {m : mM} {q : List Ev} {e : Nat} {v : Int} (hw : mWF w) (hT : mT w m) (h : evC m = q) (hs : q.Pairwise (fun x y => x.1 ≤ y.1)) (hd : (q.map (·.2)).Nodup) (he : ∀ x ∈ q, ¬ x.2 = e) (h8 : e < 800) (hf : ∀ i, i < 800 → (¬ m 34 i = -1 ↔ ∃ x, (x, i) ∈ q)) (hv : ¬ v = -1)
    (k : ∀ m1 : mM, evC m1 = insQ (v, e) q → (∀ i, i < 800 → (¬ m1 34 i = -1 ↔ ∃ x, (x, i) ∈ insQ (v, e) q)) → frQ m m1 e → Q m1) : WP_X8_schedule_W w m (e : Int) v Q := by
  have c := evC.cnt hw hT
  refine X8_schedule_s (by omega) ⟨c.1, evC.room hw hT h hd he h8⟩ (fun i hi => evC.out hw hT h he hi) (evC.ord h hs) fun m1 a1 a2 a3 => ?_
  rw [Int.toNat_natCast] at a1 a2 a3
  rw [h] at a1
  refine k m1 a1 (fun i hi => ?_) a3
  by_cases g : i = e
  · subst g
    rw [a2]
    exact ⟨fun _ => ⟨v, insQ.mem.mpr (Or.inl rfl)⟩, fun _ => hv⟩
  · rw [a3 34 i (by omega) (by omega) (by omega), hf i hi]
    constructor
    · rintro ⟨x, hx⟩
      exact ⟨x, insQ.mem.mpr (Or.inr hx)⟩
    · rintro ⟨x, hx⟩
      rcases insQ.mem.mp hx with q1 | q1
      · exact absurd (congrArg Prod.snd q1) g
      · exact ⟨x, q1⟩
theorem X8_canc_s {Q : mM → Prop} {m : mM} {q : List Ev} {e : Nat} (hw : mWF w) (hT : mT w m) (h : evC m = q) (hd : (q.map (·.2)).Nodup) (hf : ∀ i, i < 800 → (¬ m 34 i = -1 ↔ ∃ x, (x, i) ∈ q)) (h8 : e < 800)
    (k : ∀ m1 : mM, evC m1 = remQ e q → (∀ i, i < 800 → (¬ m1 34 i = -1 ↔ ∃ x, (x, i) ∈ remQ e q)) → frQ m m1 e → Q m1) : WP_X8_cancel_W w m (e : Int) Q := by
  have c := evC.cnt hw hT
  refine X8_cancel_s (by omega) c.1 (fun i hi => (evC.typ hw hT i).1) (evC.inj hw hT h hd) (fun ⟨i, hi, g⟩ => ?_) fun m1 a1 a2 a3 => ?_
  · rw [Int.toNat_natCast]
    refine (hf e h8).mpr ⟨m 34 (m 33 i).toNat, ?_⟩
    rw [← h, evC.eq]
    exact lst.mem.mpr ⟨i, hi, by rw [g, Int.toNat_natCast]⟩
  · rw [Int.toNat_natCast] at a1 a2 a3
    rw [h] at a1
    refine k m1 a1 (fun i hi => ?_) a3
    by_cases g : i = e
    · subst g
      rw [a2]
      exact ⟨fun q1 => absurd rfl q1, fun ⟨x, hx⟩ => absurd rfl (remQ.mem.mp hx).2⟩
    · rw [a3 34 i (by omega) (by omega) (by omega), hf i hi]
      exact ⟨fun ⟨x, hx⟩ => ⟨x, remQ.mem.mpr ⟨hx, g⟩⟩, fun ⟨x, hx⟩ => ⟨x, (remQ.mem.mp hx).1⟩⟩
theorem X8_say_s {Q : mM → Prop} (hw : mWF w) (hT : mT w μ) (ev : envC w μ E) (st : snC μ E S) (sn : snG E S) (ti : tiG E) (tG : thG E) (ht : t < eT E) (hs : s < 2) (hp : p < 10) (hgl : 0 ≤ eG E t ∧ 0 ≤ eL E t) (hck : 0 ≤ sCk S)
    (k : ∀ m : mM, snC m E (sayE E S t s p) → (∀ b i, b < 192 → ¬ (b = 21 ∧ 2 ≤ i ∧ i ≤ 7) → ¬ (b = 32 ∧ (i = 9 ∨ i = 10)) → ¬ b = 33 → ¬ b = 34 → ¬ (36 ≤ b ∧ b ≤ 69) → ¬ (73 ≤ b ∧ b ≤ 75) → m b i = μ b i) → Q m) : WP_X8_say_W w μ (t : Int) (s : Int) (p : Int) Q := by
  have ev0 := ev
  obtain ⟨h1, h2, h3, ly, h5, h6, h7⟩ := ev
  obtain ⟨l1, l2, l3, l4, l5, l6⟩ := ly
  obtain ⟨a1, a2, a3, a4, a5, a6⟩ := h5 t ht
  obtain ⟨t1, t2, t3⟩ := l1 t ht
  have pk20 : 10 * s + p < 20 := by omega
  have sE : slt t s p = 20 * t + (10 * s + p) := by unfold slt; omega
  have t20 := ti.2.2.1
  intro b eb hb up eup hup
  have eb' : b = tbA μ t := by
    rw [Int.toNat_natCast] at eb
    omega
  subst eb'
  rw [a3] at eup
  refine ⟨fun cu => ?_, fun cu => ?_⟩
  rotate_left 1
  · refine k μ ?_ fun _ _ _ _ _ _ _ _ _ => rfl
    unfold sayE
    rw [if_pos (eup.trans cu)]
    exact st
  have hup' : ¬ eU E t = 0 := by rw [eup]; exact cu
  obtain ⟨sA, sB, sC, sD⟩ := st.1 t (10 * s + p) ht pk20
  rw [← sE] at sC sD
  -- what is to be said lies at 73
  have J : ∀ (m9 m : mM), (∀ b i, ¬ (73 ≤ b ∧ b ≤ 75) → ¬ (b = 21 ∧ 2 ≤ i ∧ i ≤ 7) → m b i = μ b i) → ((rtC m 73 = none ∧ outE E S t s p = none) ∨ ∃ x, rtC m 73 = some x ∧ outE E S t s p = some (rtWish x 100)) → rtO p (outE E S t s p) → WJ_X8_say_W_1 w (t : Int) (s : Int) (p : Int) Q (tbA μ t) m9 m := by
    intro m9 m o ho hg T F m40 u40 T40
    obtain rfl := u40.is
    have o40 : ∀ b i, ¬ (73 ≤ b ∧ b ≤ 75) → ¬ (b = 21 ∧ 2 ≤ i ∧ i ≤ 7) → mUp m 73 4 100 b i = μ b i := fun b i q1 q2 => by rw [mUp.no (by omega), o b i q1 q2]
    have f40 : frC μ (mUp m 73 4 100) := fun b i q1 q2 q3 q4 => o40 b i q4 q1
    have st40 : snC (mUp m 73 4 100) E S := st.fr ⟨l1, l2, l3, l4, l5, l6⟩ f40
    have r40 : rtC (mUp m 73 4 100) 73 = outE E S t s p := by
      rcases ho with ⟨e1, e2⟩ | ⟨x, e1, e2⟩
      · rw [rtC.wishN e1, e2]
      · rw [rtC.wish e1, e2]
    have s40 : rtC (mUp m 73 4 100) (sdA μ t (10 * s + p)) = (sSd S (slt t s p)).1 := by rw [f40.rt (by show 76 ≤ tbA μ t + 7 + 6 * (10 * s + p); omega), sC]
    have low : ∀ b i, b < 192 → ¬ (b = 21 ∧ 2 ≤ i ∧ i ≤ 7) → ¬ (b = 32 ∧ (i = 9 ∨ i = 10)) → ¬ b = 33 → ¬ b = 34 → ¬ (36 ≤ b ∧ b ≤ 69) → ¬ (73 ≤ b ∧ b ≤ 75) → mUp m 73 4 100 b i = μ b i := fun b i _ q1 _ _ _ _ q2 => o40 b i q2 q1
    show (0 ≤ (s : Int) * 10 + (p : Int) ∧ (s : Int) * 10 + (p : Int) ≤ 19) → _
    intro hpl b49 e49 hb49
    have eb49 : b49 = sdA μ t (10 * s + p) := by
      have g := (t3 (10 * s + p) pk20).2
      rw [o40 _ _ (by omega) (by omega), show ((s : Int) * 10 + (p : Int)).toNat = 10 * s + p by omega, g] at e49
      have e49 : ((tbA μ t + 7 + 6 * (10 * s + p) : Nat) : Int) = (b49 : Int) := e49
      show b49 = tbA μ t + 7 + 6 * (10 * s + p)
      omega
    subst eb49
    have pm : slt t s p % 10 = p := by unfold slt; omega
    have hgS : rtO p (sSd S (slt t s p)).1 := by
      have g := sn.2.1 (slt t s p)
      rw [pm] at g
      exact g
    refine X7_isAlike_s fun z hz rz => ⟨fun c x ex hx => ?_, fun c => ?_⟩
    rotate_left 1
    · have e : outE E S t s p = (sSd S (slt t s p)).1 := by
        have g := hz.mp (by omega)
        rw [r40, s40] at g
        exact (alk.eq hg hgS).mp g
      exact k _ (by rw [sayE.same e]; exact st40) low
    have hno : ¬ outE E S t s p = (sSd S (slt t s p)).1 := fun e => by
      have := hz.mpr (by rw [r40, s40]; exact (alk.eq hg hgS).mpr e)
      omega
    have ex' : (sSd S (slt t s p)).2 = x := by
      have g : mUp m 73 4 100 (sdA μ t (10 * s + p)) 9 = μ (sdA μ t (10 * s + p)) 9 := o40 _ _ (by show ¬ (73 ≤ tbA μ t + 7 + 6 * (10 * s + p) ∧ tbA μ t + 7 + 6 * (10 * s + p) ≤ 75); omega) (by show ¬ (tbA μ t + 7 + 6 * (10 * s + p) = 21 ∧ _); omega)
      rw [← ex, g, sD]
    have ck40 : mUp m 73 4 100 32 11 = sCk S := st40.2.2.2.2.1
    have qu40 : evC (mUp m 73 4 100) = sQu S := st40.2.2.1
    have fl40 := st40.2.2.2.1
    have slE : ∀ kd : Nat, ((((t : Int) * 2 + (s : Int)) * 10 + (p : Int)) * 2 + (kd : Int)) = ((2 * slt t s p + kd : Nat) : Int) := fun kd => by unfold slt; omega
    have sl8 : 2 * slt t s p + 1 < 800 := by unfold slt; omega
    have GO : ∀ (ck dl : Int) (m64 : mM), ck = sCk S → dl = eL E t → ((sSd S (slt t s p)).2 = -1 ∨ (sSd S (slt t s p)).2 + eG E t ≤ sCk S) → rtC m64 (sdA μ t (10 * s + p)) = rtC (mUp m 73 4 100) 73 → onC2 (mUp m 73 4 100) m64 (sdA μ t (10 * s + p)) → mT w (mUp m64 (sdA μ t (10 * s + p)) 9 ck) → (∀ m80 : mM, mT w m80 → (m80 (tbA μ t) 7 = eL E t → True) → True) → WP_X8_cancel_W w (mUp m64 (sdA μ t (10 * s + p)) 9 ck) ((2 * slt t s p : Nat) : Int) (fun m80 => mT w m80 → mF [32010, 33999, 34999] w (mUp m64 (sdA μ t (10 * s + p)) 9 ck) m80 → ∀ d7 : Int, m80 (tbA μ t) 7 = d7 → (0 ≤ d7 ∧ d7 ≤ 1000) → WP_X8_schedule_W w m80 ((2 * slt t s p : Nat) : Int) (ck + d7) (fun m87 => mT w m87 → mF [32010, 33999, 34999] w m80 m87 → Q m87)) := by
      intro ck dl m64 e1 e2 hgo q1 q2 T71 _
      have o71 : ∀ b i, ¬ (sdA μ t (10 * s + p) ≤ b ∧ b ≤ sdA μ t (10 * s + p) + 2) → mUp m64 (sdA μ t (10 * s + p)) 9 ck b i = mUp m 73 4 100 b i := fun b i q => by
        rw [mUp.no (by omega), q2 b i (by omega) (by omega) (by omega)]
      have big : 192 ≤ sdA μ t (10 * s + p) := by show 192 ≤ tbA μ t + 7 + 6 * (10 * s + p); omega
      have qu71 : evC (mUp m64 (sdA μ t (10 * s + p)) 9 ck) = sQu S := by
        rw [← qu40, evC.eq, evC.eq, o71 32 10 (by omega)]
        exact lst.ext fun i _ => by rw [o71 33 i (by omega), o71 34 _ (by omega)]
      refine X8_canc_s hw T71 qu71 sn.2.2.2.2.1 (fun i hi => by rw [o71 34 i (by omega)]; exact fl40 i hi) (by omega) fun m80 c1 c2 c3 T80 _ d7 e7 h7' => ?_
      have e7' : d7 = eL E t := by
        rw [← e7, c3 _ _ (by omega) (by omega) (by omega), o71 _ _ (by show ¬ (tbA μ t + 7 + 6 * (10 * s + p) ≤ tbA μ t ∧ _); omega), o40 _ _ (by omega) (by omega), a4]
      have nd : ((remQ (2 * slt t s p) (sQu S)).map (·.2)).Nodup := (sn.2.2.2.2.1).sublist (List.filter_sublist.map _)
      refine X8_sched_s hw T80 c1 (sn.2.2.2.1.filter _) nd (fun x hx => (remQ.mem.mp hx).2) (by omega) c2 (by omega) fun m87 k1 k2 k3 _ _ => ?_
      have o87 : ∀ b i, ¬ (sdA μ t (10 * s + p) ≤ b ∧ b ≤ sdA μ t (10 * s + p) + 2) → ¬ b = 33 → ¬ b = 34 → ¬ (b = 32 ∧ i = 10) → m87 b i = mUp m 73 4 100 b i := fun b i w1 w2 w3 w4 => by
        rw [k3 b i w2 (by omega) w4, c3 b i w2 (by omega) w4, o71 b i w1]
      have at87 : ∀ b i, 192 ≤ b → m87 b i = mUp m64 (sdA μ t (10 * s + p)) 9 ck b i := fun b i hb => by
        rw [k3 b i (by omega) (by omega) (by omega), c3 b i (by omega) (by omega) (by omega)]
      refine k m87 ?_ fun b i w0 w1 w2 w3 w4 w5 w6 => by rw [o87 b i (by omega) w3 w4 (by omega), o40 b i w6 w1]
      rw [sayE.go hup' hno hgo, sE]
      refine snC.say st ⟨l1, l2, l3, l4, l5, l6⟩ ht pk20 (fun b i w1 w2 w3 w4 w5 w6 w7 => ?_) ?_ ?_ ?_ ?_
      · rw [o87 b i (by show ¬ (tbA μ t + 7 + 6 * (10 * s + p) ≤ b ∧ b ≤ tbA μ t + 7 + 6 * (10 * s + p) + 2); omega) w3 w4 (by omega), o40 b i w6 w1]
      · rw [rtC.of (fun i => at87 _ i (by omega)) (fun i => at87 _ i (by omega)) (fun i => at87 _ i (by omega))]
        have e : rtC (mUp m64 (sdA μ t (10 * s + p)) 9 ck) (sdA μ t (10 * s + p)) = rtC m64 (sdA μ t (10 * s + p)) := rtC.up9 (by omega)
        exact e.trans (q1.trans r40)
      · rw [at87 _ _ (by omega)]
        exact (mUp.yes ⟨rfl, rfl⟩).trans e1
      · rw [k1, e7', e1, ← sE]
      · intro i hi
        rw [← sE, ← e1, ← e7']
        exact k2 i hi
    have ap : apr (sdA μ t (10 * s + p)) 73 := by
      show tbA μ t + 7 + 6 * (10 * s + p) ≠ 73 ∧ _
      have hE : sdA μ t (10 * s + p) = tbA μ t + 7 + 6 * (10 * s + p) := rfl
      refine ⟨?_, ?_, ?_, ?_, ?_, ?_, ?_⟩ <;> omega
    have big : 192 ≤ sdA μ t (10 * s + p) := by show 192 ≤ tbA μ t + 7 + 6 * (10 * s + p); omega
    refine ⟨fun c2 => ?_, fun c2 ck eck hck2 g eg hg2 => ⟨fun c3 => ?_, fun c3 => ?_⟩⟩
    · refine X7_become_s ap fun m64 q1 q2 T64 F64 ck eck hck2 m71 u71 T71 => ?_
      obtain rfl := u71.is
      have eck' : ck = sCk S := by rw [← eck, q2 32 11 (by omega) (by omega) (by omega), ck40]
      show (0 ≤ ((((t : Int) * 2 + (s : Int)) * 10 + (p : Int)) * 2 + 0) ∧ ((((t : Int) * 2 + (s : Int)) * 10 + (p : Int)) * 2 + 0) ≤ 839) → _
      rw [show ((((t : Int) * 2 + (s : Int)) * 10 + (p : Int)) * 2 + 0) = ((2 * slt t s p : Nat) : Int) from slE 0]
      intro _
      exact GO ck (eL E t) m64 eck' rfl (Or.inl (ex'.trans c2)) q1 q2 T71 (fun _ _ _ => trivial)
    · have eck' : ck = sCk S := eck.symm.trans ck40
      have eg' : g = eG E t := by rw [← eg, o40 _ _ (by omega) (by omega), a5]
      refine X7_become_s ap fun m64 q1 q2 T64 F64 m71 u71 T71 => ?_
      obtain rfl := u71.is
      show (0 ≤ ((((t : Int) * 2 + (s : Int)) * 10 + (p : Int)) * 2 + 0) ∧ ((((t : Int) * 2 + (s : Int)) * 10 + (p : Int)) * 2 + 0) ≤ 839) → _
      rw [show ((((t : Int) * 2 + (s : Int)) * 10 + (p : Int)) * 2 + 0) = ((2 * slt t s p : Nat) : Int) from slE 0]
      intro _
      exact GO ck (eL E t) m64 eck' rfl (Or.inr (by omega)) q1 q2 T71 (fun _ _ _ => trivial)
    · have eck' : ck = sCk S := eck.symm.trans ck40
      have eg' : g = eG E t := by rw [← eg, o40 _ _ (by omega) (by omega), a5]
      show (0 ≤ ((((t : Int) * 2 + (s : Int)) * 10 + (p : Int)) * 2 + 1) ∧ ((((t : Int) * 2 + (s : Int)) * 10 + (p : Int)) * 2 + 1) ≤ 839) → _
      rw [show ((((t : Int) * 2 + (s : Int)) * 10 + (p : Int)) * 2 + 1) = ((2 * slt t s p + 1 : Nat) : Int) from slE 1]
      intro _ wt ewt hwt
      rw [Int.toNat_natCast] at ewt
      have fl := fl40 (2 * slt t s p + 1) sl8
      rw [ewt] at fl
      refine ⟨fun c4 => ?_, fun c4 => ?_⟩
      · refine k _ ?_ low
        rw [sayE.wait hup' hno (by omega) (by omega), cIf.pos (fl.mp c4)]
        exact st40
      · have hq : ¬ ∃ y, (y, 2 * slt t s p + 1) ∈ sQu S := fun q => fl.mpr q c4
        refine X8_sched_s hw T40 qu40 sn.2.2.2.1 sn.2.2.2.2.1 (fun y hy q => hq ⟨y.1, by rw [← q]; exact hy⟩) sl8 fl40 (by omega) fun m1 k1 k2 k3 _ _ => ?_
        have o1 : ∀ b i, ¬ b = 33 → ¬ b = 34 → ¬ (b = 32 ∧ i = 10) → m1 b i = mUp m 73 4 100 b i := fun b i w1 w2 w3 => k3 b i w1 (by omega) w3
        refine k m1 ?_ fun b i w0 w1 w2 w3 w4 w5 w6 => by rw [o1 b i w3 w4 (by omega), o40 b i w6 w1]
        rw [sayE.wait hup' hno (by omega) (by omega), cIf.neg hq]
        have hs1 := snC.say (m := m1) st ⟨l1, l2, l3, l4, l5, l6⟩ ht pk20 (o := (sSd S (slt t s p)).1) (v := (sSd S (slt t s p)).2) (fun b i w1 w2 w3 w4 w5 w6 w7 => by rw [o1 b i w3 w4 (by omega), o40 b i w6 w1]) (by rw [rtC.of (fun i => o1 _ i (by omega) (by omega) (by omega)) (fun i => o1 _ i (by omega) (by omega) (by omega)) (fun i => o1 _ i (by omega) (by omega) (by omega))]; exact s40) (by rw [o1 _ _ (by omega) (by omega) (by omega)]; exact ex.trans ex'.symm) (by rw [k1]) k2
        have es : sd! S (20 * t + (10 * s + p)) ((sSd S (slt t s p)).1, (sSd S (slt t s p)).2) = S := by
          unfold sd!
          have e : (fun i => if i = 20 * t + (10 * s + p) then ((sSd S (slt t s p)).1, (sSd S (slt t s p)).2) else sSd S i) = sSd S := by
            funext i
            by_cases q : i = 20 * t + (10 * s + p)
            · rw [if_pos q, q, ← sE]
            · rw [if_neg q]
          rw [e]
        rw [es] at hs1
        rw [ex', ← eg']
        exact hs1
  refine X8_compose_s hw hT ev0 st sn ti ht hs hp fun m9 r9 o9 T9 F9 th eth hth => ⟨fun c => ?_, fun c pol epol hpol => ?_⟩
  · have cn : cmpE E S t s p = none := by rw [← r9]; exact rtC.nil (eth.trans c)
    exact J m9 m9 (fun b i q1 _ => o9 b i q1) (Or.inl ⟨rtC.nil (eth.trans c), outE.none' cn⟩) (by rw [outE.none' cn]; exact fun r e => by cases e)
  · obtain ⟨x, ex⟩ : ∃ x, cmpE E S t s p = some x := by
      cases e : cmpE E S t s p with
      | none => exact absurd (eth.symm.trans (rtC.no (r9.trans e))) c
      | some x => exact ⟨x, rfl⟩
    have oS := outE.some' ex
    have gx : rtO p (some x) := by
      unfold cmpE at ex
      cases e : (sPk S (10 * (eN E t s).toNat + p)).2 with
      | none => rw [e] at ex; cases ex
      | some r =>
        rw [e] at ex
        have ex : (if (sPk S (10 * (eN E t s).toNat + p)).1 = (t : Int) ∨ 20 ≤ (wOf r).length then none else some (rtWish (rtWay r (eN E t s :: wOf r)) 100)) = some x := ex
        have gr := sn.1 (10 * (eN E t s).toNat + p) r e
        rw [show (10 * (eN E t s).toNat + p) % 10 = p by omega] at gr
        by_cases q : (sPk S (10 * (eN E t s).toNat + p)).1 = (t : Int) ∨ 20 ≤ (wOf r).length
        · rw [if_pos q] at ex; cases ex
        · rw [if_neg q] at ex
          intro y hy
          have e2 : y = rtWish (rtWay r (eN E t s :: wOf r)) 100 := (Option.some.inj hy).symm.trans (Option.some.inj ex).symm
          subst e2
          refine ⟨gr.1, gr.2.1, ?_, gr.2.2.2.1, ⟨by show (0 : Int) ≤ 100; decide, by show (100 : Int) ≤ 1000; decide⟩, gr.2.2.2.2.2⟩
          show (eN E t s :: wOf r).length ≤ 20
          rw [List.length_cons]
          omega
    have hgO : rtO p (outE E S t s p) := by
      rw [oS]
      split
      · have g := tG.1 (ePl E (4 * t + 2 * s + 1)) (eN E t s) (eN E t (1 - s)) x p gx
        intro y hy
        have e2 : y = rtWish (eTh E (ePl E (4 * t + 2 * s + 1)) (eN E t s) (eN E t (1 - s)) x).2 100 := (Option.some.inj hy).symm
        subst e2
        have g2 := g _ rfl
        exact ⟨g2.1, g2.2.1, g2.2.2.1, g2.2.2.2.1, ⟨by show (0 : Int) ≤ 100; decide, by show (100 : Int) ≤ 1000; decide⟩, g2.2.2.2.2.2⟩
      · intro y hy
        cases hy
    have plE : pol = ePl E (4 * t + (2 * s + 1)) := by
      rw [o9 _ _ (by omega), show ((s : Int) * 2 + 1).toNat = 2 * s + 1 by omega, a6 (2 * s + 1) (by omega)] at epol
      exact epol.symm
    refine h7.2 m9 pol 73 t s x _ T9 (mF.refl.call F9 rfl) ht hs (by rw [plE]; exact h7.1 _ _ ht (by omega)) (r9.trans ex) (gx x rfl).2.1 (A_73 hw) fun z5 m5 hz5 r5 f5 T5 F5 rz5 => ?_
    rw [plE, show 4 * t + (2 * s + 1) = 4 * t + 2 * s + 1 by omega] at hz5 r5
    have o5 : ∀ b i, ¬ (73 ≤ b ∧ b ≤ 75) → ¬ (b = 21 ∧ 2 ≤ i ∧ i ≤ 7) → m5 b i = μ b i := fun b i q1 q2 => (f5 b i (by omega) (by omega) (by omega) q2).trans (o9 b i q1)
    refine ⟨fun q => J m9 m5 o5 (Or.inr ⟨_, r5, ?_⟩) hgO, fun q m6 u6 _ => ?_⟩
    · rw [oS, if_pos (hz5.mp (by omega))]
    · obtain rfl := u6.is
      refine J m9 _ (fun b i q1 q2 => by rw [mUp.no (by omega), o5 b i q1 q2]) (Or.inl ⟨rtC.nil (mUp.yes ⟨rfl, rfl⟩), ?_⟩) hgO
      rw [oS, if_neg (fun g => by have := hz5.mpr g; omega)]
end SayC2
end
section
/-! The engine's functions keep its order. -/
theorem insQ.nd {e : Ev} : ∀ {q : List Ev}, (q.map (·.2)).Nodup → (∀ x ∈ q, ¬ x.2 = e.2) → ((insQ e q).map (·.2)).Nodup
  | [], _, _ => by
    show [e.2].Nodup
    simp
  | y :: l, h, k => by
    show ((if e.1 < y.1 then e :: y :: l else y :: insQ e l).map (·.2)).Nodup
    have h : (y.2 :: l.map (·.2)).Nodup := h
    obtain ⟨h1, h2⟩ := List.nodup_cons.mp h
    by_cases c : e.1 < y.1
    · rw [if_pos c]
      show (e.2 :: (y :: l).map (·.2)).Nodup
      refine List.nodup_cons.mpr ⟨fun g => ?_, h⟩
      obtain ⟨x, hx, ex⟩ := List.mem_map.mp g
      exact k x hx ex
    · rw [if_neg c]
      show (y.2 :: (insQ e l).map (·.2)).Nodup
      refine List.nodup_cons.mpr ⟨fun g => ?_, insQ.nd h2 fun x hx => k x (List.mem_cons_of_mem _ hx)⟩
      obtain ⟨x, hx, ex⟩ := List.mem_map.mp g
      rcases insQ.mem.mp hx with q | q
      · rw [q] at ex
        exact k y List.mem_cons_self ex.symm
      · exact h1 (List.mem_map.mpr ⟨x, q, ex⟩)
theorem rtO.none' {p : Nat} : rtO p none := fun r e => by cases e
theorem rtO.wish {p : Nat} {x : Rt} (h : rtO p (some x)) : rtO p (some (rtWish x 100)) := by
  intro y hy
  have e : y = rtWish x 100 := (Option.some.inj hy).symm
  subst e
  have g := h x rfl
  exact ⟨g.1, g.2.1, g.2.2.1, g.2.2.2.1, ⟨by show (0 : Int) ≤ 100; decide, by show (100 : Int) ≤ 1000; decide⟩, g.2.2.2.2.2⟩
theorem outE.good {E : En} {S : Sn} {t s p : Nat} (sn : snG E S) (tG : thG E) (hp : p < 10) : rtO p (outE E S t s p) := by
  unfold outE
  cases e : (sPk S (10 * (eN E t s).toNat + p)).2 with
  | none => exact rtO.none'
  | some r =>
    have gr := sn.1 (10 * (eN E t s).toNat + p) r e
    rw [show (10 * (eN E t s).toNat + p) % 10 = p by omega] at gr
    show rtO p (if (sPk S (10 * (eN E t s).toNat + p)).1 = (t : Int) ∨ 20 ≤ (wOf r).length then none else if (eTh E (ePl E (4 * t + 2 * s + 1)) (eN E t s) (eN E t (1 - s)) (rtWish (rtWay r (eN E t s :: wOf r)) 100)).1 = true then some (rtWish (eTh E (ePl E (4 * t + 2 * s + 1)) (eN E t s) (eN E t (1 - s)) (rtWish (rtWay r (eN E t s :: wOf r)) 100)).2 100) else none)
    by_cases c : (sPk S (10 * (eN E t s).toNat + p)).1 = (t : Int) ∨ 20 ≤ (wOf r).length
    · rw [if_pos c]; exact rtO.none'
    · rw [if_neg c]
      have gx : rtO p (some (rtWish (rtWay r (eN E t s :: wOf r)) 100)) := by
        intro y hy
        have e2 : y = rtWish (rtWay r (eN E t s :: wOf r)) 100 := (Option.some.inj hy).symm
        subst e2
        refine ⟨gr.1, gr.2.1, ?_, gr.2.2.2.1, ⟨by show (0 : Int) ≤ 100; decide, by show (100 : Int) ≤ 1000; decide⟩, gr.2.2.2.2.2⟩
        show (eN E t s :: wOf r).length ≤ 20
        rw [List.length_cons]
        omega
      split
      · exact rtO.wish (tG.1 _ _ _ _ p gx)
      · exact rtO.none'
theorem sayE.sn {E : En} {S : Sn} {t s p : Nat} (sn : snG E S) (tG : thG E) (pa : paG E) (ht : t < eT E) (hs : s < 2) (hp : p < 10) : snG E (sayE E S t s p) := by
  have og := outE.good (t := t) (s := s) sn tG hp
  have pm : slt t s p % 10 = p := by unfold slt; omega
  have sb : slt t s p < 20 * eT E := by unfold slt; omega
  have pg := pa t ht
  by_cases hu : eU E t = 0
  · unfold sayE
    rw [if_pos hu]; exact sn
  by_cases ho : outE E S t s p = (sSd S (slt t s p)).1
  · rw [sayE.same ho]; exact sn
  obtain ⟨s1, s2, s3, s4, s5, s6, s7, s8, s9, s0⟩ := sn
  by_cases hg : (sSd S (slt t s p)).2 = -1 ∨ (sSd S (slt t s p)).2 + eG E t ≤ sCk S
  · rw [sayE.go hu ho hg]
    refine ⟨s1, fun k => ?_, s3, ?_, ?_, fun x hx => ?_, s7, s8, fun k => ?_, fun k hk => ?_⟩
    · show rtO (k % 10) (if k = slt t s p then (outE E S t s p, sCk S) else sSd S k).1
      by_cases q : k = slt t s p
      · rw [if_pos q, q, pm]; exact og
      · rw [if_neg q]; exact s2 k
    · exact insQ.pw (fun x y h => h) (s4.filter _) (fun x _ h => h) (fun x _ h => Int.le_of_lt h)
    · exact insQ.nd (s5.sublist (List.filter_sublist.map _)) (fun x hx => (remQ.mem.mp hx).2)
    · rcases insQ.mem.mp hx with q | q
      · subst q
        exact ⟨by show 2 * slt t s p < 40 * eT E; omega, by show 0 ≤ sCk S + eL E t; omega, by
          show ¬ eU E (2 * slt t s p / 40) = 0
          rw [show 2 * slt t s p / 40 = t by unfold slt; omega]
          exact hu⟩
      · exact s6 x (remQ.mem.mp q).1
    · show -1 ≤ (if k = slt t s p then (outE E S t s p, sCk S) else sSd S k).2 ∧ ((if k = slt t s p then (outE E S t s p, sCk S) else sSd S k).2 = -1 → (if k = slt t s p then (outE E S t s p, sCk S) else sSd S k).1 = none)
      by_cases q : k = slt t s p
      · rw [if_pos q]
        exact ⟨by show -1 ≤ sCk S; omega, fun g => by
          have g : sCk S = -1 := g
          omega⟩
      · rw [if_neg q]; exact s9 k
    · obtain ⟨b1, b2, b3⟩ := s0 k hk
      refine ⟨b1, ?_, b3⟩
      show (if k = slt t s p then (outE E S t s p, sCk S) else sSd S k).1 = none
      by_cases q : k = slt t s p
      · rw [if_pos q]
        rw [q, pm] at hk
        have z := (s0 (10 * (eN E t s).toNat + p) (by omega)).1
        show outE E S t s p = none
        unfold outE
        rw [z]
      · rw [if_neg q]; exact b2
  · have h9 := (s9 (slt t s p)).1
    rw [sayE.wait hu ho (by omega) (by omega)]
    by_cases hx : ∃ m, (m, 2 * slt t s p + 1) ∈ sQu S
    · rw [cIf.pos hx]
      exact ⟨s1, s2, s3, s4, s5, s6, s7, s8, s9, s0⟩
    · rw [cIf.neg hx]
      refine ⟨s1, s2, s3, ?_, ?_, fun x hx => ?_, s7, s8, s9, s0⟩
      · exact insQ.pw (fun x y h => h) s4 (fun x _ h => h) (fun x _ h => Int.le_of_lt h)
      · exact insQ.nd s5 (fun x hx2 q => hx ⟨x.1, by have e : x.2 = 2 * slt t s p + 1 := q; rw [← e]; exact hx2⟩)
      · rcases insQ.mem.mp hx with q | q
        · subst q
          exact ⟨by show 2 * slt t s p + 1 < 40 * eT E; omega, by show 0 ≤ (sSd S (slt t s p)).2 + eG E t; omega, by
            show ¬ eU E ((2 * slt t s p + 1) / 40) = 0
            rw [show (2 * slt t s p + 1) / 40 = t by unfold slt; omega]
            exact hu⟩
        · exact s6 x q
/-- at most one event is made -/
theorem sayE.md {E : En} {S : Sn} {t s p : Nat} : sMd S ≤ sMd (sayE E S t s p) ∧ sMd (sayE E S t s p) ≤ sMd S + 1 := by
  unfold sayE
  by_cases hu : eU E t = 0
  · rw [if_pos hu]; omega
  · rw [if_neg hu]
    by_cases ho : outE E S t s p = (sSd S (slt t s p)).1
    · rw [cIf.pos ho]; omega
    · rw [cIf.neg ho]
      split
      · by_cases hx : ∃ m, (m, 2 * slt t s p + 1) ∈ sQu S
        · rw [cIf.pos hx]; omega
        · rw [cIf.neg hx]
          show sMd S ≤ sMd S + 1 ∧ sMd S + 1 ≤ sMd S + 1
          omega
      · show sMd S ≤ sMd S + 1 ∧ sMd S + 1 ≤ sMd S + 1
        omega
theorem sayD.sn {E : En} {S : Sn} {d : Int} {t p : Nat} (sn : snG E S) (tG : thG E) (pa : paG E) (ht : t < eT E) (hp : p < 10) : snG E (sayD E d p t S) := by
  unfold sayD
  by_cases c : sdE E d t < 0
  · rw [if_pos c]; exact sn
  · rw [if_neg c]
    refine sayE.sn sn tG pa ht ?_ hp
    have : sdE E d t ≤ 1 := by
      unfold sdE sdI
      split
      · omega
      · split <;> omega
    omega
theorem sayD.md {E : En} {S : Sn} {d : Int} {t p : Nat} : sMd S ≤ sMd (sayD E d p t S) ∧ sMd (sayD E d p t S) ≤ sMd S + 1 := by
  unfold sayD
  by_cases c : sdE E d t < 0
  · rw [if_pos c]; omega
  · rw [if_neg c]; exact sayE.md
theorem forN.sn {E : En} {S : Sn} {d : Int} {p : Nat} (sn : snG E S) (tG : thG E) (pa : paG E) (hp : p < 10) : ∀ n : Nat, n ≤ eT E → snG E (forN (sayD E d p) n S) ∧ sMd S ≤ sMd (forN (sayD E d p) n S) ∧ sMd (forN (sayD E d p) n S) ≤ sMd S + (n : Int)
  | 0, _ => ⟨sn, Int.le_refl _, by show sMd S ≤ sMd S + 0; omega⟩
  | n + 1, h => by
    obtain ⟨a, b, c⟩ := forN.sn sn tG pa hp n (by omega)
    have m := sayD.md (E := E) (S := forN (sayD E d p) n S) (d := d) (t := n) (p := p)
    refine ⟨sayD.sn a tG pa (by omega) hp, ?_, ?_⟩
    · show sMd S ≤ sMd (sayD E d p n (forN (sayD E d p) n S))
      omega
    · show sMd (sayD E d p n (forN (sayD E d p) n S)) ≤ sMd S + ((n + 1 : Nat) : Int)
      omega
end
section
/-! The reference: all candidates; the plain pick. -/
theorem bts.zeros {l : List Int} {n : Nat} {x y : Cd} : bts (l ++ List.replicate n 0) x y = bts l x y := by
  unfold bts
  rw [unl.zeros]
theorem bst.zeros {l : List Int} {n : Nat} : ∀ {q : List Cd} {o : Option Cd}, bst (l ++ List.replicate n 0) q o = bst l q o
  | [], _ => rfl
  | x :: q, none => by
    show bst (l ++ List.replicate n 0) q (some x) = bst l q (some x)
    exact bst.zeros
  | x :: q, some y => by
    show bst (l ++ List.replicate n 0) q (if bts (l ++ List.replicate n 0) x y = true then some x else some y) = bst l q (if bts l x y = true then some x else some y)
    rw [bts.zeros]
    exact bst.zeros
theorem sdE.side {E : En} {d : Int} {t : Nat} (h : ¬ sdE E d t < 0) : ∃ s : Nat, sdE E d t = (s : Int) ∧ s < 2 ∧ d = eN E t s := by
  unfold sdE sdI at h ⊢
  unfold eN
  by_cases q : eA E t = d
  · exact ⟨0, by rw [if_pos q]; rfl, by omega, by rw [if_pos rfl]; exact q.symm⟩
  · rw [if_neg q] at h ⊢
    by_cases q2 : eB E t = d
    · exact ⟨1, by rw [if_pos q2]; rfl, by omega, by rw [if_neg (by omega)]; exact q2.symm⟩
    · rw [if_neg q2] at h
      exact absurd (by decide) h
theorem X12_isAt_s {w : mW} {μ : mM} {t d : Int} {Q : Int → mM → Prop} (k : ∀ z : Int, (z = 1 ↔ (μ 110 (2 * t).toNat = d ∨ μ 110 (2 * t + 1).toNat = d)) → Q z μ) : WP_X12_isAt_W w μ t d Q := by
  intro a ea _ b eb _
  subst ea eb
  exact ⟨fun c => k 1 ⟨fun _ => Or.inl c, fun _ => rfl⟩, fun c => ⟨fun c2 => k 0 ⟨fun e => absurd e (by decide), fun e => by rcases e with e | e; exact absurd e c; exact absurd e c2⟩, fun c2 => k 1 ⟨fun _ => Or.inr c2, fun _ => rfl⟩⟩⟩
section Cands
variable {w : mW} {μ : mM} {E : En} {S : Sn} {G : mM → Prop} {d : Int} {p : Nat}
theorem cdE.at {t s : Nat} (hs : sdE E d t = (s : Int)) : cdE E S d p t = cdAt E S d p t s := by
  unfold cdE
  rw [if_neg (by omega), hs, Int.toNat_natCast]
theorem X12_candidates_s {Q : mM → Prop} (hw : mWF w) (hT : mT w μ) (ev : envR w μ E G) (hG : G μ) (gG : gSt G) (st : snR μ E S) (sn : snG E S) (ti : tiG E) (hp : p < 10)
    (k : ∀ m : mM, G m → frR μ m → (∀ b i, b = 165 → m b i = μ b i) → (∀ t, t < eT E → rtR m (4 + (t : Int)) = (cdE E S d p t).map (fun x => x.2.2.2)) → Q m) : WP_X12_candidates_W w μ d (p : Int) Q := by
  have t20 := ti.2.2.1
  refine loopF.im (fun z m => 0 ≤ z ∧ z ≤ (eT E : Int) ∧ G m ∧ frR μ m ∧ (∀ b i, b = 165 → m b i = μ b i) ∧ ∀ t : Nat, (t : Int) < z → rtR m (4 + (t : Int)) = (cdE E S d p t).map (fun x => x.2.2.2)) (fun z => (21 - z).toNat) ⟨by omega, by omega, hG, frR.refl, fun _ _ _ => rfl, fun t h => by omega⟩ (by omega) ?_
  rintro rc z m ⟨z0, z1, gm, fr, f165, hc⟩ ih z' m' e hz T F n en hn
  cases e
  have Fm : mF lER w μ m := mF.refl.call F rfl
  have evm := ev.fr hw Fm
  rw [evm.1] at en
  subst en
  have stm := st.fr hw hT fr
  refine ⟨fun g => k m gm fr f165 fun t ht => hc t (by omega), fun g a ea _ b eb _ => ?_⟩
  have zt : z.toNat < eT E := by omega
  have zc : ((z.toNat : Nat) : Int) = z := by omega
  obtain ⟨a1, a2, a3, a4, a5, a6⟩ := evm.2.2.2.1 z.toNat zt
  have go : ∀ m2 : mM, G m2 → frT m m2 (4 + z) → rtR m2 (4 + z) = (cdE E S d p z.toNat).map (fun x => x.2.2.2) → rc (z + 1, m2) := fun m2 g2 f2 r2 => ih _ _ ⟨by omega, by omega, g2, fr.trans (f2.fr (by omega)), fun b i hb => (f2 b i (by omega) (by omega) (by omega) (by omega) (by omega)).trans (f165 b i hb), fun t ht => by
    by_cases c : (t : Int) = z
    · have e : t = z.toNat := by omega
      rw [e, zc]; exact r2
    · rw [f2.rt hw T (by omega) (by omega)]
      exact hc t (by omega)⟩ (by omega)
  refine X12_isAt_s fun y hy ry => ?_
  rw [show (2 * z).toNat = 2 * z.toNat by omega, show (2 * z + 1).toNat = 2 * z.toNat + 1 by omega, a1, a2] at hy
  refine ⟨fun c => ?_, fun c => ?_⟩
  · have ns : sdE E d z.toNat < 0 := by
      unfold sdE sdI
      rw [if_neg (fun e => by have := hy.mpr (Or.inl e); omega), if_neg (fun e => by have := hy.mpr (Or.inr e); omega)]
      decide
    refine X12_nothing_s (by omega) fun m2 r2 f2 _ _ x2 _ => go m2 (gG m m2 gm fun b i q1 q2 q3 => f2 b i (by omega)) (frT.refl.no f2) ?_
    rw [r2]
    unfold cdE
    rw [if_pos ns]
    rfl
  · have nn : ¬ sdE E d z.toNat < 0 := by
      unfold sdE sdI
      rcases hy.mp (by omega) with e | e
      · rw [if_pos e]; decide
      · by_cases q : eA E z.toNat = d
        · rw [if_pos q]; decide
        · rw [if_neg q, if_pos e]; decide
    obtain ⟨s, hs, hs2, hd⟩ := sdE.side nn
    have key : ∀ L : List Nat, WP_X12_candidate_W w m d ((z.toNat : Nat) : Int) (p : Int) (fun z520 m2 => mT w m2 → mF L w m m2 → (-99999999 ≤ z520 ∧ z520 ≤ 10) → rc (z + 1, m2)) := by
      intro L
      refine X12_candidate_s hw T evm gm gG stm sn ti zt hs2 hd hp fun y2 m2 g2 f2 r2 _ _ _ _ _ _ => ?_
      rw [zc] at f2 r2
      exact go m2 g2 f2 (by rw [r2, cdE.at hs])
    rw [zc] at key
    exact key _
/-- rows and candidates say the same -/
theorem cdX.eq {m : mM} {t : Nat} (hw : mWF w) (ev : envR w m E G) (st : snR m E S) (ti : tiG E) (hp : p < 10) (ht : t < eT E) (h : rtR m (4 + (t : Int)) = (cdE E S d p t).map (fun x => x.2.2.2)) {x : Cd} (hx : cdE E S d p t = some x) : cdX m d (p : Int) (4 + (t : Int)) (t : Int) = x := by
  obtain ⟨a1, a2, a3, a4, a5, a6⟩ := ev.2.2.2.1 t ht
  have hne := (ti.1 t ht).1
  have nn : ¬ sdE E d t < 0 := fun c => by
    unfold cdE at hx
    rw [if_pos c] at hx; cases hx
  obtain ⟨s, hs, hs2, hd⟩ := sdE.side nn
  have hx0 := hx
  rw [cdE.at hs] at hx
  obtain ⟨_, r, e1, _, _, e4⟩ := cdAt.some' hx
  have sb : slt t s p < 20 * eT E := by unfold slt; omega
  rw [hx0] at h
  have h : rtR m (4 + (t : Int)) = some x.2.2.2 := h
  have rv : rvR m (4 + (t : Int)) = x.2.2.2 := (rtR.get h).2.symm
  unfold cdX
  rw [rv, ptR.of a1 a2 hne hs2 hd, slR.of a1 hne hs2 hd, Int.toNat_natCast, (st.1 _ (Or.inl sb)).2.1 (by rw [e1]; exact fun q => by cases q), e4]
end Cands
end
section
/-! The class looks. -/
/-- something else is picked -/
theorem snC.pick {μ m : mM} {E : En} {S : Sn} {d p : Nat} {v : Int} {o : Option Rt} (h : snC μ E S) (ly : LYC μ (eT E) (eD E)) (hd : d < eD E) (hp : p < 10)
    (f : ∀ b i, ¬ (b = 21 ∧ 2 ≤ i ∧ i ≤ 7) → ¬ (b = 32 ∧ i = 9) → ¬ (36 ≤ b ∧ b ≤ 69) → ¬ (73 ≤ b ∧ b ≤ 75) → ¬ (b = dbA μ d + 3 ∧ i = p) → ¬ (dbA μ d + 5 + 3 * p ≤ b ∧ b ≤ dbA μ d + 7 + 3 * p) → m b i = μ b i)
    (hv : m (dbA μ d + 3) p = v) (ho : rtC m (dbA μ d + 5 + 3 * p) = o) : snC m E (pk! S (10 * d + p) (v, o)) := by
  obtain ⟨h1, h2, h3, h4, h5, h6, h7⟩ := h
  obtain ⟨l1, l2, l3, l4, l5, l6⟩ := ly
  have big := (l2 d hd).2.1
  have tb : ∀ s, tbA m s = tbA μ s := fun s => by
    unfold tbA
    rw [f _ _ (by omega) (by omega) (by omega) (by omega) (by omega) (by omega)]
  have db : ∀ s, dbA m s = dbA μ s := fun s => by
    unfold dbA
    rw [f _ _ (by omega) (by omega) (by omega) (by omega) (by omega) (by omega)]
  have at_ : ∀ b i, 192 ≤ b → ¬ (b = dbA μ d + 3 ∧ i = p) → ¬ (dbA μ d + 5 + 3 * p ≤ b ∧ b ≤ dbA μ d + 7 + 3 * p) → m b i = μ b i := fun b i h8 h9 h10 => f b i (by omega) (by omega) (by omega) (by omega) h9 h10
  have rt : ∀ a, 192 ≤ a → (a + 2 < dbA μ d + 3 ∨ dbA μ d + 3 < a) → (a + 2 < dbA μ d + 5 + 3 * p ∨ dbA μ d + 7 + 3 * p < a) → rtC m a = rtC μ a := fun a ha h9 h10 => rtC.of (fun i => at_ a i ha (by omega) (by omega)) (fun i => at_ (a + 1) i (by omega) (by omega) (by omega)) (fun i => at_ (a + 2) i (by omega) (by omega) (by omega))
  refine ⟨fun s j hs hj => ?_, fun e q he hq => ?_, ?_, fun i hi => ?_, ?_, ?_, ?_⟩
  · have a := l1 s hs
    have b := h1 s j hs hj
    have c := l5 s d hs hd
    show rtC m (tbA m s + 4 + 6 * j) = _ ∧ (_ → m (tbA m s + 4 + 6 * j) 9 = _) ∧ rtC m (tbA m s + 7 + 6 * j) = _ ∧ m (tbA m s + 7 + 6 * j) 9 = _
    rw [tb, rt _ (by omega) (by omega) (by omega), at_ (tbA μ s + 4 + 6 * j) 9 (by omega) (by omega) (by omega), rt _ (by omega) (by omega) (by omega), at_ (tbA μ s + 7 + 6 * j) 9 (by omega) (by omega) (by omega)]
    exact b
  · have a := l2 e he
    have b := h2 e q he hq
    show m (dbA m e + 3) q = (if 10 * e + q = 10 * d + p then (v, o) else sPk S (10 * e + q)).1 ∧ rtC m (dbA m e + 5 + 3 * q) = (if 10 * e + q = 10 * d + p then (v, o) else sPk S (10 * e + q)).2
    rw [db]
    by_cases c : e = d
    · subst c
      by_cases c2 : q = p
      · subst c2
        rw [if_pos rfl]
        exact ⟨hv, ho⟩
      · rw [if_neg (by omega), at_ _ _ (by omega) (by omega) (by omega), rt _ (by omega) (by omega) (by omega)]
        exact b
    · have c1 := l4 e d he hd c
      rw [if_neg (by omega), at_ _ _ (by omega) (by omega) (by omega), rt _ (by omega) (by omega) (by omega)]
      exact b
  · have e : evC m = evC μ := by
      rw [evC.eq, evC.eq, f 32 10 (by omega) (by omega) (by omega) (by omega) (by omega) (by omega)]
      refine lst.ext fun i _ => ?_
      rw [f 33 i (by omega) (by omega) (by omega) (by omega) (by omega) (by omega), f 34 _ (by omega) (by omega) (by omega) (by omega) (by omega) (by omega)]
    rw [e]; exact h3
  · rw [f 34 i (by omega) (by omega) (by omega) (by omega) (by omega) (by omega)]; exact h4 i hi
  · rw [f 32 11 (by omega) (by omega) (by omega) (by omega) (by omega) (by omega)]; exact h5
  · rw [f 32 12 (by omega) (by omega) (by omega) (by omega) (by omega) (by omega)]; exact h6
  · rw [rtC.of (fun i => f 70 i (by omega) (by omega) (by omega) (by omega) (by omega) (by omega)) (fun i => f 71 i (by omega) (by omega) (by omega) (by omega) (by omega) (by omega)) (fun i => f 72 i (by omega) (by omega) (by omega) (by omega) (by omega) (by omega))]
    exact h7
/-- a state with another pick is in order -/
theorem snG.pick {E : En} {S : Sn} {k : Nat} {v : Int} {o : Option Rt} (h : snG E S) (hg : rtO (k % 10) o) (hv : v = -99999999 ↔ o = none) (hx : eP E ≤ k % 10 → o = none) : snG E (pk! S k (v, o)) := by
  obtain ⟨s1, s2, s3, s4, s5, s6, s7, s8, s9, s0⟩ := h
  refine ⟨fun j => ?_, s2, s3, s4, s5, s6, fun j => ?_, s8, s9, fun j hj => ?_⟩
  · show rtO (j % 10) (if j = k then (v, o) else sPk S j).2
    by_cases c : j = k
    · rw [if_pos c, c]; exact hg
    · rw [if_neg c]; exact s1 j
  · show (if j = k then (v, o) else sPk S j).1 = -99999999 ↔ (if j = k then (v, o) else sPk S j).2 = none
    by_cases c : j = k
    · rw [if_pos c]; exact hv
    · rw [if_neg c]; exact s7 j
  · obtain ⟨b1, b2, b3⟩ := s0 j hj
    refine ⟨?_, b2, b3⟩
    show (if j = k then (v, o) else sPk S j).2 = none
    by_cases c : j = k
    · rw [if_pos c]; rw [c] at hj; exact hx hj
    · rw [if_neg c]; exact b1
/-- what the engine leaves alone below 192 -/
def loC (μ m : mM) : Prop := ∀ b i, b < 192 → ¬ (b = 21 ∧ 2 ≤ i ∧ i ≤ 7) → ¬ (b = 32 ∧ (i = 9 ∨ i = 10)) → ¬ b = 33 → ¬ b = 34 → ¬ (36 ≤ b ∧ b ≤ 69) → ¬ (73 ≤ b ∧ b ≤ 75) → m b i = μ b i
theorem loC.trans {μ m n : mM} (h : loC μ m) (k : loC m n) : loC μ n := fun b i h0 h1 h2 h3 h4 h5 h6 => (k b i h0 h1 h2 h3 h4 h5 h6).trans (h b i h0 h1 h2 h3 h4 h5 h6)
theorem frC.lo {μ m : mM} (h : frC μ m) : loC μ m := fun b i _ h1 h2 _ _ h5 h6 => h b i h1 (by omega) h5 h6
section LookC
variable {w : mW} {μ : mM} {E : En} {S : Sn} {d p : Nat}
theorem X8_lookL_s {Q : mM → Prop} {m0 : mM} {S1 : Sn} (hw : mWF w) (hT : mT w μ) (ev : envC w μ E) (F0 : mF lEC w μ m0) (st : snC m0 E S1) (sn : snG E S1) (ti : tiG E) (tG : thG E) (pa : paG E) (hp : p < 10)
    (k : ∀ m : mM, snC m E (forN (sayD E (d : Int) p) (eT E) S1) → loC m0 m → Q m) : loopF (WL_X8_look_W_2 w (d : Int) (p : Int) Q m0) False 22 (0, m0) := by
  have t20 := ti.2.2.1
  refine loopF.im (fun z m => 0 ≤ z ∧ z ≤ (eT E : Int) ∧ loC m0 m ∧ snC m E (forN (sayD E (d : Int) p) z.toNat S1)) (fun z => (21 - z).toNat) ⟨by omega, by omega, fun _ _ _ _ _ _ _ _ _ => rfl, st⟩ (by omega) ?_
  rintro rc z m ⟨z0, z1, lo, hs⟩ ih z' m' e hz T F n en hn
  cases e
  have Fm : mF lEC w μ m := F0.call F rfl
  have evm := envC.fr hw hT ev Fm
  rw [evm.1] at en
  subst en
  have zt : ∀ g : z < (eT E : Int), z.toNat < eT E := fun g => by omega
  have snm := (forN.sn (d := (d : Int)) sn tG pa hp z.toNat (by omega)).1
  have next : ∀ m2 : mM, loC m m2 → snC m2 E (sayD E (d : Int) p z.toNat (forN (sayD E (d : Int) p) z.toNat S1)) → z < (eT E : Int) → rc (z + 1, m2) := fun m2 l2 s2 g => ih _ _ ⟨by omega, by omega, lo.trans l2, by rw [show (z + 1).toNat = z.toNat + 1 by omega]; exact s2⟩ (by omega)
  refine ⟨fun g => k m (by rw [show eT E = z.toNat by omega]; exact hs) lo, fun g b eb hb => ?_⟩
  obtain ⟨a1, a2, a3, a4, a5, a6⟩ := evm.2.2.2.2.1 z.toNat (zt g)
  have eb' : b = tbA m z.toNat := by
    have t1 := (evm.2.2.2.1.1 z.toNat (zt g)).1
    omega
  subst eb'
  refine X9_sideOf_s ?_
  rw [a1, a2]
  have es : sdI (eA E z.toNat) (eB E z.toNat) (d : Int) = sdE E (d : Int) z.toNat := rfl
  rw [es]
  intro rs
  refine ⟨fun c => next m (fun _ _ _ _ _ _ _ _ _ => rfl) (by unfold sayD; rw [if_pos c]; exact hs) g, fun c => ?_⟩
  obtain ⟨s, hs1, hs2, hd⟩ := sdE.side (show ¬ sdE E (d : Int) z.toNat < 0 by omega)
  have key : ∀ L : List Nat, WP_X8_say_W w m ((z.toNat : Nat) : Int) (s : Int) (p : Int) (fun m2 => mT w m2 → mF L w m m2 → rc (z + 1, m2)) := by
    intro L
    refine X8_say_s hw T evm hs snm ti tG (zt g) hs2 hp (pa _ (zt g)) snm.2.2.2.2.2.2.2.1 fun m2 s2 l2 _ _ => next m2 l2 ?_ g
    unfold sayD
    rw [if_neg (by omega), hs1, Int.toNat_natCast]
    exact s2
  rw [show ((z.toNat : Nat) : Int) = z by omega, ← hs1] at key
  exact key _
end LookC
section LookC2
variable {w : mW} {μ : mM} {E : En} {S : Sn} {d p : Nat}
/-- at most nine candidates: partners differ -/
theorem cdE.ptn {t : Nat} {d : Int} {x : Cd} (h : cdE E S d p t = some x) : x.1 = (t : Int) ∧ ∃ s : Nat, s < 2 ∧ d = eN E t s ∧ x.2.1 = eN E t (1 - s) := by
  have nn : ¬ sdE E d t < 0 := fun c => by
    unfold cdE at h
    rw [if_pos c] at h; cases h
  obtain ⟨s, hs, hs2, hd⟩ := sdE.side nn
  rw [cdE.at hs] at h
  obtain ⟨_, r, _, _, _, e⟩ := cdAt.some' h
  subst e
  exact ⟨rfl, s, hs2, hd, rfl⟩
theorem cdsN.len (ti : tiG E) {d : Int} : ∀ n, n ≤ eT E → (cdsN E S d p n).length ≤ 9 := by
  intro n hn
  -- ties at d, each with its partner
  have key : ∀ m, m ≤ n → ∃ f : Nat → Nat, (∀ i, i < (cdsN E S d p m).length → f i < m ∧ ∃ s : Nat, s < 2 ∧ d = eN E (f i) s) ∧ ∀ i j, i < j → j < (cdsN E S d p m).length → f i < f j := by
    intro m
    induction m with
    | zero => exact fun _ => ⟨fun _ => 0, fun i hi => absurd hi (Nat.not_lt_zero i), fun i j _ hj => absurd hj (Nat.not_lt_zero j)⟩
    | succ m ih =>
      intro hm
      obtain ⟨f, h1, h2⟩ := ih (by omega)
      cases e : cdE E S d p m with
      | none =>
        have q : cdsN E S d p (m + 1) = cdsN E S d p m := fmN.no e
        rw [q]
        exact ⟨f, fun i hi => ⟨by have := (h1 i hi).1; omega, (h1 i hi).2⟩, h2⟩
      | some x =>
        have q : cdsN E S d p (m + 1) = cdsN E S d p m ++ [x] := fmN.yes e
        have ql : (cdsN E S d p (m + 1)).length = (cdsN E S d p m).length + 1 := by rw [q, List.length_append]; rfl
        rw [ql]
        obtain ⟨_, s, hs2, hd, _⟩ := cdE.ptn e
        refine ⟨fun i => if i = (cdsN E S d p m).length then m else f i, fun i hi => ?_, fun i j hij hj => ?_⟩
        · show (if i = (cdsN E S d p m).length then m else f i) < m + 1 ∧ ∃ s : Nat, s < 2 ∧ d = eN E (if i = (cdsN E S d p m).length then m else f i) s
          by_cases c : i = (cdsN E S d p m).length
          · rw [if_pos c]
            exact ⟨by omega, s, hs2, hd⟩
          · rw [if_neg c]
            have := h1 i (by omega)
            exact ⟨by omega, this.2⟩
        · show (if i = (cdsN E S d p m).length then m else f i) < (if j = (cdsN E S d p m).length then m else f j)
          rw [if_neg (by omega)]
          by_cases c : j = (cdsN E S d p m).length
          · rw [if_pos c]
            exact (h1 i (by omega)).1
          · rw [if_neg c]
            exact h2 i j hij (by omega)
  obtain ⟨f, h1, h2⟩ := key n (Nat.le_refl n)
  -- partners are numbers below ten, none is d
  have hD := ti.2.2.2.1
  have ptn : ∀ i, i < (cdsN E S d p n).length → ∃ q : Nat, q < 10 ∧ ¬ (q : Int) = d ∧ ((eA E (f i) = d ∧ eB E (f i) = (q : Int)) ∨ (eB E (f i) = d ∧ eA E (f i) = (q : Int))) := fun i hi => by
    obtain ⟨g1, s, g2, g3⟩ := h1 i hi
    have t := ti.1 (f i) (by omega)
    unfold eN at g3
    by_cases c : s = 0
    · rw [if_pos c] at g3
      exact ⟨(eB E (f i)).toNat, by omega, by omega, Or.inl ⟨g3.symm, by omega⟩⟩
    · rw [if_neg c] at g3
      exact ⟨(eA E (f i)).toNat, by omega, by omega, Or.inr ⟨g3.symm, by omega⟩⟩
  by_cases e0 : (cdsN E S d p n).length = 0
  · omega
  have dd : ∃ q : Nat, q < 10 ∧ d = (q : Int) := by
    obtain ⟨g1, s, g2, g3⟩ := h1 0 (by omega)
    have t := ti.1 (f 0) (by omega)
    unfold eN at g3
    by_cases c : s = 0
    · rw [if_pos c] at g3
      exact ⟨(eA E (f 0)).toNat, by omega, by omega⟩
    · rw [if_neg c] at g3
      exact ⟨(eB E (f 0)).toNat, by omega, by omega⟩
  obtain ⟨qd, hq10, hqd⟩ := dd
  have pc : ∃ g : Nat → Nat, ∀ i, i < (cdsN E S d p n).length → g i < 10 ∧ ¬ ((g i : Nat) : Int) = d ∧ ((eA E (f i) = d ∧ eB E (f i) = ((g i : Nat) : Int)) ∨ (eB E (f i) = d ∧ eA E (f i) = ((g i : Nat) : Int))) := ⟨fun i => if h : i < (cdsN E S d p n).length then (ptn i h).choose else 0, fun i hi => by
    simp only [dif_pos hi]
    exact (ptn i hi).choose_spec⟩
  obtain ⟨g, hg⟩ := pc
  have pg := pigeon 10 ((cdsN E S d p n).length + 1) (fun i => if i < (cdsN E S d p n).length then g i else qd) (fun i hi => ?_) (fun i j hij hj => ?_)
  · omega
  · show (if i < (cdsN E S d p n).length then g i else qd) < 10
    split
    · rename_i h; exact (hg i h).1
    · exact hq10
  · show (if i < (cdsN E S d p n).length then g i else qd) ≠ (if j < (cdsN E S d p n).length then g j else qd)
    rw [if_pos (by omega)]
    have gi := hg i (by omega)
    by_cases c : j < (cdsN E S d p n).length
    · rw [if_pos c]
      intro e
      have gj := hg j c
      have o := h2 i j hij c
      have a1 := (h1 i (by omega)).1
      have a2 := (h1 j c).1
      have u := ti.2.1 (f i) (f j) (by omega) (by omega) (by omega)
      rw [← e] at gj
      omega
    · rw [if_neg c]
      intro e
      rw [e, ← hqd] at gi
      exact gi.2.1 rfl
end LookC2
end
section
/-! What is picked anew is in order. -/
theorem bst.mem {l : List Int} : ∀ {q : List Cd} {o : Option Cd} {x : Cd}, bst l q o = some x → x ∈ q ∨ o = some x
  | [], _, _, h => Or.inr h
  | y :: q, none, x, h => by
    have h : bst l q (some y) = some x := h
    rcases bst.mem h with c | c
    · exact Or.inl (List.mem_cons_of_mem _ c)
    · cases c
      exact Or.inl (List.mem_cons_self)
  | y :: q, some b, x, h => by
    have h : bst l q (if bts l y b = true then some y else some b) = some x := h
    rcases bst.mem h with c | c
    · exact Or.inl (List.mem_cons_of_mem _ c)
    · by_cases g : bts l y b = true
      · rw [if_pos g] at c
        cases c
        exact Or.inl (List.mem_cons_self)
      · rw [if_neg g] at c
        exact Or.inr c
theorem grp.mem {l : List Int} {cs : List Cd} {k : Int} {x : Cd} (h : grp l cs k = some x) : x ∈ cs ∧ ky x = k := by
  unfold grp at h
  rcases bst.mem h with c | c
  · have := List.mem_filter.mp c
    exact ⟨this.1, of_decide_eq_true this.2⟩
  · cases c
theorem pickE.mem {g : Int} {l : List Int} {cs : List Cd} {x : Cd} (h : pickE g l cs = some x) : x ∈ cs := by
  unfold pickE at h
  by_cases c : g = 0
  · rw [if_pos c] at h
    rcases bst.mem h with q | q
    · exact q
    · cases q
  · rw [if_neg c] at h
    unfold pickG at h
    rcases bst.mem h with q | q
    · rcases List.mem_append.mp q with a | a
      · exact (List.mem_filter.mp a).1
      · obtain ⟨k, _, e⟩ := List.mem_filterMap.mp a
        exact (grp.mem e).1
    · cases q
theorem cdsN.mem {E : En} {S : Sn} {d : Int} {p n : Nat} {x : Cd} (h : x ∈ cdsN E S d p n) : ∃ t, t < n ∧ cdE E S d p t = some x := by
  unfold cdsN at h
  obtain ⟨t, ht, e⟩ := List.mem_filterMap.mp h
  exact ⟨t, List.mem_range.mp ht, e⟩
theorem cdE.good {E : En} {S : Sn} {d : Int} {p t : Nat} {x : Cd} (sn : snG E S) (tG : thG E) (hp : p < 10) (h : cdE E S d p t = some x) : rtO p (some x.2.2.2) := by
  have nn : ¬ sdE E d t < 0 := fun c => by
    unfold cdE at h
    rw [if_pos c] at h; cases h
  obtain ⟨s, hs, hs2, hd⟩ := sdE.side nn
  rw [cdE.at hs] at h
  obtain ⟨_, r, e1, _, _, e⟩ := cdAt.some' h
  subst e
  refine tG.1 _ _ _ r p ?_
  have g := sn.2.2.1 (slt t s p)
  rw [e1] at g
  have e2 : slt t s p % 10 = p := by unfold slt; omega
  rw [e2] at g
  exact g
theorem newP.own {E : En} {S : Sn} {d p : Nat} (h : 0 ≤ eOw E (10 * d + p)) : newP E S (d : Int) p = (-4, some ((p : Int), 100, eOw E (10 * d + p), 0, [], [])) := by
  unfold newP
  rw [Int.toNat_natCast, if_pos h]
theorem newP.no {E : En} {S : Sn} {d p : Nat} (h : ¬ 0 ≤ eOw E (10 * d + p)) (e : pickE (eGr E d) (eSt E d) (cdsN E S (d : Int) p (eT E)) = none) : newP E S (d : Int) p = (-99999999, none) := by
  unfold newP
  rw [Int.toNat_natCast, if_neg h, e]
theorem newP.yes {E : En} {S : Sn} {d p : Nat} {c : Cd} (h : ¬ 0 ≤ eOw E (10 * d + p)) (e : pickE (eGr E d) (eSt E d) (cdsN E S (d : Int) p (eT E)) = some c) : newP E S (d : Int) p = (c.1, some c.2.2.2) := by
  unfold newP
  rw [Int.toNat_natCast, if_neg h, e]
theorem newP.good {E : En} {S : Sn} {d p : Nat} (sn : snG E S) (tG : thG E) (hp : p < 10) (ho : eOw E (10 * d + p) ≤ 2) : rtO p (newP E S (d : Int) p).2 ∧ ((newP E S (d : Int) p).1 = -99999999 ↔ (newP E S (d : Int) p).2 = none) := by
  by_cases h : 0 ≤ eOw E (10 * d + p)
  · rw [newP.own h]
    refine ⟨fun r e => ?_, ⟨fun e => absurd e (by show ¬ (-4 : Int) = -99999999; decide), fun e => by cases e⟩⟩
    have e : some ((p : Int), (100 : Int), eOw E (10 * d + p), (0 : Int), ([] : List Int), ([] : List Int)) = some r := e
    cases e
    exact ⟨rfl, List.Pairwise.nil, Nat.zero_le _, Nat.zero_le _, ⟨by show (0 : Int) ≤ 100; decide, by show (100 : Int) ≤ 1000; decide⟩, ⟨h, ho⟩, ⟨by show (0 : Int) ≤ 0; decide, by show (0 : Int) ≤ 1000000; decide⟩⟩
  · cases e : pickE (eGr E d) (eSt E d) (cdsN E S (d : Int) p (eT E)) with
    | none =>
      rw [newP.no h e]
      exact ⟨rtO.none', ⟨fun _ => rfl, fun _ => rfl⟩⟩
    | some c =>
      rw [newP.yes h e]
      obtain ⟨t, ht, q⟩ := cdsN.mem (pickE.mem e)
      have c1 := (cdE.ptn q).1
      exact ⟨cdE.good sn tG hp q, ⟨fun g => by
        have g : c.1 = -99999999 := g
        omega, fun g => by cases g⟩⟩
theorem lookE.same {E : En} {S : Sn} {d p : Nat} (h : newP E S (d : Int) p = sPk S (10 * d + p)) : lookE E S (d : Int) p = S := by
  unfold lookE
  rw [Int.toNat_natCast, cIf.pos h]
theorem lookE.new {E : En} {S : Sn} {d p : Nat} (h : ¬ newP E S (d : Int) p = sPk S (10 * d + p)) : lookE E S (d : Int) p = forN (sayD E (d : Int) p) (eT E) (pk! S (10 * d + p) (newP E S (d : Int) p)) := by
  unfold lookE
  rw [Int.toNat_natCast, cIf.neg h]
theorem newP.px {E : En} {S : Sn} {d p : Nat} (sn : snG E S) (tG : thG E) (hd : d < eD E) (hp : p < 10) (h : eP E ≤ p) : (newP E S (d : Int) p).2 = none := by
  have ow := tG.2 d p hd h hp
  cases e : pickE (eGr E d) (eSt E d) (cdsN E S (d : Int) p (eT E)) with
  | none => rw [newP.no (by omega) e]
  | some c =>
    obtain ⟨t, ht, q⟩ := cdsN.mem (pickE.mem e)
    unfold cdE at q
    by_cases c1 : sdE E (d : Int) t < 0
    · rw [if_pos c1] at q; cases q
    · rw [if_neg c1] at q
      obtain ⟨_, r, er, _⟩ := cdAt.some' q
      have z := (sn.2.2.2.2.2.2.2.2.2 (slt t (sdE E (d : Int) t).toNat p) (by unfold slt; omega)).2.2
      rw [er] at z
      cases z
theorem lookE.sn {E : En} {S : Sn} {d p : Nat} (sn : snG E S) (tG : thG E) (pa : paG E) (hd : d < eD E) (hp : p < 10) (ho : eOw E (10 * d + p) ≤ 2) : snG E (lookE E S (d : Int) p) ∧ sMd S ≤ sMd (lookE E S (d : Int) p) ∧ sMd (lookE E S (d : Int) p) ≤ sMd S + (eT E : Int) := by
  by_cases c : newP E S (d : Int) p = sPk S (10 * d + p)
  · rw [lookE.same c]
    exact ⟨sn, Int.le_refl _, by omega⟩
  · rw [lookE.new c]
    have g := newP.good (d := d) sn tG hp ho
    have e : (10 * d + p) % 10 = p := by omega
    exact forN.sn (sn.pick (by rw [e]; exact g.1) g.2 (by rw [e]; exact newP.px sn tG hd hp)) tG pa hp (eT E) (Nat.le_refl _)
end
section
/-! The class's grouped pick. -/
theorem lAnd32 {x z : Int} (q : lAnd x 4294967295 = z) : z = x % 4294967296 := by
  subst q
  unfold lAnd
  have e : (Int64.ofInt x &&& Int64.ofInt 4294967295).toBitVec.toNat = (Int64.ofInt x).toBitVec.toNat % 2 ^ 32 := by
    rw [Int64.toBitVec_and, BitVec.toNat_and]
    have h : (Int64.ofInt 4294967295).toBitVec.toNat = 2 ^ 32 - 1 := by decide
    rw [h, Nat.and_two_pow_sub_one_eq_mod]
  have t : (Int64.ofInt x &&& Int64.ofInt 4294967295).toInt = (Int64.ofInt x &&& Int64.ofInt 4294967295).toBitVec.toInt := rfl
  rw [t, BitVec.toInt_eq_toNat_of_lt (by rw [e]; omega), e]
  have n : (Int64.ofInt x).toBitVec.toNat = (x % ((2 ^ 64 : Nat) : Int)).toNat := BitVec.toNat_ofInt x
  have p : ((2 ^ 64 : Nat) : Int) = 18446744073709551616 := by decide
  rw [p] at n
  rw [n]
  omega
theorem lCmp_pos {x y z : Int} (q : lCmp x y = z) (hx : -9223372036854775808 ≤ x ∧ x ≤ 9223372036854775807) (hy : -9223372036854775808 ≤ y ∧ y ≤ 9223372036854775807) : 0 < z ↔ y < x := by
  subst q
  unfold lCmp lg_cmp
  split
  · rename_i h
    have h : Int64.ofInt y < Int64.ofInt x := h
    rw [Int64.lt_iff_toInt_lt, jvI hx, jvI hy] at h
    exact ⟨fun _ => h, fun _ => by decide⟩
  · rename_i h
    have h2 : ¬ y < x := fun c => h (by show Int64.ofInt y < Int64.ofInt x; rw [Int64.lt_iff_toInt_lt, jvI hx, jvI hy]; exact c)
    split
    · exact ⟨fun e => absurd e (by decide), fun c => absurd c h2⟩
    · exact ⟨fun e => absurd e (by decide), fun c => absurd c h2⟩
theorem kyL.row {f : Nat → Int} {n : Int} : kyL (rowL f n.toNat) = if 0 < n then (if f 0 < 0 then f 0 + 4294967296 else f 0) else -1 := by
  by_cases c : 0 < n
  · obtain ⟨k, e⟩ : ∃ k, n.toNat = k + 1 := ⟨n.toNat - 1, by omega⟩
    rw [if_pos c, e, rowL.head]
    rfl
  · rw [if_neg c, show n.toNat = 0 by omega]
    rfl
theorem ky.of {μ : mM} {a : Nat} : ky (cdv μ a) = if 0 < μ a 7 then (if μ (a + 1) 0 < 0 then μ (a + 1) 0 + 4294967296 else μ (a + 1) 0) else -1 := kyL.row
theorem ky.sh {μ : mM} {a b : Nat} (ha : -2147483648 ≤ μ (a + 1) 0 ∧ μ (a + 1) 0 ≤ 2147483647) (hb : -2147483648 ≤ μ (b + 1) 0 ∧ μ (b + 1) 0 ≤ 2147483647) : (0 < μ a 7 ∧ 0 < μ b 7 ∧ μ (a + 1) 0 = μ (b + 1) 0) ↔ (ky (cdv μ a) = ky (cdv μ b) ∧ ¬ ky (cdv μ b) = -1) := by
  rw [ky.of, ky.of]
  by_cases c1 : 0 < μ a 7
  · rw [if_pos c1]
    by_cases c2 : 0 < μ b 7
    · rw [if_pos c2]
      by_cases c3 : μ (a + 1) 0 < 0
      · rw [if_pos c3]
        by_cases c4 : μ (b + 1) 0 < 0
        · rw [if_pos c4]; omega
        · rw [if_neg c4]; omega
      · rw [if_neg c3]
        by_cases c4 : μ (b + 1) 0 < 0
        · rw [if_pos c4]; omega
        · rw [if_neg c4]; omega
    · rw [if_neg c2]; omega
  · rw [if_neg c1]
    constructor
    · intro h; exact absurd h.1 c1
    · intro h; omega
def kyC (μ : mM) (i : Nat) : Int := ky (cdC μ i)
theorem lst.fil {α : Type} {g : Nat → α} {n : Nat} {P : α → Bool} : (lst g (n + 1)).filter P = (lst g n).filter P ++ (if P (g n) = true then [g n] else []) := by
  rw [lst.succ, List.filter_append]
  by_cases c : P (g n) = true
  · rw [if_pos c, List.filter_cons_of_pos c]; rfl
  · rw [if_neg c, List.filter_cons_of_neg c]; rfl
section Grp
variable {w : mW} {μ : mM}
theorem cellC (hw : mWF w) (hT : mT w μ) (h35 : ∀ i, i < 10 → μ 35 i = ((36 + 3 * i : Nat) : Int)) {i : Nat} (hi : i < 10) : mAt w (36 + 3 * i) 200 ∧ (-2147483648 ≤ μ (36 + 3 * i + 1) 0 ∧ μ (36 + 3 * i + 1) 0 ≤ 2147483647) := by
  have g : 0 ≤ μ 35 i ∧ mAt w (μ 35 i).toNat 200 := hT 35 35 (A_35 hw) i
  rw [h35 i hi, Int.toNat_natCast] at g
  have g1 : mAt w (36 + 3 * i + 1) 201 := (hT (36 + 3 * i) 200 g.2 0).2
  exact ⟨g.2, hT (36 + 3 * i + 1) 201 g1 0⟩
theorem kyC.rng (hw : mWF w) (hT : mT w μ) (h35 : ∀ i, i < 10 → μ 35 i = ((36 + 3 * i : Nat) : Int)) {i : Nat} (hi : i < 10) : kyC μ i = -1 ∨ (0 ≤ kyC μ i ∧ kyC μ i < 4294967296) := by
  have g := (cellC hw hT h35 hi).2
  unfold kyC cdC
  rw [ky.of]
  by_cases c1 : 0 < μ (36 + 3 * i) 7
  · rw [if_pos c1]
    by_cases c3 : μ (36 + 3 * i + 1) 0 < 0
    · rw [if_pos c3]; omega
    · rw [if_neg c3]; omega
  · rw [if_neg c1]; exact Or.inl rfl
theorem X8_groupOrder_s {i : Int} {Q : Int → mM → Prop} (h35 : ∀ i, i < 10 → μ 35 i = ((36 + 3 * i : Nat) : Int)) (hi : 0 ≤ i ∧ i ≤ 9) (k : Q (kyC μ i.toNat) μ) : WP_X8_groupOrder_W w μ i Q := by
  intro b eb hb z4 e4 h4
  have eb' : b = 36 + 3 * i.toNat := by
    rw [h35 i.toNat (by omega)] at eb
    omega
  subst eb'
  unfold kyC cdC at k
  rw [ky.of, e4] at k
  refine ⟨fun c z22 e22 h22 z25 e25 z28 e28 => ?_, fun c => ?_⟩
  · rw [if_pos (by omega)] at k
    have e0 : μ (36 + 3 * i.toNat + 1) 0 = z22 := e22
    have e := lAnd32 e28
    rw [e0] at k
    by_cases q : z22 < 0
    · rw [if_pos q] at k
      have e1 : z28 = z22 + 4294967296 := by omega
      rw [e1]; exact k
    · rw [if_neg q] at k
      have e1 : z28 = z22 := by omega
      rw [e1]; exact k
  · rw [if_neg (by omega)] at k
    exact k
theorem X8_isFirstOfGroup_s {i : Int} {Q : Int → mM → Prop} (hw : mWF w) (hT : mT w μ) (h35 : ∀ i, i < 10 → μ 35 i = ((36 + 3 * i : Nat) : Int)) (hi : 0 ≤ i ∧ i ≤ 9) (k : ∀ z : Int, (z = 1 ↔ ∀ j : Nat, (j : Int) < i → ¬ (kyC μ j = kyC μ i.toNat ∧ ¬ kyC μ i.toNat = -1)) → Q z μ) : WP_X8_isFirstOfGroup_W w μ i Q := by
  refine loopF.i (fun s => 0 ≤ s ∧ s ≤ i ∧ ∀ j : Nat, (j : Int) < s → ¬ (kyC μ j = kyC μ i.toNat ∧ ¬ kyC μ i.toNat = -1)) (fun s => (10 - s).toNat) ⟨by omega, by omega, fun j hj => by omega⟩ (by omega) ?_
  rintro rc s ⟨s0, s1, h⟩ ih s' e hs
  subst e
  refine ⟨fun g => k 1 ⟨fun _ j hj => h j (by omega), fun _ => rfl⟩, fun g b eb hb c ec hc => ?_⟩
  have eb' : b = 36 + 3 * s.toNat := by
    rw [h35 s.toNat (by omega)] at eb
    omega
  have ec' : c = 36 + 3 * i.toNat := by
    rw [h35 i.toNat (by omega)] at ec
    omega
  subst eb' ec'
  have sh := ky.sh (cellC hw hT h35 (i := s.toNat) (by omega)).2 (cellC hw hT h35 (i := i.toNat) (by omega)).2
  refine X7_sharesFirst_s fun z hz rz => ⟨fun c => ih _ ⟨by omega, by omega, fun j hj => ?_⟩ (by omega), fun c => k 0 ⟨fun e => absurd e (by decide), fun e => ?_⟩⟩
  · by_cases q : (j : Int) = s
    · have q2 : j = s.toNat := by omega
      subst q2
      intro x
      have := hz.mpr (sh.mpr x)
      omega
    · exact h j (by omega)
  · exact absurd (sh.mp (hz.mp (by omega))) (e s.toNat (by omega))
theorem X8_bestOfGroup_s {i : Int} {a0 : Nat} {Q : Int → mM → Prop} (hw : mWF w) (hT : mT w μ) (h35 : ∀ i, i < 10 → μ 35 i = ((36 + 3 * i : Nat) : Int)) (hi : 0 ≤ i ∧ i < μ 32 9)
    (k : ∀ z : Int, 0 ≤ z → z < μ 32 9 → (kyC μ i.toNat = -1 → z = i) → (¬ kyC μ i.toNat = -1 → (∀ j : Nat, (j : Int) < i → ¬ kyC μ j = kyC μ i.toNat) → grp (rowL (μ (a0 + 1)) (μ a0 4).toNat) (lst (cdC μ) (μ 32 9).toNat) (kyC μ i.toNat) = some (cdC μ z.toNat)) → Q z μ) : WP_X8_bestOfGroup_W w μ a0 i Q := by
  refine loopF.ii (fun b s => 0 ≤ b ∧ b < s ∧ i < s ∧ s ≤ μ 32 9 ∧ (kyC μ i.toNat = -1 → b = i) ∧ (¬ kyC μ i.toNat = -1 → (∀ j : Nat, (j : Int) < i → ¬ kyC μ j = kyC μ i.toNat) → bst (rowL (μ (a0 + 1)) (μ a0 4).toNat) ((lst (cdC μ) s.toNat).filter fun c => decide (ky c = kyC μ i.toNat)) none = some (cdC μ b.toNat))) (fun _ s => (10 - s).toNat) ⟨by omega, by omega, by omega, by omega, fun _ => rfl, fun _ h => ?_⟩ (by omega) ?_
  · rw [show (i + 1).toNat = i.toNat + 1 by omega, lst.fil, if_pos (show decide (ky (cdC μ i.toNat) = kyC μ i.toNat) = true from decide_eq_true rfl)]
    have e : (lst (cdC μ) i.toNat).filter (fun c => decide (ky c = kyC μ i.toNat)) = [] := List.filter_eq_nil_iff.mpr fun x hx => by
      unfold lst at hx
      obtain ⟨j, hj, ej⟩ := List.mem_map.mp hx
      have hj := List.mem_range.mp hj
      subst ej
      intro q
      exact h j (by omega) (of_decide_eq_true q)
    rw [e]
    rfl
  rintro rc b s ⟨b0, b1, s0, s1, h1, h2⟩ ih b' s' e hb hs n en hn
  cases e
  subst en
  refine ⟨fun g => ?_, fun g c ec hc d ed hd => ?_⟩
  · have e : s = μ 32 9 := by omega
    subst e
    exact k b b0 b1 h1 h2
  have ec' : c = 36 + 3 * s.toNat := by
    rw [h35 s.toNat (by omega)] at ec
    omega
  have ed' : d = 36 + 3 * i.toNat := by
    rw [h35 i.toNat (by omega)] at ed
    omega
  subst ec' ed'
  have sh := ky.sh (cellC hw hT h35 (i := s.toNat) (by omega)).2 (cellC hw hT h35 (i := i.toNat) (by omega)).2
  refine X7_sharesFirst_s fun z hz rz => ⟨fun c => ih _ _ ⟨b0, by omega, by omega, by omega, h1, fun q1 q2 => ?_⟩ (by omega), fun c f ef hf => ?_⟩
  · rw [show (s + 1).toNat = s.toNat + 1 by omega, lst.fil, if_neg, List.append_nil]
    · exact h2 q1 q2
    · intro q
      have := hz.mpr (sh.mpr ⟨of_decide_eq_true q, q1⟩)
      omega
  have sm := sh.mp (hz.mp (by omega))
  have ef' : f = 36 + 3 * b.toNat := by
    rw [h35 b.toNat (by omega)] at ef
    omega
  subst ef'
  have nx : ¬ kyC μ i.toNat = -1 → (∀ j : Nat, (j : Int) < i → ¬ kyC μ j = kyC μ i.toNat) → bst (rowL (μ (a0 + 1)) (μ a0 4).toNat) ((lst (cdC μ) (s + 1).toNat).filter fun c => decide (ky c = kyC μ i.toNat)) none = if bts (rowL (μ (a0 + 1)) (μ a0 4).toNat) (cdC μ s.toNat) (cdC μ b.toNat) = true then some (cdC μ s.toNat) else some (cdC μ b.toNat) := fun q1 q2 => by
    rw [show (s + 1).toNat = s.toNat + 1 by omega, lst.fil, if_pos (show decide (ky (cdC μ s.toNat) = kyC μ i.toNat) = true from decide_eq_true sm.1), bst.app, h2 q1 q2]
    rfl
  refine X0_prefers_s fun y hy ry => ⟨fun c2 => ih _ _ ⟨b0, by omega, by omega, by omega, h1, fun q1 q2 => ?_⟩ (by omega), fun c2 => ih _ _ ⟨by omega, by omega, by omega, by omega, fun q => absurd q sm.2, fun q1 q2 => ?_⟩ (by omega)⟩
  · rw [nx q1 q2, if_neg]
    intro t
    have := hy.mpr t
    omega
  · rw [nx q1 q2, if_pos (show bts (rowL (μ (a0 + 1)) (μ a0 4).toNat) (cdC μ s.toNat) (cdC μ b.toNat) = true from hy.mp (by omega))]
theorem kyC.onW {m : mM} (h : onW μ m) {i : Nat} (hi : i < 10) : kyC m i = kyC μ i := by
  unfold kyC
  rw [cdC.onW h hi]
theorem X8_insertWinner_s {n x : Int} {Q : mM → Prop} (h35 : ∀ i, i < 10 → μ 35 i = ((36 + 3 * i : Nat) : Int)) (hn : 0 ≤ n ∧ n ≤ 9) (hx : 0 ≤ x ∧ x ≤ 9) (hr : ∀ j : Nat, (j : Int) < n → 0 ≤ μ 66 j ∧ μ 66 j ≤ 9) (hw : mWF w) (hT : mT w μ)
    (hs : ∀ i j : Nat, i < j → (j : Int) < n → kyC μ (μ 66 i).toNat ≤ kyC μ (μ 66 j).toNat)
    (k : ∀ (m : mM) (z : Nat), onW μ m → (z : Int) ≤ n → (∀ j, j < z → m 66 j = μ 66 j) → m 66 z = x → (∀ j : Nat, z ≤ j → (j : Int) < n → m 66 (j + 1) = μ 66 j) → (∀ j, j < z → kyC μ (μ 66 j).toNat ≤ kyC μ x.toNat) → (∀ j : Nat, z ≤ j → (j : Int) < n → kyC μ x.toNat < kyC μ (μ 66 j).toNat) → Q m) : WP_X8_insertWinner_W w μ n x Q := by
  refine loopF.im (fun z m => 0 ≤ z ∧ z ≤ n ∧ onW μ m ∧ (∀ j : Nat, (j : Int) < z → m 66 j = μ 66 j) ∧ (∀ j : Nat, z ≤ (j : Int) → (j : Int) < n → m 66 (j + 1) = μ 66 j) ∧ (∀ j : Nat, z ≤ (j : Int) → (j : Int) < n → kyC μ x.toNat < kyC μ (μ 66 j).toNat)) (fun z => z.toNat) ⟨hn.1, by omega, fun _ _ _ => rfl, fun _ _ => rfl, fun j h1 h2 => by omega, fun j h1 h2 => by omega⟩ (by omega) ?_
  rintro rc z m ⟨z0, z1, ow, h1, h2, h3⟩ ih z' m' e hz T F
  cases e
  have put : ∀ m2 : mM, mU m 66 z.toNat x m2 → (∀ j : Nat, (j : Int) < z → kyC μ (μ 66 j).toNat ≤ kyC μ x.toNat) → Q m2 := fun m2 u h => by
    obtain rfl := u.is
    refine k _ z.toNat (fun b i hb => ?_) (by omega) (fun j hj => ?_) (mUp.yes ⟨rfl, rfl⟩) (fun j a b => ?_) (fun j hj => h j (by omega)) (fun j a b => h3 j (by omega) b)
    · rw [mUp.no (by omega)]; exact ow b i hb
    · rw [mUp.no (by omega)]; exact h1 j (by omega)
    · rw [mUp.no (by omega)]; exact h2 j (by omega) b
  have m35 : ∀ i, i < 10 → m 35 i = ((36 + 3 * i : Nat) : Int) := fun i hi => by rw [ow 35 i (by omega)]; exact h35 i hi
  refine ⟨fun g m2 u2 T2 => put m2 u2 fun j hj => by omega, fun g y ey hy => ?_⟩
  have e0 : μ 66 (z - 1).toNat = y := by rw [← h1 _ (by omega)]; exact ey
  refine X8_groupOrder_s m35 hy fun T3 F3 r3 => X8_groupOrder_s m35 hx fun T4 F4 r4 v ev => ⟨fun c m2 u2 T2 => put m2 u2 fun j hj => ?_, fun c m2 u2 T2 => ?_⟩
  · have p := lCmp_pos ev (by omega) (by omega)
    rw [kyC.onW ow (by omega), kyC.onW ow (by omega)] at p
    by_cases q : (j : Int) = z - 1
    · have q2 : j = (z - 1).toNat := by omega
      rw [q2, e0]
      omega
    · have := hs j (z - 1).toNat (by omega) (by omega)
      rw [e0] at this
      omega
  · have p := lCmp_pos ev (by omega) (by omega)
    rw [kyC.onW ow (by omega), kyC.onW ow (by omega)] at p
    obtain rfl := u2.is
    refine ih _ _ ⟨by omega, by omega, fun b i hb => ?_, fun j hj => ?_, fun j a b => ?_, fun j a b => ?_⟩ (by omega)
    · rw [mUp.no (by omega)]; exact ow b i hb
    · rw [mUp.no (by omega)]; exact h1 j (by omega)
    · by_cases q : (j : Int) = z - 1
      · have q2 : j = (z - 1).toNat := by omega
        rw [mUp.yes ⟨rfl, by omega⟩, q2, e0]
      · rw [mUp.no (by omega)]; exact h2 j (by omega) b
    · by_cases q : (j : Int) = z - 1
      · have q2 : j = (z - 1).toNat := by omega
        rw [q2, e0]
        exact p.mp c
      · exact h3 j (by omega) b
/-- winners: those of empty ways as they come, then of each key the best -/
noncomputable def winC (l : List Int) (cs : List Cd) (n : Nat) (g : Nat → Cd) : List Cd := (lst g n).filter (fun c => decide (ky c = -1)) ++ (kys (lst g n) []).filterMap (grp l cs)
theorem kys.app : ∀ {a b : List Cd} {k : List Int}, kys (a ++ b) k = kys b (kys a k)
  | [], _, _ => rfl
  | c :: a, b, k => by
    show kys (a ++ b) (if ky c = -1 then k else insK (ky c) k) = kys b (kys a (if ky c = -1 then k else insK (ky c) k))
    exact kys.app
theorem insK.mem {k x : Int} : ∀ {l : List Int}, x ∈ insK k l ↔ (x = k ∨ x ∈ l)
  | [] => by
    show x ∈ [k] ↔ _
    simp
  | y :: l => by
    unfold insK
    by_cases c : k < y
    · rw [if_pos c]
      simp
    · rw [if_neg c]
      by_cases c2 : k = y
      · rw [if_pos c2, c2]
        simp
      · rw [if_neg c2, List.mem_cons, insK.mem, List.mem_cons]
        constructor
        · intro h
          rcases h with h | h | h
          · exact Or.inr (Or.inl h)
          · exact Or.inl h
          · exact Or.inr (Or.inr h)
        · intro h
          rcases h with h | h | h
          · exact Or.inr (Or.inl h)
          · exact Or.inl h
          · exact Or.inr (Or.inr h)
theorem insK.srt' {k : Int} : ∀ {l : List Int}, l.Pairwise (· < ·) → (insK k l).Pairwise (· < ·)
  | [], _ => by
    show [k].Pairwise _
    simp
  | y :: l, h => by
    have h' := List.pairwise_cons.mp h
    unfold insK
    by_cases c : k < y
    · rw [if_pos c]
      refine List.pairwise_cons.mpr ⟨fun z hz => ?_, h⟩
      rcases List.mem_cons.mp hz with e | e
      · rw [e]; exact c
      · exact Int.lt_trans c (h'.1 z e)
    · rw [if_neg c]
      by_cases c2 : k = y
      · rw [if_pos c2]; exact h
      · rw [if_neg c2]
        refine List.pairwise_cons.mpr ⟨fun z hz => ?_, insK.srt' h'.2⟩
        rcases insK.mem.mp hz with e | e
        · rw [e]; omega
        · exact h'.1 z e
theorem insK.old {k : Int} : ∀ {l : List Int}, l.Pairwise (· < ·) → k ∈ l → insK k l = l
  | [], _, h => by cases h
  | y :: l, h, hk => by
    have h' := List.pairwise_cons.mp h
    unfold insK
    rcases List.mem_cons.mp hk with e | e
    · rw [if_neg (by omega), if_pos e]
    · have := h'.1 k e
      rw [if_neg (by omega), if_neg (by omega), insK.old h'.2 e]
theorem kys.srt' : ∀ {q : List Cd} {a : List Int}, a.Pairwise (· < ·) → (kys q a).Pairwise (· < ·)
  | [], _, h => h
  | c :: q, a, h => by
    show (kys q (if ky c = -1 then a else insK (ky c) a)).Pairwise _
    by_cases g : ky c = -1
    · rw [if_pos g]; exact kys.srt' h
    · rw [if_neg g]; exact kys.srt' (insK.srt' h)
theorem kys.mem {x : Int} : ∀ {q : List Cd} {a : List Int}, x ∈ kys q a ↔ (x ∈ a ∨ ∃ c ∈ q, ky c = x ∧ ¬ x = -1)
  | [], a => by
    show x ∈ a ↔ _
    simp
  | c :: q, a => by
    show x ∈ kys q (if ky c = -1 then a else insK (ky c) a) ↔ _
    rw [kys.mem]
    by_cases g : ky c = -1
    · rw [if_pos g]
      constructor
      · rintro (h | ⟨y, hy, e⟩)
        · exact Or.inl h
        · exact Or.inr ⟨y, List.mem_cons_of_mem _ hy, e⟩
      · rintro (h | ⟨y, hy, e, n⟩)
        · exact Or.inl h
        · rcases List.mem_cons.mp hy with q1 | q1
          · subst q1; exact absurd (e.symm.trans g) n
          · exact Or.inr ⟨y, q1, e, n⟩
    · rw [if_neg g, insK.mem]
      constructor
      · rintro ((h | h) | ⟨y, hy, e⟩)
        · exact Or.inr ⟨c, List.mem_cons_self, h.symm, by rw [h]; exact g⟩
        · exact Or.inl h
        · exact Or.inr ⟨y, List.mem_cons_of_mem _ hy, e⟩
      · rintro (h | ⟨y, hy, e, n⟩)
        · exact Or.inl (Or.inr h)
        · rcases List.mem_cons.mp hy with q1 | q1
          · subst q1; exact Or.inl (Or.inl e.symm)
          · exact Or.inr ⟨y, q1, e, n⟩
/-- put in its place behind those that aren't greater -/
def insW (x : Cd) : List Cd → List Cd
  | [] => [x]
  | y :: l => if ky x < ky y then x :: y :: l else y :: insW x l
theorem insW.at {x : Cd} : ∀ {a b : List Cd}, (∀ y ∈ a, ky y ≤ ky x) → (∀ y ∈ b, ky x < ky y) → insW x (a ++ b) = a ++ x :: b
  | [], [], _, _ => rfl
  | [], y :: b, _, h => by
    show (if ky x < ky y then x :: y :: b else y :: insW x b) = x :: y :: b
    rw [if_pos (h y List.mem_cons_self)]
  | y :: a, b, h, h2 => by
    show (if ky x < ky y then x :: y :: (a ++ b) else y :: insW x (a ++ b)) = y :: (a ++ x :: b)
    have := h y List.mem_cons_self
    rw [if_neg (by omega), insW.at (fun z hz => h z (List.mem_cons_of_mem _ hz)) h2]
theorem insW.app {x : Cd} {a b : List Cd} (h : ∀ y ∈ a, ky y ≤ ky x) : insW x (a ++ b) = a ++ insW x b := by
  induction a with
  | nil => rfl
  | cons y a ih =>
    show (if ky x < ky y then x :: y :: (a ++ b) else y :: insW x (a ++ b)) = y :: (a ++ insW x b)
    have := h y List.mem_cons_self
    rw [if_neg (by omega), ih fun z hz => h z (List.mem_cons_of_mem _ hz)]
/-- a new key: its best comes to its place -/
theorem insW.key {l : List Int} {cs : List Cd} {k : Int} {x : Cd} (hx : grp l cs k = some x) : ∀ {ks : List Int}, ks.Pairwise (· < ·) → ¬ k ∈ ks → (∀ y ∈ ks, ∃ c, grp l cs y = some c) → insW x (ks.filterMap (grp l cs)) = (insK k ks).filterMap (grp l cs)
  | [], _, _, _ => by
    show insW x [] = [k].filterMap (grp l cs)
    simp [insW, hx]
  | y :: ks, h, hn, hc => by
    obtain ⟨c, ec⟩ := hc y List.mem_cons_self
    have h' := List.pairwise_cons.mp h
    have e1 : (y :: ks).filterMap (grp l cs) = c :: ks.filterMap (grp l cs) := by simp [ec]
    have kx := (grp.mem hx).2
    have kc := (grp.mem ec).2
    have hne : ¬ k = y := fun e => hn (by rw [e]; exact List.mem_cons_self)
    rw [e1]
    show (if ky x < ky c then x :: c :: ks.filterMap (grp l cs) else c :: insW x (ks.filterMap (grp l cs))) = _
    unfold insK
    rw [kx, kc]
    by_cases g : k < y
    · rw [if_pos g, if_pos g]
      simp [hx, ec]
    · rw [if_neg g, if_neg g, if_neg hne, insW.key hx h'.2 (fun q => hn (List.mem_cons_of_mem _ q)) (fun z hz => hc z (List.mem_cons_of_mem _ hz))]
      simp [ec]
/-- there is a best where there is one -/
theorem bst.there {l : List Int} : ∀ {q : List Cd} {x : Cd}, ∃ y, bst l q (some x) = some y
  | [], x => ⟨x, rfl⟩
  | y :: q, x => by
    show ∃ z, bst l q (if bts l y x = true then some y else some x) = some z
    by_cases c : bts l y x = true
    · rw [if_pos c]; exact bst.there
    · rw [if_neg c]; exact bst.there
theorem grp.there {l : List Int} {cs : List Cd} {k : Int} {c : Cd} (hc : c ∈ cs) (h : ky c = k) : ∃ x, grp l cs k = some x := by
  unfold grp
  have hm : c ∈ cs.filter fun c => decide (ky c = k) := List.mem_filter.mpr ⟨hc, decide_eq_true h⟩
  cases e : cs.filter fun c => decide (ky c = k) with
  | nil => rw [e] at hm; cases hm
  | cons y q => exact bst.there
theorem pwC {l : List Int} {cs : List Cd} : ∀ {ks : List Int}, ks.Pairwise (· < ·) → (ks.filterMap (grp l cs)).Pairwise (fun x y => ky x ≤ ky y)
  | [], _ => List.Pairwise.nil
  | y :: ks, h => by
    have h' := List.pairwise_cons.mp h
    cases e : grp l cs y with
    | none =>
      have e1 : (y :: ks).filterMap (grp l cs) = ks.filterMap (grp l cs) := by simp [e]
      rw [e1]
      exact pwC h'.2
    | some c =>
      have e1 : (y :: ks).filterMap (grp l cs) = c :: ks.filterMap (grp l cs) := by simp [e]
      rw [e1]
      refine List.pairwise_cons.mpr ⟨fun z hz => ?_, pwC h'.2⟩
      obtain ⟨a, ha, q⟩ := List.mem_filterMap.mp hz
      rw [(grp.mem e).2, (grp.mem q).2]
      have := h'.1 a ha
      omega
end Grp
end
