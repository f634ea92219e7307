section
/-! What is picked anew is in order. -/
theorem bst.mem {l : List Int} : ∀ {q : List Cd} {o : Option Cd} {x : Cd}, bst l q o = some x → x ∈ q ∨ o = some x
  | [], _, _, h => Or.inr h
  | y :: q, none, x, h => by
    have h : bst l q (some y) = some x := h
    rcases bst.mem h with c | c
    · exact Or.inl (List.mem_cons_of_mem _ c)
    · cases c
      exact Or.inl (List.mem_cons_self)
  | y :: q, some b, x, h => by
    have h : bst l q (if bts l y b = true then some y else some b) = some x := h
    rcases bst.mem h with c | c
    · exact Or.inl (List.mem_cons_of_mem _ c)
    · by_cases g : bts l y b = true
      · rw [if_pos g] at c
        cases c
        exact Or.inl (List.mem_cons_self)
      · rw [if_neg g] at c
        exact Or.inr c
theorem grp.mem {l : List Int} {cs : List Cd} {k : Int} {x : Cd} (h : grp l cs k = some x) : x ∈ cs ∧ ky x = k := by
  unfold grp at h
  rcases bst.mem h with c | c
  · have := List.mem_filter.mp c
    exact ⟨this.1, of_decide_eq_true this.2⟩
  · cases c
theorem pickE.mem {g : Int} {l : List Int} {cs : List Cd} {x : Cd} (h : pickE g l cs = some x) : x ∈ cs := by
  unfold pickE at h
  by_cases c : g = 0
  · rw [if_pos c] at h
    rcases bst.mem h with q | q
    · exact q
    · cases q
  · rw [if_neg c] at h
    unfold pickG at h
    rcases bst.mem h with q | q
    · rcases List.mem_append.mp q with a | a
      · exact (List.mem_filter.mp a).1
      · obtain ⟨k, _, e⟩ := List.mem_filterMap.mp a
        exact (grp.mem e).1
    · cases q
theorem cdsN.mem {E : En} {S : Sn} {d : Int} {p n : Nat} {x : Cd} (h : x ∈ cdsN E S d p n) : ∃ t, t < n ∧ cdE E S d p t = some x := by
  unfold cdsN at h
  obtain ⟨t, ht, e⟩ := List.mem_filterMap.mp h
  exact ⟨t, List.mem_range.mp ht, e⟩
theorem cdE.good {E : En} {S : Sn} {d : Int} {p t : Nat} {x : Cd} (sn : snG E S) (tG : thG E) (hp : p < 10) (h : cdE E S d p t = some x) : rtO p (some x.2.2.2) := by
  have nn : ¬ sdE E d t < 0 := fun c => by
    unfold cdE at h
    rw [if_pos c] at h; cases h
  obtain ⟨s, hs, hs2, hd⟩ := sdE.side nn
  rw [cdE.at hs] at h
  obtain ⟨_, r, e1, _, _, e⟩ := cdAt.some' h
  subst e
  refine tG.1 _ _ _ r p ?_
  have g := sn.2.2.1 (slt t s p)
  rw [e1] at g
  have e2 : slt t s p % 10 = p := by unfold slt; omega
  rw [e2] at g
  exact g
theorem newP.own {E : En} {S : Sn} {d p : Nat} (h : 0 ≤ eOw E (10 * d + p)) : newP E S (d : Int) p = (-4, some ((p : Int), 100, eOw E (10 * d + p), 0, [], [])) := by
  unfold newP
  rw [Int.toNat_natCast, if_pos h]
theorem newP.no {E : En} {S : Sn} {d p : Nat} (h : ¬ 0 ≤ eOw E (10 * d + p)) (e : pickE (eGr E d) (eSt E d) (cdsN E S (d : Int) p (eT E)) = none) : newP E S (d : Int) p = (-99999999, none) := by
  unfold newP
  rw [Int.toNat_natCast, if_neg h, e]
theorem newP.yes {E : En} {S : Sn} {d p : Nat} {c : Cd} (h : ¬ 0 ≤ eOw E (10 * d + p)) (e : pickE (eGr E d) (eSt E d) (cdsN E S (d : Int) p (eT E)) = some c) : newP E S (d : Int) p = (c.1, some c.2.2.2) := by
  unfold newP
  rw [Int.toNat_natCast, if_neg h, e]
theorem newP.good {E : En} {S : Sn} {d p : Nat} (sn : snG E S) (tG : thG E) (hp : p < 10) (ho : eOw E (10 * d + p) ≤ 2) : rtO p (newP E S (d : Int) p).2 ∧ ((newP E S (d : Int) p).1 = -99999999 ↔ (newP E S (d : Int) p).2 = none) := by
  by_cases h : 0 ≤ eOw E (10 * d + p)
  · rw [newP.own h]
    refine ⟨fun r e => ?_, ⟨fun e => absurd e (by show ¬ (-4 : Int) = -99999999; decide), fun e => by cases e⟩⟩
    have e : some ((p : Int), (100 : Int), eOw E (10 * d + p), (0 : Int), ([] : List Int), ([] : List Int)) = some r := e
    cases e
    exact ⟨rfl, List.Pairwise.nil, Nat.zero_le _, Nat.zero_le _, ⟨by show (0 : Int) ≤ 100; decide, by show (100 : Int) ≤ 1000; decide⟩, ⟨h, ho⟩, ⟨by show (0 : Int) ≤ 0; decide, by show (0 : Int) ≤ 1000000; decide⟩⟩
  · cases e : pickE (eGr E d) (eSt E d) (cdsN E S (d : Int) p (eT E)) with
    | none =>
      rw [newP.no h e]
      exact ⟨rtO.none', ⟨fun _ => rfl, fun _ => rfl⟩⟩
    | some c =>
      rw [newP.yes h e]
      obtain ⟨t, ht, q⟩ := cdsN.mem (pickE.mem e)
      have c1 := (cdE.ptn q).1
      exact ⟨cdE.good sn tG hp q, ⟨fun g => by
        have g : c.1 = -99999999 := g
        omega, fun g => by cases g⟩⟩
theorem lookE.same {E : En} {S : Sn} {d p : Nat} (h : newP E S (d : Int) p = sPk S (10 * d + p)) : lookE E S (d : Int) p = S := by
  unfold lookE
  rw [Int.toNat_natCast, cIf.pos h]
theorem lookE.new {E : En} {S : Sn} {d p : Nat} (h : ¬ newP E S (d : Int) p = sPk S (10 * d + p)) : lookE E S (d : Int) p = forN (sayD E (d : Int) p) (eT E) (pk! S (10 * d + p) (newP E S (d : Int) p)) := by
  unfold lookE
  rw [Int.toNat_natCast, cIf.neg h]
theorem newP.px {E : En} {S : Sn} {d p : Nat} (sn : snG E S) (tG : thG E) (hd : d < eD E) (hp : p < 10) (h : eP E ≤ p) : (newP E S (d : Int) p).2 = none := by
  have ow := tG.2 d p hd h hp
  cases e : pickE (eGr E d) (eSt E d) (cdsN E S (d : Int) p (eT E)) with
  | none => rw [newP.no (by omega) e]
  | some c =>
    obtain ⟨t, ht, q⟩ := cdsN.mem (pickE.mem e)
    unfold cdE at q
    by_cases c1 : sdE E (d : Int) t < 0
    · rw [if_pos c1] at q; cases q
    · rw [if_neg c1] at q
      obtain ⟨_, r, er, _⟩ := cdAt.some' q
      have z := (sn.2.2.2.2.2.2.2.2.2 (slt t (sdE E (d : Int) t).toNat p) (by unfold slt; omega)).2.2
      rw [er] at z
      cases z
theorem lookE.sn {E : En} {S : Sn} {d p : Nat} (sn : snG E S) (tG : thG E) (pa : paG E) (hd : d < eD E) (hp : p < 10) (ho : eOw E (10 * d + p) ≤ 2) : snG E (lookE E S (d : Int) p) ∧ sMd S ≤ sMd (lookE E S (d : Int) p) ∧ sMd (lookE E S (d : Int) p) ≤ sMd S + (eT E : Int) := by
  by_cases c : newP E S (d : Int) p = sPk S (10 * d + p)
  · rw [lookE.same c]
    exact ⟨sn, Int.le_refl _, by omega⟩
  · rw [lookE.new c]
    have g := newP.good (d := d) sn tG hp ho
    have e : (10 * d + p) % 10 = p := by omega
    exact forN.sn (sn.pick (by rw [e]; exact g.1) g.2 (by rw [e]; exact newP.px sn tG hd hp)) tG pa hp (eT E) (Nat.le_refl _)
end
section
/-! The class's grouped pick. -/
theorem lAnd32 {x z : Int} (q : lAnd x 4294967295 = z) : z = x % 4294967296 := by
  subst q
  unfold lAnd
  have e : (Int64.ofInt x &&& Int64.ofInt 4294967295).toBitVec.toNat = (Int64.ofInt x).toBitVec.toNat % 2 ^ 32 := by
    rw [Int64.toBitVec_and, BitVec.toNat_and]
    have h : (Int64.ofInt 4294967295).toBitVec.toNat = 2 ^ 32 - 1 := by decide
    rw [h, Nat.and_two_pow_sub_one_eq_mod]
  have t : (Int64.ofInt x &&& Int64.ofInt 4294967295).toInt = (Int64.ofInt x &&& Int64.ofInt 4294967295).toBitVec.toInt := rfl
  rw [t, BitVec.toInt_eq_toNat_of_lt (by rw [e]; omega), e]
  have n : (Int64.ofInt x).toBitVec.toNat = (x % ((2 ^ 64 : Nat) : Int)).toNat := BitVec.toNat_ofInt x
  have p : ((2 ^ 64 : Nat) : Int) = 18446744073709551616 := by decide
  rw [p] at n
  rw [n]
  omega
theorem lCmp_pos {x y z : Int} (q : lCmp x y = z) (hx : -9223372036854775808 ≤ x ∧ x ≤ 9223372036854775807) (hy : -9223372036854775808 ≤ y ∧ y ≤ 9223372036854775807) : 0 < z ↔ y < x := by
  subst q
  unfold lCmp lg_cmp
  split
  · rename_i h
    have h : Int64.ofInt y < Int64.ofInt x := h
    rw [Int64.lt_iff_toInt_lt, jvI hx, jvI hy] at h
    exact ⟨fun _ => h, fun _ => by decide⟩
  · rename_i h
    have h2 : ¬ y < x := fun c => h (by show Int64.ofInt y < Int64.ofInt x; rw [Int64.lt_iff_toInt_lt, jvI hx, jvI hy]; exact c)
    split
    · exact ⟨fun e => absurd e (by decide), fun c => absurd c h2⟩
    · exact ⟨fun e => absurd e (by decide), fun c => absurd c h2⟩
theorem kyL.row {f : Nat → Int} {n : Int} : kyL (rowL f n.toNat) = if 0 < n then (if f 0 < 0 then f 0 + 4294967296 else f 0) else -1 := by
  by_cases c : 0 < n
  · obtain ⟨k, e⟩ : ∃ k, n.toNat = k + 1 := ⟨n.toNat - 1, by omega⟩
    rw [if_pos c, e, rowL.head]
    rfl
  · rw [if_neg c, show n.toNat = 0 by omega]
    rfl
theorem ky.of {μ : mM} {a : Nat} : ky (cdv μ a) = if 0 < μ a 7 then (if μ (a + 1) 0 < 0 then μ (a + 1) 0 + 4294967296 else μ (a + 1) 0) else -1 := kyL.row
theorem ky.sh {μ : mM} {a b : Nat} (ha : -2147483648 ≤ μ (a + 1) 0 ∧ μ (a + 1) 0 ≤ 2147483647) (hb : -2147483648 ≤ μ (b + 1) 0 ∧ μ (b + 1) 0 ≤ 2147483647) : (0 < μ a 7 ∧ 0 < μ b 7 ∧ μ (a + 1) 0 = μ (b + 1) 0) ↔ (ky (cdv μ a) = ky (cdv μ b) ∧ ¬ ky (cdv μ b) = -1) := by
  rw [ky.of, ky.of]
  by_cases c1 : 0 < μ a 7
  · rw [if_pos c1]
    by_cases c2 : 0 < μ b 7
    · rw [if_pos c2]
      by_cases c3 : μ (a + 1) 0 < 0
      · rw [if_pos c3]
        by_cases c4 : μ (b + 1) 0 < 0
        · rw [if_pos c4]; omega
        · rw [if_neg c4]; omega
      · rw [if_neg c3]
        by_cases c4 : μ (b + 1) 0 < 0
        · rw [if_pos c4]; omega
        · rw [if_neg c4]; omega
    · rw [if_neg c2]; omega
  · rw [if_neg c1]
    constructor
    · intro h; exact absurd h.1 c1
    · intro h; omega
def kyC (μ : mM) (i : Nat) : Int := ky (cdC μ i)
theorem lst.fil {α : Type} {g : Nat → α} {n : Nat} {P : α → Bool} : (lst g (n + 1)).filter P = (lst g n).filter P ++ (if P (g n) = true then [g n] else []) := by
  rw [lst.succ, List.filter_append]
  by_cases c : P (g n) = true
  · rw [if_pos c, List.filter_cons_of_pos c]; rfl
  · rw [if_neg c, List.filter_cons_of_neg c]; rfl
section Grp
variable {w : mW} {μ : mM}
theorem cellC (hw : mWF w) (hT : mT w μ) (h35 : ∀ i, i < 10 → μ 35 i = ((36 + 3 * i : Nat) : Int)) {i : Nat} (hi : i < 10) : mAt w (36 + 3 * i) 200 ∧ (-2147483648 ≤ μ (36 + 3 * i + 1) 0 ∧ μ (36 + 3 * i + 1) 0 ≤ 2147483647) := by
  have g : 0 ≤ μ 35 i ∧ mAt w (μ 35 i).toNat 200 := hT 35 35 (A_35 hw) i
  rw [h35 i hi, Int.toNat_natCast] at g
  have g1 : mAt w (36 + 3 * i + 1) 201 := (hT (36 + 3 * i) 200 g.2 0).2
  exact ⟨g.2, hT (36 + 3 * i + 1) 201 g1 0⟩
theorem kyC.rng (hw : mWF w) (hT : mT w μ) (h35 : ∀ i, i < 10 → μ 35 i = ((36 + 3 * i : Nat) : Int)) {i : Nat} (hi : i < 10) : kyC μ i = -1 ∨ (0 ≤ kyC μ i ∧ kyC μ i < 4294967296) := by
  have g := (cellC hw hT h35 hi).2
  unfold kyC cdC
  rw [ky.of]
  by_cases c1 : 0 < μ (36 + 3 * i) 7
  · rw [if_pos c1]
    by_cases c3 : μ (36 + 3 * i + 1) 0 < 0
    · rw [if_pos c3]; omega
    · rw [if_neg c3]; omega
  · rw [if_neg c1]; exact Or.inl rfl
theorem X8_groupOrder_s {i : Int} {Q : Int → mM → Prop} (h35 : ∀ i, i < 10 → μ 35 i = ((36 + 3 * i : Nat) : Int)) (hi : 0 ≤ i ∧ i ≤ 9) (k : Q (kyC μ i.toNat) μ) : WP_X8_groupOrder_W w μ i Q := by
  intro b eb hb z4 e4 h4
  have eb' : b = 36 + 3 * i.toNat := by
    rw [h35 i.toNat (by omega)] at eb
    omega
  subst eb'
  unfold kyC cdC at k
  rw [ky.of, e4] at k
  refine ⟨fun c z22 e22 h22 z25 e25 z28 e28 => ?_, fun c => ?_⟩
  · rw [if_pos (by omega)] at k
    have e0 : μ (36 + 3 * i.toNat + 1) 0 = z22 := e22
    have e := lAnd32 e28
    rw [e0] at k
    by_cases q : z22 < 0
    · rw [if_pos q] at k
      have e1 : z28 = z22 + 4294967296 := by omega
      rw [e1]; exact k
    · rw [if_neg q] at k
      have e1 : z28 = z22 := by omega
      rw [e1]; exact k
  · rw [if_neg (by omega)] at k
    exact k
theorem X8_isFirstOfGroup_s {i : Int} {Q : Int → mM → Prop} (hw : mWF w) (hT : mT w μ) (h35 : ∀ i, i < 10 → μ 35 i = ((36 + 3 * i : Nat) : Int)) (hi : 0 ≤ i ∧ i ≤ 9) (k : ∀ z : Int, (z = 1 ↔ ∀ j : Nat, (j : Int) < i → ¬ (kyC μ j = kyC μ i.toNat ∧ ¬ kyC μ i.toNat = -1)) → Q z μ) : WP_X8_isFirstOfGroup_W w μ i Q := by
  refine loopF.i (fun s => 0 ≤ s ∧ s ≤ i ∧ ∀ j : Nat, (j : Int) < s → ¬ (kyC μ j = kyC μ i.toNat ∧ ¬ kyC μ i.toNat = -1)) (fun s => (10 - s).toNat) ⟨by omega, by omega, fun j hj => by omega⟩ (by omega) ?_
  rintro rc s ⟨s0, s1, h⟩ ih s' e hs
  subst e
  refine ⟨fun g => k 1 ⟨fun _ j hj => h j (by omega), fun _ => rfl⟩, fun g b eb hb c ec hc => ?_⟩
  have eb' : b = 36 + 3 * s.toNat := by
    rw [h35 s.toNat (by omega)] at eb
    omega
  have ec' : c = 36 + 3 * i.toNat := by
    rw [h35 i.toNat (by omega)] at ec
    omega
  subst eb' ec'
  have sh := ky.sh (cellC hw hT h35 (i := s.toNat) (by omega)).2 (cellC hw hT h35 (i := i.toNat) (by omega)).2
  refine X7_sharesFirst_s fun z hz rz => ⟨fun c => ih _ ⟨by omega, by omega, fun j hj => ?_⟩ (by omega), fun c => k 0 ⟨fun e => absurd e (by decide), fun e => ?_⟩⟩
  · by_cases q : (j : Int) = s
    · have q2 : j = s.toNat := by omega
      subst q2
      intro x
      have := hz.mpr (sh.mpr x)
      omega
    · exact h j (by omega)
  · exact absurd (sh.mp (hz.mp (by omega))) (e s.toNat (by omega))
theorem X8_bestOfGroup_s {i : Int} {a0 : Nat} {Q : Int → mM → Prop} (hw : mWF w) (hT : mT w μ) (h35 : ∀ i, i < 10 → μ 35 i = ((36 + 3 * i : Nat) : Int)) (hi : 0 ≤ i ∧ i < μ 32 9)
    (k : ∀ z : Int, 0 ≤ z → z < μ 32 9 → (kyC μ i.toNat = -1 → z = i) → (¬ kyC μ i.toNat = -1 → (∀ j : Nat, (j : Int) < i → ¬ kyC μ j = kyC μ i.toNat) → grp (rowL (μ (a0 + 1)) (μ a0 4).toNat) (lst (cdC μ) (μ 32 9).toNat) (kyC μ i.toNat) = some (cdC μ z.toNat)) → Q z μ) : WP_X8_bestOfGroup_W w μ a0 i Q := by
  refine loopF.ii (fun b s => 0 ≤ b ∧ b < s ∧ i < s ∧ s ≤ μ 32 9 ∧ (kyC μ i.toNat = -1 → b = i) ∧ (¬ kyC μ i.toNat = -1 → (∀ j : Nat, (j : Int) < i → ¬ kyC μ j = kyC μ i.toNat) → bst (rowL (μ (a0 + 1)) (μ a0 4).toNat) ((lst (cdC μ) s.toNat).filter fun c => decide (ky c = kyC μ i.toNat)) none = some (cdC μ b.toNat))) (fun _ s => (10 - s).toNat) ⟨by omega, by omega, by omega, by omega, fun _ => rfl, fun _ h => ?_⟩ (by omega) ?_
  · rw [show (i + 1).toNat = i.toNat + 1 by omega, lst.fil, if_pos (show decide (ky (cdC μ i.toNat) = kyC μ i.toNat) = true from decide_eq_true rfl)]
    have e : (lst (cdC μ) i.toNat).filter (fun c => decide (ky c = kyC μ i.toNat)) = [] := List.filter_eq_nil_iff.mpr fun x hx => by
      unfold lst at hx
      obtain ⟨j, hj, ej⟩ := List.mem_map.mp hx
      have hj := List.mem_range.mp hj
      subst ej
      intro q
      exact h j (by omega) (of_decide_eq_true q)
    rw [e]
    rfl
  rintro rc b s ⟨b0, b1, s0, s1, h1, h2⟩ ih b' s' e hb hs n en hn
  cases e
  subst en
  refine ⟨fun g => ?_, fun g c ec hc d ed hd => ?_⟩
  · have e : s = μ 32 9 := by omega
    subst e
    exact k b b0 b1 h1 h2
  have ec' : c = 36 + 3 * s.toNat := by
    rw [h35 s.toNat (by omega)] at ec
    omega
  have ed' : d = 36 + 3 * i.toNat := by
    rw [h35 i.toNat (by omega)] at ed
    omega
  subst ec' ed'
  have sh := ky.sh (cellC hw hT h35 (i := s.toNat) (by omega)).2 (cellC hw hT h35 (i := i.toNat) (by omega)).2
  refine X7_sharesFirst_s fun z hz rz => ⟨fun c => ih _ _ ⟨b0, by omega, by omega, by omega, h1, fun q1 q2 => ?_⟩ (by omega), fun c f ef hf => ?_⟩
  · rw [show (s + 1).toNat = s.toNat + 1 by omega, lst.fil, if_neg, List.append_nil]
    · exact h2 q1 q2
    · intro q
      have := hz.mpr (sh.mpr ⟨of_decide_eq_true q, q1⟩)
      omega
  have sm := sh.mp (hz.mp (by omega))
  have ef' : f = 36 + 3 * b.toNat := by
    rw [h35 b.toNat (by omega)] at ef
    omega
  subst ef'
  have nx : ¬ kyC μ i.toNat = -1 → (∀ j : Nat, (j : Int) < i → ¬ kyC μ j = kyC μ i.toNat) → bst (rowL (μ (a0 + 1)) (μ a0 4).toNat) ((lst (cdC μ) (s + 1).toNat).filter fun c => decide (ky c = kyC μ i.toNat)) none = if bts (rowL (μ (a0 + 1)) (μ a0 4).toNat) (cdC μ s.toNat) (cdC μ b.toNat) = true then some (cdC μ s.toNat) else some (cdC μ b.toNat) := fun q1 q2 => by
    rw [show (s + 1).toNat = s.toNat + 1 by omega, lst.fil, if_pos (show decide (ky (cdC μ s.toNat) = kyC μ i.toNat) = true from decide_eq_true sm.1), bst.app, h2 q1 q2]
    rfl
  refine X0_prefers_s fun y hy ry => ⟨fun c2 => ih _ _ ⟨b0, by omega, by omega, by omega, h1, fun q1 q2 => ?_⟩ (by omega), fun c2 => ih _ _ ⟨by omega, by omega, by omega, by omega, fun q => absurd q sm.2, fun q1 q2 => ?_⟩ (by omega)⟩
  · rw [nx q1 q2, if_neg]
    intro t
    have := hy.mpr t
    omega
  · rw [nx q1 q2, if_pos (show bts (rowL (μ (a0 + 1)) (μ a0 4).toNat) (cdC μ s.toNat) (cdC μ b.toNat) = true from hy.mp (by omega))]
theorem kyC.onW {m : mM} (h : onW μ m) {i : Nat} (hi : i < 10) : kyC m i = kyC μ i := by
  unfold kyC
  rw [cdC.onW h hi]
theorem X8_insertWinner_s {n x : Int} {Q : mM → Prop} (h35 : ∀ i, i < 10 → μ 35 i = ((36 + 3 * i : Nat) : Int)) (hn : 0 ≤ n ∧ n ≤ 9) (hx : 0 ≤ x ∧ x ≤ 9) (hr : ∀ j : Nat, (j : Int) < n → 0 ≤ μ 66 j ∧ μ 66 j ≤ 9) (hw : mWF w) (hT : mT w μ)
    (hs : ∀ i j : Nat, i < j → (j : Int) < n → kyC μ (μ 66 i).toNat ≤ kyC μ (μ 66 j).toNat)
    (k : ∀ (m : mM) (z : Nat), onW μ m → (z : Int) ≤ n → (∀ j, j < z → m 66 j = μ 66 j) → m 66 z = x → (∀ j : Nat, z ≤ j → (j : Int) < n → m 66 (j + 1) = μ 66 j) → (∀ j, j < z → kyC μ (μ 66 j).toNat ≤ kyC μ x.toNat) → (∀ j : Nat, z ≤ j → (j : Int) < n → kyC μ x.toNat < kyC μ (μ 66 j).toNat) → Q m) : WP_X8_insertWinner_W w μ n x Q := by
  refine loopF.im (fun z m => 0 ≤ z ∧ z ≤ n ∧ onW μ m ∧ (∀ j : Nat, (j : Int) < z → m 66 j = μ 66 j) ∧ (∀ j : Nat, z ≤ (j : Int) → (j : Int) < n → m 66 (j + 1) = μ 66 j) ∧ (∀ j : Nat, z ≤ (j : Int) → (j : Int) < n → kyC μ x.toNat < kyC μ (μ 66 j).toNat)) (fun z => z.toNat) ⟨hn.1, by omega, fun _ _ _ => rfl, fun _ _ => rfl, fun j h1 h2 => by omega, fun j h1 h2 => by omega⟩ (by omega) ?_
  rintro rc z m ⟨z0, z1, ow, h1, h2, h3⟩ ih z' m' e hz T F
  cases e
  have put : ∀ m2 : mM, mU m 66 z.toNat x m2 → (∀ j : Nat, (j : Int) < z → kyC μ (μ 66 j).toNat ≤ kyC μ x.toNat) → Q m2 := fun m2 u h => by
    obtain rfl := u.is
    refine k _ z.toNat (fun b i hb => ?_) (by omega) (fun j hj => ?_) (mUp.yes ⟨rfl, rfl⟩) (fun j a b => ?_) (fun j hj => h j (by omega)) (fun j a b => h3 j (by omega) b)
    · rw [mUp.no (by omega)]; exact ow b i hb
    · rw [mUp.no (by omega)]; exact h1 j (by omega)
    · rw [mUp.no (by omega)]; exact h2 j (by omega) b
  have m35 : ∀ i, i < 10 → m 35 i = ((36 + 3 * i : Nat) : Int) := fun i hi => by rw [ow 35 i (by omega)]; exact h35 i hi
  refine ⟨fun g m2 u2 T2 => put m2 u2 fun j hj => by omega, fun g y ey hy => ?_⟩
  have e0 : μ 66 (z - 1).toNat = y := by rw [← h1 _ (by omega)]; exact ey
  refine X8_groupOrder_s m35 hy fun T3 F3 r3 => X8_groupOrder_s m35 hx fun T4 F4 r4 v ev => ⟨fun c m2 u2 T2 => put m2 u2 fun j hj => ?_, fun c m2 u2 T2 => ?_⟩
  · have p := lCmp_pos ev (by omega) (by omega)
    rw [kyC.onW ow (by omega), kyC.onW ow (by omega)] at p
    by_cases q : (j : Int) = z - 1
    · have q2 : j = (z - 1).toNat := by omega
      rw [q2, e0]
      omega
    · have := hs j (z - 1).toNat (by omega) (by omega)
      rw [e0] at this
      omega
  · have p := lCmp_pos ev (by omega) (by omega)
    rw [kyC.onW ow (by omega), kyC.onW ow (by omega)] at p
    obtain rfl := u2.is
    refine ih _ _ ⟨by omega, by omega, fun b i hb => ?_, fun j hj => ?_, fun j a b => ?_, fun j a b => ?_⟩ (by omega)
    · rw [mUp.no (by omega)]; exact ow b i hb
    · rw [mUp.no (by omega)]; exact h1 j (by omega)
    · by_cases q : (j : Int) = z - 1
      · have q2 : j = (z - 1).toNat := by omega
        rw [mUp.yes ⟨rfl, by omega⟩, q2, e0]
      · rw [mUp.no (by omega)]; exact h2 j (by omega) b
    · by_cases q : (j : Int) = z - 1
      · have q2 : j = (z - 1).toNat := by omega
        rw [q2, e0]
        exact p.mp c
      · exact h3 j (by omega) b
/-- winners: those of empty ways as they come, then of each key the best -/
noncomputable def winC (l : List Int) (cs : List Cd) (n : Nat) (g : Nat → Cd) : List Cd := (lst g n).filter (fun c => decide (ky c = -1)) ++ (kys (lst g n) []).filterMap (grp l cs)
theorem kys.app : ∀ {a b : List Cd} {k : List Int}, kys (a ++ b) k = kys b (kys a k)
  | [], _, _ => rfl
  | c :: a, b, k => by
    show kys (a ++ b) (if ky c = -1 then k else insK (ky c) k) = kys b (kys a (if ky c = -1 then k else insK (ky c) k))
    exact kys.app
theorem insK.mem {k x : Int} : ∀ {l : List Int}, x ∈ insK k l ↔ (x = k ∨ x ∈ l)
  | [] => by
    show x ∈ [k] ↔ _
    simp
  | y :: l => by
    unfold insK
    by_cases c : k < y
    · rw [if_pos c]
      simp
    · rw [if_neg c]
      by_cases c2 : k = y
      · rw [if_pos c2, c2]
        simp
      · rw [if_neg c2, List.mem_cons, insK.mem, List.mem_cons]
        constructor
        · intro h
          rcases h with h | h | h
          · exact Or.inr (Or.inl h)
          · exact Or.inl h
          · exact Or.inr (Or.inr h)
        · intro h
          rcases h with h | h | h
          · exact Or.inr (Or.inl h)
          · exact Or.inl h
          · exact Or.inr (Or.inr h)
theorem insK.srt' {k : Int} : ∀ {l : List Int}, l.Pairwise (· < ·) → (insK k l).Pairwise (· < ·)
  | [], _ => by
    show [k].Pairwise _
    simp
  | y :: l, h => by
    have h' := List.pairwise_cons.mp h
    unfold insK
    by_cases c : k < y
    · rw [if_pos c]
      refine List.pairwise_cons.mpr ⟨fun z hz => ?_, h⟩
      rcases List.mem_cons.mp hz with e | e
      · rw [e]; exact c
      · exact Int.lt_trans c (h'.1 z e)
    · rw [if_neg c]
      by_cases c2 : k = y
      · rw [if_pos c2]; exact h
      · rw [if_neg c2]
        refine List.pairwise_cons.mpr ⟨fun z hz => ?_, insK.srt' h'.2⟩
        rcases insK.mem.mp hz with e | e
        · rw [e]; omega
        · exact h'.1 z e
theorem insK.old {k : Int} : ∀ {l : List Int}, l.Pairwise (· < ·) → k ∈ l → insK k l = l
  | [], _, h => by cases h
  | y :: l, h, hk => by
    have h' := List.pairwise_cons.mp h
    unfold insK
    rcases List.mem_cons.mp hk with e | e
    · rw [if_neg (by omega), if_pos e]
    · have := h'.1 k e
      rw [if_neg (by omega), if_neg (by omega), insK.old h'.2 e]
theorem kys.srt' : ∀ {q : List Cd} {a : List Int}, a.Pairwise (· < ·) → (kys q a).Pairwise (· < ·)
  | [], _, h => h
  | c :: q, a, h => by
    show (kys q (if ky c = -1 then a else insK (ky c) a)).Pairwise _
    by_cases g : ky c = -1
    · rw [if_pos g]; exact kys.srt' h
    · rw [if_neg g]; exact kys.srt' (insK.srt' h)
theorem kys.mem {x : Int} : ∀ {q : List Cd} {a : List Int}, x ∈ kys q a ↔ (x ∈ a ∨ ∃ c ∈ q, ky c = x ∧ ¬ x = -1)
  | [], a => by
    show x ∈ a ↔ _
    simp
  | c :: q, a => by
    show x ∈ kys q (if ky c = -1 then a else insK (ky c) a) ↔ _
    rw [kys.mem]
    by_cases g : ky c = -1
    · rw [if_pos g]
      constructor
      · rintro (h | ⟨y, hy, e⟩)
        · exact Or.inl h
        · exact Or.inr ⟨y, List.mem_cons_of_mem _ hy, e⟩
      · rintro (h | ⟨y, hy, e, n⟩)
        · exact Or.inl h
        · rcases List.mem_cons.mp hy with q1 | q1
          · subst q1; exact absurd (e.symm.trans g) n
          · exact Or.inr ⟨y, q1, e, n⟩
    · rw [if_neg g, insK.mem]
      constructor
      · rintro ((h | h) | ⟨y, hy, e⟩)
        · exact Or.inr ⟨c, List.mem_cons_self, h.symm, by rw [h]; exact g⟩
        · exact Or.inl h
        · exact Or.inr ⟨y, List.mem_cons_of_mem _ hy, e⟩
      · rintro (h | ⟨y, hy, e, n⟩)
        · exact Or.inl (Or.inr h)
        · rcases List.mem_cons.mp hy with q1 | q1
          · subst q1; exact Or.inl (Or.inl e.symm)
          · exact Or.inr ⟨y, q1, e, n⟩
/-- put in its place behind those that aren't greater -/
def insW (x : Cd) : List Cd → List Cd
  | [] => [x]
  | y :: l => if ky x < ky y then x :: y :: l else y :: insW x l
theorem insW.at {x : Cd} : ∀ {a b : List Cd}, (∀ y ∈ a, ky y ≤ ky x) → (∀ y ∈ b, ky x < ky y) → insW x (a ++ b) = a ++ x :: b
  | [], [], _, _ => rfl
  | [], y :: b, _, h => by
    show (if ky x < ky y then x :: y :: b else y :: insW x b) = x :: y :: b
    rw [if_pos (h y List.mem_cons_self)]
  | y :: a, b, h, h2 => by
    show (if ky x < ky y then x :: y :: (a ++ b) else y :: insW x (a ++ b)) = y :: (a ++ x :: b)
    have := h y List.mem_cons_self
    rw [if_neg (by omega), insW.at (fun z hz => h z (List.mem_cons_of_mem _ hz)) h2]
theorem insW.app {x : Cd} {a b : List Cd} (h : ∀ y ∈ a, ky y ≤ ky x) : insW x (a ++ b) = a ++ insW x b := by
  induction a with
  | nil => rfl
  | cons y a ih =>
    show (if ky x < ky y then x :: y :: (a ++ b) else y :: insW x (a ++ b)) = y :: (a ++ insW x b)
    have := h y List.mem_cons_self
    rw [if_neg (by omega), ih fun z hz => h z (List.mem_cons_of_mem _ hz)]
/-- a new key: its best comes to its place -/
theorem insW.key {l : List Int} {cs : List Cd} {k : Int} {x : Cd} (hx : grp l cs k = some x) : ∀ {ks : List Int}, ks.Pairwise (· < ·) → ¬ k ∈ ks → (∀ y ∈ ks, ∃ c, grp l cs y = some c) → insW x (ks.filterMap (grp l cs)) = (insK k ks).filterMap (grp l cs)
  | [], _, _, _ => by
    show insW x [] = [k].filterMap (grp l cs)
    simp [insW, hx]
  | y :: ks, h, hn, hc => by
    obtain ⟨c, ec⟩ := hc y List.mem_cons_self
    have h' := List.pairwise_cons.mp h
    have e1 : (y :: ks).filterMap (grp l cs) = c :: ks.filterMap (grp l cs) := by simp [ec]
    have kx := (grp.mem hx).2
    have kc := (grp.mem ec).2
    have hne : ¬ k = y := fun e => hn (by rw [e]; exact List.mem_cons_self)
    rw [e1]
    show (if ky x < ky c then x :: c :: ks.filterMap (grp l cs) else c :: insW x (ks.filterMap (grp l cs))) = _
    unfold insK
    rw [kx, kc]
    by_cases g : k < y
    · rw [if_pos g, if_pos g]
      simp [hx, ec]
    · rw [if_neg g, if_neg g, if_neg hne, insW.key hx h'.2 (fun q => hn (List.mem_cons_of_mem _ q)) (fun z hz => hc z (List.mem_cons_of_mem _ hz))]
      simp [ec]
/-- there is a best where there is one -/
theorem bst.there {l : List Int} : ∀ {q : List Cd} {x : Cd}, ∃ y, bst l q (some x) = some y
  | [], x => ⟨x, rfl⟩
  | y :: q, x => by
    show ∃ z, bst l q (if bts l y x = true then some y else some x) = some z
    by_cases c : bts l y x = true
    · rw [if_pos c]; exact bst.there
    · rw [if_neg c]; exact bst.there
theorem grp.there {l : List Int} {cs : List Cd} {k : Int} {c : Cd} (hc : c ∈ cs) (h : ky c = k) : ∃ x, grp l cs k = some x := by
  unfold grp
  have hm : c ∈ cs.filter fun c => decide (ky c = k) := List.mem_filter.mpr ⟨hc, decide_eq_true h⟩
  cases e : cs.filter fun c => decide (ky c = k) with
  | nil => rw [e] at hm; cases hm
  | cons y q => exact bst.there
theorem pwC {l : List Int} {cs : List Cd} : ∀ {ks : List Int}, ks.Pairwise (· < ·) → (ks.filterMap (grp l cs)).Pairwise (fun x y => ky x ≤ ky y)
  | [], _ => List.Pairwise.nil
  | y :: ks, h => by
    have h' := List.pairwise_cons.mp h
    cases e : grp l cs y with
    | none =>
      have e1 : (y :: ks).filterMap (grp l cs) = ks.filterMap (grp l cs) := by simp [e]
      rw [e1]
      exact pwC h'.2
    | some c =>
      have e1 : (y :: ks).filterMap (grp l cs) = c :: ks.filterMap (grp l cs) := by simp [e]
      rw [e1]
      refine List.pairwise_cons.mpr ⟨fun z hz => ?_, pwC h'.2⟩
      obtain ⟨a, ha, q⟩ := List.mem_filterMap.mp hz
      rw [(grp.mem e).2, (grp.mem q).2]
      have := h'.1 a ha
      omega
end Grp
end
section
/-! The class's grouped pick, the whole. -/
theorem winC.emp {l : List Int} {cs : List Cd} {g : Nat → Cd} {n : Nat} (h : ky (g n) = -1) : winC l cs (n + 1) g = (lst g n).filter (fun c => decide (ky c = -1)) ++ g n :: (kys (lst g n) []).filterMap (grp l cs) := by
  unfold winC
  rw [lst.fil, if_pos (decide_eq_true h), lst.succ, kys.app]
  have e : kys [g n] (kys (lst g n) []) = kys (lst g n) [] := by
    show (if ky (g n) = -1 then kys (lst g n) [] else insK (ky (g n)) (kys (lst g n) [])) = _
    rw [if_pos h]
  rw [e, List.append_assoc]
  rfl
theorem winC.key {l : List Int} {cs : List Cd} {g : Nat → Cd} {n : Nat} (h : ¬ ky (g n) = -1) : winC l cs (n + 1) g = (lst g n).filter (fun c => decide (ky c = -1)) ++ (insK (ky (g n)) (kys (lst g n) [])).filterMap (grp l cs) := by
  unfold winC
  rw [lst.fil, if_neg (fun q => h (of_decide_eq_true q)), List.append_nil, lst.succ, kys.app]
  have e : kys [g n] (kys (lst g n) []) = insK (ky (g n)) (kys (lst g n) []) := by
    show (if ky (g n) = -1 then kys (lst g n) [] else insK (ky (g n)) (kys (lst g n) [])) = _
    rw [if_neg h]
  rw [e]
theorem lst.in {α : Type} {g : Nat → α} {n i : Nat} (h : i < n) : g i ∈ lst g n := List.mem_map.mpr ⟨i, List.mem_range.mpr h, rfl⟩
theorem winC.pw {l : List Int} {cs : List Cd} {g : Nat → Cd} {n : Nat} (h : ∀ i, i < n → ky (g i) = -1 ∨ 0 ≤ ky (g i)) : (winC l cs n g).Pairwise (fun x y => ky x ≤ ky y) := by
  have e1 : ∀ x ∈ (lst g n).filter (fun c => decide (ky c = -1)), ky x = -1 := fun x hx => of_decide_eq_true (List.mem_filter.mp hx).2
  refine List.pairwise_append.mpr ⟨List.Pairwise.imp_of_mem (R := fun _ _ => True) (fun {x y} hx hy _ => by rw [e1 x hx, e1 y hy]; exact Int.le_refl _) (List.pairwise_of_forall fun _ _ => trivial), pwC (kys.srt' List.Pairwise.nil), fun x hx y hy => ?_⟩
  obtain ⟨k, hk, q⟩ := List.mem_filterMap.mp hy
  rw [e1 x hx, (grp.mem q).2]
  rcases kys.mem.mp hk with a | ⟨c, hc, a, b⟩
  · cases a
  · obtain ⟨i, hi, ei⟩ := lst.mem.mp hc
    have := h i hi
    rw [ei, a] at this
    omega
theorem insW.row {f f' : Nat → Int} {h : Int → Cd} {x : Int} {z n : Nat} (hz : z ≤ n) (h1 : ∀ j, j < z → f' j = f j) (h2 : f' z = x) (h3 : ∀ j, z ≤ j → j < n → f' (j + 1) = f j) (k1 : ∀ j, j < z → ky (h (f j)) ≤ ky (h x)) (k2 : ∀ j, z ≤ j → j < n → ky (h x) < ky (h (f j))) : lst (fun j => h (f' j)) (n + 1) = insW (h x) (lst (fun j => h (f j)) n) := by
  obtain ⟨m, em⟩ : ∃ m, n = z + m := ⟨n - z, by omega⟩
  subst em
  rw [lst.add (a := z) (b := m), show z + m + 1 = z + (m + 1) by omega, lst.add (a := z) (b := m + 1), lst.head]
  have e1 : lst (fun j => h (f' j)) z = lst (fun j => h (f j)) z := lst.ext fun j hj => by rw [h1 j hj]
  have e2 : lst (fun i => h (f' (z + (i + 1)))) m = lst (fun i => h (f (z + i))) m := lst.ext fun j hj => by rw [show z + (j + 1) = (z + j) + 1 by omega, h3 (z + j) (by omega) (by omega)]
  have e3 : h (f' (z + 0)) = h x := by rw [Nat.add_zero, h2]
  rw [insW.at (fun y hy => ?_) (fun y hy => ?_)]
  · rw [e1, ← e2, ← e3]
  · obtain ⟨i, hi, ei⟩ := lst.mem.mp hy
    rw [← ei]
    exact k1 i hi
  · obtain ⟨i, hi, ei⟩ := lst.mem.mp hy
    rw [← ei]
    exact k2 (z + i) (by omega) (by omega)
section Grp2
variable {w : mW} {μ : mM}
theorem X8_pickGrouped_s {a0 : Nat} {Q : Int → mM → Prop} (ha : ¬ a0 = 66 ∧ ¬ a0 + 1 = 66) (hw : mWF w) (hT : mT w μ) (h35 : ∀ i, i < 10 → μ 35 i = ((36 + 3 * i : Nat) : Int))
    (k : ∀ (z : Int) (μ1 : mM), onW μ μ1 → ((z = -1 ∧ pickG (rowL (μ (a0 + 1)) (μ a0 4).toNat) (lst (cdC μ) (μ 32 9).toNat) = none) ∨ (0 ≤ z ∧ z < μ 32 9 ∧ pickG (rowL (μ (a0 + 1)) (μ a0 4).toNat) (lst (cdC μ) (μ 32 9).toNat) = some (cdC μ z.toNat))) → Q z μ1) : WP_X8_pickGrouped_W w μ a0 Q := by
  refine loopF.iim (fun c i m => 0 ≤ c ∧ c ≤ i ∧ (i = 0 ∨ i ≤ μ 32 9) ∧ onW μ m ∧ (∀ j : Nat, (j : Int) < c → 0 ≤ m 66 j ∧ m 66 j < μ 32 9) ∧ lst (fun j => cdC μ (m 66 j).toNat) c.toNat = winC (rowL (μ (a0 + 1)) (μ a0 4).toNat) (lst (cdC μ) (μ 32 9).toNat) i.toNat (cdC μ)) (fun _ i => (11 - i).toNat) ⟨by omega, by omega, Or.inl rfl, fun _ _ _ => rfl, fun j hj => by omega, rfl⟩ (by omega) ?_
  rintro rc c i m ⟨c0, c1, i1, ow, hr, hL⟩ ih c' i' m' e hc hi T F n en hn
  cases e
  rw [ow 32 9 (by omega)] at en
  subst en
  have m35 : ∀ i, i < 10 → m 35 i = ((36 + 3 * i : Nat) : Int) := fun i hi => by rw [ow 35 i (by omega)]; exact h35 i hi
  have st : rowL (m (a0 + 1)) (m a0 4).toNat = rowL (μ (a0 + 1)) (μ a0 4).toNat := by
    rw [ow _ _ ha.1]
    exact rowL.ext fun i _ => ow _ _ ha.2
  refine ⟨fun g => ?_, fun g => ?_⟩
  · have ei : i.toNat = (μ 32 9).toNat := by omega
    rw [ei] at hL
    have eP : pickG (rowL (μ (a0 + 1)) (μ a0 4).toNat) (lst (cdC μ) (μ 32 9).toNat) = bst (rowL (μ (a0 + 1)) (μ a0 4).toNat) (lst (fun j => cdC μ (m 66 j).toNat) c.toNat) none := by
      rw [hL]; rfl
    refine X8_lastStanding_s m35 (by omega) (fun q _ => k _ m ow (Or.inl ⟨rfl, ?_⟩)) (fun z hz z0 hx hb _ => k z m ow (Or.inr ?_))
    · rw [eP, show c.toNat = 0 by omega]
      rfl
    · obtain ⟨j, hj, ej⟩ := hx
      have := hr j (by omega)
      rw [ej] at this
      refine ⟨z0, this.2, ?_⟩
      rw [eP]
      rw [st, cdC.onW ow (by omega)] at hb
      rw [← hb]
      congr 1
      exact lst.ext fun x hx => by
        have := hr x (by omega)
        rw [cdC.onW ow (by omega)]
  have kO : ∀ j, j < 10 → kyC m j = kyC μ j := fun j hj => kyC.onW ow hj
  have iN : ((i.toNat : Nat) : Int) = i := by omega
  have rngs : ∀ j, j < 10 → ky (cdC μ j) = -1 ∨ 0 ≤ ky (cdC μ j) := fun j hj => by
    have g : kyC μ j = -1 ∨ (0 ≤ kyC μ j ∧ kyC μ j < 4294967296) := kyC.rng hw hT h35 hj
    unfold kyC at g
    omega
  have i2 : (i + 1).toNat = i.toNat + 1 := by omega
  refine X8_isFirstOfGroup_s hw T m35 ⟨by omega, by omega⟩ fun z hz rz => ⟨fun q => ?_, fun q => ?_⟩
  · have ex : ∃ j : Nat, (j : Int) < i ∧ kyC μ j = kyC μ i.toNat ∧ ¬ kyC μ i.toNat = -1 := Classical.byContradiction fun h => by
      have : z = 1 := hz.mpr fun j hj a => h ⟨j, hj, by rw [← kO j (by omega), ← kO i.toNat (by omega)]; exact a⟩
      omega
    obtain ⟨j, hj, e1, e2⟩ := ex
    have e1 : ky (cdC μ j) = ky (cdC μ i.toNat) := e1
    have e2 : ¬ ky (cdC μ i.toNat) = -1 := e2
    refine ih _ _ _ ⟨c0, by omega, by omega, ow, hr, ?_⟩ (by omega)
    rw [hL, i2, winC.key e2, insK.old (kys.srt' List.Pairwise.nil) (kys.mem.mpr (Or.inr ⟨cdC μ j, lst.in (by omega), e1, e2⟩))]
    rfl
  have fst : ∀ j : Nat, (j : Int) < i → ¬ (kyC μ j = kyC μ i.toNat ∧ ¬ kyC μ i.toNat = -1) := fun j hj => by
    have := hz.mp (by omega) j hj
    rw [kO j (by omega), kO i.toNat (by omega)] at this
    exact this
  have e9 : m 32 9 = μ 32 9 := ow 32 9 (by omega)
  have eL : lst (cdC m) (μ 32 9).toNat = lst (cdC μ) (μ 32 9).toNat := lst.ext fun j hj => cdC.onW ow (by omega)
  refine X8_bestOfGroup_s hw T m35 ⟨by omega, by omega⟩ fun b b0 b1 hb1 hb2 rb => ?_
  rw [kO i.toNat (by omega)] at hb1 hb2
  rw [e9] at b1 hb2
  rw [st, eL, cdC.onW ow (by omega)] at hb2
  have bk : ky (cdC μ b.toNat) = kyC μ i.toNat := by
    by_cases q2 : kyC μ i.toNat = -1
    · have := hb1 q2
      rw [this]; rfl
    · exact (grp.mem (hb2 q2 fun j hj a => fst j hj ⟨by rw [← kO j (by omega)]; exact a, q2⟩)).2
  have pw := winC.pw (l := rowL (μ (a0 + 1)) (μ a0 4).toNat) (cs := lst (cdC μ) (μ 32 9).toNat) (g := cdC μ) (n := i.toNat) (fun j hj => rngs j (by omega))
  rw [← hL] at pw
  have so : ∀ x y : Nat, x < y → (y : Int) < c → kyC m (m 66 x).toNat ≤ kyC m (m 66 y).toNat := fun x y hxy hy => by
    have g := lst.pw pw hxy (by omega)
    have a := hr x (by omega)
    have b := hr y hy
    rw [kO _ (by omega), kO _ (by omega)]
    exact g
  refine X8_insertWinner_s m35 ⟨c0, by omega⟩ ⟨b0, by omega⟩ (fun j hj => by have := hr j hj; omega) hw T so fun m1 z1 ow1 hz1 f1 f2 f3 k1 k2 T1 F1 => ih _ _ _ ⟨by omega, by omega, by omega, fun b' i' h => (ow1 b' i' h).trans (ow b' i' h), fun j hj => ?_, ?_⟩ (by omega)
  · by_cases a : j < z1
    · rw [f1 j a]; exact hr j (by omega)
    · by_cases a2 : j = z1
      · rw [a2, f2]; exact ⟨b0, b1⟩
      · obtain ⟨j', ej⟩ : ∃ j', j = j' + 1 := ⟨j - 1, by omega⟩
        rw [ej, f3 j' (by omega) (by omega)]
        exact hr j' (by omega)
  · have ins := insW.row (f := m 66) (f' := m1 66) (h := fun y => cdC μ y.toNat) (x := b) (z := z1) (n := c.toNat) (by omega) f1 f2 (fun j a b => f3 j a (by omega)) (fun j a => by
        have r := hr j (by omega)
        have := k1 j a
        rw [kO _ (by omega), kO _ (by omega)] at this
        exact this) (fun j a b => by
        have r := hr j (by omega)
        have := k2 j a (by omega)
        rw [kO _ (by omega), kO _ (by omega)] at this
        exact this)
    rw [show (c + 1).toNat = c.toNat + 1 by omega, ins, hL, i2]
    have FE : ∀ y ∈ (lst (cdC μ) i.toNat).filter (fun c => decide (ky c = -1)), ky y = -1 := fun x hx => of_decide_eq_true (List.mem_filter.mp hx).2
    have ri := rngs i.toNat (by omega)
    have ei : ky (cdC μ i.toNat) = kyC μ i.toNat := rfl
    unfold winC
    rw [insW.app (fun y hy => by
      have := FE y hy
      show ky y ≤ ky (cdC μ b.toNat)
      rw [this, bk]
      omega)]
    by_cases q2 : kyC μ i.toNat = -1
    · have e := winC.emp (l := rowL (μ (a0 + 1)) (μ a0 4).toNat) (cs := lst (cdC μ) (μ 32 9).toNat) (g := cdC μ) (n := i.toNat) q2
      unfold winC at e
      rw [e, hb1 q2]
      congr 1
      have e2 := insW.at (x := cdC μ i.toNat) (a := []) (b := (kys (lst (cdC μ) i.toNat) []).filterMap (grp (rowL (μ (a0 + 1)) (μ a0 4).toNat) (lst (cdC μ) (μ 32 9).toNat))) (fun y hy => by cases hy) (fun y hy => by
        obtain ⟨kk, hk, q⟩ := List.mem_filterMap.mp hy
        rw [(grp.mem q).2]
        rcases kys.mem.mp hk with a | ⟨cc, hcc, a, bb⟩
        · cases a
        · obtain ⟨ii, hii, eii⟩ := lst.mem.mp hcc
          have := rngs ii (by omega)
          rw [eii, a] at this
          omega)
      exact e2
    · have e := winC.key (l := rowL (μ (a0 + 1)) (μ a0 4).toNat) (cs := lst (cdC μ) (μ 32 9).toNat) (g := cdC μ) (n := i.toNat) q2
      unfold winC at e
      rw [e]
      congr 1
      refine insW.key (hb2 q2 fun j hj a => fst j hj ⟨by rw [← kO j (by omega)]; exact a, q2⟩) (kys.srt' List.Pairwise.nil) (fun hk => ?_) (fun y hy => ?_)
      · rcases kys.mem.mp hk with a | ⟨cc, hcc, a, bb⟩
        · cases a
        · obtain ⟨ii, hii, eii⟩ := lst.mem.mp hcc
          exact fst ii (by omega) ⟨by rw [← eii] at a; exact a, q2⟩
      · rcases kys.mem.mp hy with a | ⟨cc, hcc, a, bb⟩
        · cases a
        · obtain ⟨ii, hii, eii⟩ := lst.mem.mp hcc
          exact grp.there (by rw [← eii]; exact lst.in (by omega)) a
end Grp2
end
section
/-! The class looks. -/
section LookC3
variable {w : mW} {μ : mM} {E : En} {S : Sn} {d p : Nat}
theorem frC.onW {μ m m1 : mM} (h : frC μ m) (k : onW m m1) : frC μ m1 := fun b i h1 h2 h3 h4 => (k b i (by omega)).trans (h b i h1 h2 h3 h4)
/-- something was found: it is laid down, and said -/
theorem X8_lookJ_s {Q : mM → Prop} {m : mM} {v : Int} {b : Nat} (hw : mWF w) (hT : mT w μ) (ev : envC w μ E) (st : snC μ E S) (sn : snG E S) (ti : tiG E) (tG : thG E) (pa : paG E) (hd : d < eD E) (hp : p < 10) (ho : eOw E (10 * d + p) ≤ 2)
    (fr : frC μ m) (hb : 36 ≤ b ∧ b ≤ 70) (hn : newP E S (d : Int) p = (v, rtC m b)) (k : ∀ m : mM, snC m E (lookE E S (d : Int) p) → loC μ m → Q m) : WJ_X8_look_W_1 w μ (d : Int) (p : Int) Q (dbA μ d) v b m := by
  intro _ _ T F z66 e66 _
  have ly := ev.2.2.2.1
  obtain ⟨l1, l2, l3, l4, l5, l6⟩ := ev.2.2.2.1
  obtain ⟨d1, d2, d3⟩ := l2 d hd
  have F0 : mF lEC w μ m := mF.refl.call F rfl
  have p1 : ((p : Int)).toNat = p := Int.toNat_natCast p
  rw [p1] at e66 ⊢
  have sp := st.2.1 d p hd hp
  have e66' : z66 = (sPk S (10 * d + p)).1 := by
    rw [← e66, fr.hi (by omega)]; exact sp.1
  have sm : snC m E S := st.fr ly fr
  have good := newP.good (d := d) sn tG hp ho
  have m10 : (10 * d + p) % 10 = p := by omega
  have gp := sn.1 (10 * d + p)
  rw [m10] at gp
  have rp : rtC m (dbA μ d + 5 + 3 * p) = (sPk S (10 * d + p)).2 := by rw [fr.rt (by omega)]; exact sp.2
  have pb : ∀ (m2 : mM) (b7 : Nat), m2 (dbA μ d + 4) p = (b7 : Int) → (∀ i, m2 (dbA μ d + 4) i = m (dbA μ d + 4) i) → b7 = dbA μ d + 5 + 3 * p := fun m2 b7 e f => by
    rw [f, fr.hi (by omega), d3 p hp] at e
    omega
  have go : ¬ newP E S (d : Int) p = sPk S (10 * d + p) → ∀ m3 : mM, rtC m3 (dbA μ d + 5 + 3 * p) = rtC (mUp m (dbA μ d + 3) p v) b → onC2 (mUp m (dbA μ d + 3) p v) m3 (dbA μ d + 5 + 3 * p) → mF [200002, 200003, 200004, 200005, 200006, 200007, 200008, 201999, 202999] w (mUp m (dbA μ d + 3) p v) m3 → mAt w (dbA μ d + 3) 213 → loopF (WL_X8_look_W_2 w (d : Int) (p : Int) Q m3) False 22 (0, m3) := by
    intro hne m3 r3 o3 F3 hA
    have rb : rtC (mUp m (dbA μ d + 3) p v) b = rtC m b := rtC.of (fun i => mUp.no (by omega)) (fun i => mUp.no (by omega)) (fun i => mUp.no (by omega))
    rw [rb] at r3
    have all : ∀ b' i, ¬ (b' = dbA μ d + 3 ∧ i = p) → ¬ (dbA μ d + 5 + 3 * p ≤ b' ∧ b' ≤ dbA μ d + 7 + 3 * p) → m3 b' i = m b' i := fun b' i q1 q2 => by
      rw [o3 b' i (by omega) (by omega) (by omega), mUp.no q1]
    have s3 : snC m3 E (pk! S (10 * d + p) (v, rtC m b)) := st.pick ⟨l1, l2, l3, l4, l5, l6⟩ hd hp (fun b' i h1 h2 h3 h4 h5 h6 => (all b' i h5 h6).trans (fr b' i h1 h2 h3 h4)) (by rw [o3 _ _ (by omega) (by omega) (by omega), mUp.yes ⟨rfl, rfl⟩]) r3
    have g3 : snG E (pk! S (10 * d + p) (v, rtC m b)) := by
      have px := newP.px (d := d) sn tG hd hp
      rw [hn] at good px
      exact sn.pick (by rw [m10]; exact good.1) good.2 (by rw [m10]; exact px)
    have F4 : mF lEC w μ m3 := (F0.up hA mUp_ok rfl).call F3 rfl
    refine X8_lookL_s hw hT ev F4 s3 g3 ti tG pa hp fun m4 s4 l4 => k m4 ?_ ?_
    · rw [lookE.new hne, hn]; exact s4
    · exact loC.trans (fun b' i h0 h1 h2 h3 h4 h5 h6 => (all b' i (by omega) (by omega)).trans (fr.lo b' i h0 h1 h2 h3 h4 h5 h6)) l4
  have hA : mAt w (dbA μ d + 3) 213 := by
    have g : ((((d : Nat) : Int) < w.2.2.2 0 → 0 ≤ μ 10 d ∧ mAt w (μ 10 d).toNat 210) ∧ (¬ ((d : Nat) : Int) < w.2.2.2 0 → μ 10 d = -1)) := hT 10 10 (A_10 hw) d
    have g0 : μ 6 15 = w.2.2.2 0 ∧ 0 ≤ μ 6 15 ∧ μ 6 15 ≤ 10 := hT 6 6 (A_6 hw) 15
    have e3 := ev.2.2.1
    have a := (g.1 (by omega)).2
    exact (hT (dbA μ d) 210 a 2).2
  have ap : apr (dbA μ d + 5 + 3 * p) b := by refine ⟨?_, ?_, ?_, ?_, ?_, ?_, ?_⟩ <;> omega
  refine ⟨fun c m2 u2 T2 b7 e7 h7 => ?_, fun c b7 e7 h7 => ?_⟩
  · obtain rfl := u2.is
    have eb := pb _ b7 e7 (fun i => mUp.no (by omega))
    subst eb
    refine X7_become_s ap fun m3 r3 o3 T3 F3 => go (fun q => c ?_) m3 r3 o3 F3 hA
    rw [e66', ← q, hn]
  · have eb := pb _ b7 e7 (fun i => rfl)
    subst eb
    refine X7_isAlike_s fun y hy ry => ⟨fun c2 m2 u2 T2 => ?_, fun c2 => ?_⟩
    · obtain rfl := u2.is
      refine X7_become_s ap fun m3 r3 o3 T3 F3 => go (fun q => ?_) m3 r3 o3 F3 hA
      have : y = 1 := hy.mpr ((alk.eq (p := p) (by rw [hn] at good; exact good.1) (by rw [rp]; exact gp)).mpr (by rw [rp, ← q, hn]))
      omega
    · have e := (alk.eq (p := p) (by rw [hn] at good; exact good.1) (by rw [rp]; exact gp)).mp (hy.mp (by omega))
      refine k m ?_ fr.lo
      rw [lookE.same]
      · exact sm
      · rw [hn, e, rp, c, e66']
theorem X8_look_s {Q : mM → Prop} (hw : mWF w) (hT : mT w μ) (ev : envC w μ E) (st : snC μ E S) (sn : snG E S) (ti : tiG E) (tG : thG E) (pa : paG E) (hd : d < eD E) (hp : p < 10)
    (k : ∀ m : mM, snC m E (lookE E S (d : Int) p) → loC μ m → Q m) : WP_X8_look_W w μ (d : Int) (p : Int) Q := by
  obtain ⟨h1, h2, h3, h4, h5, h6, h7⟩ := ev
  have ev : envC w μ E := ⟨h1, h2, h3, h4, h5, h6, h7⟩
  obtain ⟨l1, l2, l3, l4, l5, l6⟩ := h4
  obtain ⟨d1, d2, d3⟩ := l2 d hd
  obtain ⟨o1, o2, o3⟩ := h6 d hd
  intro b1 eb1 hb1 z5 e5 r5
  have eb1' : b1 = dbA μ d := by
    have e : μ 10 d = (b1 : Int) := eb1
    omega
  subst eb1'
  have e5' : z5 = eOw E (10 * d + p) := by
    have e : μ (dbA μ d + 2) p = z5 := e5
    rw [← e]; exact o1 p hp
  have ho : eOw E (10 * d + p) ≤ 2 := by omega
  refine ⟨fun c => ?_, fun c => ?_⟩
  · refine X8_gather_s hw hT ev st sn ti hp (fun n hn => cdsN.len ti n hn) fun m fr T F hc hL hV T' F' zg eg rg => ?_
    have st5 : rowL (m (dbA μ d + 1)) (m (dbA μ d) 4).toNat = eSt E d := by
      rw [fr.hi (by omega), rowL.ext (f := μ (dbA μ d + 1)) (fun i _ => fr.hi (by omega))]
      exact o2
    have eg' : zg = eGr E d := by rw [← eg, fr.hi (by omega)]; exact o3
    have h35 : ∀ i, i < 10 → m 35 i = ((36 + 3 * i : Nat) : Int) := fun i hi => by rw [fr 35 i (by omega) (by omega) (by omega) (by omega)]; exact l6 i hi
    have hlen : (m 32 9).toNat = (cdsN E S (d : Int) p (eT E)).length := by omega
    have c9 := cdsN.len (S := S) (p := p) (d := (d : Int)) ti (eT E) (Nat.le_refl _)
    have hN : ¬ 0 ≤ eOw E (10 * d + p) := by omega
    have fin : ∀ (L : List Nat) (z : Int) (m1 : mM), onW m m1 → ((z = -1 ∧ pickE (eGr E d) (eSt E d) (cdsN E S (d : Int) p (eT E)) = none) ∨ (0 ≤ z ∧ z < m 32 9 ∧ pickE (eGr E d) (eSt E d) (cdsN E S (d : Int) p (eT E)) = some (cdC m z.toNat))) → mT w m1 → mF L w m m1 → ((-1) ≤ z ∧ z ≤ 9) → ((z < 0) → WJ_X8_look_W_1 w μ (d : Int) (p : Int) Q (dbA μ d) (-99999999) 70 m1) ∧ ((0 ≤ z) → ∀ b : Nat, m1 35 z.toNat = (b : Int) → mAt w b 200 → ∀ y : Int, m1 b 10 = y → (0 ≤ y ∧ y ≤ 19 ∧ (y = 0 ∨ y < w.2.2.2 1)) → WJ_X8_look_W_1 w μ (d : Int) (p : Int) Q (dbA μ d) y b m1) := by
      intro L z m1 ow hz T1 F1 rz
      have fr1 := fr.onW ow
      refine ⟨fun q => ?_, fun q b eb hb y ey _ => ?_⟩
      · rcases hz with ⟨_, e⟩ | ⟨e, _⟩
        · refine X8_lookJ_s hw hT ev st sn ti tG pa hd hp ho fr1 (by omega) ?_ k
          rw [newP.no hN e, (st.fr ev.2.2.2.1 fr1).2.2.2.2.2.2]
        · omega
      · rcases hz with ⟨e, _⟩ | ⟨_, e1, e⟩
        · omega
        · have eb' : b = 36 + 3 * z.toNat := by
            rw [ow 35 _ (by omega), h35 z.toNat (by omega)] at eb
            omega
          have nt : ∀ i, m1 b i = m b i := fun i => ow _ _ (by omega)
          subst eb'
          refine X8_lookJ_s hw hT ev st sn ti tG pa hd hp ho fr1 (by omega) ?_ k
          rw [newP.yes hN e]
          obtain ⟨t, ht, q2⟩ := cdsN.mem (pickE.mem e)
          have in_ : cdC m z.toNat ∈ cdsN E S (d : Int) p (eT E) := pickE.mem e
          have y1 : (cdC m z.toNat).1 = y := by rw [← ey, nt]; rfl
          have th : ¬ m (36 + 3 * z.toNat) 2 = 0 := hV z.toNat (by omega)
          rw [y1, rtC.of (μ := m) (fun i => ow _ _ (by omega)) (fun i => ow _ _ (by omega)) (fun i => ow _ _ (by omega)), rtC.the th]
          rfl
    refine ⟨fun q => ?_, fun q => ?_⟩
    · refine X8_pickPlain_s ⟨by omega, by omega⟩ h35 fun z m1 ow hz => fin _ z m1 ow ?_
      rw [st5, hlen, hL] at hz
      have e : pickE (eGr E d) (eSt E d) (cdsN E S (d : Int) p (eT E)) = bst (eSt E d) (cdsN E S (d : Int) p (eT E)) none := if_pos (by omega)
      rw [e]; exact hz
    · refine X8_pickGrouped_s ⟨by omega, by omega⟩ hw T h35 fun z m1 ow hz => fin _ z m1 ow ?_
      rw [st5, hlen, hL] at hz
      have e : pickE (eGr E d) (eSt E d) (cdsN E S (d : Int) p (eT E)) = pickG (eSt E d) (cdsN E S (d : Int) p (eT E)) := if_neg (by omega)
      rw [e]; exact hz
  · have hP : 0 ≤ eOw E (10 * d + p) := by omega
    refine X7_begin_s fun m r o _ _ => X8_lookJ_s hw hT ev st sn ti tG pa hd hp ho (fun b i q1 q2 q3 q4 => o b i (by omega) (by omega) (by omega)) (by omega) ?_ k
    rw [newP.own hP, r, e5']
end LookC3
end
section
/-! The reference picks and looks. -/
def onL (μ m : mM) : Prop := ∀ (b i : Nat), ¬ b = 165 → m b i = μ b i
theorem onL.rt {w : mW} {μ m : mM} (h : onL μ m) (hw : mWF w) (hT : mT w μ) {r : Int} (hr : 0 ≤ r) : rtR m r = rtR μ r := rtR.cg (hT.rb hw hr).1.2 (hT.rb hw hr).2.2 fun k hk => h _ _ (by omega)
theorem onL.fr {μ m : mM} (h : onL μ m) : frR μ m := fun b i _ _ _ _ h5 _ => h b i h5
section PickR
variable {w : mW} {μ : mM} {E : En} {S : Sn} {G : mM → Prop} {d p : Nat}
theorem stepR {m : mM} (ev : envR w m E G) (hd : d < eD E) : ∃ n, rowL (fun i => m 163 (6 * (d : Int) + (i : Int)).toNat) 6 = eSt E d ++ List.replicate n 0 := by
  obtain ⟨n, en⟩ := (ev.2.2.2.2.1 d (Or.inl hd)).2.1
  refine ⟨n, ?_⟩
  rw [← en]
  exact rowL.ext fun i _ => by rw [show (6 * (d : Int) + (i : Int)).toNat = 6 * d + i by omega]
theorem X12_pickP_s {m1 : mM} {Q : Int → mM → Prop} (hw : mWF w) (T1 : mT w m1) (ev1 : envR w m1 E G) (st1 : snR m1 E S) (sn : snG E S) (ti : tiG E) (tG : thG E) (hd : d < eD E) (hp : p < 10)
    (hc : ∀ t, t < eT E → rtR m1 (4 + (t : Int)) = (cdE E S (d : Int) p t).map (fun x => x.2.2.2))
    (k : ∀ (z : Int) (m : mM), onL m1 m → ((z = -99999999 ∧ bst (eSt E d) (cdsN E S (d : Int) p (eT E)) none = none) ∨ (∃ (t : Nat) (c : Cd), z = (t : Int) ∧ t < eT E ∧ cdE E S (d : Int) p t = some c ∧ bst (eSt E d) (cdsN E S (d : Int) p (eT E)) none = some c)) → Q z m) : loopF (WL_X12_pick_W_5 w (d : Int) (p : Int) Q (eT E : Int) m1) False 22 (0, m1) := by
  have t20 := ti.2.2.1
  refine loopF.im (fun s m => 0 ≤ s ∧ s ≤ (eT E : Int) ∧ onL m1 m ∧ ∀ t : Nat, (t : Int) < s → (m 165 t = 0 ↔ cdE E S (d : Int) p t = none)) (fun s => (21 - s).toNat) ⟨by omega, by omega, fun _ _ _ => rfl, fun t ht => by omega⟩ (by omega) ?_
  rintro rc s m ⟨s0, s1, ol, h⟩ ih s' m' e hs T F
  cases e
  have rt : ∀ r, 0 ≤ r → rtR m r = rtR m1 r := fun r hr => ol.rt hw T1 hr
  refine ⟨fun g => ?_, fun g x ex hx => ?_⟩
  · have Fm : mF lER w m1 m := mF.refl.call F rfl
    have evm := ev1.fr hw Fm
    have stm := st1.fr hw T1 ol.fr
    have hcm : ∀ t, t < eT E → rtR m (4 + (t : Int)) = (cdE E S (d : Int) p t).map (fun x => x.2.2.2) := fun t ht => by rw [rt _ (by omega)]; exact hc t ht
    have cx : ∀ t x, t < eT E → cdE E S (d : Int) p t = some x → cdX m (d : Int) (p : Int) (4 + (t : Int)) (t : Int) = x := fun t x ht e => cdX.eq hw evm stm ti hp ht (hcm t ht) e
    have lf : ∀ t, t < eT E → lfR m (d : Int) (p : Int) t = cdE E S (d : Int) p t := fun t ht => by
      unfold lfR
      have ht' := h t (by omega)
      by_cases c : m 165 t = 0
      · rw [if_pos c, ht'.mp c]
      · rw [if_neg c]
        cases e : cdE E S (d : Int) p t with
        | none => exact absurd (ht'.mpr e) c
        | some x => rw [cx t x ht e]
    have eL : fmN (lfR m (d : Int) (p : Int)) (eT E) = cdsN E S (d : Int) p (eT E) := fmN.ext lf
    obtain ⟨n, en⟩ := stepR evm hd
    have e106 : (m 106 6).toNat = eT E := by rw [evm.1]; rfl
    refine X12_best_s (by omega) (fun t ht hne => ?_) fun z hz rz => k z m ol ?_
    · have ht2 : t < eT E := by rw [evm.1] at ht; omega
      cases e : cdE E S (d : Int) p t with
      | none => exact absurd ((h t (by omega)).mpr e) hne
      | some x =>
        have g2 := hcm t ht2
        rw [e] at g2
        have rv : rvR m (4 + (t : Int)) = x.2.2.2 := (rtR.get g2).2.symm
        rw [rv]
        exact ((cdE.good sn tG hp e) x.2.2.2 rfl).2.2.2.2
    · rw [e106, eL, en, bst.zeros] at hz
      rcases hz with hz | ⟨z0, z1, z2, hz⟩
      · exact Or.inl hz
      · rw [evm.1] at z1
        cases e : cdE E S (d : Int) p z.toNat with
        | none => exact absurd ((h z.toNat (by omega)).mpr e) z2
        | some x =>
          refine Or.inr ⟨z.toNat, x, by omega, by omega, e, ?_⟩
          have c2 := cx z.toNat x (by omega) e
          rw [Int.toNat_of_nonneg z0] at c2
          rw [hz, c2]
  · refine X12_isThere_s fun y hy ry m2 u2 T2 => ih _ _ ⟨by omega, by omega, fun b i hb => ?_, fun t ht => ?_⟩ (by omega)
    · obtain rfl := u2.is
      rw [mUp.no (by omega)]
      exact ol b i hb
    · obtain rfl := u2.is
      by_cases c : (t : Int) = s
      · have e : t = s.toNat := by omega
        rw [mUp.yes ⟨rfl, e⟩]
        have hc2 := hc t (by omega)
        rw [← rt _ (by omega), c] at hc2
        rw [hc2] at hy
        cases e2 : cdE E S (d : Int) p t with
        | none =>
          rw [e2] at hy
          refine ⟨fun _ => rfl, fun _ => ?_⟩
          have : ¬ y = 1 := fun q => hy.mp q rfl
          omega
        | some x =>
          rw [e2] at hy
          have y1 : y = 1 := hy.mpr (fun q => by cases q)
          exact ⟨fun q => by omega, fun q => by cases q⟩
      · rw [mUp.no (by omega)]
        exact h t (by omega)
/-- something else is picked -/
theorem snR.pick {μ m : mM} {k : Nat} {v : Int} {o : Option Rt} (h : snR μ E S) (hw : mWF w) (hT : mT w μ) (hk : k < 10 * eD E) (hD : eD E ≤ 10)
    (f : ∀ (b i : Nat), ¬ (b = 126 ∧ 40 ≤ i ∧ i < 960) → ¬ b = 151 → ¬ b = 152 → ¬ b = 153 → ¬ b = 165 → ¬ (b = 106 ∧ 26 ≤ i ∧ i ≤ 31) → ¬ (b = 161 ∧ i = k) → ¬ (b = 126 ∧ 40 * (30 + k) ≤ i ∧ i < 40 * (30 + k) + 40) → m b i = μ b i)
    (hv : m 161 k = v) (ho : rtR m (30 + (k : Int)) = o) : snR m E (pk! S k (v, o)) := by
  obtain ⟨h1, h2, h3, h4, h5, h6⟩ := h
  have f' : ∀ (b i : Nat), (154 ≤ b ∧ b ≤ 160) ∨ (b = 106 ∧ 32 ≤ i) → m b i = μ b i := fun b i hb => f b i (by omega) (by omega) (by omega) (by omega) (by omega) (by omega) (by omega) (by omega)
  have rt : ∀ r : Int, 24 ≤ r → ¬ r = 30 + (k : Int) → rtR m r = rtR μ r := fun r hr hne => rtR.cg (hT.rb hw (by omega)).1.2 (hT.rb hw (by omega)).2.2 fun j hj => f _ _ (by omega) (by omega) (by omega) (by omega) (by omega) (by omega) (by omega) (by omega)
  have at_ : ∀ e, atR m e = atR μ e := fun e => by
    unfold atR
    rw [f' 157 _ (by omega), f' 159 _ (by omega)]
  have md_ : ∀ e, mdR m e = mdR μ e := fun e => by
    unfold mdR
    rw [f' 158 _ (by omega), f' 160 _ (by omega)]
  refine ⟨fun s hs => ?_, fun j hj => ?_, ⟨fun e he h0 => ?_, fun x hx => ?_, ?_⟩, ?_, ?_, ?_⟩
  · have g := h1 s hs
    rw [rt (130 + (s : Int)) (by omega) (by omega), rt (530 + (s : Int)) (by omega) (by omega), rt (930 + (s : Int)) (by omega) (by omega), f' 154 s (by omega), f' 155 s (by omega), f' 156 s (by omega), f' 157 s (by omega)]
    exact g
  · show m 161 j = (if j = k then (v, o) else sPk S j).1 ∧ rtR m (30 + (j : Int)) = (if j = k then (v, o) else sPk S j).2
    by_cases c : j = k
    · rw [if_pos c, c]; exact ⟨hv, ho⟩
    · rw [if_neg c, rt _ (by omega) (by omega), f 161 j (by omega) (by omega) (by omega) (by omega) (by omega) (by omega) (by omega) (by omega)]
      exact h2 j hj
  · rw [at_] at h0 ⊢
    exact h3.1 e he h0
  · rw [at_, md_, f' 106 72 (by omega)]
    exact h3.2.1 x hx
  · exact h3.2.2.imp fun {x y} q => by rw [md_, md_]; exact q
  · rw [f' 106 71 (by omega)]; exact h4
  · rw [f' 106 73 (by omega)]; exact h5
  · rw [f' 106 72 (by omega)]; exact h6
/-- rows that the engine leaves alone -/
def loR (μ m : mM) : Prop := ∀ i : Nat, (i < 40 ∨ (960 ≤ i ∧ i < 1200)) → m 126 i = μ 126 i
theorem X12_lookL_s {Q : mM → Prop} {m0 : mM} {S1 : Sn} (hw : mWF w) (ev : envR w m0 E G) (hG : G m0) (gG : gSt G) (st : snR m0 E S1) (sn : snG E S1) (ti : tiG E) (tG : thG E) (pa : paG E) (hp : p < 10) (hM : 0 ≤ sMd S1 ∧ sMd S1 + 20 < 2147483647)
    (k : ∀ m : mM, snR m E (forN (sayD E (d : Int) p) (eT E) S1) → G m → loR m0 m → Q m) : loopF (WL_X12_look_W_2 w (d : Int) (p : Int) Q m0) False 22 (0, m0) := by
  have t20 := ti.2.2.1
  refine loopF.im (fun z m => 0 ≤ z ∧ z ≤ (eT E : Int) ∧ G m ∧ loR m0 m ∧ snR m E (forN (sayD E (d : Int) p) z.toNat S1)) (fun z => (21 - z).toNat) ⟨by omega, by omega, hG, fun _ _ => rfl, st⟩ (by omega) ?_
  rintro rc z m ⟨z0, z1, gm, lo, hs⟩ ih z' m' e hz T F n en hn
  cases e
  have Fm : mF lER w m0 m := mF.refl.call F rfl
  have evm := ev.fr hw Fm
  rw [evm.1] at en
  subst en
  have snm := forN.sn (d := (d : Int)) sn tG pa hp z.toNat (by omega)
  have next : ∀ m2 : mM, loR m m2 → G m2 → snR m2 E (sayD E (d : Int) p z.toNat (forN (sayD E (d : Int) p) z.toNat S1)) → z < (eT E : Int) → rc (z + 1, m2) := fun m2 l2 g2 s2 g => ih _ _ ⟨by omega, by omega, g2, fun i hi => (l2 i hi).trans (lo i hi), by rw [show (z + 1).toNat = z.toNat + 1 by omega]; exact s2⟩ (by omega)
  refine ⟨fun g => k m (by rw [show eT E = z.toNat by omega]; exact hs) gm lo, fun g a ea _ b eb _ => ?_⟩
  have zt : z.toNat < eT E := by omega
  have zc : ((z.toNat : Nat) : Int) = z := by omega
  obtain ⟨a1, a2, a3, a4, a5, a6⟩ := evm.2.2.2.1 z.toNat zt
  refine X12_isAt_s fun y hy ry => ?_
  rw [show (2 * z).toNat = 2 * z.toNat by omega, show (2 * z + 1).toNat = 2 * z.toNat + 1 by omega, a1, a2] at hy
  refine ⟨fun c => next m (fun _ _ => rfl) gm ?_ g, fun c u eu hu => ?_⟩
  · have ns : sdE E (d : Int) z.toNat < 0 := by
      unfold sdE sdI
      rw [if_neg (fun e => by have := hy.mpr (Or.inl e); omega), if_neg (fun e => by have := hy.mpr (Or.inr e); omega)]
      decide
    unfold sayD
    rw [if_pos ns]
    exact hs
  have nn : ¬ sdE E (d : Int) z.toNat < 0 := by
    unfold sdE sdI
    rcases hy.mp (by omega) with e | e
    · rw [if_pos e]; decide
    · by_cases q : eA E z.toNat = (d : Int)
      · rw [if_pos q]; decide
      · rw [if_neg q, if_pos e]; decide
  obtain ⟨s, hs1, hs2, hd⟩ := sdE.side nn
  have eD1 : sayD E (d : Int) p z.toNat (forN (sayD E (d : Int) p) z.toNat S1) = sayE E (forN (sayD E (d : Int) p) z.toNat S1) z.toNat s p := by
    unfold sayD
    rw [if_neg nn, hs1, Int.toNat_natCast]
  rw [a3] at eu
  refine ⟨fun q => next m (fun _ _ => rfl) gm ?_ g, fun q => ?_⟩
  · rw [eD1]
    unfold sayE
    rw [if_pos (eu.trans q)]
    exact hs
  · have key : ∀ L : List Nat, WP_X12_say_W w m (d : Int) ((z.toNat : Nat) : Int) (p : Int) (fun m2 => mT w m2 → mF L w m m2 → rc (z + 1, m2)) := by
      intro L
      exact X12_say_s hw T evm gm gG hs snm.1 ti zt hs2 hd hp (by rw [eu]; exact q) (by omega) tG fun m2 s2 g2 l2 _ _ => next m2 l2 g2 (by rw [eD1]; exact s2) g
    rw [zc] at key
    exact key _
end PickR
end
section
/-! The reference's grouped pick. -/
theorem mT.r126 {w : mW} {μ : mM} (h : mT w μ) (hw : mWF w) {i : Nat} : -2147483648 ≤ μ 126 i ∧ μ 126 i ≤ 2147483647 := (h 126 126 (A_126 hw) i).1
def uk (z : Int) : Int := if z < 0 then z + 4294967296 else z
theorem uk.rng {z : Int} (h : -2147483648 ≤ z ∧ z ≤ 2147483647) : 0 ≤ uk z ∧ uk z < 4294967296 := by
  unfold uk
  by_cases c : z < 0
  · rw [if_pos c]; omega
  · rw [if_neg c]; omega
theorem uk.inj {x y : Int} (hx : -2147483648 ≤ x ∧ x ≤ 2147483647) (hy : -2147483648 ≤ y ∧ y ≤ 2147483647) (h : uk x = uk y) : x = y := by
  unfold uk at h
  by_cases c : x < 0
  · rw [if_pos c] at h
    by_cases c2 : y < 0
    · rw [if_pos c2] at h; omega
    · rw [if_neg c2] at h; omega
  · rw [if_neg c] at h
    by_cases c2 : y < 0
    · rw [if_pos c2] at h; omega
    · rw [if_neg c2] at h; omega
theorem X12_isBelow_s {w : mW} {μ : mM} {a b : Int} {Q : Int → mM → Prop} (ha : -2147483648 ≤ a ∧ a ≤ 2147483647) (hb : -2147483648 ≤ b ∧ b ≤ 2147483647) (k : ∀ z : Int, (z = 1 ↔ uk a < uk b) → Q z μ) : WP_X12_isBelow_W w μ a b Q := by
  have sh : ∀ x z : Int, -2147483648 ≤ x ∧ x ≤ 2147483647 → -2147483648 ≤ z ∧ z ≤ 2147483647 → (z - (x + -2147483648)) % 4294967296 = 0 → uk x = z + 2147483648 := fun x z hx hz h => by
    unfold uk
    by_cases c : x < 0
    · rw [if_pos c]; omega
    · rw [if_neg c]; omega
  intro z1 r1 e1 z4 r4 e4
  have h1 := sh a z1 ha r1 e1
  have h4 := sh b z4 hb r4 e4
  exact ⟨fun c => k 0 ⟨fun e => absurd e (by decide), fun e => by omega⟩, fun c => k 1 ⟨fun _ => by omega, fun _ => rfl⟩⟩
theorem fmN.fil {α : Type} {f : Nat → Option α} {P : α → Bool} {g : Nat → Option α} : ∀ {n : Nat}, (∀ i, i < n → g i = match f i with | none => none | some x => if P x = true then some x else none) → fmN g n = (fmN f n).filter P := by
  intro n
  induction n with
  | zero => exact fun _ => rfl
  | succ n ih =>
    intro h
    have e := ih fun i hi => h i (by omega)
    have q := h n (by omega)
    cases c : f n with
    | none =>
      rw [c] at q
      rw [fmN.no q, fmN.no c, e]
    | some x =>
      rw [c] at q
      have q : g n = if P x = true then some x else none := q
      rw [fmN.yes c, List.filter_append, ← e]
      by_cases p : P x = true
      · rw [if_pos p] at q
        rw [fmN.yes q, List.filter_cons_of_pos p]; rfl
      · rw [if_neg p] at q
        rw [fmN.no q, List.filter_cons_of_neg p]
        simp
theorem fmN.mem {α : Type} {f : Nat → Option α} {n : Nat} {x : α} : x ∈ fmN f n ↔ ∃ i, i < n ∧ f i = some x := by
  unfold fmN
  rw [List.mem_filterMap]
  constructor
  · rintro ⟨i, hi, e⟩
    exact ⟨i, List.mem_range.mp hi, e⟩
  · rintro ⟨i, hi, e⟩
    exact ⟨i, List.mem_range.mpr hi, e⟩
theorem loopF.i4m {B : (Int × Int × Int × Int × mM → Prop) → Int × Int × Int × Int × mM → Prop} (I : Int → Int → Int → Int → mM → Prop) (m : Int → Int → Int → Nat) {n : Nat} {a b c z : Int} {μ : mM} (h : I a b c z μ) (hm : m b c z < n) (step : ∀ (rc : Int × Int × Int × Int × mM → Prop) (a b c z : Int) (μ : mM), I a b c z μ → (∀ a' b' c' z' μ', I a' b' c' z' μ' → m b' c' z' < m b c z → rc (a', b', c', z', μ')) → B rc (a, b, c, z, μ)) : loopF B False n (a, b, c, z, μ) := loopF.ind (fun s => I s.1 s.2.1 s.2.2.1 s.2.2.2.1 s.2.2.2.2) (fun s => m s.2.1 s.2.2.1 s.2.2.2.1) (fun rc s hI ih => step rc s.1 s.2.1 s.2.2.1 s.2.2.2.1 s.2.2.2.2 hI fun a' b' c' z' q' => ih (a', b', c', z', q')) n (a, b, c, z, μ) h hm
theorem loopF.iii {B : (Int × Int × Int → Prop) → Int × Int × Int → Prop} (I : Int → Int → Int → Prop) (m : Int → Nat) {n : Nat} {a b z : Int} (h : I a b z) (hm : m z < n) (step : ∀ (rc : Int × Int × Int → Prop) (a b z : Int), I a b z → (∀ a' b' z', I a' b' z' → m z' < m z → rc (a', b', z')) → B rc (a, b, z)) : loopF B False n (a, b, z) := loopF.ind (fun s => I s.1 s.2.1 s.2.2) (fun s => m s.2.2) (fun rc s hI ih => step rc s.1 s.2.1 s.2.2 hI fun a' b' z' => ih (a', b', z')) n (a, b, z) h hm
/-- a tie's number stands for a candidate -/
def ixR (E : En) (S : Sn) (d : Int) (p : Nat) (b : Int) (o : Option Cd) : Prop := (b = -99999999 ∧ o = none) ∨ ∃ (t : Nat) (c : Cd), b = (t : Int) ∧ t < eT E ∧ cdE E S d p t = some c ∧ o = some c
section PickG
variable {w : mW} {E : En} {S : Sn} {G : mM → Prop} {d p : Nat} {m1 : mM}
theorem kyR {t : Nat} {x : Cd} {m : mM} (h : rtR m (4 + (t : Int)) = (cdE E S (d : Int) p t).map (fun x => x.2.2.2)) (hx : cdE E S (d : Int) p t = some x) : ¬ m 126 (40 * (4 + (t : Int))).toNat < 0 ∧ ky x = if 0 < m 126 (40 * (4 + (t : Int)) + 4).toNat then uk (m 126 (40 * (4 + (t : Int)) + 6).toNat) else -1 := by
  rw [hx] at h
  have g := rtR.get h
  refine ⟨g.1, ?_⟩
  unfold ky
  have g2 : x.2.2.2 = _ := g.2
  rw [g2]
  show kyL (rowL (fun k => m 126 (40 * (4 + (t : Int)) + 6 + (k : Int)).toNat) (m 126 (40 * (4 + (t : Int)) + 4).toNat).toNat) = _
  rw [kyL.row]
  simp only [Int.natCast_zero, Int.add_zero]
  rfl
theorem beatsE {Q : Int → mM → Prop} {m : mM} {tx ty : Nat} {x y : Cd} (hw : mWF w) (ev : envR w m E G) (st : snR m E S) (sn : snG E S) (ti : tiG E) (tG : thG E) (hd : d < eD E) (hp : p < 10)
    (hc : ∀ t, t < eT E → rtR m (4 + (t : Int)) = (cdE E S (d : Int) p t).map (fun x => x.2.2.2)) (hx : tx < eT E) (hy : ty < eT E) (ex : cdE E S (d : Int) p tx = some x) (ey : cdE E S (d : Int) p ty = some y) (k : ∀ z : Int, (z = 1 ↔ bts (eSt E d) x y = true) → Q z m) : WP_X12_beats_W w m (d : Int) (tx : Int) (ty : Int) (p : Int) Q := by
  have rg : ∀ t c, t < eT E → cdE E S (d : Int) p t = some c → rgV (rvR m (4 + (t : Int))) := fun t c ht e => by
    have g2 := hc t ht
    rw [e] at g2
    have rv : rvR m (4 + (t : Int)) = c.2.2.2 := (rtR.get g2).2.symm
    rw [rv]
    exact ((cdE.good sn tG hp e) c.2.2.2 rfl).2.2.2.2
  obtain ⟨n, en⟩ := stepR ev hd
  refine X12_beats_s (by omega) (rg tx x hx ex) (rg ty y hy ey) fun z hz => k z ?_
  rw [en, bts.zeros, cdX.eq hw ev st ti hp hx (hc tx hx) ex, cdX.eq hw ev st ti hp hy (hc ty hy) ey] at hz
  exact hz
theorem X12_pickG_s {Q : Int → mM → Prop} (hw : mWF w) (T1 : mT w m1) (ev1 : envR w m1 E G) (st1 : snR m1 E S) (sn : snG E S) (ti : tiG E) (tG : thG E) (hd : d < eD E) (hp : p < 10)
    (hc : ∀ t, t < eT E → rtR m1 (4 + (t : Int)) = (cdE E S (d : Int) p t).map (fun x => x.2.2.2))
    (k : ∀ (z : Int) (m : mM), onL m1 m → ((z = -99999999 ∧ pickG (eSt E d) (cdsN E S (d : Int) p (eT E)) = none) ∨ (∃ (t : Nat) (c : Cd), z = (t : Int) ∧ t < eT E ∧ cdE E S (d : Int) p t = some c ∧ pickG (eSt E d) (cdsN E S (d : Int) p (eT E)) = some c)) → Q z m) : loopF (WL_X12_pick_W_1 w (d : Int) (p : Int) Q (eT E : Int) m1) False 22 (-99999999, 0) := by
  have t20 := ti.2.2.1
  have there : ∀ (m : mM), onL m1 m → ∀ t, t < eT E → rtR m (4 + (t : Int)) = (cdE E S (d : Int) p t).map (fun x => x.2.2.2) := fun m ol t ht => by rw [ol.rt hw T1 (by omega)]; exact hc t ht
  have thE : ∀ (m : mM), onL m1 m → ∀ t, t < eT E → (rtR m (4 + (t : Int)) = none ↔ cdE E S (d : Int) p t = none) := fun m ol t ht => by
    rw [there m ol t ht]
    cases cdE E S (d : Int) p t with
    | none => exact ⟨fun _ => rfl, fun _ => rfl⟩
    | some x => exact ⟨fun q => (by cases q), fun q => (by cases q)⟩
  refine loopF.ii (fun b s => 0 ≤ s ∧ s ≤ (eT E : Int) ∧ ixR E S (d : Int) p b (bst (eSt E d) ((cdsN E S (d : Int) p s.toNat).filter fun c => decide (ky c = -1)) none)) (fun _ s => (21 - s).toNat) ⟨by omega, by omega, Or.inl ⟨rfl, rfl⟩⟩ (by omega) ?_
  rintro rc b s ⟨s0, s1, hb⟩ ih b' s' e _ _
  cases e
  refine ⟨fun g => ?_, fun g f ef _ => ?_⟩
  rotate_left 1
  · -- those of empty ways
    have st' : s.toNat < eT E := by omega
    have sc : ((s.toNat : Nat) : Int) = s := by omega
    have s2 : (s + 1).toNat = s.toNat + 1 := by omega
    have none_ : cdE E S (d : Int) p s.toNat = none → rc (b, s + 1) := fun e => ih _ _ ⟨by omega, by omega, by
      have e2 : cdsN E S (d : Int) p (s.toNat + 1) = cdsN E S (d : Int) p s.toNat := fmN.no e
      rw [s2, e2]; exact hb⟩ (by omega)
    refine X12_isThere_s fun y hy _ => ⟨fun c => none_ ?_, fun c ln eln _ => ?_⟩
    · have q := thE m1 (fun _ _ _ => rfl) s.toNat st'
      rw [sc] at q
      exact Classical.byContradiction fun g2 => by
        have := hy.mpr fun g3 => g2 (q.mp g3)
        omega
    · cases ex : cdE E S (d : Int) p s.toNat with
      | none =>
        have q := thE m1 (fun _ _ _ => rfl) s.toNat st'
        rw [sc] at q
        exact absurd (q.mpr ex) (hy.mp (by omega))
      | some x =>
        have e2 : cdsN E S (d : Int) p (s.toNat + 1) = cdsN E S (d : Int) p s.toNat ++ [x] := fmN.yes ex
        have kx := (kyR (hc _ st') ex).2
        rw [sc, eln] at kx
        have rb := (T1.rb hw (show 0 ≤ 4 + s by omega)).1
        rw [eln] at rb
        refine ⟨fun q => ih _ _ ⟨by omega, by omega, ?_⟩ (by omega), fun q => ?_⟩
        · have hk : ¬ ky x = -1 := by
            rw [kx, if_pos (by omega)]
            have := uk.rng (z := m1 126 (40 * (4 + s) + 6).toNat) (T1.r126 hw)
            omega
          rw [s2, e2, List.filter_append, List.filter_cons_of_neg (by simp [hk])]
          simp only [List.filter_nil, List.append_nil]
          exact hb
        · have hk : ky x = -1 := by
            rw [kx, if_neg (by omega)]
          have e3 : ((cdsN E S (d : Int) p (s.toNat + 1)).filter fun c => decide (ky c = -1)) = ((cdsN E S (d : Int) p s.toNat).filter fun c => decide (ky c = -1)) ++ [x] := by
            rw [e2, List.filter_append, List.filter_cons_of_pos (p := fun c => decide (ky c = -1)) (decide_eq_true hk)]
            rfl
          refine ⟨fun q2 => ih _ _ ⟨by omega, by omega, Or.inr ⟨s.toNat, x, by omega, st', ex, ?_⟩⟩ (by omega), fun q2 => ?_⟩
          · rcases hb with ⟨_, h2⟩ | ⟨t, c, h1, _⟩
            · rw [s2, e3, bst.app, h2]
              rfl
            · omega
          · rcases hb with ⟨h1, _⟩ | ⟨t, c, h1, h2, h3, h4⟩
            · exact absurd h1 q2
            subst h1
            have nx : bst (eSt E d) ((cdsN E S (d : Int) p (s.toNat + 1)).filter fun c => decide (ky c = -1)) none = if bts (eSt E d) x c = true then some x else some c := by
              rw [e3, bst.app, h4]
              rfl
            have bt := beatsE (Q := fun z _ => (0 ≤ z ∧ z ≤ 1) → ((z = 0) → rc ((t : Int), s + 1)) ∧ ((¬ z = 0) → rc (s, s + 1))) hw ev1 st1 sn ti tG hd hp hc st' h2 ex h3 fun z hz _ => ⟨fun c0 => ih _ _ ⟨by omega, by omega, Or.inr ⟨t, c, rfl, h2, h3, ?_⟩⟩ (by omega), fun c0 => ih _ _ ⟨by omega, by omega, Or.inr ⟨s.toNat, x, by omega, st', ex, ?_⟩⟩ (by omega)⟩
            · rw [sc] at bt
              exact bt
            · rw [s2, nx, if_neg (fun q => by have := hz.mpr q; omega)]
            · rw [s2, nx, if_pos (hz.mp (by omega))]
  · -- the keys, rising
    have es : s.toNat = eT E := by omega
    rw [es] at hb
    have ksrt : (kys (cdsN E S (d : Int) p (eT E)) []).Pairwise (· < ·) := kys.srt' List.Pairwise.nil
    have inK : ∀ t x, t < eT E → cdE E S (d : Int) p t = some x → ¬ ky x = -1 → ky x ∈ kys (cdsN E S (d : Int) p (eT E)) [] := fun t x ht e hk => kys.mem.mpr (Or.inr ⟨x, fmN.mem.mpr ⟨t, ht, e⟩, rfl, hk⟩)
    have ofK : ∀ y, y ∈ kys (cdsN E S (d : Int) p (eT E)) [] → ∃ t x, t < eT E ∧ cdE E S (d : Int) p t = some x ∧ ky x = y ∧ ¬ y = -1 := fun y hy => by
      rcases kys.mem.mp hy with a | ⟨c, hcc, a, bb⟩
      · cases a
      · obtain ⟨t, ht, e⟩ := fmN.mem.mp hcc
        exact ⟨t, c, ht, e, a, bb⟩
    refine loopF.i4m (fun b fl key gg m => onL m1 m ∧ (-2147483648 ≤ key ∧ key ≤ 2147483647) ∧ ∃ dn td : List Int, kys (cdsN E S (d : Int) p (eT E)) [] = dn ++ td ∧ ixR E S (d : Int) p b (bst (eSt E d) ((cdsN E S (d : Int) p (eT E)).filter (fun c => decide (ky c = -1)) ++ dn.filterMap (grp (eSt E d) (cdsN E S (d : Int) p (eT E)))) none) ∧ (fl = 0 → dn = []) ∧ (¬ fl = 0 → (∀ x ∈ dn, x ≤ uk key) ∧ ∀ x ∈ td, uk key < x) ∧ (gg = 0 → td = [])) (fun fl key gg => if gg = 0 then 0 else if fl = 0 then 4294967298 else (4294967297 - uk key).toNat) ⟨fun _ _ _ => rfl, by omega, [], _, rfl, by rw [List.filterMap_nil, List.append_nil]; exact hb, fun _ => rfl, fun q => absurd rfl q, fun q => absurd q (by decide)⟩ (by decide) ?_
    rintro rc2 b fl key gg m ⟨ol, kr, dn, td, hk, hbi, hf0, hf1, hg0⟩ ih2 b' fl' key' gg' m' e _ _ _ _ T F
    cases e
    refine ⟨fun q => ?_, fun q => ?_⟩
    · have etd := hg0 q
      rw [etd, List.append_nil] at hk
      refine k b m ol ?_
      have eP : pickG (eSt E d) (cdsN E S (d : Int) p (eT E)) = bst (eSt E d) ((cdsN E S (d : Int) p (eT E)).filter (fun c => decide (ky c = -1)) ++ dn.filterMap (grp (eSt E d) (cdsN E S (d : Int) p (eT E)))) none := by
        unfold pickG
        rw [hk]
      rw [eP]
      exact hbi
    have afT : ∀ y, y ∈ kys (cdsN E S (d : Int) p (eT E)) [] → (fl = 0 ∨ uk key < y) → y ∈ td := fun y hy ha => by
      rw [hk] at hy
      rcases List.mem_append.mp hy with a | a
      · by_cases c : fl = 0
        · rw [hf0 c] at a; cases a
        · have := (hf1 c).1 y a
          rcases ha with ha | ha
          · exact absurd ha c
          · omega
      · exact a
    have Taf : ∀ y, y ∈ td → (fl = 0 ∨ uk key < y) := fun y hy => by
      by_cases c : fl = 0
      · exact Or.inl c
      · exact Or.inr ((hf1 c).2 y hy)
    refine loopF.iii (fun fo nx t => 0 ≤ t ∧ t ≤ (eT E : Int) ∧ (-2147483648 ≤ nx ∧ nx ≤ 2147483647) ∧ (∀ (i : Nat) (x : Cd), (i : Int) < t → cdE E S (d : Int) p i = some x → ¬ ky x = -1 → (fl = 0 ∨ uk key < ky x) → ¬ fo = 0 ∧ uk nx ≤ ky x) ∧ (¬ fo = 0 → uk nx ∈ td)) (fun t => (21 - t).toNat) ⟨by omega, by omega, by omega, fun i x hi => by omega, fun q => absurd rfl q⟩ (by omega) ?_
    rintro rc3 fo nx t ⟨z0, z1, nr, h3, h4⟩ ih3 fo' nx' t' e fr _ _
    cases e
    refine ⟨fun g2 => ⟨fun q2 => ?_, fun q2 => ?_⟩, fun g2 f2 ef2 _ => ?_⟩
    · -- a group
      have hin := h4 q2
      obtain ⟨y, td', etd⟩ : ∃ y td', td = y :: td' := by
        cases td with
        | nil => cases hin
        | cons y td' => exact ⟨y, td', rfl⟩
      subst etd
      rw [hk] at ksrt
      have kp := List.pairwise_append.mp ksrt
      have kc := List.pairwise_cons.mp kp.2.1
      have ey : y = uk nx := by
        obtain ⟨t2, x2, a1, a2, a3, a4⟩ := ofK y (by rw [hk]; exact List.mem_append.mpr (Or.inr List.mem_cons_self))
        have l1 := (h3 t2 x2 (by omega) a2 (by rw [a3]; exact a4) (by rw [a3]; exact Taf y List.mem_cons_self)).2
        rw [a3] at l1
        rcases List.mem_cons.mp hin with c | c
        · exact c.symm
        · have := kc.1 _ c
          omega
      refine loopF.im (fun z m2 => 0 ≤ z ∧ z ≤ (eT E : Int) ∧ onL m1 m2 ∧ ∀ i : Nat, (i : Int) < z → (m2 165 i = 0 ↔ ¬ ∃ x, cdE E S (d : Int) p i = some x ∧ ky x = y)) (fun z => (21 - z).toNat) ⟨by omega, by omega, ol, fun i hi => by omega⟩ (by omega) ?_
      rintro rc4 z m2 ⟨y0, y1, ol2, h5⟩ ih4 z' m2' e _ T4 F4
      cases e
      refine ⟨fun g4 => ?_, fun g4 f4 ef4 _ => ?_⟩
      · have Fm : mF lER w m1 m2 := (mF.refl.call F rfl).call F4 rfl
        have evm := ev1.fr hw Fm
        have stm := st1.fr hw T1 ol2.fr
        have hcm := there m2 ol2
        have cx : ∀ t x, t < eT E → cdE E S (d : Int) p t = some x → cdX m2 (d : Int) (p : Int) (4 + (t : Int)) (t : Int) = x := fun t x ht e => cdX.eq hw evm stm ti hp ht (hcm t ht) e
        have lf : fmN (lfR m2 (d : Int) (p : Int)) (eT E) = (cdsN E S (d : Int) p (eT E)).filter fun c => decide (ky c = y) := fmN.fil (f := cdE E S (d : Int) p) fun i hi => by
          unfold lfR
          have h5' := h5 i (by omega)
          cases e : cdE E S (d : Int) p i with
          | none =>
            have : m2 165 i = 0 := h5'.mpr fun ⟨x, q, _⟩ => by rw [e] at q; cases q
            rw [if_pos this]
          | some x =>
            show _ = if decide (ky x = y) = true then some x else none
            by_cases c : ky x = y
            · rw [if_pos (decide_eq_true c), if_neg (fun q => h5'.mp q ⟨x, e, c⟩), cx i x hi e]
            · rw [if_neg (fun q => c (of_decide_eq_true q)), if_pos (h5'.mpr fun ⟨x', q, q'⟩ => by rw [e] at q; cases q; exact c q')]
        obtain ⟨n, en⟩ := stepR evm hd
        have e106 : (m2 106 6).toNat = eT E := by rw [evm.1]; rfl
        refine X12_best_s (by omega) (fun t ht hne => ?_) fun v hv rv => ?_
        · have ht2 : t < eT E := by rw [evm.1] at ht; omega
          have : ∃ x, cdE E S (d : Int) p t = some x ∧ ky x = y := Classical.byContradiction fun q => hne ((h5 t (by omega)).mpr q)
          obtain ⟨x, e, _⟩ := this
          have g5 := hcm t ht2
          rw [e] at g5
          have rv : rvR m2 (4 + (t : Int)) = x.2.2.2 := (rtR.get g5).2.symm
          rw [rv]
          exact ((cdE.good sn tG hp e) x.2.2.2 rfl).2.2.2.2
        rw [e106, lf, en, bst.zeros] at hv
        have hv : (v = -99999999 ∧ grp (eSt E d) (cdsN E S (d : Int) p (eT E)) y = none) ∨ (0 ≤ v ∧ v < m2 106 6 ∧ ¬ m2 165 v.toNat = 0 ∧ grp (eSt E d) (cdsN E S (d : Int) p (eT E)) y = some (cdX m2 (d : Int) (p : Int) (4 + v) v)) := hv
        obtain ⟨tv, cv, av, bv, ev', gv⟩ : ∃ (t : Nat) (c : Cd), v = (t : Int) ∧ t < eT E ∧ cdE E S (d : Int) p t = some c ∧ grp (eSt E d) (cdsN E S (d : Int) p (eT E)) y = some c := by
          rcases hv with ⟨_, hv⟩ | ⟨v0, v1, v2, hv⟩
          · obtain ⟨t2, x2, a1, a2, a3, a4⟩ := ofK y (by rw [hk]; exact List.mem_append.mpr (Or.inr List.mem_cons_self))
            obtain ⟨x3, e3⟩ := grp.there (l := eSt E d) (fmN.mem.mpr ⟨t2, a1, a2⟩) a3
            have e3 : grp (eSt E d) (cdsN E S (d : Int) p (eT E)) y = some x3 := e3
            rw [hv] at e3; cases e3
          · rw [evm.1] at v1
            have : ∃ x, cdE E S (d : Int) p v.toNat = some x ∧ ky x = y := Classical.byContradiction fun q => v2 ((h5 v.toNat (by omega)).mpr q)
            obtain ⟨x, e, _⟩ := this
            refine ⟨v.toNat, x, by omega, by omega, e, ?_⟩
            have c2 := cx v.toNat x (by omega) e
            rw [Int.toNat_of_nonneg v0] at c2
            rw [hv, c2]
        have nx1 : (dn ++ [y]).filterMap (grp (eSt E d) (cdsN E S (d : Int) p (eT E))) = dn.filterMap (grp (eSt E d) (cdsN E S (d : Int) p (eT E))) ++ [cv] := by
          rw [List.filterMap_append]
          congr 1
          simp [gv]
        have fin : ∀ b2 : Int, ixR E S (d : Int) p b2 (bst (eSt E d) [cv] (bst (eSt E d) ((cdsN E S (d : Int) p (eT E)).filter (fun c => decide (ky c = -1)) ++ dn.filterMap (grp (eSt E d) (cdsN E S (d : Int) p (eT E)))) none)) → rc2 (b2, 1, nx, fo, m2) := fun b2 hb2 => ih2 _ _ _ _ _ ⟨ol2, nr, dn ++ [y], td', by rw [hk, List.append_assoc]; rfl, by rw [nx1, ← List.append_assoc, bst.app]; exact hb2, fun q => absurd q (by decide), fun _ => ⟨fun x hx => by
            rcases List.mem_append.mp hx with a | a
            · have := kp.2.2 x a y List.mem_cons_self
              omega
            · have := List.mem_singleton.mp a
              omega, fun x hx => by
            have := kc.1 x hx
            omega⟩, fun q => absurd q q2⟩ (by
          have ur := uk.rng nr
          have uk2 := uk.rng kr
          show (if fo = 0 then 0 else if (1 : Int) = 0 then 4294967298 else (4294967297 - uk nx).toNat) < (if gg = 0 then 0 else if fl = 0 then 4294967298 else (4294967297 - uk key).toNat)
          rw [if_neg q2, if_neg (by decide), if_neg q]
          by_cases c : fl = 0
          · rw [if_pos c]; omega
          · rw [if_neg c]
            have := (hf1 c).2 y List.mem_cons_self
            omega)
        refine ⟨fun q3 => fin v ?_, fun q3 => ?_⟩
        · rcases hbi with ⟨_, h8⟩ | ⟨t, c, h8, _⟩
          · rw [h8]
            exact Or.inr ⟨tv, cv, av, bv, ev', rfl⟩
          · omega
        · rcases hbi with ⟨h8, _⟩ | ⟨t, c, h8, h9, h10, h11⟩
          · exact absurd h8 q3
          subst h8 av
          rw [h11] at fin
          refine beatsE hw evm stm sn ti tG hd hp hcm bv h9 ev' h10 fun z hz _ => ⟨fun c0 => fin _ ?_, fun c0 => fin _ ?_⟩
          · show ixR E S (d : Int) p (t : Int) (if bts (eSt E d) cv c = true then some cv else some c)
            rw [if_neg (fun q => by have := hz.mpr q; omega)]
            exact Or.inr ⟨t, c, rfl, h9, h10, rfl⟩
          · show ixR E S (d : Int) p (tv : Int) (if bts (eSt E d) cv c = true then some cv else some c)
            rw [if_pos (hz.mp (by omega))]
            exact Or.inr ⟨tv, cv, rfl, bv, ev', rfl⟩
      · -- who is of the group
        have zt : z.toNat < eT E := by omega
        have zc : ((z.toNat : Nat) : Int) = z := by omega
        have put : ∀ (u : Int) (m3 : mM), mU m2 165 z.toNat u m3 → (u = 0 ↔ ¬ ∃ x, cdE E S (d : Int) p z.toNat = some x ∧ ky x = y) → rc4 (z + 1, m3) := fun u m3 uu hu => by
          obtain rfl := uu.is
          refine ih4 _ _ ⟨by omega, by omega, fun b i hb => ?_, fun i hi => ?_⟩ (by omega)
          · rw [mUp.no (by omega)]; exact ol2 b i hb
          · by_cases c : (i : Int) = z
            · have e : i = z.toNat := by omega
              rw [mUp.yes ⟨rfl, e⟩, e]; exact hu
            · rw [mUp.no (by omega)]; exact h5 i (by omega)
        have q1 := thE m2 ol2 z.toNat zt
        have hcz := there m2 ol2 z.toNat zt
        rw [zc] at q1
        refine X12_isThere_s fun v hv _ => ⟨fun c m3 u3 _ => put 0 m3 u3 ⟨fun _ ⟨x, e, _⟩ => ?_, fun _ => rfl⟩, fun c ln eln _ => ?_⟩
        · have : v = 1 := hv.mpr fun q => by rw [q1.mp q] at e; cases e
          omega
        · cases ex : cdE E S (d : Int) p z.toNat with
          | none => exact absurd (q1.mpr ex) (hv.mp (by omega))
          | some x =>
            have kx := (kyR hcz ex).2
            rw [zc, eln] at kx
            rw [ex] at put
            refine ⟨fun c2 m3 u3 _ => put 0 m3 u3 ⟨fun _ ⟨x', e, e'⟩ => ?_, fun _ => rfl⟩, fun c2 fi efi rfi => ⟨fun c3 m3 u3 _ => put 0 m3 u3 ⟨fun _ ⟨x', e, e'⟩ => ?_, fun _ => rfl⟩, fun c3 m3 u3 _ => put 1 m3 u3 ⟨fun e => absurd e (by decide), fun e => absurd ⟨x, rfl, ?_⟩ e⟩⟩⟩
            · cases e
              rw [if_neg (by omega)] at kx
              have := uk.rng nr
              omega
            · cases e
              rw [if_pos c2, efi] at kx
              exact c3 (uk.inj rfi.1 nr (by omega))
            · rw [if_pos c2, efi, c3] at kx
              omega
    · -- no group is left
      refine ih2 _ _ _ _ _ ⟨ol, kr, dn, td, hk, hbi, hf0, hf1, fun _ => ?_⟩ ?_
      · cases td with
        | nil => rfl
        | cons y td' =>
          obtain ⟨t2, x2, a1, a2, a3, a4⟩ := ofK y (by rw [hk]; exact List.mem_append.mpr (Or.inr List.mem_cons_self))
          exact absurd q2 (h3 t2 x2 (by omega) a2 (by rw [a3]; exact a4) (by rw [a3]; exact Taf y List.mem_cons_self)).1
      · show (if fo = 0 then 0 else if fl = 0 then 4294967298 else (4294967297 - uk key).toNat) < (if gg = 0 then 0 else if fl = 0 then 4294967298 else (4294967297 - uk key).toNat)
        have uk2 := uk.rng kr
        rw [if_pos q2, if_neg q]
        by_cases c : fl = 0
        · rw [if_pos c]; decide
        · rw [if_neg c]; omega
    · -- the next key
      have zt : t.toNat < eT E := by omega
      have zc : ((t.toNat : Nat) : Int) = t := by omega
      have q1 := thE m ol t.toNat zt
      have hcz := there m ol t.toNat zt
      rw [zc] at q1
      have keep : (∀ x, cdE E S (d : Int) p t.toNat = some x → ¬ ky x = -1 → (fl = 0 ∨ uk key < ky x) → ¬ fo = 0 ∧ uk nx ≤ ky x) → rc3 (fo, nx, t + 1) := fun h => ih3 _ _ _ ⟨by omega, by omega, nr, fun i x hi e h6 h7 => by
        by_cases c : (i : Int) = t
        · have ei : i = t.toNat := by omega
          rw [ei] at e
          exact h x e h6 h7
        · exact h3 i x (by omega) e h6 h7, h4⟩ (by omega)
      refine X12_isThere_s fun v hv _ => ⟨fun c => keep fun x e => ?_, fun c ln eln _ => ?_⟩
      · have : v = 1 := hv.mpr fun q => by rw [q1.mp q] at e; cases e
        omega
      cases ex : cdE E S (d : Int) p t.toNat with
      | none => exact absurd (q1.mpr ex) (hv.mp (by omega))
      | some x =>
        have kx := (kyR hcz ex).2
        rw [zc, eln] at kx
        rw [ex] at keep
        have rb := (T.rb hw (show 0 ≤ 4 + t by omega)).1
        rw [eln] at rb
        refine ⟨fun c2 fi efi rfi => ?_, fun c2 => keep fun x' e => ?_⟩
        · rw [if_pos (by omega), efi] at kx
          have ur := uk.rng rfi.1
          have hk1 : ¬ ky x = -1 := by omega
          have take : (fl = 0 ∨ uk key < ky x) → (fo = 0 ∨ ky x ≤ uk nx) → rc3 (1, fi, t + 1) := fun ha hb => ih3 _ _ _ ⟨by omega, by omega, rfi.1, fun i x' hi e h6 h7 => ⟨by decide, by
            by_cases c : (i : Int) = t
            · have ei : i = t.toNat := by omega
              rw [ei, ex] at e
              cases e
              omega
            · have := h3 i x' (by omega) e h6 h7
              rcases hb with hb | hb
              · exact absurd hb this.1
              · omega⟩, fun _ => by rw [← kx]; exact afT _ (inK _ x zt ex hk1) ha⟩ (by omega)
          have pick : (fl = 0 ∨ uk key < ky x) → ((fo = 0) → rc3 (1, fi, t + 1)) ∧ ((¬ fo = 0) → WP_X12_isBelow_W w m fi nx (fun z _ => (0 ≤ z ∧ z ≤ 1) → ((z = 0) → rc3 (fo, nx, t + 1)) ∧ ((¬ z = 0) → rc3 (1, fi, t + 1)))) := fun ha => ⟨fun c3 => take ha (Or.inl c3), fun c3 => X12_isBelow_s rfi.1 nr fun z hz _ => ⟨fun c4 => keep fun x' e h6 h7 => ?_, fun c4 => take ha (Or.inr ?_)⟩⟩
          · refine ⟨fun c3 => pick (Or.inl c3), fun c3 => X12_isBelow_s kr rfi.1 fun z hz _ => ⟨fun c4 => keep fun x' e h6 h7 => ?_, fun c4 => pick (Or.inr ?_)⟩⟩
            · cases e
              rcases h7 with h7 | h7
              · exact absurd h7 c3
              · have := hz.mpr (by omega)
                omega
            · have := hz.mp (by omega)
              omega
          · cases e
            refine ⟨c3, ?_⟩
            apply Classical.byContradiction
            intro g5
            have := hz.mpr (by omega)
            omega
          · have := hz.mp (by omega)
            omega
        · cases e
          rw [if_neg (by omega)] at kx
          exact fun h => absurd kx h
end PickG
end
section
/-! The reference's pick. -/
section PickR2
variable {w : mW} {μ : mM} {E : En} {S : Sn} {G : mM → Prop} {d p : Nat}
theorem X12_pick_s {Q : Int → mM → Prop} (hw : mWF w) (hT : mT w μ) (ev : envR w μ E G) (hG : G μ) (gG : gSt G) (st : snR μ E S) (sn : snG E S) (ti : tiG E) (tG : thG E) (hd : d < eD E) (hp : p < 10)
    (k : ∀ (z : Int) (m : mM), G m → frR μ m → ((z = -99999999 ∧ pickE (eGr E d) (eSt E d) (cdsN E S (d : Int) p (eT E)) = none) ∨ (∃ (t : Nat) (c : Cd), z = (t : Int) ∧ t < eT E ∧ (cdE E S (d : Int) p t = some c ∧ rtR m (4 + (t : Int)) = some c.2.2.2) ∧ pickE (eGr E d) (eSt E d) (cdsN E S (d : Int) p (eT E)) = some c)) → Q z m) : WP_X12_pick_W w μ (d : Int) (p : Int) Q := by
  intro n en hn
  rw [ev.1] at en
  subst en
  refine X12_candidates_s hw hT ev hG gG st sn ti hp fun m1 g1 fr1 _ hc T1 F1 y ey ry => ?_
  have ev1 := ev.fr hw (mF.refl.call F1 rfl)
  have st1 := st.fr hw hT fr1
  have ey' : y = eGr E d := by
    rw [← ey]
    exact (ev1.2.2.2.2.1 d (Or.inl hd)).2.2
  have fin : ∀ (z : Int) (m : mM), onL m1 m → ((z = -99999999 ∧ pickE (eGr E d) (eSt E d) (cdsN E S (d : Int) p (eT E)) = none) ∨ (∃ (t : Nat) (c : Cd), z = (t : Int) ∧ t < eT E ∧ cdE E S (d : Int) p t = some c ∧ pickE (eGr E d) (eSt E d) (cdsN E S (d : Int) p (eT E)) = some c)) → Q z m := fun z m ol hz => k z m (gG m1 m g1 fun b i q1 q2 q3 => ol b i (by omega)) (fr1.trans ol.fr) (hz.imp id fun ⟨t, c, e1, e2, e3, e4⟩ => ⟨t, c, e1, e2, ⟨e3, by rw [ol.rt hw T1 (by omega), hc t e2, e3]; rfl⟩, e4⟩)
  refine ⟨fun c => ?_, fun c => ?_⟩
  · refine X12_pickG_s hw T1 ev1 st1 sn ti tG hd hp hc fun z m ol hz => fin z m ol ?_
    have e : pickE (eGr E d) (eSt E d) (cdsN E S (d : Int) p (eT E)) = pickG (eSt E d) (cdsN E S (d : Int) p (eT E)) := if_neg (by omega)
    rw [e]; exact hz
  · refine X12_pickP_s hw T1 ev1 st1 sn ti tG hd hp hc fun z m ol hz => fin z m ol ?_
    have e : pickE (eGr E d) (eSt E d) (cdsN E S (d : Int) p (eT E)) = bst (eSt E d) (cdsN E S (d : Int) p (eT E)) none := if_pos (by omega)
    rw [e]; exact hz
end PickR2
end
