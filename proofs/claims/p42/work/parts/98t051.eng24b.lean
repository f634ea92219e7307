section
/-! The class's grouped pick, the whole. -/
theorem winC.emp {l : List Int} {cs : List Cd} {g : Nat → Cd} {n : Nat} (h : ky (g n) = -1) : winC l cs (n + 1) g = (lst g n).filter (fun c => decide (ky c = -1)) ++ g n :: (kys (lst g n) []).filterMap (grp l cs) := by
  unfold winC
  rw [lst.fil, if_pos (decide_eq_true h), lst.succ, kys.app]
  have e : kys [g n] (kys (lst g n) []) = kys (lst g n) [] := by
    show (if ky (g n) = -1 then kys (lst g n) [] else insK (ky (g n)) (kys (lst g n) [])) = _
    rw [if_pos h]
  rw [e, List.append_assoc]
  rfl
theorem winC.key {l : List Int} {cs : List Cd} {g : Nat → Cd} {n : Nat} (h : ¬ ky (g n) = -1) : winC l cs (n + 1) g = (lst g n).filter (fun c => decide (ky c = -1)) ++ (insK (ky (g n)) (kys (lst g n) [])).filterMap (grp l cs) := by
  unfold winC
  rw [lst.fil, if_neg (fun q => h (of_decide_eq_true q)), List.append_nil, lst.succ, kys.app]
  have e : kys [g n] (kys (lst g n) []) = insK (ky (g n)) (kys (lst g n) []) := by
    show (if ky (g n) = -1 then kys (lst g n) [] else insK (ky (g n)) (kys (lst g n) [])) = _
    rw [if_neg h]
  rw [e]
theorem lst.in {α : Type} {g : Nat → α} {n i : Nat} (h : i < n) : g i ∈ lst g n := List.mem_map.mpr ⟨i, List.mem_range.mpr h, rfl⟩
theorem winC.pw {l : List Int} {cs : List Cd} {g : Nat → Cd} {n : Nat} (h : ∀ i, i < n → ky (g i) = -1 ∨ 0 ≤ ky (g i)) : (winC l cs n g).Pairwise (fun x y => ky x ≤ ky y) := by
  have e1 : ∀ x ∈ (lst g n).filter (fun c => decide (ky c = -1)), ky x = -1 := fun x hx => of_decide_eq_true (List.mem_filter.mp hx).2
  refine List.pairwise_append.mpr ⟨List.Pairwise.imp_of_mem (R := fun _ _ => True) (fun {x y} hx hy _ => by rw [e1 x hx, e1 y hy]; exact Int.le_refl _) (List.pairwise_of_forall fun _ _ => trivial), pwC (kys.srt' List.Pairwise.nil), fun x hx y hy => ?_⟩
  obtain ⟨k, hk, q⟩ := List.mem_filterMap.mp hy
  rw [e1 x hx, (grp.mem q).2]
  rcases kys.mem.mp hk with a | ⟨c, hc, a, b⟩
  · cases a
  · obtain ⟨i, hi, ei⟩ := lst.mem.mp hc
    have := h i hi
    rw [ei, a] at this
    omega
theorem insW.row {f f' : Nat → Int} {h : Int → Cd} {x : Int} {z n : Nat} (hz : z ≤ n) (h1 : ∀ j, j < z → f' j = f j) (h2 : f' z = x) (h3 : ∀ j, z ≤ j → j < n → f' (j + 1) = f j) (k1 : ∀ j, j < z → ky (h (f j)) ≤ ky (h x)) (k2 : ∀ j, z ≤ j → j < n → ky (h x) < ky (h (f j))) : lst (fun j => h (f' j)) (n + 1) = insW (h x) (lst (fun j => h (f j)) n) := by
  obtain ⟨m, em⟩ : ∃ m, n = z + m := ⟨n - z, by omega⟩
  subst em
  rw [lst.add (a := z) (b := m), show z + m + 1 = z + (m + 1) by omega, lst.add (a := z) (b := m + 1), lst.head]
  have e1 : lst (fun j => h (f' j)) z = lst (fun j => h (f j)) z := lst.ext fun j hj => by rw [h1 j hj]
  have e2 : lst (fun i => h (f' (z + (i + 1)))) m = lst (fun i => h (f (z + i))) m := lst.ext fun j hj => by rw [show z + (j + 1) = (z + j) + 1 by omega, h3 (z + j) (by omega) (by omega)]
  have e3 : h (f' (z + 0)) = h x := by rw [Nat.add_zero, h2]
  rw [insW.at (fun y hy => ?_) (fun y hy => ?_)]
  · rw [e1, ← e2, ← e3]
  · obtain ⟨i, hi, ei⟩ := lst.mem.mp hy
    rw [← ei]
    exact k1 i hi
  · obtain ⟨i, hi, ei⟩ := lst.mem.mp hy
    rw [← ei]
    exact k2 (z + i) (by omega) (by omega)
section Grp2
variable {w : mW} {μ : mM}
theorem X8_pickGrouped_s {a0 : Nat} {Q : Int → mM → Prop} (ha : ¬ a0 = 66 ∧ ¬ a0 + 1 = 66) (hw : mWF w) (hT : mT w μ) (h35 : ∀ i, i < 10 → μ 35 i = ((36 + 3 * i : Nat) : Int))
    (k : ∀ (z : Int) (μ1 : mM), onW μ μ1 → ((z = -1 ∧ pickG (rowL (μ (a0 + 1)) (μ a0 4).toNat) (lst (cdC μ) (μ 32 9).toNat) = none) ∨ (0 ≤ z ∧ z < μ 32 9 ∧ pickG (rowL (μ (a0 + 1)) (μ a0 4).toNat) (lst (cdC μ) (μ 32 9).toNat) = some (cdC μ z.toNat))) → Q z μ1) : WP_X8_pickGrouped_W w μ a0 Q := by
  refine loopF.iim (fun c i m => 0 ≤ c ∧ c ≤ i ∧ (i = 0 ∨ i ≤ μ 32 9) ∧ onW μ m ∧ (∀ j : Nat, (j : Int) < c → 0 ≤ m 66 j ∧ m 66 j < μ 32 9) ∧ lst (fun j => cdC μ (m 66 j).toNat) c.toNat = winC (rowL (μ (a0 + 1)) (μ a0 4).toNat) (lst (cdC μ) (μ 32 9).toNat) i.toNat (cdC μ)) (fun _ i => (11 - i).toNat) ⟨by omega, by omega, Or.inl rfl, fun _ _ _ => rfl, fun j hj => by omega, rfl⟩ (by omega) ?_
  rintro rc c i m ⟨c0, c1, i1, ow, hr, hL⟩ ih c' i' m' e hc hi T F n en hn
  cases e
  rw [ow 32 9 (by omega)] at en
  subst en
  have m35 : ∀ i, i < 10 → m 35 i = ((36 + 3 * i : Nat) : Int) := fun i hi => by rw [ow 35 i (by omega)]; exact h35 i hi
  have st : rowL (m (a0 + 1)) (m a0 4).toNat = rowL (μ (a0 + 1)) (μ a0 4).toNat := by
    rw [ow _ _ ha.1]
    exact rowL.ext fun i _ => ow _ _ ha.2
  refine ⟨fun g => ?_, fun g => ?_⟩
  · have ei : i.toNat = (μ 32 9).toNat := by omega
    rw [ei] at hL
    have eP : pickG (rowL (μ (a0 + 1)) (μ a0 4).toNat) (lst (cdC μ) (μ 32 9).toNat) = bst (rowL (μ (a0 + 1)) (μ a0 4).toNat) (lst (fun j => cdC μ (m 66 j).toNat) c.toNat) none := by
      rw [hL]; rfl
    refine X8_lastStanding_s m35 (by omega) (fun q _ => k _ m ow (Or.inl ⟨rfl, ?_⟩)) (fun z hz z0 hx hb _ => k z m ow (Or.inr ?_))
    · rw [eP, show c.toNat = 0 by omega]
      rfl
    · obtain ⟨j, hj, ej⟩ := hx
      have := hr j (by omega)
      rw [ej] at this
      refine ⟨z0, this.2, ?_⟩
      rw [eP]
      rw [st, cdC.onW ow (by omega)] at hb
      rw [← hb]
      congr 1
      exact lst.ext fun x hx => by
        have := hr x (by omega)
        rw [cdC.onW ow (by omega)]
  have kO : ∀ j, j < 10 → kyC m j = kyC μ j := fun j hj => kyC.onW ow hj
  have iN : ((i.toNat : Nat) : Int) = i := by omega
  have rngs : ∀ j, j < 10 → ky (cdC μ j) = -1 ∨ 0 ≤ ky (cdC μ j) := fun j hj => by
    have g : kyC μ j = -1 ∨ (0 ≤ kyC μ j ∧ kyC μ j < 4294967296) := kyC.rng hw hT h35 hj
    unfold kyC at g
    omega
  have i2 : (i + 1).toNat = i.toNat + 1 := by omega
  refine X8_isFirstOfGroup_s hw T m35 ⟨by omega, by omega⟩ fun z hz rz => ⟨fun q => ?_, fun q => ?_⟩
  · have ex : ∃ j : Nat, (j : Int) < i ∧ kyC μ j = kyC μ i.toNat ∧ ¬ kyC μ i.toNat = -1 := Classical.byContradiction fun h => by
      have : z = 1 := hz.mpr fun j hj a => h ⟨j, hj, by rw [← kO j (by omega), ← kO i.toNat (by omega)]; exact a⟩
      omega
    obtain ⟨j, hj, e1, e2⟩ := ex
    have e1 : ky (cdC μ j) = ky (cdC μ i.toNat) := e1
    have e2 : ¬ ky (cdC μ i.toNat) = -1 := e2
    refine ih _ _ _ ⟨c0, by omega, by omega, ow, hr, ?_⟩ (by omega)
    rw [hL, i2, winC.key e2, insK.old (kys.srt' List.Pairwise.nil) (kys.mem.mpr (Or.inr ⟨cdC μ j, lst.in (by omega), e1, e2⟩))]
    rfl
  have fst : ∀ j : Nat, (j : Int) < i → ¬ (kyC μ j = kyC μ i.toNat ∧ ¬ kyC μ i.toNat = -1) := fun j hj => by
    have := hz.mp (by omega) j hj
    rw [kO j (by omega), kO i.toNat (by omega)] at this
    exact this
  have e9 : m 32 9 = μ 32 9 := ow 32 9 (by omega)
  have eL : lst (cdC m) (μ 32 9).toNat = lst (cdC μ) (μ 32 9).toNat := lst.ext fun j hj => cdC.onW ow (by omega)
  refine X8_bestOfGroup_s hw T m35 ⟨by omega, by omega⟩ fun b b0 b1 hb1 hb2 rb => ?_
  rw [kO i.toNat (by omega)] at hb1 hb2
  rw [e9] at b1 hb2
  rw [st, eL, cdC.onW ow (by omega)] at hb2
  have bk : ky (cdC μ b.toNat) = kyC μ i.toNat := by
    by_cases q2 : kyC μ i.toNat = -1
    · have := hb1 q2
      rw [this]; rfl
    · exact (grp.mem (hb2 q2 fun j hj a => fst j hj ⟨by rw [← kO j (by omega)]; exact a, q2⟩)).2
  have pw := winC.pw (l := rowL (μ (a0 + 1)) (μ a0 4).toNat) (cs := lst (cdC μ) (μ 32 9).toNat) (g := cdC μ) (n := i.toNat) (fun j hj => rngs j (by omega))
  rw [← hL] at pw
  have so : ∀ x y : Nat, x < y → (y : Int) < c → kyC m (m 66 x).toNat ≤ kyC m (m 66 y).toNat := fun x y hxy hy => by
    have g := lst.pw pw hxy (by omega)
    have a := hr x (by omega)
    have b := hr y hy
    rw [kO _ (by omega), kO _ (by omega)]
    exact g
  refine X8_insertWinner_s m35 ⟨c0, by omega⟩ ⟨b0, by omega⟩ (fun j hj => by have := hr j hj; omega) hw T so fun m1 z1 ow1 hz1 f1 f2 f3 k1 k2 T1 F1 => ih _ _ _ ⟨by omega, by omega, by omega, fun b' i' h => (ow1 b' i' h).trans (ow b' i' h), fun j hj => ?_, ?_⟩ (by omega)
  · by_cases a : j < z1
    · rw [f1 j a]; exact hr j (by omega)
    · by_cases a2 : j = z1
      · rw [a2, f2]; exact ⟨b0, b1⟩
      · obtain ⟨j', ej⟩ : ∃ j', j = j' + 1 := ⟨j - 1, by omega⟩
        rw [ej, f3 j' (by omega) (by omega)]
        exact hr j' (by omega)
  · have ins := insW.row (f := m 66) (f' := m1 66) (h := fun y => cdC μ y.toNat) (x := b) (z := z1) (n := c.toNat) (by omega) f1 f2 (fun j a b => f3 j a (by omega)) (fun j a => by
        have r := hr j (by omega)
        have := k1 j a
        rw [kO _ (by omega), kO _ (by omega)] at this
        exact this) (fun j a b => by
        have r := hr j (by omega)
        have := k2 j a (by omega)
        rw [kO _ (by omega), kO _ (by omega)] at this
        exact this)
    rw [show (c + 1).toNat = c.toNat + 1 by omega, ins, hL, i2]
    have FE : ∀ y ∈ (lst (cdC μ) i.toNat).filter (fun c => decide (ky c = -1)), ky y = -1 := fun x hx => of_decide_eq_true (List.mem_filter.mp hx).2
    have ri := rngs i.toNat (by omega)
    have ei : ky (cdC μ i.toNat) = kyC μ i.toNat := rfl
    unfold winC
    rw [insW.app (fun y hy => by
      have := FE y hy
      show ky y ≤ ky (cdC μ b.toNat)
      rw [this, bk]
      omega)]
    by_cases q2 : kyC μ i.toNat = -1
    · have e := winC.emp (l := rowL (μ (a0 + 1)) (μ a0 4).toNat) (cs := lst (cdC μ) (μ 32 9).toNat) (g := cdC μ) (n := i.toNat) q2
      unfold winC at e
      rw [e, hb1 q2]
      congr 1
      have e2 := insW.at (x := cdC μ i.toNat) (a := []) (b := (kys (lst (cdC μ) i.toNat) []).filterMap (grp (rowL (μ (a0 + 1)) (μ a0 4).toNat) (lst (cdC μ) (μ 32 9).toNat))) (fun y hy => by cases hy) (fun y hy => by
        obtain ⟨kk, hk, q⟩ := List.mem_filterMap.mp hy
        rw [(grp.mem q).2]
        rcases kys.mem.mp hk with a | ⟨cc, hcc, a, bb⟩
        · cases a
        · obtain ⟨ii, hii, eii⟩ := lst.mem.mp hcc
          have := rngs ii (by omega)
          rw [eii, a] at this
          omega)
      exact e2
    · have e := winC.key (l := rowL (μ (a0 + 1)) (μ a0 4).toNat) (cs := lst (cdC μ) (μ 32 9).toNat) (g := cdC μ) (n := i.toNat) q2
      unfold winC at e
      rw [e]
      congr 1
      refine insW.key (hb2 q2 fun j hj a => fst j hj ⟨by rw [← kO j (by omega)]; exact a, q2⟩) (kys.srt' List.Pairwise.nil) (fun hk => ?_) (fun y hy => ?_)
      · rcases kys.mem.mp hk with a | ⟨cc, hcc, a, bb⟩
        · cases a
        · obtain ⟨ii, hii, eii⟩ := lst.mem.mp hcc
          exact fst ii (by omega) ⟨by rw [← eii] at a; exact a, q2⟩
      · rcases kys.mem.mp hy with a | ⟨cc, hcc, a, bb⟩
        · cases a
        · obtain ⟨ii, hii, eii⟩ := lst.mem.mp hcc
          exact grp.there (by rw [← eii]; exact lst.in (by omega)) a
end Grp2
end
section
/-! The class looks. -/
section LookC3
variable {w : mW} {μ : mM} {E : En} {S : Sn} {d p : Nat}
theorem frC.onW {μ m m1 : mM} (h : frC μ m) (k : onW m m1) : frC μ m1 := fun b i h1 h2 h3 h4 => (k b i (by omega)).trans (h b i h1 h2 h3 h4)
/-- something was found: it is laid down, and said -/
theorem X8_lookJ_s {Q : mM → Prop} {m : mM} {v : Int} {b : Nat} (hw : mWF w) (hT : mT w μ) (ev : envC w μ E) (st : snC μ E S) (sn : snG E S) (ti : tiG E) (tG : thG E) (pa : paG E) (hd : d < eD E) (hp : p < 10) (ho : eOw E (10 * d + p) ≤ 2)
    (fr : frC μ m) (hb : 36 ≤ b ∧ b ≤ 70) (hn : newP E S (d : Int) p = (v, rtC m b)) (k : ∀ m : mM, snC m E (lookE E S (d : Int) p) → loC μ m → Q m) : WJ_X8_look_W_1 w μ (d : Int) (p : Int) Q (dbA μ d) v b m := by
  intro _ _ T F z66 e66 _
  have ly := ev.2.2.2.1
  obtain ⟨l1, l2, l3, l4, l5, l6⟩ := ev.2.2.2.1
  obtain ⟨d1, d2, d3⟩ := l2 d hd
  have F0 : mF lEC w μ m := mF.refl.call F rfl
  have p1 : ((p : Int)).toNat = p := Int.toNat_natCast p
  rw [p1] at e66 ⊢
  have sp := st.2.1 d p hd hp
  have e66' : z66 = (sPk S (10 * d + p)).1 := by
    rw [← e66, fr.hi (by omega)]; exact sp.1
  have sm : snC m E S := st.fr ly fr
  have good := newP.good (d := d) sn tG hp ho
  have m10 : (10 * d + p) % 10 = p := by omega
  have gp := sn.1 (10 * d + p)
  rw [m10] at gp
  have rp : rtC m (dbA μ d + 5 + 3 * p) = (sPk S (10 * d + p)).2 := by rw [fr.rt (by omega)]; exact sp.2
  have pb : ∀ (m2 : mM) (b7 : Nat), m2 (dbA μ d + 4) p = (b7 : Int) → (∀ i, m2 (dbA μ d + 4) i = m (dbA μ d + 4) i) → b7 = dbA μ d + 5 + 3 * p := fun m2 b7 e f => by
    rw [f, fr.hi (by omega), d3 p hp] at e
    omega
  have go : ¬ newP E S (d : Int) p = sPk S (10 * d + p) → ∀ m3 : mM, rtC m3 (dbA μ d + 5 + 3 * p) = rtC (mUp m (dbA μ d + 3) p v) b → onC2 (mUp m (dbA μ d + 3) p v) m3 (dbA μ d + 5 + 3 * p) → mF [200002, 200003, 200004, 200005, 200006, 200007, 200008, 201999, 202999] w (mUp m (dbA μ d + 3) p v) m3 → mAt w (dbA μ d + 3) 213 → loopF (WL_X8_look_W_2 w (d : Int) (p : Int) Q m3) False 22 (0, m3) := by
    intro hne m3 r3 o3 F3 hA
    have rb : rtC (mUp m (dbA μ d + 3) p v) b = rtC m b := rtC.of (fun i => mUp.no (by omega)) (fun i => mUp.no (by omega)) (fun i => mUp.no (by omega))
    rw [rb] at r3
    have all : ∀ b' i, ¬ (b' = dbA μ d + 3 ∧ i = p) → ¬ (dbA μ d + 5 + 3 * p ≤ b' ∧ b' ≤ dbA μ d + 7 + 3 * p) → m3 b' i = m b' i := fun b' i q1 q2 => by
      rw [o3 b' i (by omega) (by omega) (by omega), mUp.no q1]
    have s3 : snC m3 E (pk! S (10 * d + p) (v, rtC m b)) := st.pick ⟨l1, l2, l3, l4, l5, l6⟩ hd hp (fun b' i h1 h2 h3 h4 h5 h6 => (all b' i h5 h6).trans (fr b' i h1 h2 h3 h4)) (by rw [o3 _ _ (by omega) (by omega) (by omega), mUp.yes ⟨rfl, rfl⟩]) r3
    have g3 : snG E (pk! S (10 * d + p) (v, rtC m b)) := by
      have px := newP.px (d := d) sn tG hd hp
      rw [hn] at good px
      exact sn.pick (by rw [m10]; exact good.1) good.2 (by rw [m10]; exact px)
    have F4 : mF lEC w μ m3 := (F0.up hA mUp_ok rfl).call F3 rfl
    refine X8_lookL_s hw hT ev F4 s3 g3 ti tG pa hp fun m4 s4 l4 => k m4 ?_ ?_
    · rw [lookE.new hne, hn]; exact s4
    · exact loC.trans (fun b' i h0 h1 h2 h3 h4 h5 h6 => (all b' i (by omega) (by omega)).trans (fr.lo b' i h0 h1 h2 h3 h4 h5 h6)) l4
  have hA : mAt w (dbA μ d + 3) 213 := by
    have g : ((((d : Nat) : Int) < w.2.2.2 0 → 0 ≤ μ 10 d ∧ mAt w (μ 10 d).toNat 210) ∧ (¬ ((d : Nat) : Int) < w.2.2.2 0 → μ 10 d = -1)) := hT 10 10 (A_10 hw) d
    have g0 : μ 6 15 = w.2.2.2 0 ∧ 0 ≤ μ 6 15 ∧ μ 6 15 ≤ 10 := hT 6 6 (A_6 hw) 15
    have e3 := ev.2.2.1
    have a := (g.1 (by omega)).2
    exact (hT (dbA μ d) 210 a 2).2
  have ap : apr (dbA μ d + 5 + 3 * p) b := by refine ⟨?_, ?_, ?_, ?_, ?_, ?_, ?_⟩ <;> omega
  refine ⟨fun c m2 u2 T2 b7 e7 h7 => ?_, fun c b7 e7 h7 => ?_⟩
  · obtain rfl := u2.is
    have eb := pb _ b7 e7 (fun i => mUp.no (by omega))
    subst eb
    refine X7_become_s ap fun m3 r3 o3 T3 F3 => go (fun q => c ?_) m3 r3 o3 F3 hA
    rw [e66', ← q, hn]
  · have eb := pb _ b7 e7 (fun i => rfl)
    subst eb
    refine X7_isAlike_s fun y hy ry => ⟨fun c2 m2 u2 T2 => ?_, fun c2 => ?_⟩
    · obtain rfl := u2.is
      refine X7_become_s ap fun m3 r3 o3 T3 F3 => go (fun q => ?_) m3 r3 o3 F3 hA
      have : y = 1 := hy.mpr ((alk.eq (p := p) (by rw [hn] at good; exact good.1) (by rw [rp]; exact gp)).mpr (by rw [rp, ← q, hn]))
      omega
    · have e := (alk.eq (p := p) (by rw [hn] at good; exact good.1) (by rw [rp]; exact gp)).mp (hy.mp (by omega))
      refine k m ?_ fr.lo
      rw [lookE.same]
      · exact sm
      · rw [hn, e, rp, c, e66']
theorem X8_look_s {Q : mM → Prop} (hw : mWF w) (hT : mT w μ) (ev : envC w μ E) (st : snC μ E S) (sn : snG E S) (ti : tiG E) (tG : thG E) (pa : paG E) (hd : d < eD E) (hp : p < 10)
    (k : ∀ m : mM, snC m E (lookE E S (d : Int) p) → loC μ m → Q m) : WP_X8_look_W w μ (d : Int) (p : Int) Q := by
  obtain ⟨h1, h2, h3, h4, h5, h6, h7⟩ := ev
  have ev : envC w μ E := ⟨h1, h2, h3, h4, h5, h6, h7⟩
  obtain ⟨l1, l2, l3, l4, l5, l6⟩ := h4
  obtain ⟨d1, d2, d3⟩ := l2 d hd
  obtain ⟨o1, o2, o3⟩ := h6 d hd
  intro b1 eb1 hb1 z5 e5 r5
  have eb1' : b1 = dbA μ d := by
    have e : μ 10 d = (b1 : Int) := eb1
    omega
  subst eb1'
  have e5' : z5 = eOw E (10 * d + p) := by
    have e : μ (dbA μ d + 2) p = z5 := e5
    rw [← e]; exact o1 p hp
  have ho : eOw E (10 * d + p) ≤ 2 := by omega
  refine ⟨fun c => ?_, fun c => ?_⟩
  · refine X8_gather_s hw hT ev st sn ti hp (fun n hn => cdsN.len ti n hn) fun m fr T F hc hL hV T' F' zg eg rg => ?_
    have st5 : rowL (m (dbA μ d + 1)) (m (dbA μ d) 4).toNat = eSt E d := by
      rw [fr.hi (by omega), rowL.ext (f := μ (dbA μ d + 1)) (fun i _ => fr.hi (by omega))]
      exact o2
    have eg' : zg = eGr E d := by rw [← eg, fr.hi (by omega)]; exact o3
    have h35 : ∀ i, i < 10 → m 35 i = ((36 + 3 * i : Nat) : Int) := fun i hi => by rw [fr 35 i (by omega) (by omega) (by omega) (by omega)]; exact l6 i hi
    have hlen : (m 32 9).toNat = (cdsN E S (d : Int) p (eT E)).length := by omega
    have c9 := cdsN.len (S := S) (p := p) (d := (d : Int)) ti (eT E) (Nat.le_refl _)
    have hN : ¬ 0 ≤ eOw E (10 * d + p) := by omega
    have fin : ∀ (L : List Nat) (z : Int) (m1 : mM), onW m m1 → ((z = -1 ∧ pickE (eGr E d) (eSt E d) (cdsN E S (d : Int) p (eT E)) = none) ∨ (0 ≤ z ∧ z < m 32 9 ∧ pickE (eGr E d) (eSt E d) (cdsN E S (d : Int) p (eT E)) = some (cdC m z.toNat))) → mT w m1 → mF L w m m1 → ((-1) ≤ z ∧ z ≤ 9) → ((z < 0) → WJ_X8_look_W_1 w μ (d : Int) (p : Int) Q (dbA μ d) (-99999999) 70 m1) ∧ ((0 ≤ z) → ∀ b : Nat, m1 35 z.toNat = (b : Int) → mAt w b 200 → ∀ y : Int, m1 b 10 = y → (0 ≤ y ∧ y ≤ 19 ∧ (y = 0 ∨ y < w.2.2.2 1)) → WJ_X8_look_W_1 w μ (d : Int) (p : Int) Q (dbA μ d) y b m1) := by
      intro L z m1 ow hz T1 F1 rz
      have fr1 := fr.onW ow
      refine ⟨fun q => ?_, fun q b eb hb y ey _ => ?_⟩
      · rcases hz with ⟨_, e⟩ | ⟨e, _⟩
        · refine X8_lookJ_s hw hT ev st sn ti tG pa hd hp ho fr1 (by omega) ?_ k
          rw [newP.no hN e, (st.fr ev.2.2.2.1 fr1).2.2.2.2.2.2]
        · omega
      · rcases hz with ⟨e, _⟩ | ⟨_, e1, e⟩
        · omega
        · have eb' : b = 36 + 3 * z.toNat := by
            rw [ow 35 _ (by omega), h35 z.toNat (by omega)] at eb
            omega
          have nt : ∀ i, m1 b i = m b i := fun i => ow _ _ (by omega)
          subst eb'
          refine X8_lookJ_s hw hT ev st sn ti tG pa hd hp ho fr1 (by omega) ?_ k
          rw [newP.yes hN e]
          obtain ⟨t, ht, q2⟩ := cdsN.mem (pickE.mem e)
          have in_ : cdC m z.toNat ∈ cdsN E S (d : Int) p (eT E) := pickE.mem e
          have y1 : (cdC m z.toNat).1 = y := by rw [← ey, nt]; rfl
          have th : ¬ m (36 + 3 * z.toNat) 2 = 0 := hV z.toNat (by omega)
          rw [y1, rtC.of (μ := m) (fun i => ow _ _ (by omega)) (fun i => ow _ _ (by omega)) (fun i => ow _ _ (by omega)), rtC.the th]
          rfl
    refine ⟨fun q => ?_, fun q => ?_⟩
    · refine X8_pickPlain_s ⟨by omega, by omega⟩ h35 fun z m1 ow hz => fin _ z m1 ow ?_
      rw [st5, hlen, hL] at hz
      have e : pickE (eGr E d) (eSt E d) (cdsN E S (d : Int) p (eT E)) = bst (eSt E d) (cdsN E S (d : Int) p (eT E)) none := if_pos (by omega)
      rw [e]; exact hz
    · refine X8_pickGrouped_s ⟨by omega, by omega⟩ hw T h35 fun z m1 ow hz => fin _ z m1 ow ?_
      rw [st5, hlen, hL] at hz
      have e : pickE (eGr E d) (eSt E d) (cdsN E S (d : Int) p (eT E)) = pickG (eSt E d) (cdsN E S (d : Int) p (eT E)) := if_neg (by omega)
      rw [e]; exact hz
  · have hP : 0 ≤ eOw E (10 * d + p) := by omega
    refine X7_begin_s fun m r o _ _ => X8_lookJ_s hw hT ev st sn ti tG pa hd hp ho (fun b i q1 q2 q3 q4 => o b i (by omega) (by omega) (by omega)) (by omega) ?_ k
    rw [newP.own hP, r, e5']
end LookC3
end
section
/-! The reference picks and looks. -/
def onL (μ m : mM) : Prop := ∀ (b i : Nat), ¬ b = 165 → m b i = μ b i
theorem onL.rt {w : mW} {μ m : mM} (h : onL μ m) (hw : mWF w) (hT : mT w μ) {r : Int} (hr : 0 ≤ r) : rtR m r = rtR μ r := rtR.cg (hT.rb hw hr).1.2 (hT.rb hw hr).2.2 fun k hk => h _ _ (by omega)
theorem onL.fr {μ m : mM} (h : onL μ m) : frR μ m := fun b i _ _ _ _ h5 _ => h b i h5
section PickR
variable {w : mW} {μ : mM} {E : En} {S : Sn} {G : mM → Prop} {d p : Nat}
theorem stepR {m : mM} (ev : envR w m E G) (hd : d < eD E) : ∃ n, rowL (fun i => m 163 (6 * (d : Int) + (i : Int)).toNat) 6 = eSt E d ++ List.replicate n 0 := by
  obtain ⟨n, en⟩ := (ev.2.2.2.2.1 d (Or.inl hd)).2.1
  refine ⟨n, ?_⟩
  rw [← en]
  exact rowL.ext fun i _ => by rw [show (6 * (d : Int) + (i : Int)).toNat = 6 * d + i by omega]
theorem X12_pickP_s {m1 : mM} {Q : Int → mM → Prop} (hw : mWF w) (T1 : mT w m1) (ev1 : envR w m1 E G) (st1 : snR m1 E S) (sn : snG E S) (ti : tiG E) (tG : thG E) (hd : d < eD E) (hp : p < 10)
    (hc : ∀ t, t < eT E → rtR m1 (4 + (t : Int)) = (cdE E S (d : Int) p t).map (fun x => x.2.2.2))
    (k : ∀ (z : Int) (m : mM), onL m1 m → ((z = -99999999 ∧ bst (eSt E d) (cdsN E S (d : Int) p (eT E)) none = none) ∨ (∃ (t : Nat) (c : Cd), z = (t : Int) ∧ t < eT E ∧ cdE E S (d : Int) p t = some c ∧ bst (eSt E d) (cdsN E S (d : Int) p (eT E)) none = some c)) → Q z m) : loopF (WL_X12_pick_W_5 w (d : Int) (p : Int) Q (eT E : Int) m1) False 22 (0, m1) := by
  have t20 := ti.2.2.1
  refine loopF.im (fun s m => 0 ≤ s ∧ s ≤ (eT E : Int) ∧ onL m1 m ∧ ∀ t : Nat, (t : Int) < s → (m 165 t = 0 ↔ cdE E S (d : Int) p t = none)) (fun s => (21 - s).toNat) ⟨by omega, by omega, fun _ _ _ => rfl, fun t ht => by omega⟩ (by omega) ?_
  rintro rc s m ⟨s0, s1, ol, h⟩ ih s' m' e hs T F
  cases e
  have rt : ∀ r, 0 ≤ r → rtR m r = rtR m1 r := fun r hr => ol.rt hw T1 hr
  refine ⟨fun g => ?_, fun g x ex hx => ?_⟩
  · have Fm : mF lER w m1 m := mF.refl.call F rfl
    have evm := ev1.fr hw Fm
    have stm := st1.fr hw T1 ol.fr
    have hcm : ∀ t, t < eT E → rtR m (4 + (t : Int)) = (cdE E S (d : Int) p t).map (fun x => x.2.2.2) := fun t ht => by rw [rt _ (by omega)]; exact hc t ht
    have cx : ∀ t x, t < eT E → cdE E S (d : Int) p t = some x → cdX m (d : Int) (p : Int) (4 + (t : Int)) (t : Int) = x := fun t x ht e => cdX.eq hw evm stm ti hp ht (hcm t ht) e
    have lf : ∀ t, t < eT E → lfR m (d : Int) (p : Int) t = cdE E S (d : Int) p t := fun t ht => by
      unfold lfR
      have ht' := h t (by omega)
      by_cases c : m 165 t = 0
      · rw [if_pos c, ht'.mp c]
      · rw [if_neg c]
        cases e : cdE E S (d : Int) p t with
        | none => exact absurd (ht'.mpr e) c
        | some x => rw [cx t x ht e]
    have eL : fmN (lfR m (d : Int) (p : Int)) (eT E) = cdsN E S (d : Int) p (eT E) := fmN.ext lf
    obtain ⟨n, en⟩ := stepR evm hd
    have e106 : (m 106 6).toNat = eT E := by rw [evm.1]; rfl
    refine X12_best_s (by omega) (fun t ht hne => ?_) fun z hz rz => k z m ol ?_
    · have ht2 : t < eT E := by rw [evm.1] at ht; omega
      cases e : cdE E S (d : Int) p t with
      | none => exact absurd ((h t (by omega)).mpr e) hne
      | some x =>
        have g2 := hcm t ht2
        rw [e] at g2
        have rv : rvR m (4 + (t : Int)) = x.2.2.2 := (rtR.get g2).2.symm
        rw [rv]
        exact ((cdE.good sn tG hp e) x.2.2.2 rfl).2.2.2.2
    · rw [e106, eL, en, bst.zeros] at hz
      rcases hz with hz | ⟨z0, z1, z2, hz⟩
      · exact Or.inl hz
      · rw [evm.1] at z1
        cases e : cdE E S (d : Int) p z.toNat with
        | none => exact absurd ((h z.toNat (by omega)).mpr e) z2
        | some x =>
          refine Or.inr ⟨z.toNat, x, by omega, by omega, e, ?_⟩
          have c2 := cx z.toNat x (by omega) e
          rw [Int.toNat_of_nonneg z0] at c2
          rw [hz, c2]
  · refine X12_isThere_s fun y hy ry m2 u2 T2 => ih _ _ ⟨by omega, by omega, fun b i hb => ?_, fun t ht => ?_⟩ (by omega)
    · obtain rfl := u2.is
      rw [mUp.no (by omega)]
      exact ol b i hb
    · obtain rfl := u2.is
      by_cases c : (t : Int) = s
      · have e : t = s.toNat := by omega
        rw [mUp.yes ⟨rfl, e⟩]
        have hc2 := hc t (by omega)
        rw [← rt _ (by omega), c] at hc2
        rw [hc2] at hy
        cases e2 : cdE E S (d : Int) p t with
        | none =>
          rw [e2] at hy
          refine ⟨fun _ => rfl, fun _ => ?_⟩
          have : ¬ y = 1 := fun q => hy.mp q rfl
          omega
        | some x =>
          rw [e2] at hy
          have y1 : y = 1 := hy.mpr (fun q => by cases q)
          exact ⟨fun q => by omega, fun q => by cases q⟩
      · rw [mUp.no (by omega)]
        exact h t (by omega)
/-- something else is picked -/
theorem snR.pick {μ m : mM} {k : Nat} {v : Int} {o : Option Rt} (h : snR μ E S) (hw : mWF w) (hT : mT w μ) (hk : k < 10 * eD E) (hD : eD E ≤ 10)
    (f : ∀ (b i : Nat), ¬ (b = 126 ∧ 40 ≤ i ∧ i < 960) → ¬ b = 151 → ¬ b = 152 → ¬ b = 153 → ¬ b = 165 → ¬ (b = 106 ∧ 26 ≤ i ∧ i ≤ 31) → ¬ (b = 161 ∧ i = k) → ¬ (b = 126 ∧ 40 * (30 + k) ≤ i ∧ i < 40 * (30 + k) + 40) → m b i = μ b i)
    (hv : m 161 k = v) (ho : rtR m (30 + (k : Int)) = o) : snR m E (pk! S k (v, o)) := by
  obtain ⟨h1, h2, h3, h4, h5, h6⟩ := h
  have f' : ∀ (b i : Nat), (154 ≤ b ∧ b ≤ 160) ∨ (b = 106 ∧ 32 ≤ i) → m b i = μ b i := fun b i hb => f b i (by omega) (by omega) (by omega) (by omega) (by omega) (by omega) (by omega) (by omega)
  have rt : ∀ r : Int, 24 ≤ r → ¬ r = 30 + (k : Int) → rtR m r = rtR μ r := fun r hr hne => rtR.cg (hT.rb hw (by omega)).1.2 (hT.rb hw (by omega)).2.2 fun j hj => f _ _ (by omega) (by omega) (by omega) (by omega) (by omega) (by omega) (by omega) (by omega)
  have at_ : ∀ e, atR m e = atR μ e := fun e => by
    unfold atR
    rw [f' 157 _ (by omega), f' 159 _ (by omega)]
  have md_ : ∀ e, mdR m e = mdR μ e := fun e => by
    unfold mdR
    rw [f' 158 _ (by omega), f' 160 _ (by omega)]
  refine ⟨fun s hs => ?_, fun j hj => ?_, ⟨fun e he h0 => ?_, fun x hx => ?_, ?_⟩, ?_, ?_, ?_⟩
  · have g := h1 s hs
    rw [rt (130 + (s : Int)) (by omega) (by omega), rt (530 + (s : Int)) (by omega) (by omega), rt (930 + (s : Int)) (by omega) (by omega), f' 154 s (by omega), f' 155 s (by omega), f' 156 s (by omega), f' 157 s (by omega)]
    exact g
  · show m 161 j = (if j = k then (v, o) else sPk S j).1 ∧ rtR m (30 + (j : Int)) = (if j = k then (v, o) else sPk S j).2
    by_cases c : j = k
    · rw [if_pos c, c]; exact ⟨hv, ho⟩
    · rw [if_neg c, rt _ (by omega) (by omega), f 161 j (by omega) (by omega) (by omega) (by omega) (by omega) (by omega) (by omega) (by omega)]
      exact h2 j hj
  · rw [at_] at h0 ⊢
    exact h3.1 e he h0
  · rw [at_, md_, f' 106 72 (by omega)]
    exact h3.2.1 x hx
  · exact h3.2.2.imp fun {x y} q => by rw [md_, md_]; exact q
  · rw [f' 106 71 (by omega)]; exact h4
  · rw [f' 106 73 (by omega)]; exact h5
  · rw [f' 106 72 (by omega)]; exact h6
/-- rows that the engine leaves alone -/
def loR (μ m : mM) : Prop := ∀ i : Nat, (i < 40 ∨ (960 ≤ i ∧ i < 1200)) → m 126 i = μ 126 i
theorem X12_lookL_s {Q : mM → Prop} {m0 : mM} {S1 : Sn} (hw : mWF w) (ev : envR w m0 E G) (hG : G m0) (gG : gSt G) (st : snR m0 E S1) (sn : snG E S1) (ti : tiG E) (tG : thG E) (pa : paG E) (hp : p < 10) (hM : 0 ≤ sMd S1 ∧ sMd S1 + 20 < 2147483647)
    (k : ∀ m : mM, snR m E (forN (sayD E (d : Int) p) (eT E) S1) → G m → loR m0 m → Q m) : loopF (WL_X12_look_W_2 w (d : Int) (p : Int) Q m0) False 22 (0, m0) := by
  have t20 := ti.2.2.1
  refine loopF.im (fun z m => 0 ≤ z ∧ z ≤ (eT E : Int) ∧ G m ∧ loR m0 m ∧ snR m E (forN (sayD E (d : Int) p) z.toNat S1)) (fun z => (21 - z).toNat) ⟨by omega, by omega, hG, fun _ _ => rfl, st⟩ (by omega) ?_
  rintro rc z m ⟨z0, z1, gm, lo, hs⟩ ih z' m' e hz T F n en hn
  cases e
  have Fm : mF lER w m0 m := mF.refl.call F rfl
  have evm := ev.fr hw Fm
  rw [evm.1] at en
  subst en
  have snm := forN.sn (d := (d : Int)) sn tG pa hp z.toNat (by omega)
  have next : ∀ m2 : mM, loR m m2 → G m2 → snR m2 E (sayD E (d : Int) p z.toNat (forN (sayD E (d : Int) p) z.toNat S1)) → z < (eT E : Int) → rc (z + 1, m2) := fun m2 l2 g2 s2 g => ih _ _ ⟨by omega, by omega, g2, fun i hi => (l2 i hi).trans (lo i hi), by rw [show (z + 1).toNat = z.toNat + 1 by omega]; exact s2⟩ (by omega)
  refine ⟨fun g => k m (by rw [show eT E = z.toNat by omega]; exact hs) gm lo, fun g a ea _ b eb _ => ?_⟩
  have zt : z.toNat < eT E := by omega
  have zc : ((z.toNat : Nat) : Int) = z := by omega
  obtain ⟨a1, a2, a3, a4, a5, a6⟩ := evm.2.2.2.1 z.toNat zt
  refine X12_isAt_s fun y hy ry => ?_
  rw [show (2 * z).toNat = 2 * z.toNat by omega, show (2 * z + 1).toNat = 2 * z.toNat + 1 by omega, a1, a2] at hy
  refine ⟨fun c => next m (fun _ _ => rfl) gm ?_ g, fun c u eu hu => ?_⟩
  · have ns : sdE E (d : Int) z.toNat < 0 := by
      unfold sdE sdI
      rw [if_neg (fun e => by have := hy.mpr (Or.inl e); omega), if_neg (fun e => by have := hy.mpr (Or.inr e); omega)]
      decide
    unfold sayD
    rw [if_pos ns]
    exact hs
  have nn : ¬ sdE E (d : Int) z.toNat < 0 := by
    unfold sdE sdI
    rcases hy.mp (by omega) with e | e
    · rw [if_pos e]; decide
    · by_cases q : eA E z.toNat = (d : Int)
      · rw [if_pos q]; decide
      · rw [if_neg q, if_pos e]; decide
  obtain ⟨s, hs1, hs2, hd⟩ := sdE.side nn
  have eD1 : sayD E (d : Int) p z.toNat (forN (sayD E (d : Int) p) z.toNat S1) = sayE E (forN (sayD E (d : Int) p) z.toNat S1) z.toNat s p := by
    unfold sayD
    rw [if_neg nn, hs1, Int.toNat_natCast]
  rw [a3] at eu
  refine ⟨fun q => next m (fun _ _ => rfl) gm ?_ g, fun q => ?_⟩
  · rw [eD1]
    unfold sayE
    rw [if_pos (eu.trans q)]
    exact hs
  · have key : ∀ L : List Nat, WP_X12_say_W w m (d : Int) ((z.toNat : Nat) : Int) (p : Int) (fun m2 => mT w m2 → mF L w m m2 → rc (z + 1, m2)) := by
      intro L
      exact X12_say_s hw T evm gm gG hs snm.1 ti zt hs2 hd hp (by rw [eu]; exact q) (by omega) tG fun m2 s2 g2 l2 _ _ => next m2 l2 g2 (by rw [eD1]; exact s2) g
    rw [zc] at key
    exact key _
end PickR
end
section
/-! The reference's grouped pick. -/
theorem mT.r126 {w : mW} {μ : mM} (h : mT w μ) (hw : mWF w) {i : Nat} : -2147483648 ≤ μ 126 i ∧ μ 126 i ≤ 2147483647 := (h 126 126 (A_126 hw) i).1
def uk (z : Int) : Int := if z < 0 then z + 4294967296 else z
theorem uk.rng {z : Int} (h : -2147483648 ≤ z ∧ z ≤ 2147483647) : 0 ≤ uk z ∧ uk z < 4294967296 := by
  unfold uk
  by_cases c : z < 0
  · rw [if_pos c]; omega
  · rw [if_neg c]; omega
theorem uk.inj {x y : Int} (hx : -2147483648 ≤ x ∧ x ≤ 2147483647) (hy : -2147483648 ≤ y ∧ y ≤ 2147483647) (h : uk x = uk y) : x = y := by
  unfold uk at h
  by_cases c : x < 0
  · rw [if_pos c] at h
    by_cases c2 : y < 0
    · rw [if_pos c2] at h; omega
    · rw [if_neg c2] at h; omega
  · rw [if_neg c] at h
    by_cases c2 : y < 0
    · rw [if_pos c2] at h; omega
    · rw [if_neg c2] at h; omega
theorem X12_isBelow_s {w : mW} {μ : mM} {a b : Int} {Q : Int → mM → Prop} (ha : -2147483648 ≤ a ∧ a ≤ 2147483647) (hb : -2147483648 ≤ b ∧ b ≤ 2147483647) (k : ∀ z : Int, (z = 1 ↔ uk a < uk b) → Q z μ) : WP_X12_isBelow_W w μ a b Q := by
  have sh : ∀ x z : Int, -2147483648 ≤ x ∧ x ≤ 2147483647 → -2147483648 ≤ z ∧ z ≤ 2147483647 → (z - (x + -2147483648)) % 4294967296 = 0 → uk x = z + 2147483648 := fun x z hx hz h => by
    unfold uk
    by_cases c : x < 0
    · rw [if_pos c]; omega
    · rw [if_neg c]; omega
  intro z1 r1 e1 z4 r4 e4
  have h1 := sh a z1 ha r1 e1
  have h4 := sh b z4 hb r4 e4
  exact ⟨fun c => k 0 ⟨fun e => absurd e (by decide), fun e => by omega⟩, fun c => k 1 ⟨fun _ => by omega, fun _ => rfl⟩⟩
theorem fmN.fil {α : Type} {f : Nat → Option α} {P : α → Bool} {g : Nat → Option α} : ∀ {n : Nat}, (∀ i, i < n → g i = match f i with | none => none | some x => if P x = true then some x else none) → fmN g n = (fmN f n).filter P := by
  intro n
  induction n with
  | zero => exact fun _ => rfl
  | succ n ih =>
    intro h
    have e := ih fun i hi => h i (by omega)
    have q := h n (by omega)
    cases c : f n with
    | none =>
      rw [c] at q
      rw [fmN.no q, fmN.no c, e]
    | some x =>
      rw [c] at q
      have q : g n = if P x = true then some x else none := q
      rw [fmN.yes c, List.filter_append, ← e]
      by_cases p : P x = true
      · rw [if_pos p] at q
        rw [fmN.yes q, List.filter_cons_of_pos p]; rfl
      · rw [if_neg p] at q
        rw [fmN.no q, List.filter_cons_of_neg p]
        simp
theorem fmN.mem {α : Type} {f : Nat → Option α} {n : Nat} {x : α} : x ∈ fmN f n ↔ ∃ i, i < n ∧ f i = some x := by
  unfold fmN
  rw [List.mem_filterMap]
  constructor
  · rintro ⟨i, hi, e⟩
    exact ⟨i, List.mem_range.mp hi, e⟩
  · rintro ⟨i, hi, e⟩
    exact ⟨i, List.mem_range.mpr hi, e⟩
theorem loopF.i4m {B : (Int × Int × Int × Int × mM → Prop) → Int × Int × Int × Int × mM → Prop} (I : Int → Int → Int → Int → mM → Prop) (m : Int → Int → Int → Nat) {n : Nat} {a b c z : Int} {μ : mM} (h : I a b c z μ) (hm : m b c z < n) (step : ∀ (rc : Int × Int × Int × Int × mM → Prop) (a b c z : Int) (μ : mM), I a b c z μ → (∀ a' b' c' z' μ', I a' b' c' z' μ' → m b' c' z' < m b c z → rc (a', b', c', z', μ')) → B rc (a, b, c, z, μ)) : loopF B False n (a, b, c, z, μ) := loopF.ind (fun s => I s.1 s.2.1 s.2.2.1 s.2.2.2.1 s.2.2.2.2) (fun s => m s.2.1 s.2.2.1 s.2.2.2.1) (fun rc s hI ih => step rc s.1 s.2.1 s.2.2.1 s.2.2.2.1 s.2.2.2.2 hI fun a' b' c' z' q' => ih (a', b', c', z', q')) n (a, b, c, z, μ) h hm
theorem loopF.iii {B : (Int × Int × Int → Prop) → Int × Int × Int → Prop} (I : Int → Int → Int → Prop) (m : Int → Nat) {n : Nat} {a b z : Int} (h : I a b z) (hm : m z < n) (step : ∀ (rc : Int × Int × Int → Prop) (a b z : Int), I a b z → (∀ a' b' z', I a' b' z' → m z' < m z → rc (a', b', z')) → B rc (a, b, z)) : loopF B False n (a, b, z) := loopF.ind (fun s => I s.1 s.2.1 s.2.2) (fun s => m s.2.2) (fun rc s hI ih => step rc s.1 s.2.1 s.2.2 hI fun a' b' z' => ih (a', b', z')) n (a, b, z) h hm
/-- a tie's number stands for a candidate -/
def ixR (E : En) (S : Sn) (d : Int) (p : Nat) (b : Int) (o : Option Cd) : Prop := (b = -99999999 ∧ o = none) ∨ ∃ (t : Nat) (c : Cd), b = (t : Int) ∧ t < eT E ∧ cdE E S d p t = some c ∧ o = some c
section PickG
variable {w : mW} {E : En} {S : Sn} {G : mM → Prop} {d p : Nat} {m1 : mM}
theorem kyR {t : Nat} {x : Cd} {m : mM} (h : rtR m (4 + (t : Int)) = (cdE E S (d : Int) p t).map (fun x => x.2.2.2)) (hx : cdE E S (d : Int) p t = some x) : ¬ m 126 (40 * (4 + (t : Int))).toNat < 0 ∧ ky x = if 0 < m 126 (40 * (4 + (t : Int)) + 4).toNat then uk (m 126 (40 * (4 + (t : Int)) + 6).toNat) else -1 := by
  rw [hx] at h
  have g := rtR.get h
  refine ⟨g.1, ?_⟩
  unfold ky
  have g2 : x.2.2.2 = _ := g.2
  rw [g2]
  show kyL (rowL (fun k => m 126 (40 * (4 + (t : Int)) + 6 + (k : Int)).toNat) (m 126 (40 * (4 + (t : Int)) + 4).toNat).toNat) = _
  rw [kyL.row]
  simp only [Int.natCast_zero, Int.add_zero]
  rfl
theorem beatsE {Q : Int → mM → Prop} {m : mM} {tx ty : Nat} {x y : Cd} (hw : mWF w) (ev : envR w m E G) (st : snR m E S) (sn : snG E S) (ti : tiG E) (tG : thG E) (hd : d < eD E) (hp : p < 10)
    (hc : ∀ t, t < eT E → rtR m (4 + (t : Int)) = (cdE E S (d : Int) p t).map (fun x => x.2.2.2)) (hx : tx < eT E) (hy : ty < eT E) (ex : cdE E S (d : Int) p tx = some x) (ey : cdE E S (d : Int) p ty = some y) (k : ∀ z : Int, (z = 1 ↔ bts (eSt E d) x y = true) → Q z m) : WP_X12_beats_W w m (d : Int) (tx : Int) (ty : Int) (p : Int) Q := by
  have rg : ∀ t c, t < eT E → cdE E S (d : Int) p t = some c → rgV (rvR m (4 + (t : Int))) := fun t c ht e => by
    have g2 := hc t ht
    rw [e] at g2
    have rv : rvR m (4 + (t : Int)) = c.2.2.2 := (rtR.get g2).2.symm
    rw [rv]
    exact ((cdE.good sn tG hp e) c.2.2.2 rfl).2.2.2.2
  obtain ⟨n, en⟩ := stepR ev hd
  refine X12_beats_s (by omega) (rg tx x hx ex) (rg ty y hy ey) fun z hz => k z ?_
  rw [en, bts.zeros, cdX.eq hw ev st ti hp hx (hc tx hx) ex, cdX.eq hw ev st ti hp hy (hc ty hy) ey] at hz
  exact hz
theorem X12_pickG_s {Q : Int → mM → Prop} (hw : mWF w) (T1 : mT w m1) (ev1 : envR w m1 E G) (st1 : snR m1 E S) (sn : snG E S) (ti : tiG E) (tG : thG E) (hd : d < eD E) (hp : p < 10)
    (hc : ∀ t, t < eT E → rtR m1 (4 + (t : Int)) = (cdE E S (d : Int) p t).map (fun x => x.2.2.2))
    (k : ∀ (z : Int) (m : mM), onL m1 m → ((z = -99999999 ∧ pickG (eSt E d) (cdsN E S (d : Int) p (eT E)) = none) ∨ (∃ (t : Nat) (c : Cd), z = (t : Int) ∧ t < eT E ∧ cdE E S (d : Int) p t = some c ∧ pickG (eSt E d) (cdsN E S (d : Int) p (eT E)) = some c)) → Q z m) : loopF (WL_X12_pick_W_1 w (d : Int) (p : Int) Q (eT E : Int) m1) False 22 (-99999999, 0) := by
  have t20 := ti.2.2.1
  have there : ∀ (m : mM), onL m1 m → ∀ t, t < eT E → rtR m (4 + (t : Int)) = (cdE E S (d : Int) p t).map (fun x => x.2.2.2) := fun m ol t ht => by rw [ol.rt hw T1 (by omega)]; exact hc t ht
  have thE : ∀ (m : mM), onL m1 m → ∀ t, t < eT E → (rtR m (4 + (t : Int)) = none ↔ cdE E S (d : Int) p t = none) := fun m ol t ht => by
    rw [there m ol t ht]
    cases cdE E S (d : Int) p t with
    | none => exact ⟨fun _ => rfl, fun _ => rfl⟩
    | some x => exact ⟨fun q => (by cases q), fun q => (by cases q)⟩
  refine loopF.ii (fun b s => 0 ≤ s ∧ s ≤ (eT E : Int) ∧ ixR E S (d : Int) p b (bst (eSt E d) ((cdsN E S (d : Int) p s.toNat).filter fun c => decide (ky c = -1)) none)) (fun _ s => (21 - s).toNat) ⟨by omega, by omega, Or.inl ⟨rfl, rfl⟩⟩ (by omega) ?_
  rintro rc b s ⟨s0, s1, hb⟩ ih b' s' e _ _
  cases e
  refine ⟨fun g => ?_, fun g f ef _ => ?_⟩
  rotate_left 1
  · -- those of empty ways
    have st' : s.toNat < eT E := by omega
    have sc : ((s.toNat : Nat) : Int) = s := by omega
    have s2 : (s + 1).toNat = s.toNat + 1 := by omega
    have none_ : cdE E S (d : Int) p s.toNat = none → rc (b, s + 1) := fun e => ih _ _ ⟨by omega, by omega, by
      have e2 : cdsN E S (d : Int) p (s.toNat + 1) = cdsN E S (d : Int) p s.toNat := fmN.no e
      rw [s2, e2]; exact hb⟩ (by omega)
    refine X12_isThere_s fun y hy _ => ⟨fun c => none_ ?_, fun c ln eln _ => ?_⟩
    · have q := thE m1 (fun _ _ _ => rfl) s.toNat st'
      rw [sc] at q
      exact Classical.byContradiction fun g2 => by
        have := hy.mpr fun g3 => g2 (q.mp g3)
        omega
    · cases ex : cdE E S (d : Int) p s.toNat with
      | none =>
        have q := thE m1 (fun _ _ _ => rfl) s.toNat st'
        rw [sc] at q
        exact absurd (q.mpr ex) (hy.mp (by omega))
      | some x =>
        have e2 : cdsN E S (d : Int) p (s.toNat + 1) = cdsN E S (d : Int) p s.toNat ++ [x] := fmN.yes ex
        have kx := (kyR (hc _ st') ex).2
        rw [sc, eln] at kx
        have rb := (T1.rb hw (show 0 ≤ 4 + s by omega)).1
        rw [eln] at rb
        refine ⟨fun q => ih _ _ ⟨by omega, by omega, ?_⟩ (by omega), fun q => ?_⟩
        · have hk : ¬ ky x = -1 := by
            rw [kx, if_pos (by omega)]
            have := uk.rng (z := m1 126 (40 * (4 + s) + 6).toNat) (T1.r126 hw)
            omega
          rw [s2, e2, List.filter_append, List.filter_cons_of_neg (by simp [hk])]
          simp only [List.filter_nil, List.append_nil]
          exact hb
        · have hk : ky x = -1 := by
            rw [kx, if_neg (by omega)]
          have e3 : ((cdsN E S (d : Int) p (s.toNat + 1)).filter fun c => decide (ky c = -1)) = ((cdsN E S (d : Int) p s.toNat).filter fun c => decide (ky c = -1)) ++ [x] := by
            rw [e2, List.filter_append, List.filter_cons_of_pos (p := fun c => decide (ky c = -1)) (decide_eq_true hk)]
            rfl
          refine ⟨fun q2 => ih _ _ ⟨by omega, by omega, Or.inr ⟨s.toNat, x, by omega, st', ex, ?_⟩⟩ (by omega), fun q2 => ?_⟩
          · rcases hb with ⟨_, h2⟩ | ⟨t, c, h1, _⟩
            · rw [s2, e3, bst.app, h2]
              rfl
            · omega
          · rcases hb with ⟨h1, _⟩ | ⟨t, c, h1, h2, h3, h4⟩
            · exact absurd h1 q2
            subst h1
            have nx : bst (eSt E d) ((cdsN E S (d : Int) p (s.toNat + 1)).filter fun c => decide (ky c = -1)) none = if bts (eSt E d) x c = true then some x else some c := by
              rw [e3, bst.app, h4]
              rfl
            have bt := beatsE (Q := fun z _ => (0 ≤ z ∧ z ≤ 1) → ((z = 0) → rc ((t : Int), s + 1)) ∧ ((¬ z = 0) → rc (s, s + 1))) hw ev1 st1 sn ti tG hd hp hc st' h2 ex h3 fun z hz _ => ⟨fun c0 => ih _ _ ⟨by omega, by omega, Or.inr ⟨t, c, rfl, h2, h3, ?_⟩⟩ (by omega), fun c0 => ih _ _ ⟨by omega, by omega, Or.inr ⟨s.toNat, x, by omega, st', ex, ?_⟩⟩ (by omega)⟩
            · rw [sc] at bt
              exact bt
            · rw [s2, nx, if_neg (fun q => by have := hz.mpr q; omega)]
            · rw [s2, nx, if_pos (hz.mp (by omega))]
  · -- the keys, rising
    have es : s.toNat = eT E := by omega
    rw [es] at hb
    have ksrt : (kys (cdsN E S (d : Int) p (eT E)) []).Pairwise (· < ·) := kys.srt' List.Pairwise.nil
    have inK : ∀ t x, t < eT E → cdE E S (d : Int) p t = some x → ¬ ky x = -1 → ky x ∈ kys (cdsN E S (d : Int) p (eT E)) [] := fun t x ht e hk => kys.mem.mpr (Or.inr ⟨x, fmN.mem.mpr ⟨t, ht, e⟩, rfl, hk⟩)
    have ofK : ∀ y, y ∈ kys (cdsN E S (d : Int) p (eT E)) [] → ∃ t x, t < eT E ∧ cdE E S (d : Int) p t = some x ∧ ky x = y ∧ ¬ y = -1 := fun y hy => by
      rcases kys.mem.mp hy with a | ⟨c, hcc, a, bb⟩
      · cases a
      · obtain ⟨t, ht, e⟩ := fmN.mem.mp hcc
        exact ⟨t, c, ht, e, a, bb⟩
    refine loopF.i4m (fun b fl key gg m => onL m1 m ∧ (-2147483648 ≤ key ∧ key ≤ 2147483647) ∧ ∃ dn td : List Int, kys (cdsN E S (d : Int) p (eT E)) [] = dn ++ td ∧ ixR E S (d : Int) p b (bst (eSt E d) ((cdsN E S (d : Int) p (eT E)).filter (fun c => decide (ky c = -1)) ++ dn.filterMap (grp (eSt E d) (cdsN E S (d : Int) p (eT E)))) none) ∧ (fl = 0 → dn = []) ∧ (¬ fl = 0 → (∀ x ∈ dn, x ≤ uk key) ∧ ∀ x ∈ td, uk key < x) ∧ (gg = 0 → td = [])) (fun fl key gg => if gg = 0 then 0 else if fl = 0 then 4294967298 else (4294967297 - uk key).toNat) ⟨fun _ _ _ => rfl, by omega, [], _, rfl, by rw [List.filterMap_nil, List.append_nil]; exact hb, fun _ => rfl, fun q => absurd rfl q, fun q => absurd q (by decide)⟩ (by decide) ?_
    rintro rc2 b fl key gg m ⟨ol, kr, dn, td, hk, hbi, hf0, hf1, hg0⟩ ih2 b' fl' key' gg' m' e _ _ _ _ T F
    cases e
    refine ⟨fun q => ?_, fun q => ?_⟩
    · have etd := hg0 q
      rw [etd, List.append_nil] at hk
      refine k b m ol ?_
      have eP : pickG (eSt E d) (cdsN E S (d : Int) p (eT E)) = bst (eSt E d) ((cdsN E S (d : Int) p (eT E)).filter (fun c => decide (ky c = -1)) ++ dn.filterMap (grp (eSt E d) (cdsN E S (d : Int) p (eT E)))) none := by
        unfold pickG
        rw [hk]
      rw [eP]
      exact hbi
    have afT : ∀ y, y ∈ kys (cdsN E S (d : Int) p (eT E)) [] → (fl = 0 ∨ uk key < y) → y ∈ td := fun y hy ha => by
      rw [hk] at hy
      rcases List.mem_append.mp hy with a | a
      · by_cases c : fl = 0
        · rw [hf0 c] at a; cases a
        · have := (hf1 c).1 y a
          rcases ha with ha | ha
          · exact absurd ha c
          · omega
      · exact a
    have Taf : ∀ y, y ∈ td → (fl = 0 ∨ uk key < y) := fun y hy => by
      by_cases c : fl = 0
      · exact Or.inl c
      · exact Or.inr ((hf1 c).2 y hy)
    refine loopF.iii (fun fo nx t => 0 ≤ t ∧ t ≤ (eT E : Int) ∧ (-2147483648 ≤ nx ∧ nx ≤ 2147483647) ∧ (∀ (i : Nat) (x : Cd), (i : Int) < t → cdE E S (d : Int) p i = some x → ¬ ky x = -1 → (fl = 0 ∨ uk key < ky x) → ¬ fo = 0 ∧ uk nx ≤ ky x) ∧ (¬ fo = 0 → uk nx ∈ td)) (fun t => (21 - t).toNat) ⟨by omega, by omega, by omega, fun i x hi => by omega, fun q => absurd rfl q⟩ (by omega) ?_
    rintro rc3 fo nx t ⟨z0, z1, nr, h3, h4⟩ ih3 fo' nx' t' e fr _ _
    cases e
    refine ⟨fun g2 => ⟨fun q2 => ?_, fun q2 => ?_⟩, fun g2 f2 ef2 _ => ?_⟩
    · -- a group
      have hin := h4 q2
      obtain ⟨y, td', etd⟩ : ∃ y td', td = y :: td' := by
        cases td with
        | nil => cases hin
        | cons y td' => exact ⟨y, td', rfl⟩
      subst etd
      rw [hk] at ksrt
      have kp := List.pairwise_append.mp ksrt
      have kc := List.pairwise_cons.mp kp.2.1
      have ey : y = uk nx := by
        obtain ⟨t2, x2, a1, a2, a3, a4⟩ := ofK y (by rw [hk]; exact List.mem_append.mpr (Or.inr List.mem_cons_self))
        have l1 := (h3 t2 x2 (by omega) a2 (by rw [a3]; exact a4) (by rw [a3]; exact Taf y List.mem_cons_self)).2
        rw [a3] at l1
        rcases List.mem_cons.mp hin with c | c
        · exact c.symm
        · have := kc.1 _ c
          omega
      refine loopF.im (fun z m2 => 0 ≤ z ∧ z ≤ (eT E : Int) ∧ onL m1 m2 ∧ ∀ i : Nat, (i : Int) < z → (m2 165 i = 0 ↔ ¬ ∃ x, cdE E S (d : Int) p i = some x ∧ ky x = y)) (fun z => (21 - z).toNat) ⟨by omega, by omega, ol, fun i hi => by omega⟩ (by omega) ?_
      rintro rc4 z m2 ⟨y0, y1, ol2, h5⟩ ih4 z' m2' e _ T4 F4
      cases e
      refine ⟨fun g4 => ?_, fun g4 f4 ef4 _ => ?_⟩
      · have Fm : mF lER w m1 m2 := (mF.refl.call F rfl).call F4 rfl
        have evm := ev1.fr hw Fm
        have stm := st1.fr hw T1 ol2.fr
        have hcm := there m2 ol2
        have cx : ∀ t x, t < eT E → cdE E S (d : Int) p t = some x → cdX m2 (d : Int) (p : Int) (4 + (t : Int)) (t : Int) = x := fun t x ht e => cdX.eq hw evm stm ti hp ht (hcm t ht) e
        have lf : fmN (lfR m2 (d : Int) (p : Int)) (eT E) = (cdsN E S (d : Int) p (eT E)).filter fun c => decide (ky c = y) := fmN.fil (f := cdE E S (d : Int) p) fun i hi => by
          unfold lfR
          have h5' := h5 i (by omega)
          cases e : cdE E S (d : Int) p i with
          | none =>
            have : m2 165 i = 0 := h5'.mpr fun ⟨x, q, _⟩ => by rw [e] at q; cases q
            rw [if_pos this]
          | some x =>
            show _ = if decide (ky x = y) = true then some x else none
            by_cases c : ky x = y
            · rw [if_pos (decide_eq_true c), if_neg (fun q => h5'.mp q ⟨x, e, c⟩), cx i x hi e]
            · rw [if_neg (fun q => c (of_decide_eq_true q)), if_pos (h5'.mpr fun ⟨x', q, q'⟩ => by rw [e] at q; cases q; exact c q')]
        obtain ⟨n, en⟩ := stepR evm hd
        have e106 : (m2 106 6).toNat = eT E := by rw [evm.1]; rfl
        refine X12_best_s (by omega) (fun t ht hne => ?_) fun v hv rv => ?_
        · have ht2 : t < eT E := by rw [evm.1] at ht; omega
          have : ∃ x, cdE E S (d : Int) p t = some x ∧ ky x = y := Classical.byContradiction fun q => hne ((h5 t (by omega)).mpr q)
          obtain ⟨x, e, _⟩ := this
          have g5 := hcm t ht2
          rw [e] at g5
          have rv : rvR m2 (4 + (t : Int)) = x.2.2.2 := (rtR.get g5).2.symm
          rw [rv]
          exact ((cdE.good sn tG hp e) x.2.2.2 rfl).2.2.2.2
        rw [e106, lf, en, bst.zeros] at hv
        have hv : (v = -99999999 ∧ grp (eSt E d) (cdsN E S (d : Int) p (eT E)) y = none) ∨ (0 ≤ v ∧ v < m2 106 6 ∧ ¬ m2 165 v.toNat = 0 ∧ grp (eSt E d) (cdsN E S (d : Int) p (eT E)) y = some (cdX m2 (d : Int) (p : Int) (4 + v) v)) := hv
        obtain ⟨tv, cv, av, bv, ev', gv⟩ : ∃ (t : Nat) (c : Cd), v = (t : Int) ∧ t < eT E ∧ cdE E S (d : Int) p t = some c ∧ grp (eSt E d) (cdsN E S (d : Int) p (eT E)) y = some c := by
          rcases hv with ⟨_, hv⟩ | ⟨v0, v1, v2, hv⟩
          · obtain ⟨t2, x2, a1, a2, a3, a4⟩ := ofK y (by rw [hk]; exact List.mem_append.mpr (Or.inr List.mem_cons_self))
            obtain ⟨x3, e3⟩ := grp.there (l := eSt E d) (fmN.mem.mpr ⟨t2, a1, a2⟩) a3
            have e3 : grp (eSt E d) (cdsN E S (d : Int) p (eT E)) y = some x3 := e3
            rw [hv] at e3; cases e3
          · rw [evm.1] at v1
            have : ∃ x, cdE E S (d : Int) p v.toNat = some x ∧ ky x = y := Classical.byContradiction fun q => v2 ((h5 v.toNat (by omega)).mpr q)
            obtain ⟨x, e, _⟩ := this
            refine ⟨v.toNat, x, by omega, by omega, e, ?_⟩
            have c2 := cx v.toNat x (by omega) e
            rw [Int.toNat_of_nonneg v0] at c2
            rw [hv, c2]
        have nx1 : (dn ++ [y]).filterMap (grp (eSt E d) (cdsN E S (d : Int) p (eT E))) = dn.filterMap (grp (eSt E d) (cdsN E S (d : Int) p (eT E))) ++ [cv] := by
          rw [List.filterMap_append]
          congr 1
          simp [gv]
        have fin : ∀ b2 : Int, ixR E S (d : Int) p b2 (bst (eSt E d) [cv] (bst (eSt E d) ((cdsN E S (d : Int) p (eT E)).filter (fun c => decide (ky c = -1)) ++ dn.filterMap (grp (eSt E d) (cdsN E S (d : Int) p (eT E)))) none)) → rc2 (b2, 1, nx, fo, m2) := fun b2 hb2 => ih2 _ _ _ _ _ ⟨ol2, nr, dn ++ [y], td', by rw [hk, List.append_assoc]; rfl, by rw [nx1, ← List.append_assoc, bst.app]; exact hb2, fun q => absurd q (by decide), fun _ => ⟨fun x hx => by
            rcases List.mem_append.mp hx with a | a
            · have := kp.2.2 x a y List.mem_cons_self
              omega
            · have := List.mem_singleton.mp a
              omega, fun x hx => by
            have := kc.1 x hx
            omega⟩, fun q => absurd q q2⟩ (by
          have ur := uk.rng nr
          have uk2 := uk.rng kr
          show (if fo = 0 then 0 else if (1 : Int) = 0 then 4294967298 else (4294967297 - uk nx).toNat) < (if gg = 0 then 0 else if fl = 0 then 4294967298 else (4294967297 - uk key).toNat)
          rw [if_neg q2, if_neg (by decide), if_neg q]
          by_cases c : fl = 0
          · rw [if_pos c]; omega
          · rw [if_neg c]
            have := (hf1 c).2 y List.mem_cons_self
            omega)
        refine ⟨fun q3 => fin v ?_, fun q3 => ?_⟩
        · rcases hbi with ⟨_, h8⟩ | ⟨t, c, h8, _⟩
          · rw [h8]
            exact Or.inr ⟨tv, cv, av, bv, ev', rfl⟩
          · omega
        · rcases hbi with ⟨h8, _⟩ | ⟨t, c, h8, h9, h10, h11⟩
          · exact absurd h8 q3
          subst h8 av
          rw [h11] at fin
          refine beatsE hw evm stm sn ti tG hd hp hcm bv h9 ev' h10 fun z hz _ => ⟨fun c0 => fin _ ?_, fun c0 => fin _ ?_⟩
          · show ixR E S (d : Int) p (t : Int) (if bts (eSt E d) cv c = true then some cv else some c)
            rw [if_neg (fun q => by have := hz.mpr q; omega)]
            exact Or.inr ⟨t, c, rfl, h9, h10, rfl⟩
          · show ixR E S (d : Int) p (tv : Int) (if bts (eSt E d) cv c = true then some cv else some c)
            rw [if_pos (hz.mp (by omega))]
            exact Or.inr ⟨tv, cv, rfl, bv, ev', rfl⟩
      · -- who is of the group
        have zt : z.toNat < eT E := by omega
        have zc : ((z.toNat : Nat) : Int) = z := by omega
        have put : ∀ (u : Int) (m3 : mM), mU m2 165 z.toNat u m3 → (u = 0 ↔ ¬ ∃ x, cdE E S (d : Int) p z.toNat = some x ∧ ky x = y) → rc4 (z + 1, m3) := fun u m3 uu hu => by
          obtain rfl := uu.is
          refine ih4 _ _ ⟨by omega, by omega, fun b i hb => ?_, fun i hi => ?_⟩ (by omega)
          · rw [mUp.no (by omega)]; exact ol2 b i hb
          · by_cases c : (i : Int) = z
            · have e : i = z.toNat := by omega
              rw [mUp.yes ⟨rfl, e⟩, e]; exact hu
            · rw [mUp.no (by omega)]; exact h5 i (by omega)
        have q1 := thE m2 ol2 z.toNat zt
        have hcz := there m2 ol2 z.toNat zt
        rw [zc] at q1
        refine X12_isThere_s fun v hv _ => ⟨fun c m3 u3 _ => put 0 m3 u3 ⟨fun _ ⟨x, e, _⟩ => ?_, fun _ => rfl⟩, fun c ln eln _ => ?_⟩
        · have : v = 1 := hv.mpr fun q => by rw [q1.mp q] at e; cases e
          omega
        · cases ex : cdE E S (d : Int) p z.toNat with
          | none => exact absurd (q1.mpr ex) (hv.mp (by omega))
          | some x =>
            have kx := (kyR hcz ex).2
            rw [zc, eln] at kx
            rw [ex] at put
            refine ⟨fun c2 m3 u3 _ => put 0 m3 u3 ⟨fun _ ⟨x', e, e'⟩ => ?_, fun _ => rfl⟩, fun c2 fi efi rfi => ⟨fun c3 m3 u3 _ => put 0 m3 u3 ⟨fun _ ⟨x', e, e'⟩ => ?_, fun _ => rfl⟩, fun c3 m3 u3 _ => put 1 m3 u3 ⟨fun e => absurd e (by decide), fun e => absurd ⟨x, rfl, ?_⟩ e⟩⟩⟩
            · cases e
              rw [if_neg (by omega)] at kx
              have := uk.rng nr
              omega
            · cases e
              rw [if_pos c2, efi] at kx
              exact c3 (uk.inj rfi.1 nr (by omega))
            · rw [if_pos c2, efi, c3] at kx
              omega
    · -- no group is left
      refine ih2 _ _ _ _ _ ⟨ol, kr, dn, td, hk, hbi, hf0, hf1, fun _ => ?_⟩ ?_
      · cases td with
        | nil => rfl
        | cons y td' =>
          obtain ⟨t2, x2, a1, a2, a3, a4⟩ := ofK y (by rw [hk]; exact List.mem_append.mpr (Or.inr List.mem_cons_self))
          exact absurd q2 (h3 t2 x2 (by omega) a2 (by rw [a3]; exact a4) (by rw [a3]; exact Taf y List.mem_cons_self)).1
      · show (if fo = 0 then 0 else if fl = 0 then 4294967298 else (4294967297 - uk key).toNat) < (if gg = 0 then 0 else if fl = 0 then 4294967298 else (4294967297 - uk key).toNat)
        have uk2 := uk.rng kr
        rw [if_pos q2, if_neg q]
        by_cases c : fl = 0
        · rw [if_pos c]; decide
        · rw [if_neg c]; omega
    · -- the next key
      have zt : t.toNat < eT E := by omega
      have zc : ((t.toNat : Nat) : Int) = t := by omega
      have q1 := thE m ol t.toNat zt
      have hcz := there m ol t.toNat zt
      rw [zc] at q1
      have keep : (∀ x, cdE E S (d : Int) p t.toNat = some x → ¬ ky x = -1 → (fl = 0 ∨ uk key < ky x) → ¬ fo = 0 ∧ uk nx ≤ ky x) → rc3 (fo, nx, t + 1) := fun h => ih3 _ _ _ ⟨by omega, by omega, nr, fun i x hi e h6 h7 => by
        by_cases c : (i : Int) = t
        · have ei : i = t.toNat := by omega
          rw [ei] at e
          exact h x e h6 h7
        · exact h3 i x (by omega) e h6 h7, h4⟩ (by omega)
      refine X12_isThere_s fun v hv _ => ⟨fun c => keep fun x e => ?_, fun c ln eln _ => ?_⟩
      · have : v = 1 := hv.mpr fun q => by rw [q1.mp q] at e; cases e
        omega
      cases ex : cdE E S (d : Int) p t.toNat with
      | none => exact absurd (q1.mpr ex) (hv.mp (by omega))
      | some x =>
        have kx := (kyR hcz ex).2
        rw [zc, eln] at kx
        rw [ex] at keep
        have rb := (T.rb hw (show 0 ≤ 4 + t by omega)).1
        rw [eln] at rb
        refine ⟨fun c2 fi efi rfi => ?_, fun c2 => keep fun x' e => ?_⟩
        · rw [if_pos (by omega), efi] at kx
          have ur := uk.rng rfi.1
          have hk1 : ¬ ky x = -1 := by omega
          have take : (fl = 0 ∨ uk key < ky x) → (fo = 0 ∨ ky x ≤ uk nx) → rc3 (1, fi, t + 1) := fun ha hb => ih3 _ _ _ ⟨by omega, by omega, rfi.1, fun i x' hi e h6 h7 => ⟨by decide, by
            by_cases c : (i : Int) = t
            · have ei : i = t.toNat := by omega
              rw [ei, ex] at e
              cases e
              omega
            · have := h3 i x' (by omega) e h6 h7
              rcases hb with hb | hb
              · exact absurd hb this.1
              · omega⟩, fun _ => by rw [← kx]; exact afT _ (inK _ x zt ex hk1) ha⟩ (by omega)
          have pick : (fl = 0 ∨ uk key < ky x) → ((fo = 0) → rc3 (1, fi, t + 1)) ∧ ((¬ fo = 0) → WP_X12_isBelow_W w m fi nx (fun z _ => (0 ≤ z ∧ z ≤ 1) → ((z = 0) → rc3 (fo, nx, t + 1)) ∧ ((¬ z = 0) → rc3 (1, fi, t + 1)))) := fun ha => ⟨fun c3 => take ha (Or.inl c3), fun c3 => X12_isBelow_s rfi.1 nr fun z hz _ => ⟨fun c4 => keep fun x' e h6 h7 => ?_, fun c4 => take ha (Or.inr ?_)⟩⟩
          · refine ⟨fun c3 => pick (Or.inl c3), fun c3 => X12_isBelow_s kr rfi.1 fun z hz _ => ⟨fun c4 => keep fun x' e h6 h7 => ?_, fun c4 => pick (Or.inr ?_)⟩⟩
            · cases e
              rcases h7 with h7 | h7
              · exact absurd h7 c3
              · have := hz.mpr (by omega)
                omega
            · have := hz.mp (by omega)
              omega
          · cases e
            refine ⟨c3, ?_⟩
            apply Classical.byContradiction
            intro g5
            have := hz.mpr (by omega)
            omega
          · have := hz.mp (by omega)
            omega
        · cases e
          rw [if_neg (by omega)] at kx
          exact fun h => absurd kx h
end PickG
end
section
/-! The reference's pick. -/
section PickR2
variable {w : mW} {μ : mM} {E : En} {S : Sn} {G : mM → Prop} {d p : Nat}
theorem X12_pick_s {Q : Int → mM → Prop} (hw : mWF w) (hT : mT w μ) (ev : envR w μ E G) (hG : G μ) (gG : gSt G) (st : snR μ E S) (sn : snG E S) (ti : tiG E) (tG : thG E) (hd : d < eD E) (hp : p < 10)
    (k : ∀ (z : Int) (m : mM), G m → frR μ m → ((z = -99999999 ∧ pickE (eGr E d) (eSt E d) (cdsN E S (d : Int) p (eT E)) = none) ∨ (∃ (t : Nat) (c : Cd), z = (t : Int) ∧ t < eT E ∧ (cdE E S (d : Int) p t = some c ∧ rtR m (4 + (t : Int)) = some c.2.2.2) ∧ pickE (eGr E d) (eSt E d) (cdsN E S (d : Int) p (eT E)) = some c)) → Q z m) : WP_X12_pick_W w μ (d : Int) (p : Int) Q := by
  intro n en hn
  rw [ev.1] at en
  subst en
  refine X12_candidates_s hw hT ev hG gG st sn ti hp fun m1 g1 fr1 _ hc T1 F1 y ey ry => ?_
  have ev1 := ev.fr hw (mF.refl.call F1 rfl)
  have st1 := st.fr hw hT fr1
  have ey' : y = eGr E d := by
    rw [← ey]
    exact (ev1.2.2.2.2.1 d (Or.inl hd)).2.2
  have fin : ∀ (z : Int) (m : mM), onL m1 m → ((z = -99999999 ∧ pickE (eGr E d) (eSt E d) (cdsN E S (d : Int) p (eT E)) = none) ∨ (∃ (t : Nat) (c : Cd), z = (t : Int) ∧ t < eT E ∧ cdE E S (d : Int) p t = some c ∧ pickE (eGr E d) (eSt E d) (cdsN E S (d : Int) p (eT E)) = some c)) → Q z m := fun z m ol hz => k z m (gG m1 m g1 fun b i q1 q2 q3 => ol b i (by omega)) (fr1.trans ol.fr) (hz.imp id fun ⟨t, c, e1, e2, e3, e4⟩ => ⟨t, c, e1, e2, ⟨e3, by rw [ol.rt hw T1 (by omega), hc t e2, e3]; rfl⟩, e4⟩)
  refine ⟨fun c => ?_, fun c => ?_⟩
  · refine X12_pickG_s hw T1 ev1 st1 sn ti tG hd hp hc fun z m ol hz => fin z m ol ?_
    have e : pickE (eGr E d) (eSt E d) (cdsN E S (d : Int) p (eT E)) = pickG (eSt E d) (cdsN E S (d : Int) p (eT E)) := if_neg (by omega)
    rw [e]; exact hz
  · refine X12_pickP_s hw T1 ev1 st1 sn ti tG hd hp hc fun z m ol hz => fin z m ol ?_
    have e : pickE (eGr E d) (eSt E d) (cdsN E S (d : Int) p (eT E)) = bst (eSt E d) (cdsN E S (d : Int) p (eT E)) none := if_pos (by omega)
    rw [e]; exact hz
end PickR2
end
section
/-! The reference looks. -/
section LookR
variable {w : mW} {μ : mM} {E : En} {S : Sn} {G : mM → Prop} {d p : Nat}
theorem frR.lo {m : mM} (h : frR μ m) : loR μ m := fun i hi => h 126 i (by omega) (by omega) (by omega) (by omega) (by omega) (by omega)
theorem gSt.fr {m : mM} (gG : gSt G) (hG : G μ) (h : ∀ (b i : Nat), ¬ b = 126 → ¬ ((112 ≤ b ∧ b ≤ 115) ∨ (151 ≤ b ∧ b ≤ 165)) → ¬ (b = 106 ∧ 70 ≤ i) → m b i = μ b i) : G m := gG μ m hG h
theorem X12_lookJ_s {Q : mM → Prop} {m : mM} {v : Int} (hw : mWF w) (hT : mT w μ) (ev : envR w μ E G) (hG : G m) (gG : gSt G) (st : snR μ E S) (sn : snG E S) (ti : tiG E) (tG : thG E) (pa : paG E) (hd : d < eD E) (hp : p < 10) (ho : eOw E (10 * d + p) ≤ 2) (hM : 0 ≤ sMd S ∧ sMd S + 20 < 2147483647)
    (fr : frR μ m) (hn : newP E S (d : Int) p = (v, rtR m 3)) (k : ∀ m : mM, snR m E (lookE E S (d : Int) p) → G m → loR μ m → Q m) : WJ_X12_look_W_1 w μ (d : Int) (p : Int) Q v m := by
  intro _ T F z73 _ _ z78 e78 _
  have t20 := ti.2.2.1
  have d10 := ti.2.2.2.1
  have F0 : mF lER w μ m := mF.refl.call F rfl
  have e10 : (10 * (d : Int) + (p : Int)).toNat = 10 * d + p := by omega
  have c10 : (30 : Int) + (10 * (d : Int) + (p : Int)) = 30 + ((10 * d + p : Nat) : Int) := by omega
  rw [e10] at e78 ⊢
  rw [c10]
  have sp := st.2.1 (10 * d + p) (by omega)
  have e78' : z78 = (sPk S (10 * d + p)).1 := by
    rw [← e78, fr 161 _ (by omega) (by omega) (by omega) (by omega) (by omega) (by omega)]; exact sp.1
  have sm : snR m E S := st.fr hw hT fr
  have good := newP.good (d := d) sn tG hp ho
  have m10 : (10 * d + p) % 10 = p := by omega
  have rp : rtR m (30 + ((10 * d + p : Nat) : Int)) = (sPk S (10 * d + p)).2 := (sm.2.1 (10 * d + p) (by omega)).2
  have go : ¬ newP E S (d : Int) p = sPk S (10 * d + p) → ∀ m3 : mM, rtR m3 (30 + ((10 * d + p : Nat) : Int)) = rtR (mUp m 161 (10 * d + p) v) 3 → onR (mUp m 161 (10 * d + p) v) m3 (30 + ((10 * d + p : Nat) : Int)) → mF [126999] w (mUp m 161 (10 * d + p) v) m3 → loopF (WL_X12_look_W_2 w (d : Int) (p : Int) Q m3) False 22 (0, m3) := by
    intro hne m3 r3 o3 F3
    have rb : rtR (mUp m 161 (10 * d + p) v) 3 = rtR m 3 := rtR.cg (T.rb hw (by omega)).1.2 (T.rb hw (by omega)).2.2 fun j hj => mUp.no (by omega)
    rw [rb] at r3
    have all : ∀ (b i : Nat), ¬ (b = 161 ∧ i = 10 * d + p) → ¬ (b = 126 ∧ 40 * (30 + (10 * d + p)) ≤ i ∧ i < 40 * (30 + (10 * d + p)) + 40) → m3 b i = m b i := fun b i q1 q2 => by
      rw [o3 b i (by omega), mUp.no q1]
    have s3 : snR m3 E (pk! S (10 * d + p) (v, rtR m 3)) := st.pick hw hT (by omega) d10 (fun b i h1 h2 h3 h4 h5 h6 h7 h8 => (all b i h7 h8).trans (fr b i h1 h2 h3 h4 h5 h6)) (by rw [o3 _ _ (by omega), mUp.yes ⟨rfl, rfl⟩]) r3
    have g3 : snG E (pk! S (10 * d + p) (v, rtR m 3)) := by
      have px := newP.px (d := d) sn tG hd hp
      rw [hn] at good px
      exact sn.pick (by rw [m10]; exact good.1) good.2 (by rw [m10]; exact px)
    have F4 : mF lER w μ m3 := (F0.up (A_161 hw) mUp_ok rfl).call F3 rfl
    refine X12_lookL_s hw (ev.fr hw F4) (gG.fr hG fun b i q1 q2 q3 => all b i (by omega) (by omega)) gG s3 g3 ti tG pa hp hM fun m4 s4 g4 l4 => k m4 ?_ g4 fun i hi => ?_
    · rw [lookE.new hne, hn]; exact s4
    · rw [l4 i hi, all 126 i (by omega) (by omega)]
      exact fr.lo i hi
  refine ⟨fun c m2 u2 T2 => ?_, fun c => ?_⟩
  · obtain rfl := u2.is
    refine X12_copy_s (by omega) (by omega) (by omega) (T2.rb hw (by omega)).1.2 (T2.rb hw (by omega)).2.2 fun m3 r3 _ o3 T3 F3 x3 _ => go (fun q => c ?_) m3 r3 o3 F3
    rw [e78', ← q, hn]
  · refine X12_same_s (T.rb hw (by omega)).1 (T.rb hw (by omega)).1.1 (T.rb hw (by omega)).2 (T.rb hw (by omega)).2.1 fun y hy ry => ⟨fun c2 m2 u2 T2 => ?_, fun c2 => ?_⟩
    · obtain rfl := u2.is
      refine X12_copy_s (by omega) (by omega) (by omega) (T2.rb hw (by omega)).1.2 (T2.rb hw (by omega)).2.2 fun m3 r3 _ o3 T3 F3 x3 _ => go (fun q => ?_) m3 r3 o3 F3
      have : y = 1 := hy.mpr (by rw [rp, ← q, hn])
      omega
    · have e := hy.mp (by omega)
      refine k m ?_ hG fr.lo
      rw [lookE.same]
      · exact sm
      · rw [hn, e, rp, c, e78']
theorem X12_look_s {Q : mM → Prop} (hw : mWF w) (hT : mT w μ) (ev : envR w μ E G) (hG : G μ) (gG : gSt G) (st : snR μ E S) (sn : snG E S) (ti : tiG E) (tG : thG E) (pa : paG E) (hd : d < eD E) (hp : p < 10) (hM : 0 ≤ sMd S ∧ sMd S + 20 < 2147483647)
    (k : ∀ m : mM, snR m E (lookE E S (d : Int) p) → G m → loR μ m → Q m) : WP_X12_look_W w μ (d : Int) (p : Int) Q := by
  have t20 := ti.2.2.1
  intro z1 e1 r1
  have eo : eOw E (10 * d + p) = z1 := by
    rw [← (ev.2.2.2.2.1 d (Or.inl hd)).1 p hp, ← e1, show (10 * (d : Int) + (p : Int)).toNat = 10 * d + p by omega]
  have ho : eOw E (10 * d + p) ≤ 2 := by omega
  refine ⟨fun c n en hn => ?_, fun c m1 u1 T1 m2 u2 T2 m3 u3 T3 m4 u4 T4 m5 u5 T5 m6 u6 T6 => ?_⟩
  · have hN : ¬ 0 ≤ eOw E (10 * d + p) := by omega
    refine X12_pick_s hw hT ev hG gG st sn ti tG hd hp fun z m g fr hz T F rz => ⟨fun q x ex hx => ?_, fun q => ?_⟩
    · rcases hz with ⟨hz, _⟩ | ⟨t, cd, e2, ht, hr, hz⟩
      · exact absurd hz q
      refine X12_copy_s (by omega) (by omega) (by omega) (T.rb hw (by omega)).1.2 (T.rb hw (by omega)).2.2 fun m2 r2 _ o2 T2 F2 x2 _ => ?_
      refine X12_lookJ_s hw hT ev (gG.fr g fun b i q1 q2 q3 => o2 b i (by omega)) gG st sn ti tG pa hd hp ho hM (fun b i h1 h2 h3 h4 h5 h6 => (o2 b i (by omega)).trans (fr b i h1 h2 h3 h4 h5 h6)) ?_ k
      have c1 := (cdE.ptn hr.1).1
      rw [newP.yes hN hz, r2, e2, hr.2, c1]
    · rcases hz with ⟨_, hz⟩ | ⟨t, cd, e2, _⟩
      · refine X12_nothing_s (by omega) fun m2 r2 o2 T2 F2 x2 _ => ?_
        rw [q]
        refine X12_lookJ_s hw hT ev (gG.fr g fun b i q1 q2 q3 => o2 b i (by omega)) gG st sn ti tG pa hd hp ho hM (fun b i h1 h2 h3 h4 h5 h6 => (o2 b i (by omega)).trans (fr b i h1 h2 h3 h4 h5 h6)) ?_ k
        rw [newP.no hN hz, r2]
      · omega
  · obtain rfl := u1.is
    obtain rfl := u2.is
    obtain rfl := u3.is
    obtain rfl := u4.is
    obtain rfl := u5.is
    obtain rfl := u6.is
    have hP : 0 ≤ eOw E (10 * d + p) := by omega
    have f6 : ∀ (b i : Nat), ¬ (b = 126 ∧ 120 ≤ i ∧ i ≤ 125) → mUp (mUp (mUp (mUp (mUp (mUp μ 126 120 (p : Int)) 126 121 100) 126 122 z1) 126 123 0) 126 124 0) 126 125 0 b i = μ b i := fun b i q => by
      rw [mUp.no (by omega), mUp.no (by omega), mUp.no (by omega), mUp.no (by omega), mUp.no (by omega), mUp.no (by omega)]
    refine X12_lookJ_s hw hT ev (gG.fr hG fun b i q1 q2 q3 => f6 b i (by omega)) gG st sn ti tG pa hd hp ho hM (fun b i h1 h2 h3 h4 h5 h6 => f6 b i (by omega)) ?_ k
    rw [newP.own hP, eo]
    have e0 : rtR (mUp (mUp (mUp (mUp (mUp (mUp μ 126 120 (p : Int)) 126 121 100) 126 122 z1) 126 123 0) 126 124 0) 126 125 0) 3 = some ((p : Int), 100, z1, 0, [], []) := by
      have a0 : mUp (mUp (mUp (mUp (mUp (mUp μ 126 120 (p : Int)) 126 121 100) 126 122 z1) 126 123 0) 126 124 0) 126 125 0 126 120 = (p : Int) := by rw [mUp.no (by omega), mUp.no (by omega), mUp.no (by omega), mUp.no (by omega), mUp.no (by omega), mUp.yes ⟨rfl, rfl⟩]
      have a1 : mUp (mUp (mUp (mUp (mUp (mUp μ 126 120 (p : Int)) 126 121 100) 126 122 z1) 126 123 0) 126 124 0) 126 125 0 126 121 = 100 := by rw [mUp.no (by omega), mUp.no (by omega), mUp.no (by omega), mUp.no (by omega), mUp.yes ⟨rfl, rfl⟩]
      have a2 : mUp (mUp (mUp (mUp (mUp (mUp μ 126 120 (p : Int)) 126 121 100) 126 122 z1) 126 123 0) 126 124 0) 126 125 0 126 122 = z1 := by rw [mUp.no (by omega), mUp.no (by omega), mUp.no (by omega), mUp.yes ⟨rfl, rfl⟩]
      have a3 : mUp (mUp (mUp (mUp (mUp (mUp μ 126 120 (p : Int)) 126 121 100) 126 122 z1) 126 123 0) 126 124 0) 126 125 0 126 123 = 0 := by rw [mUp.no (by omega), mUp.no (by omega), mUp.yes ⟨rfl, rfl⟩]
      have a4 : mUp (mUp (mUp (mUp (mUp (mUp μ 126 120 (p : Int)) 126 121 100) 126 122 z1) 126 123 0) 126 124 0) 126 125 0 126 124 = 0 := by rw [mUp.no (by omega), mUp.yes ⟨rfl, rfl⟩]
      have a5 : mUp (mUp (mUp (mUp (mUp (mUp μ 126 120 (p : Int)) 126 121 100) 126 122 z1) 126 123 0) 126 124 0) 126 125 0 126 125 = 0 := by rw [mUp.yes ⟨rfl, rfl⟩]
      rw [rtR.the (r := 3) (by
        show ¬ mUp (mUp (mUp (mUp (mUp (mUp μ 126 120 (p : Int)) 126 121 100) 126 122 z1) 126 123 0) 126 124 0) 126 125 0 126 120 < 0
        rw [a0]
        omega)]
      show some (mUp (mUp (mUp (mUp (mUp (mUp μ 126 120 (p : Int)) 126 121 100) 126 122 z1) 126 123 0) 126 124 0) 126 125 0 126 120, mUp (mUp (mUp (mUp (mUp (mUp μ 126 120 (p : Int)) 126 121 100) 126 122 z1) 126 123 0) 126 124 0) 126 125 0 126 121, mUp (mUp (mUp (mUp (mUp (mUp μ 126 120 (p : Int)) 126 121 100) 126 122 z1) 126 123 0) 126 124 0) 126 125 0 126 122, mUp (mUp (mUp (mUp (mUp (mUp μ 126 120 (p : Int)) 126 121 100) 126 122 z1) 126 123 0) 126 124 0) 126 125 0 126 123, rowL _ (mUp (mUp (mUp (mUp (mUp (mUp μ 126 120 (p : Int)) 126 121 100) 126 122 z1) 126 123 0) 126 124 0) 126 125 0 126 124).toNat, rowL _ (mUp (mUp (mUp (mUp (mUp (mUp μ 126 120 (p : Int)) 126 121 100) 126 122 z1) 126 123 0) 126 124 0) 126 125 0 126 125).toNat) = _
      rw [a0, a1, a2, a3, a4, a5]
      rfl
    exact congrArg _ e0.symm
end LookR
end
section
/-! All prefixes, all domains: the class. -/
theorem forN.inv {α : Type} {f : Nat → α → α} {a : α} {n : Nat} (P : Nat → α → Prop) (h0 : P 0 a) (hs : ∀ i x, i < n → P i x → P (i + 1) (f i x)) : ∀ k, k ≤ n → P k (forN f k a) := by
  intro k
  induction k with
  | zero => exact fun _ => h0
  | succ k ih => exact fun h => hs k _ (by omega) (ih (by omega))
/-- domains that aren't there: they begin nothing, their steps are those of a new one -/
def ubE (E : En) : Prop := ∀ d, eD E ≤ d → (∀ p, p < 10 → eOw E (10 * d + p) = -1) ∧ eSt E d = [1, 2, 3, 4, 5] ∧ eGr E d = 0
def owG (E : En) : Prop := (∀ d p, d < eD E → p < 10 → eOw E (10 * d + p) ≤ 2) ∧ ubE E
/-- beyond what is there, all stays -/
def uS (E : En) (S T : Sn) : Prop := (∀ k, 20 * eT E ≤ k → sHd T k = sHd S k ∧ sSd T k = sSd S k) ∧ ∀ k, 10 * eD E ≤ k → sPk T k = sPk S k
theorem uS.refl {E : En} {S : Sn} : uS E S S := ⟨fun _ _ => ⟨rfl, rfl⟩, fun _ _ => rfl⟩
theorem uS.trans {E : En} {S T U : Sn} (h : uS E S T) (g : uS E T U) : uS E S U := ⟨fun k hk => ⟨(g.1 k hk).1.trans (h.1 k hk).1, (g.1 k hk).2.trans (h.1 k hk).2⟩, fun k hk => (g.2 k hk).trans (h.2 k hk)⟩
def ubS (E : En) (S : Sn) : Prop := (∀ k, 20 * eT E ≤ k → sHd S k = none ∧ sSd S k = (none, -1)) ∧ ∀ k, 10 * eD E ≤ k → sPk S k = (-99999999, none)
theorem ubS.go {E : En} {S T : Sn} (h : ubS E S) (g : uS E S T) : ubS E T := ⟨fun k hk => ⟨(g.1 k hk).1.trans (h.1 k hk).1, (g.1 k hk).2.trans (h.1 k hk).2⟩, fun k hk => (g.2 k hk).trans (h.2 k hk)⟩
theorem sayE.us {E : En} {S : Sn} {t s p : Nat} (ht : t < eT E) (hs : s < 2) (hp : p < 10) : uS E S (sayE E S t s p) := by
  have sb : slt t s p < 20 * eT E := by unfold slt; omega
  unfold sayE
  by_cases hu : eU E t = 0
  · rw [if_pos hu]; exact uS.refl
  · rw [if_neg hu]
    by_cases ho : outE E S t s p = (sSd S (slt t s p)).1
    · rw [cIf.pos ho]; exact uS.refl
    · rw [cIf.neg ho]
      split
      · by_cases hx : ∃ m, (m, 2 * slt t s p + 1) ∈ sQu S
        · rw [cIf.pos hx]; exact uS.refl
        · rw [cIf.neg hx]; exact ⟨fun _ _ => ⟨rfl, rfl⟩, fun _ _ => rfl⟩
      · exact ⟨fun k hk => ⟨rfl, if_neg (by omega)⟩, fun _ _ => rfl⟩
theorem sayD.us {E : En} {S : Sn} {d : Int} {t p : Nat} (ht : t < eT E) (hp : p < 10) : uS E S (sayD E d p t S) := by
  unfold sayD
  by_cases c : sdE E d t < 0
  · rw [if_pos c]; exact uS.refl
  · rw [if_neg c]
    obtain ⟨s, h1, h2, _⟩ := sdE.side c
    rw [h1, Int.toNat_natCast]
    exact sayE.us ht h2 hp
theorem lookE.us {E : En} {S : Sn} {d p : Nat} (hd : d < eD E) (hp : p < 10) : uS E S (lookE E S (d : Int) p) := by
  by_cases c : newP E S (d : Int) p = sPk S (10 * d + p)
  · rw [lookE.same c]; exact uS.refl
  · rw [lookE.new c]
    have g : uS E S (pk! S (10 * d + p) (newP E S (d : Int) p)) := ⟨fun _ _ => ⟨rfl, rfl⟩, fun k hk => if_neg (by omega)⟩
    exact forN.inv (n := eT E) (fun _ T => uS E S T) g (fun i x hi h => h.trans (sayD.us hi hp)) (eT E) (Nat.le_refl _)
def enG (E : En) : Prop := tiG E ∧ thG E ∧ paG E ∧ owG E
/-- in order, and not too many events were made -/
def mdG (E : En) (S : Sn) (n : Int) (T : Sn) : Prop := snG E T ∧ sMd S ≤ sMd T ∧ sMd T ≤ sMd S + n ∧ uS E S T
theorem mdG.refl {E : En} {S : Sn} (h : snG E S) : mdG E S 0 S := ⟨h, Int.le_refl _, by omega, uS.refl⟩
theorem mdG.trans {E : En} {S T U : Sn} {a b : Int} (h : mdG E S a T) (k : mdG E T b U) : mdG E S (a + b) U := ⟨k.1, Int.le_trans h.2.1 k.2.1, by have := h.2.2.1; have := k.2.2.1; omega, h.2.2.2.trans k.2.2.2⟩
theorem mdG.le {E : En} {S T : Sn} {a b : Int} (h : mdG E S a T) (hab : a ≤ b) : mdG E S b T := ⟨h.1, h.2.1, by have := h.2.2.1; omega, h.2.2.2⟩
theorem sayE.cn {E : En} {S : Sn} {t s p : Nat} (sn : snG E S) (en : enG E) (ht : t < eT E) (hs : s < 2) (hp : p < 10) : mdG E S 1 (sayE E S t s p) := ⟨sayE.sn sn en.2.1 en.2.2.1 ht hs hp, sayE.md.1, sayE.md.2, sayE.us ht hs hp⟩
theorem lookE.cn {E : En} {S : Sn} {d p : Nat} (sn : snG E S) (en : enG E) (hd : d < eD E) (hp : p < 10) : mdG E S 20 (lookE E S (d : Int) p) := by
  have h := lookE.sn (d := d) sn en.2.1 en.2.2.1 hd hp (en.2.2.2.1 d p hd hp)
  have t := en.1.2.2.1
  exact ⟨h.1, h.2.1, by have := h.2.2; omega, lookE.us hd hp⟩
theorem lookA.mdN {E : En} {S : Sn} {d : Nat} (sn : snG E S) (en : enG E) (hd : d < eD E) (n : Nat) (hn : n ≤ 10) : mdG E S (20 * (n : Int)) (forN (fun p S => lookE E S (d : Int) p) n S) :=
  forN.inv (n := 10) (fun k T => mdG E S (20 * (k : Int)) T) ((mdG.refl sn).le (by omega)) (fun i x hi h => (h.trans (lookE.cn h.1 en hd hi)).le (by omega)) n hn
theorem sayA.mdN {E : En} {S : Sn} {t s : Nat} (sn : snG E S) (en : enG E) (ht : t < eT E) (hs : s < 2) (n : Nat) (hn : n ≤ 10) : mdG E S (n : Int) (forN (fun p S => sayE E S t s p) n S) :=
  forN.inv (n := 10) (fun k T => mdG E S (k : Int) T) (mdG.refl sn) (fun i x hi h => (h.trans (sayE.cn h.1 en ht hs hi)).le (by omega)) n hn
theorem lookA.cn {E : En} {S : Sn} {d : Nat} (sn : snG E S) (en : enG E) (hd : d < eD E) : mdG E S 200 (lookA E S (d : Int)) := (lookA.mdN sn en hd (eP E) en.1.2.2.2.2).le (by have := en.1.2.2.2.2; omega)
theorem sayA.cn {E : En} {S : Sn} {t s : Nat} (sn : snG E S) (en : enG E) (ht : t < eT E) (hs : s < 2) : mdG E S 10 (sayA E S t s) := (sayA.mdN sn en ht hs (eP E) en.1.2.2.2.2).le (by have := en.1.2.2.2.2; omega)
/-- what a domain says over a tie -/
noncomputable def sayT (E : En) (d : Int) (t : Nat) (S : Sn) : Sn := if sdE E d t < 0 then S else sayA E S t (sdE E d t).toNat
theorem sayT.cn {E : En} {S : Sn} {d : Int} {t : Nat} (sn : snG E S) (en : enG E) (ht : t < eT E) : mdG E S 10 (sayT E d t S) := by
  unfold sayT
  by_cases c : sdE E d t < 0
  · rw [if_pos c]; exact (mdG.refl sn).le (by omega)
  · rw [if_neg c]
    obtain ⟨s, h1, h2, _⟩ := sdE.side c
    rw [h1, Int.toNat_natCast]
    exact sayA.cn sn en ht h2
theorem sayT.mdN {E : En} {S : Sn} {d : Int} (sn : snG E S) (en : enG E) (n : Nat) (hn : n ≤ eT E) : mdG E S (10 * (n : Int)) (forN (sayT E d) n S) :=
  forN.inv (n := eT E) (fun k T => mdG E S (10 * (k : Int)) T) ((mdG.refl sn).le (by omega)) (fun i x hi h => (h.trans (sayT.cn h.1 en hi)).le (by omega)) n hn
theorem lookAA.mdN {E : En} {S : Sn} (sn : snG E S) (en : enG E) (n : Nat) (hn : n ≤ eD E) : mdG E S (200 * (n : Int)) (forN (fun d S => lookA E S (d : Int)) n S) :=
  forN.inv (n := eD E) (fun k T => mdG E S (200 * (k : Int)) T) ((mdG.refl sn).le (by omega)) (fun i x hi h => (h.trans (lookA.cn h.1 en hi)).le (by omega)) n hn
theorem sayTT.mdN {E : En} {S : Sn} (sn : snG E S) (en : enG E) (n : Nat) (hn : n ≤ eD E) : mdG E S (200 * (n : Int)) (forN (fun d S => forN (sayT E (d : Int)) (eT E) S) n S) :=
  forN.inv (n := eD E) (fun k T => mdG E S (200 * (k : Int)) T) ((mdG.refl sn).le (by omega)) (fun i x hi h => (h.trans (sayT.mdN h.1 en (eT E) (Nat.le_refl _))).le (by have := en.1.2.2.1; omega)) n hn
theorem anew.eq {E : En} {S : Sn} : anew E S = forN (fun d S => forN (sayT E (d : Int)) (eT E) S) (eD E) (forN (fun d S => lookA E S (d : Int)) (eD E) S) := rfl
theorem anew.cn {E : En} {S : Sn} (sn : snG E S) (en : enG E) : mdG E S 4000 (anew E S) := by
  have d10 := en.1.2.2.2.1
  have a := lookAA.mdN sn en (eD E) (Nat.le_refl _)
  have b := sayTT.mdN a.1 en (eD E) (Nat.le_refl _)
  exact (a.trans b).le (by omega)
section AllC
variable {w : mW} {μ : mM} {E : En} {S : Sn}
theorem X8_lookAtAll_s {d : Nat} {Q : mM → Prop} (hw : mWF w) (hT : mT w μ) (ev : envC w μ E) (st : snC μ E S) (sn : snG E S) (en : enG E) (hd : d < eD E)
    (k : ∀ m : mM, snC m E (lookA E S (d : Int)) → loC μ m → Q m) : WP_X8_lookAtAll_W w μ (d : Int) Q := by
  have p10 := en.1.2.2.2.2
  refine loopF.im (fun z m => 0 ≤ z ∧ z ≤ (eP E : Int) ∧ loC μ m ∧ snC m E (forN (fun p S => lookE E S (d : Int) p) z.toNat S)) (fun z => (11 - z).toNat) ⟨by omega, by omega, fun _ _ _ _ _ _ _ _ _ => rfl, st⟩ (by omega) ?_
  rintro rc z m ⟨z0, z1, lo, hs⟩ ih z' m' e hz T F n en' hn
  cases e
  have evm := envC.fr hw hT ev (mF.refl.call F rfl)
  rw [evm.2.1] at en'
  subst en'
  refine ⟨fun g => k m (by unfold lookA; rw [show eP E = z.toNat by omega]; exact hs) lo, fun g => ?_⟩
  have snm := (lookA.mdN (d := d) sn en hd z.toNat (by omega)).1
  have key : ∀ L : List Nat, WP_X8_look_W w m (d : Int) ((z.toNat : Nat) : Int) (fun m2 => mT w m2 → mF L w m m2 → rc (z + 1, m2)) := fun L => X8_look_s hw T evm hs snm en.1 en.2.1 en.2.2.1 hd (by omega) fun m2 s2 l2 _ _ => ih _ _ ⟨by omega, by omega, lo.trans l2, by rw [show (z + 1).toNat = z.toNat + 1 by omega]; exact s2⟩ (by omega)
  rw [Int.toNat_of_nonneg z0] at key
  exact key _
theorem X8_sayAll_s {t s : Nat} {Q : mM → Prop} (hw : mWF w) (hT : mT w μ) (ev : envC w μ E) (st : snC μ E S) (sn : snG E S) (en : enG E) (ht : t < eT E) (hs2 : s < 2)
    (k : ∀ m : mM, snC m E (sayA E S t s) → loC μ m → Q m) : WP_X8_sayAll_W w μ (t : Int) (s : Int) Q := by
  have p10 := en.1.2.2.2.2
  refine loopF.im (fun z m => 0 ≤ z ∧ z ≤ (eP E : Int) ∧ loC μ m ∧ snC m E (forN (fun p S => sayE E S t s p) z.toNat S)) (fun z => (11 - z).toNat) ⟨by omega, by omega, fun _ _ _ _ _ _ _ _ _ => rfl, st⟩ (by omega) ?_
  rintro rc z m ⟨z0, z1, lo, hs⟩ ih z' m' e hz T F n en' hn
  cases e
  have evm := envC.fr hw hT ev (mF.refl.call F rfl)
  rw [evm.2.1] at en'
  subst en'
  refine ⟨fun g => k m (by unfold sayA; rw [show eP E = z.toNat by omega]; exact hs) lo, fun g => ?_⟩
  have snm := (sayA.mdN sn en ht hs2 z.toNat (by omega)).1
  have key : ∀ L : List Nat, WP_X8_say_W w m (t : Int) (s : Int) ((z.toNat : Nat) : Int) (fun m2 => mT w m2 → mF L w m m2 → rc (z + 1, m2)) := fun L => X8_say_s hw T evm hs snm en.1 en.2.1 ht hs2 (by omega) (en.2.2.1 t ht) snm.2.2.2.2.2.2.2.1 fun m2 s2 l2 _ _ => ih _ _ ⟨by omega, by omega, lo.trans l2, by rw [show (z + 1).toNat = z.toNat + 1 by omega]; exact s2⟩ (by omega)
  rw [Int.toNat_of_nonneg z0] at key
  exact key _
theorem X8_tellAllAnew_s {Q : mM → Prop} (hw : mWF w) (hT : mT w μ) (ev : envC w μ E) (st : snC μ E S) (sn : snG E S) (en : enG E)
    (k : ∀ m : mM, snC m E (anew E S) → loC μ m → Q m) : WP_X8_tellAllAnew_W w μ Q := by
  have p10 := en.1.2.2.2.2
  have d10 := en.1.2.2.2.1
  have t20 := en.1.2.2.1
  refine loopF.im (fun z m => 0 ≤ z ∧ z ≤ (eD E : Int) ∧ loC μ m ∧ snC m E (forN (fun d S => lookA E S (d : Int)) z.toNat S)) (fun z => (11 - z).toNat) ⟨by omega, by omega, fun _ _ _ _ _ _ _ _ _ => rfl, st⟩ (by omega) ?_
  rintro rc z m ⟨z0, z1, lo, hs⟩ ih z' m' e hz T F n en' hn
  cases e
  have evm := envC.fr hw hT ev (mF.refl.call F rfl)
  rw [evm.2.2.1] at en'
  subst en'
  have snm := (lookAA.mdN sn en z.toNat (by omega)).1
  refine ⟨fun g => ?_, fun g => ?_⟩
  · -- then all say
    rw [show z.toNat = eD E by omega] at hs snm
    refine loopF.im (fun y q => 0 ≤ y ∧ y ≤ (eD E : Int) ∧ loC m q ∧ snC q E (forN (fun d S => forN (sayT E (d : Int)) (eT E) S) y.toNat (forN (fun d S => lookA E S (d : Int)) (eD E) S))) (fun y => (11 - y).toNat) ⟨by omega, by omega, fun _ _ _ _ _ _ _ _ _ => rfl, hs⟩ (by omega) ?_
    rintro rc2 y q ⟨y0, y1, lo2, hs2⟩ ih2 y' q' e hy T2 F2
    cases e
    have ev2 := envC.fr hw T evm (mF.refl.call F2 rfl)
    have sn2 := (sayTT.mdN snm en y.toNat (by omega)).1
    refine ⟨fun g2 => k q (by rw [anew.eq]; rw [show y.toNat = eD E by omega] at hs2; exact hs2) (lo.trans lo2), fun g2 => ?_⟩
    refine loopF.im (fun x r => 0 ≤ x ∧ x ≤ (eT E : Int) ∧ loC q r ∧ snC r E (forN (sayT E ((y.toNat : Nat) : Int)) x.toNat (forN (fun d S => forN (sayT E (d : Int)) (eT E) S) y.toNat (forN (fun d S => lookA E S (d : Int)) (eD E) S)))) (fun x => (21 - x).toNat) ⟨by omega, by omega, fun _ _ _ _ _ _ _ _ _ => rfl, hs2⟩ (by omega) ?_
    rintro rc3 x r ⟨x0, x1, lo3, hs3⟩ ih3 x' r' e hx T3 F3 n3 en3 hn3
    cases e
    have ev3 := envC.fr hw T2 ev2 (mF.refl.call F3 rfl)
    rw [ev3.1] at en3
    subst en3
    have sn3 := (sayT.mdN (d := ((y.toNat : Nat) : Int)) sn2 en x.toNat (by omega)).1
    refine ⟨fun g3 => ih2 _ _ ⟨by omega, by omega, lo2.trans lo3, ?_⟩ (by omega), fun g3 b eb hb => ?_⟩
    · rw [show (y + 1).toNat = y.toNat + 1 by omega]
      rw [show x.toNat = eT E by omega] at hs3
      exact hs3
    have xt : x.toNat < eT E := by omega
    have yc : ((y.toNat : Nat) : Int) = y := by omega
    obtain ⟨a1, a2, _⟩ := ev3.2.2.2.2.1 x.toNat xt
    have eb' : b = tbA r x.toNat := by
      have t1 := (ev3.2.2.2.1.1 x.toNat xt).1
      omega
    subst eb'
    refine X9_sideOf_s ?_
    rw [a1, a2]
    have es : sdI (eA E x.toNat) (eB E x.toNat) y = sdE E ((y.toNat : Nat) : Int) x.toNat := by rw [yc]; rfl
    rw [es]
    intro rs
    have x2 : (x + 1).toNat = x.toNat + 1 := by omega
    refine ⟨fun c => ih3 _ _ ⟨by omega, by omega, lo3, ?_⟩ (by omega), fun c => ?_⟩
    · rw [x2]
      show snC r E (sayT E ((y.toNat : Nat) : Int) x.toNat _)
      unfold sayT
      rw [if_pos c]
      exact hs3
    obtain ⟨s, hs1, hss, _⟩ := sdE.side (show ¬ sdE E ((y.toNat : Nat) : Int) x.toNat < 0 by omega)
    have key : ∀ L : List Nat, WP_X8_sayAll_W w r ((x.toNat : Nat) : Int) (s : Int) (fun m2 => mT w m2 → mF L w r m2 → rc3 (x + 1, m2)) := fun L => X8_sayAll_s hw T3 ev3 hs3 sn3 en xt hss fun m2 s2 l2 _ _ => ih3 _ _ ⟨by omega, by omega, lo3.trans l2, by
      rw [x2]
      show snC m2 E (sayT E ((y.toNat : Nat) : Int) x.toNat _)
      unfold sayT
      rw [if_neg (by omega), hs1, Int.toNat_natCast]
      exact s2⟩ (by omega)
    rw [Int.toNat_of_nonneg x0, ← hs1] at key
    exact key _
  · -- a domain looks
    refine loopF.im (fun y q => 0 ≤ y ∧ y ≤ (eP E : Int) ∧ loC m q ∧ snC q E (forN (fun p S => lookE E S ((z.toNat : Nat) : Int) p) y.toNat (forN (fun d S => lookA E S (d : Int)) z.toNat S))) (fun y => (11 - y).toNat) ⟨by omega, by omega, fun _ _ _ _ _ _ _ _ _ => rfl, hs⟩ (by omega) ?_
    rintro rc2 y q ⟨y0, y1, lo2, hs2⟩ ih2 y' q' e hy T2 F2 n2 en2 hn2
    cases e
    have ev2 := envC.fr hw T evm (mF.refl.call F2 rfl)
    rw [ev2.2.1] at en2
    subst en2
    have sn2 := (lookA.mdN (d := z.toNat) snm en (by omega) y.toNat (by omega)).1
    refine ⟨fun g2 => ih _ _ ⟨by omega, by omega, lo.trans lo2, ?_⟩ (by omega), fun g2 => ?_⟩
    · rw [show (z + 1).toNat = z.toNat + 1 by omega]
      show snC q E (lookA E (forN (fun d S => lookA E S (d : Int)) z.toNat S) ((z.toNat : Nat) : Int))
      unfold lookA
      rw [show y.toNat = eP E by omega] at hs2
      exact hs2
    · have key : ∀ L : List Nat, WP_X8_look_W w q ((z.toNat : Nat) : Int) ((y.toNat : Nat) : Int) (fun m2 => mT w m2 → mF L w q m2 → rc2 (y + 1, m2)) := fun L => X8_look_s hw T2 ev2 hs2 sn2 en.1 en.2.1 en.2.2.1 (by omega) (by omega) fun m2 s2 l2 _ _ => ih2 _ _ ⟨by omega, by omega, lo2.trans l2, by rw [show (y + 1).toNat = y.toNat + 1 by omega]; exact s2⟩ (by omega)
      rw [Int.toNat_of_nonneg z0, Int.toNat_of_nonneg y0] at key
      exact key _
end AllC
end
section
/-! All prefixes, all domains: the reference. -/
section AllR
variable {w : mW} {μ : mM} {E : En} {S : Sn} {G : mM → Prop}
theorem loR.trans {m n : mM} (h : loR μ m) (k : loR m n) : loR μ n := fun i hi => (k i hi).trans (h i hi)
theorem X12_lookAll_s {d : Nat} {Q : mM → Prop} (hw : mWF w) (ev : envR w μ E G) (hG : G μ) (gG : gSt G) (st : snR μ E S) (sn : snG E S) (en : enG E) (hd : d < eD E) (hM : 0 ≤ sMd S ∧ sMd S + 200 < 2147483647)
    (k : ∀ m : mM, snR m E (lookA E S (d : Int)) → G m → loR μ m → Q m) : WP_X12_lookAll_W w μ (d : Int) Q := by
  have p10 := en.1.2.2.2.2
  refine loopF.im (fun z m => 0 ≤ z ∧ z ≤ (eP E : Int) ∧ G m ∧ loR μ m ∧ snR m E (forN (fun p S => lookE E S (d : Int) p) z.toNat S)) (fun z => (11 - z).toNat) ⟨by omega, by omega, hG, fun _ _ => rfl, st⟩ (by omega) ?_
  rintro rc z m ⟨z0, z1, gm, lo, hs⟩ ih z' m' e hz T F n en' hn
  cases e
  have evm := ev.fr hw (mF.refl.call F rfl)
  rw [evm.2.1] at en'
  subst en'
  refine ⟨fun g => k m (by unfold lookA; rw [show eP E = z.toNat by omega]; exact hs) gm lo, fun g => ?_⟩
  have snm := lookA.mdN (d := d) sn en hd z.toNat (by omega)
  have m1 := snm.2.1
  have m2 := snm.2.2
  have key : ∀ L : List Nat, WP_X12_look_W w m (d : Int) ((z.toNat : Nat) : Int) (fun m2 => mT w m2 → mF L w m m2 → rc (z + 1, m2)) := fun L => X12_look_s hw T evm gm gG hs snm.1 en.1 en.2.1 en.2.2.1 hd (by omega) (by omega) fun m2 s2 g2 l2 _ _ => ih _ _ ⟨by omega, by omega, g2, lo.trans l2, by rw [show (z + 1).toNat = z.toNat + 1 by omega]; exact s2⟩ (by omega)
  rw [Int.toNat_of_nonneg z0] at key
  exact key _
theorem sayA.down {t s : Nat} (h : eU E t = 0) : ∀ n, forN (fun p S => sayE E S t s p) n S = S := by
  intro n
  induction n with
  | zero => rfl
  | succ n ih =>
    show sayE E (forN (fun p S => sayE E S t s p) n S) t s n = S
    rw [ih]
    unfold sayE
    rw [if_pos h]
theorem X12_sayAll_s {t s : Nat} {d : Int} {Q : mM → Prop} (hw : mWF w) (ev : envR w μ E G) (hG : G μ) (gG : gSt G) (st : snR μ E S) (sn : snG E S) (en : enG E) (ht : t < eT E) (hs2 : s < 2) (hd : d = eN E t s) (hM : 0 ≤ sMd S ∧ sMd S + 10 < 2147483647)
    (k : ∀ m : mM, snR m E (sayA E S t s) → G m → loR μ m → Q m) : WP_X12_sayAll_W w μ d (t : Int) Q := by
  have p10 := en.1.2.2.2.2
  intro e0 _ _ e1 _ _ n0 _ _
  refine loopF.im (fun z m => 0 ≤ z ∧ z ≤ (eP E : Int) ∧ G m ∧ loR μ m ∧ snR m E (forN (fun p S => sayE E S t s p) z.toNat S)) (fun z => (11 - z).toNat) ⟨by omega, by omega, hG, fun _ _ => rfl, st⟩ (by omega) ?_
  rintro rc z m ⟨z0, z1, gm, lo, hs⟩ ih z' m' e hz T F n en' hn
  cases e
  have evm := ev.fr hw (mF.refl.call F rfl)
  rw [evm.2.1] at en'
  subst en'
  refine ⟨fun g => k m (by unfold sayA; rw [show eP E = z.toNat by omega]; exact hs) gm lo, fun g u eu hu => ?_⟩
  have a3 := (evm.2.2.2.1 t ht).2.2.1
  have eu' : eU E t = u := by
    rw [← eu, ← a3]
    rfl
  have snm := sayA.mdN sn en ht hs2 z.toNat (by omega)
  have m1 := snm.2.1
  have m2 := snm.2.2
  refine ⟨fun q => k m ?_ gm lo, fun q => ?_⟩
  · unfold sayA
    rw [sayA.down (eu'.trans q)]
    rw [sayA.down (eu'.trans q)] at hs
    exact hs
  · have key : ∀ L : List Nat, WP_X12_say_W w m d (t : Int) ((z.toNat : Nat) : Int) (fun m2 => mT w m2 → mF L w m m2 → rc (z + 1, m2)) := fun L => X12_say_s hw T evm gm gG hs snm.1 en.1 ht hs2 hd (by omega) (by rw [eu']; exact q) (by omega) en.2.1 fun m2 s2 g2 l2 _ _ => ih _ _ ⟨by omega, by omega, g2, lo.trans l2, by rw [show (z + 1).toNat = z.toNat + 1 by omega]; exact s2⟩ (by omega)
    rw [Int.toNat_of_nonneg z0] at key
    exact key _
theorem X12_rethink_s {Q : mM → Prop} (hw : mWF w) (ev : envR w μ E G) (hG : G μ) (gG : gSt G) (st : snR μ E S) (sn : snG E S) (en : enG E) (hM : 0 ≤ sMd S ∧ sMd S + 4200 < 2147483647)
    (k : ∀ m : mM, snR m E (anew E S) → G m → loR μ m → Q m) : WP_X12_rethink_W w μ Q := by
  have p10 := en.1.2.2.2.2
  have d10 := en.1.2.2.2.1
  have t20 := en.1.2.2.1
  refine loopF.im (fun z m => 0 ≤ z ∧ z ≤ (eD E : Int) ∧ G m ∧ loR μ m ∧ snR m E (forN (fun d S => lookA E S (d : Int)) z.toNat S)) (fun z => (11 - z).toNat) ⟨by omega, by omega, hG, fun _ _ => rfl, st⟩ (by omega) ?_
  rintro rc z m ⟨z0, z1, gm, lo, hs⟩ ih z' m' e hz T F n en' hn
  cases e
  have evm := ev.fr hw (mF.refl.call F rfl)
  rw [evm.2.2.1] at en'
  subst en'
  have snm := lookAA.mdN sn en z.toNat (by omega)
  have ma := snm.2.1
  have mb := snm.2.2
  refine ⟨fun g => ?_, fun g => ?_⟩
  · rw [show z.toNat = eD E by omega] at hs snm ma mb
    refine loopF.im (fun y q => 0 ≤ y ∧ y ≤ (eD E : Int) ∧ G q ∧ loR m q ∧ snR q E (forN (fun d S => forN (sayT E (d : Int)) (eT E) S) y.toNat (forN (fun d S => lookA E S (d : Int)) (eD E) S))) (fun y => (11 - y).toNat) ⟨by omega, by omega, gm, fun _ _ => rfl, hs⟩ (by omega) ?_
    rintro rc2 y q ⟨y0, y1, gq, lo2, hs2⟩ ih2 y' q' e hy T2 F2
    cases e
    have ev2 := evm.fr hw (mF.refl.call F2 rfl)
    have sn2 := sayTT.mdN snm.1 en y.toNat (by omega)
    have mc := sn2.2.1
    have md := sn2.2.2
    refine ⟨fun g2 => k q (by rw [anew.eq]; rw [show y.toNat = eD E by omega] at hs2; exact hs2) gq (lo.trans lo2), fun g2 => ?_⟩
    refine loopF.im (fun x r => 0 ≤ x ∧ x ≤ (eT E : Int) ∧ G r ∧ loR q r ∧ snR r E (forN (sayT E ((y.toNat : Nat) : Int)) x.toNat (forN (fun d S => forN (sayT E (d : Int)) (eT E) S) y.toNat (forN (fun d S => lookA E S (d : Int)) (eD E) S)))) (fun x => (21 - x).toNat) ⟨by omega, by omega, gq, fun _ _ => rfl, hs2⟩ (by omega) ?_
    rintro rc3 x r ⟨x0, x1, gr, lo3, hs3⟩ ih3 x' r' e hx T3 F3 n3 en3 hn3
    cases e
    have ev3 := ev2.fr hw (mF.refl.call F3 rfl)
    rw [ev3.1] at en3
    subst en3
    have sn3 := sayT.mdN (d := ((y.toNat : Nat) : Int)) sn2.1 en x.toNat (by omega)
    have me := sn3.2.1
    have mf := sn3.2.2
    refine ⟨fun g3 => ih2 _ _ ⟨by omega, by omega, gr, lo2.trans lo3, ?_⟩ (by omega), fun g3 a ea _ b eb _ => ?_⟩
    · rw [show (y + 1).toNat = y.toNat + 1 by omega]
      rw [show x.toNat = eT E by omega] at hs3
      exact hs3
    have xt : x.toNat < eT E := by omega
    have xc : ((x.toNat : Nat) : Int) = x := by omega
    have yc : ((y.toNat : Nat) : Int) = y := by omega
    obtain ⟨a1, a2, _⟩ := ev3.2.2.2.1 x.toNat xt
    have x2 : (x + 1).toNat = x.toNat + 1 := by omega
    refine X12_isAt_s fun v hv rv => ?_
    rw [show (2 * x).toNat = 2 * x.toNat by omega, show (2 * x + 1).toNat = 2 * x.toNat + 1 by omega, a1, a2] at hv
    refine ⟨fun c => ih3 _ _ ⟨by omega, by omega, gr, lo3, ?_⟩ (by omega), fun c => ?_⟩
    · have ns : sdE E ((y.toNat : Nat) : Int) x.toNat < 0 := by
        rw [yc]
        unfold sdE sdI
        rw [if_neg (fun e => by have := hv.mpr (Or.inl e); omega), if_neg (fun e => by have := hv.mpr (Or.inr e); omega)]
        decide
      rw [x2]
      show snR r E (sayT E ((y.toNat : Nat) : Int) x.toNat _)
      unfold sayT
      rw [if_pos ns]
      exact hs3
    · have nn : ¬ sdE E ((y.toNat : Nat) : Int) x.toNat < 0 := by
        rw [yc]
        unfold sdE sdI
        rcases hv.mp (by omega) with e | e
        · rw [if_pos e]; decide
        · by_cases q1 : eA E x.toNat = y
          · rw [if_pos q1]; decide
          · rw [if_neg q1, if_pos e]; decide
      obtain ⟨s, hs1, hss, hd⟩ := sdE.side nn
      have key : ∀ L : List Nat, WP_X12_sayAll_W w r ((y.toNat : Nat) : Int) ((x.toNat : Nat) : Int) (fun m2 => mT w m2 → mF L w r m2 → rc3 (x + 1, m2)) := fun L => X12_sayAll_s hw ev3 gr gG hs3 sn3.1 en xt hss hd (by omega) fun m2 s2 g2 l2 _ _ => ih3 _ _ ⟨by omega, by omega, g2, lo3.trans l2, by
        rw [x2]
        show snR m2 E (sayT E ((y.toNat : Nat) : Int) x.toNat _)
        unfold sayT
        rw [if_neg nn, hs1, Int.toNat_natCast]
        exact s2⟩ (by omega)
      rw [xc, yc] at key
      exact key _
  · have key : ∀ L : List Nat, WP_X12_lookAll_W w m ((z.toNat : Nat) : Int) (fun m2 => mT w m2 → mF L w m m2 → rc (z + 1, m2)) := fun L => X12_lookAll_s hw evm gm gG hs snm.1 en (by omega) (by omega) fun m2 s2 g2 l2 _ _ => ih _ _ ⟨by omega, by omega, g2, lo.trans l2, by rw [show (z + 1).toNat = z.toNat + 1 by omega]; exact s2⟩ (by omega)
    rw [Int.toNat_of_nonneg z0] at key
    exact key _
end AllR
end
