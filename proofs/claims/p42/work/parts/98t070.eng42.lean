/-! The class goes through policies. -/
theorem vC.cg {μ m : mM} {p n d k : Int} (h : ∀ b i, (7 ≤ b ∧ b ≤ 9) ∨ (14 ≤ b ∧ b ≤ 20) → m b i = μ b i) (h17 : m 6 17 = μ 6 17) : vC m p n d k = vC μ p n d k := by
  have e : ∀ b, (7 ≤ b ∧ b ≤ 9) ∨ (14 ≤ b ∧ b ≤ 20) → m b = μ b := fun b hb => funext fun i => h b i hb
  have ea : apC m p d k = apC μ p d k := by
    funext r
    unfold apC
    rw [e 17 (by omega), e 18 (by omega), e 19 (by omega), e 20 (by omega), e 8 (by omega), e 14 (by omega), e 7 (by omega), e 9 (by omega)]
  have eo : okC m p n = okC μ p n := by
    funext r
    unfold okC
    rw [e 16 (by omega), e 8 (by omega), e 15 (by omega)]
  unfold vC
  rw [ea, eo, h17]
theorem jgC.fr {w : mW} {μ m : mM} {J : Ju} (hw : mWF w) (h : jgC w μ J) (F : mF lLC w μ m) : jgC w m J := by
  obtain ⟨h1, h2, h3⟩ := h
  have n8 : m 21 8 = μ 21 8 := F.f (A_21 hw) rfl rfl
  refine ⟨fun p hp => ?_, fun i hi => ?_, fun x n h0 h9 => ?_⟩
  · rw [n8] at hp
    obtain ⟨b, eb, c, cp, cn, cf, cl, ⟨⟨A0, A1, A2, A3, A4, A5⟩, x1, x2, x3, x4, x5⟩, hl, hr, hm, hk⟩ := h1 p hp
    have fc : m c = μ c := funext fun i => F.f A1 rfl rfl
    have ff : m cf = μ cf := funext fun i => F.f A4 rfl rfl
    have fl : m cl = μ cl := funext fun i => F.f A5 rfl rfl
    exact ⟨b, F.f (A_22 hw) rfl eb, c, cp, cn, cf, cl, ⟨⟨A0, A1, A2, A3, A4, A5⟩, F.f A0 rfl x1, F.f A0 rfl x2, F.f A0 rfl x3, F.f A0 rfl x4, F.f A0 rfl x5⟩, F.f A0 rfl hl, by rw [fc, ff, fl]; exact hr, hm, fun k hk' => ⟨⟨F.f A2 rfl (hk k hk').1.1, by rw [F.f A3 rfl (rfl : μ cn k = μ cn k)]; exact (hk k hk').1.2⟩, (hk k hk').2⟩⟩
  · exact ⟨F.f (A_7 hw) rfl (h2 i hi).1, F.f (A_8 hw) rfl (h2 i hi).2⟩
  · have e18 : m 6 18 = μ 6 18 := F.f (A_6 hw) rfl rfl
    rw [e18, ← h3 x n h0 h9]
    refine vC.cg (fun b i hb => ?_) (F.f (A_6 hw) rfl rfl)
    have hb' : b = 7 ∨ b = 8 ∨ b = 9 ∨ b = 14 ∨ b = 15 ∨ b = 16 ∨ b = 17 ∨ b = 18 ∨ b = 19 ∨ b = 20 := by omega
    rcases hb' with e | e | e | e | e | e | e | e | e | e
    · subst e; exact F.f (A_7 hw) rfl rfl
    · subst e; exact F.f (A_8 hw) rfl rfl
    · subst e; exact F.f (A_9 hw) rfl rfl
    · subst e; exact F.f (A_14 hw) rfl rfl
    · subst e; exact F.f (A_15 hw) rfl rfl
    · subst e; exact F.f (A_16 hw) rfl rfl
    · subst e; exact F.f (A_17 hw) rfl rfl
    · subst e; exact F.f (A_18 hw) rfl rfl
    · subst e; exact F.f (A_19 hw) rfl rfl
    · subst e; exact F.f (A_20 hw) rfl rfl
def lJC : List Nat := [21006, 21007, 200004, 200006, 200007, 200008, 201999, 202999]
/-- what the judge reads while it goes through: the route lies at a, judged at d, partner q -/
def jnC (w : mW) (μ : mM) (J : Ju) (a : Nat) (d q : Int) : Prop := jgC w μ J ∧ mAt w a 200 ∧ (¬ a = 21 ∧ ¬ a + 1 = 21 ∧ ¬ a + 2 = 21) ∧ μ 21 2 = (a : Int) ∧ μ 21 3 = d ∧ μ 21 4 = q ∧ μ 21 5 = jR J d q
theorem jnC.fr {w : mW} {μ m : mM} {J : Ju} {a : Nat} {d q : Int} (hw : mWF w) (h : jnC w μ J a d q) (F : mF lJC w μ m) : jnC w m J a d q := ⟨h.1.fr hw (mF.refl.call F rfl), h.2.1, h.2.2.1, F.f (A_21 hw) rfl h.2.2.2.1, F.f (A_21 hw) rfl h.2.2.2.2.1, F.f (A_21 hw) rfl h.2.2.2.2.2.1, F.f (A_21 hw) rfl h.2.2.2.2.2.2⟩
def frJd (μ m : mM) (a : Nat) : Prop := ∀ b i, ¬ (b = a ∧ i ≤ 8) → ¬ b = a + 1 → ¬ b = a + 2 → ¬ (b = 21 ∧ 6 ≤ i ∧ i ≤ 7) → m b i = μ b i
theorem frJd.refl {μ : mM} {a : Nat} : frJd μ μ a := fun _ _ _ _ _ _ => rfl
theorem frJd.trans {μ m n : mM} {a : Nat} (h : frJd μ m a) (k : frJd m n a) : frJd μ n a := fun b i h0 h1 h2 h3 => (k b i h0 h1 h2 h3).trans (h b i h0 h1 h2 h3)
/-- how it stands: open, let or barred; acts done; the route -/
def jsC (m : mM) (a : Nat) (e : Je) : Prop := m 21 7 = e.1 ∧ m 21 6 = e.2.1 ∧ rtC m a = some e.2.2 ∧ srt (mOf e.2.2)
theorem rtC.cost {m : mM} {a : Nat} {v : Int} {x : Rt} (h : rtC m a = some x) : rtC (mUp m a 6 v) a = some (rtCost x v) := by
  obtain ⟨g, e⟩ := rtC.get h
  rw [rtC.the (by rw [mUp.no (by omega)]; exact g), mUp.no (by omega), mUp.no (by omega), mUp.no (by omega), mUp.yes ⟨rfl, rfl⟩, mUp.no (by omega), mUp.no (by omega), e, rowL.ext (f := m (a + 1)) (fun i _ => mUp.no (by omega)), rowL.ext (f := m (a + 2)) (fun i _ => mUp.no (by omega))]
  rfl
theorem rtC.mks {m m1 : mM} {a : Nat} {x : Rt} {l : List Int} (h : rtC m a = some x) (hl : rowL (m1 (a + 2)) (m1 a 8).toNat = l) (f : ∀ b i, ¬ (b = a ∧ i = 8) → ¬ b = a + 2 → m1 b i = m b i) : rtC m1 a = some (rtMks x l) := by
  obtain ⟨g, e⟩ := rtC.get h
  rw [rtC.the (by rw [f _ _ (by omega) (by omega)]; exact g), hl, f a 3 (by omega) (by omega), f a 4 (by omega) (by omega), f a 5 (by omega) (by omega), f a 6 (by omega) (by omega), f a 7 (by omega) (by omega), rowL.ext (f := m (a + 1)) (fun i _ => f (a + 1) i (by omega) (by omega)), e]
  rfl
section ActS
variable {g : Int → Js → Je} {a : Act} {s : Js}
theorem actS.a23 (h : a.1 = 23) : actS g a s = (1, s) := by unfold actS; rw [if_pos h]
theorem actS.a24 (h : a.1 = 24) : actS g a s = (2, s) := by unfold actS; rw [if_neg (by omega), if_pos h]
theorem actS.a25 (h : a.1 = 25) : actS g a s = (0, s.1, rtMks s.2 (addM (mOf s.2) a.2)) := by unfold actS; rw [if_neg (by omega), if_neg (by omega), if_pos h]
theorem actS.a26 (h : a.1 = 26) : actS g a s = (0, s.1, rtMks s.2 (dropM (mOf s.2) a.2)) := by unfold actS; rw [if_neg (by omega), if_neg (by omega), if_neg (by omega), if_pos h]
theorem actS.a12 (h : a.1 = 12) : actS g a s = (0, s.1, rtWish s.2 a.2) := by unfold actS; rw [if_neg (by omega), if_neg (by omega), if_neg (by omega), if_neg (by omega), if_pos h]
theorem actS.a13 (h : a.1 = 13) : actS g a s = (0, s.1, rtCost s.2 a.2) := by unfold actS; rw [if_neg (by omega), if_neg (by omega), if_neg (by omega), if_neg (by omega), if_neg (by omega), if_pos h]
theorem actS.a27 (h : a.1 = 27) : actS g a s = (match moreR s.2 a.2 with | none => (2, s) | some r => (0, s.1, r)) := by unfold actS; rw [if_neg (by omega), if_neg (by omega), if_neg (by omega), if_neg (by omega), if_neg (by omega), if_neg (by omega)]; exact if_pos h
theorem actS.a28 (h : a.1 = 28) : actS g a s = g a.2 s := by unfold actS; rw [if_neg (by omega), if_neg (by omega), if_neg (by omega), if_neg (by omega), if_neg (by omega), if_neg (by omega), if_neg (by omega), if_pos h]
theorem actS.ot (h : ¬ a.1 = 12 ∧ ¬ a.1 = 13 ∧ ¬ (23 ≤ a.1 ∧ a.1 ≤ 28)) : actS g a s = (0, s) := by unfold actS; rw [if_neg (by omega), if_neg (by omega), if_neg (by omega), if_neg (by omega), if_neg (by omega), if_neg (by omega), if_neg (by omega), if_neg (by omega)]
theorem actS.m27 {r : Rt} (h : a.1 = 27) (e : moreR s.2 a.2 = some r) : actS g a s = (0, s.1, r) := by rw [actS.a27 h, e]
theorem actS.n27 (h : a.1 = 27) (e : moreR s.2 a.2 = none) : actS g a s = (2, s) := by rw [actS.a27 h, e]
end ActS
theorem moreR.nil {r : Rt} {n : Int} (h : wOf r = []) : moreR r n = some r := by unfold moreR; rw [h]
theorem moreR.far {r : Rt} {n : Int} (h : ¬ wOf r = []) (h2 : 20 < ((wOf r).length : Int) + n) : moreR r n = none := by
  unfold moreR
  cases e : wOf r with
  | nil => exact absurd e h
  | cons x l => rw [e] at h2; exact if_pos h2
theorem moreR.go {r : Rt} {n x : Int} {l : List Int} (h : wOf r = x :: l) (h2 : ¬ 20 < ((wOf r).length : Int) + n) : moreR r n = some (rtWay r (List.replicate n.toNat x ++ wOf r)) := by
  unfold moreR
  rw [h] at h2 ⊢
  exact if_neg h2
def roK (k : Int) (s : Nat) : Int := if k = 1 then 2 else if k = 2 then 3 else if s = 0 then 0 else 1
section GoC
variable {w : mW} {μ : mM}
theorem X9_partnerRole_s {a s : Nat} {Q : Int → mM → Prop} (k : Q (roK (μ a 2) s) μ) : WP_X9_partnerRole_W w μ a (s : Int) Q := by
  intro z ez rz
  unfold roK at k
  rw [ez] at k
  refine ⟨fun c => ⟨fun c2 => ⟨fun c3 => ?_, fun c3 => ?_⟩, fun c2 => ?_⟩, fun c => ?_⟩
  · rw [if_neg c, if_neg c2, if_neg (by omega)] at k; exact k
  · rw [if_neg c, if_neg c2, if_pos (by omega)] at k; exact k
  · rw [if_neg c, if_pos c2] at k; exact k
  · rw [if_pos c] at k; exact k
theorem X1_doActs_11_s {J : Ju} {a c pos : Nat} {d q pI p3 p4 : Int} {al : List Act} {s : Js} {Q : mM → Prop} (hw : mWF w) (ok : jOk J) (jn : jnC w μ J a d q) (hc : mAt w c 231) (hpos : pI = (pos : Int)) (ha : acC (μ c) pos al) (hn : p3 = (al.length : Int)) (hk : ∀ x ∈ al, (x.1 = 27 → 1 ≤ x.2) ∧ (x.1 = 28 → 0 ≤ x.2 ∧ x.2 + (12) ≤ 11 ∧ x.2 < μ 21 8)) (js : jsC μ a (0, s))
    (k : ∀ m : mM, jsC m a (doA (gpJ J d q 12) al s) → frJd μ m a → Q m) : WP_X1_doActs_W11 w μ c pI p3 p4 Q := by
  subst hpos
  have c21 : c ≠ 21 := mAt.ne (A_21 hw) hc rfl
  intro n en rn
  refine loopF.im (fun i m => ∃ (pre rest : List Act) (e : Je), al = pre ++ rest ∧ i = (pre.length : Int) ∧ acC (μ c) (pos + 2 * pre.length) rest ∧ jsC m a e ∧ frJd μ m a ∧ doA (gpJ J d q 12) al s = (if e.1 = 0 then doA (gpJ J d q 12) rest e.2 else e)) (fun i => (1001 - i).toNat) ⟨[], al, (0, s), rfl, rfl, ha, js, frJd.refl, (if_pos rfl).symm⟩ (by omega) ?_
  rintro rc i m ⟨pre, rest, e, h1, h2, h3, h4, h5, h6⟩ ih i' m' ee ri T F
  cases ee
  subst h2
  have jm := jn.fr hw F
  have cm : m c = μ c := funext fun j => F.f hc rfl rfl
  have n8 : m 21 8 = μ 21 8 := F.f (A_21 hw) rfl rfl
  have fin : rest = [] ∨ ¬ e.1 = 0 → Q m := fun h => k m (by
    have E : doA (gpJ J d q 12) al s = e := by
      rw [h6]
      by_cases c0 : e.1 = 0
      · rw [if_pos c0]
        rcases h with h | h
        · rw [h]; exact Prod.ext c0.symm rfl
        · exact absurd c0 h
      · rw [if_neg c0]
    rw [E]; exact h4) h5
  have len : al.length = pre.length + rest.length := by rw [h1, List.length_append]
  refine ⟨fun g => fin (Or.inl ?_), fun g z ez rz => ⟨fun h => fin (Or.inr ?_), fun h num enum rnum cnt ecnt rcnt => ?_⟩⟩
  · cases rest with
    | nil => rfl
    | cons x l => rw [List.length_cons] at len; omega
  · have := h4.1
    omega
  cases rest with
  | nil => exfalso; have len : al.length = pre.length + 0 := len; omega
  | cons x l =>
  obtain ⟨⟨f1, f2⟩, f3⟩ := h3
  have xin : x ∈ al := by rw [h1]; exact List.mem_append_right _ List.mem_cons_self
  rw [show ((pos : Int) + (pre.length : Int) * 2 + 1).toNat = pos + 2 * pre.length + 1 by omega, cm, f2] at enum
  subst enum
  have e0 : e.1 = 0 := by have := h4.1; omega
  have c1 : e.2.1 = cnt := by have := h4.2.1; omega
  rw [if_pos e0] at h6
  have st : doA (gpJ J d q 12) (x :: l) e.2 = (if 500 ≤ e.2.1 then (2, e.2) else if (actS (gpJ J d q 12) x (e.2.1 + 1, e.2.2)).1 = 0 then doA (gpJ J d q 12) l (actS (gpJ J d q 12) x (e.2.1 + 1, e.2.2)).2 else actS (gpJ J d q 12) x (e.2.1 + 1, e.2.2)) := rfl
  have a21 := jn.2.2.1
  have rtU : ∀ (i : Nat) (v : Int), rtC (mUp m 21 i v) a = rtC m a := fun i v => rtC.of (fun _ => mUp.no (by omega)) (fun _ => mUp.no (by omega)) (fun _ => mUp.no (by omega))
  refine ⟨fun q0 m2 u2 T2 kd ekd rkd => ?_, fun q0 m2 u2 T2 => ?_⟩
  rotate_left 1
  · obtain rfl := u2.is
    refine k _ ?_ (h5.trans fun b i g0 g1 g2 g3 => mUp.no (by omega))
    rw [h6, st, if_pos (by omega)]
    exact ⟨mUp.yes ⟨rfl, rfl⟩, by rw [mUp.no (by omega)]; exact h4.2.1, by rw [rtU]; exact h4.2.2.1, h4.2.2.2⟩
  obtain rfl := u2.is
  rw [show ((pos : Int) + (pre.length : Int) * 2).toNat = pos + 2 * pre.length by omega, mUp.no (by omega), cm, f1] at ekd
  subst ekd
  have j2 : jsC (mUp m 21 6 (cnt + 1)) a (0, e.2.1 + 1, e.2.2) := ⟨by rw [mUp.no (by omega)]; exact h4.1.trans e0, by rw [mUp.yes ⟨rfl, rfl⟩, c1], by rw [rtU]; exact h4.2.2.1, h4.2.2.2⟩
  have r2 : mUp m 21 6 (cnt + 1) 21 2 = (a : Int) := by rw [mUp.no (by omega)]; exact jm.2.2.2.1
  have nx : ∀ m3 : mM, jsC m3 a (actS (gpJ J d q 12) x (e.2.1 + 1, e.2.2)) → frJd (mUp m 21 6 (cnt + 1)) m3 a → rc ((pre.length : Int) + 1, m3) := fun m3 j3 fr3 => ih _ _ ⟨pre ++ [x], l, _, by rw [h1, List.append_assoc]; rfl, by rw [List.length_append, List.length_singleton]; omega, by
    rw [List.length_append, List.length_singleton, show pos + 2 * (pre.length + 1) = pos + 2 * pre.length + 2 by omega]
    exact f3, j3, (h5.trans fun b i g0 g1 g2 g3 => mUp.no (by omega)).trans fr3, by rw [h6, st, if_neg (by omega)]⟩ (by omega)
  have oth : (¬ x.1 = 12 ∧ ¬ x.1 = 13 ∧ ¬ (23 ≤ x.1 ∧ x.1 ≤ 28)) → rc ((pre.length : Int) + 1, mUp m 21 6 (cnt + 1)) := fun h => nx _ (by rw [actS.ot h]; exact j2) frJd.refl
  obtain ⟨gg, er⟩ := rtC.get j2.2.2.1
  have wyr : rowL (mUp m 21 6 (cnt + 1) (a + 1)) (mUp m 21 6 (cnt + 1) a 7).toNat = wOf e.2.2 := by
    have := congrArg wOf er
    exact this.symm
  have mkr : rowL (mUp m 21 6 (cnt + 1) (a + 2)) (mUp m 21 6 (cnt + 1) a 8).toNat = mOf e.2.2 := by
    have := congrArg mOf er
    exact this.symm
  refine ⟨fun g b2 eb2 _ m3 u3 T3 => ?_, fun n12 => ⟨fun g b2 eb2 _ m3 u3 T3 => ?_, fun n13 => ⟨fun g => oth (by omega), fun n14 => ⟨fun g => oth (by omega), fun n15 => ⟨fun g => oth (by omega), fun n16 => ⟨fun g => oth (by omega), fun n17 => ⟨fun g => oth (by omega), fun n18 => ⟨fun g => oth (by omega), fun n19 => ⟨fun g => oth (by omega), fun n20 => ⟨fun g => oth (by omega), fun n21 => ⟨fun g => oth (by omega), fun n22 => ⟨fun g m3 u3 T3 => ?_, fun n23 => ⟨fun g m3 u3 T3 => ?_, fun n24 => ⟨fun g b2 eb2 _ => ?_, fun n25 => ⟨fun g b2 eb2 _ => ?_, fun n26 => ⟨fun g b2 eb2 _ z7 ez7 rz7 => ?_, fun n27 => ⟨fun g => ?_, fun n28 => oth (by omega)⟩⟩⟩⟩⟩⟩⟩⟩⟩⟩⟩⟩⟩⟩⟩⟩⟩
  · have e2 : a = b2 := by omega
    subst e2
    obtain rfl := u3.is
    refine nx _ ?_ (fun b i g0 g1 g2 g3 => mUp.no (by omega))
    rw [actS.a12 g]
    exact ⟨by rw [mUp.no (by omega)]; exact j2.1, by rw [mUp.no (by omega)]; exact j2.2.1, rtC.wish j2.2.2.1, j2.2.2.2⟩
  · have e2 : a = b2 := by omega
    subst e2
    obtain rfl := u3.is
    refine nx _ ?_ (fun b i g0 g1 g2 g3 => mUp.no (by omega))
    rw [actS.a13 g]
    exact ⟨by rw [mUp.no (by omega)]; exact j2.1, by rw [mUp.no (by omega)]; exact j2.2.1, rtC.cost j2.2.2.1, j2.2.2.2⟩
  · obtain rfl := u3.is
    refine nx _ ?_ (fun b i g0 g1 g2 g3 => mUp.no (by omega))
    rw [actS.a23 g]
    exact ⟨mUp.yes ⟨rfl, rfl⟩, by rw [mUp.no (by omega)]; exact j2.2.1, by rw [rtC.of (fun _ => mUp.no (by omega)) (fun _ => mUp.no (by omega)) (fun _ => mUp.no (by omega))]; exact j2.2.2.1, j2.2.2.2⟩
  · obtain rfl := u3.is
    refine nx _ ?_ (fun b i g0 g1 g2 g3 => mUp.no (by omega))
    rw [actS.a24 g]
    exact ⟨mUp.yes ⟨rfl, rfl⟩, by rw [mUp.no (by omega)]; exact j2.2.1, by rw [rtC.of (fun _ => mUp.no (by omega)) (fun _ => mUp.no (by omega)) (fun _ => mUp.no (by omega))]; exact j2.2.2.1, j2.2.2.2⟩
  · have e2 : a = b2 := by omega
    subst e2
    refine X7_addMark_s (by rw [mkr]; exact j2.2.2.2) fun m3 rm f3 _ _ => nx m3 ?_ (fun b i g0 g1 g2 g3 => f3 b i (by omega) g2)
    rw [actS.a25 g]
    rw [mkr] at rm
    exact ⟨by rw [f3 _ _ (by omega) (by omega)]; exact j2.1, by rw [f3 _ _ (by omega) (by omega)]; exact j2.2.1, rtC.mks j2.2.2.1 rm f3, addM.srt j2.2.2.2⟩
  · have e2 : a = b2 := by omega
    subst e2
    refine X7_dropMark_s fun m3 rm f3 _ _ => nx m3 ?_ (fun b i g0 g1 g2 g3 => f3 b i (by omega) g2)
    rw [actS.a26 g]
    rw [mkr] at rm
    exact ⟨by rw [f3 _ _ (by omega) (by omega)]; exact j2.1, by rw [f3 _ _ (by omega) (by omega)]; exact j2.2.1, rtC.mks j2.2.2.1 rm f3, dropM.srt j2.2.2.2⟩
  · have e2 : a = b2 := by omega
    subst e2
    have x27 := (hk x xin).1 g
    have wl : ((wOf e.2.2).length : Int) = z7 := by rw [← wyr, rowL.len, ez7, Int.toNat_of_nonneg rz7.1]
    refine ⟨fun c0 _ _ => nx _ ?_ frJd.refl, fun c0 v ev rv => ?_⟩
    · have wn : wOf e.2.2 = [] := List.eq_nil_of_length_eq_zero (by omega)
      rw [actS.m27 (s := (e.2.1 + 1, e.2.2)) g (moreR.nil (r := e.2.2) wn)]
      exact j2
    have wc : wOf e.2.2 = v :: rowL (fun i => mUp m 21 6 (cnt + 1) (a + 1) (i + 1)) (z7.toNat - 1) := by
      rw [← wyr, ez7, show z7.toNat = (z7.toNat - 1) + 1 by omega, rowL.head, ← ev]
      rfl
    refine X7_putInFront_s (fun h0 _ _ _ => ⟨fun h => absurd rfl h, fun _ m4 u4 T4 _ _ => ?_⟩) fun m3 t0 t1 t2 e7 w1 w2 f3 _ _ _ => ⟨fun _ _ _ => nx m3 ?_ (fun b i g0 g1 g2 g3 => f3 b i (by omega) g1), fun h => absurd h (by decide)⟩
    · obtain rfl := u4.is
      refine nx _ ?_ (fun b i g0 g1 g2 g3 => mUp.no (by omega))
      rw [actS.n27 (s := (e.2.1 + 1, e.2.2)) g (moreR.far (r := e.2.2) (by rw [wc]; exact fun h => by cases h) (by omega))]
      exact ⟨mUp.yes ⟨rfl, rfl⟩, by rw [mUp.no (by omega)]; exact j2.2.1, by rw [rtC.of (fun _ => mUp.no (by omega)) (fun _ => mUp.no (by omega)) (fun _ => mUp.no (by omega))]; exact j2.2.2.1, j2.2.2.2⟩
    · rw [actS.m27 (s := (e.2.1 + 1, e.2.2)) g (moreR.go (r := e.2.2) wc (by omega))]
      exact ⟨by rw [f3 _ _ (by omega) (by omega)]; exact j2.1, by rw [f3 _ _ (by omega) (by omega)]; exact j2.2.1, rtC.front j2.2.2.1 t0 t1 e7 w1 w2 f3, j2.2.2.2⟩
  · have x28 := (hk x xin).2 g
    exact absurd x28.2.1 (by omega)
theorem X1_goThrough_11_s {J : Ju} {a : Nat} {d q p p2 : Int} {s : Js} {Q : mM → Prop} (hw : mWF w) (ok : jOk J) (jn : jnC w μ J a d q) (h0 : 0 ≤ p) (hD : p + (11) ≤ 11) (hp : p < μ 21 8) (js : jsC μ a (0, s))
    (k : ∀ m : mM, jsC m a (gpJ J d q 12 p s) → frJd μ m a → Q m) : WP_X1_goThrough_W11 w μ p p2 Q := by
  refine ⟨fun g => absurd g (by omega), fun _ n en rn => ⟨fun g => absurd g (by omega), fun _ b eb _ c ec rows er => ?_⟩⟩
  obtain ⟨b', eb', c', cp, cn, cf, cl, hA, hl, hr, hN⟩ := jn.1.1 p.toNat (by omega)
  rw [Int.toNat_of_nonneg h0] at hl hr hN
  have e1 : b' = b := by omega
  subst e1
  have e2 : c' = c := by have := hA.2.1; omega
  subst e2
  rw [hl] at er
  have RES := gpJ.eq (d := d) (q := q) (s := s) ok h0 (show p < 12 by omega)
  refine loopF.iim (fun at_ row m => 0 ≤ row ∧ frJd μ m a ∧ ∃ (l : List Rw) (e : Je), row + (l.length : Int) = ((jP J p).1.length : Int) ∧ 0 ≤ at_ ∧ (∀ x ∈ l, x ∈ (jP J p).1) ∧ rwsC (w.2.2.1 cf) (μ c') (μ cf) (μ cl) at_.toNat l ∧ jsC m a e ∧ gpJ J d q 12 p s = (if e.1 = 0 then goR (gpJ J d q 12) (tsT J p d q) l e.2 else e)) (fun _ row => (31 - row).toNat) ⟨by omega, frJd.refl, (jP J p).1, (0, s), by omega, by omega, fun _ h => h, hr, js, RES.trans (if_pos rfl).symm⟩ (by omega) ?_
  rintro rc at_ row m ⟨r0, fr, l, e, h1, h2, hin, h3, h4, h5⟩ ih at' row' m' ee hat hrow T F
  cases ee
  have jm := jn.fr hw F
  have cm : m c' = μ c' := funext fun j => F.f hA.1.2.1 rfl rfl
  have fm : m cf = μ cf := funext fun j => F.f hA.1.2.2.2.2.1 rfl rfl
  have lm : m cl = μ cl := funext fun j => F.f hA.1.2.2.2.2.2 rfl rfl
  have hAm : plA w m b' c' cp cn cf cl := ⟨hA.1, F.f hA.1.1 rfl hA.2.1, F.f hA.1.1 rfl hA.2.2.1, F.f hA.1.1 rfl hA.2.2.2.1, F.f hA.1.1 rfl hA.2.2.2.2.1, F.f hA.1.1 rfl hA.2.2.2.2.2⟩
  have hNm : plN w m cp cn (jP J p) := ⟨hN.1, fun k hk => ⟨⟨F.f hA.1.2.2.1 rfl (hN.2 k hk).1.1, by rw [F.f hA.1.2.2.2.1 rfl (rfl : μ cn k = μ cn k)]; exact (hN.2 k hk).1.2⟩, (hN.2 k hk).2⟩⟩
  have n8 : m 21 8 = μ 21 8 := F.f (A_21 hw) rfl rfl
  have fin : l = [] ∨ ¬ e.1 = 0 → Q m := fun h => k m (by
    have E : gpJ J d q 12 p s = e := by
      rw [h5]
      by_cases c0 : e.1 = 0
      · rw [if_pos c0]
        rcases h with h | h
        · rw [h]; exact Prod.ext c0.symm rfl
        · exact absurd c0 h
      · rw [if_neg c0]
    rw [E]; exact h4) fr
  refine ⟨fun g => fin (Or.inl ?_), fun g z ez rz => ⟨fun h => fin (Or.inr ?_), fun h n2 _ _ T1 eT1 _ A1 eA1 _ => ?_⟩⟩
  · cases l with
    | nil => rfl
    | cons x l => rw [List.length_cons] at h1; omega
  · have := h4.1
    omega
  cases l with
  | nil => exfalso; have h1 : row + ((0 : Nat) : Int) = ((jP J p).1.length : Int) := h1; omega
  | cons x l =>
  rw [List.length_cons] at h1
  obtain ⟨⟨f1, f2⟩, f3, f4, f5⟩ := h3
  rw [cm, f1] at eT1
  rw [cm, show (at_ + 1).toNat = at_.toNat + 1 by omega, f2] at eA1
  subst eT1 eA1
  have e0 : e.1 = 0 := by have := h4.1; omega
  rw [if_pos e0] at h5
  have xin := hin x List.mem_cons_self
  have xok := ok p h0 x xin
  have st : goR (gpJ J d q 12) (tsT J p d q) (x :: l) e.2 = cIf (∀ t ∈ x.1, tsT J p d q t e.2.2) (if (doA (gpJ J d q 12) x.2 e.2).1 = 0 then goR (gpJ J d q 12) (tsT J p d q) l (doA (gpJ J d q 12) x.2 e.2).2 else doA (gpJ J d q 12) x.2 e.2) (goR (gpJ J d q 12) (tsT J p d q) l e.2) := rfl
  have j0 : jsC m a (0, e.2) := ⟨h4.1.trans e0, h4.2⟩
  have f5' : rwsC (w.2.2.1 cf) (μ c') (μ cf) (μ cl) (at_ + 2 + (x.1.length : Int) * 5 + (x.2.length : Int) * 2).toNat l := by
    rw [show (at_ + 2 + (x.1.length : Int) * 5 + (x.2.length : Int) * 2).toNat = at_.toNat + 2 + 5 * x.1.length + 2 * x.2.length by omega]
    exact f5
  have J3 : ∀ so : Int, (so = 0 → ¬ ∀ t ∈ x.1, tsT J p d q t e.2.2) → (¬ so = 0 → ∀ t ∈ x.1, tsT J p d q t e.2.2) → WJ_X1_goThrough_W11_3 w p2 c' rc at_ row m (x.1.length : Int) (x.2.length : Int) so := by
    intro so n0 n1
    refine ⟨fun c0 => ih _ _ _ ⟨by omega, fr, l, e, by omega, by omega, fun y hy => hin y (List.mem_cons_of_mem _ hy), f5', h4, ?_⟩ (by omega), fun c0 => ?_⟩
    · rw [if_pos e0, h5, st, cIf.neg (n0 c0)]
    · refine X1_doActs_11_s (pos := at_.toNat + 2 + 5 * x.1.length) (al := x.2) hw ok jm hA.1.2.1 (by omega) (by rw [cm]; exact f4) rfl (fun y hy => ?_) j0 fun m2 j2 fr2 _ _ => ih _ _ _ ⟨by omega, fr.trans fr2, l, _, by omega, by omega, fun y hy => hin y (List.mem_cons_of_mem _ hy), f5', j2, ?_⟩ (by omega)
      · have o := xok.2 y hy
        exact ⟨fun h => (o.2.2.1 h).1, fun h => by have := o.2.2.2 h; exact ⟨this.1, by omega, by rw [n8]; omega⟩⟩
      · rw [h5, st, cIf.pos (n1 c0)]
  refine loopF.ii (fun so i => ∃ pre rest : List Tst, x.1 = pre ++ rest ∧ i = at_ + 2 + 5 * (pre.length : Int) ∧ tsAC (w.2.2.1 cf) (μ c') (μ cf) (μ cl) i.toNat rest ∧ (so = 0 → ¬ ∀ t ∈ x.1, tsT J p d q t e.2.2) ∧ (¬ so = 0 → ∀ t ∈ pre, tsT J p d q t e.2.2)) (fun _ i => (2011 - i).toNat) ⟨[], x.1, rfl, by show at_ + 2 = at_ + 2 + 5 * ((0 : Nat) : Int); omega, by rw [show (at_ + 2).toNat = at_.toNat + 2 by omega]; exact f3, fun h => absurd h (by decide), fun _ t ht => by cases ht⟩ (by omega) ?_
  rintro rc2 so i ⟨pre, rest, g1, g2, g3, g4, g5⟩ ih2 so' i' ee2 rso ri2
  cases ee2
  have len : x.1.length = pre.length + rest.length := by rw [g1, List.length_append]
  refine ⟨fun u => J3 so g4 fun n0 => ?_, fun u => ⟨fun u2 => J3 so g4 fun n0 => absurd u2 n0, fun u2 => ?_⟩⟩
  · cases rest with
    | nil => rw [List.append_nil] at g1; rw [g1]; exact g5 n0
    | cons t l => exfalso; rw [List.length_cons] at len; omega
  cases rest with
  | nil => exfalso; have len : x.1.length = pre.length + 0 := len; omega
  | cons t rest =>
  obtain ⟨k1, k2⟩ := g3
  have tin : t ∈ x.1 := by rw [g1]; exact List.mem_append_right _ List.mem_cons_self
  obtain ⟨iN, hiN⟩ : ∃ iN : Nat, i = (iN : Int) := ⟨i.toNat, by omega⟩
  subst hiN
  rw [Int.toNat_natCast] at k1 k2
  refine X1_isSo_s (J := J) (p := p) (d := d) (q := q) (a := a) (t := t) (r := e.2.2) hAm hNm (by rw [cm, fm, lm]; exact k1) (xok.1 t tin) jm.1.2.1 jm.1.2.2 jm.2.2.2.1 jm.2.2.2.2.1 jm.2.2.2.2.2.1 jm.2.2.2.2.2.2 h4.2.2.1 fun z hz _ v ev rv => ?_
  have vt : v = t.2.1 := by
    rw [← ev, cm, show ((iN : Int) + 1).toNat = iN + 1 by omega]
    exact k1.2.1
  have ts1 : ¬ v = 1 → (tsT J p d q t e.2.2 ↔ z = 1) := fun hv => ⟨fun h => Classical.byContradiction fun c => h ⟨fun i => absurd (hz.mpr i) c, fun i => absurd (vt.trans i) hv⟩, fun h i => hv (vt.trans (i.mp (hz.mp h)))⟩
  have ts2 : v = 1 → (tsT J p d q t e.2.2 ↔ ¬ z = 1) := fun hv => ⟨fun h c => h ⟨fun _ => vt.symm.trans hv, fun _ => hz.mp c⟩, fun h i => h (hz.mpr (i.mpr (vt.symm.trans hv)))⟩
  have nxt : ∀ so' : Int, (so' = 0 → ¬ tsT J p d q t e.2.2) → (¬ so' = 0 → tsT J p d q t e.2.2) → rc2 (so', (iN : Int) + 5) := fun so' a0 a1 => ih2 _ _ ⟨pre ++ [t], rest, by rw [g1, List.append_assoc]; rfl, by rw [List.length_append, List.length_singleton]; omega, by rw [show ((iN : Int) + 5).toNat = iN + 5 by omega]; exact k2, fun h all => a0 h (all t tin), fun h t' ht' => by
    rcases List.mem_append.mp ht' with y | y
    · exact g5 u2 t' y
    · rw [List.mem_singleton.mp y]; exact a1 h⟩ (by omega)
  exact ⟨fun c1 => ⟨fun c2 => nxt 0 (fun _ ts => by have := (ts1 c1).mp ts; omega) (fun h => absurd rfl h), fun c2 => nxt 1 (fun h => absurd h (by decide)) (fun _ => (ts1 c1).mpr (by omega))⟩, fun c1 => ⟨fun c2 => nxt 0 (fun _ ts => (ts2 c1).mp ts c2) (fun h => absurd rfl h), fun c2 => nxt 1 (fun h => absurd h (by decide)) (fun _ => (ts2 c1).mpr c2)⟩⟩
theorem X1_doActs_10_s {J : Ju} {a c pos : Nat} {d q pI p3 p4 : Int} {al : List Act} {s : Js} {Q : mM → Prop} (hw : mWF w) (ok : jOk J) (jn : jnC w μ J a d q) (hc : mAt w c 231) (hpos : pI = (pos : Int)) (ha : acC (μ c) pos al) (hn : p3 = (al.length : Int)) (hk : ∀ x ∈ al, (x.1 = 27 → 1 ≤ x.2) ∧ (x.1 = 28 → 0 ≤ x.2 ∧ x.2 + (11) ≤ 11 ∧ x.2 < μ 21 8)) (js : jsC μ a (0, s))
    (k : ∀ m : mM, jsC m a (doA (gpJ J d q 12) al s) → frJd μ m a → Q m) : WP_X1_doActs_W10 w μ c pI p3 p4 Q := by
  subst hpos
  have c21 : c ≠ 21 := mAt.ne (A_21 hw) hc rfl
  intro n en rn
  refine loopF.im (fun i m => ∃ (pre rest : List Act) (e : Je), al = pre ++ rest ∧ i = (pre.length : Int) ∧ acC (μ c) (pos + 2 * pre.length) rest ∧ jsC m a e ∧ frJd μ m a ∧ doA (gpJ J d q 12) al s = (if e.1 = 0 then doA (gpJ J d q 12) rest e.2 else e)) (fun i => (1001 - i).toNat) ⟨[], al, (0, s), rfl, rfl, ha, js, frJd.refl, (if_pos rfl).symm⟩ (by omega) ?_
  rintro rc i m ⟨pre, rest, e, h1, h2, h3, h4, h5, h6⟩ ih i' m' ee ri T F
  cases ee
  subst h2
  have jm := jn.fr hw F
  have cm : m c = μ c := funext fun j => F.f hc rfl rfl
  have n8 : m 21 8 = μ 21 8 := F.f (A_21 hw) rfl rfl
  have fin : rest = [] ∨ ¬ e.1 = 0 → Q m := fun h => k m (by
    have E : doA (gpJ J d q 12) al s = e := by
      rw [h6]
      by_cases c0 : e.1 = 0
      · rw [if_pos c0]
        rcases h with h | h
        · rw [h]; exact Prod.ext c0.symm rfl
        · exact absurd c0 h
      · rw [if_neg c0]
    rw [E]; exact h4) h5
  have len : al.length = pre.length + rest.length := by rw [h1, List.length_append]
  refine ⟨fun g => fin (Or.inl ?_), fun g z ez rz => ⟨fun h => fin (Or.inr ?_), fun h num enum rnum cnt ecnt rcnt => ?_⟩⟩
  · cases rest with
    | nil => rfl
    | cons x l => rw [List.length_cons] at len; omega
  · have := h4.1
    omega
  cases rest with
  | nil => exfalso; have len : al.length = pre.length + 0 := len; omega
  | cons x l =>
  obtain ⟨⟨f1, f2⟩, f3⟩ := h3
  have xin : x ∈ al := by rw [h1]; exact List.mem_append_right _ List.mem_cons_self
  rw [show ((pos : Int) + (pre.length : Int) * 2 + 1).toNat = pos + 2 * pre.length + 1 by omega, cm, f2] at enum
  subst enum
  have e0 : e.1 = 0 := by have := h4.1; omega
  have c1 : e.2.1 = cnt := by have := h4.2.1; omega
  rw [if_pos e0] at h6
  have st : doA (gpJ J d q 12) (x :: l) e.2 = (if 500 ≤ e.2.1 then (2, e.2) else if (actS (gpJ J d q 12) x (e.2.1 + 1, e.2.2)).1 = 0 then doA (gpJ J d q 12) l (actS (gpJ J d q 12) x (e.2.1 + 1, e.2.2)).2 else actS (gpJ J d q 12) x (e.2.1 + 1, e.2.2)) := rfl
  have a21 := jn.2.2.1
  have rtU : ∀ (i : Nat) (v : Int), rtC (mUp m 21 i v) a = rtC m a := fun i v => rtC.of (fun _ => mUp.no (by omega)) (fun _ => mUp.no (by omega)) (fun _ => mUp.no (by omega))
  refine ⟨fun q0 m2 u2 T2 kd ekd rkd => ?_, fun q0 m2 u2 T2 => ?_⟩
  rotate_left 1
  · obtain rfl := u2.is
    refine k _ ?_ (h5.trans fun b i g0 g1 g2 g3 => mUp.no (by omega))
    rw [h6, st, if_pos (by omega)]
    exact ⟨mUp.yes ⟨rfl, rfl⟩, by rw [mUp.no (by omega)]; exact h4.2.1, by rw [rtU]; exact h4.2.2.1, h4.2.2.2⟩
  obtain rfl := u2.is
  rw [show ((pos : Int) + (pre.length : Int) * 2).toNat = pos + 2 * pre.length by omega, mUp.no (by omega), cm, f1] at ekd
  subst ekd
  have j2 : jsC (mUp m 21 6 (cnt + 1)) a (0, e.2.1 + 1, e.2.2) := ⟨by rw [mUp.no (by omega)]; exact h4.1.trans e0, by rw [mUp.yes ⟨rfl, rfl⟩, c1], by rw [rtU]; exact h4.2.2.1, h4.2.2.2⟩
  have r2 : mUp m 21 6 (cnt + 1) 21 2 = (a : Int) := by rw [mUp.no (by omega)]; exact jm.2.2.2.1
  have nx : ∀ m3 : mM, jsC m3 a (actS (gpJ J d q 12) x (e.2.1 + 1, e.2.2)) → frJd (mUp m 21 6 (cnt + 1)) m3 a → rc ((pre.length : Int) + 1, m3) := fun m3 j3 fr3 => ih _ _ ⟨pre ++ [x], l, _, by rw [h1, List.append_assoc]; rfl, by rw [List.length_append, List.length_singleton]; omega, by
    rw [List.length_append, List.length_singleton, show pos + 2 * (pre.length + 1) = pos + 2 * pre.length + 2 by omega]
    exact f3, j3, (h5.trans fun b i g0 g1 g2 g3 => mUp.no (by omega)).trans fr3, by rw [h6, st, if_neg (by omega)]⟩ (by omega)
  have oth : (¬ x.1 = 12 ∧ ¬ x.1 = 13 ∧ ¬ (23 ≤ x.1 ∧ x.1 ≤ 28)) → rc ((pre.length : Int) + 1, mUp m 21 6 (cnt + 1)) := fun h => nx _ (by rw [actS.ot h]; exact j2) frJd.refl
  obtain ⟨gg, er⟩ := rtC.get j2.2.2.1
  have wyr : rowL (mUp m 21 6 (cnt + 1) (a + 1)) (mUp m 21 6 (cnt + 1) a 7).toNat = wOf e.2.2 := by
    have := congrArg wOf er
    exact this.symm
  have mkr : rowL (mUp m 21 6 (cnt + 1) (a + 2)) (mUp m 21 6 (cnt + 1) a 8).toNat = mOf e.2.2 := by
    have := congrArg mOf er
    exact this.symm
  refine ⟨fun g b2 eb2 _ m3 u3 T3 => ?_, fun n12 => ⟨fun g b2 eb2 _ m3 u3 T3 => ?_, fun n13 => ⟨fun g => oth (by omega), fun n14 => ⟨fun g => oth (by omega), fun n15 => ⟨fun g => oth (by omega), fun n16 => ⟨fun g => oth (by omega), fun n17 => ⟨fun g => oth (by omega), fun n18 => ⟨fun g => oth (by omega), fun n19 => ⟨fun g => oth (by omega), fun n20 => ⟨fun g => oth (by omega), fun n21 => ⟨fun g => oth (by omega), fun n22 => ⟨fun g m3 u3 T3 => ?_, fun n23 => ⟨fun g m3 u3 T3 => ?_, fun n24 => ⟨fun g b2 eb2 _ => ?_, fun n25 => ⟨fun g b2 eb2 _ => ?_, fun n26 => ⟨fun g b2 eb2 _ z7 ez7 rz7 => ?_, fun n27 => ⟨fun g => ?_, fun n28 => oth (by omega)⟩⟩⟩⟩⟩⟩⟩⟩⟩⟩⟩⟩⟩⟩⟩⟩⟩
  · have e2 : a = b2 := by omega
    subst e2
    obtain rfl := u3.is
    refine nx _ ?_ (fun b i g0 g1 g2 g3 => mUp.no (by omega))
    rw [actS.a12 g]
    exact ⟨by rw [mUp.no (by omega)]; exact j2.1, by rw [mUp.no (by omega)]; exact j2.2.1, rtC.wish j2.2.2.1, j2.2.2.2⟩
  · have e2 : a = b2 := by omega
    subst e2
    obtain rfl := u3.is
    refine nx _ ?_ (fun b i g0 g1 g2 g3 => mUp.no (by omega))
    rw [actS.a13 g]
    exact ⟨by rw [mUp.no (by omega)]; exact j2.1, by rw [mUp.no (by omega)]; exact j2.2.1, rtC.cost j2.2.2.1, j2.2.2.2⟩
  · obtain rfl := u3.is
    refine nx _ ?_ (fun b i g0 g1 g2 g3 => mUp.no (by omega))
    rw [actS.a23 g]
    exact ⟨mUp.yes ⟨rfl, rfl⟩, by rw [mUp.no (by omega)]; exact j2.2.1, by rw [rtC.of (fun _ => mUp.no (by omega)) (fun _ => mUp.no (by omega)) (fun _ => mUp.no (by omega))]; exact j2.2.2.1, j2.2.2.2⟩
  · obtain rfl := u3.is
    refine nx _ ?_ (fun b i g0 g1 g2 g3 => mUp.no (by omega))
    rw [actS.a24 g]
    exact ⟨mUp.yes ⟨rfl, rfl⟩, by rw [mUp.no (by omega)]; exact j2.2.1, by rw [rtC.of (fun _ => mUp.no (by omega)) (fun _ => mUp.no (by omega)) (fun _ => mUp.no (by omega))]; exact j2.2.2.1, j2.2.2.2⟩
  · have e2 : a = b2 := by omega
    subst e2
    refine X7_addMark_s (by rw [mkr]; exact j2.2.2.2) fun m3 rm f3 _ _ => nx m3 ?_ (fun b i g0 g1 g2 g3 => f3 b i (by omega) g2)
    rw [actS.a25 g]
    rw [mkr] at rm
    exact ⟨by rw [f3 _ _ (by omega) (by omega)]; exact j2.1, by rw [f3 _ _ (by omega) (by omega)]; exact j2.2.1, rtC.mks j2.2.2.1 rm f3, addM.srt j2.2.2.2⟩
  · have e2 : a = b2 := by omega
    subst e2
    refine X7_dropMark_s fun m3 rm f3 _ _ => nx m3 ?_ (fun b i g0 g1 g2 g3 => f3 b i (by omega) g2)
    rw [actS.a26 g]
    rw [mkr] at rm
    exact ⟨by rw [f3 _ _ (by omega) (by omega)]; exact j2.1, by rw [f3 _ _ (by omega) (by omega)]; exact j2.2.1, rtC.mks j2.2.2.1 rm f3, dropM.srt j2.2.2.2⟩
  · have e2 : a = b2 := by omega
    subst e2
    have x27 := (hk x xin).1 g
    have wl : ((wOf e.2.2).length : Int) = z7 := by rw [← wyr, rowL.len, ez7, Int.toNat_of_nonneg rz7.1]
    refine ⟨fun c0 _ _ => nx _ ?_ frJd.refl, fun c0 v ev rv => ?_⟩
    · have wn : wOf e.2.2 = [] := List.eq_nil_of_length_eq_zero (by omega)
      rw [actS.m27 (s := (e.2.1 + 1, e.2.2)) g (moreR.nil (r := e.2.2) wn)]
      exact j2
    have wc : wOf e.2.2 = v :: rowL (fun i => mUp m 21 6 (cnt + 1) (a + 1) (i + 1)) (z7.toNat - 1) := by
      rw [← wyr, ez7, show z7.toNat = (z7.toNat - 1) + 1 by omega, rowL.head, ← ev]
      rfl
    refine X7_putInFront_s (fun h0 _ _ _ => ⟨fun h => absurd rfl h, fun _ m4 u4 T4 _ _ => ?_⟩) fun m3 t0 t1 t2 e7 w1 w2 f3 _ _ _ => ⟨fun _ _ _ => nx m3 ?_ (fun b i g0 g1 g2 g3 => f3 b i (by omega) g1), fun h => absurd h (by decide)⟩
    · obtain rfl := u4.is
      refine nx _ ?_ (fun b i g0 g1 g2 g3 => mUp.no (by omega))
      rw [actS.n27 (s := (e.2.1 + 1, e.2.2)) g (moreR.far (r := e.2.2) (by rw [wc]; exact fun h => by cases h) (by omega))]
      exact ⟨mUp.yes ⟨rfl, rfl⟩, by rw [mUp.no (by omega)]; exact j2.2.1, by rw [rtC.of (fun _ => mUp.no (by omega)) (fun _ => mUp.no (by omega)) (fun _ => mUp.no (by omega))]; exact j2.2.2.1, j2.2.2.2⟩
    · rw [actS.m27 (s := (e.2.1 + 1, e.2.2)) g (moreR.go (r := e.2.2) wc (by omega))]
      exact ⟨by rw [f3 _ _ (by omega) (by omega)]; exact j2.1, by rw [f3 _ _ (by omega) (by omega)]; exact j2.2.1, rtC.front j2.2.2.1 t0 t1 e7 w1 w2 f3, j2.2.2.2⟩
  · have x28 := (hk x xin).2 g
    refine X1_goThrough_11_s hw ok (jn.fr hw (F.up (A_21 hw) mUp_ok rfl)) x28.1 x28.2.1 (by rw [mUp.no (by omega), n8]; exact x28.2.2) j2 fun m3 j3 fr3 _ _ => nx m3 ?_ fr3
    rw [actS.a28 g]
    exact j3
theorem X1_goThrough_10_s {J : Ju} {a : Nat} {d q p p2 : Int} {s : Js} {Q : mM → Prop} (hw : mWF w) (ok : jOk J) (jn : jnC w μ J a d q) (h0 : 0 ≤ p) (hD : p + (10) ≤ 11) (hp : p < μ 21 8) (js : jsC μ a (0, s))
    (k : ∀ m : mM, jsC m a (gpJ J d q 12 p s) → frJd μ m a → Q m) : WP_X1_goThrough_W10 w μ p p2 Q := by
  refine ⟨fun g => absurd g (by omega), fun _ n en rn => ⟨fun g => absurd g (by omega), fun _ b eb _ c ec rows er => ?_⟩⟩
  obtain ⟨b', eb', c', cp, cn, cf, cl, hA, hl, hr, hN⟩ := jn.1.1 p.toNat (by omega)
  rw [Int.toNat_of_nonneg h0] at hl hr hN
  have e1 : b' = b := by omega
  subst e1
  have e2 : c' = c := by have := hA.2.1; omega
  subst e2
  rw [hl] at er
  have RES := gpJ.eq (d := d) (q := q) (s := s) ok h0 (show p < 12 by omega)
  refine loopF.iim (fun at_ row m => 0 ≤ row ∧ frJd μ m a ∧ ∃ (l : List Rw) (e : Je), row + (l.length : Int) = ((jP J p).1.length : Int) ∧ 0 ≤ at_ ∧ (∀ x ∈ l, x ∈ (jP J p).1) ∧ rwsC (w.2.2.1 cf) (μ c') (μ cf) (μ cl) at_.toNat l ∧ jsC m a e ∧ gpJ J d q 12 p s = (if e.1 = 0 then goR (gpJ J d q 12) (tsT J p d q) l e.2 else e)) (fun _ row => (31 - row).toNat) ⟨by omega, frJd.refl, (jP J p).1, (0, s), by omega, by omega, fun _ h => h, hr, js, RES.trans (if_pos rfl).symm⟩ (by omega) ?_
  rintro rc at_ row m ⟨r0, fr, l, e, h1, h2, hin, h3, h4, h5⟩ ih at' row' m' ee hat hrow T F
  cases ee
  have jm := jn.fr hw F
  have cm : m c' = μ c' := funext fun j => F.f hA.1.2.1 rfl rfl
  have fm : m cf = μ cf := funext fun j => F.f hA.1.2.2.2.2.1 rfl rfl
  have lm : m cl = μ cl := funext fun j => F.f hA.1.2.2.2.2.2 rfl rfl
  have hAm : plA w m b' c' cp cn cf cl := ⟨hA.1, F.f hA.1.1 rfl hA.2.1, F.f hA.1.1 rfl hA.2.2.1, F.f hA.1.1 rfl hA.2.2.2.1, F.f hA.1.1 rfl hA.2.2.2.2.1, F.f hA.1.1 rfl hA.2.2.2.2.2⟩
  have hNm : plN w m cp cn (jP J p) := ⟨hN.1, fun k hk => ⟨⟨F.f hA.1.2.2.1 rfl (hN.2 k hk).1.1, by rw [F.f hA.1.2.2.2.1 rfl (rfl : μ cn k = μ cn k)]; exact (hN.2 k hk).1.2⟩, (hN.2 k hk).2⟩⟩
  have n8 : m 21 8 = μ 21 8 := F.f (A_21 hw) rfl rfl
  have fin : l = [] ∨ ¬ e.1 = 0 → Q m := fun h => k m (by
    have E : gpJ J d q 12 p s = e := by
      rw [h5]
      by_cases c0 : e.1 = 0
      · rw [if_pos c0]
        rcases h with h | h
        · rw [h]; exact Prod.ext c0.symm rfl
        · exact absurd c0 h
      · rw [if_neg c0]
    rw [E]; exact h4) fr
  refine ⟨fun g => fin (Or.inl ?_), fun g z ez rz => ⟨fun h => fin (Or.inr ?_), fun h n2 _ _ T1 eT1 _ A1 eA1 _ => ?_⟩⟩
  · cases l with
    | nil => rfl
    | cons x l => rw [List.length_cons] at h1; omega
  · have := h4.1
    omega
  cases l with
  | nil => exfalso; have h1 : row + ((0 : Nat) : Int) = ((jP J p).1.length : Int) := h1; omega
  | cons x l =>
  rw [List.length_cons] at h1
  obtain ⟨⟨f1, f2⟩, f3, f4, f5⟩ := h3
  rw [cm, f1] at eT1
  rw [cm, show (at_ + 1).toNat = at_.toNat + 1 by omega, f2] at eA1
  subst eT1 eA1
  have e0 : e.1 = 0 := by have := h4.1; omega
  rw [if_pos e0] at h5
  have xin := hin x List.mem_cons_self
  have xok := ok p h0 x xin
  have st : goR (gpJ J d q 12) (tsT J p d q) (x :: l) e.2 = cIf (∀ t ∈ x.1, tsT J p d q t e.2.2) (if (doA (gpJ J d q 12) x.2 e.2).1 = 0 then goR (gpJ J d q 12) (tsT J p d q) l (doA (gpJ J d q 12) x.2 e.2).2 else doA (gpJ J d q 12) x.2 e.2) (goR (gpJ J d q 12) (tsT J p d q) l e.2) := rfl
  have j0 : jsC m a (0, e.2) := ⟨h4.1.trans e0, h4.2⟩
  have f5' : rwsC (w.2.2.1 cf) (μ c') (μ cf) (μ cl) (at_ + 2 + (x.1.length : Int) * 5 + (x.2.length : Int) * 2).toNat l := by
    rw [show (at_ + 2 + (x.1.length : Int) * 5 + (x.2.length : Int) * 2).toNat = at_.toNat + 2 + 5 * x.1.length + 2 * x.2.length by omega]
    exact f5
  have J3 : ∀ so : Int, (so = 0 → ¬ ∀ t ∈ x.1, tsT J p d q t e.2.2) → (¬ so = 0 → ∀ t ∈ x.1, tsT J p d q t e.2.2) → WJ_X1_goThrough_W10_3 w p2 c' rc at_ row m (x.1.length : Int) (x.2.length : Int) so := by
    intro so n0 n1
    refine ⟨fun c0 => ih _ _ _ ⟨by omega, fr, l, e, by omega, by omega, fun y hy => hin y (List.mem_cons_of_mem _ hy), f5', h4, ?_⟩ (by omega), fun c0 => ?_⟩
    · rw [if_pos e0, h5, st, cIf.neg (n0 c0)]
    · refine X1_doActs_10_s (pos := at_.toNat + 2 + 5 * x.1.length) (al := x.2) hw ok jm hA.1.2.1 (by omega) (by rw [cm]; exact f4) rfl (fun y hy => ?_) j0 fun m2 j2 fr2 _ _ => ih _ _ _ ⟨by omega, fr.trans fr2, l, _, by omega, by omega, fun y hy => hin y (List.mem_cons_of_mem _ hy), f5', j2, ?_⟩ (by omega)
      · have o := xok.2 y hy
        exact ⟨fun h => (o.2.2.1 h).1, fun h => by have := o.2.2.2 h; exact ⟨this.1, by omega, by rw [n8]; omega⟩⟩
      · rw [h5, st, cIf.pos (n1 c0)]
  refine loopF.ii (fun so i => ∃ pre rest : List Tst, x.1 = pre ++ rest ∧ i = at_ + 2 + 5 * (pre.length : Int) ∧ tsAC (w.2.2.1 cf) (μ c') (μ cf) (μ cl) i.toNat rest ∧ (so = 0 → ¬ ∀ t ∈ x.1, tsT J p d q t e.2.2) ∧ (¬ so = 0 → ∀ t ∈ pre, tsT J p d q t e.2.2)) (fun _ i => (2011 - i).toNat) ⟨[], x.1, rfl, by show at_ + 2 = at_ + 2 + 5 * ((0 : Nat) : Int); omega, by rw [show (at_ + 2).toNat = at_.toNat + 2 by omega]; exact f3, fun h => absurd h (by decide), fun _ t ht => by cases ht⟩ (by omega) ?_
  rintro rc2 so i ⟨pre, rest, g1, g2, g3, g4, g5⟩ ih2 so' i' ee2 rso ri2
  cases ee2
  have len : x.1.length = pre.length + rest.length := by rw [g1, List.length_append]
  refine ⟨fun u => J3 so g4 fun n0 => ?_, fun u => ⟨fun u2 => J3 so g4 fun n0 => absurd u2 n0, fun u2 => ?_⟩⟩
  · cases rest with
    | nil => rw [List.append_nil] at g1; rw [g1]; exact g5 n0
    | cons t l => exfalso; rw [List.length_cons] at len; omega
  cases rest with
  | nil => exfalso; have len : x.1.length = pre.length + 0 := len; omega
  | cons t rest =>
  obtain ⟨k1, k2⟩ := g3
  have tin : t ∈ x.1 := by rw [g1]; exact List.mem_append_right _ List.mem_cons_self
  obtain ⟨iN, hiN⟩ : ∃ iN : Nat, i = (iN : Int) := ⟨i.toNat, by omega⟩
  subst hiN
  rw [Int.toNat_natCast] at k1 k2
  refine X1_isSo_s (J := J) (p := p) (d := d) (q := q) (a := a) (t := t) (r := e.2.2) hAm hNm (by rw [cm, fm, lm]; exact k1) (xok.1 t tin) jm.1.2.1 jm.1.2.2 jm.2.2.2.1 jm.2.2.2.2.1 jm.2.2.2.2.2.1 jm.2.2.2.2.2.2 h4.2.2.1 fun z hz _ v ev rv => ?_
  have vt : v = t.2.1 := by
    rw [← ev, cm, show ((iN : Int) + 1).toNat = iN + 1 by omega]
    exact k1.2.1
  have ts1 : ¬ v = 1 → (tsT J p d q t e.2.2 ↔ z = 1) := fun hv => ⟨fun h => Classical.byContradiction fun c => h ⟨fun i => absurd (hz.mpr i) c, fun i => absurd (vt.trans i) hv⟩, fun h i => hv (vt.trans (i.mp (hz.mp h)))⟩
  have ts2 : v = 1 → (tsT J p d q t e.2.2 ↔ ¬ z = 1) := fun hv => ⟨fun h c => h ⟨fun _ => vt.symm.trans hv, fun _ => hz.mp c⟩, fun h i => h (hz.mpr (i.mpr (vt.symm.trans hv)))⟩
  have nxt : ∀ so' : Int, (so' = 0 → ¬ tsT J p d q t e.2.2) → (¬ so' = 0 → tsT J p d q t e.2.2) → rc2 (so', (iN : Int) + 5) := fun so' a0 a1 => ih2 _ _ ⟨pre ++ [t], rest, by rw [g1, List.append_assoc]; rfl, by rw [List.length_append, List.length_singleton]; omega, by rw [show ((iN : Int) + 5).toNat = iN + 5 by omega]; exact k2, fun h all => a0 h (all t tin), fun h t' ht' => by
    rcases List.mem_append.mp ht' with y | y
    · exact g5 u2 t' y
    · rw [List.mem_singleton.mp y]; exact a1 h⟩ (by omega)
  exact ⟨fun c1 => ⟨fun c2 => nxt 0 (fun _ ts => by have := (ts1 c1).mp ts; omega) (fun h => absurd rfl h), fun c2 => nxt 1 (fun h => absurd h (by decide)) (fun _ => (ts1 c1).mpr (by omega))⟩, fun c1 => ⟨fun c2 => nxt 0 (fun _ ts => (ts2 c1).mp ts c2) (fun h => absurd rfl h), fun c2 => nxt 1 (fun h => absurd h (by decide)) (fun _ => (ts2 c1).mpr c2)⟩⟩
theorem X1_doActs_9_s {J : Ju} {a c pos : Nat} {d q pI p3 p4 : Int} {al : List Act} {s : Js} {Q : mM → Prop} (hw : mWF w) (ok : jOk J) (jn : jnC w μ J a d q) (hc : mAt w c 231) (hpos : pI = (pos : Int)) (ha : acC (μ c) pos al) (hn : p3 = (al.length : Int)) (hk : ∀ x ∈ al, (x.1 = 27 → 1 ≤ x.2) ∧ (x.1 = 28 → 0 ≤ x.2 ∧ x.2 + (10) ≤ 11 ∧ x.2 < μ 21 8)) (js : jsC μ a (0, s))
    (k : ∀ m : mM, jsC m a (doA (gpJ J d q 12) al s) → frJd μ m a → Q m) : WP_X1_doActs_W9 w μ c pI p3 p4 Q := by
  subst hpos
  have c21 : c ≠ 21 := mAt.ne (A_21 hw) hc rfl
  intro n en rn
  refine loopF.im (fun i m => ∃ (pre rest : List Act) (e : Je), al = pre ++ rest ∧ i = (pre.length : Int) ∧ acC (μ c) (pos + 2 * pre.length) rest ∧ jsC m a e ∧ frJd μ m a ∧ doA (gpJ J d q 12) al s = (if e.1 = 0 then doA (gpJ J d q 12) rest e.2 else e)) (fun i => (1001 - i).toNat) ⟨[], al, (0, s), rfl, rfl, ha, js, frJd.refl, (if_pos rfl).symm⟩ (by omega) ?_
  rintro rc i m ⟨pre, rest, e, h1, h2, h3, h4, h5, h6⟩ ih i' m' ee ri T F
  cases ee
  subst h2
  have jm := jn.fr hw F
  have cm : m c = μ c := funext fun j => F.f hc rfl rfl
  have n8 : m 21 8 = μ 21 8 := F.f (A_21 hw) rfl rfl
  have fin : rest = [] ∨ ¬ e.1 = 0 → Q m := fun h => k m (by
    have E : doA (gpJ J d q 12) al s = e := by
      rw [h6]
      by_cases c0 : e.1 = 0
      · rw [if_pos c0]
        rcases h with h | h
        · rw [h]; exact Prod.ext c0.symm rfl
        · exact absurd c0 h
      · rw [if_neg c0]
    rw [E]; exact h4) h5
  have len : al.length = pre.length + rest.length := by rw [h1, List.length_append]
  refine ⟨fun g => fin (Or.inl ?_), fun g z ez rz => ⟨fun h => fin (Or.inr ?_), fun h num enum rnum cnt ecnt rcnt => ?_⟩⟩
  · cases rest with
    | nil => rfl
    | cons x l => rw [List.length_cons] at len; omega
  · have := h4.1
    omega
  cases rest with
  | nil => exfalso; have len : al.length = pre.length + 0 := len; omega
  | cons x l =>
  obtain ⟨⟨f1, f2⟩, f3⟩ := h3
  have xin : x ∈ al := by rw [h1]; exact List.mem_append_right _ List.mem_cons_self
  rw [show ((pos : Int) + (pre.length : Int) * 2 + 1).toNat = pos + 2 * pre.length + 1 by omega, cm, f2] at enum
  subst enum
  have e0 : e.1 = 0 := by have := h4.1; omega
  have c1 : e.2.1 = cnt := by have := h4.2.1; omega
  rw [if_pos e0] at h6
  have st : doA (gpJ J d q 12) (x :: l) e.2 = (if 500 ≤ e.2.1 then (2, e.2) else if (actS (gpJ J d q 12) x (e.2.1 + 1, e.2.2)).1 = 0 then doA (gpJ J d q 12) l (actS (gpJ J d q 12) x (e.2.1 + 1, e.2.2)).2 else actS (gpJ J d q 12) x (e.2.1 + 1, e.2.2)) := rfl
  have a21 := jn.2.2.1
  have rtU : ∀ (i : Nat) (v : Int), rtC (mUp m 21 i v) a = rtC m a := fun i v => rtC.of (fun _ => mUp.no (by omega)) (fun _ => mUp.no (by omega)) (fun _ => mUp.no (by omega))
  refine ⟨fun q0 m2 u2 T2 kd ekd rkd => ?_, fun q0 m2 u2 T2 => ?_⟩
  rotate_left 1
  · obtain rfl := u2.is
    refine k _ ?_ (h5.trans fun b i g0 g1 g2 g3 => mUp.no (by omega))
    rw [h6, st, if_pos (by omega)]
    exact ⟨mUp.yes ⟨rfl, rfl⟩, by rw [mUp.no (by omega)]; exact h4.2.1, by rw [rtU]; exact h4.2.2.1, h4.2.2.2⟩
  obtain rfl := u2.is
  rw [show ((pos : Int) + (pre.length : Int) * 2).toNat = pos + 2 * pre.length by omega, mUp.no (by omega), cm, f1] at ekd
  subst ekd
  have j2 : jsC (mUp m 21 6 (cnt + 1)) a (0, e.2.1 + 1, e.2.2) := ⟨by rw [mUp.no (by omega)]; exact h4.1.trans e0, by rw [mUp.yes ⟨rfl, rfl⟩, c1], by rw [rtU]; exact h4.2.2.1, h4.2.2.2⟩
  have r2 : mUp m 21 6 (cnt + 1) 21 2 = (a : Int) := by rw [mUp.no (by omega)]; exact jm.2.2.2.1
  have nx : ∀ m3 : mM, jsC m3 a (actS (gpJ J d q 12) x (e.2.1 + 1, e.2.2)) → frJd (mUp m 21 6 (cnt + 1)) m3 a → rc ((pre.length : Int) + 1, m3) := fun m3 j3 fr3 => ih _ _ ⟨pre ++ [x], l, _, by rw [h1, List.append_assoc]; rfl, by rw [List.length_append, List.length_singleton]; omega, by
    rw [List.length_append, List.length_singleton, show pos + 2 * (pre.length + 1) = pos + 2 * pre.length + 2 by omega]
    exact f3, j3, (h5.trans fun b i g0 g1 g2 g3 => mUp.no (by omega)).trans fr3, by rw [h6, st, if_neg (by omega)]⟩ (by omega)
  have oth : (¬ x.1 = 12 ∧ ¬ x.1 = 13 ∧ ¬ (23 ≤ x.1 ∧ x.1 ≤ 28)) → rc ((pre.length : Int) + 1, mUp m 21 6 (cnt + 1)) := fun h => nx _ (by rw [actS.ot h]; exact j2) frJd.refl
  obtain ⟨gg, er⟩ := rtC.get j2.2.2.1
  have wyr : rowL (mUp m 21 6 (cnt + 1) (a + 1)) (mUp m 21 6 (cnt + 1) a 7).toNat = wOf e.2.2 := by
    have := congrArg wOf er
    exact this.symm
  have mkr : rowL (mUp m 21 6 (cnt + 1) (a + 2)) (mUp m 21 6 (cnt + 1) a 8).toNat = mOf e.2.2 := by
    have := congrArg mOf er
    exact this.symm
  refine ⟨fun g b2 eb2 _ m3 u3 T3 => ?_, fun n12 => ⟨fun g b2 eb2 _ m3 u3 T3 => ?_, fun n13 => ⟨fun g => oth (by omega), fun n14 => ⟨fun g => oth (by omega), fun n15 => ⟨fun g => oth (by omega), fun n16 => ⟨fun g => oth (by omega), fun n17 => ⟨fun g => oth (by omega), fun n18 => ⟨fun g => oth (by omega), fun n19 => ⟨fun g => oth (by omega), fun n20 => ⟨fun g => oth (by omega), fun n21 => ⟨fun g => oth (by omega), fun n22 => ⟨fun g m3 u3 T3 => ?_, fun n23 => ⟨fun g m3 u3 T3 => ?_, fun n24 => ⟨fun g b2 eb2 _ => ?_, fun n25 => ⟨fun g b2 eb2 _ => ?_, fun n26 => ⟨fun g b2 eb2 _ z7 ez7 rz7 => ?_, fun n27 => ⟨fun g => ?_, fun n28 => oth (by omega)⟩⟩⟩⟩⟩⟩⟩⟩⟩⟩⟩⟩⟩⟩⟩⟩⟩
  · have e2 : a = b2 := by omega
    subst e2
    obtain rfl := u3.is
    refine nx _ ?_ (fun b i g0 g1 g2 g3 => mUp.no (by omega))
    rw [actS.a12 g]
    exact ⟨by rw [mUp.no (by omega)]; exact j2.1, by rw [mUp.no (by omega)]; exact j2.2.1, rtC.wish j2.2.2.1, j2.2.2.2⟩
  · have e2 : a = b2 := by omega
    subst e2
    obtain rfl := u3.is
    refine nx _ ?_ (fun b i g0 g1 g2 g3 => mUp.no (by omega))
    rw [actS.a13 g]
    exact ⟨by rw [mUp.no (by omega)]; exact j2.1, by rw [mUp.no (by omega)]; exact j2.2.1, rtC.cost j2.2.2.1, j2.2.2.2⟩
  · obtain rfl := u3.is
    refine nx _ ?_ (fun b i g0 g1 g2 g3 => mUp.no (by omega))
    rw [actS.a23 g]
    exact ⟨mUp.yes ⟨rfl, rfl⟩, by rw [mUp.no (by omega)]; exact j2.2.1, by rw [rtC.of (fun _ => mUp.no (by omega)) (fun _ => mUp.no (by omega)) (fun _ => mUp.no (by omega))]; exact j2.2.2.1, j2.2.2.2⟩
  · obtain rfl := u3.is
    refine nx _ ?_ (fun b i g0 g1 g2 g3 => mUp.no (by omega))
    rw [actS.a24 g]
    exact ⟨mUp.yes ⟨rfl, rfl⟩, by rw [mUp.no (by omega)]; exact j2.2.1, by rw [rtC.of (fun _ => mUp.no (by omega)) (fun _ => mUp.no (by omega)) (fun _ => mUp.no (by omega))]; exact j2.2.2.1, j2.2.2.2⟩
  · have e2 : a = b2 := by omega
    subst e2
    refine X7_addMark_s (by rw [mkr]; exact j2.2.2.2) fun m3 rm f3 _ _ => nx m3 ?_ (fun b i g0 g1 g2 g3 => f3 b i (by omega) g2)
    rw [actS.a25 g]
    rw [mkr] at rm
    exact ⟨by rw [f3 _ _ (by omega) (by omega)]; exact j2.1, by rw [f3 _ _ (by omega) (by omega)]; exact j2.2.1, rtC.mks j2.2.2.1 rm f3, addM.srt j2.2.2.2⟩
  · have e2 : a = b2 := by omega
    subst e2
    refine X7_dropMark_s fun m3 rm f3 _ _ => nx m3 ?_ (fun b i g0 g1 g2 g3 => f3 b i (by omega) g2)
    rw [actS.a26 g]
    rw [mkr] at rm
    exact ⟨by rw [f3 _ _ (by omega) (by omega)]; exact j2.1, by rw [f3 _ _ (by omega) (by omega)]; exact j2.2.1, rtC.mks j2.2.2.1 rm f3, dropM.srt j2.2.2.2⟩
  · have e2 : a = b2 := by omega
    subst e2
    have x27 := (hk x xin).1 g
    have wl : ((wOf e.2.2).length : Int) = z7 := by rw [← wyr, rowL.len, ez7, Int.toNat_of_nonneg rz7.1]
    refine ⟨fun c0 _ _ => nx _ ?_ frJd.refl, fun c0 v ev rv => ?_⟩
    · have wn : wOf e.2.2 = [] := List.eq_nil_of_length_eq_zero (by omega)
      rw [actS.m27 (s := (e.2.1 + 1, e.2.2)) g (moreR.nil (r := e.2.2) wn)]
      exact j2
    have wc : wOf e.2.2 = v :: rowL (fun i => mUp m 21 6 (cnt + 1) (a + 1) (i + 1)) (z7.toNat - 1) := by
      rw [← wyr, ez7, show z7.toNat = (z7.toNat - 1) + 1 by omega, rowL.head, ← ev]
      rfl
    refine X7_putInFront_s (fun h0 _ _ _ => ⟨fun h => absurd rfl h, fun _ m4 u4 T4 _ _ => ?_⟩) fun m3 t0 t1 t2 e7 w1 w2 f3 _ _ _ => ⟨fun _ _ _ => nx m3 ?_ (fun b i g0 g1 g2 g3 => f3 b i (by omega) g1), fun h => absurd h (by decide)⟩
    · obtain rfl := u4.is
      refine nx _ ?_ (fun b i g0 g1 g2 g3 => mUp.no (by omega))
      rw [actS.n27 (s := (e.2.1 + 1, e.2.2)) g (moreR.far (r := e.2.2) (by rw [wc]; exact fun h => by cases h) (by omega))]
      exact ⟨mUp.yes ⟨rfl, rfl⟩, by rw [mUp.no (by omega)]; exact j2.2.1, by rw [rtC.of (fun _ => mUp.no (by omega)) (fun _ => mUp.no (by omega)) (fun _ => mUp.no (by omega))]; exact j2.2.2.1, j2.2.2.2⟩
    · rw [actS.m27 (s := (e.2.1 + 1, e.2.2)) g (moreR.go (r := e.2.2) wc (by omega))]
      exact ⟨by rw [f3 _ _ (by omega) (by omega)]; exact j2.1, by rw [f3 _ _ (by omega) (by omega)]; exact j2.2.1, rtC.front j2.2.2.1 t0 t1 e7 w1 w2 f3, j2.2.2.2⟩
  · have x28 := (hk x xin).2 g
    refine X1_goThrough_10_s hw ok (jn.fr hw (F.up (A_21 hw) mUp_ok rfl)) x28.1 x28.2.1 (by rw [mUp.no (by omega), n8]; exact x28.2.2) j2 fun m3 j3 fr3 _ _ => nx m3 ?_ fr3
    rw [actS.a28 g]
    exact j3
theorem X1_goThrough_9_s {J : Ju} {a : Nat} {d q p p2 : Int} {s : Js} {Q : mM → Prop} (hw : mWF w) (ok : jOk J) (jn : jnC w μ J a d q) (h0 : 0 ≤ p) (hD : p + (9) ≤ 11) (hp : p < μ 21 8) (js : jsC μ a (0, s))
    (k : ∀ m : mM, jsC m a (gpJ J d q 12 p s) → frJd μ m a → Q m) : WP_X1_goThrough_W9 w μ p p2 Q := by
  refine ⟨fun g => absurd g (by omega), fun _ n en rn => ⟨fun g => absurd g (by omega), fun _ b eb _ c ec rows er => ?_⟩⟩
  obtain ⟨b', eb', c', cp, cn, cf, cl, hA, hl, hr, hN⟩ := jn.1.1 p.toNat (by omega)
  rw [Int.toNat_of_nonneg h0] at hl hr hN
  have e1 : b' = b := by omega
  subst e1
  have e2 : c' = c := by have := hA.2.1; omega
  subst e2
  rw [hl] at er
  have RES := gpJ.eq (d := d) (q := q) (s := s) ok h0 (show p < 12 by omega)
  refine loopF.iim (fun at_ row m => 0 ≤ row ∧ frJd μ m a ∧ ∃ (l : List Rw) (e : Je), row + (l.length : Int) = ((jP J p).1.length : Int) ∧ 0 ≤ at_ ∧ (∀ x ∈ l, x ∈ (jP J p).1) ∧ rwsC (w.2.2.1 cf) (μ c') (μ cf) (μ cl) at_.toNat l ∧ jsC m a e ∧ gpJ J d q 12 p s = (if e.1 = 0 then goR (gpJ J d q 12) (tsT J p d q) l e.2 else e)) (fun _ row => (31 - row).toNat) ⟨by omega, frJd.refl, (jP J p).1, (0, s), by omega, by omega, fun _ h => h, hr, js, RES.trans (if_pos rfl).symm⟩ (by omega) ?_
  rintro rc at_ row m ⟨r0, fr, l, e, h1, h2, hin, h3, h4, h5⟩ ih at' row' m' ee hat hrow T F
  cases ee
  have jm := jn.fr hw F
  have cm : m c' = μ c' := funext fun j => F.f hA.1.2.1 rfl rfl
  have fm : m cf = μ cf := funext fun j => F.f hA.1.2.2.2.2.1 rfl rfl
  have lm : m cl = μ cl := funext fun j => F.f hA.1.2.2.2.2.2 rfl rfl
  have hAm : plA w m b' c' cp cn cf cl := ⟨hA.1, F.f hA.1.1 rfl hA.2.1, F.f hA.1.1 rfl hA.2.2.1, F.f hA.1.1 rfl hA.2.2.2.1, F.f hA.1.1 rfl hA.2.2.2.2.1, F.f hA.1.1 rfl hA.2.2.2.2.2⟩
  have hNm : plN w m cp cn (jP J p) := ⟨hN.1, fun k hk => ⟨⟨F.f hA.1.2.2.1 rfl (hN.2 k hk).1.1, by rw [F.f hA.1.2.2.2.1 rfl (rfl : μ cn k = μ cn k)]; exact (hN.2 k hk).1.2⟩, (hN.2 k hk).2⟩⟩
  have n8 : m 21 8 = μ 21 8 := F.f (A_21 hw) rfl rfl
  have fin : l = [] ∨ ¬ e.1 = 0 → Q m := fun h => k m (by
    have E : gpJ J d q 12 p s = e := by
      rw [h5]
      by_cases c0 : e.1 = 0
      · rw [if_pos c0]
        rcases h with h | h
        · rw [h]; exact Prod.ext c0.symm rfl
        · exact absurd c0 h
      · rw [if_neg c0]
    rw [E]; exact h4) fr
  refine ⟨fun g => fin (Or.inl ?_), fun g z ez rz => ⟨fun h => fin (Or.inr ?_), fun h n2 _ _ T1 eT1 _ A1 eA1 _ => ?_⟩⟩
  · cases l with
    | nil => rfl
    | cons x l => rw [List.length_cons] at h1; omega
  · have := h4.1
    omega
  cases l with
  | nil => exfalso; have h1 : row + ((0 : Nat) : Int) = ((jP J p).1.length : Int) := h1; omega
  | cons x l =>
  rw [List.length_cons] at h1
  obtain ⟨⟨f1, f2⟩, f3, f4, f5⟩ := h3
  rw [cm, f1] at eT1
  rw [cm, show (at_ + 1).toNat = at_.toNat + 1 by omega, f2] at eA1
  subst eT1 eA1
  have e0 : e.1 = 0 := by have := h4.1; omega
  rw [if_pos e0] at h5
  have xin := hin x List.mem_cons_self
  have xok := ok p h0 x xin
  have st : goR (gpJ J d q 12) (tsT J p d q) (x :: l) e.2 = cIf (∀ t ∈ x.1, tsT J p d q t e.2.2) (if (doA (gpJ J d q 12) x.2 e.2).1 = 0 then goR (gpJ J d q 12) (tsT J p d q) l (doA (gpJ J d q 12) x.2 e.2).2 else doA (gpJ J d q 12) x.2 e.2) (goR (gpJ J d q 12) (tsT J p d q) l e.2) := rfl
  have j0 : jsC m a (0, e.2) := ⟨h4.1.trans e0, h4.2⟩
  have f5' : rwsC (w.2.2.1 cf) (μ c') (μ cf) (μ cl) (at_ + 2 + (x.1.length : Int) * 5 + (x.2.length : Int) * 2).toNat l := by
    rw [show (at_ + 2 + (x.1.length : Int) * 5 + (x.2.length : Int) * 2).toNat = at_.toNat + 2 + 5 * x.1.length + 2 * x.2.length by omega]
    exact f5
  have J3 : ∀ so : Int, (so = 0 → ¬ ∀ t ∈ x.1, tsT J p d q t e.2.2) → (¬ so = 0 → ∀ t ∈ x.1, tsT J p d q t e.2.2) → WJ_X1_goThrough_W9_3 w p2 c' rc at_ row m (x.1.length : Int) (x.2.length : Int) so := by
    intro so n0 n1
    refine ⟨fun c0 => ih _ _ _ ⟨by omega, fr, l, e, by omega, by omega, fun y hy => hin y (List.mem_cons_of_mem _ hy), f5', h4, ?_⟩ (by omega), fun c0 => ?_⟩
    · rw [if_pos e0, h5, st, cIf.neg (n0 c0)]
    · refine X1_doActs_9_s (pos := at_.toNat + 2 + 5 * x.1.length) (al := x.2) hw ok jm hA.1.2.1 (by omega) (by rw [cm]; exact f4) rfl (fun y hy => ?_) j0 fun m2 j2 fr2 _ _ => ih _ _ _ ⟨by omega, fr.trans fr2, l, _, by omega, by omega, fun y hy => hin y (List.mem_cons_of_mem _ hy), f5', j2, ?_⟩ (by omega)
      · have o := xok.2 y hy
        exact ⟨fun h => (o.2.2.1 h).1, fun h => by have := o.2.2.2 h; exact ⟨this.1, by omega, by rw [n8]; omega⟩⟩
      · rw [h5, st, cIf.pos (n1 c0)]
  refine loopF.ii (fun so i => ∃ pre rest : List Tst, x.1 = pre ++ rest ∧ i = at_ + 2 + 5 * (pre.length : Int) ∧ tsAC (w.2.2.1 cf) (μ c') (μ cf) (μ cl) i.toNat rest ∧ (so = 0 → ¬ ∀ t ∈ x.1, tsT J p d q t e.2.2) ∧ (¬ so = 0 → ∀ t ∈ pre, tsT J p d q t e.2.2)) (fun _ i => (2011 - i).toNat) ⟨[], x.1, rfl, by show at_ + 2 = at_ + 2 + 5 * ((0 : Nat) : Int); omega, by rw [show (at_ + 2).toNat = at_.toNat + 2 by omega]; exact f3, fun h => absurd h (by decide), fun _ t ht => by cases ht⟩ (by omega) ?_
  rintro rc2 so i ⟨pre, rest, g1, g2, g3, g4, g5⟩ ih2 so' i' ee2 rso ri2
  cases ee2
  have len : x.1.length = pre.length + rest.length := by rw [g1, List.length_append]
  refine ⟨fun u => J3 so g4 fun n0 => ?_, fun u => ⟨fun u2 => J3 so g4 fun n0 => absurd u2 n0, fun u2 => ?_⟩⟩
  · cases rest with
    | nil => rw [List.append_nil] at g1; rw [g1]; exact g5 n0
    | cons t l => exfalso; rw [List.length_cons] at len; omega
  cases rest with
  | nil => exfalso; have len : x.1.length = pre.length + 0 := len; omega
  | cons t rest =>
  obtain ⟨k1, k2⟩ := g3
  have tin : t ∈ x.1 := by rw [g1]; exact List.mem_append_right _ List.mem_cons_self
  obtain ⟨iN, hiN⟩ : ∃ iN : Nat, i = (iN : Int) := ⟨i.toNat, by omega⟩
  subst hiN
  rw [Int.toNat_natCast] at k1 k2
  refine X1_isSo_s (J := J) (p := p) (d := d) (q := q) (a := a) (t := t) (r := e.2.2) hAm hNm (by rw [cm, fm, lm]; exact k1) (xok.1 t tin) jm.1.2.1 jm.1.2.2 jm.2.2.2.1 jm.2.2.2.2.1 jm.2.2.2.2.2.1 jm.2.2.2.2.2.2 h4.2.2.1 fun z hz _ v ev rv => ?_
  have vt : v = t.2.1 := by
    rw [← ev, cm, show ((iN : Int) + 1).toNat = iN + 1 by omega]
    exact k1.2.1
  have ts1 : ¬ v = 1 → (tsT J p d q t e.2.2 ↔ z = 1) := fun hv => ⟨fun h => Classical.byContradiction fun c => h ⟨fun i => absurd (hz.mpr i) c, fun i => absurd (vt.trans i) hv⟩, fun h i => hv (vt.trans (i.mp (hz.mp h)))⟩
  have ts2 : v = 1 → (tsT J p d q t e.2.2 ↔ ¬ z = 1) := fun hv => ⟨fun h c => h ⟨fun _ => vt.symm.trans hv, fun _ => hz.mp c⟩, fun h i => h (hz.mpr (i.mpr (vt.symm.trans hv)))⟩
  have nxt : ∀ so' : Int, (so' = 0 → ¬ tsT J p d q t e.2.2) → (¬ so' = 0 → tsT J p d q t e.2.2) → rc2 (so', (iN : Int) + 5) := fun so' a0 a1 => ih2 _ _ ⟨pre ++ [t], rest, by rw [g1, List.append_assoc]; rfl, by rw [List.length_append, List.length_singleton]; omega, by rw [show ((iN : Int) + 5).toNat = iN + 5 by omega]; exact k2, fun h all => a0 h (all t tin), fun h t' ht' => by
    rcases List.mem_append.mp ht' with y | y
    · exact g5 u2 t' y
    · rw [List.mem_singleton.mp y]; exact a1 h⟩ (by omega)
  exact ⟨fun c1 => ⟨fun c2 => nxt 0 (fun _ ts => by have := (ts1 c1).mp ts; omega) (fun h => absurd rfl h), fun c2 => nxt 1 (fun h => absurd h (by decide)) (fun _ => (ts1 c1).mpr (by omega))⟩, fun c1 => ⟨fun c2 => nxt 0 (fun _ ts => (ts2 c1).mp ts c2) (fun h => absurd rfl h), fun c2 => nxt 1 (fun h => absurd h (by decide)) (fun _ => (ts2 c1).mpr c2)⟩⟩
theorem X1_doActs_8_s {J : Ju} {a c pos : Nat} {d q pI p3 p4 : Int} {al : List Act} {s : Js} {Q : mM → Prop} (hw : mWF w) (ok : jOk J) (jn : jnC w μ J a d q) (hc : mAt w c 231) (hpos : pI = (pos : Int)) (ha : acC (μ c) pos al) (hn : p3 = (al.length : Int)) (hk : ∀ x ∈ al, (x.1 = 27 → 1 ≤ x.2) ∧ (x.1 = 28 → 0 ≤ x.2 ∧ x.2 + (9) ≤ 11 ∧ x.2 < μ 21 8)) (js : jsC μ a (0, s))
    (k : ∀ m : mM, jsC m a (doA (gpJ J d q 12) al s) → frJd μ m a → Q m) : WP_X1_doActs_W8 w μ c pI p3 p4 Q := by
  subst hpos
  have c21 : c ≠ 21 := mAt.ne (A_21 hw) hc rfl
  intro n en rn
  refine loopF.im (fun i m => ∃ (pre rest : List Act) (e : Je), al = pre ++ rest ∧ i = (pre.length : Int) ∧ acC (μ c) (pos + 2 * pre.length) rest ∧ jsC m a e ∧ frJd μ m a ∧ doA (gpJ J d q 12) al s = (if e.1 = 0 then doA (gpJ J d q 12) rest e.2 else e)) (fun i => (1001 - i).toNat) ⟨[], al, (0, s), rfl, rfl, ha, js, frJd.refl, (if_pos rfl).symm⟩ (by omega) ?_
  rintro rc i m ⟨pre, rest, e, h1, h2, h3, h4, h5, h6⟩ ih i' m' ee ri T F
  cases ee
  subst h2
  have jm := jn.fr hw F
  have cm : m c = μ c := funext fun j => F.f hc rfl rfl
  have n8 : m 21 8 = μ 21 8 := F.f (A_21 hw) rfl rfl
  have fin : rest = [] ∨ ¬ e.1 = 0 → Q m := fun h => k m (by
    have E : doA (gpJ J d q 12) al s = e := by
      rw [h6]
      by_cases c0 : e.1 = 0
      · rw [if_pos c0]
        rcases h with h | h
        · rw [h]; exact Prod.ext c0.symm rfl
        · exact absurd c0 h
      · rw [if_neg c0]
    rw [E]; exact h4) h5
  have len : al.length = pre.length + rest.length := by rw [h1, List.length_append]
  refine ⟨fun g => fin (Or.inl ?_), fun g z ez rz => ⟨fun h => fin (Or.inr ?_), fun h num enum rnum cnt ecnt rcnt => ?_⟩⟩
  · cases rest with
    | nil => rfl
    | cons x l => rw [List.length_cons] at len; omega
  · have := h4.1
    omega
  cases rest with
  | nil => exfalso; have len : al.length = pre.length + 0 := len; omega
  | cons x l =>
  obtain ⟨⟨f1, f2⟩, f3⟩ := h3
  have xin : x ∈ al := by rw [h1]; exact List.mem_append_right _ List.mem_cons_self
  rw [show ((pos : Int) + (pre.length : Int) * 2 + 1).toNat = pos + 2 * pre.length + 1 by omega, cm, f2] at enum
  subst enum
  have e0 : e.1 = 0 := by have := h4.1; omega
  have c1 : e.2.1 = cnt := by have := h4.2.1; omega
  rw [if_pos e0] at h6
  have st : doA (gpJ J d q 12) (x :: l) e.2 = (if 500 ≤ e.2.1 then (2, e.2) else if (actS (gpJ J d q 12) x (e.2.1 + 1, e.2.2)).1 = 0 then doA (gpJ J d q 12) l (actS (gpJ J d q 12) x (e.2.1 + 1, e.2.2)).2 else actS (gpJ J d q 12) x (e.2.1 + 1, e.2.2)) := rfl
  have a21 := jn.2.2.1
  have rtU : ∀ (i : Nat) (v : Int), rtC (mUp m 21 i v) a = rtC m a := fun i v => rtC.of (fun _ => mUp.no (by omega)) (fun _ => mUp.no (by omega)) (fun _ => mUp.no (by omega))
  refine ⟨fun q0 m2 u2 T2 kd ekd rkd => ?_, fun q0 m2 u2 T2 => ?_⟩
  rotate_left 1
  · obtain rfl := u2.is
    refine k _ ?_ (h5.trans fun b i g0 g1 g2 g3 => mUp.no (by omega))
    rw [h6, st, if_pos (by omega)]
    exact ⟨mUp.yes ⟨rfl, rfl⟩, by rw [mUp.no (by omega)]; exact h4.2.1, by rw [rtU]; exact h4.2.2.1, h4.2.2.2⟩
  obtain rfl := u2.is
  rw [show ((pos : Int) + (pre.length : Int) * 2).toNat = pos + 2 * pre.length by omega, mUp.no (by omega), cm, f1] at ekd
  subst ekd
  have j2 : jsC (mUp m 21 6 (cnt + 1)) a (0, e.2.1 + 1, e.2.2) := ⟨by rw [mUp.no (by omega)]; exact h4.1.trans e0, by rw [mUp.yes ⟨rfl, rfl⟩, c1], by rw [rtU]; exact h4.2.2.1, h4.2.2.2⟩
  have r2 : mUp m 21 6 (cnt + 1) 21 2 = (a : Int) := by rw [mUp.no (by omega)]; exact jm.2.2.2.1
  have nx : ∀ m3 : mM, jsC m3 a (actS (gpJ J d q 12) x (e.2.1 + 1, e.2.2)) → frJd (mUp m 21 6 (cnt + 1)) m3 a → rc ((pre.length : Int) + 1, m3) := fun m3 j3 fr3 => ih _ _ ⟨pre ++ [x], l, _, by rw [h1, List.append_assoc]; rfl, by rw [List.length_append, List.length_singleton]; omega, by
    rw [List.length_append, List.length_singleton, show pos + 2 * (pre.length + 1) = pos + 2 * pre.length + 2 by omega]
    exact f3, j3, (h5.trans fun b i g0 g1 g2 g3 => mUp.no (by omega)).trans fr3, by rw [h6, st, if_neg (by omega)]⟩ (by omega)
  have oth : (¬ x.1 = 12 ∧ ¬ x.1 = 13 ∧ ¬ (23 ≤ x.1 ∧ x.1 ≤ 28)) → rc ((pre.length : Int) + 1, mUp m 21 6 (cnt + 1)) := fun h => nx _ (by rw [actS.ot h]; exact j2) frJd.refl
  obtain ⟨gg, er⟩ := rtC.get j2.2.2.1
  have wyr : rowL (mUp m 21 6 (cnt + 1) (a + 1)) (mUp m 21 6 (cnt + 1) a 7).toNat = wOf e.2.2 := by
    have := congrArg wOf er
    exact this.symm
  have mkr : rowL (mUp m 21 6 (cnt + 1) (a + 2)) (mUp m 21 6 (cnt + 1) a 8).toNat = mOf e.2.2 := by
    have := congrArg mOf er
    exact this.symm
  refine ⟨fun g b2 eb2 _ m3 u3 T3 => ?_, fun n12 => ⟨fun g b2 eb2 _ m3 u3 T3 => ?_, fun n13 => ⟨fun g => oth (by omega), fun n14 => ⟨fun g => oth (by omega), fun n15 => ⟨fun g => oth (by omega), fun n16 => ⟨fun g => oth (by omega), fun n17 => ⟨fun g => oth (by omega), fun n18 => ⟨fun g => oth (by omega), fun n19 => ⟨fun g => oth (by omega), fun n20 => ⟨fun g => oth (by omega), fun n21 => ⟨fun g => oth (by omega), fun n22 => ⟨fun g m3 u3 T3 => ?_, fun n23 => ⟨fun g m3 u3 T3 => ?_, fun n24 => ⟨fun g b2 eb2 _ => ?_, fun n25 => ⟨fun g b2 eb2 _ => ?_, fun n26 => ⟨fun g b2 eb2 _ z7 ez7 rz7 => ?_, fun n27 => ⟨fun g => ?_, fun n28 => oth (by omega)⟩⟩⟩⟩⟩⟩⟩⟩⟩⟩⟩⟩⟩⟩⟩⟩⟩
  · have e2 : a = b2 := by omega
    subst e2
    obtain rfl := u3.is
    refine nx _ ?_ (fun b i g0 g1 g2 g3 => mUp.no (by omega))
    rw [actS.a12 g]
    exact ⟨by rw [mUp.no (by omega)]; exact j2.1, by rw [mUp.no (by omega)]; exact j2.2.1, rtC.wish j2.2.2.1, j2.2.2.2⟩
  · have e2 : a = b2 := by omega
    subst e2
    obtain rfl := u3.is
    refine nx _ ?_ (fun b i g0 g1 g2 g3 => mUp.no (by omega))
    rw [actS.a13 g]
    exact ⟨by rw [mUp.no (by omega)]; exact j2.1, by rw [mUp.no (by omega)]; exact j2.2.1, rtC.cost j2.2.2.1, j2.2.2.2⟩
  · obtain rfl := u3.is
    refine nx _ ?_ (fun b i g0 g1 g2 g3 => mUp.no (by omega))
    rw [actS.a23 g]
    exact ⟨mUp.yes ⟨rfl, rfl⟩, by rw [mUp.no (by omega)]; exact j2.2.1, by rw [rtC.of (fun _ => mUp.no (by omega)) (fun _ => mUp.no (by omega)) (fun _ => mUp.no (by omega))]; exact j2.2.2.1, j2.2.2.2⟩
  · obtain rfl := u3.is
    refine nx _ ?_ (fun b i g0 g1 g2 g3 => mUp.no (by omega))
    rw [actS.a24 g]
    exact ⟨mUp.yes ⟨rfl, rfl⟩, by rw [mUp.no (by omega)]; exact j2.2.1, by rw [rtC.of (fun _ => mUp.no (by omega)) (fun _ => mUp.no (by omega)) (fun _ => mUp.no (by omega))]; exact j2.2.2.1, j2.2.2.2⟩
  · have e2 : a = b2 := by omega
    subst e2
    refine X7_addMark_s (by rw [mkr]; exact j2.2.2.2) fun m3 rm f3 _ _ => nx m3 ?_ (fun b i g0 g1 g2 g3 => f3 b i (by omega) g2)
    rw [actS.a25 g]
    rw [mkr] at rm
    exact ⟨by rw [f3 _ _ (by omega) (by omega)]; exact j2.1, by rw [f3 _ _ (by omega) (by omega)]; exact j2.2.1, rtC.mks j2.2.2.1 rm f3, addM.srt j2.2.2.2⟩
  · have e2 : a = b2 := by omega
    subst e2
    refine X7_dropMark_s fun m3 rm f3 _ _ => nx m3 ?_ (fun b i g0 g1 g2 g3 => f3 b i (by omega) g2)
    rw [actS.a26 g]
    rw [mkr] at rm
    exact ⟨by rw [f3 _ _ (by omega) (by omega)]; exact j2.1, by rw [f3 _ _ (by omega) (by omega)]; exact j2.2.1, rtC.mks j2.2.2.1 rm f3, dropM.srt j2.2.2.2⟩
  · have e2 : a = b2 := by omega
    subst e2
    have x27 := (hk x xin).1 g
    have wl : ((wOf e.2.2).length : Int) = z7 := by rw [← wyr, rowL.len, ez7, Int.toNat_of_nonneg rz7.1]
    refine ⟨fun c0 _ _ => nx _ ?_ frJd.refl, fun c0 v ev rv => ?_⟩
    · have wn : wOf e.2.2 = [] := List.eq_nil_of_length_eq_zero (by omega)
      rw [actS.m27 (s := (e.2.1 + 1, e.2.2)) g (moreR.nil (r := e.2.2) wn)]
      exact j2
    have wc : wOf e.2.2 = v :: rowL (fun i => mUp m 21 6 (cnt + 1) (a + 1) (i + 1)) (z7.toNat - 1) := by
      rw [← wyr, ez7, show z7.toNat = (z7.toNat - 1) + 1 by omega, rowL.head, ← ev]
      rfl
    refine X7_putInFront_s (fun h0 _ _ _ => ⟨fun h => absurd rfl h, fun _ m4 u4 T4 _ _ => ?_⟩) fun m3 t0 t1 t2 e7 w1 w2 f3 _ _ _ => ⟨fun _ _ _ => nx m3 ?_ (fun b i g0 g1 g2 g3 => f3 b i (by omega) g1), fun h => absurd h (by decide)⟩
    · obtain rfl := u4.is
      refine nx _ ?_ (fun b i g0 g1 g2 g3 => mUp.no (by omega))
      rw [actS.n27 (s := (e.2.1 + 1, e.2.2)) g (moreR.far (r := e.2.2) (by rw [wc]; exact fun h => by cases h) (by omega))]
      exact ⟨mUp.yes ⟨rfl, rfl⟩, by rw [mUp.no (by omega)]; exact j2.2.1, by rw [rtC.of (fun _ => mUp.no (by omega)) (fun _ => mUp.no (by omega)) (fun _ => mUp.no (by omega))]; exact j2.2.2.1, j2.2.2.2⟩
    · rw [actS.m27 (s := (e.2.1 + 1, e.2.2)) g (moreR.go (r := e.2.2) wc (by omega))]
      exact ⟨by rw [f3 _ _ (by omega) (by omega)]; exact j2.1, by rw [f3 _ _ (by omega) (by omega)]; exact j2.2.1, rtC.front j2.2.2.1 t0 t1 e7 w1 w2 f3, j2.2.2.2⟩
  · have x28 := (hk x xin).2 g
    refine X1_goThrough_9_s hw ok (jn.fr hw (F.up (A_21 hw) mUp_ok rfl)) x28.1 x28.2.1 (by rw [mUp.no (by omega), n8]; exact x28.2.2) j2 fun m3 j3 fr3 _ _ => nx m3 ?_ fr3
    rw [actS.a28 g]
    exact j3
theorem X1_goThrough_8_s {J : Ju} {a : Nat} {d q p p2 : Int} {s : Js} {Q : mM → Prop} (hw : mWF w) (ok : jOk J) (jn : jnC w μ J a d q) (h0 : 0 ≤ p) (hD : p + (8) ≤ 11) (hp : p < μ 21 8) (js : jsC μ a (0, s))
    (k : ∀ m : mM, jsC m a (gpJ J d q 12 p s) → frJd μ m a → Q m) : WP_X1_goThrough_W8 w μ p p2 Q := by
  refine ⟨fun g => absurd g (by omega), fun _ n en rn => ⟨fun g => absurd g (by omega), fun _ b eb _ c ec rows er => ?_⟩⟩
  obtain ⟨b', eb', c', cp, cn, cf, cl, hA, hl, hr, hN⟩ := jn.1.1 p.toNat (by omega)
  rw [Int.toNat_of_nonneg h0] at hl hr hN
  have e1 : b' = b := by omega
  subst e1
  have e2 : c' = c := by have := hA.2.1; omega
  subst e2
  rw [hl] at er
  have RES := gpJ.eq (d := d) (q := q) (s := s) ok h0 (show p < 12 by omega)
  refine loopF.iim (fun at_ row m => 0 ≤ row ∧ frJd μ m a ∧ ∃ (l : List Rw) (e : Je), row + (l.length : Int) = ((jP J p).1.length : Int) ∧ 0 ≤ at_ ∧ (∀ x ∈ l, x ∈ (jP J p).1) ∧ rwsC (w.2.2.1 cf) (μ c') (μ cf) (μ cl) at_.toNat l ∧ jsC m a e ∧ gpJ J d q 12 p s = (if e.1 = 0 then goR (gpJ J d q 12) (tsT J p d q) l e.2 else e)) (fun _ row => (31 - row).toNat) ⟨by omega, frJd.refl, (jP J p).1, (0, s), by omega, by omega, fun _ h => h, hr, js, RES.trans (if_pos rfl).symm⟩ (by omega) ?_
  rintro rc at_ row m ⟨r0, fr, l, e, h1, h2, hin, h3, h4, h5⟩ ih at' row' m' ee hat hrow T F
  cases ee
  have jm := jn.fr hw F
  have cm : m c' = μ c' := funext fun j => F.f hA.1.2.1 rfl rfl
  have fm : m cf = μ cf := funext fun j => F.f hA.1.2.2.2.2.1 rfl rfl
  have lm : m cl = μ cl := funext fun j => F.f hA.1.2.2.2.2.2 rfl rfl
  have hAm : plA w m b' c' cp cn cf cl := ⟨hA.1, F.f hA.1.1 rfl hA.2.1, F.f hA.1.1 rfl hA.2.2.1, F.f hA.1.1 rfl hA.2.2.2.1, F.f hA.1.1 rfl hA.2.2.2.2.1, F.f hA.1.1 rfl hA.2.2.2.2.2⟩
  have hNm : plN w m cp cn (jP J p) := ⟨hN.1, fun k hk => ⟨⟨F.f hA.1.2.2.1 rfl (hN.2 k hk).1.1, by rw [F.f hA.1.2.2.2.1 rfl (rfl : μ cn k = μ cn k)]; exact (hN.2 k hk).1.2⟩, (hN.2 k hk).2⟩⟩
  have n8 : m 21 8 = μ 21 8 := F.f (A_21 hw) rfl rfl
  have fin : l = [] ∨ ¬ e.1 = 0 → Q m := fun h => k m (by
    have E : gpJ J d q 12 p s = e := by
      rw [h5]
      by_cases c0 : e.1 = 0
      · rw [if_pos c0]
        rcases h with h | h
        · rw [h]; exact Prod.ext c0.symm rfl
        · exact absurd c0 h
      · rw [if_neg c0]
    rw [E]; exact h4) fr
  refine ⟨fun g => fin (Or.inl ?_), fun g z ez rz => ⟨fun h => fin (Or.inr ?_), fun h n2 _ _ T1 eT1 _ A1 eA1 _ => ?_⟩⟩
  · cases l with
    | nil => rfl
    | cons x l => rw [List.length_cons] at h1; omega
  · have := h4.1
    omega
  cases l with
  | nil => exfalso; have h1 : row + ((0 : Nat) : Int) = ((jP J p).1.length : Int) := h1; omega
  | cons x l =>
  rw [List.length_cons] at h1
  obtain ⟨⟨f1, f2⟩, f3, f4, f5⟩ := h3
  rw [cm, f1] at eT1
  rw [cm, show (at_ + 1).toNat = at_.toNat + 1 by omega, f2] at eA1
  subst eT1 eA1
  have e0 : e.1 = 0 := by have := h4.1; omega
  rw [if_pos e0] at h5
  have xin := hin x List.mem_cons_self
  have xok := ok p h0 x xin
  have st : goR (gpJ J d q 12) (tsT J p d q) (x :: l) e.2 = cIf (∀ t ∈ x.1, tsT J p d q t e.2.2) (if (doA (gpJ J d q 12) x.2 e.2).1 = 0 then goR (gpJ J d q 12) (tsT J p d q) l (doA (gpJ J d q 12) x.2 e.2).2 else doA (gpJ J d q 12) x.2 e.2) (goR (gpJ J d q 12) (tsT J p d q) l e.2) := rfl
  have j0 : jsC m a (0, e.2) := ⟨h4.1.trans e0, h4.2⟩
  have f5' : rwsC (w.2.2.1 cf) (μ c') (μ cf) (μ cl) (at_ + 2 + (x.1.length : Int) * 5 + (x.2.length : Int) * 2).toNat l := by
    rw [show (at_ + 2 + (x.1.length : Int) * 5 + (x.2.length : Int) * 2).toNat = at_.toNat + 2 + 5 * x.1.length + 2 * x.2.length by omega]
    exact f5
  have J3 : ∀ so : Int, (so = 0 → ¬ ∀ t ∈ x.1, tsT J p d q t e.2.2) → (¬ so = 0 → ∀ t ∈ x.1, tsT J p d q t e.2.2) → WJ_X1_goThrough_W8_3 w p2 c' rc at_ row m (x.1.length : Int) (x.2.length : Int) so := by
    intro so n0 n1
    refine ⟨fun c0 => ih _ _ _ ⟨by omega, fr, l, e, by omega, by omega, fun y hy => hin y (List.mem_cons_of_mem _ hy), f5', h4, ?_⟩ (by omega), fun c0 => ?_⟩
    · rw [if_pos e0, h5, st, cIf.neg (n0 c0)]
    · refine X1_doActs_8_s (pos := at_.toNat + 2 + 5 * x.1.length) (al := x.2) hw ok jm hA.1.2.1 (by omega) (by rw [cm]; exact f4) rfl (fun y hy => ?_) j0 fun m2 j2 fr2 _ _ => ih _ _ _ ⟨by omega, fr.trans fr2, l, _, by omega, by omega, fun y hy => hin y (List.mem_cons_of_mem _ hy), f5', j2, ?_⟩ (by omega)
      · have o := xok.2 y hy
        exact ⟨fun h => (o.2.2.1 h).1, fun h => by have := o.2.2.2 h; exact ⟨this.1, by omega, by rw [n8]; omega⟩⟩
      · rw [h5, st, cIf.pos (n1 c0)]
  refine loopF.ii (fun so i => ∃ pre rest : List Tst, x.1 = pre ++ rest ∧ i = at_ + 2 + 5 * (pre.length : Int) ∧ tsAC (w.2.2.1 cf) (μ c') (μ cf) (μ cl) i.toNat rest ∧ (so = 0 → ¬ ∀ t ∈ x.1, tsT J p d q t e.2.2) ∧ (¬ so = 0 → ∀ t ∈ pre, tsT J p d q t e.2.2)) (fun _ i => (2011 - i).toNat) ⟨[], x.1, rfl, by show at_ + 2 = at_ + 2 + 5 * ((0 : Nat) : Int); omega, by rw [show (at_ + 2).toNat = at_.toNat + 2 by omega]; exact f3, fun h => absurd h (by decide), fun _ t ht => by cases ht⟩ (by omega) ?_
  rintro rc2 so i ⟨pre, rest, g1, g2, g3, g4, g5⟩ ih2 so' i' ee2 rso ri2
  cases ee2
  have len : x.1.length = pre.length + rest.length := by rw [g1, List.length_append]
  refine ⟨fun u => J3 so g4 fun n0 => ?_, fun u => ⟨fun u2 => J3 so g4 fun n0 => absurd u2 n0, fun u2 => ?_⟩⟩
  · cases rest with
    | nil => rw [List.append_nil] at g1; rw [g1]; exact g5 n0
    | cons t l => exfalso; rw [List.length_cons] at len; omega
  cases rest with
  | nil => exfalso; have len : x.1.length = pre.length + 0 := len; omega
  | cons t rest =>
  obtain ⟨k1, k2⟩ := g3
  have tin : t ∈ x.1 := by rw [g1]; exact List.mem_append_right _ List.mem_cons_self
  obtain ⟨iN, hiN⟩ : ∃ iN : Nat, i = (iN : Int) := ⟨i.toNat, by omega⟩
  subst hiN
  rw [Int.toNat_natCast] at k1 k2
  refine X1_isSo_s (J := J) (p := p) (d := d) (q := q) (a := a) (t := t) (r := e.2.2) hAm hNm (by rw [cm, fm, lm]; exact k1) (xok.1 t tin) jm.1.2.1 jm.1.2.2 jm.2.2.2.1 jm.2.2.2.2.1 jm.2.2.2.2.2.1 jm.2.2.2.2.2.2 h4.2.2.1 fun z hz _ v ev rv => ?_
  have vt : v = t.2.1 := by
    rw [← ev, cm, show ((iN : Int) + 1).toNat = iN + 1 by omega]
    exact k1.2.1
  have ts1 : ¬ v = 1 → (tsT J p d q t e.2.2 ↔ z = 1) := fun hv => ⟨fun h => Classical.byContradiction fun c => h ⟨fun i => absurd (hz.mpr i) c, fun i => absurd (vt.trans i) hv⟩, fun h i => hv (vt.trans (i.mp (hz.mp h)))⟩
  have ts2 : v = 1 → (tsT J p d q t e.2.2 ↔ ¬ z = 1) := fun hv => ⟨fun h c => h ⟨fun _ => vt.symm.trans hv, fun _ => hz.mp c⟩, fun h i => h (hz.mpr (i.mpr (vt.symm.trans hv)))⟩
  have nxt : ∀ so' : Int, (so' = 0 → ¬ tsT J p d q t e.2.2) → (¬ so' = 0 → tsT J p d q t e.2.2) → rc2 (so', (iN : Int) + 5) := fun so' a0 a1 => ih2 _ _ ⟨pre ++ [t], rest, by rw [g1, List.append_assoc]; rfl, by rw [List.length_append, List.length_singleton]; omega, by rw [show ((iN : Int) + 5).toNat = iN + 5 by omega]; exact k2, fun h all => a0 h (all t tin), fun h t' ht' => by
    rcases List.mem_append.mp ht' with y | y
    · exact g5 u2 t' y
    · rw [List.mem_singleton.mp y]; exact a1 h⟩ (by omega)
  exact ⟨fun c1 => ⟨fun c2 => nxt 0 (fun _ ts => by have := (ts1 c1).mp ts; omega) (fun h => absurd rfl h), fun c2 => nxt 1 (fun h => absurd h (by decide)) (fun _ => (ts1 c1).mpr (by omega))⟩, fun c1 => ⟨fun c2 => nxt 0 (fun _ ts => (ts2 c1).mp ts c2) (fun h => absurd rfl h), fun c2 => nxt 1 (fun h => absurd h (by decide)) (fun _ => (ts2 c1).mpr c2)⟩⟩
theorem X1_doActs_7_s {J : Ju} {a c pos : Nat} {d q pI p3 p4 : Int} {al : List Act} {s : Js} {Q : mM → Prop} (hw : mWF w) (ok : jOk J) (jn : jnC w μ J a d q) (hc : mAt w c 231) (hpos : pI = (pos : Int)) (ha : acC (μ c) pos al) (hn : p3 = (al.length : Int)) (hk : ∀ x ∈ al, (x.1 = 27 → 1 ≤ x.2) ∧ (x.1 = 28 → 0 ≤ x.2 ∧ x.2 + (8) ≤ 11 ∧ x.2 < μ 21 8)) (js : jsC μ a (0, s))
    (k : ∀ m : mM, jsC m a (doA (gpJ J d q 12) al s) → frJd μ m a → Q m) : WP_X1_doActs_W7 w μ c pI p3 p4 Q := by
  subst hpos
  have c21 : c ≠ 21 := mAt.ne (A_21 hw) hc rfl
  intro n en rn
  refine loopF.im (fun i m => ∃ (pre rest : List Act) (e : Je), al = pre ++ rest ∧ i = (pre.length : Int) ∧ acC (μ c) (pos + 2 * pre.length) rest ∧ jsC m a e ∧ frJd μ m a ∧ doA (gpJ J d q 12) al s = (if e.1 = 0 then doA (gpJ J d q 12) rest e.2 else e)) (fun i => (1001 - i).toNat) ⟨[], al, (0, s), rfl, rfl, ha, js, frJd.refl, (if_pos rfl).symm⟩ (by omega) ?_
  rintro rc i m ⟨pre, rest, e, h1, h2, h3, h4, h5, h6⟩ ih i' m' ee ri T F
  cases ee
  subst h2
  have jm := jn.fr hw F
  have cm : m c = μ c := funext fun j => F.f hc rfl rfl
  have n8 : m 21 8 = μ 21 8 := F.f (A_21 hw) rfl rfl
  have fin : rest = [] ∨ ¬ e.1 = 0 → Q m := fun h => k m (by
    have E : doA (gpJ J d q 12) al s = e := by
      rw [h6]
      by_cases c0 : e.1 = 0
      · rw [if_pos c0]
        rcases h with h | h
        · rw [h]; exact Prod.ext c0.symm rfl
        · exact absurd c0 h
      · rw [if_neg c0]
    rw [E]; exact h4) h5
  have len : al.length = pre.length + rest.length := by rw [h1, List.length_append]
  refine ⟨fun g => fin (Or.inl ?_), fun g z ez rz => ⟨fun h => fin (Or.inr ?_), fun h num enum rnum cnt ecnt rcnt => ?_⟩⟩
  · cases rest with
    | nil => rfl
    | cons x l => rw [List.length_cons] at len; omega
  · have := h4.1
    omega
  cases rest with
  | nil => exfalso; have len : al.length = pre.length + 0 := len; omega
  | cons x l =>
  obtain ⟨⟨f1, f2⟩, f3⟩ := h3
  have xin : x ∈ al := by rw [h1]; exact List.mem_append_right _ List.mem_cons_self
  rw [show ((pos : Int) + (pre.length : Int) * 2 + 1).toNat = pos + 2 * pre.length + 1 by omega, cm, f2] at enum
  subst enum
  have e0 : e.1 = 0 := by have := h4.1; omega
  have c1 : e.2.1 = cnt := by have := h4.2.1; omega
  rw [if_pos e0] at h6
  have st : doA (gpJ J d q 12) (x :: l) e.2 = (if 500 ≤ e.2.1 then (2, e.2) else if (actS (gpJ J d q 12) x (e.2.1 + 1, e.2.2)).1 = 0 then doA (gpJ J d q 12) l (actS (gpJ J d q 12) x (e.2.1 + 1, e.2.2)).2 else actS (gpJ J d q 12) x (e.2.1 + 1, e.2.2)) := rfl
  have a21 := jn.2.2.1
  have rtU : ∀ (i : Nat) (v : Int), rtC (mUp m 21 i v) a = rtC m a := fun i v => rtC.of (fun _ => mUp.no (by omega)) (fun _ => mUp.no (by omega)) (fun _ => mUp.no (by omega))
  refine ⟨fun q0 m2 u2 T2 kd ekd rkd => ?_, fun q0 m2 u2 T2 => ?_⟩
  rotate_left 1
  · obtain rfl := u2.is
    refine k _ ?_ (h5.trans fun b i g0 g1 g2 g3 => mUp.no (by omega))
    rw [h6, st, if_pos (by omega)]
    exact ⟨mUp.yes ⟨rfl, rfl⟩, by rw [mUp.no (by omega)]; exact h4.2.1, by rw [rtU]; exact h4.2.2.1, h4.2.2.2⟩
  obtain rfl := u2.is
  rw [show ((pos : Int) + (pre.length : Int) * 2).toNat = pos + 2 * pre.length by omega, mUp.no (by omega), cm, f1] at ekd
  subst ekd
  have j2 : jsC (mUp m 21 6 (cnt + 1)) a (0, e.2.1 + 1, e.2.2) := ⟨by rw [mUp.no (by omega)]; exact h4.1.trans e0, by rw [mUp.yes ⟨rfl, rfl⟩, c1], by rw [rtU]; exact h4.2.2.1, h4.2.2.2⟩
  have r2 : mUp m 21 6 (cnt + 1) 21 2 = (a : Int) := by rw [mUp.no (by omega)]; exact jm.2.2.2.1
  have nx : ∀ m3 : mM, jsC m3 a (actS (gpJ J d q 12) x (e.2.1 + 1, e.2.2)) → frJd (mUp m 21 6 (cnt + 1)) m3 a → rc ((pre.length : Int) + 1, m3) := fun m3 j3 fr3 => ih _ _ ⟨pre ++ [x], l, _, by rw [h1, List.append_assoc]; rfl, by rw [List.length_append, List.length_singleton]; omega, by
    rw [List.length_append, List.length_singleton, show pos + 2 * (pre.length + 1) = pos + 2 * pre.length + 2 by omega]
    exact f3, j3, (h5.trans fun b i g0 g1 g2 g3 => mUp.no (by omega)).trans fr3, by rw [h6, st, if_neg (by omega)]⟩ (by omega)
  have oth : (¬ x.1 = 12 ∧ ¬ x.1 = 13 ∧ ¬ (23 ≤ x.1 ∧ x.1 ≤ 28)) → rc ((pre.length : Int) + 1, mUp m 21 6 (cnt + 1)) := fun h => nx _ (by rw [actS.ot h]; exact j2) frJd.refl
  obtain ⟨gg, er⟩ := rtC.get j2.2.2.1
  have wyr : rowL (mUp m 21 6 (cnt + 1) (a + 1)) (mUp m 21 6 (cnt + 1) a 7).toNat = wOf e.2.2 := by
    have := congrArg wOf er
    exact this.symm
  have mkr : rowL (mUp m 21 6 (cnt + 1) (a + 2)) (mUp m 21 6 (cnt + 1) a 8).toNat = mOf e.2.2 := by
    have := congrArg mOf er
    exact this.symm
  refine ⟨fun g b2 eb2 _ m3 u3 T3 => ?_, fun n12 => ⟨fun g b2 eb2 _ m3 u3 T3 => ?_, fun n13 => ⟨fun g => oth (by omega), fun n14 => ⟨fun g => oth (by omega), fun n15 => ⟨fun g => oth (by omega), fun n16 => ⟨fun g => oth (by omega), fun n17 => ⟨fun g => oth (by omega), fun n18 => ⟨fun g => oth (by omega), fun n19 => ⟨fun g => oth (by omega), fun n20 => ⟨fun g => oth (by omega), fun n21 => ⟨fun g => oth (by omega), fun n22 => ⟨fun g m3 u3 T3 => ?_, fun n23 => ⟨fun g m3 u3 T3 => ?_, fun n24 => ⟨fun g b2 eb2 _ => ?_, fun n25 => ⟨fun g b2 eb2 _ => ?_, fun n26 => ⟨fun g b2 eb2 _ z7 ez7 rz7 => ?_, fun n27 => ⟨fun g => ?_, fun n28 => oth (by omega)⟩⟩⟩⟩⟩⟩⟩⟩⟩⟩⟩⟩⟩⟩⟩⟩⟩
  · have e2 : a = b2 := by omega
    subst e2
    obtain rfl := u3.is
    refine nx _ ?_ (fun b i g0 g1 g2 g3 => mUp.no (by omega))
    rw [actS.a12 g]
    exact ⟨by rw [mUp.no (by omega)]; exact j2.1, by rw [mUp.no (by omega)]; exact j2.2.1, rtC.wish j2.2.2.1, j2.2.2.2⟩
  · have e2 : a = b2 := by omega
    subst e2
    obtain rfl := u3.is
    refine nx _ ?_ (fun b i g0 g1 g2 g3 => mUp.no (by omega))
    rw [actS.a13 g]
    exact ⟨by rw [mUp.no (by omega)]; exact j2.1, by rw [mUp.no (by omega)]; exact j2.2.1, rtC.cost j2.2.2.1, j2.2.2.2⟩
  · obtain rfl := u3.is
    refine nx _ ?_ (fun b i g0 g1 g2 g3 => mUp.no (by omega))
    rw [actS.a23 g]
    exact ⟨mUp.yes ⟨rfl, rfl⟩, by rw [mUp.no (by omega)]; exact j2.2.1, by rw [rtC.of (fun _ => mUp.no (by omega)) (fun _ => mUp.no (by omega)) (fun _ => mUp.no (by omega))]; exact j2.2.2.1, j2.2.2.2⟩
  · obtain rfl := u3.is
    refine nx _ ?_ (fun b i g0 g1 g2 g3 => mUp.no (by omega))
    rw [actS.a24 g]
    exact ⟨mUp.yes ⟨rfl, rfl⟩, by rw [mUp.no (by omega)]; exact j2.2.1, by rw [rtC.of (fun _ => mUp.no (by omega)) (fun _ => mUp.no (by omega)) (fun _ => mUp.no (by omega))]; exact j2.2.2.1, j2.2.2.2⟩
  · have e2 : a = b2 := by omega
    subst e2
    refine X7_addMark_s (by rw [mkr]; exact j2.2.2.2) fun m3 rm f3 _ _ => nx m3 ?_ (fun b i g0 g1 g2 g3 => f3 b i (by omega) g2)
    rw [actS.a25 g]
    rw [mkr] at rm
    exact ⟨by rw [f3 _ _ (by omega) (by omega)]; exact j2.1, by rw [f3 _ _ (by omega) (by omega)]; exact j2.2.1, rtC.mks j2.2.2.1 rm f3, addM.srt j2.2.2.2⟩
  · have e2 : a = b2 := by omega
    subst e2
    refine X7_dropMark_s fun m3 rm f3 _ _ => nx m3 ?_ (fun b i g0 g1 g2 g3 => f3 b i (by omega) g2)
    rw [actS.a26 g]
    rw [mkr] at rm
    exact ⟨by rw [f3 _ _ (by omega) (by omega)]; exact j2.1, by rw [f3 _ _ (by omega) (by omega)]; exact j2.2.1, rtC.mks j2.2.2.1 rm f3, dropM.srt j2.2.2.2⟩
  · have e2 : a = b2 := by omega
    subst e2
    have x27 := (hk x xin).1 g
    have wl : ((wOf e.2.2).length : Int) = z7 := by rw [← wyr, rowL.len, ez7, Int.toNat_of_nonneg rz7.1]
    refine ⟨fun c0 _ _ => nx _ ?_ frJd.refl, fun c0 v ev rv => ?_⟩
    · have wn : wOf e.2.2 = [] := List.eq_nil_of_length_eq_zero (by omega)
      rw [actS.m27 (s := (e.2.1 + 1, e.2.2)) g (moreR.nil (r := e.2.2) wn)]
      exact j2
    have wc : wOf e.2.2 = v :: rowL (fun i => mUp m 21 6 (cnt + 1) (a + 1) (i + 1)) (z7.toNat - 1) := by
      rw [← wyr, ez7, show z7.toNat = (z7.toNat - 1) + 1 by omega, rowL.head, ← ev]
      rfl
    refine X7_putInFront_s (fun h0 _ _ _ => ⟨fun h => absurd rfl h, fun _ m4 u4 T4 _ _ => ?_⟩) fun m3 t0 t1 t2 e7 w1 w2 f3 _ _ _ => ⟨fun _ _ _ => nx m3 ?_ (fun b i g0 g1 g2 g3 => f3 b i (by omega) g1), fun h => absurd h (by decide)⟩
    · obtain rfl := u4.is
      refine nx _ ?_ (fun b i g0 g1 g2 g3 => mUp.no (by omega))
      rw [actS.n27 (s := (e.2.1 + 1, e.2.2)) g (moreR.far (r := e.2.2) (by rw [wc]; exact fun h => by cases h) (by omega))]
      exact ⟨mUp.yes ⟨rfl, rfl⟩, by rw [mUp.no (by omega)]; exact j2.2.1, by rw [rtC.of (fun _ => mUp.no (by omega)) (fun _ => mUp.no (by omega)) (fun _ => mUp.no (by omega))]; exact j2.2.2.1, j2.2.2.2⟩
    · rw [actS.m27 (s := (e.2.1 + 1, e.2.2)) g (moreR.go (r := e.2.2) wc (by omega))]
      exact ⟨by rw [f3 _ _ (by omega) (by omega)]; exact j2.1, by rw [f3 _ _ (by omega) (by omega)]; exact j2.2.1, rtC.front j2.2.2.1 t0 t1 e7 w1 w2 f3, j2.2.2.2⟩
  · have x28 := (hk x xin).2 g
    refine X1_goThrough_8_s hw ok (jn.fr hw (F.up (A_21 hw) mUp_ok rfl)) x28.1 x28.2.1 (by rw [mUp.no (by omega), n8]; exact x28.2.2) j2 fun m3 j3 fr3 _ _ => nx m3 ?_ fr3
    rw [actS.a28 g]
    exact j3
theorem X1_goThrough_7_s {J : Ju} {a : Nat} {d q p p2 : Int} {s : Js} {Q : mM → Prop} (hw : mWF w) (ok : jOk J) (jn : jnC w μ J a d q) (h0 : 0 ≤ p) (hD : p + (7) ≤ 11) (hp : p < μ 21 8) (js : jsC μ a (0, s))
    (k : ∀ m : mM, jsC m a (gpJ J d q 12 p s) → frJd μ m a → Q m) : WP_X1_goThrough_W7 w μ p p2 Q := by
  refine ⟨fun g => absurd g (by omega), fun _ n en rn => ⟨fun g => absurd g (by omega), fun _ b eb _ c ec rows er => ?_⟩⟩
  obtain ⟨b', eb', c', cp, cn, cf, cl, hA, hl, hr, hN⟩ := jn.1.1 p.toNat (by omega)
  rw [Int.toNat_of_nonneg h0] at hl hr hN
  have e1 : b' = b := by omega
  subst e1
  have e2 : c' = c := by have := hA.2.1; omega
  subst e2
  rw [hl] at er
  have RES := gpJ.eq (d := d) (q := q) (s := s) ok h0 (show p < 12 by omega)
  refine loopF.iim (fun at_ row m => 0 ≤ row ∧ frJd μ m a ∧ ∃ (l : List Rw) (e : Je), row + (l.length : Int) = ((jP J p).1.length : Int) ∧ 0 ≤ at_ ∧ (∀ x ∈ l, x ∈ (jP J p).1) ∧ rwsC (w.2.2.1 cf) (μ c') (μ cf) (μ cl) at_.toNat l ∧ jsC m a e ∧ gpJ J d q 12 p s = (if e.1 = 0 then goR (gpJ J d q 12) (tsT J p d q) l e.2 else e)) (fun _ row => (31 - row).toNat) ⟨by omega, frJd.refl, (jP J p).1, (0, s), by omega, by omega, fun _ h => h, hr, js, RES.trans (if_pos rfl).symm⟩ (by omega) ?_
  rintro rc at_ row m ⟨r0, fr, l, e, h1, h2, hin, h3, h4, h5⟩ ih at' row' m' ee hat hrow T F
  cases ee
  have jm := jn.fr hw F
  have cm : m c' = μ c' := funext fun j => F.f hA.1.2.1 rfl rfl
  have fm : m cf = μ cf := funext fun j => F.f hA.1.2.2.2.2.1 rfl rfl
  have lm : m cl = μ cl := funext fun j => F.f hA.1.2.2.2.2.2 rfl rfl
  have hAm : plA w m b' c' cp cn cf cl := ⟨hA.1, F.f hA.1.1 rfl hA.2.1, F.f hA.1.1 rfl hA.2.2.1, F.f hA.1.1 rfl hA.2.2.2.1, F.f hA.1.1 rfl hA.2.2.2.2.1, F.f hA.1.1 rfl hA.2.2.2.2.2⟩
  have hNm : plN w m cp cn (jP J p) := ⟨hN.1, fun k hk => ⟨⟨F.f hA.1.2.2.1 rfl (hN.2 k hk).1.1, by rw [F.f hA.1.2.2.2.1 rfl (rfl : μ cn k = μ cn k)]; exact (hN.2 k hk).1.2⟩, (hN.2 k hk).2⟩⟩
  have n8 : m 21 8 = μ 21 8 := F.f (A_21 hw) rfl rfl
  have fin : l = [] ∨ ¬ e.1 = 0 → Q m := fun h => k m (by
    have E : gpJ J d q 12 p s = e := by
      rw [h5]
      by_cases c0 : e.1 = 0
      · rw [if_pos c0]
        rcases h with h | h
        · rw [h]; exact Prod.ext c0.symm rfl
        · exact absurd c0 h
      · rw [if_neg c0]
    rw [E]; exact h4) fr
  refine ⟨fun g => fin (Or.inl ?_), fun g z ez rz => ⟨fun h => fin (Or.inr ?_), fun h n2 _ _ T1 eT1 _ A1 eA1 _ => ?_⟩⟩
  · cases l with
    | nil => rfl
    | cons x l => rw [List.length_cons] at h1; omega
  · have := h4.1
    omega
  cases l with
  | nil => exfalso; have h1 : row + ((0 : Nat) : Int) = ((jP J p).1.length : Int) := h1; omega
  | cons x l =>
  rw [List.length_cons] at h1
  obtain ⟨⟨f1, f2⟩, f3, f4, f5⟩ := h3
  rw [cm, f1] at eT1
  rw [cm, show (at_ + 1).toNat = at_.toNat + 1 by omega, f2] at eA1
  subst eT1 eA1
  have e0 : e.1 = 0 := by have := h4.1; omega
  rw [if_pos e0] at h5
  have xin := hin x List.mem_cons_self
  have xok := ok p h0 x xin
  have st : goR (gpJ J d q 12) (tsT J p d q) (x :: l) e.2 = cIf (∀ t ∈ x.1, tsT J p d q t e.2.2) (if (doA (gpJ J d q 12) x.2 e.2).1 = 0 then goR (gpJ J d q 12) (tsT J p d q) l (doA (gpJ J d q 12) x.2 e.2).2 else doA (gpJ J d q 12) x.2 e.2) (goR (gpJ J d q 12) (tsT J p d q) l e.2) := rfl
  have j0 : jsC m a (0, e.2) := ⟨h4.1.trans e0, h4.2⟩
  have f5' : rwsC (w.2.2.1 cf) (μ c') (μ cf) (μ cl) (at_ + 2 + (x.1.length : Int) * 5 + (x.2.length : Int) * 2).toNat l := by
    rw [show (at_ + 2 + (x.1.length : Int) * 5 + (x.2.length : Int) * 2).toNat = at_.toNat + 2 + 5 * x.1.length + 2 * x.2.length by omega]
    exact f5
  have J3 : ∀ so : Int, (so = 0 → ¬ ∀ t ∈ x.1, tsT J p d q t e.2.2) → (¬ so = 0 → ∀ t ∈ x.1, tsT J p d q t e.2.2) → WJ_X1_goThrough_W7_3 w p2 c' rc at_ row m (x.1.length : Int) (x.2.length : Int) so := by
    intro so n0 n1
    refine ⟨fun c0 => ih _ _ _ ⟨by omega, fr, l, e, by omega, by omega, fun y hy => hin y (List.mem_cons_of_mem _ hy), f5', h4, ?_⟩ (by omega), fun c0 => ?_⟩
    · rw [if_pos e0, h5, st, cIf.neg (n0 c0)]
    · refine X1_doActs_7_s (pos := at_.toNat + 2 + 5 * x.1.length) (al := x.2) hw ok jm hA.1.2.1 (by omega) (by rw [cm]; exact f4) rfl (fun y hy => ?_) j0 fun m2 j2 fr2 _ _ => ih _ _ _ ⟨by omega, fr.trans fr2, l, _, by omega, by omega, fun y hy => hin y (List.mem_cons_of_mem _ hy), f5', j2, ?_⟩ (by omega)
      · have o := xok.2 y hy
        exact ⟨fun h => (o.2.2.1 h).1, fun h => by have := o.2.2.2 h; exact ⟨this.1, by omega, by rw [n8]; omega⟩⟩
      · rw [h5, st, cIf.pos (n1 c0)]
  refine loopF.ii (fun so i => ∃ pre rest : List Tst, x.1 = pre ++ rest ∧ i = at_ + 2 + 5 * (pre.length : Int) ∧ tsAC (w.2.2.1 cf) (μ c') (μ cf) (μ cl) i.toNat rest ∧ (so = 0 → ¬ ∀ t ∈ x.1, tsT J p d q t e.2.2) ∧ (¬ so = 0 → ∀ t ∈ pre, tsT J p d q t e.2.2)) (fun _ i => (2011 - i).toNat) ⟨[], x.1, rfl, by show at_ + 2 = at_ + 2 + 5 * ((0 : Nat) : Int); omega, by rw [show (at_ + 2).toNat = at_.toNat + 2 by omega]; exact f3, fun h => absurd h (by decide), fun _ t ht => by cases ht⟩ (by omega) ?_
  rintro rc2 so i ⟨pre, rest, g1, g2, g3, g4, g5⟩ ih2 so' i' ee2 rso ri2
  cases ee2
  have len : x.1.length = pre.length + rest.length := by rw [g1, List.length_append]
  refine ⟨fun u => J3 so g4 fun n0 => ?_, fun u => ⟨fun u2 => J3 so g4 fun n0 => absurd u2 n0, fun u2 => ?_⟩⟩
  · cases rest with
    | nil => rw [List.append_nil] at g1; rw [g1]; exact g5 n0
    | cons t l => exfalso; rw [List.length_cons] at len; omega
  cases rest with
  | nil => exfalso; have len : x.1.length = pre.length + 0 := len; omega
  | cons t rest =>
  obtain ⟨k1, k2⟩ := g3
  have tin : t ∈ x.1 := by rw [g1]; exact List.mem_append_right _ List.mem_cons_self
  obtain ⟨iN, hiN⟩ : ∃ iN : Nat, i = (iN : Int) := ⟨i.toNat, by omega⟩
  subst hiN
  rw [Int.toNat_natCast] at k1 k2
  refine X1_isSo_s (J := J) (p := p) (d := d) (q := q) (a := a) (t := t) (r := e.2.2) hAm hNm (by rw [cm, fm, lm]; exact k1) (xok.1 t tin) jm.1.2.1 jm.1.2.2 jm.2.2.2.1 jm.2.2.2.2.1 jm.2.2.2.2.2.1 jm.2.2.2.2.2.2 h4.2.2.1 fun z hz _ v ev rv => ?_
  have vt : v = t.2.1 := by
    rw [← ev, cm, show ((iN : Int) + 1).toNat = iN + 1 by omega]
    exact k1.2.1
  have ts1 : ¬ v = 1 → (tsT J p d q t e.2.2 ↔ z = 1) := fun hv => ⟨fun h => Classical.byContradiction fun c => h ⟨fun i => absurd (hz.mpr i) c, fun i => absurd (vt.trans i) hv⟩, fun h i => hv (vt.trans (i.mp (hz.mp h)))⟩
  have ts2 : v = 1 → (tsT J p d q t e.2.2 ↔ ¬ z = 1) := fun hv => ⟨fun h c => h ⟨fun _ => vt.symm.trans hv, fun _ => hz.mp c⟩, fun h i => h (hz.mpr (i.mpr (vt.symm.trans hv)))⟩
  have nxt : ∀ so' : Int, (so' = 0 → ¬ tsT J p d q t e.2.2) → (¬ so' = 0 → tsT J p d q t e.2.2) → rc2 (so', (iN : Int) + 5) := fun so' a0 a1 => ih2 _ _ ⟨pre ++ [t], rest, by rw [g1, List.append_assoc]; rfl, by rw [List.length_append, List.length_singleton]; omega, by rw [show ((iN : Int) + 5).toNat = iN + 5 by omega]; exact k2, fun h all => a0 h (all t tin), fun h t' ht' => by
    rcases List.mem_append.mp ht' with y | y
    · exact g5 u2 t' y
    · rw [List.mem_singleton.mp y]; exact a1 h⟩ (by omega)
  exact ⟨fun c1 => ⟨fun c2 => nxt 0 (fun _ ts => by have := (ts1 c1).mp ts; omega) (fun h => absurd rfl h), fun c2 => nxt 1 (fun h => absurd h (by decide)) (fun _ => (ts1 c1).mpr (by omega))⟩, fun c1 => ⟨fun c2 => nxt 0 (fun _ ts => (ts2 c1).mp ts c2) (fun h => absurd rfl h), fun c2 => nxt 1 (fun h => absurd h (by decide)) (fun _ => (ts2 c1).mpr c2)⟩⟩
theorem X1_doActs_6_s {J : Ju} {a c pos : Nat} {d q pI p3 p4 : Int} {al : List Act} {s : Js} {Q : mM → Prop} (hw : mWF w) (ok : jOk J) (jn : jnC w μ J a d q) (hc : mAt w c 231) (hpos : pI = (pos : Int)) (ha : acC (μ c) pos al) (hn : p3 = (al.length : Int)) (hk : ∀ x ∈ al, (x.1 = 27 → 1 ≤ x.2) ∧ (x.1 = 28 → 0 ≤ x.2 ∧ x.2 + (7) ≤ 11 ∧ x.2 < μ 21 8)) (js : jsC μ a (0, s))
    (k : ∀ m : mM, jsC m a (doA (gpJ J d q 12) al s) → frJd μ m a → Q m) : WP_X1_doActs_W6 w μ c pI p3 p4 Q := by
  subst hpos
  have c21 : c ≠ 21 := mAt.ne (A_21 hw) hc rfl
  intro n en rn
  refine loopF.im (fun i m => ∃ (pre rest : List Act) (e : Je), al = pre ++ rest ∧ i = (pre.length : Int) ∧ acC (μ c) (pos + 2 * pre.length) rest ∧ jsC m a e ∧ frJd μ m a ∧ doA (gpJ J d q 12) al s = (if e.1 = 0 then doA (gpJ J d q 12) rest e.2 else e)) (fun i => (1001 - i).toNat) ⟨[], al, (0, s), rfl, rfl, ha, js, frJd.refl, (if_pos rfl).symm⟩ (by omega) ?_
  rintro rc i m ⟨pre, rest, e, h1, h2, h3, h4, h5, h6⟩ ih i' m' ee ri T F
  cases ee
  subst h2
  have jm := jn.fr hw F
  have cm : m c = μ c := funext fun j => F.f hc rfl rfl
  have n8 : m 21 8 = μ 21 8 := F.f (A_21 hw) rfl rfl
  have fin : rest = [] ∨ ¬ e.1 = 0 → Q m := fun h => k m (by
    have E : doA (gpJ J d q 12) al s = e := by
      rw [h6]
      by_cases c0 : e.1 = 0
      · rw [if_pos c0]
        rcases h with h | h
        · rw [h]; exact Prod.ext c0.symm rfl
        · exact absurd c0 h
      · rw [if_neg c0]
    rw [E]; exact h4) h5
  have len : al.length = pre.length + rest.length := by rw [h1, List.length_append]
  refine ⟨fun g => fin (Or.inl ?_), fun g z ez rz => ⟨fun h => fin (Or.inr ?_), fun h num enum rnum cnt ecnt rcnt => ?_⟩⟩
  · cases rest with
    | nil => rfl
    | cons x l => rw [List.length_cons] at len; omega
  · have := h4.1
    omega
  cases rest with
  | nil => exfalso; have len : al.length = pre.length + 0 := len; omega
  | cons x l =>
  obtain ⟨⟨f1, f2⟩, f3⟩ := h3
  have xin : x ∈ al := by rw [h1]; exact List.mem_append_right _ List.mem_cons_self
  rw [show ((pos : Int) + (pre.length : Int) * 2 + 1).toNat = pos + 2 * pre.length + 1 by omega, cm, f2] at enum
  subst enum
  have e0 : e.1 = 0 := by have := h4.1; omega
  have c1 : e.2.1 = cnt := by have := h4.2.1; omega
  rw [if_pos e0] at h6
  have st : doA (gpJ J d q 12) (x :: l) e.2 = (if 500 ≤ e.2.1 then (2, e.2) else if (actS (gpJ J d q 12) x (e.2.1 + 1, e.2.2)).1 = 0 then doA (gpJ J d q 12) l (actS (gpJ J d q 12) x (e.2.1 + 1, e.2.2)).2 else actS (gpJ J d q 12) x (e.2.1 + 1, e.2.2)) := rfl
  have a21 := jn.2.2.1
  have rtU : ∀ (i : Nat) (v : Int), rtC (mUp m 21 i v) a = rtC m a := fun i v => rtC.of (fun _ => mUp.no (by omega)) (fun _ => mUp.no (by omega)) (fun _ => mUp.no (by omega))
  refine ⟨fun q0 m2 u2 T2 kd ekd rkd => ?_, fun q0 m2 u2 T2 => ?_⟩
  rotate_left 1
  · obtain rfl := u2.is
    refine k _ ?_ (h5.trans fun b i g0 g1 g2 g3 => mUp.no (by omega))
    rw [h6, st, if_pos (by omega)]
    exact ⟨mUp.yes ⟨rfl, rfl⟩, by rw [mUp.no (by omega)]; exact h4.2.1, by rw [rtU]; exact h4.2.2.1, h4.2.2.2⟩
  obtain rfl := u2.is
  rw [show ((pos : Int) + (pre.length : Int) * 2).toNat = pos + 2 * pre.length by omega, mUp.no (by omega), cm, f1] at ekd
  subst ekd
  have j2 : jsC (mUp m 21 6 (cnt + 1)) a (0, e.2.1 + 1, e.2.2) := ⟨by rw [mUp.no (by omega)]; exact h4.1.trans e0, by rw [mUp.yes ⟨rfl, rfl⟩, c1], by rw [rtU]; exact h4.2.2.1, h4.2.2.2⟩
  have r2 : mUp m 21 6 (cnt + 1) 21 2 = (a : Int) := by rw [mUp.no (by omega)]; exact jm.2.2.2.1
  have nx : ∀ m3 : mM, jsC m3 a (actS (gpJ J d q 12) x (e.2.1 + 1, e.2.2)) → frJd (mUp m 21 6 (cnt + 1)) m3 a → rc ((pre.length : Int) + 1, m3) := fun m3 j3 fr3 => ih _ _ ⟨pre ++ [x], l, _, by rw [h1, List.append_assoc]; rfl, by rw [List.length_append, List.length_singleton]; omega, by
    rw [List.length_append, List.length_singleton, show pos + 2 * (pre.length + 1) = pos + 2 * pre.length + 2 by omega]
    exact f3, j3, (h5.trans fun b i g0 g1 g2 g3 => mUp.no (by omega)).trans fr3, by rw [h6, st, if_neg (by omega)]⟩ (by omega)
  have oth : (¬ x.1 = 12 ∧ ¬ x.1 = 13 ∧ ¬ (23 ≤ x.1 ∧ x.1 ≤ 28)) → rc ((pre.length : Int) + 1, mUp m 21 6 (cnt + 1)) := fun h => nx _ (by rw [actS.ot h]; exact j2) frJd.refl
  obtain ⟨gg, er⟩ := rtC.get j2.2.2.1
  have wyr : rowL (mUp m 21 6 (cnt + 1) (a + 1)) (mUp m 21 6 (cnt + 1) a 7).toNat = wOf e.2.2 := by
    have := congrArg wOf er
    exact this.symm
  have mkr : rowL (mUp m 21 6 (cnt + 1) (a + 2)) (mUp m 21 6 (cnt + 1) a 8).toNat = mOf e.2.2 := by
    have := congrArg mOf er
    exact this.symm
  refine ⟨fun g b2 eb2 _ m3 u3 T3 => ?_, fun n12 => ⟨fun g b2 eb2 _ m3 u3 T3 => ?_, fun n13 => ⟨fun g => oth (by omega), fun n14 => ⟨fun g => oth (by omega), fun n15 => ⟨fun g => oth (by omega), fun n16 => ⟨fun g => oth (by omega), fun n17 => ⟨fun g => oth (by omega), fun n18 => ⟨fun g => oth (by omega), fun n19 => ⟨fun g => oth (by omega), fun n20 => ⟨fun g => oth (by omega), fun n21 => ⟨fun g => oth (by omega), fun n22 => ⟨fun g m3 u3 T3 => ?_, fun n23 => ⟨fun g m3 u3 T3 => ?_, fun n24 => ⟨fun g b2 eb2 _ => ?_, fun n25 => ⟨fun g b2 eb2 _ => ?_, fun n26 => ⟨fun g b2 eb2 _ z7 ez7 rz7 => ?_, fun n27 => ⟨fun g => ?_, fun n28 => oth (by omega)⟩⟩⟩⟩⟩⟩⟩⟩⟩⟩⟩⟩⟩⟩⟩⟩⟩
  · have e2 : a = b2 := by omega
    subst e2
    obtain rfl := u3.is
    refine nx _ ?_ (fun b i g0 g1 g2 g3 => mUp.no (by omega))
    rw [actS.a12 g]
    exact ⟨by rw [mUp.no (by omega)]; exact j2.1, by rw [mUp.no (by omega)]; exact j2.2.1, rtC.wish j2.2.2.1, j2.2.2.2⟩
  · have e2 : a = b2 := by omega
    subst e2
    obtain rfl := u3.is
    refine nx _ ?_ (fun b i g0 g1 g2 g3 => mUp.no (by omega))
    rw [actS.a13 g]
    exact ⟨by rw [mUp.no (by omega)]; exact j2.1, by rw [mUp.no (by omega)]; exact j2.2.1, rtC.cost j2.2.2.1, j2.2.2.2⟩
  · obtain rfl := u3.is
    refine nx _ ?_ (fun b i g0 g1 g2 g3 => mUp.no (by omega))
    rw [actS.a23 g]
    exact ⟨mUp.yes ⟨rfl, rfl⟩, by rw [mUp.no (by omega)]; exact j2.2.1, by rw [rtC.of (fun _ => mUp.no (by omega)) (fun _ => mUp.no (by omega)) (fun _ => mUp.no (by omega))]; exact j2.2.2.1, j2.2.2.2⟩
  · obtain rfl := u3.is
    refine nx _ ?_ (fun b i g0 g1 g2 g3 => mUp.no (by omega))
    rw [actS.a24 g]
    exact ⟨mUp.yes ⟨rfl, rfl⟩, by rw [mUp.no (by omega)]; exact j2.2.1, by rw [rtC.of (fun _ => mUp.no (by omega)) (fun _ => mUp.no (by omega)) (fun _ => mUp.no (by omega))]; exact j2.2.2.1, j2.2.2.2⟩
  · have e2 : a = b2 := by omega
    subst e2
    refine X7_addMark_s (by rw [mkr]; exact j2.2.2.2) fun m3 rm f3 _ _ => nx m3 ?_ (fun b i g0 g1 g2 g3 => f3 b i (by omega) g2)
    rw [actS.a25 g]
    rw [mkr] at rm
    exact ⟨by rw [f3 _ _ (by omega) (by omega)]; exact j2.1, by rw [f3 _ _ (by omega) (by omega)]; exact j2.2.1, rtC.mks j2.2.2.1 rm f3, addM.srt j2.2.2.2⟩
  · have e2 : a = b2 := by omega
    subst e2
    refine X7_dropMark_s fun m3 rm f3 _ _ => nx m3 ?_ (fun b i g0 g1 g2 g3 => f3 b i (by omega) g2)
    rw [actS.a26 g]
    rw [mkr] at rm
    exact ⟨by rw [f3 _ _ (by omega) (by omega)]; exact j2.1, by rw [f3 _ _ (by omega) (by omega)]; exact j2.2.1, rtC.mks j2.2.2.1 rm f3, dropM.srt j2.2.2.2⟩
  · have e2 : a = b2 := by omega
    subst e2
    have x27 := (hk x xin).1 g
    have wl : ((wOf e.2.2).length : Int) = z7 := by rw [← wyr, rowL.len, ez7, Int.toNat_of_nonneg rz7.1]
    refine ⟨fun c0 _ _ => nx _ ?_ frJd.refl, fun c0 v ev rv => ?_⟩
    · have wn : wOf e.2.2 = [] := List.eq_nil_of_length_eq_zero (by omega)
      rw [actS.m27 (s := (e.2.1 + 1, e.2.2)) g (moreR.nil (r := e.2.2) wn)]
      exact j2
    have wc : wOf e.2.2 = v :: rowL (fun i => mUp m 21 6 (cnt + 1) (a + 1) (i + 1)) (z7.toNat - 1) := by
      rw [← wyr, ez7, show z7.toNat = (z7.toNat - 1) + 1 by omega, rowL.head, ← ev]
      rfl
    refine X7_putInFront_s (fun h0 _ _ _ => ⟨fun h => absurd rfl h, fun _ m4 u4 T4 _ _ => ?_⟩) fun m3 t0 t1 t2 e7 w1 w2 f3 _ _ _ => ⟨fun _ _ _ => nx m3 ?_ (fun b i g0 g1 g2 g3 => f3 b i (by omega) g1), fun h => absurd h (by decide)⟩
    · obtain rfl := u4.is
      refine nx _ ?_ (fun b i g0 g1 g2 g3 => mUp.no (by omega))
      rw [actS.n27 (s := (e.2.1 + 1, e.2.2)) g (moreR.far (r := e.2.2) (by rw [wc]; exact fun h => by cases h) (by omega))]
      exact ⟨mUp.yes ⟨rfl, rfl⟩, by rw [mUp.no (by omega)]; exact j2.2.1, by rw [rtC.of (fun _ => mUp.no (by omega)) (fun _ => mUp.no (by omega)) (fun _ => mUp.no (by omega))]; exact j2.2.2.1, j2.2.2.2⟩
    · rw [actS.m27 (s := (e.2.1 + 1, e.2.2)) g (moreR.go (r := e.2.2) wc (by omega))]
      exact ⟨by rw [f3 _ _ (by omega) (by omega)]; exact j2.1, by rw [f3 _ _ (by omega) (by omega)]; exact j2.2.1, rtC.front j2.2.2.1 t0 t1 e7 w1 w2 f3, j2.2.2.2⟩
  · have x28 := (hk x xin).2 g
    refine X1_goThrough_7_s hw ok (jn.fr hw (F.up (A_21 hw) mUp_ok rfl)) x28.1 x28.2.1 (by rw [mUp.no (by omega), n8]; exact x28.2.2) j2 fun m3 j3 fr3 _ _ => nx m3 ?_ fr3
    rw [actS.a28 g]
    exact j3
theorem X1_goThrough_6_s {J : Ju} {a : Nat} {d q p p2 : Int} {s : Js} {Q : mM → Prop} (hw : mWF w) (ok : jOk J) (jn : jnC w μ J a d q) (h0 : 0 ≤ p) (hD : p + (6) ≤ 11) (hp : p < μ 21 8) (js : jsC μ a (0, s))
    (k : ∀ m : mM, jsC m a (gpJ J d q 12 p s) → frJd μ m a → Q m) : WP_X1_goThrough_W6 w μ p p2 Q := by
  refine ⟨fun g => absurd g (by omega), fun _ n en rn => ⟨fun g => absurd g (by omega), fun _ b eb _ c ec rows er => ?_⟩⟩
  obtain ⟨b', eb', c', cp, cn, cf, cl, hA, hl, hr, hN⟩ := jn.1.1 p.toNat (by omega)
  rw [Int.toNat_of_nonneg h0] at hl hr hN
  have e1 : b' = b := by omega
  subst e1
  have e2 : c' = c := by have := hA.2.1; omega
  subst e2
  rw [hl] at er
  have RES := gpJ.eq (d := d) (q := q) (s := s) ok h0 (show p < 12 by omega)
  refine loopF.iim (fun at_ row m => 0 ≤ row ∧ frJd μ m a ∧ ∃ (l : List Rw) (e : Je), row + (l.length : Int) = ((jP J p).1.length : Int) ∧ 0 ≤ at_ ∧ (∀ x ∈ l, x ∈ (jP J p).1) ∧ rwsC (w.2.2.1 cf) (μ c') (μ cf) (μ cl) at_.toNat l ∧ jsC m a e ∧ gpJ J d q 12 p s = (if e.1 = 0 then goR (gpJ J d q 12) (tsT J p d q) l e.2 else e)) (fun _ row => (31 - row).toNat) ⟨by omega, frJd.refl, (jP J p).1, (0, s), by omega, by omega, fun _ h => h, hr, js, RES.trans (if_pos rfl).symm⟩ (by omega) ?_
  rintro rc at_ row m ⟨r0, fr, l, e, h1, h2, hin, h3, h4, h5⟩ ih at' row' m' ee hat hrow T F
  cases ee
  have jm := jn.fr hw F
  have cm : m c' = μ c' := funext fun j => F.f hA.1.2.1 rfl rfl
  have fm : m cf = μ cf := funext fun j => F.f hA.1.2.2.2.2.1 rfl rfl
  have lm : m cl = μ cl := funext fun j => F.f hA.1.2.2.2.2.2 rfl rfl
  have hAm : plA w m b' c' cp cn cf cl := ⟨hA.1, F.f hA.1.1 rfl hA.2.1, F.f hA.1.1 rfl hA.2.2.1, F.f hA.1.1 rfl hA.2.2.2.1, F.f hA.1.1 rfl hA.2.2.2.2.1, F.f hA.1.1 rfl hA.2.2.2.2.2⟩
  have hNm : plN w m cp cn (jP J p) := ⟨hN.1, fun k hk => ⟨⟨F.f hA.1.2.2.1 rfl (hN.2 k hk).1.1, by rw [F.f hA.1.2.2.2.1 rfl (rfl : μ cn k = μ cn k)]; exact (hN.2 k hk).1.2⟩, (hN.2 k hk).2⟩⟩
  have n8 : m 21 8 = μ 21 8 := F.f (A_21 hw) rfl rfl
  have fin : l = [] ∨ ¬ e.1 = 0 → Q m := fun h => k m (by
    have E : gpJ J d q 12 p s = e := by
      rw [h5]
      by_cases c0 : e.1 = 0
      · rw [if_pos c0]
        rcases h with h | h
        · rw [h]; exact Prod.ext c0.symm rfl
        · exact absurd c0 h
      · rw [if_neg c0]
    rw [E]; exact h4) fr
  refine ⟨fun g => fin (Or.inl ?_), fun g z ez rz => ⟨fun h => fin (Or.inr ?_), fun h n2 _ _ T1 eT1 _ A1 eA1 _ => ?_⟩⟩
  · cases l with
    | nil => rfl
    | cons x l => rw [List.length_cons] at h1; omega
  · have := h4.1
    omega
  cases l with
  | nil => exfalso; have h1 : row + ((0 : Nat) : Int) = ((jP J p).1.length : Int) := h1; omega
  | cons x l =>
  rw [List.length_cons] at h1
  obtain ⟨⟨f1, f2⟩, f3, f4, f5⟩ := h3
  rw [cm, f1] at eT1
  rw [cm, show (at_ + 1).toNat = at_.toNat + 1 by omega, f2] at eA1
  subst eT1 eA1
  have e0 : e.1 = 0 := by have := h4.1; omega
  rw [if_pos e0] at h5
  have xin := hin x List.mem_cons_self
  have xok := ok p h0 x xin
  have st : goR (gpJ J d q 12) (tsT J p d q) (x :: l) e.2 = cIf (∀ t ∈ x.1, tsT J p d q t e.2.2) (if (doA (gpJ J d q 12) x.2 e.2).1 = 0 then goR (gpJ J d q 12) (tsT J p d q) l (doA (gpJ J d q 12) x.2 e.2).2 else doA (gpJ J d q 12) x.2 e.2) (goR (gpJ J d q 12) (tsT J p d q) l e.2) := rfl
  have j0 : jsC m a (0, e.2) := ⟨h4.1.trans e0, h4.2⟩
  have f5' : rwsC (w.2.2.1 cf) (μ c') (μ cf) (μ cl) (at_ + 2 + (x.1.length : Int) * 5 + (x.2.length : Int) * 2).toNat l := by
    rw [show (at_ + 2 + (x.1.length : Int) * 5 + (x.2.length : Int) * 2).toNat = at_.toNat + 2 + 5 * x.1.length + 2 * x.2.length by omega]
    exact f5
  have J3 : ∀ so : Int, (so = 0 → ¬ ∀ t ∈ x.1, tsT J p d q t e.2.2) → (¬ so = 0 → ∀ t ∈ x.1, tsT J p d q t e.2.2) → WJ_X1_goThrough_W6_3 w p2 c' rc at_ row m (x.1.length : Int) (x.2.length : Int) so := by
    intro so n0 n1
    refine ⟨fun c0 => ih _ _ _ ⟨by omega, fr, l, e, by omega, by omega, fun y hy => hin y (List.mem_cons_of_mem _ hy), f5', h4, ?_⟩ (by omega), fun c0 => ?_⟩
    · rw [if_pos e0, h5, st, cIf.neg (n0 c0)]
    · refine X1_doActs_6_s (pos := at_.toNat + 2 + 5 * x.1.length) (al := x.2) hw ok jm hA.1.2.1 (by omega) (by rw [cm]; exact f4) rfl (fun y hy => ?_) j0 fun m2 j2 fr2 _ _ => ih _ _ _ ⟨by omega, fr.trans fr2, l, _, by omega, by omega, fun y hy => hin y (List.mem_cons_of_mem _ hy), f5', j2, ?_⟩ (by omega)
      · have o := xok.2 y hy
        exact ⟨fun h => (o.2.2.1 h).1, fun h => by have := o.2.2.2 h; exact ⟨this.1, by omega, by rw [n8]; omega⟩⟩
      · rw [h5, st, cIf.pos (n1 c0)]
  refine loopF.ii (fun so i => ∃ pre rest : List Tst, x.1 = pre ++ rest ∧ i = at_ + 2 + 5 * (pre.length : Int) ∧ tsAC (w.2.2.1 cf) (μ c') (μ cf) (μ cl) i.toNat rest ∧ (so = 0 → ¬ ∀ t ∈ x.1, tsT J p d q t e.2.2) ∧ (¬ so = 0 → ∀ t ∈ pre, tsT J p d q t e.2.2)) (fun _ i => (2011 - i).toNat) ⟨[], x.1, rfl, by show at_ + 2 = at_ + 2 + 5 * ((0 : Nat) : Int); omega, by rw [show (at_ + 2).toNat = at_.toNat + 2 by omega]; exact f3, fun h => absurd h (by decide), fun _ t ht => by cases ht⟩ (by omega) ?_
  rintro rc2 so i ⟨pre, rest, g1, g2, g3, g4, g5⟩ ih2 so' i' ee2 rso ri2
  cases ee2
  have len : x.1.length = pre.length + rest.length := by rw [g1, List.length_append]
  refine ⟨fun u => J3 so g4 fun n0 => ?_, fun u => ⟨fun u2 => J3 so g4 fun n0 => absurd u2 n0, fun u2 => ?_⟩⟩
  · cases rest with
    | nil => rw [List.append_nil] at g1; rw [g1]; exact g5 n0
    | cons t l => exfalso; rw [List.length_cons] at len; omega
  cases rest with
  | nil => exfalso; have len : x.1.length = pre.length + 0 := len; omega
  | cons t rest =>
  obtain ⟨k1, k2⟩ := g3
  have tin : t ∈ x.1 := by rw [g1]; exact List.mem_append_right _ List.mem_cons_self
  obtain ⟨iN, hiN⟩ : ∃ iN : Nat, i = (iN : Int) := ⟨i.toNat, by omega⟩
  subst hiN
  rw [Int.toNat_natCast] at k1 k2
  refine X1_isSo_s (J := J) (p := p) (d := d) (q := q) (a := a) (t := t) (r := e.2.2) hAm hNm (by rw [cm, fm, lm]; exact k1) (xok.1 t tin) jm.1.2.1 jm.1.2.2 jm.2.2.2.1 jm.2.2.2.2.1 jm.2.2.2.2.2.1 jm.2.2.2.2.2.2 h4.2.2.1 fun z hz _ v ev rv => ?_
  have vt : v = t.2.1 := by
    rw [← ev, cm, show ((iN : Int) + 1).toNat = iN + 1 by omega]
    exact k1.2.1
  have ts1 : ¬ v = 1 → (tsT J p d q t e.2.2 ↔ z = 1) := fun hv => ⟨fun h => Classical.byContradiction fun c => h ⟨fun i => absurd (hz.mpr i) c, fun i => absurd (vt.trans i) hv⟩, fun h i => hv (vt.trans (i.mp (hz.mp h)))⟩
  have ts2 : v = 1 → (tsT J p d q t e.2.2 ↔ ¬ z = 1) := fun hv => ⟨fun h c => h ⟨fun _ => vt.symm.trans hv, fun _ => hz.mp c⟩, fun h i => h (hz.mpr (i.mpr (vt.symm.trans hv)))⟩
  have nxt : ∀ so' : Int, (so' = 0 → ¬ tsT J p d q t e.2.2) → (¬ so' = 0 → tsT J p d q t e.2.2) → rc2 (so', (iN : Int) + 5) := fun so' a0 a1 => ih2 _ _ ⟨pre ++ [t], rest, by rw [g1, List.append_assoc]; rfl, by rw [List.length_append, List.length_singleton]; omega, by rw [show ((iN : Int) + 5).toNat = iN + 5 by omega]; exact k2, fun h all => a0 h (all t tin), fun h t' ht' => by
    rcases List.mem_append.mp ht' with y | y
    · exact g5 u2 t' y
    · rw [List.mem_singleton.mp y]; exact a1 h⟩ (by omega)
  exact ⟨fun c1 => ⟨fun c2 => nxt 0 (fun _ ts => by have := (ts1 c1).mp ts; omega) (fun h => absurd rfl h), fun c2 => nxt 1 (fun h => absurd h (by decide)) (fun _ => (ts1 c1).mpr (by omega))⟩, fun c1 => ⟨fun c2 => nxt 0 (fun _ ts => (ts2 c1).mp ts c2) (fun h => absurd rfl h), fun c2 => nxt 1 (fun h => absurd h (by decide)) (fun _ => (ts2 c1).mpr c2)⟩⟩
theorem X1_doActs_5_s {J : Ju} {a c pos : Nat} {d q pI p3 p4 : Int} {al : List Act} {s : Js} {Q : mM → Prop} (hw : mWF w) (ok : jOk J) (jn : jnC w μ J a d q) (hc : mAt w c 231) (hpos : pI = (pos : Int)) (ha : acC (μ c) pos al) (hn : p3 = (al.length : Int)) (hk : ∀ x ∈ al, (x.1 = 27 → 1 ≤ x.2) ∧ (x.1 = 28 → 0 ≤ x.2 ∧ x.2 + (6) ≤ 11 ∧ x.2 < μ 21 8)) (js : jsC μ a (0, s))
    (k : ∀ m : mM, jsC m a (doA (gpJ J d q 12) al s) → frJd μ m a → Q m) : WP_X1_doActs_W5 w μ c pI p3 p4 Q := by
  subst hpos
  have c21 : c ≠ 21 := mAt.ne (A_21 hw) hc rfl
  intro n en rn
  refine loopF.im (fun i m => ∃ (pre rest : List Act) (e : Je), al = pre ++ rest ∧ i = (pre.length : Int) ∧ acC (μ c) (pos + 2 * pre.length) rest ∧ jsC m a e ∧ frJd μ m a ∧ doA (gpJ J d q 12) al s = (if e.1 = 0 then doA (gpJ J d q 12) rest e.2 else e)) (fun i => (1001 - i).toNat) ⟨[], al, (0, s), rfl, rfl, ha, js, frJd.refl, (if_pos rfl).symm⟩ (by omega) ?_
  rintro rc i m ⟨pre, rest, e, h1, h2, h3, h4, h5, h6⟩ ih i' m' ee ri T F
  cases ee
  subst h2
  have jm := jn.fr hw F
  have cm : m c = μ c := funext fun j => F.f hc rfl rfl
  have n8 : m 21 8 = μ 21 8 := F.f (A_21 hw) rfl rfl
  have fin : rest = [] ∨ ¬ e.1 = 0 → Q m := fun h => k m (by
    have E : doA (gpJ J d q 12) al s = e := by
      rw [h6]
      by_cases c0 : e.1 = 0
      · rw [if_pos c0]
        rcases h with h | h
        · rw [h]; exact Prod.ext c0.symm rfl
        · exact absurd c0 h
      · rw [if_neg c0]
    rw [E]; exact h4) h5
  have len : al.length = pre.length + rest.length := by rw [h1, List.length_append]
  refine ⟨fun g => fin (Or.inl ?_), fun g z ez rz => ⟨fun h => fin (Or.inr ?_), fun h num enum rnum cnt ecnt rcnt => ?_⟩⟩
  · cases rest with
    | nil => rfl
    | cons x l => rw [List.length_cons] at len; omega
  · have := h4.1
    omega
  cases rest with
  | nil => exfalso; have len : al.length = pre.length + 0 := len; omega
  | cons x l =>
  obtain ⟨⟨f1, f2⟩, f3⟩ := h3
  have xin : x ∈ al := by rw [h1]; exact List.mem_append_right _ List.mem_cons_self
  rw [show ((pos : Int) + (pre.length : Int) * 2 + 1).toNat = pos + 2 * pre.length + 1 by omega, cm, f2] at enum
  subst enum
  have e0 : e.1 = 0 := by have := h4.1; omega
  have c1 : e.2.1 = cnt := by have := h4.2.1; omega
  rw [if_pos e0] at h6
  have st : doA (gpJ J d q 12) (x :: l) e.2 = (if 500 ≤ e.2.1 then (2, e.2) else if (actS (gpJ J d q 12) x (e.2.1 + 1, e.2.2)).1 = 0 then doA (gpJ J d q 12) l (actS (gpJ J d q 12) x (e.2.1 + 1, e.2.2)).2 else actS (gpJ J d q 12) x (e.2.1 + 1, e.2.2)) := rfl
  have a21 := jn.2.2.1
  have rtU : ∀ (i : Nat) (v : Int), rtC (mUp m 21 i v) a = rtC m a := fun i v => rtC.of (fun _ => mUp.no (by omega)) (fun _ => mUp.no (by omega)) (fun _ => mUp.no (by omega))
  refine ⟨fun q0 m2 u2 T2 kd ekd rkd => ?_, fun q0 m2 u2 T2 => ?_⟩
  rotate_left 1
  · obtain rfl := u2.is
    refine k _ ?_ (h5.trans fun b i g0 g1 g2 g3 => mUp.no (by omega))
    rw [h6, st, if_pos (by omega)]
    exact ⟨mUp.yes ⟨rfl, rfl⟩, by rw [mUp.no (by omega)]; exact h4.2.1, by rw [rtU]; exact h4.2.2.1, h4.2.2.2⟩
  obtain rfl := u2.is
  rw [show ((pos : Int) + (pre.length : Int) * 2).toNat = pos + 2 * pre.length by omega, mUp.no (by omega), cm, f1] at ekd
  subst ekd
  have j2 : jsC (mUp m 21 6 (cnt + 1)) a (0, e.2.1 + 1, e.2.2) := ⟨by rw [mUp.no (by omega)]; exact h4.1.trans e0, by rw [mUp.yes ⟨rfl, rfl⟩, c1], by rw [rtU]; exact h4.2.2.1, h4.2.2.2⟩
  have r2 : mUp m 21 6 (cnt + 1) 21 2 = (a : Int) := by rw [mUp.no (by omega)]; exact jm.2.2.2.1
  have nx : ∀ m3 : mM, jsC m3 a (actS (gpJ J d q 12) x (e.2.1 + 1, e.2.2)) → frJd (mUp m 21 6 (cnt + 1)) m3 a → rc ((pre.length : Int) + 1, m3) := fun m3 j3 fr3 => ih _ _ ⟨pre ++ [x], l, _, by rw [h1, List.append_assoc]; rfl, by rw [List.length_append, List.length_singleton]; omega, by
    rw [List.length_append, List.length_singleton, show pos + 2 * (pre.length + 1) = pos + 2 * pre.length + 2 by omega]
    exact f3, j3, (h5.trans fun b i g0 g1 g2 g3 => mUp.no (by omega)).trans fr3, by rw [h6, st, if_neg (by omega)]⟩ (by omega)
  have oth : (¬ x.1 = 12 ∧ ¬ x.1 = 13 ∧ ¬ (23 ≤ x.1 ∧ x.1 ≤ 28)) → rc ((pre.length : Int) + 1, mUp m 21 6 (cnt + 1)) := fun h => nx _ (by rw [actS.ot h]; exact j2) frJd.refl
  obtain ⟨gg, er⟩ := rtC.get j2.2.2.1
  have wyr : rowL (mUp m 21 6 (cnt + 1) (a + 1)) (mUp m 21 6 (cnt + 1) a 7).toNat = wOf e.2.2 := by
    have := congrArg wOf er
    exact this.symm
  have mkr : rowL (mUp m 21 6 (cnt + 1) (a + 2)) (mUp m 21 6 (cnt + 1) a 8).toNat = mOf e.2.2 := by
    have := congrArg mOf er
    exact this.symm
  refine ⟨fun g b2 eb2 _ m3 u3 T3 => ?_, fun n12 => ⟨fun g b2 eb2 _ m3 u3 T3 => ?_, fun n13 => ⟨fun g => oth (by omega), fun n14 => ⟨fun g => oth (by omega), fun n15 => ⟨fun g => oth (by omega), fun n16 => ⟨fun g => oth (by omega), fun n17 => ⟨fun g => oth (by omega), fun n18 => ⟨fun g => oth (by omega), fun n19 => ⟨fun g => oth (by omega), fun n20 => ⟨fun g => oth (by omega), fun n21 => ⟨fun g => oth (by omega), fun n22 => ⟨fun g m3 u3 T3 => ?_, fun n23 => ⟨fun g m3 u3 T3 => ?_, fun n24 => ⟨fun g b2 eb2 _ => ?_, fun n25 => ⟨fun g b2 eb2 _ => ?_, fun n26 => ⟨fun g b2 eb2 _ z7 ez7 rz7 => ?_, fun n27 => ⟨fun g => ?_, fun n28 => oth (by omega)⟩⟩⟩⟩⟩⟩⟩⟩⟩⟩⟩⟩⟩⟩⟩⟩⟩
  · have e2 : a = b2 := by omega
    subst e2
    obtain rfl := u3.is
    refine nx _ ?_ (fun b i g0 g1 g2 g3 => mUp.no (by omega))
    rw [actS.a12 g]
    exact ⟨by rw [mUp.no (by omega)]; exact j2.1, by rw [mUp.no (by omega)]; exact j2.2.1, rtC.wish j2.2.2.1, j2.2.2.2⟩
  · have e2 : a = b2 := by omega
    subst e2
    obtain rfl := u3.is
    refine nx _ ?_ (fun b i g0 g1 g2 g3 => mUp.no (by omega))
    rw [actS.a13 g]
    exact ⟨by rw [mUp.no (by omega)]; exact j2.1, by rw [mUp.no (by omega)]; exact j2.2.1, rtC.cost j2.2.2.1, j2.2.2.2⟩
  · obtain rfl := u3.is
    refine nx _ ?_ (fun b i g0 g1 g2 g3 => mUp.no (by omega))
    rw [actS.a23 g]
    exact ⟨mUp.yes ⟨rfl, rfl⟩, by rw [mUp.no (by omega)]; exact j2.2.1, by rw [rtC.of (fun _ => mUp.no (by omega)) (fun _ => mUp.no (by omega)) (fun _ => mUp.no (by omega))]; exact j2.2.2.1, j2.2.2.2⟩
  · obtain rfl := u3.is
    refine nx _ ?_ (fun b i g0 g1 g2 g3 => mUp.no (by omega))
    rw [actS.a24 g]
    exact ⟨mUp.yes ⟨rfl, rfl⟩, by rw [mUp.no (by omega)]; exact j2.2.1, by rw [rtC.of (fun _ => mUp.no (by omega)) (fun _ => mUp.no (by omega)) (fun _ => mUp.no (by omega))]; exact j2.2.2.1, j2.2.2.2⟩
  · have e2 : a = b2 := by omega
    subst e2
    refine X7_addMark_s (by rw [mkr]; exact j2.2.2.2) fun m3 rm f3 _ _ => nx m3 ?_ (fun b i g0 g1 g2 g3 => f3 b i (by omega) g2)
    rw [actS.a25 g]
    rw [mkr] at rm
    exact ⟨by rw [f3 _ _ (by omega) (by omega)]; exact j2.1, by rw [f3 _ _ (by omega) (by omega)]; exact j2.2.1, rtC.mks j2.2.2.1 rm f3, addM.srt j2.2.2.2⟩
  · have e2 : a = b2 := by omega
    subst e2
    refine X7_dropMark_s fun m3 rm f3 _ _ => nx m3 ?_ (fun b i g0 g1 g2 g3 => f3 b i (by omega) g2)
    rw [actS.a26 g]
    rw [mkr] at rm
    exact ⟨by rw [f3 _ _ (by omega) (by omega)]; exact j2.1, by rw [f3 _ _ (by omega) (by omega)]; exact j2.2.1, rtC.mks j2.2.2.1 rm f3, dropM.srt j2.2.2.2⟩
  · have e2 : a = b2 := by omega
    subst e2
    have x27 := (hk x xin).1 g
    have wl : ((wOf e.2.2).length : Int) = z7 := by rw [← wyr, rowL.len, ez7, Int.toNat_of_nonneg rz7.1]
    refine ⟨fun c0 _ _ => nx _ ?_ frJd.refl, fun c0 v ev rv => ?_⟩
    · have wn : wOf e.2.2 = [] := List.eq_nil_of_length_eq_zero (by omega)
      rw [actS.m27 (s := (e.2.1 + 1, e.2.2)) g (moreR.nil (r := e.2.2) wn)]
      exact j2
    have wc : wOf e.2.2 = v :: rowL (fun i => mUp m 21 6 (cnt + 1) (a + 1) (i + 1)) (z7.toNat - 1) := by
      rw [← wyr, ez7, show z7.toNat = (z7.toNat - 1) + 1 by omega, rowL.head, ← ev]
      rfl
    refine X7_putInFront_s (fun h0 _ _ _ => ⟨fun h => absurd rfl h, fun _ m4 u4 T4 _ _ => ?_⟩) fun m3 t0 t1 t2 e7 w1 w2 f3 _ _ _ => ⟨fun _ _ _ => nx m3 ?_ (fun b i g0 g1 g2 g3 => f3 b i (by omega) g1), fun h => absurd h (by decide)⟩
    · obtain rfl := u4.is
      refine nx _ ?_ (fun b i g0 g1 g2 g3 => mUp.no (by omega))
      rw [actS.n27 (s := (e.2.1 + 1, e.2.2)) g (moreR.far (r := e.2.2) (by rw [wc]; exact fun h => by cases h) (by omega))]
      exact ⟨mUp.yes ⟨rfl, rfl⟩, by rw [mUp.no (by omega)]; exact j2.2.1, by rw [rtC.of (fun _ => mUp.no (by omega)) (fun _ => mUp.no (by omega)) (fun _ => mUp.no (by omega))]; exact j2.2.2.1, j2.2.2.2⟩
    · rw [actS.m27 (s := (e.2.1 + 1, e.2.2)) g (moreR.go (r := e.2.2) wc (by omega))]
      exact ⟨by rw [f3 _ _ (by omega) (by omega)]; exact j2.1, by rw [f3 _ _ (by omega) (by omega)]; exact j2.2.1, rtC.front j2.2.2.1 t0 t1 e7 w1 w2 f3, j2.2.2.2⟩
  · have x28 := (hk x xin).2 g
    refine X1_goThrough_6_s hw ok (jn.fr hw (F.up (A_21 hw) mUp_ok rfl)) x28.1 x28.2.1 (by rw [mUp.no (by omega), n8]; exact x28.2.2) j2 fun m3 j3 fr3 _ _ => nx m3 ?_ fr3
    rw [actS.a28 g]
    exact j3
theorem X1_goThrough_5_s {J : Ju} {a : Nat} {d q p p2 : Int} {s : Js} {Q : mM → Prop} (hw : mWF w) (ok : jOk J) (jn : jnC w μ J a d q) (h0 : 0 ≤ p) (hD : p + (5) ≤ 11) (hp : p < μ 21 8) (js : jsC μ a (0, s))
    (k : ∀ m : mM, jsC m a (gpJ J d q 12 p s) → frJd μ m a → Q m) : WP_X1_goThrough_W5 w μ p p2 Q := by
  refine ⟨fun g => absurd g (by omega), fun _ n en rn => ⟨fun g => absurd g (by omega), fun _ b eb _ c ec rows er => ?_⟩⟩
  obtain ⟨b', eb', c', cp, cn, cf, cl, hA, hl, hr, hN⟩ := jn.1.1 p.toNat (by omega)
  rw [Int.toNat_of_nonneg h0] at hl hr hN
  have e1 : b' = b := by omega
  subst e1
  have e2 : c' = c := by have := hA.2.1; omega
  subst e2
  rw [hl] at er
  have RES := gpJ.eq (d := d) (q := q) (s := s) ok h0 (show p < 12 by omega)
  refine loopF.iim (fun at_ row m => 0 ≤ row ∧ frJd μ m a ∧ ∃ (l : List Rw) (e : Je), row + (l.length : Int) = ((jP J p).1.length : Int) ∧ 0 ≤ at_ ∧ (∀ x ∈ l, x ∈ (jP J p).1) ∧ rwsC (w.2.2.1 cf) (μ c') (μ cf) (μ cl) at_.toNat l ∧ jsC m a e ∧ gpJ J d q 12 p s = (if e.1 = 0 then goR (gpJ J d q 12) (tsT J p d q) l e.2 else e)) (fun _ row => (31 - row).toNat) ⟨by omega, frJd.refl, (jP J p).1, (0, s), by omega, by omega, fun _ h => h, hr, js, RES.trans (if_pos rfl).symm⟩ (by omega) ?_
  rintro rc at_ row m ⟨r0, fr, l, e, h1, h2, hin, h3, h4, h5⟩ ih at' row' m' ee hat hrow T F
  cases ee
  have jm := jn.fr hw F
  have cm : m c' = μ c' := funext fun j => F.f hA.1.2.1 rfl rfl
  have fm : m cf = μ cf := funext fun j => F.f hA.1.2.2.2.2.1 rfl rfl
  have lm : m cl = μ cl := funext fun j => F.f hA.1.2.2.2.2.2 rfl rfl
  have hAm : plA w m b' c' cp cn cf cl := ⟨hA.1, F.f hA.1.1 rfl hA.2.1, F.f hA.1.1 rfl hA.2.2.1, F.f hA.1.1 rfl hA.2.2.2.1, F.f hA.1.1 rfl hA.2.2.2.2.1, F.f hA.1.1 rfl hA.2.2.2.2.2⟩
  have hNm : plN w m cp cn (jP J p) := ⟨hN.1, fun k hk => ⟨⟨F.f hA.1.2.2.1 rfl (hN.2 k hk).1.1, by rw [F.f hA.1.2.2.2.1 rfl (rfl : μ cn k = μ cn k)]; exact (hN.2 k hk).1.2⟩, (hN.2 k hk).2⟩⟩
  have n8 : m 21 8 = μ 21 8 := F.f (A_21 hw) rfl rfl
  have fin : l = [] ∨ ¬ e.1 = 0 → Q m := fun h => k m (by
    have E : gpJ J d q 12 p s = e := by
      rw [h5]
      by_cases c0 : e.1 = 0
      · rw [if_pos c0]
        rcases h with h | h
        · rw [h]; exact Prod.ext c0.symm rfl
        · exact absurd c0 h
      · rw [if_neg c0]
    rw [E]; exact h4) fr
  refine ⟨fun g => fin (Or.inl ?_), fun g z ez rz => ⟨fun h => fin (Or.inr ?_), fun h n2 _ _ T1 eT1 _ A1 eA1 _ => ?_⟩⟩
  · cases l with
    | nil => rfl
    | cons x l => rw [List.length_cons] at h1; omega
  · have := h4.1
    omega
  cases l with
  | nil => exfalso; have h1 : row + ((0 : Nat) : Int) = ((jP J p).1.length : Int) := h1; omega
  | cons x l =>
  rw [List.length_cons] at h1
  obtain ⟨⟨f1, f2⟩, f3, f4, f5⟩ := h3
  rw [cm, f1] at eT1
  rw [cm, show (at_ + 1).toNat = at_.toNat + 1 by omega, f2] at eA1
  subst eT1 eA1
  have e0 : e.1 = 0 := by have := h4.1; omega
  rw [if_pos e0] at h5
  have xin := hin x List.mem_cons_self
  have xok := ok p h0 x xin
  have st : goR (gpJ J d q 12) (tsT J p d q) (x :: l) e.2 = cIf (∀ t ∈ x.1, tsT J p d q t e.2.2) (if (doA (gpJ J d q 12) x.2 e.2).1 = 0 then goR (gpJ J d q 12) (tsT J p d q) l (doA (gpJ J d q 12) x.2 e.2).2 else doA (gpJ J d q 12) x.2 e.2) (goR (gpJ J d q 12) (tsT J p d q) l e.2) := rfl
  have j0 : jsC m a (0, e.2) := ⟨h4.1.trans e0, h4.2⟩
  have f5' : rwsC (w.2.2.1 cf) (μ c') (μ cf) (μ cl) (at_ + 2 + (x.1.length : Int) * 5 + (x.2.length : Int) * 2).toNat l := by
    rw [show (at_ + 2 + (x.1.length : Int) * 5 + (x.2.length : Int) * 2).toNat = at_.toNat + 2 + 5 * x.1.length + 2 * x.2.length by omega]
    exact f5
  have J3 : ∀ so : Int, (so = 0 → ¬ ∀ t ∈ x.1, tsT J p d q t e.2.2) → (¬ so = 0 → ∀ t ∈ x.1, tsT J p d q t e.2.2) → WJ_X1_goThrough_W5_3 w p2 c' rc at_ row m (x.1.length : Int) (x.2.length : Int) so := by
    intro so n0 n1
    refine ⟨fun c0 => ih _ _ _ ⟨by omega, fr, l, e, by omega, by omega, fun y hy => hin y (List.mem_cons_of_mem _ hy), f5', h4, ?_⟩ (by omega), fun c0 => ?_⟩
    · rw [if_pos e0, h5, st, cIf.neg (n0 c0)]
    · refine X1_doActs_5_s (pos := at_.toNat + 2 + 5 * x.1.length) (al := x.2) hw ok jm hA.1.2.1 (by omega) (by rw [cm]; exact f4) rfl (fun y hy => ?_) j0 fun m2 j2 fr2 _ _ => ih _ _ _ ⟨by omega, fr.trans fr2, l, _, by omega, by omega, fun y hy => hin y (List.mem_cons_of_mem _ hy), f5', j2, ?_⟩ (by omega)
      · have o := xok.2 y hy
        exact ⟨fun h => (o.2.2.1 h).1, fun h => by have := o.2.2.2 h; exact ⟨this.1, by omega, by rw [n8]; omega⟩⟩
      · rw [h5, st, cIf.pos (n1 c0)]
  refine loopF.ii (fun so i => ∃ pre rest : List Tst, x.1 = pre ++ rest ∧ i = at_ + 2 + 5 * (pre.length : Int) ∧ tsAC (w.2.2.1 cf) (μ c') (μ cf) (μ cl) i.toNat rest ∧ (so = 0 → ¬ ∀ t ∈ x.1, tsT J p d q t e.2.2) ∧ (¬ so = 0 → ∀ t ∈ pre, tsT J p d q t e.2.2)) (fun _ i => (2011 - i).toNat) ⟨[], x.1, rfl, by show at_ + 2 = at_ + 2 + 5 * ((0 : Nat) : Int); omega, by rw [show (at_ + 2).toNat = at_.toNat + 2 by omega]; exact f3, fun h => absurd h (by decide), fun _ t ht => by cases ht⟩ (by omega) ?_
  rintro rc2 so i ⟨pre, rest, g1, g2, g3, g4, g5⟩ ih2 so' i' ee2 rso ri2
  cases ee2
  have len : x.1.length = pre.length + rest.length := by rw [g1, List.length_append]
  refine ⟨fun u => J3 so g4 fun n0 => ?_, fun u => ⟨fun u2 => J3 so g4 fun n0 => absurd u2 n0, fun u2 => ?_⟩⟩
  · cases rest with
    | nil => rw [List.append_nil] at g1; rw [g1]; exact g5 n0
    | cons t l => exfalso; rw [List.length_cons] at len; omega
  cases rest with
  | nil => exfalso; have len : x.1.length = pre.length + 0 := len; omega
  | cons t rest =>
  obtain ⟨k1, k2⟩ := g3
  have tin : t ∈ x.1 := by rw [g1]; exact List.mem_append_right _ List.mem_cons_self
  obtain ⟨iN, hiN⟩ : ∃ iN : Nat, i = (iN : Int) := ⟨i.toNat, by omega⟩
  subst hiN
  rw [Int.toNat_natCast] at k1 k2
  refine X1_isSo_s (J := J) (p := p) (d := d) (q := q) (a := a) (t := t) (r := e.2.2) hAm hNm (by rw [cm, fm, lm]; exact k1) (xok.1 t tin) jm.1.2.1 jm.1.2.2 jm.2.2.2.1 jm.2.2.2.2.1 jm.2.2.2.2.2.1 jm.2.2.2.2.2.2 h4.2.2.1 fun z hz _ v ev rv => ?_
  have vt : v = t.2.1 := by
    rw [← ev, cm, show ((iN : Int) + 1).toNat = iN + 1 by omega]
    exact k1.2.1
  have ts1 : ¬ v = 1 → (tsT J p d q t e.2.2 ↔ z = 1) := fun hv => ⟨fun h => Classical.byContradiction fun c => h ⟨fun i => absurd (hz.mpr i) c, fun i => absurd (vt.trans i) hv⟩, fun h i => hv (vt.trans (i.mp (hz.mp h)))⟩
  have ts2 : v = 1 → (tsT J p d q t e.2.2 ↔ ¬ z = 1) := fun hv => ⟨fun h c => h ⟨fun _ => vt.symm.trans hv, fun _ => hz.mp c⟩, fun h i => h (hz.mpr (i.mpr (vt.symm.trans hv)))⟩
  have nxt : ∀ so' : Int, (so' = 0 → ¬ tsT J p d q t e.2.2) → (¬ so' = 0 → tsT J p d q t e.2.2) → rc2 (so', (iN : Int) + 5) := fun so' a0 a1 => ih2 _ _ ⟨pre ++ [t], rest, by rw [g1, List.append_assoc]; rfl, by rw [List.length_append, List.length_singleton]; omega, by rw [show ((iN : Int) + 5).toNat = iN + 5 by omega]; exact k2, fun h all => a0 h (all t tin), fun h t' ht' => by
    rcases List.mem_append.mp ht' with y | y
    · exact g5 u2 t' y
    · rw [List.mem_singleton.mp y]; exact a1 h⟩ (by omega)
  exact ⟨fun c1 => ⟨fun c2 => nxt 0 (fun _ ts => by have := (ts1 c1).mp ts; omega) (fun h => absurd rfl h), fun c2 => nxt 1 (fun h => absurd h (by decide)) (fun _ => (ts1 c1).mpr (by omega))⟩, fun c1 => ⟨fun c2 => nxt 0 (fun _ ts => (ts2 c1).mp ts c2) (fun h => absurd rfl h), fun c2 => nxt 1 (fun h => absurd h (by decide)) (fun _ => (ts2 c1).mpr c2)⟩⟩
theorem X1_doActs_4_s {J : Ju} {a c pos : Nat} {d q pI p3 p4 : Int} {al : List Act} {s : Js} {Q : mM → Prop} (hw : mWF w) (ok : jOk J) (jn : jnC w μ J a d q) (hc : mAt w c 231) (hpos : pI = (pos : Int)) (ha : acC (μ c) pos al) (hn : p3 = (al.length : Int)) (hk : ∀ x ∈ al, (x.1 = 27 → 1 ≤ x.2) ∧ (x.1 = 28 → 0 ≤ x.2 ∧ x.2 + (5) ≤ 11 ∧ x.2 < μ 21 8)) (js : jsC μ a (0, s))
    (k : ∀ m : mM, jsC m a (doA (gpJ J d q 12) al s) → frJd μ m a → Q m) : WP_X1_doActs_W4 w μ c pI p3 p4 Q := by
  subst hpos
  have c21 : c ≠ 21 := mAt.ne (A_21 hw) hc rfl
  intro n en rn
  refine loopF.im (fun i m => ∃ (pre rest : List Act) (e : Je), al = pre ++ rest ∧ i = (pre.length : Int) ∧ acC (μ c) (pos + 2 * pre.length) rest ∧ jsC m a e ∧ frJd μ m a ∧ doA (gpJ J d q 12) al s = (if e.1 = 0 then doA (gpJ J d q 12) rest e.2 else e)) (fun i => (1001 - i).toNat) ⟨[], al, (0, s), rfl, rfl, ha, js, frJd.refl, (if_pos rfl).symm⟩ (by omega) ?_
  rintro rc i m ⟨pre, rest, e, h1, h2, h3, h4, h5, h6⟩ ih i' m' ee ri T F
  cases ee
  subst h2
  have jm := jn.fr hw F
  have cm : m c = μ c := funext fun j => F.f hc rfl rfl
  have n8 : m 21 8 = μ 21 8 := F.f (A_21 hw) rfl rfl
  have fin : rest = [] ∨ ¬ e.1 = 0 → Q m := fun h => k m (by
    have E : doA (gpJ J d q 12) al s = e := by
      rw [h6]
      by_cases c0 : e.1 = 0
      · rw [if_pos c0]
        rcases h with h | h
        · rw [h]; exact Prod.ext c0.symm rfl
        · exact absurd c0 h
      · rw [if_neg c0]
    rw [E]; exact h4) h5
  have len : al.length = pre.length + rest.length := by rw [h1, List.length_append]
  refine ⟨fun g => fin (Or.inl ?_), fun g z ez rz => ⟨fun h => fin (Or.inr ?_), fun h num enum rnum cnt ecnt rcnt => ?_⟩⟩
  · cases rest with
    | nil => rfl
    | cons x l => rw [List.length_cons] at len; omega
  · have := h4.1
    omega
  cases rest with
  | nil => exfalso; have len : al.length = pre.length + 0 := len; omega
  | cons x l =>
  obtain ⟨⟨f1, f2⟩, f3⟩ := h3
  have xin : x ∈ al := by rw [h1]; exact List.mem_append_right _ List.mem_cons_self
  rw [show ((pos : Int) + (pre.length : Int) * 2 + 1).toNat = pos + 2 * pre.length + 1 by omega, cm, f2] at enum
  subst enum
  have e0 : e.1 = 0 := by have := h4.1; omega
  have c1 : e.2.1 = cnt := by have := h4.2.1; omega
  rw [if_pos e0] at h6
  have st : doA (gpJ J d q 12) (x :: l) e.2 = (if 500 ≤ e.2.1 then (2, e.2) else if (actS (gpJ J d q 12) x (e.2.1 + 1, e.2.2)).1 = 0 then doA (gpJ J d q 12) l (actS (gpJ J d q 12) x (e.2.1 + 1, e.2.2)).2 else actS (gpJ J d q 12) x (e.2.1 + 1, e.2.2)) := rfl
  have a21 := jn.2.2.1
  have rtU : ∀ (i : Nat) (v : Int), rtC (mUp m 21 i v) a = rtC m a := fun i v => rtC.of (fun _ => mUp.no (by omega)) (fun _ => mUp.no (by omega)) (fun _ => mUp.no (by omega))
  refine ⟨fun q0 m2 u2 T2 kd ekd rkd => ?_, fun q0 m2 u2 T2 => ?_⟩
  rotate_left 1
  · obtain rfl := u2.is
    refine k _ ?_ (h5.trans fun b i g0 g1 g2 g3 => mUp.no (by omega))
    rw [h6, st, if_pos (by omega)]
    exact ⟨mUp.yes ⟨rfl, rfl⟩, by rw [mUp.no (by omega)]; exact h4.2.1, by rw [rtU]; exact h4.2.2.1, h4.2.2.2⟩
  obtain rfl := u2.is
  rw [show ((pos : Int) + (pre.length : Int) * 2).toNat = pos + 2 * pre.length by omega, mUp.no (by omega), cm, f1] at ekd
  subst ekd
  have j2 : jsC (mUp m 21 6 (cnt + 1)) a (0, e.2.1 + 1, e.2.2) := ⟨by rw [mUp.no (by omega)]; exact h4.1.trans e0, by rw [mUp.yes ⟨rfl, rfl⟩, c1], by rw [rtU]; exact h4.2.2.1, h4.2.2.2⟩
  have r2 : mUp m 21 6 (cnt + 1) 21 2 = (a : Int) := by rw [mUp.no (by omega)]; exact jm.2.2.2.1
  have nx : ∀ m3 : mM, jsC m3 a (actS (gpJ J d q 12) x (e.2.1 + 1, e.2.2)) → frJd (mUp m 21 6 (cnt + 1)) m3 a → rc ((pre.length : Int) + 1, m3) := fun m3 j3 fr3 => ih _ _ ⟨pre ++ [x], l, _, by rw [h1, List.append_assoc]; rfl, by rw [List.length_append, List.length_singleton]; omega, by
    rw [List.length_append, List.length_singleton, show pos + 2 * (pre.length + 1) = pos + 2 * pre.length + 2 by omega]
    exact f3, j3, (h5.trans fun b i g0 g1 g2 g3 => mUp.no (by omega)).trans fr3, by rw [h6, st, if_neg (by omega)]⟩ (by omega)
  have oth : (¬ x.1 = 12 ∧ ¬ x.1 = 13 ∧ ¬ (23 ≤ x.1 ∧ x.1 ≤ 28)) → rc ((pre.length : Int) + 1, mUp m 21 6 (cnt + 1)) := fun h => nx _ (by rw [actS.ot h]; exact j2) frJd.refl
  obtain ⟨gg, er⟩ := rtC.get j2.2.2.1
  have wyr : rowL (mUp m 21 6 (cnt + 1) (a + 1)) (mUp m 21 6 (cnt + 1) a 7).toNat = wOf e.2.2 := by
    have := congrArg wOf er
    exact this.symm
  have mkr : rowL (mUp m 21 6 (cnt + 1) (a + 2)) (mUp m 21 6 (cnt + 1) a 8).toNat = mOf e.2.2 := by
    have := congrArg mOf er
    exact this.symm
  refine ⟨fun g b2 eb2 _ m3 u3 T3 => ?_, fun n12 => ⟨fun g b2 eb2 _ m3 u3 T3 => ?_, fun n13 => ⟨fun g => oth (by omega), fun n14 => ⟨fun g => oth (by omega), fun n15 => ⟨fun g => oth (by omega), fun n16 => ⟨fun g => oth (by omega), fun n17 => ⟨fun g => oth (by omega), fun n18 => ⟨fun g => oth (by omega), fun n19 => ⟨fun g => oth (by omega), fun n20 => ⟨fun g => oth (by omega), fun n21 => ⟨fun g => oth (by omega), fun n22 => ⟨fun g m3 u3 T3 => ?_, fun n23 => ⟨fun g m3 u3 T3 => ?_, fun n24 => ⟨fun g b2 eb2 _ => ?_, fun n25 => ⟨fun g b2 eb2 _ => ?_, fun n26 => ⟨fun g b2 eb2 _ z7 ez7 rz7 => ?_, fun n27 => ⟨fun g => ?_, fun n28 => oth (by omega)⟩⟩⟩⟩⟩⟩⟩⟩⟩⟩⟩⟩⟩⟩⟩⟩⟩
  · have e2 : a = b2 := by omega
    subst e2
    obtain rfl := u3.is
    refine nx _ ?_ (fun b i g0 g1 g2 g3 => mUp.no (by omega))
    rw [actS.a12 g]
    exact ⟨by rw [mUp.no (by omega)]; exact j2.1, by rw [mUp.no (by omega)]; exact j2.2.1, rtC.wish j2.2.2.1, j2.2.2.2⟩
  · have e2 : a = b2 := by omega
    subst e2
    obtain rfl := u3.is
    refine nx _ ?_ (fun b i g0 g1 g2 g3 => mUp.no (by omega))
    rw [actS.a13 g]
    exact ⟨by rw [mUp.no (by omega)]; exact j2.1, by rw [mUp.no (by omega)]; exact j2.2.1, rtC.cost j2.2.2.1, j2.2.2.2⟩
  · obtain rfl := u3.is
    refine nx _ ?_ (fun b i g0 g1 g2 g3 => mUp.no (by omega))
    rw [actS.a23 g]
    exact ⟨mUp.yes ⟨rfl, rfl⟩, by rw [mUp.no (by omega)]; exact j2.2.1, by rw [rtC.of (fun _ => mUp.no (by omega)) (fun _ => mUp.no (by omega)) (fun _ => mUp.no (by omega))]; exact j2.2.2.1, j2.2.2.2⟩
  · obtain rfl := u3.is
    refine nx _ ?_ (fun b i g0 g1 g2 g3 => mUp.no (by omega))
    rw [actS.a24 g]
    exact ⟨mUp.yes ⟨rfl, rfl⟩, by rw [mUp.no (by omega)]; exact j2.2.1, by rw [rtC.of (fun _ => mUp.no (by omega)) (fun _ => mUp.no (by omega)) (fun _ => mUp.no (by omega))]; exact j2.2.2.1, j2.2.2.2⟩
  · have e2 : a = b2 := by omega
    subst e2
    refine X7_addMark_s (by rw [mkr]; exact j2.2.2.2) fun m3 rm f3 _ _ => nx m3 ?_ (fun b i g0 g1 g2 g3 => f3 b i (by omega) g2)
    rw [actS.a25 g]
    rw [mkr] at rm
    exact ⟨by rw [f3 _ _ (by omega) (by omega)]; exact j2.1, by rw [f3 _ _ (by omega) (by omega)]; exact j2.2.1, rtC.mks j2.2.2.1 rm f3, addM.srt j2.2.2.2⟩
  · have e2 : a = b2 := by omega
    subst e2
    refine X7_dropMark_s fun m3 rm f3 _ _ => nx m3 ?_ (fun b i g0 g1 g2 g3 => f3 b i (by omega) g2)
    rw [actS.a26 g]
    rw [mkr] at rm
    exact ⟨by rw [f3 _ _ (by omega) (by omega)]; exact j2.1, by rw [f3 _ _ (by omega) (by omega)]; exact j2.2.1, rtC.mks j2.2.2.1 rm f3, dropM.srt j2.2.2.2⟩
  · have e2 : a = b2 := by omega
    subst e2
    have x27 := (hk x xin).1 g
    have wl : ((wOf e.2.2).length : Int) = z7 := by rw [← wyr, rowL.len, ez7, Int.toNat_of_nonneg rz7.1]
    refine ⟨fun c0 _ _ => nx _ ?_ frJd.refl, fun c0 v ev rv => ?_⟩
    · have wn : wOf e.2.2 = [] := List.eq_nil_of_length_eq_zero (by omega)
      rw [actS.m27 (s := (e.2.1 + 1, e.2.2)) g (moreR.nil (r := e.2.2) wn)]
      exact j2
    have wc : wOf e.2.2 = v :: rowL (fun i => mUp m 21 6 (cnt + 1) (a + 1) (i + 1)) (z7.toNat - 1) := by
      rw [← wyr, ez7, show z7.toNat = (z7.toNat - 1) + 1 by omega, rowL.head, ← ev]
      rfl
    refine X7_putInFront_s (fun h0 _ _ _ => ⟨fun h => absurd rfl h, fun _ m4 u4 T4 _ _ => ?_⟩) fun m3 t0 t1 t2 e7 w1 w2 f3 _ _ _ => ⟨fun _ _ _ => nx m3 ?_ (fun b i g0 g1 g2 g3 => f3 b i (by omega) g1), fun h => absurd h (by decide)⟩
    · obtain rfl := u4.is
      refine nx _ ?_ (fun b i g0 g1 g2 g3 => mUp.no (by omega))
      rw [actS.n27 (s := (e.2.1 + 1, e.2.2)) g (moreR.far (r := e.2.2) (by rw [wc]; exact fun h => by cases h) (by omega))]
      exact ⟨mUp.yes ⟨rfl, rfl⟩, by rw [mUp.no (by omega)]; exact j2.2.1, by rw [rtC.of (fun _ => mUp.no (by omega)) (fun _ => mUp.no (by omega)) (fun _ => mUp.no (by omega))]; exact j2.2.2.1, j2.2.2.2⟩
    · rw [actS.m27 (s := (e.2.1 + 1, e.2.2)) g (moreR.go (r := e.2.2) wc (by omega))]
      exact ⟨by rw [f3 _ _ (by omega) (by omega)]; exact j2.1, by rw [f3 _ _ (by omega) (by omega)]; exact j2.2.1, rtC.front j2.2.2.1 t0 t1 e7 w1 w2 f3, j2.2.2.2⟩
  · have x28 := (hk x xin).2 g
    refine X1_goThrough_5_s hw ok (jn.fr hw (F.up (A_21 hw) mUp_ok rfl)) x28.1 x28.2.1 (by rw [mUp.no (by omega), n8]; exact x28.2.2) j2 fun m3 j3 fr3 _ _ => nx m3 ?_ fr3
    rw [actS.a28 g]
    exact j3
theorem X1_goThrough_4_s {J : Ju} {a : Nat} {d q p p2 : Int} {s : Js} {Q : mM → Prop} (hw : mWF w) (ok : jOk J) (jn : jnC w μ J a d q) (h0 : 0 ≤ p) (hD : p + (4) ≤ 11) (hp : p < μ 21 8) (js : jsC μ a (0, s))
    (k : ∀ m : mM, jsC m a (gpJ J d q 12 p s) → frJd μ m a → Q m) : WP_X1_goThrough_W4 w μ p p2 Q := by
  refine ⟨fun g => absurd g (by omega), fun _ n en rn => ⟨fun g => absurd g (by omega), fun _ b eb _ c ec rows er => ?_⟩⟩
  obtain ⟨b', eb', c', cp, cn, cf, cl, hA, hl, hr, hN⟩ := jn.1.1 p.toNat (by omega)
  rw [Int.toNat_of_nonneg h0] at hl hr hN
  have e1 : b' = b := by omega
  subst e1
  have e2 : c' = c := by have := hA.2.1; omega
  subst e2
  rw [hl] at er
  have RES := gpJ.eq (d := d) (q := q) (s := s) ok h0 (show p < 12 by omega)
  refine loopF.iim (fun at_ row m => 0 ≤ row ∧ frJd μ m a ∧ ∃ (l : List Rw) (e : Je), row + (l.length : Int) = ((jP J p).1.length : Int) ∧ 0 ≤ at_ ∧ (∀ x ∈ l, x ∈ (jP J p).1) ∧ rwsC (w.2.2.1 cf) (μ c') (μ cf) (μ cl) at_.toNat l ∧ jsC m a e ∧ gpJ J d q 12 p s = (if e.1 = 0 then goR (gpJ J d q 12) (tsT J p d q) l e.2 else e)) (fun _ row => (31 - row).toNat) ⟨by omega, frJd.refl, (jP J p).1, (0, s), by omega, by omega, fun _ h => h, hr, js, RES.trans (if_pos rfl).symm⟩ (by omega) ?_
  rintro rc at_ row m ⟨r0, fr, l, e, h1, h2, hin, h3, h4, h5⟩ ih at' row' m' ee hat hrow T F
  cases ee
  have jm := jn.fr hw F
  have cm : m c' = μ c' := funext fun j => F.f hA.1.2.1 rfl rfl
  have fm : m cf = μ cf := funext fun j => F.f hA.1.2.2.2.2.1 rfl rfl
  have lm : m cl = μ cl := funext fun j => F.f hA.1.2.2.2.2.2 rfl rfl
  have hAm : plA w m b' c' cp cn cf cl := ⟨hA.1, F.f hA.1.1 rfl hA.2.1, F.f hA.1.1 rfl hA.2.2.1, F.f hA.1.1 rfl hA.2.2.2.1, F.f hA.1.1 rfl hA.2.2.2.2.1, F.f hA.1.1 rfl hA.2.2.2.2.2⟩
  have hNm : plN w m cp cn (jP J p) := ⟨hN.1, fun k hk => ⟨⟨F.f hA.1.2.2.1 rfl (hN.2 k hk).1.1, by rw [F.f hA.1.2.2.2.1 rfl (rfl : μ cn k = μ cn k)]; exact (hN.2 k hk).1.2⟩, (hN.2 k hk).2⟩⟩
  have n8 : m 21 8 = μ 21 8 := F.f (A_21 hw) rfl rfl
  have fin : l = [] ∨ ¬ e.1 = 0 → Q m := fun h => k m (by
    have E : gpJ J d q 12 p s = e := by
      rw [h5]
      by_cases c0 : e.1 = 0
      · rw [if_pos c0]
        rcases h with h | h
        · rw [h]; exact Prod.ext c0.symm rfl
        · exact absurd c0 h
      · rw [if_neg c0]
    rw [E]; exact h4) fr
  refine ⟨fun g => fin (Or.inl ?_), fun g z ez rz => ⟨fun h => fin (Or.inr ?_), fun h n2 _ _ T1 eT1 _ A1 eA1 _ => ?_⟩⟩
  · cases l with
    | nil => rfl
    | cons x l => rw [List.length_cons] at h1; omega
  · have := h4.1
    omega
  cases l with
  | nil => exfalso; have h1 : row + ((0 : Nat) : Int) = ((jP J p).1.length : Int) := h1; omega
  | cons x l =>
  rw [List.length_cons] at h1
  obtain ⟨⟨f1, f2⟩, f3, f4, f5⟩ := h3
  rw [cm, f1] at eT1
  rw [cm, show (at_ + 1).toNat = at_.toNat + 1 by omega, f2] at eA1
  subst eT1 eA1
  have e0 : e.1 = 0 := by have := h4.1; omega
  rw [if_pos e0] at h5
  have xin := hin x List.mem_cons_self
  have xok := ok p h0 x xin
  have st : goR (gpJ J d q 12) (tsT J p d q) (x :: l) e.2 = cIf (∀ t ∈ x.1, tsT J p d q t e.2.2) (if (doA (gpJ J d q 12) x.2 e.2).1 = 0 then goR (gpJ J d q 12) (tsT J p d q) l (doA (gpJ J d q 12) x.2 e.2).2 else doA (gpJ J d q 12) x.2 e.2) (goR (gpJ J d q 12) (tsT J p d q) l e.2) := rfl
  have j0 : jsC m a (0, e.2) := ⟨h4.1.trans e0, h4.2⟩
  have f5' : rwsC (w.2.2.1 cf) (μ c') (μ cf) (μ cl) (at_ + 2 + (x.1.length : Int) * 5 + (x.2.length : Int) * 2).toNat l := by
    rw [show (at_ + 2 + (x.1.length : Int) * 5 + (x.2.length : Int) * 2).toNat = at_.toNat + 2 + 5 * x.1.length + 2 * x.2.length by omega]
    exact f5
  have J3 : ∀ so : Int, (so = 0 → ¬ ∀ t ∈ x.1, tsT J p d q t e.2.2) → (¬ so = 0 → ∀ t ∈ x.1, tsT J p d q t e.2.2) → WJ_X1_goThrough_W4_3 w p2 c' rc at_ row m (x.1.length : Int) (x.2.length : Int) so := by
    intro so n0 n1
    refine ⟨fun c0 => ih _ _ _ ⟨by omega, fr, l, e, by omega, by omega, fun y hy => hin y (List.mem_cons_of_mem _ hy), f5', h4, ?_⟩ (by omega), fun c0 => ?_⟩
    · rw [if_pos e0, h5, st, cIf.neg (n0 c0)]
    · refine X1_doActs_4_s (pos := at_.toNat + 2 + 5 * x.1.length) (al := x.2) hw ok jm hA.1.2.1 (by omega) (by rw [cm]; exact f4) rfl (fun y hy => ?_) j0 fun m2 j2 fr2 _ _ => ih _ _ _ ⟨by omega, fr.trans fr2, l, _, by omega, by omega, fun y hy => hin y (List.mem_cons_of_mem _ hy), f5', j2, ?_⟩ (by omega)
      · have o := xok.2 y hy
        exact ⟨fun h => (o.2.2.1 h).1, fun h => by have := o.2.2.2 h; exact ⟨this.1, by omega, by rw [n8]; omega⟩⟩
      · rw [h5, st, cIf.pos (n1 c0)]
  refine loopF.ii (fun so i => ∃ pre rest : List Tst, x.1 = pre ++ rest ∧ i = at_ + 2 + 5 * (pre.length : Int) ∧ tsAC (w.2.2.1 cf) (μ c') (μ cf) (μ cl) i.toNat rest ∧ (so = 0 → ¬ ∀ t ∈ x.1, tsT J p d q t e.2.2) ∧ (¬ so = 0 → ∀ t ∈ pre, tsT J p d q t e.2.2)) (fun _ i => (2011 - i).toNat) ⟨[], x.1, rfl, by show at_ + 2 = at_ + 2 + 5 * ((0 : Nat) : Int); omega, by rw [show (at_ + 2).toNat = at_.toNat + 2 by omega]; exact f3, fun h => absurd h (by decide), fun _ t ht => by cases ht⟩ (by omega) ?_
  rintro rc2 so i ⟨pre, rest, g1, g2, g3, g4, g5⟩ ih2 so' i' ee2 rso ri2
  cases ee2
  have len : x.1.length = pre.length + rest.length := by rw [g1, List.length_append]
  refine ⟨fun u => J3 so g4 fun n0 => ?_, fun u => ⟨fun u2 => J3 so g4 fun n0 => absurd u2 n0, fun u2 => ?_⟩⟩
  · cases rest with
    | nil => rw [List.append_nil] at g1; rw [g1]; exact g5 n0
    | cons t l => exfalso; rw [List.length_cons] at len; omega
  cases rest with
  | nil => exfalso; have len : x.1.length = pre.length + 0 := len; omega
  | cons t rest =>
  obtain ⟨k1, k2⟩ := g3
  have tin : t ∈ x.1 := by rw [g1]; exact List.mem_append_right _ List.mem_cons_self
  obtain ⟨iN, hiN⟩ : ∃ iN : Nat, i = (iN : Int) := ⟨i.toNat, by omega⟩
  subst hiN
  rw [Int.toNat_natCast] at k1 k2
  refine X1_isSo_s (J := J) (p := p) (d := d) (q := q) (a := a) (t := t) (r := e.2.2) hAm hNm (by rw [cm, fm, lm]; exact k1) (xok.1 t tin) jm.1.2.1 jm.1.2.2 jm.2.2.2.1 jm.2.2.2.2.1 jm.2.2.2.2.2.1 jm.2.2.2.2.2.2 h4.2.2.1 fun z hz _ v ev rv => ?_
  have vt : v = t.2.1 := by
    rw [← ev, cm, show ((iN : Int) + 1).toNat = iN + 1 by omega]
    exact k1.2.1
  have ts1 : ¬ v = 1 → (tsT J p d q t e.2.2 ↔ z = 1) := fun hv => ⟨fun h => Classical.byContradiction fun c => h ⟨fun i => absurd (hz.mpr i) c, fun i => absurd (vt.trans i) hv⟩, fun h i => hv (vt.trans (i.mp (hz.mp h)))⟩
  have ts2 : v = 1 → (tsT J p d q t e.2.2 ↔ ¬ z = 1) := fun hv => ⟨fun h c => h ⟨fun _ => vt.symm.trans hv, fun _ => hz.mp c⟩, fun h i => h (hz.mpr (i.mpr (vt.symm.trans hv)))⟩
  have nxt : ∀ so' : Int, (so' = 0 → ¬ tsT J p d q t e.2.2) → (¬ so' = 0 → tsT J p d q t e.2.2) → rc2 (so', (iN : Int) + 5) := fun so' a0 a1 => ih2 _ _ ⟨pre ++ [t], rest, by rw [g1, List.append_assoc]; rfl, by rw [List.length_append, List.length_singleton]; omega, by rw [show ((iN : Int) + 5).toNat = iN + 5 by omega]; exact k2, fun h all => a0 h (all t tin), fun h t' ht' => by
    rcases List.mem_append.mp ht' with y | y
    · exact g5 u2 t' y
    · rw [List.mem_singleton.mp y]; exact a1 h⟩ (by omega)
  exact ⟨fun c1 => ⟨fun c2 => nxt 0 (fun _ ts => by have := (ts1 c1).mp ts; omega) (fun h => absurd rfl h), fun c2 => nxt 1 (fun h => absurd h (by decide)) (fun _ => (ts1 c1).mpr (by omega))⟩, fun c1 => ⟨fun c2 => nxt 0 (fun _ ts => (ts2 c1).mp ts c2) (fun h => absurd rfl h), fun c2 => nxt 1 (fun h => absurd h (by decide)) (fun _ => (ts2 c1).mpr c2)⟩⟩
theorem X1_doActs_3_s {J : Ju} {a c pos : Nat} {d q pI p3 p4 : Int} {al : List Act} {s : Js} {Q : mM → Prop} (hw : mWF w) (ok : jOk J) (jn : jnC w μ J a d q) (hc : mAt w c 231) (hpos : pI = (pos : Int)) (ha : acC (μ c) pos al) (hn : p3 = (al.length : Int)) (hk : ∀ x ∈ al, (x.1 = 27 → 1 ≤ x.2) ∧ (x.1 = 28 → 0 ≤ x.2 ∧ x.2 + (4) ≤ 11 ∧ x.2 < μ 21 8)) (js : jsC μ a (0, s))
    (k : ∀ m : mM, jsC m a (doA (gpJ J d q 12) al s) → frJd μ m a → Q m) : WP_X1_doActs_W3 w μ c pI p3 p4 Q := by
  subst hpos
  have c21 : c ≠ 21 := mAt.ne (A_21 hw) hc rfl
  intro n en rn
  refine loopF.im (fun i m => ∃ (pre rest : List Act) (e : Je), al = pre ++ rest ∧ i = (pre.length : Int) ∧ acC (μ c) (pos + 2 * pre.length) rest ∧ jsC m a e ∧ frJd μ m a ∧ doA (gpJ J d q 12) al s = (if e.1 = 0 then doA (gpJ J d q 12) rest e.2 else e)) (fun i => (1001 - i).toNat) ⟨[], al, (0, s), rfl, rfl, ha, js, frJd.refl, (if_pos rfl).symm⟩ (by omega) ?_
  rintro rc i m ⟨pre, rest, e, h1, h2, h3, h4, h5, h6⟩ ih i' m' ee ri T F
  cases ee
  subst h2
  have jm := jn.fr hw F
  have cm : m c = μ c := funext fun j => F.f hc rfl rfl
  have n8 : m 21 8 = μ 21 8 := F.f (A_21 hw) rfl rfl
  have fin : rest = [] ∨ ¬ e.1 = 0 → Q m := fun h => k m (by
    have E : doA (gpJ J d q 12) al s = e := by
      rw [h6]
      by_cases c0 : e.1 = 0
      · rw [if_pos c0]
        rcases h with h | h
        · rw [h]; exact Prod.ext c0.symm rfl
        · exact absurd c0 h
      · rw [if_neg c0]
    rw [E]; exact h4) h5
  have len : al.length = pre.length + rest.length := by rw [h1, List.length_append]
  refine ⟨fun g => fin (Or.inl ?_), fun g z ez rz => ⟨fun h => fin (Or.inr ?_), fun h num enum rnum cnt ecnt rcnt => ?_⟩⟩
  · cases rest with
    | nil => rfl
    | cons x l => rw [List.length_cons] at len; omega
  · have := h4.1
    omega
  cases rest with
  | nil => exfalso; have len : al.length = pre.length + 0 := len; omega
  | cons x l =>
  obtain ⟨⟨f1, f2⟩, f3⟩ := h3
  have xin : x ∈ al := by rw [h1]; exact List.mem_append_right _ List.mem_cons_self
  rw [show ((pos : Int) + (pre.length : Int) * 2 + 1).toNat = pos + 2 * pre.length + 1 by omega, cm, f2] at enum
  subst enum
  have e0 : e.1 = 0 := by have := h4.1; omega
  have c1 : e.2.1 = cnt := by have := h4.2.1; omega
  rw [if_pos e0] at h6
  have st : doA (gpJ J d q 12) (x :: l) e.2 = (if 500 ≤ e.2.1 then (2, e.2) else if (actS (gpJ J d q 12) x (e.2.1 + 1, e.2.2)).1 = 0 then doA (gpJ J d q 12) l (actS (gpJ J d q 12) x (e.2.1 + 1, e.2.2)).2 else actS (gpJ J d q 12) x (e.2.1 + 1, e.2.2)) := rfl
  have a21 := jn.2.2.1
  have rtU : ∀ (i : Nat) (v : Int), rtC (mUp m 21 i v) a = rtC m a := fun i v => rtC.of (fun _ => mUp.no (by omega)) (fun _ => mUp.no (by omega)) (fun _ => mUp.no (by omega))
  refine ⟨fun q0 m2 u2 T2 kd ekd rkd => ?_, fun q0 m2 u2 T2 => ?_⟩
  rotate_left 1
  · obtain rfl := u2.is
    refine k _ ?_ (h5.trans fun b i g0 g1 g2 g3 => mUp.no (by omega))
    rw [h6, st, if_pos (by omega)]
    exact ⟨mUp.yes ⟨rfl, rfl⟩, by rw [mUp.no (by omega)]; exact h4.2.1, by rw [rtU]; exact h4.2.2.1, h4.2.2.2⟩
  obtain rfl := u2.is
  rw [show ((pos : Int) + (pre.length : Int) * 2).toNat = pos + 2 * pre.length by omega, mUp.no (by omega), cm, f1] at ekd
  subst ekd
  have j2 : jsC (mUp m 21 6 (cnt + 1)) a (0, e.2.1 + 1, e.2.2) := ⟨by rw [mUp.no (by omega)]; exact h4.1.trans e0, by rw [mUp.yes ⟨rfl, rfl⟩, c1], by rw [rtU]; exact h4.2.2.1, h4.2.2.2⟩
  have r2 : mUp m 21 6 (cnt + 1) 21 2 = (a : Int) := by rw [mUp.no (by omega)]; exact jm.2.2.2.1
  have nx : ∀ m3 : mM, jsC m3 a (actS (gpJ J d q 12) x (e.2.1 + 1, e.2.2)) → frJd (mUp m 21 6 (cnt + 1)) m3 a → rc ((pre.length : Int) + 1, m3) := fun m3 j3 fr3 => ih _ _ ⟨pre ++ [x], l, _, by rw [h1, List.append_assoc]; rfl, by rw [List.length_append, List.length_singleton]; omega, by
    rw [List.length_append, List.length_singleton, show pos + 2 * (pre.length + 1) = pos + 2 * pre.length + 2 by omega]
    exact f3, j3, (h5.trans fun b i g0 g1 g2 g3 => mUp.no (by omega)).trans fr3, by rw [h6, st, if_neg (by omega)]⟩ (by omega)
  have oth : (¬ x.1 = 12 ∧ ¬ x.1 = 13 ∧ ¬ (23 ≤ x.1 ∧ x.1 ≤ 28)) → rc ((pre.length : Int) + 1, mUp m 21 6 (cnt + 1)) := fun h => nx _ (by rw [actS.ot h]; exact j2) frJd.refl
  obtain ⟨gg, er⟩ := rtC.get j2.2.2.1
  have wyr : rowL (mUp m 21 6 (cnt + 1) (a + 1)) (mUp m 21 6 (cnt + 1) a 7).toNat = wOf e.2.2 := by
    have := congrArg wOf er
    exact this.symm
  have mkr : rowL (mUp m 21 6 (cnt + 1) (a + 2)) (mUp m 21 6 (cnt + 1) a 8).toNat = mOf e.2.2 := by
    have := congrArg mOf er
    exact this.symm
  refine ⟨fun g b2 eb2 _ m3 u3 T3 => ?_, fun n12 => ⟨fun g b2 eb2 _ m3 u3 T3 => ?_, fun n13 => ⟨fun g => oth (by omega), fun n14 => ⟨fun g => oth (by omega), fun n15 => ⟨fun g => oth (by omega), fun n16 => ⟨fun g => oth (by omega), fun n17 => ⟨fun g => oth (by omega), fun n18 => ⟨fun g => oth (by omega), fun n19 => ⟨fun g => oth (by omega), fun n20 => ⟨fun g => oth (by omega), fun n21 => ⟨fun g => oth (by omega), fun n22 => ⟨fun g m3 u3 T3 => ?_, fun n23 => ⟨fun g m3 u3 T3 => ?_, fun n24 => ⟨fun g b2 eb2 _ => ?_, fun n25 => ⟨fun g b2 eb2 _ => ?_, fun n26 => ⟨fun g b2 eb2 _ z7 ez7 rz7 => ?_, fun n27 => ⟨fun g => ?_, fun n28 => oth (by omega)⟩⟩⟩⟩⟩⟩⟩⟩⟩⟩⟩⟩⟩⟩⟩⟩⟩
  · have e2 : a = b2 := by omega
    subst e2
    obtain rfl := u3.is
    refine nx _ ?_ (fun b i g0 g1 g2 g3 => mUp.no (by omega))
    rw [actS.a12 g]
    exact ⟨by rw [mUp.no (by omega)]; exact j2.1, by rw [mUp.no (by omega)]; exact j2.2.1, rtC.wish j2.2.2.1, j2.2.2.2⟩
  · have e2 : a = b2 := by omega
    subst e2
    obtain rfl := u3.is
    refine nx _ ?_ (fun b i g0 g1 g2 g3 => mUp.no (by omega))
    rw [actS.a13 g]
    exact ⟨by rw [mUp.no (by omega)]; exact j2.1, by rw [mUp.no (by omega)]; exact j2.2.1, rtC.cost j2.2.2.1, j2.2.2.2⟩
  · obtain rfl := u3.is
    refine nx _ ?_ (fun b i g0 g1 g2 g3 => mUp.no (by omega))
    rw [actS.a23 g]
    exact ⟨mUp.yes ⟨rfl, rfl⟩, by rw [mUp.no (by omega)]; exact j2.2.1, by rw [rtC.of (fun _ => mUp.no (by omega)) (fun _ => mUp.no (by omega)) (fun _ => mUp.no (by omega))]; exact j2.2.2.1, j2.2.2.2⟩
  · obtain rfl := u3.is
    refine nx _ ?_ (fun b i g0 g1 g2 g3 => mUp.no (by omega))
    rw [actS.a24 g]
    exact ⟨mUp.yes ⟨rfl, rfl⟩, by rw [mUp.no (by omega)]; exact j2.2.1, by rw [rtC.of (fun _ => mUp.no (by omega)) (fun _ => mUp.no (by omega)) (fun _ => mUp.no (by omega))]; exact j2.2.2.1, j2.2.2.2⟩
  · have e2 : a = b2 := by omega
    subst e2
    refine X7_addMark_s (by rw [mkr]; exact j2.2.2.2) fun m3 rm f3 _ _ => nx m3 ?_ (fun b i g0 g1 g2 g3 => f3 b i (by omega) g2)
    rw [actS.a25 g]
    rw [mkr] at rm
    exact ⟨by rw [f3 _ _ (by omega) (by omega)]; exact j2.1, by rw [f3 _ _ (by omega) (by omega)]; exact j2.2.1, rtC.mks j2.2.2.1 rm f3, addM.srt j2.2.2.2⟩
  · have e2 : a = b2 := by omega
    subst e2
    refine X7_dropMark_s fun m3 rm f3 _ _ => nx m3 ?_ (fun b i g0 g1 g2 g3 => f3 b i (by omega) g2)
    rw [actS.a26 g]
    rw [mkr] at rm
    exact ⟨by rw [f3 _ _ (by omega) (by omega)]; exact j2.1, by rw [f3 _ _ (by omega) (by omega)]; exact j2.2.1, rtC.mks j2.2.2.1 rm f3, dropM.srt j2.2.2.2⟩
  · have e2 : a = b2 := by omega
    subst e2
    have x27 := (hk x xin).1 g
    have wl : ((wOf e.2.2).length : Int) = z7 := by rw [← wyr, rowL.len, ez7, Int.toNat_of_nonneg rz7.1]
    refine ⟨fun c0 _ _ => nx _ ?_ frJd.refl, fun c0 v ev rv => ?_⟩
    · have wn : wOf e.2.2 = [] := List.eq_nil_of_length_eq_zero (by omega)
      rw [actS.m27 (s := (e.2.1 + 1, e.2.2)) g (moreR.nil (r := e.2.2) wn)]
      exact j2
    have wc : wOf e.2.2 = v :: rowL (fun i => mUp m 21 6 (cnt + 1) (a + 1) (i + 1)) (z7.toNat - 1) := by
      rw [← wyr, ez7, show z7.toNat = (z7.toNat - 1) + 1 by omega, rowL.head, ← ev]
      rfl
    refine X7_putInFront_s (fun h0 _ _ _ => ⟨fun h => absurd rfl h, fun _ m4 u4 T4 _ _ => ?_⟩) fun m3 t0 t1 t2 e7 w1 w2 f3 _ _ _ => ⟨fun _ _ _ => nx m3 ?_ (fun b i g0 g1 g2 g3 => f3 b i (by omega) g1), fun h => absurd h (by decide)⟩
    · obtain rfl := u4.is
      refine nx _ ?_ (fun b i g0 g1 g2 g3 => mUp.no (by omega))
      rw [actS.n27 (s := (e.2.1 + 1, e.2.2)) g (moreR.far (r := e.2.2) (by rw [wc]; exact fun h => by cases h) (by omega))]
      exact ⟨mUp.yes ⟨rfl, rfl⟩, by rw [mUp.no (by omega)]; exact j2.2.1, by rw [rtC.of (fun _ => mUp.no (by omega)) (fun _ => mUp.no (by omega)) (fun _ => mUp.no (by omega))]; exact j2.2.2.1, j2.2.2.2⟩
    · rw [actS.m27 (s := (e.2.1 + 1, e.2.2)) g (moreR.go (r := e.2.2) wc (by omega))]
      exact ⟨by rw [f3 _ _ (by omega) (by omega)]; exact j2.1, by rw [f3 _ _ (by omega) (by omega)]; exact j2.2.1, rtC.front j2.2.2.1 t0 t1 e7 w1 w2 f3, j2.2.2.2⟩
  · have x28 := (hk x xin).2 g
    refine X1_goThrough_4_s hw ok (jn.fr hw (F.up (A_21 hw) mUp_ok rfl)) x28.1 x28.2.1 (by rw [mUp.no (by omega), n8]; exact x28.2.2) j2 fun m3 j3 fr3 _ _ => nx m3 ?_ fr3
    rw [actS.a28 g]
    exact j3
theorem X1_goThrough_3_s {J : Ju} {a : Nat} {d q p p2 : Int} {s : Js} {Q : mM → Prop} (hw : mWF w) (ok : jOk J) (jn : jnC w μ J a d q) (h0 : 0 ≤ p) (hD : p + (3) ≤ 11) (hp : p < μ 21 8) (js : jsC μ a (0, s))
    (k : ∀ m : mM, jsC m a (gpJ J d q 12 p s) → frJd μ m a → Q m) : WP_X1_goThrough_W3 w μ p p2 Q := by
  refine ⟨fun g => absurd g (by omega), fun _ n en rn => ⟨fun g => absurd g (by omega), fun _ b eb _ c ec rows er => ?_⟩⟩
  obtain ⟨b', eb', c', cp, cn, cf, cl, hA, hl, hr, hN⟩ := jn.1.1 p.toNat (by omega)
  rw [Int.toNat_of_nonneg h0] at hl hr hN
  have e1 : b' = b := by omega
  subst e1
  have e2 : c' = c := by have := hA.2.1; omega
  subst e2
  rw [hl] at er
  have RES := gpJ.eq (d := d) (q := q) (s := s) ok h0 (show p < 12 by omega)
  refine loopF.iim (fun at_ row m => 0 ≤ row ∧ frJd μ m a ∧ ∃ (l : List Rw) (e : Je), row + (l.length : Int) = ((jP J p).1.length : Int) ∧ 0 ≤ at_ ∧ (∀ x ∈ l, x ∈ (jP J p).1) ∧ rwsC (w.2.2.1 cf) (μ c') (μ cf) (μ cl) at_.toNat l ∧ jsC m a e ∧ gpJ J d q 12 p s = (if e.1 = 0 then goR (gpJ J d q 12) (tsT J p d q) l e.2 else e)) (fun _ row => (31 - row).toNat) ⟨by omega, frJd.refl, (jP J p).1, (0, s), by omega, by omega, fun _ h => h, hr, js, RES.trans (if_pos rfl).symm⟩ (by omega) ?_
  rintro rc at_ row m ⟨r0, fr, l, e, h1, h2, hin, h3, h4, h5⟩ ih at' row' m' ee hat hrow T F
  cases ee
  have jm := jn.fr hw F
  have cm : m c' = μ c' := funext fun j => F.f hA.1.2.1 rfl rfl
  have fm : m cf = μ cf := funext fun j => F.f hA.1.2.2.2.2.1 rfl rfl
  have lm : m cl = μ cl := funext fun j => F.f hA.1.2.2.2.2.2 rfl rfl
  have hAm : plA w m b' c' cp cn cf cl := ⟨hA.1, F.f hA.1.1 rfl hA.2.1, F.f hA.1.1 rfl hA.2.2.1, F.f hA.1.1 rfl hA.2.2.2.1, F.f hA.1.1 rfl hA.2.2.2.2.1, F.f hA.1.1 rfl hA.2.2.2.2.2⟩
  have hNm : plN w m cp cn (jP J p) := ⟨hN.1, fun k hk => ⟨⟨F.f hA.1.2.2.1 rfl (hN.2 k hk).1.1, by rw [F.f hA.1.2.2.2.1 rfl (rfl : μ cn k = μ cn k)]; exact (hN.2 k hk).1.2⟩, (hN.2 k hk).2⟩⟩
  have n8 : m 21 8 = μ 21 8 := F.f (A_21 hw) rfl rfl
  have fin : l = [] ∨ ¬ e.1 = 0 → Q m := fun h => k m (by
    have E : gpJ J d q 12 p s = e := by
      rw [h5]
      by_cases c0 : e.1 = 0
      · rw [if_pos c0]
        rcases h with h | h
        · rw [h]; exact Prod.ext c0.symm rfl
        · exact absurd c0 h
      · rw [if_neg c0]
    rw [E]; exact h4) fr
  refine ⟨fun g => fin (Or.inl ?_), fun g z ez rz => ⟨fun h => fin (Or.inr ?_), fun h n2 _ _ T1 eT1 _ A1 eA1 _ => ?_⟩⟩
  · cases l with
    | nil => rfl
    | cons x l => rw [List.length_cons] at h1; omega
  · have := h4.1
    omega
  cases l with
  | nil => exfalso; have h1 : row + ((0 : Nat) : Int) = ((jP J p).1.length : Int) := h1; omega
  | cons x l =>
  rw [List.length_cons] at h1
  obtain ⟨⟨f1, f2⟩, f3, f4, f5⟩ := h3
  rw [cm, f1] at eT1
  rw [cm, show (at_ + 1).toNat = at_.toNat + 1 by omega, f2] at eA1
  subst eT1 eA1
  have e0 : e.1 = 0 := by have := h4.1; omega
  rw [if_pos e0] at h5
  have xin := hin x List.mem_cons_self
  have xok := ok p h0 x xin
  have st : goR (gpJ J d q 12) (tsT J p d q) (x :: l) e.2 = cIf (∀ t ∈ x.1, tsT J p d q t e.2.2) (if (doA (gpJ J d q 12) x.2 e.2).1 = 0 then goR (gpJ J d q 12) (tsT J p d q) l (doA (gpJ J d q 12) x.2 e.2).2 else doA (gpJ J d q 12) x.2 e.2) (goR (gpJ J d q 12) (tsT J p d q) l e.2) := rfl
  have j0 : jsC m a (0, e.2) := ⟨h4.1.trans e0, h4.2⟩
  have f5' : rwsC (w.2.2.1 cf) (μ c') (μ cf) (μ cl) (at_ + 2 + (x.1.length : Int) * 5 + (x.2.length : Int) * 2).toNat l := by
    rw [show (at_ + 2 + (x.1.length : Int) * 5 + (x.2.length : Int) * 2).toNat = at_.toNat + 2 + 5 * x.1.length + 2 * x.2.length by omega]
    exact f5
  have J3 : ∀ so : Int, (so = 0 → ¬ ∀ t ∈ x.1, tsT J p d q t e.2.2) → (¬ so = 0 → ∀ t ∈ x.1, tsT J p d q t e.2.2) → WJ_X1_goThrough_W3_3 w p2 c' rc at_ row m (x.1.length : Int) (x.2.length : Int) so := by
    intro so n0 n1
    refine ⟨fun c0 => ih _ _ _ ⟨by omega, fr, l, e, by omega, by omega, fun y hy => hin y (List.mem_cons_of_mem _ hy), f5', h4, ?_⟩ (by omega), fun c0 => ?_⟩
    · rw [if_pos e0, h5, st, cIf.neg (n0 c0)]
    · refine X1_doActs_3_s (pos := at_.toNat + 2 + 5 * x.1.length) (al := x.2) hw ok jm hA.1.2.1 (by omega) (by rw [cm]; exact f4) rfl (fun y hy => ?_) j0 fun m2 j2 fr2 _ _ => ih _ _ _ ⟨by omega, fr.trans fr2, l, _, by omega, by omega, fun y hy => hin y (List.mem_cons_of_mem _ hy), f5', j2, ?_⟩ (by omega)
      · have o := xok.2 y hy
        exact ⟨fun h => (o.2.2.1 h).1, fun h => by have := o.2.2.2 h; exact ⟨this.1, by omega, by rw [n8]; omega⟩⟩
      · rw [h5, st, cIf.pos (n1 c0)]
  refine loopF.ii (fun so i => ∃ pre rest : List Tst, x.1 = pre ++ rest ∧ i = at_ + 2 + 5 * (pre.length : Int) ∧ tsAC (w.2.2.1 cf) (μ c') (μ cf) (μ cl) i.toNat rest ∧ (so = 0 → ¬ ∀ t ∈ x.1, tsT J p d q t e.2.2) ∧ (¬ so = 0 → ∀ t ∈ pre, tsT J p d q t e.2.2)) (fun _ i => (2011 - i).toNat) ⟨[], x.1, rfl, by show at_ + 2 = at_ + 2 + 5 * ((0 : Nat) : Int); omega, by rw [show (at_ + 2).toNat = at_.toNat + 2 by omega]; exact f3, fun h => absurd h (by decide), fun _ t ht => by cases ht⟩ (by omega) ?_
  rintro rc2 so i ⟨pre, rest, g1, g2, g3, g4, g5⟩ ih2 so' i' ee2 rso ri2
  cases ee2
  have len : x.1.length = pre.length + rest.length := by rw [g1, List.length_append]
  refine ⟨fun u => J3 so g4 fun n0 => ?_, fun u => ⟨fun u2 => J3 so g4 fun n0 => absurd u2 n0, fun u2 => ?_⟩⟩
  · cases rest with
    | nil => rw [List.append_nil] at g1; rw [g1]; exact g5 n0
    | cons t l => exfalso; rw [List.length_cons] at len; omega
  cases rest with
  | nil => exfalso; have len : x.1.length = pre.length + 0 := len; omega
  | cons t rest =>
  obtain ⟨k1, k2⟩ := g3
  have tin : t ∈ x.1 := by rw [g1]; exact List.mem_append_right _ List.mem_cons_self
  obtain ⟨iN, hiN⟩ : ∃ iN : Nat, i = (iN : Int) := ⟨i.toNat, by omega⟩
  subst hiN
  rw [Int.toNat_natCast] at k1 k2
  refine X1_isSo_s (J := J) (p := p) (d := d) (q := q) (a := a) (t := t) (r := e.2.2) hAm hNm (by rw [cm, fm, lm]; exact k1) (xok.1 t tin) jm.1.2.1 jm.1.2.2 jm.2.2.2.1 jm.2.2.2.2.1 jm.2.2.2.2.2.1 jm.2.2.2.2.2.2 h4.2.2.1 fun z hz _ v ev rv => ?_
  have vt : v = t.2.1 := by
    rw [← ev, cm, show ((iN : Int) + 1).toNat = iN + 1 by omega]
    exact k1.2.1
  have ts1 : ¬ v = 1 → (tsT J p d q t e.2.2 ↔ z = 1) := fun hv => ⟨fun h => Classical.byContradiction fun c => h ⟨fun i => absurd (hz.mpr i) c, fun i => absurd (vt.trans i) hv⟩, fun h i => hv (vt.trans (i.mp (hz.mp h)))⟩
  have ts2 : v = 1 → (tsT J p d q t e.2.2 ↔ ¬ z = 1) := fun hv => ⟨fun h c => h ⟨fun _ => vt.symm.trans hv, fun _ => hz.mp c⟩, fun h i => h (hz.mpr (i.mpr (vt.symm.trans hv)))⟩
  have nxt : ∀ so' : Int, (so' = 0 → ¬ tsT J p d q t e.2.2) → (¬ so' = 0 → tsT J p d q t e.2.2) → rc2 (so', (iN : Int) + 5) := fun so' a0 a1 => ih2 _ _ ⟨pre ++ [t], rest, by rw [g1, List.append_assoc]; rfl, by rw [List.length_append, List.length_singleton]; omega, by rw [show ((iN : Int) + 5).toNat = iN + 5 by omega]; exact k2, fun h all => a0 h (all t tin), fun h t' ht' => by
    rcases List.mem_append.mp ht' with y | y
    · exact g5 u2 t' y
    · rw [List.mem_singleton.mp y]; exact a1 h⟩ (by omega)
  exact ⟨fun c1 => ⟨fun c2 => nxt 0 (fun _ ts => by have := (ts1 c1).mp ts; omega) (fun h => absurd rfl h), fun c2 => nxt 1 (fun h => absurd h (by decide)) (fun _ => (ts1 c1).mpr (by omega))⟩, fun c1 => ⟨fun c2 => nxt 0 (fun _ ts => (ts2 c1).mp ts c2) (fun h => absurd rfl h), fun c2 => nxt 1 (fun h => absurd h (by decide)) (fun _ => (ts2 c1).mpr c2)⟩⟩
theorem X1_doActs_2_s {J : Ju} {a c pos : Nat} {d q pI p3 p4 : Int} {al : List Act} {s : Js} {Q : mM → Prop} (hw : mWF w) (ok : jOk J) (jn : jnC w μ J a d q) (hc : mAt w c 231) (hpos : pI = (pos : Int)) (ha : acC (μ c) pos al) (hn : p3 = (al.length : Int)) (hk : ∀ x ∈ al, (x.1 = 27 → 1 ≤ x.2) ∧ (x.1 = 28 → 0 ≤ x.2 ∧ x.2 + (3) ≤ 11 ∧ x.2 < μ 21 8)) (js : jsC μ a (0, s))
    (k : ∀ m : mM, jsC m a (doA (gpJ J d q 12) al s) → frJd μ m a → Q m) : WP_X1_doActs_W2 w μ c pI p3 p4 Q := by
  subst hpos
  have c21 : c ≠ 21 := mAt.ne (A_21 hw) hc rfl
  intro n en rn
  refine loopF.im (fun i m => ∃ (pre rest : List Act) (e : Je), al = pre ++ rest ∧ i = (pre.length : Int) ∧ acC (μ c) (pos + 2 * pre.length) rest ∧ jsC m a e ∧ frJd μ m a ∧ doA (gpJ J d q 12) al s = (if e.1 = 0 then doA (gpJ J d q 12) rest e.2 else e)) (fun i => (1001 - i).toNat) ⟨[], al, (0, s), rfl, rfl, ha, js, frJd.refl, (if_pos rfl).symm⟩ (by omega) ?_
  rintro rc i m ⟨pre, rest, e, h1, h2, h3, h4, h5, h6⟩ ih i' m' ee ri T F
  cases ee
  subst h2
  have jm := jn.fr hw F
  have cm : m c = μ c := funext fun j => F.f hc rfl rfl
  have n8 : m 21 8 = μ 21 8 := F.f (A_21 hw) rfl rfl
  have fin : rest = [] ∨ ¬ e.1 = 0 → Q m := fun h => k m (by
    have E : doA (gpJ J d q 12) al s = e := by
      rw [h6]
      by_cases c0 : e.1 = 0
      · rw [if_pos c0]
        rcases h with h | h
        · rw [h]; exact Prod.ext c0.symm rfl
        · exact absurd c0 h
      · rw [if_neg c0]
    rw [E]; exact h4) h5
  have len : al.length = pre.length + rest.length := by rw [h1, List.length_append]
  refine ⟨fun g => fin (Or.inl ?_), fun g z ez rz => ⟨fun h => fin (Or.inr ?_), fun h num enum rnum cnt ecnt rcnt => ?_⟩⟩
  · cases rest with
    | nil => rfl
    | cons x l => rw [List.length_cons] at len; omega
  · have := h4.1
    omega
  cases rest with
  | nil => exfalso; have len : al.length = pre.length + 0 := len; omega
  | cons x l =>
  obtain ⟨⟨f1, f2⟩, f3⟩ := h3
  have xin : x ∈ al := by rw [h1]; exact List.mem_append_right _ List.mem_cons_self
  rw [show ((pos : Int) + (pre.length : Int) * 2 + 1).toNat = pos + 2 * pre.length + 1 by omega, cm, f2] at enum
  subst enum
  have e0 : e.1 = 0 := by have := h4.1; omega
  have c1 : e.2.1 = cnt := by have := h4.2.1; omega
  rw [if_pos e0] at h6
  have st : doA (gpJ J d q 12) (x :: l) e.2 = (if 500 ≤ e.2.1 then (2, e.2) else if (actS (gpJ J d q 12) x (e.2.1 + 1, e.2.2)).1 = 0 then doA (gpJ J d q 12) l (actS (gpJ J d q 12) x (e.2.1 + 1, e.2.2)).2 else actS (gpJ J d q 12) x (e.2.1 + 1, e.2.2)) := rfl
  have a21 := jn.2.2.1
  have rtU : ∀ (i : Nat) (v : Int), rtC (mUp m 21 i v) a = rtC m a := fun i v => rtC.of (fun _ => mUp.no (by omega)) (fun _ => mUp.no (by omega)) (fun _ => mUp.no (by omega))
  refine ⟨fun q0 m2 u2 T2 kd ekd rkd => ?_, fun q0 m2 u2 T2 => ?_⟩
  rotate_left 1
  · obtain rfl := u2.is
    refine k _ ?_ (h5.trans fun b i g0 g1 g2 g3 => mUp.no (by omega))
    rw [h6, st, if_pos (by omega)]
    exact ⟨mUp.yes ⟨rfl, rfl⟩, by rw [mUp.no (by omega)]; exact h4.2.1, by rw [rtU]; exact h4.2.2.1, h4.2.2.2⟩
  obtain rfl := u2.is
  rw [show ((pos : Int) + (pre.length : Int) * 2).toNat = pos + 2 * pre.length by omega, mUp.no (by omega), cm, f1] at ekd
  subst ekd
  have j2 : jsC (mUp m 21 6 (cnt + 1)) a (0, e.2.1 + 1, e.2.2) := ⟨by rw [mUp.no (by omega)]; exact h4.1.trans e0, by rw [mUp.yes ⟨rfl, rfl⟩, c1], by rw [rtU]; exact h4.2.2.1, h4.2.2.2⟩
  have r2 : mUp m 21 6 (cnt + 1) 21 2 = (a : Int) := by rw [mUp.no (by omega)]; exact jm.2.2.2.1
  have nx : ∀ m3 : mM, jsC m3 a (actS (gpJ J d q 12) x (e.2.1 + 1, e.2.2)) → frJd (mUp m 21 6 (cnt + 1)) m3 a → rc ((pre.length : Int) + 1, m3) := fun m3 j3 fr3 => ih _ _ ⟨pre ++ [x], l, _, by rw [h1, List.append_assoc]; rfl, by rw [List.length_append, List.length_singleton]; omega, by
    rw [List.length_append, List.length_singleton, show pos + 2 * (pre.length + 1) = pos + 2 * pre.length + 2 by omega]
    exact f3, j3, (h5.trans fun b i g0 g1 g2 g3 => mUp.no (by omega)).trans fr3, by rw [h6, st, if_neg (by omega)]⟩ (by omega)
  have oth : (¬ x.1 = 12 ∧ ¬ x.1 = 13 ∧ ¬ (23 ≤ x.1 ∧ x.1 ≤ 28)) → rc ((pre.length : Int) + 1, mUp m 21 6 (cnt + 1)) := fun h => nx _ (by rw [actS.ot h]; exact j2) frJd.refl
  obtain ⟨gg, er⟩ := rtC.get j2.2.2.1
  have wyr : rowL (mUp m 21 6 (cnt + 1) (a + 1)) (mUp m 21 6 (cnt + 1) a 7).toNat = wOf e.2.2 := by
    have := congrArg wOf er
    exact this.symm
  have mkr : rowL (mUp m 21 6 (cnt + 1) (a + 2)) (mUp m 21 6 (cnt + 1) a 8).toNat = mOf e.2.2 := by
    have := congrArg mOf er
    exact this.symm
  refine ⟨fun g b2 eb2 _ m3 u3 T3 => ?_, fun n12 => ⟨fun g b2 eb2 _ m3 u3 T3 => ?_, fun n13 => ⟨fun g => oth (by omega), fun n14 => ⟨fun g => oth (by omega), fun n15 => ⟨fun g => oth (by omega), fun n16 => ⟨fun g => oth (by omega), fun n17 => ⟨fun g => oth (by omega), fun n18 => ⟨fun g => oth (by omega), fun n19 => ⟨fun g => oth (by omega), fun n20 => ⟨fun g => oth (by omega), fun n21 => ⟨fun g => oth (by omega), fun n22 => ⟨fun g m3 u3 T3 => ?_, fun n23 => ⟨fun g m3 u3 T3 => ?_, fun n24 => ⟨fun g b2 eb2 _ => ?_, fun n25 => ⟨fun g b2 eb2 _ => ?_, fun n26 => ⟨fun g b2 eb2 _ z7 ez7 rz7 => ?_, fun n27 => ⟨fun g => ?_, fun n28 => oth (by omega)⟩⟩⟩⟩⟩⟩⟩⟩⟩⟩⟩⟩⟩⟩⟩⟩⟩
  · have e2 : a = b2 := by omega
    subst e2
    obtain rfl := u3.is
    refine nx _ ?_ (fun b i g0 g1 g2 g3 => mUp.no (by omega))
    rw [actS.a12 g]
    exact ⟨by rw [mUp.no (by omega)]; exact j2.1, by rw [mUp.no (by omega)]; exact j2.2.1, rtC.wish j2.2.2.1, j2.2.2.2⟩
  · have e2 : a = b2 := by omega
    subst e2
    obtain rfl := u3.is
    refine nx _ ?_ (fun b i g0 g1 g2 g3 => mUp.no (by omega))
    rw [actS.a13 g]
    exact ⟨by rw [mUp.no (by omega)]; exact j2.1, by rw [mUp.no (by omega)]; exact j2.2.1, rtC.cost j2.2.2.1, j2.2.2.2⟩
  · obtain rfl := u3.is
    refine nx _ ?_ (fun b i g0 g1 g2 g3 => mUp.no (by omega))
    rw [actS.a23 g]
    exact ⟨mUp.yes ⟨rfl, rfl⟩, by rw [mUp.no (by omega)]; exact j2.2.1, by rw [rtC.of (fun _ => mUp.no (by omega)) (fun _ => mUp.no (by omega)) (fun _ => mUp.no (by omega))]; exact j2.2.2.1, j2.2.2.2⟩
  · obtain rfl := u3.is
    refine nx _ ?_ (fun b i g0 g1 g2 g3 => mUp.no (by omega))
    rw [actS.a24 g]
    exact ⟨mUp.yes ⟨rfl, rfl⟩, by rw [mUp.no (by omega)]; exact j2.2.1, by rw [rtC.of (fun _ => mUp.no (by omega)) (fun _ => mUp.no (by omega)) (fun _ => mUp.no (by omega))]; exact j2.2.2.1, j2.2.2.2⟩
  · have e2 : a = b2 := by omega
    subst e2
    refine X7_addMark_s (by rw [mkr]; exact j2.2.2.2) fun m3 rm f3 _ _ => nx m3 ?_ (fun b i g0 g1 g2 g3 => f3 b i (by omega) g2)
    rw [actS.a25 g]
    rw [mkr] at rm
    exact ⟨by rw [f3 _ _ (by omega) (by omega)]; exact j2.1, by rw [f3 _ _ (by omega) (by omega)]; exact j2.2.1, rtC.mks j2.2.2.1 rm f3, addM.srt j2.2.2.2⟩
  · have e2 : a = b2 := by omega
    subst e2
    refine X7_dropMark_s fun m3 rm f3 _ _ => nx m3 ?_ (fun b i g0 g1 g2 g3 => f3 b i (by omega) g2)
    rw [actS.a26 g]
    rw [mkr] at rm
    exact ⟨by rw [f3 _ _ (by omega) (by omega)]; exact j2.1, by rw [f3 _ _ (by omega) (by omega)]; exact j2.2.1, rtC.mks j2.2.2.1 rm f3, dropM.srt j2.2.2.2⟩
  · have e2 : a = b2 := by omega
    subst e2
    have x27 := (hk x xin).1 g
    have wl : ((wOf e.2.2).length : Int) = z7 := by rw [← wyr, rowL.len, ez7, Int.toNat_of_nonneg rz7.1]
    refine ⟨fun c0 _ _ => nx _ ?_ frJd.refl, fun c0 v ev rv => ?_⟩
    · have wn : wOf e.2.2 = [] := List.eq_nil_of_length_eq_zero (by omega)
      rw [actS.m27 (s := (e.2.1 + 1, e.2.2)) g (moreR.nil (r := e.2.2) wn)]
      exact j2
    have wc : wOf e.2.2 = v :: rowL (fun i => mUp m 21 6 (cnt + 1) (a + 1) (i + 1)) (z7.toNat - 1) := by
      rw [← wyr, ez7, show z7.toNat = (z7.toNat - 1) + 1 by omega, rowL.head, ← ev]
      rfl
    refine X7_putInFront_s (fun h0 _ _ _ => ⟨fun h => absurd rfl h, fun _ m4 u4 T4 _ _ => ?_⟩) fun m3 t0 t1 t2 e7 w1 w2 f3 _ _ _ => ⟨fun _ _ _ => nx m3 ?_ (fun b i g0 g1 g2 g3 => f3 b i (by omega) g1), fun h => absurd h (by decide)⟩
    · obtain rfl := u4.is
      refine nx _ ?_ (fun b i g0 g1 g2 g3 => mUp.no (by omega))
      rw [actS.n27 (s := (e.2.1 + 1, e.2.2)) g (moreR.far (r := e.2.2) (by rw [wc]; exact fun h => by cases h) (by omega))]
      exact ⟨mUp.yes ⟨rfl, rfl⟩, by rw [mUp.no (by omega)]; exact j2.2.1, by rw [rtC.of (fun _ => mUp.no (by omega)) (fun _ => mUp.no (by omega)) (fun _ => mUp.no (by omega))]; exact j2.2.2.1, j2.2.2.2⟩
    · rw [actS.m27 (s := (e.2.1 + 1, e.2.2)) g (moreR.go (r := e.2.2) wc (by omega))]
      exact ⟨by rw [f3 _ _ (by omega) (by omega)]; exact j2.1, by rw [f3 _ _ (by omega) (by omega)]; exact j2.2.1, rtC.front j2.2.2.1 t0 t1 e7 w1 w2 f3, j2.2.2.2⟩
  · have x28 := (hk x xin).2 g
    refine X1_goThrough_3_s hw ok (jn.fr hw (F.up (A_21 hw) mUp_ok rfl)) x28.1 x28.2.1 (by rw [mUp.no (by omega), n8]; exact x28.2.2) j2 fun m3 j3 fr3 _ _ => nx m3 ?_ fr3
    rw [actS.a28 g]
    exact j3
theorem X1_goThrough_2_s {J : Ju} {a : Nat} {d q p p2 : Int} {s : Js} {Q : mM → Prop} (hw : mWF w) (ok : jOk J) (jn : jnC w μ J a d q) (h0 : 0 ≤ p) (hD : p + (2) ≤ 11) (hp : p < μ 21 8) (js : jsC μ a (0, s))
    (k : ∀ m : mM, jsC m a (gpJ J d q 12 p s) → frJd μ m a → Q m) : WP_X1_goThrough_W2 w μ p p2 Q := by
  refine ⟨fun g => absurd g (by omega), fun _ n en rn => ⟨fun g => absurd g (by omega), fun _ b eb _ c ec rows er => ?_⟩⟩
  obtain ⟨b', eb', c', cp, cn, cf, cl, hA, hl, hr, hN⟩ := jn.1.1 p.toNat (by omega)
  rw [Int.toNat_of_nonneg h0] at hl hr hN
  have e1 : b' = b := by omega
  subst e1
  have e2 : c' = c := by have := hA.2.1; omega
  subst e2
  rw [hl] at er
  have RES := gpJ.eq (d := d) (q := q) (s := s) ok h0 (show p < 12 by omega)
  refine loopF.iim (fun at_ row m => 0 ≤ row ∧ frJd μ m a ∧ ∃ (l : List Rw) (e : Je), row + (l.length : Int) = ((jP J p).1.length : Int) ∧ 0 ≤ at_ ∧ (∀ x ∈ l, x ∈ (jP J p).1) ∧ rwsC (w.2.2.1 cf) (μ c') (μ cf) (μ cl) at_.toNat l ∧ jsC m a e ∧ gpJ J d q 12 p s = (if e.1 = 0 then goR (gpJ J d q 12) (tsT J p d q) l e.2 else e)) (fun _ row => (31 - row).toNat) ⟨by omega, frJd.refl, (jP J p).1, (0, s), by omega, by omega, fun _ h => h, hr, js, RES.trans (if_pos rfl).symm⟩ (by omega) ?_
  rintro rc at_ row m ⟨r0, fr, l, e, h1, h2, hin, h3, h4, h5⟩ ih at' row' m' ee hat hrow T F
  cases ee
  have jm := jn.fr hw F
  have cm : m c' = μ c' := funext fun j => F.f hA.1.2.1 rfl rfl
  have fm : m cf = μ cf := funext fun j => F.f hA.1.2.2.2.2.1 rfl rfl
  have lm : m cl = μ cl := funext fun j => F.f hA.1.2.2.2.2.2 rfl rfl
  have hAm : plA w m b' c' cp cn cf cl := ⟨hA.1, F.f hA.1.1 rfl hA.2.1, F.f hA.1.1 rfl hA.2.2.1, F.f hA.1.1 rfl hA.2.2.2.1, F.f hA.1.1 rfl hA.2.2.2.2.1, F.f hA.1.1 rfl hA.2.2.2.2.2⟩
  have hNm : plN w m cp cn (jP J p) := ⟨hN.1, fun k hk => ⟨⟨F.f hA.1.2.2.1 rfl (hN.2 k hk).1.1, by rw [F.f hA.1.2.2.2.1 rfl (rfl : μ cn k = μ cn k)]; exact (hN.2 k hk).1.2⟩, (hN.2 k hk).2⟩⟩
  have n8 : m 21 8 = μ 21 8 := F.f (A_21 hw) rfl rfl
  have fin : l = [] ∨ ¬ e.1 = 0 → Q m := fun h => k m (by
    have E : gpJ J d q 12 p s = e := by
      rw [h5]
      by_cases c0 : e.1 = 0
      · rw [if_pos c0]
        rcases h with h | h
        · rw [h]; exact Prod.ext c0.symm rfl
        · exact absurd c0 h
      · rw [if_neg c0]
    rw [E]; exact h4) fr
  refine ⟨fun g => fin (Or.inl ?_), fun g z ez rz => ⟨fun h => fin (Or.inr ?_), fun h n2 _ _ T1 eT1 _ A1 eA1 _ => ?_⟩⟩
  · cases l with
    | nil => rfl
    | cons x l => rw [List.length_cons] at h1; omega
  · have := h4.1
    omega
  cases l with
  | nil => exfalso; have h1 : row + ((0 : Nat) : Int) = ((jP J p).1.length : Int) := h1; omega
  | cons x l =>
  rw [List.length_cons] at h1
  obtain ⟨⟨f1, f2⟩, f3, f4, f5⟩ := h3
  rw [cm, f1] at eT1
  rw [cm, show (at_ + 1).toNat = at_.toNat + 1 by omega, f2] at eA1
  subst eT1 eA1
  have e0 : e.1 = 0 := by have := h4.1; omega
  rw [if_pos e0] at h5
  have xin := hin x List.mem_cons_self
  have xok := ok p h0 x xin
  have st : goR (gpJ J d q 12) (tsT J p d q) (x :: l) e.2 = cIf (∀ t ∈ x.1, tsT J p d q t e.2.2) (if (doA (gpJ J d q 12) x.2 e.2).1 = 0 then goR (gpJ J d q 12) (tsT J p d q) l (doA (gpJ J d q 12) x.2 e.2).2 else doA (gpJ J d q 12) x.2 e.2) (goR (gpJ J d q 12) (tsT J p d q) l e.2) := rfl
  have j0 : jsC m a (0, e.2) := ⟨h4.1.trans e0, h4.2⟩
  have f5' : rwsC (w.2.2.1 cf) (μ c') (μ cf) (μ cl) (at_ + 2 + (x.1.length : Int) * 5 + (x.2.length : Int) * 2).toNat l := by
    rw [show (at_ + 2 + (x.1.length : Int) * 5 + (x.2.length : Int) * 2).toNat = at_.toNat + 2 + 5 * x.1.length + 2 * x.2.length by omega]
    exact f5
  have J3 : ∀ so : Int, (so = 0 → ¬ ∀ t ∈ x.1, tsT J p d q t e.2.2) → (¬ so = 0 → ∀ t ∈ x.1, tsT J p d q t e.2.2) → WJ_X1_goThrough_W2_3 w p2 c' rc at_ row m (x.1.length : Int) (x.2.length : Int) so := by
    intro so n0 n1
    refine ⟨fun c0 => ih _ _ _ ⟨by omega, fr, l, e, by omega, by omega, fun y hy => hin y (List.mem_cons_of_mem _ hy), f5', h4, ?_⟩ (by omega), fun c0 => ?_⟩
    · rw [if_pos e0, h5, st, cIf.neg (n0 c0)]
    · refine X1_doActs_2_s (pos := at_.toNat + 2 + 5 * x.1.length) (al := x.2) hw ok jm hA.1.2.1 (by omega) (by rw [cm]; exact f4) rfl (fun y hy => ?_) j0 fun m2 j2 fr2 _ _ => ih _ _ _ ⟨by omega, fr.trans fr2, l, _, by omega, by omega, fun y hy => hin y (List.mem_cons_of_mem _ hy), f5', j2, ?_⟩ (by omega)
      · have o := xok.2 y hy
        exact ⟨fun h => (o.2.2.1 h).1, fun h => by have := o.2.2.2 h; exact ⟨this.1, by omega, by rw [n8]; omega⟩⟩
      · rw [h5, st, cIf.pos (n1 c0)]
  refine loopF.ii (fun so i => ∃ pre rest : List Tst, x.1 = pre ++ rest ∧ i = at_ + 2 + 5 * (pre.length : Int) ∧ tsAC (w.2.2.1 cf) (μ c') (μ cf) (μ cl) i.toNat rest ∧ (so = 0 → ¬ ∀ t ∈ x.1, tsT J p d q t e.2.2) ∧ (¬ so = 0 → ∀ t ∈ pre, tsT J p d q t e.2.2)) (fun _ i => (2011 - i).toNat) ⟨[], x.1, rfl, by show at_ + 2 = at_ + 2 + 5 * ((0 : Nat) : Int); omega, by rw [show (at_ + 2).toNat = at_.toNat + 2 by omega]; exact f3, fun h => absurd h (by decide), fun _ t ht => by cases ht⟩ (by omega) ?_
  rintro rc2 so i ⟨pre, rest, g1, g2, g3, g4, g5⟩ ih2 so' i' ee2 rso ri2
  cases ee2
  have len : x.1.length = pre.length + rest.length := by rw [g1, List.length_append]
  refine ⟨fun u => J3 so g4 fun n0 => ?_, fun u => ⟨fun u2 => J3 so g4 fun n0 => absurd u2 n0, fun u2 => ?_⟩⟩
  · cases rest with
    | nil => rw [List.append_nil] at g1; rw [g1]; exact g5 n0
    | cons t l => exfalso; rw [List.length_cons] at len; omega
  cases rest with
  | nil => exfalso; have len : x.1.length = pre.length + 0 := len; omega
  | cons t rest =>
  obtain ⟨k1, k2⟩ := g3
  have tin : t ∈ x.1 := by rw [g1]; exact List.mem_append_right _ List.mem_cons_self
  obtain ⟨iN, hiN⟩ : ∃ iN : Nat, i = (iN : Int) := ⟨i.toNat, by omega⟩
  subst hiN
  rw [Int.toNat_natCast] at k1 k2
  refine X1_isSo_s (J := J) (p := p) (d := d) (q := q) (a := a) (t := t) (r := e.2.2) hAm hNm (by rw [cm, fm, lm]; exact k1) (xok.1 t tin) jm.1.2.1 jm.1.2.2 jm.2.2.2.1 jm.2.2.2.2.1 jm.2.2.2.2.2.1 jm.2.2.2.2.2.2 h4.2.2.1 fun z hz _ v ev rv => ?_
  have vt : v = t.2.1 := by
    rw [← ev, cm, show ((iN : Int) + 1).toNat = iN + 1 by omega]
    exact k1.2.1
  have ts1 : ¬ v = 1 → (tsT J p d q t e.2.2 ↔ z = 1) := fun hv => ⟨fun h => Classical.byContradiction fun c => h ⟨fun i => absurd (hz.mpr i) c, fun i => absurd (vt.trans i) hv⟩, fun h i => hv (vt.trans (i.mp (hz.mp h)))⟩
  have ts2 : v = 1 → (tsT J p d q t e.2.2 ↔ ¬ z = 1) := fun hv => ⟨fun h c => h ⟨fun _ => vt.symm.trans hv, fun _ => hz.mp c⟩, fun h i => h (hz.mpr (i.mpr (vt.symm.trans hv)))⟩
  have nxt : ∀ so' : Int, (so' = 0 → ¬ tsT J p d q t e.2.2) → (¬ so' = 0 → tsT J p d q t e.2.2) → rc2 (so', (iN : Int) + 5) := fun so' a0 a1 => ih2 _ _ ⟨pre ++ [t], rest, by rw [g1, List.append_assoc]; rfl, by rw [List.length_append, List.length_singleton]; omega, by rw [show ((iN : Int) + 5).toNat = iN + 5 by omega]; exact k2, fun h all => a0 h (all t tin), fun h t' ht' => by
    rcases List.mem_append.mp ht' with y | y
    · exact g5 u2 t' y
    · rw [List.mem_singleton.mp y]; exact a1 h⟩ (by omega)
  exact ⟨fun c1 => ⟨fun c2 => nxt 0 (fun _ ts => by have := (ts1 c1).mp ts; omega) (fun h => absurd rfl h), fun c2 => nxt 1 (fun h => absurd h (by decide)) (fun _ => (ts1 c1).mpr (by omega))⟩, fun c1 => ⟨fun c2 => nxt 0 (fun _ ts => (ts2 c1).mp ts c2) (fun h => absurd rfl h), fun c2 => nxt 1 (fun h => absurd h (by decide)) (fun _ => (ts2 c1).mpr c2)⟩⟩
theorem X1_doActs_1_s {J : Ju} {a c pos : Nat} {d q pI p3 p4 : Int} {al : List Act} {s : Js} {Q : mM → Prop} (hw : mWF w) (ok : jOk J) (jn : jnC w μ J a d q) (hc : mAt w c 231) (hpos : pI = (pos : Int)) (ha : acC (μ c) pos al) (hn : p3 = (al.length : Int)) (hk : ∀ x ∈ al, (x.1 = 27 → 1 ≤ x.2) ∧ (x.1 = 28 → 0 ≤ x.2 ∧ x.2 + (2) ≤ 11 ∧ x.2 < μ 21 8)) (js : jsC μ a (0, s))
    (k : ∀ m : mM, jsC m a (doA (gpJ J d q 12) al s) → frJd μ m a → Q m) : WP_X1_doActs_W1 w μ c pI p3 p4 Q := by
  subst hpos
  have c21 : c ≠ 21 := mAt.ne (A_21 hw) hc rfl
  intro n en rn
  refine loopF.im (fun i m => ∃ (pre rest : List Act) (e : Je), al = pre ++ rest ∧ i = (pre.length : Int) ∧ acC (μ c) (pos + 2 * pre.length) rest ∧ jsC m a e ∧ frJd μ m a ∧ doA (gpJ J d q 12) al s = (if e.1 = 0 then doA (gpJ J d q 12) rest e.2 else e)) (fun i => (1001 - i).toNat) ⟨[], al, (0, s), rfl, rfl, ha, js, frJd.refl, (if_pos rfl).symm⟩ (by omega) ?_
  rintro rc i m ⟨pre, rest, e, h1, h2, h3, h4, h5, h6⟩ ih i' m' ee ri T F
  cases ee
  subst h2
  have jm := jn.fr hw F
  have cm : m c = μ c := funext fun j => F.f hc rfl rfl
  have n8 : m 21 8 = μ 21 8 := F.f (A_21 hw) rfl rfl
  have fin : rest = [] ∨ ¬ e.1 = 0 → Q m := fun h => k m (by
    have E : doA (gpJ J d q 12) al s = e := by
      rw [h6]
      by_cases c0 : e.1 = 0
      · rw [if_pos c0]
        rcases h with h | h
        · rw [h]; exact Prod.ext c0.symm rfl
        · exact absurd c0 h
      · rw [if_neg c0]
    rw [E]; exact h4) h5
  have len : al.length = pre.length + rest.length := by rw [h1, List.length_append]
  refine ⟨fun g => fin (Or.inl ?_), fun g z ez rz => ⟨fun h => fin (Or.inr ?_), fun h num enum rnum cnt ecnt rcnt => ?_⟩⟩
  · cases rest with
    | nil => rfl
    | cons x l => rw [List.length_cons] at len; omega
  · have := h4.1
    omega
  cases rest with
  | nil => exfalso; have len : al.length = pre.length + 0 := len; omega
  | cons x l =>
  obtain ⟨⟨f1, f2⟩, f3⟩ := h3
  have xin : x ∈ al := by rw [h1]; exact List.mem_append_right _ List.mem_cons_self
  rw [show ((pos : Int) + (pre.length : Int) * 2 + 1).toNat = pos + 2 * pre.length + 1 by omega, cm, f2] at enum
  subst enum
  have e0 : e.1 = 0 := by have := h4.1; omega
  have c1 : e.2.1 = cnt := by have := h4.2.1; omega
  rw [if_pos e0] at h6
  have st : doA (gpJ J d q 12) (x :: l) e.2 = (if 500 ≤ e.2.1 then (2, e.2) else if (actS (gpJ J d q 12) x (e.2.1 + 1, e.2.2)).1 = 0 then doA (gpJ J d q 12) l (actS (gpJ J d q 12) x (e.2.1 + 1, e.2.2)).2 else actS (gpJ J d q 12) x (e.2.1 + 1, e.2.2)) := rfl
  have a21 := jn.2.2.1
  have rtU : ∀ (i : Nat) (v : Int), rtC (mUp m 21 i v) a = rtC m a := fun i v => rtC.of (fun _ => mUp.no (by omega)) (fun _ => mUp.no (by omega)) (fun _ => mUp.no (by omega))
  refine ⟨fun q0 m2 u2 T2 kd ekd rkd => ?_, fun q0 m2 u2 T2 => ?_⟩
  rotate_left 1
  · obtain rfl := u2.is
    refine k _ ?_ (h5.trans fun b i g0 g1 g2 g3 => mUp.no (by omega))
    rw [h6, st, if_pos (by omega)]
    exact ⟨mUp.yes ⟨rfl, rfl⟩, by rw [mUp.no (by omega)]; exact h4.2.1, by rw [rtU]; exact h4.2.2.1, h4.2.2.2⟩
  obtain rfl := u2.is
  rw [show ((pos : Int) + (pre.length : Int) * 2).toNat = pos + 2 * pre.length by omega, mUp.no (by omega), cm, f1] at ekd
  subst ekd
  have j2 : jsC (mUp m 21 6 (cnt + 1)) a (0, e.2.1 + 1, e.2.2) := ⟨by rw [mUp.no (by omega)]; exact h4.1.trans e0, by rw [mUp.yes ⟨rfl, rfl⟩, c1], by rw [rtU]; exact h4.2.2.1, h4.2.2.2⟩
  have r2 : mUp m 21 6 (cnt + 1) 21 2 = (a : Int) := by rw [mUp.no (by omega)]; exact jm.2.2.2.1
  have nx : ∀ m3 : mM, jsC m3 a (actS (gpJ J d q 12) x (e.2.1 + 1, e.2.2)) → frJd (mUp m 21 6 (cnt + 1)) m3 a → rc ((pre.length : Int) + 1, m3) := fun m3 j3 fr3 => ih _ _ ⟨pre ++ [x], l, _, by rw [h1, List.append_assoc]; rfl, by rw [List.length_append, List.length_singleton]; omega, by
    rw [List.length_append, List.length_singleton, show pos + 2 * (pre.length + 1) = pos + 2 * pre.length + 2 by omega]
    exact f3, j3, (h5.trans fun b i g0 g1 g2 g3 => mUp.no (by omega)).trans fr3, by rw [h6, st, if_neg (by omega)]⟩ (by omega)
  have oth : (¬ x.1 = 12 ∧ ¬ x.1 = 13 ∧ ¬ (23 ≤ x.1 ∧ x.1 ≤ 28)) → rc ((pre.length : Int) + 1, mUp m 21 6 (cnt + 1)) := fun h => nx _ (by rw [actS.ot h]; exact j2) frJd.refl
  obtain ⟨gg, er⟩ := rtC.get j2.2.2.1
  have wyr : rowL (mUp m 21 6 (cnt + 1) (a + 1)) (mUp m 21 6 (cnt + 1) a 7).toNat = wOf e.2.2 := by
    have := congrArg wOf er
    exact this.symm
  have mkr : rowL (mUp m 21 6 (cnt + 1) (a + 2)) (mUp m 21 6 (cnt + 1) a 8).toNat = mOf e.2.2 := by
    have := congrArg mOf er
    exact this.symm
  refine ⟨fun g b2 eb2 _ m3 u3 T3 => ?_, fun n12 => ⟨fun g b2 eb2 _ m3 u3 T3 => ?_, fun n13 => ⟨fun g => oth (by omega), fun n14 => ⟨fun g => oth (by omega), fun n15 => ⟨fun g => oth (by omega), fun n16 => ⟨fun g => oth (by omega), fun n17 => ⟨fun g => oth (by omega), fun n18 => ⟨fun g => oth (by omega), fun n19 => ⟨fun g => oth (by omega), fun n20 => ⟨fun g => oth (by omega), fun n21 => ⟨fun g => oth (by omega), fun n22 => ⟨fun g m3 u3 T3 => ?_, fun n23 => ⟨fun g m3 u3 T3 => ?_, fun n24 => ⟨fun g b2 eb2 _ => ?_, fun n25 => ⟨fun g b2 eb2 _ => ?_, fun n26 => ⟨fun g b2 eb2 _ z7 ez7 rz7 => ?_, fun n27 => ⟨fun g => ?_, fun n28 => oth (by omega)⟩⟩⟩⟩⟩⟩⟩⟩⟩⟩⟩⟩⟩⟩⟩⟩⟩
  · have e2 : a = b2 := by omega
    subst e2
    obtain rfl := u3.is
    refine nx _ ?_ (fun b i g0 g1 g2 g3 => mUp.no (by omega))
    rw [actS.a12 g]
    exact ⟨by rw [mUp.no (by omega)]; exact j2.1, by rw [mUp.no (by omega)]; exact j2.2.1, rtC.wish j2.2.2.1, j2.2.2.2⟩
  · have e2 : a = b2 := by omega
    subst e2
    obtain rfl := u3.is
    refine nx _ ?_ (fun b i g0 g1 g2 g3 => mUp.no (by omega))
    rw [actS.a13 g]
    exact ⟨by rw [mUp.no (by omega)]; exact j2.1, by rw [mUp.no (by omega)]; exact j2.2.1, rtC.cost j2.2.2.1, j2.2.2.2⟩
  · obtain rfl := u3.is
    refine nx _ ?_ (fun b i g0 g1 g2 g3 => mUp.no (by omega))
    rw [actS.a23 g]
    exact ⟨mUp.yes ⟨rfl, rfl⟩, by rw [mUp.no (by omega)]; exact j2.2.1, by rw [rtC.of (fun _ => mUp.no (by omega)) (fun _ => mUp.no (by omega)) (fun _ => mUp.no (by omega))]; exact j2.2.2.1, j2.2.2.2⟩
  · obtain rfl := u3.is
    refine nx _ ?_ (fun b i g0 g1 g2 g3 => mUp.no (by omega))
    rw [actS.a24 g]
    exact ⟨mUp.yes ⟨rfl, rfl⟩, by rw [mUp.no (by omega)]; exact j2.2.1, by rw [rtC.of (fun _ => mUp.no (by omega)) (fun _ => mUp.no (by omega)) (fun _ => mUp.no (by omega))]; exact j2.2.2.1, j2.2.2.2⟩
  · have e2 : a = b2 := by omega
    subst e2
    refine X7_addMark_s (by rw [mkr]; exact j2.2.2.2) fun m3 rm f3 _ _ => nx m3 ?_ (fun b i g0 g1 g2 g3 => f3 b i (by omega) g2)
    rw [actS.a25 g]
    rw [mkr] at rm
    exact ⟨by rw [f3 _ _ (by omega) (by omega)]; exact j2.1, by rw [f3 _ _ (by omega) (by omega)]; exact j2.2.1, rtC.mks j2.2.2.1 rm f3, addM.srt j2.2.2.2⟩
  · have e2 : a = b2 := by omega
    subst e2
    refine X7_dropMark_s fun m3 rm f3 _ _ => nx m3 ?_ (fun b i g0 g1 g2 g3 => f3 b i (by omega) g2)
    rw [actS.a26 g]
    rw [mkr] at rm
    exact ⟨by rw [f3 _ _ (by omega) (by omega)]; exact j2.1, by rw [f3 _ _ (by omega) (by omega)]; exact j2.2.1, rtC.mks j2.2.2.1 rm f3, dropM.srt j2.2.2.2⟩
  · have e2 : a = b2 := by omega
    subst e2
    have x27 := (hk x xin).1 g
    have wl : ((wOf e.2.2).length : Int) = z7 := by rw [← wyr, rowL.len, ez7, Int.toNat_of_nonneg rz7.1]
    refine ⟨fun c0 _ _ => nx _ ?_ frJd.refl, fun c0 v ev rv => ?_⟩
    · have wn : wOf e.2.2 = [] := List.eq_nil_of_length_eq_zero (by omega)
      rw [actS.m27 (s := (e.2.1 + 1, e.2.2)) g (moreR.nil (r := e.2.2) wn)]
      exact j2
    have wc : wOf e.2.2 = v :: rowL (fun i => mUp m 21 6 (cnt + 1) (a + 1) (i + 1)) (z7.toNat - 1) := by
      rw [← wyr, ez7, show z7.toNat = (z7.toNat - 1) + 1 by omega, rowL.head, ← ev]
      rfl
    refine X7_putInFront_s (fun h0 _ _ _ => ⟨fun h => absurd rfl h, fun _ m4 u4 T4 _ _ => ?_⟩) fun m3 t0 t1 t2 e7 w1 w2 f3 _ _ _ => ⟨fun _ _ _ => nx m3 ?_ (fun b i g0 g1 g2 g3 => f3 b i (by omega) g1), fun h => absurd h (by decide)⟩
    · obtain rfl := u4.is
      refine nx _ ?_ (fun b i g0 g1 g2 g3 => mUp.no (by omega))
      rw [actS.n27 (s := (e.2.1 + 1, e.2.2)) g (moreR.far (r := e.2.2) (by rw [wc]; exact fun h => by cases h) (by omega))]
      exact ⟨mUp.yes ⟨rfl, rfl⟩, by rw [mUp.no (by omega)]; exact j2.2.1, by rw [rtC.of (fun _ => mUp.no (by omega)) (fun _ => mUp.no (by omega)) (fun _ => mUp.no (by omega))]; exact j2.2.2.1, j2.2.2.2⟩
    · rw [actS.m27 (s := (e.2.1 + 1, e.2.2)) g (moreR.go (r := e.2.2) wc (by omega))]
      exact ⟨by rw [f3 _ _ (by omega) (by omega)]; exact j2.1, by rw [f3 _ _ (by omega) (by omega)]; exact j2.2.1, rtC.front j2.2.2.1 t0 t1 e7 w1 w2 f3, j2.2.2.2⟩
  · have x28 := (hk x xin).2 g
    refine X1_goThrough_2_s hw ok (jn.fr hw (F.up (A_21 hw) mUp_ok rfl)) x28.1 x28.2.1 (by rw [mUp.no (by omega), n8]; exact x28.2.2) j2 fun m3 j3 fr3 _ _ => nx m3 ?_ fr3
    rw [actS.a28 g]
    exact j3
theorem X1_goThrough_1_s {J : Ju} {a : Nat} {d q p p2 : Int} {s : Js} {Q : mM → Prop} (hw : mWF w) (ok : jOk J) (jn : jnC w μ J a d q) (h0 : 0 ≤ p) (hD : p + (1) ≤ 11) (hp : p < μ 21 8) (js : jsC μ a (0, s))
    (k : ∀ m : mM, jsC m a (gpJ J d q 12 p s) → frJd μ m a → Q m) : WP_X1_goThrough_W1 w μ p p2 Q := by
  refine ⟨fun g => absurd g (by omega), fun _ n en rn => ⟨fun g => absurd g (by omega), fun _ b eb _ c ec rows er => ?_⟩⟩
  obtain ⟨b', eb', c', cp, cn, cf, cl, hA, hl, hr, hN⟩ := jn.1.1 p.toNat (by omega)
  rw [Int.toNat_of_nonneg h0] at hl hr hN
  have e1 : b' = b := by omega
  subst e1
  have e2 : c' = c := by have := hA.2.1; omega
  subst e2
  rw [hl] at er
  have RES := gpJ.eq (d := d) (q := q) (s := s) ok h0 (show p < 12 by omega)
  refine loopF.iim (fun at_ row m => 0 ≤ row ∧ frJd μ m a ∧ ∃ (l : List Rw) (e : Je), row + (l.length : Int) = ((jP J p).1.length : Int) ∧ 0 ≤ at_ ∧ (∀ x ∈ l, x ∈ (jP J p).1) ∧ rwsC (w.2.2.1 cf) (μ c') (μ cf) (μ cl) at_.toNat l ∧ jsC m a e ∧ gpJ J d q 12 p s = (if e.1 = 0 then goR (gpJ J d q 12) (tsT J p d q) l e.2 else e)) (fun _ row => (31 - row).toNat) ⟨by omega, frJd.refl, (jP J p).1, (0, s), by omega, by omega, fun _ h => h, hr, js, RES.trans (if_pos rfl).symm⟩ (by omega) ?_
  rintro rc at_ row m ⟨r0, fr, l, e, h1, h2, hin, h3, h4, h5⟩ ih at' row' m' ee hat hrow T F
  cases ee
  have jm := jn.fr hw F
  have cm : m c' = μ c' := funext fun j => F.f hA.1.2.1 rfl rfl
  have fm : m cf = μ cf := funext fun j => F.f hA.1.2.2.2.2.1 rfl rfl
  have lm : m cl = μ cl := funext fun j => F.f hA.1.2.2.2.2.2 rfl rfl
  have hAm : plA w m b' c' cp cn cf cl := ⟨hA.1, F.f hA.1.1 rfl hA.2.1, F.f hA.1.1 rfl hA.2.2.1, F.f hA.1.1 rfl hA.2.2.2.1, F.f hA.1.1 rfl hA.2.2.2.2.1, F.f hA.1.1 rfl hA.2.2.2.2.2⟩
  have hNm : plN w m cp cn (jP J p) := ⟨hN.1, fun k hk => ⟨⟨F.f hA.1.2.2.1 rfl (hN.2 k hk).1.1, by rw [F.f hA.1.2.2.2.1 rfl (rfl : μ cn k = μ cn k)]; exact (hN.2 k hk).1.2⟩, (hN.2 k hk).2⟩⟩
  have n8 : m 21 8 = μ 21 8 := F.f (A_21 hw) rfl rfl
  have fin : l = [] ∨ ¬ e.1 = 0 → Q m := fun h => k m (by
    have E : gpJ J d q 12 p s = e := by
      rw [h5]
      by_cases c0 : e.1 = 0
      · rw [if_pos c0]
        rcases h with h | h
        · rw [h]; exact Prod.ext c0.symm rfl
        · exact absurd c0 h
      · rw [if_neg c0]
    rw [E]; exact h4) fr
  refine ⟨fun g => fin (Or.inl ?_), fun g z ez rz => ⟨fun h => fin (Or.inr ?_), fun h n2 _ _ T1 eT1 _ A1 eA1 _ => ?_⟩⟩
  · cases l with
    | nil => rfl
    | cons x l => rw [List.length_cons] at h1; omega
  · have := h4.1
    omega
  cases l with
  | nil => exfalso; have h1 : row + ((0 : Nat) : Int) = ((jP J p).1.length : Int) := h1; omega
  | cons x l =>
  rw [List.length_cons] at h1
  obtain ⟨⟨f1, f2⟩, f3, f4, f5⟩ := h3
  rw [cm, f1] at eT1
  rw [cm, show (at_ + 1).toNat = at_.toNat + 1 by omega, f2] at eA1
  subst eT1 eA1
  have e0 : e.1 = 0 := by have := h4.1; omega
  rw [if_pos e0] at h5
  have xin := hin x List.mem_cons_self
  have xok := ok p h0 x xin
  have st : goR (gpJ J d q 12) (tsT J p d q) (x :: l) e.2 = cIf (∀ t ∈ x.1, tsT J p d q t e.2.2) (if (doA (gpJ J d q 12) x.2 e.2).1 = 0 then goR (gpJ J d q 12) (tsT J p d q) l (doA (gpJ J d q 12) x.2 e.2).2 else doA (gpJ J d q 12) x.2 e.2) (goR (gpJ J d q 12) (tsT J p d q) l e.2) := rfl
  have j0 : jsC m a (0, e.2) := ⟨h4.1.trans e0, h4.2⟩
  have f5' : rwsC (w.2.2.1 cf) (μ c') (μ cf) (μ cl) (at_ + 2 + (x.1.length : Int) * 5 + (x.2.length : Int) * 2).toNat l := by
    rw [show (at_ + 2 + (x.1.length : Int) * 5 + (x.2.length : Int) * 2).toNat = at_.toNat + 2 + 5 * x.1.length + 2 * x.2.length by omega]
    exact f5
  have J3 : ∀ so : Int, (so = 0 → ¬ ∀ t ∈ x.1, tsT J p d q t e.2.2) → (¬ so = 0 → ∀ t ∈ x.1, tsT J p d q t e.2.2) → WJ_X1_goThrough_W1_3 w p2 c' rc at_ row m (x.1.length : Int) (x.2.length : Int) so := by
    intro so n0 n1
    refine ⟨fun c0 => ih _ _ _ ⟨by omega, fr, l, e, by omega, by omega, fun y hy => hin y (List.mem_cons_of_mem _ hy), f5', h4, ?_⟩ (by omega), fun c0 => ?_⟩
    · rw [if_pos e0, h5, st, cIf.neg (n0 c0)]
    · refine X1_doActs_1_s (pos := at_.toNat + 2 + 5 * x.1.length) (al := x.2) hw ok jm hA.1.2.1 (by omega) (by rw [cm]; exact f4) rfl (fun y hy => ?_) j0 fun m2 j2 fr2 _ _ => ih _ _ _ ⟨by omega, fr.trans fr2, l, _, by omega, by omega, fun y hy => hin y (List.mem_cons_of_mem _ hy), f5', j2, ?_⟩ (by omega)
      · have o := xok.2 y hy
        exact ⟨fun h => (o.2.2.1 h).1, fun h => by have := o.2.2.2 h; exact ⟨this.1, by omega, by rw [n8]; omega⟩⟩
      · rw [h5, st, cIf.pos (n1 c0)]
  refine loopF.ii (fun so i => ∃ pre rest : List Tst, x.1 = pre ++ rest ∧ i = at_ + 2 + 5 * (pre.length : Int) ∧ tsAC (w.2.2.1 cf) (μ c') (μ cf) (μ cl) i.toNat rest ∧ (so = 0 → ¬ ∀ t ∈ x.1, tsT J p d q t e.2.2) ∧ (¬ so = 0 → ∀ t ∈ pre, tsT J p d q t e.2.2)) (fun _ i => (2011 - i).toNat) ⟨[], x.1, rfl, by show at_ + 2 = at_ + 2 + 5 * ((0 : Nat) : Int); omega, by rw [show (at_ + 2).toNat = at_.toNat + 2 by omega]; exact f3, fun h => absurd h (by decide), fun _ t ht => by cases ht⟩ (by omega) ?_
  rintro rc2 so i ⟨pre, rest, g1, g2, g3, g4, g5⟩ ih2 so' i' ee2 rso ri2
  cases ee2
  have len : x.1.length = pre.length + rest.length := by rw [g1, List.length_append]
  refine ⟨fun u => J3 so g4 fun n0 => ?_, fun u => ⟨fun u2 => J3 so g4 fun n0 => absurd u2 n0, fun u2 => ?_⟩⟩
  · cases rest with
    | nil => rw [List.append_nil] at g1; rw [g1]; exact g5 n0
    | cons t l => exfalso; rw [List.length_cons] at len; omega
  cases rest with
  | nil => exfalso; have len : x.1.length = pre.length + 0 := len; omega
  | cons t rest =>
  obtain ⟨k1, k2⟩ := g3
  have tin : t ∈ x.1 := by rw [g1]; exact List.mem_append_right _ List.mem_cons_self
  obtain ⟨iN, hiN⟩ : ∃ iN : Nat, i = (iN : Int) := ⟨i.toNat, by omega⟩
  subst hiN
  rw [Int.toNat_natCast] at k1 k2
  refine X1_isSo_s (J := J) (p := p) (d := d) (q := q) (a := a) (t := t) (r := e.2.2) hAm hNm (by rw [cm, fm, lm]; exact k1) (xok.1 t tin) jm.1.2.1 jm.1.2.2 jm.2.2.2.1 jm.2.2.2.2.1 jm.2.2.2.2.2.1 jm.2.2.2.2.2.2 h4.2.2.1 fun z hz _ v ev rv => ?_
  have vt : v = t.2.1 := by
    rw [← ev, cm, show ((iN : Int) + 1).toNat = iN + 1 by omega]
    exact k1.2.1
  have ts1 : ¬ v = 1 → (tsT J p d q t e.2.2 ↔ z = 1) := fun hv => ⟨fun h => Classical.byContradiction fun c => h ⟨fun i => absurd (hz.mpr i) c, fun i => absurd (vt.trans i) hv⟩, fun h i => hv (vt.trans (i.mp (hz.mp h)))⟩
  have ts2 : v = 1 → (tsT J p d q t e.2.2 ↔ ¬ z = 1) := fun hv => ⟨fun h c => h ⟨fun _ => vt.symm.trans hv, fun _ => hz.mp c⟩, fun h i => h (hz.mpr (i.mpr (vt.symm.trans hv)))⟩
  have nxt : ∀ so' : Int, (so' = 0 → ¬ tsT J p d q t e.2.2) → (¬ so' = 0 → tsT J p d q t e.2.2) → rc2 (so', (iN : Int) + 5) := fun so' a0 a1 => ih2 _ _ ⟨pre ++ [t], rest, by rw [g1, List.append_assoc]; rfl, by rw [List.length_append, List.length_singleton]; omega, by rw [show ((iN : Int) + 5).toNat = iN + 5 by omega]; exact k2, fun h all => a0 h (all t tin), fun h t' ht' => by
    rcases List.mem_append.mp ht' with y | y
    · exact g5 u2 t' y
    · rw [List.mem_singleton.mp y]; exact a1 h⟩ (by omega)
  exact ⟨fun c1 => ⟨fun c2 => nxt 0 (fun _ ts => by have := (ts1 c1).mp ts; omega) (fun h => absurd rfl h), fun c2 => nxt 1 (fun h => absurd h (by decide)) (fun _ => (ts1 c1).mpr (by omega))⟩, fun c1 => ⟨fun c2 => nxt 0 (fun _ ts => (ts2 c1).mp ts c2) (fun h => absurd rfl h), fun c2 => nxt 1 (fun h => absurd h (by decide)) (fun _ => (ts2 c1).mpr c2)⟩⟩
theorem X1_doActs_0_s {J : Ju} {a c pos : Nat} {d q pI p3 p4 : Int} {al : List Act} {s : Js} {Q : mM → Prop} (hw : mWF w) (ok : jOk J) (jn : jnC w μ J a d q) (hc : mAt w c 231) (hpos : pI = (pos : Int)) (ha : acC (μ c) pos al) (hn : p3 = (al.length : Int)) (hk : ∀ x ∈ al, (x.1 = 27 → 1 ≤ x.2) ∧ (x.1 = 28 → 0 ≤ x.2 ∧ x.2 + (1) ≤ 11 ∧ x.2 < μ 21 8)) (js : jsC μ a (0, s))
    (k : ∀ m : mM, jsC m a (doA (gpJ J d q 12) al s) → frJd μ m a → Q m) : WP_X1_doActs_W0 w μ c pI p3 p4 Q := by
  subst hpos
  have c21 : c ≠ 21 := mAt.ne (A_21 hw) hc rfl
  intro n en rn
  refine loopF.im (fun i m => ∃ (pre rest : List Act) (e : Je), al = pre ++ rest ∧ i = (pre.length : Int) ∧ acC (μ c) (pos + 2 * pre.length) rest ∧ jsC m a e ∧ frJd μ m a ∧ doA (gpJ J d q 12) al s = (if e.1 = 0 then doA (gpJ J d q 12) rest e.2 else e)) (fun i => (1001 - i).toNat) ⟨[], al, (0, s), rfl, rfl, ha, js, frJd.refl, (if_pos rfl).symm⟩ (by omega) ?_
  rintro rc i m ⟨pre, rest, e, h1, h2, h3, h4, h5, h6⟩ ih i' m' ee ri T F
  cases ee
  subst h2
  have jm := jn.fr hw F
  have cm : m c = μ c := funext fun j => F.f hc rfl rfl
  have n8 : m 21 8 = μ 21 8 := F.f (A_21 hw) rfl rfl
  have fin : rest = [] ∨ ¬ e.1 = 0 → Q m := fun h => k m (by
    have E : doA (gpJ J d q 12) al s = e := by
      rw [h6]
      by_cases c0 : e.1 = 0
      · rw [if_pos c0]
        rcases h with h | h
        · rw [h]; exact Prod.ext c0.symm rfl
        · exact absurd c0 h
      · rw [if_neg c0]
    rw [E]; exact h4) h5
  have len : al.length = pre.length + rest.length := by rw [h1, List.length_append]
  refine ⟨fun g => fin (Or.inl ?_), fun g z ez rz => ⟨fun h => fin (Or.inr ?_), fun h num enum rnum cnt ecnt rcnt => ?_⟩⟩
  · cases rest with
    | nil => rfl
    | cons x l => rw [List.length_cons] at len; omega
  · have := h4.1
    omega
  cases rest with
  | nil => exfalso; have len : al.length = pre.length + 0 := len; omega
  | cons x l =>
  obtain ⟨⟨f1, f2⟩, f3⟩ := h3
  have xin : x ∈ al := by rw [h1]; exact List.mem_append_right _ List.mem_cons_self
  rw [show ((pos : Int) + (pre.length : Int) * 2 + 1).toNat = pos + 2 * pre.length + 1 by omega, cm, f2] at enum
  subst enum
  have e0 : e.1 = 0 := by have := h4.1; omega
  have c1 : e.2.1 = cnt := by have := h4.2.1; omega
  rw [if_pos e0] at h6
  have st : doA (gpJ J d q 12) (x :: l) e.2 = (if 500 ≤ e.2.1 then (2, e.2) else if (actS (gpJ J d q 12) x (e.2.1 + 1, e.2.2)).1 = 0 then doA (gpJ J d q 12) l (actS (gpJ J d q 12) x (e.2.1 + 1, e.2.2)).2 else actS (gpJ J d q 12) x (e.2.1 + 1, e.2.2)) := rfl
  have a21 := jn.2.2.1
  have rtU : ∀ (i : Nat) (v : Int), rtC (mUp m 21 i v) a = rtC m a := fun i v => rtC.of (fun _ => mUp.no (by omega)) (fun _ => mUp.no (by omega)) (fun _ => mUp.no (by omega))
  refine ⟨fun q0 m2 u2 T2 kd ekd rkd => ?_, fun q0 m2 u2 T2 => ?_⟩
  rotate_left 1
  · obtain rfl := u2.is
    refine k _ ?_ (h5.trans fun b i g0 g1 g2 g3 => mUp.no (by omega))
    rw [h6, st, if_pos (by omega)]
    exact ⟨mUp.yes ⟨rfl, rfl⟩, by rw [mUp.no (by omega)]; exact h4.2.1, by rw [rtU]; exact h4.2.2.1, h4.2.2.2⟩
  obtain rfl := u2.is
  rw [show ((pos : Int) + (pre.length : Int) * 2).toNat = pos + 2 * pre.length by omega, mUp.no (by omega), cm, f1] at ekd
  subst ekd
  have j2 : jsC (mUp m 21 6 (cnt + 1)) a (0, e.2.1 + 1, e.2.2) := ⟨by rw [mUp.no (by omega)]; exact h4.1.trans e0, by rw [mUp.yes ⟨rfl, rfl⟩, c1], by rw [rtU]; exact h4.2.2.1, h4.2.2.2⟩
  have r2 : mUp m 21 6 (cnt + 1) 21 2 = (a : Int) := by rw [mUp.no (by omega)]; exact jm.2.2.2.1
  have nx : ∀ m3 : mM, jsC m3 a (actS (gpJ J d q 12) x (e.2.1 + 1, e.2.2)) → frJd (mUp m 21 6 (cnt + 1)) m3 a → rc ((pre.length : Int) + 1, m3) := fun m3 j3 fr3 => ih _ _ ⟨pre ++ [x], l, _, by rw [h1, List.append_assoc]; rfl, by rw [List.length_append, List.length_singleton]; omega, by
    rw [List.length_append, List.length_singleton, show pos + 2 * (pre.length + 1) = pos + 2 * pre.length + 2 by omega]
    exact f3, j3, (h5.trans fun b i g0 g1 g2 g3 => mUp.no (by omega)).trans fr3, by rw [h6, st, if_neg (by omega)]⟩ (by omega)
  have oth : (¬ x.1 = 12 ∧ ¬ x.1 = 13 ∧ ¬ (23 ≤ x.1 ∧ x.1 ≤ 28)) → rc ((pre.length : Int) + 1, mUp m 21 6 (cnt + 1)) := fun h => nx _ (by rw [actS.ot h]; exact j2) frJd.refl
  obtain ⟨gg, er⟩ := rtC.get j2.2.2.1
  have wyr : rowL (mUp m 21 6 (cnt + 1) (a + 1)) (mUp m 21 6 (cnt + 1) a 7).toNat = wOf e.2.2 := by
    have := congrArg wOf er
    exact this.symm
  have mkr : rowL (mUp m 21 6 (cnt + 1) (a + 2)) (mUp m 21 6 (cnt + 1) a 8).toNat = mOf e.2.2 := by
    have := congrArg mOf er
    exact this.symm
  refine ⟨fun g b2 eb2 _ m3 u3 T3 => ?_, fun n12 => ⟨fun g b2 eb2 _ m3 u3 T3 => ?_, fun n13 => ⟨fun g => oth (by omega), fun n14 => ⟨fun g => oth (by omega), fun n15 => ⟨fun g => oth (by omega), fun n16 => ⟨fun g => oth (by omega), fun n17 => ⟨fun g => oth (by omega), fun n18 => ⟨fun g => oth (by omega), fun n19 => ⟨fun g => oth (by omega), fun n20 => ⟨fun g => oth (by omega), fun n21 => ⟨fun g => oth (by omega), fun n22 => ⟨fun g m3 u3 T3 => ?_, fun n23 => ⟨fun g m3 u3 T3 => ?_, fun n24 => ⟨fun g b2 eb2 _ => ?_, fun n25 => ⟨fun g b2 eb2 _ => ?_, fun n26 => ⟨fun g b2 eb2 _ z7 ez7 rz7 => ?_, fun n27 => ⟨fun g => ?_, fun n28 => oth (by omega)⟩⟩⟩⟩⟩⟩⟩⟩⟩⟩⟩⟩⟩⟩⟩⟩⟩
  · have e2 : a = b2 := by omega
    subst e2
    obtain rfl := u3.is
    refine nx _ ?_ (fun b i g0 g1 g2 g3 => mUp.no (by omega))
    rw [actS.a12 g]
    exact ⟨by rw [mUp.no (by omega)]; exact j2.1, by rw [mUp.no (by omega)]; exact j2.2.1, rtC.wish j2.2.2.1, j2.2.2.2⟩
  · have e2 : a = b2 := by omega
    subst e2
    obtain rfl := u3.is
    refine nx _ ?_ (fun b i g0 g1 g2 g3 => mUp.no (by omega))
    rw [actS.a13 g]
    exact ⟨by rw [mUp.no (by omega)]; exact j2.1, by rw [mUp.no (by omega)]; exact j2.2.1, rtC.cost j2.2.2.1, j2.2.2.2⟩
  · obtain rfl := u3.is
    refine nx _ ?_ (fun b i g0 g1 g2 g3 => mUp.no (by omega))
    rw [actS.a23 g]
    exact ⟨mUp.yes ⟨rfl, rfl⟩, by rw [mUp.no (by omega)]; exact j2.2.1, by rw [rtC.of (fun _ => mUp.no (by omega)) (fun _ => mUp.no (by omega)) (fun _ => mUp.no (by omega))]; exact j2.2.2.1, j2.2.2.2⟩
  · obtain rfl := u3.is
    refine nx _ ?_ (fun b i g0 g1 g2 g3 => mUp.no (by omega))
    rw [actS.a24 g]
    exact ⟨mUp.yes ⟨rfl, rfl⟩, by rw [mUp.no (by omega)]; exact j2.2.1, by rw [rtC.of (fun _ => mUp.no (by omega)) (fun _ => mUp.no (by omega)) (fun _ => mUp.no (by omega))]; exact j2.2.2.1, j2.2.2.2⟩
  · have e2 : a = b2 := by omega
    subst e2
    refine X7_addMark_s (by rw [mkr]; exact j2.2.2.2) fun m3 rm f3 _ _ => nx m3 ?_ (fun b i g0 g1 g2 g3 => f3 b i (by omega) g2)
    rw [actS.a25 g]
    rw [mkr] at rm
    exact ⟨by rw [f3 _ _ (by omega) (by omega)]; exact j2.1, by rw [f3 _ _ (by omega) (by omega)]; exact j2.2.1, rtC.mks j2.2.2.1 rm f3, addM.srt j2.2.2.2⟩
  · have e2 : a = b2 := by omega
    subst e2
    refine X7_dropMark_s fun m3 rm f3 _ _ => nx m3 ?_ (fun b i g0 g1 g2 g3 => f3 b i (by omega) g2)
    rw [actS.a26 g]
    rw [mkr] at rm
    exact ⟨by rw [f3 _ _ (by omega) (by omega)]; exact j2.1, by rw [f3 _ _ (by omega) (by omega)]; exact j2.2.1, rtC.mks j2.2.2.1 rm f3, dropM.srt j2.2.2.2⟩
  · have e2 : a = b2 := by omega
    subst e2
    have x27 := (hk x xin).1 g
    have wl : ((wOf e.2.2).length : Int) = z7 := by rw [← wyr, rowL.len, ez7, Int.toNat_of_nonneg rz7.1]
    refine ⟨fun c0 _ _ => nx _ ?_ frJd.refl, fun c0 v ev rv => ?_⟩
    · have wn : wOf e.2.2 = [] := List.eq_nil_of_length_eq_zero (by omega)
      rw [actS.m27 (s := (e.2.1 + 1, e.2.2)) g (moreR.nil (r := e.2.2) wn)]
      exact j2
    have wc : wOf e.2.2 = v :: rowL (fun i => mUp m 21 6 (cnt + 1) (a + 1) (i + 1)) (z7.toNat - 1) := by
      rw [← wyr, ez7, show z7.toNat = (z7.toNat - 1) + 1 by omega, rowL.head, ← ev]
      rfl
    refine X7_putInFront_s (fun h0 _ _ _ => ⟨fun h => absurd rfl h, fun _ m4 u4 T4 _ _ => ?_⟩) fun m3 t0 t1 t2 e7 w1 w2 f3 _ _ _ => ⟨fun _ _ _ => nx m3 ?_ (fun b i g0 g1 g2 g3 => f3 b i (by omega) g1), fun h => absurd h (by decide)⟩
    · obtain rfl := u4.is
      refine nx _ ?_ (fun b i g0 g1 g2 g3 => mUp.no (by omega))
      rw [actS.n27 (s := (e.2.1 + 1, e.2.2)) g (moreR.far (r := e.2.2) (by rw [wc]; exact fun h => by cases h) (by omega))]
      exact ⟨mUp.yes ⟨rfl, rfl⟩, by rw [mUp.no (by omega)]; exact j2.2.1, by rw [rtC.of (fun _ => mUp.no (by omega)) (fun _ => mUp.no (by omega)) (fun _ => mUp.no (by omega))]; exact j2.2.2.1, j2.2.2.2⟩
    · rw [actS.m27 (s := (e.2.1 + 1, e.2.2)) g (moreR.go (r := e.2.2) wc (by omega))]
      exact ⟨by rw [f3 _ _ (by omega) (by omega)]; exact j2.1, by rw [f3 _ _ (by omega) (by omega)]; exact j2.2.1, rtC.front j2.2.2.1 t0 t1 e7 w1 w2 f3, j2.2.2.2⟩
  · have x28 := (hk x xin).2 g
    refine X1_goThrough_1_s hw ok (jn.fr hw (F.up (A_21 hw) mUp_ok rfl)) x28.1 x28.2.1 (by rw [mUp.no (by omega), n8]; exact x28.2.2) j2 fun m3 j3 fr3 _ _ => nx m3 ?_ fr3
    rw [actS.a28 g]
    exact j3
theorem X1_goThrough_0_s {J : Ju} {a : Nat} {d q p p2 : Int} {s : Js} {Q : mM → Prop} (hw : mWF w) (ok : jOk J) (jn : jnC w μ J a d q) (h0 : 0 ≤ p) (hD : p + (0) ≤ 11) (hp : p < μ 21 8) (js : jsC μ a (0, s))
    (k : ∀ m : mM, jsC m a (gpJ J d q 12 p s) → frJd μ m a → Q m) : WP_X1_goThrough_W0 w μ p p2 Q := by
  refine ⟨fun g => absurd g (by omega), fun _ n en rn => ⟨fun g => absurd g (by omega), fun _ b eb _ c ec rows er => ?_⟩⟩
  obtain ⟨b', eb', c', cp, cn, cf, cl, hA, hl, hr, hN⟩ := jn.1.1 p.toNat (by omega)
  rw [Int.toNat_of_nonneg h0] at hl hr hN
  have e1 : b' = b := by omega
  subst e1
  have e2 : c' = c := by have := hA.2.1; omega
  subst e2
  rw [hl] at er
  have RES := gpJ.eq (d := d) (q := q) (s := s) ok h0 (show p < 12 by omega)
  refine loopF.iim (fun at_ row m => 0 ≤ row ∧ frJd μ m a ∧ ∃ (l : List Rw) (e : Je), row + (l.length : Int) = ((jP J p).1.length : Int) ∧ 0 ≤ at_ ∧ (∀ x ∈ l, x ∈ (jP J p).1) ∧ rwsC (w.2.2.1 cf) (μ c') (μ cf) (μ cl) at_.toNat l ∧ jsC m a e ∧ gpJ J d q 12 p s = (if e.1 = 0 then goR (gpJ J d q 12) (tsT J p d q) l e.2 else e)) (fun _ row => (31 - row).toNat) ⟨by omega, frJd.refl, (jP J p).1, (0, s), by omega, by omega, fun _ h => h, hr, js, RES.trans (if_pos rfl).symm⟩ (by omega) ?_
  rintro rc at_ row m ⟨r0, fr, l, e, h1, h2, hin, h3, h4, h5⟩ ih at' row' m' ee hat hrow T F
  cases ee
  have jm := jn.fr hw F
  have cm : m c' = μ c' := funext fun j => F.f hA.1.2.1 rfl rfl
  have fm : m cf = μ cf := funext fun j => F.f hA.1.2.2.2.2.1 rfl rfl
  have lm : m cl = μ cl := funext fun j => F.f hA.1.2.2.2.2.2 rfl rfl
  have hAm : plA w m b' c' cp cn cf cl := ⟨hA.1, F.f hA.1.1 rfl hA.2.1, F.f hA.1.1 rfl hA.2.2.1, F.f hA.1.1 rfl hA.2.2.2.1, F.f hA.1.1 rfl hA.2.2.2.2.1, F.f hA.1.1 rfl hA.2.2.2.2.2⟩
  have hNm : plN w m cp cn (jP J p) := ⟨hN.1, fun k hk => ⟨⟨F.f hA.1.2.2.1 rfl (hN.2 k hk).1.1, by rw [F.f hA.1.2.2.2.1 rfl (rfl : μ cn k = μ cn k)]; exact (hN.2 k hk).1.2⟩, (hN.2 k hk).2⟩⟩
  have n8 : m 21 8 = μ 21 8 := F.f (A_21 hw) rfl rfl
  have fin : l = [] ∨ ¬ e.1 = 0 → Q m := fun h => k m (by
    have E : gpJ J d q 12 p s = e := by
      rw [h5]
      by_cases c0 : e.1 = 0
      · rw [if_pos c0]
        rcases h with h | h
        · rw [h]; exact Prod.ext c0.symm rfl
        · exact absurd c0 h
      · rw [if_neg c0]
    rw [E]; exact h4) fr
  refine ⟨fun g => fin (Or.inl ?_), fun g z ez rz => ⟨fun h => fin (Or.inr ?_), fun h n2 _ _ T1 eT1 _ A1 eA1 _ => ?_⟩⟩
  · cases l with
    | nil => rfl
    | cons x l => rw [List.length_cons] at h1; omega
  · have := h4.1
    omega
  cases l with
  | nil => exfalso; have h1 : row + ((0 : Nat) : Int) = ((jP J p).1.length : Int) := h1; omega
  | cons x l =>
  rw [List.length_cons] at h1
  obtain ⟨⟨f1, f2⟩, f3, f4, f5⟩ := h3
  rw [cm, f1] at eT1
  rw [cm, show (at_ + 1).toNat = at_.toNat + 1 by omega, f2] at eA1
  subst eT1 eA1
  have e0 : e.1 = 0 := by have := h4.1; omega
  rw [if_pos e0] at h5
  have xin := hin x List.mem_cons_self
  have xok := ok p h0 x xin
  have st : goR (gpJ J d q 12) (tsT J p d q) (x :: l) e.2 = cIf (∀ t ∈ x.1, tsT J p d q t e.2.2) (if (doA (gpJ J d q 12) x.2 e.2).1 = 0 then goR (gpJ J d q 12) (tsT J p d q) l (doA (gpJ J d q 12) x.2 e.2).2 else doA (gpJ J d q 12) x.2 e.2) (goR (gpJ J d q 12) (tsT J p d q) l e.2) := rfl
  have j0 : jsC m a (0, e.2) := ⟨h4.1.trans e0, h4.2⟩
  have f5' : rwsC (w.2.2.1 cf) (μ c') (μ cf) (μ cl) (at_ + 2 + (x.1.length : Int) * 5 + (x.2.length : Int) * 2).toNat l := by
    rw [show (at_ + 2 + (x.1.length : Int) * 5 + (x.2.length : Int) * 2).toNat = at_.toNat + 2 + 5 * x.1.length + 2 * x.2.length by omega]
    exact f5
  have J3 : ∀ so : Int, (so = 0 → ¬ ∀ t ∈ x.1, tsT J p d q t e.2.2) → (¬ so = 0 → ∀ t ∈ x.1, tsT J p d q t e.2.2) → WJ_X1_goThrough_W0_3 w p2 c' rc at_ row m (x.1.length : Int) (x.2.length : Int) so := by
    intro so n0 n1
    refine ⟨fun c0 => ih _ _ _ ⟨by omega, fr, l, e, by omega, by omega, fun y hy => hin y (List.mem_cons_of_mem _ hy), f5', h4, ?_⟩ (by omega), fun c0 => ?_⟩
    · rw [if_pos e0, h5, st, cIf.neg (n0 c0)]
    · refine X1_doActs_0_s (pos := at_.toNat + 2 + 5 * x.1.length) (al := x.2) hw ok jm hA.1.2.1 (by omega) (by rw [cm]; exact f4) rfl (fun y hy => ?_) j0 fun m2 j2 fr2 _ _ => ih _ _ _ ⟨by omega, fr.trans fr2, l, _, by omega, by omega, fun y hy => hin y (List.mem_cons_of_mem _ hy), f5', j2, ?_⟩ (by omega)
      · have o := xok.2 y hy
        exact ⟨fun h => (o.2.2.1 h).1, fun h => by have := o.2.2.2 h; exact ⟨this.1, by omega, by rw [n8]; omega⟩⟩
      · rw [h5, st, cIf.pos (n1 c0)]
  refine loopF.ii (fun so i => ∃ pre rest : List Tst, x.1 = pre ++ rest ∧ i = at_ + 2 + 5 * (pre.length : Int) ∧ tsAC (w.2.2.1 cf) (μ c') (μ cf) (μ cl) i.toNat rest ∧ (so = 0 → ¬ ∀ t ∈ x.1, tsT J p d q t e.2.2) ∧ (¬ so = 0 → ∀ t ∈ pre, tsT J p d q t e.2.2)) (fun _ i => (2011 - i).toNat) ⟨[], x.1, rfl, by show at_ + 2 = at_ + 2 + 5 * ((0 : Nat) : Int); omega, by rw [show (at_ + 2).toNat = at_.toNat + 2 by omega]; exact f3, fun h => absurd h (by decide), fun _ t ht => by cases ht⟩ (by omega) ?_
  rintro rc2 so i ⟨pre, rest, g1, g2, g3, g4, g5⟩ ih2 so' i' ee2 rso ri2
  cases ee2
  have len : x.1.length = pre.length + rest.length := by rw [g1, List.length_append]
  refine ⟨fun u => J3 so g4 fun n0 => ?_, fun u => ⟨fun u2 => J3 so g4 fun n0 => absurd u2 n0, fun u2 => ?_⟩⟩
  · cases rest with
    | nil => rw [List.append_nil] at g1; rw [g1]; exact g5 n0
    | cons t l => exfalso; rw [List.length_cons] at len; omega
  cases rest with
  | nil => exfalso; have len : x.1.length = pre.length + 0 := len; omega
  | cons t rest =>
  obtain ⟨k1, k2⟩ := g3
  have tin : t ∈ x.1 := by rw [g1]; exact List.mem_append_right _ List.mem_cons_self
  obtain ⟨iN, hiN⟩ : ∃ iN : Nat, i = (iN : Int) := ⟨i.toNat, by omega⟩
  subst hiN
  rw [Int.toNat_natCast] at k1 k2
  refine X1_isSo_s (J := J) (p := p) (d := d) (q := q) (a := a) (t := t) (r := e.2.2) hAm hNm (by rw [cm, fm, lm]; exact k1) (xok.1 t tin) jm.1.2.1 jm.1.2.2 jm.2.2.2.1 jm.2.2.2.2.1 jm.2.2.2.2.2.1 jm.2.2.2.2.2.2 h4.2.2.1 fun z hz _ v ev rv => ?_
  have vt : v = t.2.1 := by
    rw [← ev, cm, show ((iN : Int) + 1).toNat = iN + 1 by omega]
    exact k1.2.1
  have ts1 : ¬ v = 1 → (tsT J p d q t e.2.2 ↔ z = 1) := fun hv => ⟨fun h => Classical.byContradiction fun c => h ⟨fun i => absurd (hz.mpr i) c, fun i => absurd (vt.trans i) hv⟩, fun h i => hv (vt.trans (i.mp (hz.mp h)))⟩
  have ts2 : v = 1 → (tsT J p d q t e.2.2 ↔ ¬ z = 1) := fun hv => ⟨fun h c => h ⟨fun _ => vt.symm.trans hv, fun _ => hz.mp c⟩, fun h i => h (hz.mpr (i.mpr (vt.symm.trans hv)))⟩
  have nxt : ∀ so' : Int, (so' = 0 → ¬ tsT J p d q t e.2.2) → (¬ so' = 0 → tsT J p d q t e.2.2) → rc2 (so', (iN : Int) + 5) := fun so' a0 a1 => ih2 _ _ ⟨pre ++ [t], rest, by rw [g1, List.append_assoc]; rfl, by rw [List.length_append, List.length_singleton]; omega, by rw [show ((iN : Int) + 5).toNat = iN + 5 by omega]; exact k2, fun h all => a0 h (all t tin), fun h t' ht' => by
    rcases List.mem_append.mp ht' with y | y
    · exact g5 u2 t' y
    · rw [List.mem_singleton.mp y]; exact a1 h⟩ (by omega)
  exact ⟨fun c1 => ⟨fun c2 => nxt 0 (fun _ ts => by have := (ts1 c1).mp ts; omega) (fun h => absurd rfl h), fun c2 => nxt 1 (fun h => absurd h (by decide)) (fun _ => (ts1 c1).mpr (by omega))⟩, fun c1 => ⟨fun c2 => nxt 0 (fun _ ts => (ts2 c1).mp ts c2) (fun h => absurd rfl h), fun c2 => nxt 1 (fun h => absurd h (by decide)) (fun _ => (ts2 c1).mpr c2)⟩⟩
end GoC
section LetC
variable {w : mW} {μ : mM} {E : En}
/-- what policies answer in the class, out of what they are -/
theorem letC.of {J : Ju} (hw : mWF w) (jg : jgC w μ J) (ok : jOk J) (hE : eTh E = thJ J) (hr : ∀ t s, t < eT E → s < 2 → mAt w (tbA μ t) 220 ∧ μ (tbA μ t) 0 = eA E t ∧ μ (tbA μ t) 1 = eB E t ∧ roK (μ (tbA μ t) 2) s = jR J (eN E t s) (eN E t (1 - s))) (hp : ∀ t i, t < eT E → i < 4 → plO (μ 21 8) (ePl E (4 * t + i))) : letC w μ E := by
  refine ⟨hp, ?_⟩
  intro m pl a t s r Q hT F ht hs hpl hr0 hsr hA k
  obtain ⟨tA, tE0, tE1, _⟩ := hr t s ht hs
  have tro := (hr t s ht hs).2.2.2
  have t0 : m (tbA μ t) 0 = eA E t := F.f tA rfl tE0
  have t1 : m (tbA μ t) 1 = eB E t := F.f tA rfl tE1
  have t2 : m (tbA μ t) 2 = μ (tbA μ t) 2 := F.f tA rfl rfl
  have n8 : m 21 8 = μ 21 8 := F.f (A_21 hw) rfl rfl
  have tb : tbA μ t ≠ 21 := mAt.ne (A_21 hw) tA rfl
  have aA : ¬ a = 21 ∧ ¬ a + 1 = 21 ∧ ¬ a + 2 = 21 := ⟨mAt.ne (A_21 hw) hA rfl, mAt.ne (A_21 hw) (hT a 200 hA 0).2 rfl, mAt.ne (A_21 hw) (hT a 200 hA 1).2 rfl⟩
  have eN0 : (if (s : Int) = 0 then eA E t else eB E t) = eN E t s := by
    unfold eN
    by_cases c : s = 0
    · rw [if_pos c, if_pos (by omega)]
    · rw [if_neg c, if_neg (by omega)]
  have eN1 : (if (1 - (s : Int)) = 0 then eA E t else eB E t) = eN E t (1 - s) := by
    unfold eN
    by_cases c : s = 0
    · rw [if_neg (by omega), if_neg (by omega)]
    · rw [if_pos (by omega), if_pos (by omega)]
  have no : pl = -99999999 → Q 1 m := fun e => k 1 m (by
    rw [hE]
    unfold thJ
    rw [if_pos e]
    exact ⟨fun _ => rfl, fun _ => rfl⟩) (by
    rw [hE]
    unfold thJ
    rw [if_pos e]
    exact hr0) (fun _ _ _ _ _ _ => rfl)
  refine ⟨fun g => no (by rcases hpl with h | h <;> omega), fun g n en rn => ⟨fun g2 m1 u1 T1 => ?_, fun g2 => no (by rcases hpl with h | h <;> omega)⟩⟩
  obtain rfl := u1.is
  refine X9_end_s ?_
  rw [mUp.no (by omega), mUp.no (by omega), t0, t1, eN0]
  intro _ m2 u2 T2
  obtain rfl := u2.is
  refine X9_end_s ?_
  rw [mUp.no (by omega), mUp.no (by omega), mUp.no (by omega), mUp.no (by omega), t0, t1, eN1]
  intro _ m3 u3 T3
  obtain rfl := u3.is
  refine X9_partnerRole_s ?_
  rw [mUp.no (by omega), mUp.no (by omega), mUp.no (by omega), t2, tro]
  intro _ m4 u4 T4 m5 u5 T5 m6 u6 T6
  obtain rfl := u4.is
  obtain rfl := u5.is
  obtain rfl := u6.is
  have F6 := (((((F.up (A_21 hw) u1 rfl).up (A_21 hw) u2 rfl).up (A_21 hw) u3 rfl).up (A_21 hw) u4 rfl).up (A_21 hw) u5 rfl).up (A_21 hw) u6 rfl
  have fr : ∀ b i, ¬ (b = 21 ∧ 2 ≤ i ∧ i ≤ 7) → mUp (mUp (mUp (mUp (mUp (mUp m 21 2 (a : Int)) 21 3 (eN E t s)) 21 4 (eN E t (1 - s))) 21 5 (jR J (eN E t s) (eN E t (1 - s)))) 21 6 0) 21 7 0 b i = m b i := fun b i h => by
    rw [mUp.no (by omega), mUp.no (by omega), mUp.no (by omega), mUp.no (by omega), mUp.no (by omega), mUp.no (by omega)]
  have jn : jnC w (mUp (mUp (mUp (mUp (mUp (mUp m 21 2 (a : Int)) 21 3 (eN E t s)) 21 4 (eN E t (1 - s))) 21 5 (jR J (eN E t s) (eN E t (1 - s)))) 21 6 0) 21 7 0) J a (eN E t s) (eN E t (1 - s)) := by
    refine ⟨jg.fr hw F6, hA, aA, ?_, ?_, ?_, ?_⟩
    · rw [mUp.no (by omega), mUp.no (by omega), mUp.no (by omega), mUp.no (by omega), mUp.no (by omega), mUp.yes ⟨rfl, rfl⟩]
    · rw [mUp.no (by omega), mUp.no (by omega), mUp.no (by omega), mUp.no (by omega), mUp.yes ⟨rfl, rfl⟩]
    · rw [mUp.no (by omega), mUp.no (by omega), mUp.no (by omega), mUp.yes ⟨rfl, rfl⟩]
    · rw [mUp.no (by omega), mUp.no (by omega), mUp.yes ⟨rfl, rfl⟩]
  have js : jsC (mUp (mUp (mUp (mUp (mUp (mUp m 21 2 (a : Int)) 21 3 (eN E t s)) 21 4 (eN E t (1 - s))) 21 5 (jR J (eN E t s) (eN E t (1 - s)))) 21 6 0) 21 7 0) a (0, 0, r) := by
    refine ⟨mUp.yes ⟨rfl, rfl⟩, by rw [mUp.no (by omega), mUp.yes ⟨rfl, rfl⟩], ?_, hsr⟩
    rw [rtC.of (fun i => fr _ _ (by omega)) (fun i => fr _ _ (by omega)) (fun i => fr _ _ (by omega))]
    exact hr0
  have hpn : 0 ≤ pl ∧ pl < μ 21 8 := by rcases hpl with h | h <;> omega
  have p12 : μ 21 8 ≤ 12 := by omega
  refine X1_goThrough_0_s hw ok jn hpn.1 (by omega) (by rw [fr _ _ (by omega), n8]; exact hpn.2) js fun m7 j7 fr7 _ _ z ez _ => ?_
  have z7 : z = (gpJ J (eN E t s) (eN E t (1 - s)) 12 pl (0, r)).1 := by
    rw [← ez]; exact j7.1
  have th : eTh E pl (eN E t s) (eN E t (1 - s)) r = (decide (¬ (gpJ J (eN E t s) (eN E t (1 - s)) 12 pl (0, r)).1 = 2), (gpJ J (eN E t s) (eN E t (1 - s)) 12 pl (0, r)).2.2) := by
    rw [hE]
    unfold thJ
    rw [if_neg (by omega)]
  rw [th] at k
  have fin : ∀ y : Int, (y = 1 ↔ ¬ z = 2) → Q y m7 := fun y hy => k y m7 (by
    rw [← z7]
    exact hy.trans decide_eq_true_iff.symm) j7.2.2.1 (fun b i g0 g1 g2 g3 => (fr7 b i g0 g1 g2 (by omega)).trans (fr b i g3))
  exact ⟨fun c => fin 0 ⟨fun h => absurd h (by decide), fun h => absurd c h⟩, fun c => fin 1 ⟨fun _ => c, fun _ => rfl⟩⟩
end LetC
