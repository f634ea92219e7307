theorem sUp_2 (f : Nat → sE) {a b : Nat} (x y z : sE) (h : a ≠ b) : sUp (sUp (sUp f a x) b y) a z = sUp (sUp f a z) b y := by
  funext j
  simp only [sUp]
  by_cases h1 : j = a
  · subst h1; simp [h]
  · by_cases h2 : j = b
    · subst h2; simp [h1]
    · simp [h1, h2]
theorem sUp_self {f : Nat → sE} {a : Nat} {x : sE} (h : f a = x) : sUp f a x = f := by
  funext j
  simp only [sUp]
  split
  next e => subst e; exact h.symm
  next => rfl
/-- every fortieth place of the first i rows is -1 -/
def sStr (i : Nat) (f : Nat → Value) : Nat → Value := fun j => if j % 40 = 0 ∧ j < 40 * i then .int (-1) else f j
theorem sStr_0 (f : Nat → Value) : sStr 0 f = f := by funext j; simp [sStr]
theorem sStr_up (i : Nat) (f : Nat → Value) : updV (sStr i f) (40 * i) (.int (-1)) = sStr (i + 1) f := by
  funext j
  simp only [updV, sStr]
  by_cases h : j = 40 * i
  · subst h; rw [if_pos rfl, if_pos (by omega)]
  · rw [if_neg h]
    by_cases h2 : j % 40 = 0 ∧ j < 40 * i
    · rw [if_pos h2, if_pos (by omega)]
    · rw [if_neg h2, if_neg (by omega)]
theorem lv_to {lv : List (Nat × Value)} {i : Nat} {v : Value} (h : sGet i lv = some v) : ∀ q ∈ [(i, v)], q ∈ lv := fun q hq => by rw [List.mem_singleton.mp hq]; exact sGet_mem h
theorem lv_to2 {lv : List (Nat × Value)} {i j : Nat} {v w : Value} (h : sGet i lv = some v) (h2 : sGet j lv = some w) : ∀ q ∈ [(i, v), (j, w)], q ∈ lv := fun q hq => by
  rcases List.mem_cons.mp hq with rfl | hq
  · exact sGet_mem h
  · rw [List.mem_singleton.mp hq]; exact sGet_mem h2
section LPS
variable {l : Launch} {D : va_G} {c : Nat → ClassId} {H0 : Heap} {sa : Nat × Nat × (Nat → Int32)} {R : Room} {Z : sZT} {hn : Nat} {hf : Nat → sE} {mo ra rb ce sl : Nat} {fs : List Value} {lv : List (Nat × Value)} {A B : Nat → Value}
theorem lp_routes_a (hm : Nat.ble (mo + 1) hn = true) (ha : Nat.ble (ra + 1) hn = true) (hmo : hf mo = .inr (12, fs)) (hv : vp_V fs 32 = .ref ra) (hne : mo ≠ ra) (hR : Nat.ble 2 R.frames = true ∧ Nat.ble 100 R.locals = true) (hc : ce ≤ R.cells ∧ sl ≤ R.slots)
    (kk : sV (gG l D c H0 sa) mX12_init R Z 740 [(0, .ref mo)] [] (hn, sUp hf ra (.inl (0, 84000, sStr 1400 A))) ce sl) :
    ∀ (k i : Nat), i + k = 1400 → ∀ lv : List (Nat × Value), sGet 0 lv = some (.ref mo) → sGet 1 lv = some (.int (nI i)) → sV (gG l D c H0 sa) mX12_init R Z 722 lv [] (hn, sUp hf ra (.inl (0, 84000, sStr i A))) ce sl := by
  intro k
  induction k with
  | zero =>
    intro i hi lv h0 h1
    have : i = 1400 := by omega
    subst this
    refine sv_iload_n (pc := 722) dX12_init_722 rfl h1 ?_
    refine sv_sipush (pc := 723) (v := 1400) dX12_init_723 (by decide) ?_
    refine sv_icmp_ge (pc := 726) (tgt := 740) dX12_init_726 (by decide) (fun _ => ?_) (fun h => absurd (by decide) h)
    exact sv_lv (lv_to h0) kk
  | succ k ih =>
    intro i hi lv h0 h1
    have hi4 : i < 1400 := by omega
    refine sv_iload_n (pc := 722) dX12_init_722 rfl h1 ?_
    refine sv_sipush (pc := 723) (v := 1400) dX12_init_723 (by decide) ?_
    refine sv_icmp_ge (pc := 726) (tgt := 740) dX12_init_726 (by decide) (fun h => absurd h (nI_ge hi4 (by decide))) (fun _ => ?_)
    refine sv_aload_n (pc := 729) dX12_init_729 rfl h0 ?_
    refine sv_iload_n (pc := 730) dX12_init_730 rfl h1 ?_
    refine sv_callV (pc := 731) (M' := mX12_nothing) (d' := 1) (C' := 0) (S' := 0) (av := [.int (nI i)]) (Q' := fun r hp' => r = none ∧ hp' = (hn, sUp hf ra (.inl (0, 84000, sStr (i + 1) A)))) ?_ (gOk _ _ _ _ _) dX12_init_731 (tX12_nothing _ _ _ _ _) ⟨wV_X12_nothing, wL_X12_nothing⟩ wM_X12_539 (gCX12 _ _ _ _ _) rfl (lt_t hm) (by show sUp hf ra _ mo = _; rw [sUp_ne _ _ hne]; exact hmo) ⟨le_t hR.1, Nat.le_trans (le_t rfl) (le_t hR.2)⟩ ⟨hc.1, hc.2⟩ rfl (le_t rfl) ?_
    · refine sC.of rfl (by decide) (le_t rfl) ?_
      refine sv_aload_n (pc := 0) dX12_nothing_0 rfl rfl ?_
      refine sw_getfield (pc := 1) dX12_nothing_1 (gCX12 _ _ _ _ _) 32 (by decide) wF_X12_148 hm (by rw [sUp_ne _ _ hne]; exact hmo) hv ?_
      refine sv_bipush (pc := 4) (v := nI 40) dX12_nothing_4 (by decide) ?_
      refine sv_iload_n (pc := 6) dX12_nothing_6 rfl rfl ?_
      refine sw_imul (pc := 7) dX12_nothing_7 (pk_mul 40 i) ?_
      refine sv_iconst (pc := 8) (v := -1) dX12_nothing_8 (by decide) ?_
      refine sw_iastore (pc := 9) (k := 40 * i) (kd := 0) (n := 84000) (f := sStr i A) (cA := c 0) (v := .int (-1)) dX12_nothing_9 rfl ha (sUp_at _ _ _) (nI_clamp (by omega)) (nI_pos (by omega)) (by rw [Nat.ble_eq]; omega) rfl ?_
      rw [sStr_up, sUp_sUp]
      exact sv_vret (pc := 10) dX12_nothing_10 rfl (Nat.le_refl _) (Nat.le_refl _) ⟨rfl, rfl⟩
    · rintro _ _ ⟨rfl, rfl⟩
      refine sv_iincK (pc := 734) (k := 1) dX12_init_734 (by decide) h1 (by decide) ?_
      refine sv_goto (pc := 737) (tgt := 722) dX12_init_737 (by decide) ?_
      rw [nI_1]
      exact ih (i + 1) (by omega) _ (sGet_keep h0 (by decide)) sGet_new
theorem lp_routes (hm : Nat.ble (mo + 1) hn = true) (ha : Nat.ble (ra + 1) hn = true) (hmo : hf mo = .inr (12, fs)) (hv : vp_V fs 32 = .ref ra) (hra : hf ra = .inl (0, 84000, A)) (hne : mo ≠ ra) (hR : Nat.ble 2 R.frames = true ∧ Nat.ble 100 R.locals = true) (hc : ce ≤ R.cells ∧ sl ≤ R.slots) (h0 : sGet 0 lv = some (.ref mo)) (h1 : sGet 1 lv = some (.int (nI 0)))
    (kk : sV (gG l D c H0 sa) mX12_init R Z 740 [(0, .ref mo)] [] (hn, sUp hf ra (.inl (0, 84000, sStr 1400 A))) ce sl) : sV (gG l D c H0 sa) mX12_init R Z 722 lv [] (hn, hf) ce sl := by
  have := lp_routes_a (A := A) hm ha hmo hv hne hR hc kk 1400 0 (by omega) lv h0 h1
  rw [sStr_0, sUp_self hra] at this
  exact this

theorem lp_events_a (hm : Nat.ble (mo + 1) hn = true) (ha : Nat.ble (ra + 1) hn = true) (hb : Nat.ble (rb + 1) hn = true) (hmo : hf mo = .inr (12, fs)) (hva : vp_V fs 77 = .ref ra) (hvb : vp_V fs 79 = .ref rb) (hne : mo ≠ ra) (hne2 : mo ≠ rb) (hab : ra ≠ rb)
    (kk : sV (gG l D c H0 sa) mX12_init R Z 769 [(0, .ref mo)] [] (hn, sUp (sUp hf ra (.inl (0, 400, sFill 400 (.int (-1)) A))) rb (.inl (0, 400, sFill 400 (.int (-1)) B))) ce sl) :
    ∀ (k i : Nat), i + k = 400 → ∀ lv : List (Nat × Value), sGet 0 lv = some (.ref mo) → sGet 1 lv = some (.int (nI i)) → sV (gG l D c H0 sa) mX12_init R Z 742 lv [] (hn, sUp (sUp hf ra (.inl (0, 400, sFill i (.int (-1)) A))) rb (.inl (0, 400, sFill i (.int (-1)) B))) ce sl := by
  intro k
  induction k with
  | zero =>
    intro i hi lv h0 h1
    have : i = 400 := by omega
    subst this
    refine sv_iload_n (pc := 742) dX12_init_742 rfl h1 ?_
    refine sv_sipush (pc := 743) (v := 400) dX12_init_743 (by decide) ?_
    refine sv_icmp_ge (pc := 746) (tgt := 769) dX12_init_746 (by decide) (fun _ => ?_) (fun h => absurd (by decide) h)
    exact sv_lv (lv_to h0) kk
  | succ k ih =>
    intro i hi lv h0 h1
    have hi4 : i < 400 := by omega
    refine sv_iload_n (pc := 742) dX12_init_742 rfl h1 ?_
    refine sv_sipush (pc := 743) (v := 400) dX12_init_743 (by decide) ?_
    refine sv_icmp_ge (pc := 746) (tgt := 769) dX12_init_746 (by decide) (fun h => absurd h (nI_ge hi4 (by decide))) (fun _ => ?_)
    refine sv_aload_n (pc := 749) dX12_init_749 rfl h0 ?_
    refine sw_getfield (pc := 750) dX12_init_750 (gCX12 _ _ _ _ _) 77 (by decide) wF_X12_433 hm (by rw [sUp_ne _ _ hne2, sUp_ne _ _ hne]; exact hmo) hva ?_
    refine sv_iload_n (pc := 753) dX12_init_753 rfl h1 ?_
    refine sv_iconst (pc := 754) (v := -1) dX12_init_754 (by decide) ?_
    refine sw_iastore (pc := 755) (k := i) (kd := 0) (n := 400) (f := sFill i (.int (-1)) A) (cA := c 0) (v := .int (-1)) dX12_init_755 rfl ha (by rw [sUp_ne _ _ hab]; exact sUp_at _ _ _) (nI_clamp (by omega)) (nI_pos (by omega)) (by rw [Nat.ble_eq]; omega) rfl ?_
    rw [sFill_up, sUp_2 _ _ _ _ hab]
    refine sv_aload_n (pc := 756) dX12_init_756 rfl h0 ?_
    refine sw_getfield (pc := 757) dX12_init_757 (gCX12 _ _ _ _ _) 79 (by decide) wF_X12_439 hm (by rw [sUp_ne _ _ hne2, sUp_ne _ _ hne]; exact hmo) hvb ?_
    refine sv_iload_n (pc := 760) dX12_init_760 rfl h1 ?_
    refine sv_iconst (pc := 761) (v := -1) dX12_init_761 (by decide) ?_
    refine sw_iastore (pc := 762) (k := i) (kd := 0) (n := 400) (f := sFill i (.int (-1)) B) (cA := c 0) (v := .int (-1)) dX12_init_762 rfl hb (sUp_at _ _ _) (nI_clamp (by omega)) (nI_pos (by omega)) (by rw [Nat.ble_eq]; omega) rfl ?_
    rw [sFill_up, sUp_sUp]
    refine sv_iincK (pc := 763) (k := 1) dX12_init_763 (by decide) h1 (by decide) ?_
    refine sv_goto (pc := 766) (tgt := 742) dX12_init_766 (by decide) ?_
    rw [nI_1]
    exact ih (i + 1) (by omega) _ (sGet_keep h0 (by decide)) sGet_new
theorem lp_events (hm : Nat.ble (mo + 1) hn = true) (ha : Nat.ble (ra + 1) hn = true) (hb : Nat.ble (rb + 1) hn = true) (hmo : hf mo = .inr (12, fs)) (hva : vp_V fs 77 = .ref ra) (hvb : vp_V fs 79 = .ref rb) (hra : hf ra = .inl (0, 400, A)) (hrb : hf rb = .inl (0, 400, B)) (hne : mo ≠ ra) (hne2 : mo ≠ rb) (hab : ra ≠ rb) (h0 : sGet 0 lv = some (.ref mo)) (h1 : sGet 1 lv = some (.int (nI 0)))
    (kk : sV (gG l D c H0 sa) mX12_init R Z 769 [(0, .ref mo)] [] (hn, sUp (sUp hf ra (.inl (0, 400, sFill 400 (.int (-1)) A))) rb (.inl (0, 400, sFill 400 (.int (-1)) B))) ce sl) : sV (gG l D c H0 sa) mX12_init R Z 742 lv [] (hn, hf) ce sl := by
  have := lp_events_a (A := A) (B := B) hm ha hb hmo hva hvb hne hne2 hab kk 400 0 (by omega) lv h0 h1
  rw [sFill_0, sFill_0, sUp_self hra, sUp_self hrb] at this
  exact this

theorem lp_picks_a (hm : Nat.ble (mo + 1) hn = true) (ha : Nat.ble (ra + 1) hn = true) (hb : Nat.ble (rb + 1) hn = true) (hmo : hf mo = .inr (12, fs)) (hva : vp_V fs 81 = .ref ra) (hvb : vp_V fs 82 = .ref rb) (hne : mo ≠ ra) (hne2 : mo ≠ rb) (hab : ra ≠ rb)
    (kk : sV (gG l D c H0 sa) mX12_init R Z 798 [(0, .ref mo)] [] (hn, sUp (sUp hf ra (.inl (0, 100, sFill 100 (.int (-99999999)) A))) rb (.inl (0, 100, sFill 100 (.int (-1)) B))) ce sl) :
    ∀ (k i : Nat), i + k = 100 → ∀ lv : List (Nat × Value), sGet 0 lv = some (.ref mo) → sGet 1 lv = some (.int (nI i)) → sV (gG l D c H0 sa) mX12_init R Z 771 lv [] (hn, sUp (sUp hf ra (.inl (0, 100, sFill i (.int (-99999999)) A))) rb (.inl (0, 100, sFill i (.int (-1)) B))) ce sl := by
  intro k
  induction k with
  | zero =>
    intro i hi lv h0 h1
    have : i = 100 := by omega
    subst this
    refine sv_iload_n (pc := 771) dX12_init_771 rfl h1 ?_
    refine sv_bipush (pc := 772) (v := 100) dX12_init_772 (by decide) ?_
    refine sv_icmp_ge (pc := 774) (tgt := 798) dX12_init_774 (by decide) (fun _ => ?_) (fun h => absurd (by decide) h)
    exact sv_lv (lv_to h0) kk
  | succ k ih =>
    intro i hi lv h0 h1
    have hi4 : i < 100 := by omega
    refine sv_iload_n (pc := 771) dX12_init_771 rfl h1 ?_
    refine sv_bipush (pc := 772) (v := 100) dX12_init_772 (by decide) ?_
    refine sv_icmp_ge (pc := 774) (tgt := 798) dX12_init_774 (by decide) (fun h => absurd h (nI_ge hi4 (by decide))) (fun _ => ?_)
    refine sv_aload_n (pc := 777) dX12_init_777 rfl h0 ?_
    refine sw_getfield (pc := 778) dX12_init_778 (gCX12 _ _ _ _ _) 81 (by decide) wF_X12_445 hm (by rw [sUp_ne _ _ hne2, sUp_ne _ _ hne]; exact hmo) hva ?_
    refine sv_iload_n (pc := 781) dX12_init_781 rfl h1 ?_
    refine sv_ldc (pc := 782) dX12_init_782 wG_X12_29 ?_
    refine sw_iastore (pc := 784) (k := i) (kd := 0) (n := 100) (f := sFill i (.int (-99999999)) A) (cA := c 0) (v := .int (-99999999)) dX12_init_784 rfl ha (by rw [sUp_ne _ _ hab]; exact sUp_at _ _ _) (nI_clamp (by omega)) (nI_pos (by omega)) (by rw [Nat.ble_eq]; omega) rfl ?_
    rw [sFill_up, sUp_2 _ _ _ _ hab]
    refine sv_aload_n (pc := 785) dX12_init_785 rfl h0 ?_
    refine sw_getfield (pc := 786) dX12_init_786 (gCX12 _ _ _ _ _) 82 (by decide) wF_X12_448 hm (by rw [sUp_ne _ _ hne2, sUp_ne _ _ hne]; exact hmo) hvb ?_
    refine sv_iload_n (pc := 789) dX12_init_789 rfl h1 ?_
    refine sv_iconst (pc := 790) (v := -1) dX12_init_790 (by decide) ?_
    refine sw_iastore (pc := 791) (k := i) (kd := 0) (n := 100) (f := sFill i (.int (-1)) B) (cA := c 0) (v := .int (-1)) dX12_init_791 rfl hb (sUp_at _ _ _) (nI_clamp (by omega)) (nI_pos (by omega)) (by rw [Nat.ble_eq]; omega) rfl ?_
    rw [sFill_up, sUp_sUp]
    refine sv_iincK (pc := 792) (k := 1) dX12_init_792 (by decide) h1 (by decide) ?_
    refine sv_goto (pc := 795) (tgt := 771) dX12_init_795 (by decide) ?_
    rw [nI_1]
    exact ih (i + 1) (by omega) _ (sGet_keep h0 (by decide)) sGet_new
theorem lp_picks (hm : Nat.ble (mo + 1) hn = true) (ha : Nat.ble (ra + 1) hn = true) (hb : Nat.ble (rb + 1) hn = true) (hmo : hf mo = .inr (12, fs)) (hva : vp_V fs 81 = .ref ra) (hvb : vp_V fs 82 = .ref rb) (hra : hf ra = .inl (0, 100, A)) (hrb : hf rb = .inl (0, 100, B)) (hne : mo ≠ ra) (hne2 : mo ≠ rb) (hab : ra ≠ rb) (h0 : sGet 0 lv = some (.ref mo)) (h1 : sGet 1 lv = some (.int (nI 0)))
    (kk : sV (gG l D c H0 sa) mX12_init R Z 798 [(0, .ref mo)] [] (hn, sUp (sUp hf ra (.inl (0, 100, sFill 100 (.int (-99999999)) A))) rb (.inl (0, 100, sFill 100 (.int (-1)) B))) ce sl) : sV (gG l D c H0 sa) mX12_init R Z 771 lv [] (hn, hf) ce sl := by
  have := lp_picks_a (A := A) (B := B) hm ha hb hmo hva hvb hne hne2 hab kk 100 0 (by omega) lv h0 h1
  rw [sFill_0, sFill_0, sUp_self hra, sUp_self hrb] at this
  exact this

theorem lp_next_a (hm : Nat.ble (mo + 1) hn = true) {rc rd : Nat} {Cc Dd : Nat → Int32} (hmo : hf mo = .inr (12, fs)) (hva : vp_V fs 77 = .ref ra) (hvb : vp_V fs 79 = .ref rb) (hvc : vp_V fs 78 = .ref rc) (hvd : vp_V fs 80 = .ref rd) (ha : Nat.ble (ra + 1) hn = true) (hb : Nat.ble (rb + 1) hn = true) (hc : Nat.ble (rc + 1) hn = true) (hd : Nat.ble (rd + 1) hn = true) (hra : hf ra = .inl (0, 400, A)) (hrb : hf rb = .inl (0, 400, B)) (hrc : hf rc = .inl (0, 400, sI Cc)) (hrd : hf rd = .inl (0, 400, sI Dd)) (hA : ∀ j, j < 400 → A j = .int (-1)) (hB : ∀ j, j < 400 → B j = .int (-1))
    (kk : Z = Z → sV (gG l D c H0 sa) mX12_nextEvent R Z 133 [(0, .ref mo)] [.int (-99999999)] (hn, hf) ce sl) :
    ∀ (k i : Nat), i + k = 800 → ∀ lv : List (Nat × Value), sGet 0 lv = some (.ref mo) → sGet 1 lv = some (.int (-99999999)) → sGet 4 lv = some (.int (nI i)) → sV (gG l D c H0 sa) mX12_nextEvent R Z 10 lv [] (hn, hf) ce sl := by
  intro k
  induction k with
  | zero =>
    intro i hi lv h0 h1 h4
    have : i = 800 := by omega
    subst this
    refine sv_iload (pc := 10) dX12_nextEvent_10 h4 ?_
    refine sv_sipush (pc := 12) (v := 800) dX12_nextEvent_12 (by decide) ?_
    refine sv_icmp_ge (pc := 15) (tgt := 132) dX12_nextEvent_15 (by decide) (fun _ => ?_) (fun h => absurd (by decide) h)
    refine sv_iload_n (pc := 132) dX12_nextEvent_132 rfl h1 ?_
    exact sv_lv (lv_to h0) (kk rfl)
  | succ k ih =>
    intro i hi lv h0 h1 h4
    have hi4 : i < 800 := by omega
    refine sv_iload (pc := 10) dX12_nextEvent_10 h4 ?_
    refine sv_sipush (pc := 12) (v := 800) dX12_nextEvent_12 (by decide) ?_
    refine sv_icmp_ge (pc := 15) (tgt := 132) dX12_nextEvent_15 (by decide) (fun h => absurd h (nI_ge hi4 (by decide))) (fun _ => ?_)
    have tail : ∀ m5 : Int32, ∀ lv : List (Nat × Value), sGet 0 lv = some (.ref mo) → sGet 1 lv = some (.int (-99999999)) → sGet 4 lv = some (.int (nI i)) → sGet 5 lv = some (.int (-1)) → sV (gG l D c H0 sa) mX12_nextEvent R Z 78 lv [.int m5] (hn, hf) ce sl := by
      intro m5 lv h0 h1 h4 h5
      refine sv_istore (pc := 78) dX12_nextEvent_78 (by decide) ?_
      refine sv_iload (pc := 80) dX12_nextEvent_80 (sGet_keep h5 (by decide)) ?_
      refine sv_if_lt (pc := 82) (tgt := 126) dX12_nextEvent_82 (by decide) (fun _ => ?_) (fun h => absurd (by decide) h)
      refine sv_iincK (pc := 126) (k := 1) dX12_nextEvent_126 (by decide) (sGet_keep h4 (by decide)) (by decide) ?_
      refine sv_goto (pc := 129) (tgt := 10) dX12_nextEvent_129 (by decide) ?_
      rw [nI_1]
      exact ih (i + 1) (by omega) _ (sGet_keep (sGet_keep h0 (by decide)) (by decide)) (sGet_keep (sGet_keep h1 (by decide)) (by decide)) sGet_new
    have mid : ∀ lv : List (Nat × Value), sGet 0 lv = some (.ref mo) → sGet 1 lv = some (.int (-99999999)) → sGet 4 lv = some (.int (nI i)) → sV (gG l D c H0 sa) mX12_nextEvent R Z 47 lv [.int (-1)] (hn, hf) ce sl := by
      intro lv h0 h1 h4
      refine sv_istore (pc := 47) dX12_nextEvent_47 (by decide) ?_
      have h0 := sGet_keep (i := 5) (v := .int (-1)) h0 (by decide)
      have h1 := sGet_keep (i := 5) (v := .int (-1)) h1 (by decide)
      have h4 := sGet_keep (i := 5) (v := .int (-1)) h4 (by decide)
      refine sv_iload (pc := 49) dX12_nextEvent_49 h4 ?_
      refine sv_sipush (pc := 51) (v := nI 400) dX12_nextEvent_51 (by decide) ?_
      refine sv_icmp_ge (pc := 54) (tgt := 67) dX12_nextEvent_54 (by decide) (fun h => ?_) (fun h => ?_)
      · have h4i : 400 ≤ i := (nI_leI (by omega) (by omega)).mp h
        refine sv_aload_n (pc := 67) dX12_nextEvent_67 rfl h0 ?_
        refine sw_getfield (pc := 68) dX12_nextEvent_68 (gCX12 _ _ _ _ _) 80 (by decide) wF_X12_442 hm hmo hvd ?_
        refine sv_iload (pc := 71) dX12_nextEvent_71 h4 ?_
        refine sv_sipush (pc := 73) (v := nI 400) dX12_nextEvent_73 (by decide) ?_
        refine sw_isub (pc := 76) dX12_nextEvent_76 (pk_sub h4i) ?_
        refine sw_iaload (pc := 77) (k := i - 400) (v := .int (Dd (i - 400))) (cA := c 0) dX12_nextEvent_77 rfl hd hrd (nI_clamp (by omega)) (nI_pos (by omega)) (by rw [Nat.ble_eq]; omega) rfl ?_
        exact tail _ _ h0 h1 h4 sGet_new
      · have h4i : i < 400 := Nat.not_le.mp (fun q => h ((nI_leI (by omega) (by omega)).mpr q))
        refine sv_aload_n (pc := 57) dX12_nextEvent_57 rfl h0 ?_
        refine sw_getfield (pc := 58) dX12_nextEvent_58 (gCX12 _ _ _ _ _) 78 (by decide) wF_X12_436 hm hmo hvc ?_
        refine sv_iload (pc := 61) dX12_nextEvent_61 h4 ?_
        refine sw_iaload (pc := 63) (k := i) (v := .int (Cc i)) (cA := c 0) dX12_nextEvent_63 rfl hc hrc (nI_clamp (by omega)) (nI_pos (by omega)) (by rw [Nat.ble_eq]; omega) rfl ?_
        refine sv_goto (pc := 64) (tgt := 78) dX12_nextEvent_64 (by decide) ?_
        exact tail _ _ h0 h1 h4 sGet_new
    refine sv_iload (pc := 18) dX12_nextEvent_18 h4 ?_
    refine sv_sipush (pc := 20) (v := nI 400) dX12_nextEvent_20 (by decide) ?_
    refine sv_icmp_ge (pc := 23) (tgt := 36) dX12_nextEvent_23 (by decide) (fun h => ?_) (fun h => ?_)
    · have h4i : 400 ≤ i := (nI_leI (by omega) (by omega)).mp h
      refine sv_aload_n (pc := 36) dX12_nextEvent_36 rfl h0 ?_
      refine sw_getfield (pc := 37) dX12_nextEvent_37 (gCX12 _ _ _ _ _) 79 (by decide) wF_X12_439 hm hmo hvb ?_
      refine sv_iload (pc := 40) dX12_nextEvent_40 h4 ?_
      refine sv_sipush (pc := 42) (v := nI 400) dX12_nextEvent_42 (by decide) ?_
      refine sw_isub (pc := 45) dX12_nextEvent_45 (pk_sub h4i) ?_
      refine sw_iaload (pc := 46) (k := i - 400) (v := .int (-1)) (cA := c 0) dX12_nextEvent_46 rfl hb hrb (nI_clamp (by omega)) (nI_pos (by omega)) (by rw [Nat.ble_eq]; omega) (hB _ (by omega)) ?_
      exact mid _ h0 h1 h4
    · have h4i : i < 400 := Nat.not_le.mp (fun q => h ((nI_leI (by omega) (by omega)).mpr q))
      refine sv_aload_n (pc := 26) dX12_nextEvent_26 rfl h0 ?_
      refine sw_getfield (pc := 27) dX12_nextEvent_27 (gCX12 _ _ _ _ _) 77 (by decide) wF_X12_433 hm hmo hva ?_
      refine sv_iload (pc := 30) dX12_nextEvent_30 h4 ?_
      refine sw_iaload (pc := 32) (k := i) (v := .int (-1)) (cA := c 0) dX12_nextEvent_32 rfl ha hra (nI_clamp (by omega)) (nI_pos (by omega)) (by rw [Nat.ble_eq]; omega) (hA _ h4i) ?_
      refine sv_goto (pc := 33) (tgt := 47) dX12_nextEvent_33 (by decide) ?_
      exact mid _ h0 h1 h4
theorem lp_count_a (hm : Nat.ble (mo + 1) hn = true) (hmo : hf mo = .inr (12, fs)) (hva : vp_V fs 77 = .ref ra) (hvb : vp_V fs 79 = .ref rb) (ha : Nat.ble (ra + 1) hn = true) (hb : Nat.ble (rb + 1) hn = true) (hra : hf ra = .inl (0, 400, A)) (hrb : hf rb = .inl (0, 400, B)) (hA : ∀ j, j < 400 → A j = .int (-1)) (hB : ∀ j, j < 400 → B j = .int (-1)) {x : Value} (hx : x.category = 1)
    (kk : sV (gG l D c H0 sa) mX12_count R Z 49 [(0, .ref mo), (1, x), (2, .int 0)] [] (hn, hf) ce sl) :
    ∀ (k i : Nat), i + k = 400 → ∀ lv : List (Nat × Value), sGet 0 lv = some (.ref mo) → sGet 1 lv = some x → sGet 2 lv = some (.int 0) → sGet 3 lv = some (.int (nI i)) → sV (gG l D c H0 sa) mX12_count R Z 4 lv [] (hn, hf) ce sl := by
  intro k
  induction k with
  | zero =>
    intro i hi lv h0 h1 h2 h3
    have : i = 400 := by omega
    subst this
    refine sv_iload_n (pc := 4) dX12_count_4 rfl h3 ?_
    refine sv_sipush (pc := 5) (v := 400) dX12_count_5 (by decide) ?_
    refine sv_icmp_ge (pc := 8) (tgt := 49) dX12_count_8 (by decide) (fun _ => ?_) (fun h => absurd (by decide) h)
    exact sv_lv (fun q hq => by
      rcases List.mem_cons.mp hq with rfl | hq
      · exact sGet_mem h0
      rcases List.mem_cons.mp hq with rfl | hq
      · exact sGet_mem h1
      · rw [List.mem_singleton.mp hq]; exact sGet_mem h2) kk
  | succ k ih =>
    intro i hi lv h0 h1 h2 h3
    have hi4 : i < 400 := by omega
    refine sv_iload_n (pc := 4) dX12_count_4 rfl h3 ?_
    refine sv_sipush (pc := 5) (v := 400) dX12_count_5 (by decide) ?_
    refine sv_icmp_ge (pc := 8) (tgt := 49) dX12_count_8 (by decide) (fun h => absurd h (nI_ge hi4 (by decide))) (fun _ => ?_)
    refine sv_iload_n (pc := 11) dX12_count_11 rfl h2 ?_
    refine sv_aload_n (pc := 12) dX12_count_12 rfl h0 ?_
    refine sw_getfield (pc := 13) dX12_count_13 (gCX12 _ _ _ _ _) 77 (by decide) wF_X12_433 hm hmo hva ?_
    refine sv_iload_n (pc := 16) dX12_count_16 rfl h3 ?_
    refine sw_iaload (pc := 17) (k := i) (v := .int (-1)) (cA := c 0) dX12_count_17 rfl ha hra (nI_clamp (by omega)) (nI_pos (by omega)) (by rw [Nat.ble_eq]; omega) (hA _ hi4) ?_
    refine sv_if_lt (pc := 18) (tgt := 25) dX12_count_18 (by decide) (fun _ => ?_) (fun h => absurd (by decide) h)
    refine sv_iconst (pc := 25) (v := 0) dX12_count_25 (by decide) ?_
    refine sv_aload_n (pc := 26) dX12_count_26 rfl h0 ?_
    refine sw_getfield (pc := 27) dX12_count_27 (gCX12 _ _ _ _ _) 79 (by decide) wF_X12_439 hm hmo hvb ?_
    refine sv_iload_n (pc := 30) dX12_count_30 rfl h3 ?_
    refine sw_iaload (pc := 31) (k := i) (v := .int (-1)) (cA := c 0) dX12_count_31 rfl hb hrb (nI_clamp (by omega)) (nI_pos (by omega)) (by rw [Nat.ble_eq]; omega) (hB _ hi4) ?_
    refine sv_if_lt (pc := 32) (tgt := 39) dX12_count_32 (by decide) (fun _ => ?_) (fun h => absurd (by decide) h)
    refine sv_iconst (pc := 39) (v := 0) dX12_count_39 (by decide) ?_
    refine sw_iadd (pc := 40) (v := 0) dX12_count_40 (by decide) ?_
    refine sw_iadd (pc := 41) (v := 0) dX12_count_41 (by decide) ?_
    refine sv_istore_n (pc := 42) dX12_count_42 rfl (by decide) ?_
    refine sv_iincK (pc := 43) (k := 1) dX12_count_43 (by decide) (sGet_keep h3 (by decide)) (by decide) ?_
    refine sv_goto (pc := 46) (tgt := 4) dX12_count_46 (by decide) ?_
    rw [nI_1]
    exact ih (i + 1) (by omega) _ (sGet_keep (sGet_keep h0 (by decide)) (by decide)) (sGet_keep (sGet_keep h1 (by decide) hx) (by decide) hx) (sGet_keep sGet_new (by decide)) sGet_new
theorem lp_seen_a (hm : Nat.ble (mo + 1) hn = true) (ha : Nat.ble (ra + 1) hn = true) (hmo : hf mo = .inr (12, fs)) (hva : vp_V fs 94 = .ref ra) (hne : mo ≠ ra)
    (kk : sV (gG l D c H0 sa) mX12_message R Z 43 [(0, .ref mo)] [] (hn, sUp hf ra (.inl (3, 256, sFill 256 (.int 0) A))) ce sl) :
    ∀ (k i : Nat), i + k = 256 → ∀ lv : List (Nat × Value), sGet 0 lv = some (.ref mo) → sGet 1 lv = some (.int (nI i)) → sV (gG l D c H0 sa) mX12_message R Z 23 lv [] (hn, sUp hf ra (.inl (3, 256, sFill i (.int 0) A))) ce sl := by
  intro k
  induction k with
  | zero =>
    intro i hi lv h0 h1
    have : i = 256 := by omega
    subst this
    refine sv_iload_n (pc := 23) dX12_message_23 rfl h1 ?_
    refine sv_sipush (pc := 24) (v := 256) dX12_message_24 (by decide) ?_
    refine sv_icmp_ge (pc := 27) (tgt := 43) dX12_message_27 (by decide) (fun _ => ?_) (fun h => absurd (by decide) h)
    exact sv_lv (lv_to h0) kk
  | succ k ih =>
    intro i hi lv h0 h1
    have hi4 : i < 256 := by omega
    refine sv_iload_n (pc := 23) dX12_message_23 rfl h1 ?_
    refine sv_sipush (pc := 24) (v := 256) dX12_message_24 (by decide) ?_
    refine sv_icmp_ge (pc := 27) (tgt := 43) dX12_message_27 (by decide) (fun h => absurd h (nI_ge hi4 (by decide))) (fun _ => ?_)
    refine sv_aload_n (pc := 30) dX12_message_30 rfl h0 ?_
    refine sw_getfield (pc := 31) dX12_message_31 (gCX12 _ _ _ _ _) 94 (by decide) wF_X12_475 hm (by rw [sUp_ne _ _ hne]; exact hmo) hva ?_
    refine sv_iload_n (pc := 34) dX12_message_34 rfl h1 ?_
    refine sv_iconst (pc := 35) (v := 0) dX12_message_35 (by decide) ?_
    refine sw_zastore (pc := 36) (k := i) (kd := 3) (n := 256) (f := sFill i (.int 0) A) (cA := c 3) (v := .int 0) dX12_message_36 rfl ha (sUp_at _ _ _) (nI_clamp (by omega)) (nI_pos (by omega)) (by rw [Nat.ble_eq]; omega) (by decide) ?_
    rw [sFill_up, sUp_sUp]
    refine sv_iincK (pc := 37) (k := 1) dX12_message_37 (by decide) h1 (by decide) ?_
    refine sv_goto (pc := 40) (tgt := 23) dX12_message_40 (by decide) ?_
    rw [nI_1]
    exact ih (i + 1) (by omega) _ (sGet_keep h0 (by decide)) sGet_new
theorem lp_seen (hm : Nat.ble (mo + 1) hn = true) (ha : Nat.ble (ra + 1) hn = true) (hmo : hf mo = .inr (12, fs)) (hva : vp_V fs 94 = .ref ra) (hra : hf ra = .inl (3, 256, A)) (hne : mo ≠ ra) (h0 : sGet 0 lv = some (.ref mo)) (h1 : sGet 1 lv = some (.int (nI 0)))
    (kk : sV (gG l D c H0 sa) mX12_message R Z 43 [(0, .ref mo)] [] (hn, sUp hf ra (.inl (3, 256, sFill 256 (.int 0) A))) ce sl) : sV (gG l D c H0 sa) mX12_message R Z 23 lv [] (hn, hf) ce sl := by
  have := lp_seen_a (A := A) hm ha hmo hva hne kk 256 0 (by omega) lv h0 h1
  rw [sFill_0, sUp_self hra] at this
  exact this
end LPS
