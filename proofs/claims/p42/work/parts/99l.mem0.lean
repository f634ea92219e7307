/-! The memory at the start. -/
def B0 : mB := [(0, [1, 2, 3, 6, 21, 23, 32, 76, 87, 94, 0, 0], 0),
  (1, [], 0),
  (2, [], 0),
  (200, [4, 5, 0, 0, 0, 0, 0, 0, 0, -1, 0, 0], 0),
  (201, [], 0),
  (202, [], 0),
  (6, [7, 8, 9, 10, 11, 12, 13, 14, 15, 16, 17, 18, 19, 20, 0, 0, 0, 0, 0], 0),
  (7, [], 0),
  (8, [], 0),
  (9, [], 0),
  (10, [], -1),
  (11, [], -1),
  (12, [], 0),
  (13, [], 0),
  (14, [], 0),
  (15, [], 0),
  (16, [], 0),
  (17, [], 0),
  (18, [], 0),
  (19, [], 0),
  (20, [], 0),
  (21, [6, 22, -1, 0, 0, 0, 0, 0, 0], 0),
  (22, [], -1),
  (23, [24, 25, 26, 27, 28, 29, 30, 31, 0, 0, 0, 0, 0, 0, 0, 0, 0, 0, 0, 0], 0),
  (24, [], 0),
  (25, [], 0),
  (26, [], 0),
  (27, [], 0),
  (28, [], 0),
  (29, [], 0),
  (30, [], 0),
  (31, [], 0),
  (32, [6, 21, 33, 34, 35, 66, 67, 70, 73, 0, 0, 0, 0], 0),
  (33, [], 0),
  (34, [], -1),
  (35, [36, 39, 42, 45, 48, 51, 54, 57, 60, 63], 36),
  (200, [37, 38, 0, 0, 0, 0, 0, 0, 0, -1, 0, 0], 0),
  (201, [], 0),
  (202, [], 0),
  (200, [40, 41, 0, 0, 0, 0, 0, 0, 0, -1, 0, 0], 0),
  (201, [], 0),
  (202, [], 0),
  (200, [43, 44, 0, 0, 0, 0, 0, 0, 0, -1, 0, 0], 0),
  (201, [], 0),
  (202, [], 0),
  (200, [46, 47, 0, 0, 0, 0, 0, 0, 0, -1, 0, 0], 0),
  (201, [], 0),
  (202, [], 0),
  (200, [49, 50, 0, 0, 0, 0, 0, 0, 0, -1, 0, 0], 0),
  (201, [], 0),
  (202, [], 0),
  (200, [52, 53, 0, 0, 0, 0, 0, 0, 0, -1, 0, 0], 0),
  (201, [], 0),
  (202, [], 0),
  (200, [55, 56, 0, 0, 0, 0, 0, 0, 0, -1, 0, 0], 0),
  (201, [], 0),
  (202, [], 0),
  (200, [58, 59, 0, 0, 0, 0, 0, 0, 0, -1, 0, 0], 0),
  (201, [], 0),
  (202, [], 0),
  (200, [61, 62, 0, 0, 0, 0, 0, 0, 0, -1, 0, 0], 0),
  (201, [], 0),
  (202, [], 0),
  (200, [64, 65, 0, 0, 0, 0, 0, 0, 0, -1, 0, 0], 0),
  (201, [], 0),
  (202, [], 0),
  (66, [], 0),
  (200, [68, 69, 0, 0, 0, 0, 0, 0, 0, -1, 0, 0], 0),
  (201, [], 0),
  (202, [], 0),
  (200, [71, 72, 0, 0, 0, 0, 0, 0, 0, -1, 0, 0], 0),
  (201, [], 0),
  (202, [], 0),
  (200, [74, 75, 0, 0, 0, 0, 0, 0, 0, -1, 0, 0], 0),
  (201, [], 0),
  (202, [], 0),
  (76, [77, 78, 79, 80, -1, 0, 0, 0, 0, 81, 84, 85, 86, 0, 0, 0, 0], 0),
  (77, [], 0),
  (78, [], 0),
  (79, [], 0),
  (80, [-99999999, -99999999, -99999999, -99999999], 0),
  (200, [82, 83, 0, 0, 0, 0, 0, 0, 0, -1, 0, 0], 0),
  (201, [], 0),
  (202, [], 0),
  (84, [], 0),
  (85, [], 0),
  (86, [], 0),
  (87, [6, 88, 90, 91, 92, 93, 0, 0, 89, 0, 0], 0),
  (88, [], 0),
  (89, [], 0),
  (90, [], 0),
  (91, [], 0),
  (92, [], 0),
  (93, [], 0),
  (94, [96, 97, 98, 99, 100, 101, 102, 103, 104, 0, 0, 0, 95, 105, 0], 0),
  (95, [], 0),
  (96, [], 0),
  (97, [], 0),
  (98, [], 0),
  (99, [], 0),
  (100, [], 0),
  (101, [], 0),
  (102, [], 0),
  (103, [], 0),
  (104, [], 0),
  (105, [], 0),
  (106, [107, 0, 0, 108, 109, 0, 0, 110, 111, 112, 113, 114, 115, 116, 117, 0, 118, 0, 0, 119, 120, 121, 122, 123, 124, 125, 0, 0, 0, 0, 0, 0, 126, 0, 0, 0, 0, 0, 0, 0, 127, 128, 129, 130, 131, 132, 133, 134, 135, 136, 137, 138, 139, 140, 141, 142, 143, 144, 0, 0, 145, 146, 147, 148, 149, 150, 0, 151, 152, 153, 0, 0, 0, 0, 154, 155, 156, 157, 158, 159, 160, 161, 162, 163, 164, 165, 166, 167, 0, 168, 169, 0, 170, 0, 171, 172, 0, 0, 0, 0, 173, 0, 0, 174, 0, 175, 0, 176, 0, 0, 177, 178, 179, 180, 181, 182, 0, 183, 184, 185, 186, 187, 188, 189, 190, 191], 0),
  (107, [], 0),
  (108, [], 0),
  (109, [], 0),
  (110, [], 0),
  (111, [], 0),
  (112, [], 0),
  (113, [], 0),
  (114, [], 0),
  (115, [], 0),
  (116, [], 0),
  (117, [], 0),
  (118, [], 0),
  (119, [], 0),
  (120, [], 0),
  (121, [], 0),
  (122, [], 0),
  (123, [], 0),
  (124, [], 0),
  (125, [], 0),
  (126, [], 0),
  (127, [], 0),
  (128, [], 0),
  (129, [], 0),
  (130, [], 0),
  (131, [], 0),
  (132, [], 0),
  (133, [], 0),
  (134, [], 0),
  (135, [], 0),
  (136, [], 0),
  (137, [], 0),
  (138, [], 0),
  (139, [], 0),
  (140, [], 0),
  (141, [], 0),
  (142, [], 0),
  (143, [], 0),
  (144, [], 0),
  (145, [], 0),
  (146, [], 0),
  (147, [], 0),
  (148, [], 0),
  (149, [], 0),
  (150, [], 0),
  (151, [], 0),
  (152, [], 0),
  (153, [], 0),
  (154, [], 0),
  (155, [], 0),
  (156, [], 0),
  (157, [], -1),
  (158, [], 0),
  (159, [], -1),
  (160, [], 0),
  (161, [], -99999999),
  (162, [], -1),
  (163, [1, 2, 3, 4, 5, 0, 1, 2, 3, 4, 5, 0, 1, 2, 3, 4, 5, 0, 1, 2, 3, 4, 5, 0, 1, 2, 3, 4, 5, 0, 1, 2, 3, 4, 5, 0, 1, 2, 3, 4, 5, 0, 1, 2, 3, 4, 5, 0, 1, 2, 3, 4, 5, 0, 1, 2, 3, 4, 5, 0], 0),
  (164, [], 0),
  (165, [], 0),
  (166, [], 0),
  (167, [], 0),
  (168, [], 0),
  (169, [], 0),
  (170, [], 0),
  (171, [], 0),
  (172, [], 0),
  (173, [], 0),
  (174, [], 0),
  (175, [], 0),
  (176, [], 0),
  (177, [], 0),
  (178, [], 0),
  (179, [], 0),
  (180, [], 0),
  (181, [], 0),
  (182, [], 0),
  (183, [], 0),
  (184, [], 0),
  (185, [], 0),
  (186, [], 0),
  (187, [], 0),
  (188, [], 0),
  (189, [], 0),
  (190, [], 0),
  (191, [], 0)]
def w0 : mW := (192, mSh0, fun a => if a = 102 then 16 else if a = 103 then 16 else if a = 104 then 16 else mLen (mSh0 a), fun _ => 0)
def μ0 : mM := fun a i => if a = 126 then (if i % 40 = 0 ∧ i < 56000 then -1 else 0) else bV B0 a i
theorem w0.len (a : Nat) : w0.2.2.1 a = mLen (mSh0 a) ∨ (w0.2.2.1 a = 16 ∧ mVar (mSh0 a) = true ∧ mLen (mSh0 a) = 93312) := by
  show (if a = 102 then 16 else if a = 103 then 16 else if a = 104 then 16 else mLen (mSh0 a)) = _ ∨ _
  by_cases h1 : a = 102
  · subst h1; exact Or.inr ⟨rfl, rfl, rfl⟩
  · by_cases h2 : a = 103
    · subst h2; exact Or.inr ⟨rfl, rfl, rfl⟩
    · by_cases h3 : a = 104
      · subst h3; exact Or.inr ⟨rfl, rfl, rfl⟩
      · left; rw [if_neg h1, if_neg h2, if_neg h3]
theorem w0.wf : mWF w0 := by
  refine ⟨fun _ _ => rfl, Nat.le_refl _, fun a _ hv => ?_, fun a _ => ?_, fun a h1 h2 => absurd h2 (Nat.not_lt.mpr h1)⟩
  · rcases w0.len a with h | h
    · exact h
    · rw [h.2.1] at hv; cases hv
  · rcases w0.len a with h | h
    · exact Nat.le_of_eq h
    · rw [h.1, h.2.2]; decide
theorem w0.at {a s : Nat} (ha : Nat.blt a 192 = true) (hs : Nat.beq (mSh0 a) s = true) : mAt w0 a s := by
  have e := Nat.eq_of_beq_eq_true hs
  have h := w0.wf.at (a := a) ha
  rw [e] at h; exact h
/-- types at the start, by reckoning -/
def b0T (a : Nat) (d : Nat × Int × Int) (z : Int) : Bool := match d.1 with
  | 0 => decide (d.2.1 ≤ z ∧ z ≤ d.2.2)
  | 1 => decide (z = a + d.2.1) && Nat.blt (a + d.2.1.toNat) 192 && Nat.beq (mSh0 (a + d.2.1.toNat)) d.2.2.toNat
  | 2 => decide (0 ≤ z) && Nat.blt z.toNat 192 && Nat.beq (mSh0 z.toNat) d.2.1.toNat
  | 3 => decide (z = -1)
  | 4 => decide (z = d.2.1) && Nat.blt d.2.1.toNat 192 && Nat.beq (mSh0 d.2.1.toNat) d.2.2.toNat
  | 5 => decide (z = -99999999) || decide (d.2.1 ≤ z ∧ z ≤ d.2.2)
  | 6 => decide (z = -99999999) || (decide (z = -4) || decide (d.2.1 ≤ z ∧ z ≤ d.2.2))
  | 8 => decide (z = -1)
  | 9 => decide (z = 0 ∧ 0 ≤ d.2.2)
  | 10 => decide (z = 0 ∧ 0 ≤ d.2.2)
  | 12 => decide (z = 0 ∧ 0 ≤ d.2.2)
  | 13 => decide (z = 0 ∧ 0 ≤ d.2.2)
  | _ => false
def b0Chk : Bool := (List.range 192).all fun j => Nat.beq j 126 || (Nat.beq (bS B0 j) (mSh0 j) && if mArr (bS B0 j) then (bD B0 j :: bL B0 j).all fun z => b0T j ((mTyL.getD (bS B0 j) []).getD 0 (0, 0, 0)) z
  else Nat.beq (bL B0 j).length (mTyL.getD (bS B0 j) []).length && decide (bD B0 j = 0) && ((List.range (bL B0 j).length).all fun i => b0T j ((mTyL.getD (bS B0 j) []).getD i (0, 0, 0)) ((bL B0 j).getD i 0)))
theorem b0Chk_ok : b0Chk = true := by decide +kernel
theorem b0T.ok {a i : Nat} {d : Nat × Int × Int} {z : Int} (h : b0T a d z = true) : tyP w0 a i d z := by
  obtain ⟨k, x, y⟩ := d
  have at_ : ∀ {a s : Nat}, Nat.blt a 192 = true → Nat.beq (mSh0 a) s = true → mAt w0 a s := w0.at
  match k, h with
  | 0, h => simp only [b0T, decide_eq_true_eq] at h; exact h
  | 1, h =>
    simp only [b0T, Bool.and_eq_true, decide_eq_true_eq] at h
    exact ⟨h.1.1, at_ h.1.2 h.2⟩
  | 2, h =>
    simp only [b0T, Bool.and_eq_true, decide_eq_true_eq] at h
    exact ⟨h.1.1, at_ h.1.2 h.2⟩
  | 3, h => simp only [b0T, decide_eq_true_eq] at h; exact Or.inl h
  | 4, h =>
    simp only [b0T, Bool.and_eq_true, decide_eq_true_eq] at h
    exact ⟨h.1.1, at_ h.1.2 h.2⟩
  | 5, h => simp only [b0T, Bool.or_eq_true, decide_eq_true_eq] at h; exact h
  | 6, h => simp only [b0T, Bool.or_eq_true, decide_eq_true_eq] at h; exact h
  | 7, h => cases h
  | 8, h =>
    simp only [b0T, decide_eq_true_eq] at h
    exact ⟨fun g => absurd g (by show ¬ (i : Int) < 0; omega), fun _ => h⟩
  | 9, h =>
    simp only [b0T, decide_eq_true_eq] at h
    exact ⟨h.1, by rw [h.1]; exact Int.le_refl _, by rw [h.1]; exact h.2⟩
  | 10, h =>
    simp only [b0T, decide_eq_true_eq] at h
    exact ⟨by rw [h.1]; exact Int.le_refl _, by rw [h.1]; exact h.2, Or.inl h.1⟩
  | 11, h => cases h
  | 12, h =>
    simp only [b0T, decide_eq_true_eq] at h
    exact ⟨by rw [h.1]; exact Int.le_refl _, by rw [h.1]; exact h.2, Or.inl h.1⟩
  | 13, h =>
    simp only [b0T, decide_eq_true_eq] at h
    exact ⟨by rw [h.1]; exact Int.le_refl _, by rw [h.1]; exact h.2, Or.inl h.1⟩
  | _ + 14, h => cases h
theorem w0.ty : mT w0 μ0 := by
  intro a t hA i
  have ha : a < 192 := hA.2.1
  have et : t = mSh0 a := hA.1.symm
  subst et
  by_cases h126 : a = 126
  · subst h126
    show (-2147483648 ≤ μ0 126 i ∧ μ0 126 i ≤ 2147483647) ∧ (i % 40 = 0 → -1 ≤ μ0 126 i ∧ μ0 126 i ≤ 9) ∧ (i % 40 = 4 → 0 ≤ μ0 126 i ∧ μ0 126 i ≤ 20) ∧ (i % 40 = 5 → 0 ≤ μ0 126 i ∧ μ0 126 i ≤ 8)
    have e : μ0 126 i = if i % 40 = 0 ∧ i < 56000 then -1 else 0 := rfl
    rw [e]
    by_cases g : i % 40 = 0 ∧ i < 56000
    · rw [if_pos g]; omega
    · rw [if_neg g]; omega
  · have ez : μ0 a i = bV B0 a i := if_neg h126
    rw [ez]
    have h := List.all_eq_true.mp b0Chk_ok a (List.mem_range.mpr ha)
    have hb : Nat.beq a 126 = false := by
      cases hq : Nat.beq a 126 with
      | false => rfl
      | true => exact absurd (Nat.eq_of_beq_eq_true hq) h126
    rw [hb, Bool.false_or, Bool.and_eq_true] at h
    have es := Nat.eq_of_beq_eq_true h.1
    have h := h.2
    rw [← es]
    by_cases hr : mArr (bS B0 a) = true
    · rw [if_pos hr] at h
      have ht : mTy (bS B0 a) i = (mTyL.getD (bS B0 a) []).getD 0 (0, 0, 0) := by unfold mTy; rw [if_pos hr]
      rw [ht]
      refine b0T.ok (List.all_eq_true.mp h _ ?_)
      unfold bV
      rw [List.getD_eq_getElem?_getD]
      rcases hg : (bL B0 a)[i]? with _ | v
      · exact List.mem_cons_self
      · exact List.mem_cons_of_mem _ (List.mem_of_getElem? hg)
    · rw [if_neg hr] at h
      simp only [Bool.and_eq_true, decide_eq_true_eq] at h
      obtain ⟨⟨h1, h2⟩, h3⟩ := h
      have ht : mTy (bS B0 a) i = (mTyL.getD (bS B0 a) []).getD i (0, 0, 0) := by unfold mTy; rw [if_neg hr]
      rw [ht]
      have hl := Nat.eq_of_beq_eq_true h1
      by_cases hi : i < (bL B0 a).length
      · have g := List.all_eq_true.mp h3 i (List.mem_range.mpr hi)
        have ev : bV B0 a i = (bL B0 a).getD i 0 := by
          unfold bV
          rw [List.getD_eq_getElem?_getD, List.getD_eq_getElem?_getD, List.getElem?_eq_getElem hi]; rfl
        rw [ev]
        exact b0T.ok g
      · have ev : bV B0 a i = 0 := by
          unfold bV
          rw [List.getD_eq_getElem?_getD, List.getElem?_eq_none (by omega), h2]; rfl
        have ed : (mTyL.getD (bS B0 a) []).getD i (0, 0, 0) = (0, 0, 0) := by
          rw [List.getD_eq_getElem?_getD (l := mTyL.getD (bS B0 a) []), List.getElem?_eq_none (by omega)]; rfl
        rw [ev, ed]
        exact ⟨Int.le_refl _, Int.le_refl _⟩
theorem J0 : J w0 μ0 := by
  refine ⟨w0.wf, w0.ty, fun p hp => absurd hp (by show ¬ (p : Int) < 0; omega), (by show (0 : Int) + 0 ≤ 1000; decide), (by show (1 : Int) ≤ 16 ∧ (0 : Int) ≤ 16; decide), rfl, ⟨⟨Or.inl rfl, fun k _ => Or.inl rfl⟩, fun s _ h => ?_, ⟨fun i _ h => absurd h (by show ¬ (i : Int) < 4 * 0; omega), fun p hp => absurd hp (by show ¬ (p : Int) < 0; omega)⟩⟩, rfl, ?_⟩
  · have e1 : μ0 157 s = -1 := rfl
    have e2 : μ0 159 s = -1 := rfl
    rw [e1, e2] at h; omega
  · have hz : szW w0 ≤ 300000 := by decide +kernel
    show ((192 : Nat) : Int) ≤ 192 + 35 * 0 + 124 * 0 + 6 * 0 + ((16 : Nat) : Int) + 2 * ((16 : Nat) : Int) ∧ (szW w0 : Int) ≤ 300000 + 442 * 0 + 1653 * 0 + 2586 * 0 + 2 * ((16 : Nat) : Int) + 4 * ((16 : Nat) : Int)
    omega
theorem μ0.row {r : Int} (a : 0 ≤ r) (b : r ≤ 1399) : μ0 126 (40 * r).toNat = -1 := by
  show (if (40 * r).toNat % 40 = 0 ∧ (40 * r).toNat < 56000 then (-1 : Int) else 0) = -1
  rw [if_pos (by omega)]
theorem U0 {l : Launch} {D : va_G} {c : Nat → ClassId} {H0 : Heap} {sa : Nat × Nat × (Nat → Int32)} : UI l D c H0 sa μ0 := by
  have e2 : μ0 106 2 = 0 := rfl
  have e5 : μ0 106 5 = 0 := rfl
  have e6 : μ0 106 6 = 0 := rfl
  have e18 : μ0 106 18 = 0 := rfl
  refine ⟨JC.zero rfl, fun r a b => ?_, fun s a b h => ?_, fun s a b h => ?_, fun d p a b => ?_, fun i a => ?_, fun i a => ?_⟩
  · rw [μ0.row a b, e2]; exact ⟨fun _ => by decide, fun _ => by decide⟩
  · have q1 : ∀ i, μ0 157 i = -1 := fun _ => rfl
    have q2 : ∀ i, μ0 159 i = -1 := fun _ => rfl
    rw [q1, q2] at h; omega
  · rw [μ0.row (r := 130 + s) (by omega) (by omega)] at h; omega
  · rw [e5] at b; omega
  · rw [e6] at a; omega
  · rw [e18] at a; omega
set_option maxRecDepth 100000 in
theorem tF_eq : ∀ j, j < 192 → sEq (tF j) ((mk w0 μ0).2 j) := by
  intro j hj
  match j, hj with
  | 0, _ => exact rfl
  | 1, _ => exact ⟨rfl, rfl, fun _ _ => rfl⟩
  | 2, _ => exact ⟨rfl, rfl, fun _ _ => rfl⟩
  | 3, _ => exact rfl
  | 4, _ => exact ⟨rfl, rfl, fun _ _ => rfl⟩
  | 5, _ => exact ⟨rfl, rfl, fun _ _ => rfl⟩
  | 6, _ => exact rfl
  | 7, _ => exact ⟨rfl, rfl, fun _ _ => rfl⟩
  | 8, _ => exact ⟨rfl, rfl, fun _ _ => rfl⟩
  | 9, _ => exact ⟨rfl, rfl, fun _ _ => rfl⟩
  | 10, _ => exact ⟨rfl, rfl, fun _ _ => rfl⟩
  | 11, _ => exact ⟨rfl, rfl, fun _ _ => rfl⟩
  | 12, _ => exact ⟨rfl, rfl, fun _ _ => rfl⟩
  | 13, _ => exact ⟨rfl, rfl, fun _ _ => rfl⟩
  | 14, _ => exact ⟨rfl, rfl, fun _ _ => rfl⟩
  | 15, _ => exact ⟨rfl, rfl, fun _ _ => rfl⟩
  | 16, _ => exact ⟨rfl, rfl, fun _ _ => rfl⟩
  | 17, _ => exact ⟨rfl, rfl, fun _ _ => rfl⟩
  | 18, _ => exact ⟨rfl, rfl, fun _ _ => rfl⟩
  | 19, _ => exact ⟨rfl, rfl, fun _ _ => rfl⟩
  | 20, _ => exact ⟨rfl, rfl, fun _ _ => rfl⟩
  | 21, _ => exact rfl
  | 22, _ => exact ⟨rfl, rfl, fun _ _ => rfl⟩
  | 23, _ => exact rfl
  | 24, _ => exact ⟨rfl, rfl, fun _ _ => rfl⟩
  | 25, _ => exact ⟨rfl, rfl, fun _ _ => rfl⟩
  | 26, _ => exact ⟨rfl, rfl, fun _ _ => rfl⟩
  | 27, _ => exact ⟨rfl, rfl, fun _ _ => rfl⟩
  | 28, _ => exact ⟨rfl, rfl, fun _ _ => rfl⟩
  | 29, _ => exact ⟨rfl, rfl, fun _ _ => rfl⟩
  | 30, _ => exact ⟨rfl, rfl, fun _ _ => rfl⟩
  | 31, _ => exact ⟨rfl, rfl, fun _ _ => rfl⟩
  | 32, _ => exact rfl
  | 33, _ => exact ⟨rfl, rfl, fun _ _ => rfl⟩
  | 34, _ => exact ⟨rfl, rfl, fun i hi => if_pos hi⟩
  | 35, _ => exact ⟨rfl, rfl, fun i hi => by
      match i, hi with
      | 0, _ => rfl
      | 1, _ => rfl
      | 2, _ => rfl
      | 3, _ => rfl
      | 4, _ => rfl
      | 5, _ => rfl
      | 6, _ => rfl
      | 7, _ => rfl
      | 8, _ => rfl
      | 9, _ => rfl
      | m + 10, h => exact absurd h (Nat.not_lt.mpr (Nat.le_add_left _ _))⟩
  | 36, _ => exact rfl
  | 37, _ => exact ⟨rfl, rfl, fun _ _ => rfl⟩
  | 38, _ => exact ⟨rfl, rfl, fun _ _ => rfl⟩
  | 39, _ => exact rfl
  | 40, _ => exact ⟨rfl, rfl, fun _ _ => rfl⟩
  | 41, _ => exact ⟨rfl, rfl, fun _ _ => rfl⟩
  | 42, _ => exact rfl
  | 43, _ => exact ⟨rfl, rfl, fun _ _ => rfl⟩
  | 44, _ => exact ⟨rfl, rfl, fun _ _ => rfl⟩
  | 45, _ => exact rfl
  | 46, _ => exact ⟨rfl, rfl, fun _ _ => rfl⟩
  | 47, _ => exact ⟨rfl, rfl, fun _ _ => rfl⟩
  | 48, _ => exact rfl
  | 49, _ => exact ⟨rfl, rfl, fun _ _ => rfl⟩
  | 50, _ => exact ⟨rfl, rfl, fun _ _ => rfl⟩
  | 51, _ => exact rfl
  | 52, _ => exact ⟨rfl, rfl, fun _ _ => rfl⟩
  | 53, _ => exact ⟨rfl, rfl, fun _ _ => rfl⟩
  | 54, _ => exact rfl
  | 55, _ => exact ⟨rfl, rfl, fun _ _ => rfl⟩
  | 56, _ => exact ⟨rfl, rfl, fun _ _ => rfl⟩
  | 57, _ => exact rfl
  | 58, _ => exact ⟨rfl, rfl, fun _ _ => rfl⟩
  | 59, _ => exact ⟨rfl, rfl, fun _ _ => rfl⟩
  | 60, _ => exact rfl
  | 61, _ => exact ⟨rfl, rfl, fun _ _ => rfl⟩
  | 62, _ => exact ⟨rfl, rfl, fun _ _ => rfl⟩
  | 63, _ => exact rfl
  | 64, _ => exact ⟨rfl, rfl, fun _ _ => rfl⟩
  | 65, _ => exact ⟨rfl, rfl, fun _ _ => rfl⟩
  | 66, _ => exact ⟨rfl, rfl, fun _ _ => rfl⟩
  | 67, _ => exact rfl
  | 68, _ => exact ⟨rfl, rfl, fun _ _ => rfl⟩
  | 69, _ => exact ⟨rfl, rfl, fun _ _ => rfl⟩
  | 70, _ => exact rfl
  | 71, _ => exact ⟨rfl, rfl, fun _ _ => rfl⟩
  | 72, _ => exact ⟨rfl, rfl, fun _ _ => rfl⟩
  | 73, _ => exact rfl
  | 74, _ => exact ⟨rfl, rfl, fun _ _ => rfl⟩
  | 75, _ => exact ⟨rfl, rfl, fun _ _ => rfl⟩
  | 76, _ => exact rfl
  | 77, _ => exact ⟨rfl, rfl, fun _ _ => rfl⟩
  | 78, _ => exact ⟨rfl, rfl, fun _ _ => rfl⟩
  | 79, _ => exact ⟨rfl, rfl, fun _ _ => rfl⟩
  | 80, _ => exact ⟨rfl, rfl, fun i hi => by
      match i, hi with
      | 0, _ => rfl
      | 1, _ => rfl
      | 2, _ => rfl
      | 3, _ => rfl
      | m + 4, h => exact absurd h (Nat.not_lt.mpr (Nat.le_add_left _ _))⟩
  | 81, _ => exact rfl
  | 82, _ => exact ⟨rfl, rfl, fun _ _ => rfl⟩
  | 83, _ => exact ⟨rfl, rfl, fun _ _ => rfl⟩
  | 84, _ => exact ⟨rfl, rfl, fun _ _ => rfl⟩
  | 85, _ => exact ⟨rfl, rfl, fun _ _ => rfl⟩
  | 86, _ => exact ⟨rfl, rfl, fun _ _ => rfl⟩
  | 87, _ => exact rfl
  | 88, _ => exact ⟨rfl, rfl, fun _ _ => rfl⟩
  | 89, _ => exact ⟨rfl, rfl, fun _ _ => rfl⟩
  | 90, _ => exact ⟨rfl, rfl, fun _ _ => rfl⟩
  | 91, _ => exact ⟨rfl, rfl, fun _ _ => rfl⟩
  | 92, _ => exact ⟨rfl, rfl, fun _ _ => rfl⟩
  | 93, _ => exact ⟨rfl, rfl, fun _ _ => rfl⟩
  | 94, _ => exact rfl
  | 95, _ => exact ⟨rfl, rfl, fun _ _ => rfl⟩
  | 96, _ => exact ⟨rfl, rfl, fun _ _ => rfl⟩
  | 97, _ => exact ⟨rfl, rfl, fun _ _ => rfl⟩
  | 98, _ => exact ⟨rfl, rfl, fun _ _ => rfl⟩
  | 99, _ => exact ⟨rfl, rfl, fun _ _ => rfl⟩
  | 100, _ => exact ⟨rfl, rfl, fun _ _ => rfl⟩
  | 101, _ => exact ⟨rfl, rfl, fun _ _ => rfl⟩
  | 102, _ => exact ⟨rfl, rfl, fun _ _ => rfl⟩
  | 103, _ => exact ⟨rfl, rfl, fun _ _ => rfl⟩
  | 104, _ => exact ⟨rfl, rfl, fun _ _ => rfl⟩
  | 105, _ => exact ⟨rfl, rfl, fun _ _ => rfl⟩
  | 106, _ => exact rfl
  | 107, _ => exact ⟨rfl, rfl, fun _ _ => rfl⟩
  | 108, _ => exact ⟨rfl, rfl, fun _ _ => rfl⟩
  | 109, _ => exact ⟨rfl, rfl, fun _ _ => rfl⟩
  | 110, _ => exact ⟨rfl, rfl, fun _ _ => rfl⟩
  | 111, _ => exact ⟨rfl, rfl, fun _ _ => rfl⟩
  | 112, _ => exact ⟨rfl, rfl, fun _ _ => rfl⟩
  | 113, _ => exact ⟨rfl, rfl, fun _ _ => rfl⟩
  | 114, _ => exact ⟨rfl, rfl, fun _ _ => rfl⟩
  | 115, _ => exact ⟨rfl, rfl, fun _ _ => rfl⟩
  | 116, _ => exact ⟨rfl, rfl, fun _ _ => rfl⟩
  | 117, _ => exact ⟨rfl, rfl, fun _ _ => rfl⟩
  | 118, _ => exact ⟨rfl, rfl, fun _ _ => rfl⟩
  | 119, _ => exact ⟨rfl, rfl, fun _ _ => rfl⟩
  | 120, _ => exact ⟨rfl, rfl, fun _ _ => rfl⟩
  | 121, _ => exact ⟨rfl, rfl, fun _ _ => rfl⟩
  | 122, _ => exact ⟨rfl, rfl, fun _ _ => rfl⟩
  | 123, _ => exact ⟨rfl, rfl, fun _ _ => rfl⟩
  | 124, _ => exact ⟨rfl, rfl, fun _ _ => rfl⟩
  | 125, _ => exact ⟨rfl, rfl, fun _ _ => rfl⟩
  | 126, _ =>
    refine ⟨rfl, rfl, fun i hi => ?_⟩
    show updV (sStr 1400 (fun _ => .int 0)) 0 (.int (-1)) i = iv (if i % 40 = 0 ∧ i < 56000 then -1 else 0)
    by_cases g : i % 40 = 0 ∧ i < 56000
    · rw [if_pos g]
      by_cases g0 : i = 0
      · subst g0; rfl
      · have e : updV (sStr 1400 (fun _ => .int 0)) 0 (.int (-1)) i = sStr 1400 (fun _ => .int 0) i := by simp only [updV, if_neg g0]
        rw [e]; exact if_pos g
    · rw [if_neg g]
      have g0 : ¬ i = 0 := fun e => g (by rw [e]; decide)
      have e : updV (sStr 1400 (fun _ => .int 0)) 0 (.int (-1)) i = sStr 1400 (fun _ => .int 0) i := by simp only [updV, if_neg g0]
      rw [e]; exact if_neg g
  | 127, _ => exact ⟨rfl, rfl, fun _ _ => rfl⟩
  | 128, _ => exact ⟨rfl, rfl, fun _ _ => rfl⟩
  | 129, _ => exact ⟨rfl, rfl, fun _ _ => rfl⟩
  | 130, _ => exact ⟨rfl, rfl, fun _ _ => rfl⟩
  | 131, _ => exact ⟨rfl, rfl, fun _ _ => rfl⟩
  | 132, _ => exact ⟨rfl, rfl, fun _ _ => rfl⟩
  | 133, _ => exact ⟨rfl, rfl, fun _ _ => rfl⟩
  | 134, _ => exact ⟨rfl, rfl, fun _ _ => rfl⟩
  | 135, _ => exact ⟨rfl, rfl, fun _ _ => rfl⟩
  | 136, _ => exact ⟨rfl, rfl, fun _ _ => rfl⟩
  | 137, _ => exact ⟨rfl, rfl, fun _ _ => rfl⟩
  | 138, _ => exact ⟨rfl, rfl, fun _ _ => rfl⟩
  | 139, _ => exact ⟨rfl, rfl, fun _ _ => rfl⟩
  | 140, _ => exact ⟨rfl, rfl, fun _ _ => rfl⟩
  | 141, _ => exact ⟨rfl, rfl, fun _ _ => rfl⟩
  | 142, _ => exact ⟨rfl, rfl, fun _ _ => rfl⟩
  | 143, _ => exact ⟨rfl, rfl, fun _ _ => rfl⟩
  | 144, _ => exact ⟨rfl, rfl, fun _ _ => rfl⟩
  | 145, _ => exact ⟨rfl, rfl, fun _ _ => rfl⟩
  | 146, _ => exact ⟨rfl, rfl, fun _ _ => rfl⟩
  | 147, _ => exact ⟨rfl, rfl, fun _ _ => rfl⟩
  | 148, _ => exact ⟨rfl, rfl, fun _ _ => rfl⟩
  | 149, _ => exact ⟨rfl, rfl, fun _ _ => rfl⟩
  | 150, _ => exact ⟨rfl, rfl, fun _ _ => rfl⟩
  | 151, _ => exact ⟨rfl, rfl, fun _ _ => rfl⟩
  | 152, _ => exact ⟨rfl, rfl, fun _ _ => rfl⟩
  | 153, _ => exact ⟨rfl, rfl, fun _ _ => rfl⟩
  | 154, _ => exact ⟨rfl, rfl, fun _ _ => rfl⟩
  | 155, _ => exact ⟨rfl, rfl, fun _ _ => rfl⟩
  | 156, _ => exact ⟨rfl, rfl, fun _ _ => rfl⟩
  | 157, _ => exact ⟨rfl, rfl, fun i hi => if_pos hi⟩
  | 158, _ => exact ⟨rfl, rfl, fun _ _ => rfl⟩
  | 159, _ => exact ⟨rfl, rfl, fun i hi => if_pos hi⟩
  | 160, _ => exact ⟨rfl, rfl, fun _ _ => rfl⟩
  | 161, _ => exact ⟨rfl, rfl, fun i hi => if_pos hi⟩
  | 162, _ => exact ⟨rfl, rfl, fun i hi => if_pos hi⟩
  | 163, _ => exact ⟨rfl, rfl, fun i hi => by
      match i, hi with
      | 0, _ => rfl
      | 1, _ => rfl
      | 2, _ => rfl
      | 3, _ => rfl
      | 4, _ => rfl
      | 5, _ => rfl
      | 6, _ => rfl
      | 7, _ => rfl
      | 8, _ => rfl
      | 9, _ => rfl
      | 10, _ => rfl
      | 11, _ => rfl
      | 12, _ => rfl
      | 13, _ => rfl
      | 14, _ => rfl
      | 15, _ => rfl
      | 16, _ => rfl
      | 17, _ => rfl
      | 18, _ => rfl
      | 19, _ => rfl
      | 20, _ => rfl
      | 21, _ => rfl
      | 22, _ => rfl
      | 23, _ => rfl
      | 24, _ => rfl
      | 25, _ => rfl
      | 26, _ => rfl
      | 27, _ => rfl
      | 28, _ => rfl
      | 29, _ => rfl
      | 30, _ => rfl
      | 31, _ => rfl
      | 32, _ => rfl
      | 33, _ => rfl
      | 34, _ => rfl
      | 35, _ => rfl
      | 36, _ => rfl
      | 37, _ => rfl
      | 38, _ => rfl
      | 39, _ => rfl
      | 40, _ => rfl
      | 41, _ => rfl
      | 42, _ => rfl
      | 43, _ => rfl
      | 44, _ => rfl
      | 45, _ => rfl
      | 46, _ => rfl
      | 47, _ => rfl
      | 48, _ => rfl
      | 49, _ => rfl
      | 50, _ => rfl
      | 51, _ => rfl
      | 52, _ => rfl
      | 53, _ => rfl
      | 54, _ => rfl
      | 55, _ => rfl
      | 56, _ => rfl
      | 57, _ => rfl
      | 58, _ => rfl
      | 59, _ => rfl
      | m + 60, h => exact absurd h (Nat.not_lt.mpr (Nat.le_add_left _ _))⟩
  | 164, _ => exact ⟨rfl, rfl, fun _ _ => rfl⟩
  | 165, _ => exact ⟨rfl, rfl, fun _ _ => rfl⟩
  | 166, _ => exact ⟨rfl, rfl, fun _ _ => rfl⟩
  | 167, _ => exact ⟨rfl, rfl, fun _ _ => rfl⟩
  | 168, _ => exact ⟨rfl, rfl, fun _ _ => rfl⟩
  | 169, _ => exact ⟨rfl, rfl, fun _ _ => rfl⟩
  | 170, _ => exact ⟨rfl, rfl, fun _ _ => rfl⟩
  | 171, _ => exact ⟨rfl, rfl, fun _ _ => rfl⟩
  | 172, _ => exact ⟨rfl, rfl, fun _ _ => rfl⟩
  | 173, _ => exact ⟨rfl, rfl, fun _ _ => rfl⟩
  | 174, _ => exact ⟨rfl, rfl, fun _ _ => rfl⟩
  | 175, _ => exact ⟨rfl, rfl, fun _ _ => rfl⟩
  | 176, _ => exact ⟨rfl, rfl, fun _ _ => rfl⟩
  | 177, _ => exact ⟨rfl, rfl, fun _ _ => rfl⟩
  | 178, _ => exact ⟨rfl, rfl, fun _ _ => rfl⟩
  | 179, _ => exact ⟨rfl, rfl, fun _ _ => rfl⟩
  | 180, _ => exact ⟨rfl, rfl, fun _ _ => rfl⟩
  | 181, _ => exact ⟨rfl, rfl, fun _ _ => rfl⟩
  | 182, _ => exact ⟨rfl, rfl, fun _ _ => rfl⟩
  | 183, _ => exact ⟨rfl, rfl, fun _ _ => rfl⟩
  | 184, _ => exact ⟨rfl, rfl, fun _ _ => rfl⟩
  | 185, _ => exact ⟨rfl, rfl, fun _ _ => rfl⟩
  | 186, _ => exact ⟨rfl, rfl, fun _ _ => rfl⟩
  | 187, _ => exact ⟨rfl, rfl, fun _ _ => rfl⟩
  | 188, _ => exact ⟨rfl, rfl, fun _ _ => rfl⟩
  | 189, _ => exact ⟨rfl, rfl, fun _ _ => rfl⟩
  | 190, _ => exact ⟨rfl, rfl, fun _ _ => rfl⟩
  | 191, _ => exact ⟨rfl, rfl, fun _ _ => rfl⟩
  | n + 192, h => exact absurd h (Nat.not_lt.mpr (Nat.le_add_left _ _))
theorem K30 : K3 w0 μ0 0 := by
  have a35 : ∀ i, i < 10 → μ0 35 i = ((36 + 3 * i : Nat) : Int) := fun i hi => by
    match i, hi with
    | 0, _ => rfl
    | 1, _ => rfl
    | 2, _ => rfl
    | 3, _ => rfl
    | 4, _ => rfl
    | 5, _ => rfl
    | 6, _ => rfl
    | 7, _ => rfl
    | 8, _ => rfl
    | 9, _ => rfl
    | n + 10, h => exact absurd h (by omega)
  have a163 : ∀ d, d < 10 → rowL (fun i => μ0 163 (6 * d + i)) 6 = [1, 2, 3, 4, 5, 0] := fun d hd => by
    match d, hd with
    | 0, _ => rfl
    | 1, _ => rfl
    | 2, _ => rfl
    | 3, _ => rfl
    | 4, _ => rfl
    | 5, _ => rfl
    | 6, _ => rfl
    | 7, _ => rfl
    | 8, _ => rfl
    | 9, _ => rfl
    | n + 10, h => exact absurd h (by omega)
  exact K3.zero (K2C00 rfl rfl rfl a35 rfl (fun i _ => ⟨rfl, rfl⟩) rfl rfl rfl (fun i _ => rfl) rfl rfl (if_pos rfl) (if_pos rfl) rfl) (K2R00 rfl rfl rfl (fun i _ => rfl) a163 (fun d _ => rfl) rfl (fun i _ => ⟨rfl, rfl⟩) rfl rfl (fun r h0 h1 => μ0.row h0 h1) (fun s _ => ⟨rfl, rfl, rfl⟩) (fun k _ => rfl) rfl rfl rfl rfl rfl rfl) rfl rfl rfl rfl rfl rfl
