def BX0 : mB := [(210, [1, 2, 3, 4, 5, 0], 0),
  (211, [1, 2, 3, 4, 5, 0], 1),
  (212, [], -1),
  (213, [], -99999999),
  (214, [5, 8, 11, 14, 17, 20, 23, 26, 29, 32], 5),
  (200, [6, 7, 0, 0, 0, 0, 0, 0, 0, -1, 0, 0], 0),
  (201, [], 0),
  (202, [], 0),
  (200, [9, 10, 0, 0, 0, 0, 0, 0, 0, -1, 0, 0], 0),
  (201, [], 0),
  (202, [], 0),
  (200, [12, 13, 0, 0, 0, 0, 0, 0, 0, -1, 0, 0], 0),
  (201, [], 0),
  (202, [], 0),
  (200, [15, 16, 0, 0, 0, 0, 0, 0, 0, -1, 0, 0], 0),
  (201, [], 0),
  (202, [], 0),
  (200, [18, 19, 0, 0, 0, 0, 0, 0, 0, -1, 0, 0], 0),
  (201, [], 0),
  (202, [], 0),
  (200, [21, 22, 0, 0, 0, 0, 0, 0, 0, -1, 0, 0], 0),
  (201, [], 0),
  (202, [], 0),
  (200, [24, 25, 0, 0, 0, 0, 0, 0, 0, -1, 0, 0], 0),
  (201, [], 0),
  (202, [], 0),
  (200, [27, 28, 0, 0, 0, 0, 0, 0, 0, -1, 0, 0], 0),
  (201, [], 0),
  (202, [], 0),
  (200, [30, 31, 0, 0, 0, 0, 0, 0, 0, -1, 0, 0], 0),
  (201, [], 0),
  (202, [], 0),
  (200, [33, 34, 0, 0, 0, 0, 0, 0, 0, -1, 0, 0], 0),
  (201, [], 0),
  (202, [], 0)]
def BX9 : mB := [(220, [0, 0, 0, 1, 2, 3, 1, 1, 0], 0),
  (221, [], -99999999),
  (222, [4, 10, 16, 22, 28, 34, 40, 46, 52, 58, 64, 70, 76, 82, 88, 94, 100, 106, 112, 118], 4),
  (223, [7, 13, 19, 25, 31, 37, 43, 49, 55, 61, 67, 73, 79, 85, 91, 97, 103, 109, 115, 121], 7),
  (200, [5, 6, 0, 0, 0, 0, 0, 0, 0, -1, 0, 0], 0),
  (201, [], 0),
  (202, [], 0),
  (200, [8, 9, 0, 0, 0, 0, 0, 0, 0, -1, 0, 0], 0),
  (201, [], 0),
  (202, [], 0),
  (200, [11, 12, 0, 0, 0, 0, 0, 0, 0, -1, 0, 0], 0),
  (201, [], 0),
  (202, [], 0),
  (200, [14, 15, 0, 0, 0, 0, 0, 0, 0, -1, 0, 0], 0),
  (201, [], 0),
  (202, [], 0),
  (200, [17, 18, 0, 0, 0, 0, 0, 0, 0, -1, 0, 0], 0),
  (201, [], 0),
  (202, [], 0),
  (200, [20, 21, 0, 0, 0, 0, 0, 0, 0, -1, 0, 0], 0),
  (201, [], 0),
  (202, [], 0),
  (200, [23, 24, 0, 0, 0, 0, 0, 0, 0, -1, 0, 0], 0),
  (201, [], 0),
  (202, [], 0),
  (200, [26, 27, 0, 0, 0, 0, 0, 0, 0, -1, 0, 0], 0),
  (201, [], 0),
  (202, [], 0),
  (200, [29, 30, 0, 0, 0, 0, 0, 0, 0, -1, 0, 0], 0),
  (201, [], 0),
  (202, [], 0),
  (200, [32, 33, 0, 0, 0, 0, 0, 0, 0, -1, 0, 0], 0),
  (201, [], 0),
  (202, [], 0),
  (200, [35, 36, 0, 0, 0, 0, 0, 0, 0, -1, 0, 0], 0),
  (201, [], 0),
  (202, [], 0),
  (200, [38, 39, 0, 0, 0, 0, 0, 0, 0, -1, 0, 0], 0),
  (201, [], 0),
  (202, [], 0),
  (200, [41, 42, 0, 0, 0, 0, 0, 0, 0, -1, 0, 0], 0),
  (201, [], 0),
  (202, [], 0),
  (200, [44, 45, 0, 0, 0, 0, 0, 0, 0, -1, 0, 0], 0),
  (201, [], 0),
  (202, [], 0),
  (200, [47, 48, 0, 0, 0, 0, 0, 0, 0, -1, 0, 0], 0),
  (201, [], 0),
  (202, [], 0),
  (200, [50, 51, 0, 0, 0, 0, 0, 0, 0, -1, 0, 0], 0),
  (201, [], 0),
  (202, [], 0),
  (200, [53, 54, 0, 0, 0, 0, 0, 0, 0, -1, 0, 0], 0),
  (201, [], 0),
  (202, [], 0),
  (200, [56, 57, 0, 0, 0, 0, 0, 0, 0, -1, 0, 0], 0),
  (201, [], 0),
  (202, [], 0),
  (200, [59, 60, 0, 0, 0, 0, 0, 0, 0, -1, 0, 0], 0),
  (201, [], 0),
  (202, [], 0),
  (200, [62, 63, 0, 0, 0, 0, 0, 0, 0, -1, 0, 0], 0),
  (201, [], 0),
  (202, [], 0),
  (200, [65, 66, 0, 0, 0, 0, 0, 0, 0, -1, 0, 0], 0),
  (201, [], 0),
  (202, [], 0),
  (200, [68, 69, 0, 0, 0, 0, 0, 0, 0, -1, 0, 0], 0),
  (201, [], 0),
  (202, [], 0),
  (200, [71, 72, 0, 0, 0, 0, 0, 0, 0, -1, 0, 0], 0),
  (201, [], 0),
  (202, [], 0),
  (200, [74, 75, 0, 0, 0, 0, 0, 0, 0, -1, 0, 0], 0),
  (201, [], 0),
  (202, [], 0),
  (200, [77, 78, 0, 0, 0, 0, 0, 0, 0, -1, 0, 0], 0),
  (201, [], 0),
  (202, [], 0),
  (200, [80, 81, 0, 0, 0, 0, 0, 0, 0, -1, 0, 0], 0),
  (201, [], 0),
  (202, [], 0),
  (200, [83, 84, 0, 0, 0, 0, 0, 0, 0, -1, 0, 0], 0),
  (201, [], 0),
  (202, [], 0),
  (200, [86, 87, 0, 0, 0, 0, 0, 0, 0, -1, 0, 0], 0),
  (201, [], 0),
  (202, [], 0),
  (200, [89, 90, 0, 0, 0, 0, 0, 0, 0, -1, 0, 0], 0),
  (201, [], 0),
  (202, [], 0),
  (200, [92, 93, 0, 0, 0, 0, 0, 0, 0, -1, 0, 0], 0),
  (201, [], 0),
  (202, [], 0),
  (200, [95, 96, 0, 0, 0, 0, 0, 0, 0, -1, 0, 0], 0),
  (201, [], 0),
  (202, [], 0),
  (200, [98, 99, 0, 0, 0, 0, 0, 0, 0, -1, 0, 0], 0),
  (201, [], 0),
  (202, [], 0),
  (200, [101, 102, 0, 0, 0, 0, 0, 0, 0, -1, 0, 0], 0),
  (201, [], 0),
  (202, [], 0),
  (200, [104, 105, 0, 0, 0, 0, 0, 0, 0, -1, 0, 0], 0),
  (201, [], 0),
  (202, [], 0),
  (200, [107, 108, 0, 0, 0, 0, 0, 0, 0, -1, 0, 0], 0),
  (201, [], 0),
  (202, [], 0),
  (200, [110, 111, 0, 0, 0, 0, 0, 0, 0, -1, 0, 0], 0),
  (201, [], 0),
  (202, [], 0),
  (200, [113, 114, 0, 0, 0, 0, 0, 0, 0, -1, 0, 0], 0),
  (201, [], 0),
  (202, [], 0),
  (200, [116, 117, 0, 0, 0, 0, 0, 0, 0, -1, 0, 0], 0),
  (201, [], 0),
  (202, [], 0),
  (200, [119, 120, 0, 0, 0, 0, 0, 0, 0, -1, 0, 0], 0),
  (201, [], 0),
  (202, [], 0),
  (200, [122, 123, 0, 0, 0, 0, 0, 0, 0, -1, 0, 0], 0),
  (201, [], 0),
  (202, [], 0)]
theorem BX0_ok : bChk false BX0 = true := by decide +kernel
theorem BX0_n : BX0.length = 35 := rfl
theorem BX0_eq : ∀ j, j < 35 → sEq (tX0N j) (mCell (mTab (bS BX0 j)) (mLen (bS BX0 j)) (bV BX0 j)) := by
  intro j hj
  match j, hj with
  | 0, _ => exact rfl
  | 1, _ => exact ⟨rfl, rfl, fun i hi => by
      match i, hi with
      | 0, _ => rfl
      | 1, _ => rfl
      | 2, _ => rfl
      | 3, _ => rfl
      | 4, _ => rfl
      | 5, _ => rfl
      | m + 6, h => exact absurd h (Nat.not_lt.mpr (Nat.le_add_left _ _))⟩
  | 2, _ => exact ⟨rfl, rfl, fun i hi => by
      match i, hi with
      | 0, _ => rfl
      | 1, _ => rfl
      | 2, _ => rfl
      | 3, _ => rfl
      | 4, _ => rfl
      | 5, _ => rfl
      | 6, _ => rfl
      | 7, _ => rfl
      | 8, _ => rfl
      | 9, _ => rfl
      | m + 10, h => exact absurd h (Nat.not_lt.mpr (Nat.le_add_left _ _))⟩
  | 3, _ => exact ⟨rfl, rfl, fun i hi => by
      match i, hi with
      | 0, _ => rfl
      | 1, _ => rfl
      | 2, _ => rfl
      | 3, _ => rfl
      | 4, _ => rfl
      | 5, _ => rfl
      | 6, _ => rfl
      | 7, _ => rfl
      | 8, _ => rfl
      | 9, _ => rfl
      | m + 10, h => exact absurd h (Nat.not_lt.mpr (Nat.le_add_left _ _))⟩
  | 4, _ => exact ⟨rfl, rfl, fun i hi => by
      match i, hi with
      | 0, _ => rfl
      | 1, _ => rfl
      | 2, _ => rfl
      | 3, _ => rfl
      | 4, _ => rfl
      | 5, _ => rfl
      | 6, _ => rfl
      | 7, _ => rfl
      | 8, _ => rfl
      | 9, _ => rfl
      | m + 10, h => exact absurd h (Nat.not_lt.mpr (Nat.le_add_left _ _))⟩
  | 5, _ => exact rfl
  | 6, _ => exact ⟨rfl, rfl, fun _ _ => rfl⟩
  | 7, _ => exact ⟨rfl, rfl, fun _ _ => rfl⟩
  | 8, _ => exact rfl
  | 9, _ => exact ⟨rfl, rfl, fun _ _ => rfl⟩
  | 10, _ => exact ⟨rfl, rfl, fun _ _ => rfl⟩
  | 11, _ => exact rfl
  | 12, _ => exact ⟨rfl, rfl, fun _ _ => rfl⟩
  | 13, _ => exact ⟨rfl, rfl, fun _ _ => rfl⟩
  | 14, _ => exact rfl
  | 15, _ => exact ⟨rfl, rfl, fun _ _ => rfl⟩
  | 16, _ => exact ⟨rfl, rfl, fun _ _ => rfl⟩
  | 17, _ => exact rfl
  | 18, _ => exact ⟨rfl, rfl, fun _ _ => rfl⟩
  | 19, _ => exact ⟨rfl, rfl, fun _ _ => rfl⟩
  | 20, _ => exact rfl
  | 21, _ => exact ⟨rfl, rfl, fun _ _ => rfl⟩
  | 22, _ => exact ⟨rfl, rfl, fun _ _ => rfl⟩
  | 23, _ => exact rfl
  | 24, _ => exact ⟨rfl, rfl, fun _ _ => rfl⟩
  | 25, _ => exact ⟨rfl, rfl, fun _ _ => rfl⟩
  | 26, _ => exact rfl
  | 27, _ => exact ⟨rfl, rfl, fun _ _ => rfl⟩
  | 28, _ => exact ⟨rfl, rfl, fun _ _ => rfl⟩
  | 29, _ => exact rfl
  | 30, _ => exact ⟨rfl, rfl, fun _ _ => rfl⟩
  | 31, _ => exact ⟨rfl, rfl, fun _ _ => rfl⟩
  | 32, _ => exact rfl
  | 33, _ => exact ⟨rfl, rfl, fun _ _ => rfl⟩
  | 34, _ => exact ⟨rfl, rfl, fun _ _ => rfl⟩
  | n + 35, h => exact absurd h (by omega)
theorem BX9_ok : bChk true BX9 = true := by decide +kernel
theorem BX9_n : BX9.length = 124 := rfl
theorem BX9_eq : ∀ j, j < 124 → sEq (tX9N 0 0 0 j) (mCell (mTab (bS BX9 j)) (mLen (bS BX9 j)) (bV BX9 j)) := by
  intro j hj
  match j, hj with
  | 0, _ => exact rfl
  | 1, _ => exact ⟨rfl, rfl, fun i hi => by
      match i, hi with
      | 0, _ => rfl
      | 1, _ => rfl
      | 2, _ => rfl
      | 3, _ => rfl
      | m + 4, h => exact absurd h (Nat.not_lt.mpr (Nat.le_add_left _ _))⟩
  | 2, _ => exact ⟨rfl, rfl, fun i hi => by
      match i, hi with
      | 0, _ => rfl
      | 1, _ => rfl
      | 2, _ => rfl
      | 3, _ => rfl
      | 4, _ => rfl
      | 5, _ => rfl
      | 6, _ => rfl
      | 7, _ => rfl
      | 8, _ => rfl
      | 9, _ => rfl
      | 10, _ => rfl
      | 11, _ => rfl
      | 12, _ => rfl
      | 13, _ => rfl
      | 14, _ => rfl
      | 15, _ => rfl
      | 16, _ => rfl
      | 17, _ => rfl
      | 18, _ => rfl
      | 19, _ => rfl
      | m + 20, h => exact absurd h (Nat.not_lt.mpr (Nat.le_add_left _ _))⟩
  | 3, _ => exact ⟨rfl, rfl, fun i hi => by
      match i, hi with
      | 0, _ => rfl
      | 1, _ => rfl
      | 2, _ => rfl
      | 3, _ => rfl
      | 4, _ => rfl
      | 5, _ => rfl
      | 6, _ => rfl
      | 7, _ => rfl
      | 8, _ => rfl
      | 9, _ => rfl
      | 10, _ => rfl
      | 11, _ => rfl
      | 12, _ => rfl
      | 13, _ => rfl
      | 14, _ => rfl
      | 15, _ => rfl
      | 16, _ => rfl
      | 17, _ => rfl
      | 18, _ => rfl
      | 19, _ => rfl
      | m + 20, h => exact absurd h (Nat.not_lt.mpr (Nat.le_add_left _ _))⟩
  | 4, _ => exact rfl
  | 5, _ => exact ⟨rfl, rfl, fun _ _ => rfl⟩
  | 6, _ => exact ⟨rfl, rfl, fun _ _ => rfl⟩
  | 7, _ => exact rfl
  | 8, _ => exact ⟨rfl, rfl, fun _ _ => rfl⟩
  | 9, _ => exact ⟨rfl, rfl, fun _ _ => rfl⟩
  | 10, _ => exact rfl
  | 11, _ => exact ⟨rfl, rfl, fun _ _ => rfl⟩
  | 12, _ => exact ⟨rfl, rfl, fun _ _ => rfl⟩
  | 13, _ => exact rfl
  | 14, _ => exact ⟨rfl, rfl, fun _ _ => rfl⟩
  | 15, _ => exact ⟨rfl, rfl, fun _ _ => rfl⟩
  | 16, _ => exact rfl
  | 17, _ => exact ⟨rfl, rfl, fun _ _ => rfl⟩
  | 18, _ => exact ⟨rfl, rfl, fun _ _ => rfl⟩
  | 19, _ => exact rfl
  | 20, _ => exact ⟨rfl, rfl, fun _ _ => rfl⟩
  | 21, _ => exact ⟨rfl, rfl, fun _ _ => rfl⟩
  | 22, _ => exact rfl
  | 23, _ => exact ⟨rfl, rfl, fun _ _ => rfl⟩
  | 24, _ => exact ⟨rfl, rfl, fun _ _ => rfl⟩
  | 25, _ => exact rfl
  | 26, _ => exact ⟨rfl, rfl, fun _ _ => rfl⟩
  | 27, _ => exact ⟨rfl, rfl, fun _ _ => rfl⟩
  | 28, _ => exact rfl
  | 29, _ => exact ⟨rfl, rfl, fun _ _ => rfl⟩
  | 30, _ => exact ⟨rfl, rfl, fun _ _ => rfl⟩
  | 31, _ => exact rfl
  | 32, _ => exact ⟨rfl, rfl, fun _ _ => rfl⟩
  | 33, _ => exact ⟨rfl, rfl, fun _ _ => rfl⟩
  | 34, _ => exact rfl
  | 35, _ => exact ⟨rfl, rfl, fun _ _ => rfl⟩
  | 36, _ => exact ⟨rfl, rfl, fun _ _ => rfl⟩
  | 37, _ => exact rfl
  | 38, _ => exact ⟨rfl, rfl, fun _ _ => rfl⟩
  | 39, _ => exact ⟨rfl, rfl, fun _ _ => rfl⟩
  | 40, _ => exact rfl
  | 41, _ => exact ⟨rfl, rfl, fun _ _ => rfl⟩
  | 42, _ => exact ⟨rfl, rfl, fun _ _ => rfl⟩
  | 43, _ => exact rfl
  | 44, _ => exact ⟨rfl, rfl, fun _ _ => rfl⟩
  | 45, _ => exact ⟨rfl, rfl, fun _ _ => rfl⟩
  | 46, _ => exact rfl
  | 47, _ => exact ⟨rfl, rfl, fun _ _ => rfl⟩
  | 48, _ => exact ⟨rfl, rfl, fun _ _ => rfl⟩
  | 49, _ => exact rfl
  | 50, _ => exact ⟨rfl, rfl, fun _ _ => rfl⟩
  | 51, _ => exact ⟨rfl, rfl, fun _ _ => rfl⟩
  | 52, _ => exact rfl
  | 53, _ => exact ⟨rfl, rfl, fun _ _ => rfl⟩
  | 54, _ => exact ⟨rfl, rfl, fun _ _ => rfl⟩
  | 55, _ => exact rfl
  | 56, _ => exact ⟨rfl, rfl, fun _ _ => rfl⟩
  | 57, _ => exact ⟨rfl, rfl, fun _ _ => rfl⟩
  | 58, _ => exact rfl
  | 59, _ => exact ⟨rfl, rfl, fun _ _ => rfl⟩
  | 60, _ => exact ⟨rfl, rfl, fun _ _ => rfl⟩
  | 61, _ => exact rfl
  | 62, _ => exact ⟨rfl, rfl, fun _ _ => rfl⟩
  | 63, _ => exact ⟨rfl, rfl, fun _ _ => rfl⟩
  | 64, _ => exact rfl
  | 65, _ => exact ⟨rfl, rfl, fun _ _ => rfl⟩
  | 66, _ => exact ⟨rfl, rfl, fun _ _ => rfl⟩
  | 67, _ => exact rfl
  | 68, _ => exact ⟨rfl, rfl, fun _ _ => rfl⟩
  | 69, _ => exact ⟨rfl, rfl, fun _ _ => rfl⟩
  | 70, _ => exact rfl
  | 71, _ => exact ⟨rfl, rfl, fun _ _ => rfl⟩
  | 72, _ => exact ⟨rfl, rfl, fun _ _ => rfl⟩
  | 73, _ => exact rfl
  | 74, _ => exact ⟨rfl, rfl, fun _ _ => rfl⟩
  | 75, _ => exact ⟨rfl, rfl, fun _ _ => rfl⟩
  | 76, _ => exact rfl
  | 77, _ => exact ⟨rfl, rfl, fun _ _ => rfl⟩
  | 78, _ => exact ⟨rfl, rfl, fun _ _ => rfl⟩
  | 79, _ => exact rfl
  | 80, _ => exact ⟨rfl, rfl, fun _ _ => rfl⟩
  | 81, _ => exact ⟨rfl, rfl, fun _ _ => rfl⟩
  | 82, _ => exact rfl
  | 83, _ => exact ⟨rfl, rfl, fun _ _ => rfl⟩
  | 84, _ => exact ⟨rfl, rfl, fun _ _ => rfl⟩
  | 85, _ => exact rfl
  | 86, _ => exact ⟨rfl, rfl, fun _ _ => rfl⟩
  | 87, _ => exact ⟨rfl, rfl, fun _ _ => rfl⟩
  | 88, _ => exact rfl
  | 89, _ => exact ⟨rfl, rfl, fun _ _ => rfl⟩
  | 90, _ => exact ⟨rfl, rfl, fun _ _ => rfl⟩
  | 91, _ => exact rfl
  | 92, _ => exact ⟨rfl, rfl, fun _ _ => rfl⟩
  | 93, _ => exact ⟨rfl, rfl, fun _ _ => rfl⟩
  | 94, _ => exact rfl
  | 95, _ => exact ⟨rfl, rfl, fun _ _ => rfl⟩
  | 96, _ => exact ⟨rfl, rfl, fun _ _ => rfl⟩
  | 97, _ => exact rfl
  | 98, _ => exact ⟨rfl, rfl, fun _ _ => rfl⟩
  | 99, _ => exact ⟨rfl, rfl, fun _ _ => rfl⟩
  | 100, _ => exact rfl
  | 101, _ => exact ⟨rfl, rfl, fun _ _ => rfl⟩
  | 102, _ => exact ⟨rfl, rfl, fun _ _ => rfl⟩
  | 103, _ => exact rfl
  | 104, _ => exact ⟨rfl, rfl, fun _ _ => rfl⟩
  | 105, _ => exact ⟨rfl, rfl, fun _ _ => rfl⟩
  | 106, _ => exact rfl
  | 107, _ => exact ⟨rfl, rfl, fun _ _ => rfl⟩
  | 108, _ => exact ⟨rfl, rfl, fun _ _ => rfl⟩
  | 109, _ => exact rfl
  | 110, _ => exact ⟨rfl, rfl, fun _ _ => rfl⟩
  | 111, _ => exact ⟨rfl, rfl, fun _ _ => rfl⟩
  | 112, _ => exact rfl
  | 113, _ => exact ⟨rfl, rfl, fun _ _ => rfl⟩
  | 114, _ => exact ⟨rfl, rfl, fun _ _ => rfl⟩
  | 115, _ => exact rfl
  | 116, _ => exact ⟨rfl, rfl, fun _ _ => rfl⟩
  | 117, _ => exact ⟨rfl, rfl, fun _ _ => rfl⟩
  | 118, _ => exact rfl
  | 119, _ => exact ⟨rfl, rfl, fun _ _ => rfl⟩
  | 120, _ => exact ⟨rfl, rfl, fun _ _ => rfl⟩
  | 121, _ => exact rfl
  | 122, _ => exact ⟨rfl, rfl, fun _ _ => rfl⟩
  | 123, _ => exact ⟨rfl, rfl, fun _ _ => rfl⟩
  | n + 124, h => exact absurd h (by omega)
theorem tX9N_s (xa xb xk : Int32) : ∀ j, j + 1 < 124 → tX9N xa xb xk (j + 1) = tX9N 0 0 0 (j + 1) := by
  intro j hj
  match j, hj with
  | 0, _ => exact rfl
  | 1, _ => exact rfl
  | 2, _ => exact rfl
  | 3, _ => exact rfl
  | 4, _ => exact rfl
  | 5, _ => exact rfl
  | 6, _ => exact rfl
  | 7, _ => exact rfl
  | 8, _ => exact rfl
  | 9, _ => exact rfl
  | 10, _ => exact rfl
  | 11, _ => exact rfl
  | 12, _ => exact rfl
  | 13, _ => exact rfl
  | 14, _ => exact rfl
  | 15, _ => exact rfl
  | 16, _ => exact rfl
  | 17, _ => exact rfl
  | 18, _ => exact rfl
  | 19, _ => exact rfl
  | 20, _ => exact rfl
  | 21, _ => exact rfl
  | 22, _ => exact rfl
  | 23, _ => exact rfl
  | 24, _ => exact rfl
  | 25, _ => exact rfl
  | 26, _ => exact rfl
  | 27, _ => exact rfl
  | 28, _ => exact rfl
  | 29, _ => exact rfl
  | 30, _ => exact rfl
  | 31, _ => exact rfl
  | 32, _ => exact rfl
  | 33, _ => exact rfl
  | 34, _ => exact rfl
  | 35, _ => exact rfl
  | 36, _ => exact rfl
  | 37, _ => exact rfl
  | 38, _ => exact rfl
  | 39, _ => exact rfl
  | 40, _ => exact rfl
  | 41, _ => exact rfl
  | 42, _ => exact rfl
  | 43, _ => exact rfl
  | 44, _ => exact rfl
  | 45, _ => exact rfl
  | 46, _ => exact rfl
  | 47, _ => exact rfl
  | 48, _ => exact rfl
  | 49, _ => exact rfl
  | 50, _ => exact rfl
  | 51, _ => exact rfl
  | 52, _ => exact rfl
  | 53, _ => exact rfl
  | 54, _ => exact rfl
  | 55, _ => exact rfl
  | 56, _ => exact rfl
  | 57, _ => exact rfl
  | 58, _ => exact rfl
  | 59, _ => exact rfl
  | 60, _ => exact rfl
  | 61, _ => exact rfl
  | 62, _ => exact rfl
  | 63, _ => exact rfl
  | 64, _ => exact rfl
  | 65, _ => exact rfl
  | 66, _ => exact rfl
  | 67, _ => exact rfl
  | 68, _ => exact rfl
  | 69, _ => exact rfl
  | 70, _ => exact rfl
  | 71, _ => exact rfl
  | 72, _ => exact rfl
  | 73, _ => exact rfl
  | 74, _ => exact rfl
  | 75, _ => exact rfl
  | 76, _ => exact rfl
  | 77, _ => exact rfl
  | 78, _ => exact rfl
  | 79, _ => exact rfl
  | 80, _ => exact rfl
  | 81, _ => exact rfl
  | 82, _ => exact rfl
  | 83, _ => exact rfl
  | 84, _ => exact rfl
  | 85, _ => exact rfl
  | 86, _ => exact rfl
  | 87, _ => exact rfl
  | 88, _ => exact rfl
  | 89, _ => exact rfl
  | 90, _ => exact rfl
  | 91, _ => exact rfl
  | 92, _ => exact rfl
  | 93, _ => exact rfl
  | 94, _ => exact rfl
  | 95, _ => exact rfl
  | 96, _ => exact rfl
  | 97, _ => exact rfl
  | 98, _ => exact rfl
  | 99, _ => exact rfl
  | 100, _ => exact rfl
  | 101, _ => exact rfl
  | 102, _ => exact rfl
  | 103, _ => exact rfl
  | 104, _ => exact rfl
  | 105, _ => exact rfl
  | 106, _ => exact rfl
  | 107, _ => exact rfl
  | 108, _ => exact rfl
  | 109, _ => exact rfl
  | 110, _ => exact rfl
  | 111, _ => exact rfl
  | 112, _ => exact rfl
  | 113, _ => exact rfl
  | 114, _ => exact rfl
  | 115, _ => exact rfl
  | 116, _ => exact rfl
  | 117, _ => exact rfl
  | 118, _ => exact rfl
  | 119, _ => exact rfl
  | 120, _ => exact rfl
  | 121, _ => exact rfl
  | 122, _ => exact rfl
  | n + 123, h => exact absurd h (by omega)
