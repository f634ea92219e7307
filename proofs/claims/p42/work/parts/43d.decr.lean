section
/-! Decoding by the byte's own rule. -/
def rdB (c : ByteArray) (pc o : Nat) : Bool := match c.data.toList.drop pc with
  | p :: _ => p.toNat == o
  | _ => false
def rdU1 (c : ByteArray) (pc o x : Nat) : Bool := match c.data.toList.drop pc with
  | p :: a :: _ => p.toNat == o && a.toNat == x
  | _ => false
def rdU2 (c : ByteArray) (pc o x : Nat) : Bool := match c.data.toList.drop pc with
  | p :: a :: b :: _ => p.toNat == o && a.toNat * 256 + b.toNat == x
  | _ => false
def rdS1 (c : ByteArray) (pc o : Nat) (x : Int) : Bool := match c.data.toList.drop pc with
  | p :: a :: _ => p.toNat == o && Reader.signed 8 a.toNat == x
  | _ => false
def rdS2 (c : ByteArray) (pc o : Nat) (x : Int) : Bool := match c.data.toList.drop pc with
  | p :: a :: b :: _ => p.toNat == o && Reader.signed 16 (a.toNat * 256 + b.toNat) == x
  | _ => false
def rdI (c : ByteArray) (pc o x : Nat) (y : Int) : Bool := match c.data.toList.drop pc with
  | p :: a :: b :: _ => p.toNat == o && a.toNat == x && Reader.signed 8 b.toNat == y
  | _ => false
theorem rd_cons {α : Type} {L : List α} {k : Nat} {p : α} {r : List α} (h : L.drop k = p :: r) : ∃ q : k < L.length, L[k] = p ∧ L.drop (k + 1) = r := by
  have q : k < L.length := by
    apply Classical.byContradiction
    intro n
    rw [List.drop_eq_nil_of_le (by omega)] at h; cases h
  rw [List.drop_eq_getElem_cons q] at h
  injection h with h1 h2
  exact ⟨q, h1, h2⟩
theorem rd_u1 {c : ByteArray} {k : Nat} {p : UInt8} {r : List UInt8} (h : c.data.toList.drop k = p :: r) : (Reader.u1 : Decoder Nat) c k = .ok (p.toNat, k + 1) ∧ c.data.toList.drop (k + 1) = r := by
  obtain ⟨q, h1, h2⟩ := rd_cons h
  refine ⟨?_, h2⟩
  have hs : k < c.size := by
    show k < c.data.size
    rw [← Array.length_toList]; exact q
  have he : c[k] = p := by
    rw [← h1]; exact (Array.getElem_toList _).symm
  have e : (Reader.u1 : Decoder Nat) c k = (if h : k < c.size then (do set (k + 1); Pure.pure (c[k].toNat) : Decoder Nat) else throw (HasTruncated.truncated k)) c k := rfl
  rw [e, dif_pos hs]
  show Except.ok (c[k].toNat, k + 1) = _
  rw [he]
theorem dcB {α β : Type} {u : Decoder α} {M : α → Decoder β} {c : ByteArray} {pc k : Nat} {o : α} (h : u c pc = .ok (o, k)) : (u >>= M : Decoder β) c pc = M o c k := by
  have e : (u >>= M : Decoder β) c pc = (u c pc >>= fun x => M x.1 c x.2) := rfl
  rw [e, h]; rfl
theorem dcD {c : ByteArray} {pc n m : Nat} {i : Instr} (h : Decoder.instr pc c pc = .ok (i, n)) (hm : n - pc = m) : decode c pc = .ok (i, m) := by
  have e : decode c pc = (Decoder.instr pc c pc >>= fun x => Pure.pure (x.1, x.2 - pc)) := rfl
  rw [e, h]
  show Except.ok (i, n - pc) = _
  rw [hm]
/-- the decoder at a first byte o -/
def dcF (o : Nat) (F : Decoder Instr) : Prop := ∀ (c : ByteArray) (pc k : Nat), (Reader.u1 : Decoder Nat) c pc = .ok (o, k) → Decoder.instr pc c pc = F c k
theorem dc0 {c : ByteArray} {pc o : Nat} {i : Instr} (hF : dcF o (Pure.pure i)) (h : rdB c pc o = true) : decode c pc = .ok (i, 1) := by
  unfold rdB at h
  split at h
  · rename_i p r e
    have h := of_decide_eq_true h
    have q := (rd_u1 e).1
    rw [h] at q
    exact dcD (hF c pc _ q) (Nat.add_sub_cancel_left _ _)
  · cases h
theorem dcU1 {c : ByteArray} {pc o x : Nat} {f : Nat → Instr} (hF : dcF o (Reader.u1 >>= fun x => Pure.pure (f x))) (h : rdU1 c pc o x = true) : decode c pc = .ok (f x, 2) := by
  unfold rdU1 at h
  split at h
  · rename_i p a r e
    obtain ⟨h1, h2⟩ := Bool.and_eq_true_iff.mp h
    have h1 := of_decide_eq_true h1
    have h2 := of_decide_eq_true h2
    obtain ⟨q, e1⟩ := rd_u1 e
    obtain ⟨q1, _⟩ := rd_u1 e1
    rw [h1] at q
    rw [h2] at q1
    exact dcD ((hF c pc _ q).trans (dcB q1)) (Nat.add_sub_cancel_left (n := pc) (m := 2))
  · cases h
theorem dcS1 {c : ByteArray} {pc o : Nat} {x : Int} {f : Int → Instr} (hF : dcF o (Reader.s1 >>= fun x => Pure.pure (f x))) (h : rdS1 c pc o x = true) : decode c pc = .ok (f x, 2) := by
  unfold rdS1 at h
  split at h
  · rename_i p a r e
    obtain ⟨h1, h2⟩ := Bool.and_eq_true_iff.mp h
    have h1 := of_decide_eq_true h1
    have h2 := of_decide_eq_true h2
    obtain ⟨q, e1⟩ := rd_u1 e
    obtain ⟨q1, _⟩ := rd_u1 e1
    rw [h1] at q
    have q2 : (Reader.s1 : Decoder Int) c (pc + 1) = .ok (x, pc + 2) := by
      have e : (Reader.s1 : Decoder Int) c (pc + 1) = ((Reader.u1 : Decoder Nat) c (pc + 1) >>= fun y => Pure.pure (Reader.signed 8 y.1, y.2)) := rfl
      rw [e, q1, ← h2]; rfl
    exact dcD ((hF c pc _ q).trans (dcB q2)) (Nat.add_sub_cancel_left (n := pc) (m := 2))
  · cases h
theorem rd_u2 {c : ByteArray} {k : Nat} {a b : UInt8} {r : List UInt8} (h : c.data.toList.drop k = a :: b :: r) : (Reader.u2 : Decoder Nat) c k = .ok (a.toNat * 256 + b.toNat, k + 2) := by
  obtain ⟨q1, e1⟩ := rd_u1 h
  obtain ⟨q2, _⟩ := rd_u1 e1
  have e : (Reader.u2 : Decoder Nat) c k = (Reader.u1 >>= fun hi => Reader.u1 >>= fun lo => Pure.pure (hi * 256 + lo) : Decoder Nat) c k := rfl
  rw [e, dcB q1, dcB q2]; rfl
theorem dcU2 {c : ByteArray} {pc o x : Nat} {f : Nat → Instr} (hF : dcF o (Reader.u2 >>= fun x => Pure.pure (f x))) (h : rdU2 c pc o x = true) : decode c pc = .ok (f x, 3) := by
  unfold rdU2 at h
  split at h
  · rename_i p a b r e
    obtain ⟨h1, h2⟩ := Bool.and_eq_true_iff.mp h
    have h1 := of_decide_eq_true h1
    have h2 := of_decide_eq_true h2
    obtain ⟨q, e1⟩ := rd_u1 e
    have q1 := rd_u2 e1
    rw [h1] at q
    rw [h2] at q1
    exact dcD ((hF c pc _ q).trans (dcB q1)) (Nat.add_sub_cancel_left (n := pc) (m := 3))
  · cases h
theorem dcS2 {c : ByteArray} {pc o : Nat} {x : Int} {f : Int → Instr} (hF : dcF o (Reader.s2 >>= fun x => Pure.pure (f x))) (h : rdS2 c pc o x = true) : decode c pc = .ok (f x, 3) := by
  unfold rdS2 at h
  split at h
  · rename_i p a b r e
    obtain ⟨h1, h2⟩ := Bool.and_eq_true_iff.mp h
    have h1 := of_decide_eq_true h1
    have h2 := of_decide_eq_true h2
    obtain ⟨q, e1⟩ := rd_u1 e
    have q1 := rd_u2 e1
    rw [h1] at q
    have q2 : (Reader.s2 : Decoder Int) c (pc + 1) = .ok (x, pc + 3) := by
      have e : (Reader.s2 : Decoder Int) c (pc + 1) = ((Reader.u2 : Decoder Nat) c (pc + 1) >>= fun y => Pure.pure (Reader.signed 16 y.1, y.2)) := rfl
      rw [e, q1, ← h2]; rfl
    exact dcD ((hF c pc _ q).trans (dcB q2)) (Nat.add_sub_cancel_left (n := pc) (m := 3))
  · cases h
theorem dcI {c : ByteArray} {pc o x : Nat} {y : Int} {f : Nat → Int → Instr} (hF : dcF o (Reader.u1 >>= fun x => Reader.s1 >>= fun y => Pure.pure (f x y))) (h : rdI c pc o x y = true) : decode c pc = .ok (f x y, 3) := by
  unfold rdI at h
  split at h
  · rename_i p a b r e
    obtain ⟨h0, h3⟩ := Bool.and_eq_true_iff.mp h
    obtain ⟨h1, h2⟩ := Bool.and_eq_true_iff.mp h0
    have h1 := of_decide_eq_true h1
    have h2 := of_decide_eq_true h2
    have h3 := of_decide_eq_true h3
    obtain ⟨q, e1⟩ := rd_u1 e
    obtain ⟨q1, e2⟩ := rd_u1 e1
    obtain ⟨q2, _⟩ := rd_u1 e2
    rw [h1] at q
    rw [h2] at q1
    have q3 : (Reader.s1 : Decoder Int) c (pc + 1 + 1) = .ok (y, pc + 3) := by
      have e : (Reader.s1 : Decoder Int) c (pc + 1 + 1) = ((Reader.u1 : Decoder Nat) c (pc + 1 + 1) >>= fun y => Pure.pure (Reader.signed 8 y.1, y.2)) := rfl
      rw [e, q2, ← h3]; rfl
    exact dcD ((hF c pc _ q).trans ((dcB q1).trans (dcB q3))) (Nat.add_sub_cancel_left (n := pc) (m := 3))
  · cases h
theorem dO_188 (c : ByteArray) (pc k : Nat) (h : (Reader.u1 : Decoder Nat) c pc = .ok (188, k)) : Decoder.instr pc c pc = Decoder.newarray pc c k := dcB h
theorem dcNA {c : ByteArray} {pc x : Nat} {i : Instr} (hN : ∀ k n, (Reader.u1 : Decoder Nat) c k = .ok (x, n) → (Decoder.newarray pc) c k = .ok (i, n)) (h : rdU1 c pc 188 x = true) : decode c pc = .ok (i, 2) := by
  unfold rdU1 at h
  split at h
  · rename_i p a r e
    obtain ⟨h1, h2⟩ := Bool.and_eq_true_iff.mp h
    have h1 := of_decide_eq_true h1
    have h2 := of_decide_eq_true h2
    obtain ⟨q, e1⟩ := rd_u1 e
    obtain ⟨q1, _⟩ := rd_u1 e1
    rw [h1] at q
    rw [h2] at q1
    exact dcD ((dO_188 c pc _ q).trans (hN _ _ q1)) (Nat.add_sub_cancel_left (n := pc) (m := 2))
  · cases h
/-! the same by a piece of the code -/
def rlB (L : List UInt8) (o : Nat) : Bool := match L with
  | p :: _ => p.toNat == o
  | _ => false
def rlU1 (L : List UInt8) (o x : Nat) : Bool := match L with
  | p :: a :: _ => p.toNat == o && a.toNat == x
  | _ => false
def rlU2 (L : List UInt8) (o x : Nat) : Bool := match L with
  | p :: a :: b :: _ => p.toNat == o && a.toNat * 256 + b.toNat == x
  | _ => false
def rlS1 (L : List UInt8) (o : Nat) (x : Int) : Bool := match L with
  | p :: a :: _ => p.toNat == o && Reader.signed 8 a.toNat == x
  | _ => false
def rlS2 (L : List UInt8) (o : Nat) (x : Int) : Bool := match L with
  | p :: a :: b :: _ => p.toNat == o && Reader.signed 16 (a.toNat * 256 + b.toNat) == x
  | _ => false
def rlI (L : List UInt8) (o x : Nat) (y : Int) : Bool := match L with
  | p :: a :: b :: _ => p.toNat == o && a.toNat == x && Reader.signed 8 b.toNat == y
  | _ => false
theorem rl_piece {c : ByteArray} {b m k pc : Nat} {L : List UInt8} (h : (c.data.toList.drop b).take m = L) (hp : pc = b + k) : L.drop k = (c.data.toList.drop pc).take (m - k) := by
  rw [← h, List.drop_take, List.drop_drop, hp]
theorem rdB.ch {c : ByteArray} {b m pc o : Nat} {L : List UInt8} (h : (c.data.toList.drop b).take m = L) (k : Nat) (hp : pc = b + k) (q : rlB (L.drop k) o = true) : rdB c pc o = true := by
  rw [rl_piece h hp] at q
  show rlB (c.data.toList.drop pc) o = true
  generalize c.data.toList.drop pc = Y at q ⊢
  generalize m - k = j at q
  match Y, j, q with
  | [], _, q => simp [rlB] at q
  | _ :: _, 0, q => simp [rlB] at q
  | _ :: _, _ + 1, q => exact q
theorem rdU1.ch {c : ByteArray} {b m pc : Nat} {o x : Nat} {L : List UInt8} (h : (c.data.toList.drop b).take m = L) (k : Nat) (hp : pc = b + k) (q : rlU1 (L.drop k) o x = true) : rdU1 c pc o x = true := by
  rw [rl_piece h hp] at q
  show rlU1 (c.data.toList.drop pc) o x = true
  generalize c.data.toList.drop pc = Y at q ⊢
  generalize m - k = j at q
  match Y, j, q with
  | [], _, q => simp [rlU1] at q
  | [_], 0, q => simp [rlU1] at q
  | [_], _ + 1, q => simp [rlU1] at q
  | _ :: _ :: _, 0, q => simp [rlU1] at q
  | _ :: _ :: _, 1, q => simp [rlU1] at q
  | _ :: _ :: _, _ + 2, q => exact q
theorem rdU2.ch {c : ByteArray} {b m pc : Nat} {o x : Nat} {L : List UInt8} (h : (c.data.toList.drop b).take m = L) (k : Nat) (hp : pc = b + k) (q : rlU2 (L.drop k) o x = true) : rdU2 c pc o x = true := by
  rw [rl_piece h hp] at q
  show rlU2 (c.data.toList.drop pc) o x = true
  generalize c.data.toList.drop pc = Y at q ⊢
  generalize m - k = j at q
  match Y, j, q with
  | [], _, q => simp [rlU2] at q
  | [_], 0, q => simp [rlU2] at q
  | [_], _ + 1, q => simp [rlU2] at q
  | [_, _], 0, q => simp [rlU2] at q
  | [_, _], 1, q => simp [rlU2] at q
  | [_, _], _ + 2, q => simp [rlU2] at q
  | _ :: _ :: _ :: _, 0, q => simp [rlU2] at q
  | _ :: _ :: _ :: _, 1, q => simp [rlU2] at q
  | _ :: _ :: _ :: _, 2, q => simp [rlU2] at q
  | _ :: _ :: _ :: _, _ + 3, q => exact q
theorem rdS1.ch {c : ByteArray} {b m pc : Nat} {o : Nat} {x : Int} {L : List UInt8} (h : (c.data.toList.drop b).take m = L) (k : Nat) (hp : pc = b + k) (q : rlS1 (L.drop k) o x = true) : rdS1 c pc o x = true := by
  rw [rl_piece h hp] at q
  show rlS1 (c.data.toList.drop pc) o x = true
  generalize c.data.toList.drop pc = Y at q ⊢
  generalize m - k = j at q
  match Y, j, q with
  | [], _, q => simp [rlS1] at q
  | [_], 0, q => simp [rlS1] at q
  | [_], _ + 1, q => simp [rlS1] at q
  | _ :: _ :: _, 0, q => simp [rlS1] at q
  | _ :: _ :: _, 1, q => simp [rlS1] at q
  | _ :: _ :: _, _ + 2, q => exact q
theorem rdS2.ch {c : ByteArray} {b m pc : Nat} {o : Nat} {x : Int} {L : List UInt8} (h : (c.data.toList.drop b).take m = L) (k : Nat) (hp : pc = b + k) (q : rlS2 (L.drop k) o x = true) : rdS2 c pc o x = true := by
  rw [rl_piece h hp] at q
  show rlS2 (c.data.toList.drop pc) o x = true
  generalize c.data.toList.drop pc = Y at q ⊢
  generalize m - k = j at q
  match Y, j, q with
  | [], _, q => simp [rlS2] at q
  | [_], 0, q => simp [rlS2] at q
  | [_], _ + 1, q => simp [rlS2] at q
  | [_, _], 0, q => simp [rlS2] at q
  | [_, _], 1, q => simp [rlS2] at q
  | [_, _], _ + 2, q => simp [rlS2] at q
  | _ :: _ :: _ :: _, 0, q => simp [rlS2] at q
  | _ :: _ :: _ :: _, 1, q => simp [rlS2] at q
  | _ :: _ :: _ :: _, 2, q => simp [rlS2] at q
  | _ :: _ :: _ :: _, _ + 3, q => exact q
theorem rdI.ch {c : ByteArray} {b m pc : Nat} {o x : Nat} {y : Int} {L : List UInt8} (h : (c.data.toList.drop b).take m = L) (k : Nat) (hp : pc = b + k) (q : rlI (L.drop k) o x y = true) : rdI c pc o x y = true := by
  rw [rl_piece h hp] at q
  show rlI (c.data.toList.drop pc) o x y = true
  generalize c.data.toList.drop pc = Y at q ⊢
  generalize m - k = j at q
  match Y, j, q with
  | [], _, q => simp [rlI] at q
  | [_], 0, q => simp [rlI] at q
  | [_], _ + 1, q => simp [rlI] at q
  | [_, _], 0, q => simp [rlI] at q
  | [_, _], 1, q => simp [rlI] at q
  | [_, _], _ + 2, q => simp [rlI] at q
  | _ :: _ :: _ :: _, 0, q => simp [rlI] at q
  | _ :: _ :: _ :: _, 1, q => simp [rlI] at q
  | _ :: _ :: _ :: _, 2, q => simp [rlI] at q
  | _ :: _ :: _ :: _, _ + 3, q => exact q
theorem dO_2 : dcF 2 (Pure.pure (Instr.iconst (-1))) := fun _ _ _ h => dcB h
theorem dO_3 : dcF 3 (Pure.pure (Instr.iconst 0)) := fun _ _ _ h => dcB h
theorem dO_4 : dcF 4 (Pure.pure (Instr.iconst 1)) := fun _ _ _ h => dcB h
theorem dO_5 : dcF 5 (Pure.pure (Instr.iconst 2)) := fun _ _ _ h => dcB h
theorem dO_6 : dcF 6 (Pure.pure (Instr.iconst 3)) := fun _ _ _ h => dcB h
theorem dO_7 : dcF 7 (Pure.pure (Instr.iconst 4)) := fun _ _ _ h => dcB h
theorem dO_8 : dcF 8 (Pure.pure (Instr.iconst 5)) := fun _ _ _ h => dcB h
theorem dO_9 : dcF 9 (Pure.pure (Instr.lconst 0)) := fun _ _ _ h => dcB h
theorem dO_10 : dcF 10 (Pure.pure (Instr.lconst 1)) := fun _ _ _ h => dcB h
theorem dO_26 : dcF 26 (Pure.pure (Instr.iload_n 0)) := fun _ _ _ h => dcB h
theorem dO_27 : dcF 27 (Pure.pure (Instr.iload_n 1)) := fun _ _ _ h => dcB h
theorem dO_28 : dcF 28 (Pure.pure (Instr.iload_n 2)) := fun _ _ _ h => dcB h
theorem dO_29 : dcF 29 (Pure.pure (Instr.iload_n 3)) := fun _ _ _ h => dcB h
theorem dO_30 : dcF 30 (Pure.pure (Instr.lload_n 0)) := fun _ _ _ h => dcB h
theorem dO_31 : dcF 31 (Pure.pure (Instr.lload_n 1)) := fun _ _ _ h => dcB h
theorem dO_32 : dcF 32 (Pure.pure (Instr.lload_n 2)) := fun _ _ _ h => dcB h
theorem dO_33 : dcF 33 (Pure.pure (Instr.lload_n 3)) := fun _ _ _ h => dcB h
theorem dO_42 : dcF 42 (Pure.pure (Instr.aload_n 0)) := fun _ _ _ h => dcB h
theorem dO_43 : dcF 43 (Pure.pure (Instr.aload_n 1)) := fun _ _ _ h => dcB h
theorem dO_44 : dcF 44 (Pure.pure (Instr.aload_n 2)) := fun _ _ _ h => dcB h
theorem dO_45 : dcF 45 (Pure.pure (Instr.aload_n 3)) := fun _ _ _ h => dcB h
theorem dO_46 : dcF 46 (Pure.pure Instr.iaload) := fun _ _ _ h => dcB h
theorem dO_47 : dcF 47 (Pure.pure Instr.laload) := fun _ _ _ h => dcB h
theorem dO_50 : dcF 50 (Pure.pure Instr.aaload) := fun _ _ _ h => dcB h
theorem dO_51 : dcF 51 (Pure.pure Instr.baload) := fun _ _ _ h => dcB h
theorem dO_59 : dcF 59 (Pure.pure (Instr.istore_n 0)) := fun _ _ _ h => dcB h
theorem dO_60 : dcF 60 (Pure.pure (Instr.istore_n 1)) := fun _ _ _ h => dcB h
theorem dO_61 : dcF 61 (Pure.pure (Instr.istore_n 2)) := fun _ _ _ h => dcB h
theorem dO_62 : dcF 62 (Pure.pure (Instr.istore_n 3)) := fun _ _ _ h => dcB h
theorem dO_65 : dcF 65 (Pure.pure (Instr.lstore_n 2)) := fun _ _ _ h => dcB h
theorem dO_66 : dcF 66 (Pure.pure (Instr.lstore_n 3)) := fun _ _ _ h => dcB h
theorem dO_76 : dcF 76 (Pure.pure (Instr.astore_n 1)) := fun _ _ _ h => dcB h
theorem dO_77 : dcF 77 (Pure.pure (Instr.astore_n 2)) := fun _ _ _ h => dcB h
theorem dO_78 : dcF 78 (Pure.pure (Instr.astore_n 3)) := fun _ _ _ h => dcB h
theorem dO_79 : dcF 79 (Pure.pure Instr.iastore) := fun _ _ _ h => dcB h
theorem dO_80 : dcF 80 (Pure.pure Instr.lastore) := fun _ _ _ h => dcB h
theorem dO_83 : dcF 83 (Pure.pure Instr.aastore) := fun _ _ _ h => dcB h
theorem dO_84 : dcF 84 (Pure.pure Instr.bastore) := fun _ _ _ h => dcB h
theorem dO_87 : dcF 87 (Pure.pure Instr.pop) := fun _ _ _ h => dcB h
theorem dO_88 : dcF 88 (Pure.pure Instr.pop2) := fun _ _ _ h => dcB h
theorem dO_89 : dcF 89 (Pure.pure Instr.dup) := fun _ _ _ h => dcB h
theorem dO_92 : dcF 92 (Pure.pure Instr.dup2) := fun _ _ _ h => dcB h
theorem dO_96 : dcF 96 (Pure.pure Instr.iadd) := fun _ _ _ h => dcB h
theorem dO_97 : dcF 97 (Pure.pure Instr.ladd) := fun _ _ _ h => dcB h
theorem dO_100 : dcF 100 (Pure.pure Instr.isub) := fun _ _ _ h => dcB h
theorem dO_101 : dcF 101 (Pure.pure Instr.lsub) := fun _ _ _ h => dcB h
theorem dO_104 : dcF 104 (Pure.pure Instr.imul) := fun _ _ _ h => dcB h
theorem dO_108 : dcF 108 (Pure.pure Instr.idiv) := fun _ _ _ h => dcB h
theorem dO_112 : dcF 112 (Pure.pure Instr.irem) := fun _ _ _ h => dcB h
theorem dO_116 : dcF 116 (Pure.pure Instr.ineg) := fun _ _ _ h => dcB h
theorem dO_120 : dcF 120 (Pure.pure Instr.ishl) := fun _ _ _ h => dcB h
theorem dO_121 : dcF 121 (Pure.pure Instr.lshl) := fun _ _ _ h => dcB h
theorem dO_122 : dcF 122 (Pure.pure Instr.ishr) := fun _ _ _ h => dcB h
theorem dO_123 : dcF 123 (Pure.pure Instr.lshr) := fun _ _ _ h => dcB h
theorem dO_124 : dcF 124 (Pure.pure Instr.iushr) := fun _ _ _ h => dcB h
theorem dO_125 : dcF 125 (Pure.pure Instr.lushr) := fun _ _ _ h => dcB h
theorem dO_126 : dcF 126 (Pure.pure Instr.iand) := fun _ _ _ h => dcB h
theorem dO_127 : dcF 127 (Pure.pure Instr.land) := fun _ _ _ h => dcB h
theorem dO_128 : dcF 128 (Pure.pure Instr.ior) := fun _ _ _ h => dcB h
theorem dO_129 : dcF 129 (Pure.pure Instr.lor) := fun _ _ _ h => dcB h
theorem dO_130 : dcF 130 (Pure.pure Instr.ixor) := fun _ _ _ h => dcB h
theorem dO_133 : dcF 133 (Pure.pure Instr.i2l) := fun _ _ _ h => dcB h
theorem dO_136 : dcF 136 (Pure.pure Instr.l2i) := fun _ _ _ h => dcB h
theorem dO_145 : dcF 145 (Pure.pure Instr.i2b) := fun _ _ _ h => dcB h
theorem dO_148 : dcF 148 (Pure.pure Instr.lcmp) := fun _ _ _ h => dcB h
theorem dO_172 : dcF 172 (Pure.pure Instr.ireturn) := fun _ _ _ h => dcB h
theorem dO_173 : dcF 173 (Pure.pure Instr.lreturn) := fun _ _ _ h => dcB h
theorem dO_176 : dcF 176 (Pure.pure Instr.areturn) := fun _ _ _ h => dcB h
theorem dO_177 : dcF 177 (Pure.pure Instr.return_) := fun _ _ _ h => dcB h
theorem dO_190 : dcF 190 (Pure.pure Instr.arraylength) := fun _ _ _ h => dcB h
theorem dO_18 : dcF 18 (Reader.u1 >>= fun x => Pure.pure (Instr.ldc x)) := fun _ _ _ h => dcB h
theorem dO_21 : dcF 21 (Reader.u1 >>= fun x => Pure.pure (Instr.iload x)) := fun _ _ _ h => dcB h
theorem dO_22 : dcF 22 (Reader.u1 >>= fun x => Pure.pure (Instr.lload x)) := fun _ _ _ h => dcB h
theorem dO_25 : dcF 25 (Reader.u1 >>= fun x => Pure.pure (Instr.aload x)) := fun _ _ _ h => dcB h
theorem dO_54 : dcF 54 (Reader.u1 >>= fun x => Pure.pure (Instr.istore x)) := fun _ _ _ h => dcB h
theorem dO_55 : dcF 55 (Reader.u1 >>= fun x => Pure.pure (Instr.lstore x)) := fun _ _ _ h => dcB h
theorem dO_58 : dcF 58 (Reader.u1 >>= fun x => Pure.pure (Instr.astore x)) := fun _ _ _ h => dcB h
theorem dO_19 : dcF 19 (Reader.u2 >>= fun x => Pure.pure (Instr.ldc_w x)) := fun _ _ _ h => dcB h
theorem dO_20 : dcF 20 (Reader.u2 >>= fun x => Pure.pure (Instr.ldc2_w x)) := fun _ _ _ h => dcB h
theorem dO_180 : dcF 180 (Reader.u2 >>= fun x => Pure.pure (Instr.getfield x)) := fun _ _ _ h => dcB h
theorem dO_181 : dcF 181 (Reader.u2 >>= fun x => Pure.pure (Instr.putfield x)) := fun _ _ _ h => dcB h
theorem dO_182 : dcF 182 (Reader.u2 >>= fun x => Pure.pure (Instr.invokevirtual x)) := fun _ _ _ h => dcB h
theorem dO_183 : dcF 183 (Reader.u2 >>= fun x => Pure.pure (Instr.invokespecial x)) := fun _ _ _ h => dcB h
theorem dO_184 : dcF 184 (Reader.u2 >>= fun x => Pure.pure (Instr.invokestatic x)) := fun _ _ _ h => dcB h
theorem dO_187 : dcF 187 (Reader.u2 >>= fun x => Pure.pure (Instr.new x)) := fun _ _ _ h => dcB h
theorem dO_189 : dcF 189 (Reader.u2 >>= fun x => Pure.pure (Instr.anewarray x)) := fun _ _ _ h => dcB h
theorem dO_192 : dcF 192 (Reader.u2 >>= fun x => Pure.pure (Instr.checkcast x)) := fun _ _ _ h => dcB h
theorem dO_16 : dcF 16 (Reader.s1 >>= fun x => Pure.pure (Instr.bipush x)) := fun _ _ _ h => dcB h
theorem dO_17 : dcF 17 (Reader.s2 >>= fun x => Pure.pure (Instr.sipush x)) := fun _ _ _ h => dcB h
theorem dO_153 : dcF 153 (Reader.s2 >>= fun x => Pure.pure ((Instr.ifCond .eq) x)) := fun _ _ _ h => dcB h
theorem dO_154 : dcF 154 (Reader.s2 >>= fun x => Pure.pure ((Instr.ifCond .ne) x)) := fun _ _ _ h => dcB h
theorem dO_155 : dcF 155 (Reader.s2 >>= fun x => Pure.pure ((Instr.ifCond .lt) x)) := fun _ _ _ h => dcB h
theorem dO_156 : dcF 156 (Reader.s2 >>= fun x => Pure.pure ((Instr.ifCond .ge) x)) := fun _ _ _ h => dcB h
theorem dO_158 : dcF 158 (Reader.s2 >>= fun x => Pure.pure ((Instr.ifCond .le) x)) := fun _ _ _ h => dcB h
theorem dO_159 : dcF 159 (Reader.s2 >>= fun x => Pure.pure ((Instr.if_icmp .eq) x)) := fun _ _ _ h => dcB h
theorem dO_160 : dcF 160 (Reader.s2 >>= fun x => Pure.pure ((Instr.if_icmp .ne) x)) := fun _ _ _ h => dcB h
theorem dO_161 : dcF 161 (Reader.s2 >>= fun x => Pure.pure ((Instr.if_icmp .lt) x)) := fun _ _ _ h => dcB h
theorem dO_162 : dcF 162 (Reader.s2 >>= fun x => Pure.pure ((Instr.if_icmp .ge) x)) := fun _ _ _ h => dcB h
theorem dO_163 : dcF 163 (Reader.s2 >>= fun x => Pure.pure ((Instr.if_icmp .gt) x)) := fun _ _ _ h => dcB h
theorem dO_164 : dcF 164 (Reader.s2 >>= fun x => Pure.pure ((Instr.if_icmp .le) x)) := fun _ _ _ h => dcB h
theorem dO_167 : dcF 167 (Reader.s2 >>= fun x => Pure.pure (Instr.goto x)) := fun _ _ _ h => dcB h
theorem dO_132 : dcF 132 (Reader.u1 >>= fun x => Reader.s1 >>= fun y => Pure.pure (Instr.iinc x y)) := fun _ _ _ h => dcB h
theorem dN_4 {c : ByteArray} {pc : Nat} (h : rdU1 c pc 188 4 = true) : decode c pc = .ok (.newarray .boolean, 2) := dcNA (fun _ _ h => dcB h) h
theorem dN_8 {c : ByteArray} {pc : Nat} (h : rdU1 c pc 188 8 = true) : decode c pc = .ok (.newarray .byte, 2) := dcNA (fun _ _ h => dcB h) h
theorem dN_10 {c : ByteArray} {pc : Nat} (h : rdU1 c pc 188 10 = true) : decode c pc = .ok (.newarray .int, 2) := dcNA (fun _ _ h => dcB h) h
theorem dN_11 {c : ByteArray} {pc : Nat} (h : rdU1 c pc 188 11 = true) : decode c pc = .ok (.newarray .long, 2) := dcNA (fun _ _ h => dcB h) h
end
section
theorem dX12_addMark_0 : decode cX12_addMark 0 = .ok (.aload_n 0, 1) := dc0 dO_42 (by decide +kernel)
theorem dX12_addMark_1 : decode cX12_addMark 1 = .ok (.getfield 148, 3) := dcU2 dO_180 (by decide +kernel)
theorem dX12_addMark_4 : decode cX12_addMark 4 = .ok (.bipush 40, 2) := dcS1 dO_16 (by decide +kernel)
theorem dX12_addMark_6 : decode cX12_addMark 6 = .ok (.iload_n 1, 1) := dc0 dO_27 (by decide +kernel)
theorem dX12_addMark_7 : decode cX12_addMark 7 = .ok (.imul, 1) := dc0 dO_104 (by decide +kernel)
theorem dX12_addMark_8 : decode cX12_addMark 8 = .ok (.iconst 5, 1) := dc0 dO_8 (by decide +kernel)
theorem dX12_addMark_9 : decode cX12_addMark 9 = .ok (.iadd, 1) := dc0 dO_96 (by decide +kernel)
theorem dX12_addMark_10 : decode cX12_addMark 10 = .ok (.iaload, 1) := dc0 dO_46 (by decide +kernel)
theorem dX12_addMark_11 : decode cX12_addMark 11 = .ok (.istore_n 3, 1) := dc0 dO_62 (by decide +kernel)
theorem dX12_addMark_12 : decode cX12_addMark 12 = .ok (.iload_n 3, 1) := dc0 dO_29 (by decide +kernel)
theorem dX12_addMark_13 : decode cX12_addMark 13 = .ok (.bipush 8, 2) := dcS1 dO_16 (by decide +kernel)
theorem dX12_addMark_15 : decode cX12_addMark 15 = .ok (.if_icmp .eq 12, 3) := dcS2 dO_159 (by decide +kernel)
theorem dX12_addMark_18 : decode cX12_addMark 18 = .ok (.aload_n 0, 1) := dc0 dO_42 (by decide +kernel)
theorem dX12_addMark_19 : decode cX12_addMark 19 = .ok (.iload_n 1, 1) := dc0 dO_27 (by decide +kernel)
theorem dX12_addMark_20 : decode cX12_addMark 20 = .ok (.iload_n 2, 1) := dc0 dO_28 (by decide +kernel)
theorem dX12_addMark_21 : decode cX12_addMark 21 = .ok (.invokevirtual 154, 3) := dcU2 dO_182 (by decide +kernel)
theorem dX12_addMark_24 : decode cX12_addMark 24 = .ok (.ifCond .eq 4, 3) := dcS2 dO_153 (by decide +kernel)
theorem dX12_addMark_27 : decode cX12_addMark 27 = .ok (.return_, 1) := dc0 dO_177 (by decide +kernel)
theorem dX12_addMark_28 : decode cX12_addMark 28 = .ok (.bipush 40, 2) := dcS1 dO_16 (by decide +kernel)
theorem dX12_addMark_30 : decode cX12_addMark 30 = .ok (.iload_n 1, 1) := dc0 dO_27 (by decide +kernel)
theorem dX12_addMark_31 : decode cX12_addMark 31 = .ok (.imul, 1) := dc0 dO_104 (by decide +kernel)
theorem dX12_addMark_32 : decode cX12_addMark 32 = .ok (.bipush 26, 2) := dcS1 dO_16 (by decide +kernel)
theorem dX12_addMark_34 : decode cX12_addMark 34 = .ok (.iadd, 1) := dc0 dO_96 (by decide +kernel)
theorem dX12_addMark_35 : decode cX12_addMark 35 = .ok (.iload_n 3, 1) := dc0 dO_29 (by decide +kernel)
theorem dX12_addMark_36 : decode cX12_addMark 36 = .ok (.iadd, 1) := dc0 dO_96 (by decide +kernel)
theorem dX12_addMark_37 : decode cX12_addMark 37 = .ok (.istore 4, 2) := dcU1 dO_54 (by decide +kernel)
theorem dX12_addMark_39 : decode cX12_addMark 39 = .ok (.iload 4, 2) := dcU1 dO_21 (by decide +kernel)
theorem dX12_addMark_41 : decode cX12_addMark 41 = .ok (.bipush 40, 2) := dcS1 dO_16 (by decide +kernel)
theorem dX12_addMark_43 : decode cX12_addMark 43 = .ok (.iload_n 1, 1) := dc0 dO_27 (by decide +kernel)
theorem dX12_addMark_44 : decode cX12_addMark 44 = .ok (.imul, 1) := dc0 dO_104 (by decide +kernel)
theorem dX12_addMark_45 : decode cX12_addMark 45 = .ok (.bipush 26, 2) := dcS1 dO_16 (by decide +kernel)
theorem dX12_addMark_47 : decode cX12_addMark 47 = .ok (.iadd, 1) := dc0 dO_96 (by decide +kernel)
theorem dX12_addMark_48 : decode cX12_addMark 48 = .ok (.if_icmp .le 38, 3) := dcS2 dO_164 (by decide +kernel)
theorem dX12_addMark_51 : decode cX12_addMark 51 = .ok (.aload_n 0, 1) := dc0 dO_42 (by decide +kernel)
theorem dX12_addMark_52 : decode cX12_addMark 52 = .ok (.getfield 148, 3) := dcU2 dO_180 (by decide +kernel)
theorem dX12_addMark_55 : decode cX12_addMark 55 = .ok (.iload 4, 2) := dcU1 dO_21 (by decide +kernel)
theorem dX12_addMark_57 : decode cX12_addMark 57 = .ok (.iconst 1, 1) := dc0 dO_4 (by decide +kernel)
theorem dX12_addMark_58 : decode cX12_addMark 58 = .ok (.isub, 1) := dc0 dO_100 (by decide +kernel)
theorem dX12_addMark_59 : decode cX12_addMark 59 = .ok (.iaload, 1) := dc0 dO_46 (by decide +kernel)
theorem dX12_addMark_60 : decode cX12_addMark 60 = .ok (.iload_n 2, 1) := dc0 dO_28 (by decide +kernel)
theorem dX12_addMark_61 : decode cX12_addMark 61 = .ok (.if_icmp .le 25, 3) := dcS2 dO_164 (by decide +kernel)
theorem dX12_addMark_64 : decode cX12_addMark 64 = .ok (.aload_n 0, 1) := dc0 dO_42 (by decide +kernel)
theorem dX12_addMark_65 : decode cX12_addMark 65 = .ok (.getfield 148, 3) := dcU2 dO_180 (by decide +kernel)
theorem dX12_addMark_68 : decode cX12_addMark 68 = .ok (.iload 4, 2) := dcU1 dO_21 (by decide +kernel)
theorem dX12_addMark_70 : decode cX12_addMark 70 = .ok (.aload_n 0, 1) := dc0 dO_42 (by decide +kernel)
theorem dX12_addMark_71 : decode cX12_addMark 71 = .ok (.getfield 148, 3) := dcU2 dO_180 (by decide +kernel)
theorem dX12_addMark_74 : decode cX12_addMark 74 = .ok (.iload 4, 2) := dcU1 dO_21 (by decide +kernel)
theorem dX12_addMark_76 : decode cX12_addMark 76 = .ok (.iconst 1, 1) := dc0 dO_4 (by decide +kernel)
theorem dX12_addMark_77 : decode cX12_addMark 77 = .ok (.isub, 1) := dc0 dO_100 (by decide +kernel)
theorem dX12_addMark_78 : decode cX12_addMark 78 = .ok (.iaload, 1) := dc0 dO_46 (by decide +kernel)
theorem dX12_addMark_79 : decode cX12_addMark 79 = .ok (.iastore, 1) := dc0 dO_79 (by decide +kernel)
theorem dX12_addMark_80 : decode cX12_addMark 80 = .ok (.iinc 4 (-1), 3) := dcI dO_132 (by decide +kernel)
theorem dX12_addMark_83 : decode cX12_addMark 83 = .ok (.goto (-44), 3) := dcS2 dO_167 (by decide +kernel)
theorem dX12_addMark_86 : decode cX12_addMark 86 = .ok (.aload_n 0, 1) := dc0 dO_42 (by decide +kernel)
theorem dX12_addMark_87 : decode cX12_addMark 87 = .ok (.getfield 148, 3) := dcU2 dO_180 (by decide +kernel)
theorem dX12_addMark_90 : decode cX12_addMark 90 = .ok (.iload 4, 2) := dcU1 dO_21 (by decide +kernel)
theorem dX12_addMark_92 : decode cX12_addMark 92 = .ok (.iload_n 2, 1) := dc0 dO_28 (by decide +kernel)
theorem dX12_addMark_93 : decode cX12_addMark 93 = .ok (.iastore, 1) := dc0 dO_79 (by decide +kernel)
theorem dX12_addMark_94 : decode cX12_addMark 94 = .ok (.aload_n 0, 1) := dc0 dO_42 (by decide +kernel)
theorem dX12_addMark_95 : decode cX12_addMark 95 = .ok (.getfield 148, 3) := dcU2 dO_180 (by decide +kernel)
theorem dX12_addMark_98 : decode cX12_addMark 98 = .ok (.bipush 40, 2) := dcS1 dO_16 (by decide +kernel)
theorem dX12_addMark_100 : decode cX12_addMark 100 = .ok (.iload_n 1, 1) := dc0 dO_27 (by decide +kernel)
theorem dX12_addMark_101 : decode cX12_addMark 101 = .ok (.imul, 1) := dc0 dO_104 (by decide +kernel)
theorem dX12_addMark_102 : decode cX12_addMark 102 = .ok (.iconst 5, 1) := dc0 dO_8 (by decide +kernel)
theorem dX12_addMark_103 : decode cX12_addMark 103 = .ok (.iadd, 1) := dc0 dO_96 (by decide +kernel)
theorem dX12_addMark_104 : decode cX12_addMark 104 = .ok (.dup2, 1) := dc0 dO_92 (by decide +kernel)
theorem dX12_addMark_105 : decode cX12_addMark 105 = .ok (.iaload, 1) := dc0 dO_46 (by decide +kernel)
theorem dX12_addMark_106 : decode cX12_addMark 106 = .ok (.iconst 1, 1) := dc0 dO_4 (by decide +kernel)
theorem dX12_addMark_107 : decode cX12_addMark 107 = .ok (.iadd, 1) := dc0 dO_96 (by decide +kernel)
theorem dX12_addMark_108 : decode cX12_addMark 108 = .ok (.iastore, 1) := dc0 dO_79 (by decide +kernel)
theorem dX12_addMark_109 : decode cX12_addMark 109 = .ok (.return_, 1) := dc0 dO_177 (by decide +kernel)
theorem dX12_copy_0 : decode cX12_copy 0 = .ok (.iconst 0, 1) := dc0 dO_3 (by decide +kernel)
theorem dX12_copy_1 : decode cX12_copy 1 = .ok (.istore_n 3, 1) := dc0 dO_62 (by decide +kernel)
theorem dX12_copy_2 : decode cX12_copy 2 = .ok (.iload_n 3, 1) := dc0 dO_29 (by decide +kernel)
theorem dX12_copy_3 : decode cX12_copy 3 = .ok (.bipush 40, 2) := dcS1 dO_16 (by decide +kernel)
theorem dX12_copy_5 : decode cX12_copy 5 = .ok (.if_icmp .ge 31, 3) := dcS2 dO_162 (by decide +kernel)
theorem dX12_copy_8 : decode cX12_copy 8 = .ok (.aload_n 0, 1) := dc0 dO_42 (by decide +kernel)
theorem dX12_copy_9 : decode cX12_copy 9 = .ok (.getfield 148, 3) := dcU2 dO_180 (by decide +kernel)
theorem dX12_copy_12 : decode cX12_copy 12 = .ok (.bipush 40, 2) := dcS1 dO_16 (by decide +kernel)
theorem dX12_copy_14 : decode cX12_copy 14 = .ok (.iload_n 2, 1) := dc0 dO_28 (by decide +kernel)
theorem dX12_copy_15 : decode cX12_copy 15 = .ok (.imul, 1) := dc0 dO_104 (by decide +kernel)
theorem dX12_copy_16 : decode cX12_copy 16 = .ok (.iload_n 3, 1) := dc0 dO_29 (by decide +kernel)
theorem dX12_copy_17 : decode cX12_copy 17 = .ok (.iadd, 1) := dc0 dO_96 (by decide +kernel)
theorem dX12_copy_18 : decode cX12_copy 18 = .ok (.aload_n 0, 1) := dc0 dO_42 (by decide +kernel)
theorem dX12_copy_19 : decode cX12_copy 19 = .ok (.getfield 148, 3) := dcU2 dO_180 (by decide +kernel)
theorem dX12_copy_22 : decode cX12_copy 22 = .ok (.bipush 40, 2) := dcS1 dO_16 (by decide +kernel)
theorem dX12_copy_24 : decode cX12_copy 24 = .ok (.iload_n 1, 1) := dc0 dO_27 (by decide +kernel)
theorem dX12_copy_25 : decode cX12_copy 25 = .ok (.imul, 1) := dc0 dO_104 (by decide +kernel)
theorem dX12_copy_26 : decode cX12_copy 26 = .ok (.iload_n 3, 1) := dc0 dO_29 (by decide +kernel)
theorem dX12_copy_27 : decode cX12_copy 27 = .ok (.iadd, 1) := dc0 dO_96 (by decide +kernel)
theorem dX12_copy_28 : decode cX12_copy 28 = .ok (.iaload, 1) := dc0 dO_46 (by decide +kernel)
theorem dX12_copy_29 : decode cX12_copy 29 = .ok (.iastore, 1) := dc0 dO_79 (by decide +kernel)
theorem dX12_copy_30 : decode cX12_copy 30 = .ok (.iinc 3 1, 3) := dcI dO_132 (by decide +kernel)
theorem dX12_copy_33 : decode cX12_copy 33 = .ok (.goto (-31), 3) := dcS2 dO_167 (by decide +kernel)
theorem dX12_copy_36 : decode cX12_copy 36 = .ok (.return_, 1) := dc0 dO_177 (by decide +kernel)
theorem dX12_cut_0 : decode cX12_cut 0 = .ok (.iload_n 1, 1) := dc0 dO_27 (by decide +kernel)
theorem dX12_cut_1 : decode cX12_cut 1 = .ok (.ifCond .lt 11, 3) := dcS2 dO_155 (by decide +kernel)
theorem dX12_cut_4 : decode cX12_cut 4 = .ok (.iload_n 1, 1) := dc0 dO_27 (by decide +kernel)
theorem dX12_cut_5 : decode cX12_cut 5 = .ok (.aload_n 0, 1) := dc0 dO_42 (by decide +kernel)
theorem dX12_cut_6 : decode cX12_cut 6 = .ok (.getfield 1, 3) := dcU2 dO_180 (by decide +kernel)
theorem dX12_cut_9 : decode cX12_cut 9 = .ok (.if_icmp .le 5, 3) := dcS2 dO_164 (by decide +kernel)
theorem dX12_cut_12 : decode cX12_cut 12 = .ok (.iconst (-1), 1) := dc0 dO_2 (by decide +kernel)
theorem dX12_cut_13 : decode cX12_cut 13 = .ok (.ireturn, 1) := dc0 dO_172 (by decide +kernel)
theorem dX12_cut_14 : decode cX12_cut 14 = .ok (.aload_n 0, 1) := dc0 dO_42 (by decide +kernel)
theorem dX12_cut_15 : decode cX12_cut 15 = .ok (.getfield 1, 3) := dcU2 dO_180 (by decide +kernel)
theorem dX12_cut_18 : decode cX12_cut 18 = .ok (.istore_n 2, 1) := dc0 dO_61 (by decide +kernel)
theorem dX12_cut_19 : decode cX12_cut 19 = .ok (.aload_n 0, 1) := dc0 dO_42 (by decide +kernel)
theorem dX12_cut_20 : decode cX12_cut 20 = .ok (.iload_n 1, 1) := dc0 dO_27 (by decide +kernel)
theorem dX12_cut_21 : decode cX12_cut 21 = .ok (.putfield 1, 3) := dcU2 dO_181 (by decide +kernel)
theorem dX12_cut_24 : decode cX12_cut 24 = .ok (.iload_n 2, 1) := dc0 dO_28 (by decide +kernel)
theorem dX12_cut_25 : decode cX12_cut 25 = .ok (.ireturn, 1) := dc0 dO_172 (by decide +kernel)
theorem dX12_domain_0 : decode cX12_domain 0 = .ok (.aload_n 0, 1) := dc0 dO_42 (by decide +kernel)
theorem dX12_domain_1 : decode cX12_domain 1 = .ok (.getfield 34, 3) := dcU2 dO_180 (by decide +kernel)
theorem dX12_domain_4 : decode cX12_domain 4 = .ok (.bipush 10, 2) := dcS1 dO_16 (by decide +kernel)
theorem dX12_domain_6 : decode cX12_domain 6 = .ok (.if_icmp .ne 6, 3) := dcS2 dO_160 (by decide +kernel)
theorem dX12_domain_9 : decode cX12_domain 9 = .ok (.bipush (-3), 2) := dcS1 dO_16 (by decide +kernel)
theorem dX12_domain_11 : decode cX12_domain 11 = .ok (.ireturn, 1) := dc0 dO_172 (by decide +kernel)
theorem dX12_domain_12 : decode cX12_domain 12 = .ok (.aload_n 0, 1) := dc0 dO_42 (by decide +kernel)
theorem dX12_domain_13 : decode cX12_domain 13 = .ok (.dup, 1) := dc0 dO_89 (by decide +kernel)
theorem dX12_domain_14 : decode cX12_domain 14 = .ok (.getfield 34, 3) := dcU2 dO_180 (by decide +kernel)
theorem dX12_domain_17 : decode cX12_domain 17 = .ok (.iconst 1, 1) := dc0 dO_4 (by decide +kernel)
theorem dX12_domain_18 : decode cX12_domain 18 = .ok (.iadd, 1) := dc0 dO_96 (by decide +kernel)
theorem dX12_domain_19 : decode cX12_domain 19 = .ok (.putfield 34, 3) := dcU2 dO_181 (by decide +kernel)
theorem dX12_domain_22 : decode cX12_domain 22 = .ok (.aload_n 0, 1) := dc0 dO_42 (by decide +kernel)
theorem dX12_domain_23 : decode cX12_domain 23 = .ok (.getfield 34, 3) := dcU2 dO_180 (by decide +kernel)
theorem dX12_domain_26 : decode cX12_domain 26 = .ok (.iconst 1, 1) := dc0 dO_4 (by decide +kernel)
theorem dX12_domain_27 : decode cX12_domain 27 = .ok (.isub, 1) := dc0 dO_100 (by decide +kernel)
theorem dX12_domain_28 : decode cX12_domain 28 = .ok (.ireturn, 1) := dc0 dO_172 (by decide +kernel)
theorem dX12_dropMark_0 : decode cX12_dropMark 0 = .ok (.aload_n 0, 1) := dc0 dO_42 (by decide +kernel)
theorem dX12_dropMark_1 : decode cX12_dropMark 1 = .ok (.iload_n 1, 1) := dc0 dO_27 (by decide +kernel)
theorem dX12_dropMark_2 : decode cX12_dropMark 2 = .ok (.iload_n 2, 1) := dc0 dO_28 (by decide +kernel)
theorem dX12_dropMark_3 : decode cX12_dropMark 3 = .ok (.invokevirtual 154, 3) := dcU2 dO_182 (by decide +kernel)
theorem dX12_dropMark_6 : decode cX12_dropMark 6 = .ok (.ifCond .ne 4, 3) := dcS2 dO_154 (by decide +kernel)
theorem dX12_dropMark_9 : decode cX12_dropMark 9 = .ok (.return_, 1) := dc0 dO_177 (by decide +kernel)
theorem dX12_dropMark_10 : decode cX12_dropMark 10 = .ok (.iconst 0, 1) := dc0 dO_3 (by decide +kernel)
theorem dX12_dropMark_11 : decode cX12_dropMark 11 = .ok (.istore_n 3, 1) := dc0 dO_62 (by decide +kernel)
theorem dX12_dropMark_12 : decode cX12_dropMark 12 = .ok (.iconst 0, 1) := dc0 dO_3 (by decide +kernel)
theorem dX12_dropMark_13 : decode cX12_dropMark 13 = .ok (.istore 4, 2) := dcU1 dO_54 (by decide +kernel)
theorem dX12_dropMark_15 : decode cX12_dropMark 15 = .ok (.iload 4, 2) := dcU1 dO_21 (by decide +kernel)
theorem dX12_dropMark_17 : decode cX12_dropMark 17 = .ok (.aload_n 0, 1) := dc0 dO_42 (by decide +kernel)
theorem dX12_dropMark_18 : decode cX12_dropMark 18 = .ok (.getfield 148, 3) := dcU2 dO_180 (by decide +kernel)
theorem dX12_dropMark_21 : decode cX12_dropMark 21 = .ok (.bipush 40, 2) := dcS1 dO_16 (by decide +kernel)
theorem dX12_dropMark_23 : decode cX12_dropMark 23 = .ok (.iload_n 1, 1) := dc0 dO_27 (by decide +kernel)
theorem dX12_dropMark_24 : decode cX12_dropMark 24 = .ok (.imul, 1) := dc0 dO_104 (by decide +kernel)
theorem dX12_dropMark_25 : decode cX12_dropMark 25 = .ok (.iconst 5, 1) := dc0 dO_8 (by decide +kernel)
theorem dX12_dropMark_26 : decode cX12_dropMark 26 = .ok (.iadd, 1) := dc0 dO_96 (by decide +kernel)
theorem dX12_dropMark_27 : decode cX12_dropMark 27 = .ok (.iaload, 1) := dc0 dO_46 (by decide +kernel)
theorem dX12_dropMark_28 : decode cX12_dropMark 28 = .ok (.if_icmp .ge 51, 3) := dcS2 dO_162 (by decide +kernel)
theorem dX12_dropMark_31 : decode cX12_dropMark 31 = .ok (.aload_n 0, 1) := dc0 dO_42 (by decide +kernel)
theorem dX12_dropMark_32 : decode cX12_dropMark 32 = .ok (.getfield 148, 3) := dcU2 dO_180 (by decide +kernel)
theorem dX12_dropMark_35 : decode cX12_dropMark 35 = .ok (.bipush 40, 2) := dcS1 dO_16 (by decide +kernel)
theorem dX12_dropMark_37 : decode cX12_dropMark 37 = .ok (.iload_n 1, 1) := dc0 dO_27 (by decide +kernel)
theorem dX12_dropMark_38 : decode cX12_dropMark 38 = .ok (.imul, 1) := dc0 dO_104 (by decide +kernel)
theorem dX12_dropMark_39 : decode cX12_dropMark 39 = .ok (.bipush 26, 2) := dcS1 dO_16 (by decide +kernel)
theorem dX12_dropMark_41 : decode cX12_dropMark 41 = .ok (.iadd, 1) := dc0 dO_96 (by decide +kernel)
theorem dX12_dropMark_42 : decode cX12_dropMark 42 = .ok (.iload 4, 2) := dcU1 dO_21 (by decide +kernel)
theorem dX12_dropMark_44 : decode cX12_dropMark 44 = .ok (.iadd, 1) := dc0 dO_96 (by decide +kernel)
theorem dX12_dropMark_45 : decode cX12_dropMark 45 = .ok (.iaload, 1) := dc0 dO_46 (by decide +kernel)
theorem dX12_dropMark_46 : decode cX12_dropMark 46 = .ok (.istore 5, 2) := dcU1 dO_54 (by decide +kernel)
theorem dX12_dropMark_48 : decode cX12_dropMark 48 = .ok (.iload 5, 2) := dcU1 dO_21 (by decide +kernel)
theorem dX12_dropMark_50 : decode cX12_dropMark 50 = .ok (.iload_n 2, 1) := dc0 dO_28 (by decide +kernel)
theorem dX12_dropMark_51 : decode cX12_dropMark 51 = .ok (.if_icmp .eq 22, 3) := dcS2 dO_159 (by decide +kernel)
theorem dX12_dropMark_54 : decode cX12_dropMark 54 = .ok (.aload_n 0, 1) := dc0 dO_42 (by decide +kernel)
theorem dX12_dropMark_55 : decode cX12_dropMark 55 = .ok (.getfield 148, 3) := dcU2 dO_180 (by decide +kernel)
theorem dX12_dropMark_58 : decode cX12_dropMark 58 = .ok (.bipush 40, 2) := dcS1 dO_16 (by decide +kernel)
theorem dX12_dropMark_60 : decode cX12_dropMark 60 = .ok (.iload_n 1, 1) := dc0 dO_27 (by decide +kernel)
theorem dX12_dropMark_61 : decode cX12_dropMark 61 = .ok (.imul, 1) := dc0 dO_104 (by decide +kernel)
theorem dX12_dropMark_62 : decode cX12_dropMark 62 = .ok (.bipush 26, 2) := dcS1 dO_16 (by decide +kernel)
theorem dX12_dropMark_64 : decode cX12_dropMark 64 = .ok (.iadd, 1) := dc0 dO_96 (by decide +kernel)
theorem dX12_dropMark_65 : decode cX12_dropMark 65 = .ok (.iload_n 3, 1) := dc0 dO_29 (by decide +kernel)
theorem dX12_dropMark_66 : decode cX12_dropMark 66 = .ok (.iadd, 1) := dc0 dO_96 (by decide +kernel)
theorem dX12_dropMark_67 : decode cX12_dropMark 67 = .ok (.iload 5, 2) := dcU1 dO_21 (by decide +kernel)
theorem dX12_dropMark_69 : decode cX12_dropMark 69 = .ok (.iastore, 1) := dc0 dO_79 (by decide +kernel)
theorem dX12_dropMark_70 : decode cX12_dropMark 70 = .ok (.iinc 3 1, 3) := dcI dO_132 (by decide +kernel)
theorem dX12_dropMark_73 : decode cX12_dropMark 73 = .ok (.iinc 4 1, 3) := dcI dO_132 (by decide +kernel)
theorem dX12_dropMark_76 : decode cX12_dropMark 76 = .ok (.goto (-61), 3) := dcS2 dO_167 (by decide +kernel)
theorem dX12_dropMark_79 : decode cX12_dropMark 79 = .ok (.aload_n 0, 1) := dc0 dO_42 (by decide +kernel)
theorem dX12_dropMark_80 : decode cX12_dropMark 80 = .ok (.getfield 148, 3) := dcU2 dO_180 (by decide +kernel)
theorem dX12_dropMark_83 : decode cX12_dropMark 83 = .ok (.bipush 40, 2) := dcS1 dO_16 (by decide +kernel)
theorem dX12_dropMark_85 : decode cX12_dropMark 85 = .ok (.iload_n 1, 1) := dc0 dO_27 (by decide +kernel)
theorem dX12_dropMark_86 : decode cX12_dropMark 86 = .ok (.imul, 1) := dc0 dO_104 (by decide +kernel)
theorem dX12_dropMark_87 : decode cX12_dropMark 87 = .ok (.iconst 5, 1) := dc0 dO_8 (by decide +kernel)
theorem dX12_dropMark_88 : decode cX12_dropMark 88 = .ok (.iadd, 1) := dc0 dO_96 (by decide +kernel)
theorem dX12_dropMark_89 : decode cX12_dropMark 89 = .ok (.iload_n 3, 1) := dc0 dO_29 (by decide +kernel)
theorem dX12_dropMark_90 : decode cX12_dropMark 90 = .ok (.iastore, 1) := dc0 dO_79 (by decide +kernel)
theorem dX12_dropMark_91 : decode cX12_dropMark 91 = .ok (.return_, 1) := dc0 dO_177 (by decide +kernel)
theorem dX12_feed_0 : decode cX12_feed 0 = .ok (.aload_n 0, 1) := dc0 dO_42 (by decide +kernel)
theorem dX12_feed_1 : decode cX12_feed 1 = .ok (.getfield 1, 3) := dcU2 dO_180 (by decide +kernel)
theorem dX12_feed_4 : decode cX12_feed 4 = .ok (.bipush 20, 2) := dcS1 dO_16 (by decide +kernel)
theorem dX12_feed_6 : decode cX12_feed 6 = .ok (.iadd, 1) := dc0 dO_96 (by decide +kernel)
theorem dX12_feed_7 : decode cX12_feed 7 = .ok (.sipush 1000, 3) := dcS2 dO_17 (by decide +kernel)
theorem dX12_feed_10 : decode cX12_feed 10 = .ok (.if_icmp .le 6, 3) := dcS2 dO_164 (by decide +kernel)
theorem dX12_feed_13 : decode cX12_feed 13 = .ok (.bipush (-3), 2) := dcS1 dO_16 (by decide +kernel)
theorem dX12_feed_15 : decode cX12_feed 15 = .ok (.ireturn, 1) := dc0 dO_172 (by decide +kernel)
theorem dX12_feed_16 : decode cX12_feed 16 = .ok (.iconst 0, 1) := dc0 dO_3 (by decide +kernel)
theorem dX12_feed_17 : decode cX12_feed 17 = .ok (.istore 6, 2) := dcU1 dO_54 (by decide +kernel)
theorem dX12_feed_19 : decode cX12_feed 19 = .ok (.iload 6, 2) := dcU1 dO_21 (by decide +kernel)
theorem dX12_feed_21 : decode cX12_feed 21 = .ok (.bipush 20, 2) := dcS1 dO_16 (by decide +kernel)
theorem dX12_feed_23 : decode cX12_feed 23 = .ok (.if_icmp .ge 83, 3) := dcS2 dO_162 (by decide +kernel)
theorem dX12_feed_26 : decode cX12_feed 26 = .ok (.iload 6, 2) := dcU1 dO_21 (by decide +kernel)
theorem dX12_feed_28 : decode cX12_feed 28 = .ok (.iconst 4, 1) := dc0 dO_7 (by decide +kernel)
theorem dX12_feed_29 : decode cX12_feed 29 = .ok (.if_icmp .ge 7, 3) := dcS2 dO_162 (by decide +kernel)
theorem dX12_feed_32 : decode cX12_feed 32 = .ok (.iload_n 1, 1) := dc0 dO_27 (by decide +kernel)
theorem dX12_feed_33 : decode cX12_feed 33 = .ok (.goto 39, 3) := dcS2 dO_167 (by decide +kernel)
theorem dX12_feed_36 : decode cX12_feed 36 = .ok (.iload 6, 2) := dcU1 dO_21 (by decide +kernel)
theorem dX12_feed_38 : decode cX12_feed 38 = .ok (.bipush 8, 2) := dcS1 dO_16 (by decide +kernel)
theorem dX12_feed_40 : decode cX12_feed 40 = .ok (.if_icmp .ge 7, 3) := dcS2 dO_162 (by decide +kernel)
theorem dX12_feed_43 : decode cX12_feed 43 = .ok (.iload_n 2, 1) := dc0 dO_28 (by decide +kernel)
theorem dX12_feed_44 : decode cX12_feed 44 = .ok (.goto 28, 3) := dcS2 dO_167 (by decide +kernel)
theorem dX12_feed_47 : decode cX12_feed 47 = .ok (.iload 6, 2) := dcU1 dO_21 (by decide +kernel)
theorem dX12_feed_49 : decode cX12_feed 49 = .ok (.bipush 12, 2) := dcS1 dO_16 (by decide +kernel)
theorem dX12_feed_51 : decode cX12_feed 51 = .ok (.if_icmp .ge 7, 3) := dcS2 dO_162 (by decide +kernel)
theorem dX12_feed_54 : decode cX12_feed 54 = .ok (.iload_n 3, 1) := dc0 dO_29 (by decide +kernel)
theorem dX12_feed_55 : decode cX12_feed 55 = .ok (.goto 17, 3) := dcS2 dO_167 (by decide +kernel)
theorem dX12_feed_58 : decode cX12_feed 58 = .ok (.iload 6, 2) := dcU1 dO_21 (by decide +kernel)
theorem dX12_feed_60 : decode cX12_feed 60 = .ok (.bipush 16, 2) := dcS1 dO_16 (by decide +kernel)
theorem dX12_feed_62 : decode cX12_feed 62 = .ok (.if_icmp .ge 8, 3) := dcS2 dO_162 (by decide +kernel)
theorem dX12_feed_65 : decode cX12_feed 65 = .ok (.iload 4, 2) := dcU1 dO_21 (by decide +kernel)
theorem dX12_feed_67 : decode cX12_feed 67 = .ok (.goto 5, 3) := dcS2 dO_167 (by decide +kernel)
theorem dX12_feed_70 : decode cX12_feed 70 = .ok (.iload 5, 2) := dcU1 dO_21 (by decide +kernel)
theorem dX12_feed_72 : decode cX12_feed 72 = .ok (.istore 7, 2) := dcU1 dO_54 (by decide +kernel)
theorem dX12_feed_74 : decode cX12_feed 74 = .ok (.aload_n 0, 1) := dc0 dO_42 (by decide +kernel)
theorem dX12_feed_75 : decode cX12_feed 75 = .ok (.getfield 7, 3) := dcU2 dO_180 (by decide +kernel)
theorem dX12_feed_78 : decode cX12_feed 78 = .ok (.aload_n 0, 1) := dc0 dO_42 (by decide +kernel)
theorem dX12_feed_79 : decode cX12_feed 79 = .ok (.getfield 1, 3) := dcU2 dO_180 (by decide +kernel)
theorem dX12_feed_82 : decode cX12_feed 82 = .ok (.iload 6, 2) := dcU1 dO_21 (by decide +kernel)
theorem dX12_feed_84 : decode cX12_feed 84 = .ok (.iadd, 1) := dc0 dO_96 (by decide +kernel)
theorem dX12_feed_85 : decode cX12_feed 85 = .ok (.iload 7, 2) := dcU1 dO_21 (by decide +kernel)
theorem dX12_feed_87 : decode cX12_feed 87 = .ok (.bipush 24, 2) := dcS1 dO_16 (by decide +kernel)
theorem dX12_feed_89 : decode cX12_feed 89 = .ok (.bipush 8, 2) := dcS1 dO_16 (by decide +kernel)
theorem dX12_feed_91 : decode cX12_feed 91 = .ok (.iload 6, 2) := dcU1 dO_21 (by decide +kernel)
theorem dX12_feed_93 : decode cX12_feed 93 = .ok (.iconst 4, 1) := dc0 dO_7 (by decide +kernel)
theorem dX12_feed_94 : decode cX12_feed 94 = .ok (.irem, 1) := dc0 dO_112 (by decide +kernel)
theorem dX12_feed_95 : decode cX12_feed 95 = .ok (.imul, 1) := dc0 dO_104 (by decide +kernel)
theorem dX12_feed_96 : decode cX12_feed 96 = .ok (.isub, 1) := dc0 dO_100 (by decide +kernel)
theorem dX12_feed_97 : decode cX12_feed 97 = .ok (.ishr, 1) := dc0 dO_122 (by decide +kernel)
theorem dX12_feed_98 : decode cX12_feed 98 = .ok (.i2b, 1) := dc0 dO_145 (by decide +kernel)
theorem dX12_feed_99 : decode cX12_feed 99 = .ok (.bastore, 1) := dc0 dO_84 (by decide +kernel)
theorem dX12_feed_100 : decode cX12_feed 100 = .ok (.iinc 6 1, 3) := dcI dO_132 (by decide +kernel)
theorem dX12_feed_103 : decode cX12_feed 103 = .ok (.goto (-84), 3) := dcS2 dO_167 (by decide +kernel)
theorem dX12_feed_106 : decode cX12_feed 106 = .ok (.aload_n 0, 1) := dc0 dO_42 (by decide +kernel)
theorem dX12_feed_107 : decode cX12_feed 107 = .ok (.dup, 1) := dc0 dO_89 (by decide +kernel)
theorem dX12_feed_108 : decode cX12_feed 108 = .ok (.getfield 1, 3) := dcU2 dO_180 (by decide +kernel)
theorem dX12_feed_111 : decode cX12_feed 111 = .ok (.bipush 20, 2) := dcS1 dO_16 (by decide +kernel)
theorem dX12_feed_113 : decode cX12_feed 113 = .ok (.iadd, 1) := dc0 dO_96 (by decide +kernel)
theorem dX12_feed_114 : decode cX12_feed 114 = .ok (.putfield 1, 3) := dcU2 dO_181 (by decide +kernel)
theorem dX12_feed_117 : decode cX12_feed 117 = .ok (.aload_n 0, 1) := dc0 dO_42 (by decide +kernel)
theorem dX12_feed_118 : decode cX12_feed 118 = .ok (.getfield 1, 3) := dcU2 dO_180 (by decide +kernel)
theorem dX12_feed_121 : decode cX12_feed 121 = .ok (.ireturn, 1) := dc0 dO_172 (by decide +kernel)
theorem dX12_front_0 : decode cX12_front 0 = .ok (.aload_n 0, 1) := dc0 dO_42 (by decide +kernel)
theorem dX12_front_1 : decode cX12_front 1 = .ok (.getfield 148, 3) := dcU2 dO_180 (by decide +kernel)
theorem dX12_front_4 : decode cX12_front 4 = .ok (.bipush 40, 2) := dcS1 dO_16 (by decide +kernel)
theorem dX12_front_6 : decode cX12_front 6 = .ok (.iload_n 1, 1) := dc0 dO_27 (by decide +kernel)
theorem dX12_front_7 : decode cX12_front 7 = .ok (.imul, 1) := dc0 dO_104 (by decide +kernel)
theorem dX12_front_8 : decode cX12_front 8 = .ok (.iconst 4, 1) := dc0 dO_7 (by decide +kernel)
theorem dX12_front_9 : decode cX12_front 9 = .ok (.iadd, 1) := dc0 dO_96 (by decide +kernel)
theorem dX12_front_10 : decode cX12_front 10 = .ok (.iaload, 1) := dc0 dO_46 (by decide +kernel)
theorem dX12_front_11 : decode cX12_front 11 = .ok (.istore_n 3, 1) := dc0 dO_62 (by decide +kernel)
theorem dX12_front_12 : decode cX12_front 12 = .ok (.iload_n 3, 1) := dc0 dO_29 (by decide +kernel)
theorem dX12_front_13 : decode cX12_front 13 = .ok (.bipush 20, 2) := dcS1 dO_16 (by decide +kernel)
theorem dX12_front_15 : decode cX12_front 15 = .ok (.if_icmp .ne 5, 3) := dcS2 dO_160 (by decide +kernel)
theorem dX12_front_18 : decode cX12_front 18 = .ok (.iconst 0, 1) := dc0 dO_3 (by decide +kernel)
theorem dX12_front_19 : decode cX12_front 19 = .ok (.ireturn, 1) := dc0 dO_172 (by decide +kernel)
theorem dX12_front_20 : decode cX12_front 20 = .ok (.iload_n 3, 1) := dc0 dO_29 (by decide +kernel)
theorem dX12_front_21 : decode cX12_front 21 = .ok (.istore 4, 2) := dcU1 dO_54 (by decide +kernel)
theorem dX12_front_23 : decode cX12_front 23 = .ok (.iload 4, 2) := dcU1 dO_21 (by decide +kernel)
theorem dX12_front_25 : decode cX12_front 25 = .ok (.ifCond .le 38, 3) := dcS2 dO_158 (by decide +kernel)
theorem dX12_front_28 : decode cX12_front 28 = .ok (.aload_n 0, 1) := dc0 dO_42 (by decide +kernel)
theorem dX12_front_29 : decode cX12_front 29 = .ok (.getfield 148, 3) := dcU2 dO_180 (by decide +kernel)
theorem dX12_front_32 : decode cX12_front 32 = .ok (.bipush 40, 2) := dcS1 dO_16 (by decide +kernel)
theorem dX12_front_34 : decode cX12_front 34 = .ok (.iload_n 1, 1) := dc0 dO_27 (by decide +kernel)
theorem dX12_front_35 : decode cX12_front 35 = .ok (.imul, 1) := dc0 dO_104 (by decide +kernel)
theorem dX12_front_36 : decode cX12_front 36 = .ok (.bipush 6, 2) := dcS1 dO_16 (by decide +kernel)
theorem dX12_front_38 : decode cX12_front 38 = .ok (.iadd, 1) := dc0 dO_96 (by decide +kernel)
theorem dX12_front_39 : decode cX12_front 39 = .ok (.iload 4, 2) := dcU1 dO_21 (by decide +kernel)
theorem dX12_front_41 : decode cX12_front 41 = .ok (.iadd, 1) := dc0 dO_96 (by decide +kernel)
theorem dX12_front_42 : decode cX12_front 42 = .ok (.aload_n 0, 1) := dc0 dO_42 (by decide +kernel)
theorem dX12_front_43 : decode cX12_front 43 = .ok (.getfield 148, 3) := dcU2 dO_180 (by decide +kernel)
theorem dX12_front_46 : decode cX12_front 46 = .ok (.bipush 40, 2) := dcS1 dO_16 (by decide +kernel)
theorem dX12_front_48 : decode cX12_front 48 = .ok (.iload_n 1, 1) := dc0 dO_27 (by decide +kernel)
theorem dX12_front_49 : decode cX12_front 49 = .ok (.imul, 1) := dc0 dO_104 (by decide +kernel)
theorem dX12_front_50 : decode cX12_front 50 = .ok (.iconst 5, 1) := dc0 dO_8 (by decide +kernel)
theorem dX12_front_51 : decode cX12_front 51 = .ok (.iadd, 1) := dc0 dO_96 (by decide +kernel)
theorem dX12_front_52 : decode cX12_front 52 = .ok (.iload 4, 2) := dcU1 dO_21 (by decide +kernel)
theorem dX12_front_54 : decode cX12_front 54 = .ok (.iadd, 1) := dc0 dO_96 (by decide +kernel)
theorem dX12_front_55 : decode cX12_front 55 = .ok (.iaload, 1) := dc0 dO_46 (by decide +kernel)
theorem dX12_front_56 : decode cX12_front 56 = .ok (.iastore, 1) := dc0 dO_79 (by decide +kernel)
theorem dX12_front_57 : decode cX12_front 57 = .ok (.iinc 4 (-1), 3) := dcI dO_132 (by decide +kernel)
theorem dX12_front_60 : decode cX12_front 60 = .ok (.goto (-37), 3) := dcS2 dO_167 (by decide +kernel)
theorem dX12_front_63 : decode cX12_front 63 = .ok (.aload_n 0, 1) := dc0 dO_42 (by decide +kernel)
theorem dX12_front_64 : decode cX12_front 64 = .ok (.getfield 148, 3) := dcU2 dO_180 (by decide +kernel)
theorem dX12_front_67 : decode cX12_front 67 = .ok (.bipush 40, 2) := dcS1 dO_16 (by decide +kernel)
theorem dX12_front_69 : decode cX12_front 69 = .ok (.iload_n 1, 1) := dc0 dO_27 (by decide +kernel)
theorem dX12_front_70 : decode cX12_front 70 = .ok (.imul, 1) := dc0 dO_104 (by decide +kernel)
theorem dX12_front_71 : decode cX12_front 71 = .ok (.bipush 6, 2) := dcS1 dO_16 (by decide +kernel)
theorem dX12_front_73 : decode cX12_front 73 = .ok (.iadd, 1) := dc0 dO_96 (by decide +kernel)
theorem dX12_front_74 : decode cX12_front 74 = .ok (.iload_n 2, 1) := dc0 dO_28 (by decide +kernel)
theorem dX12_front_75 : decode cX12_front 75 = .ok (.iastore, 1) := dc0 dO_79 (by decide +kernel)
theorem dX12_front_76 : decode cX12_front 76 = .ok (.aload_n 0, 1) := dc0 dO_42 (by decide +kernel)
theorem dX12_front_77 : decode cX12_front 77 = .ok (.getfield 148, 3) := dcU2 dO_180 (by decide +kernel)
theorem dX12_front_80 : decode cX12_front 80 = .ok (.bipush 40, 2) := dcS1 dO_16 (by decide +kernel)
theorem dX12_front_82 : decode cX12_front 82 = .ok (.iload_n 1, 1) := dc0 dO_27 (by decide +kernel)
theorem dX12_front_83 : decode cX12_front 83 = .ok (.imul, 1) := dc0 dO_104 (by decide +kernel)
theorem dX12_front_84 : decode cX12_front 84 = .ok (.iconst 4, 1) := dc0 dO_7 (by decide +kernel)
theorem dX12_front_85 : decode cX12_front 85 = .ok (.iadd, 1) := dc0 dO_96 (by decide +kernel)
theorem dX12_front_86 : decode cX12_front 86 = .ok (.dup2, 1) := dc0 dO_92 (by decide +kernel)
theorem dX12_front_87 : decode cX12_front 87 = .ok (.iaload, 1) := dc0 dO_46 (by decide +kernel)
theorem dX12_front_88 : decode cX12_front 88 = .ok (.iconst 1, 1) := dc0 dO_4 (by decide +kernel)
theorem dX12_front_89 : decode cX12_front 89 = .ok (.iadd, 1) := dc0 dO_96 (by decide +kernel)
theorem dX12_front_90 : decode cX12_front 90 = .ok (.iastore, 1) := dc0 dO_79 (by decide +kernel)
theorem dX12_front_91 : decode cX12_front 91 = .ok (.iconst 1, 1) := dc0 dO_4 (by decide +kernel)
theorem dX12_front_92 : decode cX12_front 92 = .ok (.ireturn, 1) := dc0 dO_172 (by decide +kernel)
theorem dX12_holds_0 : decode cX12_holds 0 = .ok (.iload_n 0, 1) := dc0 dO_26 (by decide +kernel)
theorem dX12_holds_1 : decode cX12_holds 1 = .ok (.iload_n 2, 1) := dc0 dO_28 (by decide +kernel)
theorem dX12_holds_2 : decode cX12_holds 2 = .ok (.ixor, 1) := dc0 dO_130 (by decide +kernel)
theorem dX12_holds_3 : decode cX12_holds 3 = .ok (.iload_n 1, 1) := dc0 dO_27 (by decide +kernel)
theorem dX12_holds_4 : decode cX12_holds 4 = .ok (.invokestatic 11, 3) := dcU2 dO_184 (by decide +kernel)
theorem dX12_holds_7 : decode cX12_holds 7 = .ok (.iand, 1) := dc0 dO_126 (by decide +kernel)
theorem dX12_holds_8 : decode cX12_holds 8 = .ok (.ifCond .ne 7, 3) := dcS2 dO_154 (by decide +kernel)
theorem dX12_holds_11 : decode cX12_holds 11 = .ok (.iconst 1, 1) := dc0 dO_4 (by decide +kernel)
theorem dX12_holds_12 : decode cX12_holds 12 = .ok (.goto 4, 3) := dcS2 dO_167 (by decide +kernel)
theorem dX12_holds_15 : decode cX12_holds 15 = .ok (.iconst 0, 1) := dc0 dO_3 (by decide +kernel)
theorem dX12_holds_16 : decode cX12_holds 16 = .ok (.ireturn, 1) := dc0 dO_172 (by decide +kernel)
theorem dX12_in_0 : decode cX12_in 0 = .ok (.iload_n 0, 1) := dc0 dO_26 (by decide +kernel)
theorem dX12_in_1 : decode cX12_in 1 = .ok (.iload_n 1, 1) := dc0 dO_27 (by decide +kernel)
theorem dX12_in_2 : decode cX12_in 2 = .ok (.if_icmp .lt 12, 3) := dcS2 dO_161 (by decide +kernel)
theorem dX12_in_5 : decode cX12_in 5 = .ok (.iload_n 0, 1) := dc0 dO_26 (by decide +kernel)
theorem dX12_in_6 : decode cX12_in 6 = .ok (.iload_n 2, 1) := dc0 dO_28 (by decide +kernel)
theorem dX12_in_7 : decode cX12_in 7 = .ok (.if_icmp .gt 7, 3) := dcS2 dO_163 (by decide +kernel)
theorem dX12_in_10 : decode cX12_in 10 = .ok (.iconst 1, 1) := dc0 dO_4 (by decide +kernel)
theorem dX12_in_11 : decode cX12_in 11 = .ok (.goto 4, 3) := dcS2 dO_167 (by decide +kernel)
theorem dX12_in_14 : decode cX12_in 14 = .ok (.iconst 0, 1) := dc0 dO_3 (by decide +kernel)
theorem dX12_in_15 : decode cX12_in 15 = .ok (.ireturn, 1) := dc0 dO_172 (by decide +kernel)
theorem dX12_isDomain_0 : decode cX12_isDomain 0 = .ok (.iload_n 1, 1) := dc0 dO_27 (by decide +kernel)
theorem dX12_isDomain_1 : decode cX12_isDomain 1 = .ok (.iconst 0, 1) := dc0 dO_3 (by decide +kernel)
theorem dX12_isDomain_2 : decode cX12_isDomain 2 = .ok (.aload_n 0, 1) := dc0 dO_42 (by decide +kernel)
theorem dX12_isDomain_3 : decode cX12_isDomain 3 = .ok (.getfield 34, 3) := dcU2 dO_180 (by decide +kernel)
theorem dX12_isDomain_6 : decode cX12_isDomain 6 = .ok (.iconst 1, 1) := dc0 dO_4 (by decide +kernel)
theorem dX12_isDomain_7 : decode cX12_isDomain 7 = .ok (.isub, 1) := dc0 dO_100 (by decide +kernel)
theorem dX12_isDomain_8 : decode cX12_isDomain 8 = .ok (.invokestatic 18, 3) := dcU2 dO_184 (by decide +kernel)
theorem dX12_isDomain_11 : decode cX12_isDomain 11 = .ok (.ireturn, 1) := dc0 dO_172 (by decide +kernel)
theorem dX12_isIn_0 : decode cX12_isIn 0 = .ok (.iconst 0, 1) := dc0 dO_3 (by decide +kernel)
theorem dX12_isIn_1 : decode cX12_isIn 1 = .ok (.istore_n 3, 1) := dc0 dO_62 (by decide +kernel)
theorem dX12_isIn_2 : decode cX12_isIn 2 = .ok (.iconst 0, 1) := dc0 dO_3 (by decide +kernel)
theorem dX12_isIn_3 : decode cX12_isIn 3 = .ok (.istore 4, 2) := dcU1 dO_54 (by decide +kernel)
theorem dX12_isIn_5 : decode cX12_isIn 5 = .ok (.iload 4, 2) := dcU1 dO_21 (by decide +kernel)
theorem dX12_isIn_7 : decode cX12_isIn 7 = .ok (.aload_n 0, 1) := dc0 dO_42 (by decide +kernel)
theorem dX12_isIn_8 : decode cX12_isIn 8 = .ok (.getfield 148, 3) := dcU2 dO_180 (by decide +kernel)
theorem dX12_isIn_11 : decode cX12_isIn 11 = .ok (.bipush 40, 2) := dcS1 dO_16 (by decide +kernel)
theorem dX12_isIn_13 : decode cX12_isIn 13 = .ok (.iload_n 1, 1) := dc0 dO_27 (by decide +kernel)
theorem dX12_isIn_14 : decode cX12_isIn 14 = .ok (.imul, 1) := dc0 dO_104 (by decide +kernel)
theorem dX12_isIn_15 : decode cX12_isIn 15 = .ok (.iconst 4, 1) := dc0 dO_7 (by decide +kernel)
theorem dX12_isIn_16 : decode cX12_isIn 16 = .ok (.iadd, 1) := dc0 dO_96 (by decide +kernel)
theorem dX12_isIn_17 : decode cX12_isIn 17 = .ok (.iaload, 1) := dc0 dO_46 (by decide +kernel)
theorem dX12_isIn_18 : decode cX12_isIn 18 = .ok (.if_icmp .ge 38, 3) := dcS2 dO_162 (by decide +kernel)
theorem dX12_isIn_21 : decode cX12_isIn 21 = .ok (.iload_n 3, 1) := dc0 dO_29 (by decide +kernel)
theorem dX12_isIn_22 : decode cX12_isIn 22 = .ok (.ifCond .ne 22, 3) := dcS2 dO_154 (by decide +kernel)
theorem dX12_isIn_25 : decode cX12_isIn 25 = .ok (.aload_n 0, 1) := dc0 dO_42 (by decide +kernel)
theorem dX12_isIn_26 : decode cX12_isIn 26 = .ok (.getfield 148, 3) := dcU2 dO_180 (by decide +kernel)
theorem dX12_isIn_29 : decode cX12_isIn 29 = .ok (.bipush 40, 2) := dcS1 dO_16 (by decide +kernel)
theorem dX12_isIn_31 : decode cX12_isIn 31 = .ok (.iload_n 1, 1) := dc0 dO_27 (by decide +kernel)
theorem dX12_isIn_32 : decode cX12_isIn 32 = .ok (.imul, 1) := dc0 dO_104 (by decide +kernel)
theorem dX12_isIn_33 : decode cX12_isIn 33 = .ok (.bipush 6, 2) := dcS1 dO_16 (by decide +kernel)
theorem dX12_isIn_35 : decode cX12_isIn 35 = .ok (.iadd, 1) := dc0 dO_96 (by decide +kernel)
theorem dX12_isIn_36 : decode cX12_isIn 36 = .ok (.iload 4, 2) := dcU1 dO_21 (by decide +kernel)
theorem dX12_isIn_38 : decode cX12_isIn 38 = .ok (.iadd, 1) := dc0 dO_96 (by decide +kernel)
theorem dX12_isIn_39 : decode cX12_isIn 39 = .ok (.iaload, 1) := dc0 dO_46 (by decide +kernel)
theorem dX12_isIn_40 : decode cX12_isIn 40 = .ok (.iload_n 2, 1) := dc0 dO_28 (by decide +kernel)
theorem dX12_isIn_41 : decode cX12_isIn 41 = .ok (.if_icmp .ne 7, 3) := dcS2 dO_160 (by decide +kernel)
theorem dX12_isIn_44 : decode cX12_isIn 44 = .ok (.iconst 1, 1) := dc0 dO_4 (by decide +kernel)
theorem dX12_isIn_45 : decode cX12_isIn 45 = .ok (.goto 4, 3) := dcS2 dO_167 (by decide +kernel)
theorem dX12_isIn_48 : decode cX12_isIn 48 = .ok (.iconst 0, 1) := dc0 dO_3 (by decide +kernel)
theorem dX12_isIn_49 : decode cX12_isIn 49 = .ok (.istore_n 3, 1) := dc0 dO_62 (by decide +kernel)
theorem dX12_isIn_50 : decode cX12_isIn 50 = .ok (.iinc 4 1, 3) := dcI dO_132 (by decide +kernel)
theorem dX12_isIn_53 : decode cX12_isIn 53 = .ok (.goto (-48), 3) := dcS2 dO_167 (by decide +kernel)
theorem dX12_isIn_56 : decode cX12_isIn 56 = .ok (.iload_n 3, 1) := dc0 dO_29 (by decide +kernel)
theorem dX12_isIn_57 : decode cX12_isIn 57 = .ok (.ireturn, 1) := dc0 dO_172 (by decide +kernel)
theorem dX12_isPrefix_0 : decode cX12_isPrefix 0 = .ok (.iload_n 1, 1) := dc0 dO_27 (by decide +kernel)
theorem dX12_isPrefix_1 : decode cX12_isPrefix 1 = .ok (.iconst 0, 1) := dc0 dO_3 (by decide +kernel)
theorem dX12_isPrefix_2 : decode cX12_isPrefix 2 = .ok (.aload_n 0, 1) := dc0 dO_42 (by decide +kernel)
theorem dX12_isPrefix_3 : decode cX12_isPrefix 3 = .ok (.getfield 15, 3) := dcU2 dO_180 (by decide +kernel)
theorem dX12_isPrefix_6 : decode cX12_isPrefix 6 = .ok (.iconst 1, 1) := dc0 dO_4 (by decide +kernel)
theorem dX12_isPrefix_7 : decode cX12_isPrefix 7 = .ok (.isub, 1) := dc0 dO_100 (by decide +kernel)
theorem dX12_isPrefix_8 : decode cX12_isPrefix 8 = .ok (.invokestatic 18, 3) := dcU2 dO_184 (by decide +kernel)
theorem dX12_isPrefix_11 : decode cX12_isPrefix 11 = .ok (.ireturn, 1) := dc0 dO_172 (by decide +kernel)
theorem dX12_isThere_0 : decode cX12_isThere 0 = .ok (.aload_n 0, 1) := dc0 dO_42 (by decide +kernel)
theorem dX12_isThere_1 : decode cX12_isThere 1 = .ok (.getfield 148, 3) := dcU2 dO_180 (by decide +kernel)
theorem dX12_isThere_4 : decode cX12_isThere 4 = .ok (.bipush 40, 2) := dcS1 dO_16 (by decide +kernel)
theorem dX12_isThere_6 : decode cX12_isThere 6 = .ok (.iload_n 1, 1) := dc0 dO_27 (by decide +kernel)
theorem dX12_isThere_7 : decode cX12_isThere 7 = .ok (.imul, 1) := dc0 dO_104 (by decide +kernel)
theorem dX12_isThere_8 : decode cX12_isThere 8 = .ok (.iaload, 1) := dc0 dO_46 (by decide +kernel)
theorem dX12_isThere_9 : decode cX12_isThere 9 = .ok (.ifCond .lt 7, 3) := dcS2 dO_155 (by decide +kernel)
theorem dX12_isThere_12 : decode cX12_isThere 12 = .ok (.iconst 1, 1) := dc0 dO_4 (by decide +kernel)
theorem dX12_isThere_13 : decode cX12_isThere 13 = .ok (.goto 4, 3) := dcS2 dO_167 (by decide +kernel)
theorem dX12_isThere_16 : decode cX12_isThere 16 = .ok (.iconst 0, 1) := dc0 dO_3 (by decide +kernel)
theorem dX12_isThere_17 : decode cX12_isThere 17 = .ok (.ireturn, 1) := dc0 dO_172 (by decide +kernel)
theorem dX12_isTie_0 : decode cX12_isTie 0 = .ok (.iload_n 1, 1) := dc0 dO_27 (by decide +kernel)
theorem dX12_isTie_1 : decode cX12_isTie 1 = .ok (.iconst 0, 1) := dc0 dO_3 (by decide +kernel)
theorem dX12_isTie_2 : decode cX12_isTie 2 = .ok (.aload_n 0, 1) := dc0 dO_42 (by decide +kernel)
theorem dX12_isTie_3 : decode cX12_isTie 3 = .ok (.getfield 37, 3) := dcU2 dO_180 (by decide +kernel)
theorem dX12_isTie_6 : decode cX12_isTie 6 = .ok (.iconst 1, 1) := dc0 dO_4 (by decide +kernel)
theorem dX12_isTie_7 : decode cX12_isTie 7 = .ok (.isub, 1) := dc0 dO_100 (by decide +kernel)
theorem dX12_isTie_8 : decode cX12_isTie 8 = .ok (.invokestatic 18, 3) := dcU2 dO_184 (by decide +kernel)
theorem dX12_isTie_11 : decode cX12_isTie 11 = .ok (.ireturn, 1) := dc0 dO_172 (by decide +kernel)
theorem dX12_judged_0 : decode cX12_judged 0 = .ok (.aload_n 0, 1) := dc0 dO_42 (by decide +kernel)
theorem dX12_judged_1 : decode cX12_judged 1 = .ok (.getfield 119, 3) := dcU2 dO_180 (by decide +kernel)
theorem dX12_judged_4 : decode cX12_judged 4 = .ok (.ifCond .eq 36, 3) := dcS2 dO_153 (by decide +kernel)
theorem dX12_judged_7 : decode cX12_judged 7 = .ok (.aload_n 0, 1) := dc0 dO_42 (by decide +kernel)
theorem dX12_judged_8 : decode cX12_judged 8 = .ok (.getfield 123, 3) := dcU2 dO_180 (by decide +kernel)
theorem dX12_judged_11 : decode cX12_judged 11 = .ok (.iload_n 1, 1) := dc0 dO_27 (by decide +kernel)
theorem dX12_judged_12 : decode cX12_judged 12 = .ok (.if_icmp .ne 28, 3) := dcS2 dO_160 (by decide +kernel)
theorem dX12_judged_15 : decode cX12_judged 15 = .ok (.aload_n 0, 1) := dc0 dO_42 (by decide +kernel)
theorem dX12_judged_16 : decode cX12_judged 16 = .ok (.getfield 126, 3) := dcU2 dO_180 (by decide +kernel)
theorem dX12_judged_19 : decode cX12_judged 19 = .ok (.iload_n 2, 1) := dc0 dO_28 (by decide +kernel)
theorem dX12_judged_20 : decode cX12_judged 20 = .ok (.if_icmp .ne 20, 3) := dcS2 dO_160 (by decide +kernel)
theorem dX12_judged_23 : decode cX12_judged 23 = .ok (.aload_n 0, 1) := dc0 dO_42 (by decide +kernel)
theorem dX12_judged_24 : decode cX12_judged 24 = .ok (.getfield 129, 3) := dcU2 dO_180 (by decide +kernel)
theorem dX12_judged_27 : decode cX12_judged 27 = .ok (.iload_n 3, 1) := dc0 dO_29 (by decide +kernel)
theorem dX12_judged_28 : decode cX12_judged 28 = .ok (.if_icmp .ne 12, 3) := dcS2 dO_160 (by decide +kernel)
theorem dX12_judged_31 : decode cX12_judged 31 = .ok (.aload_n 0, 1) := dc0 dO_42 (by decide +kernel)
theorem dX12_judged_32 : decode cX12_judged 32 = .ok (.getfield 132, 3) := dcU2 dO_180 (by decide +kernel)
theorem dX12_judged_35 : decode cX12_judged 35 = .ok (.iload 4, 2) := dcU1 dO_21 (by decide +kernel)
theorem dX12_judged_37 : decode cX12_judged 37 = .ok (.if_icmp .eq 42, 3) := dcS2 dO_159 (by decide +kernel)
theorem dX12_judged_40 : decode cX12_judged 40 = .ok (.aload_n 0, 1) := dc0 dO_42 (by decide +kernel)
theorem dX12_judged_41 : decode cX12_judged 41 = .ok (.aload_n 0, 1) := dc0 dO_42 (by decide +kernel)
theorem dX12_judged_42 : decode cX12_judged 42 = .ok (.iload_n 1, 1) := dc0 dO_27 (by decide +kernel)
theorem dX12_judged_43 : decode cX12_judged 43 = .ok (.iload_n 2, 1) := dc0 dO_28 (by decide +kernel)
theorem dX12_judged_44 : decode cX12_judged 44 = .ok (.iload_n 3, 1) := dc0 dO_29 (by decide +kernel)
theorem dX12_judged_45 : decode cX12_judged 45 = .ok (.iload 4, 2) := dcU1 dO_21 (by decide +kernel)
theorem dX12_judged_47 : decode cX12_judged 47 = .ok (.invokevirtual 135, 3) := dcU2 dO_182 (by decide +kernel)
theorem dX12_judged_50 : decode cX12_judged 50 = .ok (.putfield 139, 3) := dcU2 dO_181 (by decide +kernel)
theorem dX12_judged_53 : decode cX12_judged 53 = .ok (.aload_n 0, 1) := dc0 dO_42 (by decide +kernel)
theorem dX12_judged_54 : decode cX12_judged 54 = .ok (.iload_n 1, 1) := dc0 dO_27 (by decide +kernel)
theorem dX12_judged_55 : decode cX12_judged 55 = .ok (.putfield 123, 3) := dcU2 dO_181 (by decide +kernel)
theorem dX12_judged_58 : decode cX12_judged 58 = .ok (.aload_n 0, 1) := dc0 dO_42 (by decide +kernel)
theorem dX12_judged_59 : decode cX12_judged 59 = .ok (.iload_n 2, 1) := dc0 dO_28 (by decide +kernel)
theorem dX12_judged_60 : decode cX12_judged 60 = .ok (.putfield 126, 3) := dcU2 dO_181 (by decide +kernel)
theorem dX12_judged_63 : decode cX12_judged 63 = .ok (.aload_n 0, 1) := dc0 dO_42 (by decide +kernel)
theorem dX12_judged_64 : decode cX12_judged 64 = .ok (.iload_n 3, 1) := dc0 dO_29 (by decide +kernel)
theorem dX12_judged_65 : decode cX12_judged 65 = .ok (.putfield 129, 3) := dcU2 dO_181 (by decide +kernel)
theorem dX12_judged_68 : decode cX12_judged 68 = .ok (.aload_n 0, 1) := dc0 dO_42 (by decide +kernel)
theorem dX12_judged_69 : decode cX12_judged 69 = .ok (.iload 4, 2) := dcU1 dO_21 (by decide +kernel)
theorem dX12_judged_71 : decode cX12_judged 71 = .ok (.putfield 132, 3) := dcU2 dO_181 (by decide +kernel)
theorem dX12_judged_74 : decode cX12_judged 74 = .ok (.aload_n 0, 1) := dc0 dO_42 (by decide +kernel)
theorem dX12_judged_75 : decode cX12_judged 75 = .ok (.iconst 1, 1) := dc0 dO_4 (by decide +kernel)
theorem dX12_judged_76 : decode cX12_judged 76 = .ok (.putfield 119, 3) := dcU2 dO_181 (by decide +kernel)
theorem dX12_judged_79 : decode cX12_judged 79 = .ok (.aload_n 0, 1) := dc0 dO_42 (by decide +kernel)
theorem dX12_judged_80 : decode cX12_judged 80 = .ok (.getfield 139, 3) := dcU2 dO_180 (by decide +kernel)
theorem dX12_judged_83 : decode cX12_judged 83 = .ok (.ireturn, 1) := dc0 dO_172 (by decide +kernel)
theorem dX12_judgedAnew_0 : decode cX12_judgedAnew 0 = .ok (.iconst 2, 1) := dc0 dO_5 (by decide +kernel)
theorem dX12_judgedAnew_1 : decode cX12_judgedAnew 1 = .ok (.istore 5, 2) := dcU1 dO_54 (by decide +kernel)
theorem dX12_judgedAnew_3 : decode cX12_judgedAnew 3 = .ok (.iconst 0, 1) := dc0 dO_3 (by decide +kernel)
theorem dX12_judgedAnew_4 : decode cX12_judgedAnew 4 = .ok (.istore 6, 2) := dcU1 dO_54 (by decide +kernel)
theorem dX12_judgedAnew_6 : decode cX12_judgedAnew 6 = .ok (.iload 6, 2) := dcU1 dO_21 (by decide +kernel)
theorem dX12_judgedAnew_8 : decode cX12_judgedAnew 8 = .ok (.aload_n 0, 1) := dc0 dO_42 (by decide +kernel)
theorem dX12_judgedAnew_9 : decode cX12_judgedAnew 9 = .ok (.getfield 95, 3) := dcU2 dO_180 (by decide +kernel)
theorem dX12_judgedAnew_12 : decode cX12_judgedAnew 12 = .ok (.if_icmp .ge 172, 3) := dcS2 dO_162 (by decide +kernel)
theorem dX12_judgedAnew_15 : decode cX12_judgedAnew 15 = .ok (.aload_n 0, 1) := dc0 dO_42 (by decide +kernel)
theorem dX12_judgedAnew_16 : decode cX12_judgedAnew 16 = .ok (.getfield 98, 3) := dcU2 dO_180 (by decide +kernel)
theorem dX12_judgedAnew_19 : decode cX12_judgedAnew 19 = .ok (.iload 6, 2) := dcU1 dO_21 (by decide +kernel)
theorem dX12_judgedAnew_21 : decode cX12_judgedAnew 21 = .ok (.iaload, 1) := dc0 dO_46 (by decide +kernel)
theorem dX12_judgedAnew_22 : decode cX12_judgedAnew 22 = .ok (.istore 7, 2) := dcU1 dO_54 (by decide +kernel)
theorem dX12_judgedAnew_24 : decode cX12_judgedAnew 24 = .ok (.aload_n 0, 1) := dc0 dO_42 (by decide +kernel)
theorem dX12_judgedAnew_25 : decode cX12_judgedAnew 25 = .ok (.getfield 107, 3) := dcU2 dO_180 (by decide +kernel)
theorem dX12_judgedAnew_28 : decode cX12_judgedAnew 28 = .ok (.iload 6, 2) := dcU1 dO_21 (by decide +kernel)
theorem dX12_judgedAnew_30 : decode cX12_judgedAnew 30 = .ok (.iaload, 1) := dc0 dO_46 (by decide +kernel)
theorem dX12_judgedAnew_31 : decode cX12_judgedAnew 31 = .ok (.iload_n 3, 1) := dc0 dO_29 (by decide +kernel)
theorem dX12_judgedAnew_32 : decode cX12_judgedAnew 32 = .ok (.if_icmp .gt 54, 3) := dcS2 dO_163 (by decide +kernel)
theorem dX12_judgedAnew_35 : decode cX12_judgedAnew 35 = .ok (.iload_n 3, 1) := dc0 dO_29 (by decide +kernel)
theorem dX12_judgedAnew_36 : decode cX12_judgedAnew 36 = .ok (.aload_n 0, 1) := dc0 dO_42 (by decide +kernel)
theorem dX12_judgedAnew_37 : decode cX12_judgedAnew 37 = .ok (.getfield 110, 3) := dcU2 dO_180 (by decide +kernel)
theorem dX12_judgedAnew_40 : decode cX12_judgedAnew 40 = .ok (.iload 6, 2) := dcU1 dO_21 (by decide +kernel)
theorem dX12_judgedAnew_42 : decode cX12_judgedAnew 42 = .ok (.iaload, 1) := dc0 dO_46 (by decide +kernel)
theorem dX12_judgedAnew_43 : decode cX12_judgedAnew 43 = .ok (.if_icmp .ge 43, 3) := dcS2 dO_162 (by decide +kernel)
theorem dX12_judgedAnew_46 : decode cX12_judgedAnew 46 = .ok (.aload_n 0, 1) := dc0 dO_42 (by decide +kernel)
theorem dX12_judgedAnew_47 : decode cX12_judgedAnew 47 = .ok (.getfield 113, 3) := dcU2 dO_180 (by decide +kernel)
theorem dX12_judgedAnew_50 : decode cX12_judgedAnew 50 = .ok (.iload 6, 2) := dcU1 dO_21 (by decide +kernel)
theorem dX12_judgedAnew_52 : decode cX12_judgedAnew 52 = .ok (.iaload, 1) := dc0 dO_46 (by decide +kernel)
theorem dX12_judgedAnew_53 : decode cX12_judgedAnew 53 = .ok (.iload 4, 2) := dcU1 dO_21 (by decide +kernel)
theorem dX12_judgedAnew_55 : decode cX12_judgedAnew 55 = .ok (.if_icmp .gt 31, 3) := dcS2 dO_163 (by decide +kernel)
theorem dX12_judgedAnew_58 : decode cX12_judgedAnew 58 = .ok (.aload_n 0, 1) := dc0 dO_42 (by decide +kernel)
theorem dX12_judgedAnew_59 : decode cX12_judgedAnew 59 = .ok (.getfield 116, 3) := dcU2 dO_180 (by decide +kernel)
theorem dX12_judgedAnew_62 : decode cX12_judgedAnew 62 = .ok (.iload 6, 2) := dcU1 dO_21 (by decide +kernel)
theorem dX12_judgedAnew_64 : decode cX12_judgedAnew 64 = .ok (.iaload, 1) := dc0 dO_46 (by decide +kernel)
theorem dX12_judgedAnew_65 : decode cX12_judgedAnew 65 = .ok (.ldc 29, 2) := dcU1 dO_18 (by decide +kernel)
theorem dX12_judgedAnew_67 : decode cX12_judgedAnew 67 = .ok (.if_icmp .eq 15, 3) := dcS2 dO_159 (by decide +kernel)
theorem dX12_judgedAnew_70 : decode cX12_judgedAnew 70 = .ok (.iload 4, 2) := dcU1 dO_21 (by decide +kernel)
theorem dX12_judgedAnew_72 : decode cX12_judgedAnew 72 = .ok (.aload_n 0, 1) := dc0 dO_42 (by decide +kernel)
theorem dX12_judgedAnew_73 : decode cX12_judgedAnew 73 = .ok (.getfield 116, 3) := dcU2 dO_180 (by decide +kernel)
theorem dX12_judgedAnew_76 : decode cX12_judgedAnew 76 = .ok (.iload 6, 2) := dcU1 dO_21 (by decide +kernel)
theorem dX12_judgedAnew_78 : decode cX12_judgedAnew 78 = .ok (.iaload, 1) := dc0 dO_46 (by decide +kernel)
theorem dX12_judgedAnew_79 : decode cX12_judgedAnew 79 = .ok (.if_icmp .ge 7, 3) := dcS2 dO_162 (by decide +kernel)
theorem dX12_judgedAnew_82 : decode cX12_judgedAnew 82 = .ok (.iconst 1, 1) := dc0 dO_4 (by decide +kernel)
theorem dX12_judgedAnew_83 : decode cX12_judgedAnew 83 = .ok (.goto 4, 3) := dcS2 dO_167 (by decide +kernel)
theorem dX12_judgedAnew_86 : decode cX12_judgedAnew 86 = .ok (.iconst 0, 1) := dc0 dO_3 (by decide +kernel)
theorem dX12_judgedAnew_87 : decode cX12_judgedAnew 87 = .ok (.istore 8, 2) := dcU1 dO_54 (by decide +kernel)
theorem dX12_judgedAnew_89 : decode cX12_judgedAnew 89 = .ok (.iload 8, 2) := dcU1 dO_21 (by decide +kernel)
theorem dX12_judgedAnew_91 : decode cX12_judgedAnew 91 = .ok (.ifCond .eq 87, 3) := dcS2 dO_153 (by decide +kernel)
theorem dX12_judgedAnew_94 : decode cX12_judgedAnew 94 = .ok (.aload_n 0, 1) := dc0 dO_42 (by decide +kernel)
theorem dX12_judgedAnew_95 : decode cX12_judgedAnew 95 = .ok (.getfield 26, 3) := dcU2 dO_180 (by decide +kernel)
theorem dX12_judgedAnew_98 : decode cX12_judgedAnew 98 = .ok (.iload 7, 2) := dcU1 dO_21 (by decide +kernel)
theorem dX12_judgedAnew_100 : decode cX12_judgedAnew 100 = .ok (.iaload, 1) := dc0 dO_46 (by decide +kernel)
theorem dX12_judgedAnew_101 : decode cX12_judgedAnew 101 = .ok (.aload_n 0, 1) := dc0 dO_42 (by decide +kernel)
theorem dX12_judgedAnew_102 : decode cX12_judgedAnew 102 = .ok (.getfield 26, 3) := dcU2 dO_180 (by decide +kernel)
theorem dX12_judgedAnew_105 : decode cX12_judgedAnew 105 = .ok (.iload_n 1, 1) := dc0 dO_27 (by decide +kernel)
theorem dX12_judgedAnew_106 : decode cX12_judgedAnew 106 = .ok (.iaload, 1) := dc0 dO_46 (by decide +kernel)
theorem dX12_judgedAnew_107 : decode cX12_judgedAnew 107 = .ok (.if_icmp .gt 71, 3) := dcS2 dO_163 (by decide +kernel)
theorem dX12_judgedAnew_110 : decode cX12_judgedAnew 110 = .ok (.aload_n 0, 1) := dc0 dO_42 (by decide +kernel)
theorem dX12_judgedAnew_111 : decode cX12_judgedAnew 111 = .ok (.getfield 22, 3) := dcU2 dO_180 (by decide +kernel)
theorem dX12_judgedAnew_114 : decode cX12_judgedAnew 114 = .ok (.iload 7, 2) := dcU1 dO_21 (by decide +kernel)
theorem dX12_judgedAnew_116 : decode cX12_judgedAnew 116 = .ok (.iaload, 1) := dc0 dO_46 (by decide +kernel)
theorem dX12_judgedAnew_117 : decode cX12_judgedAnew 117 = .ok (.aload_n 0, 1) := dc0 dO_42 (by decide +kernel)
theorem dX12_judgedAnew_118 : decode cX12_judgedAnew 118 = .ok (.getfield 26, 3) := dcU2 dO_180 (by decide +kernel)
theorem dX12_judgedAnew_121 : decode cX12_judgedAnew 121 = .ok (.iload 7, 2) := dcU1 dO_21 (by decide +kernel)
theorem dX12_judgedAnew_123 : decode cX12_judgedAnew 123 = .ok (.iaload, 1) := dc0 dO_46 (by decide +kernel)
theorem dX12_judgedAnew_124 : decode cX12_judgedAnew 124 = .ok (.aload_n 0, 1) := dc0 dO_42 (by decide +kernel)
theorem dX12_judgedAnew_125 : decode cX12_judgedAnew 125 = .ok (.getfield 22, 3) := dcU2 dO_180 (by decide +kernel)
theorem sfx_cX12_judgedAnew_128 : (cX12_judgedAnew.data.toList.drop 128).take 67 = [27, 46, 184, 0, 142, 154, 0, 6, 167, 0, 42, 21, 5, 5, 160, 0, 6, 3, 54, 5, 42, 180, 0, 104, 21, 6, 46, 28, 160, 0, 22, 42, 180, 0, 26, 27, 46, 42, 180, 0, 101, 21, 6, 46, 163, 0, 6, 4, 54, 5, 132, 6, 1, 167, 255, 81, 21, 5, 172] := by decide +kernel
theorem dX12_judgedAnew_128 : decode cX12_judgedAnew 128 = .ok (.iload_n 1, 1) := dc0 dO_27 (rdB.ch sfx_cX12_judgedAnew_128 0 rfl (by decide +kernel))
theorem dX12_judgedAnew_129 : decode cX12_judgedAnew 129 = .ok (.iaload, 1) := dc0 dO_46 (rdB.ch sfx_cX12_judgedAnew_128 1 rfl (by decide +kernel))
theorem dX12_judgedAnew_130 : decode cX12_judgedAnew 130 = .ok (.invokestatic 142, 3) := dcU2 dO_184 (rdU2.ch sfx_cX12_judgedAnew_128 2 rfl (by decide +kernel))
theorem dX12_judgedAnew_133 : decode cX12_judgedAnew 133 = .ok (.ifCond .ne 6, 3) := dcS2 dO_154 (rdS2.ch sfx_cX12_judgedAnew_128 5 rfl (by decide +kernel))
theorem dX12_judgedAnew_136 : decode cX12_judgedAnew 136 = .ok (.goto 42, 3) := dcS2 dO_167 (rdS2.ch sfx_cX12_judgedAnew_128 8 rfl (by decide +kernel))
theorem dX12_judgedAnew_139 : decode cX12_judgedAnew 139 = .ok (.iload 5, 2) := dcU1 dO_21 (rdU1.ch sfx_cX12_judgedAnew_128 11 rfl (by decide +kernel))
theorem dX12_judgedAnew_141 : decode cX12_judgedAnew 141 = .ok (.iconst 2, 1) := dc0 dO_5 (rdB.ch sfx_cX12_judgedAnew_128 13 rfl (by decide +kernel))
theorem dX12_judgedAnew_142 : decode cX12_judgedAnew 142 = .ok (.if_icmp .ne 6, 3) := dcS2 dO_160 (rdS2.ch sfx_cX12_judgedAnew_128 14 rfl (by decide +kernel))
theorem dX12_judgedAnew_145 : decode cX12_judgedAnew 145 = .ok (.iconst 0, 1) := dc0 dO_3 (rdB.ch sfx_cX12_judgedAnew_128 17 rfl (by decide +kernel))
theorem dX12_judgedAnew_146 : decode cX12_judgedAnew 146 = .ok (.istore 5, 2) := dcU1 dO_54 (rdU1.ch sfx_cX12_judgedAnew_128 18 rfl (by decide +kernel))
theorem dX12_judgedAnew_148 : decode cX12_judgedAnew 148 = .ok (.aload_n 0, 1) := dc0 dO_42 (rdB.ch sfx_cX12_judgedAnew_128 20 rfl (by decide +kernel))
theorem dX12_judgedAnew_149 : decode cX12_judgedAnew 149 = .ok (.getfield 104, 3) := dcU2 dO_180 (rdU2.ch sfx_cX12_judgedAnew_128 21 rfl (by decide +kernel))
theorem dX12_judgedAnew_152 : decode cX12_judgedAnew 152 = .ok (.iload 6, 2) := dcU1 dO_21 (rdU1.ch sfx_cX12_judgedAnew_128 24 rfl (by decide +kernel))
theorem dX12_judgedAnew_154 : decode cX12_judgedAnew 154 = .ok (.iaload, 1) := dc0 dO_46 (rdB.ch sfx_cX12_judgedAnew_128 26 rfl (by decide +kernel))
theorem dX12_judgedAnew_155 : decode cX12_judgedAnew 155 = .ok (.iload_n 2, 1) := dc0 dO_28 (rdB.ch sfx_cX12_judgedAnew_128 27 rfl (by decide +kernel))
theorem dX12_judgedAnew_156 : decode cX12_judgedAnew 156 = .ok (.if_icmp .ne 22, 3) := dcS2 dO_160 (rdS2.ch sfx_cX12_judgedAnew_128 28 rfl (by decide +kernel))
theorem dX12_judgedAnew_159 : decode cX12_judgedAnew 159 = .ok (.aload_n 0, 1) := dc0 dO_42 (rdB.ch sfx_cX12_judgedAnew_128 31 rfl (by decide +kernel))
theorem dX12_judgedAnew_160 : decode cX12_judgedAnew 160 = .ok (.getfield 26, 3) := dcU2 dO_180 (rdU2.ch sfx_cX12_judgedAnew_128 32 rfl (by decide +kernel))
theorem dX12_judgedAnew_163 : decode cX12_judgedAnew 163 = .ok (.iload_n 1, 1) := dc0 dO_27 (rdB.ch sfx_cX12_judgedAnew_128 35 rfl (by decide +kernel))
theorem dX12_judgedAnew_164 : decode cX12_judgedAnew 164 = .ok (.iaload, 1) := dc0 dO_46 (rdB.ch sfx_cX12_judgedAnew_128 36 rfl (by decide +kernel))
theorem dX12_judgedAnew_165 : decode cX12_judgedAnew 165 = .ok (.aload_n 0, 1) := dc0 dO_42 (rdB.ch sfx_cX12_judgedAnew_128 37 rfl (by decide +kernel))
theorem dX12_judgedAnew_166 : decode cX12_judgedAnew 166 = .ok (.getfield 101, 3) := dcU2 dO_180 (rdU2.ch sfx_cX12_judgedAnew_128 38 rfl (by decide +kernel))
theorem dX12_judgedAnew_169 : decode cX12_judgedAnew 169 = .ok (.iload 6, 2) := dcU1 dO_21 (rdU1.ch sfx_cX12_judgedAnew_128 41 rfl (by decide +kernel))
theorem dX12_judgedAnew_171 : decode cX12_judgedAnew 171 = .ok (.iaload, 1) := dc0 dO_46 (rdB.ch sfx_cX12_judgedAnew_128 43 rfl (by decide +kernel))
theorem dX12_judgedAnew_172 : decode cX12_judgedAnew 172 = .ok (.if_icmp .gt 6, 3) := dcS2 dO_163 (rdS2.ch sfx_cX12_judgedAnew_128 44 rfl (by decide +kernel))
theorem dX12_judgedAnew_175 : decode cX12_judgedAnew 175 = .ok (.iconst 1, 1) := dc0 dO_4 (rdB.ch sfx_cX12_judgedAnew_128 47 rfl (by decide +kernel))
theorem dX12_judgedAnew_176 : decode cX12_judgedAnew 176 = .ok (.istore 5, 2) := dcU1 dO_54 (rdU1.ch sfx_cX12_judgedAnew_128 48 rfl (by decide +kernel))
theorem dX12_judgedAnew_178 : decode cX12_judgedAnew 178 = .ok (.iinc 6 1, 3) := dcI dO_132 (rdI.ch sfx_cX12_judgedAnew_128 50 rfl (by decide +kernel))
theorem dX12_judgedAnew_181 : decode cX12_judgedAnew 181 = .ok (.goto (-175), 3) := dcS2 dO_167 (rdS2.ch sfx_cX12_judgedAnew_128 53 rfl (by decide +kernel))
theorem dX12_judgedAnew_184 : decode cX12_judgedAnew 184 = .ok (.iload 5, 2) := dcU1 dO_21 (rdU1.ch sfx_cX12_judgedAnew_128 56 rfl (by decide +kernel))
theorem dX12_judgedAnew_186 : decode cX12_judgedAnew 186 = .ok (.ireturn, 1) := dc0 dO_172 (rdB.ch sfx_cX12_judgedAnew_128 58 rfl (by decide +kernel))
theorem dX12_letWay_0 : decode cX12_letWay 0 = .ok (.iconst 0, 1) := dc0 dO_3 (by decide +kernel)
theorem dX12_letWay_1 : decode cX12_letWay 1 = .ok (.istore_n 1, 1) := dc0 dO_60 (by decide +kernel)
theorem dX12_letWay_2 : decode cX12_letWay 2 = .ok (.iconst 0, 1) := dc0 dO_3 (by decide +kernel)
theorem dX12_letWay_3 : decode cX12_letWay 3 = .ok (.istore_n 2, 1) := dc0 dO_61 (by decide +kernel)
theorem dX12_letWay_4 : decode cX12_letWay 4 = .ok (.iload_n 2, 1) := dc0 dO_28 (by decide +kernel)
theorem dX12_letWay_5 : decode cX12_letWay 5 = .ok (.iconst 1, 1) := dc0 dO_4 (by decide +kernel)
theorem dX12_letWay_6 : decode cX12_letWay 6 = .ok (.iadd, 1) := dc0 dO_96 (by decide +kernel)
theorem dX12_letWay_7 : decode cX12_letWay 7 = .ok (.aload_n 0, 1) := dc0 dO_42 (by decide +kernel)
theorem dX12_letWay_8 : decode cX12_letWay 8 = .ok (.getfield 79, 3) := dcU2 dO_180 (by decide +kernel)
theorem dX12_letWay_11 : decode cX12_letWay 11 = .ok (.if_icmp .ge 114, 3) := dcS2 dO_162 (by decide +kernel)
theorem dX12_letWay_14 : decode cX12_letWay 14 = .ok (.aload_n 0, 1) := dc0 dO_42 (by decide +kernel)
theorem dX12_letWay_15 : decode cX12_letWay 15 = .ok (.aload_n 0, 1) := dc0 dO_42 (by decide +kernel)
theorem dX12_letWay_16 : decode cX12_letWay 16 = .ok (.getfield 82, 3) := dcU2 dO_180 (by decide +kernel)
theorem dX12_letWay_19 : decode cX12_letWay 19 = .ok (.iload_n 2, 1) := dc0 dO_28 (by decide +kernel)
theorem dX12_letWay_20 : decode cX12_letWay 20 = .ok (.iaload, 1) := dc0 dO_46 (by decide +kernel)
theorem dX12_letWay_21 : decode cX12_letWay 21 = .ok (.aload_n 0, 1) := dc0 dO_42 (by decide +kernel)
theorem dX12_letWay_22 : decode cX12_letWay 22 = .ok (.getfield 82, 3) := dcU2 dO_180 (by decide +kernel)
theorem dX12_letWay_25 : decode cX12_letWay 25 = .ok (.iload_n 2, 1) := dc0 dO_28 (by decide +kernel)
theorem dX12_letWay_26 : decode cX12_letWay 26 = .ok (.iconst 1, 1) := dc0 dO_4 (by decide +kernel)
theorem dX12_letWay_27 : decode cX12_letWay 27 = .ok (.iadd, 1) := dc0 dO_96 (by decide +kernel)
theorem dX12_letWay_28 : decode cX12_letWay 28 = .ok (.iaload, 1) := dc0 dO_46 (by decide +kernel)
theorem dX12_letWay_29 : decode cX12_letWay 29 = .ok (.invokevirtual 43, 3) := dcU2 dO_182 (by decide +kernel)
theorem dX12_letWay_32 : decode cX12_letWay 32 = .ok (.istore_n 3, 1) := dc0 dO_62 (by decide +kernel)
theorem dX12_letWay_33 : decode cX12_letWay 33 = .ok (.iload_n 3, 1) := dc0 dO_29 (by decide +kernel)
theorem dX12_letWay_34 : decode cX12_letWay 34 = .ok (.ldc 29, 2) := dcU1 dO_18 (by decide +kernel)
theorem dX12_letWay_36 : decode cX12_letWay 36 = .ok (.if_icmp .ne 7, 3) := dcS2 dO_160 (by decide +kernel)
theorem dX12_letWay_39 : decode cX12_letWay 39 = .ok (.iload_n 2, 1) := dc0 dO_28 (by decide +kernel)
theorem dX12_letWay_40 : decode cX12_letWay 40 = .ok (.iconst 1, 1) := dc0 dO_4 (by decide +kernel)
theorem dX12_letWay_41 : decode cX12_letWay 41 = .ok (.iadd, 1) := dc0 dO_96 (by decide +kernel)
theorem dX12_letWay_42 : decode cX12_letWay 42 = .ok (.ireturn, 1) := dc0 dO_172 (by decide +kernel)
theorem dX12_letWay_43 : decode cX12_letWay 43 = .ok (.aload_n 0, 1) := dc0 dO_42 (by decide +kernel)
theorem dX12_letWay_44 : decode cX12_letWay 44 = .ok (.getfield 46, 3) := dcU2 dO_180 (by decide +kernel)
theorem dX12_letWay_47 : decode cX12_letWay 47 = .ok (.iload_n 3, 1) := dc0 dO_29 (by decide +kernel)
theorem dX12_letWay_48 : decode cX12_letWay 48 = .ok (.iaload, 1) := dc0 dO_46 (by decide +kernel)
theorem dX12_letWay_49 : decode cX12_letWay 49 = .ok (.iconst 2, 1) := dc0 dO_5 (by decide +kernel)
theorem dX12_letWay_50 : decode cX12_letWay 50 = .ok (.if_icmp .ne 6, 3) := dcS2 dO_160 (by decide +kernel)
theorem dX12_letWay_53 : decode cX12_letWay 53 = .ok (.goto 66, 3) := dcS2 dO_167 (by decide +kernel)
theorem dX12_letWay_56 : decode cX12_letWay 56 = .ok (.aload_n 0, 1) := dc0 dO_42 (by decide +kernel)
theorem dX12_letWay_57 : decode cX12_letWay 57 = .ok (.getfield 46, 3) := dcU2 dO_180 (by decide +kernel)
theorem dX12_letWay_60 : decode cX12_letWay 60 = .ok (.iload_n 3, 1) := dc0 dO_29 (by decide +kernel)
theorem dX12_letWay_61 : decode cX12_letWay 61 = .ok (.iaload, 1) := dc0 dO_46 (by decide +kernel)
theorem dX12_letWay_62 : decode cX12_letWay 62 = .ok (.ifCond .ne 24, 3) := dcS2 dO_154 (by decide +kernel)
theorem dX12_letWay_65 : decode cX12_letWay 65 = .ok (.aload_n 0, 1) := dc0 dO_42 (by decide +kernel)
theorem dX12_letWay_66 : decode cX12_letWay 66 = .ok (.getfield 40, 3) := dcU2 dO_180 (by decide +kernel)
theorem dX12_letWay_69 : decode cX12_letWay 69 = .ok (.iconst 2, 1) := dc0 dO_5 (by decide +kernel)
theorem dX12_letWay_70 : decode cX12_letWay 70 = .ok (.iload_n 3, 1) := dc0 dO_29 (by decide +kernel)
theorem dX12_letWay_71 : decode cX12_letWay 71 = .ok (.imul, 1) := dc0 dO_104 (by decide +kernel)
theorem dX12_letWay_72 : decode cX12_letWay 72 = .ok (.iaload, 1) := dc0 dO_46 (by decide +kernel)
theorem dX12_letWay_73 : decode cX12_letWay 73 = .ok (.aload_n 0, 1) := dc0 dO_42 (by decide +kernel)
theorem dX12_letWay_74 : decode cX12_letWay 74 = .ok (.getfield 82, 3) := dcU2 dO_180 (by decide +kernel)
theorem dX12_letWay_77 : decode cX12_letWay 77 = .ok (.iload_n 2, 1) := dc0 dO_28 (by decide +kernel)
theorem dX12_letWay_78 : decode cX12_letWay 78 = .ok (.iaload, 1) := dc0 dO_46 (by decide +kernel)
theorem dX12_letWay_79 : decode cX12_letWay 79 = .ok (.if_icmp .ne 7, 3) := dcS2 dO_160 (by decide +kernel)
theorem dX12_letWay_82 : decode cX12_letWay 82 = .ok (.iconst 1, 1) := dc0 dO_4 (by decide +kernel)
theorem dX12_letWay_83 : decode cX12_letWay 83 = .ok (.goto 4, 3) := dcS2 dO_167 (by decide +kernel)
theorem dX12_letWay_86 : decode cX12_letWay 86 = .ok (.iconst 0, 1) := dc0 dO_3 (by decide +kernel)
theorem dX12_letWay_87 : decode cX12_letWay 87 = .ok (.istore 4, 2) := dcU1 dO_54 (by decide +kernel)
theorem dX12_letWay_89 : decode cX12_letWay 89 = .ok (.iload_n 1, 1) := dc0 dO_27 (by decide +kernel)
theorem dX12_letWay_90 : decode cX12_letWay 90 = .ok (.ifCond .eq 12, 3) := dcS2 dO_153 (by decide +kernel)
theorem dX12_letWay_93 : decode cX12_letWay 93 = .ok (.iload 4, 2) := dcU1 dO_21 (by decide +kernel)
theorem dX12_letWay_95 : decode cX12_letWay 95 = .ok (.ifCond .ne 7, 3) := dcS2 dO_154 (by decide +kernel)
theorem dX12_letWay_98 : decode cX12_letWay 98 = .ok (.iload_n 2, 1) := dc0 dO_28 (by decide +kernel)
theorem dX12_letWay_99 : decode cX12_letWay 99 = .ok (.iconst 1, 1) := dc0 dO_4 (by decide +kernel)
theorem dX12_letWay_100 : decode cX12_letWay 100 = .ok (.iadd, 1) := dc0 dO_96 (by decide +kernel)
theorem dX12_letWay_101 : decode cX12_letWay 101 = .ok (.ireturn, 1) := dc0 dO_172 (by decide +kernel)
theorem dX12_letWay_102 : decode cX12_letWay 102 = .ok (.aload_n 0, 1) := dc0 dO_42 (by decide +kernel)
theorem dX12_letWay_103 : decode cX12_letWay 103 = .ok (.getfield 46, 3) := dcU2 dO_180 (by decide +kernel)
theorem dX12_letWay_106 : decode cX12_letWay 106 = .ok (.iload_n 3, 1) := dc0 dO_29 (by decide +kernel)
theorem dX12_letWay_107 : decode cX12_letWay 107 = .ok (.iaload, 1) := dc0 dO_46 (by decide +kernel)
theorem dX12_letWay_108 : decode cX12_letWay 108 = .ok (.iconst 1, 1) := dc0 dO_4 (by decide +kernel)
theorem dX12_letWay_109 : decode cX12_letWay 109 = .ok (.if_icmp .eq 8, 3) := dcS2 dO_159 (by decide +kernel)
theorem dX12_letWay_112 : decode cX12_letWay 112 = .ok (.iload 4, 2) := dcU1 dO_21 (by decide +kernel)
theorem dX12_letWay_114 : decode cX12_letWay 114 = .ok (.ifCond .eq 5, 3) := dcS2 dO_153 (by decide +kernel)
theorem dX12_letWay_117 : decode cX12_letWay 117 = .ok (.iconst 1, 1) := dc0 dO_4 (by decide +kernel)
theorem dX12_letWay_118 : decode cX12_letWay 118 = .ok (.istore_n 1, 1) := dc0 dO_60 (by decide +kernel)
theorem dX12_letWay_119 : decode cX12_letWay 119 = .ok (.iinc 2 1, 3) := dcI dO_132 (by decide +kernel)
theorem dX12_letWay_122 : decode cX12_letWay 122 = .ok (.goto (-118), 3) := dcS2 dO_167 (by decide +kernel)
theorem dX12_letWay_125 : decode cX12_letWay 125 = .ok (.iconst 0, 1) := dc0 dO_3 (by decide +kernel)
theorem dX12_letWay_126 : decode cX12_letWay 126 = .ok (.ireturn, 1) := dc0 dO_172 (by decide +kernel)
theorem dX12_marked_0 : decode cX12_marked 0 = .ok (.iconst 0, 1) := dc0 dO_3 (by decide +kernel)
theorem dX12_marked_1 : decode cX12_marked 1 = .ok (.istore_n 3, 1) := dc0 dO_62 (by decide +kernel)
theorem dX12_marked_2 : decode cX12_marked 2 = .ok (.iconst 0, 1) := dc0 dO_3 (by decide +kernel)
theorem dX12_marked_3 : decode cX12_marked 3 = .ok (.istore 4, 2) := dcU1 dO_54 (by decide +kernel)
theorem dX12_marked_5 : decode cX12_marked 5 = .ok (.iload 4, 2) := dcU1 dO_21 (by decide +kernel)
theorem dX12_marked_7 : decode cX12_marked 7 = .ok (.aload_n 0, 1) := dc0 dO_42 (by decide +kernel)
theorem dX12_marked_8 : decode cX12_marked 8 = .ok (.getfield 148, 3) := dcU2 dO_180 (by decide +kernel)
theorem dX12_marked_11 : decode cX12_marked 11 = .ok (.bipush 40, 2) := dcS1 dO_16 (by decide +kernel)
theorem dX12_marked_13 : decode cX12_marked 13 = .ok (.iload_n 1, 1) := dc0 dO_27 (by decide +kernel)
theorem dX12_marked_14 : decode cX12_marked 14 = .ok (.imul, 1) := dc0 dO_104 (by decide +kernel)
theorem dX12_marked_15 : decode cX12_marked 15 = .ok (.iconst 5, 1) := dc0 dO_8 (by decide +kernel)
theorem dX12_marked_16 : decode cX12_marked 16 = .ok (.iadd, 1) := dc0 dO_96 (by decide +kernel)
theorem dX12_marked_17 : decode cX12_marked 17 = .ok (.iaload, 1) := dc0 dO_46 (by decide +kernel)
theorem dX12_marked_18 : decode cX12_marked 18 = .ok (.if_icmp .ge 38, 3) := dcS2 dO_162 (by decide +kernel)
theorem dX12_marked_21 : decode cX12_marked 21 = .ok (.iload_n 3, 1) := dc0 dO_29 (by decide +kernel)
theorem dX12_marked_22 : decode cX12_marked 22 = .ok (.ifCond .ne 22, 3) := dcS2 dO_154 (by decide +kernel)
theorem dX12_marked_25 : decode cX12_marked 25 = .ok (.aload_n 0, 1) := dc0 dO_42 (by decide +kernel)
theorem dX12_marked_26 : decode cX12_marked 26 = .ok (.getfield 148, 3) := dcU2 dO_180 (by decide +kernel)
theorem dX12_marked_29 : decode cX12_marked 29 = .ok (.bipush 40, 2) := dcS1 dO_16 (by decide +kernel)
theorem dX12_marked_31 : decode cX12_marked 31 = .ok (.iload_n 1, 1) := dc0 dO_27 (by decide +kernel)
theorem dX12_marked_32 : decode cX12_marked 32 = .ok (.imul, 1) := dc0 dO_104 (by decide +kernel)
theorem dX12_marked_33 : decode cX12_marked 33 = .ok (.bipush 26, 2) := dcS1 dO_16 (by decide +kernel)
theorem dX12_marked_35 : decode cX12_marked 35 = .ok (.iadd, 1) := dc0 dO_96 (by decide +kernel)
theorem dX12_marked_36 : decode cX12_marked 36 = .ok (.iload 4, 2) := dcU1 dO_21 (by decide +kernel)
theorem dX12_marked_38 : decode cX12_marked 38 = .ok (.iadd, 1) := dc0 dO_96 (by decide +kernel)
theorem dX12_marked_39 : decode cX12_marked 39 = .ok (.iaload, 1) := dc0 dO_46 (by decide +kernel)
theorem dX12_marked_40 : decode cX12_marked 40 = .ok (.iload_n 2, 1) := dc0 dO_28 (by decide +kernel)
theorem dX12_marked_41 : decode cX12_marked 41 = .ok (.if_icmp .ne 7, 3) := dcS2 dO_160 (by decide +kernel)
theorem dX12_marked_44 : decode cX12_marked 44 = .ok (.iconst 1, 1) := dc0 dO_4 (by decide +kernel)
theorem dX12_marked_45 : decode cX12_marked 45 = .ok (.goto 4, 3) := dcS2 dO_167 (by decide +kernel)
theorem dX12_marked_48 : decode cX12_marked 48 = .ok (.iconst 0, 1) := dc0 dO_3 (by decide +kernel)
theorem dX12_marked_49 : decode cX12_marked 49 = .ok (.istore_n 3, 1) := dc0 dO_62 (by decide +kernel)
theorem dX12_marked_50 : decode cX12_marked 50 = .ok (.iinc 4 1, 3) := dcI dO_132 (by decide +kernel)
theorem dX12_marked_53 : decode cX12_marked 53 = .ok (.goto (-48), 3) := dcS2 dO_167 (by decide +kernel)
theorem dX12_marked_56 : decode cX12_marked 56 = .ok (.iload_n 3, 1) := dc0 dO_29 (by decide +kernel)
theorem dX12_marked_57 : decode cX12_marked 57 = .ok (.ireturn, 1) := dc0 dO_172 (by decide +kernel)
theorem dX12_mask_0 : decode cX12_mask 0 = .ok (.iload_n 0, 1) := dc0 dO_26 (by decide +kernel)
theorem dX12_mask_1 : decode cX12_mask 1 = .ok (.ifCond .ne 7, 3) := dcS2 dO_154 (by decide +kernel)
theorem dX12_mask_4 : decode cX12_mask 4 = .ok (.iconst 0, 1) := dc0 dO_3 (by decide +kernel)
theorem dX12_mask_5 : decode cX12_mask 5 = .ok (.goto 9, 3) := dcS2 dO_167 (by decide +kernel)
theorem dX12_mask_8 : decode cX12_mask 8 = .ok (.iconst (-1), 1) := dc0 dO_2 (by decide +kernel)
theorem dX12_mask_9 : decode cX12_mask 9 = .ok (.bipush 32, 2) := dcS1 dO_16 (by decide +kernel)
theorem dX12_mask_11 : decode cX12_mask 11 = .ok (.iload_n 0, 1) := dc0 dO_26 (by decide +kernel)
theorem dX12_mask_12 : decode cX12_mask 12 = .ok (.isub, 1) := dc0 dO_100 (by decide +kernel)
theorem dX12_mask_13 : decode cX12_mask 13 = .ok (.ishl, 1) := dc0 dO_120 (by decide +kernel)
theorem dX12_mask_14 : decode cX12_mask 14 = .ok (.ireturn, 1) := dc0 dO_172 (by decide +kernel)
theorem dX12_nothing_0 : decode cX12_nothing 0 = .ok (.aload_n 0, 1) := dc0 dO_42 (by decide +kernel)
theorem dX12_nothing_1 : decode cX12_nothing 1 = .ok (.getfield 148, 3) := dcU2 dO_180 (by decide +kernel)
theorem dX12_nothing_4 : decode cX12_nothing 4 = .ok (.bipush 40, 2) := dcS1 dO_16 (by decide +kernel)
theorem dX12_nothing_6 : decode cX12_nothing 6 = .ok (.iload_n 1, 1) := dc0 dO_27 (by decide +kernel)
theorem dX12_nothing_7 : decode cX12_nothing 7 = .ok (.imul, 1) := dc0 dO_104 (by decide +kernel)
theorem dX12_nothing_8 : decode cX12_nothing 8 = .ok (.iconst (-1), 1) := dc0 dO_2 (by decide +kernel)
theorem dX12_nothing_9 : decode cX12_nothing 9 = .ok (.iastore, 1) := dc0 dO_79 (by decide +kernel)
theorem dX12_nothing_10 : decode cX12_nothing 10 = .ok (.return_, 1) := dc0 dO_177 (by decide +kernel)
theorem dX12_pace_0 : decode cX12_pace 0 = .ok (.aload_n 0, 1) := dc0 dO_42 (by decide +kernel)
theorem dX12_pace_1 : decode cX12_pace 1 = .ok (.iload_n 1, 1) := dc0 dO_27 (by decide +kernel)
theorem dX12_pace_2 : decode cX12_pace 2 = .ok (.invokevirtual 66, 3) := dcU2 dO_182 (by decide +kernel)
theorem dX12_pace_5 : decode cX12_pace 5 = .ok (.ifCond .eq 25, 3) := dcS2 dO_153 (by decide +kernel)
theorem dX12_pace_8 : decode cX12_pace 8 = .ok (.iload_n 2, 1) := dc0 dO_28 (by decide +kernel)
theorem dX12_pace_9 : decode cX12_pace 9 = .ok (.iconst 1, 1) := dc0 dO_4 (by decide +kernel)
theorem dX12_pace_10 : decode cX12_pace 10 = .ok (.sipush 1000, 3) := dcS2 dO_17 (by decide +kernel)
theorem dX12_pace_13 : decode cX12_pace 13 = .ok (.invokestatic 18, 3) := dcU2 dO_184 (by decide +kernel)
theorem dX12_pace_16 : decode cX12_pace 16 = .ok (.ifCond .eq 14, 3) := dcS2 dO_153 (by decide +kernel)
theorem dX12_pace_19 : decode cX12_pace 19 = .ok (.iload_n 3, 1) := dc0 dO_29 (by decide +kernel)
theorem dX12_pace_20 : decode cX12_pace 20 = .ok (.iconst 0, 1) := dc0 dO_3 (by decide +kernel)
theorem dX12_pace_21 : decode cX12_pace 21 = .ok (.sipush 1000, 3) := dcS2 dO_17 (by decide +kernel)
theorem dX12_pace_24 : decode cX12_pace 24 = .ok (.invokestatic 18, 3) := dcU2 dO_184 (by decide +kernel)
theorem dX12_pace_27 : decode cX12_pace 27 = .ok (.ifCond .ne 5, 3) := dcS2 dO_154 (by decide +kernel)
theorem dX12_pace_30 : decode cX12_pace 30 = .ok (.iconst (-1), 1) := dc0 dO_2 (by decide +kernel)
theorem dX12_pace_31 : decode cX12_pace 31 = .ok (.ireturn, 1) := dc0 dO_172 (by decide +kernel)
theorem dX12_pace_32 : decode cX12_pace 32 = .ok (.aload_n 0, 1) := dc0 dO_42 (by decide +kernel)
theorem dX12_pace_33 : decode cX12_pace 33 = .ok (.getfield 57, 3) := dcU2 dO_180 (by decide +kernel)
theorem dX12_pace_36 : decode cX12_pace 36 = .ok (.iload_n 1, 1) := dc0 dO_27 (by decide +kernel)
theorem dX12_pace_37 : decode cX12_pace 37 = .ok (.iload_n 2, 1) := dc0 dO_28 (by decide +kernel)
theorem dX12_pace_38 : decode cX12_pace 38 = .ok (.iastore, 1) := dc0 dO_79 (by decide +kernel)
theorem dX12_pace_39 : decode cX12_pace 39 = .ok (.aload_n 0, 1) := dc0 dO_42 (by decide +kernel)
theorem dX12_pace_40 : decode cX12_pace 40 = .ok (.getfield 60, 3) := dcU2 dO_180 (by decide +kernel)
theorem dX12_pace_43 : decode cX12_pace 43 = .ok (.iload_n 1, 1) := dc0 dO_27 (by decide +kernel)
theorem dX12_pace_44 : decode cX12_pace 44 = .ok (.iload_n 3, 1) := dc0 dO_29 (by decide +kernel)
theorem dX12_pace_45 : decode cX12_pace 45 = .ok (.iastore, 1) := dc0 dO_79 (by decide +kernel)
theorem dX12_pace_46 : decode cX12_pace 46 = .ok (.iconst 0, 1) := dc0 dO_3 (by decide +kernel)
theorem dX12_pace_47 : decode cX12_pace 47 = .ok (.ireturn, 1) := dc0 dO_172 (by decide +kernel)
theorem dX12_prefix_0 : decode cX12_prefix 0 = .ok (.iload_n 2, 1) := dc0 dO_28 (by decide +kernel)
theorem dX12_prefix_1 : decode cX12_prefix 1 = .ok (.iconst 0, 1) := dc0 dO_3 (by decide +kernel)
theorem dX12_prefix_2 : decode cX12_prefix 2 = .ok (.bipush 32, 2) := dcS1 dO_16 (by decide +kernel)
theorem dX12_prefix_4 : decode cX12_prefix 4 = .ok (.invokestatic 18, 3) := dcU2 dO_184 (by decide +kernel)
theorem dX12_prefix_7 : decode cX12_prefix 7 = .ok (.ifCond .eq 14, 3) := dcS2 dO_153 (by decide +kernel)
theorem dX12_prefix_10 : decode cX12_prefix 10 = .ok (.iload_n 1, 1) := dc0 dO_27 (by decide +kernel)
theorem dX12_prefix_11 : decode cX12_prefix 11 = .ok (.iload_n 2, 1) := dc0 dO_28 (by decide +kernel)
theorem dX12_prefix_12 : decode cX12_prefix 12 = .ok (.invokestatic 11, 3) := dcU2 dO_184 (by decide +kernel)
theorem dX12_prefix_15 : decode cX12_prefix 15 = .ok (.iconst (-1), 1) := dc0 dO_2 (by decide +kernel)
theorem dX12_prefix_16 : decode cX12_prefix 16 = .ok (.ixor, 1) := dc0 dO_130 (by decide +kernel)
theorem dX12_prefix_17 : decode cX12_prefix 17 = .ok (.iand, 1) := dc0 dO_126 (by decide +kernel)
theorem dX12_prefix_18 : decode cX12_prefix 18 = .ok (.ifCond .eq 5, 3) := dcS2 dO_153 (by decide +kernel)
theorem dX12_prefix_21 : decode cX12_prefix 21 = .ok (.iconst (-1), 1) := dc0 dO_2 (by decide +kernel)
theorem dX12_prefix_22 : decode cX12_prefix 22 = .ok (.ireturn, 1) := dc0 dO_172 (by decide +kernel)
theorem dX12_prefix_23 : decode cX12_prefix 23 = .ok (.aload_n 0, 1) := dc0 dO_42 (by decide +kernel)
theorem dX12_prefix_24 : decode cX12_prefix 24 = .ok (.iload_n 1, 1) := dc0 dO_27 (by decide +kernel)
theorem dX12_prefix_25 : decode cX12_prefix 25 = .ok (.iload_n 2, 1) := dc0 dO_28 (by decide +kernel)
theorem dX12_prefix_26 : decode cX12_prefix 26 = .ok (.invokevirtual 30, 3) := dcU2 dO_182 (by decide +kernel)
theorem dX12_prefix_29 : decode cX12_prefix 29 = .ok (.ldc 29, 2) := dcU1 dO_18 (by decide +kernel)
theorem dX12_prefix_31 : decode cX12_prefix 31 = .ok (.if_icmp .eq 6, 3) := dcS2 dO_159 (by decide +kernel)
theorem dX12_prefix_34 : decode cX12_prefix 34 = .ok (.bipush (-2), 2) := dcS1 dO_16 (by decide +kernel)
theorem dX12_prefix_36 : decode cX12_prefix 36 = .ok (.ireturn, 1) := dc0 dO_172 (by decide +kernel)
theorem dX12_prefix_37 : decode cX12_prefix 37 = .ok (.aload_n 0, 1) := dc0 dO_42 (by decide +kernel)
theorem dX12_prefix_38 : decode cX12_prefix 38 = .ok (.getfield 15, 3) := dcU2 dO_180 (by decide +kernel)
theorem dX12_prefix_41 : decode cX12_prefix 41 = .ok (.bipush 10, 2) := dcS1 dO_16 (by decide +kernel)
theorem dX12_prefix_43 : decode cX12_prefix 43 = .ok (.if_icmp .ne 6, 3) := dcS2 dO_160 (by decide +kernel)
theorem dX12_prefix_46 : decode cX12_prefix 46 = .ok (.bipush (-3), 2) := dcS1 dO_16 (by decide +kernel)
theorem dX12_prefix_48 : decode cX12_prefix 48 = .ok (.ireturn, 1) := dc0 dO_172 (by decide +kernel)
theorem dX12_prefix_49 : decode cX12_prefix 49 = .ok (.aload_n 0, 1) := dc0 dO_42 (by decide +kernel)
theorem dX12_prefix_50 : decode cX12_prefix 50 = .ok (.getfield 22, 3) := dcU2 dO_180 (by decide +kernel)
theorem dX12_prefix_53 : decode cX12_prefix 53 = .ok (.aload_n 0, 1) := dc0 dO_42 (by decide +kernel)
theorem dX12_prefix_54 : decode cX12_prefix 54 = .ok (.getfield 15, 3) := dcU2 dO_180 (by decide +kernel)
theorem dX12_prefix_57 : decode cX12_prefix 57 = .ok (.iload_n 1, 1) := dc0 dO_27 (by decide +kernel)
theorem dX12_prefix_58 : decode cX12_prefix 58 = .ok (.iastore, 1) := dc0 dO_79 (by decide +kernel)
theorem dX12_prefix_59 : decode cX12_prefix 59 = .ok (.aload_n 0, 1) := dc0 dO_42 (by decide +kernel)
theorem dX12_prefix_60 : decode cX12_prefix 60 = .ok (.getfield 26, 3) := dcU2 dO_180 (by decide +kernel)
theorem dX12_prefix_63 : decode cX12_prefix 63 = .ok (.aload_n 0, 1) := dc0 dO_42 (by decide +kernel)
theorem dX12_prefix_64 : decode cX12_prefix 64 = .ok (.getfield 15, 3) := dcU2 dO_180 (by decide +kernel)
theorem dX12_prefix_67 : decode cX12_prefix 67 = .ok (.iload_n 2, 1) := dc0 dO_28 (by decide +kernel)
theorem dX12_prefix_68 : decode cX12_prefix 68 = .ok (.iastore, 1) := dc0 dO_79 (by decide +kernel)
theorem dX12_prefix_69 : decode cX12_prefix 69 = .ok (.aload_n 0, 1) := dc0 dO_42 (by decide +kernel)
theorem dX12_prefix_70 : decode cX12_prefix 70 = .ok (.dup, 1) := dc0 dO_89 (by decide +kernel)
theorem dX12_prefix_71 : decode cX12_prefix 71 = .ok (.getfield 15, 3) := dcU2 dO_180 (by decide +kernel)
theorem dX12_prefix_74 : decode cX12_prefix 74 = .ok (.iconst 1, 1) := dc0 dO_4 (by decide +kernel)
theorem dX12_prefix_75 : decode cX12_prefix 75 = .ok (.iadd, 1) := dc0 dO_96 (by decide +kernel)
theorem dX12_prefix_76 : decode cX12_prefix 76 = .ok (.putfield 15, 3) := dcU2 dO_181 (by decide +kernel)
theorem dX12_prefix_79 : decode cX12_prefix 79 = .ok (.aload_n 0, 1) := dc0 dO_42 (by decide +kernel)
theorem dX12_prefix_80 : decode cX12_prefix 80 = .ok (.getfield 15, 3) := dcU2 dO_180 (by decide +kernel)
theorem dX12_prefix_83 : decode cX12_prefix 83 = .ok (.iconst 1, 1) := dc0 dO_4 (by decide +kernel)
theorem dX12_prefix_84 : decode cX12_prefix 84 = .ok (.isub, 1) := dc0 dO_100 (by decide +kernel)
theorem dX12_prefix_85 : decode cX12_prefix 85 = .ok (.ireturn, 1) := dc0 dO_172 (by decide +kernel)
theorem dX12_prefixOf_0 : decode cX12_prefixOf 0 = .ok (.iconst 0, 1) := dc0 dO_3 (by decide +kernel)
theorem dX12_prefixOf_1 : decode cX12_prefixOf 1 = .ok (.istore_n 3, 1) := dc0 dO_62 (by decide +kernel)
theorem dX12_prefixOf_2 : decode cX12_prefixOf 2 = .ok (.iload_n 3, 1) := dc0 dO_29 (by decide +kernel)
theorem dX12_prefixOf_3 : decode cX12_prefixOf 3 = .ok (.aload_n 0, 1) := dc0 dO_42 (by decide +kernel)
theorem dX12_prefixOf_4 : decode cX12_prefixOf 4 = .ok (.getfield 15, 3) := dcU2 dO_180 (by decide +kernel)
theorem dX12_prefixOf_7 : decode cX12_prefixOf 7 = .ok (.if_icmp .ge 31, 3) := dcS2 dO_162 (by decide +kernel)
theorem dX12_prefixOf_10 : decode cX12_prefixOf 10 = .ok (.aload_n 0, 1) := dc0 dO_42 (by decide +kernel)
theorem dX12_prefixOf_11 : decode cX12_prefixOf 11 = .ok (.getfield 22, 3) := dcU2 dO_180 (by decide +kernel)
theorem dX12_prefixOf_14 : decode cX12_prefixOf 14 = .ok (.iload_n 3, 1) := dc0 dO_29 (by decide +kernel)
theorem dX12_prefixOf_15 : decode cX12_prefixOf 15 = .ok (.iaload, 1) := dc0 dO_46 (by decide +kernel)
theorem dX12_prefixOf_16 : decode cX12_prefixOf 16 = .ok (.iload_n 1, 1) := dc0 dO_27 (by decide +kernel)
theorem dX12_prefixOf_17 : decode cX12_prefixOf 17 = .ok (.if_icmp .ne 15, 3) := dcS2 dO_160 (by decide +kernel)
theorem dX12_prefixOf_20 : decode cX12_prefixOf 20 = .ok (.aload_n 0, 1) := dc0 dO_42 (by decide +kernel)
theorem dX12_prefixOf_21 : decode cX12_prefixOf 21 = .ok (.getfield 26, 3) := dcU2 dO_180 (by decide +kernel)
theorem dX12_prefixOf_24 : decode cX12_prefixOf 24 = .ok (.iload_n 3, 1) := dc0 dO_29 (by decide +kernel)
theorem dX12_prefixOf_25 : decode cX12_prefixOf 25 = .ok (.iaload, 1) := dc0 dO_46 (by decide +kernel)
theorem dX12_prefixOf_26 : decode cX12_prefixOf 26 = .ok (.iload_n 2, 1) := dc0 dO_28 (by decide +kernel)
theorem dX12_prefixOf_27 : decode cX12_prefixOf 27 = .ok (.if_icmp .ne 5, 3) := dcS2 dO_160 (by decide +kernel)
theorem dX12_prefixOf_30 : decode cX12_prefixOf 30 = .ok (.iload_n 3, 1) := dc0 dO_29 (by decide +kernel)
theorem dX12_prefixOf_31 : decode cX12_prefixOf 31 = .ok (.ireturn, 1) := dc0 dO_172 (by decide +kernel)
theorem dX12_prefixOf_32 : decode cX12_prefixOf 32 = .ok (.iinc 3 1, 3) := dcI dO_132 (by decide +kernel)
theorem dX12_prefixOf_35 : decode cX12_prefixOf 35 = .ok (.goto (-33), 3) := dcS2 dO_167 (by decide +kernel)
theorem dX12_prefixOf_38 : decode cX12_prefixOf 38 = .ok (.ldc 29, 2) := dcU1 dO_18 (by decide +kernel)
theorem dX12_prefixOf_40 : decode cX12_prefixOf 40 = .ok (.ireturn, 1) := dc0 dO_172 (by decide +kernel)
theorem dX12_provides_0 : decode cX12_provides 0 = .ok (.aload_n 0, 1) := dc0 dO_42 (by decide +kernel)
theorem dX12_provides_1 : decode cX12_provides 1 = .ok (.iload_n 1, 1) := dc0 dO_27 (by decide +kernel)
theorem dX12_provides_2 : decode cX12_provides 2 = .ok (.iload_n 2, 1) := dc0 dO_28 (by decide +kernel)
theorem dX12_provides_3 : decode cX12_provides 3 = .ok (.invokevirtual 43, 3) := dcU2 dO_182 (by decide +kernel)
theorem dX12_provides_6 : decode cX12_provides 6 = .ok (.istore_n 3, 1) := dc0 dO_62 (by decide +kernel)
theorem dX12_provides_7 : decode cX12_provides 7 = .ok (.iload_n 3, 1) := dc0 dO_29 (by decide +kernel)
theorem dX12_provides_8 : decode cX12_provides 8 = .ok (.ldc 29, 2) := dcU1 dO_18 (by decide +kernel)
theorem dX12_provides_10 : decode cX12_provides 10 = .ok (.if_icmp .eq 28, 3) := dcS2 dO_159 (by decide +kernel)
theorem dX12_provides_13 : decode cX12_provides 13 = .ok (.aload_n 0, 1) := dc0 dO_42 (by decide +kernel)
theorem dX12_provides_14 : decode cX12_provides 14 = .ok (.getfield 46, 3) := dcU2 dO_180 (by decide +kernel)
theorem dX12_provides_17 : decode cX12_provides 17 = .ok (.iload_n 3, 1) := dc0 dO_29 (by decide +kernel)
theorem dX12_provides_18 : decode cX12_provides 18 = .ok (.iaload, 1) := dc0 dO_46 (by decide +kernel)
theorem dX12_provides_19 : decode cX12_provides 19 = .ok (.ifCond .ne 19, 3) := dcS2 dO_154 (by decide +kernel)
theorem dX12_provides_22 : decode cX12_provides 22 = .ok (.aload_n 0, 1) := dc0 dO_42 (by decide +kernel)
theorem dX12_provides_23 : decode cX12_provides 23 = .ok (.getfield 40, 3) := dcU2 dO_180 (by decide +kernel)
theorem dX12_provides_26 : decode cX12_provides 26 = .ok (.iconst 2, 1) := dc0 dO_5 (by decide +kernel)
theorem dX12_provides_27 : decode cX12_provides 27 = .ok (.iload_n 3, 1) := dc0 dO_29 (by decide +kernel)
theorem dX12_provides_28 : decode cX12_provides 28 = .ok (.imul, 1) := dc0 dO_104 (by decide +kernel)
theorem dX12_provides_29 : decode cX12_provides 29 = .ok (.iaload, 1) := dc0 dO_46 (by decide +kernel)
theorem dX12_provides_30 : decode cX12_provides 30 = .ok (.iload_n 1, 1) := dc0 dO_27 (by decide +kernel)
theorem dX12_provides_31 : decode cX12_provides 31 = .ok (.if_icmp .ne 7, 3) := dcS2 dO_160 (by decide +kernel)
theorem dX12_provides_34 : decode cX12_provides 34 = .ok (.iconst 1, 1) := dc0 dO_4 (by decide +kernel)
theorem dX12_provides_35 : decode cX12_provides 35 = .ok (.goto 4, 3) := dcS2 dO_167 (by decide +kernel)
theorem dX12_provides_38 : decode cX12_provides 38 = .ok (.iconst 0, 1) := dc0 dO_3 (by decide +kernel)
theorem dX12_provides_39 : decode cX12_provides 39 = .ok (.ireturn, 1) := dc0 dO_172 (by decide +kernel)
theorem dX12_ring_0 : decode cX12_ring 0 = .ok (.iload_n 1, 1) := dc0 dO_27 (by decide +kernel)
theorem dX12_ring_1 : decode cX12_ring 1 = .ok (.ifCond .ge 6, 3) := dcS2 dO_156 (by decide +kernel)
theorem dX12_ring_4 : decode cX12_ring 4 = .ok (.ldc 29, 2) := dcU1 dO_18 (by decide +kernel)
theorem dX12_ring_6 : decode cX12_ring 6 = .ok (.ireturn, 1) := dc0 dO_172 (by decide +kernel)
theorem dX12_ring_7 : decode cX12_ring 7 = .ok (.iconst 0, 1) := dc0 dO_3 (by decide +kernel)
theorem dX12_ring_8 : decode cX12_ring 8 = .ok (.istore_n 2, 1) := dc0 dO_61 (by decide +kernel)
theorem dX12_ring_9 : decode cX12_ring 9 = .ok (.iload_n 2, 1) := dc0 dO_28 (by decide +kernel)
theorem dX12_ring_10 : decode cX12_ring 10 = .ok (.aload_n 0, 1) := dc0 dO_42 (by decide +kernel)
theorem dX12_ring_11 : decode cX12_ring 11 = .ok (.getfield 34, 3) := dcU2 dO_180 (by decide +kernel)
theorem dX12_ring_14 : decode cX12_ring 14 = .ok (.if_icmp .ge 258, 3) := dcS2 dO_162 (by decide +kernel)
theorem dX12_ring_17 : decode cX12_ring 17 = .ok (.iconst 0, 1) := dc0 dO_3 (by decide +kernel)
theorem dX12_ring_18 : decode cX12_ring 18 = .ok (.istore_n 3, 1) := dc0 dO_62 (by decide +kernel)
theorem dX12_ring_19 : decode cX12_ring 19 = .ok (.iload_n 3, 1) := dc0 dO_29 (by decide +kernel)
theorem dX12_ring_20 : decode cX12_ring 20 = .ok (.bipush 10, 2) := dcS1 dO_16 (by decide +kernel)
theorem dX12_ring_22 : decode cX12_ring 22 = .ok (.if_icmp .ge 17, 3) := dcS2 dO_162 (by decide +kernel)
theorem dX12_ring_25 : decode cX12_ring 25 = .ok (.aload_n 0, 1) := dc0 dO_42 (by decide +kernel)
theorem dX12_ring_26 : decode cX12_ring 26 = .ok (.getfield 72, 3) := dcU2 dO_180 (by decide +kernel)
theorem dX12_ring_29 : decode cX12_ring 29 = .ok (.iload_n 3, 1) := dc0 dO_29 (by decide +kernel)
theorem dX12_ring_30 : decode cX12_ring 30 = .ok (.ldc 29, 2) := dcU1 dO_18 (by decide +kernel)
theorem dX12_ring_32 : decode cX12_ring 32 = .ok (.iastore, 1) := dc0 dO_79 (by decide +kernel)
theorem dX12_ring_33 : decode cX12_ring 33 = .ok (.iinc 3 1, 3) := dcI dO_132 (by decide +kernel)
theorem dX12_ring_36 : decode cX12_ring 36 = .ok (.goto (-17), 3) := dcS2 dO_167 (by decide +kernel)
theorem dX12_ring_39 : decode cX12_ring 39 = .ok (.iconst 1, 1) := dc0 dO_4 (by decide +kernel)
theorem dX12_ring_40 : decode cX12_ring 40 = .ok (.istore_n 3, 1) := dc0 dO_62 (by decide +kernel)
theorem dX12_ring_41 : decode cX12_ring 41 = .ok (.iload_n 3, 1) := dc0 dO_29 (by decide +kernel)
theorem dX12_ring_42 : decode cX12_ring 42 = .ok (.aload_n 0, 1) := dc0 dO_42 (by decide +kernel)
theorem dX12_ring_43 : decode cX12_ring 43 = .ok (.getfield 34, 3) := dcU2 dO_180 (by decide +kernel)
theorem dX12_ring_46 : decode cX12_ring 46 = .ok (.if_icmp .gt 103, 3) := dcS2 dO_163 (by decide +kernel)
theorem dX12_ring_49 : decode cX12_ring 49 = .ok (.iconst 0, 1) := dc0 dO_3 (by decide +kernel)
theorem dX12_ring_50 : decode cX12_ring 50 = .ok (.istore 4, 2) := dcU1 dO_54 (by decide +kernel)
theorem dX12_ring_52 : decode cX12_ring 52 = .ok (.iload 4, 2) := dcU1 dO_21 (by decide +kernel)
theorem dX12_ring_54 : decode cX12_ring 54 = .ok (.aload_n 0, 1) := dc0 dO_42 (by decide +kernel)
theorem dX12_ring_55 : decode cX12_ring 55 = .ok (.getfield 34, 3) := dcU2 dO_180 (by decide +kernel)
theorem dX12_ring_58 : decode cX12_ring 58 = .ok (.if_icmp .ge 85, 3) := dcS2 dO_162 (by decide +kernel)
theorem dX12_ring_61 : decode cX12_ring 61 = .ok (.iconst 0, 1) := dc0 dO_3 (by decide +kernel)
theorem dX12_ring_62 : decode cX12_ring 62 = .ok (.istore 5, 2) := dcU1 dO_54 (by decide +kernel)
theorem dX12_ring_64 : decode cX12_ring 64 = .ok (.iload 5, 2) := dcU1 dO_21 (by decide +kernel)
theorem dX12_ring_66 : decode cX12_ring 66 = .ok (.aload_n 0, 1) := dc0 dO_42 (by decide +kernel)
theorem dX12_ring_67 : decode cX12_ring 67 = .ok (.getfield 34, 3) := dcU2 dO_180 (by decide +kernel)
theorem dX12_ring_70 : decode cX12_ring 70 = .ok (.if_icmp .ge 67, 3) := dcS2 dO_162 (by decide +kernel)
theorem dX12_ring_73 : decode cX12_ring 73 = .ok (.aload_n 0, 1) := dc0 dO_42 (by decide +kernel)
theorem dX12_ring_74 : decode cX12_ring 74 = .ok (.getfield 72, 3) := dcU2 dO_180 (by decide +kernel)
theorem dX12_ring_77 : decode cX12_ring 77 = .ok (.iload 4, 2) := dcU1 dO_21 (by decide +kernel)
theorem dX12_ring_79 : decode cX12_ring 79 = .ok (.iaload, 1) := dc0 dO_46 (by decide +kernel)
theorem dX12_ring_80 : decode cX12_ring 80 = .ok (.ldc 29, 2) := dcU1 dO_18 (by decide +kernel)
theorem dX12_ring_82 : decode cX12_ring 82 = .ok (.if_icmp .ne 55, 3) := dcS2 dO_160 (by decide +kernel)
theorem dX12_ring_85 : decode cX12_ring 85 = .ok (.aload_n 0, 1) := dc0 dO_42 (by decide +kernel)
theorem dX12_ring_86 : decode cX12_ring 86 = .ok (.iload 4, 2) := dcU1 dO_21 (by decide +kernel)
theorem dX12_ring_88 : decode cX12_ring 88 = .ok (.iload 5, 2) := dcU1 dO_21 (by decide +kernel)
theorem dX12_ring_90 : decode cX12_ring 90 = .ok (.invokevirtual 75, 3) := dcU2 dO_182 (by decide +kernel)
theorem dX12_ring_93 : decode cX12_ring 93 = .ok (.ifCond .eq 38, 3) := dcS2 dO_153 (by decide +kernel)
theorem dX12_ring_96 : decode cX12_ring 96 = .ok (.iload_n 3, 1) := dc0 dO_29 (by decide +kernel)
theorem dX12_ring_97 : decode cX12_ring 97 = .ok (.iconst 1, 1) := dc0 dO_4 (by decide +kernel)
theorem dX12_ring_98 : decode cX12_ring 98 = .ok (.if_icmp .ne 12, 3) := dcS2 dO_160 (by decide +kernel)
theorem dX12_ring_101 : decode cX12_ring 101 = .ok (.iload 5, 2) := dcU1 dO_21 (by decide +kernel)
theorem dX12_ring_103 : decode cX12_ring 103 = .ok (.iload_n 2, 1) := dc0 dO_28 (by decide +kernel)
theorem dX12_ring_104 : decode cX12_ring 104 = .ok (.if_icmp .ne 27, 3) := dcS2 dO_160 (by decide +kernel)
theorem dX12_ring_107 : decode cX12_ring 107 = .ok (.goto 16, 3) := dcS2 dO_167 (by decide +kernel)
theorem dX12_ring_110 : decode cX12_ring 110 = .ok (.aload_n 0, 1) := dc0 dO_42 (by decide +kernel)
theorem dX12_ring_111 : decode cX12_ring 111 = .ok (.getfield 72, 3) := dcU2 dO_180 (by decide +kernel)
theorem dX12_ring_114 : decode cX12_ring 114 = .ok (.iload 5, 2) := dcU1 dO_21 (by decide +kernel)
theorem dX12_ring_116 : decode cX12_ring 116 = .ok (.iaload, 1) := dc0 dO_46 (by decide +kernel)
theorem dX12_ring_117 : decode cX12_ring 117 = .ok (.iload_n 3, 1) := dc0 dO_29 (by decide +kernel)
theorem dX12_ring_118 : decode cX12_ring 118 = .ok (.iconst 1, 1) := dc0 dO_4 (by decide +kernel)
theorem dX12_ring_119 : decode cX12_ring 119 = .ok (.isub, 1) := dc0 dO_100 (by decide +kernel)
theorem dX12_ring_120 : decode cX12_ring 120 = .ok (.if_icmp .ne 11, 3) := dcS2 dO_160 (by decide +kernel)
theorem dX12_ring_123 : decode cX12_ring 123 = .ok (.aload_n 0, 1) := dc0 dO_42 (by decide +kernel)
theorem dX12_ring_124 : decode cX12_ring 124 = .ok (.getfield 72, 3) := dcU2 dO_180 (by decide +kernel)
theorem dX12_ring_127 : decode cX12_ring 127 = .ok (.iload 4, 2) := dcU1 dO_21 (by decide +kernel)
theorem sfx_cX12_ring_128 : (cX12_ring.data.toList.drop 128).take 67 = [4, 29, 79, 132, 5, 1, 167, 255, 186, 132, 4, 1, 167, 255, 168, 132, 3, 1, 167, 255, 151, 42, 180, 0, 72, 28, 46, 18, 29, 160, 0, 6, 167, 0, 106, 27, 42, 180, 0, 72, 28, 46, 161, 0, 6, 18, 29, 172, 28, 62, 3, 54, 4, 21, 4, 27, 162, 0, 80, 42, 180, 0, 72, 28, 46, 21, 4] := by decide +kernel
theorem dX12_ring_129 : decode cX12_ring 129 = .ok (.iload_n 3, 1) := dc0 dO_29 (rdB.ch sfx_cX12_ring_128 1 rfl (by decide +kernel))
theorem dX12_ring_130 : decode cX12_ring 130 = .ok (.iastore, 1) := dc0 dO_79 (rdB.ch sfx_cX12_ring_128 2 rfl (by decide +kernel))
theorem dX12_ring_131 : decode cX12_ring 131 = .ok (.iinc 5 1, 3) := dcI dO_132 (rdI.ch sfx_cX12_ring_128 3 rfl (by decide +kernel))
theorem dX12_ring_134 : decode cX12_ring 134 = .ok (.goto (-70), 3) := dcS2 dO_167 (rdS2.ch sfx_cX12_ring_128 6 rfl (by decide +kernel))
theorem dX12_ring_137 : decode cX12_ring 137 = .ok (.iinc 4 1, 3) := dcI dO_132 (rdI.ch sfx_cX12_ring_128 9 rfl (by decide +kernel))
theorem dX12_ring_140 : decode cX12_ring 140 = .ok (.goto (-88), 3) := dcS2 dO_167 (rdS2.ch sfx_cX12_ring_128 12 rfl (by decide +kernel))
theorem dX12_ring_143 : decode cX12_ring 143 = .ok (.iinc 3 1, 3) := dcI dO_132 (rdI.ch sfx_cX12_ring_128 15 rfl (by decide +kernel))
theorem dX12_ring_146 : decode cX12_ring 146 = .ok (.goto (-105), 3) := dcS2 dO_167 (rdS2.ch sfx_cX12_ring_128 18 rfl (by decide +kernel))
theorem dX12_ring_149 : decode cX12_ring 149 = .ok (.aload_n 0, 1) := dc0 dO_42 (rdB.ch sfx_cX12_ring_128 21 rfl (by decide +kernel))
theorem dX12_ring_150 : decode cX12_ring 150 = .ok (.getfield 72, 3) := dcU2 dO_180 (rdU2.ch sfx_cX12_ring_128 22 rfl (by decide +kernel))
theorem dX12_ring_153 : decode cX12_ring 153 = .ok (.iload_n 2, 1) := dc0 dO_28 (rdB.ch sfx_cX12_ring_128 25 rfl (by decide +kernel))
theorem dX12_ring_154 : decode cX12_ring 154 = .ok (.iaload, 1) := dc0 dO_46 (rdB.ch sfx_cX12_ring_128 26 rfl (by decide +kernel))
theorem dX12_ring_155 : decode cX12_ring 155 = .ok (.ldc 29, 2) := dcU1 dO_18 (rdU1.ch sfx_cX12_ring_128 27 rfl (by decide +kernel))
theorem dX12_ring_157 : decode cX12_ring 157 = .ok (.if_icmp .ne 6, 3) := dcS2 dO_160 (rdS2.ch sfx_cX12_ring_128 29 rfl (by decide +kernel))
theorem dX12_ring_160 : decode cX12_ring 160 = .ok (.goto 106, 3) := dcS2 dO_167 (rdS2.ch sfx_cX12_ring_128 32 rfl (by decide +kernel))
theorem dX12_ring_163 : decode cX12_ring 163 = .ok (.iload_n 1, 1) := dc0 dO_27 (rdB.ch sfx_cX12_ring_128 35 rfl (by decide +kernel))
theorem dX12_ring_164 : decode cX12_ring 164 = .ok (.aload_n 0, 1) := dc0 dO_42 (rdB.ch sfx_cX12_ring_128 36 rfl (by decide +kernel))
theorem dX12_ring_165 : decode cX12_ring 165 = .ok (.getfield 72, 3) := dcU2 dO_180 (rdU2.ch sfx_cX12_ring_128 37 rfl (by decide +kernel))
theorem dX12_ring_168 : decode cX12_ring 168 = .ok (.iload_n 2, 1) := dc0 dO_28 (rdB.ch sfx_cX12_ring_128 40 rfl (by decide +kernel))
theorem dX12_ring_169 : decode cX12_ring 169 = .ok (.iaload, 1) := dc0 dO_46 (rdB.ch sfx_cX12_ring_128 41 rfl (by decide +kernel))
theorem dX12_ring_170 : decode cX12_ring 170 = .ok (.if_icmp .lt 6, 3) := dcS2 dO_161 (rdS2.ch sfx_cX12_ring_128 42 rfl (by decide +kernel))
theorem dX12_ring_173 : decode cX12_ring 173 = .ok (.ldc 29, 2) := dcU1 dO_18 (rdU1.ch sfx_cX12_ring_128 45 rfl (by decide +kernel))
theorem dX12_ring_175 : decode cX12_ring 175 = .ok (.ireturn, 1) := dc0 dO_172 (rdB.ch sfx_cX12_ring_128 47 rfl (by decide +kernel))
theorem dX12_ring_176 : decode cX12_ring 176 = .ok (.iload_n 2, 1) := dc0 dO_28 (rdB.ch sfx_cX12_ring_128 48 rfl (by decide +kernel))
theorem dX12_ring_177 : decode cX12_ring 177 = .ok (.istore_n 3, 1) := dc0 dO_62 (rdB.ch sfx_cX12_ring_128 49 rfl (by decide +kernel))
theorem dX12_ring_178 : decode cX12_ring 178 = .ok (.iconst 0, 1) := dc0 dO_3 (rdB.ch sfx_cX12_ring_128 50 rfl (by decide +kernel))
theorem dX12_ring_179 : decode cX12_ring 179 = .ok (.istore 4, 2) := dcU1 dO_54 (rdU1.ch sfx_cX12_ring_128 51 rfl (by decide +kernel))
theorem dX12_ring_181 : decode cX12_ring 181 = .ok (.iload 4, 2) := dcU1 dO_21 (rdU1.ch sfx_cX12_ring_128 53 rfl (by decide +kernel))
theorem dX12_ring_183 : decode cX12_ring 183 = .ok (.iload_n 1, 1) := dc0 dO_27 (rdB.ch sfx_cX12_ring_128 55 rfl (by decide +kernel))
theorem dX12_ring_184 : decode cX12_ring 184 = .ok (.if_icmp .ge 80, 3) := dcS2 dO_162 (rdS2.ch sfx_cX12_ring_128 56 rfl (by decide +kernel))
theorem dX12_ring_187 : decode cX12_ring 187 = .ok (.aload_n 0, 1) := dc0 dO_42 (rdB.ch sfx_cX12_ring_128 59 rfl (by decide +kernel))
theorem dX12_ring_188 : decode cX12_ring 188 = .ok (.getfield 72, 3) := dcU2 dO_180 (rdU2.ch sfx_cX12_ring_128 60 rfl (by decide +kernel))
theorem dX12_ring_191 : decode cX12_ring 191 = .ok (.iload_n 2, 1) := dc0 dO_28 (rdB.ch sfx_cX12_ring_128 63 rfl (by decide +kernel))
theorem sfx_cX12_ring_192 : (cX12_ring.data.toList.drop 192).take 67 = [46, 21, 4, 100, 4, 100, 54, 5, 18, 29, 54, 6, 3, 54, 7, 21, 7, 42, 180, 0, 34, 162, 0, 42, 21, 6, 18, 29, 160, 0, 35, 42, 29, 21, 7, 182, 0, 75, 153, 0, 19, 42, 180, 0, 72, 21, 7, 46, 21, 5, 160, 0, 7, 21, 7, 54, 6, 132, 7, 1, 167, 255, 211, 21, 6, 62, 132] := by decide +kernel
theorem dX12_ring_192 : decode cX12_ring 192 = .ok (.iaload, 1) := dc0 dO_46 (rdB.ch sfx_cX12_ring_192 0 rfl (by decide +kernel))
theorem dX12_ring_193 : decode cX12_ring 193 = .ok (.iload 4, 2) := dcU1 dO_21 (rdU1.ch sfx_cX12_ring_192 1 rfl (by decide +kernel))
theorem dX12_ring_195 : decode cX12_ring 195 = .ok (.isub, 1) := dc0 dO_100 (rdB.ch sfx_cX12_ring_192 3 rfl (by decide +kernel))
theorem dX12_ring_196 : decode cX12_ring 196 = .ok (.iconst 1, 1) := dc0 dO_4 (rdB.ch sfx_cX12_ring_192 4 rfl (by decide +kernel))
theorem dX12_ring_197 : decode cX12_ring 197 = .ok (.isub, 1) := dc0 dO_100 (rdB.ch sfx_cX12_ring_192 5 rfl (by decide +kernel))
theorem dX12_ring_198 : decode cX12_ring 198 = .ok (.istore 5, 2) := dcU1 dO_54 (rdU1.ch sfx_cX12_ring_192 6 rfl (by decide +kernel))
theorem dX12_ring_200 : decode cX12_ring 200 = .ok (.ldc 29, 2) := dcU1 dO_18 (rdU1.ch sfx_cX12_ring_192 8 rfl (by decide +kernel))
theorem dX12_ring_202 : decode cX12_ring 202 = .ok (.istore 6, 2) := dcU1 dO_54 (rdU1.ch sfx_cX12_ring_192 10 rfl (by decide +kernel))
theorem dX12_ring_204 : decode cX12_ring 204 = .ok (.iconst 0, 1) := dc0 dO_3 (rdB.ch sfx_cX12_ring_192 12 rfl (by decide +kernel))
theorem dX12_ring_205 : decode cX12_ring 205 = .ok (.istore 7, 2) := dcU1 dO_54 (rdU1.ch sfx_cX12_ring_192 13 rfl (by decide +kernel))
theorem dX12_ring_207 : decode cX12_ring 207 = .ok (.iload 7, 2) := dcU1 dO_21 (rdU1.ch sfx_cX12_ring_192 15 rfl (by decide +kernel))
theorem dX12_ring_209 : decode cX12_ring 209 = .ok (.aload_n 0, 1) := dc0 dO_42 (rdB.ch sfx_cX12_ring_192 17 rfl (by decide +kernel))
theorem dX12_ring_210 : decode cX12_ring 210 = .ok (.getfield 34, 3) := dcU2 dO_180 (rdU2.ch sfx_cX12_ring_192 18 rfl (by decide +kernel))
theorem dX12_ring_213 : decode cX12_ring 213 = .ok (.if_icmp .ge 42, 3) := dcS2 dO_162 (rdS2.ch sfx_cX12_ring_192 21 rfl (by decide +kernel))
theorem dX12_ring_216 : decode cX12_ring 216 = .ok (.iload 6, 2) := dcU1 dO_21 (rdU1.ch sfx_cX12_ring_192 24 rfl (by decide +kernel))
theorem dX12_ring_218 : decode cX12_ring 218 = .ok (.ldc 29, 2) := dcU1 dO_18 (rdU1.ch sfx_cX12_ring_192 26 rfl (by decide +kernel))
theorem dX12_ring_220 : decode cX12_ring 220 = .ok (.if_icmp .ne 35, 3) := dcS2 dO_160 (rdS2.ch sfx_cX12_ring_192 28 rfl (by decide +kernel))
theorem dX12_ring_223 : decode cX12_ring 223 = .ok (.aload_n 0, 1) := dc0 dO_42 (rdB.ch sfx_cX12_ring_192 31 rfl (by decide +kernel))
theorem dX12_ring_224 : decode cX12_ring 224 = .ok (.iload_n 3, 1) := dc0 dO_29 (rdB.ch sfx_cX12_ring_192 32 rfl (by decide +kernel))
theorem dX12_ring_225 : decode cX12_ring 225 = .ok (.iload 7, 2) := dcU1 dO_21 (rdU1.ch sfx_cX12_ring_192 33 rfl (by decide +kernel))
theorem dX12_ring_227 : decode cX12_ring 227 = .ok (.invokevirtual 75, 3) := dcU2 dO_182 (rdU2.ch sfx_cX12_ring_192 35 rfl (by decide +kernel))
theorem dX12_ring_230 : decode cX12_ring 230 = .ok (.ifCond .eq 19, 3) := dcS2 dO_153 (rdS2.ch sfx_cX12_ring_192 38 rfl (by decide +kernel))
theorem dX12_ring_233 : decode cX12_ring 233 = .ok (.aload_n 0, 1) := dc0 dO_42 (rdB.ch sfx_cX12_ring_192 41 rfl (by decide +kernel))
theorem dX12_ring_234 : decode cX12_ring 234 = .ok (.getfield 72, 3) := dcU2 dO_180 (rdU2.ch sfx_cX12_ring_192 42 rfl (by decide +kernel))
theorem dX12_ring_237 : decode cX12_ring 237 = .ok (.iload 7, 2) := dcU1 dO_21 (rdU1.ch sfx_cX12_ring_192 45 rfl (by decide +kernel))
theorem dX12_ring_239 : decode cX12_ring 239 = .ok (.iaload, 1) := dc0 dO_46 (rdB.ch sfx_cX12_ring_192 47 rfl (by decide +kernel))
theorem dX12_ring_240 : decode cX12_ring 240 = .ok (.iload 5, 2) := dcU1 dO_21 (rdU1.ch sfx_cX12_ring_192 48 rfl (by decide +kernel))
theorem dX12_ring_242 : decode cX12_ring 242 = .ok (.if_icmp .ne 7, 3) := dcS2 dO_160 (rdS2.ch sfx_cX12_ring_192 50 rfl (by decide +kernel))
theorem dX12_ring_245 : decode cX12_ring 245 = .ok (.iload 7, 2) := dcU1 dO_21 (rdU1.ch sfx_cX12_ring_192 53 rfl (by decide +kernel))
theorem dX12_ring_247 : decode cX12_ring 247 = .ok (.istore 6, 2) := dcU1 dO_54 (rdU1.ch sfx_cX12_ring_192 55 rfl (by decide +kernel))
theorem dX12_ring_249 : decode cX12_ring 249 = .ok (.iinc 7 1, 3) := dcI dO_132 (rdI.ch sfx_cX12_ring_192 57 rfl (by decide +kernel))
theorem dX12_ring_252 : decode cX12_ring 252 = .ok (.goto (-45), 3) := dcS2 dO_167 (rdS2.ch sfx_cX12_ring_192 60 rfl (by decide +kernel))
theorem dX12_ring_255 : decode cX12_ring 255 = .ok (.iload 6, 2) := dcU1 dO_21 (rdU1.ch sfx_cX12_ring_192 63 rfl (by decide +kernel))
theorem sfx_cX12_ring_256 : (cX12_ring.data.toList.drop 256).take 67 = [6, 62, 132, 4, 1, 167, 255, 176, 29, 172, 132, 2, 1, 167, 254, 252, 18, 29, 172] := by decide +kernel
theorem dX12_ring_257 : decode cX12_ring 257 = .ok (.istore_n 3, 1) := dc0 dO_62 (rdB.ch sfx_cX12_ring_256 1 rfl (by decide +kernel))
theorem dX12_ring_258 : decode cX12_ring 258 = .ok (.iinc 4 1, 3) := dcI dO_132 (rdI.ch sfx_cX12_ring_256 2 rfl (by decide +kernel))
theorem dX12_ring_261 : decode cX12_ring 261 = .ok (.goto (-80), 3) := dcS2 dO_167 (rdS2.ch sfx_cX12_ring_256 5 rfl (by decide +kernel))
theorem dX12_ring_264 : decode cX12_ring 264 = .ok (.iload_n 3, 1) := dc0 dO_29 (rdB.ch sfx_cX12_ring_256 8 rfl (by decide +kernel))
theorem dX12_ring_265 : decode cX12_ring 265 = .ok (.ireturn, 1) := dc0 dO_172 (rdB.ch sfx_cX12_ring_256 9 rfl (by decide +kernel))
theorem dX12_ring_266 : decode cX12_ring 266 = .ok (.iinc 2 1, 3) := dcI dO_132 (rdI.ch sfx_cX12_ring_256 10 rfl (by decide +kernel))
theorem dX12_ring_269 : decode cX12_ring 269 = .ok (.goto (-260), 3) := dcS2 dO_167 (rdS2.ch sfx_cX12_ring_256 13 rfl (by decide +kernel))
theorem dX12_ring_272 : decode cX12_ring 272 = .ok (.ldc 29, 2) := dcU1 dO_18 (rdU1.ch sfx_cX12_ring_256 16 rfl (by decide +kernel))
theorem dX12_ring_274 : decode cX12_ring 274 = .ok (.ireturn, 1) := dc0 dO_172 (rdB.ch sfx_cX12_ring_256 18 rfl (by decide +kernel))
theorem dX12_same_0 : decode cX12_same 0 = .ok (.aload_n 0, 1) := dc0 dO_42 (by decide +kernel)
theorem dX12_same_1 : decode cX12_same 1 = .ok (.iload_n 1, 1) := dc0 dO_27 (by decide +kernel)
theorem dX12_same_2 : decode cX12_same 2 = .ok (.invokevirtual 151, 3) := dcU2 dO_182 (by decide +kernel)
theorem dX12_same_5 : decode cX12_same 5 = .ok (.ifCond .eq 11, 3) := dcS2 dO_153 (by decide +kernel)
theorem dX12_same_8 : decode cX12_same 8 = .ok (.aload_n 0, 1) := dc0 dO_42 (by decide +kernel)
theorem dX12_same_9 : decode cX12_same 9 = .ok (.iload_n 2, 1) := dc0 dO_28 (by decide +kernel)
theorem dX12_same_10 : decode cX12_same 10 = .ok (.invokevirtual 151, 3) := dcU2 dO_182 (by decide +kernel)
theorem dX12_same_13 : decode cX12_same 13 = .ok (.ifCond .ne 22, 3) := dcS2 dO_154 (by decide +kernel)
theorem dX12_same_16 : decode cX12_same 16 = .ok (.aload_n 0, 1) := dc0 dO_42 (by decide +kernel)
theorem dX12_same_17 : decode cX12_same 17 = .ok (.iload_n 1, 1) := dc0 dO_27 (by decide +kernel)
theorem dX12_same_18 : decode cX12_same 18 = .ok (.invokevirtual 151, 3) := dcU2 dO_182 (by decide +kernel)
theorem dX12_same_21 : decode cX12_same 21 = .ok (.aload_n 0, 1) := dc0 dO_42 (by decide +kernel)
theorem dX12_same_22 : decode cX12_same 22 = .ok (.iload_n 2, 1) := dc0 dO_28 (by decide +kernel)
theorem dX12_same_23 : decode cX12_same 23 = .ok (.invokevirtual 151, 3) := dcU2 dO_182 (by decide +kernel)
theorem dX12_same_26 : decode cX12_same 26 = .ok (.if_icmp .ne 7, 3) := dcS2 dO_160 (by decide +kernel)
theorem dX12_same_29 : decode cX12_same 29 = .ok (.iconst 1, 1) := dc0 dO_4 (by decide +kernel)
theorem dX12_same_30 : decode cX12_same 30 = .ok (.goto 4, 3) := dcS2 dO_167 (by decide +kernel)
theorem dX12_same_33 : decode cX12_same 33 = .ok (.iconst 0, 1) := dc0 dO_3 (by decide +kernel)
theorem dX12_same_34 : decode cX12_same 34 = .ok (.ireturn, 1) := dc0 dO_172 (by decide +kernel)
theorem dX12_same_35 : decode cX12_same 35 = .ok (.iconst 1, 1) := dc0 dO_4 (by decide +kernel)
theorem dX12_same_36 : decode cX12_same 36 = .ok (.istore_n 3, 1) := dc0 dO_62 (by decide +kernel)
theorem dX12_same_37 : decode cX12_same 37 = .ok (.iconst 0, 1) := dc0 dO_3 (by decide +kernel)
theorem dX12_same_38 : decode cX12_same 38 = .ok (.istore 4, 2) := dcU1 dO_54 (by decide +kernel)
theorem dX12_same_40 : decode cX12_same 40 = .ok (.iload 4, 2) := dcU1 dO_21 (by decide +kernel)
theorem dX12_same_42 : decode cX12_same 42 = .ok (.bipush 6, 2) := dcS1 dO_16 (by decide +kernel)
theorem dX12_same_44 : decode cX12_same 44 = .ok (.if_icmp .ge 46, 3) := dcS2 dO_162 (by decide +kernel)
theorem dX12_same_47 : decode cX12_same 47 = .ok (.iload_n 3, 1) := dc0 dO_29 (by decide +kernel)
theorem dX12_same_48 : decode cX12_same 48 = .ok (.ifCond .eq 34, 3) := dcS2 dO_153 (by decide +kernel)
theorem dX12_same_51 : decode cX12_same 51 = .ok (.aload_n 0, 1) := dc0 dO_42 (by decide +kernel)
theorem dX12_same_52 : decode cX12_same 52 = .ok (.getfield 148, 3) := dcU2 dO_180 (by decide +kernel)
theorem dX12_same_55 : decode cX12_same 55 = .ok (.bipush 40, 2) := dcS1 dO_16 (by decide +kernel)
theorem dX12_same_57 : decode cX12_same 57 = .ok (.iload_n 1, 1) := dc0 dO_27 (by decide +kernel)
theorem dX12_same_58 : decode cX12_same 58 = .ok (.imul, 1) := dc0 dO_104 (by decide +kernel)
theorem dX12_same_59 : decode cX12_same 59 = .ok (.iload 4, 2) := dcU1 dO_21 (by decide +kernel)
theorem dX12_same_61 : decode cX12_same 61 = .ok (.iadd, 1) := dc0 dO_96 (by decide +kernel)
theorem dX12_same_62 : decode cX12_same 62 = .ok (.iaload, 1) := dc0 dO_46 (by decide +kernel)
theorem dX12_same_63 : decode cX12_same 63 = .ok (.aload_n 0, 1) := dc0 dO_42 (by decide +kernel)
theorem dX12_same_64 : decode cX12_same 64 = .ok (.getfield 148, 3) := dcU2 dO_180 (by decide +kernel)
theorem dX12_same_67 : decode cX12_same 67 = .ok (.bipush 40, 2) := dcS1 dO_16 (by decide +kernel)
theorem dX12_same_69 : decode cX12_same 69 = .ok (.iload_n 2, 1) := dc0 dO_28 (by decide +kernel)
theorem dX12_same_70 : decode cX12_same 70 = .ok (.imul, 1) := dc0 dO_104 (by decide +kernel)
theorem dX12_same_71 : decode cX12_same 71 = .ok (.iload 4, 2) := dcU1 dO_21 (by decide +kernel)
theorem dX12_same_73 : decode cX12_same 73 = .ok (.iadd, 1) := dc0 dO_96 (by decide +kernel)
theorem dX12_same_74 : decode cX12_same 74 = .ok (.iaload, 1) := dc0 dO_46 (by decide +kernel)
theorem dX12_same_75 : decode cX12_same 75 = .ok (.if_icmp .ne 7, 3) := dcS2 dO_160 (by decide +kernel)
theorem dX12_same_78 : decode cX12_same 78 = .ok (.iconst 1, 1) := dc0 dO_4 (by decide +kernel)
theorem dX12_same_79 : decode cX12_same 79 = .ok (.goto 4, 3) := dcS2 dO_167 (by decide +kernel)
theorem dX12_same_82 : decode cX12_same 82 = .ok (.iconst 0, 1) := dc0 dO_3 (by decide +kernel)
theorem dX12_same_83 : decode cX12_same 83 = .ok (.istore_n 3, 1) := dc0 dO_62 (by decide +kernel)
theorem dX12_same_84 : decode cX12_same 84 = .ok (.iinc 4 1, 3) := dcI dO_132 (by decide +kernel)
theorem dX12_same_87 : decode cX12_same 87 = .ok (.goto (-47), 3) := dcS2 dO_167 (by decide +kernel)
theorem dX12_same_90 : decode cX12_same 90 = .ok (.iconst 0, 1) := dc0 dO_3 (by decide +kernel)
theorem dX12_same_91 : decode cX12_same 91 = .ok (.istore 4, 2) := dcU1 dO_54 (by decide +kernel)
theorem dX12_same_93 : decode cX12_same 93 = .ok (.iload 4, 2) := dcU1 dO_21 (by decide +kernel)
theorem dX12_same_95 : decode cX12_same 95 = .ok (.bipush 20, 2) := dcS1 dO_16 (by decide +kernel)
theorem dX12_same_97 : decode cX12_same 97 = .ok (.if_icmp .ge 68, 3) := dcS2 dO_162 (by decide +kernel)
theorem dX12_same_100 : decode cX12_same 100 = .ok (.iload_n 3, 1) := dc0 dO_29 (by decide +kernel)
theorem dX12_same_101 : decode cX12_same 101 = .ok (.ifCond .eq 64, 3) := dcS2 dO_153 (by decide +kernel)
theorem dX12_same_104 : decode cX12_same 104 = .ok (.iload 4, 2) := dcU1 dO_21 (by decide +kernel)
theorem dX12_same_106 : decode cX12_same 106 = .ok (.aload_n 0, 1) := dc0 dO_42 (by decide +kernel)
theorem dX12_same_107 : decode cX12_same 107 = .ok (.getfield 148, 3) := dcU2 dO_180 (by decide +kernel)
theorem dX12_same_110 : decode cX12_same 110 = .ok (.bipush 40, 2) := dcS1 dO_16 (by decide +kernel)
theorem dX12_same_112 : decode cX12_same 112 = .ok (.iload_n 1, 1) := dc0 dO_27 (by decide +kernel)
theorem dX12_same_113 : decode cX12_same 113 = .ok (.imul, 1) := dc0 dO_104 (by decide +kernel)
theorem dX12_same_114 : decode cX12_same 114 = .ok (.iconst 4, 1) := dc0 dO_7 (by decide +kernel)
theorem dX12_same_115 : decode cX12_same 115 = .ok (.iadd, 1) := dc0 dO_96 (by decide +kernel)
theorem dX12_same_116 : decode cX12_same 116 = .ok (.iaload, 1) := dc0 dO_46 (by decide +kernel)
theorem dX12_same_117 : decode cX12_same 117 = .ok (.if_icmp .ge 36, 3) := dcS2 dO_162 (by decide +kernel)
theorem dX12_same_120 : decode cX12_same 120 = .ok (.aload_n 0, 1) := dc0 dO_42 (by decide +kernel)
theorem dX12_same_121 : decode cX12_same 121 = .ok (.getfield 148, 3) := dcU2 dO_180 (by decide +kernel)
theorem dX12_same_124 : decode cX12_same 124 = .ok (.bipush 40, 2) := dcS1 dO_16 (by decide +kernel)
theorem dX12_same_126 : decode cX12_same 126 = .ok (.iload_n 1, 1) := dc0 dO_27 (by decide +kernel)
theorem dX12_same_127 : decode cX12_same 127 = .ok (.imul, 1) := dc0 dO_104 (by decide +kernel)
theorem sfx_cX12_same_128 : (cX12_same.data.toList.drop 128).take 67 = [16, 6, 96, 21, 4, 96, 46, 42, 180, 0, 148, 16, 40, 28, 104, 16, 6, 96, 21, 4, 96, 46, 160, 0, 7, 4, 167, 0, 4, 3, 62, 132, 4, 1, 167, 255, 187, 3, 54, 4, 21, 4, 16, 8, 162, 0, 68, 29, 153, 0, 64, 21, 4, 42, 180, 0, 148, 16, 40, 27, 104, 8, 96, 46, 162, 0, 36] := by decide +kernel
theorem dX12_same_128 : decode cX12_same 128 = .ok (.bipush 6, 2) := dcS1 dO_16 (rdS1.ch sfx_cX12_same_128 0 rfl (by decide +kernel))
theorem dX12_same_130 : decode cX12_same 130 = .ok (.iadd, 1) := dc0 dO_96 (rdB.ch sfx_cX12_same_128 2 rfl (by decide +kernel))
theorem dX12_same_131 : decode cX12_same 131 = .ok (.iload 4, 2) := dcU1 dO_21 (rdU1.ch sfx_cX12_same_128 3 rfl (by decide +kernel))
theorem dX12_same_133 : decode cX12_same 133 = .ok (.iadd, 1) := dc0 dO_96 (rdB.ch sfx_cX12_same_128 5 rfl (by decide +kernel))
theorem dX12_same_134 : decode cX12_same 134 = .ok (.iaload, 1) := dc0 dO_46 (rdB.ch sfx_cX12_same_128 6 rfl (by decide +kernel))
theorem dX12_same_135 : decode cX12_same 135 = .ok (.aload_n 0, 1) := dc0 dO_42 (rdB.ch sfx_cX12_same_128 7 rfl (by decide +kernel))
theorem dX12_same_136 : decode cX12_same 136 = .ok (.getfield 148, 3) := dcU2 dO_180 (rdU2.ch sfx_cX12_same_128 8 rfl (by decide +kernel))
theorem dX12_same_139 : decode cX12_same 139 = .ok (.bipush 40, 2) := dcS1 dO_16 (rdS1.ch sfx_cX12_same_128 11 rfl (by decide +kernel))
theorem dX12_same_141 : decode cX12_same 141 = .ok (.iload_n 2, 1) := dc0 dO_28 (rdB.ch sfx_cX12_same_128 13 rfl (by decide +kernel))
theorem dX12_same_142 : decode cX12_same 142 = .ok (.imul, 1) := dc0 dO_104 (rdB.ch sfx_cX12_same_128 14 rfl (by decide +kernel))
theorem dX12_same_143 : decode cX12_same 143 = .ok (.bipush 6, 2) := dcS1 dO_16 (rdS1.ch sfx_cX12_same_128 15 rfl (by decide +kernel))
theorem dX12_same_145 : decode cX12_same 145 = .ok (.iadd, 1) := dc0 dO_96 (rdB.ch sfx_cX12_same_128 17 rfl (by decide +kernel))
theorem dX12_same_146 : decode cX12_same 146 = .ok (.iload 4, 2) := dcU1 dO_21 (rdU1.ch sfx_cX12_same_128 18 rfl (by decide +kernel))
theorem dX12_same_148 : decode cX12_same 148 = .ok (.iadd, 1) := dc0 dO_96 (rdB.ch sfx_cX12_same_128 20 rfl (by decide +kernel))
theorem dX12_same_149 : decode cX12_same 149 = .ok (.iaload, 1) := dc0 dO_46 (rdB.ch sfx_cX12_same_128 21 rfl (by decide +kernel))
theorem dX12_same_150 : decode cX12_same 150 = .ok (.if_icmp .ne 7, 3) := dcS2 dO_160 (rdS2.ch sfx_cX12_same_128 22 rfl (by decide +kernel))
theorem dX12_same_153 : decode cX12_same 153 = .ok (.iconst 1, 1) := dc0 dO_4 (rdB.ch sfx_cX12_same_128 25 rfl (by decide +kernel))
theorem dX12_same_154 : decode cX12_same 154 = .ok (.goto 4, 3) := dcS2 dO_167 (rdS2.ch sfx_cX12_same_128 26 rfl (by decide +kernel))
theorem dX12_same_157 : decode cX12_same 157 = .ok (.iconst 0, 1) := dc0 dO_3 (rdB.ch sfx_cX12_same_128 29 rfl (by decide +kernel))
theorem dX12_same_158 : decode cX12_same 158 = .ok (.istore_n 3, 1) := dc0 dO_62 (rdB.ch sfx_cX12_same_128 30 rfl (by decide +kernel))
theorem dX12_same_159 : decode cX12_same 159 = .ok (.iinc 4 1, 3) := dcI dO_132 (rdI.ch sfx_cX12_same_128 31 rfl (by decide +kernel))
theorem dX12_same_162 : decode cX12_same 162 = .ok (.goto (-69), 3) := dcS2 dO_167 (rdS2.ch sfx_cX12_same_128 34 rfl (by decide +kernel))
theorem dX12_same_165 : decode cX12_same 165 = .ok (.iconst 0, 1) := dc0 dO_3 (rdB.ch sfx_cX12_same_128 37 rfl (by decide +kernel))
theorem dX12_same_166 : decode cX12_same 166 = .ok (.istore 4, 2) := dcU1 dO_54 (rdU1.ch sfx_cX12_same_128 38 rfl (by decide +kernel))
theorem dX12_same_168 : decode cX12_same 168 = .ok (.iload 4, 2) := dcU1 dO_21 (rdU1.ch sfx_cX12_same_128 40 rfl (by decide +kernel))
theorem dX12_same_170 : decode cX12_same 170 = .ok (.bipush 8, 2) := dcS1 dO_16 (rdS1.ch sfx_cX12_same_128 42 rfl (by decide +kernel))
theorem dX12_same_172 : decode cX12_same 172 = .ok (.if_icmp .ge 68, 3) := dcS2 dO_162 (rdS2.ch sfx_cX12_same_128 44 rfl (by decide +kernel))
theorem dX12_same_175 : decode cX12_same 175 = .ok (.iload_n 3, 1) := dc0 dO_29 (rdB.ch sfx_cX12_same_128 47 rfl (by decide +kernel))
theorem dX12_same_176 : decode cX12_same 176 = .ok (.ifCond .eq 64, 3) := dcS2 dO_153 (rdS2.ch sfx_cX12_same_128 48 rfl (by decide +kernel))
theorem dX12_same_179 : decode cX12_same 179 = .ok (.iload 4, 2) := dcU1 dO_21 (rdU1.ch sfx_cX12_same_128 51 rfl (by decide +kernel))
theorem dX12_same_181 : decode cX12_same 181 = .ok (.aload_n 0, 1) := dc0 dO_42 (rdB.ch sfx_cX12_same_128 53 rfl (by decide +kernel))
theorem dX12_same_182 : decode cX12_same 182 = .ok (.getfield 148, 3) := dcU2 dO_180 (rdU2.ch sfx_cX12_same_128 54 rfl (by decide +kernel))
theorem dX12_same_185 : decode cX12_same 185 = .ok (.bipush 40, 2) := dcS1 dO_16 (rdS1.ch sfx_cX12_same_128 57 rfl (by decide +kernel))
theorem dX12_same_187 : decode cX12_same 187 = .ok (.iload_n 1, 1) := dc0 dO_27 (rdB.ch sfx_cX12_same_128 59 rfl (by decide +kernel))
theorem dX12_same_188 : decode cX12_same 188 = .ok (.imul, 1) := dc0 dO_104 (rdB.ch sfx_cX12_same_128 60 rfl (by decide +kernel))
theorem dX12_same_189 : decode cX12_same 189 = .ok (.iconst 5, 1) := dc0 dO_8 (rdB.ch sfx_cX12_same_128 61 rfl (by decide +kernel))
theorem dX12_same_190 : decode cX12_same 190 = .ok (.iadd, 1) := dc0 dO_96 (rdB.ch sfx_cX12_same_128 62 rfl (by decide +kernel))
theorem dX12_same_191 : decode cX12_same 191 = .ok (.iaload, 1) := dc0 dO_46 (rdB.ch sfx_cX12_same_128 63 rfl (by decide +kernel))
theorem sfx_cX12_same_192 : (cX12_same.data.toList.drop 192).take 67 = [162, 0, 36, 42, 180, 0, 148, 16, 40, 27, 104, 16, 26, 96, 21, 4, 96, 46, 42, 180, 0, 148, 16, 40, 28, 104, 16, 26, 96, 21, 4, 96, 46, 160, 0, 7, 4, 167, 0, 4, 3, 62, 132, 4, 1, 167, 255, 187, 29, 172] := by decide +kernel
theorem dX12_same_192 : decode cX12_same 192 = .ok (.if_icmp .ge 36, 3) := dcS2 dO_162 (rdS2.ch sfx_cX12_same_192 0 rfl (by decide +kernel))
theorem dX12_same_195 : decode cX12_same 195 = .ok (.aload_n 0, 1) := dc0 dO_42 (rdB.ch sfx_cX12_same_192 3 rfl (by decide +kernel))
theorem dX12_same_196 : decode cX12_same 196 = .ok (.getfield 148, 3) := dcU2 dO_180 (rdU2.ch sfx_cX12_same_192 4 rfl (by decide +kernel))
theorem dX12_same_199 : decode cX12_same 199 = .ok (.bipush 40, 2) := dcS1 dO_16 (rdS1.ch sfx_cX12_same_192 7 rfl (by decide +kernel))
theorem dX12_same_201 : decode cX12_same 201 = .ok (.iload_n 1, 1) := dc0 dO_27 (rdB.ch sfx_cX12_same_192 9 rfl (by decide +kernel))
theorem dX12_same_202 : decode cX12_same 202 = .ok (.imul, 1) := dc0 dO_104 (rdB.ch sfx_cX12_same_192 10 rfl (by decide +kernel))
theorem dX12_same_203 : decode cX12_same 203 = .ok (.bipush 26, 2) := dcS1 dO_16 (rdS1.ch sfx_cX12_same_192 11 rfl (by decide +kernel))
theorem dX12_same_205 : decode cX12_same 205 = .ok (.iadd, 1) := dc0 dO_96 (rdB.ch sfx_cX12_same_192 13 rfl (by decide +kernel))
theorem dX12_same_206 : decode cX12_same 206 = .ok (.iload 4, 2) := dcU1 dO_21 (rdU1.ch sfx_cX12_same_192 14 rfl (by decide +kernel))
theorem dX12_same_208 : decode cX12_same 208 = .ok (.iadd, 1) := dc0 dO_96 (rdB.ch sfx_cX12_same_192 16 rfl (by decide +kernel))
theorem dX12_same_209 : decode cX12_same 209 = .ok (.iaload, 1) := dc0 dO_46 (rdB.ch sfx_cX12_same_192 17 rfl (by decide +kernel))
theorem dX12_same_210 : decode cX12_same 210 = .ok (.aload_n 0, 1) := dc0 dO_42 (rdB.ch sfx_cX12_same_192 18 rfl (by decide +kernel))
theorem dX12_same_211 : decode cX12_same 211 = .ok (.getfield 148, 3) := dcU2 dO_180 (rdU2.ch sfx_cX12_same_192 19 rfl (by decide +kernel))
theorem dX12_same_214 : decode cX12_same 214 = .ok (.bipush 40, 2) := dcS1 dO_16 (rdS1.ch sfx_cX12_same_192 22 rfl (by decide +kernel))
theorem dX12_same_216 : decode cX12_same 216 = .ok (.iload_n 2, 1) := dc0 dO_28 (rdB.ch sfx_cX12_same_192 24 rfl (by decide +kernel))
theorem dX12_same_217 : decode cX12_same 217 = .ok (.imul, 1) := dc0 dO_104 (rdB.ch sfx_cX12_same_192 25 rfl (by decide +kernel))
theorem dX12_same_218 : decode cX12_same 218 = .ok (.bipush 26, 2) := dcS1 dO_16 (rdS1.ch sfx_cX12_same_192 26 rfl (by decide +kernel))
theorem dX12_same_220 : decode cX12_same 220 = .ok (.iadd, 1) := dc0 dO_96 (rdB.ch sfx_cX12_same_192 28 rfl (by decide +kernel))
theorem dX12_same_221 : decode cX12_same 221 = .ok (.iload 4, 2) := dcU1 dO_21 (rdU1.ch sfx_cX12_same_192 29 rfl (by decide +kernel))
theorem dX12_same_223 : decode cX12_same 223 = .ok (.iadd, 1) := dc0 dO_96 (rdB.ch sfx_cX12_same_192 31 rfl (by decide +kernel))
theorem dX12_same_224 : decode cX12_same 224 = .ok (.iaload, 1) := dc0 dO_46 (rdB.ch sfx_cX12_same_192 32 rfl (by decide +kernel))
theorem dX12_same_225 : decode cX12_same 225 = .ok (.if_icmp .ne 7, 3) := dcS2 dO_160 (rdS2.ch sfx_cX12_same_192 33 rfl (by decide +kernel))
theorem dX12_same_228 : decode cX12_same 228 = .ok (.iconst 1, 1) := dc0 dO_4 (rdB.ch sfx_cX12_same_192 36 rfl (by decide +kernel))
theorem dX12_same_229 : decode cX12_same 229 = .ok (.goto 4, 3) := dcS2 dO_167 (rdS2.ch sfx_cX12_same_192 37 rfl (by decide +kernel))
theorem dX12_same_232 : decode cX12_same 232 = .ok (.iconst 0, 1) := dc0 dO_3 (rdB.ch sfx_cX12_same_192 40 rfl (by decide +kernel))
theorem dX12_same_233 : decode cX12_same 233 = .ok (.istore_n 3, 1) := dc0 dO_62 (rdB.ch sfx_cX12_same_192 41 rfl (by decide +kernel))
theorem dX12_same_234 : decode cX12_same 234 = .ok (.iinc 4 1, 3) := dcI dO_132 (rdI.ch sfx_cX12_same_192 42 rfl (by decide +kernel))
theorem dX12_same_237 : decode cX12_same 237 = .ok (.goto (-69), 3) := dcS2 dO_167 (rdS2.ch sfx_cX12_same_192 45 rfl (by decide +kernel))
theorem dX12_same_240 : decode cX12_same 240 = .ok (.iload_n 3, 1) := dc0 dO_29 (rdB.ch sfx_cX12_same_192 48 rfl (by decide +kernel))
theorem dX12_same_241 : decode cX12_same 241 = .ok (.ireturn, 1) := dc0 dO_172 (rdB.ch sfx_cX12_same_192 49 rfl (by decide +kernel))
theorem dX12_tie_0 : decode cX12_tie 0 = .ok (.aload_n 0, 1) := dc0 dO_42 (by decide +kernel)
theorem dX12_tie_1 : decode cX12_tie 1 = .ok (.iload_n 1, 1) := dc0 dO_27 (by decide +kernel)
theorem dX12_tie_2 : decode cX12_tie 2 = .ok (.invokevirtual 49, 3) := dcU2 dO_182 (by decide +kernel)
theorem dX12_tie_5 : decode cX12_tie 5 = .ok (.ifCond .eq 25, 3) := dcS2 dO_153 (by decide +kernel)
theorem dX12_tie_8 : decode cX12_tie 8 = .ok (.aload_n 0, 1) := dc0 dO_42 (by decide +kernel)
theorem dX12_tie_9 : decode cX12_tie 9 = .ok (.iload_n 2, 1) := dc0 dO_28 (by decide +kernel)
theorem dX12_tie_10 : decode cX12_tie 10 = .ok (.invokevirtual 49, 3) := dcU2 dO_182 (by decide +kernel)
theorem dX12_tie_13 : decode cX12_tie 13 = .ok (.ifCond .eq 17, 3) := dcS2 dO_153 (by decide +kernel)
theorem dX12_tie_16 : decode cX12_tie 16 = .ok (.iload_n 1, 1) := dc0 dO_27 (by decide +kernel)
theorem dX12_tie_17 : decode cX12_tie 17 = .ok (.iload_n 2, 1) := dc0 dO_28 (by decide +kernel)
theorem dX12_tie_18 : decode cX12_tie 18 = .ok (.if_icmp .eq 12, 3) := dcS2 dO_159 (by decide +kernel)
theorem dX12_tie_21 : decode cX12_tie 21 = .ok (.iload_n 3, 1) := dc0 dO_29 (by decide +kernel)
theorem dX12_tie_22 : decode cX12_tie 22 = .ok (.iconst 0, 1) := dc0 dO_3 (by decide +kernel)
theorem dX12_tie_23 : decode cX12_tie 23 = .ok (.iconst 2, 1) := dc0 dO_5 (by decide +kernel)
theorem dX12_tie_24 : decode cX12_tie 24 = .ok (.invokestatic 18, 3) := dcU2 dO_184 (by decide +kernel)
theorem dX12_tie_27 : decode cX12_tie 27 = .ok (.ifCond .ne 5, 3) := dcS2 dO_154 (by decide +kernel)
theorem dX12_tie_30 : decode cX12_tie 30 = .ok (.iconst (-1), 1) := dc0 dO_2 (by decide +kernel)
theorem dX12_tie_31 : decode cX12_tie 31 = .ok (.ireturn, 1) := dc0 dO_172 (by decide +kernel)
theorem dX12_tie_32 : decode cX12_tie 32 = .ok (.aload_n 0, 1) := dc0 dO_42 (by decide +kernel)
theorem dX12_tie_33 : decode cX12_tie 33 = .ok (.iload_n 1, 1) := dc0 dO_27 (by decide +kernel)
theorem dX12_tie_34 : decode cX12_tie 34 = .ok (.iload_n 2, 1) := dc0 dO_28 (by decide +kernel)
theorem dX12_tie_35 : decode cX12_tie 35 = .ok (.invokevirtual 43, 3) := dcU2 dO_182 (by decide +kernel)
theorem dX12_tie_38 : decode cX12_tie 38 = .ok (.ldc 29, 2) := dcU1 dO_18 (by decide +kernel)
theorem dX12_tie_40 : decode cX12_tie 40 = .ok (.if_icmp .eq 6, 3) := dcS2 dO_159 (by decide +kernel)
theorem dX12_tie_43 : decode cX12_tie 43 = .ok (.bipush (-2), 2) := dcS1 dO_16 (by decide +kernel)
theorem dX12_tie_45 : decode cX12_tie 45 = .ok (.ireturn, 1) := dc0 dO_172 (by decide +kernel)
theorem dX12_tie_46 : decode cX12_tie 46 = .ok (.aload_n 0, 1) := dc0 dO_42 (by decide +kernel)
theorem dX12_tie_47 : decode cX12_tie 47 = .ok (.getfield 37, 3) := dcU2 dO_180 (by decide +kernel)
theorem dX12_tie_50 : decode cX12_tie 50 = .ok (.bipush 20, 2) := dcS1 dO_16 (by decide +kernel)
theorem dX12_tie_52 : decode cX12_tie 52 = .ok (.if_icmp .ne 6, 3) := dcS2 dO_160 (by decide +kernel)
theorem dX12_tie_55 : decode cX12_tie 55 = .ok (.bipush (-3), 2) := dcS1 dO_16 (by decide +kernel)
theorem dX12_tie_57 : decode cX12_tie 57 = .ok (.ireturn, 1) := dc0 dO_172 (by decide +kernel)
theorem dX12_tie_58 : decode cX12_tie 58 = .ok (.aload_n 0, 1) := dc0 dO_42 (by decide +kernel)
theorem dX12_tie_59 : decode cX12_tie 59 = .ok (.getfield 40, 3) := dcU2 dO_180 (by decide +kernel)
theorem dX12_tie_62 : decode cX12_tie 62 = .ok (.iconst 2, 1) := dc0 dO_5 (by decide +kernel)
theorem dX12_tie_63 : decode cX12_tie 63 = .ok (.aload_n 0, 1) := dc0 dO_42 (by decide +kernel)
theorem dX12_tie_64 : decode cX12_tie 64 = .ok (.getfield 37, 3) := dcU2 dO_180 (by decide +kernel)
theorem dX12_tie_67 : decode cX12_tie 67 = .ok (.imul, 1) := dc0 dO_104 (by decide +kernel)
theorem dX12_tie_68 : decode cX12_tie 68 = .ok (.iload_n 1, 1) := dc0 dO_27 (by decide +kernel)
theorem dX12_tie_69 : decode cX12_tie 69 = .ok (.iastore, 1) := dc0 dO_79 (by decide +kernel)
theorem dX12_tie_70 : decode cX12_tie 70 = .ok (.aload_n 0, 1) := dc0 dO_42 (by decide +kernel)
theorem dX12_tie_71 : decode cX12_tie 71 = .ok (.getfield 40, 3) := dcU2 dO_180 (by decide +kernel)
theorem dX12_tie_74 : decode cX12_tie 74 = .ok (.iconst 2, 1) := dc0 dO_5 (by decide +kernel)
theorem dX12_tie_75 : decode cX12_tie 75 = .ok (.aload_n 0, 1) := dc0 dO_42 (by decide +kernel)
theorem dX12_tie_76 : decode cX12_tie 76 = .ok (.getfield 37, 3) := dcU2 dO_180 (by decide +kernel)
theorem dX12_tie_79 : decode cX12_tie 79 = .ok (.imul, 1) := dc0 dO_104 (by decide +kernel)
theorem dX12_tie_80 : decode cX12_tie 80 = .ok (.iconst 1, 1) := dc0 dO_4 (by decide +kernel)
theorem dX12_tie_81 : decode cX12_tie 81 = .ok (.iadd, 1) := dc0 dO_96 (by decide +kernel)
theorem dX12_tie_82 : decode cX12_tie 82 = .ok (.iload_n 2, 1) := dc0 dO_28 (by decide +kernel)
theorem dX12_tie_83 : decode cX12_tie 83 = .ok (.iastore, 1) := dc0 dO_79 (by decide +kernel)
theorem dX12_tie_84 : decode cX12_tie 84 = .ok (.aload_n 0, 1) := dc0 dO_42 (by decide +kernel)
theorem dX12_tie_85 : decode cX12_tie 85 = .ok (.getfield 46, 3) := dcU2 dO_180 (by decide +kernel)
theorem dX12_tie_88 : decode cX12_tie 88 = .ok (.aload_n 0, 1) := dc0 dO_42 (by decide +kernel)
theorem dX12_tie_89 : decode cX12_tie 89 = .ok (.getfield 37, 3) := dcU2 dO_180 (by decide +kernel)
theorem dX12_tie_92 : decode cX12_tie 92 = .ok (.iload_n 3, 1) := dc0 dO_29 (by decide +kernel)
theorem dX12_tie_93 : decode cX12_tie 93 = .ok (.iastore, 1) := dc0 dO_79 (by decide +kernel)
theorem dX12_tie_94 : decode cX12_tie 94 = .ok (.aload_n 0, 1) := dc0 dO_42 (by decide +kernel)
theorem dX12_tie_95 : decode cX12_tie 95 = .ok (.getfield 53, 3) := dcU2 dO_180 (by decide +kernel)
theorem dX12_tie_98 : decode cX12_tie 98 = .ok (.aload_n 0, 1) := dc0 dO_42 (by decide +kernel)
theorem dX12_tie_99 : decode cX12_tie 99 = .ok (.getfield 37, 3) := dcU2 dO_180 (by decide +kernel)
theorem dX12_tie_102 : decode cX12_tie 102 = .ok (.iconst 1, 1) := dc0 dO_4 (by decide +kernel)
theorem dX12_tie_103 : decode cX12_tie 103 = .ok (.bastore, 1) := dc0 dO_84 (by decide +kernel)
theorem dX12_tie_104 : decode cX12_tie 104 = .ok (.aload_n 0, 1) := dc0 dO_42 (by decide +kernel)
theorem dX12_tie_105 : decode cX12_tie 105 = .ok (.getfield 57, 3) := dcU2 dO_180 (by decide +kernel)
theorem dX12_tie_108 : decode cX12_tie 108 = .ok (.aload_n 0, 1) := dc0 dO_42 (by decide +kernel)
theorem dX12_tie_109 : decode cX12_tie 109 = .ok (.getfield 37, 3) := dcU2 dO_180 (by decide +kernel)
theorem dX12_tie_112 : decode cX12_tie 112 = .ok (.iconst 1, 1) := dc0 dO_4 (by decide +kernel)
theorem dX12_tie_113 : decode cX12_tie 113 = .ok (.iastore, 1) := dc0 dO_79 (by decide +kernel)
theorem dX12_tie_114 : decode cX12_tie 114 = .ok (.aload_n 0, 1) := dc0 dO_42 (by decide +kernel)
theorem dX12_tie_115 : decode cX12_tie 115 = .ok (.getfield 60, 3) := dcU2 dO_180 (by decide +kernel)
theorem dX12_tie_118 : decode cX12_tie 118 = .ok (.aload_n 0, 1) := dc0 dO_42 (by decide +kernel)
theorem dX12_tie_119 : decode cX12_tie 119 = .ok (.getfield 37, 3) := dcU2 dO_180 (by decide +kernel)
theorem dX12_tie_122 : decode cX12_tie 122 = .ok (.iconst 0, 1) := dc0 dO_3 (by decide +kernel)
theorem dX12_tie_123 : decode cX12_tie 123 = .ok (.iastore, 1) := dc0 dO_79 (by decide +kernel)
theorem dX12_tie_124 : decode cX12_tie 124 = .ok (.iconst 0, 1) := dc0 dO_3 (by decide +kernel)
theorem dX12_tie_125 : decode cX12_tie 125 = .ok (.istore 4, 2) := dcU1 dO_54 (by decide +kernel)
theorem dX12_tie_127 : decode cX12_tie 127 = .ok (.iload 4, 2) := dcU1 dO_21 (by decide +kernel)
theorem sfx_cX12_tie_128 : (cX12_tie.data.toList.drop 128).take 67 = [4, 7, 162, 0, 25, 42, 180, 0, 63, 7, 42, 180, 0, 37, 104, 21, 4, 96, 18, 29, 79, 132, 4, 1, 167, 255, 231, 42, 89, 180, 0, 37, 4, 96, 181, 0, 37, 42, 180, 0, 37, 4, 100, 172] := by decide +kernel
theorem dX12_tie_129 : decode cX12_tie 129 = .ok (.iconst 4, 1) := dc0 dO_7 (rdB.ch sfx_cX12_tie_128 1 rfl (by decide +kernel))
theorem dX12_tie_130 : decode cX12_tie 130 = .ok (.if_icmp .ge 25, 3) := dcS2 dO_162 (rdS2.ch sfx_cX12_tie_128 2 rfl (by decide +kernel))
theorem dX12_tie_133 : decode cX12_tie 133 = .ok (.aload_n 0, 1) := dc0 dO_42 (rdB.ch sfx_cX12_tie_128 5 rfl (by decide +kernel))
theorem dX12_tie_134 : decode cX12_tie 134 = .ok (.getfield 63, 3) := dcU2 dO_180 (rdU2.ch sfx_cX12_tie_128 6 rfl (by decide +kernel))
theorem dX12_tie_137 : decode cX12_tie 137 = .ok (.iconst 4, 1) := dc0 dO_7 (rdB.ch sfx_cX12_tie_128 9 rfl (by decide +kernel))
theorem dX12_tie_138 : decode cX12_tie 138 = .ok (.aload_n 0, 1) := dc0 dO_42 (rdB.ch sfx_cX12_tie_128 10 rfl (by decide +kernel))
theorem dX12_tie_139 : decode cX12_tie 139 = .ok (.getfield 37, 3) := dcU2 dO_180 (rdU2.ch sfx_cX12_tie_128 11 rfl (by decide +kernel))
theorem dX12_tie_142 : decode cX12_tie 142 = .ok (.imul, 1) := dc0 dO_104 (rdB.ch sfx_cX12_tie_128 14 rfl (by decide +kernel))
theorem dX12_tie_143 : decode cX12_tie 143 = .ok (.iload 4, 2) := dcU1 dO_21 (rdU1.ch sfx_cX12_tie_128 15 rfl (by decide +kernel))
theorem dX12_tie_145 : decode cX12_tie 145 = .ok (.iadd, 1) := dc0 dO_96 (rdB.ch sfx_cX12_tie_128 17 rfl (by decide +kernel))
theorem dX12_tie_146 : decode cX12_tie 146 = .ok (.ldc 29, 2) := dcU1 dO_18 (rdU1.ch sfx_cX12_tie_128 18 rfl (by decide +kernel))
theorem dX12_tie_148 : decode cX12_tie 148 = .ok (.iastore, 1) := dc0 dO_79 (rdB.ch sfx_cX12_tie_128 20 rfl (by decide +kernel))
theorem dX12_tie_149 : decode cX12_tie 149 = .ok (.iinc 4 1, 3) := dcI dO_132 (rdI.ch sfx_cX12_tie_128 21 rfl (by decide +kernel))
theorem dX12_tie_152 : decode cX12_tie 152 = .ok (.goto (-25), 3) := dcS2 dO_167 (rdS2.ch sfx_cX12_tie_128 24 rfl (by decide +kernel))
theorem dX12_tie_155 : decode cX12_tie 155 = .ok (.aload_n 0, 1) := dc0 dO_42 (rdB.ch sfx_cX12_tie_128 27 rfl (by decide +kernel))
theorem dX12_tie_156 : decode cX12_tie 156 = .ok (.dup, 1) := dc0 dO_89 (rdB.ch sfx_cX12_tie_128 28 rfl (by decide +kernel))
theorem dX12_tie_157 : decode cX12_tie 157 = .ok (.getfield 37, 3) := dcU2 dO_180 (rdU2.ch sfx_cX12_tie_128 29 rfl (by decide +kernel))
theorem dX12_tie_160 : decode cX12_tie 160 = .ok (.iconst 1, 1) := dc0 dO_4 (rdB.ch sfx_cX12_tie_128 32 rfl (by decide +kernel))
theorem dX12_tie_161 : decode cX12_tie 161 = .ok (.iadd, 1) := dc0 dO_96 (rdB.ch sfx_cX12_tie_128 33 rfl (by decide +kernel))
theorem dX12_tie_162 : decode cX12_tie 162 = .ok (.putfield 37, 3) := dcU2 dO_181 (rdU2.ch sfx_cX12_tie_128 34 rfl (by decide +kernel))
theorem dX12_tie_165 : decode cX12_tie 165 = .ok (.aload_n 0, 1) := dc0 dO_42 (rdB.ch sfx_cX12_tie_128 37 rfl (by decide +kernel))
theorem dX12_tie_166 : decode cX12_tie 166 = .ok (.getfield 37, 3) := dcU2 dO_180 (rdU2.ch sfx_cX12_tie_128 38 rfl (by decide +kernel))
theorem dX12_tie_169 : decode cX12_tie 169 = .ok (.iconst 1, 1) := dc0 dO_4 (rdB.ch sfx_cX12_tie_128 41 rfl (by decide +kernel))
theorem dX12_tie_170 : decode cX12_tie 170 = .ok (.isub, 1) := dc0 dO_100 (rdB.ch sfx_cX12_tie_128 42 rfl (by decide +kernel))
theorem dX12_tie_171 : decode cX12_tie 171 = .ok (.ireturn, 1) := dc0 dO_172 (rdB.ch sfx_cX12_tie_128 43 rfl (by decide +kernel))
theorem dX12_tieOf_0 : decode cX12_tieOf 0 = .ok (.iconst 0, 1) := dc0 dO_3 (by decide +kernel)
theorem dX12_tieOf_1 : decode cX12_tieOf 1 = .ok (.istore_n 3, 1) := dc0 dO_62 (by decide +kernel)
theorem dX12_tieOf_2 : decode cX12_tieOf 2 = .ok (.iload_n 3, 1) := dc0 dO_29 (by decide +kernel)
theorem dX12_tieOf_3 : decode cX12_tieOf 3 = .ok (.aload_n 0, 1) := dc0 dO_42 (by decide +kernel)
theorem dX12_tieOf_4 : decode cX12_tieOf 4 = .ok (.getfield 37, 3) := dcU2 dO_180 (by decide +kernel)
theorem dX12_tieOf_7 : decode cX12_tieOf 7 = .ok (.if_icmp .ge 63, 3) := dcS2 dO_162 (by decide +kernel)
theorem dX12_tieOf_10 : decode cX12_tieOf 10 = .ok (.aload_n 0, 1) := dc0 dO_42 (by decide +kernel)
theorem dX12_tieOf_11 : decode cX12_tieOf 11 = .ok (.getfield 40, 3) := dcU2 dO_180 (by decide +kernel)
theorem dX12_tieOf_14 : decode cX12_tieOf 14 = .ok (.iconst 2, 1) := dc0 dO_5 (by decide +kernel)
theorem dX12_tieOf_15 : decode cX12_tieOf 15 = .ok (.iload_n 3, 1) := dc0 dO_29 (by decide +kernel)
theorem dX12_tieOf_16 : decode cX12_tieOf 16 = .ok (.imul, 1) := dc0 dO_104 (by decide +kernel)
theorem dX12_tieOf_17 : decode cX12_tieOf 17 = .ok (.iaload, 1) := dc0 dO_46 (by decide +kernel)
theorem dX12_tieOf_18 : decode cX12_tieOf 18 = .ok (.iload_n 1, 1) := dc0 dO_27 (by decide +kernel)
theorem dX12_tieOf_19 : decode cX12_tieOf 19 = .ok (.if_icmp .ne 17, 3) := dcS2 dO_160 (by decide +kernel)
theorem dX12_tieOf_22 : decode cX12_tieOf 22 = .ok (.aload_n 0, 1) := dc0 dO_42 (by decide +kernel)
theorem dX12_tieOf_23 : decode cX12_tieOf 23 = .ok (.getfield 40, 3) := dcU2 dO_180 (by decide +kernel)
theorem dX12_tieOf_26 : decode cX12_tieOf 26 = .ok (.iconst 2, 1) := dc0 dO_5 (by decide +kernel)
theorem dX12_tieOf_27 : decode cX12_tieOf 27 = .ok (.iload_n 3, 1) := dc0 dO_29 (by decide +kernel)
theorem dX12_tieOf_28 : decode cX12_tieOf 28 = .ok (.imul, 1) := dc0 dO_104 (by decide +kernel)
theorem dX12_tieOf_29 : decode cX12_tieOf 29 = .ok (.iconst 1, 1) := dc0 dO_4 (by decide +kernel)
theorem dX12_tieOf_30 : decode cX12_tieOf 30 = .ok (.iadd, 1) := dc0 dO_96 (by decide +kernel)
theorem dX12_tieOf_31 : decode cX12_tieOf 31 = .ok (.iaload, 1) := dc0 dO_46 (by decide +kernel)
theorem dX12_tieOf_32 : decode cX12_tieOf 32 = .ok (.iload_n 2, 1) := dc0 dO_28 (by decide +kernel)
theorem dX12_tieOf_33 : decode cX12_tieOf 33 = .ok (.if_icmp .eq 29, 3) := dcS2 dO_159 (by decide +kernel)
theorem dX12_tieOf_36 : decode cX12_tieOf 36 = .ok (.aload_n 0, 1) := dc0 dO_42 (by decide +kernel)
theorem dX12_tieOf_37 : decode cX12_tieOf 37 = .ok (.getfield 40, 3) := dcU2 dO_180 (by decide +kernel)
theorem dX12_tieOf_40 : decode cX12_tieOf 40 = .ok (.iconst 2, 1) := dc0 dO_5 (by decide +kernel)
theorem dX12_tieOf_41 : decode cX12_tieOf 41 = .ok (.iload_n 3, 1) := dc0 dO_29 (by decide +kernel)
theorem dX12_tieOf_42 : decode cX12_tieOf 42 = .ok (.imul, 1) := dc0 dO_104 (by decide +kernel)
theorem dX12_tieOf_43 : decode cX12_tieOf 43 = .ok (.iaload, 1) := dc0 dO_46 (by decide +kernel)
theorem dX12_tieOf_44 : decode cX12_tieOf 44 = .ok (.iload_n 2, 1) := dc0 dO_28 (by decide +kernel)
theorem dX12_tieOf_45 : decode cX12_tieOf 45 = .ok (.if_icmp .ne 19, 3) := dcS2 dO_160 (by decide +kernel)
theorem dX12_tieOf_48 : decode cX12_tieOf 48 = .ok (.aload_n 0, 1) := dc0 dO_42 (by decide +kernel)
theorem dX12_tieOf_49 : decode cX12_tieOf 49 = .ok (.getfield 40, 3) := dcU2 dO_180 (by decide +kernel)
theorem dX12_tieOf_52 : decode cX12_tieOf 52 = .ok (.iconst 2, 1) := dc0 dO_5 (by decide +kernel)
theorem dX12_tieOf_53 : decode cX12_tieOf 53 = .ok (.iload_n 3, 1) := dc0 dO_29 (by decide +kernel)
theorem dX12_tieOf_54 : decode cX12_tieOf 54 = .ok (.imul, 1) := dc0 dO_104 (by decide +kernel)
theorem dX12_tieOf_55 : decode cX12_tieOf 55 = .ok (.iconst 1, 1) := dc0 dO_4 (by decide +kernel)
theorem dX12_tieOf_56 : decode cX12_tieOf 56 = .ok (.iadd, 1) := dc0 dO_96 (by decide +kernel)
theorem dX12_tieOf_57 : decode cX12_tieOf 57 = .ok (.iaload, 1) := dc0 dO_46 (by decide +kernel)
theorem dX12_tieOf_58 : decode cX12_tieOf 58 = .ok (.iload_n 1, 1) := dc0 dO_27 (by decide +kernel)
theorem dX12_tieOf_59 : decode cX12_tieOf 59 = .ok (.if_icmp .ne 5, 3) := dcS2 dO_160 (by decide +kernel)
theorem dX12_tieOf_62 : decode cX12_tieOf 62 = .ok (.iload_n 3, 1) := dc0 dO_29 (by decide +kernel)
theorem dX12_tieOf_63 : decode cX12_tieOf 63 = .ok (.ireturn, 1) := dc0 dO_172 (by decide +kernel)
theorem dX12_tieOf_64 : decode cX12_tieOf 64 = .ok (.iinc 3 1, 3) := dcI dO_132 (by decide +kernel)
theorem dX12_tieOf_67 : decode cX12_tieOf 67 = .ok (.goto (-65), 3) := dcS2 dO_167 (by decide +kernel)
theorem dX12_tieOf_70 : decode cX12_tieOf 70 = .ok (.ldc 29, 2) := dcU1 dO_18 (by decide +kernel)
theorem dX12_tieOf_72 : decode cX12_tieOf 72 = .ok (.ireturn, 1) := dc0 dO_172 (by decide +kernel)
theorem dX12_verdict_0 : decode cX12_verdict 0 = .ok (.aload_n 0, 1) := dc0 dO_42 (by decide +kernel)
theorem dX12_verdict_1 : decode cX12_verdict 1 = .ok (.iload_n 1, 1) := dc0 dO_27 (by decide +kernel)
theorem dX12_verdict_2 : decode cX12_verdict 2 = .ok (.invokevirtual 92, 3) := dcU2 dO_182 (by decide +kernel)
theorem dX12_verdict_5 : decode cX12_verdict 5 = .ok (.ifCond .eq 12, 3) := dcS2 dO_153 (by decide +kernel)
theorem dX12_verdict_8 : decode cX12_verdict 8 = .ok (.iload_n 3, 1) := dc0 dO_29 (by decide +kernel)
theorem dX12_verdict_9 : decode cX12_verdict 9 = .ok (.ifCond .lt 8, 3) := dcS2 dO_155 (by decide +kernel)
theorem dX12_verdict_12 : decode cX12_verdict 12 = .ok (.iload 4, 2) := dcU1 dO_21 (by decide +kernel)
theorem dX12_verdict_14 : decode cX12_verdict 14 = .ok (.ifCond .ge 5, 3) := dcS2 dO_156 (by decide +kernel)
theorem dX12_verdict_17 : decode cX12_verdict 17 = .ok (.iconst (-1), 1) := dc0 dO_2 (by decide +kernel)
theorem dX12_verdict_18 : decode cX12_verdict 18 = .ok (.ireturn, 1) := dc0 dO_172 (by decide +kernel)
theorem dX12_verdict_19 : decode cX12_verdict 19 = .ok (.aload_n 0, 1) := dc0 dO_42 (by decide +kernel)
theorem dX12_verdict_20 : decode cX12_verdict 20 = .ok (.iload_n 1, 1) := dc0 dO_27 (by decide +kernel)
theorem dX12_verdict_21 : decode cX12_verdict 21 = .ok (.iload_n 2, 1) := dc0 dO_28 (by decide +kernel)
theorem dX12_verdict_22 : decode cX12_verdict 22 = .ok (.iload_n 3, 1) := dc0 dO_29 (by decide +kernel)
theorem dX12_verdict_23 : decode cX12_verdict 23 = .ok (.iload 4, 2) := dcU1 dO_21 (by decide +kernel)
theorem dX12_verdict_25 : decode cX12_verdict 25 = .ok (.invokevirtual 145, 3) := dcU2 dO_182 (by decide +kernel)
theorem dX12_verdict_28 : decode cX12_verdict 28 = .ok (.ireturn, 1) := dc0 dO_172 (by decide +kernel)
theorem dX12_walk_0 : decode cX12_walk 0 = .ok (.iload_n 1, 1) := dc0 dO_27 (by decide +kernel)
theorem dX12_walk_1 : decode cX12_walk 1 = .ok (.iconst (-1), 1) := dc0 dO_2 (by decide +kernel)
theorem dX12_walk_2 : decode cX12_walk 2 = .ok (.bipush 9, 2) := dcS1 dO_16 (by decide +kernel)
theorem dX12_walk_4 : decode cX12_walk 4 = .ok (.invokestatic 18, 3) := dcU2 dO_184 (by decide +kernel)
theorem dX12_walk_7 : decode cX12_walk 7 = .ok (.ifCond .ne 5, 3) := dcS2 dO_154 (by decide +kernel)
theorem dX12_walk_10 : decode cX12_walk 10 = .ok (.iconst (-1), 1) := dc0 dO_2 (by decide +kernel)
theorem dX12_walk_11 : decode cX12_walk 11 = .ok (.ireturn, 1) := dc0 dO_172 (by decide +kernel)
theorem dX12_walk_12 : decode cX12_walk 12 = .ok (.iload_n 1, 1) := dc0 dO_27 (by decide +kernel)
theorem dX12_walk_13 : decode cX12_walk 13 = .ok (.iconst (-1), 1) := dc0 dO_2 (by decide +kernel)
theorem dX12_walk_14 : decode cX12_walk 14 = .ok (.if_icmp .ne 10, 3) := dcS2 dO_160 (by decide +kernel)
theorem dX12_walk_17 : decode cX12_walk 17 = .ok (.aload_n 0, 1) := dc0 dO_42 (by decide +kernel)
theorem dX12_walk_18 : decode cX12_walk 18 = .ok (.iconst 0, 1) := dc0 dO_3 (by decide +kernel)
theorem dX12_walk_19 : decode cX12_walk 19 = .ok (.putfield 79, 3) := dcU2 dO_181 (by decide +kernel)
theorem dX12_walk_22 : decode cX12_walk 22 = .ok (.iconst 0, 1) := dc0 dO_3 (by decide +kernel)
theorem dX12_walk_23 : decode cX12_walk 23 = .ok (.ireturn, 1) := dc0 dO_172 (by decide +kernel)
theorem dX12_walk_24 : decode cX12_walk 24 = .ok (.aload_n 0, 1) := dc0 dO_42 (by decide +kernel)
theorem dX12_walk_25 : decode cX12_walk 25 = .ok (.getfield 79, 3) := dcU2 dO_180 (by decide +kernel)
theorem dX12_walk_28 : decode cX12_walk 28 = .ok (.bipush 20, 2) := dcS1 dO_16 (by decide +kernel)
theorem dX12_walk_30 : decode cX12_walk 30 = .ok (.if_icmp .ne 6, 3) := dcS2 dO_160 (by decide +kernel)
theorem dX12_walk_33 : decode cX12_walk 33 = .ok (.bipush (-3), 2) := dcS1 dO_16 (by decide +kernel)
theorem dX12_walk_35 : decode cX12_walk 35 = .ok (.ireturn, 1) := dc0 dO_172 (by decide +kernel)
theorem dX12_walk_36 : decode cX12_walk 36 = .ok (.aload_n 0, 1) := dc0 dO_42 (by decide +kernel)
theorem dX12_walk_37 : decode cX12_walk 37 = .ok (.getfield 82, 3) := dcU2 dO_180 (by decide +kernel)
theorem dX12_walk_40 : decode cX12_walk 40 = .ok (.aload_n 0, 1) := dc0 dO_42 (by decide +kernel)
theorem dX12_walk_41 : decode cX12_walk 41 = .ok (.getfield 79, 3) := dcU2 dO_180 (by decide +kernel)
theorem dX12_walk_44 : decode cX12_walk 44 = .ok (.iload_n 1, 1) := dc0 dO_27 (by decide +kernel)
theorem dX12_walk_45 : decode cX12_walk 45 = .ok (.iastore, 1) := dc0 dO_79 (by decide +kernel)
theorem dX12_walk_46 : decode cX12_walk 46 = .ok (.aload_n 0, 1) := dc0 dO_42 (by decide +kernel)
theorem dX12_walk_47 : decode cX12_walk 47 = .ok (.dup, 1) := dc0 dO_89 (by decide +kernel)
theorem dX12_walk_48 : decode cX12_walk 48 = .ok (.getfield 79, 3) := dcU2 dO_180 (by decide +kernel)
theorem dX12_walk_51 : decode cX12_walk 51 = .ok (.iconst 1, 1) := dc0 dO_4 (by decide +kernel)
theorem dX12_walk_52 : decode cX12_walk 52 = .ok (.iadd, 1) := dc0 dO_96 (by decide +kernel)
theorem dX12_walk_53 : decode cX12_walk 53 = .ok (.putfield 79, 3) := dcU2 dO_181 (by decide +kernel)
theorem dX12_walk_56 : decode cX12_walk 56 = .ok (.aload_n 0, 1) := dc0 dO_42 (by decide +kernel)
theorem dX12_walk_57 : decode cX12_walk 57 = .ok (.getfield 79, 3) := dcU2 dO_180 (by decide +kernel)
theorem dX12_walk_60 : decode cX12_walk 60 = .ok (.ireturn, 1) := dc0 dO_172 (by decide +kernel)
end
section
theorem vc_X12_in_1 {p1 p2 : Int} (h0 : p1 < p2) (h1 : (-2147483648) ≤ p1 ∧ p1 ≤ 2147483647) (h2 : (-2147483648) ≤ p2 ∧ p2 ≤ 2147483647) : (-2147483648) ≤ p1 ∧ p1 ≤ 2147483646 := by omega
theorem vc_X12_in_2 {p1 p2 : Int} (h0 : p1 < p2) (h1 : (-2147483648) ≤ p1 ∧ p1 ≤ 2147483646) (h2 : (-2147483648) ≤ p2 ∧ p2 ≤ 2147483647) : (-2147483647) ≤ p2 ∧ p2 ≤ 2147483647 := by omega
theorem vc_X12_in_3 {p1 p2 p3 : Int} (h0 : p1 < p2) (h1 : (-2147483648) ≤ p1 ∧ p1 ≤ 2147483646) (h2 : (-2147483647) ≤ p2 ∧ p2 ≤ 2147483647) (h3 : (-2147483648) ≤ p3 ∧ p3 ≤ 2147483647) : (0 : Int) = 1 → p2 ≤ p1 ∧ p1 ≤ p3 := by omega
theorem vc_X12_in_4 {p1 p2 p3 : Int} (h0 : p1 < p2) (h1 : (-2147483648) ≤ p1 ∧ p1 ≤ 2147483646) (h2 : (-2147483647) ≤ p2 ∧ p2 ≤ 2147483647) (h3 : (-2147483648) ≤ p3 ∧ p3 ≤ 2147483647) : (0 : Int) = 0 → p1 < p2 ∨ p3 < p1 := by omega
theorem vc_X12_in_5 {p1 p2 p3 : Int} (h0 : p3 < p1) (h1 : p2 ≤ p1) (h2 : (-2147483648) ≤ p1 ∧ p1 ≤ 2147483647) (h3 : (-2147483648) ≤ p2 ∧ p2 ≤ 2147483647) (h4 : (-2147483648) ≤ p3 ∧ p3 ≤ 2147483647) : (-2147483647) ≤ p1 ∧ p1 ≤ 2147483647 := by omega
theorem vc_X12_in_6 {p1 p2 p3 : Int} (h0 : p3 < p1) (h1 : p2 ≤ p1) (h2 : (-2147483647) ≤ p1 ∧ p1 ≤ 2147483647) (h3 : (-2147483648) ≤ p2 ∧ p2 ≤ 2147483647) (h4 : (-2147483648) ≤ p3 ∧ p3 ≤ 2147483647) : (-2147483648) ≤ p3 ∧ p3 ≤ 2147483646 := by omega
theorem vc_X12_in_7 {p1 p2 p3 : Int} (h0 : p2 ≤ p1) (h1 : p3 < p1) (h2 : (-2147483647) ≤ p1 ∧ p1 ≤ 2147483647) (h3 : (-2147483648) ≤ p2 ∧ p2 ≤ 2147483647) (h4 : (-2147483648) ≤ p3 ∧ p3 ≤ 2147483646) : (0 : Int) = 1 → p2 ≤ p1 ∧ p1 ≤ p3 := by omega
theorem vc_X12_in_8 {p1 p2 p3 : Int} (h0 : p2 ≤ p1) (h1 : p3 < p1) (h2 : (-2147483647) ≤ p1 ∧ p1 ≤ 2147483647) (h3 : (-2147483648) ≤ p2 ∧ p2 ≤ 2147483647) (h4 : (-2147483648) ≤ p3 ∧ p3 ≤ 2147483646) : (0 : Int) = 0 → p1 < p2 ∨ p3 < p1 := by omega
theorem vc_X12_in_9 {p1 p2 p3 : Int} (h0 : p2 ≤ p1) (h1 : p1 ≤ p3) (h2 : (-2147483648) ≤ p1 ∧ p1 ≤ 2147483647) (h3 : (-2147483648) ≤ p2 ∧ p2 ≤ 2147483647) (h4 : (-2147483648) ≤ p3 ∧ p3 ≤ 2147483647) : (1 : Int) = 1 → p2 ≤ p1 ∧ p1 ≤ p3 := by omega
theorem vc_X12_in_10 {p1 p2 p3 : Int} (h0 : p2 ≤ p1) (h1 : p1 ≤ p3) (h2 : (-2147483648) ≤ p1 ∧ p1 ≤ 2147483647) (h3 : (-2147483648) ≤ p2 ∧ p2 ≤ 2147483647) (h4 : (-2147483648) ≤ p3 ∧ p3 ≤ 2147483647) : (1 : Int) = 0 → p1 < p2 ∨ p3 < p1 := by omega
set_option maxRecDepth 4000 in
set_option maxHeartbeats 4000000 in
theorem c_X12_in {l : Launch} {D : va_G} {c : Nat → ClassId} {H0 : Heap} {sa : Nat × Nat × (Nat → Int32)} {w : mW} {μ : mM} (hw : mWF w) (hT : mT w μ) {p1 : Int} (hp1 : (-2147483648) ≤ p1 ∧ p1 ≤ 2147483647) {p2 : Int} (hp2 : (-2147483648) ≤ p2 ∧ p2 ≤ 2147483647) {p3 : Int} (hp3 : (-2147483648) ≤ p3 ∧ p3 ≤ 2147483647) : sC (gG l D c H0 sa) mX12_in 1 0 0 [iv p1, iv p2, iv p3] (mk w μ) (qP w μ (fun z => (0 ≤ z ∧ z ≤ 1) ∧ (z = 1 → p2 ≤ p1 ∧ p1 ≤ p3) ∧ (z = 0 → p1 < p2 ∨ p3 < p1) ∧ True)) := by
  refine sC.of rfl (by decide) (le_t rfl) ?_
  refine mr_lvE (lv' := [(0, iv p1), (1, iv p2), (2, iv p3)]) rfl ?_
  refine mr_iload_n (pc := 0) (z := p1) dX12_in_0 rfl rfl ?_
  refine mr_iload_n (pc := 1) (z := p2) dX12_in_1 rfl rfl ?_
  refine mr_icmp_lt (pc := 2) (tgt := 14) dX12_in_2 (by decide) hp1 hp2 (fun h5 => ?_) (fun h5 => ?_)
  · have h6 : (-2147483648) ≤ p1 ∧ p1 ≤ 2147483646 := (vc_X12_in_1 h5 hp1 hp2)
    have h7 : (-2147483647) ≤ p2 ∧ p2 ≤ 2147483647 := (vc_X12_in_2 h5 h6 hp2)
    refine mr_iconst (pc := 14) (z := 0) dX12_in_14 ?_
    exact mr_zretP dX12_in_15 rfl (rW (c := 0) (d := 1) (rR (x := 0)) rfl) (le_t rfl) (le_t rfl) ⟨(rW (c := 0) (d := 1) (rR (x := 0)) rfl), (vc_X12_in_3 h5 h6 h7 hp3), (vc_X12_in_4 h5 h6 h7 hp3), trivial⟩
  refine mr_iload_n (pc := 5) (z := p1) dX12_in_5 rfl rfl ?_
  refine mr_iload_n (pc := 6) (z := p3) dX12_in_6 rfl rfl ?_
  refine mr_icmp_gt (pc := 7) (tgt := 14) dX12_in_7 (by decide) hp1 hp3 (fun h10 => ?_) (fun h10 => ?_)
  · have h11 : (-2147483647) ≤ p1 ∧ p1 ≤ 2147483647 := (vc_X12_in_5 h10 h5 hp1 hp2 hp3)
    have h12 : (-2147483648) ≤ p3 ∧ p3 ≤ 2147483646 := (vc_X12_in_6 h10 h5 h11 hp2 hp3)
    refine mr_iconst (pc := 14) (z := 0) dX12_in_14 ?_
    exact mr_zretP dX12_in_15 rfl (rW (c := 0) (d := 1) (rR (x := 0)) rfl) (le_t rfl) (le_t rfl) ⟨(rW (c := 0) (d := 1) (rR (x := 0)) rfl), (vc_X12_in_7 h5 h10 h11 hp2 h12), (vc_X12_in_8 h5 h10 h11 hp2 h12), trivial⟩
  refine mr_iconst (pc := 10) (z := 1) dX12_in_10 ?_
  refine sv_goto (pc := 11) (tgt := 15) dX12_in_11 (by decide) ?_
  exact mr_zretP dX12_in_15 rfl (rW (c := 0) (d := 1) (rR (x := 1)) rfl) (le_t rfl) (le_t rfl) ⟨(rW (c := 0) (d := 1) (rR (x := 1)) rfl), (vc_X12_in_9 h5 h10 hp1 hp2 hp3), (vc_X12_in_10 h5 h10 hp1 hp2 hp3), trivial⟩
theorem vc_X12_mask_1 {p1 : Int} (h0 : p1 = 0) (h1 : (-2147483648) ≤ p1 ∧ p1 ≤ 2147483647) : 0 ≤ p1 ∧ p1 ≤ 0 := by omega
set_option maxRecDepth 4000 in
set_option maxHeartbeats 4000000 in
theorem c_X12_mask {l : Launch} {D : va_G} {c : Nat → ClassId} {H0 : Heap} {sa : Nat × Nat × (Nat → Int32)} {w : mW} {μ : mM} (hw : mWF w) (hT : mT w μ) {p1 : Int} (hp1 : (-2147483648) ≤ p1 ∧ p1 ≤ 2147483647) : sC (gG l D c H0 sa) mX12_mask 1 0 0 [iv p1] (mk w μ) (qP w μ (fun z => ((-2147483648) ≤ z ∧ z ≤ 2147483647) ∧ True)) := by
  refine sC.of rfl (by decide) (le_t rfl) ?_
  refine mr_lvE (lv' := [(0, iv p1)]) rfl ?_
  refine mr_iload_n (pc := 0) (z := p1) dX12_mask_0 rfl rfl ?_
  refine mr_if_ne (pc := 1) (tgt := 8) dX12_mask_1 (by decide) hp1 (fun h7 => ?_) (fun h7 => ?_)
  · refine mr_iconst (pc := 8) (z := (-1)) dX12_mask_8 ?_
    refine mr_bipush (pc := 9) (z := 32) dX12_mask_9 (by decide) ?_
    refine mr_iload_n (pc := 11) (z := p1) dX12_mask_11 rfl rfl ?_
    refine mr_isub (pc := 12) (x := 32) (y := p1) dX12_mask_12 ?_
    refine mr_wrap fun z8 h9 => ?_
    refine mr_ishl (pc := 13) (x := (-1)) (y := z8) dX12_mask_13 ?_
    refine mr_gen (P := fun z => (-2147483648) ≤ z ∧ z ≤ 2147483647) (r32i _) fun z10 q11 h12 => ?_
    exact mr_iretP dX12_mask_14 rfl (le_t rfl) (le_t rfl) ⟨h12, trivial⟩
  have h13 : 0 ≤ p1 ∧ p1 ≤ 0 := (vc_X12_mask_1 h7 hp1)
  refine mr_iconst (pc := 4) (z := 0) dX12_mask_4 ?_
  refine sv_goto (pc := 5) (tgt := 14) dX12_mask_5 (by decide) ?_
  exact mr_iretP dX12_mask_14 rfl (le_t rfl) (le_t rfl) ⟨(rW (c := (-2147483648)) (d := 2147483647) (rR (x := 0)) rfl), trivial⟩
set_option maxRecDepth 4000 in
set_option maxHeartbeats 4000000 in
theorem c_X12_holds {l : Launch} {D : va_G} {c : Nat → ClassId} {H0 : Heap} {sa : Nat × Nat × (Nat → Int32)} {w : mW} {μ : mM} (hw : mWF w) (hT : mT w μ) {p1 : Int} (hp1 : (-2147483648) ≤ p1 ∧ p1 ≤ 2147483647) {p2 : Int} (hp2 : (-2147483648) ≤ p2 ∧ p2 ≤ 2147483647) {p3 : Int} (hp3 : (-2147483648) ≤ p3 ∧ p3 ≤ 2147483647) : sC (gG l D c H0 sa) mX12_holds 2 0 0 [iv p1, iv p2, iv p3] (mk w μ) (qP w μ (fun z => (0 ≤ z ∧ z ≤ 1) ∧ True)) := by
  refine sC.of rfl (by decide) (le_t rfl) ?_
  refine mr_lvE (lv' := [(0, iv p1), (1, iv p2), (2, iv p3)]) rfl ?_
  refine mr_iload_n (pc := 0) (z := p1) dX12_holds_0 rfl rfl ?_
  refine mr_iload_n (pc := 1) (z := p3) dX12_holds_1 rfl rfl ?_
  refine mr_ixor (pc := 2) (x := p1) (y := p3) dX12_holds_2 ?_
  refine mr_gen (P := fun z => (-2147483648) ≤ z ∧ z ≤ 2147483647) (r32i _) fun z1 q2 h3 => ?_
  refine mr_iload_n (pc := 3) (z := p2) dX12_holds_3 rfl rfl ?_
  refine mr_cSP (pc := 4) (c_X12_mask hw hT hp2) (gOk _ _ _ _ _) dX12_holds_4 (tX12_mask _ _ _ _ _) wS_X12_mask wM_X12_11 ⟨le_t rfl, le_t rfl⟩ ⟨le_t rfl, le_t rfl⟩ rfl (le_t rfl) fun z8 h7 => ?_
  refine mr_iand (pc := 7) (x := z1) (y := z8) dX12_holds_7 ?_
  refine mr_gen (P := fun z => (-2147483648) ≤ z ∧ z ≤ 2147483647) (r32i _) fun z9 q10 h11 => ?_
  refine mr_if_ne (pc := 8) (tgt := 15) dX12_holds_8 (by decide) h11 (fun h13 => ?_) (fun h13 => ?_)
  · refine mr_iconst (pc := 15) (z := 0) dX12_holds_15 ?_
    exact mr_zretP dX12_holds_16 rfl (rW (c := 0) (d := 1) (rR (x := 0)) rfl) (le_t rfl) (le_t rfl) ⟨(rW (c := 0) (d := 1) (rR (x := 0)) rfl), trivial⟩
  have h14 : 0 ≤ z9 ∧ z9 ≤ 0 := (vc_X12_mask_1 h13 h11)
  refine mr_iconst (pc := 11) (z := 1) dX12_holds_11 ?_
  refine sv_goto (pc := 12) (tgt := 16) dX12_holds_12 (by decide) ?_
  exact mr_zretP dX12_holds_16 rfl (rW (c := 0) (d := 1) (rR (x := 1)) rfl) (le_t rfl) (le_t rfl) ⟨(rW (c := 0) (d := 1) (rR (x := 1)) rfl), trivial⟩
theorem vc_X12_isPrefix_1 {f_prefixes p1 z20 : Int} (h0 : (z20 = 1 → (0 : Int) ≤ p1 ∧ p1 ≤ (f_prefixes - 1))) (h1 : (z20 = 0 → p1 < (0 : Int) ∨ (f_prefixes - 1) < p1)) (h2 : 0 ≤ f_prefixes ∧ f_prefixes ≤ 10) (h3 : (-2147483648) ≤ p1 ∧ p1 ≤ 2147483647) (h4 : 0 ≤ z20 ∧ z20 ≤ 1) : z20 = 1 → 0 ≤ p1 ∧ p1 < f_prefixes := by omega
theorem vc_X12_isPrefix_2 {f_prefixes p1 z20 : Int} (h0 : (z20 = 1 → (0 : Int) ≤ p1 ∧ p1 ≤ (f_prefixes - 1))) (h1 : (z20 = 0 → p1 < (0 : Int) ∨ (f_prefixes - 1) < p1)) (h2 : 0 ≤ f_prefixes ∧ f_prefixes ≤ 10) (h3 : (-2147483648) ≤ p1 ∧ p1 ≤ 2147483647) (h4 : 0 ≤ z20 ∧ z20 ≤ 1) : z20 = 0 → p1 < 0 ∨ f_prefixes ≤ p1 := by omega
set_option maxRecDepth 4000 in
set_option maxHeartbeats 4000000 in
theorem c_X12_isPrefix {l : Launch} {D : va_G} {c : Nat → ClassId} {H0 : Heap} {sa : Nat × Nat × (Nat → Int32)} {w : mW} {μ : mM} (hw : mWF w) (hT : mT w μ) {p1 : Int} (hp1 : (-2147483648) ≤ p1 ∧ p1 ≤ 2147483647) {f_prefixes : Int} (q_f_prefixes : μ 106 2 = f_prefixes) : sC (gG l D c H0 sa) mX12_isPrefix 2 0 0 [.ref 106, iv p1] (mk w μ) (qP w μ (fun z => (0 ≤ z ∧ z ≤ 1) ∧ (z = 1 → 0 ≤ p1 ∧ p1 < f_prefixes) ∧ (z = 0 → p1 < 0 ∨ f_prefixes ≤ p1) ∧ True)) := by
  refine sC.of rfl (by decide) (le_t rfl) ?_
  have ht_f_prefixes : (0 ≤ f_prefixes ∧ f_prefixes ≤ 10) := by rw [← q_f_prefixes]; exact hT 106 106 (A_106 hw) 2
  refine mr_lvE (lv' := [(0, .ref 106), (1, iv p1)]) rfl ?_
  refine mr_iload_n (pc := 0) (z := p1) dX12_isPrefix_0 rfl rfl ?_
  refine mr_iconst (pc := 1) (z := 0) dX12_isPrefix_1 ?_
  refine sv_aload_n (pc := 2) dX12_isPrefix_2 rfl rfl ?_
  refine gk_X12_2 (pc := 3) dX12_isPrefix_3 wF_X12_15 (A_106 hw) q_f_prefixes ?_
  refine mr_iconst (pc := 6) (z := 1) dX12_isPrefix_6 ?_
  refine mr_isub (pc := 7) (x := f_prefixes) (y := 1) dX12_isPrefix_7 ?_
  refine mr_cSP (pc := 8) (c_X12_in hw hT hp1 (rW (c := (-2147483648)) (d := 2147483647) (rR (x := 0)) rfl) (rW (c := (-2147483648)) (d := 2147483647) (rSub (e := (-1)) (f := 9) ht_f_prefixes (rR (x := 1)) rfl) rfl)) (gOk _ _ _ _ _) dX12_isPrefix_8 (tX12_in _ _ _ _ _) wS_X12_in wM_X12_18 ⟨le_t rfl, le_t rfl⟩ ⟨le_t rfl, le_t rfl⟩ rfl (le_t rfl) fun z20 h19 => ?_
  exact mr_zretP dX12_isPrefix_11 rfl h19.1 (le_t rfl) (le_t rfl) ⟨h19.1, (vc_X12_isPrefix_1 h19.2.1 h19.2.2.1 ht_f_prefixes hp1 h19.1), (vc_X12_isPrefix_2 h19.2.1 h19.2.2.1 ht_f_prefixes hp1 h19.1), trivial⟩
set_option maxRecDepth 4000 in
set_option maxHeartbeats 4000000 in
theorem c_X12_isDomain {l : Launch} {D : va_G} {c : Nat → ClassId} {H0 : Heap} {sa : Nat × Nat × (Nat → Int32)} {w : mW} {μ : mM} (hw : mWF w) (hT : mT w μ) {p1 : Int} (hp1 : (-2147483648) ≤ p1 ∧ p1 ≤ 2147483647) {f_domains : Int} (q_f_domains : μ 106 5 = f_domains) : sC (gG l D c H0 sa) mX12_isDomain 2 0 0 [.ref 106, iv p1] (mk w μ) (qP w μ (fun z => (0 ≤ z ∧ z ≤ 1) ∧ (z = 1 → 0 ≤ p1 ∧ p1 < f_domains) ∧ (z = 0 → p1 < 0 ∨ f_domains ≤ p1) ∧ True)) := by
  refine sC.of rfl (by decide) (le_t rfl) ?_
  have ht_f_domains : (0 ≤ f_domains ∧ f_domains ≤ 10) := by rw [← q_f_domains]; exact hT 106 106 (A_106 hw) 5
  refine mr_lvE (lv' := [(0, .ref 106), (1, iv p1)]) rfl ?_
  refine mr_iload_n (pc := 0) (z := p1) dX12_isDomain_0 rfl rfl ?_
  refine mr_iconst (pc := 1) (z := 0) dX12_isDomain_1 ?_
  refine sv_aload_n (pc := 2) dX12_isDomain_2 rfl rfl ?_
  refine gk_X12_5 (pc := 3) dX12_isDomain_3 wF_X12_34 (A_106 hw) q_f_domains ?_
  refine mr_iconst (pc := 6) (z := 1) dX12_isDomain_6 ?_
  refine mr_isub (pc := 7) (x := f_domains) (y := 1) dX12_isDomain_7 ?_
  refine mr_cSP (pc := 8) (c_X12_in hw hT hp1 (rW (c := (-2147483648)) (d := 2147483647) (rR (x := 0)) rfl) (rW (c := (-2147483648)) (d := 2147483647) (rSub (e := (-1)) (f := 9) ht_f_domains (rR (x := 1)) rfl) rfl)) (gOk _ _ _ _ _) dX12_isDomain_8 (tX12_in _ _ _ _ _) wS_X12_in wM_X12_18 ⟨le_t rfl, le_t rfl⟩ ⟨le_t rfl, le_t rfl⟩ rfl (le_t rfl) fun z20 h19 => ?_
  exact mr_zretP dX12_isDomain_11 rfl h19.1 (le_t rfl) (le_t rfl) ⟨h19.1, (vc_X12_isPrefix_1 h19.2.1 h19.2.2.1 ht_f_domains hp1 h19.1), (vc_X12_isPrefix_2 h19.2.1 h19.2.2.1 ht_f_domains hp1 h19.1), trivial⟩
theorem vc_X12_isTie_1 {f_ties p1 z20 : Int} (h0 : (z20 = 1 → (0 : Int) ≤ p1 ∧ p1 ≤ (f_ties - 1))) (h1 : (z20 = 0 → p1 < (0 : Int) ∨ (f_ties - 1) < p1)) (h2 : 0 ≤ f_ties ∧ f_ties ≤ 20) (h3 : (-2147483648) ≤ p1 ∧ p1 ≤ 2147483647) (h4 : 0 ≤ z20 ∧ z20 ≤ 1) : z20 = 1 → 0 ≤ p1 ∧ p1 < f_ties := by omega
theorem vc_X12_isTie_2 {f_ties p1 z20 : Int} (h0 : (z20 = 1 → (0 : Int) ≤ p1 ∧ p1 ≤ (f_ties - 1))) (h1 : (z20 = 0 → p1 < (0 : Int) ∨ (f_ties - 1) < p1)) (h2 : 0 ≤ f_ties ∧ f_ties ≤ 20) (h3 : (-2147483648) ≤ p1 ∧ p1 ≤ 2147483647) (h4 : 0 ≤ z20 ∧ z20 ≤ 1) : z20 = 0 → p1 < 0 ∨ f_ties ≤ p1 := by omega
set_option maxRecDepth 4000 in
set_option maxHeartbeats 4000000 in
theorem c_X12_isTie {l : Launch} {D : va_G} {c : Nat → ClassId} {H0 : Heap} {sa : Nat × Nat × (Nat → Int32)} {w : mW} {μ : mM} (hw : mWF w) (hT : mT w μ) {p1 : Int} (hp1 : (-2147483648) ≤ p1 ∧ p1 ≤ 2147483647) {f_ties : Int} (q_f_ties : μ 106 6 = f_ties) : sC (gG l D c H0 sa) mX12_isTie 2 0 0 [.ref 106, iv p1] (mk w μ) (qP w μ (fun z => (0 ≤ z ∧ z ≤ 1) ∧ (z = 1 → 0 ≤ p1 ∧ p1 < f_ties) ∧ (z = 0 → p1 < 0 ∨ f_ties ≤ p1) ∧ True)) := by
  refine sC.of rfl (by decide) (le_t rfl) ?_
  have ht_f_ties : (0 ≤ f_ties ∧ f_ties ≤ 20) := by rw [← q_f_ties]; exact hT 106 106 (A_106 hw) 6
  refine mr_lvE (lv' := [(0, .ref 106), (1, iv p1)]) rfl ?_
  refine mr_iload_n (pc := 0) (z := p1) dX12_isTie_0 rfl rfl ?_
  refine mr_iconst (pc := 1) (z := 0) dX12_isTie_1 ?_
  refine sv_aload_n (pc := 2) dX12_isTie_2 rfl rfl ?_
  refine gk_X12_6 (pc := 3) dX12_isTie_3 wF_X12_37 (A_106 hw) q_f_ties ?_
  refine mr_iconst (pc := 6) (z := 1) dX12_isTie_6 ?_
  refine mr_isub (pc := 7) (x := f_ties) (y := 1) dX12_isTie_7 ?_
  refine mr_cSP (pc := 8) (c_X12_in hw hT hp1 (rW (c := (-2147483648)) (d := 2147483647) (rR (x := 0)) rfl) (rW (c := (-2147483648)) (d := 2147483647) (rSub (e := (-1)) (f := 19) ht_f_ties (rR (x := 1)) rfl) rfl)) (gOk _ _ _ _ _) dX12_isTie_8 (tX12_in _ _ _ _ _) wS_X12_in wM_X12_18 ⟨le_t rfl, le_t rfl⟩ ⟨le_t rfl, le_t rfl⟩ rfl (le_t rfl) fun z20 h19 => ?_
  exact mr_zretP dX12_isTie_11 rfl h19.1 (le_t rfl) (le_t rfl) ⟨h19.1, (vc_X12_isTie_1 h19.2.1 h19.2.2.1 ht_f_ties hp1 h19.1), (vc_X12_isTie_2 h19.2.1 h19.2.2.1 ht_f_ties hp1 h19.1), trivial⟩
theorem vc_X12_feed_3 {z378 : Int} (h0 : 20 ≤ z378) (h1 : 0 ≤ z378 ∧ z378 ≤ 20) : 20 ≤ z378 ∧ z378 ≤ 20 := by omega
theorem vc_X12_feed_4 {z378 : Int} (h0 : z378 < 20) (h1 : 0 ≤ z378 ∧ z378 ≤ 20) : 0 ≤ z378 ∧ z378 ≤ 19 := by omega
theorem vc_X12_tieOf_1 {z201 : Int} (h0 : (21 - z201) < ((0 : Nat) : Int)) (h1 : 0 ≤ z201 ∧ z201 ≤ 20) : False := by omega
theorem vc_X12_tieOf_2  : (-(99999999 : Int) : Int) = -(99999999 : Int) ∨ ((0 : Int) ≤ (-(99999999 : Int) : Int) ∧ (-(99999999 : Int) : Int) ≤ (19 : Int)) := by omega
theorem vc_X12_tieOf_3 {z201 z209 : Int} (h0 : z201 < z209) (h1 : 0 ≤ z201 ∧ z201 ≤ 20) (h2 : 0 ≤ z209 ∧ z209 ≤ 20) : 0 ≤ z201 ∧ z201 ≤ 19 := by omega
theorem vc_X12_tieOf_4 {z201 z209 : Int} (h0 : z201 < z209) (h1 : 0 ≤ z201 ∧ z201 ≤ 19) (h2 : 0 ≤ z209 ∧ z209 ≤ 20) : 1 ≤ z209 ∧ z209 ≤ 20 := by omega
theorem vc_X12_tieOf_5 {N z201 z209 : Int} (h0 : (21 - z201) < N + 1) (h1 : z201 < z209) (h2 : 0 ≤ z201 ∧ z201 ≤ 19) (h3 : 1 ≤ z209 ∧ z209 ≤ 20) : (21 - (z201 + 1)) < N := by omega
theorem vc_X12_tieOf_6 {p1 p2 z215 : Int} (h0 : z215 = p2) (h1 : ¬ z215 = p1) (h2 : (-2147483648) ≤ p1 ∧ p1 ≤ 2147483647) (h3 : (-2147483648) ≤ p2 ∧ p2 ≤ 2147483647) (h4 : 0 ≤ z215 ∧ z215 ≤ 9) : 0 ≤ p2 ∧ p2 ≤ 9 := by omega
theorem vc_X12_tieOf_7 {p1 z215 z221 : Int} (h0 : z221 = p1) (h1 : ¬ z215 = p1) (h2 : (-2147483648) ≤ p1 ∧ p1 ≤ 2147483647) (h3 : 0 ≤ z215 ∧ z215 ≤ 9) (h4 : 0 ≤ z221 ∧ z221 ≤ 9) : 0 ≤ p1 ∧ p1 ≤ 9 := by omega
theorem vc_X12_tieOf_8 {z201 z209 : Int} (h0 : z201 < z209) (h1 : 0 ≤ z201 ∧ z201 ≤ 19) (h2 : 1 ≤ z209 ∧ z209 ≤ 20) : z201 = -99999999 ∨ (0 ≤ z201 ∧ z201 ≤ 19) := by omega
theorem vc_X12_tieOf_9 {p1 z215 : Int} (h0 : z215 = p1) (h1 : (-2147483648) ≤ p1 ∧ p1 ≤ 2147483647) (h2 : 0 ≤ z215 ∧ z215 ≤ 9) : 0 ≤ p1 ∧ p1 ≤ 9 := by omega
theorem vc_X12_tieOf_11 {p1 p2 z215 z227 : Int} (h0 : z215 = p2) (h1 : z215 = p1) (h2 : ¬ z227 = p2) (h3 : 0 ≤ p1 ∧ p1 ≤ 9) (h4 : (-2147483648) ≤ p2 ∧ p2 ≤ 2147483647) (h5 : 0 ≤ z215 ∧ z215 ≤ 9) (h6 : 0 ≤ z227 ∧ z227 ≤ 9) : 0 ≤ p2 ∧ p2 ≤ 9 := by omega
theorem vc_X12_tieOf_12  : (21 - 0) < ((22 : Nat) : Int) := by omega
set_option maxRecDepth 4000 in
set_option maxHeartbeats 4000000 in
theorem c_X12_tieOf {l : Launch} {D : va_G} {c : Nat → ClassId} {H0 : Heap} {sa : Nat × Nat × (Nat → Int32)} {w : mW} {μ : mM} (hw : mWF w) (hT : mT w μ) {p1 : Int} (hp1 : (-2147483648) ≤ p1 ∧ p1 ≤ 2147483647) {p2 : Int} (hp2 : (-2147483648) ≤ p2 ∧ p2 ≤ 2147483647) : sC (gG l D c H0 sa) mX12_tieOf 1 0 0 [.ref 106, iv p1, iv p2] (mk w μ) (qP w μ (fun z => ((-99999999) ≤ z ∧ z ≤ 19) ∧ (z = -99999999 ∨ (0 ≤ z ∧ z ≤ 19)) ∧ True)) := by
  refine sC.of rfl (by decide) (le_t rfl) ?_
  refine mr_lvE (lv' := [(0, .ref 106), (1, iv p1), (2, iv p2)]) rfl ?_
  refine mr_iconst (pc := 0) (z := 0) dX12_tieOf_0 ?_
  refine mr_istore_n (pc := 1) (lv' := [(3, iv 0), (0, .ref 106), (1, iv p1), (2, iv p2)]) dX12_tieOf_1 rfl (by decide) rfl ?_
  have L202 : ∀ (nL202 : Nat) (z201 : Int), True → (0 ≤ z201 ∧ z201 ≤ 20) → (21 - z201) < (nL202 : Int) → sV (gG l D c H0 sa) mX12_tieOf (sRm 1 0 0) (sZ (gG l D c H0 sa) 0 0 (qP w μ (fun z => ((-99999999) ≤ z ∧ z ≤ 19) ∧ (z = -99999999 ∨ (0 ≤ z ∧ z ≤ 19)) ∧ True))) 2 [(0, .ref 106), (1, iv p1), (2, iv p2), (3, iv z201)] [] (mk w μ) 0 0 := by
    intro nL202
    induction nL202 with
    | zero => intro z201 _ h203 h207; exact ((vc_X12_tieOf_1 h207 h203)).elim
    | succ nL202 ih208 =>
      intro z201 _ h203 h207
      refine mr_iload_n (pc := 2) (z := z201) dX12_tieOf_2 rfl rfl ?_
      refine sv_aload_n (pc := 3) dX12_tieOf_3 rfl rfl ?_
      refine gf_X12_6 (pc := 4) dX12_tieOf_4 wF_X12_37 (A_106 hw) hT fun z209 q210 h211 => ?_
      refine mr_icmp_ge (pc := 7) (tgt := 70) dX12_tieOf_7 (by decide) (r32 h203 rfl) (r32 h211 rfl) (fun h212 => ?_) (fun h212 => ?_)
      · refine mr_ldc (pc := 70) (z := (-99999999)) dX12_tieOf_70 wG_X12_29 (by decide) ?_
        exact mr_iretP dX12_tieOf_72 rfl (le_t rfl) (le_t rfl) ⟨(rW (c := (-99999999)) (d := 19) (rR (x := (-99999999))) rfl), vc_X12_tieOf_2, trivial⟩
      have h213 : 0 ≤ z201 ∧ z201 ≤ 19 := (vc_X12_tieOf_3 h212 h203 h211)
      have h214 : 1 ≤ z209 ∧ z209 ≤ 20 := (vc_X12_tieOf_4 h212 h213 h211)
      refine sv_aload_n (pc := 10) dX12_tieOf_10 rfl rfl ?_
      refine gf_X12_7 (pc := 11) dX12_tieOf_11 wF_X12_40 (A_106 hw) hT ?_
      refine mr_iconst (pc := 14) (z := 2) dX12_tieOf_14 ?_
      refine mr_iload_n (pc := 15) (z := z201) dX12_tieOf_15 rfl rfl ?_
      refine mr_imul (pc := 16) (x := 2) (y := z201) dX12_tieOf_16 ?_
      refine la_110 (pc := 17) dX12_tieOf_17 (A_110 hw) hT (rIx (n := 40) (rMulL (n := 2) (e := 0) (f := 38) h213 rfl) rfl) fun z215 q216 h217 => ?_
      refine mr_iload_n (pc := 18) (z := p1) dX12_tieOf_18 rfl rfl ?_
      refine mr_icmp_ne (pc := 19) (tgt := 36) dX12_tieOf_19 (by decide) (r32 h217 rfl) hp1 (fun h218 => ?_) (fun h218 => ?_)
      · refine sv_aload_n (pc := 36) dX12_tieOf_36 rfl rfl ?_
        refine gf_X12_7 (pc := 37) dX12_tieOf_37 wF_X12_40 (A_106 hw) hT ?_
        refine mr_iconst (pc := 40) (z := 2) dX12_tieOf_40 ?_
        refine mr_iload_n (pc := 41) (z := z201) dX12_tieOf_41 rfl rfl ?_
        refine mr_imul (pc := 42) (x := 2) (y := z201) dX12_tieOf_42 ?_
        refine lk_110 (pc := 43) dX12_tieOf_43 (A_110 hw) (rIx (n := 40) (rMulL (n := 2) (e := 0) (f := 38) h213 rfl) rfl) q216 ?_
        refine mr_iload_n (pc := 44) (z := p2) dX12_tieOf_44 rfl rfl ?_
        refine mr_icmp_ne (pc := 45) (tgt := 64) dX12_tieOf_45 (by decide) (r32 h217 rfl) hp2 (fun h219 => ?_) (fun h219 => ?_)
        · refine mr_iinc (pc := 64) (lv' := [(3, iv (z201 + 1)), (0, .ref 106), (1, iv p1), (2, iv p2)]) dX12_tieOf_64 rfl (by decide) rfl ?_
          refine sv_goto (pc := 67) (tgt := 2) dX12_tieOf_67 (by decide) ?_
          refine mr_lvS (lv' := [(0, .ref 106), (1, iv p1), (2, iv p2), (3, iv (z201 + 1))]) (List.forall_mem_cons.mpr ⟨rfl, List.forall_mem_cons.mpr ⟨rfl, List.forall_mem_cons.mpr ⟨rfl, List.forall_mem_cons.mpr ⟨rfl, fun _ h => absurd h List.not_mem_nil⟩⟩⟩⟩) ?_
          exact ih208 (z201 + 1) trivial (rW (c := 0) (d := 20) (rAdd (e := 1) (f := 20) h213 (rR (x := 1)) rfl) rfl) (vc_X12_tieOf_5 (nS h207) h212 h213 h214)
        have h220 : 0 ≤ p2 ∧ p2 ≤ 9 := (vc_X12_tieOf_6 h219 h218 hp1 hp2 h217)
        refine sv_aload_n (pc := 48) dX12_tieOf_48 rfl rfl ?_
        refine gf_X12_7 (pc := 49) dX12_tieOf_49 wF_X12_40 (A_106 hw) hT ?_
        refine mr_iconst (pc := 52) (z := 2) dX12_tieOf_52 ?_
        refine mr_iload_n (pc := 53) (z := z201) dX12_tieOf_53 rfl rfl ?_
        refine mr_imul (pc := 54) (x := 2) (y := z201) dX12_tieOf_54 ?_
        refine mr_iconst (pc := 55) (z := 1) dX12_tieOf_55 ?_
        refine mr_iadd (pc := 56) (x := (2 * z201)) (y := 1) dX12_tieOf_56 ?_
        refine la_110 (pc := 57) dX12_tieOf_57 (A_110 hw) hT (rIx (n := 40) (rAdd (e := 1) (f := 39) (rMulL (n := 2) (e := 0) (f := 38) h213 rfl) (rR (x := 1)) rfl) rfl) fun z221 q222 h223 => ?_
        refine mr_iload_n (pc := 58) (z := p1) dX12_tieOf_58 rfl rfl ?_
        refine mr_icmp_ne (pc := 59) (tgt := 64) dX12_tieOf_59 (by decide) (r32 h223 rfl) hp1 (fun h224 => ?_) (fun h224 => ?_)
        · refine mr_iinc (pc := 64) (lv' := [(3, iv (z201 + 1)), (0, .ref 106), (1, iv p1), (2, iv p2)]) dX12_tieOf_64 rfl (by decide) rfl ?_
          refine sv_goto (pc := 67) (tgt := 2) dX12_tieOf_67 (by decide) ?_
          refine mr_lvS (lv' := [(0, .ref 106), (1, iv p1), (2, iv p2), (3, iv (z201 + 1))]) (List.forall_mem_cons.mpr ⟨rfl, List.forall_mem_cons.mpr ⟨rfl, List.forall_mem_cons.mpr ⟨rfl, List.forall_mem_cons.mpr ⟨rfl, fun _ h => absurd h List.not_mem_nil⟩⟩⟩⟩) ?_
          exact ih208 (z201 + 1) trivial (rW (c := 0) (d := 20) (rAdd (e := 1) (f := 20) h213 (rR (x := 1)) rfl) rfl) (vc_X12_tieOf_5 (nS h207) h212 h213 h214)
        have h225 : 0 ≤ p1 ∧ p1 ≤ 9 := (vc_X12_tieOf_7 h224 h218 hp1 h217 h223)
        refine mr_iload_n (pc := 62) (z := z201) dX12_tieOf_62 rfl rfl ?_
        exact mr_iretP dX12_tieOf_63 rfl (le_t rfl) (le_t rfl) ⟨(rW (c := (-99999999)) (d := 19) h213 rfl), (vc_X12_tieOf_8 h212 h213 h214), trivial⟩
      have h226 : 0 ≤ p1 ∧ p1 ≤ 9 := (vc_X12_tieOf_9 h218 hp1 h217)
      refine sv_aload_n (pc := 22) dX12_tieOf_22 rfl rfl ?_
      refine gf_X12_7 (pc := 23) dX12_tieOf_23 wF_X12_40 (A_106 hw) hT ?_
      refine mr_iconst (pc := 26) (z := 2) dX12_tieOf_26 ?_
      refine mr_iload_n (pc := 27) (z := z201) dX12_tieOf_27 rfl rfl ?_
      refine mr_imul (pc := 28) (x := 2) (y := z201) dX12_tieOf_28 ?_
      refine mr_iconst (pc := 29) (z := 1) dX12_tieOf_29 ?_
      refine mr_iadd (pc := 30) (x := (2 * z201)) (y := 1) dX12_tieOf_30 ?_
      refine la_110 (pc := 31) dX12_tieOf_31 (A_110 hw) hT (rIx (n := 40) (rAdd (e := 1) (f := 39) (rMulL (n := 2) (e := 0) (f := 38) h213 rfl) (rR (x := 1)) rfl) rfl) fun z227 q228 h229 => ?_
      refine mr_iload_n (pc := 32) (z := p2) dX12_tieOf_32 rfl rfl ?_
      refine mr_icmp_eq (pc := 33) (tgt := 62) dX12_tieOf_33 (by decide) (r32 h229 rfl) hp2 (fun h230 => ?_) (fun h230 => ?_)
      · have h231 : 0 ≤ p2 ∧ p2 ≤ 9 := (vc_X12_tieOf_9 h230 hp2 h229)
        refine mr_iload_n (pc := 62) (z := z201) dX12_tieOf_62 rfl rfl ?_
        exact mr_iretP dX12_tieOf_63 rfl (le_t rfl) (le_t rfl) ⟨(rW (c := (-99999999)) (d := 19) h213 rfl), (vc_X12_tieOf_8 h212 h213 h214), trivial⟩
      refine sv_aload_n (pc := 36) dX12_tieOf_36 rfl rfl ?_
      refine gf_X12_7 (pc := 37) dX12_tieOf_37 wF_X12_40 (A_106 hw) hT ?_
      refine mr_iconst (pc := 40) (z := 2) dX12_tieOf_40 ?_
      refine mr_iload_n (pc := 41) (z := z201) dX12_tieOf_41 rfl rfl ?_
      refine mr_imul (pc := 42) (x := 2) (y := z201) dX12_tieOf_42 ?_
      refine lk_110 (pc := 43) dX12_tieOf_43 (A_110 hw) (rIx (n := 40) (rMulL (n := 2) (e := 0) (f := 38) h213 rfl) rfl) q216 ?_
      refine mr_iload_n (pc := 44) (z := p2) dX12_tieOf_44 rfl rfl ?_
      refine mr_icmp_ne (pc := 45) (tgt := 64) dX12_tieOf_45 (by decide) (r32 h217 rfl) hp2 (fun h232 => ?_) (fun h232 => ?_)
      · refine mr_iinc (pc := 64) (lv' := [(3, iv (z201 + 1)), (0, .ref 106), (1, iv p1), (2, iv p2)]) dX12_tieOf_64 rfl (by decide) rfl ?_
        refine sv_goto (pc := 67) (tgt := 2) dX12_tieOf_67 (by decide) ?_
        refine mr_lvS (lv' := [(0, .ref 106), (1, iv p1), (2, iv p2), (3, iv (z201 + 1))]) (List.forall_mem_cons.mpr ⟨rfl, List.forall_mem_cons.mpr ⟨rfl, List.forall_mem_cons.mpr ⟨rfl, List.forall_mem_cons.mpr ⟨rfl, fun _ h => absurd h List.not_mem_nil⟩⟩⟩⟩) ?_
        exact ih208 (z201 + 1) trivial (rW (c := 0) (d := 20) (rAdd (e := 1) (f := 20) h213 (rR (x := 1)) rfl) rfl) (vc_X12_tieOf_5 (nS h207) h212 h213 h214)
      have h233 : 0 ≤ p2 ∧ p2 ≤ 9 := (vc_X12_tieOf_11 h232 h218 h230 h226 hp2 h217 h229)
      refine sv_aload_n (pc := 48) dX12_tieOf_48 rfl rfl ?_
      refine gf_X12_7 (pc := 49) dX12_tieOf_49 wF_X12_40 (A_106 hw) hT ?_
      refine mr_iconst (pc := 52) (z := 2) dX12_tieOf_52 ?_
      refine mr_iload_n (pc := 53) (z := z201) dX12_tieOf_53 rfl rfl ?_
      refine mr_imul (pc := 54) (x := 2) (y := z201) dX12_tieOf_54 ?_
      refine mr_iconst (pc := 55) (z := 1) dX12_tieOf_55 ?_
      refine mr_iadd (pc := 56) (x := (2 * z201)) (y := 1) dX12_tieOf_56 ?_
      refine lk_110 (pc := 57) dX12_tieOf_57 (A_110 hw) (rIx (n := 40) (rAdd (e := 1) (f := 39) (rMulL (n := 2) (e := 0) (f := 38) h213 rfl) (rR (x := 1)) rfl) rfl) q228 ?_
      refine mr_iload_n (pc := 58) (z := p1) dX12_tieOf_58 rfl rfl ?_
      refine mr_icmp_ne (pc := 59) (tgt := 64) dX12_tieOf_59 (by decide) (r32 h229 rfl) (r32 h226 rfl) (fun h234 => ?_) (fun h234 => ?_)
      · refine mr_iinc (pc := 64) (lv' := [(3, iv (z201 + 1)), (0, .ref 106), (1, iv p1), (2, iv p2)]) dX12_tieOf_64 rfl (by decide) rfl ?_
        refine sv_goto (pc := 67) (tgt := 2) dX12_tieOf_67 (by decide) ?_
        refine mr_lvS (lv' := [(0, .ref 106), (1, iv p1), (2, iv p2), (3, iv (z201 + 1))]) (List.forall_mem_cons.mpr ⟨rfl, List.forall_mem_cons.mpr ⟨rfl, List.forall_mem_cons.mpr ⟨rfl, List.forall_mem_cons.mpr ⟨rfl, fun _ h => absurd h List.not_mem_nil⟩⟩⟩⟩) ?_
        exact ih208 (z201 + 1) trivial (rW (c := 0) (d := 20) (rAdd (e := 1) (f := 20) h213 (rR (x := 1)) rfl) rfl) (vc_X12_tieOf_5 (nS h207) h212 h213 h214)
      refine mr_iload_n (pc := 62) (z := z201) dX12_tieOf_62 rfl rfl ?_
      exact mr_iretP dX12_tieOf_63 rfl (le_t rfl) (le_t rfl) ⟨(rW (c := (-99999999)) (d := 19) h213 rfl), (vc_X12_tieOf_8 h212 h213 h214), trivial⟩
  refine mr_lvS (lv' := [(0, .ref 106), (1, iv p1), (2, iv p2), (3, iv 0)]) (List.forall_mem_cons.mpr ⟨rfl, List.forall_mem_cons.mpr ⟨rfl, List.forall_mem_cons.mpr ⟨rfl, List.forall_mem_cons.mpr ⟨rfl, fun _ h => absurd h List.not_mem_nil⟩⟩⟩⟩) ?_
  exact L202 22 0 trivial (rW (c := 0) (d := 20) (rR (x := 0)) rfl) vc_X12_tieOf_12
theorem vc_X12_provides_1 {z5 : Int} (h0 : z5 = (-99999999)) (h1 : z5 = -99999999 ∨ (0 ≤ z5 ∧ z5 ≤ 19)) (h2 : (-99999999) ≤ z5 ∧ z5 ≤ 19) : (-99999999) ≤ z5 ∧ z5 ≤ (-99999999) := by omega
theorem vc_X12_provides_2 {z5 : Int} (h0 : ¬ z5 = (-99999999)) (h1 : z5 = -99999999 ∨ (0 ≤ z5 ∧ z5 ≤ 19)) (h2 : (-99999999) ≤ z5 ∧ z5 ≤ 19) : 0 ≤ z5 ∧ z5 ≤ 19 := by omega
theorem vc_X12_provides_3 {z20 : Int} (h0 : ¬ z20 = 0) (h1 : 0 ≤ z20 ∧ z20 ≤ 2) : 1 ≤ z20 ∧ z20 ≤ 2 := by omega
theorem vc_X12_provides_4 {z20 : Int} (h0 : z20 = 0) (h1 : 0 ≤ z20 ∧ z20 ≤ 2) : 0 ≤ z20 ∧ z20 ≤ 0 := by omega
set_option maxRecDepth 4000 in
set_option maxHeartbeats 4000000 in
theorem c_X12_provides {l : Launch} {D : va_G} {c : Nat → ClassId} {H0 : Heap} {sa : Nat × Nat × (Nat → Int32)} {w : mW} {μ : mM} (hw : mWF w) (hT : mT w μ) {p1 : Int} (hp1 : (-2147483648) ≤ p1 ∧ p1 ≤ 2147483647) {p2 : Int} (hp2 : (-2147483648) ≤ p2 ∧ p2 ≤ 2147483647) : sC (gG l D c H0 sa) mX12_provides 2 0 0 [.ref 106, iv p1, iv p2] (mk w μ) (qP w μ (fun z => (0 ≤ z ∧ z ≤ 1) ∧ True)) := by
  refine sC.of rfl (by decide) (le_t rfl) ?_
  refine mr_lvE (lv' := [(0, .ref 106), (1, iv p1), (2, iv p2)]) rfl ?_
  refine sv_aload_n (pc := 0) dX12_provides_0 rfl rfl ?_
  refine mr_iload_n (pc := 1) (z := p1) dX12_provides_1 rfl rfl ?_
  refine mr_iload_n (pc := 2) (z := p2) dX12_provides_2 rfl rfl ?_
  refine mr_cVP (pc := 3) (c_X12_tieOf hw hT hp1 hp2) (gOk _ _ _ _ _) dX12_provides_3 (tX12_tieOf _ _ _ _ _) ⟨wV_X12_tieOf, wL_X12_tieOf⟩ wM_X12_43 (gCX12 _ _ _ _ _) rfl (A_106 hw) rfl ⟨le_t rfl, le_t rfl⟩ ⟨le_t rfl, le_t rfl⟩ rfl (le_t rfl) fun z5 h4 => ?_
  refine mr_istore_n (pc := 6) (lv' := [(3, iv z5), (0, .ref 106), (1, iv p1), (2, iv p2)]) dX12_provides_6 rfl (by decide) rfl ?_
  refine mr_iload_n (pc := 7) (z := z5) dX12_provides_7 rfl rfl ?_
  refine mr_ldc (pc := 8) (z := (-99999999)) dX12_provides_8 wG_X12_29 (by decide) ?_
  refine mr_icmp_eq (pc := 10) (tgt := 38) dX12_provides_10 (by decide) (r32 h4.1 rfl) (r32 (rR (x := (-99999999))) rfl) (fun h17 => ?_) (fun h17 => ?_)
  · have h18 : (-99999999) ≤ z5 ∧ z5 ≤ (-99999999) := (vc_X12_provides_1 h17 h4.2.1 h4.1)
    refine mr_iconst (pc := 38) (z := 0) dX12_provides_38 ?_
    exact mr_zretP dX12_provides_39 rfl (rW (c := 0) (d := 1) (rR (x := 0)) rfl) (le_t rfl) (le_t rfl) ⟨(rW (c := 0) (d := 1) (rR (x := 0)) rfl), trivial⟩
  have h19 : 0 ≤ z5 ∧ z5 ≤ 19 := (vc_X12_provides_2 h17 h4.2.1 h4.1)
  refine sv_aload_n (pc := 13) dX12_provides_13 rfl rfl ?_
  refine gf_X12_8 (pc := 14) dX12_provides_14 wF_X12_46 (A_106 hw) hT ?_
  refine mr_iload_n (pc := 17) (z := z5) dX12_provides_17 rfl rfl ?_
  refine la_111 (pc := 18) dX12_provides_18 (A_111 hw) hT (rIx (n := 20) h19 rfl) fun z20 q21 h22 => ?_
  refine mr_if_ne (pc := 19) (tgt := 38) dX12_provides_19 (by decide) (r32 h22 rfl) (fun h29 => ?_) (fun h29 => ?_)
  · have h30 : 1 ≤ z20 ∧ z20 ≤ 2 := (vc_X12_provides_3 h29 h22)
    refine mr_iconst (pc := 38) (z := 0) dX12_provides_38 ?_
    exact mr_zretP dX12_provides_39 rfl (rW (c := 0) (d := 1) (rR (x := 0)) rfl) (le_t rfl) (le_t rfl) ⟨(rW (c := 0) (d := 1) (rR (x := 0)) rfl), trivial⟩
  have h31 : 0 ≤ z20 ∧ z20 ≤ 0 := (vc_X12_provides_4 h29 h22)
  refine sv_aload_n (pc := 22) dX12_provides_22 rfl rfl ?_
  refine gf_X12_7 (pc := 23) dX12_provides_23 wF_X12_40 (A_106 hw) hT ?_
  refine mr_iconst (pc := 26) (z := 2) dX12_provides_26 ?_
  refine mr_iload_n (pc := 27) (z := z5) dX12_provides_27 rfl rfl ?_
  refine mr_imul (pc := 28) (x := 2) (y := z5) dX12_provides_28 ?_
  refine la_110 (pc := 29) dX12_provides_29 (A_110 hw) hT (rIx (n := 40) (rMulL (n := 2) (e := 0) (f := 38) h19 rfl) rfl) fun z32 q33 h34 => ?_
  refine mr_iload_n (pc := 30) (z := p1) dX12_provides_30 rfl rfl ?_
  refine mr_icmp_ne (pc := 31) (tgt := 38) dX12_provides_31 (by decide) (r32 h34 rfl) hp1 (fun h36 => ?_) (fun h36 => ?_)
  · refine mr_iconst (pc := 38) (z := 0) dX12_provides_38 ?_
    exact mr_zretP dX12_provides_39 rfl (rW (c := 0) (d := 1) (rR (x := 0)) rfl) (le_t rfl) (le_t rfl) ⟨(rW (c := 0) (d := 1) (rR (x := 0)) rfl), trivial⟩
  have h37 : 0 ≤ p1 ∧ p1 ≤ 9 := (vc_X12_tieOf_9 h36 hp1 h34)
  refine mr_iconst (pc := 34) (z := 1) dX12_provides_34 ?_
  refine sv_goto (pc := 35) (tgt := 39) dX12_provides_35 (by decide) ?_
  exact mr_zretP dX12_provides_39 rfl (rW (c := 0) (d := 1) (rR (x := 1)) rfl) (le_t rfl) (le_t rfl) ⟨(rW (c := 0) (d := 1) (rR (x := 1)) rfl), trivial⟩
theorem vc_X12_ring_1 {p1 : Int} (h0 : 0 ≤ p1) (h1 : (-2147483648) ≤ p1 ∧ p1 ≤ 2147483647) : 0 ≤ p1 ∧ p1 ≤ 2147483647 := by omega
theorem vc_X12_ring_2 {z6390 : Int} (h0 : (11 - z6390) < ((0 : Nat) : Int)) (h1 : 0 ≤ z6390 ∧ z6390 ≤ 10) : False := by omega
theorem vc_X12_ring_3 {z6390 z6399 : Int} (h0 : z6390 < z6399) (h1 : 0 ≤ z6390 ∧ z6390 ≤ 10) (h2 : 0 ≤ z6399 ∧ z6399 ≤ 10) : 0 ≤ z6390 ∧ z6390 ≤ 9 := by omega
theorem vc_X12_ring_4 {z6390 z6399 : Int} (h0 : z6390 < z6399) (h1 : 0 ≤ z6390 ∧ z6390 ≤ 9) (h2 : 0 ≤ z6399 ∧ z6399 ≤ 10) : 1 ≤ z6399 ∧ z6399 ≤ 10 := by omega
theorem vc_X12_ring_6 {z7324 : Int} (h0 : 10 ≤ z7324) (h1 : 0 ≤ z7324 ∧ z7324 ≤ 10) : 10 ≤ z7324 ∧ z7324 ≤ 10 := by omega
theorem vc_X12_ring_7 {z8858 : Int} (h0 : (12 - z8858) < ((0 : Nat) : Int)) (h1 : 1 ≤ z8858 ∧ z8858 ≤ 11) : False := by omega
theorem vc_X12_ring_8 {z6390 z6399 z8858 : Int} (h0 : z6399 < z8858) (h1 : z6390 < z6399) (h2 : 0 ≤ z6390 ∧ z6390 ≤ 9) (h3 : 1 ≤ z6399 ∧ z6399 ≤ 10) (h4 : 1 ≤ z8858 ∧ z8858 ≤ 11) : 2 ≤ z8858 ∧ z8858 ≤ 11 := by omega
theorem vc_X12_ring_9 {z8999 : Int} (h0 : z8999 = -99999999 ∨ (0 ≤ z8999 ∧ z8999 ≤ 10)) : -99999999 ≤ z8999 ∧ z8999 ≤ 10 := by omega
theorem vc_X12_ring_10 {z8999 : Int} (h0 : ¬ z8999 = (-99999999)) (h1 : (-99999999) ≤ z8999 ∧ z8999 ≤ 10) (h2 : z8999 = -99999999 ∨ (0 ≤ z8999 ∧ z8999 ≤ 10)) : 0 ≤ z8999 ∧ z8999 ≤ 10 := by omega
theorem vc_X12_ring_11 {p1 z8999 : Int} (h0 : p1 < z8999) (h1 : 0 ≤ p1) (h2 : ¬ z8999 = (-99999999)) (h3 : 0 ≤ p1 ∧ p1 ≤ 2147483647) (h4 : 0 ≤ z8999 ∧ z8999 ≤ 10) (h5 : z8999 = -99999999 ∨ (0 ≤ z8999 ∧ z8999 ≤ 10)) : 0 ≤ p1 ∧ p1 ≤ 9 := by omega
theorem vc_X12_ring_12 {p1 z8999 : Int} (h0 : p1 < z8999) (h1 : 0 ≤ p1) (h2 : ¬ z8999 = (-99999999)) (h3 : 0 ≤ p1 ∧ p1 ≤ 9) (h4 : 0 ≤ z8999 ∧ z8999 ≤ 10) (h5 : z8999 = -99999999 ∨ (0 ≤ z8999 ∧ z8999 ≤ 10)) : 1 ≤ z8999 ∧ z8999 ≤ 10 := by omega
theorem vc_X12_ring_13 {z9248 : Int} (h0 : (10 - z9248) < ((0 : Nat) : Int)) (h1 : 0 ≤ z9248 ∧ z9248 ≤ 9) : False := by omega
theorem vc_X12_ring_14 {p1 z8999 z9248 : Int} (h0 : z9248 < p1) (h1 : 0 ≤ p1) (h2 : p1 < z8999) (h3 : 0 ≤ p1 ∧ p1 ≤ 9) (h4 : 1 ≤ z8999 ∧ z8999 ≤ 10) (h5 : z8999 = -99999999 ∨ (0 ≤ z8999 ∧ z8999 ≤ 10)) (h6 : 0 ≤ z9248 ∧ z9248 ≤ 9) : 0 ≤ z9248 ∧ z9248 ≤ 8 := by omega
theorem vc_X12_ring_15 {p1 z8999 z9248 : Int} (h0 : z9248 < p1) (h1 : 0 ≤ p1) (h2 : p1 < z8999) (h3 : 0 ≤ p1 ∧ p1 ≤ 9) (h4 : 1 ≤ z8999 ∧ z8999 ≤ 10) (h5 : z8999 = -99999999 ∨ (0 ≤ z8999 ∧ z8999 ≤ 10)) (h6 : 0 ≤ z9248 ∧ z9248 ≤ 8) : 1 ≤ p1 ∧ p1 ≤ 9 := by omega
theorem vc_X12_ring_17 {z6390 z6399 z8858 z9421 : Int} (h0 : z6399 ≤ z9421) (h1 : z6390 < z6399) (h2 : z6399 < z8858) (h3 : 0 ≤ z6390 ∧ z6390 ≤ 9) (h4 : 1 ≤ z6399 ∧ z6399 ≤ 10) (h5 : 2 ≤ z8858 ∧ z8858 ≤ 11) (h6 : 0 ≤ z9421 ∧ z9421 ≤ 10) : 1 ≤ z9421 ∧ z9421 ≤ 10 := by omega
theorem vc_X12_ring_18 {N p1 z8999 z9248 : Int} (h0 : (10 - z9248) < N + 1) (h1 : z9248 < p1) (h2 : 0 ≤ p1) (h3 : p1 < z8999) (h4 : 1 ≤ p1 ∧ p1 ≤ 9) (h5 : 1 ≤ z8999 ∧ z8999 ≤ 10) (h6 : z8999 = -99999999 ∨ (0 ≤ z8999 ∧ z8999 ≤ 10)) (h7 : 0 ≤ z9248 ∧ z9248 ≤ 8) : (10 - (z9248 + 1)) < N := by omega
theorem vc_X12_ring_19 {z6390 z6399 z8858 z9421 : Int} (h0 : z9421 < z6399) (h1 : z6390 < z6399) (h2 : z6399 < z8858) (h3 : 0 ≤ z6390 ∧ z6390 ≤ 9) (h4 : 1 ≤ z6399 ∧ z6399 ≤ 10) (h5 : 2 ≤ z8858 ∧ z8858 ≤ 11) (h6 : 0 ≤ z9421 ∧ z9421 ≤ 10) : 0 ≤ z9421 ∧ z9421 ≤ 9 := by omega
theorem vc_X12_ring_20 {z9422 : Int} (h0 : ¬ z9422 = (-99999999)) (h1 : (-99999999) ≤ z9422 ∧ z9422 ≤ 9) : (-99999998) ≤ z9422 ∧ z9422 ≤ 9 := by omega
theorem vc_X12_ring_21 {z9422 : Int} (h0 : z9422 = (-99999999)) (h1 : (-99999999) ≤ z9422 ∧ z9422 ≤ 9) : (-99999999) ≤ z9422 ∧ z9422 ≤ (-99999999) := by omega
theorem vc_X12_ring_22 {z9471 : Int} (h0 : z9471 = 0) (h1 : 0 ≤ z9471 ∧ z9471 ≤ 1) : 0 ≤ z9471 ∧ z9471 ≤ 0 := by omega
theorem vc_X12_ring_23 {N z6390 z6399 z8858 z9421 : Int} (h0 : (11 - z9421) < N + 1) (h1 : z9421 < z6399) (h2 : z6390 < z6399) (h3 : z6399 < z8858) (h4 : 0 ≤ z6390 ∧ z6390 ≤ 9) (h5 : 1 ≤ z6399 ∧ z6399 ≤ 10) (h6 : 2 ≤ z8858 ∧ z8858 ≤ 11) (h7 : 0 ≤ z9421 ∧ z9421 ≤ 9) : (11 - (z9421 + 1)) < N := by omega
theorem vc_X12_ring_24 {z9471 : Int} (h0 : ¬ z9471 = 0) (h1 : 0 ≤ z9471 ∧ z9471 ≤ 1) : 1 ≤ z9471 ∧ z9471 ≤ 1 := by omega
theorem vc_X12_ring_26 {p1 z8999 z9248 z9482 : Int} (h0 : z9482 = ((z8999 - z9248) - 1)) (h1 : ¬ z8999 = (-99999999)) (h2 : p1 < z8999) (h3 : z9248 < p1) (h4 : 1 ≤ p1 ∧ p1 ≤ 9) (h5 : 1 ≤ z8999 ∧ z8999 ≤ 10) (h6 : z8999 = -99999999 ∨ (0 ≤ z8999 ∧ z8999 ≤ 10)) (h7 : 0 ≤ z9248 ∧ z9248 ≤ 8) (h8 : (-99999999) ≤ z9482 ∧ z9482 ≤ 10) (h9 : z9482 = -99999999 ∨ (0 ≤ z9482 ∧ z9482 ≤ 10)) : 0 ≤ z9482 ∧ z9482 ≤ 9 := by omega
theorem vc_X12_ring_27  : (11 - 0) < ((12 : Nat) : Int) := by omega
theorem vc_X12_ring_28  : (10 - 0) < ((11 : Nat) : Int) := by omega
theorem vc_X12_ring_29 {z8999 : Int} (h0 : z8999 = (-99999999)) (h1 : (-99999999) ≤ z8999 ∧ z8999 ≤ 10) (h2 : z8999 = -99999999 ∨ (0 ≤ z8999 ∧ z8999 ≤ 10)) : (-99999999) ≤ z8999 ∧ z8999 ≤ (-99999999) := by omega
theorem vc_X12_ring_30 {N z6390 z6399 z8858 : Int} (h0 : (11 - z6390) < N + 1) (h1 : z6390 < z6399) (h2 : z6399 < z8858) (h3 : 0 ≤ z6390 ∧ z6390 ≤ 9) (h4 : 1 ≤ z6399 ∧ z6399 ≤ 10) (h5 : 2 ≤ z8858 ∧ z8858 ≤ 11) : (11 - (z6390 + 1)) < N := by omega
theorem vc_X12_ring_31 {z6390 z6399 z8858 : Int} (h0 : z8858 ≤ z6399) (h1 : z6390 < z6399) (h2 : 0 ≤ z6390 ∧ z6390 ≤ 9) (h3 : 1 ≤ z6399 ∧ z6399 ≤ 10) (h4 : 1 ≤ z8858 ∧ z8858 ≤ 11) : 1 ≤ z8858 ∧ z8858 ≤ 10 := by omega
theorem vc_X12_ring_33 {z6390 z6399 z8858 z9937 : Int} (h0 : z6399 ≤ z9937) (h1 : z6390 < z6399) (h2 : z8858 ≤ z6399) (h3 : 0 ≤ z6390 ∧ z6390 ≤ 9) (h4 : 1 ≤ z6399 ∧ z6399 ≤ 10) (h5 : 1 ≤ z8858 ∧ z8858 ≤ 10) (h6 : 0 ≤ z9937 ∧ z9937 ≤ 10) : 1 ≤ z9937 ∧ z9937 ≤ 10 := by omega
theorem vc_X12_ring_34 {N z6390 z6399 z8858 z9937 : Int} (h0 : (12 - z8858) < N + 1) (h1 : z8858 ≤ z6399) (h2 : z6390 < z6399) (h3 : z6399 ≤ z9937) (h4 : 0 ≤ z6390 ∧ z6390 ≤ 9) (h5 : 1 ≤ z6399 ∧ z6399 ≤ 10) (h6 : 1 ≤ z8858 ∧ z8858 ≤ 10) (h7 : 1 ≤ z9937 ∧ z9937 ≤ 10) : (12 - (z8858 + 1)) < N := by omega
theorem vc_X12_ring_35 {z6390 z6399 z8858 z9937 : Int} (h0 : z9937 < z6399) (h1 : z6390 < z6399) (h2 : z8858 ≤ z6399) (h3 : 0 ≤ z6390 ∧ z6390 ≤ 9) (h4 : 1 ≤ z6399 ∧ z6399 ≤ 10) (h5 : 1 ≤ z8858 ∧ z8858 ≤ 10) (h6 : 0 ≤ z9937 ∧ z9937 ≤ 10) : 0 ≤ z9937 ∧ z9937 ≤ 9 := by omega
theorem vc_X12_ring_37 {z10224 z6390 z6399 z8858 z9937 : Int} (h0 : z6399 ≤ z10224) (h1 : z6390 < z6399) (h2 : z8858 ≤ z6399) (h3 : z9937 < z6399) (h4 : 0 ≤ z10224 ∧ z10224 ≤ 10) (h5 : 0 ≤ z6390 ∧ z6390 ≤ 9) (h6 : 1 ≤ z6399 ∧ z6399 ≤ 10) (h7 : 1 ≤ z8858 ∧ z8858 ≤ 10) (h8 : 0 ≤ z9937 ∧ z9937 ≤ 9) : 1 ≤ z10224 ∧ z10224 ≤ 10 := by omega
theorem vc_X12_ring_38 {N z10224 z6390 z6399 z8858 z9937 : Int} (h0 : (11 - z9937) < N + 1) (h1 : z9937 < z6399) (h2 : z6390 < z6399) (h3 : z8858 ≤ z6399) (h4 : z6399 ≤ z10224) (h5 : 1 ≤ z10224 ∧ z10224 ≤ 10) (h6 : 0 ≤ z6390 ∧ z6390 ≤ 9) (h7 : 1 ≤ z6399 ∧ z6399 ≤ 10) (h8 : 1 ≤ z8858 ∧ z8858 ≤ 10) (h9 : 0 ≤ z9937 ∧ z9937 ≤ 9) : (11 - (z9937 + 1)) < N := by omega
theorem vc_X12_ring_39 {z10224 z6390 z6399 z8858 z9937 : Int} (h0 : z10224 < z6399) (h1 : z6390 < z6399) (h2 : z8858 ≤ z6399) (h3 : z9937 < z6399) (h4 : 0 ≤ z10224 ∧ z10224 ≤ 10) (h5 : 0 ≤ z6390 ∧ z6390 ≤ 9) (h6 : 1 ≤ z6399 ∧ z6399 ≤ 10) (h7 : 1 ≤ z8858 ∧ z8858 ≤ 10) (h8 : 0 ≤ z9937 ∧ z9937 ≤ 9) : 0 ≤ z10224 ∧ z10224 ≤ 9 := by omega
theorem vc_X12_ring_42 {N z10224 z6390 z6399 z8858 z9937 : Int} (h0 : (11 - z9937) < N + 1) (h1 : z9937 < z6399) (h2 : z6390 < z6399) (h3 : z8858 ≤ z6399) (h4 : z10224 < z6399) (h5 : 0 ≤ z10224 ∧ z10224 ≤ 9) (h6 : 0 ≤ z6390 ∧ z6390 ≤ 9) (h7 : 1 ≤ z6399 ∧ z6399 ≤ 10) (h8 : 1 ≤ z8858 ∧ z8858 ≤ 10) (h9 : 0 ≤ z9937 ∧ z9937 ≤ 9) : (11 - (z9937 + 1)) < N := by omega
theorem vc_X12_ring_45 {N z10224 z6390 z6399 z8858 z9937 : Int} (h0 : (11 - z10224) < N + 1) (h1 : z10224 < z6399) (h2 : z6390 < z6399) (h3 : z8858 ≤ z6399) (h4 : z9937 < z6399) (h5 : 0 ≤ z10224 ∧ z10224 ≤ 9) (h6 : 0 ≤ z6390 ∧ z6390 ≤ 9) (h7 : 1 ≤ z6399 ∧ z6399 ≤ 10) (h8 : 1 ≤ z8858 ∧ z8858 ≤ 10) (h9 : 0 ≤ z9937 ∧ z9937 ≤ 9) : (11 - (z10224 + 1)) < N := by omega
theorem vc_X12_ring_47 {z6399 z8858 : Int} (h0 : ¬ z8858 = 1) (h1 : z8858 ≤ z6399) (h2 : 1 ≤ z6399 ∧ z6399 ≤ 10) (h3 : 1 ≤ z8858 ∧ z8858 ≤ 10) : 2 ≤ z8858 ∧ z8858 ≤ 10 := by omega
theorem vc_X12_ring_49 {N z10224 z6390 z6399 z8858 z9937 : Int} (h0 : (11 - z10224) < N + 1) (h1 : z10224 < z6399) (h2 : z6390 < z6399) (h3 : z8858 ≤ z6399) (h4 : z9937 < z6399) (h5 : 0 ≤ z10224 ∧ z10224 ≤ 9) (h6 : 0 ≤ z6390 ∧ z6390 ≤ 9) (h7 : 1 ≤ z6399 ∧ z6399 ≤ 10) (h8 : 2 ≤ z8858 ∧ z8858 ≤ 10) (h9 : 0 ≤ z9937 ∧ z9937 ≤ 9) : (11 - (z10224 + 1)) < N := by omega
theorem vc_X12_ring_50 {z10331 z6399 z8858 : Int} (h0 : z10331 = (z8858 - 1)) (h1 : z8858 ≤ z6399) (h2 : ¬ z8858 = 1) (h3 : (-99999999) ≤ z10331 ∧ z10331 ≤ 10) (h4 : z10331 = -99999999 ∨ (0 ≤ z10331 ∧ z10331 ≤ 10)) (h5 : 1 ≤ z6399 ∧ z6399 ≤ 10) (h6 : 2 ≤ z8858 ∧ z8858 ≤ 10) : 1 ≤ z10331 ∧ z10331 ≤ 9 := by omega
theorem vc_X12_ring_51 {z10224 z10331 z6390 z6399 z8858 z9937 : Int} (h0 : z8858 ≤ z6399) (h1 : ¬ z8858 = 1) (h2 : z10331 = (z8858 - 1)) (h3 : z6390 < z6399) (h4 : z9937 < z6399) (h5 : z10224 < z6399) (h6 : 0 ≤ z10224 ∧ z10224 ≤ 9) (h7 : 1 ≤ z10331 ∧ z10331 ≤ 9) (h8 : z10331 = -99999999 ∨ (0 ≤ z10331 ∧ z10331 ≤ 10)) (h9 : 0 ≤ z6390 ∧ z6390 ≤ 9) (h10 : 1 ≤ z6399 ∧ z6399 ≤ 10) (h11 : 2 ≤ z8858 ∧ z8858 ≤ 10) (h12 : 0 ≤ z9937 ∧ z9937 ≤ 9) : z8858 = -99999999 ∨ (0 ≤ z8858 ∧ z8858 ≤ 10) := by omega
theorem vc_X12_ring_52 {z6399 z8858 : Int} (h0 : z8858 = 1) (h1 : z8858 ≤ z6399) (h2 : 1 ≤ z6399 ∧ z6399 ≤ 10) (h3 : 1 ≤ z8858 ∧ z8858 ≤ 10) : 1 ≤ z8858 ∧ z8858 ≤ 1 := by omega
theorem vc_X12_ring_53 {N z10224 z6390 z6399 z8858 z9937 : Int} (h0 : (11 - z10224) < N + 1) (h1 : z10224 < z6399) (h2 : ¬ z10224 = z6390) (h3 : z6390 < z6399) (h4 : z8858 ≤ z6399) (h5 : z9937 < z6399) (h6 : 0 ≤ z10224 ∧ z10224 ≤ 9) (h7 : 0 ≤ z6390 ∧ z6390 ≤ 9) (h8 : 1 ≤ z6399 ∧ z6399 ≤ 10) (h9 : 1 ≤ z8858 ∧ z8858 ≤ 1) (h10 : 0 ≤ z9937 ∧ z9937 ≤ 9) : (11 - (z10224 + 1)) < N := by omega
theorem vc_X12_ring_54 {z10224 z6390 z6399 z8858 z9937 : Int} (h0 : z8858 ≤ z6399) (h1 : z8858 = 1) (h2 : z6390 < z6399) (h3 : z9937 < z6399) (h4 : z10224 < z6399) (h5 : 0 ≤ z10224 ∧ z10224 ≤ 9) (h6 : 0 ≤ z6390 ∧ z6390 ≤ 9) (h7 : 1 ≤ z6399 ∧ z6399 ≤ 10) (h8 : 1 ≤ z8858 ∧ z8858 ≤ 1) (h9 : 0 ≤ z9937 ∧ z9937 ≤ 9) : z8858 = -99999999 ∨ (0 ≤ z8858 ∧ z8858 ≤ 10) := by omega
theorem vc_X12_ring_55 {N z10224 z6390 z6399 z8858 z9937 : Int} (h0 : (11 - z10224) < N + 1) (h1 : z10224 < z6399) (h2 : z10224 = z6390) (h3 : z6390 < z6399) (h4 : z8858 ≤ z6399) (h5 : z9937 < z6399) (h6 : 0 ≤ z10224 ∧ z10224 ≤ 9) (h7 : 0 ≤ z6390 ∧ z6390 ≤ 9) (h8 : 1 ≤ z6399 ∧ z6399 ≤ 10) (h9 : 1 ≤ z8858 ∧ z8858 ≤ 1) (h10 : 0 ≤ z9937 ∧ z9937 ≤ 9) : (11 - (z10224 + 1)) < N := by omega
theorem vc_X12_ring_56  : (12 - 1) < ((12 : Nat) : Int) := by omega
theorem vc_X12_ring_57 {z7324 : Int} (h0 : z7324 < 10) (h1 : 0 ≤ z7324 ∧ z7324 ≤ 10) : 0 ≤ z7324 ∧ z7324 ≤ 9 := by omega
theorem vc_X12_ring_58  : ((-99999999) : Int) = -(99999999 : Int) ∨ ((0 : Int) ≤ ((-99999999) : Int) ∧ ((-99999999) : Int) ≤ (10 : Int)) := by omega
theorem vc_X12_ring_59 {N z7324 : Int} (h0 : (11 - z7324) < N + 1) (h1 : z7324 < 10) (h2 : 0 ≤ z7324 ∧ z7324 ≤ 9) : (11 - (z7324 + 1)) < N := by omega
theorem vc_X12_ring_60 {p1 : Int} (h0 : p1 < 0) (h1 : (-2147483648) ≤ p1 ∧ p1 ≤ 2147483647) : (-2147483648) ≤ p1 ∧ p1 ≤ (-1) := by omega
set_option maxRecDepth 4000 in
set_option maxHeartbeats 4000000 in
theorem c_X12_ring {l : Launch} {D : va_G} {c : Nat → ClassId} {H0 : Heap} {sa : Nat × Nat × (Nat → Int32)} {w : mW} {μ : mM} (hw : mWF w) (hT : mT w μ) {p1 : Int} (hp1 : (-2147483648) ≤ p1 ∧ p1 ≤ 2147483647) : sC (gG l D c H0 sa) mX12_ring 3 0 0 [.ref 106, iv p1] (mk w μ) (qI w [117999] μ (fun z μ1 => ((-2147483648) ≤ z ∧ z ≤ 2147483647) ∧ True)) := by
  refine sC.of rfl (by decide) (le_t rfl) ?_
  refine mr_lvE (lv' := [(0, .ref 106), (1, iv p1)]) rfl ?_
  refine mr_iload_n (pc := 0) (z := p1) dX12_ring_0 rfl rfl ?_
  refine mr_if_ge (pc := 1) (tgt := 7) dX12_ring_1 (by decide) hp1 (fun h1 => ?_) (fun h1 => ?_)
  · have h2 : 0 ≤ p1 ∧ p1 ≤ 2147483647 := (vc_X12_ring_1 h1 hp1)
    refine mr_iconst (pc := 7) (z := 0) dX12_ring_7 ?_
    refine mr_istore_n (pc := 8) (lv' := [(2, iv 0), (0, .ref 106), (1, iv p1)]) dX12_ring_8 rfl (by decide) rfl ?_
    have L6392 : ∀ (nL6392 : Nat) (z6390 : Int) (μ6391 : mM), mT w μ6391 → mF [117999] w μ μ6391 → (0 ≤ z6390 ∧ z6390 ≤ 10) → (11 - z6390) < (nL6392 : Int) → sV (gG l D c H0 sa) mX12_ring (sRm 3 0 0) (sZ (gG l D c H0 sa) 0 0 (qI w [117999] μ (fun z μ1 => ((-2147483648) ≤ z ∧ z ≤ 2147483647) ∧ True))) 9 [(0, .ref 106), (1, iv p1), (2, iv z6390)] [] (mk w μ6391) 0 0 := by
      intro nL6392
      induction nL6392 with
      | zero => intro z6390 μ6391 T6394 F6395 h6393 h6397; exact ((vc_X12_ring_2 h6397 h6393)).elim
      | succ nL6392 ih6398 =>
        intro z6390 μ6391 T6394 F6395 h6393 h6397
        refine mr_iload_n (pc := 9) (z := z6390) dX12_ring_9 rfl rfl ?_
        refine sv_aload_n (pc := 10) dX12_ring_10 rfl rfl ?_
        refine gf_X12_5 (pc := 11) dX12_ring_11 wF_X12_34 (A_106 hw) T6394 fun z6399 q6400 h6401 => ?_
        refine mr_icmp_ge (pc := 14) (tgt := 272) dX12_ring_14 (by decide) (r32 h6393 rfl) (r32 h6401 rfl) (fun h6402 => ?_) (fun h6402 => ?_)
        · refine mr_ldc (pc := 272) (z := (-99999999)) dX12_ring_272 wG_X12_29 (by decide) ?_
          exact mr_iret dX12_ring_274 rfl (le_t rfl) (le_t rfl) T6394 (mF.call mF.refl F6395 rfl) ⟨(rW (c := (-2147483648)) (d := 2147483647) (rR (x := (-99999999))) rfl), trivial⟩
        have h6403 : 0 ≤ z6390 ∧ z6390 ≤ 9 := (vc_X12_ring_3 h6402 h6393 h6401)
        have h6404 : 1 ≤ z6399 ∧ z6399 ≤ 10 := (vc_X12_ring_4 h6402 h6403 h6401)
        refine mr_iconst (pc := 17) (z := 0) dX12_ring_17 ?_
        refine mr_istore_n (pc := 18) (lv' := [(3, iv 0), (0, .ref 106), (1, iv p1), (2, iv z6390)]) dX12_ring_18 rfl (by decide) rfl ?_
        have L7326 : ∀ (nL7326 : Nat) (z7324 : Int) (μ7325 : mM), mT w μ7325 → mF [117999] w μ6391 μ7325 → (0 ≤ z7324 ∧ z7324 ≤ 10) → (11 - z7324) < (nL7326 : Int) → sV (gG l D c H0 sa) mX12_ring (sRm 3 0 0) (sZ (gG l D c H0 sa) 0 0 (qI w [117999] μ (fun z μ1 => ((-2147483648) ≤ z ∧ z ≤ 2147483647) ∧ True))) 19 [(0, .ref 106), (1, iv p1), (2, iv z6390), (3, iv z7324)] [] (mk w μ7325) 0 0 := by
          intro nL7326
          induction nL7326 with
          | zero => intro z7324 μ7325 T7328 F7329 h7327 h7331; exact ((vc_X12_ring_2 h7331 h7327)).elim
          | succ nL7326 ih7332 =>
            intro z7324 μ7325 T7328 F7329 h7327 h7331
            refine mr_iload_n (pc := 19) (z := z7324) dX12_ring_19 rfl rfl ?_
            refine mr_bipush (pc := 20) (z := 10) dX12_ring_20 (by decide) ?_
            refine mr_icmp_ge (pc := 22) (tgt := 39) dX12_ring_22 (by decide) (r32 h7327 rfl) (r32 (rR (x := 10)) rfl) (fun h7338 => ?_) (fun h7338 => ?_)
            · have h7339 : 10 ≤ z7324 ∧ z7324 ≤ 10 := (vc_X12_ring_6 h7338 h7327)
              refine mr_iconst (pc := 39) (z := 1) dX12_ring_39 ?_
              refine mr_istore_n (pc := 40) (lv' := [(3, iv 1), (0, .ref 106), (1, iv p1), (2, iv z6390)]) dX12_ring_40 rfl (by decide) rfl ?_
              have L8860 : ∀ (nL8860 : Nat) (z8858 : Int) (μ8859 : mM), mT w μ8859 → mF [117999] w μ7325 μ8859 → (1 ≤ z8858 ∧ z8858 ≤ 11) → (12 - z8858) < (nL8860 : Int) → sV (gG l D c H0 sa) mX12_ring (sRm 3 0 0) (sZ (gG l D c H0 sa) 0 0 (qI w [117999] μ (fun z μ1 => ((-2147483648) ≤ z ∧ z ≤ 2147483647) ∧ True))) 41 [(0, .ref 106), (1, iv p1), (2, iv z6390), (3, iv z8858)] [] (mk w μ8859) 0 0 := by
                intro nL8860
                induction nL8860 with
                | zero => intro z8858 μ8859 T8862 F8863 h8861 h8865; exact ((vc_X12_ring_7 h8865 h8861)).elim
                | succ nL8860 ih8866 =>
                  intro z8858 μ8859 T8862 F8863 h8861 h8865
                  refine mr_iload_n (pc := 41) (z := z8858) dX12_ring_41 rfl rfl ?_
                  refine sv_aload_n (pc := 42) dX12_ring_42 rfl rfl ?_
                  refine gk_X12_5 (pc := 43) dX12_ring_43 wF_X12_34 (A_106 hw) (F8863.f (A_106 hw) rfl (F7329.f (A_106 hw) rfl q6400)) ?_
                  refine mr_icmp_gt (pc := 46) (tgt := 149) dX12_ring_46 (by decide) (r32 h8861 rfl) (r32 h6404 rfl) (fun h8997 => ?_) (fun h8997 => ?_)
                  · have h8998 : 2 ≤ z8858 ∧ z8858 ≤ 11 := (vc_X12_ring_8 h8997 h6402 h6403 h6404 h8861)
                    refine sv_aload_n (pc := 149) dX12_ring_149 rfl rfl ?_
                    refine gf_X12_14 (pc := 150) dX12_ring_150 wF_X12_72 (A_106 hw) T8862 ?_
                    refine mr_iload_n (pc := 153) (z := z6390) dX12_ring_153 rfl rfl ?_
                    refine la_117 (pc := 154) dX12_ring_154 (A_117 hw) T8862 (rIx (n := 10) h6403 rfl) fun z8999 q9000 h9001 => ?_
                    have h9002 : (-99999999) ≤ z8999 ∧ z8999 ≤ 10 := (vc_X12_ring_9 h9001)
                    refine mr_ldc (pc := 155) (z := (-99999999)) dX12_ring_155 wG_X12_29 (by decide) ?_
                    refine mr_icmp_ne (pc := 157) (tgt := 163) dX12_ring_157 (by decide) (r32 h9002 rfl) (r32 (rR (x := (-99999999))) rfl) (fun h9003 => ?_) (fun h9003 => ?_)
                    · have h9004 : 0 ≤ z8999 ∧ z8999 ≤ 10 := (vc_X12_ring_10 h9003 h9002 h9001)
                      refine mr_iload_n (pc := 163) (z := p1) dX12_ring_163 rfl rfl ?_
                      refine sv_aload_n (pc := 164) dX12_ring_164 rfl rfl ?_
                      refine gf_X12_14 (pc := 165) dX12_ring_165 wF_X12_72 (A_106 hw) T8862 ?_
                      refine mr_iload_n (pc := 168) (z := z6390) dX12_ring_168 rfl rfl ?_
                      refine lk_117 (pc := 169) dX12_ring_169 (A_117 hw) (rIx (n := 10) h6403 rfl) q9000 ?_
                      refine mr_icmp_lt (pc := 170) (tgt := 176) dX12_ring_170 (by decide) (r32 h2 rfl) (r32 h9004 rfl) (fun h9005 => ?_) (fun h9005 => ?_)
                      · have h9006 : 0 ≤ p1 ∧ p1 ≤ 9 := (vc_X12_ring_11 h9005 h1 h9003 h2 h9004 h9001)
                        have h9007 : 1 ≤ z8999 ∧ z8999 ≤ 10 := (vc_X12_ring_12 h9005 h1 h9003 h9006 h9004 h9001)
                        refine mr_iload_n (pc := 176) (z := z6390) dX12_ring_176 rfl rfl ?_
                        refine mr_istore_n (pc := 177) (lv' := [(3, iv z6390), (0, .ref 106), (1, iv p1), (2, iv z6390)]) dX12_ring_177 rfl (by decide) rfl ?_
                        refine mr_iconst (pc := 178) (z := 0) dX12_ring_178 ?_
                        refine mr_istore (pc := 179) (lv' := [(4, iv 0), (3, iv z6390), (0, .ref 106), (1, iv p1), (2, iv z6390)]) dX12_ring_179 (by decide) rfl ?_
                        have L9250 : ∀ (nL9250 : Nat) (z9249 z9248 : Int), True → ((-99999999) ≤ z9249 ∧ z9249 ≤ 9) → (0 ≤ z9248 ∧ z9248 ≤ 9) → (10 - z9248) < (nL9250 : Int) → sV (gG l D c H0 sa) mX12_ring (sRm 3 0 0) (sZ (gG l D c H0 sa) 0 0 (qI w [117999] μ (fun z μ1 => ((-2147483648) ≤ z ∧ z ≤ 2147483647) ∧ True))) 181 [(0, .ref 106), (1, iv p1), (2, iv z6390), (3, iv z9249), (4, iv z9248)] [] (mk w μ8859) 0 0 := by
                          intro nL9250
                          induction nL9250 with
                          | zero => intro z9249 z9248 _ h9251 h9252 h9256; exact ((vc_X12_ring_13 h9256 h9252)).elim
                          | succ nL9250 ih9257 =>
                            intro z9249 z9248 _ h9251 h9252 h9256
                            refine mr_iload (pc := 181) (z := z9248) dX12_ring_181 rfl ?_
                            refine mr_iload_n (pc := 183) (z := p1) dX12_ring_183 rfl rfl ?_
                            refine mr_icmp_ge (pc := 184) (tgt := 264) dX12_ring_184 (by decide) (r32 h9252 rfl) (r32 h9006 rfl) (fun h9296 => ?_) (fun h9296 => ?_)
                            · refine mr_iload_n (pc := 264) (z := z9249) dX12_ring_264 rfl rfl ?_
                              exact mr_iret dX12_ring_265 rfl (le_t rfl) (le_t rfl) T8862 (mF.call (mF.call (mF.call mF.refl F6395 rfl) F7329 rfl) F8863 rfl) ⟨(rW (c := (-2147483648)) (d := 2147483647) h9251 rfl), trivial⟩
                            have h9297 : 0 ≤ z9248 ∧ z9248 ≤ 8 := (vc_X12_ring_14 h9296 h1 h9005 h9006 h9007 h9001 h9252)
                            have h9298 : 1 ≤ p1 ∧ p1 ≤ 9 := (vc_X12_ring_15 h9296 h1 h9005 h9006 h9007 h9001 h9297)
                            refine sv_aload_n (pc := 187) dX12_ring_187 rfl rfl ?_
                            refine gf_X12_14 (pc := 188) dX12_ring_188 wF_X12_72 (A_106 hw) T8862 ?_
                            refine mr_iload_n (pc := 191) (z := z6390) dX12_ring_191 rfl rfl ?_
                            refine lk_117 (pc := 192) dX12_ring_192 (A_117 hw) (rIx (n := 10) h6403 rfl) q9000 ?_
                            refine mr_iload (pc := 193) (z := z9248) dX12_ring_193 rfl ?_
                            refine mr_isub (pc := 195) (x := z8999) (y := z9248) dX12_ring_195 ?_
                            refine mr_iconst (pc := 196) (z := 1) dX12_ring_196 ?_
                            refine mr_isub (pc := 197) (x := (z8999 - z9248)) (y := 1) dX12_ring_197 ?_
                            refine mr_istore (pc := 198) (lv' := [(5, iv ((z8999 - z9248) - 1)), (0, .ref 106), (1, iv p1), (2, iv z6390), (3, iv z9249), (4, iv z9248)]) dX12_ring_198 (by decide) rfl ?_
                            refine mr_ldc (pc := 200) (z := (-99999999)) dX12_ring_200 wG_X12_29 (by decide) ?_
                            refine mr_istore (pc := 202) (lv' := [(6, iv (-99999999)), (5, iv ((z8999 - z9248) - 1)), (0, .ref 106), (1, iv p1), (2, iv z6390), (3, iv z9249), (4, iv z9248)]) dX12_ring_202 (by decide) rfl ?_
                            refine mr_iconst (pc := 204) (z := 0) dX12_ring_204 ?_
                            refine mr_istore (pc := 205) (lv' := [(7, iv 0), (6, iv (-99999999)), (5, iv ((z8999 - z9248) - 1)), (0, .ref 106), (1, iv p1), (2, iv z6390), (3, iv z9249), (4, iv z9248)]) dX12_ring_205 (by decide) rfl ?_
                            have L9423 : ∀ (nL9423 : Nat) (z9422 z9421 : Int), True → ((-99999999) ≤ z9422 ∧ z9422 ≤ 9) → (0 ≤ z9421 ∧ z9421 ≤ 10) → (11 - z9421) < (nL9423 : Int) → sV (gG l D c H0 sa) mX12_ring (sRm 3 0 0) (sZ (gG l D c H0 sa) 0 0 (qI w [117999] μ (fun z μ1 => ((-2147483648) ≤ z ∧ z ≤ 2147483647) ∧ True))) 207 [(0, .ref 106), (1, iv p1), (2, iv z6390), (3, iv z9249), (4, iv z9248), (5, iv ((z8999 - z9248) - 1)), (6, iv z9422), (7, iv z9421)] [] (mk w μ8859) 0 0 := by
                              intro nL9423
                              induction nL9423 with
                              | zero => intro z9422 z9421 _ h9424 h9425 h9429; exact ((vc_X12_ring_2 h9429 h9425)).elim
                              | succ nL9423 ih9430 =>
                                intro z9422 z9421 _ h9424 h9425 h9429
                                refine mr_iload (pc := 207) (z := z9421) dX12_ring_207 rfl ?_
                                refine sv_aload_n (pc := 209) dX12_ring_209 rfl rfl ?_
                                refine gk_X12_5 (pc := 210) dX12_ring_210 wF_X12_34 (A_106 hw) (F8863.f (A_106 hw) rfl (F7329.f (A_106 hw) rfl q6400)) ?_
                                refine mr_icmp_ge (pc := 213) (tgt := 255) dX12_ring_213 (by decide) (r32 h9425 rfl) (r32 h6404 rfl) (fun h9447 => ?_) (fun h9447 => ?_)
                                · have h9448 : 1 ≤ z9421 ∧ z9421 ≤ 10 := (vc_X12_ring_17 h9447 h6402 h8997 h6403 h6404 h8998 h9425)
                                  refine mr_iload (pc := 255) (z := z9422) dX12_ring_255 rfl ?_
                                  refine mr_istore_n (pc := 257) (lv' := [(3, iv z9422), (0, .ref 106), (1, iv p1), (2, iv z6390), (4, iv z9248), (5, iv ((z8999 - z9248) - 1)), (6, iv z9422), (7, iv z9421)]) dX12_ring_257 rfl (by decide) rfl ?_
                                  refine mr_iinc (pc := 258) (lv' := [(4, iv (z9248 + 1)), (3, iv z9422), (0, .ref 106), (1, iv p1), (2, iv z6390), (5, iv ((z8999 - z9248) - 1)), (6, iv z9422), (7, iv z9421)]) dX12_ring_258 rfl (by decide) rfl ?_
                                  refine sv_goto (pc := 261) (tgt := 181) dX12_ring_261 (by decide) ?_
                                  refine mr_lvS (lv' := [(0, .ref 106), (1, iv p1), (2, iv z6390), (3, iv z9422), (4, iv (z9248 + 1))]) (List.forall_mem_cons.mpr ⟨rfl, List.forall_mem_cons.mpr ⟨rfl, List.forall_mem_cons.mpr ⟨rfl, List.forall_mem_cons.mpr ⟨rfl, List.forall_mem_cons.mpr ⟨rfl, fun _ h => absurd h List.not_mem_nil⟩⟩⟩⟩⟩) ?_
                                  exact ih9257 z9422 (z9248 + 1) trivial h9424 (rW (c := 0) (d := 9) (rAdd (e := 1) (f := 9) h9297 (rR (x := 1)) rfl) rfl) (vc_X12_ring_18 (nS h9256) h9296 h1 h9005 h9298 h9007 h9001 h9297)
                                have h9449 : 0 ≤ z9421 ∧ z9421 ≤ 9 := (vc_X12_ring_19 h9447 h6402 h8997 h6403 h6404 h8998 h9425)
                                refine mr_iload (pc := 216) (z := z9422) dX12_ring_216 rfl ?_
                                refine mr_ldc (pc := 218) (z := (-99999999)) dX12_ring_218 wG_X12_29 (by decide) ?_
                                refine mr_icmp_ne (pc := 220) (tgt := 255) dX12_ring_220 (by decide) (r32 h9424 rfl) (r32 (rR (x := (-99999999))) rfl) (fun h9464 => ?_) (fun h9464 => ?_)
                                · have h9465 : (-99999998) ≤ z9422 ∧ z9422 ≤ 9 := (vc_X12_ring_20 h9464 h9424)
                                  refine mr_iload (pc := 255) (z := z9422) dX12_ring_255 rfl ?_
                                  refine mr_istore_n (pc := 257) (lv' := [(3, iv z9422), (0, .ref 106), (1, iv p1), (2, iv z6390), (4, iv z9248), (5, iv ((z8999 - z9248) - 1)), (6, iv z9422), (7, iv z9421)]) dX12_ring_257 rfl (by decide) rfl ?_
                                  refine mr_iinc (pc := 258) (lv' := [(4, iv (z9248 + 1)), (3, iv z9422), (0, .ref 106), (1, iv p1), (2, iv z6390), (5, iv ((z8999 - z9248) - 1)), (6, iv z9422), (7, iv z9421)]) dX12_ring_258 rfl (by decide) rfl ?_
                                  refine sv_goto (pc := 261) (tgt := 181) dX12_ring_261 (by decide) ?_
                                  refine mr_lvS (lv' := [(0, .ref 106), (1, iv p1), (2, iv z6390), (3, iv z9422), (4, iv (z9248 + 1))]) (List.forall_mem_cons.mpr ⟨rfl, List.forall_mem_cons.mpr ⟨rfl, List.forall_mem_cons.mpr ⟨rfl, List.forall_mem_cons.mpr ⟨rfl, List.forall_mem_cons.mpr ⟨rfl, fun _ h => absurd h List.not_mem_nil⟩⟩⟩⟩⟩) ?_
                                  exact ih9257 z9422 (z9248 + 1) trivial (rW (c := (-99999999)) (d := 9) h9465 rfl) (rW (c := 0) (d := 9) (rAdd (e := 1) (f := 9) h9297 (rR (x := 1)) rfl) rfl) (vc_X12_ring_18 (nS h9256) h9296 h1 h9005 h9298 h9007 h9001 h9297)
                                have h9466 : (-99999999) ≤ z9422 ∧ z9422 ≤ (-99999999) := (vc_X12_ring_21 h9464 h9424)
                                refine sv_aload_n (pc := 223) dX12_ring_223 rfl rfl ?_
                                refine mr_iload_n (pc := 224) (z := z9249) dX12_ring_224 rfl rfl ?_
                                refine mr_iload (pc := 225) (z := z9421) dX12_ring_225 rfl ?_
                                refine mr_cVP (pc := 227) (c_X12_provides hw T8862 (rW (c := (-2147483648)) (d := 2147483647) h9251 rfl) (rW (c := (-2147483648)) (d := 2147483647) h9449 rfl)) (gOk _ _ _ _ _) dX12_ring_227 (tX12_provides _ _ _ _ _) ⟨wV_X12_provides, wL_X12_provides⟩ wM_X12_75 (gCX12 _ _ _ _ _) rfl (A_106 hw) rfl ⟨le_t rfl, le_t rfl⟩ ⟨le_t rfl, le_t rfl⟩ rfl (le_t rfl) fun z9471 h9470 => ?_
                                refine mr_if_eq (pc := 230) (tgt := 249) dX12_ring_230 (by decide) (r32 h9470.1 rfl) (fun h9479 => ?_) (fun h9479 => ?_)
                                · have h9480 : 0 ≤ z9471 ∧ z9471 ≤ 0 := (vc_X12_ring_22 h9479 h9470.1)
                                  refine mr_iinc (pc := 249) (lv' := [(7, iv (z9421 + 1)), (0, .ref 106), (1, iv p1), (2, iv z6390), (3, iv z9249), (4, iv z9248), (5, iv ((z8999 - z9248) - 1)), (6, iv z9422)]) dX12_ring_249 rfl (by decide) rfl ?_
                                  refine sv_goto (pc := 252) (tgt := 207) dX12_ring_252 (by decide) ?_
                                  refine mr_lvS (lv' := [(0, .ref 106), (1, iv p1), (2, iv z6390), (3, iv z9249), (4, iv z9248), (5, iv ((z8999 - z9248) - 1)), (6, iv z9422), (7, iv (z9421 + 1))]) (List.forall_mem_cons.mpr ⟨rfl, List.forall_mem_cons.mpr ⟨rfl, List.forall_mem_cons.mpr ⟨rfl, List.forall_mem_cons.mpr ⟨rfl, List.forall_mem_cons.mpr ⟨rfl, List.forall_mem_cons.mpr ⟨rfl, List.forall_mem_cons.mpr ⟨rfl, List.forall_mem_cons.mpr ⟨rfl, fun _ h => absurd h List.not_mem_nil⟩⟩⟩⟩⟩⟩⟩⟩) ?_
                                  exact ih9430 z9422 (z9421 + 1) trivial (rW (c := (-99999999)) (d := 9) h9466 rfl) (rW (c := 0) (d := 10) (rAdd (e := 1) (f := 10) h9449 (rR (x := 1)) rfl) rfl) (vc_X12_ring_23 (nS h9429) h9447 h6402 h8997 h6403 h6404 h8998 h9449)
                                have h9481 : 1 ≤ z9471 ∧ z9471 ≤ 1 := (vc_X12_ring_24 h9479 h9470.1)
                                refine sv_aload_n (pc := 233) dX12_ring_233 rfl rfl ?_
                                refine gf_X12_14 (pc := 234) dX12_ring_234 wF_X12_72 (A_106 hw) T8862 ?_
                                refine mr_iload (pc := 237) (z := z9421) dX12_ring_237 rfl ?_
                                refine la_117 (pc := 239) dX12_ring_239 (A_117 hw) T8862 (rIx (n := 10) h9449 rfl) fun z9482 q9483 h9484 => ?_
                                have h9485 : (-99999999) ≤ z9482 ∧ z9482 ≤ 10 := (vc_X12_ring_9 h9484)
                                refine mr_iload (pc := 240) (z := ((z8999 - z9248) - 1)) dX12_ring_240 rfl ?_
                                refine mr_icmp_ne (pc := 242) (tgt := 249) dX12_ring_242 (by decide) (r32 h9485 rfl) (r32 (rSub (e := (-8)) (f := 9) (rSub (e := (-7)) (f := 10) h9007 h9297 rfl) (rR (x := 1)) rfl) rfl) (fun h9487 => ?_) (fun h9487 => ?_)
                                · refine mr_iinc (pc := 249) (lv' := [(7, iv (z9421 + 1)), (0, .ref 106), (1, iv p1), (2, iv z6390), (3, iv z9249), (4, iv z9248), (5, iv ((z8999 - z9248) - 1)), (6, iv z9422)]) dX12_ring_249 rfl (by decide) rfl ?_
                                  refine sv_goto (pc := 252) (tgt := 207) dX12_ring_252 (by decide) ?_
                                  refine mr_lvS (lv' := [(0, .ref 106), (1, iv p1), (2, iv z6390), (3, iv z9249), (4, iv z9248), (5, iv ((z8999 - z9248) - 1)), (6, iv z9422), (7, iv (z9421 + 1))]) (List.forall_mem_cons.mpr ⟨rfl, List.forall_mem_cons.mpr ⟨rfl, List.forall_mem_cons.mpr ⟨rfl, List.forall_mem_cons.mpr ⟨rfl, List.forall_mem_cons.mpr ⟨rfl, List.forall_mem_cons.mpr ⟨rfl, List.forall_mem_cons.mpr ⟨rfl, List.forall_mem_cons.mpr ⟨rfl, fun _ h => absurd h List.not_mem_nil⟩⟩⟩⟩⟩⟩⟩⟩) ?_
                                  exact ih9430 z9422 (z9421 + 1) trivial (rW (c := (-99999999)) (d := 9) h9466 rfl) (rW (c := 0) (d := 10) (rAdd (e := 1) (f := 10) h9449 (rR (x := 1)) rfl) rfl) (vc_X12_ring_23 (nS h9429) h9447 h6402 h8997 h6403 h6404 h8998 h9449)
                                have h9488 : 0 ≤ z9482 ∧ z9482 ≤ 9 := (vc_X12_ring_26 h9487 h9003 h9005 h9296 h9298 h9007 h9001 h9297 h9485 h9484)
                                refine mr_iload (pc := 245) (z := z9421) dX12_ring_245 rfl ?_
                                refine mr_istore (pc := 247) (lv' := [(6, iv z9421), (0, .ref 106), (1, iv p1), (2, iv z6390), (3, iv z9249), (4, iv z9248), (5, iv ((z8999 - z9248) - 1)), (7, iv z9421)]) dX12_ring_247 (by decide) rfl ?_
                                refine mr_iinc (pc := 249) (lv' := [(7, iv (z9421 + 1)), (6, iv z9421), (0, .ref 106), (1, iv p1), (2, iv z6390), (3, iv z9249), (4, iv z9248), (5, iv ((z8999 - z9248) - 1))]) dX12_ring_249 rfl (by decide) rfl ?_
                                refine sv_goto (pc := 252) (tgt := 207) dX12_ring_252 (by decide) ?_
                                refine mr_lvS (lv' := [(0, .ref 106), (1, iv p1), (2, iv z6390), (3, iv z9249), (4, iv z9248), (5, iv ((z8999 - z9248) - 1)), (6, iv z9421), (7, iv (z9421 + 1))]) (List.forall_mem_cons.mpr ⟨rfl, List.forall_mem_cons.mpr ⟨rfl, List.forall_mem_cons.mpr ⟨rfl, List.forall_mem_cons.mpr ⟨rfl, List.forall_mem_cons.mpr ⟨rfl, List.forall_mem_cons.mpr ⟨rfl, List.forall_mem_cons.mpr ⟨rfl, List.forall_mem_cons.mpr ⟨rfl, fun _ h => absurd h List.not_mem_nil⟩⟩⟩⟩⟩⟩⟩⟩) ?_
                                exact ih9430 z9421 (z9421 + 1) trivial (rW (c := (-99999999)) (d := 9) h9449 rfl) (rW (c := 0) (d := 10) (rAdd (e := 1) (f := 10) h9449 (rR (x := 1)) rfl) rfl) (vc_X12_ring_23 (nS h9429) h9447 h6402 h8997 h6403 h6404 h8998 h9449)
                            refine mr_lvS (lv' := [(0, .ref 106), (1, iv p1), (2, iv z6390), (3, iv z9249), (4, iv z9248), (5, iv ((z8999 - z9248) - 1)), (6, iv (-99999999)), (7, iv 0)]) (List.forall_mem_cons.mpr ⟨rfl, List.forall_mem_cons.mpr ⟨rfl, List.forall_mem_cons.mpr ⟨rfl, List.forall_mem_cons.mpr ⟨rfl, List.forall_mem_cons.mpr ⟨rfl, List.forall_mem_cons.mpr ⟨rfl, List.forall_mem_cons.mpr ⟨rfl, List.forall_mem_cons.mpr ⟨rfl, fun _ h => absurd h List.not_mem_nil⟩⟩⟩⟩⟩⟩⟩⟩) ?_
                            exact L9423 12 (-99999999) 0 trivial (rW (c := (-99999999)) (d := 9) (rR (x := (-99999999))) rfl) (rW (c := 0) (d := 10) (rR (x := 0)) rfl) vc_X12_ring_27
                        refine mr_lvS (lv' := [(0, .ref 106), (1, iv p1), (2, iv z6390), (3, iv z6390), (4, iv 0)]) (List.forall_mem_cons.mpr ⟨rfl, List.forall_mem_cons.mpr ⟨rfl, List.forall_mem_cons.mpr ⟨rfl, List.forall_mem_cons.mpr ⟨rfl, List.forall_mem_cons.mpr ⟨rfl, fun _ h => absurd h List.not_mem_nil⟩⟩⟩⟩⟩) ?_
                        exact L9250 11 z6390 0 trivial (rW (c := (-99999999)) (d := 9) h6403 rfl) (rW (c := 0) (d := 9) (rR (x := 0)) rfl) vc_X12_ring_28
                      refine mr_ldc (pc := 173) (z := (-99999999)) dX12_ring_173 wG_X12_29 (by decide) ?_
                      exact mr_iret dX12_ring_175 rfl (le_t rfl) (le_t rfl) T8862 (mF.call (mF.call (mF.call mF.refl F6395 rfl) F7329 rfl) F8863 rfl) ⟨(rW (c := (-2147483648)) (d := 2147483647) (rR (x := (-99999999))) rfl), trivial⟩
                    have h9489 : (-99999999) ≤ z8999 ∧ z8999 ≤ (-99999999) := (vc_X12_ring_29 h9003 h9002 h9001)
                    refine sv_goto (pc := 160) (tgt := 266) dX12_ring_160 (by decide) ?_
                    refine mr_iinc (pc := 266) (lv' := [(2, iv (z6390 + 1)), (0, .ref 106), (1, iv p1), (3, iv z8858)]) dX12_ring_266 rfl (by decide) rfl ?_
                    refine sv_goto (pc := 269) (tgt := 9) dX12_ring_269 (by decide) ?_
                    refine mr_lvS (lv' := [(0, .ref 106), (1, iv p1), (2, iv (z6390 + 1))]) (List.forall_mem_cons.mpr ⟨rfl, List.forall_mem_cons.mpr ⟨rfl, List.forall_mem_cons.mpr ⟨rfl, fun _ h => absurd h List.not_mem_nil⟩⟩⟩) ?_
                    exact ih6398 (z6390 + 1) μ8859 T8862 (mF.call (mF.call (mF.call mF.refl F6395 rfl) F7329 rfl) F8863 rfl) (rW (c := 0) (d := 10) (rAdd (e := 1) (f := 10) h6403 (rR (x := 1)) rfl) rfl) (vc_X12_ring_30 (nS h6397) h6402 h8997 h6403 h6404 h8998)
                  have h9490 : 1 ≤ z8858 ∧ z8858 ≤ 10 := (vc_X12_ring_31 h8997 h6402 h6403 h6404 h8861)
                  refine mr_iconst (pc := 49) (z := 0) dX12_ring_49 ?_
                  refine mr_istore (pc := 50) (lv' := [(4, iv 0), (0, .ref 106), (1, iv p1), (2, iv z6390), (3, iv z8858)]) dX12_ring_50 (by decide) rfl ?_
                  have L9939 : ∀ (nL9939 : Nat) (z9937 : Int) (μ9938 : mM), mT w μ9938 → mF [117999] w μ8859 μ9938 → (0 ≤ z9937 ∧ z9937 ≤ 10) → (11 - z9937) < (nL9939 : Int) → sV (gG l D c H0 sa) mX12_ring (sRm 3 0 0) (sZ (gG l D c H0 sa) 0 0 (qI w [117999] μ (fun z μ1 => ((-2147483648) ≤ z ∧ z ≤ 2147483647) ∧ True))) 52 [(0, .ref 106), (1, iv p1), (2, iv z6390), (3, iv z8858), (4, iv z9937)] [] (mk w μ9938) 0 0 := by
                    intro nL9939
                    induction nL9939 with
                    | zero => intro z9937 μ9938 T9941 F9942 h9940 h9944; exact ((vc_X12_ring_2 h9944 h9940)).elim
                    | succ nL9939 ih9945 =>
                      intro z9937 μ9938 T9941 F9942 h9940 h9944
                      refine mr_iload (pc := 52) (z := z9937) dX12_ring_52 rfl ?_
                      refine sv_aload_n (pc := 54) dX12_ring_54 rfl rfl ?_
                      refine gk_X12_5 (pc := 55) dX12_ring_55 wF_X12_34 (A_106 hw) (F9942.f (A_106 hw) rfl (F8863.f (A_106 hw) rfl (F7329.f (A_106 hw) rfl q6400))) ?_
                      refine mr_icmp_ge (pc := 58) (tgt := 143) dX12_ring_58 (by decide) (r32 h9940 rfl) (r32 h6404 rfl) (fun h10008 => ?_) (fun h10008 => ?_)
                      · have h10009 : 1 ≤ z9937 ∧ z9937 ≤ 10 := (vc_X12_ring_33 h10008 h6402 h8997 h6403 h6404 h9490 h9940)
                        refine mr_iinc (pc := 143) (lv' := [(3, iv (z8858 + 1)), (0, .ref 106), (1, iv p1), (2, iv z6390), (4, iv z9937)]) dX12_ring_143 rfl (by decide) rfl ?_
                        refine sv_goto (pc := 146) (tgt := 41) dX12_ring_146 (by decide) ?_
                        refine mr_lvS (lv' := [(0, .ref 106), (1, iv p1), (2, iv z6390), (3, iv (z8858 + 1))]) (List.forall_mem_cons.mpr ⟨rfl, List.forall_mem_cons.mpr ⟨rfl, List.forall_mem_cons.mpr ⟨rfl, List.forall_mem_cons.mpr ⟨rfl, fun _ h => absurd h List.not_mem_nil⟩⟩⟩⟩) ?_
                        exact ih8866 (z8858 + 1) μ9938 T9941 (mF.call (mF.call mF.refl F8863 rfl) F9942 rfl) (rW (c := 1) (d := 11) (rAdd (e := 2) (f := 11) h9490 (rR (x := 1)) rfl) rfl) (vc_X12_ring_34 (nS h8865) h8997 h6402 h10008 h6403 h6404 h9490 h10009)
                      have h10010 : 0 ≤ z9937 ∧ z9937 ≤ 9 := (vc_X12_ring_35 h10008 h6402 h8997 h6403 h6404 h9490 h9940)
                      refine mr_iconst (pc := 61) (z := 0) dX12_ring_61 ?_
                      refine mr_istore (pc := 62) (lv' := [(5, iv 0), (0, .ref 106), (1, iv p1), (2, iv z6390), (3, iv z8858), (4, iv z9937)]) dX12_ring_62 (by decide) rfl ?_
                      have L10226 : ∀ (nL10226 : Nat) (z10224 : Int) (μ10225 : mM), mT w μ10225 → mF [117999] w μ9938 μ10225 → (0 ≤ z10224 ∧ z10224 ≤ 10) → (11 - z10224) < (nL10226 : Int) → sV (gG l D c H0 sa) mX12_ring (sRm 3 0 0) (sZ (gG l D c H0 sa) 0 0 (qI w [117999] μ (fun z μ1 => ((-2147483648) ≤ z ∧ z ≤ 2147483647) ∧ True))) 64 [(0, .ref 106), (1, iv p1), (2, iv z6390), (3, iv z8858), (4, iv z9937), (5, iv z10224)] [] (mk w μ10225) 0 0 := by
                        intro nL10226
                        induction nL10226 with
                        | zero => intro z10224 μ10225 T10228 F10229 h10227 h10231; exact ((vc_X12_ring_2 h10231 h10227)).elim
                        | succ nL10226 ih10232 =>
                          intro z10224 μ10225 T10228 F10229 h10227 h10231
                          refine mr_iload (pc := 64) (z := z10224) dX12_ring_64 rfl ?_
                          refine sv_aload_n (pc := 66) dX12_ring_66 rfl rfl ?_
                          refine gk_X12_5 (pc := 67) dX12_ring_67 wF_X12_34 (A_106 hw) (F10229.f (A_106 hw) rfl (F9942.f (A_106 hw) rfl (F8863.f (A_106 hw) rfl (F7329.f (A_106 hw) rfl q6400)))) ?_
                          refine mr_icmp_ge (pc := 70) (tgt := 137) dX12_ring_70 (by decide) (r32 h10227 rfl) (r32 h6404 rfl) (fun h10261 => ?_) (fun h10261 => ?_)
                          · have h10262 : 1 ≤ z10224 ∧ z10224 ≤ 10 := (vc_X12_ring_37 h10261 h6402 h8997 h10008 h10227 h6403 h6404 h9490 h10010)
                            refine mr_iinc (pc := 137) (lv' := [(4, iv (z9937 + 1)), (0, .ref 106), (1, iv p1), (2, iv z6390), (3, iv z8858), (5, iv z10224)]) dX12_ring_137 rfl (by decide) rfl ?_
                            refine sv_goto (pc := 140) (tgt := 52) dX12_ring_140 (by decide) ?_
                            refine mr_lvS (lv' := [(0, .ref 106), (1, iv p1), (2, iv z6390), (3, iv z8858), (4, iv (z9937 + 1))]) (List.forall_mem_cons.mpr ⟨rfl, List.forall_mem_cons.mpr ⟨rfl, List.forall_mem_cons.mpr ⟨rfl, List.forall_mem_cons.mpr ⟨rfl, List.forall_mem_cons.mpr ⟨rfl, fun _ h => absurd h List.not_mem_nil⟩⟩⟩⟩⟩) ?_
                            exact ih9945 (z9937 + 1) μ10225 T10228 (mF.call (mF.call mF.refl F9942 rfl) F10229 rfl) (rW (c := 0) (d := 10) (rAdd (e := 1) (f := 10) h10010 (rR (x := 1)) rfl) rfl) (vc_X12_ring_38 (nS h9944) h10008 h6402 h8997 h10261 h10262 h6403 h6404 h9490 h10010)
                          have h10263 : 0 ≤ z10224 ∧ z10224 ≤ 9 := (vc_X12_ring_39 h10261 h6402 h8997 h10008 h10227 h6403 h6404 h9490 h10010)
                          refine sv_aload_n (pc := 73) dX12_ring_73 rfl rfl ?_
                          refine gf_X12_14 (pc := 74) dX12_ring_74 wF_X12_72 (A_106 hw) T10228 ?_
                          refine mr_iload (pc := 77) (z := z9937) dX12_ring_77 rfl ?_
                          refine la_117 (pc := 79) dX12_ring_79 (A_117 hw) T10228 (rIx (n := 10) h10010 rfl) fun z10264 q10265 h10266 => ?_
                          have h10267 : (-99999999) ≤ z10264 ∧ z10264 ≤ 10 := (vc_X12_ring_9 h10266)
                          refine mr_ldc (pc := 80) (z := (-99999999)) dX12_ring_80 wG_X12_29 (by decide) ?_
                          refine mr_icmp_ne (pc := 82) (tgt := 137) dX12_ring_82 (by decide) (r32 h10267 rfl) (r32 (rR (x := (-99999999))) rfl) (fun h10290 => ?_) (fun h10290 => ?_)
                          · have h10291 : 0 ≤ z10264 ∧ z10264 ≤ 10 := (vc_X12_ring_10 h10290 h10267 h10266)
                            refine mr_iinc (pc := 137) (lv' := [(4, iv (z9937 + 1)), (0, .ref 106), (1, iv p1), (2, iv z6390), (3, iv z8858), (5, iv z10224)]) dX12_ring_137 rfl (by decide) rfl ?_
                            refine sv_goto (pc := 140) (tgt := 52) dX12_ring_140 (by decide) ?_
                            refine mr_lvS (lv' := [(0, .ref 106), (1, iv p1), (2, iv z6390), (3, iv z8858), (4, iv (z9937 + 1))]) (List.forall_mem_cons.mpr ⟨rfl, List.forall_mem_cons.mpr ⟨rfl, List.forall_mem_cons.mpr ⟨rfl, List.forall_mem_cons.mpr ⟨rfl, List.forall_mem_cons.mpr ⟨rfl, fun _ h => absurd h List.not_mem_nil⟩⟩⟩⟩⟩) ?_
                            exact ih9945 (z9937 + 1) μ10225 T10228 (mF.call (mF.call mF.refl F9942 rfl) F10229 rfl) (rW (c := 0) (d := 10) (rAdd (e := 1) (f := 10) h10010 (rR (x := 1)) rfl) rfl) (vc_X12_ring_42 (nS h9944) h10008 h6402 h8997 h10261 h10263 h6403 h6404 h9490 h10010)
                          have h10292 : (-99999999) ≤ z10264 ∧ z10264 ≤ (-99999999) := (vc_X12_ring_29 h10290 h10267 h10266)
                          refine sv_aload_n (pc := 85) dX12_ring_85 rfl rfl ?_
                          refine mr_iload (pc := 86) (z := z9937) dX12_ring_86 rfl ?_
                          refine mr_iload (pc := 88) (z := z10224) dX12_ring_88 rfl ?_
                          refine mr_cVP (pc := 90) (c_X12_provides hw T10228 (rW (c := (-2147483648)) (d := 2147483647) h10010 rfl) (rW (c := (-2147483648)) (d := 2147483647) h10263 rfl)) (gOk _ _ _ _ _) dX12_ring_90 (tX12_provides _ _ _ _ _) ⟨wV_X12_provides, wL_X12_provides⟩ wM_X12_75 (gCX12 _ _ _ _ _) rfl (A_106 hw) rfl ⟨le_t rfl, le_t rfl⟩ ⟨le_t rfl, le_t rfl⟩ rfl (le_t rfl) fun z10297 h10296 => ?_
                          refine mr_if_eq (pc := 93) (tgt := 131) dX12_ring_93 (by decide) (r32 h10296.1 rfl) (fun h10313 => ?_) (fun h10313 => ?_)
                          · have h10314 : 0 ≤ z10297 ∧ z10297 ≤ 0 := (vc_X12_ring_22 h10313 h10296.1)
                            refine mr_iinc (pc := 131) (lv' := [(5, iv (z10224 + 1)), (0, .ref 106), (1, iv p1), (2, iv z6390), (3, iv z8858), (4, iv z9937)]) dX12_ring_131 rfl (by decide) rfl ?_
                            refine sv_goto (pc := 134) (tgt := 64) dX12_ring_134 (by decide) ?_
                            refine mr_lvS (lv' := [(0, .ref 106), (1, iv p1), (2, iv z6390), (3, iv z8858), (4, iv z9937), (5, iv (z10224 + 1))]) (List.forall_mem_cons.mpr ⟨rfl, List.forall_mem_cons.mpr ⟨rfl, List.forall_mem_cons.mpr ⟨rfl, List.forall_mem_cons.mpr ⟨rfl, List.forall_mem_cons.mpr ⟨rfl, List.forall_mem_cons.mpr ⟨rfl, fun _ h => absurd h List.not_mem_nil⟩⟩⟩⟩⟩⟩) ?_
                            exact ih10232 (z10224 + 1) μ10225 T10228 (mF.call mF.refl F10229 rfl) (rW (c := 0) (d := 10) (rAdd (e := 1) (f := 10) h10263 (rR (x := 1)) rfl) rfl) (vc_X12_ring_45 (nS h10231) h10261 h6402 h8997 h10008 h10263 h6403 h6404 h9490 h10010)
                          have h10315 : 1 ≤ z10297 ∧ z10297 ≤ 1 := (vc_X12_ring_24 h10313 h10296.1)
                          refine mr_iload_n (pc := 96) (z := z8858) dX12_ring_96 rfl rfl ?_
                          refine mr_iconst (pc := 97) (z := 1) dX12_ring_97 ?_
                          refine mr_icmp_ne (pc := 98) (tgt := 110) dX12_ring_98 (by decide) (r32 h9490 rfl) (r32 (rR (x := 1)) rfl) (fun h10329 => ?_) (fun h10329 => ?_)
                          · have h10330 : 2 ≤ z8858 ∧ z8858 ≤ 10 := (vc_X12_ring_47 h10329 h8997 h6404 h9490)
                            refine sv_aload_n (pc := 110) dX12_ring_110 rfl rfl ?_
                            refine gf_X12_14 (pc := 111) dX12_ring_111 wF_X12_72 (A_106 hw) T10228 ?_
                            refine mr_iload (pc := 114) (z := z10224) dX12_ring_114 rfl ?_
                            refine la_117 (pc := 116) dX12_ring_116 (A_117 hw) T10228 (rIx (n := 10) h10263 rfl) fun z10331 q10332 h10333 => ?_
                            have h10334 : (-99999999) ≤ z10331 ∧ z10331 ≤ 10 := (vc_X12_ring_9 h10333)
                            refine mr_iload_n (pc := 117) (z := z8858) dX12_ring_117 rfl rfl ?_
                            refine mr_iconst (pc := 118) (z := 1) dX12_ring_118 ?_
                            refine mr_isub (pc := 119) (x := z8858) (y := 1) dX12_ring_119 ?_
                            refine mr_icmp_ne (pc := 120) (tgt := 131) dX12_ring_120 (by decide) (r32 h10334 rfl) (r32 (rSub (e := 1) (f := 9) h10330 (rR (x := 1)) rfl) rfl) (fun h10339 => ?_) (fun h10339 => ?_)
                            · refine mr_iinc (pc := 131) (lv' := [(5, iv (z10224 + 1)), (0, .ref 106), (1, iv p1), (2, iv z6390), (3, iv z8858), (4, iv z9937)]) dX12_ring_131 rfl (by decide) rfl ?_
                              refine sv_goto (pc := 134) (tgt := 64) dX12_ring_134 (by decide) ?_
                              refine mr_lvS (lv' := [(0, .ref 106), (1, iv p1), (2, iv z6390), (3, iv z8858), (4, iv z9937), (5, iv (z10224 + 1))]) (List.forall_mem_cons.mpr ⟨rfl, List.forall_mem_cons.mpr ⟨rfl, List.forall_mem_cons.mpr ⟨rfl, List.forall_mem_cons.mpr ⟨rfl, List.forall_mem_cons.mpr ⟨rfl, List.forall_mem_cons.mpr ⟨rfl, fun _ h => absurd h List.not_mem_nil⟩⟩⟩⟩⟩⟩) ?_
                              exact ih10232 (z10224 + 1) μ10225 T10228 (mF.call mF.refl F10229 rfl) (rW (c := 0) (d := 10) (rAdd (e := 1) (f := 10) h10263 (rR (x := 1)) rfl) rfl) (vc_X12_ring_49 (nS h10231) h10261 h6402 h8997 h10008 h10263 h6403 h6404 h10330 h10010)
                            have h10340 : 1 ≤ z10331 ∧ z10331 ≤ 9 := (vc_X12_ring_50 h10339 h8997 h10329 h10334 h10333 h6404 h10330)
                            refine sv_aload_n (pc := 123) dX12_ring_123 rfl rfl ?_
                            refine gf_X12_14 (pc := 124) dX12_ring_124 wF_X12_72 (A_106 hw) T10228 ?_
                            refine mr_iload (pc := 127) (z := z9937) dX12_ring_127 rfl ?_
                            refine mr_iload_n (pc := 129) (z := z8858) dX12_ring_129 rfl rfl ?_
                            refine ss_117 (pc := 130) dX12_ring_130 (A_117 hw) T10228 (rIx (n := 10) h10010 rfl) (vc_X12_ring_51 h8997 h10329 h10339 h6402 h10008 h10261 h10263 h10340 h10333 h6403 h6404 h10330 h10010) fun μ10341 u10342 T10343 => ?_
                            refine mr_iinc (pc := 131) (lv' := [(5, iv (z10224 + 1)), (0, .ref 106), (1, iv p1), (2, iv z6390), (3, iv z8858), (4, iv z9937)]) dX12_ring_131 rfl (by decide) rfl ?_
                            refine sv_goto (pc := 134) (tgt := 64) dX12_ring_134 (by decide) ?_
                            refine mr_lvS (lv' := [(0, .ref 106), (1, iv p1), (2, iv z6390), (3, iv z8858), (4, iv z9937), (5, iv (z10224 + 1))]) (List.forall_mem_cons.mpr ⟨rfl, List.forall_mem_cons.mpr ⟨rfl, List.forall_mem_cons.mpr ⟨rfl, List.forall_mem_cons.mpr ⟨rfl, List.forall_mem_cons.mpr ⟨rfl, List.forall_mem_cons.mpr ⟨rfl, fun _ h => absurd h List.not_mem_nil⟩⟩⟩⟩⟩⟩) ?_
                            exact ih10232 (z10224 + 1) μ10341 T10343 (mF.up (mF.call mF.refl F10229 rfl) (A_117 hw) u10342 rfl) (rW (c := 0) (d := 10) (rAdd (e := 1) (f := 10) h10263 (rR (x := 1)) rfl) rfl) (vc_X12_ring_49 (nS h10231) h10261 h6402 h8997 h10008 h10263 h6403 h6404 h10330 h10010)
                          have h10344 : 1 ≤ z8858 ∧ z8858 ≤ 1 := (vc_X12_ring_52 h10329 h8997 h6404 h9490)
                          refine mr_iload (pc := 101) (z := z10224) dX12_ring_101 rfl ?_
                          refine mr_iload_n (pc := 103) (z := z6390) dX12_ring_103 rfl rfl ?_
                          refine mr_icmp_ne (pc := 104) (tgt := 131) dX12_ring_104 (by decide) (r32 h10263 rfl) (r32 h6403 rfl) (fun h10348 => ?_) (fun h10348 => ?_)
                          · refine mr_iinc (pc := 131) (lv' := [(5, iv (z10224 + 1)), (0, .ref 106), (1, iv p1), (2, iv z6390), (3, iv z8858), (4, iv z9937)]) dX12_ring_131 rfl (by decide) rfl ?_
                            refine sv_goto (pc := 134) (tgt := 64) dX12_ring_134 (by decide) ?_
                            refine mr_lvS (lv' := [(0, .ref 106), (1, iv p1), (2, iv z6390), (3, iv z8858), (4, iv z9937), (5, iv (z10224 + 1))]) (List.forall_mem_cons.mpr ⟨rfl, List.forall_mem_cons.mpr ⟨rfl, List.forall_mem_cons.mpr ⟨rfl, List.forall_mem_cons.mpr ⟨rfl, List.forall_mem_cons.mpr ⟨rfl, List.forall_mem_cons.mpr ⟨rfl, fun _ h => absurd h List.not_mem_nil⟩⟩⟩⟩⟩⟩) ?_
                            exact ih10232 (z10224 + 1) μ10225 T10228 (mF.call mF.refl F10229 rfl) (rW (c := 0) (d := 10) (rAdd (e := 1) (f := 10) h10263 (rR (x := 1)) rfl) rfl) (vc_X12_ring_53 (nS h10231) h10261 h10348 h6402 h8997 h10008 h10263 h6403 h6404 h10344 h10010)
                          refine sv_goto (pc := 107) (tgt := 123) dX12_ring_107 (by decide) ?_
                          refine sv_aload_n (pc := 123) dX12_ring_123 rfl rfl ?_
                          refine gf_X12_14 (pc := 124) dX12_ring_124 wF_X12_72 (A_106 hw) T10228 ?_
                          refine mr_iload (pc := 127) (z := z9937) dX12_ring_127 rfl ?_
                          refine mr_iload_n (pc := 129) (z := z8858) dX12_ring_129 rfl rfl ?_
                          refine ss_117 (pc := 130) dX12_ring_130 (A_117 hw) T10228 (rIx (n := 10) h10010 rfl) (vc_X12_ring_54 h8997 h10329 h6402 h10008 h10261 h10263 h6403 h6404 h10344 h10010) fun μ10349 u10350 T10351 => ?_
                          refine mr_iinc (pc := 131) (lv' := [(5, iv (z10224 + 1)), (0, .ref 106), (1, iv p1), (2, iv z6390), (3, iv z8858), (4, iv z9937)]) dX12_ring_131 rfl (by decide) rfl ?_
                          refine sv_goto (pc := 134) (tgt := 64) dX12_ring_134 (by decide) ?_
                          refine mr_lvS (lv' := [(0, .ref 106), (1, iv p1), (2, iv z6390), (3, iv z8858), (4, iv z9937), (5, iv (z10224 + 1))]) (List.forall_mem_cons.mpr ⟨rfl, List.forall_mem_cons.mpr ⟨rfl, List.forall_mem_cons.mpr ⟨rfl, List.forall_mem_cons.mpr ⟨rfl, List.forall_mem_cons.mpr ⟨rfl, List.forall_mem_cons.mpr ⟨rfl, fun _ h => absurd h List.not_mem_nil⟩⟩⟩⟩⟩⟩) ?_
                          exact ih10232 (z10224 + 1) μ10349 T10351 (mF.up (mF.call mF.refl F10229 rfl) (A_117 hw) u10350 rfl) (rW (c := 0) (d := 10) (rAdd (e := 1) (f := 10) h10263 (rR (x := 1)) rfl) rfl) (vc_X12_ring_55 (nS h10231) h10261 h10348 h6402 h8997 h10008 h10263 h6403 h6404 h10344 h10010)
                      refine mr_lvS (lv' := [(0, .ref 106), (1, iv p1), (2, iv z6390), (3, iv z8858), (4, iv z9937), (5, iv 0)]) (List.forall_mem_cons.mpr ⟨rfl, List.forall_mem_cons.mpr ⟨rfl, List.forall_mem_cons.mpr ⟨rfl, List.forall_mem_cons.mpr ⟨rfl, List.forall_mem_cons.mpr ⟨rfl, List.forall_mem_cons.mpr ⟨rfl, fun _ h => absurd h List.not_mem_nil⟩⟩⟩⟩⟩⟩) ?_
                      exact L10226 12 0 μ9938 T9941 mF.refl (rW (c := 0) (d := 10) (rR (x := 0)) rfl) vc_X12_ring_27
                  refine mr_lvS (lv' := [(0, .ref 106), (1, iv p1), (2, iv z6390), (3, iv z8858), (4, iv 0)]) (List.forall_mem_cons.mpr ⟨rfl, List.forall_mem_cons.mpr ⟨rfl, List.forall_mem_cons.mpr ⟨rfl, List.forall_mem_cons.mpr ⟨rfl, List.forall_mem_cons.mpr ⟨rfl, fun _ h => absurd h List.not_mem_nil⟩⟩⟩⟩⟩) ?_
                  exact L9939 12 0 μ8859 T8862 mF.refl (rW (c := 0) (d := 10) (rR (x := 0)) rfl) vc_X12_ring_27
              refine mr_lvS (lv' := [(0, .ref 106), (1, iv p1), (2, iv z6390), (3, iv 1)]) (List.forall_mem_cons.mpr ⟨rfl, List.forall_mem_cons.mpr ⟨rfl, List.forall_mem_cons.mpr ⟨rfl, List.forall_mem_cons.mpr ⟨rfl, fun _ h => absurd h List.not_mem_nil⟩⟩⟩⟩) ?_
              exact L8860 12 1 μ7325 T7328 mF.refl (rW (c := 1) (d := 11) (rR (x := 1)) rfl) vc_X12_ring_56
            have h10352 : 0 ≤ z7324 ∧ z7324 ≤ 9 := (vc_X12_ring_57 h7338 h7327)
            refine sv_aload_n (pc := 25) dX12_ring_25 rfl rfl ?_
            refine gf_X12_14 (pc := 26) dX12_ring_26 wF_X12_72 (A_106 hw) T7328 ?_
            refine mr_iload_n (pc := 29) (z := z7324) dX12_ring_29 rfl rfl ?_
            refine mr_ldc (pc := 30) (z := (-99999999)) dX12_ring_30 wG_X12_29 (by decide) ?_
            refine ss_117 (pc := 32) dX12_ring_32 (A_117 hw) T7328 (rIx (n := 10) h10352 rfl) vc_X12_ring_58 fun μ10353 u10354 T10355 => ?_
            refine mr_iinc (pc := 33) (lv' := [(3, iv (z7324 + 1)), (0, .ref 106), (1, iv p1), (2, iv z6390)]) dX12_ring_33 rfl (by decide) rfl ?_
            refine sv_goto (pc := 36) (tgt := 19) dX12_ring_36 (by decide) ?_
            refine mr_lvS (lv' := [(0, .ref 106), (1, iv p1), (2, iv z6390), (3, iv (z7324 + 1))]) (List.forall_mem_cons.mpr ⟨rfl, List.forall_mem_cons.mpr ⟨rfl, List.forall_mem_cons.mpr ⟨rfl, List.forall_mem_cons.mpr ⟨rfl, fun _ h => absurd h List.not_mem_nil⟩⟩⟩⟩) ?_
            exact ih7332 (z7324 + 1) μ10353 T10355 (mF.up (mF.call mF.refl F7329 rfl) (A_117 hw) u10354 rfl) (rW (c := 0) (d := 10) (rAdd (e := 1) (f := 10) h10352 (rR (x := 1)) rfl) rfl) (vc_X12_ring_59 (nS h7331) h7338 h10352)
        refine mr_lvS (lv' := [(0, .ref 106), (1, iv p1), (2, iv z6390), (3, iv 0)]) (List.forall_mem_cons.mpr ⟨rfl, List.forall_mem_cons.mpr ⟨rfl, List.forall_mem_cons.mpr ⟨rfl, List.forall_mem_cons.mpr ⟨rfl, fun _ h => absurd h List.not_mem_nil⟩⟩⟩⟩) ?_
        exact L7326 12 0 μ6391 T6394 mF.refl (rW (c := 0) (d := 10) (rR (x := 0)) rfl) vc_X12_ring_27
    refine mr_lvS (lv' := [(0, .ref 106), (1, iv p1), (2, iv 0)]) (List.forall_mem_cons.mpr ⟨rfl, List.forall_mem_cons.mpr ⟨rfl, List.forall_mem_cons.mpr ⟨rfl, fun _ h => absurd h List.not_mem_nil⟩⟩⟩) ?_
    exact L6392 12 0 μ hT mF.refl (rW (c := 0) (d := 10) (rR (x := 0)) rfl) vc_X12_ring_27
  have h10356 : (-2147483648) ≤ p1 ∧ p1 ≤ (-1) := (vc_X12_ring_60 h1 hp1)
  refine mr_ldc (pc := 4) (z := (-99999999)) dX12_ring_4 wG_X12_29 (by decide) ?_
  exact mr_iret dX12_ring_6 rfl (le_t rfl) (le_t rfl) hT mF.refl ⟨(rW (c := (-2147483648)) (d := 2147483647) (rR (x := (-99999999))) rfl), trivial⟩
theorem vc_X12_letWay_1 {z373 : Int} (h0 : (20 - z373) < ((0 : Nat) : Int)) (h1 : 0 ≤ z373 ∧ z373 ≤ 19) : False := by omega
theorem vc_X12_letWay_2 {z373 z383 : Int} (h0 : (z373 + 1) < z383) (h1 : 0 ≤ z373 ∧ z373 ≤ 19) (h2 : 0 ≤ z383 ∧ z383 ≤ 20) : 0 ≤ z373 ∧ z373 ≤ 18 := by omega
theorem vc_X12_letWay_3 {z373 z383 : Int} (h0 : (z373 + 1) < z383) (h1 : 0 ≤ z373 ∧ z373 ≤ 18) (h2 : 0 ≤ z383 ∧ z383 ≤ 20) : 2 ≤ z383 ∧ z383 ≤ 20 := by omega
theorem vc_X12_letWay_5 {z402 : Int} (h0 : ¬ z402 = 2) (h1 : 0 ≤ z402 ∧ z402 ≤ 2) : 0 ≤ z402 ∧ z402 ≤ 1 := by omega
theorem vc_X12_letWay_7 {z402 : Int} (h0 : z402 = 1) (h1 : ¬ z402 = 2) (h2 : 0 ≤ z402 ∧ z402 ≤ 1) : 1 ≤ z402 ∧ z402 ≤ 1 := by omega
theorem vc_X12_letWay_8 {N z373 z383 : Int} (h0 : (20 - z373) < N + 1) (h1 : (z373 + 1) < z383) (h2 : 0 ≤ z373 ∧ z373 ≤ 18) (h3 : 2 ≤ z383 ∧ z383 ≤ 20) : (20 - (z373 + 1)) < N := by omega
theorem vc_X12_letWay_9 {z402 : Int} (h0 : ¬ z402 = 1) (h1 : ¬ z402 = 2) (h2 : 0 ≤ z402 ∧ z402 ≤ 1) : 0 ≤ z402 ∧ z402 ≤ 0 := by omega
theorem vc_X12_letWay_13 {z412 : Int} (h0 : z412 = 0) (h1 : 1 ≤ z412 ∧ z412 ≤ 1) : False := by omega
theorem vc_X12_letWay_14 {z402 : Int} (h0 : ¬ z402 = 0) (h1 : ¬ z402 = 2) (h2 : 0 ≤ z402 ∧ z402 ≤ 1) : 1 ≤ z402 ∧ z402 ≤ 1 := by omega
theorem vc_X12_letWay_15 {z402 : Int} (h0 : z402 = 0) (h1 : ¬ z402 = 2) (h2 : 0 ≤ z402 ∧ z402 ≤ 1) : 0 ≤ z402 ∧ z402 ≤ 0 := by omega
theorem vc_X12_letWay_16 {z402 : Int} (h0 : z402 = 2) (h1 : 0 ≤ z402 ∧ z402 ≤ 2) : 2 ≤ z402 ∧ z402 ≤ 2 := by omega
theorem vc_X12_letWay_18  : (20 - 0) < ((21 : Nat) : Int) := by omega
set_option maxRecDepth 4000 in
set_option maxHeartbeats 4000000 in
theorem c_X12_letWay {l : Launch} {D : va_G} {c : Nat → ClassId} {H0 : Heap} {sa : Nat × Nat × (Nat → Int32)} {w : mW} {μ : mM} (hw : mWF w) (hT : mT w μ) : sC (gG l D c H0 sa) mX12_letWay 2 0 0 [.ref 106] (mk w μ) (qP w μ (fun z => ((-2147483648) ≤ z ∧ z ≤ 2147483647) ∧ True)) := by
  refine sC.of rfl (by decide) (le_t rfl) ?_
  refine mr_lvE (lv' := [(0, .ref 106)]) rfl ?_
  refine mr_iconst (pc := 0) (z := 0) dX12_letWay_0 ?_
  refine mr_istore_n (pc := 1) (lv' := [(1, iv 0), (0, .ref 106)]) dX12_letWay_1 rfl (by decide) rfl ?_
  refine mr_iconst (pc := 2) (z := 0) dX12_letWay_2 ?_
  refine mr_istore_n (pc := 3) (lv' := [(2, iv 0), (1, iv 0), (0, .ref 106)]) dX12_letWay_3 rfl (by decide) rfl ?_
  have L375 : ∀ (nL375 : Nat) (z374 z373 : Int), True → (0 ≤ z374 ∧ z374 ≤ 1) → (0 ≤ z373 ∧ z373 ≤ 19) → (20 - z373) < (nL375 : Int) → sV (gG l D c H0 sa) mX12_letWay (sRm 2 0 0) (sZ (gG l D c H0 sa) 0 0 (qP w μ (fun z => ((-2147483648) ≤ z ∧ z ≤ 2147483647) ∧ True))) 4 [(0, .ref 106), (1, iv z374), (2, iv z373)] [] (mk w μ) 0 0 := by
    intro nL375
    induction nL375 with
    | zero => intro z374 z373 _ h376 h377 h381; exact ((vc_X12_letWay_1 h381 h377)).elim
    | succ nL375 ih382 =>
      intro z374 z373 _ h376 h377 h381
      refine mr_iload_n (pc := 4) (z := z373) dX12_letWay_4 rfl rfl ?_
      refine mr_iconst (pc := 5) (z := 1) dX12_letWay_5 ?_
      refine mr_iadd (pc := 6) (x := z373) (y := 1) dX12_letWay_6 ?_
      refine sv_aload_n (pc := 7) dX12_letWay_7 rfl rfl ?_
      refine gf_X12_15 (pc := 8) dX12_letWay_8 wF_X12_79 (A_106 hw) hT fun z383 q384 h385 => ?_
      refine mr_icmp_ge (pc := 11) (tgt := 125) dX12_letWay_11 (by decide) (r32 (rAdd (e := 1) (f := 20) h377 (rR (x := 1)) rfl) rfl) (r32 h385 rfl) (fun h386 => ?_) (fun h386 => ?_)
      · refine mr_iconst (pc := 125) (z := 0) dX12_letWay_125 ?_
        exact mr_iretP dX12_letWay_126 rfl (le_t rfl) (le_t rfl) ⟨(rW (c := (-2147483648)) (d := 2147483647) (rR (x := 0)) rfl), trivial⟩
      have h387 : 0 ≤ z373 ∧ z373 ≤ 18 := (vc_X12_letWay_2 h386 h377 h385)
      have h388 : 2 ≤ z383 ∧ z383 ≤ 20 := (vc_X12_letWay_3 h386 h387 h385)
      refine sv_aload_n (pc := 14) dX12_letWay_14 rfl rfl ?_
      refine sv_aload_n (pc := 15) dX12_letWay_15 rfl rfl ?_
      refine gf_X12_16 (pc := 16) dX12_letWay_16 wF_X12_82 (A_106 hw) hT ?_
      refine mr_iload_n (pc := 19) (z := z373) dX12_letWay_19 rfl rfl ?_
      refine la_118 (pc := 20) dX12_letWay_20 (A_118 hw) hT (rIx (n := 20) h387 rfl) fun z389 q390 h391 => ?_
      refine sv_aload_n (pc := 21) dX12_letWay_21 rfl rfl ?_
      refine gf_X12_16 (pc := 22) dX12_letWay_22 wF_X12_82 (A_106 hw) hT ?_
      refine mr_iload_n (pc := 25) (z := z373) dX12_letWay_25 rfl rfl ?_
      refine mr_iconst (pc := 26) (z := 1) dX12_letWay_26 ?_
      refine mr_iadd (pc := 27) (x := z373) (y := 1) dX12_letWay_27 ?_
      refine la_118 (pc := 28) dX12_letWay_28 (A_118 hw) hT (rIx (n := 20) (rAdd (e := 1) (f := 19) h387 (rR (x := 1)) rfl) rfl) fun z392 q393 h394 => ?_
      refine mr_cVP (pc := 29) (c_X12_tieOf hw hT (rW (c := (-2147483648)) (d := 2147483647) h391 rfl) (rW (c := (-2147483648)) (d := 2147483647) h394 rfl)) (gOk _ _ _ _ _) dX12_letWay_29 (tX12_tieOf _ _ _ _ _) ⟨wV_X12_tieOf, wL_X12_tieOf⟩ wM_X12_43 (gCX12 _ _ _ _ _) rfl (A_106 hw) rfl ⟨le_t rfl, le_t rfl⟩ ⟨le_t rfl, le_t rfl⟩ rfl (le_t rfl) fun z399 h398 => ?_
      refine mr_istore_n (pc := 32) (lv' := [(3, iv z399), (0, .ref 106), (1, iv z374), (2, iv z373)]) dX12_letWay_32 rfl (by decide) rfl ?_
      refine mr_iload_n (pc := 33) (z := z399) dX12_letWay_33 rfl rfl ?_
      refine mr_ldc (pc := 34) (z := (-99999999)) dX12_letWay_34 wG_X12_29 (by decide) ?_
      refine mr_icmp_ne (pc := 36) (tgt := 43) dX12_letWay_36 (by decide) (r32 h398.1 rfl) (r32 (rR (x := (-99999999))) rfl) (fun h400 => ?_) (fun h400 => ?_)
      · have h401 : 0 ≤ z399 ∧ z399 ≤ 19 := (vc_X12_provides_2 h400 h398.2.1 h398.1)
        refine sv_aload_n (pc := 43) dX12_letWay_43 rfl rfl ?_
        refine gf_X12_8 (pc := 44) dX12_letWay_44 wF_X12_46 (A_106 hw) hT ?_
        refine mr_iload_n (pc := 47) (z := z399) dX12_letWay_47 rfl rfl ?_
        refine la_111 (pc := 48) dX12_letWay_48 (A_111 hw) hT (rIx (n := 20) h401 rfl) fun z402 q403 h404 => ?_
        refine mr_iconst (pc := 49) (z := 2) dX12_letWay_49 ?_
        refine mr_icmp_ne (pc := 50) (tgt := 56) dX12_letWay_50 (by decide) (r32 h404 rfl) (r32 (rR (x := 2)) rfl) (fun h405 => ?_) (fun h405 => ?_)
        · have h406 : 0 ≤ z402 ∧ z402 ≤ 1 := (vc_X12_letWay_5 h405 h404)
          refine sv_aload_n (pc := 56) dX12_letWay_56 rfl rfl ?_
          refine gf_X12_8 (pc := 57) dX12_letWay_57 wF_X12_46 (A_106 hw) hT ?_
          refine mr_iload_n (pc := 60) (z := z399) dX12_letWay_60 rfl rfl ?_
          refine lk_111 (pc := 61) dX12_letWay_61 (A_111 hw) (rIx (n := 20) h401 rfl) q403 ?_
          have J414 : ∀ (z412 : Int), ((0 ≤ z412 ∧ z412 ≤ 1)) → sV (gG l D c H0 sa) mX12_letWay (sRm 2 0 0) (sZ (gG l D c H0 sa) 0 0 (qP w μ (fun z => ((-2147483648) ≤ z ∧ z ≤ 2147483647) ∧ True))) 87 [(0, .ref 106), (1, iv z374), (2, iv z373), (3, iv z399)] [iv z412] (mk w μ) 0 0 := by
            intro z412 h413
            refine mr_istore (pc := 87) (lv' := [(4, iv z412), (0, .ref 106), (1, iv z374), (2, iv z373), (3, iv z399)]) dX12_letWay_87 (by decide) rfl ?_
            refine mr_iload_n (pc := 89) (z := z374) dX12_letWay_89 rfl rfl ?_
            refine mr_if_eq (pc := 90) (tgt := 102) dX12_letWay_90 (by decide) (r32 h376 rfl) (fun h415 => ?_) (fun h415 => ?_)
            · have h416 : 0 ≤ z374 ∧ z374 ≤ 0 := (vc_X12_ring_22 h415 h376)
              refine sv_aload_n (pc := 102) dX12_letWay_102 rfl rfl ?_
              refine gf_X12_8 (pc := 103) dX12_letWay_103 wF_X12_46 (A_106 hw) hT ?_
              refine mr_iload_n (pc := 106) (z := z399) dX12_letWay_106 rfl rfl ?_
              refine lk_111 (pc := 107) dX12_letWay_107 (A_111 hw) (rIx (n := 20) h401 rfl) q403 ?_
              refine mr_iconst (pc := 108) (z := 1) dX12_letWay_108 ?_
              refine mr_icmp_eq (pc := 109) (tgt := 117) dX12_letWay_109 (by decide) (r32 h406 rfl) (r32 (rR (x := 1)) rfl) (fun h421 => ?_) (fun h421 => ?_)
              · have h422 : 1 ≤ z402 ∧ z402 ≤ 1 := (vc_X12_letWay_7 h421 h405 h406)
                refine mr_iconst (pc := 117) (z := 1) dX12_letWay_117 ?_
                refine mr_istore_n (pc := 118) (lv' := [(1, iv 1), (4, iv z412), (0, .ref 106), (2, iv z373), (3, iv z399)]) dX12_letWay_118 rfl (by decide) rfl ?_
                refine mr_iinc (pc := 119) (lv' := [(2, iv (z373 + 1)), (1, iv 1), (4, iv z412), (0, .ref 106), (3, iv z399)]) dX12_letWay_119 rfl (by decide) rfl ?_
                refine sv_goto (pc := 122) (tgt := 4) dX12_letWay_122 (by decide) ?_
                refine mr_lvS (lv' := [(0, .ref 106), (1, iv 1), (2, iv (z373 + 1))]) (List.forall_mem_cons.mpr ⟨rfl, List.forall_mem_cons.mpr ⟨rfl, List.forall_mem_cons.mpr ⟨rfl, fun _ h => absurd h List.not_mem_nil⟩⟩⟩) ?_
                exact ih382 1 (z373 + 1) trivial (rW (c := 0) (d := 1) (rR (x := 1)) rfl) (rW (c := 0) (d := 19) (rAdd (e := 1) (f := 19) h387 (rR (x := 1)) rfl) rfl) (vc_X12_letWay_8 (nS h381) h386 h387 h388)
              have h423 : 0 ≤ z402 ∧ z402 ≤ 0 := (vc_X12_letWay_9 h421 h405 h406)
              refine mr_iload (pc := 112) (z := z412) dX12_letWay_112 rfl ?_
              refine mr_if_eq (pc := 114) (tgt := 119) dX12_letWay_114 (by decide) (r32 h413 rfl) (fun h426 => ?_) (fun h426 => ?_)
              · have h427 : 0 ≤ z412 ∧ z412 ≤ 0 := (vc_X12_ring_22 h426 h413)
                refine mr_iinc (pc := 119) (lv' := [(2, iv (z373 + 1)), (4, iv z412), (0, .ref 106), (1, iv z374), (3, iv z399)]) dX12_letWay_119 rfl (by decide) rfl ?_
                refine sv_goto (pc := 122) (tgt := 4) dX12_letWay_122 (by decide) ?_
                refine mr_lvS (lv' := [(0, .ref 106), (1, iv z374), (2, iv (z373 + 1))]) (List.forall_mem_cons.mpr ⟨rfl, List.forall_mem_cons.mpr ⟨rfl, List.forall_mem_cons.mpr ⟨rfl, fun _ h => absurd h List.not_mem_nil⟩⟩⟩) ?_
                exact ih382 z374 (z373 + 1) trivial (rW (c := 0) (d := 1) h416 rfl) (rW (c := 0) (d := 19) (rAdd (e := 1) (f := 19) h387 (rR (x := 1)) rfl) rfl) (vc_X12_letWay_8 (nS h381) h386 h387 h388)
              have h428 : 1 ≤ z412 ∧ z412 ≤ 1 := (vc_X12_ring_24 h426 h413)
              refine mr_iconst (pc := 117) (z := 1) dX12_letWay_117 ?_
              refine mr_istore_n (pc := 118) (lv' := [(1, iv 1), (4, iv z412), (0, .ref 106), (2, iv z373), (3, iv z399)]) dX12_letWay_118 rfl (by decide) rfl ?_
              refine mr_iinc (pc := 119) (lv' := [(2, iv (z373 + 1)), (1, iv 1), (4, iv z412), (0, .ref 106), (3, iv z399)]) dX12_letWay_119 rfl (by decide) rfl ?_
              refine sv_goto (pc := 122) (tgt := 4) dX12_letWay_122 (by decide) ?_
              refine mr_lvS (lv' := [(0, .ref 106), (1, iv 1), (2, iv (z373 + 1))]) (List.forall_mem_cons.mpr ⟨rfl, List.forall_mem_cons.mpr ⟨rfl, List.forall_mem_cons.mpr ⟨rfl, fun _ h => absurd h List.not_mem_nil⟩⟩⟩) ?_
              exact ih382 1 (z373 + 1) trivial (rW (c := 0) (d := 1) (rR (x := 1)) rfl) (rW (c := 0) (d := 19) (rAdd (e := 1) (f := 19) h387 (rR (x := 1)) rfl) rfl) (vc_X12_letWay_8 (nS h381) h386 h387 h388)
            have h429 : 1 ≤ z374 ∧ z374 ≤ 1 := (vc_X12_ring_24 h415 h376)
            refine mr_iload (pc := 93) (z := z412) dX12_letWay_93 rfl ?_
            refine mr_if_ne (pc := 95) (tgt := 102) dX12_letWay_95 (by decide) (r32 h413 rfl) (fun h430 => ?_) (fun h430 => ?_)
            · have h431 : 1 ≤ z412 ∧ z412 ≤ 1 := (vc_X12_ring_24 h430 h413)
              refine sv_aload_n (pc := 102) dX12_letWay_102 rfl rfl ?_
              refine gf_X12_8 (pc := 103) dX12_letWay_103 wF_X12_46 (A_106 hw) hT ?_
              refine mr_iload_n (pc := 106) (z := z399) dX12_letWay_106 rfl rfl ?_
              refine lk_111 (pc := 107) dX12_letWay_107 (A_111 hw) (rIx (n := 20) h401 rfl) q403 ?_
              refine mr_iconst (pc := 108) (z := 1) dX12_letWay_108 ?_
              refine mr_icmp_eq (pc := 109) (tgt := 117) dX12_letWay_109 (by decide) (r32 h406 rfl) (r32 (rR (x := 1)) rfl) (fun h434 => ?_) (fun h434 => ?_)
              · have h435 : 1 ≤ z402 ∧ z402 ≤ 1 := (vc_X12_letWay_7 h434 h405 h406)
                refine mr_iconst (pc := 117) (z := 1) dX12_letWay_117 ?_
                refine mr_istore_n (pc := 118) (lv' := [(1, iv 1), (4, iv z412), (0, .ref 106), (2, iv z373), (3, iv z399)]) dX12_letWay_118 rfl (by decide) rfl ?_
                refine mr_iinc (pc := 119) (lv' := [(2, iv (z373 + 1)), (1, iv 1), (4, iv z412), (0, .ref 106), (3, iv z399)]) dX12_letWay_119 rfl (by decide) rfl ?_
                refine sv_goto (pc := 122) (tgt := 4) dX12_letWay_122 (by decide) ?_
                refine mr_lvS (lv' := [(0, .ref 106), (1, iv 1), (2, iv (z373 + 1))]) (List.forall_mem_cons.mpr ⟨rfl, List.forall_mem_cons.mpr ⟨rfl, List.forall_mem_cons.mpr ⟨rfl, fun _ h => absurd h List.not_mem_nil⟩⟩⟩) ?_
                exact ih382 1 (z373 + 1) trivial (rW (c := 0) (d := 1) (rR (x := 1)) rfl) (rW (c := 0) (d := 19) (rAdd (e := 1) (f := 19) h387 (rR (x := 1)) rfl) rfl) (vc_X12_letWay_8 (nS h381) h386 h387 h388)
              have h436 : 0 ≤ z402 ∧ z402 ≤ 0 := (vc_X12_letWay_9 h434 h405 h406)
              refine mr_iload (pc := 112) (z := z412) dX12_letWay_112 rfl ?_
              refine mr_if_eq (pc := 114) (tgt := 119) dX12_letWay_114 (by decide) (r32 h431 rfl) (fun h => ((vc_X12_letWay_13 h h431)).elim) (fun _ => ?_)
              refine mr_iconst (pc := 117) (z := 1) dX12_letWay_117 ?_
              refine mr_istore_n (pc := 118) (lv' := [(1, iv 1), (4, iv z412), (0, .ref 106), (2, iv z373), (3, iv z399)]) dX12_letWay_118 rfl (by decide) rfl ?_
              refine mr_iinc (pc := 119) (lv' := [(2, iv (z373 + 1)), (1, iv 1), (4, iv z412), (0, .ref 106), (3, iv z399)]) dX12_letWay_119 rfl (by decide) rfl ?_
              refine sv_goto (pc := 122) (tgt := 4) dX12_letWay_122 (by decide) ?_
              refine mr_lvS (lv' := [(0, .ref 106), (1, iv 1), (2, iv (z373 + 1))]) (List.forall_mem_cons.mpr ⟨rfl, List.forall_mem_cons.mpr ⟨rfl, List.forall_mem_cons.mpr ⟨rfl, fun _ h => absurd h List.not_mem_nil⟩⟩⟩) ?_
              exact ih382 1 (z373 + 1) trivial (rW (c := 0) (d := 1) (rR (x := 1)) rfl) (rW (c := 0) (d := 19) (rAdd (e := 1) (f := 19) h387 (rR (x := 1)) rfl) rfl) (vc_X12_letWay_8 (nS h381) h386 h387 h388)
            have h437 : 0 ≤ z412 ∧ z412 ≤ 0 := (vc_X12_ring_22 h430 h413)
            refine mr_iload_n (pc := 98) (z := z373) dX12_letWay_98 rfl rfl ?_
            refine mr_iconst (pc := 99) (z := 1) dX12_letWay_99 ?_
            refine mr_iadd (pc := 100) (x := z373) (y := 1) dX12_letWay_100 ?_
            exact mr_iretP dX12_letWay_101 rfl (le_t rfl) (le_t rfl) ⟨(rW (c := (-2147483648)) (d := 2147483647) (rAdd (e := 1) (f := 19) h387 (rR (x := 1)) rfl) rfl), trivial⟩
          refine mr_if_ne (pc := 62) (tgt := 86) dX12_letWay_62 (by decide) (r32 h406 rfl) (fun h438 => ?_) (fun h438 => ?_)
          · have h439 : 1 ≤ z402 ∧ z402 ≤ 1 := (vc_X12_letWay_14 h438 h405 h406)
            refine mr_iconst (pc := 86) (z := 0) dX12_letWay_86 ?_
            refine mr_lvS (lv' := [(0, .ref 106), (1, iv z374), (2, iv z373), (3, iv z399)]) (List.forall_mem_cons.mpr ⟨rfl, List.forall_mem_cons.mpr ⟨rfl, List.forall_mem_cons.mpr ⟨rfl, List.forall_mem_cons.mpr ⟨rfl, fun _ h => absurd h List.not_mem_nil⟩⟩⟩⟩) ?_
            exact J414 0 (rW (c := 0) (d := 1) (rR (x := 0)) rfl)
          have h440 : 0 ≤ z402 ∧ z402 ≤ 0 := (vc_X12_letWay_15 h438 h405 h406)
          refine sv_aload_n (pc := 65) dX12_letWay_65 rfl rfl ?_
          refine gf_X12_7 (pc := 66) dX12_letWay_66 wF_X12_40 (A_106 hw) hT ?_
          refine mr_iconst (pc := 69) (z := 2) dX12_letWay_69 ?_
          refine mr_iload_n (pc := 70) (z := z399) dX12_letWay_70 rfl rfl ?_
          refine mr_imul (pc := 71) (x := 2) (y := z399) dX12_letWay_71 ?_
          refine la_110 (pc := 72) dX12_letWay_72 (A_110 hw) hT (rIx (n := 40) (rMulL (n := 2) (e := 0) (f := 38) h401 rfl) rfl) fun z441 q442 h443 => ?_
          refine sv_aload_n (pc := 73) dX12_letWay_73 rfl rfl ?_
          refine gf_X12_16 (pc := 74) dX12_letWay_74 wF_X12_82 (A_106 hw) hT ?_
          refine mr_iload_n (pc := 77) (z := z373) dX12_letWay_77 rfl rfl ?_
          refine lk_118 (pc := 78) dX12_letWay_78 (A_118 hw) (rIx (n := 20) h387 rfl) q390 ?_
          refine mr_icmp_ne (pc := 79) (tgt := 86) dX12_letWay_79 (by decide) (r32 h443 rfl) (r32 h391 rfl) (fun h444 => ?_) (fun h444 => ?_)
          · refine mr_iconst (pc := 86) (z := 0) dX12_letWay_86 ?_
            refine mr_lvS (lv' := [(0, .ref 106), (1, iv z374), (2, iv z373), (3, iv z399)]) (List.forall_mem_cons.mpr ⟨rfl, List.forall_mem_cons.mpr ⟨rfl, List.forall_mem_cons.mpr ⟨rfl, List.forall_mem_cons.mpr ⟨rfl, fun _ h => absurd h List.not_mem_nil⟩⟩⟩⟩) ?_
            exact J414 0 (rW (c := 0) (d := 1) (rR (x := 0)) rfl)
          refine mr_iconst (pc := 82) (z := 1) dX12_letWay_82 ?_
          refine sv_goto (pc := 83) (tgt := 87) dX12_letWay_83 (by decide) ?_
          refine mr_lvS (lv' := [(0, .ref 106), (1, iv z374), (2, iv z373), (3, iv z399)]) (List.forall_mem_cons.mpr ⟨rfl, List.forall_mem_cons.mpr ⟨rfl, List.forall_mem_cons.mpr ⟨rfl, List.forall_mem_cons.mpr ⟨rfl, fun _ h => absurd h List.not_mem_nil⟩⟩⟩⟩) ?_
          exact J414 1 (rW (c := 0) (d := 1) (rR (x := 1)) rfl)
        have h445 : 2 ≤ z402 ∧ z402 ≤ 2 := (vc_X12_letWay_16 h405 h404)
        refine sv_goto (pc := 53) (tgt := 119) dX12_letWay_53 (by decide) ?_
        refine mr_iinc (pc := 119) (lv' := [(2, iv (z373 + 1)), (3, iv z399), (0, .ref 106), (1, iv z374)]) dX12_letWay_119 rfl (by decide) rfl ?_
        refine sv_goto (pc := 122) (tgt := 4) dX12_letWay_122 (by decide) ?_
        refine mr_lvS (lv' := [(0, .ref 106), (1, iv z374), (2, iv (z373 + 1))]) (List.forall_mem_cons.mpr ⟨rfl, List.forall_mem_cons.mpr ⟨rfl, List.forall_mem_cons.mpr ⟨rfl, fun _ h => absurd h List.not_mem_nil⟩⟩⟩) ?_
        exact ih382 z374 (z373 + 1) trivial h376 (rW (c := 0) (d := 19) (rAdd (e := 1) (f := 19) h387 (rR (x := 1)) rfl) rfl) (vc_X12_letWay_8 (nS h381) h386 h387 h388)
      have h446 : (-99999999) ≤ z399 ∧ z399 ≤ (-99999999) := (vc_X12_provides_1 h400 h398.2.1 h398.1)
      refine mr_iload_n (pc := 39) (z := z373) dX12_letWay_39 rfl rfl ?_
      refine mr_iconst (pc := 40) (z := 1) dX12_letWay_40 ?_
      refine mr_iadd (pc := 41) (x := z373) (y := 1) dX12_letWay_41 ?_
      exact mr_iretP dX12_letWay_42 rfl (le_t rfl) (le_t rfl) ⟨(rW (c := (-2147483648)) (d := 2147483647) (rAdd (e := 1) (f := 19) h387 (rR (x := 1)) rfl) rfl), trivial⟩
  refine mr_lvS (lv' := [(0, .ref 106), (1, iv 0), (2, iv 0)]) (List.forall_mem_cons.mpr ⟨rfl, List.forall_mem_cons.mpr ⟨rfl, List.forall_mem_cons.mpr ⟨rfl, fun _ h => absurd h List.not_mem_nil⟩⟩⟩) ?_
  exact L375 21 0 0 trivial (rW (c := 0) (d := 1) (rR (x := 0)) rfl) (rW (c := 0) (d := 19) (rR (x := 0)) rfl) vc_X12_letWay_18
theorem vc_X12_judgedAnew_1 {z745 : Int} (h0 : (31 - z745) < ((0 : Nat) : Int)) (h1 : 0 ≤ z745 ∧ z745 ≤ 30) : False := by omega
theorem vc_X12_judgedAnew_2 {z745 z755 : Int} (h0 : z745 < z755) (h1 : 0 ≤ z745 ∧ z745 ≤ 30) (h2 : 0 ≤ z755 ∧ z755 ≤ 30) : 0 ≤ z745 ∧ z745 ≤ 29 := by omega
theorem vc_X12_judgedAnew_3 {z745 z755 : Int} (h0 : z745 < z755) (h1 : 0 ≤ z745 ∧ z745 ≤ 29) (h2 : 0 ≤ z755 ∧ z755 ≤ 30) : 1 ≤ z755 ∧ z755 ≤ 30 := by omega
theorem vc_X12_judgedAnew_5 {N z745 z755 : Int} (h0 : (31 - z745) < N + 1) (h1 : z745 < z755) (h2 : 0 ≤ z745 ∧ z745 ≤ 29) (h3 : 1 ≤ z755 ∧ z755 ≤ 30) : (31 - (z745 + 1)) < N := by omega
theorem vc_X12_judgedAnew_7 {z889 z892 : Int} (h0 : z892 < z889) (h1 : 0 ≤ z889 ∧ z889 ≤ 32) (h2 : 0 ≤ z892 ∧ z892 ≤ 32) : 1 ≤ z889 ∧ z889 ≤ 32 := by omega
theorem vc_X12_judgedAnew_8 {z889 z892 : Int} (h0 : z892 < z889) (h1 : 1 ≤ z889 ∧ z889 ≤ 32) (h2 : 0 ≤ z892 ∧ z892 ≤ 32) : 0 ≤ z892 ∧ z892 ≤ 31 := by omega
theorem vc_X12_judgedAnew_10 {z889 z892 z966 : Int} (h0 : z966 < z892) (h1 : z889 ≤ z892) (h2 : 0 ≤ z889 ∧ z889 ≤ 32) (h3 : 0 ≤ z892 ∧ z892 ≤ 32) (h4 : (-2147483648) ≤ z966 ∧ z966 ≤ 2147483647) : (-2147483648) ≤ z966 ∧ z966 ≤ 31 := by omega
theorem vc_X12_judgedAnew_11 {z889 z892 z966 : Int} (h0 : z892 ≤ z966) (h1 : z889 ≤ z892) (h2 : 0 ≤ z889 ∧ z889 ≤ 32) (h3 : 0 ≤ z892 ∧ z892 ≤ 32) (h4 : (-2147483648) ≤ z966 ∧ z966 ≤ 2147483647) : 0 ≤ z966 ∧ z966 ≤ 2147483647 := by omega
theorem vc_X12_judgedAnew_15 {p3 z827 : Int} (h0 : p3 < z827) (h1 : (-2147483648) ≤ p3 ∧ p3 ≤ 2147483647) (h2 : (-2147483648) ≤ z827 ∧ z827 ≤ 2147483647) : (-2147483647) ≤ z827 ∧ z827 ≤ 2147483647 := by omega
theorem vc_X12_judgedAnew_16 {p3 z827 : Int} (h0 : p3 < z827) (h1 : (-2147483648) ≤ p3 ∧ p3 ≤ 2147483647) (h2 : (-2147483647) ≤ z827 ∧ z827 ≤ 2147483647) : (-2147483648) ≤ p3 ∧ p3 ≤ 2147483646 := by omega
theorem vc_X12_judgedAnew_17 {p3 z827 z981 : Int} (h0 : p3 < z981) (h1 : z827 ≤ p3) (h2 : (-2147483648) ≤ p3 ∧ p3 ≤ 2147483647) (h3 : (-2147483648) ≤ z827 ∧ z827 ≤ 2147483647) (h4 : (-2147483648) ≤ z981 ∧ z981 ≤ 2147483647) : (-2147483648) ≤ p3 ∧ p3 ≤ 2147483646 := by omega
theorem vc_X12_judgedAnew_18 {p3 z827 z981 : Int} (h0 : p3 < z981) (h1 : z827 ≤ p3) (h2 : (-2147483648) ≤ p3 ∧ p3 ≤ 2147483646) (h3 : (-2147483648) ≤ z827 ∧ z827 ≤ 2147483647) (h4 : (-2147483648) ≤ z981 ∧ z981 ≤ 2147483647) : (-2147483647) ≤ z981 ∧ z981 ≤ 2147483647 := by omega
theorem vc_X12_judgedAnew_21 {z993 : Int} (h0 : z993 = (-99999999)) (h1 : (-2147483648) ≤ z993 ∧ z993 ≤ 2147483647) : (-99999999) ≤ z993 ∧ z993 ≤ (-99999999) := by omega
theorem vc_X12_judgedAnew_22 {p4 z987 z993 : Int} (h0 : p4 < z993) (h1 : z987 ≤ p4) (h2 : ¬ z993 = (-99999999)) (h3 : (-2147483648) ≤ p4 ∧ p4 ≤ 2147483647) (h4 : (-2147483648) ≤ z987 ∧ z987 ≤ 2147483647) (h5 : (-2147483648) ≤ z993 ∧ z993 ≤ 2147483647) : (-2147483648) ≤ p4 ∧ p4 ≤ 2147483646 := by omega
theorem vc_X12_judgedAnew_23 {p4 z987 z993 : Int} (h0 : p4 < z993) (h1 : z987 ≤ p4) (h2 : ¬ z993 = (-99999999)) (h3 : (-2147483648) ≤ p4 ∧ p4 ≤ 2147483646) (h4 : (-2147483648) ≤ z987 ∧ z987 ≤ 2147483647) (h5 : (-2147483648) ≤ z993 ∧ z993 ≤ 2147483647) : (-2147483647) ≤ z993 ∧ z993 ≤ 2147483647 := by omega
theorem vc_X12_judgedAnew_24  : (31 - 0) < ((32 : Nat) : Int) := by omega
end
section
theorem vc_X12_judged_3 {p1 z168 : Int} (h0 : z168 = p1) (h1 : 0 ≤ p1 ∧ p1 ≤ 9) (h2 : (-2147483648) ≤ z168 ∧ z168 ≤ 2147483647) : 0 ≤ z168 ∧ z168 ≤ 9 := by omega
theorem vc_X12_copy_1 {p1 : Int} (h0 : 0 ≤ p1 ∧ p1 ≤ 2099) : 0 ≤ (40 * p1) := by omega
theorem vc_X12_copy_2 {p1 : Int} (h0 : 0 ≤ p1 ∧ p1 ≤ 2099) : (40 * p1) % 40 = 0 := by omega
theorem vc_X12_copy_3 (h0 : (40 : Int) ≤ (0 : Int)) : False := by omega
theorem vc_X12_copy_4 {p1 : Int} (h0 : 0 ≤ p1 ∧ p1 ≤ 2099) : ((40 * p1) + 0) = (40 * p1) := by omega
theorem vc_X12_copy_5 {f_x p1 p2 : Int} (h0 : p1 < p2 ∨ p2 < p1) (h1 : (-1) ≤ f_x ∧ f_x ≤ 9) (h2 : 0 ≤ p1 ∧ p1 ≤ 2099) (h3 : 0 ≤ p2 ∧ p2 ≤ 2099) : (-2147483648 ≤ f_x ∧ f_x ≤ 2147483647) ∧ (((40 * p2) + 0) % 40 = 0 → -1 ≤ f_x ∧ f_x ≤ 9) ∧ (((40 * p2) + 0) % 40 = 4 → 0 ≤ f_x ∧ f_x ≤ 20) ∧ (((40 * p2) + 0) % 40 = 5 → 0 ≤ f_x ∧ f_x ≤ 8) := by omega
theorem vc_X12_copy_6 {z294 : Int} (h0 : (41 - z294) < ((0 : Nat) : Int)) (h1 : 1 ≤ z294 ∧ z294 ≤ 40) : False := by omega
theorem vc_X12_copy_7 {p1 p2 : Int} (h0 : p1 < p2 ∨ p2 < p1) (h1 : 0 ≤ p1 ∧ p1 ≤ 2099) (h2 : 0 ≤ p2 ∧ p2 ≤ 2099) : 0 ≤ (40 * p2) := by omega
theorem vc_X12_copy_8 {p1 p2 : Int} (h0 : p1 < p2 ∨ p2 < p1) (h1 : 0 ≤ p1 ∧ p1 ≤ 2099) (h2 : 0 ≤ p2 ∧ p2 ≤ 2099) : (40 * p2) % 40 = 0 := by omega
theorem vc_X12_copy_9 {z294 : Int} (h0 : 40 ≤ z294) (h1 : 1 ≤ z294 ∧ z294 ≤ 40) : 40 ≤ z294 ∧ z294 ≤ 40 := by omega
theorem vc_X12_copy_10 {p1 p2 : Int} (h0 : p1 < p2 ∨ p2 < p1) (h1 : 0 ≤ p1 ∧ p1 ≤ 2099) (h2 : 0 ≤ p2 ∧ p2 ≤ 2099) : 0 ≤ ((40 * p2) + 0) ∧ (40 * p2) ≤ ((40 * p2) + 0) ∧ ((40 * p2) + 0) < ((40 * p2) + 40) := by omega
theorem vc_X12_copy_11 {p1 p2 : Int} (h0 : p1 < p2 ∨ p2 < p1) (h1 : 0 ≤ p1 ∧ p1 ≤ 2099) (h2 : 0 ≤ p2 ∧ p2 ≤ 2099) : (40 * p2) ≤ (40 * p2) ∧ ((40 * p2) + 40) ≤ ((40 * p2) + 40) := by omega
theorem vc_X12_copy_12 {f_x f_y : Int} (h0 : f_y = f_x) (h1 : (-1) ≤ f_x ∧ f_x ≤ 9) (h2 : (-1) ≤ f_y ∧ f_y ≤ 9) : f_y = f_x := by omega
theorem vc_X12_copy_13 {z294 : Int} (h0 : z294 < 40) (h1 : 1 ≤ z294 ∧ z294 ≤ 40) : 1 ≤ z294 ∧ z294 ≤ 39 := by omega
theorem vc_X12_copy_14 {p1 p2 z294 z318 : Int} (h0 : p1 < p2 ∨ p2 < p1) (h1 : z294 < 40) (h2 : (((40 * p1) + z294) % 40 = 0 → -1 ≤ z318 ∧ z318 ≤ 9)) (h3 : (((40 * p1) + z294) % 40 = 4 → 0 ≤ z318 ∧ z318 ≤ 20)) (h4 : (((40 * p1) + z294) % 40 = 5 → 0 ≤ z318 ∧ z318 ≤ 8)) (h5 : 0 ≤ p1 ∧ p1 ≤ 2099) (h6 : 0 ≤ p2 ∧ p2 ≤ 2099) (h7 : 1 ≤ z294 ∧ z294 ≤ 39) (h8 : (-2147483648) ≤ z318 ∧ z318 ≤ 2147483647) : (-2147483648 ≤ z318 ∧ z318 ≤ 2147483647) ∧ (((40 * p2) + z294) % 40 = 0 → -1 ≤ z318 ∧ z318 ≤ 9) ∧ (((40 * p2) + z294) % 40 = 4 → 0 ≤ z318 ∧ z318 ≤ 20) ∧ (((40 * p2) + z294) % 40 = 5 → 0 ≤ z318 ∧ z318 ≤ 8) := by omega
theorem vc_X12_copy_15 {p1 p2 z294 z318 : Int} (h0 : p1 < p2 ∨ p2 < p1) (h1 : z294 < 40) (h2 : (((40 * p1) + z294) % 40 = 0 → -1 ≤ z318 ∧ z318 ≤ 9)) (h3 : (((40 * p1) + z294) % 40 = 4 → 0 ≤ z318 ∧ z318 ≤ 20)) (h4 : (((40 * p1) + z294) % 40 = 5 → 0 ≤ z318 ∧ z318 ≤ 8)) (h5 : 0 ≤ p1 ∧ p1 ≤ 2099) (h6 : 0 ≤ p2 ∧ p2 ≤ 2099) (h7 : 1 ≤ z294 ∧ z294 ≤ 39) (h8 : (-2147483648) ≤ z318 ∧ z318 ≤ 2147483647) : (40 * p2).toNat ≠ ((40 * p2) + z294).toNat := by omega
theorem vc_X12_copy_16 {N p1 p2 z294 z318 : Int} (h0 : (41 - z294) < N + 1) (h1 : z294 < 40) (h2 : (((40 * p1) + z294) % 40 = 0 → -1 ≤ z318 ∧ z318 ≤ 9)) (h3 : (((40 * p1) + z294) % 40 = 4 → 0 ≤ z318 ∧ z318 ≤ 20)) (h4 : (((40 * p1) + z294) % 40 = 5 → 0 ≤ z318 ∧ z318 ≤ 8)) (h5 : p1 < p2 ∨ p2 < p1) (h6 : 0 ≤ p1 ∧ p1 ≤ 2099) (h7 : 0 ≤ p2 ∧ p2 ≤ 2099) (h8 : 1 ≤ z294 ∧ z294 ≤ 39) (h9 : (-2147483648) ≤ z318 ∧ z318 ≤ 2147483647) : (41 - (z294 + 1)) < N := by omega
theorem vc_X12_copy_17 {p1 p2 z294 z318 : Int} (h0 : p1 < p2 ∨ p2 < p1) (h1 : (((40 * p1) + z294) % 40 = 0 → -1 ≤ z318 ∧ z318 ≤ 9)) (h2 : (((40 * p1) + z294) % 40 = 4 → 0 ≤ z318 ∧ z318 ≤ 20)) (h3 : (((40 * p1) + z294) % 40 = 5 → 0 ≤ z318 ∧ z318 ≤ 8)) (h4 : 0 ≤ p1 ∧ p1 ≤ 2099) (h5 : 0 ≤ p2 ∧ p2 ≤ 2099) (h6 : 1 ≤ z294 ∧ z294 ≤ 39) (h7 : (-2147483648) ≤ z318 ∧ z318 ≤ 2147483647) : (40 * p2) ≤ (40 * p2) ∧ ((40 * p2) + 40) ≤ ((40 * p2) + 40) := by omega
theorem vc_X12_copy_18 {p1 p2 z294 z318 : Int} (h0 : p1 < p2 ∨ p2 < p1) (h1 : z294 < 40) (h2 : (((40 * p1) + z294) % 40 = 0 → -1 ≤ z318 ∧ z318 ≤ 9)) (h3 : (((40 * p1) + z294) % 40 = 4 → 0 ≤ z318 ∧ z318 ≤ 20)) (h4 : (((40 * p1) + z294) % 40 = 5 → 0 ≤ z318 ∧ z318 ≤ 8)) (h5 : 0 ≤ p1 ∧ p1 ≤ 2099) (h6 : 0 ≤ p2 ∧ p2 ≤ 2099) (h7 : 1 ≤ z294 ∧ z294 ≤ 39) (h8 : (-2147483648) ≤ z318 ∧ z318 ≤ 2147483647) : 0 ≤ ((40 * p2) + z294) ∧ (40 * p2) ≤ ((40 * p2) + z294) ∧ ((40 * p2) + z294) < ((40 * p2) + 40) := by omega
theorem vc_X12_copy_19 {p2 : Int} (h0 : 0 ≤ p2 ∧ p2 ≤ 2099) : (40 * p2) = ((40 * p2) + 0) := by omega
theorem vc_X12_copy_20 {f_x : Int} (h0 : (-1) ≤ f_x ∧ f_x ≤ 9) : f_x = f_x := by omega
theorem vc_X12_copy_21  : (41 - 1) < ((41 : Nat) : Int) := by omega
theorem vc_X12_nothing_1 {p1 : Int} (h0 : 0 ≤ p1 ∧ p1 ≤ 2099) : (-2147483648 ≤ ((-1) : Int) ∧ ((-1) : Int) ≤ 2147483647) ∧ ((40 * p1) % 40 = 0 → -1 ≤ ((-1) : Int) ∧ ((-1) : Int) ≤ 9) ∧ ((40 * p1) % 40 = 4 → 0 ≤ ((-1) : Int) ∧ ((-1) : Int) ≤ 20) ∧ ((40 * p1) % 40 = 5 → 0 ≤ ((-1) : Int) ∧ ((-1) : Int) ≤ 8) := by omega
theorem vc_X12_nothing_2 {p1 : Int} (h0 : 0 ≤ p1 ∧ p1 ≤ 2099) : 0 ≤ (40 * p1) ∧ (40 * p1) ≤ (40 * p1) ∧ (40 * p1) < ((40 * p1) + 1) := by omega
theorem vc_X12_nothing_3  : (-(1 : Int) : Int) = -(1 : Int) := by omega
theorem vc_X12_isThere_3 {f_x : Int} (h0 : f_x < 0) (h1 : (-1) ≤ f_x ∧ f_x ≤ 9) : (-1) ≤ f_x ∧ f_x ≤ (-1) := by omega
theorem vc_X12_isThere_4 {f_x : Int} (h0 : f_x < 0) (h1 : (-1) ≤ f_x ∧ f_x ≤ (-1)) : (0 : Int) = 1 → 0 ≤ f_x := by omega
theorem vc_X12_isThere_5 {f_x : Int} (h0 : f_x < 0) (h1 : (-1) ≤ f_x ∧ f_x ≤ (-1)) : (0 : Int) = 0 → f_x < 0 := by omega
theorem vc_X12_isThere_6 {f_x : Int} (h0 : 0 ≤ f_x) (h1 : (-1) ≤ f_x ∧ f_x ≤ 9) : 0 ≤ f_x ∧ f_x ≤ 9 := by omega
theorem vc_X12_isThere_7 {f_x : Int} (h0 : 0 ≤ f_x) (h1 : 0 ≤ f_x ∧ f_x ≤ 9) : (1 : Int) = 1 → 0 ≤ f_x := by omega
theorem vc_X12_isThere_8 {f_x : Int} (h0 : 0 ≤ f_x) (h1 : 0 ≤ f_x ∧ f_x ≤ 9) : (1 : Int) = 0 → f_x < 0 := by omega
theorem vc_X12_marked_1 {z103 : Int} (h0 : (9 - z103) < ((0 : Nat) : Int)) (h1 : 0 ≤ z103 ∧ z103 ≤ 8) : False := by omega
theorem vc_X12_marked_2 {p1 : Int} (h0 : 0 ≤ p1 ∧ p1 ≤ 2099) : ((40 * p1) + 5) % 40 = 5 := by omega
theorem vc_X12_marked_3 {z103 z113 : Int} (h0 : z103 < z113) (h1 : 0 ≤ z103 ∧ z103 ≤ 8) (h2 : 0 ≤ z113 ∧ z113 ≤ 8) : 0 ≤ z103 ∧ z103 ≤ 7 := by omega
theorem vc_X12_marked_4 {z103 z113 : Int} (h0 : z103 < z113) (h1 : 0 ≤ z103 ∧ z103 ≤ 7) (h2 : 0 ≤ z113 ∧ z113 ≤ 8) : 1 ≤ z113 ∧ z113 ≤ 8 := by omega
theorem vc_X12_marked_6 {N z103 z113 : Int} (h0 : (9 - z103) < N + 1) (h1 : z103 < z113) (h2 : 0 ≤ z103 ∧ z103 ≤ 7) (h3 : 1 ≤ z113 ∧ z113 ≤ 8) : (9 - (z103 + 1)) < N := by omega
theorem vc_X12_marked_8 {N p1 p2 z103 z113 z135 : Int} (h0 : (9 - z103) < N + 1) (h1 : z103 < z113) (h2 : ((((40 * p1) + 26) + z103) % 40 = 0 → -1 ≤ z135 ∧ z135 ≤ 9)) (h3 : ((((40 * p1) + 26) + z103) % 40 = 4 → 0 ≤ z135 ∧ z135 ≤ 20)) (h4 : ((((40 * p1) + 26) + z103) % 40 = 5 → 0 ≤ z135 ∧ z135 ≤ 8)) (h5 : ¬ z135 = p2) (h6 : 0 ≤ p1 ∧ p1 ≤ 2099) (h7 : (-2147483648) ≤ p2 ∧ p2 ≤ 2147483647) (h8 : 0 ≤ z103 ∧ z103 ≤ 7) (h9 : 1 ≤ z113 ∧ z113 ≤ 8) (h10 : (-2147483648) ≤ z135 ∧ z135 ≤ 2147483647) : (9 - (z103 + 1)) < N := by omega
theorem vc_X12_marked_9 {N p1 p2 z103 z113 z135 : Int} (h0 : (9 - z103) < N + 1) (h1 : z103 < z113) (h2 : ((((40 * p1) + 26) + z103) % 40 = 0 → -1 ≤ z135 ∧ z135 ≤ 9)) (h3 : ((((40 * p1) + 26) + z103) % 40 = 4 → 0 ≤ z135 ∧ z135 ≤ 20)) (h4 : ((((40 * p1) + 26) + z103) % 40 = 5 → 0 ≤ z135 ∧ z135 ≤ 8)) (h5 : z135 = p2) (h6 : 0 ≤ p1 ∧ p1 ≤ 2099) (h7 : (-2147483648) ≤ p2 ∧ p2 ≤ 2147483647) (h8 : 0 ≤ z103 ∧ z103 ≤ 7) (h9 : 1 ≤ z113 ∧ z113 ≤ 8) (h10 : (-2147483648) ≤ z135 ∧ z135 ≤ 2147483647) : (9 - (z103 + 1)) < N := by omega
theorem vc_X12_marked_10  : (9 - 0) < ((10 : Nat) : Int) := by omega
theorem vc_X12_addMark_2 {z1 : Int} (h0 : z1 = 8) (h1 : 0 ≤ z1 ∧ z1 ≤ 8) : 8 ≤ z1 ∧ z1 ≤ 8 := by omega
theorem vc_X12_addMark_3 {z1 : Int} (h0 : ¬ z1 = 8) (h1 : 0 ≤ z1 ∧ z1 ≤ 8) : 0 ≤ z1 ∧ z1 ≤ 7 := by omega
theorem vc_X12_addMark_5 {p1 z61 : Int} (h0 : (z61 - 25) < ((0 : Nat) : Int)) (h1 : 40 * p1 + 26 ≤ z61) (h2 : z61 ≤ 40 * p1 + 33) (h3 : 0 ≤ p1 ∧ p1 ≤ 2099) (h4 : 26 ≤ z61 ∧ z61 ≤ 83993) : False := by omega
theorem vc_X12_addMark_6 {p1 z61 : Int} (h0 : 40 * p1 + 26 ≤ z61) (h1 : z61 ≤ 40 * p1 + 33) (h2 : 0 ≤ p1 ∧ p1 ≤ 2099) (h3 : 26 ≤ z61 ∧ z61 ≤ 83993) : 0 ≤ ((40 * p1) + 5) := by omega
theorem vc_X12_addMark_7 {p1 z61 : Int} (h0 : 40 * p1 + 26 ≤ z61) (h1 : z61 ≤ 40 * p1 + 33) (h2 : 0 ≤ p1 ∧ p1 ≤ 2099) (h3 : 26 ≤ z61 ∧ z61 ≤ 83993) : ((40 * p1) + 5) % 40 = 5 := by omega
theorem vc_X12_addMark_8 {p1 p2 z61 : Int} (h0 : 40 * p1 + 26 ≤ z61) (h1 : z61 ≤ 40 * p1 + 33) (h2 : 0 ≤ p1 ∧ p1 ≤ 2099) (h3 : (-2147483648) ≤ p2 ∧ p2 ≤ 2147483647) (h4 : 26 ≤ z61 ∧ z61 ≤ 83993) : (-2147483648 ≤ p2 ∧ p2 ≤ 2147483647) ∧ (z61 % 40 = 0 → -1 ≤ p2 ∧ p2 ≤ 9) ∧ (z61 % 40 = 4 → 0 ≤ p2 ∧ p2 ≤ 20) ∧ (z61 % 40 = 5 → 0 ≤ p2 ∧ p2 ≤ 8) := by omega
theorem vc_X12_addMark_9 {p1 z61 : Int} (h0 : 40 * p1 + 26 ≤ z61) (h1 : z61 ≤ 40 * p1 + 33) (h2 : 0 ≤ p1 ∧ p1 ≤ 2099) (h3 : 26 ≤ z61 ∧ z61 ≤ 83993) : ((40 * p1) + 5).toNat ≠ z61.toNat := by omega
theorem vc_X12_addMark_10 {f_n p1 z61 : Int} (h0 : 40 * p1 + 26 ≤ z61) (h1 : z61 ≤ 40 * p1 + 33) (h2 : f_n ≤ 7) (h3 : 0 ≤ f_n ∧ f_n ≤ 8) (h4 : 0 ≤ p1 ∧ p1 ≤ 2099) (h5 : 26 ≤ z61 ∧ z61 ≤ 83993) : (-2147483648 ≤ (f_n + 1) ∧ (f_n + 1) ≤ 2147483647) ∧ (((40 * p1) + 5) % 40 = 0 → -1 ≤ (f_n + 1) ∧ (f_n + 1) ≤ 9) ∧ (((40 * p1) + 5) % 40 = 4 → 0 ≤ (f_n + 1) ∧ (f_n + 1) ≤ 20) ∧ (((40 * p1) + 5) % 40 = 5 → 0 ≤ (f_n + 1) ∧ (f_n + 1) ≤ 8) := by omega
theorem vc_X12_addMark_11 {p1 z61 : Int} (h0 : 40 * p1 + 26 ≤ z61) (h1 : z61 ≤ 40 * p1 + 33) (h2 : 0 ≤ p1 ∧ p1 ≤ 2099) (h3 : 26 ≤ z61 ∧ z61 ≤ 83993) : ((40 * p1) + 1) ≤ ((40 * p1) + 1) ∧ ((40 * p1) + 40) ≤ ((40 * p1) + 40) := by omega
theorem vc_X12_addMark_12 {p1 z61 : Int} (h0 : 40 * p1 + 26 ≤ z61) (h1 : z61 ≤ 40 * p1 + 33) (h2 : 0 ≤ p1 ∧ p1 ≤ 2099) (h3 : 26 ≤ z61 ∧ z61 ≤ 83993) : 0 ≤ z61 ∧ ((40 * p1) + 1) ≤ z61 ∧ z61 < ((40 * p1) + 40) := by omega
theorem vc_X12_addMark_13 {p1 z61 : Int} (h0 : 40 * p1 + 26 ≤ z61) (h1 : z61 ≤ 40 * p1 + 33) (h2 : 0 ≤ p1 ∧ p1 ≤ 2099) (h3 : 26 ≤ z61 ∧ z61 ≤ 83993) : 0 ≤ ((40 * p1) + 5) ∧ ((40 * p1) + 1) ≤ ((40 * p1) + 5) ∧ ((40 * p1) + 5) < ((40 * p1) + 40) := by omega
theorem vc_X12_addMark_14 {p1 z61 : Int} (h0 : z61 ≤ ((40 * p1) + 26)) (h1 : 40 * p1 + 26 ≤ z61) (h2 : z61 ≤ 40 * p1 + 33) (h3 : 0 ≤ p1 ∧ p1 ≤ 2099) (h4 : 26 ≤ z61 ∧ z61 ≤ 83993) : 26 ≤ z61 ∧ z61 ≤ 83986 := by omega
theorem vc_X12_addMark_15 {p1 z61 : Int} (h0 : ((40 * p1) + 26) < z61) (h1 : 40 * p1 + 26 ≤ z61) (h2 : z61 ≤ 40 * p1 + 33) (h3 : 0 ≤ p1 ∧ p1 ≤ 2099) (h4 : 26 ≤ z61 ∧ z61 ≤ 83993) : 27 ≤ z61 ∧ z61 ≤ 83993 := by omega
theorem vc_X12_addMark_16 {p2 z61 z96 : Int} (h0 : p2 < z96) (h1 : ((z61 - 1) % 40 = 0 → -1 ≤ z96 ∧ z96 ≤ 9)) (h2 : ((z61 - 1) % 40 = 4 → 0 ≤ z96 ∧ z96 ≤ 20)) (h3 : ((z61 - 1) % 40 = 5 → 0 ≤ z96 ∧ z96 ≤ 8)) (h4 : (-2147483648) ≤ p2 ∧ p2 ≤ 2147483647) (h5 : 27 ≤ z61 ∧ z61 ≤ 83993) (h6 : (-2147483648) ≤ z96 ∧ z96 ≤ 2147483647) : (-2147483647) ≤ z96 ∧ z96 ≤ 2147483647 := by omega
theorem vc_X12_addMark_17 {p2 z61 z96 : Int} (h0 : p2 < z96) (h1 : ((z61 - 1) % 40 = 0 → -1 ≤ z96 ∧ z96 ≤ 9)) (h2 : ((z61 - 1) % 40 = 4 → 0 ≤ z96 ∧ z96 ≤ 20)) (h3 : ((z61 - 1) % 40 = 5 → 0 ≤ z96 ∧ z96 ≤ 8)) (h4 : (-2147483648) ≤ p2 ∧ p2 ≤ 2147483647) (h5 : 27 ≤ z61 ∧ z61 ≤ 83993) (h6 : (-2147483647) ≤ z96 ∧ z96 ≤ 2147483647) : (-2147483648) ≤ p2 ∧ p2 ≤ 2147483646 := by omega
theorem vc_X12_addMark_18 {p1 p2 z61 z96 : Int} (h0 : 40 * p1 + 26 ≤ z61) (h1 : z61 ≤ 40 * p1 + 33) (h2 : ((40 * p1) + 26) < z61) (h3 : ((z61 - 1) % 40 = 0 → -1 ≤ z96 ∧ z96 ≤ 9)) (h4 : ((z61 - 1) % 40 = 4 → 0 ≤ z96 ∧ z96 ≤ 20)) (h5 : ((z61 - 1) % 40 = 5 → 0 ≤ z96 ∧ z96 ≤ 8)) (h6 : p2 < z96) (h7 : 0 ≤ p1 ∧ p1 ≤ 2099) (h8 : (-2147483648) ≤ p2 ∧ p2 ≤ 2147483646) (h9 : 27 ≤ z61 ∧ z61 ≤ 83993) (h10 : (-2147483647) ≤ z96 ∧ z96 ≤ 2147483647) : (-2147483648 ≤ z96 ∧ z96 ≤ 2147483647) ∧ (z61 % 40 = 0 → -1 ≤ z96 ∧ z96 ≤ 9) ∧ (z61 % 40 = 4 → 0 ≤ z96 ∧ z96 ≤ 20) ∧ (z61 % 40 = 5 → 0 ≤ z96 ∧ z96 ≤ 8) := by omega
theorem vc_X12_addMark_19 {p1 p2 z61 z96 : Int} (h0 : 40 * p1 + 26 ≤ z61) (h1 : z61 ≤ 40 * p1 + 33) (h2 : ((40 * p1) + 26) < z61) (h3 : ((z61 - 1) % 40 = 0 → -1 ≤ z96 ∧ z96 ≤ 9)) (h4 : ((z61 - 1) % 40 = 4 → 0 ≤ z96 ∧ z96 ≤ 20)) (h5 : ((z61 - 1) % 40 = 5 → 0 ≤ z96 ∧ z96 ≤ 8)) (h6 : p2 < z96) (h7 : 0 ≤ p1 ∧ p1 ≤ 2099) (h8 : (-2147483648) ≤ p2 ∧ p2 ≤ 2147483646) (h9 : 27 ≤ z61 ∧ z61 ≤ 83993) (h10 : (-2147483647) ≤ z96 ∧ z96 ≤ 2147483647) : ((40 * p1) + 5).toNat ≠ z61.toNat := by omega
theorem vc_X12_addMark_20 {p1 p2 z61 z96 : Int} (h0 : 40 * p1 + 26 ≤ z61) (h1 : z61 ≤ 40 * p1 + 33) (h2 : ((40 * p1) + 26) < z61) (h3 : ((z61 - 1) % 40 = 0 → -1 ≤ z96 ∧ z96 ≤ 9)) (h4 : ((z61 - 1) % 40 = 4 → 0 ≤ z96 ∧ z96 ≤ 20)) (h5 : ((z61 - 1) % 40 = 5 → 0 ≤ z96 ∧ z96 ≤ 8)) (h6 : p2 < z96) (h7 : 0 ≤ p1 ∧ p1 ≤ 2099) (h8 : (-2147483648) ≤ p2 ∧ p2 ≤ 2147483646) (h9 : 27 ≤ z61 ∧ z61 ≤ 83993) (h10 : (-2147483647) ≤ z96 ∧ z96 ≤ 2147483647) : 40 * p1 + 26 ≤ (z61 + (-1)) := by omega
theorem vc_X12_addMark_21 {p1 p2 z61 z96 : Int} (h0 : 40 * p1 + 26 ≤ z61) (h1 : z61 ≤ 40 * p1 + 33) (h2 : ((40 * p1) + 26) < z61) (h3 : ((z61 - 1) % 40 = 0 → -1 ≤ z96 ∧ z96 ≤ 9)) (h4 : ((z61 - 1) % 40 = 4 → 0 ≤ z96 ∧ z96 ≤ 20)) (h5 : ((z61 - 1) % 40 = 5 → 0 ≤ z96 ∧ z96 ≤ 8)) (h6 : p2 < z96) (h7 : 0 ≤ p1 ∧ p1 ≤ 2099) (h8 : (-2147483648) ≤ p2 ∧ p2 ≤ 2147483646) (h9 : 27 ≤ z61 ∧ z61 ≤ 83993) (h10 : (-2147483647) ≤ z96 ∧ z96 ≤ 2147483647) : (z61 + (-1)) ≤ 40 * p1 + 33 := by omega
theorem vc_X12_addMark_22 {f_n : Int} (h0 : f_n ≤ 7) (h1 : 0 ≤ f_n ∧ f_n ≤ 8) : f_n ≤ 7 := by omega
theorem vc_X12_addMark_23 {N p1 p2 z61 z96 : Int} (h0 : (z61 - 25) < N + 1) (h1 : 40 * p1 + 26 ≤ z61) (h2 : z61 ≤ 40 * p1 + 33) (h3 : ((40 * p1) + 26) < z61) (h4 : ((z61 - 1) % 40 = 0 → -1 ≤ z96 ∧ z96 ≤ 9)) (h5 : ((z61 - 1) % 40 = 4 → 0 ≤ z96 ∧ z96 ≤ 20)) (h6 : ((z61 - 1) % 40 = 5 → 0 ≤ z96 ∧ z96 ≤ 8)) (h7 : p2 < z96) (h8 : 0 ≤ p1 ∧ p1 ≤ 2099) (h9 : (-2147483648) ≤ p2 ∧ p2 ≤ 2147483646) (h10 : 27 ≤ z61 ∧ z61 ≤ 83993) (h11 : (-2147483647) ≤ z96 ∧ z96 ≤ 2147483647) : ((z61 + (-1)) - 25) < N := by omega
theorem vc_X12_addMark_24 {p1 z61 z96 : Int} (h0 : 40 * p1 + 26 ≤ z61) (h1 : z61 ≤ 40 * p1 + 33) (h2 : ((40 * p1) + 26) < z61) (h3 : ((z61 - 1) % 40 = 0 → -1 ≤ z96 ∧ z96 ≤ 9)) (h4 : ((z61 - 1) % 40 = 4 → 0 ≤ z96 ∧ z96 ≤ 20)) (h5 : ((z61 - 1) % 40 = 5 → 0 ≤ z96 ∧ z96 ≤ 8)) (h6 : 0 ≤ p1 ∧ p1 ≤ 2099) (h7 : 27 ≤ z61 ∧ z61 ≤ 83993) (h8 : (-2147483647) ≤ z96 ∧ z96 ≤ 2147483647) : ((40 * p1) + 1) ≤ ((40 * p1) + 1) ∧ ((40 * p1) + 40) ≤ ((40 * p1) + 40) := by omega
theorem vc_X12_addMark_25 {p1 p2 z61 z96 : Int} (h0 : 40 * p1 + 26 ≤ z61) (h1 : z61 ≤ 40 * p1 + 33) (h2 : ((40 * p1) + 26) < z61) (h3 : ((z61 - 1) % 40 = 0 → -1 ≤ z96 ∧ z96 ≤ 9)) (h4 : ((z61 - 1) % 40 = 4 → 0 ≤ z96 ∧ z96 ≤ 20)) (h5 : ((z61 - 1) % 40 = 5 → 0 ≤ z96 ∧ z96 ≤ 8)) (h6 : p2 < z96) (h7 : 0 ≤ p1 ∧ p1 ≤ 2099) (h8 : (-2147483648) ≤ p2 ∧ p2 ≤ 2147483646) (h9 : 27 ≤ z61 ∧ z61 ≤ 83993) (h10 : (-2147483647) ≤ z96 ∧ z96 ≤ 2147483647) : 0 ≤ z61 ∧ ((40 * p1) + 1) ≤ z61 ∧ z61 < ((40 * p1) + 40) := by omega
theorem vc_X12_addMark_26 {p1 z1 : Int} (h0 : ¬ z1 = 8) (h1 : 0 ≤ p1 ∧ p1 ≤ 2099) (h2 : 0 ≤ z1 ∧ z1 ≤ 7) : 40 * p1 + 26 ≤ (((40 * p1) + 26) + z1) := by omega
theorem vc_X12_addMark_27 {p1 z1 : Int} (h0 : ¬ z1 = 8) (h1 : 0 ≤ p1 ∧ p1 ≤ 2099) (h2 : 0 ≤ z1 ∧ z1 ≤ 7) : (((40 * p1) + 26) + z1) ≤ 40 * p1 + 33 := by omega
theorem vc_X12_addMark_28 {z1 : Int} (h0 : ¬ z1 = 8) (h1 : 0 ≤ z1 ∧ z1 ≤ 7) : z1 ≤ 7 := by omega
theorem vc_X12_addMark_29 {p1 z1 : Int} (h0 : ¬ z1 = 8) (h1 : 0 ≤ p1 ∧ p1 ≤ 2099) (h2 : 0 ≤ z1 ∧ z1 ≤ 7) : ((((40 * p1) + 26) + z1) - 25) < ((83969 : Nat) : Int) := by omega
theorem vc_X12_dropMark_2 {z148 z149 : Int} (h0 : (9 - z148) < ((0 : Nat) : Int)) (h1 : z149 ≤ z148) (h2 : z148 ≤ 8) (h3 : 0 ≤ z148 ∧ z148 ≤ 8) (h4 : 0 ≤ z149 ∧ z149 ≤ 8) : False := by omega
theorem vc_X12_dropMark_4 {p1 z148 z149 z161 : Int} (h0 : z149 ≤ z148) (h1 : z148 ≤ 8) (h2 : z161 ≤ z148) (h3 : 0 ≤ p1 ∧ p1 ≤ 2099) (h4 : 0 ≤ z148 ∧ z148 ≤ 8) (h5 : 0 ≤ z149 ∧ z149 ≤ 8) (h6 : 0 ≤ z161 ∧ z161 ≤ 8) : (-2147483648 ≤ z149 ∧ z149 ≤ 2147483647) ∧ (((40 * p1) + 5) % 40 = 0 → -1 ≤ z149 ∧ z149 ≤ 9) ∧ (((40 * p1) + 5) % 40 = 4 → 0 ≤ z149 ∧ z149 ≤ 20) ∧ (((40 * p1) + 5) % 40 = 5 → 0 ≤ z149 ∧ z149 ≤ 8) := by omega
theorem vc_X12_dropMark_5 {p1 : Int} (h0 : 0 ≤ p1 ∧ p1 ≤ 2099) : ((40 * p1) + 1) ≤ ((40 * p1) + 1) ∧ ((40 * p1) + 40) ≤ ((40 * p1) + 40) := by omega
theorem vc_X12_dropMark_6 {p1 : Int} (h0 : 0 ≤ p1 ∧ p1 ≤ 2099) : 0 ≤ ((40 * p1) + 5) ∧ ((40 * p1) + 1) ≤ ((40 * p1) + 5) ∧ ((40 * p1) + 5) < ((40 * p1) + 40) := by omega
theorem vc_X12_dropMark_7 {z148 z149 z161 : Int} (h0 : z148 < z161) (h1 : z149 ≤ z148) (h2 : z148 ≤ 8) (h3 : 0 ≤ z148 ∧ z148 ≤ 8) (h4 : 0 ≤ z149 ∧ z149 ≤ 8) (h5 : 0 ≤ z161 ∧ z161 ≤ 8) : 0 ≤ z148 ∧ z148 ≤ 7 := by omega
theorem vc_X12_dropMark_8 {z148 z149 z161 : Int} (h0 : z148 < z161) (h1 : z149 ≤ z148) (h2 : z148 ≤ 8) (h3 : 0 ≤ z148 ∧ z148 ≤ 7) (h4 : 0 ≤ z149 ∧ z149 ≤ 8) (h5 : 0 ≤ z161 ∧ z161 ≤ 8) : 1 ≤ z161 ∧ z161 ≤ 8 := by omega
theorem vc_X12_dropMark_9 {p1 p2 z148 z149 z161 z179 : Int} (h0 : z149 ≤ z148) (h1 : z148 ≤ 8) (h2 : z148 < z161) (h3 : ((((40 * p1) + 26) + z148) % 40 = 0 → -1 ≤ z179 ∧ z179 ≤ 9)) (h4 : ((((40 * p1) + 26) + z148) % 40 = 4 → 0 ≤ z179 ∧ z179 ≤ 20)) (h5 : ((((40 * p1) + 26) + z148) % 40 = 5 → 0 ≤ z179 ∧ z179 ≤ 8)) (h6 : z179 = p2) (h7 : 0 ≤ p1 ∧ p1 ≤ 2099) (h8 : (-2147483648) ≤ p2 ∧ p2 ≤ 2147483647) (h9 : 0 ≤ z148 ∧ z148 ≤ 7) (h10 : 0 ≤ z149 ∧ z149 ≤ 8) (h11 : 1 ≤ z161 ∧ z161 ≤ 8) (h12 : (-2147483648) ≤ z179 ∧ z179 ≤ 2147483647) : z149 ≤ (z148 + 1) := by omega
theorem vc_X12_dropMark_10 {p1 p2 z148 z149 z161 z179 : Int} (h0 : z149 ≤ z148) (h1 : z148 ≤ 8) (h2 : z148 < z161) (h3 : ((((40 * p1) + 26) + z148) % 40 = 0 → -1 ≤ z179 ∧ z179 ≤ 9)) (h4 : ((((40 * p1) + 26) + z148) % 40 = 4 → 0 ≤ z179 ∧ z179 ≤ 20)) (h5 : ((((40 * p1) + 26) + z148) % 40 = 5 → 0 ≤ z179 ∧ z179 ≤ 8)) (h6 : z179 = p2) (h7 : 0 ≤ p1 ∧ p1 ≤ 2099) (h8 : (-2147483648) ≤ p2 ∧ p2 ≤ 2147483647) (h9 : 0 ≤ z148 ∧ z148 ≤ 7) (h10 : 0 ≤ z149 ∧ z149 ≤ 8) (h11 : 1 ≤ z161 ∧ z161 ≤ 8) (h12 : (-2147483648) ≤ z179 ∧ z179 ≤ 2147483647) : (z148 + 1) ≤ 8 := by omega
theorem vc_X12_dropMark_11 {N p1 p2 z148 z149 z161 z179 : Int} (h0 : (9 - z148) < N + 1) (h1 : z149 ≤ z148) (h2 : z148 ≤ 8) (h3 : z148 < z161) (h4 : ((((40 * p1) + 26) + z148) % 40 = 0 → -1 ≤ z179 ∧ z179 ≤ 9)) (h5 : ((((40 * p1) + 26) + z148) % 40 = 4 → 0 ≤ z179 ∧ z179 ≤ 20)) (h6 : ((((40 * p1) + 26) + z148) % 40 = 5 → 0 ≤ z179 ∧ z179 ≤ 8)) (h7 : z179 = p2) (h8 : 0 ≤ p1 ∧ p1 ≤ 2099) (h9 : (-2147483648) ≤ p2 ∧ p2 ≤ 2147483647) (h10 : 0 ≤ z148 ∧ z148 ≤ 7) (h11 : 0 ≤ z149 ∧ z149 ≤ 8) (h12 : 1 ≤ z161 ∧ z161 ≤ 8) (h13 : (-2147483648) ≤ z179 ∧ z179 ≤ 2147483647) : (9 - (z148 + 1)) < N := by omega
theorem vc_X12_dropMark_12 {p1 p2 z148 z149 z161 z179 : Int} (h0 : ((((40 * p1) + 26) + z148) % 40 = 0 → -1 ≤ z179 ∧ z179 ≤ 9)) (h1 : ((((40 * p1) + 26) + z148) % 40 = 4 → 0 ≤ z179 ∧ z179 ≤ 20)) (h2 : ((((40 * p1) + 26) + z148) % 40 = 5 → 0 ≤ z179 ∧ z179 ≤ 8)) (h3 : z149 ≤ z148) (h4 : z148 ≤ 8) (h5 : z148 < z161) (h6 : z179 = p2) (h7 : 0 ≤ p1 ∧ p1 ≤ 2099) (h8 : (-2147483648) ≤ p2 ∧ p2 ≤ 2147483647) (h9 : 0 ≤ z148 ∧ z148 ≤ 7) (h10 : 0 ≤ z149 ∧ z149 ≤ 8) (h11 : 1 ≤ z161 ∧ z161 ≤ 8) (h12 : (-2147483648) ≤ z179 ∧ z179 ≤ 2147483647) : ((40 * p1) + 1) ≤ ((40 * p1) + 1) ∧ ((40 * p1) + 40) ≤ ((40 * p1) + 40) := by omega
theorem vc_X12_dropMark_13 {p1 p2 z148 z149 z161 z179 : Int} (h0 : z149 ≤ z148) (h1 : ((((40 * p1) + 26) + z148) % 40 = 0 → -1 ≤ z179 ∧ z179 ≤ 9)) (h2 : ((((40 * p1) + 26) + z148) % 40 = 4 → 0 ≤ z179 ∧ z179 ≤ 20)) (h3 : ((((40 * p1) + 26) + z148) % 40 = 5 → 0 ≤ z179 ∧ z179 ≤ 8)) (h4 : ¬ z179 = p2) (h5 : z148 ≤ 8) (h6 : z148 < z161) (h7 : 0 ≤ p1 ∧ p1 ≤ 2099) (h8 : (-2147483648) ≤ p2 ∧ p2 ≤ 2147483647) (h9 : 0 ≤ z148 ∧ z148 ≤ 7) (h10 : 0 ≤ z149 ∧ z149 ≤ 8) (h11 : 1 ≤ z161 ∧ z161 ≤ 8) (h12 : (-2147483648) ≤ z179 ∧ z179 ≤ 2147483647) : (-2147483648 ≤ z179 ∧ z179 ≤ 2147483647) ∧ ((((40 * p1) + 26) + z149) % 40 = 0 → -1 ≤ z179 ∧ z179 ≤ 9) ∧ ((((40 * p1) + 26) + z149) % 40 = 4 → 0 ≤ z179 ∧ z179 ≤ 20) ∧ ((((40 * p1) + 26) + z149) % 40 = 5 → 0 ≤ z179 ∧ z179 ≤ 8) := by omega
theorem vc_X12_dropMark_14 {p1 z148 z149 z161 z179 : Int} (h0 : z149 ≤ z148) (h1 : z148 ≤ 8) (h2 : z148 < z161) (h3 : ((((40 * p1) + 26) + z148) % 40 = 0 → -1 ≤ z179 ∧ z179 ≤ 9)) (h4 : ((((40 * p1) + 26) + z148) % 40 = 4 → 0 ≤ z179 ∧ z179 ≤ 20)) (h5 : ((((40 * p1) + 26) + z148) % 40 = 5 → 0 ≤ z179 ∧ z179 ≤ 8)) (h6 : 0 ≤ p1 ∧ p1 ≤ 2099) (h7 : 0 ≤ z148 ∧ z148 ≤ 7) (h8 : 0 ≤ z149 ∧ z149 ≤ 8) (h9 : 1 ≤ z161 ∧ z161 ≤ 8) (h10 : (-2147483648) ≤ z179 ∧ z179 ≤ 2147483647) : 0 ≤ (z149 + 1) ∧ (z149 + 1) ≤ 8 := by omega
theorem vc_X12_dropMark_15 {p1 p2 z148 z149 z161 z179 : Int} (h0 : z149 ≤ z148) (h1 : z148 ≤ 8) (h2 : z148 < z161) (h3 : ((((40 * p1) + 26) + z148) % 40 = 0 → -1 ≤ z179 ∧ z179 ≤ 9)) (h4 : ((((40 * p1) + 26) + z148) % 40 = 4 → 0 ≤ z179 ∧ z179 ≤ 20)) (h5 : ((((40 * p1) + 26) + z148) % 40 = 5 → 0 ≤ z179 ∧ z179 ≤ 8)) (h6 : ¬ z179 = p2) (h7 : 0 ≤ p1 ∧ p1 ≤ 2099) (h8 : (-2147483648) ≤ p2 ∧ p2 ≤ 2147483647) (h9 : 0 ≤ z148 ∧ z148 ≤ 7) (h10 : 0 ≤ z149 ∧ z149 ≤ 8) (h11 : 1 ≤ z161 ∧ z161 ≤ 8) (h12 : (-2147483648) ≤ z179 ∧ z179 ≤ 2147483647) : (z149 + 1) ≤ (z148 + 1) := by omega
theorem vc_X12_dropMark_16 {p1 p2 z148 z149 z161 z179 : Int} (h0 : z149 ≤ z148) (h1 : z148 ≤ 8) (h2 : z148 < z161) (h3 : ((((40 * p1) + 26) + z148) % 40 = 0 → -1 ≤ z179 ∧ z179 ≤ 9)) (h4 : ((((40 * p1) + 26) + z148) % 40 = 4 → 0 ≤ z179 ∧ z179 ≤ 20)) (h5 : ((((40 * p1) + 26) + z148) % 40 = 5 → 0 ≤ z179 ∧ z179 ≤ 8)) (h6 : ¬ z179 = p2) (h7 : 0 ≤ p1 ∧ p1 ≤ 2099) (h8 : (-2147483648) ≤ p2 ∧ p2 ≤ 2147483647) (h9 : 0 ≤ z148 ∧ z148 ≤ 7) (h10 : 0 ≤ z149 ∧ z149 ≤ 8) (h11 : 1 ≤ z161 ∧ z161 ≤ 8) (h12 : (-2147483648) ≤ z179 ∧ z179 ≤ 2147483647) : (z148 + 1) ≤ 8 := by omega
theorem vc_X12_dropMark_17 {N p1 p2 z148 z149 z161 z179 : Int} (h0 : (9 - z148) < N + 1) (h1 : z149 ≤ z148) (h2 : z148 ≤ 8) (h3 : z148 < z161) (h4 : ((((40 * p1) + 26) + z148) % 40 = 0 → -1 ≤ z179 ∧ z179 ≤ 9)) (h5 : ((((40 * p1) + 26) + z148) % 40 = 4 → 0 ≤ z179 ∧ z179 ≤ 20)) (h6 : ((((40 * p1) + 26) + z148) % 40 = 5 → 0 ≤ z179 ∧ z179 ≤ 8)) (h7 : ¬ z179 = p2) (h8 : 0 ≤ p1 ∧ p1 ≤ 2099) (h9 : (-2147483648) ≤ p2 ∧ p2 ≤ 2147483647) (h10 : 0 ≤ z148 ∧ z148 ≤ 7) (h11 : 0 ≤ z149 ∧ z149 ≤ 8) (h12 : 1 ≤ z161 ∧ z161 ≤ 8) (h13 : (-2147483648) ≤ z179 ∧ z179 ≤ 2147483647) : (9 - (z148 + 1)) < N := by omega
theorem vc_X12_dropMark_18 {p1 p2 z148 z149 z161 z179 : Int} (h0 : ((((40 * p1) + 26) + z148) % 40 = 0 → -1 ≤ z179 ∧ z179 ≤ 9)) (h1 : ((((40 * p1) + 26) + z148) % 40 = 4 → 0 ≤ z179 ∧ z179 ≤ 20)) (h2 : ((((40 * p1) + 26) + z148) % 40 = 5 → 0 ≤ z179 ∧ z179 ≤ 8)) (h3 : z149 ≤ z148) (h4 : z148 ≤ 8) (h5 : z148 < z161) (h6 : ¬ z179 = p2) (h7 : 0 ≤ p1 ∧ p1 ≤ 2099) (h8 : (-2147483648) ≤ p2 ∧ p2 ≤ 2147483647) (h9 : 0 ≤ z148 ∧ z148 ≤ 7) (h10 : 0 ≤ z149 ∧ z149 ≤ 8) (h11 : 1 ≤ z161 ∧ z161 ≤ 8) (h12 : (-2147483648) ≤ z179 ∧ z179 ≤ 2147483647) : ((40 * p1) + 1) ≤ ((40 * p1) + 1) ∧ ((40 * p1) + 40) ≤ ((40 * p1) + 40) := by omega
theorem vc_X12_dropMark_19 {p1 p2 z148 z149 z161 z179 : Int} (h0 : z149 ≤ z148) (h1 : ((((40 * p1) + 26) + z148) % 40 = 0 → -1 ≤ z179 ∧ z179 ≤ 9)) (h2 : ((((40 * p1) + 26) + z148) % 40 = 4 → 0 ≤ z179 ∧ z179 ≤ 20)) (h3 : ((((40 * p1) + 26) + z148) % 40 = 5 → 0 ≤ z179 ∧ z179 ≤ 8)) (h4 : z148 ≤ 8) (h5 : z148 < z161) (h6 : ¬ z179 = p2) (h7 : 0 ≤ p1 ∧ p1 ≤ 2099) (h8 : (-2147483648) ≤ p2 ∧ p2 ≤ 2147483647) (h9 : 0 ≤ z148 ∧ z148 ≤ 7) (h10 : 0 ≤ z149 ∧ z149 ≤ 8) (h11 : 1 ≤ z161 ∧ z161 ≤ 8) (h12 : (-2147483648) ≤ z179 ∧ z179 ≤ 2147483647) : 0 ≤ (((40 * p1) + 26) + z149) ∧ ((40 * p1) + 1) ≤ (((40 * p1) + 26) + z149) ∧ (((40 * p1) + 26) + z149) < ((40 * p1) + 40) := by omega
theorem vc_X12_dropMark_20  : ((0 : Int) : Int) ≤ ((0 : Int) : Int) := by omega
theorem vc_X12_dropMark_21  : ((0 : Int) : Int) ≤ (8 : Int) := by omega
theorem vc_X12_front_1 {p1 : Int} (h0 : 0 ≤ p1 ∧ p1 ≤ 2099) : ((40 * p1) + 4) % 40 = 4 := by omega
theorem vc_X12_front_2 {z1 : Int} (h0 : ¬ z1 = 20) (h1 : 0 ≤ z1 ∧ z1 ≤ 20) : 0 ≤ z1 ∧ z1 ≤ 19 := by omega
theorem vc_X12_front_3 {z45 : Int} (h0 : (z45 - (-1)) < ((0 : Nat) : Int)) (h1 : 0 ≤ z45 ∧ z45 ≤ 19) : False := by omega
theorem vc_X12_front_4 {p1 : Int} (h0 : 0 ≤ p1 ∧ p1 ≤ 2099) : 0 ≤ ((40 * p1) + 4) := by omega
theorem vc_X12_front_5 {z45 : Int} (h0 : z45 ≤ 0) (h1 : 0 ≤ z45 ∧ z45 ≤ 19) : 0 ≤ z45 ∧ z45 ≤ 0 := by omega
theorem vc_X12_front_6 {p1 p2 : Int} (h0 : 0 ≤ p1 ∧ p1 ≤ 2099) (h1 : (-2147483648) ≤ p2 ∧ p2 ≤ 2147483647) : (-2147483648 ≤ p2 ∧ p2 ≤ 2147483647) ∧ (((40 * p1) + 6) % 40 = 0 → -1 ≤ p2 ∧ p2 ≤ 9) ∧ (((40 * p1) + 6) % 40 = 4 → 0 ≤ p2 ∧ p2 ≤ 20) ∧ (((40 * p1) + 6) % 40 = 5 → 0 ≤ p2 ∧ p2 ≤ 8) := by omega
theorem vc_X12_front_7 {p1 : Int} (h0 : 0 ≤ p1 ∧ p1 ≤ 2099) : ((40 * p1) + 4).toNat ≠ ((40 * p1) + 6).toNat := by omega
theorem vc_X12_front_8 {f_n p1 : Int} (h0 : f_n ≤ 19) (h1 : 0 ≤ f_n ∧ f_n ≤ 20) (h2 : 0 ≤ p1 ∧ p1 ≤ 2099) : (-2147483648 ≤ (f_n + 1) ∧ (f_n + 1) ≤ 2147483647) ∧ (((40 * p1) + 4) % 40 = 0 → -1 ≤ (f_n + 1) ∧ (f_n + 1) ≤ 9) ∧ (((40 * p1) + 4) % 40 = 4 → 0 ≤ (f_n + 1) ∧ (f_n + 1) ≤ 20) ∧ (((40 * p1) + 4) % 40 = 5 → 0 ≤ (f_n + 1) ∧ (f_n + 1) ≤ 8) := by omega
theorem vc_X12_front_10 {p1 : Int} (h0 : 0 ≤ p1 ∧ p1 ≤ 2099) : 0 ≤ ((40 * p1) + 6) ∧ ((40 * p1) + 1) ≤ ((40 * p1) + 6) ∧ ((40 * p1) + 6) < ((40 * p1) + 40) := by omega
theorem vc_X12_front_11 {p1 : Int} (h0 : 0 ≤ p1 ∧ p1 ≤ 2099) : 0 ≤ ((40 * p1) + 4) ∧ ((40 * p1) + 1) ≤ ((40 * p1) + 4) ∧ ((40 * p1) + 4) < ((40 * p1) + 40) := by omega
theorem vc_X12_front_12 {z45 : Int} (h0 : 0 < z45) (h1 : 0 ≤ z45 ∧ z45 ≤ 19) : 1 ≤ z45 ∧ z45 ≤ 19 := by omega
theorem vc_X12_front_13 {p1 z45 z75 : Int} (h0 : 0 < z45) (h1 : ((((40 * p1) + 5) + z45) % 40 = 0 → -1 ≤ z75 ∧ z75 ≤ 9)) (h2 : ((((40 * p1) + 5) + z45) % 40 = 4 → 0 ≤ z75 ∧ z75 ≤ 20)) (h3 : ((((40 * p1) + 5) + z45) % 40 = 5 → 0 ≤ z75 ∧ z75 ≤ 8)) (h4 : 0 ≤ p1 ∧ p1 ≤ 2099) (h5 : 1 ≤ z45 ∧ z45 ≤ 19) (h6 : (-2147483648) ≤ z75 ∧ z75 ≤ 2147483647) : (-2147483648 ≤ z75 ∧ z75 ≤ 2147483647) ∧ ((((40 * p1) + 6) + z45) % 40 = 0 → -1 ≤ z75 ∧ z75 ≤ 9) ∧ ((((40 * p1) + 6) + z45) % 40 = 4 → 0 ≤ z75 ∧ z75 ≤ 20) ∧ ((((40 * p1) + 6) + z45) % 40 = 5 → 0 ≤ z75 ∧ z75 ≤ 8) := by omega
theorem vc_X12_front_14 {p1 z45 z75 : Int} (h0 : 0 < z45) (h1 : ((((40 * p1) + 5) + z45) % 40 = 0 → -1 ≤ z75 ∧ z75 ≤ 9)) (h2 : ((((40 * p1) + 5) + z45) % 40 = 4 → 0 ≤ z75 ∧ z75 ≤ 20)) (h3 : ((((40 * p1) + 5) + z45) % 40 = 5 → 0 ≤ z75 ∧ z75 ≤ 8)) (h4 : 0 ≤ p1 ∧ p1 ≤ 2099) (h5 : 1 ≤ z45 ∧ z45 ≤ 19) (h6 : (-2147483648) ≤ z75 ∧ z75 ≤ 2147483647) : ((40 * p1) + 4).toNat ≠ (((40 * p1) + 6) + z45).toNat := by omega
theorem vc_X12_front_15 {f_n : Int} (h0 : f_n ≤ 19) (h1 : 0 ≤ f_n ∧ f_n ≤ 20) : f_n ≤ 19 := by omega
theorem vc_X12_front_16 {N p1 z45 z75 : Int} (h0 : (z45 - (-1)) < N + 1) (h1 : 0 < z45) (h2 : ((((40 * p1) + 5) + z45) % 40 = 0 → -1 ≤ z75 ∧ z75 ≤ 9)) (h3 : ((((40 * p1) + 5) + z45) % 40 = 4 → 0 ≤ z75 ∧ z75 ≤ 20)) (h4 : ((((40 * p1) + 5) + z45) % 40 = 5 → 0 ≤ z75 ∧ z75 ≤ 8)) (h5 : 0 ≤ p1 ∧ p1 ≤ 2099) (h6 : 1 ≤ z45 ∧ z45 ≤ 19) (h7 : (-2147483648) ≤ z75 ∧ z75 ≤ 2147483647) : ((z45 + (-1)) - (-1)) < N := by omega
theorem vc_X12_front_17 {p1 z45 z75 : Int} (h0 : ((((40 * p1) + 5) + z45) % 40 = 0 → -1 ≤ z75 ∧ z75 ≤ 9)) (h1 : ((((40 * p1) + 5) + z45) % 40 = 4 → 0 ≤ z75 ∧ z75 ≤ 20)) (h2 : ((((40 * p1) + 5) + z45) % 40 = 5 → 0 ≤ z75 ∧ z75 ≤ 8)) (h3 : 0 < z45) (h4 : 0 ≤ p1 ∧ p1 ≤ 2099) (h5 : 1 ≤ z45 ∧ z45 ≤ 19) (h6 : (-2147483648) ≤ z75 ∧ z75 ≤ 2147483647) : ((40 * p1) + 1) ≤ ((40 * p1) + 1) ∧ ((40 * p1) + 40) ≤ ((40 * p1) + 40) := by omega
theorem vc_X12_front_18 {p1 z45 z75 : Int} (h0 : 0 < z45) (h1 : ((((40 * p1) + 5) + z45) % 40 = 0 → -1 ≤ z75 ∧ z75 ≤ 9)) (h2 : ((((40 * p1) + 5) + z45) % 40 = 4 → 0 ≤ z75 ∧ z75 ≤ 20)) (h3 : ((((40 * p1) + 5) + z45) % 40 = 5 → 0 ≤ z75 ∧ z75 ≤ 8)) (h4 : 0 ≤ p1 ∧ p1 ≤ 2099) (h5 : 1 ≤ z45 ∧ z45 ≤ 19) (h6 : (-2147483648) ≤ z75 ∧ z75 ≤ 2147483647) : 0 ≤ (((40 * p1) + 6) + z45) ∧ ((40 * p1) + 1) ≤ (((40 * p1) + 6) + z45) ∧ (((40 * p1) + 6) + z45) < ((40 * p1) + 40) := by omega
theorem vc_X12_front_19 {z1 : Int} (h0 : ¬ z1 = 20) (h1 : 0 ≤ z1 ∧ z1 ≤ 19) : z1 ≤ 19 := by omega
theorem vc_X12_front_20 {z1 : Int} (h0 : ¬ z1 = 20) (h1 : 0 ≤ z1 ∧ z1 ≤ 19) : (z1 - (-1)) < ((21 : Nat) : Int) := by omega
theorem vc_X12_front_21 {z1 : Int} (h0 : z1 = 20) (h1 : 0 ≤ z1 ∧ z1 ≤ 20) : 20 ≤ z1 ∧ z1 ≤ 20 := by omega
theorem vc_X12_isIn_8 {N p1 p2 z181 z191 z213 : Int} (h0 : (21 - z181) < N + 1) (h1 : z181 < z191) (h2 : ((((40 * p1) + 6) + z181) % 40 = 0 → -1 ≤ z213 ∧ z213 ≤ 9)) (h3 : ((((40 * p1) + 6) + z181) % 40 = 4 → 0 ≤ z213 ∧ z213 ≤ 20)) (h4 : ((((40 * p1) + 6) + z181) % 40 = 5 → 0 ≤ z213 ∧ z213 ≤ 8)) (h5 : ¬ z213 = p2) (h6 : 0 ≤ p1 ∧ p1 ≤ 2099) (h7 : (-2147483648) ≤ p2 ∧ p2 ≤ 2147483647) (h8 : 0 ≤ z181 ∧ z181 ≤ 19) (h9 : 1 ≤ z191 ∧ z191 ≤ 20) (h10 : (-2147483648) ≤ z213 ∧ z213 ≤ 2147483647) : (21 - (z181 + 1)) < N := by omega
theorem vc_X12_isIn_9 {N p1 p2 z181 z191 z213 : Int} (h0 : (21 - z181) < N + 1) (h1 : z181 < z191) (h2 : ((((40 * p1) + 6) + z181) % 40 = 0 → -1 ≤ z213 ∧ z213 ≤ 9)) (h3 : ((((40 * p1) + 6) + z181) % 40 = 4 → 0 ≤ z213 ∧ z213 ≤ 20)) (h4 : ((((40 * p1) + 6) + z181) % 40 = 5 → 0 ≤ z213 ∧ z213 ≤ 8)) (h5 : z213 = p2) (h6 : 0 ≤ p1 ∧ p1 ≤ 2099) (h7 : (-2147483648) ≤ p2 ∧ p2 ≤ 2147483647) (h8 : 0 ≤ z181 ∧ z181 ≤ 19) (h9 : 1 ≤ z191 ∧ z191 ≤ 20) (h10 : (-2147483648) ≤ z213 ∧ z213 ≤ 2147483647) : (21 - (z181 + 1)) < N := by omega
end
