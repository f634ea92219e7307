/-! The reference's reader: its tokens. Letters packed into a number. -/
def pkH (B : Int → Int) (f : Int) : Nat → Int
  | 0 => 0
  | n + 1 => B f + 256 * pkH B (f + 1) n
theorem pkH.snoc {B : Int → Int} : ∀ (n : Nat) (f : Int), pkH B f (n + 1) = pkH B f n + B (f + (n : Int)) * 256 ^ n
  | 0, f => by
    show B f + 256 * 0 = 0 + B (f + ((0 : Nat) : Int)) * 256 ^ 0
    rw [show f + ((0 : Nat) : Int) = f by omega, Int.pow_zero]
    omega
  | n + 1, f => by
    have h := pkH.snoc (B := B) n (f + 1)
    show B f + 256 * pkH B (f + 1) (n + 1) = (B f + 256 * pkH B (f + 1) n) + B (f + ((n + 1 : Nat) : Int)) * 256 ^ (n + 1)
    rw [h, show f + 1 + (n : Int) = f + ((n + 1 : Nat) : Int) by omega, Int.pow_succ]
    generalize B (f + ((n + 1 : Nat) : Int)) = x
    generalize pkH B (f + 1) n = y
    have e : 256 * (x * 256 ^ n) = x * (256 ^ n * 256) := by rw [Int.mul_comm 256 (x * 256 ^ n), Int.mul_assoc]
    rw [Int.mul_add, e]
    exact (Int.add_assoc _ _ _).symm
theorem pkH.rng {B : Int → Int} : ∀ (n : Nat) (f : Int), (∀ j, f ≤ j → j < f + (n : Int) → 0 ≤ B j ∧ B j ≤ 255) → 0 ≤ pkH B f n ∧ pkH B f n + 1 ≤ 256 ^ n
  | 0, _, _ => by simp [pkH]
  | n + 1, f, h => by
    have h1 := pkH.rng (B := B) n (f + 1) (fun j a b => h j (by omega) (by omega))
    have h2 := h f (by omega) (by omega)
    show 0 ≤ B f + 256 * pkH B (f + 1) n ∧ B f + 256 * pkH B (f + 1) n + 1 ≤ 256 ^ (n + 1)
    rw [Int.pow_succ]
    omega
theorem pkH.inj {B C : Int → Int} : ∀ (n m : Nat) (f g : Int), pkH B f n = pkH C g m → (∀ j, f ≤ j → j < f + (n : Int) → 1 ≤ B j ∧ B j ≤ 255) → (∀ j, g ≤ j → j < g + (m : Int) → 1 ≤ C j ∧ C j ≤ 255) → n = m ∧ ∀ j : Nat, j < n → B (f + (j : Int)) = C (g + (j : Int))
  | 0, 0, _, _, _, _, _ => ⟨rfl, fun j hj => absurd hj (Nat.not_lt_zero j)⟩
  | 0, m + 1, f, g, h, _, hC => by
    exfalso
    have h2 := hC g (by omega) (by omega)
    have h3 := (pkH.rng (B := C) m (g + 1) (fun j a b => by have := hC j (by omega) (by omega); omega)).1
    have h4 : (0 : Int) = C g + 256 * pkH C (g + 1) m := h
    omega
  | n + 1, 0, f, g, h, hB, _ => by
    exfalso
    have h2 := hB f (by omega) (by omega)
    have h3 := (pkH.rng (B := B) n (f + 1) (fun j a b => by have := hB j (by omega) (by omega); omega)).1
    have h4 : B f + 256 * pkH B (f + 1) n = (0 : Int) := h
    omega
  | n + 1, m + 1, f, g, h, hB, hC => by
    have a1 := hB f (by omega) (by omega)
    have a2 := hC g (by omega) (by omega)
    have h4 : B f + 256 * pkH B (f + 1) n = C g + 256 * pkH C (g + 1) m := h
    have e1 : B f = C g := by omega
    have e2 : pkH B (f + 1) n = pkH C (g + 1) m := by omega
    obtain ⟨k1, k2⟩ := pkH.inj n m (f + 1) (g + 1) e2 (fun j a b => hB j (by omega) (by omega)) (fun j a b => hC j (by omega) (by omega))
    refine ⟨by omega, fun j hj => ?_⟩
    cases j with
    | zero =>
      rw [show f + ((0 : Nat) : Int) = f by omega, show g + ((0 : Nat) : Int) = g by omega]; exact e1
    | succ j =>
      have k3 := k2 j (by omega)
      rw [show f + ((j + 1 : Nat) : Int) = f + 1 + (j : Int) by omega, show g + ((j + 1 : Nat) : Int) = g + 1 + (j : Int) by omega]; exact k3
def KWl : List Int := [26217, 6581857, 1852139636, 7630702, 28265, 28532, 7954807, 7958113, 1802658157, 1836020326, 6646132, 114849160783212, 1752394103, 1953722211, 121398985585263, 499967814002, 8243115018434082147, 8243105097092919920, 465491554661, 7235947, 431265440118, 31093567915781749, 6578530, 7628140, 7496034, 6579297, 1886351972, 1701998445, 1819042147]
def KW (w : Nat) : Int := KWl.getD w 0
theorem KW.is : ∀ w : Fin 29, KW w.val = pkH (fun j => chW w.val j.toNat) 0 (lenW w.val) ∧ (∀ j : Fin 8, j.val < lenW w.val → 1 ≤ chW w.val j.val ∧ chW w.val j.val ≤ 255) ∧ lenW w.val ≤ 8 ∧ 2 ≤ lenW w.val ∧ (3 ≤ lenW w.val ∨ w.val = 0 ∨ w.val = 4 ∨ w.val = 5) := by decide +kernel
/-- which word a number packs -/
def wnK (x z : Int) : Prop := (∃ w : Nat, w < 29 ∧ z = (w : Int) ∧ x = KW w) ∨ (z = -1 ∧ ∀ w : Nat, w < 29 → ¬ x = KW w)
theorem wnK.wr {B : Int → Int} {f n x z : Int} (h : wnK x z) (hn : 0 ≤ n ∧ n ≤ 8) (hx : x = pkH B f n.toNat) (hL : ∀ j, f ≤ j → j < f + n → isL (B j)) : (0 ≤ z → wrW B f n z ∧ 2 ≤ n ∧ (3 ≤ n ∨ z = 0 ∨ z = 4 ∨ z = 5)) ∧ (z < 0 → wrW B f n (-3)) := by
  have hB : ∀ j, f ≤ j → j < f + ((n.toNat : Nat) : Int) → 1 ≤ B j ∧ B j ≤ 255 := fun j a b => by
    have g := hL j a (by omega)
    unfold isL at g
    omega
  have hC : ∀ w : Nat, (hw : w < 29) → ∀ j : Int, 0 ≤ j → j < 0 + ((lenW w : Nat) : Int) → 1 ≤ chW w j.toNat ∧ chW w j.toNat ≤ 255 := fun w hw j a b => by
    have g := KW.is ⟨w, hw⟩
    have l8 : lenW w ≤ 8 := g.2.2.1
    exact g.2.1 ⟨j.toNat, by omega⟩ (show j.toNat < lenW w by omega)
  constructor
  · intro hz
    rcases h with ⟨w, hw, e, k⟩ | ⟨e, _⟩
    · have g := KW.is ⟨w, hw⟩
      have g1 : KW w = pkH (fun j => chW w j.toNat) 0 (lenW w) := g.1
      obtain ⟨i1, i2⟩ := pkH.inj n.toNat (lenW w) f 0 (by rw [← hx, k, g1]) hB (hC w hw)
      have g4 : 2 ≤ lenW w := g.2.2.2.1
      have g5 : 3 ≤ lenW w ∨ w = 0 ∨ w = 4 ∨ w = 5 := g.2.2.2.2
      refine ⟨Or.inl ⟨w, hw, e, by omega, fun j hj => ?_⟩, by omega, by omega⟩
      have i3 := i2 j (by omega)
      rw [i3]
      show chW w ((0 : Int) + (j : Int)).toNat = chW w j
      rw [show ((0 : Int) + (j : Int)).toNat = j by omega]
    · omega
  · intro hz
    rcases h with ⟨w, _, e, _⟩ | ⟨_, k⟩
    · omega
    · refine Or.inr ⟨rfl, fun w hw m => k w hw ?_⟩
      have g1 : KW w = pkH (fun j => chW w j.toNat) 0 (lenW w) := (KW.is ⟨w, hw⟩).1
      have m1 := m.1
      have en : n.toNat = lenW w := by omega
      rw [hx, g1, en]
      have cg : ∀ (q : Nat) (a b : Int), (∀ j : Nat, j < q → B (a + (j : Int)) = chW w (b + (j : Int)).toNat) → pkH B a q = pkH (fun j => chW w j.toNat) b q := by
        intro q
        induction q with
        | zero => intro a b _; rfl
        | succ q ih =>
          intro a b hh
          show B a + 256 * pkH B (a + 1) q = chW w b.toNat + 256 * pkH (fun j => chW w j.toNat) (b + 1) q
          have h0 := hh 0 (by omega)
          rw [show a + ((0 : Nat) : Int) = a by omega, show b + ((0 : Nat) : Int) = b by omega] at h0
          rw [h0, ih (a + 1) (b + 1) (fun j hj => by
            have h1 := hh (j + 1) (by omega)
            rw [show a + ((j + 1 : Nat) : Int) = a + 1 + (j : Int) by omega, show b + ((j + 1 : Nat) : Int) = b + 1 + (j : Int) by omega] at h1
            exact h1)]
      refine cg _ _ _ (fun j hj => ?_)
      rw [show ((0 : Int) + (j : Int)).toNat = j by omega]
      exact m.2 j hj
theorem wrW.long {B : Int → Int} {f n : Int} (h : 8 < n) : wrW B f n (-3) := Or.inr ⟨rfl, fun w hw m => by
  have m1 := m.1
  have g : lenW w ≤ 8 := (KW.is ⟨w, hw⟩).2.2.1
  omega⟩
theorem lShlW : ∀ (n : Fin 8) (b : Fin 128), lShl ((b.val : Nat) : Int) (8 * ((n.val : Nat) : Int)) = ((b.val : Nat) : Int) * 256 ^ n.val := by decide +kernel
theorem lOr_nat {x y : Nat} (hx : x < 9223372036854775808) (hy : y < 9223372036854775808) : lOr (x : Int) (y : Int) = ((x ||| y : Nat) : Int) := by
  have hp : x ||| y < 2 ^ 63 := Nat.or_lt_two_pow (by omega) (by omega)
  have h1 : (BitVec.ofInt 64 (y : Int)).toNat = y := by rw [BitVec.toNat_ofInt]; omega
  have h0 : (BitVec.ofInt 64 (x : Int)).toNat = x := by rw [BitVec.toNat_ofInt]; omega
  have h2 : (Int64.ofInt (x : Int) ||| Int64.ofInt (y : Int)).toBitVec.toNat = x ||| y := by
    rw [Int64.toBitVec_or, BitVec.toNat_or, Int64.toBitVec_ofInt, Int64.toBitVec_ofInt, h1, h0]
  have h3 : (Int64.ofInt (x : Int) ||| Int64.ofInt (y : Int)).toInt = ((Int64.ofInt (x : Int) ||| Int64.ofInt (y : Int)).toBitVec.toNat : Int) := BitVec.toInt_eq_toNat_of_lt (by omega)
  unfold lOr
  rw [h3, h2]
theorem lOr_add {x y k : Nat} (hx : x < 2 ^ k) (hs : 2 ^ k * y + x < 9223372036854775808) : lOr (x : Int) ((2 ^ k * y : Nat) : Int) = ((2 ^ k * y + x : Nat) : Int) := by
  have e := Nat.two_pow_add_eq_or_of_lt hx y
  generalize 2 ^ k * y = Y at hs e ⊢
  rw [lOr_nat (by omega) (by omega), Nat.or_comm, ← e]
theorem pkH.next {B : Int → Int} {f n x b c s z e : Int} (hn : 0 ≤ n ∧ n < 8) (hx : x = pkH B f n.toNat) (hL : ∀ j, f ≤ j → j < f + n → isL (B j)) (hb : B (f + n) = b) (hl : 97 ≤ b ∧ b ≤ 122) (q0 : b = c) (he : e = 8 * n) (q1 : lShl c e = s) (q2 : lOr x s = z) : z = pkH B f (n + 1).toNat := by
  subst q0; subst he
  have hr := pkH.rng (B := B) n.toNat f (fun j a d => by
    have g := hL j a (by omega)
    unfold isL at g
    omega)
  rw [← hx] at hr
  have hnn : ((n.toNat : Nat) : Int) = n := Int.toNat_of_nonneg hn.1
  have hbb : ((b.toNat : Nat) : Int) = b := Int.toNat_of_nonneg (by omega)
  have g := lShlW ⟨n.toNat, by omega⟩ ⟨b.toNat, by omega⟩
  have g : lShl b (8 * n) = b * 256 ^ n.toNat := by
    have g' : lShl ((b.toNat : Nat) : Int) (8 * ((n.toNat : Nat) : Int)) = ((b.toNat : Nat) : Int) * 256 ^ n.toNat := g
    rw [hbb, hnn] at g'; exact g'
  have en : (n + 1).toNat = n.toNat + 1 := by omega
  rw [en, pkH.snoc, hnn, hb, ← hx, ← q2, ← q1, g]
  have p8 : (256 : Int) ^ n.toNat = ((2 ^ (8 * n.toNat) : Nat) : Int) := by
    rw [Nat.pow_mul]
    exact (Int.natCast_pow 256 n.toNat).symm
  have p56 : (2 : Nat) ^ (8 * n.toNat) ≤ 2 ^ 56 := Nat.pow_le_pow_right (by decide) (by omega)
  rw [p8] at hr ⊢
  have hxx : ((x.toNat : Nat) : Int) = x := Int.toNat_of_nonneg hr.1
  have hlt : x.toNat < 2 ^ (8 * n.toNat) := by omega
  have hm : 2 ^ (8 * n.toNat) * b.toNat ≤ 2 ^ 56 * 122 := Nat.mul_le_mul p56 (by omega)
  have hs : 2 ^ (8 * n.toNat) * b.toNat + x.toNat < 9223372036854775808 := by omega
  have k := lOr_add (x := x.toNat) (y := b.toNat) (k := 8 * n.toNat) hlt hs
  rw [hxx] at k
  have ec : ((2 ^ (8 * n.toNat) * b.toNat : Nat) : Int) = b * ((2 ^ (8 * n.toNat) : Nat) : Int) := by
    rw [Int.natCast_mul, hbb, Int.mul_comm]
  rw [ec] at k
  rw [k, Int.natCast_add, ec, hxx, Int.add_comm]
theorem lCmp_ne {x y z : Int} (q : lCmp x y = z) (hz : ¬ z = 0) : ¬ x = y := fun e => by
  subst e
  apply hz
  rw [← q]
  unfold lCmp lg_cmp
  split
  · rename_i h
    exact absurd (Int64.lt_iff_toInt_lt.mp h) (Int.lt_irrefl _)
  · split
    · rfl
    · rename_i h
      exact absurd rfl h
/-- where the reference's reader stands, by memory alone -/
def RSc (μ : mM) (e : Int → Cfg) : Prop := RSt (wrW (bR μ)) mskF (bR μ) (μ 106 39) μ e
def tbR (μ μ1 : mM) : Prop := bR μ1 = bR μ ∧ μ1 106 39 = μ 106 39
theorem tbR.refl {μ : mM} : tbR μ μ := ⟨rfl, rfl⟩
theorem tbR.fr {lf : List Nat} {w : mW} {μ μ1 : mM} (hw : mWF w) (F : mF lf w μ μ1) (h1 : tpFree lf = true) (h2 : lf.elem 106039 = false) : tbR μ μ1 := ⟨bR.keep hw F h1, F.f (A_106 hw) h2 rfl⟩
abbrev tsL : List Nat := [106033, 106034, 106035, 106036, 106037, 106038]
theorem tsK.fr {lf : List Nat} {w : mW} {μ μ1 : mM} (hw : mWF w) (F : mF lf w μ μ1) (hl : (tsL.all fun r => !lf.elem r) = true) : tsK μ μ1 := ⟨F.f (A_106 hw) (qA_no hl rfl) rfl, F.f (A_106 hw) (qA_no hl rfl) rfl, F.f (A_106 hw) (qA_no hl rfl) rfl, F.f (A_106 hw) (qA_no hl rfl) rfl, F.f (A_106 hw) (qA_no hl rfl) rfl, F.f (A_106 hw) (qA_no hl rfl) rfl⟩
theorem RSc.in {μ μ1 : mM} {e : Int → Cfg} (tb : tbR μ μ1) (h : RSt (wrW (bR μ)) mskF (bR μ) (μ 106 39) μ1 e) : RSc μ1 e := by
  unfold RSc
  rw [tb.1, tb.2]; exact h
def nxR (μ μ1 : mM) : Prop := nxK (wrW (bR μ)) (bR μ) μ μ1
theorem RSc.same {μ μ1 : mM} {e : Int → Cfg} (h : RSc μ e) (tb : tbR μ μ1) (s : tsK μ μ1) : RSc μ1 e := RSc.in tb (RSt.same h s)
theorem RSc.next {μ μ1 : mM} {e e' : Int → Cfg} (h : RSc μ e) (tb : tbR μ μ1) (n : nxR μ μ1) (oe : okE e) (oe' : okE e') (st : ∀ p t v q, μ 106 37 = 0 → tyM μ t v → ¬ t = -3 → nxC mskF (μ 106 39) (e p) t v (μ 106 34) q = e' q) : RSc μ1 e' := RSc.in tb (RSt.next h n oe oe' st)
theorem RSc.stay {μ : mM} {e e' : Int → Cfg} (h : RSc μ e) (oe : okE e) (st : ∀ p t v q, μ 106 37 = 0 → tyM μ t v → ¬ t = -3 → nxC mskF (μ 106 39) (e p) t v (μ 106 34) q = e' p) : RSc μ e' := RSt.stay h oe st
theorem RSc.wrong {μ μ1 : mM} {e e' : Int → Cfg} {k : Int} (h : RSc μ e) (tb : tbR μ μ1) (n : wrK μ μ1 k) (hk : ¬ k = 0) (oe : okE e) (st : ∀ p t v q, μ 106 37 = 0 → tyM μ t v → ¬ t = -3 → nxC mskF (μ 106 39) (e p) t v (μ 106 34) q = faC k t (μ 106 34)) : RSc μ1 e' := RSc.in tb (RSt.wrong h n hk oe st)
theorem RSc.bad {μ : mM} {e e' : Int → Cfg} (h : RSc μ e) (hc : ¬ μ 106 37 = 0) : RSc μ e' := RSt.bad h hc
theorem RSc.cg {μ : mM} {s r m x y r' m' x' y' : Int} (h : RSc μ (fun p => (s, p, r, m, x, y))) (er : r = r') (em : m = m') (ex : x = x') (ey : y = y') : RSc μ (fun p => (s, p, r', m', x', y')) := by
  subst er; subst em; subst ex; subst ey; exact h
/-- the letters or figures of the token so far -/
def nxI (B : Int → Int) (f ty n W F : Int) : Prop := (ty = 1 ∧ alX isL B f (f + n) ∧ (n ≤ 8 → W = pkH B f n.toNat)) ∨ (ty = 2 ∧ alX isF B f (f + n) ∧ (n ≤ 9 → F = decN B f n.toNat))
theorem nxI.zero {B : Int → Int} {f ty n : Int} (h : ty = 1 ∨ ty = 2) (hn : n = 0) : nxI B f ty n 0 0 := by
  subst hn
  have a : ∀ C : Int → Prop, alX C B f (f + 0) := fun C => ⟨by omega, fun j x y => by omega⟩
  rcases h with h | h
  · exact Or.inl ⟨h, a _, fun _ => rfl⟩
  · exact Or.inr ⟨h, a _, fun _ => rfl⟩
theorem nxI.let {B : Int → Int} {f ty n W F b W' F' g : Int} (h : nxI B f ty n W F) (ht : ty = 1) (hg : g = f + n) (hb : B g = b) (hl : 97 ≤ b ∧ b ≤ 122) (hw : n < 8 → (n ≤ 8 → W = pkH B f n.toNat) → (∀ j, f ≤ j → j < f + n → isL (B j)) → W' = pkH B f (n + 1).toNat) : nxI B f ty (n + 1) W' F' := by
  subst hg
  rcases h with ⟨_, a, c⟩ | ⟨e, _⟩
  · refine Or.inl ⟨ht, ?_, fun h9 => hw (by omega) c a.2⟩
    have k := a.next (show isL (B (f + n)) by rw [hb]; exact hl)
    rw [show f + n + 1 = f + (n + 1) by omega] at k; exact k
  · omega
theorem nxI.fig {B : Int → Int} {f ty n W F b W' F' g : Int} (h : nxI B f ty n W F) (ht : ty = 2) (h0 : 0 ≤ n) (hg : g = f + n) (hb : B g = b) (hl : 48 ≤ b ∧ b ≤ 57) (hF : n < 9 → F' = 10 * F + b - 48) : nxI B f ty (n + 1) W' F' := by
  subst hg
  rcases h with ⟨e, _⟩ | ⟨_, a, c⟩
  · omega
  · refine Or.inr ⟨ht, ?_, fun h9 => ?_⟩
    · have k := a.next (show isF (B (f + n)) by rw [hb]; exact hl)
      rw [show f + n + 1 = f + (n + 1) by omega] at k; exact k
    · have e : (n + 1).toNat = n.toNat + 1 := by omega
      rw [e]
      show F' = 10 * decN B f n.toNat + (B (f + ((n.toNat : Nat) : Int)) - 48)
      rw [show f + ((n.toNat : Nat) : Int) = f + n by omega, hb, ← c (by omega), hF (by omega)]
      omega
theorem nxI.le {B : Int → Int} {f ty n W F : Int} (h : nxI B f ty n W F) (ht : ty = 2) (hn : 0 ≤ n ∧ n ≤ 8) : 0 ≤ F ∧ F ≤ 99999999 := by
  rcases h with ⟨e, _⟩ | ⟨_, a, c⟩
  · omega
  · have g : ∀ j, f ≤ j → j < f + ((n.toNat : Nat) : Int) → isF (B j) := fun j x y => a.2 j x (by omega)
    have k1 := decN.nn _ g
    have k2 := decN.le _ g
    have k3 : (10 : Int) ^ n.toNat ≤ 100000000 := by
      have z : ∀ m : Fin 9, (10 : Int) ^ m.val ≤ 100000000 := by decide +kernel
      exact z ⟨n.toNat, by omega⟩
    rw [c (by omega)]
    omega
/-- a token is read -/
theorem nxK.mk {wr : Int → Int → Int → Prop} {B : Int → Int} {μ μ1 : mM} (h0 : μ 106 37 = 0) {p t v f q : Int} (hp : μ 106 33 = p) (tk : TokX wr B p t v f q) (ht : ¬ t = -3) (h1 : μ1 106 37 = 0) (ty : tyM μ1 t v) (hf : μ1 106 34 = f) (hq : μ1 106 33 = q) : nxK wr B μ μ1 := Or.inr ⟨h0, t, v, f, q, by rw [hp]; exact tk, Or.inl ⟨ht, h1, ty, hf, hq⟩⟩
theorem nxK.no {wr : Int → Int → Int → Prop} {B : Int → Int} {μ μ1 : mM} (h0 : μ 106 37 = 0) {p v f q : Int} (hp : μ 106 33 = p) (tk : TokX wr B p (-3) v f q) (h1 : μ1 106 37 = 1) (hf : μ1 106 38 = f) : nxK wr B μ μ1 := Or.inr ⟨h0, -3, v, f, q, by rw [hp]; exact tk, Or.inr ⟨rfl, h1, hf⟩⟩
theorem bR.neg {μ : mM} {k : Int} (h : 0 ≤ k) (hs : μ 106 1 ≤ k) : bR μ k = -1 := by
  unfold bR byteF
  rw [if_pos h, if_neg (by omega)]
theorem alX.zero {C : Int → Prop} {B : Int → Int} {f : Int} : alX C B f f := ⟨Int.le_refl f, fun j a b => by omega⟩
theorem TokX.en {wr : Int → Int → Int → Prop} {B : Int → Int} {p f : Int} (h0 : runX isB B p f) (hb : B f < 0) : TokX wr B p (-1) 0 f f := ⟨h0, Or.inl ⟨hb, rfl, rfl, rfl⟩⟩
theorem TokX.sg {wr : Int → Int → Int → Prop} {B : Int → Int} {p f q b : Int} (h0 : runX isB B p f) (hb : B f = b) (h1 : ¬ b < 0) (hl : b < 97 ∨ 122 < b) (hf : b < 48 ∨ 57 < b) (hq : q = f + 1) : TokX wr B p (1000 + b) 0 f q := by
  subst hb
  exact ⟨h0, Or.inr (Or.inr (Or.inr ⟨⟨h1, isL.no hl, isF.no hf⟩, rfl, rfl, hq⟩))⟩
theorem TokX.wd {B : Int → Int} {p f q n t b : Int} (h0 : runX isB B p f) (hb : B f = b) (hl : 97 ≤ b ∧ b ≤ 122) (h1 : runX isL B f q) (hw : wrW B f n t) (hn : q - f = n) : TokX (wrW B) B p t 0 f q := by
  subst hb; subst hn
  exact ⟨h0, Or.inr (Or.inl ⟨hl, h1, hw, rfl⟩)⟩
theorem TokX.nm {wr : Int → Int → Int → Prop} {B : Int → Int} {p f q n F b : Int} (h0 : runX isB B p f) (hb : B f = b) (hf : 48 ≤ b ∧ b ≤ 57) (h1 : runX isF B f q) (hn : q - f = n) (h9 : n ≤ 9) (hF : F = decN B f n.toNat) : TokX wr B p (-2) F f q := by
  subst hb; subst hn
  exact ⟨h0, Or.inr (Or.inr (Or.inl ⟨hf, h1, Or.inr ⟨h9, rfl, hF⟩⟩))⟩
theorem TokX.nl {wr : Int → Int → Int → Prop} {B : Int → Int} {p f q n b : Int} (h0 : runX isB B p f) (hb : B f = b) (hf : 48 ≤ b ∧ b ≤ 57) (h1 : runX isF B f q) (hn : q - f = n) (h9 : 9 < n) : TokX wr B p (-3) 0 f q := by
  subst hb; subst hn
  exact ⟨h0, Or.inr (Or.inr (Or.inl ⟨hf, h1, Or.inl ⟨h9, rfl, rfl⟩⟩))⟩
theorem nxI.L {B : Int → Int} {f ty n W F q b : Int} (h : nxI B f ty n W F) (ht : ty = 1) (hq : q = f + n) (hb : B q = b) (hl : b < 97 ∨ 122 < b) : runX isL B f q ∧ (n ≤ 8 → W = pkH B f n.toNat) := by
  subst hq
  rcases h with ⟨_, a, c⟩ | ⟨e, _⟩
  · exact ⟨a.run (by rw [hb]; exact isL.no hl), c⟩
  · omega
theorem nxI.G {B : Int → Int} {f ty n W F q b : Int} (h : nxI B f ty n W F) (ht : ty = 2) (hq : q = f + n) (hb : B q = b) (hl : b < 48 ∨ 57 < b) : runX isF B f q ∧ (n ≤ 9 → F = decN B f n.toNat) := by
  subst hq
  rcases h with ⟨e, _⟩ | ⟨_, a, c⟩
  · omega
  · exact ⟨a.run (by rw [hb]; exact isF.no hl), c⟩
theorem wrK.z {μ μ1 : mM} {k : Int} (h : wrK μ μ1 k) (hc : μ 106 37 = 0) : μ1 106 37 = k ∧ μ1 106 38 = μ 106 34 := by
  rcases h with ⟨a, _⟩ | ⟨_, a⟩
  · exact absurd hc a
  · exact a
theorem runX.isLle {B : Int → Int} {f q : Int} (h : runX isL B f q) : ∀ j, f ≤ j → j < q → isL (B j) := h.2.1
theorem wn29 {x : Int} (h0 : ¬ x = KW 0) (h1 : ¬ x = KW 1) (h2 : ¬ x = KW 2) (h3 : ¬ x = KW 3) (h4 : ¬ x = KW 4) (h5 : ¬ x = KW 5) (h6 : ¬ x = KW 6) (h7 : ¬ x = KW 7) (h8 : ¬ x = KW 8) (h9 : ¬ x = KW 9) (h10 : ¬ x = KW 10) (h11 : ¬ x = KW 11) (h12 : ¬ x = KW 12) (h13 : ¬ x = KW 13) (h14 : ¬ x = KW 14) (h15 : ¬ x = KW 15) (h16 : ¬ x = KW 16) (h17 : ¬ x = KW 17) (h18 : ¬ x = KW 18) (h19 : ¬ x = KW 19) (h20 : ¬ x = KW 20) (h21 : ¬ x = KW 21) (h22 : ¬ x = KW 22) (h23 : ¬ x = KW 23) (h24 : ¬ x = KW 24) (h25 : ¬ x = KW 25) (h26 : ¬ x = KW 26) (h27 : ¬ x = KW 27) (h28 : ¬ x = KW 28) : ∀ w : Nat, w < 29 → ¬ x = KW w := by
  intro w hw
  have z : w = 0 ∨ w = 1 ∨ w = 2 ∨ w = 3 ∨ w = 4 ∨ w = 5 ∨ w = 6 ∨ w = 7 ∨ w = 8 ∨ w = 9 ∨ w = 10 ∨ w = 11 ∨ w = 12 ∨ w = 13 ∨ w = 14 ∨ w = 15 ∨ w = 16 ∨ w = 17 ∨ w = 18 ∨ w = 19 ∨ w = 20 ∨ w = 21 ∨ w = 22 ∨ w = 23 ∨ w = 24 ∨ w = 25 ∨ w = 26 ∨ w = 27 ∨ w = 28 := by omega
  rcases z with e | e | e | e | e | e | e | e | e | e | e | e | e | e | e | e | e | e | e | e | e | e | e | e | e | e | e | e | e <;> subst e
  · exact h0
  · exact h1
  · exact h2
  · exact h3
  · exact h4
  · exact h5
  · exact h6
  · exact h7
  · exact h8
  · exact h9
  · exact h10
  · exact h11
  · exact h12
  · exact h13
  · exact h14
  · exact h15
  · exact h16
  · exact h17
  · exact h18
  · exact h19
  · exact h20
  · exact h21
  · exact h22
  · exact h23
  · exact h24
  · exact h25
  · exact h26
  · exact h27
  · exact h28
theorem runX.pos {C : Int → Prop} {B : Int → Int} {f q : Int} (h : runX C B f q) (hf : C (B f)) : f + 1 ≤ q := by
  rcases Int.lt_or_eq_of_le h.1 with g | g
  · omega
  · subst g
    exact absurd hf h.2.2
