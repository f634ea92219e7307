/-! The class's reader: the text into tokens. -/
def bgW : Nat → Nat
  | 0 => 0
  | w + 1 => bgW w + lenW w + 1
theorem wsT : ∀ W : Fin 29, (∀ j : Fin 8, j.val < lenW W.val → wsZ ((bgW W.val + j.val : Nat) : Int) = chW W.val j.val ∧ ¬ chW W.val j.val = 32) ∧ wsZ ((bgW W.val + lenW W.val : Nat) : Int) = 32 ∧ lenW W.val ≤ 8 ∧ bgW W.val + lenW W.val ≤ 146 := by decide +kernel
theorem wsU {W : Nat} (hW : W < 29) : (∀ j : Nat, j < lenW W → wsZ ((bgW W + j : Nat) : Int) = chW W j ∧ ¬ chW W j = 32) ∧ wsZ ((bgW W + lenW W : Nat) : Int) = 32 ∧ lenW W ≤ 8 ∧ bgW W + lenW W ≤ 146 := by
  have t := wsT ⟨W, hW⟩
  exact ⟨fun j hj => t.1 ⟨j, Nat.lt_of_lt_of_le hj t.2.2.1⟩ hj, t.2.1, t.2.2.1, t.2.2.2⟩
theorem bgW29 : bgW 29 = 147 := by decide +kernel
/-- the words before the w-th are not it; of the w-th (from b on) what stands before i is, if s is 1 -/
def wdI (B : Int → Int) (f n w b s i : Int) : Prop := ∃ W : Nat, W ≤ 29 ∧ w = (W : Int) ∧ b = (bgW W : Int) ∧ b ≤ i ∧ i ≤ b + (lenW W : Int) ∧ (∀ w' : Nat, w' < W → ¬ wrM B f n w') ∧ (s = 1 ↔ (i - b ≤ n ∧ ∀ j : Nat, (j : Int) < i - b → B (f + (j : Int)) = chW W j))
theorem wdI.zero {B : Int → Int} {f n : Int} (hn : 0 ≤ n) : wdI B f n 0 0 1 0 := ⟨0, by decide, rfl, rfl, Int.le_refl 0, by omega, fun w' h => absurd h (Nat.not_lt_zero _), ⟨fun _ => ⟨by omega, fun j hj => by omega⟩, fun _ => rfl⟩⟩
theorem wdI.chr {B : Int → Int} {f n w b s i z s' : Int} (h : wdI B f n w b s i) (hi : i < 147) (hz : z = wsZ i) (hne : ¬ z = 32) (hs : (s' = 1 ∧ s = 1 ∧ i - b < n ∧ B (f + i - b) = z) ∨ (s' = 0 ∧ ¬ (s = 1 ∧ i - b < n ∧ B (f + i - b) = z))) : wdI B f n w b s' (i + 1) := by
  obtain ⟨W, h1, h2, h3, h4, h5, h6, h7⟩ := h
  have hW : W < 29 := by
    rcases Nat.lt_or_ge W 29 with g | g
    · exact g
    · have e : W = 29 := by omega
      rw [e, bgW29] at h3
      omega
  obtain ⟨t1, t2, t3, t4⟩ := wsU hW
  have hlt : i < b + (lenW W : Int) := by
    rcases Int.lt_or_eq_of_le h5 with g | g
    · exact g
    · exfalso
      apply hne
      have e1 : i = ((bgW W + lenW W : Nat) : Int) := by omega
      rw [hz, e1]; exact t2
  have hj : (i - b).toNat < lenW W := by omega
  have e0 : i = ((bgW W + (i - b).toNat : Nat) : Int) := by omega
  have ez : z = chW W (i - b).toNat := by
    rw [hz]
    have g := (t1 (i - b).toNat hj).1
    rw [← g, ← e0]
  have ex : f + i - b = f + (((i - b).toNat : Nat) : Int) := by omega
  rw [ex] at hs
  refine ⟨W, h1, h2, h3, by omega, by omega, h6, ?_⟩
  constructor
  · intro q
    rcases hs with ⟨_, a, b1, c⟩ | ⟨a, _⟩
    · have g := h7.mp a
      refine ⟨by omega, fun j hj2 => ?_⟩
      by_cases e : j = (i - b).toNat
      · rw [e, c]; exact ez
      · exact g.2 j (by omega)
    · omega
  · intro q
    rcases hs with ⟨a, _⟩ | ⟨_, a⟩
    · exact a
    · exfalso
      apply a
      refine ⟨h7.mpr ⟨by omega, fun j hj2 => q.2 j (by omega)⟩, by omega, ?_⟩
      rw [q.2 (i - b).toNat (by omega)]; exact ez.symm
theorem wdI.spc {B : Int → Int} {f n w b s i z : Int} (h : wdI B f n w b s i) (hi : i < 147) (hz : z = wsZ i) (h32 : z = 32) : ∃ W : Nat, W < 29 ∧ w = (W : Int) ∧ b = (bgW W : Int) ∧ i = b + (lenW W : Int) ∧ (∀ w' : Nat, w' < W → ¬ wrM B f n w') ∧ (s = 1 ↔ (i - b ≤ n ∧ ∀ j : Nat, (j : Int) < i - b → B (f + (j : Int)) = chW W j)) := by
  obtain ⟨W, h1, h2, h3, h4, h5, h6, h7⟩ := h
  have hW : W < 29 := by
    rcases Nat.lt_or_ge W 29 with g | g
    · exact g
    · have e : W = 29 := by omega
      rw [e, bgW29] at h3
      omega
  obtain ⟨t1, t2, t3, t4⟩ := wsU hW
  refine ⟨W, hW, h2, h3, ?_, h6, h7⟩
  rcases Int.lt_or_eq_of_le h5 with g | g
  · exfalso
    have hj : (i - b).toNat < lenW W := by omega
    have e0 : i = ((bgW W + (i - b).toNat : Nat) : Int) := by omega
    have k := t1 (i - b).toNat hj
    apply k.2
    rw [← k.1, ← e0, ← hz]; exact h32
  · exact g
theorem wdI.nxt {B : Int → Int} {f n w b s i z : Int} (h : wdI B f n w b s i) (hi : i < 147) (hz : z = wsZ i) (h32 : z = 32) (hs : ¬ (s = 1 ∧ i - b = n)) (hn : 0 ≤ n) : wdI B f n (w + 1) (i + 1) 1 (i + 1) := by
  obtain ⟨W, h1, h2, h3, h4, h6, h7⟩ := h.spc hi hz h32
  have e : bgW (W + 1) = bgW W + lenW W + 1 := rfl
  refine ⟨W + 1, by omega, by omega, by rw [e]; omega, by omega, by omega, fun w' hw' => ?_, ⟨fun _ => ⟨by omega, fun j hj => by omega⟩, fun _ => rfl⟩⟩
  by_cases q : w' = W
  · subst q
    intro k
    apply hs
    have k1 := k.1
    exact ⟨h7.mpr ⟨by omega, fun j hj => k.2 j (by omega)⟩, by omega⟩
  · exact h6 w' (by omega)
theorem wdI.hit {B : Int → Int} {f n w b s i z : Int} (h : wdI B f n w b s i) (hi : i < 147) (hz : z = wsZ i) (h32 : z = 32) (hs : s = 1) (he : i - b = n) : wrW B f n w := by
  obtain ⟨W, h1, h2, h3, h4, h6, h7⟩ := h.spc hi hz h32
  have g := h7.mp hs
  exact Or.inl ⟨W, h1, h2, by omega, fun j hj => g.2 j (by omega)⟩
theorem wdI.fin {B : Int → Int} {f n w b s i : Int} (h : wdI B f n w b s i) (hi : 147 ≤ i) : wrW B f n (-3) := by
  obtain ⟨W, h1, h2, h3, h4, h5, h6, h7⟩ := h
  refine Or.inr ⟨rfl, fun w' hw' => h6 w' ?_⟩
  rcases Nat.lt_or_ge W 29 with g | g
  · have t := (wsU g).2.2.2
    omega
  · omega
/-- a token is put -/
def ptK (μ μ1 : mM) (e k v f : Int) : Prop := μ1 23 8 = e + 1 ∧ μ1 24 e.toNat = k ∧ μ1 25 e.toNat = v ∧ μ1 26 e.toNat = f ∧ ∀ i : Nat, i ≠ e.toNat → μ1 24 i = μ 24 i ∧ μ1 25 i = μ 25 i ∧ μ1 26 i = μ 26 i
theorem ptK.mk {μ μa μb μc μ1 : mM} {e k v f x : Int} (u1 : mU μ 24 e.toNat k μa) (u2 : mU μa 25 e.toNat v μb) (u3 : mU μb 26 e.toNat f μc) (u4 : mU μc 23 8 x μ1) (hx : x = e + 1) : ptK μ μ1 e k v f := by
  have d1 : ∀ a i, a ≠ 23 → μ1 a i = μc a i := fun a i h => u4.2 a i (Or.inl h)
  refine ⟨u4.1.trans hx, ?_, ?_, ?_, fun i hi => ⟨?_, ?_, ?_⟩⟩
  · rw [d1 _ _ (by decide), u3.2 _ _ (Or.inl (by decide)), u2.2 _ _ (Or.inl (by decide))]; exact u1.1
  · rw [d1 _ _ (by decide), u3.2 _ _ (Or.inl (by decide))]; exact u2.1
  · rw [d1 _ _ (by decide)]; exact u3.1
  · rw [d1 _ _ (by decide), u3.2 _ _ (Or.inl (by decide)), u2.2 _ _ (Or.inl (by decide))]; exact u1.2 _ _ (Or.inr hi)
  · rw [d1 _ _ (by decide), u3.2 _ _ (Or.inl (by decide)), u2.2 _ _ (Or.inr hi)]; exact u1.2 _ _ (Or.inl (by decide))
  · rw [d1 _ _ (by decide), u3.2 _ _ (Or.inr hi), u2.2 _ _ (Or.inl (by decide))]; exact u1.2 _ _ (Or.inl (by decide))
theorem decN.le {B : Int → Int} {p : Int} : ∀ n : Nat, (∀ i, p ≤ i → i < p + (n : Int) → isF (B i)) → decN B p n + 1 ≤ 10 ^ n
  | 0, _ => by simp [decN]
  | n + 1, h => by
    have h1 := decN.le n (fun i a b => h i a (by omega))
    have h2 := h (p + (n : Int)) (by omega) (by omega)
    unfold isF at h2
    show 10 * decN B p n + (B (p + (n : Int)) - 48) + 1 ≤ 10 ^ (n + 1)
    rw [Int.pow_succ]
    omega
/-- a number's figures so far -/
def nmI (B : Int → Int) (f i x : Int) : Prop := f ≤ i ∧ x = decN B f (i - f).toNat
theorem nmI.zero {B : Int → Int} {f : Int} : nmI B f f 0 := ⟨Int.le_refl f, by rw [Int.sub_self]; rfl⟩
theorem nmI.next {B : Int → Int} {f i x v y : Int} (h : nmI B f i x) (hv : B i = v) (hy : y = x * 10 + v - 48) : nmI B f (i + 1) y := by
  refine ⟨by have := h.1; omega, ?_⟩
  have e : (i + 1 - f).toNat = (i - f).toNat + 1 := by have := h.1; omega
  have e2 : f + (((i - f).toNat : Nat) : Int) = i := by have := h.1; omega
  rw [e]
  show y = 10 * decN B f (i - f).toNat + (B (f + (((i - f).toNat : Nat) : Int)) - 48)
  rw [e2, ← h.2, hv, hy]
  omega
theorem nmI.le {B : Int → Int} {f i x q : Int} (h : nmI B f i x) (hF : ∀ j, f ≤ j → j < q → isF (B j)) (hi : i ≤ q) (h8 : i - f ≤ 8) : 0 ≤ x ∧ x ≤ 99999999 := by
  have g : ∀ j, f ≤ j → j < f + (((i - f).toNat : Nat) : Int) → isF (B j) := fun j a b => hF j a (by have := h.1; omega)
  have k1 := decN.nn _ g
  have k2 := decN.le _ g
  have k3 : (10 : Int) ^ (i - f).toNat ≤ 100000000 := by
    have z : ∀ m : Fin 9, (10 : Int) ^ m.val ≤ 100000000 := by decide +kernel
    exact z ⟨(i - f).toNat, by omega⟩
  rw [h.2]
  omega
def nuK (B : Int → Int) (μ μ1 : mM) (e f q : Int) : Prop := (9 < q - f ∧ ptK μ μ1 e (-3) 0 f) ∨ (q - f ≤ 9 ∧ ptK μ μ1 e (-2) (decN B f (q - f).toNat) f)
theorem ptK.cg {μ μ1 : mM} {e k v v' f : Int} (h : ptK μ μ1 e k v f) (e1 : v = v') : ptK μ μ1 e k v' f := by subst e1; exact h
/-- the tokens so far -/
def sgN (wr : Int → Int → Int → Prop) (B : Int → Int) (μ : mM) : Nat → Int → Prop
  | 0, p => p = 0
  | n + 1, p => ∃ p0, sgN wr B μ n p0 ∧ ¬ μ 24 n = -1 ∧ TokX wr B p0 (μ 24 n) (μ 25 n) (μ 26 n) p
theorem sgN.of {wr : Int → Int → Int → Prop} {B : Int → Int} {μ μ1 : mM} : ∀ (n : Nat) (p : Int), sgN wr B μ n p → (∀ i : Nat, i < n → μ1 24 i = μ 24 i ∧ μ1 25 i = μ 25 i ∧ μ1 26 i = μ 26 i) → sgN wr B μ1 n p
  | 0, _, h, _ => h
  | n + 1, p, ⟨p0, h1, h2, h3⟩, e => by
    obtain ⟨a, b, c⟩ := e n (Nat.lt_succ_self n)
    exact ⟨p0, sgN.of n p0 h1 (fun i hi => e i (Nat.lt_succ_of_lt hi)), by rw [a]; exact h2, by rw [a, b, c]; exact h3⟩
theorem sgN.to {wr : Int → Int → Int → Prop} {B : Int → Int} {μ : mM} : ∀ (n m : Nat) (p : Int), (n : Int) ≤ μ 23 8 → sgN wr B μ n p → sqN wr B μ m (n : Int) p → SqT wr B μ 0 0
  | 0, m, p, _, h, k => by
    have e : p = 0 := h
    subst e
    exact ⟨m, k⟩
  | n + 1, m, p, hn, ⟨p0, h1, h2, h3⟩, k => by
    refine sgN.to n (m + 1) p0 (by omega) h1 ⟨by omega, ?_, p, ?_, ?_⟩
    · rw [Int.toNat_natCast]; exact h2
    · rw [Int.toNat_natCast]; exact h3
    · rw [show (n : Int) + 1 = ((n + 1 : Nat) : Int) from by omega]; exact k
def spI (B : Int → Int) (μ : mM) (e L : Int) : Prop := 0 ≤ e ∧ ∃ p, sgN (wrW B) B μ e.toNat p ∧ p ≤ L ∧ ∀ i, p ≤ i → i < L → isB (B i)
theorem spI.zero {B : Int → Int} {μ : mM} : spI B μ 0 0 := ⟨Int.le_refl 0, 0, rfl, Int.le_refl 0, fun i a b => by omega⟩
theorem spI.blank {B : Int → Int} {μ : mM} {e L : Int} (h : spI B μ e L) (hb : isB (B L)) : spI B μ e (L + 1) := by
  obtain ⟨h0, p, h1, h2, h3⟩ := h
  refine ⟨h0, p, h1, by omega, fun i a b => ?_⟩
  by_cases q : i = L
  · subst q; exact hb
  · exact h3 i a (by omega)
theorem spI.tok {B : Int → Int} {μ μ1 : mM} {e L k v q : Int} (h : spI B μ e L) (pk : ptK μ μ1 e k v L) (hb : ¬ isB (B L)) (hk : ¬ k = -1)
    (hx : (B L < 0 ∧ k = -1 ∧ v = 0 ∧ q = L) ∨ (isL (B L) ∧ runX isL B L q ∧ wrW B L (q - L) k ∧ v = 0) ∨ (isF (B L) ∧ runX isF B L q ∧ ((9 < q - L ∧ k = -3 ∧ v = 0) ∨ (q - L ≤ 9 ∧ k = -2 ∧ v = decN B L (q - L).toNat))) ∨ ((¬ B L < 0 ∧ ¬ isL (B L) ∧ ¬ isF (B L)) ∧ k = 1000 + B L ∧ v = 0 ∧ q = L + 1)) : spI B μ1 (e + 1) q := by
  obtain ⟨h0, p, h1, h2, h3⟩ := h
  obtain ⟨p1, p2, p3, p4, p5⟩ := pk
  refine ⟨by omega, q, ?_, Int.le_refl q, fun i a b => by omega⟩
  have en : (e + 1).toNat = e.toNat + 1 := by omega
  rw [en]
  refine ⟨p, sgN.of _ _ h1 (fun i hi => p5 i (by omega)), by rw [p2]; exact hk, ?_⟩
  rw [p2, p3, p4]
  exact ⟨⟨h2, h3, hb⟩, hx⟩
theorem spI.num {B : Int → Int} {μ μ1 : mM} {e L q : Int} (h : spI B μ e L) (nu : nuK B μ μ1 e L q) (hf : isF (B L)) (hr : runX isF B L q) : spI B μ1 (e + 1) q := by
  have nb : ¬ isB (B L) := fun g => by unfold isB at g; unfold isF at hf; omega
  rcases nu with ⟨a, b⟩ | ⟨a, b⟩
  · exact h.tok b nb (by decide) (Or.inr (Or.inr (Or.inl ⟨hf, hr, Or.inl ⟨a, rfl, rfl⟩⟩)))
  · exact h.tok b nb (by decide) (Or.inr (Or.inr (Or.inl ⟨hf, hr, Or.inr ⟨a, rfl, rfl⟩⟩)))
theorem spI.word {B : Int → Int} {μ μ1 : mM} {e L q k : Int} (h : spI B μ e L) (pk : ptK μ μ1 e k 0 L) (hl : isL (B L)) (hr : runX isL B L q) (hw : wrW B L (q - L) k) : spI B μ1 (e + 1) q := by
  have nb : ¬ isB (B L) := fun g => by unfold isB at g; unfold isL at hl; omega
  refine h.tok pk nb ?_ (Or.inr (Or.inl ⟨hl, hr, hw, rfl⟩))
  rcases hw with ⟨w, _, a, _⟩ | ⟨a, _⟩ <;> omega
theorem spI.sign {B : Int → Int} {μ μ1 : mM} {e L k : Int} (h : spI B μ e L) (pk : ptK μ μ1 e k 0 L) (hk : k = 1000 + B L) (h0 : ¬ B L < 0) (hl : ¬ isL (B L)) (hf : ¬ isF (B L)) (hb : ¬ isB (B L)) : spI B μ1 (e + 1) (L + 1) := h.tok pk hb (by omega) (Or.inr (Or.inr (Or.inr ⟨⟨h0, hl, hf⟩, hk, rfl, rfl⟩)))
theorem spI.fin {B : Int → Int} {μ μa μb : mM} {e L : Int} (h : spI B μ e L) (q8 : μ 23 8 = e) (hB : B L = -1) (u1 : mU μ 24 e.toNat (-1) μa) (u2 : mU μa 26 e.toNat L μb) : SqT (wrW B) B μb 0 0 := by
  obtain ⟨h0, p, h1, h2, h3⟩ := h
  have e8 : μb 23 8 = e := by rw [u2.2 _ _ (Or.inl (by decide)), u1.2 _ _ (Or.inl (by decide))]; exact q8
  have e4 : μb 24 e.toNat = -1 := by rw [u2.2 _ _ (Or.inl (by decide))]; exact u1.1
  have ee : ((e.toNat : Nat) : Int) = e := Int.toNat_of_nonneg h0
  refine sgN.to e.toNat 0 p (by rw [e8]; omega) (sgN.of _ _ h1 (fun i hi => ⟨?_, ?_, ?_⟩)) ?_
  · rw [u2.2 _ _ (Or.inl (by decide))]; exact u1.2 _ _ (Or.inr (by omega))
  · rw [u2.2 _ _ (Or.inl (by decide))]; exact u1.2 _ _ (Or.inl (by decide))
  · rw [u2.2 _ _ (Or.inr (by omega))]; exact u1.2 _ _ (Or.inl (by decide))
  · rw [ee]
    refine ⟨e8.symm, e4, L, ?_⟩
    rw [u2.1]
    exact ⟨⟨h2, h3, fun g => by unfold isB at g; omega⟩, Or.inl ⟨by omega, rfl, rfl, rfl⟩⟩
theorem SqT.cgB {B B' : Int → Int} {μ : mM} {i p : Int} (h : SqT (wrW B) B μ i p) (e : B' = B) : SqT (wrW B') B' μ i p := by subst e; exact h
/-- all from f up to i are of the kind C -/
def alX (C : Int → Prop) (B : Int → Int) (f i : Int) : Prop := f ≤ i ∧ ∀ j, f ≤ j → j < i → C (B j)
theorem alX.one {C : Int → Prop} {B : Int → Int} {f : Int} (h : C (B f)) : alX C B f (f + 1) := ⟨by omega, fun j a b => by
  have e : j = f := by omega
  rw [e]; exact h⟩
theorem alX.next {C : Int → Prop} {B : Int → Int} {f i : Int} (h : alX C B f i) (hc : C (B i)) : alX C B f (i + 1) := ⟨by have := h.1; omega, fun j a b => by
  by_cases e : j = i
  · rw [e]; exact hc
  · exact h.2 j a (by omega)⟩
theorem alX.run {C : Int → Prop} {B : Int → Int} {f i : Int} (h : alX C B f i) (hc : ¬ C (B i)) : runX C B f i := ⟨h.1, h.2, hc⟩
theorem bC.end {b : Nat} {μ : mM} {k n : Int} (q : μ 0 10 = n) (h : n ≤ k) : bC b μ k = -1 := by
  unfold bC
  rw [if_neg (by omega)]
theorem isL.no {x : Int} (h : x < 97 ∨ 122 < x) : ¬ isL x := fun g => by unfold isL at g; omega
theorem isF.no {x : Int} (h : x < 48 ∨ 57 < x) : ¬ isF x := fun g => by unfold isF at g; omega
theorem isB.no {x : Int} (h : ¬ x = 32 ∧ ¬ x = 10) : ¬ isB x := fun g => by unfold isB at g; omega
theorem CSc.init {μ μ' : mM} (sq : SqT (wrW (bC 1 μ)) (bC 1 μ) μ 0 0) (tb : tbC μ μ') (h9 : μ' 23 9 = 0) (h18 : μ' 23 18 = 0) {r m : Int} (hr : r = 0) (hm : m = 0) : CSc μ' (fun p => (0, p, r, m, 0, 0)) := by
  subst hr; subst hm
  exact CSc.in tb (Or.inl ⟨h18, 0, by rw [h9]; exact sq.of tb.1.1 tb.1.2.1 tb.1.2.2.1 tb.1.2.2.2, rcC.refl⟩)
def RdC (μ μ1 : mM) (c : Int) : Prop := ∃ f, rcC (wrW (bC 1 μ)) mskF (bC 1 μ) c (0, 0, 0, 0, 0, 0) (erC (μ1 23 18) f) ∧ (¬ μ1 23 18 = 0 → f = μ1 23 19)
theorem RdC.mk {μ μ1 : mM} {r m c : Int} (h : CSc μ1 (fun p => (0, p, r, m, 0, 0))) (ht : cT μ1 = -1) (e1 : μ1 1 = μ 1) (e0 : μ1 0 10 = μ 0 10) (ec : μ1 23 14 = c) : RdC μ μ1 c := by
  have g := CSt.done h ht
  rw [bC.of e1 e0, ec] at g
  exact g
theorem nuK.cgB {B B' : Int → Int} {μ μ1 : mM} {e f q : Int} (h : nuK B μ μ1 e f q) (e1 : B' = B) : nuK B' μ μ1 e f q := by subst e1; exact h
theorem wrW.cgB {B B' : Int → Int} {f n k : Int} (h : wrW B f n k) (e : B' = B) : wrW B' f n k := by subst e; exact h
