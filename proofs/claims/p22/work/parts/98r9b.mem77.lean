/-! Messages: the class's octets, its faults, what a loop does. -/
theorem rowB {lf : List Nat} {w : mW} {μ μ1 : mM} {a s : Nat} (hA : mAt w a s) (F : mF lf w μ μ1) (hl : lf.elem (1000 * s + 999) = false) (hm : mArr s = true) : μ1 a = μ a := funext fun i => F a i (by unfold mRg; rw [hA.1, hm]; exact hl)
def bC (b : Nat) (μ : mM) (k : Int) : Int := if k < μ 0 10 then (if 0 ≤ k then μ b k.toNat else 0) else -1
theorem bC.at {b : Nat} {μ μ1 : mM} {k z : Int} (e : μ1 b = μ b) (h0 : 0 ≤ k) (h1 : k < μ 0 10) (q : μ1 b k.toNat = z) : bC b μ k = z := by
  unfold bC
  rw [if_pos h1, if_pos h0, ← e]; exact q
theorem bC.of {b : Nat} {μ μ1 : mM} (e : μ1 b = μ b) (e0 : μ1 0 10 = μ 0 10) : bC b μ1 = bC b μ := by
  funext k
  unfold bC
  rw [e, e0]
/-- a fault is noted -/
def ntR (μ μ1 : mM) (a : Nat) (p k : Int) : Prop := ntA (μ a p.toNat) k (μ1 a p.toNat) ∧ ∀ i : Nat, i ≠ p.toNat → μ1 a i = μ a i
theorem ntR.put {μ μ1 : mM} {a : Nat} {p k x : Int} (q : μ a p.toNat = x) (hx : x = -99999999) (u : mU μ a p.toNat k μ1) : ntR μ μ1 a p k := ⟨Or.inl ⟨q.trans hx, u.1⟩, fun i hi => u.2 a i (Or.inr hi)⟩
theorem ntR.keep {μ : mM} {a : Nat} {p k x : Int} (q : μ a p.toNat = x) (hx : ¬ x = -99999999) : ntR μ μ a p k := ⟨Or.inr ⟨fun e => hx (q.symm.trans e), rfl⟩, fun _ _ => rfl⟩
/-- afterwards there is a fault -/
theorem ntA.is {f k f' : Int} (h : ntA f k f') (hk : 0 ≤ k) : ¬ f' = -99999999 := by
  rcases h with ⟨_, e⟩ | ⟨g, e⟩
  · omega
  · rw [e]; exact g
theorem pfX.go {B : Int → Int} {e k k' b n : Int} (h : k < e) (q : B k = b) (hn : n = (b + 7) / 8) (h1 : b ≤ 32) (h2 : k + 1 + n ≤ e) (hk : k' = k + 1 + n) : pfX B e k ↔ pfX B e k' := by
  rw [pfX.step h, q, hk, hn]
  rw [hn] at h2
  constructor
  · rintro (g | g | g)
    · omega
    · omega
    · exact g
  · intro g; exact Or.inr (Or.inr g)
theorem pfX.hit {B : Int → Int} {e k b n : Int} (h : k < e) (q : B k = b) (hn : n = (b + 7) / 8) (h1 : 32 < b ∨ e < k + 1 + n) : pfX B e k := by
  rw [pfX.step h, q]
  rcases h1 with g | g
  · exact Or.inl g
  · rw [hn] at g; exact Or.inr (Or.inl g)
theorem wyX.go {B : Int → Int} {e k m a c k' m' : Int} (h : k < e) (q1 : B k = a) (q2 : B (k + 1) = c) (h1 : k + 2 ≤ e) (ha : 1 ≤ a ∧ a ≤ 2) (hc : 1 ≤ c) (h2 : k + 2 + 4 * c ≤ e) (hk : k' = k + 2 + 4 * c) (hm : m' = m + c) : wyX B e k m ↔ wyX B e k' m' := by
  rw [wyX.step h, q1, q2, hk, hm]
  constructor
  · rintro ⟨_, _, _, _, g⟩; exact g
  · intro g; exact ⟨h1, by omega, hc, h2, g⟩
theorem wyX.not0 {B : Int → Int} {e k m : Int} (h : k < e) (h1 : e < k + 2) : ¬ wyX B e k m := fun g => by
  have := ((wyX.step h).mp g).1
  omega
theorem wyX.not {B : Int → Int} {e k m a c : Int} (h : k < e) (q1 : B k = a) (q2 : B (k + 1) = c) (hb : a < 1 ∨ 2 < a ∨ c < 1 ∨ e < k + 2 + 4 * c ∨ 20 < m + c) : ¬ wyX B e k m := fun g => by
  obtain ⟨g1, g2, g3, g4, g5⟩ := (wyX.step h).mp g
  have := g5.le
  rw [q1] at g2
  rw [q2] at g3 g4 this
  omega
/-- a row of flags, as far as there are types -/
def sn (r : Nat → Int) : Nat → Int := fun j => if j < 256 then r j else 0
theorem sn.up {μ μ1 : mM} {a : Nat} {t x : Int} (ht : 0 ≤ t ∧ t < 256) (u : mU μ a t.toNat x μ1) (hx : x = 1) : sn (μ1 a) = fun j => if j = t.toNat then 1 else sn (μ a) j := by
  funext j
  unfold sn
  by_cases c : j = t.toNat
  · subst c
    rw [if_pos (by omega), if_pos rfl, u.1, hx]
  · rw [if_neg c, u.2 a j (Or.inr c)]
theorem sn.at {r : Nat → Int} {t z : Int} (ht : 0 ≤ t ∧ t < 256) (q : r t.toNat = z) : sn r t.toNat = z := by
  unfold sn
  rw [if_pos (by omega)]; exact q
theorem sn.zero {r : Nat → Int} (h : ∀ j : Nat, j < 256 → r j = 0) : sn r = fun _ => 0 := by
  funext j
  unfold sn
  by_cases c : j < 256
  · rw [if_pos c]; exact h j c
  · rw [if_neg c]
def sMC (μ : mM) : AS := (sn (μ 77), μ 76 7, μ 76 8, μ 80 2, μ 80 3)
def prC (o : Nat) (μ : mM) (k : Int) : Int := bOr (bShl (μ o k.toNat) 8) (μ o (k + 1).toNat)
theorem prC.mk {o : Nat} {μ : mM} {k e a s b z : Int} (q1 : μ o k.toNat = a) (q2 : bShl a 8 = s) (he : e = k + 1) (q3 : μ o e.toNat = b) (q4 : bOr s b = z) : z = prC o μ k := by
  subst he
  unfold prC
  rw [q1, q2, q3, q4]
theorem prC.pr {o : Nat} {μ μ1 : mM} {k z : Int} (e : μ1 o = μ o) (h0 : 0 ≤ k) (h1 : k + 1 < μ 0 10) (hz : z = prC o μ1 k) : prA (bC o μ) k = z := by
  unfold prA
  rw [bC.at (μ := μ) rfl h0 (by omega) rfl, bC.at (μ := μ) rfl (by omega) h1 rfl, hz]
  unfold prC
  rw [e]
/-- what reading prefixes does -/
def pfR (o : Nat) (μ μ1 : mM) (e k z : Int) : Prop := (¬ pfX (bC o μ) e k ∧ μ1 80 = μ 80 ∧ (0 < z ↔ k < e)) ∨ (pfX (bC o μ) e k ∧ ∃ p, 0 ≤ p ∧ ntR μ μ1 80 1 p)
theorem pfR.none {o : Nat} {μ μ1 : mM} {e k k' z : Int} (h : pfX (bC o μ) e k ↔ pfX (bC o μ) e k') (hk : e ≤ k') (e8 : μ1 80 = μ 80) (hz : 0 < z ↔ k < e) : pfR o μ μ1 e k z := Or.inl ⟨fun g => pfX.done hk (h.mp g), e8, hz⟩
theorem pfR.hit {o : Nat} {μ μ0 μ1 : mM} {e k k' p z : Int} (h : pfX (bC o μ) e k ↔ pfX (bC o μ) e k') (g : pfX (bC o μ) e k') (hp : 0 ≤ p) (e8 : μ0 80 = μ 80) (n : ntR μ0 μ1 80 1 p) : pfR o μ μ1 e k z := Or.inr ⟨h.mpr g, p, hp, by unfold ntR at n ⊢; rw [← e8]; exact n⟩
