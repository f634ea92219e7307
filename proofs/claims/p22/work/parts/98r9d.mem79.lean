/-! Messages: the parts of the class's message, its kind. -/
theorem ntA.keep {f k f' : Int} (h : ntA f k f') (hf : ¬ f = -99999999) : f' = f := by
  rcases h with ⟨a, _⟩ | ⟨_, b⟩
  · exact absurd a hf
  · exact b
def pfG (B : Int → Int) (μ μ1 : mM) (e k z : Int) : Prop := (¬ pfX B e k ∧ μ1 80 = μ 80 ∧ (0 < z ↔ k < e)) ∨ (pfX B e k ∧ ∃ p, 0 ≤ p ∧ ntR μ μ1 80 1 p)
theorem pfG.of {o : Nat} {B : Int → Int} {μ μ1 : mM} {e k z : Int} (h : pfR o μ μ1 e k z) (eB : bC o μ = B) : pfG B μ μ1 e k z := by
  unfold pfR at h
  rw [eB] at h
  exact h
/-- where a first fault of kind 1 was, there is one -/
theorem pfG.kept {B : Int → Int} {μ μ1 : mM} {e k z : Int} (h : pfG B μ μ1 e k z) (hf : ¬ μ 80 1 = -99999999) : ¬ μ1 80 1 = -99999999 := by
  rcases h with ⟨_, e, _⟩ | ⟨_, p, _, n⟩
  · rw [e]; exact hf
  · have g : μ1 80 1 = μ 80 1 := n.1.keep hf
    rw [g]; exact hf
def rdX (B : Int → Int) (n : Int) : Prop := bdB B n (2 + prA B 0) ∨ pfX B (2 + prA B 0) 2 ∨ pfX B n (2 + prA B 0 + 2 + prA B (2 + prA B 0))
def rdY (B : Int → Int) (n : Int) (r : AS) : Prop := ¬ r.2.2.2.1 = -99999999 ∨ (2 + prA B 0 + 2 + prA B (2 + prA B 0) < n ∧ ¬ (r.2.1 = 1 ∧ r.2.2.1 = 1))
def rdP (B : Int → Int) (s : AS) (f1 f2 f3 n : Int) : Prop :=
  (¬ f1 = -99999999 ∧ (bdA B n ∨ rdX B n)) ∨
  (f1 = -99999999 ∧ ¬ bdA B n ∧ ¬ rdX B n ∧ ∃ r : AS, atX B (2 + prA B 0 + 2 + prA B (2 + prA B 0)) (2 + prA B 0 + 2) s r ∧ (f2 = -99999999 ↔ ¬ rdY B n r) ∧ f3 = r.2.2.2.2)
theorem rdP.bad {B : Int → Int} {s : AS} {μ μ1 : mM} {a : Nat} {f2 f3 n k : Int} (h : bdA B n ∨ rdX B n) (g : ntR μ μ1 a 1 k) (hk : 0 ≤ k) : rdP B s (μ1 a 1) f2 f3 n := Or.inl ⟨g.1.is hk, h⟩
theorem bdA.l {B : Int → Int} {n : Int} (h : n < 2) : bdA B n := Or.inl h
theorem bdA.r {B : Int → Int} {n z : Int} (q : prA B 0 = z) (h : n < 2 + z) : bdA B n := Or.inr (by rw [q]; exact h)
theorem bdA.no {B : Int → Int} {n z : Int} (q : prA B 0 = z) (h2 : 2 ≤ n) (h : 2 + z ≤ n) : ¬ bdA B n := by
  unfold bdA
  rw [q]
  omega
theorem rdX.l {B : Int → Int} {n z b : Int} (q : prA B 0 = z) (hb : b = 2 + z) (h : n < b + 2) : rdX B n := Or.inl (Or.inl (by rw [q, ← hb]; exact h))
theorem rdX.r {B : Int → Int} {n z b z2 : Int} (q : prA B 0 = z) (hb : b = 2 + z) (q2 : prA B b = z2) (h : n < b + 2 + z2) : rdX B n := Or.inl (Or.inr (by rw [q, ← hb, q2]; exact h))
theorem rdP.fin {B : Int → Int} {μ μ3 μ5 μ6 μ7 μ1 : mM} {n z b wd z2 c an o v ho hv : Int} (h2 : 2 ≤ n) (q : prA B 0 = z) (hb : b = 2 + z) (hbn : b ≤ n)
    (k0 : μ 80 1 = -99999999) (p1 : pfG B μ μ3 b 2 wd) (e5 : μ5 80 = μ3 80) (e7 : μ5 77 = μ 77) (qo : μ 76 7 = o) (qo5 : μ5 76 7 = o) (qv : μ 76 8 = v) (qv5 : μ5 76 8 = v)
    (q2 : prA B b = z2) (hc : c = b + 2 + z2) (z20 : 0 ≤ z2) (hcn : c ≤ n) (c0 : 0 ≤ c) (ax : atX B c (b + 2) (sMC μ5) (sMC μ6)) (k1 : μ6 80 1 = μ5 80 1)
    (p2 : pfG B μ6 μ7 n c an) (qho : μ6 76 7 = ho) (qhv : μ6 76 8 = hv) (rho : 0 ≤ ho ∧ ho ≤ 1) (rhv : 0 ≤ hv ∧ hv ≤ 1)
    (hn : ((an ≤ 0 ∨ (¬ ho = 0 ∧ ¬ hv = 0)) ∧ μ1 80 = μ7 80) ∨ ((0 < an ∧ (ho = 0 ∨ hv = 0)) ∧ ntR μ7 μ1 80 2 c)) : rdP B (sMC μ) (μ1 80 1) (μ1 80 2) (μ1 80 3) n := by
  have m1 : μ1 80 1 = μ7 80 1 := by
    rcases hn with ⟨_, e⟩ | ⟨_, e⟩
    · rw [e]
    · exact e.2 1 (by decide)
  have m3 : μ1 80 3 = μ7 80 3 := by
    rcases hn with ⟨_, e⟩ | ⟨_, e⟩
    · rw [e]
    · exact e.2 3 (by decide)
  have eb : 2 + prA B 0 = b := by rw [q, hb]
  have ec : 2 + prA B 0 + 2 + prA B (2 + prA B 0) = c := by rw [eb, q2, hc]
  rcases p1 with ⟨p1n, e8, _⟩ | ⟨p1y, p, hp, nt⟩
  · rcases p2 with ⟨p2n, e8', hz⟩ | ⟨p2y, p, hp, nt⟩
    · refine Or.inr ⟨?_, bdA.no q h2 (by omega), ?_, sMC μ6, ?_, ?_, ?_⟩
      · rw [m1, e8', k1, e5, e8]; exact k0
      · unfold rdX bdB
        rw [ec, eb]
        rintro (g | g | g)
        · omega
        · exact p1n g
        · exact p2n g
      · have es : sMC μ5 = sMC μ := sMC.of e7 qo qo5 qv qv5 (e5.trans e8)
        rw [ec, eb, ← es]; exact ax
      · unfold rdY
        rw [ec]
        show μ1 80 2 = -99999999 ↔ ¬ (¬ μ6 80 2 = -99999999 ∨ (c < n ∧ ¬ (μ6 76 7 = 1 ∧ μ6 76 8 = 1)))
        rw [qho, qhv]
        have m2 : μ7 80 2 = μ6 80 2 := by rw [e8']
        rcases hn with ⟨a, e⟩ | ⟨a, e⟩
        · rw [e, m2]
          have g : ¬ (c < n ∧ ¬ (ho = 1 ∧ hv = 1)) := by
            rintro ⟨g1, g2⟩
            have := hz.mpr g1
            omega
          constructor
          · rintro x (y | y)
            · exact y x
            · exact g y
          · intro x
            by_cases y : μ6 80 2 = -99999999
            · exact y
            · exact absurd (Or.inl y) x
        · have y : ¬ μ1 80 2 = -99999999 := e.1.is c0
          constructor
          · intro x; exact absurd x y
          · intro x
            refine absurd (Or.inr ⟨hz.mp a.1, ?_⟩) x
            omega
      · rw [m3, e8']; rfl
    · refine Or.inl ⟨?_, Or.inr (Or.inr (Or.inr ?_))⟩
      · rw [m1]; exact nt.1.is hp
      · rw [ec]; exact p2y
  · refine Or.inl ⟨?_, Or.inr (Or.inr (Or.inl ?_))⟩
    · rw [m1]
      refine p2.kept ?_
      rw [k1, e5]
      exact nt.1.is hp
    · rw [eb]; exact p1y
theorem sMC.zero {μ : mM} (h : ∀ j : Nat, j < 256 → μ 77 j = 0) (h7 : μ 76 7 = 0) (h8 : μ 76 8 = 0) (f2 : μ 80 2 = -99999999) (f3 : μ 80 3 = -99999999) : sMC μ = (fun _ => 0, 0, 0, -99999999, -99999999) := by
  refine AS.ext ?_ ?_ ?_ ?_ ?_
  · exact sn.zero h
  · exact h7
  · exact h8
  · exact f2
  · exact f3
theorem oz.zero {μ : mM} (h7 : μ 76 7 = 0) (h8 : μ 76 8 = 0) : oz μ := ⟨fun _ => h7, fun _ => h8⟩
theorem kdZ.of {B : Int → Int} {s : AS} {n z g1 g2 g3 f1 f2 f3 : Int} (h : rdP B s g1 g2 g3 n) (hs : s = (fun _ => 0, 0, 0, -99999999, -99999999)) (q1 : g1 = f1) (q2 : g2 = f2) (q3 : g3 = f3)
    (hz : (¬ f1 = -99999999 ∧ z = 1) ∨ (f1 = -99999999 ∧ ((¬ f2 = -99999999 ∧ z = 2) ∨ (f2 = -99999999 ∧ ((¬ f3 = -99999999 ∧ z = 3) ∨ (f3 = -99999999 ∧ z = 0)))))) : kdZ B n z := by
  subst hs q1 q2 q3
  rcases h with ⟨a, b⟩ | ⟨a, b, c, r, x, y, w⟩
  · have hz1 : z = 1 := by
      rcases hz with ⟨_, e⟩ | ⟨e, _⟩
      · exact e
      · exact absurd e a
    by_cases g : bdA B n
    · exact Or.inl ⟨g, hz1⟩
    · refine Or.inr ⟨g, Or.inl ⟨?_, hz1⟩⟩
      rcases b with b | b
      · exact absurd b g
      · exact b
  · rcases hz with ⟨e, _⟩ | ⟨_, hz⟩
    · exact absurd a e
    · refine Or.inr ⟨b, Or.inr ⟨c, r, x, ?_⟩⟩
      rcases hz with ⟨e, e2⟩ | ⟨e, hz⟩
      · refine Or.inl ⟨?_, e2⟩
        by_cases g : rdY B n r
        · exact g
        · exact absurd (y.mpr g) e
      · refine Or.inr ⟨y.mp e, ?_⟩
        rw [w] at hz
        exact hz
