/-! Messages: the reference's octets, its attributes. -/
def bR (μ : mM) (k : Int) : Int := if 0 ≤ k then byteF μ k else 0
theorem bR.at {μ : mM} {k z : Int} (h : 0 ≤ k) (q : byteF μ k = z) : bR μ k = z := by
  unfold bR
  rw [if_pos h]; exact q
theorem bR.keep {l : List Nat} {w : mW} {μ μ1 : mM} (hw : mWF w) (hF : mF l w μ μ1) (hl : tpFree l = true) : bR μ1 = bR μ := by
  funext k
  unfold bR
  rw [byteF.keep hw hF hl]
theorem bR.get {l : List Nat} {w : mW} {μ μ1 : mM} {k z : Int} (hw : mWF w) (hF : mF l w μ μ1) (hl : tpFree l = true) (h : 0 ≤ k) (q : byteF μ1 k = z) : bR μ k = z := bR.at h ((byteF.keep hw hF hl).symm.trans q)
theorem byteF.rng {μ : mM} {k : Int} (h : k < μ 106 1) : 0 ≤ byteF μ k ∧ byteF μ k ≤ 255 := by
  unfold byteF
  rw [if_pos h]
  exact rAndR (rR (x := 255)) rfl
theorem or0_fin : ∀ b : Fin 256, bOr (bShl 0 8) ((b.val : Nat) : Int) = ((b.val : Nat) : Int) := by decide +kernel
theorem and49_fin : ∀ b : Fin 256, bAnd ((b.val : Nat) : Int) 207 = bAnd ((b.val : Nat) : Int) (-49) := by decide +kernel
theorem or0 {b : Int} (h : 0 ≤ b ∧ b ≤ 255) : bOr (bShl 0 8) b = b := by
  have e : ((b.toNat : Nat) : Int) = b := Int.toNat_of_nonneg h.1
  have g : bOr (bShl 0 8) ((b.toNat : Nat) : Int) = ((b.toNat : Nat) : Int) := or0_fin ⟨b.toNat, by omega⟩
  rw [e] at g; exact g
theorem and49 {b f : Int} (h : 0 ≤ b ∧ b ≤ 255) (q : bAnd b (-49) = f) : bAnd b 207 = f := by
  have e : ((b.toNat : Nat) : Int) = b := Int.toNat_of_nonneg h.1
  have g : bAnd ((b.toNat : Nat) : Int) 207 = bAnd ((b.toNat : Nat) : Int) (-49) := and49_fin ⟨b.toNat, by omega⟩
  rw [e] at g; exact g.trans q
theorem numF.one {μ : mM} {k n z : Int} (h0 : 0 ≤ k) (hk : k < μ 106 1) (h : numF μ k n = z) (hn : n = 1) : bR μ k = z := by
  subst hn
  have e : numF μ k 1 = bOr (bShl 0 8) (byteF μ (k + ((0 : Nat) : Int))) := rfl
  have e2 : k + ((0 : Nat) : Int) = k := by omega
  rw [e, e2, or0 (byteF.rng hk)] at h
  exact bR.at h0 h
theorem numF.two {μ : mM} {k n z : Int} (h0 : 0 ≤ k) (hk : k < μ 106 1) (h : numF μ k n = z) (hn : n = 2) : prA (bR μ) k = z := by
  subst hn
  have e : numF μ k 2 = bOr (bShl (bOr (bShl 0 8) (byteF μ (k + ((0 : Nat) : Int)))) 8) (byteF μ (k + ((1 : Nat) : Int))) := rfl
  have e2 : k + ((0 : Nat) : Int) = k := by omega
  have e3 : k + ((1 : Nat) : Int) = k + 1 := rfl
  rw [e, e2, e3, or0 (byteF.rng hk)] at h
  unfold prA
  rw [bR.at h0 rfl, bR.at (k := k + 1) (by omega) rfl]
  exact h
theorem wyX.notA {B : Int → Int} {e k m a : Int} (h : k < e) (q1 : B k = a) (ha : a < 1 ∨ 2 < a) : ¬ wyX B e k m := fun g => by
  obtain ⟨_, g2, _⟩ := (wyX.step h).mp g
  rw [q1] at g2
  omega
theorem wyX.notC {B : Int → Int} {e k m c : Int} (h : k < e) (q2 : B (k + 1) = c) (hc : c < 1 ∨ e < k + 2 + 4 * c) : ¬ wyX B e k m := fun g => by
  obtain ⟨_, _, g3, g4, _⟩ := (wyX.step h).mp g
  rw [q2] at g3 g4
  omega
def pfH (B : Int → Int) (μ μ1 : mM) (e k : Int) : Prop := (¬ pfX B e k ∧ μ1 172 = μ 172) ∨ (pfX B e k ∧ ∃ p, 0 ≤ p ∧ ntR μ μ1 172 1 p)
theorem pfH.none {B : Int → Int} {μ μ1 : mM} {e k k' : Int} (h : pfX B e k ↔ pfX B e k') (hk : e ≤ k') (e8 : μ1 172 = μ 172) : pfH B μ μ1 e k := Or.inl ⟨fun g => pfX.done hk (h.mp g), e8⟩
theorem pfH.hit {B : Int → Int} {μ μ0 μ1 : mM} {e k k' p : Int} (h : pfX B e k ↔ pfX B e k') (g : pfX B e k') (hp : 0 ≤ p) (e8 : μ0 172 = μ 172) (n : ntR μ0 μ1 172 1 p) : pfH B μ μ1 e k := Or.inr ⟨h.mpr g, p, hp, n.of e8⟩
theorem pfH.of {B B' : Int → Int} {μ μ1 : mM} {e k : Int} (h : pfH B' μ μ1 e k) (eB : B' = B) : pfH B μ μ1 e k := by rw [← eB]; exact h
theorem pfH.kept {B : Int → Int} {μ μ1 : mM} {e k : Int} (h : pfH B μ μ1 e k) (hf : ¬ μ 172 1 = -99999999) : ¬ μ1 172 1 = -99999999 := by
  rcases h with ⟨_, e⟩ | ⟨_, p, _, n⟩
  · rw [e]; exact hf
  · have g : μ1 172 1 = μ 172 1 := n.1.keep hf
    rw [g]; exact hf
def sMR (μ : mM) : AS := (sn (μ 171), μ 106 98, μ 106 99, μ 172 2, μ 172 3)
def o71 (μ μ1 : mM) (t : Int) : Prop := μ1 171 t.toNat = 1 ∧ ∀ j : Nat, j ≠ t.toNat → μ1 171 j = μ 171 j
theorem o71.mk {μ μ' μ1 : mM} {t x : Int} (u : mU μ 171 t.toNat x μ') (hx : x = 1) (e : μ1 171 = μ' 171) : o71 μ μ1 t := by
  unfold o71
  rw [e]
  exact ⟨u.1.trans hx, fun j hj => u.2 171 j (Or.inr hj)⟩
theorem o71.snE {μ μ1 : mM} {t : Int} (h : o71 μ μ1 t) (ht : 0 ≤ t ∧ t < 256) : sn (μ1 171) = fun j => if j = t.toNat then 1 else sn (μ 171) j := by
  funext j
  unfold sn
  by_cases c : j = t.toNat
  · subst c
    rw [if_pos (by omega), if_pos rfl, h.1]
  · rw [if_neg c, h.2 j c]
theorem stR.seen {B : Int → Int} {μ μ1 : mM} {k t x o v : Int} (qB : B (k + 1) = t) (ht : 0 ≤ t ∧ t < 256) (q : μ 171 t.toNat = x) (hx : ¬ x = 0) (e : μ1 171 = μ 171) (qo : μ 106 98 = o) (qo1 : μ1 106 98 = o) (qv : μ 106 99 = v) (qv1 : μ1 106 99 = v) (n : ntR μ μ1 172 3 k) : stA B k (sMR μ) (sMR μ1) := by
  refine Or.inl ⟨?_, ?_, ?_, ?_, ?_, ?_⟩
  · show ¬ sn (μ 171) (B (k + 1)).toNat = 0
    rw [qB, sn.at ht q]; exact hx
  · show sn (μ1 171) = sn (μ 171)
    rw [e]
  · show μ1 106 98 = μ 106 98
    rw [qo, qo1]
  · show μ1 106 99 = μ 106 99
    rw [qv, qv1]
  · show μ1 172 2 = μ 172 2
    exact n.2 2 (by decide)
  · exact n.1
theorem stR.new {B : Int → Int} {μ μ1 : mM} {k t x o o1 v v1 : Int} (qB : B (k + 1) = t) (ht : 0 ≤ t ∧ t < 256) (q : μ 171 t.toNat = x) (hx : x = 0) (u : o71 μ μ1 t) (qo : μ 106 98 = o) (qo1 : μ1 106 98 = o1) (qv : μ 106 99 = v) (qv1 : μ1 106 99 = v1) (ho : (t = 1 ∧ okA B k ∧ o1 = 1) ∨ (¬ (t = 1 ∧ okA B k) ∧ o1 = o)) (hv : (t = 2 ∧ okA B k ∧ v1 = 1) ∨ (¬ (t = 2 ∧ okA B k) ∧ v1 = v)) (hf : (okA B k ∧ μ1 172 = μ 172) ∨ (¬ okA B k ∧ ntR μ μ1 172 2 k)) : stA B k (sMR μ) (sMR μ1) := by
  subst qB qo qo1 qv qv1
  refine Or.inr ⟨?_, ?_, ?_, ?_, ?_, ?_⟩
  · show sn (μ 171) (B (k + 1)).toNat = 0
    rw [sn.at ht q]; exact hx
  · exact u.snE ht
  · exact ho
  · exact hv
  · rcases hf with ⟨a, b⟩ | ⟨a, b⟩
    · exact Or.inl ⟨a, by show μ1 172 2 = μ 172 2; rw [b]⟩
    · exact Or.inr ⟨a, b.1⟩
  · rcases hf with ⟨a, b⟩ | ⟨a, b⟩
    · show μ1 172 3 = μ 172 3
      rw [b]
    · exact b.2 3 (by decide)
theorem stR.ok {B : Int → Int} {μ μ1 : mM} {k t x o o1 v v1 : Int} (qB : B (k + 1) = t) (ht : 0 ≤ t ∧ t < 256) (q : μ 171 t.toNat = x) (hx : x = 0) (u : o71 μ μ1 t) (qo : μ 106 98 = o) (qo1 : μ1 106 98 = o1) (qv : μ 106 99 = v) (qv1 : μ1 106 99 = v1) (a : okA B k) (ho : (t = 1 ∧ o1 = 1) ∨ (¬ t = 1 ∧ o1 = o)) (hv : (t = 2 ∧ v1 = 1) ∨ (¬ t = 2 ∧ v1 = v)) (e : μ1 172 = μ 172) : stA B k (sMR μ) (sMR μ1) :=
  stR.new qB ht q hx u qo qo1 qv qv1 (ho.elim (fun g => Or.inl ⟨g.1, a, g.2⟩) (fun g => Or.inr ⟨fun c => g.1 c.1, g.2⟩)) (hv.elim (fun g => Or.inl ⟨g.1, a, g.2⟩) (fun g => Or.inr ⟨fun c => g.1 c.1, g.2⟩)) (Or.inl ⟨a, e⟩)
theorem stR.no {B : Int → Int} {μ μ1 : mM} {k t x o o1 v v1 : Int} (qB : B (k + 1) = t) (ht : 0 ≤ t ∧ t < 256) (q : μ 171 t.toNat = x) (hx : x = 0) (u : o71 μ μ1 t) (qo : μ 106 98 = o) (qo1 : μ1 106 98 = o1) (qv : μ 106 99 = v) (qv1 : μ1 106 99 = v1) (a : ¬ okA B k) (ho : o1 = o) (hv : v1 = v) (n : ntR μ μ1 172 2 k) : stA B k (sMR μ) (sMR μ1) :=
  stR.new qB ht q hx u qo qo1 qv qv1 (Or.inr ⟨fun c => a c.2, ho⟩) (Or.inr ⟨fun c => a c.2, hv⟩) (Or.inr ⟨a, n⟩)
theorem atX.badR {B : Int → Int} {μ μ1 : mM} {e k o v : Int} (h : k < e) (t : tlA B e k) (e7 : μ1 171 = μ 171) (qo : μ 106 98 = o) (qo1 : μ1 106 98 = o) (qv : μ 106 99 = v) (qv1 : μ1 106 99 = v) (n : ntR μ μ1 172 2 k) : atX B e k (sMR μ) (sMR μ1) := by
  have g := atX.bad (s := sMR μ) h t n.1
  have q : sMR μ1 = ((sMR μ).1, (sMR μ).2.1, (sMR μ).2.2.1, μ1 172 (2 : Int).toNat, (sMR μ).2.2.2.2) := by
    refine AS.ext ?_ ?_ ?_ ?_ ?_
    · show sn (μ1 171) = sn (μ 171)
      rw [e7]
    · show μ1 106 98 = μ 106 98
      rw [qo, qo1]
    · show μ1 106 99 = μ 106 99
      rw [qv, qv1]
    · rfl
    · show μ1 172 3 = μ 172 3
      exact n.2 3 (by decide)
  rw [q]; exact g
theorem sMR.of {μ μ1 : mM} {o v : Int} (e7 : μ1 171 = μ 171) (qo : μ 106 98 = o) (qo1 : μ1 106 98 = o) (qv : μ 106 99 = v) (qv1 : μ1 106 99 = v) (e8 : μ1 172 = μ 172) : sMR μ1 = sMR μ := by
  refine AS.ext ?_ ?_ ?_ ?_ ?_
  · show sn (μ1 171) = sn (μ 171)
    rw [e7]
  · show μ1 106 98 = μ 106 98
    rw [qo, qo1]
  · show μ1 106 99 = μ 106 99
    rw [qv, qv1]
  · show μ1 172 2 = μ 172 2
    rw [e8]
  · show μ1 172 3 = μ 172 3
    rw [e8]
theorem sMR.zero {μ : mM} (h : ∀ j : Nat, j < 256 → μ 171 j = 0) (h7 : μ 106 98 = 0) (h8 : μ 106 99 = 0) (f2 : μ 172 2 = -99999999) (f3 : μ 172 3 = -99999999) : sMR μ = (fun _ => 0, 0, 0, -99999999, -99999999) := by
  refine AS.ext ?_ ?_ ?_ ?_ ?_
  · exact sn.zero h
  · exact h7
  · exact h8
  · exact f2
  · exact f3
theorem rdP.finR {B : Int → Int} {μ μ3 μ6 μ7 μ1 : mM} {n z b z2 c o v ho hv : Int} (h2 : 2 ≤ n) (q : prA B 0 = z) (hb : b = 2 + z) (hbn : b ≤ n)
    (k0 : μ 172 1 = -99999999) (p1 : pfH B μ μ3 b 2) (e7 : μ3 171 = μ 171) (qo : μ 106 98 = o) (qo5 : μ3 106 98 = o) (qv : μ 106 99 = v) (qv5 : μ3 106 99 = v)
    (q2 : prA B b = z2) (hc : c = b + 2 + z2) (z20 : 0 ≤ z2) (hcn : c ≤ n) (c0 : 0 ≤ c) (ax : atX B c (b + 2) (sMR μ3) (sMR μ6)) (k1 : μ6 172 1 = μ3 172 1)
    (p2 : pfH B μ6 μ7 n c) (qho : μ6 106 98 = ho) (qhv : μ6 106 99 = hv) (rho : 0 ≤ ho ∧ ho ≤ 1) (rhv : 0 ≤ hv ∧ hv ≤ 1)
    (hn : ((n ≤ c ∨ (¬ ho = 0 ∧ ¬ hv = 0)) ∧ μ1 172 = μ7 172) ∨ ((c < n ∧ (ho = 0 ∨ hv = 0)) ∧ ntR μ7 μ1 172 2 c)) : rdP B (sMR μ) (μ1 172 1) (μ1 172 2) (μ1 172 3) n := by
  have m1 : μ1 172 1 = μ7 172 1 := by
    rcases hn with ⟨_, e⟩ | ⟨_, e⟩
    · rw [e]
    · exact e.2 1 (by decide)
  have m3 : μ1 172 3 = μ7 172 3 := by
    rcases hn with ⟨_, e⟩ | ⟨_, e⟩
    · rw [e]
    · exact e.2 3 (by decide)
  have eb : 2 + prA B 0 = b := by rw [q, hb]
  have ec : 2 + prA B 0 + 2 + prA B (2 + prA B 0) = c := by rw [eb, q2, hc]
  rcases p1 with ⟨p1n, e8⟩ | ⟨p1y, p, hp, nt⟩
  · rcases p2 with ⟨p2n, e8'⟩ | ⟨p2y, p, hp, nt⟩
    · refine Or.inr ⟨?_, bdA.no q h2 (by omega), ?_, sMR μ6, ?_, ?_, ?_⟩
      · rw [m1, e8', k1, e8]; exact k0
      · unfold rdX bdB
        rw [ec, eb]
        rintro (g | g | g)
        · omega
        · exact p1n g
        · exact p2n g
      · have es : sMR μ3 = sMR μ := sMR.of e7 qo qo5 qv qv5 e8
        rw [ec, eb, ← es]; exact ax
      · unfold rdY
        rw [ec]
        show μ1 172 2 = -99999999 ↔ ¬ (¬ μ6 172 2 = -99999999 ∨ (c < n ∧ ¬ (μ6 106 98 = 1 ∧ μ6 106 99 = 1)))
        rw [qho, qhv]
        have m2 : μ7 172 2 = μ6 172 2 := by rw [e8']
        rcases hn with ⟨a, e⟩ | ⟨a, e⟩
        · rw [e, m2]
          have g : ¬ (c < n ∧ ¬ (ho = 1 ∧ hv = 1)) := by
            rintro ⟨g1, g2⟩
            omega
          constructor
          · rintro x (y | y)
            · exact y x
            · exact g y
          · intro x
            by_cases y : μ6 172 2 = -99999999
            · exact y
            · exact absurd (Or.inl y) x
        · have y : ¬ μ1 172 2 = -99999999 := e.1.is c0
          constructor
          · intro x; exact absurd x y
          · intro x
            refine absurd (Or.inr ⟨a.1, ?_⟩) x
            omega
      · rw [m3, e8']; rfl
    · refine Or.inl ⟨?_, Or.inr (Or.inr (Or.inr ?_))⟩
      · rw [m1]; exact nt.1.is hp
      · rw [ec]; exact p2y
  · refine Or.inl ⟨?_, Or.inr (Or.inr (Or.inl ?_))⟩
    · rw [m1]
      refine p2.kept ?_
      rw [k1]
      exact nt.1.is hp
    · rw [eb]; exact p1y
theorem rowAll.next {μ μ1 : mM} {a : Nat} {k x c : Int} (h : ∀ j : Nat, (j : Int) < k → μ a j = c) (h0 : 0 ≤ k) (u : mU μ a k.toNat x μ1) (hx : x = c) : ∀ j : Nat, (j : Int) < k + 1 → μ1 a j = c := fun j hj => by
  by_cases e : j = k.toNat
  · rw [e, u.1]; exact hx
  · rw [u.2 a j (Or.inr e)]
    exact h j (by omega)
/-- both tapes say the same -/
def TPQ (μ : mM) : Prop := μ 106 1 = μ 0 10 ∧ ∀ k : Nat, (k : Int) < μ 0 10 → μ 1 k = bAnd (μ 107 k) 255
theorem TPQ.eq {μ : mM} (h : TPQ μ) (h0 : 0 ≤ μ 0 10) : bC 1 μ = bR μ := by
  funext k
  unfold bC bR byteF
  rw [h.1]
  by_cases d : 0 ≤ k
  · by_cases c : k < μ 0 10
    · rw [if_pos c, if_pos d, if_pos d, if_pos c]
      exact h.2 k.toNat (by omega)
    · rw [if_neg c, if_pos d, if_neg c]
  · rw [if_pos (show k < μ 0 10 from by omega), if_neg d, if_neg d]
