/-! Wishes of both sides: wish, clear. -/
theorem WSQ.of {μ μ1 : mM} (h : WSQ μ) (e : ∀ i, μ1 95 i = μ 95 i ∧ μ1 96 i = μ 96 i ∧ μ1 97 i = μ 97 i ∧ μ1 184 i = μ 184 i ∧ μ1 185 i = μ 185 i ∧ μ1 186 i = μ 186 i) : WSQ μ1 := fun p hp => by
  obtain ⟨a, b, c⟩ := h p hp
  obtain ⟨e1, e2, e3, e4, e5, e6⟩ := e p
  rw [e1, e4]
  refine ⟨a, b, fun j hj => ?_⟩
  obtain ⟨x, y, z⟩ := c j hj
  rw [(e _).2.2.1, (e _).2.2.2.2.1]
  refine ⟨x, y, fun i hi => ?_⟩
  rw [(e _).2.1, (e _).2.2.2.2.2]
  exact z i hi
def wsL : List Nat := [95999, 96999, 97999, 184999, 185999, 186999]
theorem WSQ.fr {lf : List Nat} {w : mW} {μ μ1 : mM} (h : WSQ μ) (hw : mWF w) (hT : mT w μ) (F : mF lf w μ μ1) (hl : (wsL.all fun r => !lf.elem r) = true) : WSQ μ1 :=
  h.of fun _ => ⟨F.f (A_95 hw) (qA_no hl rfl) rfl, F.f (A_96 hw) (qA_no hl rfl) rfl, F.f (A_97 hw) (qA_no hl rfl) rfl, F.f (A_184 hw) (qA_no hl rfl) rfl, F.f (A_185 hw) (qA_no hl rfl) rfl, F.f (A_186 hw) (qA_no hl rfl) rfl⟩
theorem WSQ.frX {lf : List Nat} {w w1 : mW} {μ μ1 : mM} (h : WSQ μ) (hw : mWF w) (hT : mT w μ) (F : mX lf w μ w1 μ1) (hl : (wsL.all fun r => !lf.elem r) = true) : WSQ μ1 :=
  h.of fun _ => ⟨F.f (A_95 hw) (qA_no hl rfl) rfl, F.f (A_96 hw) (qA_no hl rfl) rfl, F.f (A_97 hw) (qA_no hl rfl) rfl, F.f (A_184 hw) (qA_no hl rfl) rfl, F.f (A_185 hw) (qA_no hl rfl) rfl, F.f (A_186 hw) (qA_no hl rfl) rfl⟩
theorem sumW.cg {μ ν : mM} {a b : Nat} : ∀ k : Nat, (∀ i : Nat, 1 ≤ i → i < k → μ a i = ν b i) → sumW μ a k = sumW ν b k
  | 0, _ => rfl
  | k + 1, h => by
    have ih := sumW.cg k fun i h1 h2 => h i h1 (by omega)
    show sumW μ a k + (if 1 ≤ k then μ a k else 0) = sumW ν b k + (if 1 ≤ k then ν b k else 0)
    rw [ih]
    by_cases c : 1 ≤ k
    · rw [if_pos c, if_pos c, h k c (by omega)]
    · rw [if_neg c, if_neg c]
theorem WSQ.clear {μ μa μb : mM} {z z' : Int} (h : WSQ μ) (ha : foI μ μa 95 7 z) (ea : ∀ i, μa 96 i = μ 96 i ∧ μa 97 i = μ 97 i ∧ μa 184 i = μ 184 i ∧ μa 185 i = μ 185 i ∧ μa 186 i = μ 186 i) (hb : foI μa μb 184 7 z') (eb : ∀ i, μb 95 i = μa 95 i ∧ μb 96 i = μa 96 i ∧ μb 97 i = μa 97 i ∧ μb 185 i = μa 185 i ∧ μb 186 i = μa 186 i) : z = z' ∧ WSQ μb := by
  refine ⟨?_, fun p hp => ?_⟩
  · rw [ha.1, hb.1]
    refine sumW.cg _ fun i h1 h2 => ?_
    have h2 : i < 7 := h2
    rw [(ea i).2.2.1]
    exact (h i (by omega)).2.1
  · have e1 := ha.2 p
    have e2 := hb.2 p
    rw [(ea p).2.2.1] at e2
    rw [(eb p).1]
    obtain ⟨a, b, c⟩ := h p hp
    by_cases q : 1 ≤ p
    · rw [if_pos ⟨q, by omega⟩] at e1 e2
      rw [e1, e2]
      exact ⟨by decide, rfl, fun j hj => by omega⟩
    · rw [if_neg (fun x => q x.1)] at e1 e2
      rw [e1, e2]
      refine ⟨a, b, fun j hj => ?_⟩
      obtain ⟨x, y, t⟩ := c j hj
      rw [(eb _).2.2.1, (eb _).2.2.2.1, (ea _).2.1, (ea _).2.2.2.1]
      refine ⟨x, y, fun i hi => ?_⟩
      rw [(eb _).2.1, (eb _).2.2.2.2, (ea _).1, (ea _).2.2.2.2]
      exact t i hi
theorem mtW.cg {μ ν : mM} {L W m b s : Nat} {n : Int} (e : ∀ i, ν L i = μ L i ∧ ν W i = μ W i ∧ ν b i = μ b i) : mtW ν L W m b s n ↔ mtW μ L W m b s n := by
  unfold mtW
  rw [(e s).1]
  constructor
  · rintro ⟨a, c⟩; exact ⟨a, fun i hi => by rw [← (e _).2.1, ← (e i).2.2]; exact c i hi⟩
  · rintro ⟨a, c⟩; exact ⟨a, fun i hi => by rw [(e _).2.1, (e i).2.2]; exact c i hi⟩
theorem WSQ.wish {μ μa μb : mM} {z z' : Int} (h : WSQ μ) (hw : WYQ μ) (h20 : 0 ≤ μ 2 0) (ha : wiA μ μa 95 97 96 7 2 (μ 0 11) z) (ea : ∀ i, μa 118 i = μ 118 i ∧ μa 184 i = μ 184 i ∧ μa 185 i = μ 185 i ∧ μa 186 i = μ 186 i) (hb : wiA μa μb 184 185 186 8 118 (μ 106 15) z') (eb : ∀ i, μb 95 i = μa 95 i ∧ μb 96 i = μa 96 i ∧ μb 97 i = μa 97 i) : z = z' ∧ WSQ μb := by
  obtain ⟨w1, w2⟩ := hw
  rw [w1] at ha
  generalize hn : μ 106 15 = n at *
  have ew : ∀ i : Nat, (i : Int) < n → μ 2 i = μa 118 i := fun i hi => by rw [(ea i).1]; exact w2 i hi
  have eP : wiP μ 2 n ↔ wiP μa 118 n := wiP.cg ew
  have same : μa = μ → μb = μa → WSQ μb := fun e1 e2 => by rw [e2, e1]; exact h
  rcases ha with ⟨a1, a2, a3⟩ | ⟨a1, ha⟩
  · rcases hb with ⟨b1, b2, b3⟩ | ⟨b1, hb⟩
    · exact ⟨by omega, same a3 b3⟩
    · exact absurd (eP.mpr b1) a1
  · rcases hb with ⟨b1, b2, b3⟩ | ⟨b1, hb⟩
    · exact absurd (eP.mp a1) b1
    · have hn27 := a1.1
      have hx : μ 2 0 = μa 118 0 := ew 0 (by omega)
      have hx6 := a1.2.2.1 0 (by omega)
      rw [← hx] at hb
      generalize hxx : μ 2 0 = x at *
      obtain ⟨c1, c2, c3⟩ := h x.toNat (by omega)
      have ec : μa 184 x.toNat = μ 95 x.toNat := by rw [(ea _).2.1]; exact c2.symm
      rw [ec] at hb
      generalize hcc : μ 95 x.toNat = c at *
      have es : ∀ j : Nat, (5 * x + (j : Int)).toNat = 5 * x.toNat + j := fun j => by omega
      have em : ∀ j : Nat, (j : Int) < c → (mtW μ 97 96 7 2 (5 * x + j).toNat n ↔ mtW μa 185 186 8 118 (5 * x + j).toNat n) := fun j hj => by
        rw [es]
        obtain ⟨d1, d2, d3⟩ := c3 j hj
        rw [mtW_eq (fun i hi => w2 i hi) d1 d3]
        exact (mtW.cg fun i => ⟨(ea i).2.2.1, (ea i).2.2.2, (ea i).1⟩).symm
      have eN : noW μ 97 96 7 2 x n c ↔ noW μa 185 186 8 118 x n c := ⟨fun g j hj q => g j hj ((em j hj).mpr q), fun g j hj q => g j hj ((em j hj).mp q)⟩
      rcases ha with ⟨p1, p2, p3⟩ | ⟨p1, ha⟩
      · rcases hb with ⟨q1, q2, q3⟩ | ⟨q1, hb⟩
        · exact ⟨by omega, same p3 q3⟩
        · exact absurd (eN.mpr q1) p1
      · rcases hb with ⟨q1, q2, q3⟩ | ⟨q1, hb⟩
        · exact absurd (eN.mp p1) q1
        · rcases ha with ⟨r1, r2, r3⟩ | ⟨r1, r2, ⟨⟨o1, o2⟩, ⟨o3, o4⟩, ⟨o5, o6⟩⟩⟩ <;> rcases hb with ⟨s1, s2, s3⟩ | ⟨s1, s2, ⟨⟨t1, t2⟩, ⟨t3, t4⟩, ⟨t5, t6⟩⟩⟩
          · exact ⟨by omega, same r3 s3⟩
          · omega
          · omega
          · refine ⟨by omega, fun p hp => ?_⟩
            obtain ⟨u1, u2, u3⟩ := h p hp
            -- entries that stood
            have old : ∀ j : Nat, (j : Int) < μ 95 p → ¬ (p = x.toNat ∧ (j : Int) = c) → μb 97 (5 * p + j) = μb 185 (5 * p + j) ∧ μb 97 (5 * p + j) ≤ 7 ∧ ∀ i : Nat, (i : Int) < μb 97 (5 * p + j) → μb 96 (7 * (5 * p + j) + i) = μb 186 (8 * (5 * p + j) + i) := fun j hj hne => by
              have ne : ¬ ((5 * p + j : Nat) : Int) = 5 * x + c := by
                intro e
                apply hne
                omega
              obtain ⟨v1, v2, v3⟩ := u3 j hj
              have e97 : μb 97 (5 * p + j) = μ 97 (5 * p + j) := by rw [(eb _).2.2]; exact o3 _ ne
              have e185 : μb 185 (5 * p + j) = μ 185 (5 * p + j) := by rw [t3 _ ne]; exact (ea _).2.2.1
              rw [e97, e185]
              refine ⟨v1, v2, fun i hi => ?_⟩
              have e96 : μb 96 (7 * (5 * p + j) + i) = μ 96 (7 * (5 * p + j) + i) := by
                rw [(eb _).2.1]; exact o6 _ (by omega)
              have e186 : μb 186 (8 * (5 * p + j) + i) = μ 186 (8 * (5 * p + j) + i) := by
                rw [t6 _ (by omega)]; exact (ea _).2.2.2
              rw [e96, e186]; exact v3 i hi
            by_cases g : p = x.toNat
            · have k1 : μb 95 p = c + 1 := by rw [(eb p).1, g]; exact o2
              have k2 : μb 184 p = c + 1 := by rw [g]; exact t2
              rw [k1, k2]
              refine ⟨by omega, rfl, fun j hj => ?_⟩
              by_cases gj : (j : Int) = c
              · have e1 : (5 * x + c).toNat = 5 * p + j := by omega
                rw [e1] at o4 t4
                have e97 : μb 97 (5 * p + j) = n := by rw [(eb _).2.2]; exact o4
                rw [e97, t4]
                refine ⟨rfl, hn27.2, fun i hi => ?_⟩
                have f1 := o5 i hi
                have f2 := t5 i hi
                rw [show (((7 : Nat) : Int) * (5 * x + c) + (i : Int)).toNat = 7 * (5 * p + j) + i by omega] at f1
                rw [show (((8 : Nat) : Int) * (5 * x + c) + (i : Int)).toNat = 8 * (5 * p + j) + i by omega] at f2
                rw [(eb _).2.1, f1, f2]; exact ew i hi
              · exact old j (by rw [g, hcc]; omega) (fun e => gj e.2)
            · have k1 : μb 95 p = μ 95 p := by rw [(eb p).1]; exact o1 p (by omega)
              have k2 : μb 184 p = μ 184 p := by rw [t1 p (by omega)]; exact (ea p).2.1
              rw [k1, k2]
              exact ⟨u1, u2, fun j hj => old j hj (fun e => g e.1)⟩
