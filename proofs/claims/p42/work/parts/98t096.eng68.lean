section
/-! The class's reader: tests and acts. -/
section AtC
variable {μ μ1 : mM} {e : Int → Cfg} {a b z k : Int}
theorem flK.no (n : flK μ μ1 k) (hk : ¬ k = 0) : ¬ μ1 23 18 = 0 := by
  rcases n.2 with ⟨x, y, _⟩ | ⟨_, y, _⟩
  · rw [y]; exact x
  · rw [y]
    split
    · decide
    · exact hk
theorem stK.at (c : CSc μ e) (ht : ¬ cT μ = -1) (s : stK μ μ1) : μ1 23 9 = μ 23 9 + 1 ∧ (μ1 23 18 = 0 → μ 23 18 = 0) := by
  obtain ⟨s1, s2, _⟩ := s (CSt.lt c ht)
  exact ⟨s1, fun g => s2.symm.trans g⟩
theorem nbK.at (c : CSc μ e) (n : nbK μ μ1 a b z) (g : μ1 23 18 = 0) : μ 23 18 = 0 ∧ μ1 23 9 = μ 23 9 + 1 ∧ cT μ = -2 ∧ (a ≤ z ∧ z ≤ b) ∧ z = cV μ := by
  rcases n with ⟨_, x⟩ | ⟨_, _, x⟩ | ⟨x, y, y2, s⟩
  · exact absurd g (x.no (by decide))
  · exact absurd g (x.no (by decide))
  · obtain ⟨s1, s2⟩ := s.at c (by omega)
    exact ⟨s2 g, s1, x, by rw [y2]; exact y, y2⟩
theorem exK.at (c : CSc μ e) (n : exK μ μ1 k) (hk : ¬ k = -1) (g : μ1 23 18 = 0) : μ 23 18 = 0 ∧ μ1 23 9 = μ 23 9 + 1 ∧ cT μ = k := by
  rcases n with ⟨x, s⟩ | ⟨_, x⟩
  · obtain ⟨s1, s2⟩ := s.at c (by rw [x]; exact hk)
    exact ⟨s2 g, s1, x⟩
  · exact absurd g (x.no (by decide))
theorem onK.at (c : CSc μ e) (n : onK μ μ1 a b z) (ha : 0 ≤ a) (g : μ1 23 18 = 0) : μ 23 18 = 0 ∧ μ1 23 9 = μ 23 9 + 1 ∧ (a ≤ z ∧ z ≤ b) := by
  rcases n with ⟨_, x⟩ | ⟨x, y, s⟩
  · exact absurd g (x.no (by decide))
  · obtain ⟨s1, s2⟩ := s.at c (by omega)
    exact ⟨s2 g, s1, by rw [y]; exact x⟩
theorem reK.at (c : CSc μ e) (n : reK μ μ1) (hz : (cT μ = 1060 ∨ cT μ = 1061 ∨ cT μ = 1062) → z = cT μ - 1060) (g : μ1 23 18 = 0) : μ 23 18 = 0 ∧ μ1 23 9 = μ 23 9 + 1 ∧ (0 ≤ z ∧ z ≤ 2) := by
  rcases n with ⟨x, s⟩ | ⟨_, x⟩
  · obtain ⟨s1, s2⟩ := s.at c (by omega)
    have := hz x
    exact ⟨s2 g, s1, by omega⟩
  · exact absurd g (x.no (by decide))
theorem tkK.at (c : CSc μ e) (n : tkK μ μ1 k z) (hk : ¬ k = -1) (g : μ1 23 18 = 0) : μ 23 18 = 0 ∧ ((z = 1 ∧ μ1 23 9 = μ 23 9 + 1) ∨ (z = 0 ∧ μ1 23 9 = μ 23 9)) := by
  rcases n with ⟨x, y, s⟩ | ⟨x, y, s⟩
  · obtain ⟨s1, s2⟩ := s.at c (by rw [y]; exact hk)
    exact ⟨s2 g, Or.inl ⟨x, s1⟩⟩
  · exact ⟨s.2.1.symm.trans g, Or.inr ⟨x, s.1⟩⟩
end AtC
/-- what may change: where it stands, the code behind, ways and their places -/
def rdF (μ m : mM) : Prop := ∀ b i, ¬ (b = 23 ∧ (9 ≤ i ∧ i ≤ 19 ∧ ¬ i = 14)) → ¬ (27 ≤ b ∧ b ≤ 31) → m b i = μ b i
theorem rdF.refl {μ : mM} : rdF μ μ := fun _ _ _ _ => rfl
theorem rdF.trans {μ m n : mM} (h : rdF μ m) (k : rdF m n) : rdF μ n := fun b i q q2 => (k b i q q2).trans (h b i q q2)
theorem rdF.tb {μ m : mM} (h : rdF μ m) : tbC μ m := ⟨⟨funext fun i => h 24 i (by omega) (by omega), funext fun i => h 25 i (by omega) (by omega), funext fun i => h 26 i (by omega) (by omega), h 23 8 (by omega) (by omega)⟩, funext fun i => h 1 i (by omega) (by omega), h 0 10 (by omega) (by omega), h 23 14 (by omega) (by omega)⟩
theorem frA.rd {μ m : mM} (h : frA μ m) : rdF μ m := fun b i q _ => h b i (by omega)
theorem puF.rd {μ m : mM} (h : puF μ m) : rdF μ m := fun b i q q2 => h b i (by omega) (by omega)
theorem wzF.rd {μ m : mM} (h : wzF μ m) : rdF μ m := fun b i q q2 => h b i (by omega) (by omega) (by omega)
/-- the row in hand: c, d the counts that stand at its head -/
def rwW (μ : mM) (u : Out) (c d : Int) : Prop := rwsC (μ 23 13).toNat (μ 27) (μ 30) (μ 31) 0 u.1 ∧ (μ 27 (szR u.1) = c ∧ μ 27 (szR u.1 + 1) = d) ∧ tsAC (μ 23 13).toNat (μ 27) (μ 30) (μ 31) (szR u.1 + 2) u.2.1 ∧ acC (μ 27) (szR u.1 + 2 + 5 * u.2.1.length) u.2.2.1 ∧ μ 23 11 = ((szR u.1 + 2 + 5 * u.2.1.length + 2 * u.2.2.1.length : Nat) : Int)
def aOw (n : Int) (a : Act) : Prop := aOk n a ∧ 0 ≤ a.2 ∧ a.2 ≤ 1000000
def okO (n : Int) (u : Out) : Prop := (∀ x ∈ u.1, (∀ t ∈ x.1, tOk t) ∧ ∀ a ∈ x.2, aOw n a) ∧ (∀ t ∈ u.2.1, tOk t) ∧ ∀ a ∈ u.2.2.1, aOw n a
def GW (μ : mM) (u : Out) (r m c d : Int) : Prop := nmW μ (oW u) m ∧ μ 23 10 = r ∧ rwW μ u c d ∧ okO (μ 23 14) u
section RowW
variable {μ m1 : mM} {u : Out} {r m c d : Int}
theorem rwW.of (h : rwW μ u c d) (e7 : ∀ i, m1 27 i = μ 27 i) (e0 : ∀ i, m1 30 i = μ 30 i) (e1 : ∀ i, m1 31 i = μ 31 i) (e11 : m1 23 11 = μ 23 11) (e13 : m1 23 13 = μ 23 13) : rwW m1 u c d := by
  have f7 : m1 27 = μ 27 := funext e7
  have f0 : m1 30 = μ 30 := funext e0
  have f1 : m1 31 = μ 31 := funext e1
  unfold rwW
  rw [f7, f0, f1, e11, e13]
  exact h
theorem frA.gw (f : frA μ m1) (h : GW μ u r m c d) : GW m1 u r m c d := by
  obtain ⟨h1, h2, h3, h4⟩ := h
  exact ⟨f.nm h1, by rw [f 23 10 (by omega)]; exact h2, h3.of (fun i => f _ _ (by omega)) (fun i => f _ _ (by omega)) (fun i => f _ _ (by omega)) (f _ _ (by omega)) (f _ _ (by omega)), by rw [f 23 14 (by omega)]; exact h4⟩
/-- only cur, the way in hand differ -/
theorem GW.cu {u' : Out} (h : GW μ u r m c d) (e1 : u'.1 = u.1) (e2 : u'.2.1 = u.2.1) (e3 : u'.2.2.1 = u.2.2.1) (e5 : oW u' = oW u) : GW μ u' r m c d := by
  obtain ⟨h1, h2, h3, h4⟩ := h
  refine ⟨by rw [e5]; exact h1, h2, ?_, ?_⟩
  · unfold rwW
    rw [e1, e2, e3]; exact h3
  · unfold okO
    rw [e1, e2, e3]; exact h4
theorem rwW.test {t : Tst} (h : rwW μ u c d) (ha : u.2.2.1 = []) (h0 : 0 ≤ μ 23 11) (hn : (μ 23 13).toNat ≤ (m1 23 13).toNat) (hw : ∀ j, j < (μ 23 13).toNat → m1 30 j = μ 30 j ∧ m1 31 j = μ 31 j) (hf : ∀ j : Nat, j < (μ 23 11).toNat → m1 27 j = μ 27 j) (h11 : m1 23 11 = μ 23 11 + 5) (ht : tsC (m1 23 13).toNat (m1 27) (m1 30) (m1 31) (μ 23 11).toNat t) : rwW m1 (ouT u t) c d := by
  obtain ⟨h1, ⟨h2, h3⟩, h4, h5, h6⟩ := h
  have e0 : u.2.2.1.length = 0 := by rw [ha]; rfl
  have e1 : (u.2.1 ++ [t]).length = u.2.1.length + 1 := by rw [List.length_append]; rfl
  have hz : szR (ouT u t).1 = szR u.1 := rfl
  refine ⟨rwsC.cg hn hw (fun j _ b => hf j (by omega)) h1, ⟨(hf _ (by omega)).trans h2, (hf _ (by omega)).trans h3⟩, ?_, ?_, ?_⟩
  · show tsAC (m1 23 13).toNat (m1 27) (m1 30) (m1 31) (szR u.1 + 2) (u.2.1 ++ [t])
    refine tsAC.app (tsAC.cg hn hw (fun j _ b => hf j (by omega)) h4) ?_
    rw [show szR u.1 + 2 + 5 * u.2.1.length = (μ 23 11).toNat by omega]
    exact ht
  · show acC (m1 27) (szR u.1 + 2 + 5 * (u.2.1 ++ [t]).length) u.2.2.1
    rw [ha]
    exact trivial
  · show m1 23 11 = ((szR u.1 + 2 + 5 * (u.2.1 ++ [t]).length + 2 * u.2.2.1.length : Nat) : Int)
    rw [e1, e0]
    omega
theorem rwW.act {a : Act} (h : rwW μ u c d) (h0 : 0 ≤ μ 23 11) (e13 : m1 23 13 = μ 23 13) (e30 : ∀ i, m1 30 i = μ 30 i) (e31 : ∀ i, m1 31 i = μ 31 i) (hf : ∀ j : Nat, j < (μ 23 11).toNat → m1 27 j = μ 27 j) (h11 : m1 23 11 = μ 23 11 + 2) (ht : m1 27 (μ 23 11).toNat = a.1 ∧ m1 27 ((μ 23 11).toNat + 1) = a.2) : rwW m1 (ouAct u a) c d := by
  obtain ⟨h1, ⟨h2, h3⟩, h4, h5, h6⟩ := h
  have hn : (μ 23 13).toNat ≤ (m1 23 13).toNat := by rw [e13]; exact Nat.le_refl _
  have hw : ∀ j, j < (μ 23 13).toNat → m1 30 j = μ 30 j ∧ m1 31 j = μ 31 j := fun j _ => ⟨e30 j, e31 j⟩
  have e1 : (u.2.2.1 ++ [a]).length = u.2.2.1.length + 1 := by rw [List.length_append]; rfl
  have hz : szR (ouAct u a).1 = szR u.1 := rfl
  refine ⟨rwsC.cg hn hw (fun j _ b => hf j (by omega)) h1, ⟨(hf _ (by omega)).trans h2, (hf _ (by omega)).trans h3⟩, ?_, ?_, ?_⟩
  · show tsAC (m1 23 13).toNat (m1 27) (m1 30) (m1 31) (szR u.1 + 2) u.2.1
    exact tsAC.cg hn hw (fun j _ b => hf j (by omega)) h4
  · show acC (m1 27) (szR u.1 + 2 + 5 * u.2.1.length) (u.2.2.1 ++ [a])
    refine acC.app (acC.cg (fun j _ b => hf j (by omega)) h5) ?_
    rw [show szR u.1 + 2 + 5 * u.2.1.length + 2 * u.2.2.1.length = (μ 23 11).toNat by omega]
    exact ht
  · show m1 23 11 = ((szR u.1 + 2 + 5 * u.2.1.length + 2 * (u.2.2.1 ++ [a]).length : Nat) : Int)
    rw [e1]
    omega
/-- a count at the head of the row -/
theorem rwW.cnt {v : Int} (h : rwW μ u c d) : rwW (mUp μ 27 (szR u.1) v) u v d := by
  obtain ⟨h1, ⟨h2, h3⟩, h4, h5, h6⟩ := h
  have hw : ∀ j, j < (μ 23 13).toNat → mUp μ 27 (szR u.1) v 30 j = μ 30 j ∧ mUp μ 27 (szR u.1) v 31 j = μ 31 j := fun j _ => ⟨mUp.no (by omega), mUp.no (by omega)⟩
  unfold rwW
  rw [show mUp μ 27 (szR u.1) v 23 13 = μ 23 13 from mUp.no (by omega), show mUp μ 27 (szR u.1) v 23 11 = μ 23 11 from mUp.no (by omega)]
  exact ⟨rwsC.cg (Nat.le_refl _) hw (fun j _ b => mUp.no (by omega)) h1, ⟨mUp.yes ⟨rfl, rfl⟩, (mUp.no (by omega)).trans h3⟩, tsAC.cg (Nat.le_refl _) hw (fun j q b => mUp.no (by omega)) h4, acC.cg (fun j q b => mUp.no (by omega)) h5, h6⟩
theorem rwW.cnt2 {v : Int} (h : rwW μ u c d) : rwW (mUp μ 27 (szR u.1 + 1) v) u c v := by
  obtain ⟨h1, ⟨h2, h3⟩, h4, h5, h6⟩ := h
  have hw : ∀ j, j < (μ 23 13).toNat → mUp μ 27 (szR u.1 + 1) v 30 j = μ 30 j ∧ mUp μ 27 (szR u.1 + 1) v 31 j = μ 31 j := fun j _ => ⟨mUp.no (by omega), mUp.no (by omega)⟩
  unfold rwW
  rw [show mUp μ 27 (szR u.1 + 1) v 23 13 = μ 23 13 from mUp.no (by omega), show mUp μ 27 (szR u.1 + 1) v 23 11 = μ 23 11 from mUp.no (by omega)]
  exact ⟨rwsC.cg (Nat.le_refl _) hw (fun j _ b => mUp.no (by omega)) h1, ⟨(mUp.no (by omega)).trans h2, mUp.yes ⟨rfl, rfl⟩⟩, tsAC.cg (Nat.le_refl _) hw (fun j q b => mUp.no (by omega)) h4, acC.cg (fun j q b => mUp.no (by omega)) h5, h6⟩
/-- a test that is no way is put -/
theorem GW.test {a b x y z : Int} {t : Tst} (h : GW μ u r m c d) (ha : u.2.2.1 = []) (h0 : 0 ≤ μ 23 11) (f : puF μ m1) (p : puK μ m1 [a, b, x, y, z]) (h1 : t.1 = a) (h2 : t.2.1 = b) (n6 : ¬ a = 6) (hv : x = t.2.2.1 ∧ y = t.2.2.2.1 ∧ z = t.2.2.2.2.1) (ok : tOk t) : GW m1 (ouT u t) r m c d ∧ m1 23 11 = μ 23 11 + 5 := by
  obtain ⟨p1, p2, p3⟩ := p
  have p1' : m1 23 11 = μ 23 11 + 5 := p1
  refine ⟨⟨h.1.of (f _ _ (by omega) (by omega)) (fun j => f _ _ (by omega) (by omega)) (fun j => f _ _ (by omega) (by omega)), (f _ _ (by omega) (by omega)).trans h.2.1, ?_, ?_⟩, p1'⟩
  · have e13 : m1 23 13 = μ 23 13 := f _ _ (by omega) (by omega)
    refine h.2.2.1.test ha h0 (by rw [e13]; exact Nat.le_refl _) (fun j _ => ⟨f _ _ (by omega) (by omega), f _ _ (by omega) (by omega)⟩) p3 p1' ?_
    have q0 : m1 27 ((μ 23 11).toNat + 0) = a := p2 0 (show 0 < 5 by decide)
    have q1 : m1 27 ((μ 23 11).toNat + 1) = b := p2 1 (show 1 < 5 by decide)
    have q2 : m1 27 ((μ 23 11).toNat + 2) = x := p2 2 (show 2 < 5 by decide)
    have q3 : m1 27 ((μ 23 11).toNat + 3) = y := p2 3 (show 3 < 5 by decide)
    have q4 : m1 27 ((μ 23 11).toNat + 4) = z := p2 4 (show 4 < 5 by decide)
    refine ⟨q0.trans h1.symm, q1.trans h2.symm, fun e => absurd (h1.symm.trans e) n6, fun _ => ?_⟩
    rw [q2, q3, q4]
    exact hv
  · rw [f 23 14 (by omega) (by omega)]
    refine ⟨h.2.2.2.1, fun s hs => ?_, h.2.2.2.2.2⟩
    have hs' : s ∈ u.2.1 ++ [t] := hs
    rcases List.mem_append.mp hs' with q | q
    · exact h.2.2.2.2.1 s q
    · rw [List.mem_singleton.mp q]; exact ok
end RowW
/-- cur is this -/
def ouC (u : Out) (c : Int × Int × Int × Int) : Out := (u.1, u.2.1, u.2.2.1, c, u.2.2.2.2)
/-- a test was read: what is promised -/
def tsQ (μ m1 : mM) (u u' : Out) (r m' c d : Int) : Prop := m1 23 18 = 0 → μ 23 18 = 0 ∧ GW m1 u' r m' c d ∧ m1 23 11 = μ 23 11 + 5 ∧ ((m1 23 13 = μ 23 13 ∧ μ 23 9 + 1 ≤ m1 23 9) ∨ (m1 23 13 = μ 23 13 + 1 ∧ μ 23 9 + 2 ≤ m1 23 9)) ∧ (∃ t, u'.2.1 = u.2.1 ++ [t]) ∧ u'.1 = u.1 ∧ u'.2.2.1 = [] ∧ u'.2.2.2.1 = (0, 0, 0, 0)
theorem tOk.num {wt tn z : Int} (hw : wt = 8 ∨ wt = 9 ∨ wt = 14 ∨ wt = 10) (ht : tn = 0 ∨ tn = 1) : tOk (wt, tn, z, 0, 0, pc0) := ⟨Or.inr (Or.inr (show 8 ≤ wt ∧ wt ≤ 15 by omega)), ht, fun e => absurd (show wt = 4 from e) (by omega), fun e => absurd (show 11 ≤ wt ∧ wt ≤ 13 from e) (by omega), fun e => absurd (show wt = 15 from e) (by omega)⟩
theorem tOk.rel {wt tn z v : Int} (hw : 11 ≤ wt ∧ wt ≤ 13) (ht : tn = 0 ∨ tn = 1) (hz : 0 ≤ z ∧ z ≤ 2) : tOk (wt, tn, z, v, 0, pc0) := ⟨Or.inr (Or.inr (show 8 ≤ wt ∧ wt ≤ 15 by omega)), ht, fun e => absurd (show wt = 4 from e) (by omega), fun _ => hz, fun e => absurd (show wt = 15 from e) (by omega)⟩
theorem tOk.vd {tn z : Int} (ht : tn = 0 ∨ tn = 1) (hz : 0 ≤ z ∧ z ≤ 2) : tOk (15, tn, z, 0, 0, pc0) := ⟨Or.inr (Or.inr (show (8 : Int) ≤ 15 ∧ (15 : Int) ≤ 15 by decide)), ht, fun e => absurd (show (15 : Int) = 4 from e) (by decide), fun e => absurd (show (11 : Int) ≤ 15 ∧ (15 : Int) ≤ 13 from e) (by decide), fun _ => hz⟩
theorem vdOf.rng {t : Int} : 0 ≤ vdOf t ∧ vdOf t ≤ 2 := by
  unfold vdOf
  split
  · decide
  · split <;> decide
section Tsts
variable {w : mW} {μ : mM} {u : Out} {r m c d tn : Int} {Q : mM → Prop}
/-- a row's test may be put: what is known ahead of it -/
def tsB (μ : mM) (u : Out) (r m c d : Int) : Prop := μ 23 18 = 0 → GW μ u r m c d ∧ u.2.2.1 = [] ∧ 0 ≤ μ 23 11 ∧ μ 23 11 + 5 ≤ 2000
theorem tst_put {m2 m3 : mM} {a b x y z : Int} {t : Tst} (hg : tsB μ u r m c d) (g1 : μ 23 18 = 0) (f2 : frA μ m2) (f3 : puF m2 m3) (p3 : 0 ≤ m2 23 11 → m2 23 11 + 5 ≤ 2000 → puK m2 m3 [a, b, x, y, z]) (at2 : μ 23 9 + 1 ≤ m2 23 9) (h1 : t.1 = a) (h2 : t.2.1 = b) (n6 : ¬ a = 6) (hv : x = t.2.2.1 ∧ y = t.2.2.2.1 ∧ z = t.2.2.2.2.1) (ok : tOk t) : μ 23 18 = 0 ∧ GW m3 (ouT u t) r m c d ∧ m3 23 11 = μ 23 11 + 5 ∧ ((m3 23 13 = μ 23 13 ∧ μ 23 9 + 1 ≤ m3 23 9) ∨ (m3 23 13 = μ 23 13 + 1 ∧ μ 23 9 + 2 ≤ m3 23 9)) ∧ (∃ t', (ouT u t).2.1 = u.2.1 ++ [t']) ∧ (ouT u t).1 = u.1 ∧ (ouT u t).2.2.1 = [] ∧ (ouT u t).2.2.2.1 = (0, 0, 0, 0) := by
  obtain ⟨gw, ha, h0, h5⟩ := hg g1
  have e11 : m2 23 11 = μ 23 11 := f2 _ _ (by omega)
  have e13 : m2 23 13 = μ 23 13 := f2 _ _ (by omega)
  have e9 := f3.sm.1
  obtain ⟨G, q⟩ := GW.test (f2.gw gw) ha (by omega) f3 (p3 (by omega) (by omega)) h1 h2 n6 hv ok
  exact ⟨g1, G, by omega, Or.inl ⟨(f3 23 13 (by omega) (by omega)).trans e13, by omega⟩, ⟨t, rfl⟩, rfl, ha, rfl⟩
theorem tst_num {wt hi : Int} (h : CG μ 2 r m 0 hi (ouC u (tn, wt, 0, 0))) (hend : μ 24 (μ 23 8).toNat = -1) (hw : wt = 8 ∨ wt = 9 ∨ wt = 14) (ht : tn = 0 ∨ tn = 1) (hg : tsB μ u r m c d) (k : ∀ (m1 : mM) (u' : Out), CG m1 5 r m 0 0 u' → rdF μ m1 → tsQ μ m1 u u' r m c d → Q m1) :
    WP_X6_number_Wx w μ 0 hi (fun z m2 => mT w m2 → mF [23009, 23018, 23019] w μ m2 → ((-2147483648) ≤ z ∧ z ≤ 2147483647) → WP_X6_putTest_Wx w m2 wt tn z 0 0 (fun m3 => mT w m3 → mF [23011, 27999] w m2 m3 → Q m3)) := by
  refine X6_number_s fun z m2 n f2 _ _ _ => X6_putTest_s fun m3 f3 p3 _ _ => ?_
  have c3 := (CG.num2 h hend f2 n).same f3.tb f3.sm
  have eT : tsNum (tn, wt, 0, 0) z = (wt, tn, z, 0, 0, pc0) := by
    unfold tsNum
    rw [if_neg (show ¬ wt = 4 by omega), if_neg (show ¬ (11 ≤ wt ∧ wt ≤ 13) by omega)]
  have c4 : CG m3 5 r m 0 0 (ouT u (wt, tn, z, 0, 0, pc0)) := c3.ou (show ouT u (tsNum (tn, wt, 0, 0) z) = _ by rw [eT])
  refine k m3 _ c4 (f2.rd.trans f3.rd) fun g => ?_
  obtain ⟨g1, a1, _, _, _⟩ := n.at h.1 (f3.sm.2.1.symm.trans g)
  exact tst_put hg g1 f2 f3 p3 (by omega) rfl rfl (by omega) ⟨rfl, rfl, rfl⟩ (tOk.num (by omega) ht)
theorem tst_rel {wt hi : Int} (h : CG μ 4 r m hi 0 (ouC u (tn, wt, 0, 0))) (hend : μ 24 (μ 23 8).toNat = -1) (hw : 11 ≤ wt ∧ wt ≤ 13) (ht : tn = 0 ∨ tn = 1) (hg : tsB μ u r m c d) (k : ∀ (m1 : mM) (u' : Out), CG m1 5 r m 0 0 u' → rdF μ m1 → tsQ μ m1 u u' r m c d → Q m1) :
    WP_X6_relation_Wx w μ (fun z m2 => mT w m2 → mF [23009, 23018, 23019] w μ m2 → ((-2147483648) ≤ z ∧ z ≤ 2147483647) → WP_X6_number_Wx w m2 0 hi (fun v m3 => mT w m3 → mF [23009, 23018, 23019] w m2 m3 → ((-2147483648) ≤ v ∧ v ≤ 2147483647) → WP_X6_putTest_Wx w m3 wt tn z v 0 (fun m4 => mT w m4 → mF [23011, 27999] w m3 m4 → Q m4))) := by
  refine X6_relation_s fun z m2 n hz f2 _ _ _ => X6_number_s fun v m3 n3 f3 _ _ _ => X6_putTest_s fun m4 f4 p4 _ _ => ?_
  have c2 : CG m2 2 r m 0 hi (ouC u (tn, wt, z, 0)) := CG.rel h hend f2 n hz
  have c3 := (CG.num2 c2 (hendOf hend f2.tb) f3 n3).same f4.tb f4.sm
  have eT : tsNum (tn, wt, z, 0) v = (wt, tn, z, v, 0, pc0) := by
    unfold tsNum
    rw [if_neg (show ¬ wt = 4 by omega), if_pos (show 11 ≤ wt ∧ wt ≤ 13 from hw)]
  have c4 : CG m4 5 r m 0 0 (ouT u (wt, tn, z, v, 0, pc0)) := c3.ou (show ouT u (tsNum (tn, wt, z, 0) v) = _ by rw [eT])
  refine k m4 _ c4 (f2.rd.trans (f3.rd.trans f4.rd)) fun g => ?_
  obtain ⟨g2, a2, _, _, _⟩ := n3.at c2.1 (f4.sm.2.1.symm.trans g)
  obtain ⟨g1, a1, rz⟩ := n.at h.1 hz g2
  exact tst_put hg g1 (f2.trans f3) f4 p4 (by omega) rfl rfl (by omega) ⟨rfl, rfl, rfl⟩ (tOk.rel hw ht rz)
theorem tst_tie (h : CG μ 3 r m 16 19 (ouC u (tn, 10, 0, 0))) (hend : μ 24 (μ 23 8).toNat = -1) (ht : tn = 0 ∨ tn = 1) (hg : tsB μ u r m c d) (k : ∀ (m1 : mM) (u' : Out), CG m1 5 r m 0 0 u' → rdF μ m1 → tsQ μ m1 u u' r m c d → Q m1) :
    WP_X6_oneOf_Wx w μ 16 19 (fun z m2 => mT w m2 → mF [23009, 23018, 23019] w μ m2 → ((-2147483648) ≤ z ∧ z ≤ 2147483647) → ∀ y : Int, (-2147483648 ≤ y ∧ y ≤ 2147483647) → (y - (z - 16)) % 4294967296 = 0 → WP_X6_putTest_Wx w m2 10 tn y 0 0 (fun m3 => mT w m3 → mF [23011, 27999] w m2 m3 → Q m3)) := by
  refine X6_oneOf_s fun z m2 n f2 _ _ _ y ry ey => X6_putTest_s fun m3 f3 p3 _ _ => ?_
  have c3 := (CG.one h (by decide) hend f2 n).same f3.tb f3.sm
  have c4 : CG m3 5 r m 0 0 (ouT u (10, tn, z - 16, 0, 0, pc0)) := c3
  refine k m3 _ c4 (f2.rd.trans f3.rd) fun g => ?_
  obtain ⟨g1, a1, rz⟩ := n.at h.1 (by decide) (f3.sm.2.1.symm.trans g)
  exact tst_put hg g1 f2 f3 p3 (by omega) rfl rfl (by decide) ⟨show y = z - 16 by omega, rfl, rfl⟩ (tOk.num (Or.inr (Or.inr (Or.inr rfl))) ht)
theorem tst_vd (h : CG μ 3 r m 20 22 (ouC u (tn, 15, 0, 0))) (hend : μ 24 (μ 23 8).toNat = -1) (ht : tn = 0 ∨ tn = 1) (hg : tsB μ u r m c d) (k : ∀ (m1 : mM) (u' : Out), CG m1 5 r m 0 0 u' → rdF μ m1 → tsQ μ m1 u u' r m c d → Q m1) :
    WP_X6_oneOf_Wx w μ 20 22 (fun z m2 => mT w m2 → mF [23009, 23018, 23019] w μ m2 → ((-2147483648) ≤ z ∧ z ≤ 2147483647) → WP_X6_verdictOf_Wx w m2 z (fun y _ => ((-2147483648) ≤ y ∧ y ≤ 2147483647) → WP_X6_putTest_Wx w m2 15 tn y 0 0 (fun m3 => mT w m3 → mF [23011, 27999] w m2 m3 → Q m3))) := by
  refine X6_oneOf_s fun z m2 n f2 _ _ _ => X6_verdictOf_s ?_
  intro _
  refine X6_putTest_s fun m3 f3 p3 _ _ => ?_
  have c3 := (CG.one h (by decide) hend f2 n).same f3.tb f3.sm
  have c4 : CG m3 5 r m 0 0 (ouT u (15, tn, vdOf z, 0, 0, pc0)) := c3
  refine k m3 _ c4 (f2.rd.trans f3.rd) fun g => ?_
  obtain ⟨g1, a1, rz⟩ := n.at h.1 (by decide) (f3.sm.2.1.symm.trans g)
  exact tst_put hg g1 f2 f3 p3 (by omega) rfl rfl (by decide) ⟨rfl, rfl, rfl⟩ (tOk.vd ht vdOf.rng)
end Tsts
/-! Prefixes: in a.b.c.d/n to m. -/
section HeldC
variable {μ μ1 : mM} {r m x y z a b : Int} {u : Out}
theorem CG.h9a (h : CG μ 9 r m 0 0 u) (hend : μ 24 (μ 23 8).toNat = -1) (f : frA μ μ1) (n : nbK μ μ1 0 255 z) : CG μ1 10 r m 0 z u := by
  refine ⟨h.1.h9a hend f.tb n, ?_⟩
  rcases n with ⟨k1, k2⟩ | ⟨k1, k2, k3⟩ | ⟨k1, k2, k3, k4⟩
  · exact CSo.fail k2 (by decide)
  · exact CSo.fail k3 (by decide)
  · refine h.2.mvs h.1 f.tb k4 (t := -2) (v := z) (by decide) (by decide) k1 k3.symm (fun p f q => ?_) rfl
    show n9 r m 0 0 (-2) z f q = _
    unfold n9
    rw [if_neg (by decide), if_neg (by omega), if_neg (by decide), or0 (by omega)]
theorem CG.h9 (h : CG μ 9 r m x y u) (hend : μ 24 (μ 23 8).toNat = -1) (f : frA μ μ1) (n : nbK μ μ1 0 255 z) (e1 : bShl y 8 = a) (e2 : bOr a z = b) : (x = 3 → CG μ1 11 r m b 0 u) ∧ (¬ x = 3 → CG μ1 10 r m x b u) := by
  have cs := h.1.h9b hend f.tb n e1 e2
  refine ⟨fun c => ⟨cs.h11 c, ?_⟩, fun c => ⟨cs.h10 c, ?_⟩⟩
  · rcases n with ⟨k1, k2⟩ | ⟨k1, k2, k3⟩ | ⟨k1, k2, k3, k4⟩
    · exact CSo.fail k2 (by decide)
    · exact CSo.fail k3 (by decide)
    · refine h.2.mvs h.1 f.tb k4 (t := -2) (v := z) (by decide) (by decide) k1 k3.symm (fun p f q => ?_) rfl
      show n9 r m x y (-2) z f q = _
      unfold n9
      rw [if_neg (by decide), if_neg (by omega), if_pos c, e1, e2]
  · rcases n with ⟨k1, k2⟩ | ⟨k1, k2, k3⟩ | ⟨k1, k2, k3, k4⟩
    · exact CSo.fail k2 (by decide)
    · exact CSo.fail k3 (by decide)
    · refine h.2.mvs h.1 f.tb k4 (t := -2) (v := z) (by decide) (by decide) k1 k3.symm (fun p f q => ?_) rfl
      show n9 r m x y (-2) z f q = _
      unfold n9
      rw [if_neg (by decide), if_neg (by omega), if_neg c, e1, e2]
theorem CG.len (h : CG μ 12 r m x y u) (hend : μ 24 (μ 23 8).toNat = -1) (f : frA μ μ1) (n : nbK μ μ1 0 32 z) (hm : cT μ = -2 → 0 ≤ cV μ ∧ cV μ ≤ 32 → bAnd x (bXor (mskF (cV μ)) (-1)) = 0) : CG μ1 13 r m z 0 (ouAB u x z) := by
  refine ⟨h.1.len hend f.tb n hm, ?_⟩
  rcases n with ⟨k1, k2⟩ | ⟨k1, k2, k3⟩ | ⟨k1, k2, k3, k4⟩
  · exact CSo.fail k2 (by decide)
  · exact CSo.fail k3 (by decide)
  · refine h.2.mvs h.1 f.tb k4 (t := -2) (v := z) (by decide) (by decide) k1 k3.symm (fun p f q => ?_) rfl
    show n12 mskF r m x (-2) z f q = _
    unfold n12
    rw [if_neg (fun q => q.2.2.2 (by rw [k3]; exact hm k1 k2)), if_neg (by decide), if_neg (by omega)]
theorem CG.to (h : CG μ 13 r m x y u) (f : frA μ μ1) (s : stK μ μ1) (ht : cT μ = 5) : CG μ1 2 r m x 32 u := CG.mv h (h.1.to f.tb ht s) f.tb s ht (by decide) (by decide) (fun p f q => rfl) rfl
theorem CG.noto (h : CG μ 13 r m x y u) (ht : ¬ cT μ = 5) : CG μ 5 r m 0 0 (ouNum u 32) := by
  refine CG.stay h (h.1.noto tbC.refl ht smK.refl) rfl (by decide) (fun p v f q => ?_) (fun v => ?_)
  · show n13 p r m x (cT μ) q = _
    unfold n13
    rw [if_neg ht]
  · show (if cT μ = 5 then u else ouNum u 32) = _
    rw [if_neg ht]
end HeldC
theorem tOk.pre {tn a l v : Int} (ht : tn = 0 ∨ tn = 1) (hl : 0 ≤ l ∧ l ≤ 32) (ha : -2147483648 ≤ a ∧ a ≤ 2147483647) (hm : bAnd a (bXor (mskF l) (-1)) = 0) : tOk (4, tn, a, l, v, pc0) := ⟨Or.inl rfl, ht, fun _ => ⟨hl, ha, hm⟩, fun e => absurd (show (11 : Int) ≤ 4 ∧ (4 : Int) ≤ 13 from e) (by decide), fun e => absurd (show (4 : Int) = 15 from e) (by decide)⟩
section Held2
variable {w : mW} {μ : mM} {u : Out} {r m c d tn : Int} {Q : mM → Prop}
theorem X6_readHeldIn_s (h : CG μ 9 r m 0 0 (ouC u (tn, 4, 0, 0))) (hend : μ 24 (μ 23 8).toNat = -1) (ht : tn = 0 ∨ tn = 1) (hg : tsB μ u r m c d) (k : ∀ (m1 : mM) (u' : Out), CG m1 5 r m 0 0 u' → rdF μ m1 → tsQ μ m1 u u' r m c d → Q m1) : WP_X6_readHeldIn_Wx w μ tn Q := by
  refine X6_number_s fun z m1 n f1 _ _ rz => ?_
  have c1 := CG.h9a h hend f1 n
  refine loopF.iim (fun a i m2 => (0 ≤ i ∧ i ≤ 3) ∧ frA μ m2 ∧ (i = 3 → CG m2 11 r m a 0 (ouC u (tn, 4, 0, 0))) ∧ (¬ i = 3 → CG m2 10 r m i a (ouC u (tn, 4, 0, 0))) ∧ (m2 23 18 = 0 → μ 23 18 = 0 ∧ μ 23 9 + 1 ≤ m2 23 9)) (fun _ i => (4 - i).toNat) ⟨by decide, f1, fun q => absurd q (by decide), fun _ => c1, fun g => ?_⟩ (by decide) ?_
  · obtain ⟨g1, a1, _, _, _⟩ := n.at h.1 g
    exact ⟨g1, by omega⟩
  rintro rc a i m2 ⟨ri, f2, h11, h10, hg2⟩ ih a' i' m2' eq ra _ _ _
  cases eq
  refine ⟨fun q => X6_expect_s fun m3 ex f3 _ _ at3 e3 _ t3 et3 _ => ?_, fun q => X6_expect_s fun m3 ex f3 _ _ s es => X6_number_s fun v m4 n4 f4 _ _ _ b eb => ?_⟩
  · have c2 := h11 (by omega)
    have c3 : CG m3 12 r m a 0 (ouC u (tn, 4, 0, 0)) := CG.exp c2 (c2.1.slash (hendOf hend f2.tb) f3.tb ex) f3 ex (by decide) (by decide) (fun _ _ _ _ => rfl) (fun _ => rfl)
    have f23 := f2.trans f3
    have ct : cT m3 = t3 := cT.is e3 et3
    have J3 : ∀ m4 : mM, frA m3 m4 → CG m4 12 r m a 0 (ouC u (tn, 4, 0, 0)) → (cT m4 = -2 → 0 ≤ cV m4 ∧ cV m4 ≤ 32 → bAnd a (bXor (mskF (cV m4)) (-1)) = 0) → (m4 23 18 = 0 → m3 23 18 = 0 ∧ m3 23 9 ≤ m4 23 9) → WJ_X6_readHeldIn_Wx_3 w tn Q a m3 m4 := by
      intro m4 f4 c4 hm hg4 _ _
      refine X6_number_s fun l m5 n5 f5 _ _ _ => X6_take_s fun y m6 tk f6 _ _ _ => ⟨fun y0 => ?_, fun y1 => ?_⟩
      · have hend4 := hendOf hend (f23.trans f4).tb
        have c5 := CG.len c4 hend4 f5 n5 hm
        obtain ⟨nt, sm⟩ := tk.n y0
        refine X6_putTest_s fun m7 f7 p7 _ _ => ?_
        have c6 : CG m7 5 r m 0 0 (ouT u (4, tn, a, l, 32, pc0)) := ((CG.noto c5 nt).same f6.tb sm).same f7.tb f7.sm
        have F6 := (f23.trans f4).trans (f5.trans f6)
        refine k m7 _ c6 (F6.rd.trans f7.rd) fun g => ?_
        have g5 : m5 23 18 = 0 := sm.2.1.symm.trans (f7.sm.2.1.symm.trans g)
        obtain ⟨g4, a4, t4, rl, el⟩ := n5.at c4.1 g5
        obtain ⟨g3, a3⟩ := hg4 g4
        obtain ⟨g2', a2, _⟩ := ex.at c2.1 (by decide) g3
        obtain ⟨g1, a1⟩ := hg2 g2'
        have b1 := sm.1
        exact tst_put hg g1 F6 f7 p7 (by omega) rfl rfl (by decide) ⟨rfl, rfl, rfl⟩ (tOk.pre ht rl ra (by have := hm t4 (by rw [← el]; exact rl); rw [← el] at this; exact this))
      · have hend4 := hendOf hend (f23.trans f4).tb
        have c5 := CG.len c4 hend4 f5 n5 hm
        obtain ⟨yt, st⟩ := tk.y (by omega)
        have c6 : CG m6 2 r m l 32 (ouC u (tn, 4, a, l)) := CG.to c5 f6 st yt
        have F6 := (f23.trans f4).trans (f5.trans f6)
        refine X6_number_s fun v m7 n7 f7 _ _ _ => X6_putTest_s fun m8 f8 p8 _ _ => ?_
        have c8 : CG m8 5 r m 0 0 (ouT u (4, tn, a, l, v, pc0)) := (CG.num2 c6 (hendOf hend F6.tb) f7 n7).same f8.tb f8.sm
        refine k m8 _ c8 (F6.rd.trans (f7.rd.trans f8.rd)) fun g => ?_
        obtain ⟨g6, a6, _, _, _⟩ := n7.at c6.1 (f8.sm.2.1.symm.trans g)
        obtain ⟨g5, y5⟩ := tk.at c5.1 (by decide) g6
        obtain ⟨g4, a4, t4, rl, el⟩ := n5.at c4.1 g5
        obtain ⟨g3, a3⟩ := hg4 g4
        obtain ⟨g2', a2, _⟩ := ex.at c2.1 (by decide) g3
        obtain ⟨g1, a1⟩ := hg2 g2'
        exact tst_put hg g1 (F6.trans f7) f8 p8 (by omega) rfl rfl (by decide) ⟨rfl, rfl, rfl⟩ (tOk.pre ht rl ra (by have := hm t4 (by rw [← el]; exact rl); rw [← el] at this; exact this))
    have J2 : ∀ fl : Int, (fl = 1 → t3 = -2 ∧ cV m3 ≤ 32) → (fl = 0 → ¬ (t3 = -2 ∧ cV m3 ≤ 32)) → (fl = 0 ∨ fl = 1) → WJ_X6_readHeldIn_Wx_2 w tn Q a m3 at3 fl := by
      intro fl h1 h0 hf _
      refine ⟨fun q0 => J3 m3 frA.refl c3 (fun y1 y2 => absurd ⟨ct.symm.trans y1, y2.2⟩ (h0 q0)) (fun g => ⟨g, Int.le_refl _⟩), fun q1 v ev _ => ?_⟩
      obtain ⟨tt, vv⟩ := h1 (by omega)
      have cv : cV m3 = v := cV.is e3 ev
      have v0 := c3.1.v0 (ct.trans tt)
      refine X10_maskOf_s (by omega) ?_
      intro _ x ex' y ey
      rw [← cv] at ex'
      refine ⟨fun z0 => J3 m3 frA.refl c3 (fun _ _ => by rw [ex', ey]; exact z0) (fun g => ⟨g, Int.le_refl _⟩), fun z1 => X6_fail_s fun m4 fl4 f4 _ _ => ?_⟩
      refine J3 m4 f4 (CG.fl (c3.1.mkF (hendOf hend f23.tb) f4.tb fl4 (ct.trans tt) (by omega) (by rw [ex', ey]; exact z1)) fl4 (by decide)) (fun y1 _ => ?_) (fun g => absurd g (fl4.no (by decide)))
      have bd := fl4.no (by decide)
      have c4 : CSc m4 (fun p => (12, p, r, m, a, 0)) := c3.1.mkF (hendOf hend f23.tb) f4.tb fl4 (ct.trans tt) (by omega) (by rw [ex', ey]; exact z1)
      rw [c4.cTe bd] at y1
      exact absurd y1 (by decide)
    refine ⟨fun q1 => J2 0 (fun z => absurd z (by decide)) (fun _ z => q1 z.1) (Or.inl rfl), fun q1 v ev _ => ?_⟩
    have cv : cV m3 = v := cV.is e3 ev
    exact ⟨fun q2 => J2 0 (fun z => absurd z (by decide)) (fun _ z => by omega) (Or.inl rfl), fun q2 => J2 1 (fun _ => ⟨q1, by omega⟩) (fun z => absurd z (by decide)) (Or.inr rfl)⟩
  · have c2 := h10 (by omega)
    have c3 : CG m3 9 r m (i + 1) a (ouC u (tn, 4, 0, 0)) := CG.exp c2 (c2.1.dot (hendOf hend f2.tb) f3.tb ex) f3 ex (by decide) (by decide) (fun _ _ _ _ => rfl) (fun _ => rfl)
    obtain ⟨y1, y2⟩ := CG.h9 c3 (hendOf hend (f2.trans f3).tb) f4 n4 es eb
    refine ih _ _ _ ⟨by omega, (f2.trans f3).trans f4, y1, y2, fun g => ?_⟩ (by omega)
    obtain ⟨g3, a3, _, _, _⟩ := n4.at c3.1 g
    obtain ⟨g2', a2, _⟩ := ex.at c2.1 (by decide) g3
    obtain ⟨g1, a1⟩ := hg2 g2'
    exact ⟨g1, by omega⟩
/-- a way -/
theorem X6_readWay_s (hw : mWF w) (h : CG μ 14 r m 0 0 (ouC u (tn, 6, 0, 0))) (hend : μ 24 (μ 23 8).toNat = -1) (ht : tn = 0 ∨ tn = 1) (hg : tsB μ u r m c d) (hb : μ 23 18 = 0 → 4 * μ 23 13 + 2 ≤ μ 23 9) (k : ∀ (m1 : mM) (m' : Int) (u' : Out), CG m1 5 r m' 0 0 u' → rdF μ m1 → tsQ μ m1 u u' r m' c d → Q m1) : WP_X6_readWay_Wx w μ tn Q := by
  refine X6_expect_s fun m1 ex f1 hT1 _ => ?_
  have c1 : CG m1 15 r m 1 0 (ouW (ouC u (tn, 6, 0, 0)) (wtBeg (oW u))) := CG.exp h (h.1.opn hend f1.tb ex) f1 ex (by decide) (by decide) (fun _ _ _ _ => rfl) (fun _ => rfl)
  refine X6_readBranches_s1 (rest := []) hw hT1 c1 (hendOf hend f1.tb) (fun g => ?_) fun m2 m' W c2 f2 n2 hg2 _ _ => X6_expect_s fun m3 ex3 f3 hT3 _ wy ewy rwy => ?_
  · obtain ⟨g1, _, _⟩ := ex.at h.1 (by decide) g
    exact ⟨f1.nm ((hg g1).1.1), rfl⟩
  have F2 : wzF μ m2 := f1.wy.trans f2
  have c3 : CG m3 5 r m' 0 0 (ouWay (ouW (ouC u (tn, 6, 0, 0)) W)) := CG.exp c2 (c2.1.cls (hendOf hend F2.tb) n2 f3.tb ex3) f3 ex3 (by decide) (by decide) (fun _ _ _ _ => rfl) (fun _ => rfl)
  have F3 : wzF μ m3 := F2.trans f3.wy
  have good : m3 23 18 = 0 → μ 23 18 = 0 ∧ μ 23 9 + 2 ≤ m3 23 9 ∧ nmW m3 W m' ∧ ∃ v, wL W = [v] ∧ pcW m3 (pcOr v.1 v.2) := fun g => by
    obtain ⟨g2, a2, _⟩ := ex3.at c2.1 (by decide) g
    obtain ⟨g1, nm2, a1, v, hv, pc⟩ := hg2 g2
    obtain ⟨g0, a0, _⟩ := ex.at h.1 (by decide) g1
    exact ⟨g0, by omega, f3.nm nm2, v, hv, f3.pc pc⟩
  have e13 : m3 23 13 = μ 23 13 := F3 _ _ (by omega) (by omega) (by omega)
  have e11 : m3 23 11 = μ 23 11 := F3 _ _ (by omega) (by omega) (by omega)
  refine ⟨fun q => ?_, fun q f16 e16 _ m4 u4 _ f17 e17 _ m5 u5 _ f15 e15 r15 => ?_⟩
  · have t3 : 0 ≤ m3 23 9 ∧ m3 23 9 ≤ 1000 := hT3 23 23 (A_23 hw) 9
    have nb : ¬ m3 23 18 = 0 := fun g => by
      obtain ⟨g0, a0, _⟩ := good g
      have := hb g0
      omega
    exact k m3 m' (ouT u (6, tn, 0, 0, 0, pc0)) (c3.bad nb) F3.rd fun g => absurd g nb
  obtain rfl := u4.is
  obtain rfl := u5.is
  rw [mUp.no (by omega)] at e17
  rw [mUp.no (by omega), mUp.no (by omega)] at e15
  have fin : ∀ (y : Int) (m6 : mM), (y = 1 ↔ f15 = 1) → puF (mUp (mUp m3 30 wy.toNat f16) 31 wy.toNat f17) m6 → (0 ≤ mUp (mUp m3 30 wy.toNat f16) 31 wy.toNat f17 23 11 → mUp (mUp m3 30 wy.toNat f16) 31 wy.toNat f17 23 11 + 5 ≤ 2000 → puK (mUp (mUp m3 30 wy.toNat f16) 31 wy.toNat f17) m6 [6, tn, wy, y, 0]) → ∀ m7 : mM, mU m6 23 13 (wy + 1) m7 → Q m7 := by
    intro y m6 hy f6 p6 m7 u7
    obtain rfl := u7.is
    have q11 : mUp (mUp m3 30 wy.toNat f16) 31 wy.toNat f17 23 11 = m3 23 11 := by rw [mUp.no (by omega), mUp.no (by omega)]
    have fr7 : ∀ b j, ¬ (b = 23 ∧ (j = 11 ∨ j = 13)) → ¬ b = 27 → ¬ b = 30 → ¬ b = 31 → mUp m6 23 13 (wy + 1) b j = m3 b j := fun b j q1 q2 q3 q4 => by
      rw [mUp.no (by omega), f6 b j (by omega) q2, mUp.no (by omega), mUp.no (by omega)]
    have rd7 : rdF m3 (mUp m6 23 13 (wy + 1)) := fun b j q1 q2 => fr7 b j (by omega) (by omega) (by omega) (by omega)
    have sm7 : smK m3 (mUp m6 23 13 (wy + 1)) := ⟨fr7 _ _ (by omega) (by omega) (by omega) (by omega), fr7 _ _ (by omega) (by omega) (by omega) (by omega), fr7 _ _ (by omega) (by omega) (by omega) (by omega)⟩
    refine k _ m' _ (c3.same rd7.tb sm7) (F3.rd.trans rd7) fun g => ?_
    have g3 : m3 23 18 = 0 := sm7.2.1.symm.trans g
    obtain ⟨g0, a0, nm3, v, hv, pc3⟩ := good g3
    obtain ⟨gw, ha, h0, h5⟩ := hg g0
    obtain ⟨p1, p2, p3⟩ := p6 (by omega) (by omega)
    rw [q11] at p1 p2 p3
    have p1' : m6 23 11 = m3 23 11 + 5 := p1
    have eP := wtPop.eq hv
    have eU : ouWay (ouW (ouC u (tn, 6, 0, 0)) W) = ouT (ouW u (W.1, W.2.1, [], pcOr v.1 v.2)) (6, tn, 0, 0, 0, pcOr v.1 v.2) := by
      show ouT (ouW (ouC u (tn, 6, 0, 0)) (wtPop W)) (6, tn, 0, 0, 0, (wtPop W).2.2.2) = _
      rw [eP]
      rfl
    have w13 : (mUp m6 23 13 (wy + 1) 23 13) = wy + 1 := mUp.yes ⟨rfl, rfl⟩
    have c7 : ∀ j : Nat, j < (m3 23 11).toNat → mUp m6 23 13 (wy + 1) 27 j = m3 27 j := fun j hj => by
      rw [mUp.no (by omega), p3 j hj, mUp.no (by omega), mUp.no (by omega)]
    have c30 : ∀ j, mUp m6 23 13 (wy + 1) 30 j = if j = wy.toNat then f16 else m3 30 j := fun j => by
      rw [mUp.no (by omega), f6 30 j (by omega) (by omega), mUp.no (by omega)]
      by_cases e : j = wy.toNat
      · rw [mUp.yes ⟨rfl, e⟩, if_pos e]
      · rw [mUp.no (by omega), if_neg e]
    have c31 : ∀ j, mUp m6 23 13 (wy + 1) 31 j = if j = wy.toNat then f17 else m3 31 j := fun j => by
      rw [mUp.no (by omega), f6 31 j (by omega) (by omega)]
      by_cases e : j = wy.toNat
      · rw [mUp.yes ⟨rfl, e⟩, if_pos e]
      · rw [mUp.no (by omega), if_neg e, mUp.no (by omega)]
    have rw3 : rwW m3 u c d := gw.2.2.1.of (fun i => F3 _ _ (by omega) (by omega) (by omega)) (fun i => F3 _ _ (by omega) (by omega) (by omega)) (fun i => F3 _ _ (by omega) (by omega) (by omega)) e11 e13
    have q0 : mUp m6 23 13 (wy + 1) 27 ((m3 23 11).toNat + 0) = 6 := by rw [mUp.no (by omega)]; exact p2 0 (show 0 < 5 by decide)
    have q1 : mUp m6 23 13 (wy + 1) 27 ((m3 23 11).toNat + 1) = tn := by rw [mUp.no (by omega)]; exact p2 1 (show 1 < 5 by decide)
    have q2 : mUp m6 23 13 (wy + 1) 27 ((m3 23 11).toNat + 2) = wy := by rw [mUp.no (by omega)]; exact p2 2 (show 2 < 5 by decide)
    have q3 : mUp m6 23 13 (wy + 1) 27 ((m3 23 11).toNat + 3) = y := by rw [mUp.no (by omega)]; exact p2 3 (show 3 < 5 by decide)
    have RW := rw3.test (m1 := mUp m6 23 13 (wy + 1)) (t := (6, tn, 0, 0, 0, pcOr v.1 v.2)) ha (by omega) (by rw [w13]; omega) (fun j hj => ⟨by rw [c30, if_neg (by omega)], by rw [c31, if_neg (by omega)]⟩) c7 (by rw [mUp.no (by omega)]; exact p1') ⟨q0, q1, fun _ => by
      rw [q2, q3, c30, c31, if_pos rfl, if_pos rfl, w13]
      refine ⟨⟨rwy.1, by omega⟩, by rw [← e16]; exact pc3.1, by rw [← e17]; exact pc3.2.1, hy.trans ?_⟩
      rw [← e15]
      exact pc3.2.2, fun e => absurd rfl e⟩
    rw [eU]
    refine ⟨g0, ⟨?_, ?_, RW, ?_⟩, by rw [mUp.no (by omega)]; omega, Or.inr ⟨by rw [w13]; omega, by rw [sm7.1]; exact a0⟩, ⟨_, rfl⟩, rfl, ha, rfl⟩
    · exact ⟨(fr7 _ _ (by omega) (by omega) (by omega) (by omega)).trans nm3.1, fun j hj => by
        rw [fr7 28 j (by omega) (by omega) (by omega) (by omega), fr7 29 j (by omega) (by omega) (by omega) (by omega)]
        exact nm3.2 j hj⟩
    · rw [fr7 23 10 (by omega) (by omega) (by omega) (by omega), F3 23 10 (by omega) (by omega) (by omega)]
      exact gw.2.1
    · rw [fr7 23 14 (by omega) (by omega) (by omega) (by omega), F3 23 14 (by omega) (by omega) (by omega)]
      refine ⟨gw.2.2.2.1, fun s hs => ?_, gw.2.2.2.2.2⟩
      have hs' : s ∈ u.2.1 ++ [((6, tn, 0, 0, 0, pcOr v.1 v.2) : Tst)] := hs
      rcases List.mem_append.mp hs' with q | q
      · exact gw.2.2.2.2.1 s q
      · rw [List.mem_singleton.mp q]
        exact ⟨Or.inr (Or.inl rfl), ht, fun e => absurd (show (6 : Int) = 4 from e) (by decide), fun e => absurd (show (11 : Int) ≤ 6 ∧ (6 : Int) ≤ 13 from e) (by decide), fun e => absurd (show (6 : Int) = 15 from e) (by decide)⟩
  exact ⟨fun z => X6_putTest_s fun m6 f6 p6 _ _ m7 u7 _ => fin 0 m6 ⟨fun e => absurd e (by decide), fun e => by omega⟩ f6 p6 m7 u7, fun z => X6_putTest_s fun m6 f6 p6 _ _ m7 u7 _ => fin 1 m6 ⟨fun _ => by omega, fun _ => rfl⟩ f6 p6 m7 u7⟩
end Held2
end
section
/-! The class's reader: a test, an act. -/
section TestC
variable {w : mW} {μ : mM} {u : Out} {r m c d : Int} {Q : mM → Prop}
/-- a whole test was read -/
def tsR0 (μ m1 : mM) (u u' : Out) (r m' c d : Int) : Prop := m1 23 18 = 0 → μ 23 18 = 0 ∧ GW m1 u' r m' c d ∧ m1 23 11 = μ 23 11 + 5 ∧ μ 23 9 + 2 ≤ m1 23 9 ∧ 4 * m1 23 13 ≤ m1 23 9 ∧ (∃ t, u'.2.1 = u.2.1 ++ [t]) ∧ u'.1 = u.1 ∧ u'.2.2.1 = [] ∧ u'.2.2.2.1 = (0, 0, 0, 0)
theorem X6_readTest_s (hw : mWF w) (hT : mT w μ) (h : CG μ 1 r m 0 0 u) (hcur : u.2.2.2.1 = (0, 0, 0, 0)) (hend : μ 24 (μ 23 8).toNat = -1) (hg : tsB μ u r m c d) (hb : μ 23 18 = 0 → 4 * μ 23 13 + 1 ≤ μ 23 9) (k : ∀ (m1 : mM) (m' : Int) (u' : Out), CG m1 5 r m' 0 0 u' → rdF μ m1 → tsR0 μ m1 u u' r m' c d → Q m1) : WP_X6_readTest_Wx w μ Q := by
  have t9 : 0 ≤ μ 23 9 ∧ μ 23 9 ≤ 1000 := hT 23 23 (A_23 hw) 9
  have h' : CG μ 1 r m 0 0 (ouC u (0, 0, 0, 0)) := by
    rw [← hcur]
    exact h
  have J2 : ∀ (tn : Int) (m2 m3 : mM), (tn = 0 ∨ tn = 1) → frA μ m3 → CG m3 1 r m 0 0 (ouC u (tn, 0, 0, 0)) → ¬ cT m3 = 3 → (m3 23 18 = 0 → μ 23 18 = 0 ∧ μ 23 9 ≤ m3 23 9) → WJ_X6_readTest_Wx_2 w Q tn m2 m3 := by
    intro tn m2 m3 ht f3 c3 n3 hg3 _ _ a ea ra t et rt
    have ct : cT m3 = t := cT.is ea et
    have hend3 := hendOf hend f3.tb
    refine X6_isTest_s fun b hb' rb => ⟨fun q => X6_step_s fun m4 st f4 hT4 _ => ?_, fun q => X6_fail_s fun m4 fl f4 _ _ => ?_⟩
    rotate_left 1
    · refine k m4 m (ouT u (8, 0, 0, 0, 0, pc0)) (CG.fl (c3.1.t2 hend3 f4.tb fl n3 (fun y => ?_)) fl (by decide)) (f3.rd.trans f4.rd) fun g => absurd g (fl.no (by decide))
      rw [ct] at y
      have := hb'.mpr y
      omega
    have ts : isTs t := hb'.mp (by omega)
    unfold isTs at ts
    have F4 : frA μ m4 := f3.trans f4
    have hend4 := hendOf hend F4.tb
    obtain ⟨s1, s2⟩ := st.at c3.1 (by omega)
    have mv : ∀ (s' x' y' tt : Int), t = tt → (∀ f q, n1 r m tt f q = (s', q, r, m, x', y')) → ¬ tt = 3 → ¬ tt = -1 → CG m4 s' r m x' y' (ouC u (tn, tt, 0, 0)) := by
      intro s' x' y' tt e hn h3 h1
      have ctt : cT m3 = tt := ct.trans e
      refine CG.mv c3 (c3.1.mvs f4.tb st (by rw [ctt]; exact h1) (nsE (by decide)) (fun p q => ?_)) f4.tb st ctt h1 (by decide) (fun p f q => hn f q) ?_
      · rw [ctt]
        exact hn _ _
      · show (if tt = 3 then ouNot (ouC u (tn, 0, 0, 0)) else ouWhat (ouC u (tn, 0, 0, 0)) tt) = _
        rw [if_neg h3]
        rfl
    have hg4 : tsB m4 u r m c d := fun g => by
      obtain ⟨g0, _⟩ := hg3 (s2 g)
      obtain ⟨x1, x2, x3, x4⟩ := hg g0
      have e11 : m4 23 11 = μ 23 11 := F4 _ _ (by omega)
      exact ⟨F4.gw x1, x2, by omega, by omega⟩
    have e11 : m4 23 11 = μ 23 11 := F4 _ _ (by omega)
    have e13 : m4 23 13 = μ 23 13 := F4 _ _ (by omega)
    have fin : ∀ (m1 : mM) (m' : Int) (u' : Out), CG m1 5 r m' 0 0 u' → rdF m4 m1 → tsQ m4 m1 u u' r m' c d → Q m1 := fun m1 m' u' c1 f1 hq => k m1 m' u' c1 (F4.rd.trans f1) fun g => by
      obtain ⟨g4, x1, x2, x3, x4, x5, x6, x7⟩ := hq g
      obtain ⟨g0, a0⟩ := hg3 (s2 g4)
      have := hb g0
      exact ⟨g0, x1, by omega, by omega, by omega, x4, x5, x6, x7⟩
    refine ⟨fun e => ?_, fun e4 => ⟨fun e => absurd ts (by omega), fun e5 => ⟨fun e => ?_, fun e6 => ⟨fun e => absurd ts (by omega), fun e7 => ⟨fun e => ?_, fun e8 => ⟨fun e => ?_, fun e9 => ⟨fun e => ?_, fun e10 => ⟨fun e => ?_, fun e11' => ⟨fun e => ?_, fun e12 => ⟨fun e => ?_, fun e13' => ⟨fun e => ?_, fun e14 => ⟨fun e => ?_, fun e15 => absurd ts (by omega)⟩⟩⟩⟩⟩⟩⟩⟩⟩⟩⟩⟩
    · subst e
      exact X6_readHeldIn_s (mv 9 0 0 4 rfl (fun _ _ => rfl) (by decide) (by decide)) hend4 ht hg4 fun m1 u' c1 f1 hq _ _ => fin m1 m u' c1 f1 hq
    · subst e
      refine X6_readWay_s hw (mv 14 0 0 6 rfl (fun _ _ => rfl) (by decide) (by decide)) hend4 ht hg4 (fun g => ?_) fun m1 m' u' c1 f1 hq _ _ => fin m1 m' u' c1 f1 hq
      obtain ⟨g0, a0⟩ := hg3 (s2 g)
      have := hb g0
      omega
    · subst e
      exact tst_num (mv 2 0 65535 8 rfl (fun _ _ => rfl) (by decide) (by decide)) hend4 (by decide) ht hg4 fun m1 u' c1 f1 hq => fin m1 m u' c1 f1 hq
    · subst e
      exact tst_num (mv 2 0 9 9 rfl (fun _ _ => rfl) (by decide) (by decide)) hend4 (by decide) ht hg4 fun m1 u' c1 f1 hq => fin m1 m u' c1 f1 hq
    · subst e
      exact tst_tie (mv 3 16 19 10 rfl (fun _ _ => rfl) (by decide) (by decide)) hend4 ht hg4 fun m1 u' c1 f1 hq => fin m1 m u' c1 f1 hq
    · subst e
      exact tst_rel (mv 4 1000000 0 11 rfl (fun _ _ => rfl) (by decide) (by decide)) hend4 (by decide) ht hg4 fun m1 u' c1 f1 hq => fin m1 m u' c1 f1 hq
    · subst e
      exact tst_rel (mv 4 1000 0 12 rfl (fun _ _ => rfl) (by decide) (by decide)) hend4 (by decide) ht hg4 fun m1 u' c1 f1 hq => fin m1 m u' c1 f1 hq
    · subst e
      exact tst_rel (mv 4 1000000 0 13 rfl (fun _ _ => rfl) (by decide) (by decide)) hend4 (by decide) ht hg4 fun m1 u' c1 f1 hq => fin m1 m u' c1 f1 hq
    · subst e
      exact tst_num (mv 2 0 2 14 rfl (fun _ _ => rfl) (by decide) (by decide)) hend4 (by decide) ht hg4 fun m1 u' c1 f1 hq => fin m1 m u' c1 f1 hq
    · subst e
      exact tst_vd (mv 3 20 22 15 rfl (fun _ _ => rfl) (by decide) (by decide)) hend4 ht hg4 fun m1 u' c1 f1 hq => fin m1 m u' c1 f1 hq
  refine loopF.iim (fun tn i m2 => (tn = 0 ∨ tn = 1) ∧ 0 ≤ i ∧ frA μ m2 ∧ CG m2 1 r m 0 0 (ouC u (tn, 0, 0, 0)) ∧ (m2 23 18 = 0 → μ 23 18 = 0 ∧ μ 23 9 + i ≤ m2 23 9)) (fun _ i => (1001 - i).toNat) ⟨Or.inl rfl, by decide, frA.refl, h', fun g => ⟨g, by omega⟩⟩ (by decide) ?_
  rintro rc tn i m2 ⟨ht, i0, f2, c2, hg2⟩ ih tn' i' m2' eq _ ri hT2 _
  cases eq
  have s9 : 0 ≤ m2 23 9 ∧ m2 23 9 ≤ 1000 := hT2 23 23 (A_23 hw) 9
  have s8 : 0 ≤ m2 23 8 ∧ m2 23 8 ≤ 1000 := hT2 23 23 (A_23 hw) 8
  refine ⟨fun q => J2 tn m2 m2 ht f2 c2 (fun y => ?_) fun g => ⟨(hg2 g).1, by have := (hg2 g).2; omega⟩, fun q => X6_take_s fun z m3 tk f3 _ _ rz => ⟨fun z0 => J2 tn m2 m3 ht (f2.trans f3) (c2.same f3.tb (tk.n z0).2) (tk.nt z0 f3.tb) fun g => ?_, fun z1 => ?_⟩⟩
  · by_cases g : m2 23 18 = 0
    · have a1 := (hg2 g).2
      have a2 := CSt.lt c2.1 (by omega)
      omega
    · have := c2.1.cTe g
      omega
  · have x := tk.n z0
    have g2 : m2 23 18 = 0 := x.2.2.1.symm.trans g
    have y1 := x.2.1
    exact ⟨(hg2 g2).1, by have := (hg2 g2).2; omega⟩
  · obtain ⟨yt, st⟩ := tk.y (by omega)
    have c3 : CG m3 1 r m 0 0 (ouC u (1 - tn, 0, 0, 0)) := CG.mv c2 (c2.1.notT f3.tb tk) f3.tb st yt (by decide) (by decide) (fun p f q => rfl) rfl
    refine ih _ _ _ ⟨by omega, by omega, f2.trans f3, c3, fun g => ?_⟩ (by omega)
    obtain ⟨s1, s2⟩ := st.at c2.1 (by omega)
    obtain ⟨g0, a0⟩ := hg2 (s2 g)
    exact ⟨g0, by omega⟩
/-- an act -/
theorem X6_readAct_s (h : CG μ 6 r m 0 0 u) (hend : μ 24 (μ 23 8).toNat = -1) (hc : 0 ≤ μ 23 14 ∧ μ 23 14 ≤ 12) (hg : μ 23 18 = 0 → GW μ u r m c d ∧ 0 ≤ μ 23 11 ∧ μ 23 11 + 2 ≤ 2000) (k : ∀ (m1 : mM) (a : Act), CG m1 8 r m 0 0 (ouAct u a) → rdF μ m1 → (m1 23 18 = 0 → μ 23 18 = 0 ∧ GW m1 (ouAct u a) r m c d ∧ m1 23 11 = μ 23 11 + 2 ∧ μ 23 9 + 1 ≤ m1 23 9 ∧ m1 23 13 = μ 23 13) → Q m1) : WP_X6_readAct_Wx w μ Q := by
  intro a ea ra t et rt
  have ct : cT μ = t := cT.is ea et
  refine X6_isAct_s fun b hb rb => ⟨fun q => X6_step_s fun m2 st f2 _ _ => X6_put_s fun m3 f3 p3 _ _ => ?_, fun q => X6_fail_s fun m2 fl f2 _ _ => ?_⟩
  rotate_left 1
  · have na : ¬ isAc t := fun y => by
      have := hb.mpr y
      omega
    refine k m2 (23, 0) (CG.fl (h.1.fail hend f2.tb fl (by decide) (nsE (by decide)) (fun p v q _ => ?_)) fl (by decide)) f2.rd fun g => absurd g (fl.no (by decide))
    show n6 (μ 23 14) r m (cT μ) (cP μ) q = _
    unfold n6
    rw [ct, if_pos na]
  have ac : isAc t := hb.mp (by omega)
  unfold isAc at ac
  obtain ⟨s1, s2⟩ := st.at h.1 (by omega)
  have put2 : ∀ (v : Int) (m4 m5 : mM), frA m3 m4 → puF m4 m5 → (m4 23 11 < 2000 → puK m4 m5 [v]) → (m4 23 18 = 0 → m3 23 18 = 0 ∧ m3 23 9 ≤ m4 23 9) → (m4 23 18 = 0 → aOw (μ 23 14) (t, v)) → (m5 23 18 = 0 → μ 23 18 = 0 ∧ GW m5 (ouAct u (t, v)) r m c d ∧ m5 23 11 = μ 23 11 + 2 ∧ μ 23 9 + 1 ≤ m5 23 9 ∧ m5 23 13 = μ 23 13) := by
    intro v m4 m5 f4 f5 p5 hg4 ok g
    have g4 : m4 23 18 = 0 := f5.sm.2.1.symm.trans g
    obtain ⟨g3, a3⟩ := hg4 g4
    have g0 : μ 23 18 = 0 := s2 (f3.sm.2.1.symm.trans g3)
    obtain ⟨gw, h0, h2⟩ := hg g0
    have x1 := f3.sm.1
    have x2 := f5.sm.1
    have y2 : m2 23 11 = μ 23 11 := f2 _ _ (by omega)
    have p3' := p3 (by omega)
    have y3 : m3 23 11 = m2 23 11 + 1 := p3'.1
    have y4 : m4 23 11 = m3 23 11 := f4 _ _ (by omega)
    have p5' := p5 (by omega)
    have y5 : m5 23 11 = m4 23 11 + 1 := p5'.1
    have pt : ∀ b i, ¬ (b = 23 ∧ (i = 9 ∨ i = 11 ∨ i = 18 ∨ i = 19)) → ¬ b = 27 → m5 b i = μ b i := fun b i q1 q2 => by
      rw [f5 b i (by omega) q2, f4 b i (by omega), f3 b i (by omega) q2, f2 b i (by omega)]
    refine ⟨g0, ⟨gw.1.of (pt _ _ (by omega) (by omega)) (fun j => pt _ _ (by omega) (by omega)) (fun j => pt _ _ (by omega) (by omega)), (pt _ _ (by omega) (by omega)).trans gw.2.1, ?_, ?_⟩, by omega, by omega, pt _ _ (by omega) (by omega)⟩
    · refine gw.2.2.1.act h0 (pt _ _ (by omega) (by omega)) (fun j => pt _ _ (by omega) (by omega)) (fun j => pt _ _ (by omega) (by omega)) (fun j hj => ?_) (by omega) ⟨?_, ?_⟩
      · rw [p5'.2.2 j (by omega), f4 27 j (by omega), p3'.2.2 j (by omega), f2 27 j (by omega)]
      · rw [p5'.2.2 _ (by omega), f4 27 _ (by omega)]
        have e : m3 27 ((m2 23 11).toNat + 0) = t := p3'.2.1 0 (show 0 < 1 by decide)
        rw [y2] at e
        exact e
      · have e : m5 27 ((m4 23 11).toNat + 0) = v := p5'.2.1 0 (show 0 < 1 by decide)
        rw [show (μ 23 11).toNat + 1 = (m4 23 11).toNat + 0 by omega]
        exact e
    · rw [pt 23 14 (by omega) (by omega)]
      refine ⟨gw.2.2.2.1, gw.2.2.2.2.1, fun s hs => ?_⟩
      have hs' : s ∈ u.2.2.1 ++ [((t, v) : Act)] := hs
      rcases List.mem_append.mp hs' with q | q
      · exact gw.2.2.2.2.2 s q
      · rw [List.mem_singleton.mp q]; exact ok g4
  have mv : ∀ (s' x' y' tt : Int) (u' : Out), t = tt → (∀ f q, n6 (μ 23 14) r m tt f q = (s', q, r, m, x', y')) → ¬ tt = -1 → (∀ v, nxO 6 m 0 u tt v = u') → CG m3 s' r m x' y' u' := by
    intro s' x' y' tt u' e hn h1 hu
    have ctt : cT μ = tt := ct.trans e
    refine (CG.mv h (h.1.mvs f2.tb st (by rw [ctt]; exact h1) (nsE (by decide)) (fun p q => ?_)) f2.tb st ctt h1 (by decide) (fun p f q => hn f q) (hu _)).same f3.tb f3.sm
    rw [ctt]
    exact hn _ _
  have F3 : rdF μ m3 := f2.rd.trans f3.rd
  have hend3 := hendOf hend F3.tb
  have wn : ∀ (lo hi : Int), CG m3 7 r m lo hi (ouWhat u t) → (∀ z : Int, lo ≤ z ∧ z ≤ hi → aOw (μ 23 14) (t, z)) → WP_X6_number_Wx w m3 lo hi (fun z m4 => mT w m4 → mF [23009, 23018, 23019] w m3 m4 → ((-2147483648) ≤ z ∧ z ≤ 2147483647) → WP_X6_put_Wx w m4 z (fun m5 => mT w m5 → mF [23011, 27999] w m4 m5 → Q m5)) := by
    intro lo hi c3 ok
    refine X6_number_s fun z m4 n f4 _ _ _ => X6_put_s fun m5 f5 p5 _ _ => ?_
    have c5 : CG m5 8 r m 0 0 (ouAct u (t, z)) := (CG.num7 c3 hend3 f4 n).same f5.tb f5.sm
    refine k m5 (t, z) c5 (F3.trans (f4.rd.trans f5.rd)) (put2 z m4 m5 f4 f5 p5 (fun g => ?_) (fun g => ?_))
    · obtain ⟨g3, a3, _, _, _⟩ := n.at c3.1 g
      exact ⟨g3, by omega⟩
    · obtain ⟨_, _, _, rz, _⟩ := n.at c3.1 g
      exact ok z rz
  have w0 : CG m3 8 r m 0 0 (ouAct u (t, 0)) → (t = 23 ∨ t = 24) → WP_X6_put_Wx w m3 0 (fun m5 => mT w m5 → mF [23011, 27999] w m3 m5 → Q m5) := by
    intro c3 h2
    refine X6_put_s fun m5 f5 p5 _ _ => k m5 (t, 0) (c3.same f5.tb f5.sm) (F3.trans f5.rd) (put2 0 m3 m5 frA.refl f5 p5 (fun g => ⟨g, Int.le_refl _⟩) (fun _ => ?_))
    exact ⟨⟨fun e => absurd (show t = 12 from e) (by omega), fun e => absurd (show t = 13 from e) (by omega), fun e => absurd (show t = 27 from e) (by omega), fun e => absurd (show t = 28 from e) (by omega)⟩, show (0 : Int) ≤ 0 by decide, show (0 : Int) ≤ 1000000 by decide⟩
  refine ⟨fun e => ?_, fun e12 => ⟨fun e => ?_, fun e13 => ⟨fun e => absurd ac (by omega), fun e14 => ⟨fun e => absurd ac (by omega), fun e15 => ⟨fun e => absurd ac (by omega), fun e16 => ⟨fun e => absurd ac (by omega), fun e17 => ⟨fun e => absurd ac (by omega), fun e18 => ⟨fun e => absurd ac (by omega), fun e19 => ⟨fun e => absurd ac (by omega), fun e20 => ⟨fun e => absurd ac (by omega), fun e21 => ⟨fun e => absurd ac (by omega), fun e22 => ⟨fun e => ?_, fun e23 => ⟨fun e => ?_, fun e24 => ⟨fun e => ?_, fun e25 => ⟨fun e => ?_, fun e26 => ⟨fun e => ?_, fun e27 => ⟨fun e => ?_, fun e28 => absurd ac (by omega)⟩⟩⟩⟩⟩⟩⟩⟩⟩⟩⟩⟩⟩⟩⟩⟩⟩
  · subst e
    exact wn 0 1000 (mv 7 0 1000 12 _ rfl (fun _ _ => rfl) (by decide) (fun _ => rfl)) fun z rz => ⟨⟨fun _ => rz, fun e => absurd (show (12 : Int) = 13 from e) (by decide), fun e => absurd (show (12 : Int) = 27 from e) (by decide), fun e => absurd (show (12 : Int) = 28 from e) (by decide)⟩, show 0 ≤ z by omega, show z ≤ 1000000 by omega⟩
  · subst e
    exact wn 0 1000000 (mv 7 0 1000000 13 _ rfl (fun _ _ => rfl) (by decide) (fun _ => rfl)) fun z rz => ⟨⟨fun e => absurd (show (13 : Int) = 12 from e) (by decide), fun _ => rz, fun e => absurd (show (13 : Int) = 27 from e) (by decide), fun e => absurd (show (13 : Int) = 28 from e) (by decide)⟩, show 0 ≤ z by omega, show z ≤ 1000000 by omega⟩
  · subst e
    exact w0 (mv 8 0 0 23 _ rfl (fun _ _ => rfl) (by decide) (fun _ => rfl)) (by decide)
  · subst e
    exact w0 (mv 8 0 0 24 _ rfl (fun _ _ => rfl) (by decide) (fun _ => rfl)) (by decide)
  · subst e
    exact wn 0 65535 (mv 7 0 65535 25 _ rfl (fun _ _ => rfl) (by decide) (fun _ => rfl)) fun z rz => ⟨⟨fun e => absurd (show (25 : Int) = 12 from e) (by decide), fun e => absurd (show (25 : Int) = 13 from e) (by decide), fun e => absurd (show (25 : Int) = 27 from e) (by decide), fun e => absurd (show (25 : Int) = 28 from e) (by decide)⟩, show 0 ≤ z by omega, show z ≤ 1000000 by omega⟩
  · subst e
    exact wn 0 65535 (mv 7 0 65535 26 _ rfl (fun _ _ => rfl) (by decide) (fun _ => rfl)) fun z rz => ⟨⟨fun e => absurd (show (26 : Int) = 12 from e) (by decide), fun e => absurd (show (26 : Int) = 13 from e) (by decide), fun e => absurd (show (26 : Int) = 27 from e) (by decide), fun e => absurd (show (26 : Int) = 28 from e) (by decide)⟩, show 0 ≤ z by omega, show z ≤ 1000000 by omega⟩
  · subst e
    exact wn 1 9 (mv 7 1 9 27 _ rfl (fun _ _ => rfl) (by decide) (fun _ => rfl)) fun z rz => ⟨⟨fun e => absurd (show (27 : Int) = 12 from e) (by decide), fun e => absurd (show (27 : Int) = 13 from e) (by decide), fun _ => rz, fun e => absurd (show (27 : Int) = 28 from e) (by decide)⟩, show 0 ≤ z by omega, show z ≤ 1000000 by omega⟩
  · subst e
    intro cl ecl rcl hi rhi ehi
    have e14 : m3 23 14 = μ 23 14 := F3 _ _ (by omega) (by omega)
    have eh : hi = μ 23 14 - 1 := by omega
    subst eh
    exact wn 0 (μ 23 14 - 1) (mv 7 0 (μ 23 14 - 1) 28 _ rfl (fun _ _ => rfl) (by decide) (fun _ => rfl)) fun z rz => ⟨⟨fun e => absurd (show (28 : Int) = 12 from e) (by decide), fun e => absurd (show (28 : Int) = 13 from e) (by decide), fun e => absurd (show (28 : Int) = 27 from e) (by decide), fun _ => show 0 ≤ z ∧ z < μ 23 14 by omega⟩, show 0 ≤ z by omega, show z ≤ 1000000 by omega⟩
end TestC
end
section
/-! The class's reader: a row, the whole text. -/
def okW (n : Int) (l : List Rw) : Prop := ∀ x ∈ l, (∀ t ∈ x.1, tOk t) ∧ ∀ a ∈ x.2, aOw n a
/-- between rows -/
def G0 (μ : mM) (u : Out) (r m : Int) : Prop := nmW μ (oW u) m ∧ μ 23 10 = r ∧ (rwsC (μ 23 13).toNat (μ 27) (μ 30) (μ 31) 0 u.1 ∧ μ 23 11 = (szR u.1 : Int)) ∧ okW (μ 23 14) u.1 ∧ 3 * μ 23 11 ≤ 6 * r + 5 * μ 23 9 ∧ 4 * μ 23 13 ≤ μ 23 9
/-- a row ends -/
theorem GW.fin {μ : mM} {u : Out} {r m c d : Int} (h : GW μ u r m c d) (hc : c = (u.2.1.length : Int)) (hd : d = (u.2.2.1.length : Int)) (h3 : 3 * μ 23 11 ≤ 6 * r + 5 * μ 23 9) (h4 : 4 * μ 23 13 ≤ μ 23 9) : G0 μ (ouEnd u) r m := by
  obtain ⟨h1, h2, ⟨k1, ⟨k2, k3⟩, k4, k5, k6⟩, o1, o2, o3⟩ := h
  refine ⟨h1, h2, ⟨?_, ?_⟩, ?_, h3, h4⟩
  · show rwsC (μ 23 13).toNat (μ 27) (μ 30) (μ 31) 0 (u.1 ++ [(u.2.1, u.2.2.1)])
    refine rwsC.app k1 ?_
    rw [Nat.zero_add]
    exact ⟨⟨k2.trans hc, k3.trans hd⟩, k4, k5⟩
  · show μ 23 11 = ((szR (u.1 ++ [(u.2.1, u.2.2.1)]) : Nat) : Int)
    rw [szR.app, k6]
    congr 1
    show szR u.1 + 2 + 5 * u.2.1.length + 2 * u.2.2.1.length = szR u.1 + (2 + 5 * u.2.1.length + 2 * u.2.2.1.length)
    omega
  · intro x hx
    have hx' : x ∈ u.1 ++ [(u.2.1, u.2.2.1)] := hx
    rcases List.mem_append.mp hx' with q | q
    · exact o1 x q
    · rw [List.mem_singleton.mp q]; exact ⟨o2, o3⟩
/-- a row begins -/
theorem GW.beg {μ m1 : mM} {u : Out} {r m : Int} (h : G0 μ u r m) (h0 : 0 ≤ μ 23 11) (f : ∀ b i, ¬ (b = 23 ∧ (i = 9 ∨ i = 10 ∨ i = 11)) → ¬ b = 27 → m1 b i = μ b i) (e10 : m1 23 10 = r + 1) (e11 : m1 23 11 = μ 23 11 + 2) (hf : ∀ j : Nat, j < (μ 23 11).toNat → m1 27 j = μ 27 j) (q0 : m1 27 (μ 23 11).toNat = 0) (q1 : m1 27 ((μ 23 11).toNat + 1) = 0) : GW m1 (ouNew u) (r + 1) m 0 0 := by
  obtain ⟨h1, h2, ⟨k1, k2⟩, o1, _, _⟩ := h
  have ec : (μ 23 11).toNat = szR u.1 := by omega
  rw [ec] at q0 q1 hf
  have e13 : m1 23 13 = μ 23 13 := f _ _ (by omega) (by omega)
  have hz : szR (ouNew u).1 = szR u.1 := rfl
  refine ⟨h1.of (f _ _ (by omega) (by omega)) (fun j => f _ _ (by omega) (by omega)) (fun j => f _ _ (by omega) (by omega)), e10, ⟨?_, ⟨q0, q1⟩, trivial, trivial, ?_⟩, ?_⟩
  · exact rwsC.cg (by rw [e13]; exact Nat.le_refl _) (fun j _ => ⟨f _ _ (by omega) (by omega), f _ _ (by omega) (by omega)⟩) (fun j _ q => hf j (by omega)) k1
  · show m1 23 11 = ((szR u.1 + 2 + 5 * 0 + 2 * 0 : Nat) : Int)
    omega
  · rw [f 23 14 (by omega) (by omega)]
    exact ⟨o1, fun t ht => absurd ht List.not_mem_nil, fun t ht => absurd ht List.not_mem_nil⟩
theorem GW.cnt {μ : mM} {u : Out} {r m c d v : Int} (h : GW μ u r m c d) : GW (mUp μ 27 (szR u.1) v) u r m v d := ⟨h.1.of (mUp.no (by omega)) (fun j => mUp.no (by omega)) (fun j => mUp.no (by omega)), (mUp.no (by omega)).trans h.2.1, h.2.2.1.cnt, by rw [show mUp μ 27 (szR u.1) v 23 14 = μ 23 14 from mUp.no (by omega)]; exact h.2.2.2⟩
theorem GW.cnt2 {μ : mM} {u : Out} {r m c d v : Int} (h : GW μ u r m c d) : GW (mUp μ 27 (szR u.1 + 1) v) u r m c v := ⟨h.1.of (mUp.no (by omega)) (fun j => mUp.no (by omega)) (fun j => mUp.no (by omega)), (mUp.no (by omega)).trans h.2.1, h.2.2.1.cnt2, by rw [show mUp μ 27 (szR u.1 + 1) v 23 14 = μ 23 14 from mUp.no (by omega)]; exact h.2.2.2⟩
theorem rdF.cd {μ : mM} {i : Nat} {v : Int} : rdF μ (mUp μ 27 i v) := fun b j q q2 => mUp.no (by omega)
theorem smK.cd {μ : mM} {i : Nat} {v : Int} : smK μ (mUp μ 27 i v) := ⟨mUp.no (by omega), mUp.no (by omega), mUp.no (by omega)⟩
theorem row_acts4 {w : mW} {m : mM} {u : Out} {r m' c h0 : Int} {Q : mM → Prop} (hw : mWF w) (hT : mT w m) (h : CG m 6 r m' 0 0 u) (hend : m 24 (m 23 8).toNat = -1) (hc : 0 ≤ m 23 14 ∧ m 23 14 ≤ 12) (hh : 0 ≤ h0 ∧ h0 + 1 < 2000) (hr : r ≤ 30) (hg : m 23 18 = 0 → GW m u r m' c 0 ∧ u.2.2.1 = [] ∧ c = (u.2.1.length : Int) ∧ h0 = (szR u.1 : Int) ∧ 3 * m 23 11 ≤ 6 * r + 5 * m 23 9 ∧ 4 * m 23 13 ≤ m 23 9) (k : ∀ (m1 : mM) (u' : Out), CG m1 0 r m' 0 0 u' → rdF m m1 → (m1 23 18 = 0 → m 23 18 = 0 ∧ G0 m1 u' r m' ∧ m 23 9 < m1 23 9) → Q m1) : loopF (WL_X6_readRow_Wx_4 w Q h0 m) False 1002 ((1 : Int), (0 : Int), m) := by
  have t9 : 0 ≤ m 23 9 ∧ m 23 9 ≤ 1000 := hT 23 23 (A_23 hw) 9
  refine loopF.iim (fun an i m1 => 0 ≤ i ∧ rdF m m1 ∧ (¬ an = 0 → ∃ u1 : Out, CG m1 6 r m' 0 0 u1 ∧ (m1 23 18 = 0 → m 23 18 = 0 ∧ GW m1 u1 r m' c i ∧ (u1.2.2.1.length : Int) = i ∧ u1.1 = u.1 ∧ u1.2.1 = u.2.1 ∧ 3 * m1 23 11 ≤ 6 * r + 5 * m1 23 9 ∧ 4 * m1 23 13 ≤ m1 23 9 ∧ m 23 9 + 2 * i ≤ m1 23 9)) ∧ (an = 0 → ∃ u1 : Out, CG m1 8 r m' 0 0 u1 ∧ ¬ cT m1 = 1044 ∧ (m1 23 18 = 0 → m 23 18 = 0 ∧ GW m1 u1 r m' c i ∧ (u1.2.2.1.length : Int) = i ∧ u1.1 = u.1 ∧ u1.2.1 = u.2.1 ∧ 3 * m1 23 11 ≤ 6 * r + 5 * m1 23 9 + 1 ∧ 4 * m1 23 13 ≤ m1 23 9 ∧ m 23 9 < m1 23 9))) (fun _ i => (1001 - i).toNat) ⟨by decide, rdF.refl, fun _ => ⟨u, h, fun g => ?_⟩, fun q => absurd q (by decide)⟩ (by decide) ?_
  · obtain ⟨x1, x2, x3, x4, x5, x6⟩ := hg g
    exact ⟨g, x1, by rw [x2]; rfl, rfl, rfl, x5, x6, by omega⟩
  rintro rc an i m1 ⟨i0, F1, hy, hn⟩ ih an' i' m1' eq _ ri hT1 _
  cases eq
  have s9 : 0 ≤ m1 23 9 ∧ m1 23 9 ≤ 1000 := hT1 23 23 (A_23 hw) 9
  have hend1 := hendOf hend F1.tb
  have e14 : m1 23 14 = m 23 14 := F1 _ _ (by omega) (by omega)
  have fin : (∃ u1 : Out, CG m1 8 r m' 0 0 u1 ∧ ¬ cT m1 = 1044 ∧ (m1 23 18 = 0 → m 23 18 = 0 ∧ GW m1 u1 r m' c i ∧ (u1.2.2.1.length : Int) = i ∧ u1.1 = u.1 ∧ u1.2.1 = u.2.1 ∧ 3 * m1 23 11 ≤ 6 * r + 5 * m1 23 9 + 1 ∧ 4 * m1 23 13 ≤ m1 23 9 ∧ m 23 9 < m1 23 9)) → WP_X6_expect_Wx w m1 1059 (fun m2 => mT w m2 → mF [23009, 23018, 23019] w m1 m2 → Q m2) := by
    rintro ⟨u1, c8, nt, g8⟩
    refine X6_expect_s fun m2 ex f2 _ _ => ?_
    have c0 : CG m2 0 r m' 0 0 (ouEnd u1) := CG.exp c8 (c8.1.semi hend1 nt f2.tb ex) f2 ex (by decide) (by decide) (fun _ _ _ _ => rfl) (fun _ => rfl)
    refine k m2 (ouEnd u1) c0 (F1.trans f2.rd) fun g => ?_
    obtain ⟨g1, a1, _⟩ := ex.at c8.1 (by decide) g
    obtain ⟨g0, x1, x2, x3, x4, x5, x6, x7⟩ := g8 g1
    obtain ⟨_, _, y3, _, _, _⟩ := hg g0
    have e11 : m2 23 11 = m1 23 11 := f2 _ _ (by omega)
    have e13 : m2 23 13 = m1 23 13 := f2 _ _ (by omega)
    exact ⟨g0, (f2.gw x1).fin (by rw [x4]; exact y3) x2.symm (by omega) (by omega), by omega⟩
  refine ⟨fun q => fin ?_, fun q => ⟨fun q2 => fin (hn q2), fun q2 => ?_⟩⟩
  · by_cases ha : an = 0
    · exact hn ha
    · obtain ⟨u1, c6, g6⟩ := hy ha
      have nb : ¬ m1 23 18 = 0 := fun g => by
        obtain ⟨g0, _, _, _, _, _, _, x7⟩ := g6 g
        omega
      have ct := c6.1.cTe nb
      exact ⟨u1, c6.bad nb, by omega, fun g => absurd g nb⟩
  obtain ⟨u1, c6, g6⟩ := hy q2
  refine X6_readAct_s (c := c) (d := i) c6 hend1 (by rw [e14]; exact hc) (fun g => ?_) fun m2 a c2 f2 hg2 _ _ => ⟨hh.2, fun _ v ev rv y ry ey m3 u3 _ => X6_take_s fun z m4 tk f4 _ _ rz => ?_⟩
  · obtain ⟨g0, x1, x2, x3, x4, x5, x6, x7⟩ := g6 g
    have cs := x1.2.2.1.2.2.2.2
    exact ⟨x1, by omega, by omega⟩
  obtain rfl := u3.is
  have c3 : CG (mUp m2 27 (h0 + 1).toNat y) 8 r m' 0 0 (ouAct u1 a) := c2.same rdF.cd.tb smK.cd
  have sm3 : smK m2 (mUp m2 27 (h0 + 1).toNat y) := smK.cd
  have good : mUp m2 27 (h0 + 1).toNat y 23 18 = 0 → m 23 18 = 0 ∧ GW (mUp m2 27 (h0 + 1).toNat y) (ouAct u1 a) r m' c (i + 1) ∧ ((ouAct u1 a).2.2.1.length : Int) = i + 1 ∧ (ouAct u1 a).1 = u.1 ∧ (ouAct u1 a).2.1 = u.2.1 ∧ 3 * mUp m2 27 (h0 + 1).toNat y 23 11 ≤ 6 * r + 5 * mUp m2 27 (h0 + 1).toNat y 23 9 + 1 ∧ 4 * mUp m2 27 (h0 + 1).toNat y 23 13 ≤ mUp m2 27 (h0 + 1).toNat y 23 9 ∧ m 23 9 + 2 * i + 1 ≤ mUp m2 27 (h0 + 1).toNat y 23 9 := fun g => by
    obtain ⟨g1, y1, y2, y3, y4⟩ := hg2 (sm3.2.1.symm.trans g)
    obtain ⟨g0, x1, x2, x3, x4, x5, x6, x7⟩ := g6 g1
    obtain ⟨_, _, _, w4, _, _⟩ := hg g0
    have eh : (h0 + 1).toNat = szR (ouAct u1 a).1 + 1 := by
      show (h0 + 1).toNat = szR u1.1 + 1
      rw [x3]; omega
    have d1 : m2 27 (szR (ouAct u1 a).1 + 1) = i := y1.2.2.1.2.1.2
    rw [← eh, ev] at d1
    have ey2 : y = i + 1 := by omega
    have el : (ouAct u1 a).2.2.1.length = u1.2.2.1.length + 1 := by
      show (u1.2.2.1 ++ [a]).length = _
      rw [List.length_append]; rfl
    rw [mUp.no (by omega), mUp.no (by omega), mUp.no (by omega)]
    refine ⟨g0, ?_, by rw [el]; omega, x3, x4, by omega, by omega, by omega⟩
    rw [eh, ey2]
    exact y1.cnt2
  have F4 : rdF m m4 := F1.trans (f2.trans (rdF.cd.trans f4.rd))
  refine ih _ _ _ ⟨by omega, F4, fun z1 => ?_, fun z0 => ?_⟩ (by omega)
  · obtain ⟨yt, st⟩ := tk.y (by omega)
    refine ⟨ouAct u1 a, CG.mv c3 (c3.1.com f4.tb st yt) f4.tb st yt (by decide) (by decide) (fun p f q => rfl) rfl, fun g => ?_⟩
    obtain ⟨s1, s2⟩ := st.at c3.1 (by omega)
    obtain ⟨g0, x1, x2, x3, x4, x5, x6, x7⟩ := good (s2 g)
    have e11 := f4 23 11 (by omega)
    have e13 := f4 23 13 (by omega)
    exact ⟨g0, f4.gw x1, x2, x3, x4, by omega, by omega, by omega⟩
  · obtain ⟨nt, sm⟩ := tk.n z0
    refine ⟨ouAct u1 a, c3.same f4.tb sm, cT.sm nt f4.tb sm, fun g => ?_⟩
    obtain ⟨g0, x1, x2, x3, x4, x5, x6, x7⟩ := good (sm.2.1.symm.trans g)
    have e11 := f4 23 11 (by omega)
    have e13 := f4 23 13 (by omega)
    have e9 := sm.1
    exact ⟨g0, f4.gw x1, x2, x3, x4, by omega, by omega, by omega⟩
theorem row_tests1 {w : mW} {m : mM} {u : Out} {r m' h0 cd : Int} {Q : mM → Prop} (hw : mWF w) (hT : mT w m) (hend : m 24 (m 23 8).toNat = -1) (hc : 0 ≤ m 23 14 ∧ m 23 14 ≤ 12) (hh : 0 ≤ h0 ∧ h0 + 1 < 2000) (hr : r ≤ 30) (hcur : u.2.2.2.1 = (0, 0, 0, 0)) (hcd : (cd = 1 ∧ CG m 1 r m' 0 0 u ∧ (m 23 18 = 0 → 3 * m 23 11 + 5 ≤ 6 * r + 5 * m 23 9 ∧ 4 * m 23 13 + 1 ≤ m 23 9)) ∨ (cd = 0 ∧ CG m 6 r m' 0 0 u)) (hg : m 23 18 = 0 → GW m u r m' 0 0 ∧ u.2.1 = [] ∧ u.2.2.1 = [] ∧ h0 = (szR u.1 : Int) ∧ 3 * m 23 11 ≤ 6 * r + 5 * m 23 9 ∧ 4 * m 23 13 ≤ m 23 9) (k : ∀ (m1 : mM) (m2 : Int) (u' : Out), CG m1 0 r m2 0 0 u' → rdF m m1 → (m1 23 18 = 0 → m 23 18 = 0 ∧ G0 m1 u' r m2 ∧ m 23 9 < m1 23 9) → Q m1) : loopF (WL_X6_readRow_Wx_1 w Q h0 cd m) False 1002 (cd, (0 : Int), m) := by
  have t9 : 0 ≤ m 23 9 ∧ m 23 9 ≤ 1000 := hT 23 23 (A_23 hw) 9
  refine loopF.iim (fun an i m1 => 0 ≤ i ∧ rdF m m1 ∧ (¬ an = 0 → ¬ cd = 0 ∧ ∃ (m2 : Int) (u1 : Out), CG m1 1 r m2 0 0 u1 ∧ u1.2.2.2.1 = (0, 0, 0, 0) ∧ (m1 23 18 = 0 → m 23 18 = 0 ∧ GW m1 u1 r m2 i 0 ∧ u1.2.2.1 = [] ∧ (u1.2.1.length : Int) = i ∧ u1.1 = u.1 ∧ 3 * m1 23 11 + 5 ≤ 6 * r + 5 * m1 23 9 ∧ 4 * m1 23 13 + 1 ≤ m1 23 9 ∧ m 23 9 + 2 * i ≤ m1 23 9)) ∧ (an = 0 → ∃ (m2 : Int) (u1 : Out), ((cd = 0 ∧ CG m1 6 r m2 0 0 u1) ∨ (¬ cd = 0 ∧ CG m1 5 r m2 0 0 u1 ∧ ¬ cT m1 = 1)) ∧ (m1 23 18 = 0 → m 23 18 = 0 ∧ GW m1 u1 r m2 i 0 ∧ u1.2.2.1 = [] ∧ (u1.2.1.length : Int) = i ∧ u1.1 = u.1 ∧ 3 * m1 23 11 ≤ 6 * r + 5 * m1 23 9 ∧ 4 * m1 23 13 ≤ m1 23 9 ∧ m 23 9 ≤ m1 23 9))) (fun _ i => (1001 - i).toNat) ⟨by decide, rdF.refl, fun q => ?_, fun q => ?_⟩ (by decide) ?_
  · rcases hcd with ⟨e, cg, hq⟩ | ⟨e, _⟩
    · refine ⟨q, m', u, cg, hcur, fun g => ?_⟩
      obtain ⟨x1, x2, x3, x4, x5, x6⟩ := hg g
      obtain ⟨y1, y2⟩ := hq g
      exact ⟨g, x1, x3, by rw [x2]; rfl, rfl, y1, y2, by omega⟩
    · exact absurd e q
  · rcases hcd with ⟨e, _⟩ | ⟨e, cg⟩
    · omega
    · refine ⟨m', u, Or.inl ⟨e, cg⟩, fun g => ?_⟩
      obtain ⟨x1, x2, x3, x4, x5, x6⟩ := hg g
      exact ⟨g, x1, x3, by rw [x2]; rfl, rfl, x5, x6, Int.le_refl _⟩
  rintro rc an i m1 ⟨i0, F1, hy, hn⟩ ih an' i' m1' eq _ ri hT1 _
  cases eq
  have s9 : 0 ≤ m1 23 9 ∧ m1 23 9 ≤ 1000 := hT1 23 23 (A_23 hw) 9
  have hend1 := hendOf hend F1.tb
  have e14 : m1 23 14 = m 23 14 := F1 _ _ (by omega) (by omega)
  have J3 : ∀ (m2 : Int) (u1 : Out) (m3 : mM), mT w m3 → rdF m1 m3 → CG m3 6 r m2 0 0 u1 → (m3 23 18 = 0 → m1 23 18 = 0 ∧ m1 23 9 ≤ m3 23 9 ∧ frA m1 m3) → (m1 23 18 = 0 → m 23 18 = 0 ∧ GW m1 u1 r m2 i 0 ∧ u1.2.2.1 = [] ∧ (u1.2.1.length : Int) = i ∧ u1.1 = u.1 ∧ 3 * m1 23 11 ≤ 6 * r + 5 * m1 23 9 ∧ 4 * m1 23 13 ≤ m1 23 9 ∧ m 23 9 ≤ m1 23 9) → loopF (WL_X6_readRow_Wx_4 w Q h0 m3) False 1002 ((1 : Int), (0 : Int), m3) := by
    intro m2 u1 m3 hT3 f3 c6 hg3 hg1
    have F3 : rdF m m3 := F1.trans f3
    refine row_acts4 (c := i) hw hT3 c6 (hendOf hend F3.tb) (by rw [F3 23 14 (by omega) (by omega)]; exact hc) hh hr (fun g => ?_) fun m4 u' c4 f4 hg4 => k m4 m2 u' c4 (F3.trans f4) fun g => ?_
    · obtain ⟨g1, a1, fa⟩ := hg3 g
      obtain ⟨g0, x1, x2, x3, x4, x5, x6, x7⟩ := hg1 g1
      obtain ⟨_, _, _, w4, _, _⟩ := hg g0
      have e11 := fa 23 11 (by omega)
      have e13 := fa 23 13 (by omega)
      exact ⟨fa.gw x1, x2, x3.symm, by rw [x4]; exact w4, by omega, by omega⟩
    · obtain ⟨g3, y1, y2⟩ := hg4 g
      obtain ⟨g1, a1, _⟩ := hg3 g3
      obtain ⟨g0, x1, x2, x3, x4, x5, x6, x7⟩ := hg1 g1
      exact ⟨g0, y1, by omega⟩
  have fin : (∃ (m2 : Int) (u1 : Out), ((cd = 0 ∧ CG m1 6 r m2 0 0 u1) ∨ (¬ cd = 0 ∧ CG m1 5 r m2 0 0 u1 ∧ ¬ cT m1 = 1)) ∧ (m1 23 18 = 0 → m 23 18 = 0 ∧ GW m1 u1 r m2 i 0 ∧ u1.2.2.1 = [] ∧ (u1.2.1.length : Int) = i ∧ u1.1 = u.1 ∧ 3 * m1 23 11 ≤ 6 * r + 5 * m1 23 9 ∧ 4 * m1 23 13 ≤ m1 23 9 ∧ m 23 9 ≤ m1 23 9)) → WJ_X6_readRow_Wx_2 w Q h0 cd m1 := by
    rintro ⟨m2, u1, hx, hg1⟩
    refine ⟨fun e => ?_, fun e => X6_expect_s fun m3 ex f3 _ _ => ?_⟩
    · intro hT3 _
      rcases hx with ⟨_, c6⟩ | ⟨e2, _⟩
      · exact J3 m2 u1 m1 hT3 rdF.refl c6 (fun g => ⟨g, Int.le_refl _, frA.refl⟩) hg1
      · exact absurd e e2
    · intro hT3 _
      rcases hx with ⟨e2, _⟩ | ⟨_, c5, nt⟩
      · exact absurd e2 e
      · have c6 : CG m3 6 r m2 0 0 u1 := CG.exp c5 (c5.1.then1 hend1 nt f3.tb ex) f3 ex (by decide) (by decide) (fun _ _ _ _ => rfl) (fun _ => rfl)
        refine J3 m2 u1 m3 hT3 f3.rd c6 (fun g => ?_) hg1
        obtain ⟨g1, a1, _⟩ := ex.at c5.1 (by decide) g
        exact ⟨g1, by omega, f3⟩
  refine ⟨fun q => fin ?_, fun q => ⟨fun q2 => fin (hn q2), fun q2 => ?_⟩⟩
  · by_cases ha : an = 0
    · exact hn ha
    · obtain ⟨hcd', m2, u1, c1, _, g1⟩ := hy ha
      have nb : ¬ m1 23 18 = 0 := fun g => by
        obtain ⟨g0, _, _, _, _, x5, x6, x7⟩ := g1 g
        omega
      have ct := c1.1.cTe nb
      exact ⟨m2, u1, Or.inr ⟨hcd', c1.bad nb, by omega⟩, fun g => absurd g nb⟩
  obtain ⟨hcd', m2, u1, c1, cur1, g1⟩ := hy q2
  refine X6_readTest_s (c := i) (d := 0) hw hT1 c1 cur1 hend1 (fun g => ?_) (fun g => ?_) fun m3 m3' u3 c3 f3 hg3 _ _ => ⟨by omega, fun _ v ev rv y ry ey m4 u4 _ => X6_take_s fun z m5 tk f5 _ _ rz => ?_⟩
  · obtain ⟨g0, x1, x2, x3, x4, x5, x6, x7⟩ := g1 g
    have cs := x1.2.2.1.2.2.2.2
    exact ⟨x1, x2, by omega, by omega⟩
  · obtain ⟨g0, x1, x2, x3, x4, x5, x6, x7⟩ := g1 g
    exact x6
  obtain rfl := u4.is
  have c4 : CG (mUp m3 27 h0.toNat y) 5 r m3' 0 0 u3 := c3.same rdF.cd.tb smK.cd
  have sm4 : smK m3 (mUp m3 27 h0.toNat y) := smK.cd
  have good : mUp m3 27 h0.toNat y 23 18 = 0 → m 23 18 = 0 ∧ GW (mUp m3 27 h0.toNat y) u3 r m3' (i + 1) 0 ∧ u3.2.2.1 = [] ∧ (u3.2.1.length : Int) = i + 1 ∧ u3.1 = u.1 ∧ 3 * mUp m3 27 h0.toNat y 23 11 ≤ 6 * r + 5 * mUp m3 27 h0.toNat y 23 9 ∧ 4 * mUp m3 27 h0.toNat y 23 13 ≤ mUp m3 27 h0.toNat y 23 9 ∧ m 23 9 + 2 * i + 2 ≤ mUp m3 27 h0.toNat y 23 9 ∧ u3.2.2.2.1 = (0, 0, 0, 0) := fun g => by
    obtain ⟨g2, y1, y2, y3, y4, ⟨t, y5⟩, y6, y7, y8⟩ := hg3 (sm4.2.1.symm.trans g)
    obtain ⟨g0, x1, x2, x3, x4, x5, x6, x7⟩ := g1 g2
    obtain ⟨_, _, _, w4, _, _⟩ := hg g0
    have eh : h0.toNat = szR u3.1 := by
      rw [y6, x4]; omega
    have d1 : m3 27 (szR u3.1) = i := y1.2.2.1.2.1.1
    rw [← eh, ev] at d1
    have ey2 : y = i + 1 := by omega
    have el : u3.2.1.length = u1.2.1.length + 1 := by
      rw [y5, List.length_append]; rfl
    rw [mUp.no (by omega), mUp.no (by omega), mUp.no (by omega)]
    refine ⟨g0, ?_, y7, by rw [el]; omega, y6.trans x4, by omega, y4, by omega, y8⟩
    rw [eh, ey2]
    exact y1.cnt
  have F5 : rdF m m5 := F1.trans (f3.trans (rdF.cd.trans f5.rd))
  refine ih _ _ _ ⟨by omega, F5, fun z1 => ⟨hcd', ?_⟩, fun z0 => ?_⟩ (by omega)
  · obtain ⟨yt, st⟩ := tk.y (by omega)
    have c5 : CG m5 1 r m3' 0 0 u3 := CG.mv c4 (c4.1.and1 f5.tb st yt) f5.tb st yt (by decide) (by decide) (fun p f q => rfl) rfl
    obtain ⟨s1, s2⟩ := st.at c4.1 (by omega)
    have gb : mUp m3 27 h0.toNat y 23 18 = 0 := Classical.byContradiction fun hf => by
      have := c4.1.cTe hf
      omega
    obtain ⟨g0, x1, x2, x3, x4, x5, x6, x7, x8⟩ := good gb
    have e11 := f5 23 11 (by omega)
    have e13 := f5 23 13 (by omega)
    exact ⟨m3', u3, c5, x8, fun g => ⟨g0, f5.gw x1, x2, x3, x4, by omega, by omega, by omega⟩⟩
  · obtain ⟨nt, sm⟩ := tk.n z0
    refine ⟨m3', u3, Or.inr ⟨hcd', c4.same f5.tb sm, cT.sm nt f5.tb sm⟩, fun g => ?_⟩
    obtain ⟨g0, x1, x2, x3, x4, x5, x6, x7, x8⟩ := good (sm.2.1.symm.trans g)
    have e11 := f5 23 11 (by omega)
    have e13 := f5 23 13 (by omega)
    have e9 := sm.1
    exact ⟨g0, f5.gw x1, x2, x3, x4, by omega, by omega, by omega⟩
theorem row_acts8 {w : mW} {m : mM} {u : Out} {r m' c h0 : Int} {Q : mM → Prop} (hw : mWF w) (hT : mT w m) (h : CG m 6 r m' 0 0 u) (hend : m 24 (m 23 8).toNat = -1) (hc : 0 ≤ m 23 14 ∧ m 23 14 ≤ 12) (hh : 0 ≤ h0 ∧ h0 + 1 < 2000) (hr : r ≤ 30) (hg : m 23 18 = 0 → GW m u r m' c 0 ∧ u.2.2.1 = [] ∧ c = (u.2.1.length : Int) ∧ h0 = (szR u.1 : Int) ∧ 3 * m 23 11 ≤ 6 * r + 5 * m 23 9 ∧ 4 * m 23 13 ≤ m 23 9) (k : ∀ (m1 : mM) (u' : Out), CG m1 0 r m' 0 0 u' → rdF m m1 → (m1 23 18 = 0 → m 23 18 = 0 ∧ G0 m1 u' r m' ∧ m 23 9 < m1 23 9) → Q m1) : loopF (WL_X6_readRow_Wx_8 w Q h0 m) False 1002 ((1 : Int), (0 : Int), m) := by
  have t9 : 0 ≤ m 23 9 ∧ m 23 9 ≤ 1000 := hT 23 23 (A_23 hw) 9
  refine loopF.iim (fun an i m1 => 0 ≤ i ∧ rdF m m1 ∧ (¬ an = 0 → ∃ u1 : Out, CG m1 6 r m' 0 0 u1 ∧ (m1 23 18 = 0 → m 23 18 = 0 ∧ GW m1 u1 r m' c i ∧ (u1.2.2.1.length : Int) = i ∧ u1.1 = u.1 ∧ u1.2.1 = u.2.1 ∧ 3 * m1 23 11 ≤ 6 * r + 5 * m1 23 9 ∧ 4 * m1 23 13 ≤ m1 23 9 ∧ m 23 9 + 2 * i ≤ m1 23 9)) ∧ (an = 0 → ∃ u1 : Out, CG m1 8 r m' 0 0 u1 ∧ ¬ cT m1 = 1044 ∧ (m1 23 18 = 0 → m 23 18 = 0 ∧ GW m1 u1 r m' c i ∧ (u1.2.2.1.length : Int) = i ∧ u1.1 = u.1 ∧ u1.2.1 = u.2.1 ∧ 3 * m1 23 11 ≤ 6 * r + 5 * m1 23 9 + 1 ∧ 4 * m1 23 13 ≤ m1 23 9 ∧ m 23 9 < m1 23 9))) (fun _ i => (1001 - i).toNat) ⟨by decide, rdF.refl, fun _ => ⟨u, h, fun g => ?_⟩, fun q => absurd q (by decide)⟩ (by decide) ?_
  · obtain ⟨x1, x2, x3, x4, x5, x6⟩ := hg g
    exact ⟨g, x1, by rw [x2]; rfl, rfl, rfl, x5, x6, by omega⟩
  rintro rc an i m1 ⟨i0, F1, hy, hn⟩ ih an' i' m1' eq _ ri hT1 _
  cases eq
  have s9 : 0 ≤ m1 23 9 ∧ m1 23 9 ≤ 1000 := hT1 23 23 (A_23 hw) 9
  have hend1 := hendOf hend F1.tb
  have e14 : m1 23 14 = m 23 14 := F1 _ _ (by omega) (by omega)
  have fin : (∃ u1 : Out, CG m1 8 r m' 0 0 u1 ∧ ¬ cT m1 = 1044 ∧ (m1 23 18 = 0 → m 23 18 = 0 ∧ GW m1 u1 r m' c i ∧ (u1.2.2.1.length : Int) = i ∧ u1.1 = u.1 ∧ u1.2.1 = u.2.1 ∧ 3 * m1 23 11 ≤ 6 * r + 5 * m1 23 9 + 1 ∧ 4 * m1 23 13 ≤ m1 23 9 ∧ m 23 9 < m1 23 9)) → WP_X6_expect_Wx w m1 1059 (fun m2 => mT w m2 → mF [23009, 23018, 23019] w m1 m2 → Q m2) := by
    rintro ⟨u1, c8, nt, g8⟩
    refine X6_expect_s fun m2 ex f2 _ _ => ?_
    have c0 : CG m2 0 r m' 0 0 (ouEnd u1) := CG.exp c8 (c8.1.semi hend1 nt f2.tb ex) f2 ex (by decide) (by decide) (fun _ _ _ _ => rfl) (fun _ => rfl)
    refine k m2 (ouEnd u1) c0 (F1.trans f2.rd) fun g => ?_
    obtain ⟨g1, a1, _⟩ := ex.at c8.1 (by decide) g
    obtain ⟨g0, x1, x2, x3, x4, x5, x6, x7⟩ := g8 g1
    obtain ⟨_, _, y3, _, _, _⟩ := hg g0
    have e11 : m2 23 11 = m1 23 11 := f2 _ _ (by omega)
    have e13 : m2 23 13 = m1 23 13 := f2 _ _ (by omega)
    exact ⟨g0, (f2.gw x1).fin (by rw [x4]; exact y3) x2.symm (by omega) (by omega), by omega⟩
  refine ⟨fun q => fin ?_, fun q => ⟨fun q2 => fin (hn q2), fun q2 => ?_⟩⟩
  · by_cases ha : an = 0
    · exact hn ha
    · obtain ⟨u1, c6, g6⟩ := hy ha
      have nb : ¬ m1 23 18 = 0 := fun g => by
        obtain ⟨g0, _, _, _, _, _, _, x7⟩ := g6 g
        omega
      have ct := c6.1.cTe nb
      exact ⟨u1, c6.bad nb, by omega, fun g => absurd g nb⟩
  obtain ⟨u1, c6, g6⟩ := hy q2
  refine X6_readAct_s (c := c) (d := i) c6 hend1 (by rw [e14]; exact hc) (fun g => ?_) fun m2 a c2 f2 hg2 _ _ => ⟨hh.2, fun _ v ev rv y ry ey m3 u3 _ => X6_take_s fun z m4 tk f4 _ _ rz => ?_⟩
  · obtain ⟨g0, x1, x2, x3, x4, x5, x6, x7⟩ := g6 g
    have cs := x1.2.2.1.2.2.2.2
    exact ⟨x1, by omega, by omega⟩
  obtain rfl := u3.is
  have c3 : CG (mUp m2 27 (h0 + 1).toNat y) 8 r m' 0 0 (ouAct u1 a) := c2.same rdF.cd.tb smK.cd
  have sm3 : smK m2 (mUp m2 27 (h0 + 1).toNat y) := smK.cd
  have good : mUp m2 27 (h0 + 1).toNat y 23 18 = 0 → m 23 18 = 0 ∧ GW (mUp m2 27 (h0 + 1).toNat y) (ouAct u1 a) r m' c (i + 1) ∧ ((ouAct u1 a).2.2.1.length : Int) = i + 1 ∧ (ouAct u1 a).1 = u.1 ∧ (ouAct u1 a).2.1 = u.2.1 ∧ 3 * mUp m2 27 (h0 + 1).toNat y 23 11 ≤ 6 * r + 5 * mUp m2 27 (h0 + 1).toNat y 23 9 + 1 ∧ 4 * mUp m2 27 (h0 + 1).toNat y 23 13 ≤ mUp m2 27 (h0 + 1).toNat y 23 9 ∧ m 23 9 + 2 * i + 1 ≤ mUp m2 27 (h0 + 1).toNat y 23 9 := fun g => by
    obtain ⟨g1, y1, y2, y3, y4⟩ := hg2 (sm3.2.1.symm.trans g)
    obtain ⟨g0, x1, x2, x3, x4, x5, x6, x7⟩ := g6 g1
    obtain ⟨_, _, _, w4, _, _⟩ := hg g0
    have eh : (h0 + 1).toNat = szR (ouAct u1 a).1 + 1 := by
      show (h0 + 1).toNat = szR u1.1 + 1
      rw [x3]; omega
    have d1 : m2 27 (szR (ouAct u1 a).1 + 1) = i := y1.2.2.1.2.1.2
    rw [← eh, ev] at d1
    have ey2 : y = i + 1 := by omega
    have el : (ouAct u1 a).2.2.1.length = u1.2.2.1.length + 1 := by
      show (u1.2.2.1 ++ [a]).length = _
      rw [List.length_append]; rfl
    rw [mUp.no (by omega), mUp.no (by omega), mUp.no (by omega)]
    refine ⟨g0, ?_, by rw [el]; omega, x3, x4, by omega, by omega, by omega⟩
    rw [eh, ey2]
    exact y1.cnt2
  have F4 : rdF m m4 := F1.trans (f2.trans (rdF.cd.trans f4.rd))
  refine ih _ _ _ ⟨by omega, F4, fun z1 => ?_, fun z0 => ?_⟩ (by omega)
  · obtain ⟨yt, st⟩ := tk.y (by omega)
    refine ⟨ouAct u1 a, CG.mv c3 (c3.1.com f4.tb st yt) f4.tb st yt (by decide) (by decide) (fun p f q => rfl) rfl, fun g => ?_⟩
    obtain ⟨s1, s2⟩ := st.at c3.1 (by omega)
    obtain ⟨g0, x1, x2, x3, x4, x5, x6, x7⟩ := good (s2 g)
    have e11 := f4 23 11 (by omega)
    have e13 := f4 23 13 (by omega)
    exact ⟨g0, f4.gw x1, x2, x3, x4, by omega, by omega, by omega⟩
  · obtain ⟨nt, sm⟩ := tk.n z0
    refine ⟨ouAct u1 a, c3.same f4.tb sm, cT.sm nt f4.tb sm, fun g => ?_⟩
    obtain ⟨g0, x1, x2, x3, x4, x5, x6, x7⟩ := good (sm.2.1.symm.trans g)
    have e11 := f4 23 11 (by omega)
    have e13 := f4 23 13 (by omega)
    have e9 := sm.1
    exact ⟨g0, f4.gw x1, x2, x3, x4, by omega, by omega, by omega⟩
theorem row_tests5 {w : mW} {m : mM} {u : Out} {r m' h0 cd : Int} {Q : mM → Prop} (hw : mWF w) (hT : mT w m) (hend : m 24 (m 23 8).toNat = -1) (hc : 0 ≤ m 23 14 ∧ m 23 14 ≤ 12) (hh : 0 ≤ h0 ∧ h0 + 1 < 2000) (hr : r ≤ 30) (hcur : u.2.2.2.1 = (0, 0, 0, 0)) (hcd : (cd = 1 ∧ CG m 1 r m' 0 0 u ∧ (m 23 18 = 0 → 3 * m 23 11 + 5 ≤ 6 * r + 5 * m 23 9 ∧ 4 * m 23 13 + 1 ≤ m 23 9)) ∨ (cd = 0 ∧ CG m 6 r m' 0 0 u)) (hg : m 23 18 = 0 → GW m u r m' 0 0 ∧ u.2.1 = [] ∧ u.2.2.1 = [] ∧ h0 = (szR u.1 : Int) ∧ 3 * m 23 11 ≤ 6 * r + 5 * m 23 9 ∧ 4 * m 23 13 ≤ m 23 9) (k : ∀ (m1 : mM) (m2 : Int) (u' : Out), CG m1 0 r m2 0 0 u' → rdF m m1 → (m1 23 18 = 0 → m 23 18 = 0 ∧ G0 m1 u' r m2 ∧ m 23 9 < m1 23 9) → Q m1) : loopF (WL_X6_readRow_Wx_5 w Q h0 cd m) False 1002 (cd, (0 : Int), m) := by
  have t9 : 0 ≤ m 23 9 ∧ m 23 9 ≤ 1000 := hT 23 23 (A_23 hw) 9
  refine loopF.iim (fun an i m1 => 0 ≤ i ∧ rdF m m1 ∧ (¬ an = 0 → ¬ cd = 0 ∧ ∃ (m2 : Int) (u1 : Out), CG m1 1 r m2 0 0 u1 ∧ u1.2.2.2.1 = (0, 0, 0, 0) ∧ (m1 23 18 = 0 → m 23 18 = 0 ∧ GW m1 u1 r m2 i 0 ∧ u1.2.2.1 = [] ∧ (u1.2.1.length : Int) = i ∧ u1.1 = u.1 ∧ 3 * m1 23 11 + 5 ≤ 6 * r + 5 * m1 23 9 ∧ 4 * m1 23 13 + 1 ≤ m1 23 9 ∧ m 23 9 + 2 * i ≤ m1 23 9)) ∧ (an = 0 → ∃ (m2 : Int) (u1 : Out), ((cd = 0 ∧ CG m1 6 r m2 0 0 u1) ∨ (¬ cd = 0 ∧ CG m1 5 r m2 0 0 u1 ∧ ¬ cT m1 = 1)) ∧ (m1 23 18 = 0 → m 23 18 = 0 ∧ GW m1 u1 r m2 i 0 ∧ u1.2.2.1 = [] ∧ (u1.2.1.length : Int) = i ∧ u1.1 = u.1 ∧ 3 * m1 23 11 ≤ 6 * r + 5 * m1 23 9 ∧ 4 * m1 23 13 ≤ m1 23 9 ∧ m 23 9 ≤ m1 23 9))) (fun _ i => (1001 - i).toNat) ⟨by decide, rdF.refl, fun q => ?_, fun q => ?_⟩ (by decide) ?_
  · rcases hcd with ⟨e, cg, hq⟩ | ⟨e, _⟩
    · refine ⟨q, m', u, cg, hcur, fun g => ?_⟩
      obtain ⟨x1, x2, x3, x4, x5, x6⟩ := hg g
      obtain ⟨y1, y2⟩ := hq g
      exact ⟨g, x1, x3, by rw [x2]; rfl, rfl, y1, y2, by omega⟩
    · exact absurd e q
  · rcases hcd with ⟨e, _⟩ | ⟨e, cg⟩
    · omega
    · refine ⟨m', u, Or.inl ⟨e, cg⟩, fun g => ?_⟩
      obtain ⟨x1, x2, x3, x4, x5, x6⟩ := hg g
      exact ⟨g, x1, x3, by rw [x2]; rfl, rfl, x5, x6, Int.le_refl _⟩
  rintro rc an i m1 ⟨i0, F1, hy, hn⟩ ih an' i' m1' eq _ ri hT1 _
  cases eq
  have s9 : 0 ≤ m1 23 9 ∧ m1 23 9 ≤ 1000 := hT1 23 23 (A_23 hw) 9
  have hend1 := hendOf hend F1.tb
  have e14 : m1 23 14 = m 23 14 := F1 _ _ (by omega) (by omega)
  have J3 : ∀ (m2 : Int) (u1 : Out) (m3 : mM), mT w m3 → rdF m1 m3 → CG m3 6 r m2 0 0 u1 → (m3 23 18 = 0 → m1 23 18 = 0 ∧ m1 23 9 ≤ m3 23 9 ∧ frA m1 m3) → (m1 23 18 = 0 → m 23 18 = 0 ∧ GW m1 u1 r m2 i 0 ∧ u1.2.2.1 = [] ∧ (u1.2.1.length : Int) = i ∧ u1.1 = u.1 ∧ 3 * m1 23 11 ≤ 6 * r + 5 * m1 23 9 ∧ 4 * m1 23 13 ≤ m1 23 9 ∧ m 23 9 ≤ m1 23 9) → loopF (WL_X6_readRow_Wx_8 w Q h0 m3) False 1002 ((1 : Int), (0 : Int), m3) := by
    intro m2 u1 m3 hT3 f3 c6 hg3 hg1
    have F3 : rdF m m3 := F1.trans f3
    refine row_acts8 (c := i) hw hT3 c6 (hendOf hend F3.tb) (by rw [F3 23 14 (by omega) (by omega)]; exact hc) hh hr (fun g => ?_) fun m4 u' c4 f4 hg4 => k m4 m2 u' c4 (F3.trans f4) fun g => ?_
    · obtain ⟨g1, a1, fa⟩ := hg3 g
      obtain ⟨g0, x1, x2, x3, x4, x5, x6, x7⟩ := hg1 g1
      obtain ⟨_, _, _, w4, _, _⟩ := hg g0
      have e11 := fa 23 11 (by omega)
      have e13 := fa 23 13 (by omega)
      exact ⟨fa.gw x1, x2, x3.symm, by rw [x4]; exact w4, by omega, by omega⟩
    · obtain ⟨g3, y1, y2⟩ := hg4 g
      obtain ⟨g1, a1, _⟩ := hg3 g3
      obtain ⟨g0, x1, x2, x3, x4, x5, x6, x7⟩ := hg1 g1
      exact ⟨g0, y1, by omega⟩
  have fin : (∃ (m2 : Int) (u1 : Out), ((cd = 0 ∧ CG m1 6 r m2 0 0 u1) ∨ (¬ cd = 0 ∧ CG m1 5 r m2 0 0 u1 ∧ ¬ cT m1 = 1)) ∧ (m1 23 18 = 0 → m 23 18 = 0 ∧ GW m1 u1 r m2 i 0 ∧ u1.2.2.1 = [] ∧ (u1.2.1.length : Int) = i ∧ u1.1 = u.1 ∧ 3 * m1 23 11 ≤ 6 * r + 5 * m1 23 9 ∧ 4 * m1 23 13 ≤ m1 23 9 ∧ m 23 9 ≤ m1 23 9)) → WJ_X6_readRow_Wx_6 w Q h0 cd m1 := by
    rintro ⟨m2, u1, hx, hg1⟩
    refine ⟨fun e => ?_, fun e => X6_expect_s fun m3 ex f3 _ _ => ?_⟩
    · intro hT3 _
      rcases hx with ⟨_, c6⟩ | ⟨e2, _⟩
      · exact J3 m2 u1 m1 hT3 rdF.refl c6 (fun g => ⟨g, Int.le_refl _, frA.refl⟩) hg1
      · exact absurd e e2
    · intro hT3 _
      rcases hx with ⟨e2, _⟩ | ⟨_, c5, nt⟩
      · exact absurd e2 e
      · have c6 : CG m3 6 r m2 0 0 u1 := CG.exp c5 (c5.1.then1 hend1 nt f3.tb ex) f3 ex (by decide) (by decide) (fun _ _ _ _ => rfl) (fun _ => rfl)
        refine J3 m2 u1 m3 hT3 f3.rd c6 (fun g => ?_) hg1
        obtain ⟨g1, a1, _⟩ := ex.at c5.1 (by decide) g
        exact ⟨g1, by omega, f3⟩
  refine ⟨fun q => fin ?_, fun q => ⟨fun q2 => fin (hn q2), fun q2 => ?_⟩⟩
  · by_cases ha : an = 0
    · exact hn ha
    · obtain ⟨hcd', m2, u1, c1, _, g1⟩ := hy ha
      have nb : ¬ m1 23 18 = 0 := fun g => by
        obtain ⟨g0, _, _, _, _, x5, x6, x7⟩ := g1 g
        omega
      have ct := c1.1.cTe nb
      exact ⟨m2, u1, Or.inr ⟨hcd', c1.bad nb, by omega⟩, fun g => absurd g nb⟩
  obtain ⟨hcd', m2, u1, c1, cur1, g1⟩ := hy q2
  refine X6_readTest_s (c := i) (d := 0) hw hT1 c1 cur1 hend1 (fun g => ?_) (fun g => ?_) fun m3 m3' u3 c3 f3 hg3 _ _ => ⟨by omega, fun _ v ev rv y ry ey m4 u4 _ => X6_take_s fun z m5 tk f5 _ _ rz => ?_⟩
  · obtain ⟨g0, x1, x2, x3, x4, x5, x6, x7⟩ := g1 g
    have cs := x1.2.2.1.2.2.2.2
    exact ⟨x1, x2, by omega, by omega⟩
  · obtain ⟨g0, x1, x2, x3, x4, x5, x6, x7⟩ := g1 g
    exact x6
  obtain rfl := u4.is
  have c4 : CG (mUp m3 27 h0.toNat y) 5 r m3' 0 0 u3 := c3.same rdF.cd.tb smK.cd
  have sm4 : smK m3 (mUp m3 27 h0.toNat y) := smK.cd
  have good : mUp m3 27 h0.toNat y 23 18 = 0 → m 23 18 = 0 ∧ GW (mUp m3 27 h0.toNat y) u3 r m3' (i + 1) 0 ∧ u3.2.2.1 = [] ∧ (u3.2.1.length : Int) = i + 1 ∧ u3.1 = u.1 ∧ 3 * mUp m3 27 h0.toNat y 23 11 ≤ 6 * r + 5 * mUp m3 27 h0.toNat y 23 9 ∧ 4 * mUp m3 27 h0.toNat y 23 13 ≤ mUp m3 27 h0.toNat y 23 9 ∧ m 23 9 + 2 * i + 2 ≤ mUp m3 27 h0.toNat y 23 9 ∧ u3.2.2.2.1 = (0, 0, 0, 0) := fun g => by
    obtain ⟨g2, y1, y2, y3, y4, ⟨t, y5⟩, y6, y7, y8⟩ := hg3 (sm4.2.1.symm.trans g)
    obtain ⟨g0, x1, x2, x3, x4, x5, x6, x7⟩ := g1 g2
    obtain ⟨_, _, _, w4, _, _⟩ := hg g0
    have eh : h0.toNat = szR u3.1 := by
      rw [y6, x4]; omega
    have d1 : m3 27 (szR u3.1) = i := y1.2.2.1.2.1.1
    rw [← eh, ev] at d1
    have ey2 : y = i + 1 := by omega
    have el : u3.2.1.length = u1.2.1.length + 1 := by
      rw [y5, List.length_append]; rfl
    rw [mUp.no (by omega), mUp.no (by omega), mUp.no (by omega)]
    refine ⟨g0, ?_, y7, by rw [el]; omega, y6.trans x4, by omega, y4, by omega, y8⟩
    rw [eh, ey2]
    exact y1.cnt
  have F5 : rdF m m5 := F1.trans (f3.trans (rdF.cd.trans f5.rd))
  refine ih _ _ _ ⟨by omega, F5, fun z1 => ⟨hcd', ?_⟩, fun z0 => ?_⟩ (by omega)
  · obtain ⟨yt, st⟩ := tk.y (by omega)
    have c5 : CG m5 1 r m3' 0 0 u3 := CG.mv c4 (c4.1.and1 f5.tb st yt) f5.tb st yt (by decide) (by decide) (fun p f q => rfl) rfl
    obtain ⟨s1, s2⟩ := st.at c4.1 (by omega)
    have gb : mUp m3 27 h0.toNat y 23 18 = 0 := Classical.byContradiction fun hf => by
      have := c4.1.cTe hf
      omega
    obtain ⟨g0, x1, x2, x3, x4, x5, x6, x7, x8⟩ := good gb
    have e11 := f5 23 11 (by omega)
    have e13 := f5 23 13 (by omega)
    exact ⟨m3', u3, c5, x8, fun g => ⟨g0, f5.gw x1, x2, x3, x4, by omega, by omega, by omega⟩⟩
  · obtain ⟨nt, sm⟩ := tk.n z0
    refine ⟨m3', u3, Or.inr ⟨hcd', c4.same f5.tb sm, cT.sm nt f5.tb sm⟩, fun g => ?_⟩
    obtain ⟨g0, x1, x2, x3, x4, x5, x6, x7, x8⟩ := good (sm.2.1.symm.trans g)
    have e11 := f5 23 11 (by omega)
    have e13 := f5 23 13 (by omega)
    have e9 := sm.1
    exact ⟨g0, f5.gw x1, x2, x3, x4, by omega, by omega, by omega⟩
/-- a row -/
theorem X6_readRow_s {w : mW} {μ : mM} {u : Out} {r m : Int} {Q : mM → Prop} (hw : mWF w) (hT : mT w μ) (h : CG μ 0 r m 0 0 u) (hend : μ 24 (μ 23 8).toNat = -1) (hc : 0 ≤ μ 23 14 ∧ μ 23 14 ≤ 12) (hte : ¬ cT μ = -1) (hg : μ 23 18 = 0 → G0 μ u r m) (k : ∀ (m1 : mM) (r' m' : Int) (u' : Out), CG m1 0 r' m' 0 0 u' → rdF μ m1 → (m1 23 18 = 0 → G0 m1 u' r' m' ∧ μ 23 9 < m1 23 9) → Q m1) : WP_X6_readRow_Wx w μ Q := by
  have g0 : μ 23 18 = 0 := Classical.byContradiction fun hf => hte (h.1.cTe hf)
  have G := hg g0
  obtain ⟨nm, er, ⟨rs, ecs⟩, okr, h3, h4⟩ := G
  have t9 : 0 ≤ μ 23 9 ∧ μ 23 9 ≤ 1000 := hT 23 23 (A_23 hw) 9
  have lt : μ 23 9 < μ 23 8 := CSt.lt h.1 hte
  intro a ea ra t et rt
  have ct : cT μ = t := cT.is ea et
  have bad : ∀ (kk : Int) (m1 : mM), (∀ e' : Int → Cfg, CSc m1 e') → flK μ m1 kk → ¬ kk = 0 → frA μ m1 → Q m1 := fun kk m1 hcs fl hk f => k m1 r m u (CG.fl (hcs _) fl hk) f.rd fun g => absurd g (fl.no hk)
  have beg : ∀ (m1 m2 m3 : mM) (h0 : Int), mU μ 23 10 (r + 1) m1 → m1 23 11 = h0 → r < 30 → puF m1 m2 → (m1 23 11 < 2000 → puK m1 m2 [0]) → puF m2 m3 → (m2 23 11 < 2000 → puK m2 m3 [0]) → (0 ≤ h0 ∧ h0 + 1 < 2000) ∧ h0 = (szR u.1 : Int) ∧ rdF μ m3 ∧ smK μ m3 ∧ GW m3 (ouNew u) (r + 1) m 0 0 ∧ 3 * m3 23 11 ≤ 6 * (r + 1) + 5 * m3 23 9 ∧ 4 * m3 23 13 ≤ m3 23 9 := by
    intro m1 m2 m3 h0 u1 eh r30 f2 p2 f3 p3
    obtain rfl := u1.is
    rw [mUp.no (by omega)] at eh
    have y1 : mUp μ 23 10 (r + 1) 23 11 = μ 23 11 := mUp.no (by omega)
    have q2 := p2 (by rw [y1]; omega)
    have y2 : m2 23 11 = mUp μ 23 10 (r + 1) 23 11 + 1 := q2.1
    have q3 := p3 (by omega)
    have y3 : m3 23 11 = m2 23 11 + 1 := q3.1
    have pt : ∀ b i, ¬ (b = 23 ∧ (i = 10 ∨ i = 11)) → ¬ b = 27 → m3 b i = μ b i := fun b i z1 z2 => by
      rw [f3 b i (by omega) z2, f2 b i (by omega) z2, mUp.no (by omega)]
    have x9 : m3 23 9 = μ 23 9 := pt _ _ (by omega) (by omega)
    have x13 : m3 23 13 = μ 23 13 := pt _ _ (by omega) (by omega)
    refine ⟨by omega, by omega, fun b i z1 z2 => pt b i (by omega) (by omega), ⟨x9, pt _ _ (by omega) (by omega), pt _ _ (by omega) (by omega)⟩, ?_, by omega, by omega⟩
    refine GW.beg ⟨nm, er, ⟨rs, ecs⟩, okr, h3, h4⟩ (by omega) (fun b i z1 z2 => pt b i (by omega) z2) ?_ (by omega) (fun j hj => ?_) ?_ ?_
    · rw [f3 23 10 (by omega) (by omega), f2 23 10 (by omega) (by omega), mUp.yes ⟨rfl, rfl⟩]
    · rw [q3.2.2 j (by omega), q2.2.2 j (by omega), mUp.no (by omega)]
    · rw [q3.2.2 _ (by omega)]
      have e : m2 27 ((mUp μ 23 10 (r + 1) 23 11).toNat + 0) = 0 := q2.2.1 0 (show 0 < 1 by decide)
      rw [y1] at e
      exact e
    · have e : m3 27 ((m2 23 11).toNat + 0) = 0 := q3.2.1 0 (show 0 < 1 by decide)
      rw [show (μ 23 11).toNat + 1 = (m2 23 11).toNat + 0 by omega]
      exact e
  refine ⟨fun c n en rn => ⟨fun c2 m1 u1 _ h0 eh rh => X6_put_s fun m2 f2 p2 _ _ => X6_put_s fun m3 f3 p3 _ _ => X6_take_s fun z m4 tk f4 hT4 _ rz => ?_, fun c2 => X6_fail_s fun m1 fl f _ _ => ?_⟩, fun c => X6_isAct_s fun b hb rb => ⟨fun q n en rn => ⟨fun c2 m1 u1 _ h0 eh rh => X6_put_s fun m2 f2 p2 _ _ => X6_put_s fun m3 f3 p3 _ _ => X6_take_s fun z m4 tk f4 hT4 _ rz => ?_, fun c2 => X6_fail_s fun m1 fl f _ _ => ?_⟩, fun q => X6_fail_s fun m1 fl f _ _ => ?_⟩⟩
  · have en' : n = r := en.symm.trans er
    subst en'
    obtain ⟨hh, ehs, F3, sm3, gw, b3, b4⟩ := beg m1 m2 m3 h0 u1 eh c2 f2 p2 f3 p3
    have c3 : CG m3 0 n m 0 0 u := h.same F3.tb sm3
    have ct3 : cT m3 = 0 := by
      unfold cT
      rw [F3.tb.1.1, sm3.1]
      exact ct.trans c
    have F4 : rdF μ m4 := F3.trans f4.rd
    have e11 := f4 23 11 (by omega)
    have e13 := f4 23 13 (by omega)
    have x9 := sm3.1
    rcases tk with ⟨z1, t2, st⟩ | ⟨z0, t2, sm⟩
    · have c4 : CG m4 1 (n + 1) m 0 0 (ouNew u) := CG.mv c3 (c3.1.rI f4.tb st ct3 c2 (r' := n + 1) rfl) f4.tb st ct3 (by decide) (by decide) (fun p f q => by
        show n0 p n m 0 f q = _
        unfold n0
        rw [if_neg (by decide), if_neg (fun y => y (Or.inl rfl)), if_neg (by omega), if_pos rfl]) rfl
      obtain ⟨s1, s2⟩ := st.at c3.1 (by omega)
      refine row_tests1 (u := ouNew u) hw hT4 (hendOf hend F4.tb) (by rw [F4 23 14 (by omega) (by omega)]; exact hc) hh (by omega) rfl (Or.inl ⟨z1, c4, fun _ => ⟨by omega, by omega⟩⟩) (fun _ => ⟨f4.gw gw, rfl, rfl, ehs, by omega, by omega⟩) fun m5 m5' u' c5 f5 hg5 => k m5 (n + 1) m5' u' c5 (F4.trans f5) fun g => ?_
      obtain ⟨_, y1, y2⟩ := hg5 g
      exact ⟨y1, by omega⟩
    · exact absurd ct3 t2
  · have en' : n = r := en.symm.trans er
    exact bad 4 m1 (fun e' => h.1.r4 hend f.tb fl ⟨by omega, Or.inl (by omega)⟩ (by omega)) fl (by decide) f
  · have en' : n = r := en.symm.trans er
    subst en'
    have ac : isAc t := hb.mp (by omega)
    obtain ⟨hh, ehs, F3, sm3, gw, b3, b4⟩ := beg m1 m2 m3 h0 u1 eh c2 f2 p2 f3 p3
    have c3 : CG m3 0 n m 0 0 u := h.same F3.tb sm3
    have ct3 : cT m3 = t := by
      unfold cT
      rw [F3.tb.1.1, sm3.1]
      exact ct
    have F4 : rdF μ m4 := F3.trans f4.rd
    have e11 := f4 23 11 (by omega)
    have e13 := f4 23 13 (by omega)
    have x9 := sm3.1
    rcases tk with ⟨z1, t2, st⟩ | ⟨z0, t2, sm⟩
    · exact absurd (ct3.symm.trans t2) c
    · have c4 : CG m4 6 (n + 1) m 0 0 (ouNew u) := (CG.stay c3 (c3.1.rA tbC.refl smK.refl ⟨by omega, by rw [ct3]; exact ac⟩ c2 (r' := n + 1) rfl) ct3 (by decide) (fun p v f q => by
        show n0 p n m t f q = _
        unfold n0
        rw [if_neg (by unfold isAc at ac; omega), if_neg (fun y => y (Or.inr ac)), if_neg (by omega), if_neg c]) (fun _ => rfl)).same f4.tb sm
      have y9 := sm.1
      refine row_tests5 (u := ouNew u) hw hT4 (hendOf hend F4.tb) (by rw [F4 23 14 (by omega) (by omega)]; exact hc) hh (by omega) rfl (Or.inr ⟨z0, c4⟩) (fun _ => ⟨f4.gw gw, rfl, rfl, ehs, by omega, by omega⟩) fun m5 m5' u' c5 f5 hg5 => k m5 (n + 1) m5' u' c5 (F4.trans f5) fun g => ?_
      obtain ⟨_, y1, y2⟩ := hg5 g
      exact ⟨y1, by omega⟩
  · have en' : n = r := en.symm.trans er
    exact bad 4 m1 (fun e' => h.1.r4 hend f.tb fl ⟨by omega, Or.inr (by rw [ct]; exact hb.mp (by omega))⟩ (by omega)) fl (by decide) f
  · refine bad 2 m1 (fun e' => h.1.r2 hend f.tb fl ⟨hte, fun y => ?_⟩) fl (by decide) f
    rcases y with y | y
    · exact c (ct.symm.trans y)
    · rw [ct] at y
      have := hb.mpr y
      omega
/-- the whole text: where it ended, and what it laid down -/
theorem X6_read_s {w : mW} {μ : mM} {sz n : Int} {Q : mM → Prop} (hw : mWF w) (hn : 0 ≤ n ∧ n ≤ 12) (k : ∀ m : mM, RdC μ m n → (m 23 18 = 0 → ∃ (u : Out) (r m' : Int), rcE (bC 1 μ) n u r m' ∧ G0 m u r m') → m 23 14 = n → Q m) : WP_X6_read_Wx w μ sz n Q := by
  intro fq efq rfq m1 u1 _ m2 u2 _ m3 u3 _ m4 u4 _ m5 u5 _ m6 u6 _ m7 u7 _ m8 F8 hT8 te sq m9 u9 hT9
  obtain rfl := u1.is
  obtain rfl := u2.is
  obtain rfl := u3.is
  obtain rfl := u4.is
  obtain rfl := u5.is
  obtain rfl := u6.is
  obtain rfl := u7.is
  obtain rfl := u9.is
  have e18 : m8 23 18 = 0 := F8.f (A_23 hw) rfl (by rw [mUp.no (by omega), mUp.no (by omega), mUp.no (by omega), mUp.no (by omega), mUp.no (by omega), mUp.no (by omega), mUp.yes ⟨rfl, rfl⟩])
  have e10 : m8 23 10 = 0 := F8.f (A_23 hw) rfl (by rw [mUp.no (by omega), mUp.no (by omega), mUp.no (by omega), mUp.no (by omega), mUp.yes ⟨rfl, rfl⟩])
  have e11 : m8 23 11 = 0 := F8.f (A_23 hw) rfl (by rw [mUp.no (by omega), mUp.no (by omega), mUp.no (by omega), mUp.yes ⟨rfl, rfl⟩])
  have e12 : m8 23 12 = 0 := F8.f (A_23 hw) rfl (by rw [mUp.no (by omega), mUp.no (by omega), mUp.yes ⟨rfl, rfl⟩])
  have e13 : m8 23 13 = 0 := F8.f (A_23 hw) rfl (by rw [mUp.no (by omega), mUp.yes ⟨rfl, rfl⟩])
  have e14 : m8 23 14 = n := F8.f (A_23 hw) rfl (by rw [mUp.yes ⟨rfl, rfl⟩])
  have e1 : ∀ i, m8 1 i = μ 1 i := fun i => F8.f (A_1 hw) rfl (by rw [mUp.no (by omega), mUp.no (by omega), mUp.no (by omega), mUp.no (by omega), mUp.no (by omega), mUp.no (by omega), mUp.no (by omega)])
  have e0 : m8 0 10 = μ 0 10 := F8.f (A_0 hw) rfl (by rw [mUp.no (by omega), mUp.no (by omega), mUp.no (by omega), mUp.no (by omega), mUp.no (by omega), mUp.no (by omega), mUp.no (by omega)])
  have no9 : ∀ b i, ¬ (b = 23 ∧ i = 9) → mUp m8 23 9 0 b i = m8 b i := fun b i q => mUp.no (by omega)
  have y9 : mUp m8 23 9 0 23 9 = 0 := mUp.yes ⟨rfl, rfl⟩
  have hend : mUp m8 23 9 0 24 (mUp m8 23 9 0 23 8).toNat = -1 := by
    rw [no9 _ _ (by omega), no9 _ _ (by omega)]
    exact te
  have sq' : SqT (wrW (bC 1 (mUp m8 23 9 0))) (bC 1 (mUp m8 23 9 0)) (mUp m8 23 9 0) (mUp m8 23 9 0 23 9) 0 := by
    rw [bC.of (μ := m8) (funext fun i => no9 1 i (by omega)) (no9 0 10 (by omega)), y9]
    exact sq.of (funext fun i => no9 24 i (by omega)) (funext fun i => no9 25 i (by omega)) (funext fun i => no9 26 i (by omega)) (no9 23 8 (by omega))
  have c0 : CG (mUp m8 23 9 0) 0 0 0 0 0 ou0 := ⟨Or.inl ⟨(no9 23 18 (by omega)).trans e18, 0, sq', rcC.refl⟩, CSo.init sq'⟩
  refine loopF.im (fun i m => 0 ≤ i ∧ rdF (mUp m8 23 9 0) m ∧ ∃ (r m' : Int) (u : Out), CG m 0 r m' 0 0 u ∧ (m 23 18 = 0 → G0 m u r m' ∧ i ≤ m 23 9)) (fun i => (1002 - i).toNat) ⟨by decide, rdF.refl, 0, 0, ou0, c0, fun _ => ⟨⟨⟨(no9 23 12 (by omega)).trans e12, fun k hk => absurd hk (by omega)⟩, (no9 23 10 (by omega)).trans e10, ⟨trivial, (no9 23 11 (by omega)).trans e11⟩, fun x hx => absurd hx List.not_mem_nil, ?_, ?_⟩, ?_⟩⟩ (by decide) ?_
  · rw [no9 23 11 (by omega), e11, y9]; decide
  · rw [no9 23 13 (by omega), e13, y9]; decide
  · rw [y9]; decide
  rintro rc i m ⟨i0, F, r, m', u, cg, hg⟩ ih i' m1 eq ri hTm _
  cases eq
  have s9 : 0 ≤ m 23 9 ∧ m 23 9 ≤ 1000 := hTm 23 23 (A_23 hw) 9
  have x1 : m 1 = μ 1 := funext fun j => (F 1 j (by omega) (by omega)).trans ((no9 1 j (by omega)).trans (e1 j))
  have x0 : m 0 10 = μ 0 10 := (F 0 10 (by omega) (by omega)).trans ((no9 0 10 (by omega)).trans e0)
  have x14 : m 23 14 = n := (F 23 14 (by omega) (by omega)).trans ((no9 23 14 (by omega)).trans e14)
  have fin : cT m = -1 → Q m := fun ct => k m (RdC.mk cg.1 ct x1 x0 x14) (fun g => ⟨u, r, m', by
    have d := cg.2.dn g ct
    rw [bC.of x1 x0, x14] at d
    exact d, (hg g).1⟩) x14
  refine ⟨fun c => fin ?_, fun c a ea ra t et rt => ⟨fun q => fin ((cT.is ea et).trans q), fun q => ?_⟩⟩
  · refine cg.1.cTe fun g => ?_
    have := (hg g).2
    omega
  · have ct : cT m = t := cT.is ea et
    have g0 : m 23 18 = 0 := Classical.byContradiction fun hf => q (ct.symm.trans (cg.1.cTe hf))
    have i1 := (hg g0).2
    refine X6_readRow_s hw hTm cg (hendOf hend F.tb) (by rw [x14]; exact hn) (by rw [ct]; exact q) (fun g => (hg g).1) fun m2 r2 m2' u2 c2 f2 hg2 _ _ => ih _ _ ⟨by omega, F.trans f2, r2, m2', u2, c2, fun g => ⟨(hg2 g).1, by have := (hg2 g).2; omega⟩⟩ (by omega)
end
