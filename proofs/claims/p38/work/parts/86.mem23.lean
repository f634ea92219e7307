section
/-! The class's reader: what stands in the code row. -/
def preL (μ : mM) (n : Int) (μ1 : mM) : Prop := ∀ k : Nat, (k : Int) < n → μ1 27 k = μ 27 k
theorem preL.refl {μ : mM} {n : Int} : preL μ n μ := fun _ _ => rfl
theorem preL.trans {μ μ1 μ2 : mM} {n m : Int} (h : preL μ n μ1) (g : preL μ1 m μ2) (hm : n ≤ m) : preL μ n μ2 := fun k hk => (g k (by omega)).trans (h k hk)
theorem preL.fr {l : List Nat} {w : mW} {μ μ1 μ2 : mM} {n : Int} (h : preL μ n μ1) (hw : mWF w) (hF : mF l w μ1 μ2) (hl : l.elem 27999 = false) : preL μ n μ2 := fun k hk => (hF.f (z := μ1 27 k) (A_27 hw) hl rfl).trans (h k hk)
theorem preL.up {μ μ1 μ2 : mM} {n e z : Int} (h : preL μ n μ1) (u : mU μ1 27 e.toNat z μ2) (he : 0 ≤ e ∧ n ≤ e) : preL μ n μ2 := fun k hk => (u.2 27 k (Or.inr (by omega))).trans (h k hk)
theorem preL.upO {μ μ1 μ2 : mM} {n z : Int} {a k : Nat} (h : preL μ n μ1) (u : mU μ1 a k z μ2) (ha : 27 ≠ a) : preL μ n μ2 := fun j hj => (u.2 27 j (Or.inl ha)).trans (h j hj)
theorem preL.f {μ μ1 : mM} {n e z : Int} (h : preL μ n μ1) (he : 0 ≤ e ∧ e < n) (q : μ 27 e.toNat = z) : μ1 27 e.toNat = z := (h e.toNat (by omega)).trans q
theorem preL.le {μ μ1 : mM} {n m : Int} (h : preL μ n μ1) (hm : m ≤ n) : preL μ m μ1 := fun k hk => h k (by omega)
def argA (μ : mM) (b k : Int) : Prop := ∀ i : Int, 0 ≤ i → i < k → 0 ≤ μ 27 (b + 2 * i + 1).toNat ∧ μ 27 (b + 2 * i + 1).toNat ≤ 1000000
theorem argA.zero {μ : mM} {b : Int} : argA μ b 0 := fun i h0 h1 => by omega
theorem argA.pre {μ μ1 : mM} {b k n : Int} (h : argA μ b k) (g : preL μ n μ1) (hb : 0 ≤ b) (hn : b + 2 * k ≤ n) : argA μ1 b k := fun i h0 h1 => by
  rw [g _ (by omega)]; exact h i h0 h1
theorem argA.succ {μ : mM} {b k e z : Int} (h : argA μ b k) (he : e = b + 2 * k + 1) (q : μ 27 e.toNat = z) (hz : 0 ≤ z ∧ z ≤ 1000000) : argA μ b (k + 1) := fun i h0 h1 => by
  by_cases hk : i = k
  · rw [hk, ← he, q]; exact hz
  · exact h i h0 (by omega)
theorem argA.up {μ μ1 : mM} {b k e z : Int} (h : argA μ b k) (u : mU μ 27 e.toNat z μ1) (he : 0 ≤ e ∧ e < b) : argA μ1 b k := fun i h0 h1 => by
  rw [u.2 27 _ (Or.inr (by omega))]; exact h i h0 h1
theorem argA.fr {l : List Nat} {w : mW} {μ μ1 : mM} {b k : Int} (h : argA μ b k) (hw : mWF w) (hF : mF l w μ μ1) (hl : l.elem 27999 = false) : argA μ1 b k := fun i h0 h1 => by
  rw [hF.f (z := μ 27 (b + 2 * i + 1).toNat) (A_27 hw) hl rfl]; exact h i h0 h1
def wfF (f : Nat → Int) : Nat → Nat → Prop
  | 0, c => c = 0
  | n + 1, c => ∃ h, wfF f n h ∧ 0 ≤ f h ∧ 0 ≤ f (h + 1) ∧ c = h + 2 + 5 * (f h).toNat + 2 * (f (h + 1)).toNat ∧ ∀ i, i < (f (h + 1)).toNat → 0 ≤ f (h + 2 + 5 * (f h).toNat + 2 * i + 1) ∧ f (h + 2 + 5 * (f h).toNat + 2 * i + 1) ≤ 1000000
theorem wfF.cong {f g : Nat → Int} : ∀ {n c : Nat}, wfF f n c → (∀ k, k < c → g k = f k) → wfF g n c
  | 0, _, h, _ => h
  | n + 1, c, ⟨h, h1, h2, h3, h4, h5⟩, e => by
    have e0 : g h = f h := e h (by omega)
    have e1 : g (h + 1) = f (h + 1) := e (h + 1) (by omega)
    refine ⟨h, wfF.cong h1 (fun k hk => e k (by omega)), by rw [e0]; exact h2, by rw [e1]; exact h3, by rw [e0, e1]; exact h4, fun i hi => ?_⟩
    rw [e1] at hi
    rw [e0, e (h + 2 + 5 * (f h).toNat + 2 * i + 1) (by omega)]
    exact h5 i hi
theorem wfF.toR {f : Nat → Int} {len : Nat} : ∀ {n c m : Nat}, wfF f n c → wfR f len c m → wfR f len 0 (n + m)
  | 0, c, m, h, g => by
    have h : c = 0 := h
    subst h; rw [Nat.zero_add]; exact g
  | n + 1, c, m, ⟨h, h1, h2, h3, h4, h5⟩, g => by
    have hc : c ≤ len := by
      cases m with
      | zero => exact g
      | succ m => have := g.1; omega
    have := wfF.toR (len := len) (m := m + 1) h1 (show wfR f len h (m + 1) from ⟨by omega, h2, h3, by omega, h5, by rw [← h4]; exact g⟩)
    have e : n + 1 + m = n + (m + 1) := by omega
    rw [e]; exact this
theorem wfF.fin {f : Nat → Int} {n c : Nat} (h : wfF f n c) : wfR f c 0 n := by
  have := wfF.toR (len := c) (m := 0) h (Nat.le_refl c)
  rw [Nat.add_zero] at this; exact this
theorem wfF.row {μ μ1 : mM} {n h t k c m : Int} (g : wfF (μ 27) n.toNat h.toNat) (hn : 0 ≤ n) (hh : 0 ≤ h) (p : preL μ h μ1) (e : Int) (he : e = h + 1) (qt : μ1 27 h.toNat = t) (qk : μ1 27 e.toNat = k) (ht : 0 ≤ t) (hk : 0 ≤ k) (b : Int) (hb : b = h + 2 + 5 * t) (ha : argA μ1 b k) (hc : c = b + 2 * k) (hm : m = n + 1) : wfF (μ1 27) m.toNat c.toNat := by
  have e1 : m.toNat = n.toNat + 1 := by omega
  have e2 : h.toNat + 1 = e.toNat := by omega
  rw [e1]
  refine ⟨h.toNat, g.cong (fun j hj => p j (by omega)), by rw [qt]; exact ht, by rw [e2, qk]; exact hk, by rw [e2, qt, qk]; omega, fun i hi => ?_⟩
  rw [e2, qk] at hi
  have := ha i (by omega) (by omega)
  have e3 : (b + 2 * (i : Int) + 1).toNat = h.toNat + 2 + 5 * t.toNat + 2 * i + 1 := by omega
  rw [e3] at this
  rw [qt]; exact this
theorem wfF.zero {f : Nat → Int} {n c : Int} (hn : n = 0) (hc : c = 0) : wfF f n.toNat c.toNat := by subst hn; subst hc; exact rfl
theorem wfF.cg {f : Nat → Int} {n c n' c' : Int} (h : wfF f n.toNat c.toNat) (hn : n' = n) (hc : c' = c) : wfF f n'.toNat c'.toNat := by rw [hn, hc]; exact h
theorem argV {μ : mM} {e x c : Int} (h : 2000 ≤ e ∨ μ 27 e.toNat = x) (he : 1990 ≤ c ∨ e = c + 1) (hx : 0 ≤ x ∧ x ≤ 1000000) : 1990 ≤ c ∨ (0 ≤ μ 27 (c + 1).toNat ∧ μ 27 (c + 1).toNat ≤ 1000000) := by
  rcases he with he | he
  · exact Or.inl he
  · rcases h with h | h
    · exact Or.inl (by omega)
    · rw [← he, h]; exact Or.inr hx
end
section
theorem dX6_readAct_0 : decode cX6_readAct 0 = .ok (.aload_n 0, 1) := dc0 dO_42 (by decide +kernel)
theorem dX6_readAct_1 : decode cX6_readAct 1 = .ok (.getfield 9, 3) := dcU2 dO_180 (by decide +kernel)
theorem dX6_readAct_4 : decode cX6_readAct 4 = .ok (.aload_n 0, 1) := dc0 dO_42 (by decide +kernel)
theorem dX6_readAct_5 : decode cX6_readAct 5 = .ok (.getfield 63, 3) := dcU2 dO_180 (by decide +kernel)
theorem dX6_readAct_8 : decode cX6_readAct 8 = .ok (.iaload, 1) := dc0 dO_46 (by decide +kernel)
theorem dX6_readAct_9 : decode cX6_readAct 9 = .ok (.istore_n 1, 1) := dc0 dO_60 (by decide +kernel)
theorem dX6_readAct_10 : decode cX6_readAct 10 = .ok (.iload_n 1, 1) := dc0 dO_27 (by decide +kernel)
theorem dX6_readAct_11 : decode cX6_readAct 11 = .ok (.invokestatic 127, 3) := dcU2 dO_184 (by decide +kernel)
theorem dX6_readAct_14 : decode cX6_readAct 14 = .ok (.ifCond .ne 9, 3) := dcS2 dO_154 (by decide +kernel)
theorem dX6_readAct_17 : decode cX6_readAct 17 = .ok (.aload_n 0, 1) := dc0 dO_42 (by decide +kernel)
theorem dX6_readAct_18 : decode cX6_readAct 18 = .ok (.iconst 2, 1) := dc0 dO_5 (by decide +kernel)
theorem dX6_readAct_19 : decode cX6_readAct 19 = .ok (.invokevirtual 123, 3) := dcU2 dO_182 (by decide +kernel)
theorem dX6_readAct_22 : decode cX6_readAct 22 = .ok (.return_, 1) := dc0 dO_177 (by decide +kernel)
theorem dX6_readAct_23 : decode cX6_readAct 23 = .ok (.aload_n 0, 1) := dc0 dO_42 (by decide +kernel)
theorem dX6_readAct_24 : decode cX6_readAct 24 = .ok (.invokevirtual 117, 3) := dcU2 dO_182 (by decide +kernel)
theorem dX6_readAct_27 : decode cX6_readAct 27 = .ok (.aload_n 0, 1) := dc0 dO_42 (by decide +kernel)
theorem dX6_readAct_28 : decode cX6_readAct 28 = .ok (.iload_n 1, 1) := dc0 dO_27 (by decide +kernel)
theorem dX6_readAct_29 : decode cX6_readAct 29 = .ok (.invokevirtual 130, 3) := dcU2 dO_182 (by decide +kernel)
theorem dX6_readAct_32 : decode cX6_readAct 32 = .ok (.iload_n 1, 1) := dc0 dO_27 (by decide +kernel)
theorem dX6_readAct_33 : decode cX6_readAct 33 = .ok (.tableswitch 158 12 28 #[97, 112, 158, 158, 158, 158, 158, 158, 158, 158, 158, 158, 158, 83, 83, 126, 140], 83) := by decide +kernel
theorem dX6_readAct_116 : decode cX6_readAct 116 = .ok (.aload_n 0, 1) := dc0 dO_42 (by decide +kernel)
theorem dX6_readAct_117 : decode cX6_readAct 117 = .ok (.aload_n 0, 1) := dc0 dO_42 (by decide +kernel)
theorem dX6_readAct_118 : decode cX6_readAct 118 = .ok (.iconst 0, 1) := dc0 dO_3 (by decide +kernel)
theorem dX6_readAct_119 : decode cX6_readAct 119 = .ok (.ldc 142, 2) := dcU1 dO_18 (by decide +kernel)
theorem dX6_readAct_121 : decode cX6_readAct 121 = .ok (.invokevirtual 143, 3) := dcU2 dO_182 (by decide +kernel)
theorem dX6_readAct_124 : decode cX6_readAct 124 = .ok (.invokevirtual 130, 3) := dcU2 dO_182 (by decide +kernel)
theorem dX6_readAct_127 : decode cX6_readAct 127 = .ok (.goto 69, 3) := dcS2 dO_167 (by decide +kernel)
theorem sfx_cX6_readAct_128 : (cX6_readAct.data.toList.drop 128).take 67 = [0, 69, 42, 42, 3, 17, 3, 232, 182, 0, 143, 182, 0, 130, 167, 0, 54, 42, 42, 3, 18, 147, 182, 0, 143, 182, 0, 130, 167, 0, 40, 42, 42, 4, 16, 9, 182, 0, 143, 182, 0, 130, 167, 0, 26, 42, 42, 3, 42, 180, 0, 56, 4, 100, 182, 0, 143, 182, 0, 130, 167, 0, 8, 42, 3, 182, 0] := by decide +kernel
theorem dX6_readAct_130 : decode cX6_readAct 130 = .ok (.aload_n 0, 1) := dc0 dO_42 (rdB.ch sfx_cX6_readAct_128 2 rfl (by decide +kernel))
theorem dX6_readAct_131 : decode cX6_readAct 131 = .ok (.aload_n 0, 1) := dc0 dO_42 (rdB.ch sfx_cX6_readAct_128 3 rfl (by decide +kernel))
theorem dX6_readAct_132 : decode cX6_readAct 132 = .ok (.iconst 0, 1) := dc0 dO_3 (rdB.ch sfx_cX6_readAct_128 4 rfl (by decide +kernel))
theorem dX6_readAct_133 : decode cX6_readAct 133 = .ok (.sipush 1000, 3) := dcS2 dO_17 (rdS2.ch sfx_cX6_readAct_128 5 rfl (by decide +kernel))
theorem dX6_readAct_136 : decode cX6_readAct 136 = .ok (.invokevirtual 143, 3) := dcU2 dO_182 (rdU2.ch sfx_cX6_readAct_128 8 rfl (by decide +kernel))
theorem dX6_readAct_139 : decode cX6_readAct 139 = .ok (.invokevirtual 130, 3) := dcU2 dO_182 (rdU2.ch sfx_cX6_readAct_128 11 rfl (by decide +kernel))
theorem dX6_readAct_142 : decode cX6_readAct 142 = .ok (.goto 54, 3) := dcS2 dO_167 (rdS2.ch sfx_cX6_readAct_128 14 rfl (by decide +kernel))
theorem dX6_readAct_145 : decode cX6_readAct 145 = .ok (.aload_n 0, 1) := dc0 dO_42 (rdB.ch sfx_cX6_readAct_128 17 rfl (by decide +kernel))
theorem dX6_readAct_146 : decode cX6_readAct 146 = .ok (.aload_n 0, 1) := dc0 dO_42 (rdB.ch sfx_cX6_readAct_128 18 rfl (by decide +kernel))
theorem dX6_readAct_147 : decode cX6_readAct 147 = .ok (.iconst 0, 1) := dc0 dO_3 (rdB.ch sfx_cX6_readAct_128 19 rfl (by decide +kernel))
theorem dX6_readAct_148 : decode cX6_readAct 148 = .ok (.ldc 147, 2) := dcU1 dO_18 (rdU1.ch sfx_cX6_readAct_128 20 rfl (by decide +kernel))
theorem dX6_readAct_150 : decode cX6_readAct 150 = .ok (.invokevirtual 143, 3) := dcU2 dO_182 (rdU2.ch sfx_cX6_readAct_128 22 rfl (by decide +kernel))
theorem dX6_readAct_153 : decode cX6_readAct 153 = .ok (.invokevirtual 130, 3) := dcU2 dO_182 (rdU2.ch sfx_cX6_readAct_128 25 rfl (by decide +kernel))
theorem dX6_readAct_156 : decode cX6_readAct 156 = .ok (.goto 40, 3) := dcS2 dO_167 (rdS2.ch sfx_cX6_readAct_128 28 rfl (by decide +kernel))
theorem dX6_readAct_159 : decode cX6_readAct 159 = .ok (.aload_n 0, 1) := dc0 dO_42 (rdB.ch sfx_cX6_readAct_128 31 rfl (by decide +kernel))
theorem dX6_readAct_160 : decode cX6_readAct 160 = .ok (.aload_n 0, 1) := dc0 dO_42 (rdB.ch sfx_cX6_readAct_128 32 rfl (by decide +kernel))
theorem dX6_readAct_161 : decode cX6_readAct 161 = .ok (.iconst 1, 1) := dc0 dO_4 (rdB.ch sfx_cX6_readAct_128 33 rfl (by decide +kernel))
theorem dX6_readAct_162 : decode cX6_readAct 162 = .ok (.bipush 9, 2) := dcS1 dO_16 (rdS1.ch sfx_cX6_readAct_128 34 rfl (by decide +kernel))
theorem dX6_readAct_164 : decode cX6_readAct 164 = .ok (.invokevirtual 143, 3) := dcU2 dO_182 (rdU2.ch sfx_cX6_readAct_128 36 rfl (by decide +kernel))
theorem dX6_readAct_167 : decode cX6_readAct 167 = .ok (.invokevirtual 130, 3) := dcU2 dO_182 (rdU2.ch sfx_cX6_readAct_128 39 rfl (by decide +kernel))
theorem dX6_readAct_170 : decode cX6_readAct 170 = .ok (.goto 26, 3) := dcS2 dO_167 (rdS2.ch sfx_cX6_readAct_128 42 rfl (by decide +kernel))
theorem dX6_readAct_173 : decode cX6_readAct 173 = .ok (.aload_n 0, 1) := dc0 dO_42 (rdB.ch sfx_cX6_readAct_128 45 rfl (by decide +kernel))
theorem dX6_readAct_174 : decode cX6_readAct 174 = .ok (.aload_n 0, 1) := dc0 dO_42 (rdB.ch sfx_cX6_readAct_128 46 rfl (by decide +kernel))
theorem dX6_readAct_175 : decode cX6_readAct 175 = .ok (.iconst 0, 1) := dc0 dO_3 (rdB.ch sfx_cX6_readAct_128 47 rfl (by decide +kernel))
theorem dX6_readAct_176 : decode cX6_readAct 176 = .ok (.aload_n 0, 1) := dc0 dO_42 (rdB.ch sfx_cX6_readAct_128 48 rfl (by decide +kernel))
theorem dX6_readAct_177 : decode cX6_readAct 177 = .ok (.getfield 56, 3) := dcU2 dO_180 (rdU2.ch sfx_cX6_readAct_128 49 rfl (by decide +kernel))
theorem dX6_readAct_180 : decode cX6_readAct 180 = .ok (.iconst 1, 1) := dc0 dO_4 (rdB.ch sfx_cX6_readAct_128 52 rfl (by decide +kernel))
theorem dX6_readAct_181 : decode cX6_readAct 181 = .ok (.isub, 1) := dc0 dO_100 (rdB.ch sfx_cX6_readAct_128 53 rfl (by decide +kernel))
theorem dX6_readAct_182 : decode cX6_readAct 182 = .ok (.invokevirtual 143, 3) := dcU2 dO_182 (rdU2.ch sfx_cX6_readAct_128 54 rfl (by decide +kernel))
theorem dX6_readAct_185 : decode cX6_readAct 185 = .ok (.invokevirtual 130, 3) := dcU2 dO_182 (rdU2.ch sfx_cX6_readAct_128 57 rfl (by decide +kernel))
theorem dX6_readAct_188 : decode cX6_readAct 188 = .ok (.goto 8, 3) := dcS2 dO_167 (rdS2.ch sfx_cX6_readAct_128 60 rfl (by decide +kernel))
theorem dX6_readAct_191 : decode cX6_readAct 191 = .ok (.aload_n 0, 1) := dc0 dO_42 (rdB.ch sfx_cX6_readAct_128 63 rfl (by decide +kernel))
theorem sfx_cX6_readAct_192 : (cX6_readAct.data.toList.drop 192).take 67 = [3, 182, 0, 130, 177] := by decide +kernel
theorem dX6_readAct_192 : decode cX6_readAct 192 = .ok (.iconst 0, 1) := dc0 dO_3 (rdB.ch sfx_cX6_readAct_192 0 rfl (by decide +kernel))
theorem dX6_readAct_193 : decode cX6_readAct 193 = .ok (.invokevirtual 130, 3) := dcU2 dO_182 (rdU2.ch sfx_cX6_readAct_192 1 rfl (by decide +kernel))
theorem dX6_readAct_196 : decode cX6_readAct 196 = .ok (.return_, 1) := dc0 dO_177 (rdB.ch sfx_cX6_readAct_192 4 rfl (by decide +kernel))
theorem dX6_readBranches_0 : decode cX6_readBranches 0 = .ok (.iconst 0, 1) := dc0 dO_3 (by decide +kernel)
theorem dX6_readBranches_1 : decode cX6_readBranches 1 = .ok (.istore_n 2, 1) := dc0 dO_61 (by decide +kernel)
theorem dX6_readBranches_2 : decode cX6_readBranches 2 = .ok (.lconst 0, 1) := dc0 dO_9 (by decide +kernel)
theorem dX6_readBranches_3 : decode cX6_readBranches 3 = .ok (.lstore_n 3, 1) := dc0 dO_66 (by decide +kernel)
theorem dX6_readBranches_4 : decode cX6_readBranches 4 = .ok (.lconst 0, 1) := dc0 dO_9 (by decide +kernel)
theorem dX6_readBranches_5 : decode cX6_readBranches 5 = .ok (.lstore 5, 2) := dcU1 dO_55 (by decide +kernel)
theorem dX6_readBranches_7 : decode cX6_readBranches 7 = .ok (.iconst 1, 1) := dc0 dO_4 (by decide +kernel)
theorem dX6_readBranches_8 : decode cX6_readBranches 8 = .ok (.istore 7, 2) := dcU1 dO_54 (by decide +kernel)
theorem dX6_readBranches_10 : decode cX6_readBranches 10 = .ok (.iconst 0, 1) := dc0 dO_3 (by decide +kernel)
theorem dX6_readBranches_11 : decode cX6_readBranches 11 = .ok (.istore 8, 2) := dcU1 dO_54 (by decide +kernel)
theorem dX6_readBranches_13 : decode cX6_readBranches 13 = .ok (.iload 8, 2) := dcU1 dO_21 (by decide +kernel)
theorem dX6_readBranches_15 : decode cX6_readBranches 15 = .ok (.sipush 1000, 3) := dcS2 dO_17 (by decide +kernel)
theorem dX6_readBranches_18 : decode cX6_readBranches 18 = .ok (.if_icmp .gt 193, 3) := dcS2 dO_163 (by decide +kernel)
theorem dX6_readBranches_21 : decode cX6_readBranches 21 = .ok (.iload 7, 2) := dcU1 dO_21 (by decide +kernel)
theorem dX6_readBranches_23 : decode cX6_readBranches 23 = .ok (.ifCond .eq 188, 3) := dcS2 dO_153 (by decide +kernel)
theorem dX6_readBranches_26 : decode cX6_readBranches 26 = .ok (.iconst 1, 1) := dc0 dO_4 (by decide +kernel)
theorem dX6_readBranches_27 : decode cX6_readBranches 27 = .ok (.istore 9, 2) := dcU1 dO_54 (by decide +kernel)
theorem dX6_readBranches_29 : decode cX6_readBranches 29 = .ok (.lconst 0, 1) := dc0 dO_9 (by decide +kernel)
theorem dX6_readBranches_30 : decode cX6_readBranches 30 = .ok (.lstore 10, 2) := dcU1 dO_55 (by decide +kernel)
theorem dX6_readBranches_32 : decode cX6_readBranches 32 = .ok (.lconst 0, 1) := dc0 dO_9 (by decide +kernel)
theorem dX6_readBranches_33 : decode cX6_readBranches 33 = .ok (.lstore 12, 2) := dcU1 dO_55 (by decide +kernel)
theorem dX6_readBranches_35 : decode cX6_readBranches 35 = .ok (.iconst 0, 1) := dc0 dO_3 (by decide +kernel)
theorem dX6_readBranches_36 : decode cX6_readBranches 36 = .ok (.istore 14, 2) := dcU1 dO_54 (by decide +kernel)
theorem dX6_readBranches_38 : decode cX6_readBranches 38 = .ok (.iload 14, 2) := dcU1 dO_21 (by decide +kernel)
theorem dX6_readBranches_40 : decode cX6_readBranches 40 = .ok (.sipush 1000, 3) := dcS2 dO_17 (by decide +kernel)
theorem dX6_readBranches_43 : decode cX6_readBranches 43 = .ok (.if_icmp .gt 126, 3) := dcS2 dO_163 (by decide +kernel)
theorem dX6_readBranches_46 : decode cX6_readBranches 46 = .ok (.aload_n 0, 1) := dc0 dO_42 (by decide +kernel)
theorem dX6_readBranches_47 : decode cX6_readBranches 47 = .ok (.getfield 9, 3) := dcU2 dO_180 (by decide +kernel)
theorem dX6_readBranches_50 : decode cX6_readBranches 50 = .ok (.aload_n 0, 1) := dc0 dO_42 (by decide +kernel)
theorem dX6_readBranches_51 : decode cX6_readBranches 51 = .ok (.getfield 63, 3) := dcU2 dO_180 (by decide +kernel)
theorem dX6_readBranches_54 : decode cX6_readBranches 54 = .ok (.iaload, 1) := dc0 dO_46 (by decide +kernel)
theorem dX6_readBranches_55 : decode cX6_readBranches 55 = .ok (.invokestatic 190, 3) := dcU2 dO_184 (by decide +kernel)
theorem dX6_readBranches_58 : decode cX6_readBranches 58 = .ok (.ifCond .eq 111, 3) := dcS2 dO_153 (by decide +kernel)
theorem dX6_readBranches_61 : decode cX6_readBranches 61 = .ok (.aload_n 0, 1) := dc0 dO_42 (by decide +kernel)
theorem dX6_readBranches_62 : decode cX6_readBranches 62 = .ok (.getfield 9, 3) := dcU2 dO_180 (by decide +kernel)
theorem dX6_readBranches_65 : decode cX6_readBranches 65 = .ok (.aload_n 0, 1) := dc0 dO_42 (by decide +kernel)
theorem dX6_readBranches_66 : decode cX6_readBranches 66 = .ok (.getfield 63, 3) := dcU2 dO_180 (by decide +kernel)
theorem dX6_readBranches_69 : decode cX6_readBranches 69 = .ok (.iaload, 1) := dc0 dO_46 (by decide +kernel)
theorem dX6_readBranches_70 : decode cX6_readBranches 70 = .ok (.sipush 1040, 3) := dcS2 dO_17 (by decide +kernel)
theorem dX6_readBranches_73 : decode cX6_readBranches 73 = .ok (.if_icmp .ne 11, 3) := dcS2 dO_160 (by decide +kernel)
theorem dX6_readBranches_76 : decode cX6_readBranches 76 = .ok (.aload_n 0, 1) := dc0 dO_42 (by decide +kernel)
theorem dX6_readBranches_77 : decode cX6_readBranches 77 = .ok (.iload_n 1, 1) := dc0 dO_27 (by decide +kernel)
theorem dX6_readBranches_78 : decode cX6_readBranches 78 = .ok (.invokevirtual 193, 3) := dcU2 dO_182 (by decide +kernel)
theorem dX6_readBranches_81 : decode cX6_readBranches 81 = .ok (.goto 7, 3) := dcS2 dO_167 (by decide +kernel)
theorem dX6_readBranches_84 : decode cX6_readBranches 84 = .ok (.aload_n 0, 1) := dc0 dO_42 (by decide +kernel)
theorem dX6_readBranches_85 : decode cX6_readBranches 85 = .ok (.invokevirtual 196, 3) := dcU2 dO_182 (by decide +kernel)
theorem dX6_readBranches_88 : decode cX6_readBranches 88 = .ok (.aload_n 0, 1) := dc0 dO_42 (by decide +kernel)
theorem dX6_readBranches_89 : decode cX6_readBranches 89 = .ok (.invokevirtual 199, 3) := dcU2 dO_182 (by decide +kernel)
theorem dX6_readBranches_92 : decode cX6_readBranches 92 = .ok (.aload_n 0, 1) := dc0 dO_42 (by decide +kernel)
theorem dX6_readBranches_93 : decode cX6_readBranches 93 = .ok (.lload 12, 2) := dcU1 dO_22 (by decide +kernel)
theorem dX6_readBranches_95 : decode cX6_readBranches 95 = .ok (.aload_n 0, 1) := dc0 dO_42 (by decide +kernel)
theorem dX6_readBranches_96 : decode cX6_readBranches 96 = .ok (.getfield 179, 3) := dcU2 dO_180 (by decide +kernel)
theorem dX6_readBranches_99 : decode cX6_readBranches 99 = .ok (.invokevirtual 202, 3) := dcU2 dO_182 (by decide +kernel)
theorem dX6_readBranches_102 : decode cX6_readBranches 102 = .ok (.iload 9, 2) := dcU1 dO_21 (by decide +kernel)
theorem dX6_readBranches_104 : decode cX6_readBranches 104 = .ok (.ifCond .eq 13, 3) := dcS2 dO_153 (by decide +kernel)
theorem dX6_readBranches_107 : decode cX6_readBranches 107 = .ok (.lload 10, 2) := dcU1 dO_22 (by decide +kernel)
theorem dX6_readBranches_109 : decode cX6_readBranches 109 = .ok (.aload_n 0, 1) := dc0 dO_42 (by decide +kernel)
theorem dX6_readBranches_110 : decode cX6_readBranches 110 = .ok (.getfield 179, 3) := dcU2 dO_180 (by decide +kernel)
theorem dX6_readBranches_113 : decode cX6_readBranches 113 = .ok (.lor, 1) := dc0 dO_129 (by decide +kernel)
theorem dX6_readBranches_114 : decode cX6_readBranches 114 = .ok (.goto 5, 3) := dcS2 dO_167 (by decide +kernel)
theorem dX6_readBranches_117 : decode cX6_readBranches 117 = .ok (.lload 10, 2) := dcU1 dO_22 (by decide +kernel)
theorem dX6_readBranches_119 : decode cX6_readBranches 119 = .ok (.lstore 10, 2) := dcU1 dO_55 (by decide +kernel)
theorem dX6_readBranches_121 : decode cX6_readBranches 121 = .ok (.aload_n 0, 1) := dc0 dO_42 (by decide +kernel)
theorem dX6_readBranches_122 : decode cX6_readBranches 122 = .ok (.getfield 186, 3) := dcU2 dO_180 (by decide +kernel)
theorem dX6_readBranches_125 : decode cX6_readBranches 125 = .ok (.ifCond .eq 13, 3) := dcS2 dO_153 (by decide +kernel)
theorem sfx_cX6_readBranches_128 : (cX6_readBranches.data.toList.drop 128).take 67 = [22, 12, 42, 180, 0, 183, 129, 167, 0, 7, 42, 180, 0, 183, 55, 12, 21, 9, 153, 0, 14, 42, 180, 0, 186, 153, 0, 7, 4, 167, 0, 4, 3, 54, 9, 132, 14, 1, 167, 255, 128, 28, 154, 0, 8, 21, 9, 153, 0, 7, 4, 167, 0, 4, 3, 61, 33, 22, 10, 129, 66, 22, 5, 22, 12, 129, 55] := by decide +kernel
theorem dX6_readBranches_128 : decode cX6_readBranches 128 = .ok (.lload 12, 2) := dcU1 dO_22 (rdU1.ch sfx_cX6_readBranches_128 0 rfl (by decide +kernel))
theorem dX6_readBranches_130 : decode cX6_readBranches 130 = .ok (.aload_n 0, 1) := dc0 dO_42 (rdB.ch sfx_cX6_readBranches_128 2 rfl (by decide +kernel))
theorem dX6_readBranches_131 : decode cX6_readBranches 131 = .ok (.getfield 183, 3) := dcU2 dO_180 (rdU2.ch sfx_cX6_readBranches_128 3 rfl (by decide +kernel))
theorem dX6_readBranches_134 : decode cX6_readBranches 134 = .ok (.lor, 1) := dc0 dO_129 (rdB.ch sfx_cX6_readBranches_128 6 rfl (by decide +kernel))
theorem dX6_readBranches_135 : decode cX6_readBranches 135 = .ok (.goto 7, 3) := dcS2 dO_167 (rdS2.ch sfx_cX6_readBranches_128 7 rfl (by decide +kernel))
theorem dX6_readBranches_138 : decode cX6_readBranches 138 = .ok (.aload_n 0, 1) := dc0 dO_42 (rdB.ch sfx_cX6_readBranches_128 10 rfl (by decide +kernel))
theorem dX6_readBranches_139 : decode cX6_readBranches 139 = .ok (.getfield 183, 3) := dcU2 dO_180 (rdU2.ch sfx_cX6_readBranches_128 11 rfl (by decide +kernel))
theorem dX6_readBranches_142 : decode cX6_readBranches 142 = .ok (.lstore 12, 2) := dcU1 dO_55 (rdU1.ch sfx_cX6_readBranches_128 14 rfl (by decide +kernel))
theorem dX6_readBranches_144 : decode cX6_readBranches 144 = .ok (.iload 9, 2) := dcU1 dO_21 (rdU1.ch sfx_cX6_readBranches_128 16 rfl (by decide +kernel))
theorem dX6_readBranches_146 : decode cX6_readBranches 146 = .ok (.ifCond .eq 14, 3) := dcS2 dO_153 (rdS2.ch sfx_cX6_readBranches_128 18 rfl (by decide +kernel))
theorem dX6_readBranches_149 : decode cX6_readBranches 149 = .ok (.aload_n 0, 1) := dc0 dO_42 (rdB.ch sfx_cX6_readBranches_128 21 rfl (by decide +kernel))
theorem dX6_readBranches_150 : decode cX6_readBranches 150 = .ok (.getfield 186, 3) := dcU2 dO_180 (rdU2.ch sfx_cX6_readBranches_128 22 rfl (by decide +kernel))
theorem dX6_readBranches_153 : decode cX6_readBranches 153 = .ok (.ifCond .eq 7, 3) := dcS2 dO_153 (rdS2.ch sfx_cX6_readBranches_128 25 rfl (by decide +kernel))
theorem dX6_readBranches_156 : decode cX6_readBranches 156 = .ok (.iconst 1, 1) := dc0 dO_4 (rdB.ch sfx_cX6_readBranches_128 28 rfl (by decide +kernel))
theorem dX6_readBranches_157 : decode cX6_readBranches 157 = .ok (.goto 4, 3) := dcS2 dO_167 (rdS2.ch sfx_cX6_readBranches_128 29 rfl (by decide +kernel))
theorem dX6_readBranches_160 : decode cX6_readBranches 160 = .ok (.iconst 0, 1) := dc0 dO_3 (rdB.ch sfx_cX6_readBranches_128 32 rfl (by decide +kernel))
theorem dX6_readBranches_161 : decode cX6_readBranches 161 = .ok (.istore 9, 2) := dcU1 dO_54 (rdU1.ch sfx_cX6_readBranches_128 33 rfl (by decide +kernel))
theorem dX6_readBranches_163 : decode cX6_readBranches 163 = .ok (.iinc 14 1, 3) := dcI dO_132 (rdI.ch sfx_cX6_readBranches_128 35 rfl (by decide +kernel))
theorem dX6_readBranches_166 : decode cX6_readBranches 166 = .ok (.goto (-128), 3) := dcS2 dO_167 (rdS2.ch sfx_cX6_readBranches_128 38 rfl (by decide +kernel))
theorem dX6_readBranches_169 : decode cX6_readBranches 169 = .ok (.iload_n 2, 1) := dc0 dO_28 (rdB.ch sfx_cX6_readBranches_128 41 rfl (by decide +kernel))
theorem dX6_readBranches_170 : decode cX6_readBranches 170 = .ok (.ifCond .ne 8, 3) := dcS2 dO_154 (rdS2.ch sfx_cX6_readBranches_128 42 rfl (by decide +kernel))
theorem dX6_readBranches_173 : decode cX6_readBranches 173 = .ok (.iload 9, 2) := dcU1 dO_21 (rdU1.ch sfx_cX6_readBranches_128 45 rfl (by decide +kernel))
theorem dX6_readBranches_175 : decode cX6_readBranches 175 = .ok (.ifCond .eq 7, 3) := dcS2 dO_153 (rdS2.ch sfx_cX6_readBranches_128 47 rfl (by decide +kernel))
theorem dX6_readBranches_178 : decode cX6_readBranches 178 = .ok (.iconst 1, 1) := dc0 dO_4 (rdB.ch sfx_cX6_readBranches_128 50 rfl (by decide +kernel))
theorem dX6_readBranches_179 : decode cX6_readBranches 179 = .ok (.goto 4, 3) := dcS2 dO_167 (rdS2.ch sfx_cX6_readBranches_128 51 rfl (by decide +kernel))
theorem dX6_readBranches_182 : decode cX6_readBranches 182 = .ok (.iconst 0, 1) := dc0 dO_3 (rdB.ch sfx_cX6_readBranches_128 54 rfl (by decide +kernel))
theorem dX6_readBranches_183 : decode cX6_readBranches 183 = .ok (.istore_n 2, 1) := dc0 dO_61 (rdB.ch sfx_cX6_readBranches_128 55 rfl (by decide +kernel))
theorem dX6_readBranches_184 : decode cX6_readBranches 184 = .ok (.lload_n 3, 1) := dc0 dO_33 (rdB.ch sfx_cX6_readBranches_128 56 rfl (by decide +kernel))
theorem dX6_readBranches_185 : decode cX6_readBranches 185 = .ok (.lload 10, 2) := dcU1 dO_22 (rdU1.ch sfx_cX6_readBranches_128 57 rfl (by decide +kernel))
theorem dX6_readBranches_187 : decode cX6_readBranches 187 = .ok (.lor, 1) := dc0 dO_129 (rdB.ch sfx_cX6_readBranches_128 59 rfl (by decide +kernel))
theorem dX6_readBranches_188 : decode cX6_readBranches 188 = .ok (.lstore_n 3, 1) := dc0 dO_66 (rdB.ch sfx_cX6_readBranches_128 60 rfl (by decide +kernel))
theorem dX6_readBranches_189 : decode cX6_readBranches 189 = .ok (.lload 5, 2) := dcU1 dO_22 (rdU1.ch sfx_cX6_readBranches_128 61 rfl (by decide +kernel))
theorem dX6_readBranches_191 : decode cX6_readBranches 191 = .ok (.lload 12, 2) := dcU1 dO_22 (rdU1.ch sfx_cX6_readBranches_128 63 rfl (by decide +kernel))
theorem sfx_cX6_readBranches_192 : (cX6_readBranches.data.toList.drop 192).take 67 = [12, 129, 55, 5, 42, 17, 4, 100, 182, 0, 120, 54, 7, 132, 8, 1, 167, 255, 61, 42, 28, 181, 0, 186, 42, 33, 181, 0, 179, 42, 22, 5, 181, 0, 183, 177] := by decide +kernel
theorem dX6_readBranches_193 : decode cX6_readBranches 193 = .ok (.lor, 1) := dc0 dO_129 (rdB.ch sfx_cX6_readBranches_192 1 rfl (by decide +kernel))
theorem dX6_readBranches_194 : decode cX6_readBranches 194 = .ok (.lstore 5, 2) := dcU1 dO_55 (rdU1.ch sfx_cX6_readBranches_192 2 rfl (by decide +kernel))
theorem dX6_readBranches_196 : decode cX6_readBranches 196 = .ok (.aload_n 0, 1) := dc0 dO_42 (rdB.ch sfx_cX6_readBranches_192 4 rfl (by decide +kernel))
theorem dX6_readBranches_197 : decode cX6_readBranches 197 = .ok (.sipush 1124, 3) := dcS2 dO_17 (rdS2.ch sfx_cX6_readBranches_192 5 rfl (by decide +kernel))
theorem dX6_readBranches_200 : decode cX6_readBranches 200 = .ok (.invokevirtual 120, 3) := dcU2 dO_182 (rdU2.ch sfx_cX6_readBranches_192 8 rfl (by decide +kernel))
theorem dX6_readBranches_203 : decode cX6_readBranches 203 = .ok (.istore 7, 2) := dcU1 dO_54 (rdU1.ch sfx_cX6_readBranches_192 11 rfl (by decide +kernel))
theorem dX6_readBranches_205 : decode cX6_readBranches 205 = .ok (.iinc 8 1, 3) := dcI dO_132 (rdI.ch sfx_cX6_readBranches_192 13 rfl (by decide +kernel))
theorem dX6_readBranches_208 : decode cX6_readBranches 208 = .ok (.goto (-195), 3) := dcS2 dO_167 (rdS2.ch sfx_cX6_readBranches_192 16 rfl (by decide +kernel))
theorem dX6_readBranches_211 : decode cX6_readBranches 211 = .ok (.aload_n 0, 1) := dc0 dO_42 (rdB.ch sfx_cX6_readBranches_192 19 rfl (by decide +kernel))
theorem dX6_readBranches_212 : decode cX6_readBranches 212 = .ok (.iload_n 2, 1) := dc0 dO_28 (rdB.ch sfx_cX6_readBranches_192 20 rfl (by decide +kernel))
theorem dX6_readBranches_213 : decode cX6_readBranches 213 = .ok (.putfield 186, 3) := dcU2 dO_181 (rdU2.ch sfx_cX6_readBranches_192 21 rfl (by decide +kernel))
theorem dX6_readBranches_216 : decode cX6_readBranches 216 = .ok (.aload_n 0, 1) := dc0 dO_42 (rdB.ch sfx_cX6_readBranches_192 24 rfl (by decide +kernel))
theorem dX6_readBranches_217 : decode cX6_readBranches 217 = .ok (.lload_n 3, 1) := dc0 dO_33 (rdB.ch sfx_cX6_readBranches_192 25 rfl (by decide +kernel))
theorem dX6_readBranches_218 : decode cX6_readBranches 218 = .ok (.putfield 179, 3) := dcU2 dO_181 (rdU2.ch sfx_cX6_readBranches_192 26 rfl (by decide +kernel))
theorem dX6_readBranches_221 : decode cX6_readBranches 221 = .ok (.aload_n 0, 1) := dc0 dO_42 (rdB.ch sfx_cX6_readBranches_192 29 rfl (by decide +kernel))
theorem dX6_readBranches_222 : decode cX6_readBranches 222 = .ok (.lload 5, 2) := dcU1 dO_22 (rdU1.ch sfx_cX6_readBranches_192 30 rfl (by decide +kernel))
theorem dX6_readBranches_224 : decode cX6_readBranches 224 = .ok (.putfield 183, 3) := dcU2 dO_181 (rdU2.ch sfx_cX6_readBranches_192 32 rfl (by decide +kernel))
theorem dX6_readBranches_227 : decode cX6_readBranches 227 = .ok (.return_, 1) := dc0 dO_177 (rdB.ch sfx_cX6_readBranches_192 35 rfl (by decide +kernel))
theorem dX6_readGroup_0 : decode cX6_readGroup 0 = .ok (.iload_n 1, 1) := dc0 dO_27 (by decide +kernel)
theorem dX6_readGroup_1 : decode cX6_readGroup 1 = .ok (.bipush 6, 2) := dcS1 dO_16 (by decide +kernel)
theorem dX6_readGroup_3 : decode cX6_readGroup 3 = .ok (.if_icmp .lt 9, 3) := dcS2 dO_161 (by decide +kernel)
theorem dX6_readGroup_6 : decode cX6_readGroup 6 = .ok (.aload_n 0, 1) := dc0 dO_42 (by decide +kernel)
theorem dX6_readGroup_7 : decode cX6_readGroup 7 = .ok (.iconst 4, 1) := dc0 dO_7 (by decide +kernel)
theorem dX6_readGroup_8 : decode cX6_readGroup 8 = .ok (.invokevirtual 123, 3) := dcU2 dO_182 (by decide +kernel)
theorem dX6_readGroup_11 : decode cX6_readGroup 11 = .ok (.return_, 1) := dc0 dO_177 (by decide +kernel)
theorem dX6_readGroup_12 : decode cX6_readGroup 12 = .ok (.aload_n 0, 1) := dc0 dO_42 (by decide +kernel)
theorem dX6_readGroup_13 : decode cX6_readGroup 13 = .ok (.invokevirtual 117, 3) := dcU2 dO_182 (by decide +kernel)
theorem dX6_readGroup_16 : decode cX6_readGroup 16 = .ok (.aload_n 0, 1) := dc0 dO_42 (by decide +kernel)
theorem dX6_readGroup_17 : decode cX6_readGroup 17 = .ok (.iload_n 1, 1) := dc0 dO_27 (by decide +kernel)
theorem dX6_readGroup_18 : decode cX6_readGroup 18 = .ok (.iconst 1, 1) := dc0 dO_4 (by decide +kernel)
theorem dX6_readGroup_19 : decode cX6_readGroup 19 = .ok (.iadd, 1) := dc0 dO_96 (by decide +kernel)
theorem dX6_readGroup_20 : decode cX6_readGroup 20 = .ok (.invokevirtual 176, 3) := dcU2 dO_182 (by decide +kernel)
theorem dX6_readGroup_23 : decode cX6_readGroup 23 = .ok (.aload_n 0, 1) := dc0 dO_42 (by decide +kernel)
theorem dX6_readGroup_24 : decode cX6_readGroup 24 = .ok (.getfield 9, 3) := dcU2 dO_180 (by decide +kernel)
theorem dX6_readGroup_27 : decode cX6_readGroup 27 = .ok (.aload_n 0, 1) := dc0 dO_42 (by decide +kernel)
theorem dX6_readGroup_28 : decode cX6_readGroup 28 = .ok (.getfield 63, 3) := dcU2 dO_180 (by decide +kernel)
theorem dX6_readGroup_31 : decode cX6_readGroup 31 = .ok (.iaload, 1) := dc0 dO_46 (by decide +kernel)
theorem dX6_readGroup_32 : decode cX6_readGroup 32 = .ok (.sipush 1041, 3) := dcS2 dO_17 (by decide +kernel)
theorem dX6_readGroup_35 : decode cX6_readGroup 35 = .ok (.if_icmp .eq 9, 3) := dcS2 dO_159 (by decide +kernel)
theorem dX6_readGroup_38 : decode cX6_readGroup 38 = .ok (.aload_n 0, 1) := dc0 dO_42 (by decide +kernel)
theorem dX6_readGroup_39 : decode cX6_readGroup 39 = .ok (.iconst 2, 1) := dc0 dO_5 (by decide +kernel)
theorem dX6_readGroup_40 : decode cX6_readGroup 40 = .ok (.invokevirtual 123, 3) := dcU2 dO_182 (by decide +kernel)
theorem dX6_readGroup_43 : decode cX6_readGroup 43 = .ok (.return_, 1) := dc0 dO_177 (by decide +kernel)
theorem dX6_readGroup_44 : decode cX6_readGroup 44 = .ok (.aload_n 0, 1) := dc0 dO_42 (by decide +kernel)
theorem dX6_readGroup_45 : decode cX6_readGroup 45 = .ok (.invokevirtual 117, 3) := dcU2 dO_182 (by decide +kernel)
theorem dX6_readGroup_48 : decode cX6_readGroup 48 = .ok (.return_, 1) := dc0 dO_177 (by decide +kernel)
theorem dX6_readHeldIn_0 : decode cX6_readHeldIn 0 = .ok (.aload_n 0, 1) := dc0 dO_42 (by decide +kernel)
theorem dX6_readHeldIn_1 : decode cX6_readHeldIn 1 = .ok (.iconst 0, 1) := dc0 dO_3 (by decide +kernel)
theorem dX6_readHeldIn_2 : decode cX6_readHeldIn 2 = .ok (.sipush 255, 3) := dcS2 dO_17 (by decide +kernel)
theorem dX6_readHeldIn_5 : decode cX6_readHeldIn 5 = .ok (.invokevirtual 143, 3) := dcU2 dO_182 (by decide +kernel)
theorem dX6_readHeldIn_8 : decode cX6_readHeldIn 8 = .ok (.istore_n 2, 1) := dc0 dO_61 (by decide +kernel)
theorem dX6_readHeldIn_9 : decode cX6_readHeldIn 9 = .ok (.iconst 0, 1) := dc0 dO_3 (by decide +kernel)
theorem dX6_readHeldIn_10 : decode cX6_readHeldIn 10 = .ok (.istore_n 3, 1) := dc0 dO_62 (by decide +kernel)
theorem dX6_readHeldIn_11 : decode cX6_readHeldIn 11 = .ok (.iload_n 3, 1) := dc0 dO_29 (by decide +kernel)
theorem dX6_readHeldIn_12 : decode cX6_readHeldIn 12 = .ok (.iconst 3, 1) := dc0 dO_6 (by decide +kernel)
theorem dX6_readHeldIn_13 : decode cX6_readHeldIn 13 = .ok (.if_icmp .ge 30, 3) := dcS2 dO_162 (by decide +kernel)
theorem dX6_readHeldIn_16 : decode cX6_readHeldIn 16 = .ok (.aload_n 0, 1) := dc0 dO_42 (by decide +kernel)
theorem dX6_readHeldIn_17 : decode cX6_readHeldIn 17 = .ok (.sipush 1046, 3) := dcS2 dO_17 (by decide +kernel)
theorem dX6_readHeldIn_20 : decode cX6_readHeldIn 20 = .ok (.invokevirtual 136, 3) := dcU2 dO_182 (by decide +kernel)
theorem dX6_readHeldIn_23 : decode cX6_readHeldIn 23 = .ok (.iload_n 2, 1) := dc0 dO_28 (by decide +kernel)
theorem dX6_readHeldIn_24 : decode cX6_readHeldIn 24 = .ok (.bipush 8, 2) := dcS1 dO_16 (by decide +kernel)
theorem dX6_readHeldIn_26 : decode cX6_readHeldIn 26 = .ok (.ishl, 1) := dc0 dO_120 (by decide +kernel)
theorem dX6_readHeldIn_27 : decode cX6_readHeldIn 27 = .ok (.aload_n 0, 1) := dc0 dO_42 (by decide +kernel)
theorem dX6_readHeldIn_28 : decode cX6_readHeldIn 28 = .ok (.iconst 0, 1) := dc0 dO_3 (by decide +kernel)
theorem dX6_readHeldIn_29 : decode cX6_readHeldIn 29 = .ok (.sipush 255, 3) := dcS2 dO_17 (by decide +kernel)
theorem dX6_readHeldIn_32 : decode cX6_readHeldIn 32 = .ok (.invokevirtual 143, 3) := dcU2 dO_182 (by decide +kernel)
theorem dX6_readHeldIn_35 : decode cX6_readHeldIn 35 = .ok (.ior, 1) := dc0 dO_128 (by decide +kernel)
theorem dX6_readHeldIn_36 : decode cX6_readHeldIn 36 = .ok (.istore_n 2, 1) := dc0 dO_61 (by decide +kernel)
theorem dX6_readHeldIn_37 : decode cX6_readHeldIn 37 = .ok (.iinc 3 1, 3) := dcI dO_132 (by decide +kernel)
theorem dX6_readHeldIn_40 : decode cX6_readHeldIn 40 = .ok (.goto (-29), 3) := dcS2 dO_167 (by decide +kernel)
theorem dX6_readHeldIn_43 : decode cX6_readHeldIn 43 = .ok (.aload_n 0, 1) := dc0 dO_42 (by decide +kernel)
theorem dX6_readHeldIn_44 : decode cX6_readHeldIn 44 = .ok (.sipush 1047, 3) := dcS2 dO_17 (by decide +kernel)
theorem dX6_readHeldIn_47 : decode cX6_readHeldIn 47 = .ok (.invokevirtual 136, 3) := dcU2 dO_182 (by decide +kernel)
theorem dX6_readHeldIn_50 : decode cX6_readHeldIn 50 = .ok (.aload_n 0, 1) := dc0 dO_42 (by decide +kernel)
theorem dX6_readHeldIn_51 : decode cX6_readHeldIn 51 = .ok (.getfield 9, 3) := dcU2 dO_180 (by decide +kernel)
theorem dX6_readHeldIn_54 : decode cX6_readHeldIn 54 = .ok (.aload_n 0, 1) := dc0 dO_42 (by decide +kernel)
theorem dX6_readHeldIn_55 : decode cX6_readHeldIn 55 = .ok (.getfield 63, 3) := dcU2 dO_180 (by decide +kernel)
theorem dX6_readHeldIn_58 : decode cX6_readHeldIn 58 = .ok (.iaload, 1) := dc0 dO_46 (by decide +kernel)
theorem dX6_readHeldIn_59 : decode cX6_readHeldIn 59 = .ok (.bipush (-2), 2) := dcS1 dO_16 (by decide +kernel)
theorem dX6_readHeldIn_61 : decode cX6_readHeldIn 61 = .ok (.if_icmp .ne 21, 3) := dcS2 dO_160 (by decide +kernel)
theorem dX6_readHeldIn_64 : decode cX6_readHeldIn 64 = .ok (.aload_n 0, 1) := dc0 dO_42 (by decide +kernel)
theorem dX6_readHeldIn_65 : decode cX6_readHeldIn 65 = .ok (.getfield 15, 3) := dcU2 dO_180 (by decide +kernel)
theorem dX6_readHeldIn_68 : decode cX6_readHeldIn 68 = .ok (.aload_n 0, 1) := dc0 dO_42 (by decide +kernel)
theorem dX6_readHeldIn_69 : decode cX6_readHeldIn 69 = .ok (.getfield 63, 3) := dcU2 dO_180 (by decide +kernel)
theorem dX6_readHeldIn_72 : decode cX6_readHeldIn 72 = .ok (.iaload, 1) := dc0 dO_46 (by decide +kernel)
theorem dX6_readHeldIn_73 : decode cX6_readHeldIn 73 = .ok (.bipush 32, 2) := dcS1 dO_16 (by decide +kernel)
theorem dX6_readHeldIn_75 : decode cX6_readHeldIn 75 = .ok (.if_icmp .gt 7, 3) := dcS2 dO_163 (by decide +kernel)
theorem dX6_readHeldIn_78 : decode cX6_readHeldIn 78 = .ok (.iconst 1, 1) := dc0 dO_4 (by decide +kernel)
theorem dX6_readHeldIn_79 : decode cX6_readHeldIn 79 = .ok (.goto 4, 3) := dcS2 dO_167 (by decide +kernel)
theorem dX6_readHeldIn_82 : decode cX6_readHeldIn 82 = .ok (.iconst 0, 1) := dc0 dO_3 (by decide +kernel)
theorem dX6_readHeldIn_83 : decode cX6_readHeldIn 83 = .ok (.istore_n 3, 1) := dc0 dO_62 (by decide +kernel)
theorem dX6_readHeldIn_84 : decode cX6_readHeldIn 84 = .ok (.iload_n 3, 1) := dc0 dO_29 (by decide +kernel)
theorem dX6_readHeldIn_85 : decode cX6_readHeldIn 85 = .ok (.ifCond .eq 27, 3) := dcS2 dO_153 (by decide +kernel)
theorem dX6_readHeldIn_88 : decode cX6_readHeldIn 88 = .ok (.iload_n 2, 1) := dc0 dO_28 (by decide +kernel)
theorem dX6_readHeldIn_89 : decode cX6_readHeldIn 89 = .ok (.aload_n 0, 1) := dc0 dO_42 (by decide +kernel)
theorem dX6_readHeldIn_90 : decode cX6_readHeldIn 90 = .ok (.getfield 15, 3) := dcU2 dO_180 (by decide +kernel)
theorem dX6_readHeldIn_93 : decode cX6_readHeldIn 93 = .ok (.aload_n 0, 1) := dc0 dO_42 (by decide +kernel)
theorem dX6_readHeldIn_94 : decode cX6_readHeldIn 94 = .ok (.getfield 63, 3) := dcU2 dO_180 (by decide +kernel)
theorem dX6_readHeldIn_97 : decode cX6_readHeldIn 97 = .ok (.iaload, 1) := dc0 dO_46 (by decide +kernel)
theorem dX6_readHeldIn_98 : decode cX6_readHeldIn 98 = .ok (.invokestatic 171, 3) := dcU2 dO_184 (by decide +kernel)
theorem dX6_readHeldIn_101 : decode cX6_readHeldIn 101 = .ok (.iconst (-1), 1) := dc0 dO_2 (by decide +kernel)
theorem dX6_readHeldIn_102 : decode cX6_readHeldIn 102 = .ok (.ixor, 1) := dc0 dO_130 (by decide +kernel)
theorem dX6_readHeldIn_103 : decode cX6_readHeldIn 103 = .ok (.iand, 1) := dc0 dO_126 (by decide +kernel)
theorem dX6_readHeldIn_104 : decode cX6_readHeldIn 104 = .ok (.ifCond .eq 8, 3) := dcS2 dO_153 (by decide +kernel)
theorem dX6_readHeldIn_107 : decode cX6_readHeldIn 107 = .ok (.aload_n 0, 1) := dc0 dO_42 (by decide +kernel)
theorem dX6_readHeldIn_108 : decode cX6_readHeldIn 108 = .ok (.iconst 3, 1) := dc0 dO_6 (by decide +kernel)
theorem dX6_readHeldIn_109 : decode cX6_readHeldIn 109 = .ok (.invokevirtual 123, 3) := dcU2 dO_182 (by decide +kernel)
theorem dX6_readHeldIn_112 : decode cX6_readHeldIn 112 = .ok (.aload_n 0, 1) := dc0 dO_42 (by decide +kernel)
theorem dX6_readHeldIn_113 : decode cX6_readHeldIn 113 = .ok (.iconst 0, 1) := dc0 dO_3 (by decide +kernel)
theorem dX6_readHeldIn_114 : decode cX6_readHeldIn 114 = .ok (.bipush 32, 2) := dcS1 dO_16 (by decide +kernel)
theorem dX6_readHeldIn_116 : decode cX6_readHeldIn 116 = .ok (.invokevirtual 143, 3) := dcU2 dO_182 (by decide +kernel)
theorem dX6_readHeldIn_119 : decode cX6_readHeldIn 119 = .ok (.istore 4, 2) := dcU1 dO_54 (by decide +kernel)
theorem dX6_readHeldIn_121 : decode cX6_readHeldIn 121 = .ok (.aload_n 0, 1) := dc0 dO_42 (by decide +kernel)
theorem dX6_readHeldIn_122 : decode cX6_readHeldIn 122 = .ok (.iconst 5, 1) := dc0 dO_8 (by decide +kernel)
theorem dX6_readHeldIn_123 : decode cX6_readHeldIn 123 = .ok (.invokevirtual 120, 3) := dcU2 dO_182 (by decide +kernel)
theorem dX6_readHeldIn_126 : decode cX6_readHeldIn 126 = .ok (.ifCond .eq 14, 3) := dcS2 dO_153 (by decide +kernel)
theorem sfx_cX6_readHeldIn_128 : (cX6_readHeldIn.data.toList.drop 128).take 67 = [14, 42, 21, 4, 16, 32, 182, 0, 143, 167, 0, 5, 16, 32, 54, 5, 42, 7, 27, 28, 21, 4, 21, 5, 182, 0, 157, 177] := by decide +kernel
theorem dX6_readHeldIn_129 : decode cX6_readHeldIn 129 = .ok (.aload_n 0, 1) := dc0 dO_42 (rdB.ch sfx_cX6_readHeldIn_128 1 rfl (by decide +kernel))
theorem dX6_readHeldIn_130 : decode cX6_readHeldIn 130 = .ok (.iload 4, 2) := dcU1 dO_21 (rdU1.ch sfx_cX6_readHeldIn_128 2 rfl (by decide +kernel))
theorem dX6_readHeldIn_132 : decode cX6_readHeldIn 132 = .ok (.bipush 32, 2) := dcS1 dO_16 (rdS1.ch sfx_cX6_readHeldIn_128 4 rfl (by decide +kernel))
theorem dX6_readHeldIn_134 : decode cX6_readHeldIn 134 = .ok (.invokevirtual 143, 3) := dcU2 dO_182 (rdU2.ch sfx_cX6_readHeldIn_128 6 rfl (by decide +kernel))
theorem dX6_readHeldIn_137 : decode cX6_readHeldIn 137 = .ok (.goto 5, 3) := dcS2 dO_167 (rdS2.ch sfx_cX6_readHeldIn_128 9 rfl (by decide +kernel))
theorem dX6_readHeldIn_140 : decode cX6_readHeldIn 140 = .ok (.bipush 32, 2) := dcS1 dO_16 (rdS1.ch sfx_cX6_readHeldIn_128 12 rfl (by decide +kernel))
theorem dX6_readHeldIn_142 : decode cX6_readHeldIn 142 = .ok (.istore 5, 2) := dcU1 dO_54 (rdU1.ch sfx_cX6_readHeldIn_128 14 rfl (by decide +kernel))
theorem dX6_readHeldIn_144 : decode cX6_readHeldIn 144 = .ok (.aload_n 0, 1) := dc0 dO_42 (rdB.ch sfx_cX6_readHeldIn_128 16 rfl (by decide +kernel))
theorem dX6_readHeldIn_145 : decode cX6_readHeldIn 145 = .ok (.iconst 4, 1) := dc0 dO_7 (rdB.ch sfx_cX6_readHeldIn_128 17 rfl (by decide +kernel))
theorem dX6_readHeldIn_146 : decode cX6_readHeldIn 146 = .ok (.iload_n 1, 1) := dc0 dO_27 (rdB.ch sfx_cX6_readHeldIn_128 18 rfl (by decide +kernel))
theorem dX6_readHeldIn_147 : decode cX6_readHeldIn 147 = .ok (.iload_n 2, 1) := dc0 dO_28 (rdB.ch sfx_cX6_readHeldIn_128 19 rfl (by decide +kernel))
theorem dX6_readHeldIn_148 : decode cX6_readHeldIn 148 = .ok (.iload 4, 2) := dcU1 dO_21 (rdU1.ch sfx_cX6_readHeldIn_128 20 rfl (by decide +kernel))
theorem dX6_readHeldIn_150 : decode cX6_readHeldIn 150 = .ok (.iload 5, 2) := dcU1 dO_21 (rdU1.ch sfx_cX6_readHeldIn_128 22 rfl (by decide +kernel))
theorem dX6_readHeldIn_152 : decode cX6_readHeldIn 152 = .ok (.invokevirtual 157, 3) := dcU2 dO_182 (rdU2.ch sfx_cX6_readHeldIn_128 24 rfl (by decide +kernel))
theorem dX6_readHeldIn_155 : decode cX6_readHeldIn 155 = .ok (.return_, 1) := dc0 dO_177 (rdB.ch sfx_cX6_readHeldIn_128 27 rfl (by decide +kernel))
theorem dX6_readRow_0 : decode cX6_readRow 0 = .ok (.aload_n 0, 1) := dc0 dO_42 (by decide +kernel)
theorem dX6_readRow_1 : decode cX6_readRow 1 = .ok (.getfield 9, 3) := dcU2 dO_180 (by decide +kernel)
theorem dX6_readRow_4 : decode cX6_readRow 4 = .ok (.aload_n 0, 1) := dc0 dO_42 (by decide +kernel)
theorem dX6_readRow_5 : decode cX6_readRow 5 = .ok (.getfield 63, 3) := dcU2 dO_180 (by decide +kernel)
theorem dX6_readRow_8 : decode cX6_readRow 8 = .ok (.iaload, 1) := dc0 dO_46 (by decide +kernel)
theorem dX6_readRow_9 : decode cX6_readRow 9 = .ok (.ifCond .eq 24, 3) := dcS2 dO_153 (by decide +kernel)
theorem dX6_readRow_12 : decode cX6_readRow 12 = .ok (.aload_n 0, 1) := dc0 dO_42 (by decide +kernel)
theorem dX6_readRow_13 : decode cX6_readRow 13 = .ok (.getfield 9, 3) := dcU2 dO_180 (by decide +kernel)
theorem dX6_readRow_16 : decode cX6_readRow 16 = .ok (.aload_n 0, 1) := dc0 dO_42 (by decide +kernel)
theorem dX6_readRow_17 : decode cX6_readRow 17 = .ok (.getfield 63, 3) := dcU2 dO_180 (by decide +kernel)
theorem dX6_readRow_20 : decode cX6_readRow 20 = .ok (.iaload, 1) := dc0 dO_46 (by decide +kernel)
theorem dX6_readRow_21 : decode cX6_readRow 21 = .ok (.invokestatic 127, 3) := dcU2 dO_184 (by decide +kernel)
theorem dX6_readRow_24 : decode cX6_readRow 24 = .ok (.ifCond .ne 9, 3) := dcS2 dO_154 (by decide +kernel)
theorem dX6_readRow_27 : decode cX6_readRow 27 = .ok (.aload_n 0, 1) := dc0 dO_42 (by decide +kernel)
theorem dX6_readRow_28 : decode cX6_readRow 28 = .ok (.iconst 2, 1) := dc0 dO_5 (by decide +kernel)
theorem dX6_readRow_29 : decode cX6_readRow 29 = .ok (.invokevirtual 123, 3) := dcU2 dO_182 (by decide +kernel)
theorem dX6_readRow_32 : decode cX6_readRow 32 = .ok (.return_, 1) := dc0 dO_177 (by decide +kernel)
theorem dX6_readRow_33 : decode cX6_readRow 33 = .ok (.aload_n 0, 1) := dc0 dO_42 (by decide +kernel)
theorem dX6_readRow_34 : decode cX6_readRow 34 = .ok (.getfield 44, 3) := dcU2 dO_180 (by decide +kernel)
theorem dX6_readRow_37 : decode cX6_readRow 37 = .ok (.bipush 30, 2) := dcS1 dO_16 (by decide +kernel)
theorem dX6_readRow_39 : decode cX6_readRow 39 = .ok (.if_icmp .lt 9, 3) := dcS2 dO_161 (by decide +kernel)
theorem dX6_readRow_42 : decode cX6_readRow 42 = .ok (.aload_n 0, 1) := dc0 dO_42 (by decide +kernel)
theorem dX6_readRow_43 : decode cX6_readRow 43 = .ok (.iconst 4, 1) := dc0 dO_7 (by decide +kernel)
theorem dX6_readRow_44 : decode cX6_readRow 44 = .ok (.invokevirtual 123, 3) := dcU2 dO_182 (by decide +kernel)
theorem dX6_readRow_47 : decode cX6_readRow 47 = .ok (.return_, 1) := dc0 dO_177 (by decide +kernel)
theorem dX6_readRow_48 : decode cX6_readRow 48 = .ok (.aload_n 0, 1) := dc0 dO_42 (by decide +kernel)
theorem dX6_readRow_49 : decode cX6_readRow 49 = .ok (.dup, 1) := dc0 dO_89 (by decide +kernel)
theorem dX6_readRow_50 : decode cX6_readRow 50 = .ok (.getfield 44, 3) := dcU2 dO_180 (by decide +kernel)
theorem dX6_readRow_53 : decode cX6_readRow 53 = .ok (.iconst 1, 1) := dc0 dO_4 (by decide +kernel)
theorem dX6_readRow_54 : decode cX6_readRow 54 = .ok (.iadd, 1) := dc0 dO_96 (by decide +kernel)
theorem dX6_readRow_55 : decode cX6_readRow 55 = .ok (.putfield 44, 3) := dcU2 dO_181 (by decide +kernel)
theorem dX6_readRow_58 : decode cX6_readRow 58 = .ok (.aload_n 0, 1) := dc0 dO_42 (by decide +kernel)
theorem dX6_readRow_59 : decode cX6_readRow 59 = .ok (.getfield 47, 3) := dcU2 dO_180 (by decide +kernel)
theorem dX6_readRow_62 : decode cX6_readRow 62 = .ok (.istore_n 1, 1) := dc0 dO_60 (by decide +kernel)
theorem dX6_readRow_63 : decode cX6_readRow 63 = .ok (.aload_n 0, 1) := dc0 dO_42 (by decide +kernel)
theorem dX6_readRow_64 : decode cX6_readRow 64 = .ok (.iconst 0, 1) := dc0 dO_3 (by decide +kernel)
theorem dX6_readRow_65 : decode cX6_readRow 65 = .ok (.invokevirtual 130, 3) := dcU2 dO_182 (by decide +kernel)
theorem dX6_readRow_68 : decode cX6_readRow 68 = .ok (.aload_n 0, 1) := dc0 dO_42 (by decide +kernel)
theorem dX6_readRow_69 : decode cX6_readRow 69 = .ok (.iconst 0, 1) := dc0 dO_3 (by decide +kernel)
theorem dX6_readRow_70 : decode cX6_readRow 70 = .ok (.invokevirtual 130, 3) := dcU2 dO_182 (by decide +kernel)
theorem dX6_readRow_73 : decode cX6_readRow 73 = .ok (.aload_n 0, 1) := dc0 dO_42 (by decide +kernel)
theorem dX6_readRow_74 : decode cX6_readRow 74 = .ok (.iconst 0, 1) := dc0 dO_3 (by decide +kernel)
theorem dX6_readRow_75 : decode cX6_readRow 75 = .ok (.invokevirtual 120, 3) := dcU2 dO_182 (by decide +kernel)
theorem dX6_readRow_78 : decode cX6_readRow 78 = .ok (.istore_n 2, 1) := dc0 dO_61 (by decide +kernel)
theorem dX6_readRow_79 : decode cX6_readRow 79 = .ok (.iload_n 2, 1) := dc0 dO_28 (by decide +kernel)
theorem dX6_readRow_80 : decode cX6_readRow 80 = .ok (.istore_n 3, 1) := dc0 dO_62 (by decide +kernel)
theorem dX6_readRow_81 : decode cX6_readRow 81 = .ok (.iconst 0, 1) := dc0 dO_3 (by decide +kernel)
theorem dX6_readRow_82 : decode cX6_readRow 82 = .ok (.istore 4, 2) := dcU1 dO_54 (by decide +kernel)
theorem dX6_readRow_84 : decode cX6_readRow 84 = .ok (.iload 4, 2) := dcU1 dO_21 (by decide +kernel)
theorem dX6_readRow_86 : decode cX6_readRow 86 = .ok (.sipush 1000, 3) := dcS2 dO_17 (by decide +kernel)
theorem dX6_readRow_89 : decode cX6_readRow 89 = .ok (.if_icmp .ge 33, 3) := dcS2 dO_162 (by decide +kernel)
theorem dX6_readRow_92 : decode cX6_readRow 92 = .ok (.iload_n 3, 1) := dc0 dO_29 (by decide +kernel)
theorem dX6_readRow_93 : decode cX6_readRow 93 = .ok (.ifCond .eq 29, 3) := dcS2 dO_153 (by decide +kernel)
theorem dX6_readRow_96 : decode cX6_readRow 96 = .ok (.aload_n 0, 1) := dc0 dO_42 (by decide +kernel)
theorem dX6_readRow_97 : decode cX6_readRow 97 = .ok (.invokevirtual 133, 3) := dcU2 dO_182 (by decide +kernel)
theorem dX6_readRow_100 : decode cX6_readRow 100 = .ok (.aload_n 0, 1) := dc0 dO_42 (by decide +kernel)
theorem dX6_readRow_101 : decode cX6_readRow 101 = .ok (.getfield 21, 3) := dcU2 dO_180 (by decide +kernel)
theorem dX6_readRow_104 : decode cX6_readRow 104 = .ok (.iload_n 1, 1) := dc0 dO_27 (by decide +kernel)
theorem dX6_readRow_105 : decode cX6_readRow 105 = .ok (.dup2, 1) := dc0 dO_92 (by decide +kernel)
theorem dX6_readRow_106 : decode cX6_readRow 106 = .ok (.iaload, 1) := dc0 dO_46 (by decide +kernel)
theorem dX6_readRow_107 : decode cX6_readRow 107 = .ok (.iconst 1, 1) := dc0 dO_4 (by decide +kernel)
theorem dX6_readRow_108 : decode cX6_readRow 108 = .ok (.iadd, 1) := dc0 dO_96 (by decide +kernel)
theorem dX6_readRow_109 : decode cX6_readRow 109 = .ok (.iastore, 1) := dc0 dO_79 (by decide +kernel)
theorem dX6_readRow_110 : decode cX6_readRow 110 = .ok (.aload_n 0, 1) := dc0 dO_42 (by decide +kernel)
theorem dX6_readRow_111 : decode cX6_readRow 111 = .ok (.iconst 1, 1) := dc0 dO_4 (by decide +kernel)
theorem dX6_readRow_112 : decode cX6_readRow 112 = .ok (.invokevirtual 120, 3) := dcU2 dO_182 (by decide +kernel)
theorem dX6_readRow_115 : decode cX6_readRow 115 = .ok (.istore_n 3, 1) := dc0 dO_62 (by decide +kernel)
theorem dX6_readRow_116 : decode cX6_readRow 116 = .ok (.iinc 4 1, 3) := dcI dO_132 (by decide +kernel)
theorem dX6_readRow_119 : decode cX6_readRow 119 = .ok (.goto (-35), 3) := dcS2 dO_167 (by decide +kernel)
theorem dX6_readRow_122 : decode cX6_readRow 122 = .ok (.iload_n 2, 1) := dc0 dO_28 (by decide +kernel)
theorem dX6_readRow_123 : decode cX6_readRow 123 = .ok (.ifCond .eq 8, 3) := dcS2 dO_153 (by decide +kernel)
theorem dX6_readRow_126 : decode cX6_readRow 126 = .ok (.aload_n 0, 1) := dc0 dO_42 (by decide +kernel)
theorem dX6_readRow_127 : decode cX6_readRow 127 = .ok (.iconst 2, 1) := dc0 dO_5 (by decide +kernel)
theorem sfx_cX6_readRow_128 : (cX6_readRow.data.toList.drop 128).take 67 = [182, 0, 136, 4, 62, 3, 54, 4, 21, 4, 17, 3, 232, 162, 0, 37, 29, 153, 0, 33, 42, 182, 0, 139, 42, 180, 0, 21, 27, 4, 96, 92, 46, 4, 96, 79, 42, 17, 4, 20, 182, 0, 120, 62, 132, 4, 1, 167, 255, 217, 42, 17, 4, 35, 182, 0, 136, 177] := by decide +kernel
theorem dX6_readRow_128 : decode cX6_readRow 128 = .ok (.invokevirtual 136, 3) := dcU2 dO_182 (rdU2.ch sfx_cX6_readRow_128 0 rfl (by decide +kernel))
theorem dX6_readRow_131 : decode cX6_readRow 131 = .ok (.iconst 1, 1) := dc0 dO_4 (rdB.ch sfx_cX6_readRow_128 3 rfl (by decide +kernel))
theorem dX6_readRow_132 : decode cX6_readRow 132 = .ok (.istore_n 3, 1) := dc0 dO_62 (rdB.ch sfx_cX6_readRow_128 4 rfl (by decide +kernel))
theorem dX6_readRow_133 : decode cX6_readRow 133 = .ok (.iconst 0, 1) := dc0 dO_3 (rdB.ch sfx_cX6_readRow_128 5 rfl (by decide +kernel))
theorem dX6_readRow_134 : decode cX6_readRow 134 = .ok (.istore 4, 2) := dcU1 dO_54 (rdU1.ch sfx_cX6_readRow_128 6 rfl (by decide +kernel))
theorem dX6_readRow_136 : decode cX6_readRow 136 = .ok (.iload 4, 2) := dcU1 dO_21 (rdU1.ch sfx_cX6_readRow_128 8 rfl (by decide +kernel))
theorem dX6_readRow_138 : decode cX6_readRow 138 = .ok (.sipush 1000, 3) := dcS2 dO_17 (rdS2.ch sfx_cX6_readRow_128 10 rfl (by decide +kernel))
theorem dX6_readRow_141 : decode cX6_readRow 141 = .ok (.if_icmp .ge 37, 3) := dcS2 dO_162 (rdS2.ch sfx_cX6_readRow_128 13 rfl (by decide +kernel))
theorem dX6_readRow_144 : decode cX6_readRow 144 = .ok (.iload_n 3, 1) := dc0 dO_29 (rdB.ch sfx_cX6_readRow_128 16 rfl (by decide +kernel))
theorem dX6_readRow_145 : decode cX6_readRow 145 = .ok (.ifCond .eq 33, 3) := dcS2 dO_153 (rdS2.ch sfx_cX6_readRow_128 17 rfl (by decide +kernel))
theorem dX6_readRow_148 : decode cX6_readRow 148 = .ok (.aload_n 0, 1) := dc0 dO_42 (rdB.ch sfx_cX6_readRow_128 20 rfl (by decide +kernel))
theorem dX6_readRow_149 : decode cX6_readRow 149 = .ok (.invokevirtual 139, 3) := dcU2 dO_182 (rdU2.ch sfx_cX6_readRow_128 21 rfl (by decide +kernel))
theorem dX6_readRow_152 : decode cX6_readRow 152 = .ok (.aload_n 0, 1) := dc0 dO_42 (rdB.ch sfx_cX6_readRow_128 24 rfl (by decide +kernel))
theorem dX6_readRow_153 : decode cX6_readRow 153 = .ok (.getfield 21, 3) := dcU2 dO_180 (rdU2.ch sfx_cX6_readRow_128 25 rfl (by decide +kernel))
theorem dX6_readRow_156 : decode cX6_readRow 156 = .ok (.iload_n 1, 1) := dc0 dO_27 (rdB.ch sfx_cX6_readRow_128 28 rfl (by decide +kernel))
theorem dX6_readRow_157 : decode cX6_readRow 157 = .ok (.iconst 1, 1) := dc0 dO_4 (rdB.ch sfx_cX6_readRow_128 29 rfl (by decide +kernel))
theorem dX6_readRow_158 : decode cX6_readRow 158 = .ok (.iadd, 1) := dc0 dO_96 (rdB.ch sfx_cX6_readRow_128 30 rfl (by decide +kernel))
theorem dX6_readRow_159 : decode cX6_readRow 159 = .ok (.dup2, 1) := dc0 dO_92 (rdB.ch sfx_cX6_readRow_128 31 rfl (by decide +kernel))
theorem dX6_readRow_160 : decode cX6_readRow 160 = .ok (.iaload, 1) := dc0 dO_46 (rdB.ch sfx_cX6_readRow_128 32 rfl (by decide +kernel))
theorem dX6_readRow_161 : decode cX6_readRow 161 = .ok (.iconst 1, 1) := dc0 dO_4 (rdB.ch sfx_cX6_readRow_128 33 rfl (by decide +kernel))
theorem dX6_readRow_162 : decode cX6_readRow 162 = .ok (.iadd, 1) := dc0 dO_96 (rdB.ch sfx_cX6_readRow_128 34 rfl (by decide +kernel))
theorem dX6_readRow_163 : decode cX6_readRow 163 = .ok (.iastore, 1) := dc0 dO_79 (rdB.ch sfx_cX6_readRow_128 35 rfl (by decide +kernel))
theorem dX6_readRow_164 : decode cX6_readRow 164 = .ok (.aload_n 0, 1) := dc0 dO_42 (rdB.ch sfx_cX6_readRow_128 36 rfl (by decide +kernel))
theorem dX6_readRow_165 : decode cX6_readRow 165 = .ok (.sipush 1044, 3) := dcS2 dO_17 (rdS2.ch sfx_cX6_readRow_128 37 rfl (by decide +kernel))
theorem dX6_readRow_168 : decode cX6_readRow 168 = .ok (.invokevirtual 120, 3) := dcU2 dO_182 (rdU2.ch sfx_cX6_readRow_128 40 rfl (by decide +kernel))
theorem dX6_readRow_171 : decode cX6_readRow 171 = .ok (.istore_n 3, 1) := dc0 dO_62 (rdB.ch sfx_cX6_readRow_128 43 rfl (by decide +kernel))
theorem dX6_readRow_172 : decode cX6_readRow 172 = .ok (.iinc 4 1, 3) := dcI dO_132 (rdI.ch sfx_cX6_readRow_128 44 rfl (by decide +kernel))
theorem dX6_readRow_175 : decode cX6_readRow 175 = .ok (.goto (-39), 3) := dcS2 dO_167 (rdS2.ch sfx_cX6_readRow_128 47 rfl (by decide +kernel))
theorem dX6_readRow_178 : decode cX6_readRow 178 = .ok (.aload_n 0, 1) := dc0 dO_42 (rdB.ch sfx_cX6_readRow_128 50 rfl (by decide +kernel))
theorem dX6_readRow_179 : decode cX6_readRow 179 = .ok (.sipush 1059, 3) := dcS2 dO_17 (rdS2.ch sfx_cX6_readRow_128 51 rfl (by decide +kernel))
theorem dX6_readRow_182 : decode cX6_readRow 182 = .ok (.invokevirtual 136, 3) := dcU2 dO_182 (rdU2.ch sfx_cX6_readRow_128 54 rfl (by decide +kernel))
theorem dX6_readRow_185 : decode cX6_readRow 185 = .ok (.return_, 1) := dc0 dO_177 (rdB.ch sfx_cX6_readRow_128 57 rfl (by decide +kernel))
theorem dX6_readTest_0 : decode cX6_readTest 0 = .ok (.iconst 0, 1) := dc0 dO_3 (by decide +kernel)
theorem dX6_readTest_1 : decode cX6_readTest 1 = .ok (.istore_n 1, 1) := dc0 dO_60 (by decide +kernel)
theorem dX6_readTest_2 : decode cX6_readTest 2 = .ok (.iconst 0, 1) := dc0 dO_3 (by decide +kernel)
theorem dX6_readTest_3 : decode cX6_readTest 3 = .ok (.istore_n 2, 1) := dc0 dO_61 (by decide +kernel)
theorem dX6_readTest_4 : decode cX6_readTest 4 = .ok (.iload_n 2, 1) := dc0 dO_28 (by decide +kernel)
theorem dX6_readTest_5 : decode cX6_readTest 5 = .ok (.sipush 1000, 3) := dcS2 dO_17 (by decide +kernel)
theorem dX6_readTest_8 : decode cX6_readTest 8 = .ok (.if_icmp .ge 21, 3) := dcS2 dO_162 (by decide +kernel)
theorem dX6_readTest_11 : decode cX6_readTest 11 = .ok (.aload_n 0, 1) := dc0 dO_42 (by decide +kernel)
theorem dX6_readTest_12 : decode cX6_readTest 12 = .ok (.iconst 3, 1) := dc0 dO_6 (by decide +kernel)
theorem dX6_readTest_13 : decode cX6_readTest 13 = .ok (.invokevirtual 120, 3) := dcU2 dO_182 (by decide +kernel)
theorem dX6_readTest_16 : decode cX6_readTest 16 = .ok (.ifCond .eq 13, 3) := dcS2 dO_153 (by decide +kernel)
theorem dX6_readTest_19 : decode cX6_readTest 19 = .ok (.iconst 1, 1) := dc0 dO_4 (by decide +kernel)
theorem dX6_readTest_20 : decode cX6_readTest 20 = .ok (.iload_n 1, 1) := dc0 dO_27 (by decide +kernel)
theorem dX6_readTest_21 : decode cX6_readTest 21 = .ok (.isub, 1) := dc0 dO_100 (by decide +kernel)
theorem dX6_readTest_22 : decode cX6_readTest 22 = .ok (.istore_n 1, 1) := dc0 dO_60 (by decide +kernel)
theorem dX6_readTest_23 : decode cX6_readTest 23 = .ok (.iinc 2 1, 3) := dcI dO_132 (by decide +kernel)
theorem dX6_readTest_26 : decode cX6_readTest 26 = .ok (.goto (-22), 3) := dcS2 dO_167 (by decide +kernel)
theorem dX6_readTest_29 : decode cX6_readTest 29 = .ok (.aload_n 0, 1) := dc0 dO_42 (by decide +kernel)
theorem dX6_readTest_30 : decode cX6_readTest 30 = .ok (.getfield 9, 3) := dcU2 dO_180 (by decide +kernel)
theorem dX6_readTest_33 : decode cX6_readTest 33 = .ok (.aload_n 0, 1) := dc0 dO_42 (by decide +kernel)
theorem dX6_readTest_34 : decode cX6_readTest 34 = .ok (.getfield 63, 3) := dcU2 dO_180 (by decide +kernel)
theorem dX6_readTest_37 : decode cX6_readTest 37 = .ok (.iaload, 1) := dc0 dO_46 (by decide +kernel)
theorem dX6_readTest_38 : decode cX6_readTest 38 = .ok (.istore_n 2, 1) := dc0 dO_61 (by decide +kernel)
theorem dX6_readTest_39 : decode cX6_readTest 39 = .ok (.iload_n 2, 1) := dc0 dO_28 (by decide +kernel)
theorem dX6_readTest_40 : decode cX6_readTest 40 = .ok (.invokestatic 148, 3) := dcU2 dO_184 (by decide +kernel)
theorem dX6_readTest_43 : decode cX6_readTest 43 = .ok (.ifCond .ne 9, 3) := dcS2 dO_154 (by decide +kernel)
theorem dX6_readTest_46 : decode cX6_readTest 46 = .ok (.aload_n 0, 1) := dc0 dO_42 (by decide +kernel)
theorem dX6_readTest_47 : decode cX6_readTest 47 = .ok (.iconst 2, 1) := dc0 dO_5 (by decide +kernel)
theorem dX6_readTest_48 : decode cX6_readTest 48 = .ok (.invokevirtual 123, 3) := dcU2 dO_182 (by decide +kernel)
theorem dX6_readTest_51 : decode cX6_readTest 51 = .ok (.return_, 1) := dc0 dO_177 (by decide +kernel)
theorem dX6_readTest_52 : decode cX6_readTest 52 = .ok (.aload_n 0, 1) := dc0 dO_42 (by decide +kernel)
theorem dX6_readTest_53 : decode cX6_readTest 53 = .ok (.invokevirtual 117, 3) := dcU2 dO_182 (by decide +kernel)
theorem dX6_readTest_56 : decode cX6_readTest 56 = .ok (.iload_n 2, 1) := dc0 dO_28 (by decide +kernel)
theorem dX6_readTest_57 : decode cX6_readTest 57 = .ok (.tableswitch 198 4 15 #[63, 198, 71, 198, 79, 97, 132, 198, 176, 198, 115, 154], 63) := by decide +kernel
theorem dX6_readTest_120 : decode cX6_readTest 120 = .ok (.aload_n 0, 1) := dc0 dO_42 (by decide +kernel)
theorem dX6_readTest_121 : decode cX6_readTest 121 = .ok (.iload_n 1, 1) := dc0 dO_27 (by decide +kernel)
theorem dX6_readTest_122 : decode cX6_readTest 122 = .ok (.invokevirtual 151, 3) := dcU2 dO_182 (by decide +kernel)
theorem dX6_readTest_125 : decode cX6_readTest 125 = .ok (.goto 148, 3) := dcS2 dO_167 (by decide +kernel)
theorem sfx_cX6_readTest_128 : (cX6_readTest.data.toList.drop 128).take 67 = [42, 27, 182, 0, 154, 167, 0, 140, 42, 28, 27, 42, 3, 18, 142, 182, 0, 143, 3, 3, 182, 0, 157, 167, 0, 122, 42, 28, 27, 42, 3, 16, 9, 182, 0, 143, 3, 3, 182, 0, 157, 167, 0, 104, 42, 28, 27, 42, 3, 5, 182, 0, 143, 3, 3, 182, 0, 157, 167, 0, 87, 42, 28, 27, 42, 16, 16] := by decide +kernel
theorem dX6_readTest_128 : decode cX6_readTest 128 = .ok (.aload_n 0, 1) := dc0 dO_42 (rdB.ch sfx_cX6_readTest_128 0 rfl (by decide +kernel))
theorem dX6_readTest_129 : decode cX6_readTest 129 = .ok (.iload_n 1, 1) := dc0 dO_27 (rdB.ch sfx_cX6_readTest_128 1 rfl (by decide +kernel))
theorem dX6_readTest_130 : decode cX6_readTest 130 = .ok (.invokevirtual 154, 3) := dcU2 dO_182 (rdU2.ch sfx_cX6_readTest_128 2 rfl (by decide +kernel))
theorem dX6_readTest_133 : decode cX6_readTest 133 = .ok (.goto 140, 3) := dcS2 dO_167 (rdS2.ch sfx_cX6_readTest_128 5 rfl (by decide +kernel))
theorem dX6_readTest_136 : decode cX6_readTest 136 = .ok (.aload_n 0, 1) := dc0 dO_42 (rdB.ch sfx_cX6_readTest_128 8 rfl (by decide +kernel))
theorem dX6_readTest_137 : decode cX6_readTest 137 = .ok (.iload_n 2, 1) := dc0 dO_28 (rdB.ch sfx_cX6_readTest_128 9 rfl (by decide +kernel))
theorem dX6_readTest_138 : decode cX6_readTest 138 = .ok (.iload_n 1, 1) := dc0 dO_27 (rdB.ch sfx_cX6_readTest_128 10 rfl (by decide +kernel))
theorem dX6_readTest_139 : decode cX6_readTest 139 = .ok (.aload_n 0, 1) := dc0 dO_42 (rdB.ch sfx_cX6_readTest_128 11 rfl (by decide +kernel))
theorem dX6_readTest_140 : decode cX6_readTest 140 = .ok (.iconst 0, 1) := dc0 dO_3 (rdB.ch sfx_cX6_readTest_128 12 rfl (by decide +kernel))
theorem dX6_readTest_141 : decode cX6_readTest 141 = .ok (.ldc 142, 2) := dcU1 dO_18 (rdU1.ch sfx_cX6_readTest_128 13 rfl (by decide +kernel))
theorem dX6_readTest_143 : decode cX6_readTest 143 = .ok (.invokevirtual 143, 3) := dcU2 dO_182 (rdU2.ch sfx_cX6_readTest_128 15 rfl (by decide +kernel))
theorem dX6_readTest_146 : decode cX6_readTest 146 = .ok (.iconst 0, 1) := dc0 dO_3 (rdB.ch sfx_cX6_readTest_128 18 rfl (by decide +kernel))
theorem dX6_readTest_147 : decode cX6_readTest 147 = .ok (.iconst 0, 1) := dc0 dO_3 (rdB.ch sfx_cX6_readTest_128 19 rfl (by decide +kernel))
theorem dX6_readTest_148 : decode cX6_readTest 148 = .ok (.invokevirtual 157, 3) := dcU2 dO_182 (rdU2.ch sfx_cX6_readTest_128 20 rfl (by decide +kernel))
theorem dX6_readTest_151 : decode cX6_readTest 151 = .ok (.goto 122, 3) := dcS2 dO_167 (rdS2.ch sfx_cX6_readTest_128 23 rfl (by decide +kernel))
theorem dX6_readTest_154 : decode cX6_readTest 154 = .ok (.aload_n 0, 1) := dc0 dO_42 (rdB.ch sfx_cX6_readTest_128 26 rfl (by decide +kernel))
theorem dX6_readTest_155 : decode cX6_readTest 155 = .ok (.iload_n 2, 1) := dc0 dO_28 (rdB.ch sfx_cX6_readTest_128 27 rfl (by decide +kernel))
theorem dX6_readTest_156 : decode cX6_readTest 156 = .ok (.iload_n 1, 1) := dc0 dO_27 (rdB.ch sfx_cX6_readTest_128 28 rfl (by decide +kernel))
theorem dX6_readTest_157 : decode cX6_readTest 157 = .ok (.aload_n 0, 1) := dc0 dO_42 (rdB.ch sfx_cX6_readTest_128 29 rfl (by decide +kernel))
theorem dX6_readTest_158 : decode cX6_readTest 158 = .ok (.iconst 0, 1) := dc0 dO_3 (rdB.ch sfx_cX6_readTest_128 30 rfl (by decide +kernel))
theorem dX6_readTest_159 : decode cX6_readTest 159 = .ok (.bipush 9, 2) := dcS1 dO_16 (rdS1.ch sfx_cX6_readTest_128 31 rfl (by decide +kernel))
theorem dX6_readTest_161 : decode cX6_readTest 161 = .ok (.invokevirtual 143, 3) := dcU2 dO_182 (rdU2.ch sfx_cX6_readTest_128 33 rfl (by decide +kernel))
theorem dX6_readTest_164 : decode cX6_readTest 164 = .ok (.iconst 0, 1) := dc0 dO_3 (rdB.ch sfx_cX6_readTest_128 36 rfl (by decide +kernel))
theorem dX6_readTest_165 : decode cX6_readTest 165 = .ok (.iconst 0, 1) := dc0 dO_3 (rdB.ch sfx_cX6_readTest_128 37 rfl (by decide +kernel))
theorem dX6_readTest_166 : decode cX6_readTest 166 = .ok (.invokevirtual 157, 3) := dcU2 dO_182 (rdU2.ch sfx_cX6_readTest_128 38 rfl (by decide +kernel))
theorem dX6_readTest_169 : decode cX6_readTest 169 = .ok (.goto 104, 3) := dcS2 dO_167 (rdS2.ch sfx_cX6_readTest_128 41 rfl (by decide +kernel))
theorem dX6_readTest_172 : decode cX6_readTest 172 = .ok (.aload_n 0, 1) := dc0 dO_42 (rdB.ch sfx_cX6_readTest_128 44 rfl (by decide +kernel))
theorem dX6_readTest_173 : decode cX6_readTest 173 = .ok (.iload_n 2, 1) := dc0 dO_28 (rdB.ch sfx_cX6_readTest_128 45 rfl (by decide +kernel))
theorem dX6_readTest_174 : decode cX6_readTest 174 = .ok (.iload_n 1, 1) := dc0 dO_27 (rdB.ch sfx_cX6_readTest_128 46 rfl (by decide +kernel))
theorem dX6_readTest_175 : decode cX6_readTest 175 = .ok (.aload_n 0, 1) := dc0 dO_42 (rdB.ch sfx_cX6_readTest_128 47 rfl (by decide +kernel))
theorem dX6_readTest_176 : decode cX6_readTest 176 = .ok (.iconst 0, 1) := dc0 dO_3 (rdB.ch sfx_cX6_readTest_128 48 rfl (by decide +kernel))
theorem dX6_readTest_177 : decode cX6_readTest 177 = .ok (.iconst 2, 1) := dc0 dO_5 (rdB.ch sfx_cX6_readTest_128 49 rfl (by decide +kernel))
theorem dX6_readTest_178 : decode cX6_readTest 178 = .ok (.invokevirtual 143, 3) := dcU2 dO_182 (rdU2.ch sfx_cX6_readTest_128 50 rfl (by decide +kernel))
theorem dX6_readTest_181 : decode cX6_readTest 181 = .ok (.iconst 0, 1) := dc0 dO_3 (rdB.ch sfx_cX6_readTest_128 53 rfl (by decide +kernel))
theorem dX6_readTest_182 : decode cX6_readTest 182 = .ok (.iconst 0, 1) := dc0 dO_3 (rdB.ch sfx_cX6_readTest_128 54 rfl (by decide +kernel))
theorem dX6_readTest_183 : decode cX6_readTest 183 = .ok (.invokevirtual 157, 3) := dcU2 dO_182 (rdU2.ch sfx_cX6_readTest_128 55 rfl (by decide +kernel))
theorem dX6_readTest_186 : decode cX6_readTest 186 = .ok (.goto 87, 3) := dcS2 dO_167 (rdS2.ch sfx_cX6_readTest_128 58 rfl (by decide +kernel))
theorem dX6_readTest_189 : decode cX6_readTest 189 = .ok (.aload_n 0, 1) := dc0 dO_42 (rdB.ch sfx_cX6_readTest_128 61 rfl (by decide +kernel))
theorem dX6_readTest_190 : decode cX6_readTest 190 = .ok (.iload_n 2, 1) := dc0 dO_28 (rdB.ch sfx_cX6_readTest_128 62 rfl (by decide +kernel))
theorem dX6_readTest_191 : decode cX6_readTest 191 = .ok (.iload_n 1, 1) := dc0 dO_27 (rdB.ch sfx_cX6_readTest_128 63 rfl (by decide +kernel))
theorem sfx_cX6_readTest_192 : (cX6_readTest.data.toList.drop 192).take 67 = [42, 16, 16, 16, 19, 182, 0, 161, 16, 16, 100, 3, 3, 182, 0, 157, 167, 0, 65, 42, 28, 27, 42, 16, 20, 16, 22, 182, 0, 161, 184, 0, 164, 3, 3, 182, 0, 157, 167, 0, 43, 42, 28, 27, 42, 182, 0, 168, 42, 3, 17, 3, 232, 182, 0, 143, 3, 182, 0, 157, 167, 0, 21, 42, 28, 27, 42] := by decide +kernel
theorem dX6_readTest_192 : decode cX6_readTest 192 = .ok (.aload_n 0, 1) := dc0 dO_42 (rdB.ch sfx_cX6_readTest_192 0 rfl (by decide +kernel))
theorem dX6_readTest_193 : decode cX6_readTest 193 = .ok (.bipush 16, 2) := dcS1 dO_16 (rdS1.ch sfx_cX6_readTest_192 1 rfl (by decide +kernel))
theorem dX6_readTest_195 : decode cX6_readTest 195 = .ok (.bipush 19, 2) := dcS1 dO_16 (rdS1.ch sfx_cX6_readTest_192 3 rfl (by decide +kernel))
theorem dX6_readTest_197 : decode cX6_readTest 197 = .ok (.invokevirtual 161, 3) := dcU2 dO_182 (rdU2.ch sfx_cX6_readTest_192 5 rfl (by decide +kernel))
theorem dX6_readTest_200 : decode cX6_readTest 200 = .ok (.bipush 16, 2) := dcS1 dO_16 (rdS1.ch sfx_cX6_readTest_192 8 rfl (by decide +kernel))
theorem dX6_readTest_202 : decode cX6_readTest 202 = .ok (.isub, 1) := dc0 dO_100 (rdB.ch sfx_cX6_readTest_192 10 rfl (by decide +kernel))
theorem dX6_readTest_203 : decode cX6_readTest 203 = .ok (.iconst 0, 1) := dc0 dO_3 (rdB.ch sfx_cX6_readTest_192 11 rfl (by decide +kernel))
theorem dX6_readTest_204 : decode cX6_readTest 204 = .ok (.iconst 0, 1) := dc0 dO_3 (rdB.ch sfx_cX6_readTest_192 12 rfl (by decide +kernel))
theorem dX6_readTest_205 : decode cX6_readTest 205 = .ok (.invokevirtual 157, 3) := dcU2 dO_182 (rdU2.ch sfx_cX6_readTest_192 13 rfl (by decide +kernel))
theorem dX6_readTest_208 : decode cX6_readTest 208 = .ok (.goto 65, 3) := dcS2 dO_167 (rdS2.ch sfx_cX6_readTest_192 16 rfl (by decide +kernel))
theorem dX6_readTest_211 : decode cX6_readTest 211 = .ok (.aload_n 0, 1) := dc0 dO_42 (rdB.ch sfx_cX6_readTest_192 19 rfl (by decide +kernel))
theorem dX6_readTest_212 : decode cX6_readTest 212 = .ok (.iload_n 2, 1) := dc0 dO_28 (rdB.ch sfx_cX6_readTest_192 20 rfl (by decide +kernel))
theorem dX6_readTest_213 : decode cX6_readTest 213 = .ok (.iload_n 1, 1) := dc0 dO_27 (rdB.ch sfx_cX6_readTest_192 21 rfl (by decide +kernel))
theorem dX6_readTest_214 : decode cX6_readTest 214 = .ok (.aload_n 0, 1) := dc0 dO_42 (rdB.ch sfx_cX6_readTest_192 22 rfl (by decide +kernel))
theorem dX6_readTest_215 : decode cX6_readTest 215 = .ok (.bipush 20, 2) := dcS1 dO_16 (rdS1.ch sfx_cX6_readTest_192 23 rfl (by decide +kernel))
theorem dX6_readTest_217 : decode cX6_readTest 217 = .ok (.bipush 22, 2) := dcS1 dO_16 (rdS1.ch sfx_cX6_readTest_192 25 rfl (by decide +kernel))
theorem dX6_readTest_219 : decode cX6_readTest 219 = .ok (.invokevirtual 161, 3) := dcU2 dO_182 (rdU2.ch sfx_cX6_readTest_192 27 rfl (by decide +kernel))
theorem dX6_readTest_222 : decode cX6_readTest 222 = .ok (.invokestatic 164, 3) := dcU2 dO_184 (rdU2.ch sfx_cX6_readTest_192 30 rfl (by decide +kernel))
theorem dX6_readTest_225 : decode cX6_readTest 225 = .ok (.iconst 0, 1) := dc0 dO_3 (rdB.ch sfx_cX6_readTest_192 33 rfl (by decide +kernel))
theorem dX6_readTest_226 : decode cX6_readTest 226 = .ok (.iconst 0, 1) := dc0 dO_3 (rdB.ch sfx_cX6_readTest_192 34 rfl (by decide +kernel))
theorem dX6_readTest_227 : decode cX6_readTest 227 = .ok (.invokevirtual 157, 3) := dcU2 dO_182 (rdU2.ch sfx_cX6_readTest_192 35 rfl (by decide +kernel))
theorem dX6_readTest_230 : decode cX6_readTest 230 = .ok (.goto 43, 3) := dcS2 dO_167 (rdS2.ch sfx_cX6_readTest_192 38 rfl (by decide +kernel))
theorem dX6_readTest_233 : decode cX6_readTest 233 = .ok (.aload_n 0, 1) := dc0 dO_42 (rdB.ch sfx_cX6_readTest_192 41 rfl (by decide +kernel))
theorem dX6_readTest_234 : decode cX6_readTest 234 = .ok (.iload_n 2, 1) := dc0 dO_28 (rdB.ch sfx_cX6_readTest_192 42 rfl (by decide +kernel))
theorem dX6_readTest_235 : decode cX6_readTest 235 = .ok (.iload_n 1, 1) := dc0 dO_27 (rdB.ch sfx_cX6_readTest_192 43 rfl (by decide +kernel))
theorem dX6_readTest_236 : decode cX6_readTest 236 = .ok (.aload_n 0, 1) := dc0 dO_42 (rdB.ch sfx_cX6_readTest_192 44 rfl (by decide +kernel))
theorem dX6_readTest_237 : decode cX6_readTest 237 = .ok (.invokevirtual 168, 3) := dcU2 dO_182 (rdU2.ch sfx_cX6_readTest_192 45 rfl (by decide +kernel))
theorem dX6_readTest_240 : decode cX6_readTest 240 = .ok (.aload_n 0, 1) := dc0 dO_42 (rdB.ch sfx_cX6_readTest_192 48 rfl (by decide +kernel))
theorem dX6_readTest_241 : decode cX6_readTest 241 = .ok (.iconst 0, 1) := dc0 dO_3 (rdB.ch sfx_cX6_readTest_192 49 rfl (by decide +kernel))
theorem dX6_readTest_242 : decode cX6_readTest 242 = .ok (.sipush 1000, 3) := dcS2 dO_17 (rdS2.ch sfx_cX6_readTest_192 50 rfl (by decide +kernel))
theorem dX6_readTest_245 : decode cX6_readTest 245 = .ok (.invokevirtual 143, 3) := dcU2 dO_182 (rdU2.ch sfx_cX6_readTest_192 53 rfl (by decide +kernel))
theorem dX6_readTest_248 : decode cX6_readTest 248 = .ok (.iconst 0, 1) := dc0 dO_3 (rdB.ch sfx_cX6_readTest_192 56 rfl (by decide +kernel))
theorem dX6_readTest_249 : decode cX6_readTest 249 = .ok (.invokevirtual 157, 3) := dcU2 dO_182 (rdU2.ch sfx_cX6_readTest_192 57 rfl (by decide +kernel))
theorem dX6_readTest_252 : decode cX6_readTest 252 = .ok (.goto 21, 3) := dcS2 dO_167 (rdS2.ch sfx_cX6_readTest_192 60 rfl (by decide +kernel))
theorem dX6_readTest_255 : decode cX6_readTest 255 = .ok (.aload_n 0, 1) := dc0 dO_42 (rdB.ch sfx_cX6_readTest_192 63 rfl (by decide +kernel))
theorem sfx_cX6_readTest_256 : (cX6_readTest.data.toList.drop 256).take 67 = [28, 27, 42, 182, 0, 168, 42, 3, 18, 147, 182, 0, 143, 3, 182, 0, 157, 177] := by decide +kernel
theorem dX6_readTest_256 : decode cX6_readTest 256 = .ok (.iload_n 2, 1) := dc0 dO_28 (rdB.ch sfx_cX6_readTest_256 0 rfl (by decide +kernel))
theorem dX6_readTest_257 : decode cX6_readTest 257 = .ok (.iload_n 1, 1) := dc0 dO_27 (rdB.ch sfx_cX6_readTest_256 1 rfl (by decide +kernel))
theorem dX6_readTest_258 : decode cX6_readTest 258 = .ok (.aload_n 0, 1) := dc0 dO_42 (rdB.ch sfx_cX6_readTest_256 2 rfl (by decide +kernel))
theorem dX6_readTest_259 : decode cX6_readTest 259 = .ok (.invokevirtual 168, 3) := dcU2 dO_182 (rdU2.ch sfx_cX6_readTest_256 3 rfl (by decide +kernel))
theorem dX6_readTest_262 : decode cX6_readTest 262 = .ok (.aload_n 0, 1) := dc0 dO_42 (rdB.ch sfx_cX6_readTest_256 6 rfl (by decide +kernel))
theorem dX6_readTest_263 : decode cX6_readTest 263 = .ok (.iconst 0, 1) := dc0 dO_3 (rdB.ch sfx_cX6_readTest_256 7 rfl (by decide +kernel))
theorem dX6_readTest_264 : decode cX6_readTest 264 = .ok (.ldc 147, 2) := dcU1 dO_18 (rdU1.ch sfx_cX6_readTest_256 8 rfl (by decide +kernel))
theorem dX6_readTest_266 : decode cX6_readTest 266 = .ok (.invokevirtual 143, 3) := dcU2 dO_182 (rdU2.ch sfx_cX6_readTest_256 10 rfl (by decide +kernel))
theorem dX6_readTest_269 : decode cX6_readTest 269 = .ok (.iconst 0, 1) := dc0 dO_3 (rdB.ch sfx_cX6_readTest_256 13 rfl (by decide +kernel))
theorem dX6_readTest_270 : decode cX6_readTest 270 = .ok (.invokevirtual 157, 3) := dcU2 dO_182 (rdU2.ch sfx_cX6_readTest_256 14 rfl (by decide +kernel))
theorem dX6_readTest_273 : decode cX6_readTest 273 = .ok (.return_, 1) := dc0 dO_177 (rdB.ch sfx_cX6_readTest_256 17 rfl (by decide +kernel))
theorem dX6_readWay_0 : decode cX6_readWay 0 = .ok (.aload_n 0, 1) := dc0 dO_42 (by decide +kernel)
theorem dX6_readWay_1 : decode cX6_readWay 1 = .ok (.sipush 1040, 3) := dcS2 dO_17 (by decide +kernel)
theorem dX6_readWay_4 : decode cX6_readWay 4 = .ok (.invokevirtual 136, 3) := dcU2 dO_182 (by decide +kernel)
theorem dX6_readWay_7 : decode cX6_readWay 7 = .ok (.aload_n 0, 1) := dc0 dO_42 (by decide +kernel)
theorem dX6_readWay_8 : decode cX6_readWay 8 = .ok (.iconst 1, 1) := dc0 dO_4 (by decide +kernel)
theorem dX6_readWay_9 : decode cX6_readWay 9 = .ok (.invokevirtual 176, 3) := dcU2 dO_182 (by decide +kernel)
theorem dX6_readWay_12 : decode cX6_readWay 12 = .ok (.aload_n 0, 1) := dc0 dO_42 (by decide +kernel)
theorem dX6_readWay_13 : decode cX6_readWay 13 = .ok (.sipush 1041, 3) := dcS2 dO_17 (by decide +kernel)
theorem dX6_readWay_16 : decode cX6_readWay 16 = .ok (.invokevirtual 136, 3) := dcU2 dO_182 (by decide +kernel)
theorem dX6_readWay_19 : decode cX6_readWay 19 = .ok (.aload_n 0, 1) := dc0 dO_42 (by decide +kernel)
theorem dX6_readWay_20 : decode cX6_readWay 20 = .ok (.getfield 53, 3) := dcU2 dO_180 (by decide +kernel)
theorem dX6_readWay_23 : decode cX6_readWay 23 = .ok (.sipush 250, 3) := dcS2 dO_17 (by decide +kernel)
theorem dX6_readWay_26 : decode cX6_readWay 26 = .ok (.if_icmp .ge 63, 3) := dcS2 dO_162 (by decide +kernel)
theorem dX6_readWay_29 : decode cX6_readWay 29 = .ok (.aload_n 0, 1) := dc0 dO_42 (by decide +kernel)
theorem dX6_readWay_30 : decode cX6_readWay 30 = .ok (.getfield 31, 3) := dcU2 dO_180 (by decide +kernel)
theorem dX6_readWay_33 : decode cX6_readWay 33 = .ok (.aload_n 0, 1) := dc0 dO_42 (by decide +kernel)
theorem dX6_readWay_34 : decode cX6_readWay 34 = .ok (.getfield 53, 3) := dcU2 dO_180 (by decide +kernel)
theorem dX6_readWay_37 : decode cX6_readWay 37 = .ok (.aload_n 0, 1) := dc0 dO_42 (by decide +kernel)
theorem dX6_readWay_38 : decode cX6_readWay 38 = .ok (.getfield 179, 3) := dcU2 dO_180 (by decide +kernel)
theorem dX6_readWay_41 : decode cX6_readWay 41 = .ok (.lastore, 1) := dc0 dO_80 (by decide +kernel)
theorem dX6_readWay_42 : decode cX6_readWay 42 = .ok (.aload_n 0, 1) := dc0 dO_42 (by decide +kernel)
theorem dX6_readWay_43 : decode cX6_readWay 43 = .ok (.getfield 34, 3) := dcU2 dO_180 (by decide +kernel)
theorem dX6_readWay_46 : decode cX6_readWay 46 = .ok (.aload_n 0, 1) := dc0 dO_42 (by decide +kernel)
theorem dX6_readWay_47 : decode cX6_readWay 47 = .ok (.getfield 53, 3) := dcU2 dO_180 (by decide +kernel)
theorem dX6_readWay_50 : decode cX6_readWay 50 = .ok (.aload_n 0, 1) := dc0 dO_42 (by decide +kernel)
theorem dX6_readWay_51 : decode cX6_readWay 51 = .ok (.getfield 183, 3) := dcU2 dO_180 (by decide +kernel)
theorem dX6_readWay_54 : decode cX6_readWay 54 = .ok (.lastore, 1) := dc0 dO_80 (by decide +kernel)
theorem dX6_readWay_55 : decode cX6_readWay 55 = .ok (.aload_n 0, 1) := dc0 dO_42 (by decide +kernel)
theorem dX6_readWay_56 : decode cX6_readWay 56 = .ok (.bipush 6, 2) := dcS1 dO_16 (by decide +kernel)
theorem dX6_readWay_58 : decode cX6_readWay 58 = .ok (.iload_n 1, 1) := dc0 dO_27 (by decide +kernel)
theorem dX6_readWay_59 : decode cX6_readWay 59 = .ok (.aload_n 0, 1) := dc0 dO_42 (by decide +kernel)
theorem dX6_readWay_60 : decode cX6_readWay 60 = .ok (.getfield 53, 3) := dcU2 dO_180 (by decide +kernel)
theorem dX6_readWay_63 : decode cX6_readWay 63 = .ok (.aload_n 0, 1) := dc0 dO_42 (by decide +kernel)
theorem dX6_readWay_64 : decode cX6_readWay 64 = .ok (.getfield 186, 3) := dcU2 dO_180 (by decide +kernel)
theorem dX6_readWay_67 : decode cX6_readWay 67 = .ok (.ifCond .eq 7, 3) := dcS2 dO_153 (by decide +kernel)
theorem dX6_readWay_70 : decode cX6_readWay 70 = .ok (.iconst 1, 1) := dc0 dO_4 (by decide +kernel)
theorem dX6_readWay_71 : decode cX6_readWay 71 = .ok (.goto 4, 3) := dcS2 dO_167 (by decide +kernel)
theorem dX6_readWay_74 : decode cX6_readWay 74 = .ok (.iconst 0, 1) := dc0 dO_3 (by decide +kernel)
theorem dX6_readWay_75 : decode cX6_readWay 75 = .ok (.iconst 0, 1) := dc0 dO_3 (by decide +kernel)
theorem dX6_readWay_76 : decode cX6_readWay 76 = .ok (.invokevirtual 157, 3) := dcU2 dO_182 (by decide +kernel)
theorem dX6_readWay_79 : decode cX6_readWay 79 = .ok (.aload_n 0, 1) := dc0 dO_42 (by decide +kernel)
theorem dX6_readWay_80 : decode cX6_readWay 80 = .ok (.dup, 1) := dc0 dO_89 (by decide +kernel)
theorem dX6_readWay_81 : decode cX6_readWay 81 = .ok (.getfield 53, 3) := dcU2 dO_180 (by decide +kernel)
theorem dX6_readWay_84 : decode cX6_readWay 84 = .ok (.iconst 1, 1) := dc0 dO_4 (by decide +kernel)
theorem dX6_readWay_85 : decode cX6_readWay 85 = .ok (.iadd, 1) := dc0 dO_96 (by decide +kernel)
theorem dX6_readWay_86 : decode cX6_readWay 86 = .ok (.putfield 53, 3) := dcU2 dO_181 (by decide +kernel)
theorem dX6_readWay_89 : decode cX6_readWay 89 = .ok (.return_, 1) := dc0 dO_177 (by decide +kernel)
end
section
/-! no rows -/
end
section
/-! no rows -/
end
section
/-! no rows -/
end
section
/-! no rows -/
end
section
/-! A copy whose numbers are known to be small only where they are read. -/
section MV24
variable {g : sG} {M : sM} {R : Room} {Z : sZT} {pc : Nat} {lv : List (Nat × Value)} {st : List Value} {hp : sHp} {w : mW} {μ : mM} {ce sl : Nat}
theorem mr_acR {index a0 a s0 s1 : Nat} {cA : ClassId} {sp dp n : Int} (hd : decode M.2.1 pc = .ok (.invokestatic index, 3)) (hlk : Cond.methodLink M.1.cls index arraycopyName ∈ sg_ws g) (hw1 : Cond.native arraycopyName ∈ sg_ws g) (hw2 : Cond.static arraycopyName ∈ sg_ws g) (hw3 : Cond.initialized "java/lang/System" ∈ sg_ws g) (ht : g.2.2.1[0]? = some (cA, .int)) (hA0 : mAt w a0 s0) (hs0 : mTab s0 = .inr (0, 0)) (hA : mAt w a s1) (hs1 : mTab s1 = .inr (0, 0)) (h1 : 0 ≤ sp) (h2 : 0 ≤ dp) (h3 : 0 ≤ n) (h4 : sp + n ≤ (w.2.2.1 a0 : Int)) (h5 : dp + n ≤ (w.2.2.1 a : Int)) (hb0 : w.2.2.1 a0 ≤ 2147483647) (hb : w.2.2.1 a ≤ 2147483647) (hfr : 1 ≤ R.frames) (hlo : nativeFrameWords "java/lang/System" "arraycopy" 5 + 19 ≤ R.locals) (hr8 : (st.map fun v => v.category).sum ≤ 8) (hT : mT w μ) (hty : ∀ i j : Nat, sp ≤ (i : Int) → (i : Int) < sp + n → dp ≤ (j : Int) → (j : Int) < dp + n → tyP w a j (mTy s1 j) (μ a0 i))
    (kk : ∀ μ1, mQ μ a0 a sp dp n μ1 → mT w μ1 → sV g M R Z (pc + 3) lv st (mk w μ1) ce sl) : sV g M R Z pc lv (iv n :: iv dp :: .ref a :: iv sp :: .ref a0 :: st) (mk w μ) ce sl := by
  have e1 := iv_natE (e := sp) ⟨h1, by omega⟩
  have e2 := iv_natE (e := dp) ⟨h2, by omega⟩
  have e3 := iv_natE (e := n) ⟨h3, by omega⟩
  refine sv_copyI (hf := (mk w μ).2) (hn := (mk w μ).1) (q := fun i => Int32.ofInt (μ a0 i)) (q' := fun i => Int32.ofInt (μ a i)) hd hlk hw1 hw2 hw3 ht hA0.2.1 hA.2.1 (mk_arr hA0 hs0) (mk_arr hA hs1) (iv_nn ⟨h1, by omega⟩) (iv_nn ⟨h2, by omega⟩) (iv_nn ⟨h3, by omega⟩) (by rw [e1, e3]; omega) (by rw [e2, e3]; omega) hfr hlo hr8 ?_
  rw [e1, e2, e3]
  refine sv_heap (hp' := mk w (mCp μ a0 a sp.toNat dp.toNat n.toNat)) rfl (fun j _ => ?_) (kk _ ⟨fun b j hb => if_neg hb, fun j => ?_⟩ ?_)
  · show sUp (mk w μ).2 a _ j = (mk w (mCp μ a0 a sp.toNat dp.toNat n.toNat)).2 j
    by_cases h : j = a
    · subst h
      rw [sUp_at, mk_arr hA hs1]
      congr 3
      funext i
      simp only [sI, va_cpy, mv, iv, mCp, if_true]
      split <;> rfl
    · rw [sUp_ne _ _ h]
      have : mCp μ a0 a sp.toNat dp.toNat n.toNat j = μ j := by funext i; simp only [mCp, if_neg h]
      simp only [mk, this]
  · simp only [mCp, if_true]
    by_cases q : dp ≤ (j : Int) ∧ (j : Int) < dp + n
    · rw [if_pos q, if_pos (by omega)]
    · rw [if_neg q, if_neg (by omega)]
  · intro b t hB i
    by_cases h : b = a
    · subst h
      have hst : t = s1 := hB.1.symm.trans hA.1
      subst hst
      simp only [mCp, if_true]
      split
      next q => exact hty _ i (by omega) (by omega) (by omega) (by omega)
      next q => exact hT b t hB i
    · have : mCp μ a0 a sp.toNat dp.toNat n.toNat b i = μ b i := by simp only [mCp, if_neg h]
      rw [this]; exact hT b t hB i
end MV24
end
section
/-! The String of the words, as numbers. -/
def wsZ (x : Int) : Int := ((wsN.getD x.toNat 0 : Nat) : Int)
section STRM
variable {l : Launch} {D : va_G} {c : Nat → ClassId} {H0 : Heap} {sa : Nat × Nat × (Nat → Int32)} {M : sM} {R : Room} {Z : sZT} {pc : Nat} {lv : List (Nat × Value)} {st : List Value} {hp : sHp} {ce sl : Nat}
theorem mr_strlen (hd : decode M.2.1 pc = .ok (.ldc 105, 2)) (hd2 : decode M.2.1 (pc + 2) = .ok (.invokevirtual 107, 3)) (hM : M.1.cls = RX6) (hR : 4 ≤ R.frames ∧ 200 ≤ R.locals) (hf : ce ≤ R.cells ∧ sl ≤ R.slots) (hr8 : (st.map fun v => v.category).sum ≤ 8)
    (kk : sV (gG l D c H0 sa) M R Z (pc + 5) lv (iv 147 :: st) hp ce sl) : sV (gG l D c H0 sa) M R Z pc lv st hp ce sl := by
  refine sv_ldcS hM hd ?_
  refine sv_callVS (pc := pc + 2) (M' := mJ_slen) (d' := 3) (C' := 0) (S' := 0) (av := []) (st := st) (c_slen (Nat.le_refl _)) (gOk l D c H0 sa) hd2 (tJ_slen l D c H0 sa) ⟨wV_String_length___I, wL_String_length___I⟩ (by rw [hM]; exact wM_X6_107) rfl ⟨hR.1, hR.2⟩ hf rfl hr8 ?_
  rintro r hp' ⟨rfl, rfl⟩
  exact kk
theorem mr_strchrV {i : Nat} {x : Int} (hd : decode M.2.1 pc = .ok (.ldc 105, 2)) (hdi : decode M.2.1 (pc + 2) = .ok (.iload i, 2)) (hd2 : decode M.2.1 (pc + 4) = .ok (.invokevirtual 113, 3)) (hM : M.1.cls = RX6) (hg : sGet i lv = some (iv x)) (hx : 0 ≤ x ∧ x ≤ 146) (hR : 8 ≤ R.frames ∧ 441 ≤ R.locals) (hf : ce ≤ R.cells ∧ sl ≤ R.slots) (hr8 : (st.map fun v => v.category).sum ≤ 8)
    (kk : ∀ z : Int, 0 ≤ z ∧ z ≤ 255 ∧ z = wsZ x → sV (gG l D c H0 sa) M R Z (pc + 7) lv (iv z :: st) hp ce sl) : sV (gG l D c H0 sa) M R Z pc lv st hp ce sl := by
  refine sv_ldcS hM hd ?_
  refine sv_iload (pc := pc + 2) hdi hg ?_
  have h0 : ¬ Int32.ofInt x < 0 := fun q => by
    have q : Int32.ofInt x < Int32.ofInt 0 := q
    rw [iv_lt (by omega) (by omega)] at q; omega
  have h1 : Int32.ofInt x < 147 := by
    have : Int32.ofInt x < Int32.ofInt 147 := (iv_lt (by omega) (by omega)).mpr (by omega)
    exact this
  refine sv_callVS (pc := pc + 2 + 2) (M' := mJ_schr) (d' := 7) (C' := 0) (S' := 0) (av := [iv x]) (st := st) (c_schr (Nat.le_refl _) h0 h1) (gOk l D c H0 sa) hd2 (tJ_schr l D c H0 sa) ⟨wV_String_charAt__I_C, wL_String_charAt__I_C⟩ (by rw [hM]; exact wM_X6_113) rfl ⟨hR.1, hR.2⟩ hf rfl hr8 ?_
  rintro r hp' ⟨rfl, rfl⟩
  have ex : (Int32.ofInt x).toNatClampNeg = x.toNat := by
    show (Int32.ofInt x).toInt.toNat = x.toNat
    rw [ivI (by omega)]
  rw [ex]
  have hb : wsN.getD x.toNat 0 < 256 := (ws_and ⟨x.toNat, by omega⟩).2
  have e : Value.int (nI (wsN.getD x.toNat 0)) = iv (wsZ x) := by
    show Value.int (Int32.ofNat (wsN.getD x.toNat 0)) = Value.int (Int32.ofInt ((wsN.getD x.toNat 0 : Nat) : Int))
    exact congrArg Value.int Int32.ofInt_eq_ofNat.symm
  show sV (gG l D c H0 sa) M R Z (pc + 7) lv (.int (nI (wsN.getD x.toNat 0)) :: st) hp' ce sl
  rw [e]
  exact kk _ ⟨by unfold wsZ; omega, by unfold wsZ; omega, rfl⟩
theorem mr_strchr {i : Nat} {x : Int} (hd : decode M.2.1 pc = .ok (.ldc 105, 2)) (hdi : decode M.2.1 (pc + 2) = .ok (.iload i, 2)) (hd2 : decode M.2.1 (pc + 4) = .ok (.invokevirtual 113, 3)) (hM : M.1.cls = RX6) (hg : sGet i lv = some (iv x)) (hx : 0 ≤ x ∧ x ≤ 146) (hR : 8 ≤ R.frames ∧ 441 ≤ R.locals) (hf : ce ≤ R.cells ∧ sl ≤ R.slots) (hr8 : (st.map fun v => v.category).sum ≤ 8)
    (kk : ∀ z : Int, 0 ≤ z ∧ z ≤ 255 → sV (gG l D c H0 sa) M R Z (pc + 7) lv (iv z :: st) hp ce sl) : sV (gG l D c H0 sa) M R Z pc lv st hp ce sl := mr_strchrV hd hdi hd2 hM hg hx hR hf hr8 (fun z h => kk z ⟨h.1, h.2.1⟩)
end STRM
end
section
theorem dX11_wish_0 : decode cX11_wish 0 = .ok (.aload_n 0, 1) := dc0 dO_42 (by decide +kernel)
theorem dX11_wish_1 : decode cX11_wish 1 = .ok (.getfield 13, 3) := dcU2 dO_180 (by decide +kernel)
theorem dX11_wish_4 : decode cX11_wish 4 = .ok (.aload_n 0, 1) := dc0 dO_42 (by decide +kernel)
theorem dX11_wish_5 : decode cX11_wish 5 = .ok (.getfield 169, 3) := dcU2 dO_180 (by decide +kernel)
theorem dX11_wish_8 : decode cX11_wish 8 = .ok (.invokestatic 397, 3) := dcU2 dO_184 (by decide +kernel)
theorem dX11_wish_11 : decode cX11_wish 11 = .ok (.ifCond .ne 5, 3) := dcS2 dO_154 (by decide +kernel)
theorem dX11_wish_14 : decode cX11_wish 14 = .ok (.iconst (-1), 1) := dc0 dO_2 (by decide +kernel)
theorem dX11_wish_15 : decode cX11_wish 15 = .ok (.ireturn, 1) := dc0 dO_172 (by decide +kernel)
theorem dX11_wish_16 : decode cX11_wish 16 = .ok (.aload_n 0, 1) := dc0 dO_42 (by decide +kernel)
theorem dX11_wish_17 : decode cX11_wish 17 = .ok (.getfield 72, 3) := dcU2 dO_180 (by decide +kernel)
theorem dX11_wish_20 : decode cX11_wish 20 = .ok (.aload_n 0, 1) := dc0 dO_42 (by decide +kernel)
theorem dX11_wish_21 : decode cX11_wish 21 = .ok (.getfield 13, 3) := dcU2 dO_180 (by decide +kernel)
theorem dX11_wish_24 : decode cX11_wish 24 = .ok (.iconst 0, 1) := dc0 dO_3 (by decide +kernel)
theorem dX11_wish_25 : decode cX11_wish 25 = .ok (.aload_n 0, 1) := dc0 dO_42 (by decide +kernel)
theorem dX11_wish_26 : decode cX11_wish 26 = .ok (.getfield 169, 3) := dcU2 dO_180 (by decide +kernel)
theorem dX11_wish_29 : decode cX11_wish 29 = .ok (.invokevirtual 401, 3) := dcU2 dO_182 (by decide +kernel)
theorem dX11_wish_32 : decode cX11_wish 32 = .ok (.ifCond .lt 6, 3) := dcS2 dO_155 (by decide +kernel)
theorem dX11_wish_35 : decode cX11_wish 35 = .ok (.bipush (-2), 2) := dcS1 dO_16 (by decide +kernel)
theorem dX11_wish_37 : decode cX11_wish 37 = .ok (.ireturn, 1) := dc0 dO_172 (by decide +kernel)
theorem dX11_wish_38 : decode cX11_wish 38 = .ok (.aload_n 0, 1) := dc0 dO_42 (by decide +kernel)
theorem dX11_wish_39 : decode cX11_wish 39 = .ok (.getfield 72, 3) := dcU2 dO_180 (by decide +kernel)
theorem dX11_wish_42 : decode cX11_wish 42 = .ok (.getfield 405, 3) := dcU2 dO_180 (by decide +kernel)
theorem dX11_wish_45 : decode cX11_wish 45 = .ok (.aload_n 0, 1) := dc0 dO_42 (by decide +kernel)
theorem dX11_wish_46 : decode cX11_wish 46 = .ok (.getfield 13, 3) := dcU2 dO_180 (by decide +kernel)
theorem dX11_wish_49 : decode cX11_wish 49 = .ok (.iconst 0, 1) := dc0 dO_3 (by decide +kernel)
theorem dX11_wish_50 : decode cX11_wish 50 = .ok (.iaload, 1) := dc0 dO_46 (by decide +kernel)
theorem dX11_wish_51 : decode cX11_wish 51 = .ok (.iaload, 1) := dc0 dO_46 (by decide +kernel)
theorem dX11_wish_52 : decode cX11_wish 52 = .ok (.iconst 5, 1) := dc0 dO_8 (by decide +kernel)
theorem dX11_wish_53 : decode cX11_wish 53 = .ok (.if_icmp .lt 6, 3) := dcS2 dO_161 (by decide +kernel)
theorem dX11_wish_56 : decode cX11_wish 56 = .ok (.bipush (-3), 2) := dcS1 dO_16 (by decide +kernel)
theorem dX11_wish_58 : decode cX11_wish 58 = .ok (.ireturn, 1) := dc0 dO_172 (by decide +kernel)
theorem dX11_wish_59 : decode cX11_wish 59 = .ok (.aload_n 0, 1) := dc0 dO_42 (by decide +kernel)
theorem dX11_wish_60 : decode cX11_wish 60 = .ok (.getfield 72, 3) := dcU2 dO_180 (by decide +kernel)
theorem dX11_wish_63 : decode cX11_wish 63 = .ok (.aload_n 0, 1) := dc0 dO_42 (by decide +kernel)
theorem dX11_wish_64 : decode cX11_wish 64 = .ok (.getfield 13, 3) := dcU2 dO_180 (by decide +kernel)
theorem dX11_wish_67 : decode cX11_wish 67 = .ok (.aload_n 0, 1) := dc0 dO_42 (by decide +kernel)
theorem dX11_wish_68 : decode cX11_wish 68 = .ok (.getfield 169, 3) := dcU2 dO_180 (by decide +kernel)
theorem dX11_wish_71 : decode cX11_wish 71 = .ok (.invokevirtual 408, 3) := dcU2 dO_182 (by decide +kernel)
theorem dX11_wish_74 : decode cX11_wish 74 = .ok (.ireturn, 1) := dc0 dO_172 (by decide +kernel)
theorem dX4_addWish_0 : decode cX4_addWish 0 = .ok (.aload_n 1, 1) := dc0 dO_43 (by decide +kernel)
theorem dX4_addWish_1 : decode cX4_addWish 1 = .ok (.iconst 0, 1) := dc0 dO_3 (by decide +kernel)
theorem dX4_addWish_2 : decode cX4_addWish 2 = .ok (.iaload, 1) := dc0 dO_46 (by decide +kernel)
theorem dX4_addWish_3 : decode cX4_addWish 3 = .ok (.istore_n 3, 1) := dc0 dO_62 (by decide +kernel)
theorem dX4_addWish_4 : decode cX4_addWish 4 = .ok (.iload_n 3, 1) := dc0 dO_29 (by decide +kernel)
theorem dX4_addWish_5 : decode cX4_addWish 5 = .ok (.iconst 5, 1) := dc0 dO_8 (by decide +kernel)
theorem dX4_addWish_6 : decode cX4_addWish 6 = .ok (.imul, 1) := dc0 dO_104 (by decide +kernel)
theorem dX4_addWish_7 : decode cX4_addWish 7 = .ok (.aload_n 0, 1) := dc0 dO_42 (by decide +kernel)
theorem dX4_addWish_8 : decode cX4_addWish 8 = .ok (.getfield 11, 3) := dcU2 dO_180 (by decide +kernel)
theorem dX4_addWish_11 : decode cX4_addWish 11 = .ok (.iload_n 3, 1) := dc0 dO_29 (by decide +kernel)
theorem dX4_addWish_12 : decode cX4_addWish 12 = .ok (.iaload, 1) := dc0 dO_46 (by decide +kernel)
theorem dX4_addWish_13 : decode cX4_addWish 13 = .ok (.iadd, 1) := dc0 dO_96 (by decide +kernel)
theorem dX4_addWish_14 : decode cX4_addWish 14 = .ok (.istore 4, 2) := dcU1 dO_54 (by decide +kernel)
theorem dX4_addWish_16 : decode cX4_addWish 16 = .ok (.aload_n 1, 1) := dc0 dO_43 (by decide +kernel)
theorem dX4_addWish_17 : decode cX4_addWish 17 = .ok (.iconst 0, 1) := dc0 dO_3 (by decide +kernel)
theorem dX4_addWish_18 : decode cX4_addWish 18 = .ok (.aload_n 0, 1) := dc0 dO_42 (by decide +kernel)
theorem dX4_addWish_19 : decode cX4_addWish 19 = .ok (.getfield 15, 3) := dcU2 dO_180 (by decide +kernel)
theorem dX4_addWish_22 : decode cX4_addWish 22 = .ok (.iload 4, 2) := dcU1 dO_21 (by decide +kernel)
theorem dX4_addWish_24 : decode cX4_addWish 24 = .ok (.bipush 7, 2) := dcS1 dO_16 (by decide +kernel)
theorem dX4_addWish_26 : decode cX4_addWish 26 = .ok (.imul, 1) := dc0 dO_104 (by decide +kernel)
theorem dX4_addWish_27 : decode cX4_addWish 27 = .ok (.iload_n 2, 1) := dc0 dO_28 (by decide +kernel)
theorem dX4_addWish_28 : decode cX4_addWish 28 = .ok (.invokestatic 46, 3) := dcU2 dO_184 (by decide +kernel)
theorem dX4_addWish_31 : decode cX4_addWish 31 = .ok (.aload_n 0, 1) := dc0 dO_42 (by decide +kernel)
theorem dX4_addWish_32 : decode cX4_addWish 32 = .ok (.getfield 18, 3) := dcU2 dO_180 (by decide +kernel)
theorem dX4_addWish_35 : decode cX4_addWish 35 = .ok (.iload 4, 2) := dcU1 dO_21 (by decide +kernel)
theorem dX4_addWish_37 : decode cX4_addWish 37 = .ok (.iload_n 2, 1) := dc0 dO_28 (by decide +kernel)
theorem dX4_addWish_38 : decode cX4_addWish 38 = .ok (.iastore, 1) := dc0 dO_79 (by decide +kernel)
theorem dX4_addWish_39 : decode cX4_addWish 39 = .ok (.aload_n 0, 1) := dc0 dO_42 (by decide +kernel)
theorem dX4_addWish_40 : decode cX4_addWish 40 = .ok (.getfield 11, 3) := dcU2 dO_180 (by decide +kernel)
theorem dX4_addWish_43 : decode cX4_addWish 43 = .ok (.iload_n 3, 1) := dc0 dO_29 (by decide +kernel)
theorem dX4_addWish_44 : decode cX4_addWish 44 = .ok (.dup2, 1) := dc0 dO_92 (by decide +kernel)
theorem dX4_addWish_45 : decode cX4_addWish 45 = .ok (.iaload, 1) := dc0 dO_46 (by decide +kernel)
theorem dX4_addWish_46 : decode cX4_addWish 46 = .ok (.iconst 1, 1) := dc0 dO_4 (by decide +kernel)
theorem dX4_addWish_47 : decode cX4_addWish 47 = .ok (.iadd, 1) := dc0 dO_96 (by decide +kernel)
theorem dX4_addWish_48 : decode cX4_addWish 48 = .ok (.iastore, 1) := dc0 dO_79 (by decide +kernel)
theorem dX4_addWish_49 : decode cX4_addWish 49 = .ok (.aload_n 0, 1) := dc0 dO_42 (by decide +kernel)
theorem dX4_addWish_50 : decode cX4_addWish 50 = .ok (.iconst 0, 1) := dc0 dO_3 (by decide +kernel)
theorem dX4_addWish_51 : decode cX4_addWish 51 = .ok (.putfield 52, 3) := dcU2 dO_181 (by decide +kernel)
theorem dX4_addWish_54 : decode cX4_addWish 54 = .ok (.aload_n 0, 1) := dc0 dO_42 (by decide +kernel)
theorem dX4_addWish_55 : decode cX4_addWish 55 = .ok (.iconst 0, 1) := dc0 dO_3 (by decide +kernel)
theorem dX4_addWish_56 : decode cX4_addWish 56 = .ok (.putfield 56, 3) := dcU2 dO_181 (by decide +kernel)
theorem dX4_addWish_59 : decode cX4_addWish 59 = .ok (.aload_n 0, 1) := dc0 dO_42 (by decide +kernel)
theorem dX4_addWish_60 : decode cX4_addWish 60 = .ok (.getfield 11, 3) := dcU2 dO_180 (by decide +kernel)
theorem dX4_addWish_63 : decode cX4_addWish 63 = .ok (.iload_n 3, 1) := dc0 dO_29 (by decide +kernel)
theorem dX4_addWish_64 : decode cX4_addWish 64 = .ok (.iaload, 1) := dc0 dO_46 (by decide +kernel)
theorem dX4_addWish_65 : decode cX4_addWish 65 = .ok (.ireturn, 1) := dc0 dO_172 (by decide +kernel)
theorem dX6_putNumber_0 : decode cX6_putNumber 0 = .ok (.iload_n 3, 1) := dc0 dO_29 (by decide +kernel)
theorem dX6_putNumber_1 : decode cX6_putNumber 1 = .ok (.iload_n 2, 1) := dc0 dO_28 (by decide +kernel)
theorem dX6_putNumber_2 : decode cX6_putNumber 2 = .ok (.isub, 1) := dc0 dO_100 (by decide +kernel)
theorem dX6_putNumber_3 : decode cX6_putNumber 3 = .ok (.bipush 9, 2) := dcS1 dO_16 (by decide +kernel)
theorem dX6_putNumber_5 : decode cX6_putNumber 5 = .ok (.if_icmp .le 12, 3) := dcS2 dO_164 (by decide +kernel)
theorem dX6_putNumber_8 : decode cX6_putNumber 8 = .ok (.aload_n 0, 1) := dc0 dO_42 (by decide +kernel)
theorem dX6_putNumber_9 : decode cX6_putNumber 9 = .ok (.bipush (-3), 2) := dcS1 dO_16 (by decide +kernel)
theorem dX6_putNumber_11 : decode cX6_putNumber 11 = .ok (.iconst 0, 1) := dc0 dO_3 (by decide +kernel)
theorem dX6_putNumber_12 : decode cX6_putNumber 12 = .ok (.iload_n 2, 1) := dc0 dO_28 (by decide +kernel)
theorem dX6_putNumber_13 : decode cX6_putNumber 13 = .ok (.invokevirtual 94, 3) := dcU2 dO_182 (by decide +kernel)
theorem dX6_putNumber_16 : decode cX6_putNumber 16 = .ok (.return_, 1) := dc0 dO_177 (by decide +kernel)
theorem dX6_putNumber_17 : decode cX6_putNumber 17 = .ok (.iconst 0, 1) := dc0 dO_3 (by decide +kernel)
theorem dX6_putNumber_18 : decode cX6_putNumber 18 = .ok (.istore 4, 2) := dcU1 dO_54 (by decide +kernel)
theorem dX6_putNumber_20 : decode cX6_putNumber 20 = .ok (.iload_n 2, 1) := dc0 dO_28 (by decide +kernel)
theorem dX6_putNumber_21 : decode cX6_putNumber 21 = .ok (.istore 5, 2) := dcU1 dO_54 (by decide +kernel)
theorem dX6_putNumber_23 : decode cX6_putNumber 23 = .ok (.iload 5, 2) := dcU1 dO_21 (by decide +kernel)
theorem dX6_putNumber_25 : decode cX6_putNumber 25 = .ok (.iload_n 3, 1) := dc0 dO_29 (by decide +kernel)
theorem dX6_putNumber_26 : decode cX6_putNumber 26 = .ok (.if_icmp .ge 24, 3) := dcS2 dO_162 (by decide +kernel)
theorem dX6_putNumber_29 : decode cX6_putNumber 29 = .ok (.iload 4, 2) := dcU1 dO_21 (by decide +kernel)
theorem dX6_putNumber_31 : decode cX6_putNumber 31 = .ok (.bipush 10, 2) := dcS1 dO_16 (by decide +kernel)
theorem dX6_putNumber_33 : decode cX6_putNumber 33 = .ok (.imul, 1) := dc0 dO_104 (by decide +kernel)
theorem dX6_putNumber_34 : decode cX6_putNumber 34 = .ok (.aload_n 1, 1) := dc0 dO_43 (by decide +kernel)
theorem dX6_putNumber_35 : decode cX6_putNumber 35 = .ok (.iload 5, 2) := dcU1 dO_21 (by decide +kernel)
theorem dX6_putNumber_37 : decode cX6_putNumber 37 = .ok (.iaload, 1) := dc0 dO_46 (by decide +kernel)
theorem dX6_putNumber_38 : decode cX6_putNumber 38 = .ok (.iadd, 1) := dc0 dO_96 (by decide +kernel)
theorem dX6_putNumber_39 : decode cX6_putNumber 39 = .ok (.bipush 48, 2) := dcS1 dO_16 (by decide +kernel)
theorem dX6_putNumber_41 : decode cX6_putNumber 41 = .ok (.isub, 1) := dc0 dO_100 (by decide +kernel)
theorem dX6_putNumber_42 : decode cX6_putNumber 42 = .ok (.istore 4, 2) := dcU1 dO_54 (by decide +kernel)
theorem dX6_putNumber_44 : decode cX6_putNumber 44 = .ok (.iinc 5 1, 3) := dcI dO_132 (by decide +kernel)
theorem dX6_putNumber_47 : decode cX6_putNumber 47 = .ok (.goto (-24), 3) := dcS2 dO_167 (by decide +kernel)
theorem dX6_putNumber_50 : decode cX6_putNumber 50 = .ok (.aload_n 0, 1) := dc0 dO_42 (by decide +kernel)
theorem dX6_putNumber_51 : decode cX6_putNumber 51 = .ok (.bipush (-2), 2) := dcS1 dO_16 (by decide +kernel)
theorem dX6_putNumber_53 : decode cX6_putNumber 53 = .ok (.iload 4, 2) := dcU1 dO_21 (by decide +kernel)
theorem dX6_putNumber_55 : decode cX6_putNumber 55 = .ok (.iload_n 2, 1) := dc0 dO_28 (by decide +kernel)
theorem dX6_putNumber_56 : decode cX6_putNumber 56 = .ok (.invokevirtual 94, 3) := dcU2 dO_182 (by decide +kernel)
theorem dX6_putNumber_59 : decode cX6_putNumber 59 = .ok (.return_, 1) := dc0 dO_177 (by decide +kernel)
theorem dX6_read_0 : decode cX6_read 0 = .ok (.aload_n 0, 1) := dc0 dO_42 (by decide +kernel)
theorem dX6_read_1 : decode cX6_read 1 = .ok (.iconst 0, 1) := dc0 dO_3 (by decide +kernel)
theorem dX6_read_2 : decode cX6_read 2 = .ok (.putfield 37, 3) := dcU2 dO_181 (by decide +kernel)
theorem dX6_read_5 : decode cX6_read 5 = .ok (.aload_n 0, 1) := dc0 dO_42 (by decide +kernel)
theorem dX6_read_6 : decode cX6_read 6 = .ok (.iconst 0, 1) := dc0 dO_3 (by decide +kernel)
theorem dX6_read_7 : decode cX6_read 7 = .ok (.putfield 41, 3) := dcU2 dO_181 (by decide +kernel)
theorem dX6_read_10 : decode cX6_read 10 = .ok (.aload_n 0, 1) := dc0 dO_42 (by decide +kernel)
theorem dX6_read_11 : decode cX6_read 11 = .ok (.iconst 0, 1) := dc0 dO_3 (by decide +kernel)
theorem dX6_read_12 : decode cX6_read 12 = .ok (.putfield 44, 3) := dcU2 dO_181 (by decide +kernel)
theorem dX6_read_15 : decode cX6_read 15 = .ok (.aload_n 0, 1) := dc0 dO_42 (by decide +kernel)
theorem dX6_read_16 : decode cX6_read 16 = .ok (.iconst 0, 1) := dc0 dO_3 (by decide +kernel)
theorem dX6_read_17 : decode cX6_read 17 = .ok (.putfield 47, 3) := dcU2 dO_181 (by decide +kernel)
theorem dX6_read_20 : decode cX6_read 20 = .ok (.aload_n 0, 1) := dc0 dO_42 (by decide +kernel)
theorem dX6_read_21 : decode cX6_read 21 = .ok (.iconst 0, 1) := dc0 dO_3 (by decide +kernel)
theorem dX6_read_22 : decode cX6_read 22 = .ok (.putfield 50, 3) := dcU2 dO_181 (by decide +kernel)
theorem dX6_read_25 : decode cX6_read 25 = .ok (.aload_n 0, 1) := dc0 dO_42 (by decide +kernel)
theorem dX6_read_26 : decode cX6_read 26 = .ok (.iconst 0, 1) := dc0 dO_3 (by decide +kernel)
theorem dX6_read_27 : decode cX6_read 27 = .ok (.putfield 53, 3) := dcU2 dO_181 (by decide +kernel)
theorem dX6_read_30 : decode cX6_read 30 = .ok (.aload_n 0, 1) := dc0 dO_42 (by decide +kernel)
theorem dX6_read_31 : decode cX6_read 31 = .ok (.iload_n 3, 1) := dc0 dO_29 (by decide +kernel)
theorem dX6_read_32 : decode cX6_read 32 = .ok (.putfield 56, 3) := dcU2 dO_181 (by decide +kernel)
theorem dX6_read_35 : decode cX6_read 35 = .ok (.aload_n 0, 1) := dc0 dO_42 (by decide +kernel)
theorem dX6_read_36 : decode cX6_read 36 = .ok (.aload_n 1, 1) := dc0 dO_43 (by decide +kernel)
theorem dX6_read_37 : decode cX6_read 37 = .ok (.iload_n 2, 1) := dc0 dO_28 (by decide +kernel)
theorem dX6_read_38 : decode cX6_read 38 = .ok (.invokevirtual 59, 3) := dcU2 dO_182 (by decide +kernel)
theorem dX6_read_41 : decode cX6_read 41 = .ok (.aload_n 0, 1) := dc0 dO_42 (by decide +kernel)
theorem dX6_read_42 : decode cX6_read 42 = .ok (.iconst 0, 1) := dc0 dO_3 (by decide +kernel)
theorem dX6_read_43 : decode cX6_read 43 = .ok (.putfield 63, 3) := dcU2 dO_181 (by decide +kernel)
theorem dX6_read_46 : decode cX6_read 46 = .ok (.iconst 0, 1) := dc0 dO_3 (by decide +kernel)
theorem dX6_read_47 : decode cX6_read 47 = .ok (.istore 4, 2) := dcU1 dO_54 (by decide +kernel)
theorem dX6_read_49 : decode cX6_read 49 = .ok (.iload 4, 2) := dcU1 dO_21 (by decide +kernel)
theorem dX6_read_51 : decode cX6_read 51 = .ok (.sipush 1000, 3) := dcS2 dO_17 (by decide +kernel)
theorem dX6_read_54 : decode cX6_read 54 = .ok (.if_icmp .gt 26, 3) := dcS2 dO_163 (by decide +kernel)
theorem dX6_read_57 : decode cX6_read 57 = .ok (.aload_n 0, 1) := dc0 dO_42 (by decide +kernel)
theorem dX6_read_58 : decode cX6_read 58 = .ok (.getfield 9, 3) := dcU2 dO_180 (by decide +kernel)
theorem dX6_read_61 : decode cX6_read 61 = .ok (.aload_n 0, 1) := dc0 dO_42 (by decide +kernel)
theorem dX6_read_62 : decode cX6_read 62 = .ok (.getfield 63, 3) := dcU2 dO_180 (by decide +kernel)
theorem dX6_read_65 : decode cX6_read 65 = .ok (.iaload, 1) := dc0 dO_46 (by decide +kernel)
theorem dX6_read_66 : decode cX6_read 66 = .ok (.iconst (-1), 1) := dc0 dO_2 (by decide +kernel)
theorem dX6_read_67 : decode cX6_read 67 = .ok (.if_icmp .eq 13, 3) := dcS2 dO_159 (by decide +kernel)
theorem dX6_read_70 : decode cX6_read 70 = .ok (.aload_n 0, 1) := dc0 dO_42 (by decide +kernel)
theorem dX6_read_71 : decode cX6_read 71 = .ok (.invokevirtual 66, 3) := dcU2 dO_182 (by decide +kernel)
theorem dX6_read_74 : decode cX6_read 74 = .ok (.iinc 4 1, 3) := dcI dO_132 (by decide +kernel)
theorem dX6_read_77 : decode cX6_read 77 = .ok (.goto (-28), 3) := dcS2 dO_167 (by decide +kernel)
theorem dX6_read_80 : decode cX6_read 80 = .ok (.return_, 1) := dc0 dO_177 (by decide +kernel)
theorem dX6_split_0 : decode cX6_split 0 = .ok (.aload_n 0, 1) := dc0 dO_42 (by decide +kernel)
theorem dX6_split_1 : decode cX6_split 1 = .ok (.iconst 0, 1) := dc0 dO_3 (by decide +kernel)
theorem dX6_split_2 : decode cX6_split 2 = .ok (.putfield 83, 3) := dcU2 dO_181 (by decide +kernel)
theorem dX6_split_5 : decode cX6_split 5 = .ok (.iconst 0, 1) := dc0 dO_3 (by decide +kernel)
theorem dX6_split_6 : decode cX6_split 6 = .ok (.istore_n 3, 1) := dc0 dO_62 (by decide +kernel)
theorem dX6_split_7 : decode cX6_split 7 = .ok (.iload_n 3, 1) := dc0 dO_29 (by decide +kernel)
theorem dX6_split_8 : decode cX6_split 8 = .ok (.iload_n 2, 1) := dc0 dO_28 (by decide +kernel)
theorem dX6_split_9 : decode cX6_split 9 = .ok (.if_icmp .ge 134, 3) := dcS2 dO_162 (by decide +kernel)
theorem dX6_split_12 : decode cX6_split 12 = .ok (.aload_n 1, 1) := dc0 dO_43 (by decide +kernel)
theorem dX6_split_13 : decode cX6_split 13 = .ok (.iload_n 3, 1) := dc0 dO_29 (by decide +kernel)
theorem dX6_split_14 : decode cX6_split 14 = .ok (.iaload, 1) := dc0 dO_46 (by decide +kernel)
theorem dX6_split_15 : decode cX6_split 15 = .ok (.istore 4, 2) := dcU1 dO_54 (by decide +kernel)
theorem dX6_split_17 : decode cX6_split 17 = .ok (.iload_n 3, 1) := dc0 dO_29 (by decide +kernel)
theorem dX6_split_18 : decode cX6_split 18 = .ok (.iconst 1, 1) := dc0 dO_4 (by decide +kernel)
theorem dX6_split_19 : decode cX6_split 19 = .ok (.iadd, 1) := dc0 dO_96 (by decide +kernel)
theorem dX6_split_20 : decode cX6_split 20 = .ok (.istore 5, 2) := dcU1 dO_54 (by decide +kernel)
theorem dX6_split_22 : decode cX6_split 22 = .ok (.iload 4, 2) := dcU1 dO_21 (by decide +kernel)
theorem dX6_split_24 : decode cX6_split 24 = .ok (.invokestatic 86, 3) := dcU2 dO_184 (by decide +kernel)
theorem dX6_split_27 : decode cX6_split 27 = .ok (.ifCond .eq 43, 3) := dcS2 dO_153 (by decide +kernel)
theorem dX6_split_30 : decode cX6_split 30 = .ok (.iload 5, 2) := dcU1 dO_21 (by decide +kernel)
theorem dX6_split_32 : decode cX6_split 32 = .ok (.iload_n 2, 1) := dc0 dO_28 (by decide +kernel)
theorem dX6_split_33 : decode cX6_split 33 = .ok (.if_icmp .ge 19, 3) := dcS2 dO_162 (by decide +kernel)
theorem dX6_split_36 : decode cX6_split 36 = .ok (.aload_n 1, 1) := dc0 dO_43 (by decide +kernel)
theorem dX6_split_37 : decode cX6_split 37 = .ok (.iload 5, 2) := dcU1 dO_21 (by decide +kernel)
theorem dX6_split_39 : decode cX6_split 39 = .ok (.iaload, 1) := dc0 dO_46 (by decide +kernel)
theorem dX6_split_40 : decode cX6_split 40 = .ok (.invokestatic 86, 3) := dcU2 dO_184 (by decide +kernel)
theorem dX6_split_43 : decode cX6_split 43 = .ok (.ifCond .eq 9, 3) := dcS2 dO_153 (by decide +kernel)
theorem dX6_split_46 : decode cX6_split 46 = .ok (.iinc 5 1, 3) := dcI dO_132 (by decide +kernel)
theorem dX6_split_49 : decode cX6_split 49 = .ok (.goto (-19), 3) := dcS2 dO_167 (by decide +kernel)
theorem dX6_split_52 : decode cX6_split 52 = .ok (.aload_n 0, 1) := dc0 dO_42 (by decide +kernel)
theorem dX6_split_53 : decode cX6_split 53 = .ok (.aload_n 1, 1) := dc0 dO_43 (by decide +kernel)
theorem dX6_split_54 : decode cX6_split 54 = .ok (.iload_n 3, 1) := dc0 dO_29 (by decide +kernel)
theorem dX6_split_55 : decode cX6_split 55 = .ok (.iload 5, 2) := dcU1 dO_21 (by decide +kernel)
theorem dX6_split_57 : decode cX6_split 57 = .ok (.iload_n 3, 1) := dc0 dO_29 (by decide +kernel)
theorem dX6_split_58 : decode cX6_split 58 = .ok (.isub, 1) := dc0 dO_100 (by decide +kernel)
theorem dX6_split_59 : decode cX6_split 59 = .ok (.invokestatic 90, 3) := dcU2 dO_184 (by decide +kernel)
theorem dX6_split_62 : decode cX6_split 62 = .ok (.iconst 0, 1) := dc0 dO_3 (by decide +kernel)
theorem dX6_split_63 : decode cX6_split 63 = .ok (.iload_n 3, 1) := dc0 dO_29 (by decide +kernel)
theorem dX6_split_64 : decode cX6_split 64 = .ok (.invokevirtual 94, 3) := dcU2 dO_182 (by decide +kernel)
theorem dX6_split_67 : decode cX6_split 67 = .ok (.goto 70, 3) := dcS2 dO_167 (by decide +kernel)
theorem dX6_split_70 : decode cX6_split 70 = .ok (.iload 4, 2) := dcU1 dO_21 (by decide +kernel)
theorem dX6_split_72 : decode cX6_split 72 = .ok (.invokestatic 98, 3) := dcU2 dO_184 (by decide +kernel)
theorem dX6_split_75 : decode cX6_split 75 = .ok (.ifCond .eq 36, 3) := dcS2 dO_153 (by decide +kernel)
theorem dX6_split_78 : decode cX6_split 78 = .ok (.iload 5, 2) := dcU1 dO_21 (by decide +kernel)
theorem dX6_split_80 : decode cX6_split 80 = .ok (.iload_n 2, 1) := dc0 dO_28 (by decide +kernel)
theorem dX6_split_81 : decode cX6_split 81 = .ok (.if_icmp .ge 19, 3) := dcS2 dO_162 (by decide +kernel)
theorem dX6_split_84 : decode cX6_split 84 = .ok (.aload_n 1, 1) := dc0 dO_43 (by decide +kernel)
theorem dX6_split_85 : decode cX6_split 85 = .ok (.iload 5, 2) := dcU1 dO_21 (by decide +kernel)
theorem dX6_split_87 : decode cX6_split 87 = .ok (.iaload, 1) := dc0 dO_46 (by decide +kernel)
theorem dX6_split_88 : decode cX6_split 88 = .ok (.invokestatic 98, 3) := dcU2 dO_184 (by decide +kernel)
theorem dX6_split_91 : decode cX6_split 91 = .ok (.ifCond .eq 9, 3) := dcS2 dO_153 (by decide +kernel)
theorem dX6_split_94 : decode cX6_split 94 = .ok (.iinc 5 1, 3) := dcI dO_132 (by decide +kernel)
theorem dX6_split_97 : decode cX6_split 97 = .ok (.goto (-19), 3) := dcS2 dO_167 (by decide +kernel)
theorem dX6_split_100 : decode cX6_split 100 = .ok (.aload_n 0, 1) := dc0 dO_42 (by decide +kernel)
theorem dX6_split_101 : decode cX6_split 101 = .ok (.aload_n 1, 1) := dc0 dO_43 (by decide +kernel)
theorem dX6_split_102 : decode cX6_split 102 = .ok (.iload_n 3, 1) := dc0 dO_29 (by decide +kernel)
theorem dX6_split_103 : decode cX6_split 103 = .ok (.iload 5, 2) := dcU1 dO_21 (by decide +kernel)
theorem dX6_split_105 : decode cX6_split 105 = .ok (.invokevirtual 101, 3) := dcU2 dO_182 (by decide +kernel)
theorem dX6_split_108 : decode cX6_split 108 = .ok (.goto 29, 3) := dcS2 dO_167 (by decide +kernel)
theorem dX6_split_111 : decode cX6_split 111 = .ok (.iload 4, 2) := dcU1 dO_21 (by decide +kernel)
theorem dX6_split_113 : decode cX6_split 113 = .ok (.bipush 32, 2) := dcS1 dO_16 (by decide +kernel)
theorem dX6_split_115 : decode cX6_split 115 = .ok (.if_icmp .eq 22, 3) := dcS2 dO_159 (by decide +kernel)
theorem dX6_split_118 : decode cX6_split 118 = .ok (.iload 4, 2) := dcU1 dO_21 (by decide +kernel)
theorem dX6_split_120 : decode cX6_split 120 = .ok (.bipush 10, 2) := dcS1 dO_16 (by decide +kernel)
theorem dX6_split_122 : decode cX6_split 122 = .ok (.if_icmp .eq 15, 3) := dcS2 dO_159 (by decide +kernel)
theorem dX6_split_125 : decode cX6_split 125 = .ok (.aload_n 0, 1) := dc0 dO_42 (by decide +kernel)
theorem dX6_split_126 : decode cX6_split 126 = .ok (.sipush 1000, 3) := dcS2 dO_17 (by decide +kernel)
theorem sfx_cX6_split_128 : (cX6_split.data.toList.drop 128).take 67 = [232, 21, 4, 96, 3, 29, 182, 0, 94, 21, 5, 62, 167, 255, 123, 42, 180, 0, 9, 42, 180, 0, 83, 2, 79, 42, 180, 0, 18, 42, 180, 0, 83, 28, 79, 177] := by decide +kernel
theorem dX6_split_129 : decode cX6_split 129 = .ok (.iload 4, 2) := dcU1 dO_21 (rdU1.ch sfx_cX6_split_128 1 rfl (by decide +kernel))
theorem dX6_split_131 : decode cX6_split 131 = .ok (.iadd, 1) := dc0 dO_96 (rdB.ch sfx_cX6_split_128 3 rfl (by decide +kernel))
theorem dX6_split_132 : decode cX6_split 132 = .ok (.iconst 0, 1) := dc0 dO_3 (rdB.ch sfx_cX6_split_128 4 rfl (by decide +kernel))
theorem dX6_split_133 : decode cX6_split 133 = .ok (.iload_n 3, 1) := dc0 dO_29 (rdB.ch sfx_cX6_split_128 5 rfl (by decide +kernel))
theorem dX6_split_134 : decode cX6_split 134 = .ok (.invokevirtual 94, 3) := dcU2 dO_182 (rdU2.ch sfx_cX6_split_128 6 rfl (by decide +kernel))
theorem dX6_split_137 : decode cX6_split 137 = .ok (.iload 5, 2) := dcU1 dO_21 (rdU1.ch sfx_cX6_split_128 9 rfl (by decide +kernel))
theorem dX6_split_139 : decode cX6_split 139 = .ok (.istore_n 3, 1) := dc0 dO_62 (rdB.ch sfx_cX6_split_128 11 rfl (by decide +kernel))
theorem dX6_split_140 : decode cX6_split 140 = .ok (.goto (-133), 3) := dcS2 dO_167 (rdS2.ch sfx_cX6_split_128 12 rfl (by decide +kernel))
theorem dX6_split_143 : decode cX6_split 143 = .ok (.aload_n 0, 1) := dc0 dO_42 (rdB.ch sfx_cX6_split_128 15 rfl (by decide +kernel))
theorem dX6_split_144 : decode cX6_split 144 = .ok (.getfield 9, 3) := dcU2 dO_180 (rdU2.ch sfx_cX6_split_128 16 rfl (by decide +kernel))
theorem dX6_split_147 : decode cX6_split 147 = .ok (.aload_n 0, 1) := dc0 dO_42 (rdB.ch sfx_cX6_split_128 19 rfl (by decide +kernel))
theorem dX6_split_148 : decode cX6_split 148 = .ok (.getfield 83, 3) := dcU2 dO_180 (rdU2.ch sfx_cX6_split_128 20 rfl (by decide +kernel))
theorem dX6_split_151 : decode cX6_split 151 = .ok (.iconst (-1), 1) := dc0 dO_2 (rdB.ch sfx_cX6_split_128 23 rfl (by decide +kernel))
theorem dX6_split_152 : decode cX6_split 152 = .ok (.iastore, 1) := dc0 dO_79 (rdB.ch sfx_cX6_split_128 24 rfl (by decide +kernel))
theorem dX6_split_153 : decode cX6_split 153 = .ok (.aload_n 0, 1) := dc0 dO_42 (rdB.ch sfx_cX6_split_128 25 rfl (by decide +kernel))
theorem dX6_split_154 : decode cX6_split 154 = .ok (.getfield 18, 3) := dcU2 dO_180 (rdU2.ch sfx_cX6_split_128 26 rfl (by decide +kernel))
theorem dX6_split_157 : decode cX6_split 157 = .ok (.aload_n 0, 1) := dc0 dO_42 (rdB.ch sfx_cX6_split_128 29 rfl (by decide +kernel))
theorem dX6_split_158 : decode cX6_split 158 = .ok (.getfield 83, 3) := dcU2 dO_180 (rdU2.ch sfx_cX6_split_128 30 rfl (by decide +kernel))
theorem dX6_split_161 : decode cX6_split 161 = .ok (.iload_n 2, 1) := dc0 dO_28 (rdB.ch sfx_cX6_split_128 33 rfl (by decide +kernel))
theorem dX6_split_162 : decode cX6_split 162 = .ok (.iastore, 1) := dc0 dO_79 (rdB.ch sfx_cX6_split_128 34 rfl (by decide +kernel))
theorem dX6_split_163 : decode cX6_split 163 = .ok (.return_, 1) := dc0 dO_177 (rdB.ch sfx_cX6_split_128 35 rfl (by decide +kernel))
theorem dX6_wordAt_0 : decode cX6_wordAt 0 = .ok (.iconst 0, 1) := dc0 dO_3 (by decide +kernel)
theorem dX6_wordAt_1 : decode cX6_wordAt 1 = .ok (.istore_n 3, 1) := dc0 dO_62 (by decide +kernel)
theorem dX6_wordAt_2 : decode cX6_wordAt 2 = .ok (.iconst 0, 1) := dc0 dO_3 (by decide +kernel)
theorem dX6_wordAt_3 : decode cX6_wordAt 3 = .ok (.istore 4, 2) := dcU1 dO_54 (by decide +kernel)
theorem dX6_wordAt_5 : decode cX6_wordAt 5 = .ok (.iconst 1, 1) := dc0 dO_4 (by decide +kernel)
theorem dX6_wordAt_6 : decode cX6_wordAt 6 = .ok (.istore 5, 2) := dcU1 dO_54 (by decide +kernel)
theorem dX6_wordAt_8 : decode cX6_wordAt 8 = .ok (.iconst 0, 1) := dc0 dO_3 (by decide +kernel)
theorem dX6_wordAt_9 : decode cX6_wordAt 9 = .ok (.istore 6, 2) := dcU1 dO_54 (by decide +kernel)
theorem dX6_wordAt_11 : decode cX6_wordAt 11 = .ok (.iload 6, 2) := dcU1 dO_21 (by decide +kernel)
theorem dX6_wordAt_13 : decode cX6_wordAt 13 = .ok (.ldc 105, 2) := dcU1 dO_18 (by decide +kernel)
theorem dX6_wordAt_15 : decode cX6_wordAt 15 = .ok (.invokevirtual 107, 3) := dcU2 dO_182 (by decide +kernel)
theorem dX6_wordAt_18 : decode cX6_wordAt 18 = .ok (.if_icmp .ge 91, 3) := dcS2 dO_162 (by decide +kernel)
theorem dX6_wordAt_21 : decode cX6_wordAt 21 = .ok (.ldc 105, 2) := dcU1 dO_18 (by decide +kernel)
theorem dX6_wordAt_23 : decode cX6_wordAt 23 = .ok (.iload 6, 2) := dcU1 dO_21 (by decide +kernel)
theorem dX6_wordAt_25 : decode cX6_wordAt 25 = .ok (.invokevirtual 113, 3) := dcU2 dO_182 (by decide +kernel)
theorem dX6_wordAt_28 : decode cX6_wordAt 28 = .ok (.istore 7, 2) := dcU1 dO_54 (by decide +kernel)
theorem dX6_wordAt_30 : decode cX6_wordAt 30 = .ok (.iload 7, 2) := dcU1 dO_21 (by decide +kernel)
theorem dX6_wordAt_32 : decode cX6_wordAt 32 = .ok (.bipush 32, 2) := dcS1 dO_16 (by decide +kernel)
theorem dX6_wordAt_34 : decode cX6_wordAt 34 = .ok (.if_icmp .eq 41, 3) := dcS2 dO_159 (by decide +kernel)
theorem dX6_wordAt_37 : decode cX6_wordAt 37 = .ok (.iload 5, 2) := dcU1 dO_21 (by decide +kernel)
theorem dX6_wordAt_39 : decode cX6_wordAt 39 = .ok (.ifCond .eq 30, 3) := dcS2 dO_153 (by decide +kernel)
theorem dX6_wordAt_42 : decode cX6_wordAt 42 = .ok (.iload 6, 2) := dcU1 dO_21 (by decide +kernel)
theorem dX6_wordAt_44 : decode cX6_wordAt 44 = .ok (.iload 4, 2) := dcU1 dO_21 (by decide +kernel)
theorem dX6_wordAt_46 : decode cX6_wordAt 46 = .ok (.isub, 1) := dc0 dO_100 (by decide +kernel)
theorem dX6_wordAt_47 : decode cX6_wordAt 47 = .ok (.iload_n 2, 1) := dc0 dO_28 (by decide +kernel)
theorem dX6_wordAt_48 : decode cX6_wordAt 48 = .ok (.if_icmp .ge 21, 3) := dcS2 dO_162 (by decide +kernel)
theorem dX6_wordAt_51 : decode cX6_wordAt 51 = .ok (.aload_n 0, 1) := dc0 dO_42 (by decide +kernel)
theorem dX6_wordAt_52 : decode cX6_wordAt 52 = .ok (.iload_n 1, 1) := dc0 dO_27 (by decide +kernel)
theorem dX6_wordAt_53 : decode cX6_wordAt 53 = .ok (.iload 6, 2) := dcU1 dO_21 (by decide +kernel)
theorem dX6_wordAt_55 : decode cX6_wordAt 55 = .ok (.iadd, 1) := dc0 dO_96 (by decide +kernel)
theorem dX6_wordAt_56 : decode cX6_wordAt 56 = .ok (.iload 4, 2) := dcU1 dO_21 (by decide +kernel)
theorem dX6_wordAt_58 : decode cX6_wordAt 58 = .ok (.isub, 1) := dc0 dO_100 (by decide +kernel)
theorem dX6_wordAt_59 : decode cX6_wordAt 59 = .ok (.iaload, 1) := dc0 dO_46 (by decide +kernel)
theorem dX6_wordAt_60 : decode cX6_wordAt 60 = .ok (.iload 7, 2) := dcU1 dO_21 (by decide +kernel)
theorem dX6_wordAt_62 : decode cX6_wordAt 62 = .ok (.if_icmp .ne 7, 3) := dcS2 dO_160 (by decide +kernel)
theorem dX6_wordAt_65 : decode cX6_wordAt 65 = .ok (.iconst 1, 1) := dc0 dO_4 (by decide +kernel)
theorem dX6_wordAt_66 : decode cX6_wordAt 66 = .ok (.goto 4, 3) := dcS2 dO_167 (by decide +kernel)
theorem dX6_wordAt_69 : decode cX6_wordAt 69 = .ok (.iconst 0, 1) := dc0 dO_3 (by decide +kernel)
theorem dX6_wordAt_70 : decode cX6_wordAt 70 = .ok (.istore 5, 2) := dcU1 dO_54 (by decide +kernel)
theorem dX6_wordAt_72 : decode cX6_wordAt 72 = .ok (.goto 31, 3) := dcS2 dO_167 (by decide +kernel)
theorem dX6_wordAt_75 : decode cX6_wordAt 75 = .ok (.iload 5, 2) := dcU1 dO_21 (by decide +kernel)
theorem dX6_wordAt_77 : decode cX6_wordAt 77 = .ok (.ifCond .eq 14, 3) := dcS2 dO_153 (by decide +kernel)
theorem dX6_wordAt_80 : decode cX6_wordAt 80 = .ok (.iload 6, 2) := dcU1 dO_21 (by decide +kernel)
theorem dX6_wordAt_82 : decode cX6_wordAt 82 = .ok (.iload 4, 2) := dcU1 dO_21 (by decide +kernel)
theorem dX6_wordAt_84 : decode cX6_wordAt 84 = .ok (.isub, 1) := dc0 dO_100 (by decide +kernel)
theorem dX6_wordAt_85 : decode cX6_wordAt 85 = .ok (.iload_n 2, 1) := dc0 dO_28 (by decide +kernel)
theorem dX6_wordAt_86 : decode cX6_wordAt 86 = .ok (.if_icmp .ne 5, 3) := dcS2 dO_160 (by decide +kernel)
theorem dX6_wordAt_89 : decode cX6_wordAt 89 = .ok (.iload_n 3, 1) := dc0 dO_29 (by decide +kernel)
theorem dX6_wordAt_90 : decode cX6_wordAt 90 = .ok (.ireturn, 1) := dc0 dO_172 (by decide +kernel)
theorem dX6_wordAt_91 : decode cX6_wordAt 91 = .ok (.iinc 3 1, 3) := dcI dO_132 (by decide +kernel)
theorem dX6_wordAt_94 : decode cX6_wordAt 94 = .ok (.iload 6, 2) := dcU1 dO_21 (by decide +kernel)
theorem dX6_wordAt_96 : decode cX6_wordAt 96 = .ok (.iconst 1, 1) := dc0 dO_4 (by decide +kernel)
theorem dX6_wordAt_97 : decode cX6_wordAt 97 = .ok (.iadd, 1) := dc0 dO_96 (by decide +kernel)
theorem dX6_wordAt_98 : decode cX6_wordAt 98 = .ok (.istore 4, 2) := dcU1 dO_54 (by decide +kernel)
theorem dX6_wordAt_100 : decode cX6_wordAt 100 = .ok (.iconst 1, 1) := dc0 dO_4 (by decide +kernel)
theorem dX6_wordAt_101 : decode cX6_wordAt 101 = .ok (.istore 5, 2) := dcU1 dO_54 (by decide +kernel)
theorem dX6_wordAt_103 : decode cX6_wordAt 103 = .ok (.iinc 6 1, 3) := dcI dO_132 (by decide +kernel)
theorem dX6_wordAt_106 : decode cX6_wordAt 106 = .ok (.goto (-95), 3) := dcS2 dO_167 (by decide +kernel)
theorem dX6_wordAt_109 : decode cX6_wordAt 109 = .ok (.bipush (-3), 2) := dcS1 dO_16 (by decide +kernel)
theorem dX6_wordAt_111 : decode cX6_wordAt 111 = .ok (.ireturn, 1) := dc0 dO_172 (by decide +kernel)
end
section
theorem vc_X4_isWish_r_2 {p2 : Int} (h0 : p2 < 2) (h1 : 0 ≤ p2 ∧ p2 ≤ 1) : (0 : Int) = 1 → 2 ≤ p2 ∧ p2 ≤ 7 := by omega
theorem vc_X4_isWish_r_5 {p2 : Int} (h0 : 2 ≤ p2) (h1 : 7 < p2) (h2 : 8 ≤ p2 ∧ p2 ≤ 20) : (0 : Int) = 1 → 2 ≤ p2 ∧ p2 ≤ 7 := by omega
theorem vc_X4_isWish_r_8 {p2 z176 : Int} (h0 : (8 - z176) < ((0 : Nat) : Int)) (h1 : z176 ≤ p2) (h2 : 2 ≤ p2) (h3 : p2 ≤ 7) (h4 : 2 ≤ p2 ∧ p2 ≤ 7) (h5 : 0 ≤ z176 ∧ z176 ≤ 7) : False := by omega
theorem vc_X4_isWish_r_9 {p2 z176 : Int} (h0 : p2 ≤ z176) (h1 : 2 ≤ p2) (h2 : p2 ≤ 7) (h3 : z176 ≤ p2) (h4 : 2 ≤ p2 ∧ p2 ≤ 7) (h5 : 0 ≤ z176 ∧ z176 ≤ 7) : 2 ≤ z176 ∧ z176 ≤ 7 := by omega
theorem vc_X4_isWish_r_10 {p2 z176 : Int} (h0 : 2 ≤ p2) (h1 : p2 ≤ 7) (h2 : z176 ≤ p2) (h3 : p2 ≤ z176) (h4 : 2 ≤ p2 ∧ p2 ≤ 7) (h5 : 2 ≤ z176 ∧ z176 ≤ 7) : (1 : Int) = 1 → 2 ≤ p2 ∧ p2 ≤ 7 := by omega
theorem vc_X4_isWish_r_11 {p2 z176 : Int} (h0 : 2 ≤ p2) (h1 : p2 ≤ 7) (h2 : z176 ≤ p2) (h3 : p2 ≤ z176) (h4 : 2 ≤ p2 ∧ p2 ≤ 7) (h5 : 2 ≤ z176 ∧ z176 ≤ 7) : z176 = p2 := by omega
theorem vc_X4_isWish_r_12 {p2 z176 : Int} (h0 : z176 < p2) (h1 : 2 ≤ p2) (h2 : p2 ≤ 7) (h3 : z176 ≤ p2) (h4 : 2 ≤ p2 ∧ p2 ≤ 7) (h5 : 0 ≤ z176 ∧ z176 ≤ 7) : 0 ≤ z176 ∧ z176 ≤ 6 := by omega
theorem vc_X4_isWish_r_13 {z191 : Int} (h0 : 7 ≤ z191) (h1 : 0 ≤ z191 ∧ z191 ≤ 9) : 7 ≤ z191 ∧ z191 ≤ 9 := by omega
theorem vc_X4_isWish_r_14 {p2 z176 : Int} (h0 : 2 ≤ p2) (h1 : p2 ≤ 7) (h2 : z176 ≤ p2) (h3 : z176 < p2) (h4 : 2 ≤ p2 ∧ p2 ≤ 7) (h5 : 0 ≤ z176 ∧ z176 ≤ 6) : (0 : Int) = 1 → 2 ≤ p2 ∧ p2 ≤ 7 := by omega
theorem vc_X4_isWish_r_15 {z191 : Int} (h0 : z191 < 7) (h1 : 0 ≤ z191 ∧ z191 ≤ 9) : 0 ≤ z191 ∧ z191 ≤ 6 := by omega
theorem vc_X4_isWish_r_17 {p2 z176 : Int} (h0 : 2 ≤ p2) (h1 : p2 ≤ 7) (h2 : z176 ≤ p2) (h3 : z176 < p2) (h4 : 2 ≤ p2 ∧ p2 ≤ 7) (h5 : 0 ≤ z176 ∧ z176 ≤ 6) : (z176 + 1) ≤ p2 := by omega
theorem vc_X4_isWish_r_18 {N p2 z176 : Int} (h0 : (8 - z176) < N + 1) (h1 : z176 ≤ p2) (h2 : z176 < p2) (h3 : 2 ≤ p2) (h4 : p2 ≤ 7) (h5 : 2 ≤ p2 ∧ p2 ≤ 7) (h6 : 0 ≤ z176 ∧ z176 ≤ 6) : (8 - (z176 + 1)) < N := by omega
theorem vc_X4_isWish_r_19 {z191 : Int} (h0 : z191 < 7) (h1 : 0 ≤ z191 ∧ z191 ≤ 6) : z191 ≤ 6 := by omega
theorem vc_X4_isWish_r_21 {p2 : Int} (h0 : 2 ≤ p2) (h1 : p2 ≤ 7) (h2 : 2 ≤ p2 ∧ p2 ≤ 7) : (0 : Int) ≤ p2 := by omega
theorem vc_X4_isWish_r_24 {p2 : Int} (h0 : 2 ≤ p2) (h1 : p2 ≤ 7) (h2 : 2 ≤ p2 ∧ p2 ≤ 7) : (0 : Int) = 1 → 2 ≤ p2 ∧ p2 ≤ 7 := by omega
set_option maxRecDepth 4000 in
set_option maxHeartbeats 4000000 in
theorem c_X4_isWish_r {l : Launch} {D : va_G} {c : Nat → ClassId} {H0 : Heap} {sa : Nat × Nat × (Nat → Int32)} {w : mW} {μ : mM} (hw : mWF w) (hT : mT w μ) (hA1 : mAt w 2 2) {p2 : Int} (hp2 : 0 ≤ p2 ∧ p2 ≤ 20) : sC (gG l D c H0 sa) mX4_isWish 1 0 0 [.ref 2, iv p2] (mk w μ) (qP w μ (fun z => (0 ≤ z ∧ z ≤ 1) ∧ (z = 1 → 2 ≤ p2 ∧ p2 ≤ 7) ∧ (z = 1 → allLe μ 2 p2 6) ∧ True)) := by
  refine sC.of rfl (by decide) (le_t rfl) ?_
  refine mr_lvE (lv' := [(0, .ref 2), (1, iv p2)]) rfl ?_
  refine mr_iload_n (pc := 0) (z := p2) dX4_isWish_0 rfl rfl ?_
  refine mr_iconst (pc := 1) (z := 2) dX4_isWish_1 ?_
  refine mr_icmp_lt (pc := 2) (tgt := 19) dX4_isWish_2 (by decide) (r32 hp2 rfl) (r32 (rR (x := 2)) rfl) (fun h1 => ?_) (fun h1 => ?_)
  · have h2 : 0 ≤ p2 ∧ p2 ≤ 1 := (vc_X12_wish_1 h1 hp2)
    refine mr_iconst (pc := 19) (z := 0) dX4_isWish_19 ?_
    exact mr_zretP dX4_isWish_20 rfl (rW (c := 0) (d := 1) (rR (x := 0)) rfl) (le_t rfl) (le_t rfl) ⟨(rW (c := 0) (d := 1) (rR (x := 0)) rfl), (vc_X4_isWish_r_2 h1 h2), (fun h => absurd h (by decide)), trivial⟩
  have h3 : 2 ≤ p2 ∧ p2 ≤ 20 := (vc_X12_wish_7 h1 hp2)
  refine mr_iload_n (pc := 5) (z := p2) dX4_isWish_5 rfl rfl ?_
  refine mr_bipush (pc := 6) (z := 7) dX4_isWish_6 (by decide) ?_
  refine mr_icmp_gt (pc := 8) (tgt := 19) dX4_isWish_8 (by decide) (r32 h3 rfl) (r32 (rR (x := 7)) rfl) (fun h4 => ?_) (fun h4 => ?_)
  · have h5 : 8 ≤ p2 ∧ p2 ≤ 20 := (vc_X12_wish_8 h4 h1 h3)
    refine mr_iconst (pc := 19) (z := 0) dX4_isWish_19 ?_
    exact mr_zretP dX4_isWish_20 rfl (rW (c := 0) (d := 1) (rR (x := 0)) rfl) (le_t rfl) (le_t rfl) ⟨(rW (c := 0) (d := 1) (rR (x := 0)) rfl), (vc_X4_isWish_r_5 h1 h4 h5), (fun h => absurd h (by decide)), trivial⟩
  have h6 : 2 ≤ p2 ∧ p2 ≤ 7 := (vc_X12_wish_11 h4 h1 h3)
  refine sv_aload_n (pc := 11) dX4_isWish_11 rfl rfl ?_
  refine mr_iload_n (pc := 12) (z := p2) dX4_isWish_12 rfl rfl ?_
  refine mr_iconst (pc := 13) (z := 1) dX4_isWish_13 ?_
  refine mr_isub (pc := 14) (x := p2) (y := 1) dX4_isWish_14 ?_
  refine la_2 (pc := 15) dX4_isWish_15 (A_2 hw) hT (rIx (n := 20) (rSub (e := 1) (f := 6) h6 (rR (x := 1)) rfl) rfl) fun z7 q8 h9 => ?_
  refine mr_if_eq (pc := 16) (tgt := 21) dX4_isWish_16 (by decide) (r32 h9 rfl) (fun h10 => ?_) (fun h10 => ?_)
  · have h11 : 0 ≤ z7 ∧ z7 ≤ 0 := (vc_X12_wish_12 h10 h9)
    refine mr_iconst (pc := 21) (z := 0) dX4_isWish_21 ?_
    refine mr_istore_n (pc := 22) (lv' := [(2, iv 0), (0, .ref 2), (1, iv p2)]) dX4_isWish_22 rfl (by decide) rfl ?_
    refine mr_iconst (pc := 23) (z := 0) dX4_isWish_23 ?_
    refine mr_istore_n (pc := 24) (lv' := [(3, iv 0), (2, iv 0), (0, .ref 2), (1, iv p2)]) dX4_isWish_24 rfl (by decide) rfl ?_
    have L178 : ∀ (nL178 : Nat) (z177 z176 : Int), True → ((-2147483648) ≤ z177 ∧ z177 ≤ 2147483647) → (0 ≤ z176 ∧ z176 ≤ 7) → (z176 ≤ p2) → allLe μ 2 z176 6 → (8 - z176) < (nL178 : Int) → sV (gG l D c H0 sa) mX4_isWish (sRm 1 0 0) (sZ (gG l D c H0 sa) 0 0 (qP w μ (fun z => (0 ≤ z ∧ z ≤ 1) ∧ (z = 1 → 2 ≤ p2 ∧ p2 ≤ 7) ∧ (z = 1 → allLe μ 2 p2 6) ∧ True))) 25 [(0, .ref 2), (1, iv p2), (2, iv z177), (3, iv z176)] [] (mk w μ) 0 0 := by
      intro nL178
      induction nL178 with
      | zero => intro z177 z176 _ h179 h180 h184 R185 h186; exact ((vc_X4_isWish_r_8 h186 h184 h1 h4 h6 h180)).elim
      | succ nL178 ih187 =>
        intro z177 z176 _ h179 h180 h184 R185 h186
        refine mr_iload_n (pc := 25) (z := z176) dX4_isWish_25 rfl rfl ?_
        refine mr_iload_n (pc := 26) (z := p2) dX4_isWish_26 rfl rfl ?_
        refine mr_icmp_ge (pc := 27) (tgt := 64) dX4_isWish_27 (by decide) (r32 h180 rfl) (r32 h6 rfl) (fun h188 => ?_) (fun h188 => ?_)
        · have h189 : 2 ≤ z176 ∧ z176 ≤ 7 := (vc_X4_isWish_r_9 h188 h1 h4 h184 h6 h180)
          refine mr_iconst (pc := 64) (z := 1) dX4_isWish_64 ?_
          exact mr_zretP dX4_isWish_65 rfl (rW (c := 0) (d := 1) (rR (x := 1)) rfl) (le_t rfl) (le_t rfl) ⟨(rW (c := 0) (d := 1) (rR (x := 1)) rfl), (vc_X4_isWish_r_10 h1 h4 h184 h188 h6 h189), (fun _ => by have h := R185; rw [show z176 = p2 from (vc_X4_isWish_r_11 h1 h4 h184 h188 h6 h189)] at h; exact h), trivial⟩
        have h190 : 0 ≤ z176 ∧ z176 ≤ 6 := (vc_X4_isWish_r_12 h188 h1 h4 h184 h6 h180)
        refine sv_aload_n (pc := 30) dX4_isWish_30 rfl rfl ?_
        refine mr_iload_n (pc := 31) (z := z176) dX4_isWish_31 rfl rfl ?_
        refine la_2 (pc := 32) dX4_isWish_32 (A_2 hw) hT (rIx (n := 20) h190 rfl) fun z191 q192 h193 => ?_
        refine mr_bipush (pc := 33) (z := 7) dX4_isWish_33 (by decide) ?_
        refine mr_icmp_ge (pc := 35) (tgt := 48) dX4_isWish_35 (by decide) (r32 h193 rfl) (r32 (rR (x := 7)) rfl) (fun h194 => ?_) (fun h194 => ?_)
        · have h195 : 7 ≤ z191 ∧ z191 ≤ 9 := (vc_X4_isWish_r_13 h194 h193)
          refine mr_iconst (pc := 48) (z := 0) dX4_isWish_48 ?_
          exact mr_zretP dX4_isWish_49 rfl (rW (c := 0) (d := 1) (rR (x := 0)) rfl) (le_t rfl) (le_t rfl) ⟨(rW (c := 0) (d := 1) (rR (x := 0)) rfl), (vc_X4_isWish_r_14 h1 h4 h184 h188 h6 h190), (fun h => absurd h (by decide)), trivial⟩
        have h196 : 0 ≤ z191 ∧ z191 ≤ 6 := (vc_X4_isWish_r_15 h194 h193)
        refine mr_iload_n (pc := 38) (z := z177) dX4_isWish_38 rfl rfl ?_
        refine sv_aload_n (pc := 39) dX4_isWish_39 rfl rfl ?_
        refine mr_iload_n (pc := 40) (z := z176) dX4_isWish_40 rfl rfl ?_
        refine lk_2 (pc := 41) dX4_isWish_41 (A_2 hw) (rIx (n := 20) h190 rfl) q192 ?_
        refine mr_ishr (pc := 42) (x := z177) (y := z191) dX4_isWish_42 ?_
        refine mr_gen (P := fun z => (-2147483648) ≤ z ∧ z ≤ 2147483647) (r32i _) fun z197 q198 h199 => ?_
        refine mr_iconst (pc := 43) (z := 1) dX4_isWish_43 ?_
        refine mr_iand (pc := 44) (x := z197) (y := 1) dX4_isWish_44 ?_
        refine mr_gen (P := fun z => 0 ≤ z ∧ z ≤ 1) (rAndR (rR (x := 1)) rfl) fun z200 q201 h202 => ?_
        refine mr_if_eq (pc := 45) (tgt := 50) dX4_isWish_45 (by decide) (r32 h202 rfl) (fun h203 => ?_) (fun h203 => ?_)
        · have h204 : 0 ≤ z200 ∧ z200 ≤ 0 := (vc_X12_ring_22 h203 h202)
          refine mr_iload_n (pc := 50) (z := z177) dX4_isWish_50 rfl rfl ?_
          refine mr_iconst (pc := 51) (z := 1) dX4_isWish_51 ?_
          refine sv_aload_n (pc := 52) dX4_isWish_52 rfl rfl ?_
          refine mr_iload_n (pc := 53) (z := z176) dX4_isWish_53 rfl rfl ?_
          refine lk_2 (pc := 54) dX4_isWish_54 (A_2 hw) (rIx (n := 20) h190 rfl) q192 ?_
          refine mr_ishl (pc := 55) (x := 1) (y := z191) dX4_isWish_55 ?_
          refine mr_gen (P := fun z => (-2147483648) ≤ z ∧ z ≤ 2147483647) (r32i _) fun z205 q206 h207 => ?_
          refine mr_ior (pc := 56) (x := z177) (y := z205) dX4_isWish_56 ?_
          refine mr_gen (P := fun z => (-2147483648) ≤ z ∧ z ≤ 2147483647) (r32i _) fun z208 q209 h210 => ?_
          refine mr_istore_n (pc := 57) (lv' := [(2, iv z208), (0, .ref 2), (1, iv p2), (3, iv z176)]) dX4_isWish_57 rfl (by decide) rfl ?_
          refine mr_iinc (pc := 58) (lv' := [(3, iv (z176 + 1)), (2, iv z208), (0, .ref 2), (1, iv p2)]) dX4_isWish_58 rfl (by decide) rfl ?_
          refine sv_goto (pc := 61) (tgt := 25) dX4_isWish_61 (by decide) ?_
          refine mr_lvS (lv' := [(0, .ref 2), (1, iv p2), (2, iv z208), (3, iv (z176 + 1))]) (List.forall_mem_cons.mpr ⟨rfl, List.forall_mem_cons.mpr ⟨rfl, List.forall_mem_cons.mpr ⟨rfl, List.forall_mem_cons.mpr ⟨rfl, fun _ h => absurd h List.not_mem_nil⟩⟩⟩⟩) ?_
          exact ih187 z208 (z176 + 1) trivial h210 (rW (c := 0) (d := 7) (rAdd (e := 1) (f := 7) h190 (rR (x := 1)) rfl) rfl) (vc_X4_isWish_r_17 h1 h4 h184 h188 h6 h190) (allLe.succ R185 q192 (vc_X4_isWish_r_19 h194 h196)) (vc_X4_isWish_r_18 (nS h186) h184 h188 h1 h4 h6 h190)
        have h211 : 1 ≤ z200 ∧ z200 ≤ 1 := (vc_X12_ring_24 h203 h202)
        refine mr_iconst (pc := 48) (z := 0) dX4_isWish_48 ?_
        exact mr_zretP dX4_isWish_49 rfl (rW (c := 0) (d := 1) (rR (x := 0)) rfl) (le_t rfl) (le_t rfl) ⟨(rW (c := 0) (d := 1) (rR (x := 0)) rfl), (vc_X4_isWish_r_14 h1 h4 h184 h188 h6 h190), (fun h => absurd h (by decide)), trivial⟩
    refine mr_lvS (lv' := [(0, .ref 2), (1, iv p2), (2, iv 0), (3, iv 0)]) (List.forall_mem_cons.mpr ⟨rfl, List.forall_mem_cons.mpr ⟨rfl, List.forall_mem_cons.mpr ⟨rfl, List.forall_mem_cons.mpr ⟨rfl, fun _ h => absurd h List.not_mem_nil⟩⟩⟩⟩) ?_
    exact L178 9 0 0 trivial (rW (c := (-2147483648)) (d := 2147483647) (rR (x := 0)) rfl) (rW (c := 0) (d := 7) (rR (x := 0)) rfl) (vc_X4_isWish_r_21 h1 h4 h6) (allLe.zero (Int.le_refl 0)) vc_X12_isWished_9
  have h212 : 1 ≤ z7 ∧ z7 ≤ 9 := (vc_X12_wish_15 h10 h9)
  refine mr_iconst (pc := 19) (z := 0) dX4_isWish_19 ?_
  exact mr_zretP dX4_isWish_20 rfl (rW (c := 0) (d := 1) (rR (x := 0)) rfl) (le_t rfl) (le_t rfl) ⟨(rW (c := 0) (d := 1) (rR (x := 0)) rfl), (vc_X4_isWish_r_24 h1 h4 h6), (fun h => absurd h (by decide)), trivial⟩
theorem vc_X4_addWish_2 {f_wp : Int} (h0 : f_wp ≤ 4) (h1 : 0 ≤ f_wp ∧ f_wp ≤ 5) : 0 ≤ f_wp ∧ f_wp ≤ 4 := by omega
theorem vc_X4_addWish_3  : (0 : Int) ≤ (0 : Int) := by omega
theorem vc_X4_addWish_4 {f_p f_wp : Int} (h0 : f_p ≤ 6) (h1 : f_wp ≤ 4) (h2 : 0 ≤ f_p ∧ f_p ≤ 6) (h3 : 0 ≤ f_wp ∧ f_wp ≤ 4) : 0 ≤ (((f_p * 5) + f_wp) * 7) := by omega
theorem vc_X4_addWish_5 {p2 : Int} (h0 : 2 ≤ p2 ∧ p2 ≤ 7) : 0 ≤ p2 := by omega
theorem vc_X4_addWish_6 {p2 : Int} (h0 : 2 ≤ p2 ∧ p2 ≤ 7) : 0 + p2 ≤ ((20 : Nat) : Int) := by omega
theorem vc_X4_addWish_7 {f_p f_wp p2 : Int} (h0 : f_p ≤ 6) (h1 : f_wp ≤ 4) (h2 : 0 ≤ f_p ∧ f_p ≤ 6) (h3 : 0 ≤ f_wp ∧ f_wp ≤ 4) (h4 : 2 ≤ p2 ∧ p2 ≤ 7) : (((f_p * 5) + f_wp) * 7) + p2 ≤ ((245 : Nat) : Int) := by omega
set_option maxRecDepth 4000 in
set_option maxHeartbeats 4000000 in
theorem c_X4_addWish {l : Launch} {D : va_G} {c : Nat → ClassId} {H0 : Heap} {sa : Nat × Nat × (Nat → Int32)} {w : mW} {μ : mM} (hw : mWF w) (hT : mT w μ) (hA1 : mAt w 2 2) {p2 : Int} (hp2 : 2 ≤ p2 ∧ p2 ≤ 7) {f_p : Int} (q_f_p : μ 2 ((0 : Int).toNat) = f_p) {f_wp : Int} (q_f_wp : μ 95 (f_p.toNat) = f_wp) (hq0 : f_p ≤ 6) (hq1 : f_wp ≤ 4) (hall : allLe μ 2 p2 6) : sC (gG l D c H0 sa) mX4_addWish 3 0 0 [.ref 94, .ref 2, iv p2] (mk w μ) (qI w [94010, 94011, 95999, 96999, 97999] μ (fun z μ1 => ((-2147483648) ≤ z ∧ z ≤ 2147483647) ∧ True)) := by
  refine sC.of rfl (by decide) (le_t rfl) ?_
  have ht_f_p : (0 ≤ f_p ∧ f_p ≤ 9) := by rw [← q_f_p]; exact hT 2 2 (A_2 hw) ((0 : Int).toNat)
  have ht_f_wp : (0 ≤ f_wp ∧ f_wp ≤ 5) := by rw [← q_f_wp]; exact hT 95 95 (A_95 hw) (f_p.toNat)
  have h1 : 0 ≤ f_p ∧ f_p ≤ 6 := (vc_X12_wish_34 hq0 ht_f_p)
  have h2 : 0 ≤ f_wp ∧ f_wp ≤ 4 := (vc_X4_addWish_2 hq1 ht_f_wp)
  refine mr_lvE (lv' := [(0, .ref 94), (1, .ref 2), (2, iv p2)]) rfl ?_
  refine sv_aload_n (pc := 0) dX4_addWish_0 rfl rfl ?_
  refine mr_iconst (pc := 1) (z := 0) dX4_addWish_1 ?_
  refine lk_2 (pc := 2) dX4_addWish_2 (A_2 hw) (rIx (n := 20) (rR (x := 0)) rfl) q_f_p ?_
  refine mr_istore_n (pc := 3) (lv' := [(3, iv f_p), (0, .ref 94), (1, .ref 2), (2, iv p2)]) dX4_addWish_3 rfl (by decide) rfl ?_
  refine mr_iload_n (pc := 4) (z := f_p) dX4_addWish_4 rfl rfl ?_
  refine mr_iconst (pc := 5) (z := 5) dX4_addWish_5 ?_
  refine mr_imul (pc := 6) (x := f_p) (y := 5) dX4_addWish_6 ?_
  refine sv_aload_n (pc := 7) dX4_addWish_7 rfl rfl ?_
  refine gf_X4_12 (pc := 8) dX4_addWish_8 wF_X4_11 (A_94 hw) hT ?_
  refine mr_iload_n (pc := 11) (z := f_p) dX4_addWish_11 rfl rfl ?_
  refine lk_95 (pc := 12) dX4_addWish_12 (A_95 hw) (rIx (n := 7) h1 rfl) q_f_wp ?_
  refine mr_iadd (pc := 13) (x := (f_p * 5)) (y := f_wp) dX4_addWish_13 ?_
  refine mr_istore (pc := 14) (lv' := [(4, iv ((f_p * 5) + f_wp)), (3, iv f_p), (0, .ref 94), (1, .ref 2), (2, iv p2)]) dX4_addWish_14 (by decide) rfl ?_
  refine sv_aload_n (pc := 16) dX4_addWish_16 rfl rfl ?_
  refine mr_iconst (pc := 17) (z := 0) dX4_addWish_17 ?_
  refine sv_aload_n (pc := 18) dX4_addWish_18 rfl rfl ?_
  refine gf_X4_0 (pc := 19) dX4_addWish_19 wF_X4_15 (A_94 hw) hT ?_
  refine mr_iload (pc := 22) (z := ((f_p * 5) + f_wp)) dX4_addWish_22 rfl ?_
  refine mr_bipush (pc := 24) (z := 7) dX4_addWish_24 (by decide) ?_
  refine mr_imul (pc := 26) (x := ((f_p * 5) + f_wp)) (y := 7) dX4_addWish_26 ?_
  refine mr_iload_n (pc := 27) (z := p2) dX4_addWish_27 rfl rfl ?_
  refine mr_acR (pc := 28) (sp := 0) (dp := (((f_p * 5) + f_wp) * 7)) (n := p2) dX4_addWish_28 wM_X4_46 wN_J_ac wS_J_ac wI_J_sys rfl (A_2 hw) rfl (A_96 hw) rfl vc_X4_addWish_3 (vc_X4_addWish_4 hq0 hq1 h1 h2) (vc_X4_addWish_5 hp2) (by have h := (A_2 hw).2.2.2 rfl; rw [h]; exact (vc_X4_addWish_6 hp2)) (by have h := (A_96 hw).2.2.2 rfl; rw [h]; exact (vc_X4_addWish_7 hq0 hq1 h1 h2 hp2)) (Nat.le_trans (A_2 hw).2.2.1 (le_t rfl)) (Nat.le_trans (A_96 hw).2.2.1 (le_t rfl)) (le_t rfl) (le_t rfl) (le_t rfl) hT (fun i j h1 h2 _ _ => ⟨(hT 2 2 (A_2 hw) i).1, hall (i : Int) (Int.natCast_nonneg i) (by omega)⟩) fun μ51 q52 T53 => ?_
  have F54 : mF [96999] w μ μ51 := mF.cell q52.1 (A_96 hw) rfl
  refine sv_aload_n (pc := 31) dX4_addWish_31 rfl rfl ?_
  refine gf_X4_1 (pc := 32) dX4_addWish_32 wF_X4_18 (A_94 hw) T53 ?_
  refine mr_iload (pc := 35) (z := ((f_p * 5) + f_wp)) dX4_addWish_35 rfl ?_
  refine mr_iload_n (pc := 37) (z := p2) dX4_addWish_37 rfl rfl ?_
  refine ss_97 (pc := 38) dX4_addWish_38 (A_97 hw) T53 (rIx (n := 35) (rAdd (e := 0) (f := 34) (rMulR (n := 5) (e := 0) (f := 30) h1 rfl) h2 rfl) rfl) (rW (c := 0) (d := 7) hp2 rfl) fun μ55 u56 T57 => ?_
  refine sv_aload_n (pc := 39) dX4_addWish_39 rfl rfl ?_
  refine gf_X4_12 (pc := 40) dX4_addWish_40 wF_X4_11 (A_94 hw) T57 ?_
  refine mr_iload_n (pc := 43) (z := f_p) dX4_addWish_43 rfl rfl ?_
  refine sv_dup2 (pc := 44) dX4_addWish_44 rfl rfl ?_
  refine lk_95 (pc := 45) dX4_addWish_45 (A_95 hw) (rIx (n := 7) h1 rfl) (u56.f (Or.inl (mAt.ne (A_97 hw) (A_95 hw) rfl)) (F54.f (A_95 hw) rfl q_f_wp)) ?_
  refine mr_iconst (pc := 46) (z := 1) dX4_addWish_46 ?_
  refine mr_iadd (pc := 47) (x := f_wp) (y := 1) dX4_addWish_47 ?_
  refine ss_95 (pc := 48) dX4_addWish_48 (A_95 hw) T57 (rIx (n := 7) h1 rfl) (rW (c := 0) (d := 5) (rAdd (e := 1) (f := 5) h2 (rR (x := 1)) rfl) rfl) fun μ58 u59 T60 => ?_
  refine sv_aload_n (pc := 49) dX4_addWish_49 rfl rfl ?_
  refine mr_iconst (pc := 50) (z := 0) dX4_addWish_50 ?_
  refine pf_X4_10 (pc := 51) dX4_addWish_51 wF_X4_52 (A_94 hw) T60 (rW (c := 0) (d := 1) (rR (x := 0)) rfl) fun μ61 u62 T63 => ?_
  refine sv_aload_n (pc := 54) dX4_addWish_54 rfl rfl ?_
  refine mr_iconst (pc := 55) (z := 0) dX4_addWish_55 ?_
  refine pf_X4_11 (pc := 56) dX4_addWish_56 wF_X4_56 (A_94 hw) T63 (rW (c := 0) (d := 1) (rR (x := 0)) rfl) fun μ64 u65 T66 => ?_
  refine sv_aload_n (pc := 59) dX4_addWish_59 rfl rfl ?_
  refine gf_X4_12 (pc := 60) dX4_addWish_60 wF_X4_11 (A_94 hw) T66 ?_
  refine mr_iload_n (pc := 63) (z := f_p) dX4_addWish_63 rfl rfl ?_
  refine lk_95 (pc := 64) dX4_addWish_64 (A_95 hw) (rIx (n := 7) h1 rfl) (u65.f (Or.inl (mAt.ne (A_94 hw) (A_95 hw) rfl)) (u62.f (Or.inl (mAt.ne (A_94 hw) (A_95 hw) rfl)) u59.1)) ?_
  exact mr_iret dX4_addWish_65 rfl (le_t rfl) (le_t rfl) T66 (mF.up (mF.up (mF.up (mF.up (mF.call mF.refl F54 rfl) (A_97 hw) u56 rfl) (A_95 hw) u59 rfl) (A_94 hw) u62 rfl) (A_94 hw) u65 rfl) ⟨(rW (c := (-2147483648)) (d := 2147483647) (rAdd (e := 1) (f := 5) h2 (rR (x := 1)) rfl) rfl), trivial⟩
theorem vc_X11_wish_1 {z1 z8 : Int} (h0 : ¬ z8 = 0) (h1 : (z8 = 1 → 2 ≤ z1 ∧ z1 ≤ 7)) (h2 : 0 ≤ z1 ∧ z1 ≤ 20) (h3 : 0 ≤ z8 ∧ z8 ≤ 1) : 1 ≤ z8 ∧ z8 ≤ 1 := by omega
theorem vc_X11_wish_2 {z1 z8 : Int} (h0 : (z8 = 1 → 2 ≤ z1 ∧ z1 ≤ 7)) (h1 : ¬ z8 = 0) (h2 : 0 ≤ z1 ∧ z1 ≤ 20) (h3 : 1 ≤ z8 ∧ z8 ≤ 1) : z8 = 1 := by omega
theorem vc_X11_wish_3 {z1 z8 : Int} (h0 : 2 ≤ z1 ∧ z1 ≤ 7) (h1 : (z8 = 1 → 2 ≤ z1 ∧ z1 ≤ 7)) (h2 : 0 ≤ z1 ∧ z1 ≤ 20) (h3 : 1 ≤ z8 ∧ z8 ≤ 1) : 2 ≤ z1 ∧ z1 ≤ 7 := by omega
theorem vc_X11_wish_4 {z1 z8 : Int} (h0 : (z8 = 1 → 2 ≤ z1 ∧ z1 ≤ 7)) (h1 : ¬ z8 = 0) (h2 : 2 ≤ z1 ∧ z1 ≤ 7) (h3 : 1 ≤ z8 ∧ z8 ≤ 1) : z8 = 1 := by omega
theorem vc_X11_wish_5 {z1 z8 : Int} (h0 : (z8 = 1 → 2 ≤ z1 ∧ z1 ≤ 7)) (h1 : 2 ≤ z1 ∧ z1 ≤ 7) (h2 : ¬ z8 = 0) (h3 : 1 ≤ z8 ∧ z8 ≤ 1) : 0 < z1 := by omega
theorem vc_X11_wish_8 {z22 : Int} (h0 : z22 < 0) (h1 : (-1) ≤ z22 ∧ z22 ≤ 4) : (-1) ≤ z22 ∧ z22 ≤ (-1) := by omega
theorem vc_X11_wish_9 {z25 : Int} (h0 : z25 < 5) (h1 : 0 ≤ z25 ∧ z25 ≤ 5) : 0 ≤ z25 ∧ z25 ≤ 4 := by omega
theorem vc_X11_wish_10 {z25 : Int} (h0 : z25 < 5) (h1 : 0 ≤ z25 ∧ z25 ≤ 4) : z25 ≤ 4 := by omega
theorem vc_X11_wish_11 {z25 : Int} (h0 : 5 ≤ z25) (h1 : 0 ≤ z25 ∧ z25 ≤ 5) : 5 ≤ z25 ∧ z25 ≤ 5 := by omega
theorem vc_X11_wish_12 {z22 : Int} (h0 : 0 ≤ z22) (h1 : (-1) ≤ z22 ∧ z22 ≤ 4) : 0 ≤ z22 ∧ z22 ≤ 4 := by omega
theorem vc_X11_wish_13 {z1 z8 : Int} (h0 : z8 = 0) (h1 : (z8 = 1 → 2 ≤ z1 ∧ z1 ≤ 7)) (h2 : 0 ≤ z1 ∧ z1 ≤ 20) (h3 : 0 ≤ z8 ∧ z8 ≤ 1) : 0 ≤ z8 ∧ z8 ≤ 0 := by omega
set_option maxRecDepth 4000 in
set_option maxHeartbeats 4000000 in
theorem c_X11_wish {l : Launch} {D : va_G} {c : Nat → ClassId} {H0 : Heap} {sa : Nat × Nat × (Nat → Int32)} {w : mW} {μ : mM} (hw : mWF w) (hT : mT w μ) : sC (gG l D c H0 sa) mX11_wish 4 0 0 [.ref 0] (mk w μ) (qI w [94010, 94011, 95999, 96999, 97999] μ (fun z μ1 => ((-2147483648) ≤ z ∧ z ≤ 2147483647) ∧ True)) := by
  refine sC.of rfl (by decide) (le_t rfl) ?_
  refine mr_lvE (lv' := [(0, .ref 0)]) rfl ?_
  refine sv_aload_n (pc := 0) dX11_wish_0 rfl rfl ?_
  refine gf_X11_1 (pc := 1) dX11_wish_1 wF_X11_13 (A_0 hw) hT ?_
  refine sv_aload_n (pc := 4) dX11_wish_4 rfl rfl ?_
  refine gf_X11_11 (pc := 5) dX11_wish_5 wF_X11_169 (A_0 hw) hT fun z1 q2 h3 => ?_
  refine mr_cSP (pc := 8) (c_X4_isWish_r hw hT (A_2 hw) h3) (gOk _ _ _ _ _) dX11_wish_8 (tX4_isWish _ _ _ _ _) wS_X4_isWish wM_X11_397 ⟨le_t rfl, le_t rfl⟩ ⟨le_t rfl, le_t rfl⟩ rfl (le_t rfl) fun z8 h7 => ?_
  refine mr_if_ne (pc := 11) (tgt := 16) dX11_wish_11 (by decide) (r32 h7.1 rfl) (fun h9 => ?_) (fun h9 => ?_)
  · have h10 : 1 ≤ z8 ∧ z8 ≤ 1 := (vc_X11_wish_1 h9 h7.2.1 h3 h7.1)
    have h11 : 2 ≤ z1 ∧ z1 ≤ 7 := (h7.2.1 (vc_X11_wish_2 h7.2.1 h9 h3 h10))
    have h12 : 2 ≤ z1 ∧ z1 ≤ 7 := (vc_X11_wish_3 h11 h7.2.1 h3 h10)
    obtain ⟨z13, q14⟩ : ∃ z, μ 2 ((0 : Int).toNat) = z := ⟨_, rfl⟩
    have h15 : (0 ≤ z13 ∧ z13 ≤ 9) := by rw [← q14]; exact hT 2 2 (A_2 hw) ((0 : Int).toNat)
    have h16 : z13 ≤ 6 := allLe.at (h7.2.2.1 (vc_X11_wish_4 h7.2.1 h9 h11 h10)) (e := 0) (by decide) (vc_X11_wish_5 h7.2.1 h11 h9 h10) q14
    have h17 : 0 ≤ z13 ∧ z13 ≤ 6 := (vc_X12_wish_34 h16 h15)
    refine sv_aload_n (pc := 16) dX11_wish_16 rfl rfl ?_
    refine gf_X11_9 (pc := 17) dX11_wish_17 wF_X11_72 (A_0 hw) hT ?_
    refine sv_aload_n (pc := 20) dX11_wish_20 rfl rfl ?_
    refine gf_X11_1 (pc := 21) dX11_wish_21 wF_X11_13 (A_0 hw) hT ?_
    refine mr_iconst (pc := 24) (z := 0) dX11_wish_24 ?_
    refine sv_aload_n (pc := 25) dX11_wish_25 rfl rfl ?_
    refine gk_X11_11 (pc := 26) dX11_wish_26 wF_X11_169 (A_0 hw) q2 ?_
    refine mr_cVP (pc := 29) (c_X4_find_h hw hT (A_2 hw) (rR (x := 0)) (rW (c := 0) (d := 7) h12 rfl) q14 (vc_X12_wish_60 h16 h17)) (gOk _ _ _ _ _) dX11_wish_29 (tX4_find _ _ _ _ _) ⟨wV_X4_find, wL_X4_find⟩ wM_X11_401 (gCX4 _ _ _ _ _) rfl (A_94 hw) rfl ⟨le_t rfl, le_t rfl⟩ ⟨le_t rfl, le_t rfl⟩ rfl (le_t rfl) fun z22 h21 => ?_
    refine mr_if_lt (pc := 32) (tgt := 38) dX11_wish_32 (by decide) (r32 h21.1 rfl) (fun h23 => ?_) (fun h23 => ?_)
    · have h24 : (-1) ≤ z22 ∧ z22 ≤ (-1) := (vc_X11_wish_8 h23 h21.1)
      refine sv_aload_n (pc := 38) dX11_wish_38 rfl rfl ?_
      refine gf_X11_9 (pc := 39) dX11_wish_39 wF_X11_72 (A_0 hw) hT ?_
      refine gf_X4_12 (pc := 42) dX11_wish_42 wF_X11_405 (A_94 hw) hT ?_
      refine sv_aload_n (pc := 45) dX11_wish_45 rfl rfl ?_
      refine gf_X11_1 (pc := 46) dX11_wish_46 wF_X11_13 (A_0 hw) hT ?_
      refine mr_iconst (pc := 49) (z := 0) dX11_wish_49 ?_
      refine lk_2 (pc := 50) dX11_wish_50 (A_2 hw) (rIx (n := 20) (rR (x := 0)) rfl) q14 ?_
      refine la_95 (pc := 51) dX11_wish_51 (A_95 hw) hT (rIx (n := 7) h17 rfl) fun z25 q26 h27 => ?_
      refine mr_iconst (pc := 52) (z := 5) dX11_wish_52 ?_
      refine mr_icmp_lt (pc := 53) (tgt := 59) dX11_wish_53 (by decide) (r32 h27 rfl) (r32 (rR (x := 5)) rfl) (fun h28 => ?_) (fun h28 => ?_)
      · have h29 : 0 ≤ z25 ∧ z25 ≤ 4 := (vc_X11_wish_9 h28 h27)
        refine sv_aload_n (pc := 59) dX11_wish_59 rfl rfl ?_
        refine gf_X11_9 (pc := 60) dX11_wish_60 wF_X11_72 (A_0 hw) hT ?_
        refine sv_aload_n (pc := 63) dX11_wish_63 rfl rfl ?_
        refine gf_X11_1 (pc := 64) dX11_wish_64 wF_X11_13 (A_0 hw) hT ?_
        refine sv_aload_n (pc := 67) dX11_wish_67 rfl rfl ?_
        refine gk_X11_11 (pc := 68) dX11_wish_68 wF_X11_169 (A_0 hw) q2 ?_
        refine mr_cVI (pc := 71) (c_X4_addWish hw hT (A_2 hw) h12 q14 q26 (vc_X12_wish_60 h16 h17) (vc_X11_wish_10 h28 h29) (h7.2.2.1 (vc_X11_wish_4 h7.2.1 h9 h11 h10))) (gOk _ _ _ _ _) dX11_wish_71 (tX4_addWish _ _ _ _ _) ⟨wV_X4_addWish, wL_X4_addWish⟩ wM_X11_408 (gCX4 _ _ _ _ _) rfl (A_94 hw) rfl ⟨le_t rfl, le_t rfl⟩ ⟨le_t rfl, le_t rfl⟩ rfl (le_t rfl) fun z34 μ30 T31 F32 h33 => ?_
        exact mr_iret dX11_wish_74 rfl (le_t rfl) (le_t rfl) T31 (mF.call mF.refl F32 rfl) ⟨h33.1, trivial⟩
      have h35 : 5 ≤ z25 ∧ z25 ≤ 5 := (vc_X11_wish_11 h28 h27)
      refine mr_bipush (pc := 56) (z := (-3)) dX11_wish_56 (by decide) ?_
      exact mr_iret dX11_wish_58 rfl (le_t rfl) (le_t rfl) hT mF.refl ⟨(rW (c := (-2147483648)) (d := 2147483647) (rR (x := (-3))) rfl), trivial⟩
    have h36 : 0 ≤ z22 ∧ z22 ≤ 4 := (vc_X11_wish_12 h23 h21.1)
    refine mr_bipush (pc := 35) (z := (-2)) dX11_wish_35 (by decide) ?_
    exact mr_iret dX11_wish_37 rfl (le_t rfl) (le_t rfl) hT mF.refl ⟨(rW (c := (-2147483648)) (d := 2147483647) (rR (x := (-2))) rfl), trivial⟩
  have h37 : 0 ≤ z8 ∧ z8 ≤ 0 := (vc_X11_wish_13 h9 h7.2.1 h3 h7.1)
  refine mr_iconst (pc := 14) (z := (-1)) dX11_wish_14 ?_
  exact mr_iret dX11_wish_15 rfl (le_t rfl) (le_t rfl) hT mF.refl ⟨(rW (c := (-2147483648)) (d := 2147483647) (rR (x := (-1))) rfl), trivial⟩
end
section
/-! Memory that grows: new cells behind the old ones. -/
def wE (w w1 : mW) : Prop := w.1 ≤ w1.1 ∧ (∀ a, a < w.1 → w1.2.1 a = w.2.1 a ∧ w1.2.2.1 a = w.2.2.1 a) ∧ ∀ a, w.1 ≤ a → a < w1.1 → 100 < w1.2.1 a
theorem wE.refl {w : mW} : wE w w := ⟨Nat.le_refl _, fun _ _ => ⟨rfl, rfl⟩, fun _ h1 h2 => absurd h2 (Nat.not_lt.mpr h1)⟩
theorem wE.trans {w w1 w2 : mW} (h : wE w w1) (g : wE w1 w2) : wE w w2 := by
  refine ⟨Nat.le_trans h.1 g.1, fun a ha => ⟨(g.2.1 a (Nat.lt_of_lt_of_le ha h.1)).1.trans (h.2.1 a ha).1, (g.2.1 a (Nat.lt_of_lt_of_le ha h.1)).2.trans (h.2.1 a ha).2⟩, fun a h1 h2 => ?_⟩
  by_cases q : a < w1.1
  · rw [(g.2.1 a q).1]; exact h.2.2 a h1 q
  · exact g.2.2 a (Nat.not_lt.mp q) h2
theorem mAt.ext {w w1 : mW} {a s : Nat} (h : wE w w1) (hA : mAt w a s) : mAt w1 a s := by
  obtain ⟨h1, h2, h3, h4⟩ := hA
  obtain ⟨e1, e2⟩ := h.2.1 a h2
  exact ⟨e1.trans h1, Nat.lt_of_lt_of_le h2 h.1, by rw [e2]; exact h3, fun v => by rw [e2]; exact h4 v⟩
theorem mAt.back {w w1 : mW} {a s : Nat} (h : wE w w1) (ha : a < w.1) (hA : mAt w1 a s) : mAt w a s := by
  obtain ⟨h1, h2, h3, h4⟩ := hA
  obtain ⟨e1, e2⟩ := h.2.1 a ha
  exact ⟨e1 ▸ h1, ha, by rw [← e2]; exact h3, fun v => by rw [← e2]; exact h4 v⟩
theorem mWF.ext {w w1 : mW} (h : wE w w1) (hw : mWF w) : mWF w1 := by
  have lt : ∀ a, a < 192 → a < w.1 := fun a ha => Nat.lt_of_lt_of_le ha hw.2.1
  refine ⟨fun a ha => (h.2.1 a (lt a ha)).1.trans (hw.1 a ha), Nat.le_trans hw.2.1 h.1, fun a ha v => (h.2.1 a (lt a ha)).2.trans (hw.2.2.1 a ha v), fun a ha => by rw [(h.2.1 a (lt a ha)).2]; exact hw.2.2.2.1 a ha, fun a h1 h2 => ?_⟩
  by_cases q : a < w.1
  · rw [(h.2.1 a q).1]; exact hw.2.2.2.2 a h1 q
  · exact h.2.2 a (Nat.not_lt.mp q) h2
theorem tyP.ext {w w1 : mW} {a i : Nat} {d : Nat × Int × Int} {z : Int} (h : wE w w1) (hc : w1.2.2.2 = w.2.2.2) (t : tyP w a i d z) : tyP w1 a i d z := by
  obtain ⟨k, x, y⟩ := d
  have e : ∀ j, w1.2.2.2 j = w.2.2.2 j := fun j => by rw [hc]
  match k, t with
  | 0, t => exact t
  | 1, t => exact ⟨t.1, t.2.ext h⟩
  | 2, t => exact ⟨t.1, t.2.ext h⟩
  | 3, t => exact t.imp id (fun q => ⟨q.1, q.2.ext h⟩)
  | 4, t => exact ⟨t.1, t.2.ext h⟩
  | 5, t => exact t
  | 6, t => exact t
  | 7, t => exact t
  | 8, t => exact ⟨fun q => by have g := t.1 (by rw [← e]; exact q); exact ⟨g.1, g.2.ext h⟩, fun q => t.2 (by rw [← e]; exact q)⟩
  | 9, t => exact ⟨by rw [e]; exact t.1, t.2⟩
  | 10, t => exact ⟨t.1, t.2.1, by rw [e]; exact t.2.2⟩
  | 11, t => exact ⟨t.1, t.2.1, by rw [e]; exact t.2.2⟩
  | 12, t => exact ⟨t.1, t.2.1, by rw [e]; exact t.2.2⟩
  | 13, t => exact ⟨t.1, t.2.1, by rw [e]; exact t.2.2⟩
  | _ + 14, t => exact ⟨t.1, by rw [e]; exact t.2⟩
/-- frames over growth -/
def mX (l : List Nat) (w : mW) (μ : mM) (w1 : mW) (μ1 : mM) : Prop := wE w w1 ∧ ∀ a i, a < w.1 → l.elem (mRg w a i) = false → μ1 a i = μ a i
theorem mX.refl {l : List Nat} {w : mW} {μ : mM} : mX l w μ w μ := ⟨wE.refl, fun _ _ _ _ => rfl⟩
theorem mX.fr {l l' : List Nat} {w w1 : mW} {μ μ1 μ2 : mM} (h : mX l w μ w1 μ1) (h' : mF l' w1 μ1 μ2) (hs : (l'.all fun x => l.elem x) = true) : mX l w μ w1 μ2 := by
  refine ⟨h.1, fun a i ha hl => ?_⟩
  rw [← h.2 a i ha hl]
  refine h' a i ?_
  have er : mRg w1 a i = mRg w a i := by simp only [mRg, (h.1.2.1 a ha).1]
  rw [er]
  cases hq : l'.elem (mRg w a i) with
  | false => rfl
  | true =>
    have := (List.all_eq_true.mp hs) _ (List.elem_iff.mp hq)
    rw [hl] at this; cases this
theorem mX.trans {l l' : List Nat} {w w1 w2 : mW} {μ μ1 μ2 : mM} (h : mX l w μ w1 μ1) (h' : mX l' w1 μ1 w2 μ2) (hs : (l'.all fun x => l.elem x) = true) : mX l w μ w2 μ2 := by
  refine ⟨h.1.trans h'.1, fun a i ha hl => ?_⟩
  rw [← h.2 a i ha hl]
  refine h'.2 a i (Nat.lt_of_lt_of_le ha h.1.1) ?_
  have er : mRg w1 a i = mRg w a i := by simp only [mRg, (h.1.2.1 a ha).1]
  rw [er]
  cases hq : l'.elem (mRg w a i) with
  | false => rfl
  | true =>
    have := (List.all_eq_true.mp hs) _ (List.elem_iff.mp hq)
    rw [hl] at this; cases this
theorem mX.f {l : List Nat} {w w1 : mW} {μ μ1 : mM} {a s k : Nat} {z : Int} (h : mX l w μ w1 μ1) (hA : mAt w a s) (hl : l.elem (1000 * s + (if mArr s then 999 else k)) = false) (q : μ a k = z) : μ1 a k = z := by
  rw [← q]; exact h.2 a k hA.2.1 (by simp only [mRg, hA.1]; exact hl)
theorem mX.len {l : List Nat} {w w1 : mW} {μ μ1 : mM} {a s : Nat} {n : Int} (h : mX l w μ w1 μ1) (hA : mAt w a s) (q : (w.2.2.1 a : Int) = n) : (w1.2.2.1 a : Int) = n := by
  rw [(h.1.2.1 a hA.2.1).2]; exact q
/-- one cell more, of shape s, n long, filled by v -/
def wNew (w : mW) (s n : Nat) : mW := (w.1 + 1, fun a => if a = w.1 then s else w.2.1 a, fun a => if a = w.1 then n else w.2.2.1 a, w.2.2.2)
def mNew (μ : mM) (a : Nat) (v : Nat → Int) : mM := fun b j => if b = a then v j else μ b j
theorem wNew.ext {w : mW} {s n : Nat} (hs : 100 < s) : wE w (wNew w s n) := ⟨Nat.le_succ _, fun a ha => ⟨if_neg (Nat.ne_of_lt ha), if_neg (Nat.ne_of_lt ha)⟩, fun a h1 h2 => by
  have e : a = w.1 := by have : a < w.1 + 1 := h2; omega
  subst e
  rw [show (wNew w s n).2.1 w.1 = s from if_pos rfl]; exact hs⟩
theorem mVar_gt {s : Nat} (h : mVar s = true) : 100 < s := by
  unfold mVar at h
  have h := List.elem_iff.mp h
  simp at h
  omega
theorem wNew.at {w : mW} {s n : Nat} (h : n ≤ mLen s) (hv : mVar s = false → n = mLen s) : mAt (wNew w s n) w.1 s := ⟨if_pos rfl, Nat.lt_succ_self _, by rw [show (wNew w s n).2.2.1 w.1 = n from if_pos rfl]; exact h, fun q => by rw [show (wNew w s n).2.2.1 w.1 = n from if_pos rfl]; exact hv q⟩
theorem mNew.x {l : List Nat} {w : mW} {μ : mM} {s n : Nat} {v : Nat → Int} (hs : 100 < s) : mX l w μ (wNew w s n) (mNew μ w.1 v) := ⟨wNew.ext hs, fun a _ ha _ => if_neg (Nat.ne_of_lt ha)⟩
theorem mT.new {w : mW} {μ : mM} {s n : Nat} {v : Nat → Int} (hs : 100 < s) (hT : mT w μ) (hv : ∀ i, tyP (wNew w s n) w.1 i (mTy s i) (v i)) : mT (wNew w s n) (mNew μ w.1 v) := by
  intro a t hA i
  by_cases h : a = w.1
  · subst h
    have e : t = s := by have h1 := hA.1; rw [show (wNew w s n).2.1 w.1 = s from if_pos rfl] at h1; exact h1.symm
    subst e
    rw [show mNew μ w.1 v w.1 i = v i from if_pos rfl]; exact hv i
  · have ha : a < w.1 := by have := hA.2.1; have e : (wNew w s n).1 = w.1 + 1 := rfl; omega
    rw [show mNew μ w.1 v a i = μ a i from if_neg h]
    exact (hT a t (hA.back (wNew.ext hs) ha) i).ext (wNew.ext hs) rfl
theorem mkNew {w : mW} {μ : mM} {s n : Nat} {v : Nat → Int} : ∀ j, j < w.1 + 1 → sUp (mk w μ).2 w.1 (mCell (mTab s) n v) j = (mk (wNew w s n) (mNew μ w.1 v)).2 j := by
  intro j hj
  by_cases h : j = w.1
  · subst h
    rw [sUp_at]
    have e : mNew μ w.1 v w.1 = v := by funext i; exact if_pos rfl
    simp only [mk, wNew, e, if_true]
  · rw [sUp_ne _ _ h]
    have e : mNew μ w.1 v j = μ j := by funext i; simp only [mNew, if_neg h]
    simp only [mk, wNew, e, if_neg h]
section MV25
variable {g : sG} {M : sM} {R : Room} {Z : sZT} {pc : Nat} {lv : List (Nat × Value)} {st : List Value} {w : mW} {μ : mM} {ce sl : Nat}
/-- a new row of ints of a shape whose length may change -/
theorem mr_newI {s : Nat} {x : Int} {cA : ClassId} (hd : decode M.2.1 pc = .ok (.newarray .int, 2)) (hw : Cond.arrayClass .int ∈ sg_ws g) (ht : g.2.2.1[0]? = some (cA, .int)) (hra : ∀ U : State, va_RA U cA .int → U.vm.findClass ("[" ++ FieldType.int.toString) = some cA) (hs : mTab s = .inr (0, 0)) (hx : 0 ≤ x ∧ x ≤ (mLen s : Int)) (hL : mLen s ≤ 100000) (hvar : mVar s = true) (hT : mT w μ) (hty : ∀ i, tyP (wNew w s x.toNat) w.1 i (mTy s i) 0) (hc1 : ce + 1 ≤ R.cells) (hs1 : sl + x.toNat ≤ R.slots)
    (kk : ∀ w1 μ1, mX [] w μ w1 μ1 → mT w1 μ1 → mAt w1 w.1 s → w1.1 = w.1 + 1 → (w1.2.2.1 w.1 : Int) = x → w1.2.2.2 = w.2.2.2 → (∀ i, μ1 w.1 i = 0) → sV g M R Z (pc + 2) lv (.ref w.1 :: st) (mk w1 μ1) (ce + 1) (sl + x.toNat)) : sV g M R Z pc lv (iv x :: st) (mk w μ) ce sl := by
  have hn : (Int32.ofInt x).toNatClampNeg = x.toNat := iv_nat (n := mLen s + 1) (by omega) (by omega)
  refine sv_newarray (kd := 0) (ty := .int) (v := iv 0) (N := x.toNat) hd rfl hw ht hra ?_ hn ?_ (fun _ => rfl) hc1 hs1 ?_
  · intro q
    have : Int32.ofInt x < Int32.ofInt 0 := q
    rw [iv_lt (by omega) (by omega)] at this; omega
  · show x.toNat * 4 ≤ 536870912
    omega
  · refine sv_heap (hp' := mk (wNew w s x.toNat) (mNew μ w.1 (fun _ => 0))) rfl (fun j hj => ?_) (kk _ _ (mNew.x (mVar_gt hvar)) (mT.new (mVar_gt hvar) hT hty) (wNew.at (by omega) (fun q => by rw [hvar] at q; cases q)) rfl ?_ rfl (fun i => if_pos rfl))
    · rw [← mkNew (μ := μ) (s := s) j hj, hs]; rfl
    · rw [show (wNew w s x.toNat).2.2.1 w.1 = x.toNat from if_pos rfl]; omega
/-- a new row of bytes of a shape whose length may change -/
theorem mr_newB {s : Nat} {x : Int} {cA : ClassId} (hd : decode M.2.1 pc = .ok (.newarray .byte, 2)) (hw : Cond.arrayClass .byte ∈ sg_ws g) (ht : g.2.2.1[2]? = some (cA, .byte)) (hra : ∀ U : State, va_RA U cA .byte → U.vm.findClass ("[" ++ FieldType.byte.toString) = some cA) (hs : mTab s = .inr (2, 0)) (hx : 0 ≤ x ∧ x ≤ (mLen s : Int)) (hL : mLen s ≤ 100000) (hvar : mVar s = true) (hT : mT w μ) (hty : ∀ i, tyP (wNew w s x.toNat) w.1 i (mTy s i) 0) (hc1 : ce + 1 ≤ R.cells) (hs1 : sl + x.toNat ≤ R.slots)
    (kk : ∀ w1 μ1, mX [] w μ w1 μ1 → mT w1 μ1 → mAt w1 w.1 s → w1.1 = w.1 + 1 → (w1.2.2.1 w.1 : Int) = x → w1.2.2.2 = w.2.2.2 → (∀ i, μ1 w.1 i = 0) → sV g M R Z (pc + 2) lv (.ref w.1 :: st) (mk w1 μ1) (ce + 1) (sl + x.toNat)) : sV g M R Z pc lv (iv x :: st) (mk w μ) ce sl := by
  have hn : (Int32.ofInt x).toNatClampNeg = x.toNat := iv_nat (n := mLen s + 1) (by omega) (by omega)
  refine sv_newarray (kd := 2) (ty := .byte) (v := iv 0) (N := x.toNat) hd rfl hw ht hra ?_ hn ?_ (fun _ => rfl) hc1 hs1 ?_
  · intro q
    have : Int32.ofInt x < Int32.ofInt 0 := q
    rw [iv_lt (by omega) (by omega)] at this; omega
  · show x.toNat * 1 ≤ 536870912
    omega
  · refine sv_heap (hp' := mk (wNew w s x.toNat) (mNew μ w.1 (fun _ => 0))) rfl (fun j hj => ?_) (kk _ _ (mNew.x (mVar_gt hvar)) (mT.new (mVar_gt hvar) hT hty) (wNew.at (by omega) (fun q => by rw [hvar] at q; cases q)) rfl ?_ rfl (fun i => if_pos rfl))
    · rw [← mkNew (μ := μ) (s := s) j hj, hs]; rfl
    · rw [show (wNew w s x.toNat).2.2.1 w.1 = x.toNat from if_pos rfl]; omega
end MV25
end
section
/-! Contracts of methods that make cells: the world behind them is another. -/
def qVx (w : mW) (l : List Nat) (μ : mM) (P : mW → mM → Prop) : Option Value → sHp → Prop := fun r hp => ∃ w1 μ1, r = none ∧ hp = mk w1 μ1 ∧ mWF w1 ∧ mT w1 μ1 ∧ mX l w μ w1 μ1 ∧ P w1 μ1
def qIx (w : mW) (l : List Nat) (μ : mM) (P : Int → mW → mM → Prop) : Option Value → sHp → Prop := fun r hp => ∃ z w1 μ1, r = some (iv z) ∧ hp = mk w1 μ1 ∧ mWF w1 ∧ mT w1 μ1 ∧ mX l w μ w1 μ1 ∧ P z w1 μ1
def qRx (w : mW) (l : List Nat) (μ : mM) (P : Nat → mW → mM → Prop) : Option Value → sHp → Prop := fun r hp => ∃ b w1 μ1, r = some (.ref b) ∧ hp = mk w1 μ1 ∧ mWF w1 ∧ mT w1 μ1 ∧ mX l w μ w1 μ1 ∧ P b w1 μ1
section MV26
variable {g : sG} {M M' : sM} {R : Room} {Z : sZT} {pc d' C S C' S' : Nat} {lv : List (Nat × Value)} {st st0 av : List Value} {w w1 : mW} {μ μ1 : mM} {ce sl : Nat} {l : List Nat}
theorem mr_vretX {P : mW → mM → Prop} (hd : decode M.2.1 pc = .ok (.return_, 1)) (hret : M.2.2.2 = none) (hc : ce ≤ C) (hs : sl ≤ S) (hw : mWF w1) (hT : mT w1 μ1) (hX : mX l w μ w1 μ1) (hP : P w1 μ1) : sV g M R (sZ g C S (qVx w l μ P)) pc lv [] (mk w1 μ1) ce sl := sv_vret hd hret hc hs ⟨w1, μ1, rfl, rfl, hw, hT, hX, hP⟩
theorem mr_iretX {z : Int} {P : Int → mW → mM → Prop} (hd : decode M.2.1 pc = .ok (.ireturn, 1)) (hret : M.2.2.2 = some .int) (hc : ce ≤ C) (hs : sl ≤ S) (hw : mWF w1) (hT : mT w1 μ1) (hX : mX l w μ w1 μ1) (hP : P z w1 μ1) : sV g M R (sZ g C S (qIx w l μ P)) pc lv [iv z] (mk w1 μ1) ce sl := sv_iret hd hret hc hs ⟨z, w1, μ1, rfl, rfl, hw, hT, hX, hP⟩
theorem mr_aretX {b : Nat} {C0 : String} {P : Nat → mW → mM → Prop} (hd : decode M.2.1 pc = .ok (.areturn, 1)) (hret : M.2.2.2 = some (.object C0)) (hc : ce ≤ C) (hs : sl ≤ S) (hw : mWF w1) (hT : mT w1 μ1) (hX : mX l w μ w1 μ1) (hP : P b w1 μ1) : sV g M R (sZ g C S (qRx w l μ P)) pc lv [.ref b] (mk w1 μ1) ce sl := sv_aret hd hret hc hs ⟨b, w1, μ1, rfl, rfl, hw, hT, hX, hP⟩
theorem mr_aretAX {b : Nat} {t0 : FieldType} {P : Nat → mW → mM → Prop} (hd : decode M.2.1 pc = .ok (.areturn, 1)) (hret : M.2.2.2 = some (.array t0)) (hc : ce ≤ C) (hs : sl ≤ S) (hw : mWF w1) (hT : mT w1 μ1) (hX : mX l w μ w1 μ1) (hP : P b w1 μ1) : sV g M R (sZ g C S (qRx w l μ P)) pc lv [.ref b] (mk w1 μ1) ce sl := sv_aretA hd hret hc hs ⟨b, w1, μ1, rfl, rfl, hw, hT, hX, hP⟩
theorem mr_cVVX {index ci a s : Nat} {T : vw_C} {ty : Nat → FieldType} {ks : List Nat} {P : mW → mM → Prop} (hct : sC g M' d' C' S' (.ref a :: av) (mk w μ) (qVx w l μ P)) (ho : sOk g) (hd : decode M.2.1 pc = .ok (.invokevirtual index, 3)) (hm : sMt g M' av.length) (hi : Cond.instanceMethod M'.1 ∈ sg_ws g ∧ Cond.selects M'.1.cls M'.1 M'.1 ∈ sg_ws g) (hlk : Cond.methodLink M.1.cls index M'.1 ∈ sg_ws g) (hC : sCl g ci T ty) (hT1 : T.1 = M'.1.cls) (hA : mAt w a s) (hs : mTab s = .inl (ci, ks)) (hR : d' + 1 ≤ R.frames ∧ 60 * d' + M'.2.2.1 + 19 ≤ R.locals) (hce : ce + C' ≤ R.cells ∧ sl + S' ≤ R.slots) (hst : st0 = av.reverse ++ .ref a :: st) (hr8 : (st.map fun v => v.category).sum ≤ 8)
    (kt : ∀ w1 μ1, mWF w1 → mT w1 μ1 → mX l w μ w1 μ1 → P w1 μ1 → sV g M R Z (pc + 3) lv st (mk w1 μ1) (ce + C') (sl + S')) : sV g M R Z pc lv st0 (mk w μ) ce sl :=
  sv_callV hct ho hd hm hi hlk hC hT1 hA.2.1 (mk_obj hA hs) hR hce hst hr8 (by
    rintro r hp' ⟨w1, μ1, rfl, rfl, h0, h1, h2, h3⟩
    exact kt w1 μ1 h0 h1 h2 h3)
theorem mr_cVIX {index ci a s : Nat} {T : vw_C} {ty : Nat → FieldType} {ks : List Nat} {P : Int → mW → mM → Prop} (hct : sC g M' d' C' S' (.ref a :: av) (mk w μ) (qIx w l μ P)) (ho : sOk g) (hd : decode M.2.1 pc = .ok (.invokevirtual index, 3)) (hm : sMt g M' av.length) (hi : Cond.instanceMethod M'.1 ∈ sg_ws g ∧ Cond.selects M'.1.cls M'.1 M'.1 ∈ sg_ws g) (hlk : Cond.methodLink M.1.cls index M'.1 ∈ sg_ws g) (hC : sCl g ci T ty) (hT1 : T.1 = M'.1.cls) (hA : mAt w a s) (hs : mTab s = .inl (ci, ks)) (hR : d' + 1 ≤ R.frames ∧ 60 * d' + M'.2.2.1 + 19 ≤ R.locals) (hce : ce + C' ≤ R.cells ∧ sl + S' ≤ R.slots) (hst : st0 = av.reverse ++ .ref a :: st) (hr8 : (st.map fun v => v.category).sum ≤ 8)
    (kt : ∀ z w1 μ1, mWF w1 → mT w1 μ1 → mX l w μ w1 μ1 → P z w1 μ1 → sV g M R Z (pc + 3) lv (iv z :: st) (mk w1 μ1) (ce + C') (sl + S')) : sV g M R Z pc lv st0 (mk w μ) ce sl :=
  sv_callV hct ho hd hm hi hlk hC hT1 hA.2.1 (mk_obj hA hs) hR hce hst hr8 (by
    rintro r hp' ⟨z, w1, μ1, rfl, rfl, h0, h1, h2, h3⟩
    exact kt z w1 μ1 h0 h1 h2 h3)
theorem mr_cSRX {index : Nat} {P : Nat → mW → mM → Prop} (hct : sC g M' d' C' S' av (mk w μ) (qRx w l μ P)) (ho : sOk g) (hd : decode M.2.1 pc = .ok (.invokestatic index, 3)) (hm : sMt g M' av.length) (hi : Cond.static M'.1 ∈ sg_ws g) (hlk : Cond.methodLink M.1.cls index M'.1 ∈ sg_ws g) (hR : d' + 1 ≤ R.frames ∧ 60 * d' + M'.2.2.1 + 19 ≤ R.locals) (hce : ce + C' ≤ R.cells ∧ sl + S' ≤ R.slots) (hst : st0 = av.reverse ++ st) (hr8 : (st.map fun v => v.category).sum ≤ 8)
    (kt : ∀ b w1 μ1, mWF w1 → mT w1 μ1 → mX l w μ w1 μ1 → P b w1 μ1 → sV g M R Z (pc + 3) lv (.ref b :: st) (mk w1 μ1) (ce + C') (sl + S')) : sV g M R Z pc lv st0 (mk w μ) ce sl :=
  sv_callS hct ho hd hm hi hlk hR hce hst hr8 (by
    rintro r hp' ⟨b, w1, μ1, rfl, rfl, h0, h1, h2, h3⟩
    exact kt b w1 μ1 h0 h1 h2 h3)
/-- a contract of a method that makes nothing, as one that might -/
theorem qV.x {l : List Nat} {w : mW} {μ : mM} {P : mM → Prop} {r : Option Value} {hp : sHp} (hw : mWF w) (h : qV w l μ P r hp) : qVx w l μ (fun _ μ1 => P μ1) r hp := by
  obtain ⟨μ1, h1, h2, h3, h4, h5⟩ := h
  exact ⟨w, μ1, h1, h2, hw, h3, mX.fr mX.refl h4 (List.all_eq_true.mpr fun x hx => List.elem_iff.mpr hx), h5⟩
theorem qI.x {l : List Nat} {w : mW} {μ : mM} {P : Int → mM → Prop} {r : Option Value} {hp : sHp} (hw : mWF w) (h : qI w l μ P r hp) : qIx w l μ (fun z _ μ1 => P z μ1) r hp := by
  obtain ⟨z, μ1, h1, h2, h3, h4, h5⟩ := h
  exact ⟨z, w, μ1, h1, h2, hw, h3, mX.fr mX.refl h4 (List.all_eq_true.mpr fun x hx => List.elem_iff.mpr hx), h5⟩
end MV26
section MV26b
variable {g : sG} {M : sM} {R : Room} {Z : sZT} {pc : Nat} {lv : List (Nat × Value)} {st : List Value} {hp : sHp} {ce sl : Nat}
theorem sv_wid {ce' sl' : Nat} (h1 : ce ≤ ce') (h2 : sl ≤ sl') (k : sV g M R Z pc lv st hp ce' sl') : sV g M R Z pc lv st hp ce sl :=
  fun p e s m args below meth c H locs ls X r hl h => W.widen h1 h2 (k p e s m args below meth c H locs ls X r hl h)
theorem slLe {sl S K : Nat} {x : Int} (h : x ≤ (K : Int)) (q : Nat.ble (sl + K) S = true) : sl + x.toNat ≤ S := by
  have := Nat.le_of_ble_eq_true q
  omega
end MV26b
theorem lenP {w : mW} {μ : mM} {b : Nat} {x y n : Int} (q : x = (b : Int)) (hl : (w.2.2.1 b : Int) = n) {s : Int} (qs : s = y) (h : y ≤ n) : s ≤ (w.2.2.1 x.toNat : Int) := by
  have e : x.toNat = b := by omega
  rw [e]; omega
theorem lenE {w : mW} {b c : Nat} {x y n m : Int} (q : x = (b : Int)) (hl : (w.2.2.1 b : Int) = n) (q' : y = (c : Int)) (hl' : (w.2.2.1 c : Int) = m) (h : n = m) : w.2.2.1 x.toNat = w.2.2.1 y.toNat := by
  have e : x.toNat = b := by omega
  have e' : y.toNat = c := by omega
  rw [e, e']; omega
theorem lenQ {w : mW} {b : Nat} {x y : Int} (h : x ≤ (w.2.2.1 y.toNat : Int)) (q : y = (b : Int)) : x ≤ (w.2.2.1 b : Int) := by
  have e : y.toNat = b := by omega
  rw [e] at h; exact h
theorem lenQ2 {w : mW} {b c : Nat} {x y : Int} (h : w.2.2.1 x.toNat = w.2.2.1 y.toNat) (q : x = (b : Int)) (q' : y = (c : Int)) : w.2.2.1 b = w.2.2.1 c := by
  have e : x.toNat = b := by omega
  have e' : y.toNat = c := by omega
  rw [e, e'] at h; exact h
theorem radix.keepX {l : List Nat} {w w1 : mW} {μ μ1 : mM} {a v sa sv : Nat} {N : Int} (h : radix μ a v N) (hX : mX l w μ w1 μ1) (hA : mAt w a sa) (hV : mAt w v sv) (ha : ∀ i, l.elem (1000 * sa + (if mArr sa then 999 else i)) = false) (hv : ∀ i, l.elem (1000 * sv + (if mArr sv then 999 else i)) = false) : radix μ1 a v N := by
  have e1 : ∀ i, μ1 a i = μ a i := fun i => hX.f hA (ha i) rfl
  have e2 : ∀ i, μ1 v i = μ v i := fun i => hX.f hV (hv i) rfl
  unfold radix radx at h ⊢
  simp only [e1, e2]; exact h
theorem lenQ0 {w : mW} {b c : Nat} {x y : Int} (h : w.2.2.1 b = w.2.2.1 c) (q : x = (b : Int)) (q' : y = (c : Int)) : w.2.2.1 x.toNat = w.2.2.1 y.toNat := by
  have e : x.toNat = b := by omega
  have e' : y.toNat = c := by omega
  rw [e, e']; exact h
end
section
/-! How much lies in memory: cells and slots, counted. -/
def sumN (f : Nat → Nat) : Nat → Nat
  | 0 => 0
  | n + 1 => sumN f n + f n
theorem sumN_le {f g : Nat → Nat} : ∀ {n : Nat}, (∀ i, i < n → f i ≤ g i) → sumN f n ≤ sumN g n
  | 0, _ => Nat.le_refl _
  | n + 1, h => Nat.add_le_add (sumN_le fun i hi => h i (Nat.lt_succ_of_lt hi)) (h n (Nat.lt_succ_self n))
theorem sumN_eq {f g : Nat → Nat} : ∀ {n : Nat}, (∀ i, i < n → f i = g i) → sumN f n = sumN g n
  | 0, _ => rfl
  | n + 1, h => by
    show sumN f n + f n = sumN g n + g n
    rw [sumN_eq fun i hi => h i (Nat.lt_succ_of_lt hi), h n (Nat.lt_succ_self n)]
theorem sumN_add {f : Nat → Nat} (n : Nat) : ∀ k, sumN f (n + k) = sumN f n + sumN (fun i => f (n + i)) k
  | 0 => rfl
  | k + 1 => by
    show sumN f (n + k) + f (n + k) = sumN f n + (sumN (fun i => f (n + i)) k + f (n + k))
    rw [sumN_add n k]; omega
def szS (s n : Nat) : Nat := match mTab s with
  | .inl (_, ks) => ks.length
  | .inr _ => n
def szW (w : mW) : Nat := sumN (fun a => szS (w.2.1 a) (w.2.2.1 a)) w.1
theorem szW.ext {w w1 : mW} (h : wE w w1) : szW w1 = szW w + sumN (fun i => szS (w1.2.1 (w.1 + i)) (w1.2.2.1 (w.1 + i))) (w1.1 - w.1) := by
  have e : w1.1 = w.1 + (w1.1 - w.1) := by have := h.1; omega
  unfold szW
  rw [e, sumN_add]
  rw [← e]
  congr 1
  · exact sumN_eq fun i hi => by rw [(h.2.1 i hi).1, (h.2.1 i hi).2]
theorem szW.new {w w1 : mW} {s kd k : Nat} {x : Int} (h : wE w w1) (e : w1.1 = w.1 + 1) (hA : mAt w1 w.1 s) (hs : mTab s = .inr (kd, k)) (q : (w1.2.2.1 w.1 : Int) = x) : (szW w1 : Int) = szW w + x := by
  have := szW.ext h
  rw [e, show w.1 + 1 - w.1 = 1 by omega] at this
  have e1 : sumN (fun i => szS (w1.2.1 (w.1 + i)) (w1.2.2.1 (w.1 + i))) 1 = w1.2.2.1 w.1 := by
    show 0 + szS (w1.2.1 (w.1 + 0)) (w1.2.2.1 (w.1 + 0)) = w1.2.2.1 w.1
    rw [Nat.zero_add, Nat.add_zero, hA.1]
    unfold szS
    rw [hs]
  rw [e1] at this
  omega
/-- two rows more, each at least twice as long as the one before -/
theorem potM {w w1 w2 : mW} {bq : Nat} {n x y : Int} (h1 : wE w w1) (e1 : w1.1 = w.1 + 1) (A1 : mAt w1 w.1 102) (q1 : (w1.2.2.1 w.1 : Int) = x) (h2 : wE w1 w2) (e2 : w2.1 = w1.1 + 1) (A2 : mAt w2 w1.1 104) (q2 : (w2.2.2.1 w1.1 : Int) = x) (hn : (w.2.2.1 bq : Int) = n) (qy : y = ((w.1 : Nat) : Int)) (hx : 2 * n ≤ x ∧ n < x) : (szW w2 : Int) + 4 * (w.2.2.1 bq : Int) ≤ szW w + 4 * (w2.2.2.1 y.toNat : Int) ∧ (w2.1 : Int) + 2 * (w.2.2.1 bq : Int) ≤ (w.1 : Int) + 2 * (w2.2.2.1 y.toNat : Int) := by
  have s1 := szW.new h1 e1 A1 rfl q1
  have s2 := szW.new h2 e2 A2 rfl q2
  have ey : y.toNat = w.1 := by omega
  have l2 : w2.2.2.1 w.1 = w1.2.2.1 w.1 := (h2.2.1 w.1 (by omega)).2
  rw [ey, l2, q1, hn]
  omega
theorem potM0 {w : mW} {bq : Nat} {y : Int} (qy : y = (bq : Int)) : (szW w : Int) + 4 * (w.2.2.1 bq : Int) ≤ szW w + 4 * (w.2.2.1 y.toNat : Int) ∧ (w.1 : Int) + 2 * (w.2.2.1 bq : Int) ≤ (w.1 : Int) + 2 * (w.2.2.1 y.toNat : Int) := by
  have ey : y.toNat = bq := by omega
  rw [ey]; exact ⟨Int.le_refl _, Int.le_refl _⟩
theorem potQ {w w1 : mW} {bq b : Nat} {x y : Int} (h : (szW w1 : Int) + 4 * (w.2.2.1 bq : Int) ≤ szW w + 4 * (w1.2.2.1 x.toNat : Int) ∧ (w1.1 : Int) + 2 * (w.2.2.1 bq : Int) ≤ (w.1 : Int) + 2 * (w1.2.2.1 x.toNat : Int)) (q : x = (b : Int)) (q' : y = (b : Int)) : (szW w1 : Int) + 4 * (w.2.2.1 bq : Int) ≤ szW w + 4 * (w1.2.2.1 y.toNat : Int) ∧ (w1.1 : Int) + 2 * (w.2.2.1 bq : Int) ≤ (w.1 : Int) + 2 * (w1.2.2.1 y.toNat : Int) := by
  rw [q', ← q]; exact h
end
section
theorem dX11_tries_0 : decode cX11_tries 0 = .ok (.iload_n 1, 1) := dc0 dO_27 (by decide +kernel)
theorem dX11_tries_1 : decode cX11_tries 1 = .ok (.ifCond .lt 8, 3) := dcS2 dO_155 (by decide +kernel)
theorem dX11_tries_4 : decode cX11_tries 4 = .ok (.iload_n 1, 1) := dc0 dO_27 (by decide +kernel)
theorem dX11_tries_5 : decode cX11_tries 5 = .ok (.iconst 3, 1) := dc0 dO_6 (by decide +kernel)
theorem dX11_tries_6 : decode cX11_tries 6 = .ok (.if_icmp .le 5, 3) := dcS2 dO_164 (by decide +kernel)
theorem dX11_tries_9 : decode cX11_tries 9 = .ok (.iconst (-1), 1) := dc0 dO_2 (by decide +kernel)
theorem dX11_tries_10 : decode cX11_tries 10 = .ok (.ireturn, 1) := dc0 dO_172 (by decide +kernel)
theorem dX11_tries_11 : decode cX11_tries 11 = .ok (.aload_n 0, 1) := dc0 dO_42 (by decide +kernel)
theorem dX11_tries_12 : decode cX11_tries 12 = .ok (.getfield 72, 3) := dcU2 dO_180 (by decide +kernel)
theorem dX11_tries_15 : decode cX11_tries 15 = .ok (.invokevirtual 420, 3) := dcU2 dO_182 (by decide +kernel)
theorem dX11_tries_18 : decode cX11_tries 18 = .ok (.aload_n 0, 1) := dc0 dO_42 (by decide +kernel)
theorem dX11_tries_19 : decode cX11_tries 19 = .ok (.getfield 72, 3) := dcU2 dO_180 (by decide +kernel)
theorem dX11_tries_22 : decode cX11_tries 22 = .ok (.getfield 423, 3) := dcU2 dO_180 (by decide +kernel)
theorem dX11_tries_25 : decode cX11_tries 25 = .ok (.iload_n 1, 1) := dc0 dO_27 (by decide +kernel)
theorem dX11_tries_26 : decode cX11_tries 26 = .ok (.iaload, 1) := dc0 dO_46 (by decide +kernel)
theorem dX11_tries_27 : decode cX11_tries 27 = .ok (.ireturn, 1) := dc0 dO_172 (by decide +kernel)
theorem dX4_explore_0 : decode cX4_explore 0 = .ok (.aload_n 0, 1) := dc0 dO_42 (by decide +kernel)
theorem dX4_explore_1 : decode cX4_explore 1 = .ok (.getfield 56, 3) := dcU2 dO_180 (by decide +kernel)
theorem dX4_explore_4 : decode cX4_explore 4 = .ok (.ifCond .eq 4, 3) := dcS2 dO_153 (by decide +kernel)
theorem dX4_explore_7 : decode cX4_explore 7 = .ok (.return_, 1) := dc0 dO_177 (by decide +kernel)
theorem dX4_explore_8 : decode cX4_explore 8 = .ok (.aload_n 0, 1) := dc0 dO_42 (by decide +kernel)
theorem dX4_explore_9 : decode cX4_explore 9 = .ok (.invokevirtual 79, 3) := dcU2 dO_182 (by decide +kernel)
theorem dX4_explore_12 : decode cX4_explore 12 = .ok (.aload_n 0, 1) := dc0 dO_42 (by decide +kernel)
theorem dX4_explore_13 : decode cX4_explore 13 = .ok (.invokevirtual 104, 3) := dcU2 dO_182 (by decide +kernel)
theorem dX4_explore_16 : decode cX4_explore 16 = .ok (.aload_n 0, 1) := dc0 dO_42 (by decide +kernel)
theorem dX4_explore_17 : decode cX4_explore 17 = .ok (.invokevirtual 107, 3) := dcU2 dO_182 (by decide +kernel)
theorem dX4_explore_20 : decode cX4_explore 20 = .ok (.istore_n 1, 1) := dc0 dO_60 (by decide +kernel)
theorem dX4_explore_21 : decode cX4_explore 21 = .ok (.aload_n 0, 1) := dc0 dO_42 (by decide +kernel)
theorem dX4_explore_22 : decode cX4_explore 22 = .ok (.invokevirtual 111, 3) := dcU2 dO_182 (by decide +kernel)
theorem dX4_explore_25 : decode cX4_explore 25 = .ok (.istore_n 2, 1) := dc0 dO_61 (by decide +kernel)
theorem dX4_explore_26 : decode cX4_explore 26 = .ok (.aload_n 0, 1) := dc0 dO_42 (by decide +kernel)
theorem dX4_explore_27 : decode cX4_explore 27 = .ok (.getfield 43, 3) := dcU2 dO_180 (by decide +kernel)
theorem dX4_explore_30 : decode cX4_explore 30 = .ok (.iconst 0, 1) := dc0 dO_3 (by decide +kernel)
theorem dX4_explore_31 : decode cX4_explore 31 = .ok (.iload_n 1, 1) := dc0 dO_27 (by decide +kernel)
theorem dX4_explore_32 : decode cX4_explore 32 = .ok (.iastore, 1) := dc0 dO_79 (by decide +kernel)
theorem dX4_explore_33 : decode cX4_explore 33 = .ok (.aload_n 0, 1) := dc0 dO_42 (by decide +kernel)
theorem dX4_explore_34 : decode cX4_explore 34 = .ok (.getfield 43, 3) := dcU2 dO_180 (by decide +kernel)
theorem dX4_explore_37 : decode cX4_explore 37 = .ok (.iconst 2, 1) := dc0 dO_5 (by decide +kernel)
theorem dX4_explore_38 : decode cX4_explore 38 = .ok (.iload_n 1, 1) := dc0 dO_27 (by decide +kernel)
theorem dX4_explore_39 : decode cX4_explore 39 = .ok (.iload_n 2, 1) := dc0 dO_28 (by decide +kernel)
theorem dX4_explore_40 : decode cX4_explore 40 = .ok (.isub, 1) := dc0 dO_100 (by decide +kernel)
theorem dX4_explore_41 : decode cX4_explore 41 = .ok (.iastore, 1) := dc0 dO_79 (by decide +kernel)
theorem dX4_explore_42 : decode cX4_explore 42 = .ok (.aload_n 0, 1) := dc0 dO_42 (by decide +kernel)
theorem dX4_explore_43 : decode cX4_explore 43 = .ok (.iconst 1, 1) := dc0 dO_4 (by decide +kernel)
theorem dX4_explore_44 : decode cX4_explore 44 = .ok (.putfield 56, 3) := dcU2 dO_181 (by decide +kernel)
theorem dX4_explore_47 : decode cX4_explore 47 = .ok (.return_, 1) := dc0 dO_177 (by decide +kernel)
theorem dX4_keepRest_0 : decode cX4_keepRest 0 = .ok (.aload_n 0, 1) := dc0 dO_42 (by decide +kernel)
theorem dX4_keepRest_1 : decode cX4_keepRest 1 = .ok (.getfield 82, 3) := dcU2 dO_180 (by decide +kernel)
theorem dX4_keepRest_4 : decode cX4_keepRest 4 = .ok (.aload_n 0, 1) := dc0 dO_42 (by decide +kernel)
theorem dX4_keepRest_5 : decode cX4_keepRest 5 = .ok (.getfield 36, 3) := dcU2 dO_180 (by decide +kernel)
theorem dX4_keepRest_8 : decode cX4_keepRest 8 = .ok (.arraylength, 1) := dc0 dO_190 (by decide +kernel)
theorem dX4_keepRest_9 : decode cX4_keepRest 9 = .ok (.if_icmp .lt 20, 3) := dcS2 dO_161 (by decide +kernel)
theorem dX4_keepRest_29 : decode cX4_keepRest 29 = .ok (.aload_n 0, 1) := dc0 dO_42 (by decide +kernel)
theorem dX4_keepRest_30 : decode cX4_keepRest 30 = .ok (.getfield 36, 3) := dcU2 dO_180 (by decide +kernel)
theorem dX4_keepRest_33 : decode cX4_keepRest 33 = .ok (.aload_n 0, 1) := dc0 dO_42 (by decide +kernel)
theorem dX4_keepRest_34 : decode cX4_keepRest 34 = .ok (.getfield 82, 3) := dcU2 dO_180 (by decide +kernel)
theorem dX4_keepRest_37 : decode cX4_keepRest 37 = .ok (.iload_n 1, 1) := dc0 dO_27 (by decide +kernel)
theorem dX4_keepRest_38 : decode cX4_keepRest 38 = .ok (.iastore, 1) := dc0 dO_79 (by decide +kernel)
theorem dX4_keepRest_39 : decode cX4_keepRest 39 = .ok (.aload_n 0, 1) := dc0 dO_42 (by decide +kernel)
theorem dX4_keepRest_40 : decode cX4_keepRest 40 = .ok (.dup, 1) := dc0 dO_89 (by decide +kernel)
theorem dX4_keepRest_41 : decode cX4_keepRest 41 = .ok (.getfield 82, 3) := dcU2 dO_180 (by decide +kernel)
theorem dX4_keepRest_44 : decode cX4_keepRest 44 = .ok (.iconst 1, 1) := dc0 dO_4 (by decide +kernel)
theorem dX4_keepRest_45 : decode cX4_keepRest 45 = .ok (.iadd, 1) := dc0 dO_96 (by decide +kernel)
theorem dX4_keepRest_46 : decode cX4_keepRest 46 = .ok (.putfield 82, 3) := dcU2 dO_181 (by decide +kernel)
theorem dX4_keepRest_49 : decode cX4_keepRest 49 = .ok (.return_, 1) := dc0 dO_177 (by decide +kernel)
theorem dX4_makeRoom_0 : decode cX4_makeRoom 0 = .ok (.aload_n 0, 1) := dc0 dO_42 (by decide +kernel)
theorem dX4_makeRoom_1 : decode cX4_makeRoom 1 = .ok (.getfield 59, 3) := dcU2 dO_180 (by decide +kernel)
theorem dX4_makeRoom_4 : decode cX4_makeRoom 4 = .ok (.aload_n 0, 1) := dc0 dO_42 (by decide +kernel)
theorem dX4_makeRoom_5 : decode cX4_makeRoom 5 = .ok (.getfield 33, 3) := dcU2 dO_180 (by decide +kernel)
theorem dX4_makeRoom_8 : decode cX4_makeRoom 8 = .ok (.arraylength, 1) := dc0 dO_190 (by decide +kernel)
theorem dX4_makeRoom_9 : decode cX4_makeRoom 9 = .ok (.if_icmp .le 32, 3) := dcS2 dO_164 (by decide +kernel)
theorem dX4_makeRoom_12 : decode cX4_makeRoom 12 = .ok (.aload_n 0, 1) := dc0 dO_42 (by decide +kernel)
theorem dX4_makeRoom_13 : decode cX4_makeRoom 13 = .ok (.getfield 59, 3) := dcU2 dO_180 (by decide +kernel)
theorem dX4_makeRoom_16 : decode cX4_makeRoom 16 = .ok (.iconst 2, 1) := dc0 dO_5 (by decide +kernel)
theorem dX4_makeRoom_17 : decode cX4_makeRoom 17 = .ok (.aload_n 0, 1) := dc0 dO_42 (by decide +kernel)
theorem dX4_makeRoom_18 : decode cX4_makeRoom 18 = .ok (.getfield 33, 3) := dcU2 dO_180 (by decide +kernel)
theorem dX4_makeRoom_21 : decode cX4_makeRoom 21 = .ok (.arraylength, 1) := dc0 dO_190 (by decide +kernel)
theorem dX4_makeRoom_22 : decode cX4_makeRoom 22 = .ok (.imul, 1) := dc0 dO_104 (by decide +kernel)
theorem dX4_makeRoom_23 : decode cX4_makeRoom 23 = .ok (.invokestatic 114, 3) := dcU2 dO_184 (by decide +kernel)
theorem dX4_makeRoom_26 : decode cX4_makeRoom 26 = .ok (.istore_n 1, 1) := dc0 dO_60 (by decide +kernel)
theorem dX4_makeRoom_27 : decode cX4_makeRoom 27 = .ok (.aload_n 0, 1) := dc0 dO_42 (by decide +kernel)
theorem dX4_makeRoom_28 : decode cX4_makeRoom 28 = .ok (.iload_n 1, 1) := dc0 dO_27 (by decide +kernel)
theorem dX4_makeRoom_29 : decode cX4_makeRoom 29 = .ok (.newarray .int, 2) := dN_10 (by decide +kernel)
theorem dX4_makeRoom_31 : decode cX4_makeRoom 31 = .ok (.putfield 33, 3) := dcU2 dO_181 (by decide +kernel)
theorem dX4_makeRoom_34 : decode cX4_makeRoom 34 = .ok (.aload_n 0, 1) := dc0 dO_42 (by decide +kernel)
theorem dX4_makeRoom_35 : decode cX4_makeRoom 35 = .ok (.iload_n 1, 1) := dc0 dO_27 (by decide +kernel)
theorem dX4_makeRoom_36 : decode cX4_makeRoom 36 = .ok (.newarray .byte, 2) := dN_8 (by decide +kernel)
theorem dX4_makeRoom_38 : decode cX4_makeRoom 38 = .ok (.putfield 39, 3) := dcU2 dO_181 (by decide +kernel)
theorem dX4_makeRoom_41 : decode cX4_makeRoom 41 = .ok (.aload_n 0, 1) := dc0 dO_42 (by decide +kernel)
theorem dX4_makeRoom_42 : decode cX4_makeRoom 42 = .ok (.getfield 39, 3) := dcU2 dO_180 (by decide +kernel)
theorem dX4_makeRoom_45 : decode cX4_makeRoom 45 = .ok (.iconst 0, 1) := dc0 dO_3 (by decide +kernel)
theorem dX4_makeRoom_46 : decode cX4_makeRoom 46 = .ok (.invokestatic 119, 3) := dcU2 dO_184 (by decide +kernel)
theorem dX4_makeRoom_49 : decode cX4_makeRoom 49 = .ok (.return_, 1) := dc0 dO_177 (by decide +kernel)
end
section
theorem vc_X4_makeRoom_2 {f_st n_167 n_170 : Int} (h0 : f_st ≤ n_167) (h1 : 1 ≤ f_st) (h2 : n_170 = n_167) (h3 : 1 ≤ f_st ∧ f_st ≤ 46656) (h4 : 0 ≤ n_167 ∧ n_167 ≤ 93312) (h5 : 0 ≤ n_170 ∧ n_170 ≤ 93312) : 1 ≤ n_167 ∧ n_167 ≤ 93312 := by omega
theorem vc_X4_makeRoom_3 {f_st n_167 n_170 : Int} (h0 : 1 ≤ f_st) (h1 : n_170 = n_167) (h2 : f_st ≤ n_167) (h3 : 1 ≤ f_st ∧ f_st ≤ 46656) (h4 : 1 ≤ n_167 ∧ n_167 ≤ 93312) (h5 : 0 ≤ n_170 ∧ n_170 ≤ 93312) : f_st ≤ n_167 := by omega
theorem vc_X4_makeRoom_4 {f_st n_167 n_170 : Int} (h0 : 1 ≤ f_st) (h1 : n_170 = n_167) (h2 : f_st ≤ n_167) (h3 : 1 ≤ f_st ∧ f_st ≤ 46656) (h4 : 1 ≤ n_167 ∧ n_167 ≤ 93312) (h5 : 0 ≤ n_170 ∧ n_170 ≤ 93312) : f_st ≤ n_170 := by omega
theorem vc_X4_makeRoom_5 {f_st n_167 n_170 : Int} (h0 : n_170 = n_167) (h1 : f_st ≤ n_167) (h2 : 1 ≤ f_st) (h3 : 1 ≤ f_st ∧ f_st ≤ 46656) (h4 : 1 ≤ n_167 ∧ n_167 ≤ 93312) (h5 : 0 ≤ n_170 ∧ n_170 ≤ 93312) : n_167 = n_170 := by omega
theorem vc_X4_makeRoom_6 {f_st n_167 n_170 : Int} (h0 : n_167 < f_st) (h1 : 1 ≤ f_st) (h2 : n_170 = n_167) (h3 : 1 ≤ f_st ∧ f_st ≤ 46656) (h4 : 0 ≤ n_167 ∧ n_167 ≤ 93312) (h5 : 0 ≤ n_170 ∧ n_170 ≤ 93312) : 0 ≤ n_167 ∧ n_167 ≤ 46655 := by omega
theorem vc_X4_makeRoom_7 {f_st n_167 n_170 z181 : Int} (h0 : 1 ≤ f_st) (h1 : n_170 = n_167) (h2 : n_167 < f_st) (h3 : ((z181 = f_st ∨ z181 = (2 * n_167)) ∧ f_st ≤ z181 ∧ (2 * n_167) ≤ z181)) (h4 : 1 ≤ f_st ∧ f_st ≤ 46656) (h5 : 0 ≤ n_167 ∧ n_167 ≤ 46655) (h6 : 0 ≤ n_170 ∧ n_170 ≤ 93312) : 1 ≤ z181 ∧ z181 ≤ 93310 := by omega
theorem vc_X4_makeRoom_8 {f_st n_167 n_170 z181 : Int} (h0 : ((z181 = f_st ∨ z181 = (2 * n_167)) ∧ f_st ≤ z181 ∧ (2 * n_167) ≤ z181)) (h1 : 1 ≤ f_st) (h2 : n_170 = n_167) (h3 : n_167 < f_st) (h4 : 1 ≤ f_st ∧ f_st ≤ 46656) (h5 : 0 ≤ n_167 ∧ n_167 ≤ 46655) (h6 : 0 ≤ n_170 ∧ n_170 ≤ 93312) (h7 : 1 ≤ z181 ∧ z181 ≤ 93310) : 0 ≤ z181 ∧ z181 ≤ 93312 := by omega
theorem vc_X4_makeRoom_9 {f_st n_167 n_170 z181 : Int} (h0 : ((z181 = f_st ∨ z181 = (2 * n_167)) ∧ f_st ≤ z181 ∧ (2 * n_167) ≤ z181)) (h1 : 1 ≤ f_st) (h2 : n_170 = n_167) (h3 : n_167 < f_st) (h4 : 1 ≤ f_st ∧ f_st ≤ 46656) (h5 : 0 ≤ n_167 ∧ n_167 ≤ 46655) (h6 : 0 ≤ n_170 ∧ n_170 ≤ 93312) (h7 : 1 ≤ z181 ∧ z181 ≤ 93310) : z181 ≤ 93310 := by omega
theorem vc_X4_makeRoom_10 {f_st n_167 n_170 z181 : Int} (h0 : 1 ≤ f_st) (h1 : n_167 < f_st) (h2 : ((z181 = f_st ∨ z181 = (2 * n_167)) ∧ f_st ≤ z181 ∧ (2 * n_167) ≤ z181)) (h3 : n_170 = n_167) (h4 : 1 ≤ f_st ∧ f_st ≤ 46656) (h5 : 0 ≤ n_167 ∧ n_167 ≤ 46655) (h6 : 0 ≤ n_170 ∧ n_170 ≤ 93312) (h7 : 1 ≤ z181 ∧ z181 ≤ 93310) : f_st ≤ z181 := by omega
theorem vc_X4_makeRoom_11 {f_st n_167 n_170 z181 : Int} (h0 : ((z181 = f_st ∨ z181 = (2 * n_167)) ∧ f_st ≤ z181 ∧ (2 * n_167) ≤ z181)) (h1 : 1 ≤ f_st) (h2 : n_170 = n_167) (h3 : n_167 < f_st) (h4 : 1 ≤ f_st ∧ f_st ≤ 46656) (h5 : 0 ≤ n_167 ∧ n_167 ≤ 46655) (h6 : 0 ≤ n_170 ∧ n_170 ≤ 93312) (h7 : 1 ≤ z181 ∧ z181 ≤ 93310) : z181 = z181 := by omega
theorem vc_X4_makeRoom_12 {f_st n_167 n_170 z181 : Int} (h0 : n_170 = n_167) (h1 : n_167 < f_st) (h2 : ((z181 = f_st ∨ z181 = (2 * n_167)) ∧ f_st ≤ z181 ∧ (2 * n_167) ≤ z181)) (h3 : 1 ≤ f_st) (h4 : 1 ≤ f_st ∧ f_st ≤ 46656) (h5 : 0 ≤ n_167 ∧ n_167 ≤ 46655) (h6 : 0 ≤ n_170 ∧ n_170 ≤ 93312) (h7 : 1 ≤ z181 ∧ z181 ≤ 93310) : 2 * n_167 ≤ z181 ∧ n_167 < z181 := by omega
set_option maxRecDepth 4000 in
set_option maxHeartbeats 4000000 in
theorem c_X4_makeRoom {l : Launch} {D : va_G} {c : Nat → ClassId} {H0 : Heap} {sa : Nat × Nat × (Nat → Int32)} {w_0 : mW} {μ : mM} (hw_0 : mWF w_0) (hT : mT w_0 μ) {f_st : Int} (q_f_st : μ 94 9 = f_st) {bq : Nat} (q_bq : μ 94 6 = (bq : Int)) (hA_bq : mAt w_0 bq 102) {bf : Nat} (q_bf : μ 94 8 = (bf : Int)) (hA_bf : mAt w_0 bf 104) (hq0 : 1 ≤ f_st) (hle : w_0.2.2.1 bq = w_0.2.2.1 bf) : sC (gG l D c H0 sa) mX4_makeRoom 6 2 186624 [.ref 94] (mk w_0 μ) (qVx w_0 [94006, 94008, 104999] μ (fun w1 μ1 => (μ1 94 9 ≤ (w1.2.2.1 (μ1 94 6).toNat : Int)) ∧ (μ1 94 9 ≤ (w1.2.2.1 (μ1 94 8).toNat : Int)) ∧ (w1.2.2.1 (μ1 94 6).toNat = w1.2.2.1 (μ1 94 8).toNat) ∧ (((szW w1 : Int) + 4 * (w_0.2.2.1 bq : Int) ≤ szW w_0 + 4 * (w1.2.2.1 (μ1 94 6).toNat : Int) ∧ (w1.1 : Int) + 2 * (w_0.2.2.1 bq : Int) ≤ (w_0.1 : Int) + 2 * (w1.2.2.1 (μ1 94 6).toNat : Int))) ∧ True)) := by
  refine sC.of rfl (by decide) (le_t rfl) ?_
  have ht_f_st : (0 ≤ f_st ∧ f_st ≤ 46656) := by rw [← q_f_st]; exact hT 94 94 (A_94 hw_0) 9
  have h1 : 1 ≤ f_st ∧ f_st ≤ 46656 := (vc_X12_open_1 hq0 ht_f_st)
  refine mr_lvE (lv' := [(0, .ref 94)]) rfl ?_
  obtain ⟨n_167, q168⟩ : ∃ n : Int, (w_0.2.2.1 bq : Int) = n := ⟨_, rfl⟩
  have h169 : 0 ≤ n_167 ∧ n_167 ≤ 93312 := lnR (m := 93312) q168 hA_bq rfl
  obtain ⟨n_170, q171⟩ : ∃ n : Int, (w_0.2.2.1 bf : Int) = n := ⟨_, rfl⟩
  have h172 : 0 ≤ n_170 ∧ n_170 ≤ 93312 := lnR (m := 93312) q171 hA_bf rfl
  have h173 : n_170 = n_167 := by rw [← q168, ← q171, hle]
  refine sv_aload_n (pc := 0) dX4_makeRoom_0 rfl rfl ?_
  refine gk_X4_9 (pc := 1) dX4_makeRoom_1 wF_X4_59 (A_94 hw_0) q_f_st ?_
  refine sv_aload_n (pc := 4) dX4_makeRoom_4 rfl rfl ?_
  refine gk_X4_6 (pc := 5) dX4_makeRoom_5 wF_X4_33 (A_94 hw_0) q_bq ?_
  refine mr_alen (pc := 8) (kd := 0) dX4_makeRoom_8 rfl hA_bq rfl q168 ?_
  refine mr_icmp_le (pc := 9) (tgt := 41) dX4_makeRoom_9 (by decide) (r32 h1 rfl) (r32 h169 rfl) (fun h174 => ?_) (fun h174 => ?_)
  · have h175 : 1 ≤ n_167 ∧ n_167 ≤ 93312 := (vc_X4_makeRoom_2 h174 hq0 h173 h1 h169 h172)
    refine sv_aload_n (pc := 41) dX4_makeRoom_41 rfl rfl ?_
    refine gk_X4_8 (pc := 42) dX4_makeRoom_42 wF_X4_39 (A_94 hw_0) q_bf ?_
    refine mr_iconst (pc := 45) (z := 0) dX4_makeRoom_45 ?_
    refine mr_fillB (pc := 46) dX4_makeRoom_46 wM_X4_119 hA_bf rfl rfl (Nat.lt_of_le_of_lt hA_bf.2.2.1 (lt_t rfl)) hT (rW (c := (-128)) (d := 127) (rR (x := 0)) rfl) (fun _ => (rW (c := (-128)) (d := 127) (rR (x := 0)) rfl)) ⟨le_t rfl, le_t rfl⟩ ⟨le_t rfl, le_t rfl⟩ (le_t rfl) fun μ176 q177 T178 => ?_
    have F179 : mF [104999] w_0 μ μ176 := mF.cell q177.1 hA_bf rfl
    exact mr_vretX dX4_makeRoom_49 rfl (le_t rfl) (le_t rfl) hw_0 T178 (mX.fr mX.refl F179 rfl) ⟨(lenP (μ := μ176) (F179.f (A_94 hw_0) rfl q_bq) q168 (F179.f (A_94 hw_0) rfl q_f_st) (vc_X4_makeRoom_3 hq0 h173 h174 h1 h175 h172)), (lenP (μ := μ176) (F179.f (A_94 hw_0) rfl q_bf) q171 (F179.f (A_94 hw_0) rfl q_f_st) (vc_X4_makeRoom_4 hq0 h173 h174 h1 h175 h172)), (lenE (F179.f (A_94 hw_0) rfl q_bq) q168 (F179.f (A_94 hw_0) rfl q_bf) q171 (vc_X4_makeRoom_5 h173 h174 hq0 h1 h175 h172)), (potM0 (F179.f (A_94 hw_0) rfl q_bq)), trivial⟩
  have h180 : 0 ≤ n_167 ∧ n_167 ≤ 46655 := (vc_X4_makeRoom_6 h174 hq0 h173 h1 h169 h172)
  refine sv_aload_n (pc := 12) dX4_makeRoom_12 rfl rfl ?_
  refine gk_X4_9 (pc := 13) dX4_makeRoom_13 wF_X4_59 (A_94 hw_0) q_f_st ?_
  refine mr_iconst (pc := 16) (z := 2) dX4_makeRoom_16 ?_
  refine sv_aload_n (pc := 17) dX4_makeRoom_17 rfl rfl ?_
  refine gk_X4_6 (pc := 18) dX4_makeRoom_18 wF_X4_33 (A_94 hw_0) q_bq ?_
  refine mr_alen (pc := 21) (kd := 0) dX4_makeRoom_21 rfl hA_bq rfl q168 ?_
  refine mr_imul (pc := 22) (x := 2) (y := n_167) dX4_makeRoom_22 ?_
  refine mr_max (pc := 23) dX4_makeRoom_23 wM_X4_114 wS_J_max wI_J_math wK_J_max ⟨le_t rfl, le_t rfl⟩ ⟨le_t rfl, le_t rfl⟩ (le_t rfl) (r32 h1 rfl) (r32 (rMulL (n := 2) (e := 0) (f := 93310) h180 rfl) rfl) fun z181 h182 => ?_
  have h183 : 1 ≤ z181 ∧ z181 ≤ 93310 := (vc_X4_makeRoom_7 hq0 h173 h174 h182 h1 h180 h172)
  refine mr_istore_n (pc := 26) (lv' := [(1, iv z181), (0, .ref 94)]) dX4_makeRoom_26 rfl (by decide) rfl ?_
  refine sv_aload_n (pc := 27) dX4_makeRoom_27 rfl rfl ?_
  refine mr_iload_n (pc := 28) (z := z181) dX4_makeRoom_28 rfl rfl ?_
  refine mr_newI (pc := 29) (s := 102) dX4_makeRoom_29 wA_int rfl (fun U => sI_Cond_int U _) rfl (show 0 ≤ z181 ∧ z181 ≤ ((mLen 102 : Nat) : Int) from (vc_X4_makeRoom_8 h182 hq0 h173 h174 h1 h180 h172 h183)) (le_t rfl) rfl hT (fun _ => (show (0 : Int) ≤ 0 ∧ (0 : Int) ≤ 46655 from by decide)) (le_t rfl) (slLe (show z181 ≤ ((93310 : Nat) : Int) from (vc_X4_makeRoom_9 h182 hq0 h173 h174 h1 h180 h172 h183)) rfl) fun w_184 μ186 X187 T188 A189 e190 q191 c192 v193 => ?_
  refine sv_wid (ce' := 1) (sl' := 93310) (le_t rfl) (slLe (show z181 ≤ ((93310 : Nat) : Int) from (vc_X4_makeRoom_9 h182 hq0 h173 h174 h1 h180 h172 h183)) rfl) ?_
  have hw_185 : mWF w_184 := mWF.ext X187.1 hw_0
  have A194 : mAt w_184 bq 102 := (hA_bq).ext X187.1
  have A195 : mAt w_184 bf 104 := (hA_bf).ext X187.1
  have q196 := X187.len hA_bq q168
  have q197 := X187.len hA_bf q171
  refine pf_X4_6 (pc := 31) dX4_makeRoom_31 wF_X4_33 (A_94 hw_185) T188 A189 fun μ198 u199 T200 => ?_
  refine sv_aload_n (pc := 34) dX4_makeRoom_34 rfl rfl ?_
  refine mr_iload_n (pc := 35) (z := z181) dX4_makeRoom_35 rfl rfl ?_
  have q201 : μ198 94 (9) = f_st := (u199.f (Or.inr (by decide)) (X187.f (A_94 hw_0) rfl q_f_st))
  have q202 : μ198 94 (8) = (bf : Int) := (u199.f (Or.inr (by decide)) (X187.f (A_94 hw_0) rfl q_bf))
  refine mr_newB (pc := 36) (s := 104) dX4_makeRoom_36 wA_byte rfl (fun U => sI_Cond_byte U _) rfl (show 0 ≤ z181 ∧ z181 ≤ ((mLen 104 : Nat) : Int) from (vc_X4_makeRoom_8 h182 hq0 h173 h174 h1 h180 h172 h183)) (le_t rfl) rfl T200 (fun _ => (show ((-128) : Int) ≤ 0 ∧ (0 : Int) ≤ 127 from by decide)) (le_t rfl) (slLe (show z181 ≤ ((93310 : Nat) : Int) from (vc_X4_makeRoom_9 h182 hq0 h173 h174 h1 h180 h172 h183)) rfl) fun w_203 μ205 X206 T207 A208 e209 q210 c211 v212 => ?_
  refine sv_wid (ce' := 2) (sl' := 186620) (le_t rfl) (slLe (show z181 ≤ ((93310 : Nat) : Int) from (vc_X4_makeRoom_9 h182 hq0 h173 h174 h1 h180 h172 h183)) rfl) ?_
  have hw_204 : mWF w_203 := mWF.ext X206.1 hw_185
  have A213 : mAt w_203 w_0.1 102 := (A189).ext X206.1
  have A214 : mAt w_203 bf 104 := (A195).ext X206.1
  have q215 := X206.len A195 q197
  have q216 := X206.len A189 q191
  refine pf_X4_8 (pc := 38) dX4_makeRoom_38 wF_X4_39 (A_94 hw_204) T207 A208 fun μ217 u218 T219 => ?_
  refine sv_aload_n (pc := 41) dX4_makeRoom_41 rfl rfl ?_
  refine gk_X4_8 (pc := 42) dX4_makeRoom_42 wF_X4_39 (A_94 hw_204) u218.1 ?_
  refine mr_iconst (pc := 45) (z := 0) dX4_makeRoom_45 ?_
  refine mr_fillB (pc := 46) dX4_makeRoom_46 wM_X4_119 A208 rfl rfl (Nat.lt_of_le_of_lt A208.2.2.1 (lt_t rfl)) T219 (rW (c := (-128)) (d := 127) (rR (x := 0)) rfl) (fun _ => (rW (c := (-128)) (d := 127) (rR (x := 0)) rfl)) ⟨le_t rfl, le_t rfl⟩ ⟨le_t rfl, le_t rfl⟩ (le_t rfl) fun μ220 q221 T222 => ?_
  have F223 : mF [104999] w_203 μ217 μ220 := mF.cell q221.1 A208 rfl
  exact mr_vretX dX4_makeRoom_49 rfl (le_t rfl) (le_t rfl) hw_204 T222 (mX.fr (mX.fr (mX.trans (mX.fr (mX.trans mX.refl X187 rfl) (mF.up mF.refl (A_94 hw_185) u199 rfl : mF [94006] _ _ _) rfl) X206 rfl) (mF.up mF.refl (A_94 hw_204) u218 rfl : mF [94008] _ _ _) rfl) F223 rfl) ⟨(lenP (μ := μ220) (F223.f (A_94 hw_204) rfl (u218.f (Or.inr (by decide)) (X206.f (A_94 hw_185) rfl u199.1))) q216 (F223.f (A_94 hw_204) rfl (u218.f (Or.inr (by decide)) (X206.f (A_94 hw_185) rfl q201))) (vc_X4_makeRoom_10 hq0 h174 h182 h173 h1 h180 h172 h183)), (lenP (μ := μ220) (F223.f (A_94 hw_204) rfl u218.1) q210 (F223.f (A_94 hw_204) rfl (u218.f (Or.inr (by decide)) (X206.f (A_94 hw_185) rfl q201))) (vc_X4_makeRoom_10 hq0 h174 h182 h173 h1 h180 h172 h183)), (lenE (F223.f (A_94 hw_204) rfl (u218.f (Or.inr (by decide)) (X206.f (A_94 hw_185) rfl u199.1))) q216 (F223.f (A_94 hw_204) rfl u218.1) q210 (vc_X4_makeRoom_11 h182 hq0 h173 h174 h1 h180 h172 h183)), (potM X187.1 e190 A189 q191 X206.1 e209 A208 q210 q168 (F223.f (A_94 hw_204) rfl (u218.f (Or.inr (by decide)) (X206.f (A_94 hw_185) rfl u199.1))) (vc_X4_makeRoom_12 h173 h174 h182 hq0 h1 h180 h172 h183)), trivial⟩
set_option maxRecDepth 4000 in
set_option maxHeartbeats 4000000 in
theorem c_X4_explore {l : Launch} {D : va_G} {c : Nat → ClassId} {H0 : Heap} {sa : Nat × Nat × (Nat → Int32)} {w_0 : mW} {μ : mM} (hw_0 : mWF w_0) (hT : mT w_0 μ) {bq : Nat} (q_bq : μ 94 6 = (bq : Int)) (hA_bq : mAt w_0 bq 102) {bf : Nat} (q_bf : μ 94 8 = (bf : Int)) (hA_bf : mAt w_0 bf 104) (hle : w_0.2.2.1 bq = w_0.2.2.1 bf) : sC (gG l D c H0 sa) mX4_explore 12 2 186624 [.ref 94] (mk w_0 μ) (qVx w_0 [94006, 94008, 94009, 94011, 98999, 99999, 100999, 101999, 102999, 104999, 105999] μ (fun w1 μ1 => (w1.2.2.1 (μ1 94 6).toNat = w1.2.2.1 (μ1 94 8).toNat) ∧ (((szW w1 : Int) + 4 * (w_0.2.2.1 bq : Int) ≤ szW w_0 + 4 * (w1.2.2.1 (μ1 94 6).toNat : Int) ∧ (w1.1 : Int) + 2 * (w_0.2.2.1 bq : Int) ≤ (w_0.1 : Int) + 2 * (w1.2.2.1 (μ1 94 6).toNat : Int))) ∧ True)) := by
  refine sC.of rfl (by decide) (le_t rfl) ?_
  refine mr_lvE (lv' := [(0, .ref 94)]) rfl ?_
  refine sv_aload_n (pc := 0) dX4_explore_0 rfl rfl ?_
  refine gf_X4_11 (pc := 1) dX4_explore_1 wF_X4_56 (A_94 hw_0) hT fun z1 q2 h3 => ?_
  refine mr_if_eq (pc := 4) (tgt := 8) dX4_explore_4 (by decide) (r32 h3 rfl) (fun h4 => ?_) (fun h4 => ?_)
  · have h5 : 0 ≤ z1 ∧ z1 ≤ 0 := (vc_X12_ring_22 h4 h3)
    refine sv_aload_n (pc := 8) dX4_explore_8 rfl rfl ?_
    refine mr_cVV (pc := 9) (c_X4_prepare hw_0 hT) (gOk _ _ _ _ _) dX4_explore_9 (tX4_prepare _ _ _ _ _) ⟨wV_X4_prepare, wL_X4_prepare⟩ wM_X4_79 (gCX4 _ _ _ _ _) rfl (A_94 hw_0) rfl ⟨le_t rfl, le_t rfl⟩ ⟨le_t rfl, le_t rfl⟩ rfl (le_t rfl) fun μ6 T7 F8 h9 => ?_
    obtain ⟨z10, q11, h12⟩ := h9
    have h13 : (0 ≤ z10 ∧ z10 ≤ 46656) := by rw [← q11]; exact T7 94 94 (A_94 hw_0) 9
    have h14 : 1 ≤ z10 ∧ z10 ≤ 46656 := (vc_X12_open_1 h12.1 h13)
    refine sv_aload_n (pc := 12) dX4_explore_12 rfl rfl ?_
    have q15 : μ6 94 (6) = (bq : Int) := (F8.f (A_94 hw_0) rfl q_bq)
    have q16 : μ6 94 (8) = (bf : Int) := (F8.f (A_94 hw_0) rfl q_bf)
    have q17 : μ6 94 (11) = z1 := (F8.f (A_94 hw_0) rfl q2)
    refine mr_cVVX (pc := 13) (c_X4_makeRoom hw_0 T7 q11 q15 hA_bq q16 hA_bf (vc_X12_isRest_7 h12.1 h14) hle) (gOk _ _ _ _ _) dX4_explore_13 (tX4_makeRoom _ _ _ _ _) ⟨wV_X4_makeRoom, wL_X4_makeRoom⟩ wM_X4_104 (gCX4 _ _ _ _ _) rfl (A_94 hw_0) rfl ⟨le_t rfl, le_t rfl⟩ ⟨le_t rfl, le_t rfl⟩ rfl (le_t rfl) fun w_22 μ18 hw_23 T19 F20 h21 => ?_
    refine sv_wid (ce' := 2) (sl' := 186624) (le_t rfl) (le_t rfl) ?_
    have A24 : mAt w_22 bq 102 := (hA_bq).ext F20.1
    have A25 : mAt w_22 bf 104 := (hA_bf).ext F20.1
    have R26 := radix.keepX h12.2.1 F20 (A_100 hw_0) (A_95 hw_0) (fun _ => rfl) (fun _ => rfl)
    obtain ⟨b27, q28, A29⟩ := refE (T19 94 94 (A_94 hw_23) 6)
    obtain ⟨b30, q31, A32⟩ := refE (T19 94 94 (A_94 hw_23) 8)
    refine sv_aload_n (pc := 16) dX4_explore_16 rfl rfl ?_
    refine mr_cVI (pc := 17) (c_X4_spread hw_23 T19 (F20.f (A_94 hw_0) rfl q11) q28 A29 q31 A32 (vc_X12_isRest_7 h12.1 h14) (lenQ h21.1 q28) (lenQ h21.2.1 q31) (by have h := R26; rw [q11] at h; exact h)) (gOk _ _ _ _ _) dX4_explore_17 (tX4_spread _ _ _ _ _) ⟨wV_X4_spread, wL_X4_spread⟩ wM_X4_107 (gCX4 _ _ _ _ _) rfl (A_94 hw_23) rfl ⟨le_t rfl, le_t rfl⟩ ⟨le_t rfl, le_t rfl⟩ rfl (le_t rfl) fun z37 μ33 T34 F35 h36 => ?_
    refine mr_istore_n (pc := 20) (lv' := [(1, iv z37), (0, .ref 94)]) dX4_explore_20 rfl (by decide) rfl ?_
    refine sv_aload_n (pc := 21) dX4_explore_21 rfl rfl ?_
    refine mr_cVI (pc := 22) (c_X4_leadBack hw_23 T34 (F35.f (A_94 hw_23) rfl (F20.f (A_94 hw_0) rfl q11)) (F35.f (A_94 hw_23) rfl q28) A29 (F35.f (A_94 hw_23) rfl q31) A32 (vc_X12_isRest_7 h12.1 h14) (by have h := (lenQ h21.1 q28); rw [(F20.f (A_94 hw_0) rfl q11)] at h; rw [(F35.f (A_94 hw_23) rfl (F20.f (A_94 hw_0) rfl q11))]; exact h) (by have h := (lenQ h21.2.1 q31); rw [(F20.f (A_94 hw_0) rfl q11)] at h; rw [(F35.f (A_94 hw_23) rfl (F20.f (A_94 hw_0) rfl q11))]; exact h) (by have h := (radix.keep R26 ((mF.call mF.refl F35 rfl) : mF [101999, 102999, 104999, 105999] w_22 μ18 μ33) (A_100 hw_23) (A_95 hw_23) (fun _ => rfl) (fun _ => rfl)); rw [q11] at h; exact h)) (gOk _ _ _ _ _) dX4_explore_22 (tX4_leadBack _ _ _ _ _) ⟨wV_X4_leadBack, wL_X4_leadBack⟩ wM_X4_111 (gCX4 _ _ _ _ _) rfl (A_94 hw_23) rfl ⟨le_t rfl, le_t rfl⟩ ⟨le_t rfl, le_t rfl⟩ rfl (le_t rfl) fun z42 μ38 T39 F40 h41 => ?_
    refine mr_istore_n (pc := 25) (lv' := [(2, iv z42), (1, iv z37), (0, .ref 94)]) dX4_explore_25 rfl (by decide) rfl ?_
    refine sv_aload_n (pc := 26) dX4_explore_26 rfl rfl ?_
    refine gf_X4_13 (pc := 27) dX4_explore_27 wF_X4_43 (A_94 hw_23) T39 ?_
    refine mr_iconst (pc := 30) (z := 0) dX4_explore_30 ?_
    refine mr_iload_n (pc := 31) (z := z37) dX4_explore_31 rfl rfl ?_
    refine ss_105 (pc := 32) dX4_explore_32 (A_105 hw_23) T39 (rIx (n := 4) (rR (x := 0)) rfl) (rW (c := (-2147483648)) (d := 2147483647) h36.1 rfl) fun μ43 u44 T45 => ?_
    refine sv_aload_n (pc := 33) dX4_explore_33 rfl rfl ?_
    refine gf_X4_13 (pc := 34) dX4_explore_34 wF_X4_43 (A_94 hw_23) T45 ?_
    refine mr_iconst (pc := 37) (z := 2) dX4_explore_37 ?_
    refine mr_iload_n (pc := 38) (z := z37) dX4_explore_38 rfl rfl ?_
    refine mr_iload_n (pc := 39) (z := z42) dX4_explore_39 rfl rfl ?_
    refine mr_isub (pc := 40) (x := z37) (y := z42) dX4_explore_40 ?_
    refine ss_105 (pc := 41) dX4_explore_41 (A_105 hw_23) T45 (rIx (n := 4) (rR (x := 2)) rfl) (rW (c := (-2147483648)) (d := 2147483647) (rSub (e := (-46655)) (f := 46656) h36.1 h41.1 rfl) rfl) fun μ46 u47 T48 => ?_
    refine sv_aload_n (pc := 42) dX4_explore_42 rfl rfl ?_
    refine mr_iconst (pc := 43) (z := 1) dX4_explore_43 ?_
    refine pf_X4_11 (pc := 44) dX4_explore_44 wF_X4_56 (A_94 hw_23) T48 (rW (c := 0) (d := 1) (rR (x := 1)) rfl) fun μ49 u50 T51 => ?_
    exact mr_vretX dX4_explore_47 rfl (le_t rfl) (le_t rfl) hw_23 T51 (mX.fr (mX.fr (mX.fr (mX.fr (mX.fr (mX.trans (mX.fr mX.refl F8 rfl) F20 rfl) F35 rfl) F40 rfl) (mF.up mF.refl (A_105 hw_23) u44 rfl : mF [105999] _ _ _) rfl) (mF.up mF.refl (A_105 hw_23) u47 rfl : mF [105999] _ _ _) rfl) (mF.up mF.refl (A_94 hw_23) u50 rfl : mF [94011] _ _ _) rfl) ⟨(lenQ0 (lenQ2 h21.2.2.1 q28 q31) (u50.f (Or.inr (by decide)) (u47.f (Or.inl (mAt.ne (A_105 hw_23) (A_94 hw_23) rfl)) (u44.f (Or.inl (mAt.ne (A_105 hw_23) (A_94 hw_23) rfl)) (F40.f (A_94 hw_23) rfl (F35.f (A_94 hw_23) rfl q28))))) (u50.f (Or.inr (by decide)) (u47.f (Or.inl (mAt.ne (A_105 hw_23) (A_94 hw_23) rfl)) (u44.f (Or.inl (mAt.ne (A_105 hw_23) (A_94 hw_23) rfl)) (F40.f (A_94 hw_23) rfl (F35.f (A_94 hw_23) rfl q31)))))), (potQ h21.2.2.2.1 q28 (u50.f (Or.inr (by decide)) (u47.f (Or.inl (mAt.ne (A_105 hw_23) (A_94 hw_23) rfl)) (u44.f (Or.inl (mAt.ne (A_105 hw_23) (A_94 hw_23) rfl)) (F40.f (A_94 hw_23) rfl (F35.f (A_94 hw_23) rfl q28)))))), trivial⟩
  have h52 : 1 ≤ z1 ∧ z1 ≤ 1 := (vc_X12_ring_24 h4 h3)
  exact mr_vretX dX4_explore_7 rfl (le_t rfl) (le_t rfl) hw_0 hT mX.refl ⟨(lenQ0 hle q_bq q_bf), (potM0 q_bq), trivial⟩
theorem vc_X11_tries_3 {p1 : Int} (h0 : p1 ≤ 3) (h1 : 0 ≤ p1) (h2 : 0 ≤ p1 ∧ p1 ≤ 2147483647) : 0 ≤ p1 ∧ p1 ≤ 3 := by omega
theorem vc_X11_tries_4 {p1 : Int} (h0 : 3 < p1) (h1 : 0 ≤ p1) (h2 : 0 ≤ p1 ∧ p1 ≤ 2147483647) : 4 ≤ p1 ∧ p1 ≤ 2147483647 := by omega
set_option maxRecDepth 4000 in
set_option maxHeartbeats 4000000 in
theorem c_X11_tries {l : Launch} {D : va_G} {c : Nat → ClassId} {H0 : Heap} {sa : Nat × Nat × (Nat → Int32)} {w_0 : mW} {μ : mM} (hw_0 : mWF w_0) (hT : mT w_0 μ) {p1 : Int} (hp1 : (-2147483648) ≤ p1 ∧ p1 ≤ 2147483647) {bq : Nat} (q_bq : μ 94 6 = (bq : Int)) (hA_bq : mAt w_0 bq 102) {bf : Nat} (q_bf : μ 94 8 = (bf : Int)) (hA_bf : mAt w_0 bf 104) (hle : w_0.2.2.1 bq = w_0.2.2.1 bf) : sC (gG l D c H0 sa) mX11_tries 13 2 186624 [.ref 0, iv p1] (mk w_0 μ) (qIx w_0 [94006, 94008, 94009, 94011, 98999, 99999, 100999, 101999, 102999, 104999, 105999] μ (fun z w1 μ1 => ((-2147483648) ≤ z ∧ z ≤ 2147483647) ∧ (w1.2.2.1 (μ1 94 6).toNat = w1.2.2.1 (μ1 94 8).toNat) ∧ (((szW w1 : Int) + 4 * (w_0.2.2.1 bq : Int) ≤ szW w_0 + 4 * (w1.2.2.1 (μ1 94 6).toNat : Int) ∧ (w1.1 : Int) + 2 * (w_0.2.2.1 bq : Int) ≤ (w_0.1 : Int) + 2 * (w1.2.2.1 (μ1 94 6).toNat : Int))) ∧ True)) := by
  refine sC.of rfl (by decide) (le_t rfl) ?_
  refine mr_lvE (lv' := [(0, .ref 0), (1, iv p1)]) rfl ?_
  refine mr_iload_n (pc := 0) (z := p1) dX11_tries_0 rfl rfl ?_
  refine mr_if_lt (pc := 1) (tgt := 9) dX11_tries_1 (by decide) hp1 (fun h1 => ?_) (fun h1 => ?_)
  · have h2 : (-2147483648) ≤ p1 ∧ p1 ≤ (-1) := (vc_X12_ring_60 h1 hp1)
    refine mr_iconst (pc := 9) (z := (-1)) dX11_tries_9 ?_
    exact mr_iretX dX11_tries_10 rfl (le_t rfl) (le_t rfl) hw_0 hT mX.refl ⟨(rW (c := (-2147483648)) (d := 2147483647) (rR (x := (-1))) rfl), (lenQ0 hle q_bq q_bf), (potM0 q_bq), trivial⟩
  have h3 : 0 ≤ p1 ∧ p1 ≤ 2147483647 := (vc_X12_ring_1 h1 hp1)
  refine mr_iload_n (pc := 4) (z := p1) dX11_tries_4 rfl rfl ?_
  refine mr_iconst (pc := 5) (z := 3) dX11_tries_5 ?_
  refine mr_icmp_le (pc := 6) (tgt := 11) dX11_tries_6 (by decide) (r32 h3 rfl) (r32 (rR (x := 3)) rfl) (fun h4 => ?_) (fun h4 => ?_)
  · have h5 : 0 ≤ p1 ∧ p1 ≤ 3 := (vc_X11_tries_3 h4 h1 h3)
    refine sv_aload_n (pc := 11) dX11_tries_11 rfl rfl ?_
    refine gf_X11_9 (pc := 12) dX11_tries_12 wF_X11_72 (A_0 hw_0) hT ?_
    refine mr_cVVX (pc := 15) (c_X4_explore hw_0 hT q_bq hA_bq q_bf hA_bf hle) (gOk _ _ _ _ _) dX11_tries_15 (tX4_explore _ _ _ _ _) ⟨wV_X4_explore, wL_X4_explore⟩ wM_X11_420 (gCX4 _ _ _ _ _) rfl (A_94 hw_0) rfl ⟨le_t rfl, le_t rfl⟩ ⟨le_t rfl, le_t rfl⟩ rfl (le_t rfl) fun w_10 μ6 hw_11 T7 F8 h9 => ?_
    refine sv_wid (ce' := 2) (sl' := 186624) (le_t rfl) (le_t rfl) ?_
    have A12 : mAt w_10 bq 102 := (hA_bq).ext F8.1
    have A13 : mAt w_10 bf 104 := (hA_bf).ext F8.1
    refine sv_aload_n (pc := 18) dX11_tries_18 rfl rfl ?_
    refine gf_X11_9 (pc := 19) dX11_tries_19 wF_X11_72 (A_0 hw_11) T7 ?_
    refine gf_X4_13 (pc := 22) dX11_tries_22 wF_X11_423 (A_94 hw_11) T7 ?_
    refine mr_iload_n (pc := 25) (z := p1) dX11_tries_25 rfl rfl ?_
    refine la_105 (pc := 26) dX11_tries_26 (A_105 hw_11) T7 (rIx (n := 4) h5 rfl) fun z14 q15 h16 => ?_
    exact mr_iretX dX11_tries_27 rfl (le_t rfl) (le_t rfl) hw_11 T7 (mX.trans mX.refl F8 rfl) ⟨h16, h9.1, h9.2.1, trivial⟩
  have h17 : 4 ≤ p1 ∧ p1 ≤ 2147483647 := (vc_X11_tries_4 h4 h1 h3)
  refine mr_iconst (pc := 9) (z := (-1)) dX11_tries_9 ?_
  exact mr_iretX dX11_tries_10 rfl (le_t rfl) (le_t rfl) hw_0 hT mX.refl ⟨(rW (c := (-2147483648)) (d := 2147483647) (rR (x := (-1))) rfl), (lenQ0 hle q_bq q_bf), (potM0 q_bq), trivial⟩
theorem vc_X4_keepRest_a_1 {f_rc : Int} (h0 : f_rc ≤ 46655) (h1 : 0 ≤ f_rc ∧ f_rc ≤ 46656) : 0 ≤ f_rc ∧ f_rc ≤ 46655 := by omega
theorem vc_X4_keepRest_a_2 {f_rc n_35 : Int} (h0 : n_35 ≤ f_rc) (h1 : f_rc ≤ 46655) (h2 : f_rc < n_35) (h3 : 0 ≤ f_rc ∧ f_rc ≤ 46655) (h4 : 0 ≤ n_35 ∧ n_35 ≤ 93312) : False := by omega
theorem vc_X4_keepRest_a_3 {f_rc n_35 : Int} (h0 : f_rc < n_35) (h1 : f_rc ≤ 46655) (h2 : 0 ≤ f_rc ∧ f_rc ≤ 46655) (h3 : 0 ≤ n_35 ∧ n_35 ≤ 93312) : 1 ≤ n_35 ∧ n_35 ≤ 93312 := by omega
theorem vc_X4_keepRest_a_4 {f_rc n_35 : Int} (h0 : f_rc ≤ 46655) (h1 : f_rc < n_35) (h2 : 0 ≤ f_rc ∧ f_rc ≤ 46655) (h3 : 1 ≤ n_35 ∧ n_35 ≤ 93312) : 0 ≤ f_rc ∧ f_rc < n_35 := by omega
theorem vc_X4_keepRest_a_5 {f_rc n_35 : Int} (h0 : f_rc ≤ 46655) (h1 : f_rc < n_35) (h2 : 0 ≤ f_rc ∧ f_rc ≤ 46655) (h3 : 1 ≤ n_35 ∧ n_35 ≤ 93312) : (f_rc + 1) = f_rc + 1 := by omega
set_option maxRecDepth 4000 in
set_option maxHeartbeats 4000000 in
theorem c_X4_keepRest_a {l : Launch} {D : va_G} {c : Nat → ClassId} {H0 : Heap} {sa : Nat × Nat × (Nat → Int32)} {w : mW} {μ : mM} (hw : mWF w) (hT : mT w μ) {p1 : Int} (hp1 : 0 ≤ p1 ∧ p1 ≤ 46655) {f_rc : Int} (q_f_rc : μ 94 14 = f_rc) {br : Nat} (q_br : μ 94 7 = (br : Int)) (hA_br : mAt w br 103) (hq0 : f_rc ≤ 46655) (hix : f_rc < (w.2.2.1 br : Int)) : sC (gG l D c H0 sa) mX4_keepRest 1 0 0 [.ref 94, iv p1] (mk w μ) (qV w [94014, 103999] μ (fun μ1 => ∃ o_rc : Int, μ1 94 14 = o_rc ∧ (o_rc = f_rc + 1) ∧ True)) := by
  refine sC.of rfl (by decide) (le_t rfl) ?_
  have ht_f_rc : (0 ≤ f_rc ∧ f_rc ≤ 46656) := by rw [← q_f_rc]; exact hT 94 94 (A_94 hw) 14
  have h1 : 0 ≤ f_rc ∧ f_rc ≤ 46655 := (vc_X4_keepRest_a_1 hq0 ht_f_rc)
  refine mr_lvE (lv' := [(0, .ref 94), (1, iv p1)]) rfl ?_
  obtain ⟨n_35, q36⟩ : ∃ n : Int, (w.2.2.1 br : Int) = n := ⟨_, rfl⟩
  have h37 : 0 ≤ n_35 ∧ n_35 ≤ 93312 := lnR (m := 93312) q36 hA_br rfl
  have h38 : f_rc < n_35 := by rw [← q36]; exact hix
  refine sv_aload_n (pc := 0) dX4_keepRest_0 rfl rfl ?_
  refine gk_X4_14 (pc := 1) dX4_keepRest_1 wF_X4_82 (A_94 hw) q_f_rc ?_
  refine sv_aload_n (pc := 4) dX4_keepRest_4 rfl rfl ?_
  refine gk_X4_7 (pc := 5) dX4_keepRest_5 wF_X4_36 (A_94 hw) q_br ?_
  refine mr_alen (pc := 8) (kd := 0) dX4_keepRest_8 rfl hA_br rfl q36 ?_
  refine mr_icmp_lt (pc := 9) (tgt := 29) dX4_keepRest_9 (by decide) (r32 h1 rfl) (r32 h37 rfl) (fun h39 => ?_) (fun h => ((vc_X4_keepRest_a_2 h hq0 h38 h1 h37)).elim)
  have h40 : 1 ≤ n_35 ∧ n_35 ≤ 93312 := (vc_X4_keepRest_a_3 h39 hq0 h1 h37)
  refine sv_aload_n (pc := 29) dX4_keepRest_29 rfl rfl ?_
  refine gk_X4_7 (pc := 30) dX4_keepRest_30 wF_X4_36 (A_94 hw) q_br ?_
  refine sv_aload_n (pc := 33) dX4_keepRest_33 rfl rfl ?_
  refine gk_X4_14 (pc := 34) dX4_keepRest_34 wF_X4_82 (A_94 hw) q_f_rc ?_
  refine mr_iload_n (pc := 37) (z := p1) dX4_keepRest_37 rfl rfl ?_
  refine ss_103 (pc := 38) dX4_keepRest_38 hA_br hT (lnC q36 (vc_X4_keepRest_a_4 hq0 h38 h1 h40)) hp1 fun μ41 u42 T43 => ?_
  refine sv_aload_n (pc := 39) dX4_keepRest_39 rfl rfl ?_
  refine sv_dup (pc := 40) dX4_keepRest_40 rfl ?_
  refine gk_X4_14 (pc := 41) dX4_keepRest_41 wF_X4_82 (A_94 hw) (u42.f (Or.inl (mAt.ne hA_br (A_94 hw) rfl)) q_f_rc) ?_
  refine mr_iconst (pc := 44) (z := 1) dX4_keepRest_44 ?_
  refine mr_iadd (pc := 45) (x := f_rc) (y := 1) dX4_keepRest_45 ?_
  refine pf_X4_14 (pc := 46) dX4_keepRest_46 wF_X4_82 (A_94 hw) T43 (rW (c := 0) (d := 46656) (rAdd (e := 1) (f := 46656) h1 (rR (x := 1)) rfl) rfl) fun μ44 u45 T46 => ?_
  exact mr_vret dX4_keepRest_49 rfl (le_t rfl) (le_t rfl) T46 (mF.up (mF.up mF.refl hA_br u42 rfl) (A_94 hw) u45 rfl) ⟨(f_rc + 1), u45.1, (vc_X4_keepRest_a_5 hq0 h38 h1 h40), trivial⟩
end
section
/-! A row of ints copied into a longer one. -/
section MV27
variable (l : Launch) (D : va_G) (c : Nat → ClassId) (H0 : Heap) (sa : Nat × Nat × (Nat → Int32))
theorem c_copyG {d a n : Nat} {q : Nat → Int32} {x : Int32} {N hn : Nat} {hf : Nat → sE} (hd : 2 ≤ d) (ha : a < hn) (he : hf a = .inl (0, n, sI q)) (hx : x = nI N) (hN : n < N) (hn31 : N < 2 ^ 26) : sC (gG l D c H0 sa) mJ_copyI d 1 N [.ref a, .int x] (hn, hf) (fun r hp' => r = some (.ref hn) ∧ hp' = (hn + 1, sUp (sUp hf hn (.inl (0, N, fun _ => .int 0))) hn (.inl (0, N, sI (va_cpy q (fun _ => 0) 0 0 n))))) := by
  subst hx
  have hcl : (nI N).toNatClampNeg = N := nI_clamp (by omega)
  have hpo : ¬ nI N < 0 := nI_pos (by omega)
  have hcl' : (nI n).toNatClampNeg = n := nI_clamp (by omega)
  have hpo' : ¬ nI n < 0 := nI_pos (by omega)
  refine sC.of rfl (by decide) (le_t rfl) ?_
  refine sv_iload_n (pc := 0) dJ_copyI_0 rfl rfl ?_
  refine sv_aload_n (pc := 1) dJ_copyI_1 rfl rfl ?_
  refine sv_arraylength (pc := 2) (kd := 0) (n := n) (f := sI q) (cA := c 0) (ty := .int) (v := nI n) dJ_copyI_2 rfl ha he rfl ?_
  refine sv_icmp_ne (pc := 3) (tgt := 14) dJ_copyI_3 (by decide) (fun _ => ?_) (fun h => absurd ((nI_eq (by omega) (by omega)).mp h) (by omega))
  refine sv_iload_n (pc := 14) dJ_copyI_14 rfl rfl ?_
  refine sv_newarray (pc := 15) (kd := 0) (cA := c 0) (N := N) (v := .int 0) dJ_copyI_15 rfl wA_int rfl (fun U => sI_Cond_int U _) hpo hcl (by show N * 4 ≤ _; omega) (fun _ => rfl) (Nat.le_refl _) (by show 0 + N ≤ N; omega) ?_
  refine sv_astore_n (pc := 17) dJ_copyI_17 rfl (by decide) ?_
  refine sv_aload_n (pc := 18) dJ_copyI_18 rfl rfl ?_
  refine sv_iconst (pc := 19) (v := 0) dJ_copyI_19 (by decide) ?_
  refine sv_aload_n (pc := 20) dJ_copyI_20 rfl rfl ?_
  refine sv_iconst (pc := 21) (v := 0) dJ_copyI_21 (by decide) ?_
  refine sv_aload_n (pc := 22) dJ_copyI_22 rfl rfl ?_
  have hne : a ≠ hn := by omega
  refine sv_arraylength (pc := 23) (kd := 0) (n := n) (f := sI q) (cA := c 0) (ty := .int) (v := nI n) dJ_copyI_23 rfl (show a < hn + 1 by omega) (by show sUp hf hn _ a = _; rw [sUp_ne _ _ hne]; exact he) rfl ?_
  refine sv_iload_n (pc := 24) dJ_copyI_24 rfl rfl ?_
  refine sv_min (pc := 25) (v := nI n) dJ_copyI_25 wM_J_304 wS_J_min wI_J_math wK_J_min ⟨by show 1 ≤ d; omega, by show 21 ≤ 60 * d; omega⟩ ⟨Nat.le_refl _, by show 0 + N ≤ N; omega⟩ (le_t rfl) (by rw [if_neg (fun h => absurd ((nI_ltI (by omega) (by omega)).mp h) (by omega))]) ?_
  have hnf : nativeFrameWords "java/lang/System" "arraycopy" 5 + 19 ≤ 120 := by decide +kernel
  refine sv_copyI (pc := 28) (cA := c 0) (q := q) (q' := fun _ => 0) (n0 := n) (n1 := N) (a0 := a) (a := hn) dJ_copyI_28 wM_J_150 wN_J_ac wS_J_ac wI_J_sys rfl (by omega) (by omega) (by rw [sUp_ne _ _ hne]; exact he) (sUp_at _ _ _) (by decide) (by decide) hpo' (by rw [hcl']; show 0 + n ≤ n; omega) (by rw [hcl']; show 0 + n ≤ N; omega) (by show 1 ≤ d; omega) (show _ ≤ 60 * d by omega) (le_t rfl) ?_
  rw [hcl']
  refine sv_aload_n (pc := 31) dJ_copyI_31 rfl rfl ?_
  exact sv_aretA (pc := 32) dJ_copyI_32 rfl (Nat.le_refl _) (by show 0 + N ≤ N; omega) ⟨rfl, rfl⟩
end MV27
section MV27b
variable {l : Launch} {D : va_G} {c : Nat → ClassId} {H0 : Heap} {sa : Nat × Nat × (Nat → Int32)} {M : sM} {R : Room} {Z : sZT} {pc : Nat} {lv : List (Nat × Value)} {st : List Value} {w : mW} {μ : mM} {ce sl : Nat}
def mCpN (μ : mM) (a n : Nat) : Nat → Int := fun i => if i < n then μ a i else 0
theorem mr_copyG {index a s : Nat} {x : Int} (ho : sOk (gG l D c H0 sa)) (hd : decode M.2.1 pc = .ok (.invokestatic index, 3)) (hlk : Cond.methodLink M.1.cls index yJ_copyI ∈ sg_ws (gG l D c H0 sa)) (hA : mAt w a s) (hs : mTab s = .inr (0, 0)) (hx : (w.2.2.1 a : Int) < x ∧ x ≤ (mLen s : Int)) (hL : mLen s ≤ 100000) (hvar : mVar s = true) (hT : mT w μ) (hty : ∀ i, tyP (wNew w s x.toNat) w.1 i (mTy s i) 0) (htc : ∀ i, tyP w a i (mTy s i) (μ a i) → tyP (wNew w s x.toNat) w.1 i (mTy s i) (μ a i)) (hR : 3 ≤ R.frames ∧ 142 ≤ R.locals) (hc1 : ce + 1 ≤ R.cells) (hs1 : sl + x.toNat ≤ R.slots) (hr8 : (st.map fun v => v.category).sum ≤ 8)
    (kk : ∀ w1 μ1, mX [] w μ w1 μ1 → mT w1 μ1 → mAt w1 w.1 s → w1.1 = w.1 + 1 → (w1.2.2.1 w.1 : Int) = x → w1.2.2.2 = w.2.2.2 → (∀ i : Nat, (i : Int) < (w.2.2.1 a : Int) → μ1 w.1 i = μ a i) → sV (gG l D c H0 sa) M R Z (pc + 3) lv (.ref w.1 :: st) (mk w1 μ1) (ce + 1) (sl + x.toNat)) : sV (gG l D c H0 sa) M R Z pc lv (iv x :: .ref a :: st) (mk w μ) ce sl := by
  have hn : Int32.ofInt x = nI x.toNat := by
    rw [show x = (x.toNat : Int) by omega]; exact Int32.ofInt_eq_ofNat
  have hct := c_copyG l D c H0 sa (d := 2) (a := a) (hn := (mk w μ).1) (hf := (mk w μ).2) (N := x.toNat) (n := w.2.2.1 a) (q := fun i => Int32.ofInt (μ a i)) (x := Int32.ofInt x) (Nat.le_refl _) hA.2.1 (mk_arr hA hs) hn (by omega) (by omega)
  refine sv_callS (av := [.ref a, .int (Int32.ofInt x)]) hct ho hd (tJ_copyI l D c H0 sa) wS_J_copyI hlk ⟨hR.1, hR.2⟩ ⟨hc1, hs1⟩ rfl hr8 ?_
  rintro r hp' ⟨rfl, rfl⟩
  have hcell : mCell (mTab s) x.toNat (mCpN μ a (w.2.2.1 a)) = .inl (0, x.toNat, sI (va_cpy (fun i => Int32.ofInt (μ a i)) (fun _ => 0) 0 0 (w.2.2.1 a))) := by
    rw [hs]
    show (Sum.inl (0, x.toNat, _) : sE) = _
    congr 3
    funext i
    simp only [sI, va_cpy, mv, iv, mCpN]
    by_cases q : i < w.2.2.1 a
    · rw [if_pos q, if_pos (by omega), show 0 + (i - 0) = i by omega]
    · rw [if_neg q, if_neg (by omega)]; rfl
  refine sv_heap (hp' := mk (wNew w s x.toNat) (mNew μ w.1 (mCpN μ a (w.2.2.1 a)))) rfl (fun j hj => ?_) (kk _ _ (mNew.x (mVar_gt hvar)) (mT.new (mVar_gt hvar) hT fun i => ?_) (wNew.at (by omega) (fun q => by rw [hvar] at q; cases q)) rfl ?_ rfl (fun i hi => ?_))
  · rw [← mkNew (μ := μ) (s := s) j hj, hcell]
    show sUp (sUp (mk w μ).2 w.1 _) w.1 _ j = _
    by_cases h : j = w.1
    · subst h; rw [sUp_at, sUp_at]
    · rw [sUp_ne _ _ h, sUp_ne _ _ h, sUp_ne _ _ h]
  · unfold mCpN
    by_cases q : i < w.2.2.1 a
    · rw [if_pos q]; exact htc i (hT a s hA i)
    · rw [if_neg q]; exact hty i
  · rw [show (wNew w s x.toNat).2.2.1 w.1 = x.toNat from if_pos rfl]; omega
  · rw [show mNew μ w.1 (mCpN μ a (w.2.2.1 a)) w.1 i = mCpN μ a (w.2.2.1 a) i from if_pos rfl]
    exact if_pos (by omega)
end MV27b
theorem lenX {w : mW} {b : Nat} {x y n : Int} (q : x = (b : Int)) (hl : (w.2.2.1 b : Int) = n) (h : n = y) : (w.2.2.1 x.toNat : Int) = y := by
  have e : x.toNat = b := by omega
  rw [e]; omega
end
section
theorem dX4_keepRest_12 : decode cX4_keepRest 12 = .ok (.aload_n 0, 1) := dc0 dO_42 (by decide +kernel)
theorem dX4_keepRest_13 : decode cX4_keepRest 13 = .ok (.aload_n 0, 1) := dc0 dO_42 (by decide +kernel)
theorem dX4_keepRest_14 : decode cX4_keepRest 14 = .ok (.getfield 36, 3) := dcU2 dO_180 (by decide +kernel)
theorem dX4_keepRest_17 : decode cX4_keepRest 17 = .ok (.iconst 2, 1) := dc0 dO_5 (by decide +kernel)
theorem dX4_keepRest_18 : decode cX4_keepRest 18 = .ok (.aload_n 0, 1) := dc0 dO_42 (by decide +kernel)
theorem dX4_keepRest_19 : decode cX4_keepRest 19 = .ok (.getfield 82, 3) := dcU2 dO_180 (by decide +kernel)
theorem dX4_keepRest_22 : decode cX4_keepRest 22 = .ok (.imul, 1) := dc0 dO_104 (by decide +kernel)
theorem dX4_keepRest_23 : decode cX4_keepRest 23 = .ok (.invokestatic 98, 3) := dcU2 dO_184 (by decide +kernel)
theorem dX4_keepRest_26 : decode cX4_keepRest 26 = .ok (.putfield 36, 3) := dcU2 dO_181 (by decide +kernel)
end
section
theorem vc_X4_keepRest_b_2 {f_rc : Int} (h0 : f_rc ≤ 46655) (h1 : 1 ≤ f_rc) (h2 : 1 ≤ f_rc ∧ f_rc ≤ 46656) : 1 ≤ f_rc ∧ f_rc ≤ 46655 := by omega
theorem vc_X4_keepRest_b_3 {f_rc n_90 : Int} (h0 : f_rc < n_90) (h1 : 1 ≤ f_rc) (h2 : f_rc ≤ 46655) (h3 : n_90 ≤ f_rc) (h4 : 1 ≤ f_rc ∧ f_rc ≤ 46655) (h5 : 0 ≤ n_90 ∧ n_90 ≤ 93312) : False := by omega
theorem vc_X4_keepRest_b_4 {f_rc n_90 : Int} (h0 : n_90 ≤ f_rc) (h1 : 1 ≤ f_rc) (h2 : f_rc ≤ 46655) (h3 : 1 ≤ f_rc ∧ f_rc ≤ 46655) (h4 : 0 ≤ n_90 ∧ n_90 ≤ 93312) : 0 ≤ n_90 ∧ n_90 ≤ 46655 := by omega
theorem vc_X4_keepRest_b_5 {f_rc n_90 : Int} (h0 : 1 ≤ f_rc) (h1 : f_rc ≤ 46655) (h2 : n_90 ≤ f_rc) (h3 : 1 ≤ f_rc ∧ f_rc ≤ 46655) (h4 : 0 ≤ n_90 ∧ n_90 ≤ 46655) : n_90 < (2 * f_rc) ∧ (2 * f_rc) ≤ 93312 := by omega
theorem vc_X4_keepRest_b_7 {f_rc n_108 n_90 : Int} (h0 : 1 ≤ f_rc) (h1 : f_rc ≤ 46655) (h2 : n_90 ≤ f_rc) (h3 : n_108 = (2 * f_rc)) (h4 : 1 ≤ f_rc ∧ f_rc ≤ 46655) (h5 : 0 ≤ n_108 ∧ n_108 ≤ 93312) (h6 : 0 ≤ n_90 ∧ n_90 ≤ 46655) : 0 ≤ f_rc ∧ f_rc < n_108 := by omega
theorem vc_X4_keepRest_b_8 {f_rc n_108 n_90 : Int} (h0 : 1 ≤ f_rc) (h1 : f_rc ≤ 46655) (h2 : n_90 ≤ f_rc) (h3 : n_108 = (2 * f_rc)) (h4 : 1 ≤ f_rc ∧ f_rc ≤ 46655) (h5 : 0 ≤ n_108 ∧ n_108 ≤ 93312) (h6 : 0 ≤ n_90 ∧ n_90 ≤ 46655) : (f_rc + 1) = f_rc + 1 := by omega
theorem vc_X4_keepRest_b_9 {f_rc n_108 n_90 : Int} (h0 : 1 ≤ f_rc) (h1 : f_rc ≤ 46655) (h2 : n_90 ≤ f_rc) (h3 : n_108 = (2 * f_rc)) (h4 : 1 ≤ f_rc ∧ f_rc ≤ 46655) (h5 : 0 ≤ n_108 ∧ n_108 ≤ 93312) (h6 : 0 ≤ n_90 ∧ n_90 ≤ 46655) : n_108 = 2 * f_rc := by omega
set_option maxRecDepth 4000 in
set_option maxHeartbeats 4000000 in
theorem c_X4_keepRest_b {l : Launch} {D : va_G} {c : Nat → ClassId} {H0 : Heap} {sa : Nat × Nat × (Nat → Int32)} {w_0 : mW} {μ : mM} (hw_0 : mWF w_0) (hT : mT w_0 μ) {p1 : Int} (hp1 : 0 ≤ p1 ∧ p1 ≤ 46655) {f_rc : Int} (q_f_rc : μ 94 14 = f_rc) {br : Nat} (q_br : μ 94 7 = (br : Int)) (hA_br : mAt w_0 br 103) (hq0 : 1 ≤ f_rc) (hq1 : f_rc ≤ 46655) (hix : (w_0.2.2.1 br : Int) ≤ f_rc) : sC (gG l D c H0 sa) mX4_keepRest 4 1 (2 * f_rc).toNat [.ref 94, iv p1] (mk w_0 μ) (qVx w_0 [94007, 94014, 103999] μ (fun w1 μ1 => ∃ o_rc : Int, μ1 94 14 = o_rc ∧ (o_rc = f_rc + 1) ∧ ((w1.2.2.1 (μ1 94 7).toNat : Int) = 2 * f_rc) ∧ (((szW w1 : Int) = szW w_0 + 2 * f_rc ∧ w1.1 = w_0.1 + 1)) ∧ True)) := by
  refine sC.of rfl (by decide) (le_t rfl) ?_
  have ht_f_rc : (0 ≤ f_rc ∧ f_rc ≤ 46656) := by rw [← q_f_rc]; exact hT 94 94 (A_94 hw_0) 14
  have h1 : 1 ≤ f_rc ∧ f_rc ≤ 46656 := (vc_X12_open_1 hq0 ht_f_rc)
  have h2 : 1 ≤ f_rc ∧ f_rc ≤ 46655 := (vc_X4_keepRest_b_2 hq1 hq0 h1)
  refine mr_lvE (lv' := [(0, .ref 94), (1, iv p1)]) rfl ?_
  obtain ⟨n_90, q91⟩ : ∃ n : Int, (w_0.2.2.1 br : Int) = n := ⟨_, rfl⟩
  have h92 : 0 ≤ n_90 ∧ n_90 ≤ 93312 := lnR (m := 93312) q91 hA_br rfl
  have h93 : n_90 ≤ f_rc := by rw [← q91]; exact hix
  refine sv_aload_n (pc := 0) dX4_keepRest_0 rfl rfl ?_
  refine gk_X4_14 (pc := 1) dX4_keepRest_1 wF_X4_82 (A_94 hw_0) q_f_rc ?_
  refine sv_aload_n (pc := 4) dX4_keepRest_4 rfl rfl ?_
  refine gk_X4_7 (pc := 5) dX4_keepRest_5 wF_X4_36 (A_94 hw_0) q_br ?_
  refine mr_alen (pc := 8) (kd := 0) dX4_keepRest_8 rfl hA_br rfl q91 ?_
  refine mr_icmp_lt (pc := 9) (tgt := 29) dX4_keepRest_9 (by decide) (r32 h2 rfl) (r32 h92 rfl) (fun h => ((vc_X4_keepRest_b_3 h hq0 hq1 h93 h2 h92)).elim) (fun h94 => ?_)
  have h95 : 0 ≤ n_90 ∧ n_90 ≤ 46655 := (vc_X4_keepRest_b_4 h94 hq0 hq1 h2 h92)
  refine sv_aload_n (pc := 12) dX4_keepRest_12 rfl rfl ?_
  refine sv_aload_n (pc := 13) dX4_keepRest_13 rfl rfl ?_
  refine gk_X4_7 (pc := 14) dX4_keepRest_14 wF_X4_36 (A_94 hw_0) q_br ?_
  refine mr_iconst (pc := 17) (z := 2) dX4_keepRest_17 ?_
  refine sv_aload_n (pc := 18) dX4_keepRest_18 rfl rfl ?_
  refine gk_X4_14 (pc := 19) dX4_keepRest_19 wF_X4_82 (A_94 hw_0) q_f_rc ?_
  refine mr_imul (pc := 22) (x := 2) (y := f_rc) dX4_keepRest_22 ?_
  refine mr_copyG (pc := 23) (s := 103) (x := (2 * f_rc)) (gOk _ _ _ _ _) dX4_keepRest_23 wM_X4_98 hA_br rfl (show (w_0.2.2.1 br : Int) < (2 * f_rc) ∧ (2 * f_rc) ≤ ((mLen 103 : Nat) : Int) from (by rw [q91]; exact (vc_X4_keepRest_b_5 hq0 hq1 h93 h2 h95))) (le_t rfl) rfl hT (fun _ => (show (0 : Int) ≤ 0 ∧ (0 : Int) ≤ 46655 from by decide)) (fun _ h => h) ⟨le_t rfl, le_t rfl⟩ (le_t rfl) (show 0 + (2 * f_rc).toNat ≤ (2 * f_rc).toNat by omega) (le_t rfl) fun w_96 μ98 X99 T100 A101 e102 q103 c104 v105 => ?_
  have hw_97 : mWF w_96 := mWF.ext X99.1 hw_0
  have A106 : mAt w_96 br 103 := (hA_br).ext X99.1
  have q107 := X99.len hA_br q91
  obtain ⟨n_108, q109⟩ : ∃ n : Int, (w_96.2.2.1 w_0.1 : Int) = n := ⟨_, rfl⟩
  have h110 : 0 ≤ n_108 ∧ n_108 ≤ 93312 := lnR (m := 93312) q109 A101 rfl
  have h111 : n_108 = (2 * f_rc) := q109.symm.trans q103
  refine pf_X4_7 (pc := 26) dX4_keepRest_26 wF_X4_36 (A_94 hw_97) T100 A101 fun μ112 u113 T114 => ?_
  refine sv_aload_n (pc := 29) dX4_keepRest_29 rfl rfl ?_
  refine gk_X4_7 (pc := 30) dX4_keepRest_30 wF_X4_36 (A_94 hw_97) u113.1 ?_
  refine sv_aload_n (pc := 33) dX4_keepRest_33 rfl rfl ?_
  refine gk_X4_14 (pc := 34) dX4_keepRest_34 wF_X4_82 (A_94 hw_97) (u113.f (Or.inr (by decide)) (X99.f (A_94 hw_0) rfl q_f_rc)) ?_
  refine mr_iload_n (pc := 37) (z := p1) dX4_keepRest_37 rfl rfl ?_
  refine ss_103 (pc := 38) dX4_keepRest_38 A101 T114 (lnC q109 (vc_X4_keepRest_b_7 hq0 hq1 h93 h111 h2 h110 h95)) hp1 fun μ115 u116 T117 => ?_
  refine sv_aload_n (pc := 39) dX4_keepRest_39 rfl rfl ?_
  refine sv_dup (pc := 40) dX4_keepRest_40 rfl ?_
  refine gk_X4_14 (pc := 41) dX4_keepRest_41 wF_X4_82 (A_94 hw_97) (u116.f (Or.inl (mAt.ne A101 (A_94 hw_97) rfl)) (u113.f (Or.inr (by decide)) (X99.f (A_94 hw_0) rfl q_f_rc))) ?_
  refine mr_iconst (pc := 44) (z := 1) dX4_keepRest_44 ?_
  refine mr_iadd (pc := 45) (x := f_rc) (y := 1) dX4_keepRest_45 ?_
  refine pf_X4_14 (pc := 46) dX4_keepRest_46 wF_X4_82 (A_94 hw_97) T117 (rW (c := 0) (d := 46656) (rAdd (e := 2) (f := 46656) h2 (rR (x := 1)) rfl) rfl) fun μ118 u119 T120 => ?_
  exact mr_vretX dX4_keepRest_49 rfl (le_t rfl) (show 0 + (2 * f_rc).toNat ≤ (2 * f_rc).toNat by omega) hw_97 T120 (mX.fr (mX.fr (mX.fr (mX.trans mX.refl X99 rfl) (mF.up mF.refl (A_94 hw_97) u113 rfl : mF [94007] _ _ _) rfl) (mF.up mF.refl A101 u116 rfl : mF [103999] _ _ _) rfl) (mF.up mF.refl (A_94 hw_97) u119 rfl : mF [94014] _ _ _) rfl) ⟨(f_rc + 1), u119.1, (vc_X4_keepRest_b_8 hq0 hq1 h93 h111 h2 h110 h95), (lenX (u119.f (Or.inr (by decide)) (u116.f (Or.inl (mAt.ne A101 (A_94 hw_97) rfl)) u113.1)) q109 (vc_X4_keepRest_b_9 hq0 hq1 h93 h111 h2 h110 h95)), ⟨szW.new X99.1 e102 A101 rfl q103, e102⟩, trivial⟩
end
section
/-! The class's rests: the loop whose world grows. -/
theorem digs.le0 {μ : mM} {a v : Nat} (g : digs μ 101 a v 0) : hasLe μ 0 := fun i h1 h2 => by
  have d := g.at (p := (i : Int)) ⟨by omega, by omega⟩
  unfold dig at d
  rw [Int.zero_ediv, Int.zero_emod] at d
  have e : ((i : Int)).toNat = i := rfl
  rw [e] at d; omega
theorem hasLe.keepX {l : List Nat} {w w1 : mW} {μ μ1 : mM} {n : Int} (h : hasLe μ n) (hw : mWF w) (hX : mX l w μ w1 μ1) (hl : l.elem 101999 = false) : hasLe μ1 n := fun i h1 hi => by
  rw [hX.f (z := μ 101 i) (A_101 hw) hl rfl]; exact h i h1 hi
theorem dX4_findRests_0 : decode cX4_findRests 0 = .ok (.aload_n 0, 1) := dc0 dO_42 (by decide +kernel)
theorem dX4_findRests_1 : decode cX4_findRests 1 = .ok (.getfield 52, 3) := dcU2 dO_180 (by decide +kernel)
theorem dX4_findRests_4 : decode cX4_findRests 4 = .ok (.ifCond .eq 4, 3) := dcS2 dO_153 (by decide +kernel)
theorem dX4_findRests_7 : decode cX4_findRests 7 = .ok (.return_, 1) := dc0 dO_177 (by decide +kernel)
theorem dX4_findRests_8 : decode cX4_findRests 8 = .ok (.aload_n 0, 1) := dc0 dO_42 (by decide +kernel)
theorem dX4_findRests_9 : decode cX4_findRests 9 = .ok (.invokevirtual 79, 3) := dcU2 dO_182 (by decide +kernel)
theorem dX4_findRests_12 : decode cX4_findRests 12 = .ok (.aload_n 0, 1) := dc0 dO_42 (by decide +kernel)
theorem dX4_findRests_13 : decode cX4_findRests 13 = .ok (.iconst 0, 1) := dc0 dO_3 (by decide +kernel)
theorem dX4_findRests_14 : decode cX4_findRests 14 = .ok (.putfield 82, 3) := dcU2 dO_181 (by decide +kernel)
theorem dX4_findRests_17 : decode cX4_findRests 17 = .ok (.aload_n 0, 1) := dc0 dO_42 (by decide +kernel)
theorem dX4_findRests_18 : decode cX4_findRests 18 = .ok (.iconst 0, 1) := dc0 dO_3 (by decide +kernel)
theorem dX4_findRests_19 : decode cX4_findRests 19 = .ok (.invokevirtual 85, 3) := dcU2 dO_182 (by decide +kernel)
theorem dX4_findRests_22 : decode cX4_findRests 22 = .ok (.iconst 0, 1) := dc0 dO_3 (by decide +kernel)
theorem dX4_findRests_23 : decode cX4_findRests 23 = .ok (.istore_n 1, 1) := dc0 dO_60 (by decide +kernel)
theorem dX4_findRests_24 : decode cX4_findRests 24 = .ok (.iload_n 1, 1) := dc0 dO_27 (by decide +kernel)
theorem dX4_findRests_25 : decode cX4_findRests 25 = .ok (.aload_n 0, 1) := dc0 dO_42 (by decide +kernel)
theorem dX4_findRests_26 : decode cX4_findRests 26 = .ok (.getfield 59, 3) := dcU2 dO_180 (by decide +kernel)
theorem dX4_findRests_29 : decode cX4_findRests 29 = .ok (.if_icmp .ge 25, 3) := dcS2 dO_162 (by decide +kernel)
theorem dX4_findRests_32 : decode cX4_findRests 32 = .ok (.aload_n 0, 1) := dc0 dO_42 (by decide +kernel)
theorem dX4_findRests_33 : decode cX4_findRests 33 = .ok (.invokevirtual 88, 3) := dcU2 dO_182 (by decide +kernel)
theorem dX4_findRests_36 : decode cX4_findRests 36 = .ok (.ifCond .eq 8, 3) := dcS2 dO_153 (by decide +kernel)
theorem dX4_findRests_39 : decode cX4_findRests 39 = .ok (.aload_n 0, 1) := dc0 dO_42 (by decide +kernel)
theorem dX4_findRests_40 : decode cX4_findRests 40 = .ok (.iload_n 1, 1) := dc0 dO_27 (by decide +kernel)
theorem dX4_findRests_41 : decode cX4_findRests 41 = .ok (.invokevirtual 92, 3) := dcU2 dO_182 (by decide +kernel)
theorem dX4_findRests_44 : decode cX4_findRests 44 = .ok (.aload_n 0, 1) := dc0 dO_42 (by decide +kernel)
theorem dX4_findRests_45 : decode cX4_findRests 45 = .ok (.invokevirtual 95, 3) := dcU2 dO_182 (by decide +kernel)
theorem dX4_findRests_48 : decode cX4_findRests 48 = .ok (.iinc 1 1, 3) := dcI dO_132 (by decide +kernel)
theorem dX4_findRests_51 : decode cX4_findRests 51 = .ok (.goto (-27), 3) := dcS2 dO_167 (by decide +kernel)
theorem dX4_findRests_54 : decode cX4_findRests 54 = .ok (.aload_n 0, 1) := dc0 dO_42 (by decide +kernel)
theorem dX4_findRests_55 : decode cX4_findRests 55 = .ok (.iconst 1, 1) := dc0 dO_4 (by decide +kernel)
theorem dX4_findRests_56 : decode cX4_findRests 56 = .ok (.putfield 52, 3) := dcU2 dO_181 (by decide +kernel)
theorem dX4_findRests_59 : decode cX4_findRests 59 = .ok (.return_, 1) := dc0 dO_177 (by decide +kernel)
/-- what the rests' loop may change -/
abbrev frL : List Nat := [94007, 94009, 94010, 94014, 98999, 99999, 100999, 101999, 103999]
/-- the rests' row has place for what is counted -/
def rlP (w : mW) (μ : mM) : Prop := 1 ≤ (w.2.2.1 (μ 94 7).toNat : Int) ∧ μ 94 14 ≤ (w.2.2.1 (μ 94 7).toNat : Int)
theorem rlP.mk {w : mW} {μ : mM} {b : Nat} {n x : Int} (q : μ 94 7 = (b : Int)) (hn : (w.2.2.1 b : Int) = n) (qx : μ 94 14 = x) (h : 1 ≤ n ∧ x ≤ n) : rlP w μ := by
  unfold rlP
  rw [lenX q hn rfl, qx]; exact h
/-- .. and memory grew no more than that row -/
def rlQ (w0 : mW) (n0 : Int) (w : mW) (μ : mM) : Prop := rlP w μ ∧ (szW w : Int) + 2 * n0 ≤ szW w0 + 2 * (w.2.2.1 (μ 94 7).toNat : Int) ∧ (w.1 : Int) + n0 ≤ w0.1 + (w.2.2.1 (μ 94 7).toNat : Int)
theorem rlQ.mk {w0 w : mW} {μ : mM} {b : Nat} {n0 n x : Int} (q : μ 94 7 = (b : Int)) (hn : (w.2.2.1 b : Int) = n) (qx : μ 94 14 = x) (h : 1 ≤ n ∧ x ≤ n) (h1 : (szW w : Int) + 2 * n0 ≤ szW w0 + 2 * n) (h2 : (w.1 : Int) + n0 ≤ w0.1 + n) : rlQ w0 n0 w μ := ⟨rlP.mk q hn qx h, by rw [lenX q hn rfl]; exact h1, by rw [lenX q hn rfl]; exact h2⟩
theorem rlQ.refl {w : mW} {μ : mM} {b : Nat} (h : rlP w μ) (q : μ 94 7 = (b : Int)) : rlQ w (w.2.2.1 b) w μ := ⟨h, by rw [lenX q rfl rfl]; exact Int.le_refl _, by rw [lenX q rfl rfl]; exact Int.le_refl _⟩
section MV28
variable {l : Launch} {D : va_G} {c : Nat → ClassId} {H0 : Heap} {sa : Nat × Nat × (Nat → Int32)}
/-- what countUp keeps -/
def cuP (l : Launch) (D : va_G) (c : Nat → ClassId) (H0 : Heap) (sa : Nat × Nat × (Nat → Int32)) : Prop := ∀ (w : mW) (μ : mM) (g1 : Int), mWF w → mT w μ → 0 ≤ g1 ∧ g1 ≤ 46655 → hasLe μ g1 → sC (gG l D c H0 sa) mX4_countUp 1 0 0 [.ref 94] (mk w μ) (qV w [101999] μ (fun μ1 => hasLe μ1 (g1 + 1) ∧ True))
set_option maxRecDepth 4000 in
set_option maxHeartbeats 4000000 in
theorem lp_X4_findRests {w0 : mW} {μ0 : mM} {S n0 : Int} (hcu : cuP l D c H0 sa) (hS : S ≤ 46656) : ∀ (k : Nat) (w : mW) (μ : mM) (L rc n : Int) (b ce sl : Nat), S - L ≤ (k : Int) → mWF w → mT w μ → mX frL w0 μ0 w μ → μ 94 9 = S → μ 94 14 = rc → 0 ≤ rc ∧ rc ≤ L ∧ rc ≤ n → L ≤ S → hasLe μ L → μ 94 7 = (b : Int) → mAt w b 103 → (w.2.2.1 b : Int) = n → 1 ≤ n → (ce : Int) ≤ n → (sl : Int) ≤ 2 * n → (szW w : Int) + 2 * n0 ≤ szW w0 + 2 * n → (w.1 : Int) + n0 ≤ w0.1 + n → sV (gG l D c H0 sa) mX4_findRests (sRm 6 93312 186624) (sZ (gG l D c H0 sa) 93312 186624 (qVx w0 frL μ0 (rlQ w0 n0))) 24 [(1, iv L), (0, .ref 94)] [] (mk w μ) ce sl := by
  intro k
  induction k with
  | zero =>
    intro w μ L rc n b ce sl hk hw hT hX q9 q14 hrc hL hle q7 hA hn h1 hce hsl z1 z2
    have hnR := lnR (m := 93312) hn hA rfl
    refine mr_iload_n (pc := 24) (z := L) dX4_findRests_24 rfl rfl ?_
    refine sv_aload_n (pc := 25) dX4_findRests_25 rfl rfl ?_
    refine gk_X4_9 (pc := 26) dX4_findRests_26 wF_X4_59 (A_94 hw) q9 ?_
    refine mr_icmp_ge (pc := 29) (tgt := 54) dX4_findRests_29 (by decide) ⟨by omega, by omega⟩ ⟨by omega, by omega⟩ (fun h => ?_) (fun h => by omega)
    refine sv_aload_n (pc := 54) dX4_findRests_54 rfl rfl ?_
    refine mr_iconst (pc := 55) (z := 1) dX4_findRests_55 ?_
    refine pf_X4_10 (pc := 56) dX4_findRests_56 wF_X4_52 (A_94 hw) hT (by decide) fun μ1 u1 T1 => ?_
    exact mr_vretX dX4_findRests_59 rfl (by omega) (by omega) hw T1 (mX.fr hX (mF.up mF.refl (A_94 hw) u1 rfl : mF [94010] _ _ _) rfl) (rlQ.mk (u1.f (Or.inr (by decide)) q7) hn (u1.f (Or.inr (by decide)) q14) ⟨h1, hrc.2.2⟩ z1 z2)
  | succ k ih =>
    intro w μ L rc n b ce sl hk hw hT hX q9 q14 hrc hL hle q7 hA hn h1 hce hsl z1 z2
    have hnR := lnR (m := 93312) hn hA rfl
    refine mr_iload_n (pc := 24) (z := L) dX4_findRests_24 rfl rfl ?_
    refine sv_aload_n (pc := 25) dX4_findRests_25 rfl rfl ?_
    refine gk_X4_9 (pc := 26) dX4_findRests_26 wF_X4_59 (A_94 hw) q9 ?_
    refine mr_icmp_ge (pc := 29) (tgt := 54) dX4_findRests_29 (by decide) ⟨by omega, by omega⟩ ⟨by omega, by omega⟩ (fun h => ?_) (fun h => ?_)
    · refine sv_aload_n (pc := 54) dX4_findRests_54 rfl rfl ?_
      refine mr_iconst (pc := 55) (z := 1) dX4_findRests_55 ?_
      refine pf_X4_10 (pc := 56) dX4_findRests_56 wF_X4_52 (A_94 hw) hT (by decide) fun μ1 u1 T1 => ?_
      exact mr_vretX dX4_findRests_59 rfl (by omega) (by omega) hw T1 (mX.fr hX (mF.up mF.refl (A_94 hw) u1 rfl : mF [94010] _ _ _) rfl) (rlQ.mk (u1.f (Or.inr (by decide)) q7) hn (u1.f (Or.inr (by decide)) q14) ⟨h1, hrc.2.2⟩ z1 z2)
    · have tail : ∀ (w' : mW) (μ' : mM) (rc' n' : Int) (b' ce' sl' : Nat), mWF w' → mT w' μ' → mX frL w0 μ0 w' μ' → μ' 94 9 = S → μ' 94 14 = rc' → 0 ≤ rc' ∧ rc' ≤ L + 1 ∧ rc' ≤ n' → hasLe μ' L → μ' 94 7 = (b' : Int) → mAt w' b' 103 → (w'.2.2.1 b' : Int) = n' → 1 ≤ n' → (ce' : Int) ≤ n' → (sl' : Int) ≤ 2 * n' → (szW w' : Int) + 2 * n0 ≤ szW w0 + 2 * n' → (w'.1 : Int) + n0 ≤ w0.1 + n' → sV (gG l D c H0 sa) mX4_findRests (sRm 6 93312 186624) (sZ (gG l D c H0 sa) 93312 186624 (qVx w0 frL μ0 (rlQ w0 n0))) 44 [(1, iv L), (0, .ref 94)] [] (mk w' μ') ce' sl' := by
        intro w' μ' rc' n' b' ce' sl' hw' hT' hX' q9' q14' hrc' hle' q7' hA' hn' h1' hce' hsl' z1' z2'
        have hnR' := lnR (m := 93312) hn' hA' rfl
        refine sv_aload_n (pc := 44) dX4_findRests_44 rfl rfl ?_
        refine mr_cVV (pc := 45) (hcu w' μ' L hw' hT' ⟨by omega, by omega⟩ hle') (gOk _ _ _ _ _) dX4_findRests_45 (tX4_countUp _ _ _ _ _) ⟨wV_X4_countUp, wL_X4_countUp⟩ wM_X4_95 (gCX4 _ _ _ _ _) rfl (A_94 hw') rfl ⟨le_t rfl, le_t rfl⟩ ⟨show ce' ≤ 93312 by omega, show sl' ≤ 186624 by omega⟩ rfl (le_t rfl) fun μ2 T2 F2 P2 => ?_
        refine mr_iinc (pc := 48) (lv' := [(1, iv (L + 1)), (0, .ref 94)]) dX4_findRests_48 rfl (by decide) rfl ?_
        refine sv_goto (pc := 51) (tgt := 24) dX4_findRests_51 (by decide) ?_
        exact ih w' μ2 (L + 1) rc' n' b' ce' sl' (by omega) hw' T2 (mX.fr hX' F2 rfl) (F2.f (A_94 hw') rfl q9') (F2.f (A_94 hw') rfl q14') hrc' (by omega) P2.1 (F2.f (A_94 hw') rfl q7') hA' hn' h1' hce' hsl' z1' z2'
      refine sv_aload_n (pc := 32) dX4_findRests_32 rfl rfl ?_
      refine mr_cVP (pc := 33) (c_X4_isRest hw hT) (gOk _ _ _ _ _) dX4_findRests_33 (tX4_isRest _ _ _ _ _) ⟨wV_X4_isRest, wL_X4_isRest⟩ wM_X4_88 (gCX4 _ _ _ _ _) rfl (A_94 hw) rfl ⟨le_t rfl, le_t rfl⟩ ⟨show ce ≤ 93312 by omega, show sl ≤ 186624 by omega⟩ rfl (le_t rfl) fun z hz => ?_
      refine mr_if_eq (pc := 36) (tgt := 44) dX4_findRests_36 (by decide) (r32 hz.1 rfl) (fun _ => ?_) (fun _ => ?_)
      · exact tail w μ rc n b ce sl hw hT hX q9 q14 ⟨hrc.1, by omega, hrc.2.2⟩ hle q7 hA hn h1 hce hsl z1 z2
      · refine sv_aload_n (pc := 39) dX4_findRests_39 rfl rfl ?_
        refine mr_iload_n (pc := 40) (z := L) dX4_findRests_40 rfl rfl ?_
        by_cases hc : rc < n
        · refine mr_cVV (pc := 41) (c_X4_keepRest_a hw hT (p1 := L) ⟨by omega, by omega⟩ q14 q7 hA (by omega) (by rw [hn]; exact hc)) (gOk _ _ _ _ _) dX4_findRests_41 (tX4_keepRest _ _ _ _ _) ⟨wV_X4_keepRest, wL_X4_keepRest⟩ wM_X4_92 (gCX4 _ _ _ _ _) rfl (A_94 hw) rfl ⟨le_t rfl, le_t rfl⟩ ⟨show ce ≤ 93312 by omega, show sl ≤ 186624 by omega⟩ rfl (le_t rfl) fun μ2 T2 F2 P2 => ?_
          obtain ⟨o, qo, ho, _⟩ := P2
          exact tail w μ2 o n b ce sl hw T2 (mX.fr hX F2 rfl) (F2.f (A_94 hw) rfl q9) qo ⟨by omega, by omega, by omega⟩ (hle.keep hw F2 rfl) (F2.f (A_94 hw) rfl q7) hA hn h1 hce hsl z1 z2
        · refine mr_cVVX (pc := 41) (c_X4_keepRest_b hw hT (p1 := L) ⟨by omega, by omega⟩ q14 q7 hA (by omega) (by omega) (by rw [hn]; omega)) (gOk _ _ _ _ _) dX4_findRests_41 (tX4_keepRest _ _ _ _ _) ⟨wV_X4_keepRest, wL_X4_keepRest⟩ wM_X4_92 (gCX4 _ _ _ _ _) rfl (A_94 hw) rfl ⟨le_t rfl, le_t rfl⟩ ⟨show ce + 1 ≤ 93312 by omega, show sl + (2 * rc).toNat ≤ 186624 by omega⟩ rfl (le_t rfl) fun w2 μ2 hw2 T2 X2 P2 => ?_
          obtain ⟨o, qo, ho, hlen, ⟨hz, hz1⟩, _⟩ := P2
          obtain ⟨b2, q2, hA2⟩ := refE (T2 94 94 (A_94 hw2) 7)
          exact tail w2 μ2 o (2 * rc) b2 (ce + 1) (sl + (2 * rc).toNat) hw2 T2 (mX.trans hX X2 rfl) (X2.f (A_94 hw) rfl q9) qo ⟨by omega, by omega, by omega⟩ (hle.keepX hw X2 rfl) q2 hA2 (by rw [q2] at hlen; exact hlen) (by omega) (by omega) (by omega) (by omega) (by omega)
set_option maxRecDepth 4000 in
set_option maxHeartbeats 4000000 in
theorem c_X4_findRests {w : mW} {μ : mM} (hcu : cuP l D c H0 sa) (hw : mWF w) (hT : mT w μ) {br : Nat} (q_br : μ 94 7 = (br : Int)) (hA_br : mAt w br 103) (hb : rlP w μ) : sC (gG l D c H0 sa) mX4_findRests 6 93312 186624 [.ref 94] (mk w μ) (qVx w frL μ (rlQ w (w.2.2.1 br))) := by
  refine sC.of rfl (by decide) (le_t rfl) ?_
  have hb1 : 1 ≤ (w.2.2.1 br : Int) := by have h := hb.1; rw [lenX q_br rfl rfl] at h; exact h
  refine mr_lvE (lv' := [(0, .ref 94)]) rfl ?_
  refine sv_aload_n (pc := 0) dX4_findRests_0 rfl rfl ?_
  refine gf_X4_10 (pc := 1) dX4_findRests_1 wF_X4_52 (A_94 hw) hT fun z qz hz => ?_
  refine mr_if_eq (pc := 4) (tgt := 8) dX4_findRests_4 (by decide) (r32 hz rfl) (fun _ => ?_) (fun _ => ?_)
  · refine sv_aload_n (pc := 8) dX4_findRests_8 rfl rfl ?_
    refine mr_cVV (pc := 9) (c_X4_prepare hw hT) (gOk _ _ _ _ _) dX4_findRests_9 (tX4_prepare _ _ _ _ _) ⟨wV_X4_prepare, wL_X4_prepare⟩ wM_X4_79 (gCX4 _ _ _ _ _) rfl (A_94 hw) rfl ⟨le_t rfl, le_t rfl⟩ ⟨le_t rfl, le_t rfl⟩ rfl (le_t rfl) fun μ1 T1 F1 P1 => ?_
    obtain ⟨S, qS, hS1, hrx, _⟩ := P1
    have hSR : 0 ≤ S ∧ S ≤ 46656 := by rw [← qS]; exact T1 94 94 (A_94 hw) 9
    refine sv_aload_n (pc := 12) dX4_findRests_12 rfl rfl ?_
    refine mr_iconst (pc := 13) (z := 0) dX4_findRests_13 ?_
    refine pf_X4_14 (pc := 14) dX4_findRests_14 wF_X4_82 (A_94 hw) T1 (by decide) fun μ2 u2 T2 => ?_
    have F2 : mF [94014] w μ1 μ2 := mF.up mF.refl (A_94 hw) u2 rfl
    have rx2 : radix μ2 100 95 (μ1 94 9) := hrx.keep F2 (A_100 hw) (A_95 hw) (fun _ => rfl) (fun _ => rfl)
    refine sv_aload_n (pc := 17) dX4_findRests_17 rfl rfl ?_
    refine mr_iconst (pc := 18) (z := 0) dX4_findRests_18 ?_
    refine mr_cVV (pc := 19) (c_X4_unfold_r hw T2 (p1 := 0) (by decide) rfl rfl rfl rfl rfl rfl rfl rfl rfl rfl rfl rfl rx2.1.1 rx2.2.1.1 rx2.2.2.1.1 rx2.2.2.2.1.1 rx2.2.2.2.2.1.1 rx2.2.2.2.2.2.1) (gOk _ _ _ _ _) dX4_findRests_19 (tX4_unfold _ _ _ _ _) ⟨wV_X4_unfold, wL_X4_unfold⟩ wM_X4_85 (gCX4 _ _ _ _ _) rfl (A_94 hw) rfl ⟨le_t rfl, le_t rfl⟩ ⟨le_t rfl, le_t rfl⟩ rfl (le_t rfl) fun μ3 T3 F3 P3 => ?_
    refine mr_iconst (pc := 22) (z := 0) dX4_findRests_22 ?_
    refine mr_istore_n (pc := 23) (lv' := [(1, iv 0), (0, .ref 94)]) dX4_findRests_23 rfl (by decide) rfl ?_
    exact lp_X4_findRests hcu hSR.2 S.toNat w μ3 0 0 _ br 0 0 (by omega) hw T3 (mX.fr (mX.fr (mX.fr mX.refl F1 rfl) F2 rfl) F3 rfl) (F3.f (A_94 hw) rfl (F2.f (A_94 hw) rfl qS)) (F3.f (A_94 hw) rfl u2.1) ⟨by decide, by decide, by omega⟩ (by omega) P3.1.le0 (F3.f (A_94 hw) rfl (F2.f (A_94 hw) rfl (F1.f (A_94 hw) rfl q_br))) hA_br rfl hb1 (by omega) (by omega) (Int.le_refl _) (Int.le_refl _)
  · exact mr_vretX dX4_findRests_7 rfl (le_t rfl) (le_t rfl) hw hT mX.refl (rlQ.refl hb q_br)
end MV28
end
section
/-! The class's answers on rests. -/
theorem dX11_rests_0 : decode cX11_rests 0 = .ok (.aload_n 0, 1) := dc0 dO_42 (by decide +kernel)
theorem dX11_rests_1 : decode cX11_rests 1 = .ok (.getfield 72, 3) := dcU2 dO_180 (by decide +kernel)
theorem dX11_rests_4 : decode cX11_rests 4 = .ok (.invokevirtual 411, 3) := dcU2 dO_182 (by decide +kernel)
theorem dX11_rests_7 : decode cX11_rests 7 = .ok (.aload_n 0, 1) := dc0 dO_42 (by decide +kernel)
theorem dX11_rests_8 : decode cX11_rests 8 = .ok (.getfield 72, 3) := dcU2 dO_180 (by decide +kernel)
theorem dX11_rests_11 : decode cX11_rests 11 = .ok (.getfield 414, 3) := dcU2 dO_180 (by decide +kernel)
theorem dX11_rests_14 : decode cX11_rests 14 = .ok (.ireturn, 1) := dc0 dO_172 (by decide +kernel)
theorem dX11_rest_0 : decode cX11_rest 0 = .ok (.aload_n 0, 1) := dc0 dO_42 (by decide +kernel)
theorem dX11_rest_1 : decode cX11_rest 1 = .ok (.getfield 72, 3) := dcU2 dO_180 (by decide +kernel)
theorem dX11_rest_4 : decode cX11_rest 4 = .ok (.invokevirtual 411, 3) := dcU2 dO_182 (by decide +kernel)
theorem dX11_rest_7 : decode cX11_rest 7 = .ok (.iload_n 1, 1) := dc0 dO_27 (by decide +kernel)
theorem dX11_rest_8 : decode cX11_rest 8 = .ok (.ifCond .lt 25, 3) := dcS2 dO_155 (by decide +kernel)
theorem dX11_rest_11 : decode cX11_rest 11 = .ok (.iload_n 1, 1) := dc0 dO_27 (by decide +kernel)
theorem dX11_rest_12 : decode cX11_rest 12 = .ok (.aload_n 0, 1) := dc0 dO_42 (by decide +kernel)
theorem dX11_rest_13 : decode cX11_rest 13 = .ok (.getfield 72, 3) := dcU2 dO_180 (by decide +kernel)
theorem dX11_rest_16 : decode cX11_rest 16 = .ok (.getfield 414, 3) := dcU2 dO_180 (by decide +kernel)
theorem dX11_rest_19 : decode cX11_rest 19 = .ok (.if_icmp .ge 14, 3) := dcS2 dO_162 (by decide +kernel)
theorem dX11_rest_22 : decode cX11_rest 22 = .ok (.iload_n 2, 1) := dc0 dO_28 (by decide +kernel)
theorem dX11_rest_23 : decode cX11_rest 23 = .ok (.iconst 1, 1) := dc0 dO_4 (by decide +kernel)
theorem dX11_rest_24 : decode cX11_rest 24 = .ok (.if_icmp .lt 9, 3) := dcS2 dO_161 (by decide +kernel)
theorem dX11_rest_27 : decode cX11_rest 27 = .ok (.iload_n 2, 1) := dc0 dO_28 (by decide +kernel)
theorem dX11_rest_28 : decode cX11_rest 28 = .ok (.bipush 7, 2) := dcS1 dO_16 (by decide +kernel)
theorem dX11_rest_30 : decode cX11_rest 30 = .ok (.if_icmp .lt 5, 3) := dcS2 dO_161 (by decide +kernel)
theorem dX11_rest_33 : decode cX11_rest 33 = .ok (.iconst (-1), 1) := dc0 dO_2 (by decide +kernel)
theorem dX11_rest_34 : decode cX11_rest 34 = .ok (.ireturn, 1) := dc0 dO_172 (by decide +kernel)
theorem dX11_rest_35 : decode cX11_rest 35 = .ok (.aload_n 0, 1) := dc0 dO_42 (by decide +kernel)
theorem dX11_rest_36 : decode cX11_rest 36 = .ok (.getfield 72, 3) := dcU2 dO_180 (by decide +kernel)
theorem dX11_rest_39 : decode cX11_rest 39 = .ok (.iload_n 1, 1) := dc0 dO_27 (by decide +kernel)
theorem dX11_rest_40 : decode cX11_rest 40 = .ok (.iload_n 2, 1) := dc0 dO_28 (by decide +kernel)
theorem dX11_rest_41 : decode cX11_rest 41 = .ok (.invokevirtual 417, 3) := dcU2 dO_182 (by decide +kernel)
theorem dX11_rest_44 : decode cX11_rest 44 = .ok (.ireturn, 1) := dc0 dO_172 (by decide +kernel)
section MV29
variable {l : Launch} {D : va_G} {c : Nat → ClassId} {H0 : Heap} {sa : Nat × Nat × (Nat → Int32)}
set_option maxRecDepth 4000 in
set_option maxHeartbeats 4000000 in
theorem c_X11_rests {w : mW} {μ : mM} (hcu : cuP l D c H0 sa) (hw : mWF w) (hT : mT w μ) (hb : rlP w μ) {b : Nat} (q7 : μ 94 7 = (b : Int)) (hA : mAt w b 103) : sC (gG l D c H0 sa) mX11_rests 7 93312 186624 [.ref 0] (mk w μ) (qIx w frL μ (fun z w1 μ1 => (-2147483648 ≤ z ∧ z ≤ 2147483647) ∧ rlQ w (w.2.2.1 b) w1 μ1)) := by
  refine sC.of rfl (by decide) (le_t rfl) ?_
  refine mr_lvE (lv' := [(0, .ref 0)]) rfl ?_
  refine sv_aload_n (pc := 0) dX11_rests_0 rfl rfl ?_
  refine gf_X11_9 (pc := 1) dX11_rests_1 wF_X11_72 (A_0 hw) hT ?_
  refine mr_cVVX (pc := 4) (c_X4_findRests hcu hw hT q7 hA hb) (gOk _ _ _ _ _) dX11_rests_4 (tX4_findRests _ _ _ _ _) ⟨wV_X4_findRests, wL_X4_findRests⟩ wM_X11_411 (gCX4 _ _ _ _ _) rfl (A_94 hw) rfl ⟨le_t rfl, le_t rfl⟩ ⟨le_t rfl, le_t rfl⟩ rfl (le_t rfl) fun w1 μ1 hw1 T1 X1 P1 => ?_
  refine sv_aload_n (pc := 7) dX11_rests_7 rfl rfl ?_
  refine gf_X11_9 (pc := 8) dX11_rests_8 wF_X11_72 (A_0 hw1) T1 ?_
  refine gf_X4_14 (pc := 11) dX11_rests_11 wF_X11_414 (A_94 hw1) T1 fun z qz hz => ?_
  exact mr_iretX dX11_rests_14 rfl (le_t rfl) (le_t rfl) hw1 T1 X1 ⟨r32 hz rfl, P1⟩
set_option maxRecDepth 4000 in
set_option maxHeartbeats 4000000 in
theorem c_X11_rest {w : mW} {μ : mM} (hcu : cuP l D c H0 sa) (hw : mWF w) (hT : mT w μ) (hb : rlP w μ) {b : Nat} (q7 : μ 94 7 = (b : Int)) (hA : mAt w b 103) {p1 p2 : Int} (hp1 : -2147483648 ≤ p1 ∧ p1 ≤ 2147483647) (hp2 : -2147483648 ≤ p2 ∧ p2 ≤ 2147483647) : sC (gG l D c H0 sa) mX11_rest 7 93312 186624 [.ref 0, iv p1, iv p2] (mk w μ) (qIx w frL μ (fun z w1 μ1 => (-2147483648 ≤ z ∧ z ≤ 2147483647) ∧ rlQ w (w.2.2.1 b) w1 μ1)) := by
  refine sC.of rfl (by decide) (le_t rfl) ?_
  refine mr_lvE (lv' := [(0, .ref 0), (1, iv p1), (2, iv p2)]) rfl ?_
  refine sv_aload_n (pc := 0) dX11_rest_0 rfl rfl ?_
  refine gf_X11_9 (pc := 1) dX11_rest_1 wF_X11_72 (A_0 hw) hT ?_
  refine mr_cVVX (pc := 4) (c_X4_findRests hcu hw hT q7 hA hb) (gOk _ _ _ _ _) dX11_rest_4 (tX4_findRests _ _ _ _ _) ⟨wV_X4_findRests, wL_X4_findRests⟩ wM_X11_411 (gCX4 _ _ _ _ _) rfl (A_94 hw) rfl ⟨le_t rfl, le_t rfl⟩ ⟨le_t rfl, le_t rfl⟩ rfl (le_t rfl) fun w1 μ1 hw1 T1 X1 P1 => ?_
  have none : sV (gG l D c H0 sa) mX11_rest (sRm 7 93312 186624) (sZ (gG l D c H0 sa) 93312 186624 (qIx w frL μ (fun z w1 μ1 => (-2147483648 ≤ z ∧ z ≤ 2147483647) ∧ rlQ w (w.2.2.1 b) w1 μ1))) 33 [(0, .ref 0), (1, iv p1), (2, iv p2)] [] (mk w1 μ1) (0 + 93312) (0 + 186624) := by
    refine mr_iconst (pc := 33) (z := -1) dX11_rest_33 ?_
    exact mr_iretX dX11_rest_34 rfl (le_t rfl) (le_t rfl) hw1 T1 X1 ⟨by decide, P1⟩
  refine mr_iload_n (pc := 7) (z := p1) dX11_rest_7 rfl rfl ?_
  refine mr_if_lt (pc := 8) (tgt := 33) dX11_rest_8 (by decide) hp1 (fun _ => none) (fun h1 => ?_)
  refine mr_iload_n (pc := 11) (z := p1) dX11_rest_11 rfl rfl ?_
  refine sv_aload_n (pc := 12) dX11_rest_12 rfl rfl ?_
  refine gf_X11_9 (pc := 13) dX11_rest_13 wF_X11_72 (A_0 hw1) T1 ?_
  refine gf_X4_14 (pc := 16) dX11_rest_16 wF_X11_414 (A_94 hw1) T1 fun z qz hz => ?_
  refine mr_icmp_ge (pc := 19) (tgt := 33) dX11_rest_19 (by decide) hp1 (r32 hz rfl) (fun _ => none) (fun h2 => ?_)
  refine mr_iload_n (pc := 22) (z := p2) dX11_rest_22 rfl rfl ?_
  refine mr_iconst (pc := 23) (z := 1) dX11_rest_23 ?_
  refine mr_icmp_lt (pc := 24) (tgt := 33) dX11_rest_24 (by decide) hp2 (by decide) (fun _ => none) (fun h3 => ?_)
  refine mr_iload_n (pc := 27) (z := p2) dX11_rest_27 rfl rfl ?_
  refine mr_bipush (pc := 28) (z := 7) dX11_rest_28 (by decide) ?_
  refine mr_icmp_lt (pc := 30) (tgt := 35) dX11_rest_30 (by decide) hp2 (by decide) (fun h4 => ?_) (fun _ => none)
  refine sv_aload_n (pc := 35) dX11_rest_35 rfl rfl ?_
  refine gf_X11_9 (pc := 36) dX11_rest_36 wF_X11_72 (A_0 hw1) T1 ?_
  refine mr_iload_n (pc := 39) (z := p1) dX11_rest_39 rfl rfl ?_
  refine mr_iload_n (pc := 40) (z := p2) dX11_rest_40 rfl rfl ?_
  obtain ⟨b1, q71, hA1⟩ := refE (T1 94 94 (A_94 hw1) 7)
  have hlen : z ≤ (w1.2.2.1 b1 : Int) := by have h := P1.1.2; rw [lenX q71 rfl rfl, qz] at h; exact h
  refine mr_cVP (pc := 41) (c_X4_wayInRest hw1 T1 (p1 := p1) (p2 := p2) ⟨by omega, by omega⟩ ⟨by omega, by omega⟩ q71 hA1 (by omega)) (gOk _ _ _ _ _) dX11_rest_41 (tX4_wayInRest _ _ _ _ _) ⟨wV_X4_wayInRest, wL_X4_wayInRest⟩ wM_X11_417 (gCX4 _ _ _ _ _) rfl (A_94 hw1) rfl ⟨le_t rfl, le_t rfl⟩ ⟨le_t rfl, le_t rfl⟩ rfl (le_t rfl) fun z2 hz2 => ?_
  exact mr_iretX dX11_rest_44 rfl (le_t rfl) (le_t rfl) hw1 T1 X1 ⟨hz2.1, P1⟩
end MV29
end
section
theorem cuAll {l : Launch} {D : va_G} {c : Nat → ClassId} {H0 : Heap} {sa : Nat × Nat × (Nat → Int32)} : cuP l D c H0 sa := fun _ _ _ hw hT h hl => c_X4_countUp hw hT h hl h.1
end
section
/-! A part of the heap as a heap of its own: contracts at addresses from 0 on, moved behind what stands. -/
def shv (k : Nat) : Value → Value
  | .ref a => .ref (k + a)
  | v => v
def shE (k : Nat) : sE → sE
  | .inl (kd, n, f) => .inl (kd, n, fun i => shv k (f i))
  | .inr (ci, fs) => .inr (ci, fs.map (shv k))
theorem rv_sh (b s k : Nat) (v : Value) : rv (b, s) (shv k v) = rv (b + k, s) v := by
  cases v <;> simp [rv, shv, Nat.add_assoc]
def shH (k : Nat) (f f2 : Nat → sE) : Nat → sE := fun j => if j < k then f j else shE k (f2 (j - k))
theorem vpV_sh (k : Nat) (fs : List Value) (j : Nat) : vp_V (fs.map (shv k)) j = shv k (vp_V fs j) := by
  simp only [vp_V, List.getD, List.getElem?_map]
  cases fs[j]? <;> rfl
theorem sAt.hold {g : sG} {i : Nat} {x : sE} {H H' : Heap} (h : sAt g i x H) (e : H'[sg_b g + i]? = H[sg_b g + i]?) : sAt g i x H' := by
  rcases x with ⟨kd, n, f⟩ | ⟨ci, fs⟩
  · obtain ⟨cA, ty, h1, h2⟩ := h
    exact ⟨cA, ty, h1, e.trans h2⟩
  · obtain ⟨r, h1, h2, cell, h3, h4⟩ := h
    exact ⟨r, h1, h2.kept e, cell, e.trans h3, h4⟩
theorem rv_fk (b b' : Nat × Nat) (k : Nat) : rv b (sg_fk k) = rv b' (sg_fk k) := by cases k <;> rfl
section SHIFT
variable {l : Launch} {D : va_G} {c : Nat → ClassId} {H0 H1 : Heap} {sa : Nat × Nat × (Nat → Int32)}
theorem sAt.sh {k i : Nat} {x : sE} {H : Heap} (hs : H1.size = H0.size + k) : sAt (gG l D c H0 sa) (k + i) (shE k x) H ↔ sAt (gG l D c H1 sa) i x H := by
  have e : ∀ v, rv (H0.size, sa.1) (shv k v) = rv (H1.size, sa.1) v := fun v => by rw [hs]; exact rv_sh _ _ _ v
  have ea : H0.size + (k + i) = H1.size + i := by omega
  rcases x with ⟨kd, n, f⟩ | ⟨ci, fs⟩
  · have ef : (fun j => rv (H0.size, sa.1) (shv k (f j))) = fun j => rv (H1.size, sa.1) (f j) := funext fun j => e _
    show (∃ cA ty, _ ∧ H[H0.size + (k + i)]? = some (arrV cA n (fun j => rv (H0.size, sa.1) (shv k (f j))))) ↔ (∃ cA ty, _ ∧ H[H1.size + i]? = some (arrV cA n (fun j => rv (H1.size, sa.1) (f j))))
    rw [ea, ef]
  · have ef : (fun j => rv (H0.size, sa.1) (vp_V (fs.map (shv k)) j)) = fun j => rv (H1.size, sa.1) (vp_V fs j) := funext fun j => by rw [vpV_sh]; exact e _
    show (∃ r : vw_C, _ ∧ t_OB (H0.size + (k + i)) _ _ _ H (fun j => rv (H0.size, sa.1) (vp_V (fs.map (shv k)) j)) ∧ ∃ cell : Cell, H[H0.size + (k + i)]? = some cell ∧ _) ↔ (∃ r : vw_C, _ ∧ t_OB (H1.size + i) _ _ _ H (fun j => rv (H1.size, sa.1) (vp_V fs j)) ∧ ∃ cell : Cell, H[H1.size + i]? = some cell ∧ _)
    rw [ea, ef]
theorem sC.shift {M : sM} {d C S k n2 : Nat} {av2 : List Value} {f f2 : Nat → sE} {Q : Option Value → sHp → Prop} (hf : ∀ j, j < n2 → f (k + j) = shE k (f2 j)) (h : ∀ H1, sC (gG l D c H1 sa) M d C S av2 (n2, f2) Q) :
    sC (gG l D c H0 sa) M d C S (av2.map (shv k)) (k + n2, f) (fun r hp => ∃ r2 n3 f3, Q r2 (n3, f3) ∧ r = r2.map (shv k) ∧ hp = (k + n3, shH k f f3)) := by
  intro p e ha hc hk s m args below hF h1 h2 h3
  obtain ⟨rfl, hR, hK⟩ := h2
  have hsz : s.heap.size = H0.size + (k + n2) := hR.1
  obtain ⟨H1, eH⟩ : ∃ H1 : Heap, H1 = s.heap.extract 0 (H0.size + k) := ⟨_, rfl⟩
  have hs1 : H1.size = H0.size + k := by rw [eH]; simp; omega
  have hx : ∀ q, q < H0.size + k → H1[q]? = s.heap[q]? := fun q hq => by
    rw [eH, Array.getElem?_extract]
    simp [hsz]; omega
  have hx0 : ∀ q, q < H0.size → H1[q]? = H0[q]? := fun q hq => (hx q (by omega)).trans (hR.2.2 q hq)
  have hR2 : sR (gG l D c H1 sa) (n2, f2) s.heap := by
    refine ⟨by show s.heap.size = H1.size + n2; omega, fun i hi => ?_, fun q hq => (hx q (by have : q < H1.size := hq; omega)).symm⟩
    have q := hR.2.1 (k + i) (by show k + i < k + n2; have : i < n2 := hi; omega)
    rw [show ((k + n2, f) : sHp).2 (k + i) = f (k + i) from rfl, hf i hi] at q
    exact (sAt.sh hs1).mp q
  have hK2 : sK (gG l D c H1 sa) s := by
    refine ⟨hK.1, hK.2.1, ?_, ?_⟩
    · obtain ⟨scr, g1, g2⟩ := hK.2.2.1
      exact ⟨scr, (hx0 _ (Array.getElem?_eq_some_iff.mp g1).1).trans g1, g2⟩
    · have hq : ∀ {P : Nat → Prop}, ∀ a : Nat, a < H0.size → ¬ P a → H1[a]? = H0[a]? := fun a g _ => hx0 a g
      obtain ⟨k1, k2, k3, k4, k5, k6, k7, k8, k9⟩ := hK.2.2.2
      exact ⟨k1, k2.kept hq, k3.kept hq, k4.kept hq, k5.kept hq, k6.kept hq, by
        have e : rv (sg_r (gG l D c H1 sa)) (sg_f (gG l D c H1 sa)) = rv (sg_r (gG l D c H0 sa)) (sg_f (gG l D c H0 sa)) := rv_fk _ _ _
        rw [e]; exact k7.kept hq, k8, k9⟩
  have ea : ((av2.map (shv k)).map (rv (sg_r (gG l D c H0 sa)))).toArray = (av2.map (rv (sg_r (gG l D c H1 sa)))).toArray := by
    congr 1
    rw [List.map_map]
    refine List.map_congr_left fun v _ => ?_
    show rv (H0.size, sa.1) (shv k v) = rv (H1.size, sa.1) v
    rw [hs1]; exact rv_sh _ _ _ v
  obtain ⟨n, o, a1, a2, a3, ⟨⟨r, hp', b1, b2, b3, b4⟩, L, a4, a5⟩⟩ := h H1 p e ha hc hk s m _ below hF h1 ⟨ea, hR2, hK2⟩ h3
  refine ⟨n, o, a1, a2, a3, ⟨⟨r.map (shv k), (k + hp'.1, shH k f hp'.2), ?_, ⟨r, hp'.1, hp'.2, b2, rfl, rfl⟩, ?_, hK.warm a4.2.1⟩, L, a4, fun q hq => Nat.le_trans (by show H0.size ≤ H1.size; omega) (a5 q hq)⟩⟩
  · rw [b1]
    cases r with
    | none => rfl
    | some v =>
      show Outcome.returned (some (rv (H1.size, sa.1) v)) = Outcome.returned (some (rv (H0.size, sa.1) (shv k v)))
      rw [rv_sh, hs1]
  · refine ⟨by have := b3.1; show _ = H0.size + (k + hp'.1); rw [show _ = H1.size + hp'.1 from this]; omega, fun i hi => ?_, fun q hq => ?_⟩
    · by_cases hik : i < k
      · rw [show ((k + hp'.1, shH k f hp'.2) : sHp).2 i = f i from if_pos hik]
        have g0 := hR.2.1 i (by show i < k + n2; omega)
        have ge : (stepsAlone p.tables e n s).heap[H0.size + i]? = s.heap[H0.size + i]? := (b3.2.2 _ (by show H0.size + i < H1.size; omega)).trans (hx _ (by omega))
        exact sAt.hold g0 ge
      · rw [show ((k + hp'.1, shH k f hp'.2) : sHp).2 i = shE k (hp'.2 (i - k)) from if_neg hik]
        have g1 := b3.2.1 (i - k) (by have : i < k + hp'.1 := hi; omega)
        have g2 := (sAt.sh (l := l) (D := D) (c := c) (sa := sa) (H0 := H0) hs1).mpr g1
        rw [show k + (i - k) = i by omega] at g2
        exact g2
    · have hq : q < H0.size := hq
      rw [b3.2.2 q (by show q < H1.size; omega)]
      exact hx0 q hq
end SHIFT
/-- cells that are alike: rows up to their lengths -/
def sEq (x y : sE) : Prop := match x, y with
  | .inl (kd, n, f), .inl (kd', n', f') => kd = kd' ∧ n = n' ∧ ∀ i, i < n → f i = f' i
  | .inr a, .inr b => a = b
  | _, _ => False
theorem arrV_eq {cA : ClassId} {n : Nat} {f f' : Nat → Value} (h : ∀ i, i < n → f i = f' i) : arrV cA n f = arrV cA n f' := by
  unfold arrV
  congr 1
  apply Array.ext
  · simp
  · intro i h1 h2
    simp at h1
    simp [h i h1]
theorem sAt.eqv {g : sG} {i : Nat} {x y : sE} {H : Heap} (e : sEq x y) (h : sAt g i x H) : sAt g i y H := by
  rcases x with ⟨kd, n, f⟩ | ⟨ci, fs⟩ <;> rcases y with ⟨kd', n', f'⟩ | ⟨ci', fs'⟩
  · obtain ⟨rfl, rfl, e⟩ := e
    obtain ⟨cA, ty, h1, h2⟩ := h
    exact ⟨cA, ty, h1, by rw [h2, arrV_eq (fun j hj => by rw [e j hj])]⟩
  · exact e.elim
  · exact e.elim
  · obtain ⟨rfl, rfl⟩ : ci = ci' ∧ fs = fs' := Prod.mk.injEq .. ▸ e
    exact h
theorem sv_heapE {g : sG} {M : sM} {R : Room} {Z : sZT} {pc : Nat} {lv : List (Nat × Value)} {st : List Value} {hp hp' : sHp} {ce sl : Nat} (h1 : hp.1 = hp'.1) (h2 : ∀ j, j < hp'.1 → sEq (hp.2 j) (hp'.2 j)) (k : sV g M R Z pc lv st hp' ce sl) : sV g M R Z pc lv st hp ce sl := by
  intro p e s m args below meth c H locs ls X r hl h
  exact k p e s m args below meth c H locs ls X ⟨by rw [← h1]; exact r.1, fun i hi => (r.2.1 i (by rw [h1]; exact hi)).eqv (h2 i hi), r.2.2⟩ hl h
theorem sv_lvG {g : sG} {M : sM} {R : Room} {Z : sZT} {pc : Nat} {lv lv' : List (Nat × Value)} {st : List Value} {hp : sHp} {ce sl : Nat} (h : ∀ q ∈ lv', sGet q.1 lv = some q.2) (k : sV g M R Z pc lv' st hp ce sl) : sV g M R Z pc lv st hp ce sl := sv_lv (fun q hq => sGet_mem (h q hq)) k
end
section
/-! A block of new cells: shapes and values; addresses in it are counted from its own start. -/
abbrev mB : Type := List (Nat × List Int × Int)
def bS (B : mB) (j : Nat) : Nat := (B.getD j (0, [], 0)).1
def bL (B : mB) (j : Nat) : List Int := (B.getD j (0, [], 0)).2.1
def bD (B : mB) (j : Nat) : Int := (B.getD j (0, [], 0)).2.2
def bV (B : mB) (j i : Nat) : Int := (bL B j).getD i (bD B j)
def mKd (s i : Nat) : Nat := match mTab s with
  | .inl (_, ks) => ks.getD i 0
  | .inr (_, k) => k
def shz (k : Nat) (kd : Nat) (z : Int) : Int := if 2 ≤ kd ∧ 0 ≤ z then z + k else z
def wBlk (w : mW) (B : mB) : mW := (w.1 + B.length, fun a => if a < w.1 then w.2.1 a else bS B (a - w.1), fun a => if a < w.1 then w.2.2.1 a else mLen (bS B (a - w.1)), w.2.2.2)
def mBlk (w : mW) (μ : mM) (B : mB) : mM := fun a i => if a < w.1 then μ a i else shz w.1 (mKd (bS B (a - w.1)) i) (bV B (a - w.1) i)
theorem shv_mv (k kd : Nat) (z : Int) : shv k (mv kd z) = mv kd (shz k kd z) := by
  match kd with
  | 0 => rfl
  | 1 => rfl
  | n + 2 =>
    show shv k (rf z) = rf (shz k (n + 2) z)
    by_cases h : z < 0
    · have e : shz k (n + 2) z = z := if_neg (fun q => by omega)
      rw [e]
      unfold rf
      rw [if_pos h]; rfl
    · have e : shz k (n + 2) z = z + k := if_pos ⟨by omega, by omega⟩
      rw [e]
      unfold rf
      rw [if_neg h, if_neg (by omega)]
      have e2 : k + z.toNat = (z + (k : Int)).toNat := by clear e; omega
      exact congrArg Value.ref e2
theorem mCell_sh (k s n : Nat) (m : Nat → Int) : shE k (mCell (mTab s) n m) = mCell (mTab s) n (fun i => shz k (mKd s i) (m i)) := by
  unfold mCell mKd
  rcases mTab s with ⟨ci, ks⟩ | ⟨kd, q⟩
  · show Sum.inr (ci, List.map (shv k) _) = Sum.inr (ci, _)
    rw [List.map_map]
    congr 2
    refine List.map_congr_left fun i _ => ?_
    exact shv_mv _ _ _
  · show Sum.inl (kd, n, fun i => shv k (mv q (m i))) = Sum.inl (kd, n, fun i => mv q (shz k q (m i)))
    congr 3
    funext i
    exact shv_mv _ _ _
def bBig (B : mB) : Bool := B.all fun x => Nat.blt 100 x.1
theorem wBlk.ext {w : mW} {B : mB} (hb : bBig B = true) : wE w (wBlk w B) := ⟨Nat.le_add_right _ _, fun a ha => ⟨if_pos ha, if_pos ha⟩, fun a h1 h2 => by
  rw [show (wBlk w B).2.1 a = bS B (a - w.1) from if_neg (Nat.not_lt.mpr h1)]
  have hj : a - w.1 < B.length := by have : a < w.1 + B.length := h2; omega
  unfold bS
  rw [List.getD_eq_getElem?_getD, List.getElem?_eq_getElem hj]
  exact Nat.le_of_ble_eq_true (List.all_eq_true.mp hb _ (List.getElem_mem hj))⟩
theorem mBlk.x {l : List Nat} {w : mW} {μ : mM} {B : mB} (hb : bBig B = true) : mX l w μ (wBlk w B) (mBlk w μ B) := ⟨wBlk.ext hb, fun a _ ha _ => if_pos ha⟩
theorem wBlk.at {w : mW} {B : mB} {j : Nat} (h : j < B.length) : mAt (wBlk w B) (w.1 + j) (bS B j) := by
  have e : ¬ w.1 + j < w.1 := by omega
  have ej : w.1 + j - w.1 = j := by omega
  have h1 : (wBlk w B).2.1 (w.1 + j) = bS B j := by show (if w.1 + j < w.1 then _ else _) = _; rw [if_neg e, ej]
  have h2 : (wBlk w B).2.2.1 (w.1 + j) = mLen (bS B j) := by show (if w.1 + j < w.1 then _ else _) = _; rw [if_neg e, ej]
  exact ⟨h1, Nat.add_lt_add_left h _, by rw [h2]; exact Nat.le_refl _, fun _ => h2⟩
theorem mBlk.at {w : mW} {μ : mM} {B : mB} {j i : Nat} : mBlk w μ B (w.1 + j) i = shz w.1 (mKd (bS B j) i) (bV B j i) := by
  have e : ¬ w.1 + j < w.1 := by omega
  have ej : w.1 + j - w.1 = j := by omega
  show (if w.1 + j < w.1 then _ else _) = _
  rw [if_neg e, ej]
/-- types, by reckoning -/
def bT (q : Bool) (B : mB) (j : Nat) (d : Nat × Int × Int) (kd : Nat) (z : Int) : Bool := match d.1 with
  | 0 => Nat.blt kd 2 && decide (d.2.1 ≤ z ∧ z ≤ d.2.2)
  | 1 => Nat.ble 2 kd && decide (0 ≤ d.2.1 ∧ z = j + d.2.1) && Nat.blt (j + d.2.1.toNat) B.length && Nat.beq (bS B (j + d.2.1.toNat)) d.2.2.toNat
  | 2 => Nat.ble 2 kd && decide (0 ≤ z) && Nat.blt z.toNat B.length && Nat.beq (bS B z.toNat) d.2.1.toNat
  | 5 => Nat.blt kd 2 && (decide (z = -99999999) || decide (d.2.1 ≤ z ∧ z ≤ d.2.2))
  | 10 => Nat.blt kd 2 && decide (z = 0 ∧ 0 ≤ d.2.2)
  | 11 => q && Nat.blt kd 2 && decide (z = 0 ∧ d.2.1 = 0 ∧ 0 ≤ d.2.2)
  | 14 => Nat.blt kd 2 && decide (z = -99999999)
  | _ => false
def bChk (q : Bool) (B : mB) : Bool := (List.range B.length).all fun j => if mArr (bS B j) then (bD B j :: bL B j).all fun z => bT q B j ((mTyL.getD (bS B j) []).getD 0 (0, 0, 0)) (mKd (bS B j) 0) z
  else Nat.beq (bL B j).length (mTyL.getD (bS B j) []).length && decide (bD B j = 0) && ((List.range (bL B j).length).all fun i => bT q B j ((mTyL.getD (bS B j) []).getD i (0, 0, 0)) (mKd (bS B j) i) ((bL B j).getD i 0)) && match mTab (bS B j) with
    | .inl (_, ks) => Nat.beq ks.length (bL B j).length
    | .inr _ => false
theorem bT.ok {q : Bool} {B : mB} {j i kd : Nat} {d : Nat × Int × Int} {z : Int} {w : mW} (hq : q = true → 0 < w.2.2.2 0) (h : bT q B j d kd z = true) : tyP (wBlk w B) (w.1 + j) i d (shz w.1 kd z) := by
  obtain ⟨k, x, y⟩ := d
  have lo : ∀ {kd : Nat}, Nat.blt kd 2 = true → shz w.1 kd z = z := fun g => if_neg (fun q => by have := Nat.le_of_ble_eq_true g; omega)
  have hi : ∀ {kd : Nat}, Nat.ble 2 kd = true → 0 ≤ z → shz w.1 kd z = z + w.1 := fun g p => if_pos ⟨Nat.le_of_ble_eq_true g, p⟩
  have at_ : ∀ {a s : Nat}, Nat.blt a B.length = true → Nat.beq (bS B a) s = true → mAt (wBlk w B) (w.1 + a) s := fun g p => by
    rw [← Nat.eq_of_beq_eq_true p]; exact wBlk.at (Nat.le_of_ble_eq_true g)
  match k, h with
  | 0, h =>
    simp only [bT, Bool.and_eq_true, decide_eq_true_eq] at h
    rw [lo h.1]; exact h.2
  | 1, h =>
    simp only [bT, Bool.and_eq_true, decide_eq_true_eq] at h
    obtain ⟨⟨⟨h1, h2, h3⟩, h4⟩, h5⟩ := h
    rw [hi h1 (by omega)]
    refine ⟨by show z + (w.1 : Int) = ((w.1 + j : Nat) : Int) + x; omega, ?_⟩
    show mAt (wBlk w B) (w.1 + j + x.toNat) y.toNat
    rw [Nat.add_assoc]; exact at_ h4 h5
  | 2, h =>
    simp only [bT, Bool.and_eq_true, decide_eq_true_eq] at h
    obtain ⟨⟨⟨h1, h2⟩, h4⟩, h5⟩ := h
    rw [hi h1 h2]
    refine ⟨by omega, ?_⟩
    rw [show (z + (w.1 : Int)).toNat = w.1 + z.toNat by omega]; exact at_ h4 h5
  | 3, h => cases h
  | 4, h => cases h
  | 5, h =>
    simp only [bT, Bool.and_eq_true, Bool.or_eq_true, decide_eq_true_eq] at h
    rw [lo h.1]; exact h.2
  | 6, h => cases h
  | 7, h => cases h
  | 8, h => cases h
  | 9, h => cases h
  | 10, h =>
    simp only [bT, Bool.and_eq_true, decide_eq_true_eq] at h
    obtain ⟨h1, rfl, h3⟩ := h
    rw [lo h1]; exact ⟨Int.le_refl _, h3, Or.inl rfl⟩
  | 11, h =>
    simp only [bT, Bool.and_eq_true, decide_eq_true_eq] at h
    obtain ⟨⟨h0, h1⟩, rfl, h2, h3⟩ := h
    have h2 : x = 0 := h2
    subst h2
    rw [lo h1]; exact ⟨Int.le_refl _, h3, hq h0⟩
  | 12, h => cases h
  | 13, h => cases h
  | 14, h =>
    simp only [bT, Bool.and_eq_true, decide_eq_true_eq] at h
    obtain ⟨h1, rfl⟩ := h
    rw [lo h1]; exact ⟨Or.inl rfl, fun q => absurd q (by decide)⟩
  | _ + 15, h => cases h
theorem mT.blk {q : Bool} {B : mB} {w : mW} {μ : mM} (hq : q = true → 0 < w.2.2.2 0) (hb : bBig B = true) (hB : bChk q B = true) (hT : mT w μ) : mT (wBlk w B) (mBlk w μ B) := by
  intro a t hA i
  by_cases ha : a < w.1
  · rw [show mBlk w μ B a i = μ a i from if_pos ha]
    exact (hT a t (hA.back (wBlk.ext hb) ha) i).ext (wBlk.ext hb) rfl
  · obtain ⟨j, rfl⟩ : ∃ j, a = w.1 + j := ⟨a - w.1, by omega⟩
    have hj : j < B.length := by have := hA.2.1; have e : (wBlk w B).1 = w.1 + B.length := rfl; omega
    have et : t = bS B j := hA.1.symm.trans (wBlk.at hj).1
    subst et
    rw [mBlk.at]
    have h := List.all_eq_true.mp hB j (List.mem_range.mpr hj)
    by_cases hr : mArr (bS B j) = true
    · rw [if_pos hr] at h
      have hk : mKd (bS B j) i = mKd (bS B j) 0 := by
        unfold mArr at hr
        unfold mKd
        revert hr
        rcases mTab (bS B j) with ⟨ci, ks⟩ | ⟨kd, k⟩
        · intro hr; cases hr
        · intro _; rfl
      have ht : mTy (bS B j) i = (mTyL.getD (bS B j) []).getD 0 (0, 0, 0) := by unfold mTy; rw [if_pos hr]
      rw [hk, ht]
      refine bT.ok hq (List.all_eq_true.mp h _ ?_)
      unfold bV
      rw [List.getD_eq_getElem?_getD]
      rcases hg : (bL B j)[i]? with _ | v
      · exact List.mem_cons_self
      · exact List.mem_cons_of_mem _ (List.mem_of_getElem? hg)
    · rw [if_neg hr] at h
      simp only [Bool.and_eq_true, decide_eq_true_eq] at h
      obtain ⟨⟨⟨h1, h2⟩, h3⟩, h4⟩ := h
      have ht : mTy (bS B j) i = (mTyL.getD (bS B j) []).getD i (0, 0, 0) := by unfold mTy; rw [if_neg hr]
      rw [ht]
      have hl := Nat.eq_of_beq_eq_true h1
      by_cases hi : i < (bL B j).length
      · have g := List.all_eq_true.mp h3 i (List.mem_range.mpr hi)
        have ev : bV B j i = (bL B j).getD i 0 := by
          unfold bV
          rw [List.getD_eq_getElem?_getD, List.getD_eq_getElem?_getD, List.getElem?_eq_getElem hi]; rfl
        rw [ev]
        exact bT.ok hq g
      · have ev : bV B j i = 0 := by
          unfold bV
          rw [List.getD_eq_getElem?_getD, List.getElem?_eq_none (by omega), h2]; rfl
        have ed : (mTyL.getD (bS B j) []).getD i (0, 0, 0) = (0, 0, 0) := by
          rw [List.getD_eq_getElem?_getD (l := mTyL.getD (bS B j) []), List.getElem?_eq_none (by omega)]; rfl
        have ek : mKd (bS B j) i = 0 := by
          unfold mKd
          revert h4
          rcases mTab (bS B j) with ⟨ci, ks⟩ | ⟨kd, k⟩
          · intro h4
            have h4 := Nat.eq_of_beq_eq_true h4
            show ks.getD i 0 = 0
            rw [List.getD_eq_getElem?_getD, List.getElem?_eq_none (by omega)]; rfl
          · intro h4; cases h4
        rw [ev, ed, ek]
        exact ⟨Int.le_refl _, Int.le_refl _⟩
theorem mWF.blk {w : mW} {B : mB} (hb : bBig B = true) (hw : mWF w) : mWF (wBlk w B) := hw.ext (wBlk.ext hb)
/-- the heap behind a constructor that ran at addresses from 0 on is memory with a block more -/
theorem mkBlk {w : mW} {μ : mM} {B : mB} {f f3 : Nat → sE} (hf : ∀ j, j < w.1 → f j = (mk w μ).2 j) (h3 : ∀ j, j < B.length → sEq (shE w.1 (f3 j)) (shE w.1 (mCell (mTab (bS B j)) (mLen (bS B j)) (bV B j)))) : ∀ j, j < (mk (wBlk w B) (mBlk w μ B)).1 → sEq (shH w.1 f f3 j) ((mk (wBlk w B) (mBlk w μ B)).2 j) := by
  intro a ha
  have rfl' : ∀ x : sE, sEq x x := fun x => by
    rcases x with ⟨kd, n, f⟩ | y
    · exact ⟨rfl, rfl, fun _ _ => rfl⟩
    · exact (rfl : y = y)
  by_cases h : a < w.1
  · have e : (mk (wBlk w B) (mBlk w μ B)).2 a = (mk w μ).2 a := by
      have em : mBlk w μ B a = μ a := by funext i; exact if_pos h
      simp only [mk, wBlk, em, if_pos h]
    rw [show shH w.1 f f3 a = f a from if_pos h, hf a h, e]
    exact rfl' _
  · obtain ⟨j, rfl⟩ : ∃ j, a = w.1 + j := ⟨a - w.1, by omega⟩
    have hj : j < B.length := by have e : (mk (wBlk w B) (mBlk w μ B)).1 = w.1 + B.length := rfl; omega
    have ej : w.1 + j - w.1 = j := by omega
    have e1 : shH w.1 f f3 (w.1 + j) = shE w.1 (f3 j) := by
      show (if w.1 + j < w.1 then _ else _) = _
      rw [if_neg h, ej]
    have e2 : (mk (wBlk w B) (mBlk w μ B)).2 (w.1 + j) = mCell (mTab (bS B j)) (mLen (bS B j)) (fun i => shz w.1 (mKd (bS B j) i) (bV B j i)) := by
      have em : mBlk w μ B (w.1 + j) = fun i => shz w.1 (mKd (bS B j) i) (bV B j i) := by funext i; exact mBlk.at
      simp only [mk, wBlk, em, if_neg h, ej]
    rw [e1, e2, ← mCell_sh]
    exact h3 j hj
end
section
theorem dX0_init_0 : decode cX0_init 0 = .ok (.aload_n 0, 1) := dc0 dO_42 (by decide +kernel)
theorem dX0_init_1 : decode cX0_init 1 = .ok (.invokespecial 3, 3) := dcU2 dO_183 (by decide +kernel)
theorem dX0_init_4 : decode cX0_init 4 = .ok (.aload_n 0, 1) := dc0 dO_42 (by decide +kernel)
theorem dX0_init_5 : decode cX0_init 5 = .ok (.bipush 6, 2) := dcS1 dO_16 (by decide +kernel)
theorem dX0_init_7 : decode cX0_init 7 = .ok (.newarray .int, 2) := dN_10 (by decide +kernel)
theorem dX0_init_9 : decode cX0_init 9 = .ok (.putfield 9, 3) := dcU2 dO_181 (by decide +kernel)
theorem dX0_init_12 : decode cX0_init 12 = .ok (.aload_n 0, 1) := dc0 dO_42 (by decide +kernel)
theorem dX0_init_13 : decode cX0_init 13 = .ok (.sipush 12345, 3) := dcS2 dO_17 (by decide +kernel)
theorem dX0_init_16 : decode cX0_init 16 = .ok (.iconst 0, 1) := dc0 dO_3 (by decide +kernel)
theorem dX0_init_17 : decode cX0_init 17 = .ok (.invokevirtual 15, 3) := dcU2 dO_182 (by decide +kernel)
theorem dX0_init_20 : decode cX0_init 20 = .ok (.aload_n 0, 1) := dc0 dO_42 (by decide +kernel)
theorem dX0_init_21 : decode cX0_init 21 = .ok (.bipush 10, 2) := dcS1 dO_16 (by decide +kernel)
theorem dX0_init_23 : decode cX0_init 23 = .ok (.newarray .int, 2) := dN_10 (by decide +kernel)
theorem dX0_init_25 : decode cX0_init 25 = .ok (.putfield 19, 3) := dcU2 dO_181 (by decide +kernel)
theorem dX0_init_28 : decode cX0_init 28 = .ok (.aload_n 0, 1) := dc0 dO_42 (by decide +kernel)
theorem dX0_init_29 : decode cX0_init 29 = .ok (.bipush 10, 2) := dcS1 dO_16 (by decide +kernel)
theorem dX0_init_31 : decode cX0_init 31 = .ok (.newarray .int, 2) := dN_10 (by decide +kernel)
theorem dX0_init_33 : decode cX0_init 33 = .ok (.putfield 22, 3) := dcU2 dO_181 (by decide +kernel)
theorem dX0_init_36 : decode cX0_init 36 = .ok (.aload_n 0, 1) := dc0 dO_42 (by decide +kernel)
theorem dX0_init_37 : decode cX0_init 37 = .ok (.bipush 10, 2) := dcS1 dO_16 (by decide +kernel)
theorem dX0_init_39 : decode cX0_init 39 = .ok (.anewarray 25, 3) := dcU2 dO_189 (by decide +kernel)
theorem dX0_init_42 : decode cX0_init 42 = .ok (.putfield 27, 3) := dcU2 dO_181 (by decide +kernel)
theorem dX0_init_45 : decode cX0_init 45 = .ok (.iconst 0, 1) := dc0 dO_3 (by decide +kernel)
theorem dX0_init_46 : decode cX0_init 46 = .ok (.istore_n 1, 1) := dc0 dO_60 (by decide +kernel)
theorem dX0_init_47 : decode cX0_init 47 = .ok (.iload_n 1, 1) := dc0 dO_27 (by decide +kernel)
theorem dX0_init_48 : decode cX0_init 48 = .ok (.bipush 10, 2) := dcS1 dO_16 (by decide +kernel)
theorem dX0_init_50 : decode cX0_init 50 = .ok (.if_icmp .ge 37, 3) := dcS2 dO_162 (by decide +kernel)
theorem dX0_init_53 : decode cX0_init 53 = .ok (.aload_n 0, 1) := dc0 dO_42 (by decide +kernel)
theorem dX0_init_54 : decode cX0_init 54 = .ok (.getfield 19, 3) := dcU2 dO_180 (by decide +kernel)
theorem dX0_init_57 : decode cX0_init 57 = .ok (.iload_n 1, 1) := dc0 dO_27 (by decide +kernel)
theorem dX0_init_58 : decode cX0_init 58 = .ok (.iconst (-1), 1) := dc0 dO_2 (by decide +kernel)
theorem dX0_init_59 : decode cX0_init 59 = .ok (.iastore, 1) := dc0 dO_79 (by decide +kernel)
theorem dX0_init_60 : decode cX0_init 60 = .ok (.aload_n 0, 1) := dc0 dO_42 (by decide +kernel)
theorem dX0_init_61 : decode cX0_init 61 = .ok (.getfield 22, 3) := dcU2 dO_180 (by decide +kernel)
theorem dX0_init_64 : decode cX0_init 64 = .ok (.iload_n 1, 1) := dc0 dO_27 (by decide +kernel)
theorem dX0_init_65 : decode cX0_init 65 = .ok (.ldc 31, 2) := dcU1 dO_18 (by decide +kernel)
theorem dX0_init_67 : decode cX0_init 67 = .ok (.iastore, 1) := dc0 dO_79 (by decide +kernel)
theorem dX0_init_68 : decode cX0_init 68 = .ok (.aload_n 0, 1) := dc0 dO_42 (by decide +kernel)
theorem dX0_init_69 : decode cX0_init 69 = .ok (.getfield 27, 3) := dcU2 dO_180 (by decide +kernel)
theorem dX0_init_72 : decode cX0_init 72 = .ok (.iload_n 1, 1) := dc0 dO_27 (by decide +kernel)
theorem dX0_init_73 : decode cX0_init 73 = .ok (.new 25, 3) := dcU2 dO_187 (by decide +kernel)
theorem dX0_init_76 : decode cX0_init 76 = .ok (.dup, 1) := dc0 dO_89 (by decide +kernel)
theorem dX0_init_77 : decode cX0_init 77 = .ok (.invokespecial 32, 3) := dcU2 dO_183 (by decide +kernel)
theorem dX0_init_80 : decode cX0_init 80 = .ok (.aastore, 1) := dc0 dO_83 (by decide +kernel)
theorem dX0_init_81 : decode cX0_init 81 = .ok (.iinc 1 1, 3) := dcI dO_132 (by decide +kernel)
theorem dX0_init_84 : decode cX0_init 84 = .ok (.goto (-37), 3) := dcS2 dO_167 (by decide +kernel)
theorem dX0_init_87 : decode cX0_init 87 = .ok (.return_, 1) := dc0 dO_177 (by decide +kernel)
theorem dX7_init_0 : decode cX7_init 0 = .ok (.aload_n 0, 1) := dc0 dO_42 (by decide +kernel)
theorem dX7_init_1 : decode cX7_init 1 = .ok (.invokespecial 3, 3) := dcU2 dO_183 (by decide +kernel)
theorem dX7_init_4 : decode cX7_init 4 = .ok (.aload_n 0, 1) := dc0 dO_42 (by decide +kernel)
theorem dX7_init_5 : decode cX7_init 5 = .ok (.bipush 20, 2) := dcS1 dO_16 (by decide +kernel)
theorem dX7_init_7 : decode cX7_init 7 = .ok (.newarray .int, 2) := dN_10 (by decide +kernel)
theorem dX7_init_9 : decode cX7_init 9 = .ok (.putfield 9, 3) := dcU2 dO_181 (by decide +kernel)
theorem dX7_init_12 : decode cX7_init 12 = .ok (.aload_n 0, 1) := dc0 dO_42 (by decide +kernel)
theorem dX7_init_13 : decode cX7_init 13 = .ok (.bipush 8, 2) := dcS1 dO_16 (by decide +kernel)
theorem dX7_init_15 : decode cX7_init 15 = .ok (.newarray .int, 2) := dN_10 (by decide +kernel)
theorem dX7_init_17 : decode cX7_init 17 = .ok (.putfield 15, 3) := dcU2 dO_181 (by decide +kernel)
theorem dX7_init_20 : decode cX7_init 20 = .ok (.aload_n 0, 1) := dc0 dO_42 (by decide +kernel)
theorem dX7_init_21 : decode cX7_init 21 = .ok (.iconst (-1), 1) := dc0 dO_2 (by decide +kernel)
theorem dX7_init_22 : decode cX7_init 22 = .ok (.putfield 18, 3) := dcU2 dO_181 (by decide +kernel)
theorem dX7_init_25 : decode cX7_init 25 = .ok (.return_, 1) := dc0 dO_177 (by decide +kernel)
theorem dX9_init_0 : decode cX9_init 0 = .ok (.aload_n 0, 1) := dc0 dO_42 (by decide +kernel)
theorem dX9_init_1 : decode cX9_init 1 = .ok (.invokespecial 3, 3) := dcU2 dO_183 (by decide +kernel)
theorem dX9_init_4 : decode cX9_init 4 = .ok (.aload_n 0, 1) := dc0 dO_42 (by decide +kernel)
theorem dX9_init_5 : decode cX9_init 5 = .ok (.iload_n 1, 1) := dc0 dO_27 (by decide +kernel)
theorem dX9_init_6 : decode cX9_init 6 = .ok (.putfield 9, 3) := dcU2 dO_181 (by decide +kernel)
theorem dX9_init_9 : decode cX9_init 9 = .ok (.aload_n 0, 1) := dc0 dO_42 (by decide +kernel)
theorem dX9_init_10 : decode cX9_init 10 = .ok (.iload_n 2, 1) := dc0 dO_28 (by decide +kernel)
theorem dX9_init_11 : decode cX9_init 11 = .ok (.putfield 15, 3) := dcU2 dO_181 (by decide +kernel)
theorem dX9_init_14 : decode cX9_init 14 = .ok (.aload_n 0, 1) := dc0 dO_42 (by decide +kernel)
theorem dX9_init_15 : decode cX9_init 15 = .ok (.iload_n 3, 1) := dc0 dO_29 (by decide +kernel)
theorem dX9_init_16 : decode cX9_init 16 = .ok (.putfield 18, 3) := dcU2 dO_181 (by decide +kernel)
theorem dX9_init_19 : decode cX9_init 19 = .ok (.aload_n 0, 1) := dc0 dO_42 (by decide +kernel)
theorem dX9_init_20 : decode cX9_init 20 = .ok (.iconst 1, 1) := dc0 dO_4 (by decide +kernel)
theorem dX9_init_21 : decode cX9_init 21 = .ok (.putfield 21, 3) := dcU2 dO_181 (by decide +kernel)
theorem dX9_init_24 : decode cX9_init 24 = .ok (.aload_n 0, 1) := dc0 dO_42 (by decide +kernel)
theorem dX9_init_25 : decode cX9_init 25 = .ok (.iconst 1, 1) := dc0 dO_4 (by decide +kernel)
theorem dX9_init_26 : decode cX9_init 26 = .ok (.putfield 25, 3) := dcU2 dO_181 (by decide +kernel)
theorem dX9_init_29 : decode cX9_init 29 = .ok (.aload_n 0, 1) := dc0 dO_42 (by decide +kernel)
theorem dX9_init_30 : decode cX9_init 30 = .ok (.iconst 4, 1) := dc0 dO_7 (by decide +kernel)
theorem dX9_init_31 : decode cX9_init 31 = .ok (.newarray .int, 2) := dN_10 (by decide +kernel)
theorem dX9_init_33 : decode cX9_init 33 = .ok (.dup, 1) := dc0 dO_89 (by decide +kernel)
theorem dX9_init_34 : decode cX9_init 34 = .ok (.iconst 0, 1) := dc0 dO_3 (by decide +kernel)
theorem dX9_init_35 : decode cX9_init 35 = .ok (.ldc 28, 2) := dcU1 dO_18 (by decide +kernel)
theorem dX9_init_37 : decode cX9_init 37 = .ok (.iastore, 1) := dc0 dO_79 (by decide +kernel)
theorem dX9_init_38 : decode cX9_init 38 = .ok (.dup, 1) := dc0 dO_89 (by decide +kernel)
theorem dX9_init_39 : decode cX9_init 39 = .ok (.iconst 1, 1) := dc0 dO_4 (by decide +kernel)
theorem dX9_init_40 : decode cX9_init 40 = .ok (.ldc 28, 2) := dcU1 dO_18 (by decide +kernel)
theorem dX9_init_42 : decode cX9_init 42 = .ok (.iastore, 1) := dc0 dO_79 (by decide +kernel)
theorem dX9_init_43 : decode cX9_init 43 = .ok (.dup, 1) := dc0 dO_89 (by decide +kernel)
theorem dX9_init_44 : decode cX9_init 44 = .ok (.iconst 2, 1) := dc0 dO_5 (by decide +kernel)
theorem dX9_init_45 : decode cX9_init 45 = .ok (.ldc 28, 2) := dcU1 dO_18 (by decide +kernel)
theorem dX9_init_47 : decode cX9_init 47 = .ok (.iastore, 1) := dc0 dO_79 (by decide +kernel)
theorem dX9_init_48 : decode cX9_init 48 = .ok (.dup, 1) := dc0 dO_89 (by decide +kernel)
theorem dX9_init_49 : decode cX9_init 49 = .ok (.iconst 3, 1) := dc0 dO_6 (by decide +kernel)
theorem dX9_init_50 : decode cX9_init 50 = .ok (.ldc 28, 2) := dcU1 dO_18 (by decide +kernel)
theorem dX9_init_52 : decode cX9_init 52 = .ok (.iastore, 1) := dc0 dO_79 (by decide +kernel)
theorem dX9_init_53 : decode cX9_init 53 = .ok (.putfield 29, 3) := dcU2 dO_181 (by decide +kernel)
theorem dX9_init_56 : decode cX9_init 56 = .ok (.aload_n 0, 1) := dc0 dO_42 (by decide +kernel)
theorem dX9_init_57 : decode cX9_init 57 = .ok (.bipush 20, 2) := dcS1 dO_16 (by decide +kernel)
theorem dX9_init_59 : decode cX9_init 59 = .ok (.anewarray 33, 3) := dcU2 dO_189 (by decide +kernel)
theorem dX9_init_62 : decode cX9_init 62 = .ok (.putfield 35, 3) := dcU2 dO_181 (by decide +kernel)
theorem dX9_init_65 : decode cX9_init 65 = .ok (.aload_n 0, 1) := dc0 dO_42 (by decide +kernel)
theorem dX9_init_66 : decode cX9_init 66 = .ok (.bipush 20, 2) := dcS1 dO_16 (by decide +kernel)
theorem dX9_init_68 : decode cX9_init 68 = .ok (.anewarray 33, 3) := dcU2 dO_189 (by decide +kernel)
theorem dX9_init_71 : decode cX9_init 71 = .ok (.putfield 39, 3) := dcU2 dO_181 (by decide +kernel)
theorem dX9_init_74 : decode cX9_init 74 = .ok (.iconst 0, 1) := dc0 dO_3 (by decide +kernel)
theorem dX9_init_75 : decode cX9_init 75 = .ok (.istore 4, 2) := dcU1 dO_54 (by decide +kernel)
theorem dX9_init_77 : decode cX9_init 77 = .ok (.iload 4, 2) := dcU1 dO_21 (by decide +kernel)
theorem dX9_init_79 : decode cX9_init 79 = .ok (.aload_n 0, 1) := dc0 dO_42 (by decide +kernel)
theorem dX9_init_80 : decode cX9_init 80 = .ok (.getfield 35, 3) := dcU2 dO_180 (by decide +kernel)
theorem dX9_init_83 : decode cX9_init 83 = .ok (.arraylength, 1) := dc0 dO_190 (by decide +kernel)
theorem dX9_init_84 : decode cX9_init 84 = .ok (.if_icmp .ge 37, 3) := dcS2 dO_162 (by decide +kernel)
theorem dX9_init_87 : decode cX9_init 87 = .ok (.aload_n 0, 1) := dc0 dO_42 (by decide +kernel)
theorem dX9_init_88 : decode cX9_init 88 = .ok (.getfield 35, 3) := dcU2 dO_180 (by decide +kernel)
theorem dX9_init_91 : decode cX9_init 91 = .ok (.iload 4, 2) := dcU1 dO_21 (by decide +kernel)
theorem dX9_init_93 : decode cX9_init 93 = .ok (.new 33, 3) := dcU2 dO_187 (by decide +kernel)
theorem dX9_init_96 : decode cX9_init 96 = .ok (.dup, 1) := dc0 dO_89 (by decide +kernel)
theorem dX9_init_97 : decode cX9_init 97 = .ok (.invokespecial 42, 3) := dcU2 dO_183 (by decide +kernel)
theorem dX9_init_100 : decode cX9_init 100 = .ok (.aastore, 1) := dc0 dO_83 (by decide +kernel)
theorem dX9_init_101 : decode cX9_init 101 = .ok (.aload_n 0, 1) := dc0 dO_42 (by decide +kernel)
theorem dX9_init_102 : decode cX9_init 102 = .ok (.getfield 39, 3) := dcU2 dO_180 (by decide +kernel)
theorem dX9_init_105 : decode cX9_init 105 = .ok (.iload 4, 2) := dcU1 dO_21 (by decide +kernel)
theorem dX9_init_107 : decode cX9_init 107 = .ok (.new 33, 3) := dcU2 dO_187 (by decide +kernel)
theorem dX9_init_110 : decode cX9_init 110 = .ok (.dup, 1) := dc0 dO_89 (by decide +kernel)
theorem dX9_init_111 : decode cX9_init 111 = .ok (.invokespecial 42, 3) := dcU2 dO_183 (by decide +kernel)
theorem dX9_init_114 : decode cX9_init 114 = .ok (.aastore, 1) := dc0 dO_83 (by decide +kernel)
theorem dX9_init_115 : decode cX9_init 115 = .ok (.iinc 4 1, 3) := dcI dO_132 (by decide +kernel)
theorem dX9_init_118 : decode cX9_init 118 = .ok (.goto (-41), 3) := dcS2 dO_167 (by decide +kernel)
theorem dX9_init_121 : decode cX9_init 121 = .ok (.return_, 1) := dc0 dO_177 (by decide +kernel)
end
section
/-- the cells of a new object -/
def tX0N : Nat → sE := fun j => match j with
  | 0 => .inr (0, [.ref 1, .ref 2, .ref 3, .ref 4, .int 5, .int 0])
  | 1 => .inl (0, 6, updV (updV (updV (updV (updV (fun _ => .int 0) 4 (.int 5)) 3 (.int 4)) 2 (.int 3)) 1 (.int 2)) 0 (.int 1))
  | 2 => .inl (0, 10, updV (updV (updV (updV (updV (updV (updV (updV (updV (updV (fun _ => .int 0) 0 (.int (-1))) 1 (.int (-1))) 2 (.int (-1))) 3 (.int (-1))) 4 (.int (-1))) 5 (.int (-1))) 6 (.int (-1))) 7 (.int (-1))) 8 (.int (-1))) 9 (.int (-1)))
  | 3 => .inl (0, 10, updV (updV (updV (updV (updV (updV (updV (updV (updV (updV (fun _ => .int 0) 0 (.int (-99999999))) 1 (.int (-99999999))) 2 (.int (-99999999))) 3 (.int (-99999999))) 4 (.int (-99999999))) 5 (.int (-99999999))) 6 (.int (-99999999))) 7 (.int (-99999999))) 8 (.int (-99999999))) 9 (.int (-99999999)))
  | 4 => .inl (4, 10, updV (updV (updV (updV (updV (updV (updV (updV (updV (updV (fun _ => .null) 0 (.ref 5)) 1 (.ref 8)) 2 (.ref 11)) 3 (.ref 14)) 4 (.ref 17)) 5 (.ref 20)) 6 (.ref 23)) 7 (.ref 26)) 8 (.ref 29)) 9 (.ref 32))
  | 5 => .inr (7, [.ref 6, .ref 7, .int 0, .int 0, .int 0, .int 0, .int 0, .int 0, .int 0, .int (-1), .int 0, .int 0])
  | 6 => .inl (0, 20, fun _ => .int 0)
  | 7 => .inl (0, 8, fun _ => .int 0)
  | 8 => .inr (7, [.ref 9, .ref 10, .int 0, .int 0, .int 0, .int 0, .int 0, .int 0, .int 0, .int (-1), .int 0, .int 0])
  | 9 => .inl (0, 20, fun _ => .int 0)
  | 10 => .inl (0, 8, fun _ => .int 0)
  | 11 => .inr (7, [.ref 12, .ref 13, .int 0, .int 0, .int 0, .int 0, .int 0, .int 0, .int 0, .int (-1), .int 0, .int 0])
  | 12 => .inl (0, 20, fun _ => .int 0)
  | 13 => .inl (0, 8, fun _ => .int 0)
  | 14 => .inr (7, [.ref 15, .ref 16, .int 0, .int 0, .int 0, .int 0, .int 0, .int 0, .int 0, .int (-1), .int 0, .int 0])
  | 15 => .inl (0, 20, fun _ => .int 0)
  | 16 => .inl (0, 8, fun _ => .int 0)
  | 17 => .inr (7, [.ref 18, .ref 19, .int 0, .int 0, .int 0, .int 0, .int 0, .int 0, .int 0, .int (-1), .int 0, .int 0])
  | 18 => .inl (0, 20, fun _ => .int 0)
  | 19 => .inl (0, 8, fun _ => .int 0)
  | 20 => .inr (7, [.ref 21, .ref 22, .int 0, .int 0, .int 0, .int 0, .int 0, .int 0, .int 0, .int (-1), .int 0, .int 0])
  | 21 => .inl (0, 20, fun _ => .int 0)
  | 22 => .inl (0, 8, fun _ => .int 0)
  | 23 => .inr (7, [.ref 24, .ref 25, .int 0, .int 0, .int 0, .int 0, .int 0, .int 0, .int 0, .int (-1), .int 0, .int 0])
  | 24 => .inl (0, 20, fun _ => .int 0)
  | 25 => .inl (0, 8, fun _ => .int 0)
  | 26 => .inr (7, [.ref 27, .ref 28, .int 0, .int 0, .int 0, .int 0, .int 0, .int 0, .int 0, .int (-1), .int 0, .int 0])
  | 27 => .inl (0, 20, fun _ => .int 0)
  | 28 => .inl (0, 8, fun _ => .int 0)
  | 29 => .inr (7, [.ref 30, .ref 31, .int 0, .int 0, .int 0, .int 0, .int 0, .int 0, .int 0, .int (-1), .int 0, .int 0])
  | 30 => .inl (0, 20, fun _ => .int 0)
  | 31 => .inl (0, 8, fun _ => .int 0)
  | 32 => .inr (7, [.ref 33, .ref 34, .int 0, .int 0, .int 0, .int 0, .int 0, .int 0, .int 0, .int (-1), .int 0, .int 0])
  | 33 => .inl (0, 20, fun _ => .int 0)
  | 34 => .inl (0, 8, fun _ => .int 0)
  | _ => .inr (0, [])
set_option maxHeartbeats 40000000 in
set_option maxRecDepth 100000 in
theorem ctorX0 (l : Launch) (D : va_G) (c : Nat → ClassId) (H0 : Heap) (sa : Nat × Nat × (Nat → Int32)) : sC (gG l D c H0 sa) mX0_init 5 34 436 [.ref 0] (1, fun _ => .inr (0, zX0)) (fun r hp => r = none ∧ hp.1 = 35 ∧ ∀ j, j < 35 → hp.2 j = tX0N j) := by
  refine sC.of rfl (by decide) (le_t rfl) ?_
  refine sv_aload_n (pc := 0) dX0_init_0 rfl rfl ?_
  refine sv_objinit (pc := 1) dX0_init_1 wM_X0_3 wV_obj wK_obj ⟨le_t rfl, le_t rfl⟩ (le_t rfl) ?_
  refine sv_aload_n (pc := 4) dX0_init_4 rfl rfl ?_
  refine sv_bipush (pc := 5) (v := 6) dX0_init_5 (by decide) ?_
  refine sw_newarray (pc := 7) (kd := 0) (a := 1) (n1 := 2) (N := 6) (ce1 := 1) (sl1 := 6) (v := .int 0) dX0_init_7 rfl wA_int rfl (fun U => sI_Cond_int U _) (by decide) (by decide) rfl (fun _ => rfl) rfl rfl rfl rfl rfl rfl ?_
  refine sw_putfinal (pc := 9) dX0_init_9 (gCX0 _ _ _ _ _) 0 (by decide) wF_X0_9 rfl rfl rfl rfl rfl (fun _ => rfl) (fun _ => rfl) rfl ?_
  refine sv_aload_n (pc := 12) dX0_init_12 rfl rfl ?_
  refine sv_sipush (pc := 13) (v := 12345) dX0_init_13 (by decide) ?_
  refine sv_iconst (pc := 16) (v := 0) dX0_init_16 (by decide) ?_
  refine sv_callV (pc := 17) (M' := mX0_goBy) (d' := 4) (C' := 0) (S' := 0) (av := [.int 12345, .int 0]) ?_ (gOk _ _ _ _ _) dX0_init_17 (tX0_goBy _ _ _ _ _) ⟨wV_X0_goBy, wL_X0_goBy⟩ wM_X0_15 (gCX0 _ _ _ _ _) rfl (lt_t rfl) rfl ⟨le_t rfl, le_t rfl⟩ ⟨le_t rfl, le_t rfl⟩ rfl (le_t rfl) (fun _ _ h => h)
  refine sC.of rfl (by decide) (le_t rfl) ?_
  refine sv_aload_n (pc := 0) dX0_goBy_0 rfl rfl ?_
  refine sv_iload_n (pc := 1) dX0_goBy_1 rfl rfl ?_
  refine sw_putfield (pc := 2) dX0_goBy_2 (gCX0 _ _ _ _ _) 5 (by decide) wF_X0_33 rfl rfl rfl (fun _ => rfl) (fun _ => rfl) rfl ?_
  refine sv_aload_n (pc := 5) dX0_goBy_5 rfl rfl ?_
  refine sv_iconst (pc := 6) (v := 0) dX0_goBy_6 (by decide) ?_
  refine sw_putfield (pc := 7) dX0_goBy_7 (gCX0 _ _ _ _ _) 4 (by decide) wF_X0_37 rfl rfl rfl (fun _ => rfl) (fun _ => rfl) rfl ?_
  refine sv_iload_n (pc := 10) dX0_goBy_10 rfl rfl ?_
  refine sv_istore_n (pc := 11) dX0_goBy_11 rfl (by decide) ?_
  refine sv_iload_n (pc := 12) dX0_goBy_12 rfl rfl ?_
  refine sv_if_le (pc := 13) (tgt := 34) dX0_goBy_13 (by decide) (fun h => absurd h (by decide)) (fun _ => ?_)
  refine sv_aload_n (pc := 16) dX0_goBy_16 rfl rfl ?_
  refine sv_dup (pc := 17) dX0_goBy_17 rfl ?_
  refine sw_getfield (pc := 18) dX0_goBy_18 (gCX0 _ _ _ _ _) 4 (by decide) wF_X0_37 rfl rfl rfl ?_
  refine sv_iconst (pc := 21) (v := 1) dX0_goBy_21 (by decide) ?_
  refine sw_iadd (pc := 22) (v := 1) dX0_goBy_22 (by decide) ?_
  refine sw_putfield (pc := 23) dX0_goBy_23 (gCX0 _ _ _ _ _) 4 (by decide) wF_X0_37 rfl rfl rfl (fun _ => rfl) (fun _ => rfl) rfl ?_
  refine sv_iload_n (pc := 26) dX0_goBy_26 rfl rfl ?_
  refine sv_bipush (pc := 27) (v := 10) dX0_goBy_27 (by decide) ?_
  refine sw_idiv (pc := 29) (v := 1234) dX0_goBy_29 (by decide) (by decide) ?_
  refine sv_istore_n (pc := 30) dX0_goBy_30 rfl (by decide) ?_
  refine sv_goto (pc := 31) (tgt := 12) dX0_goBy_31 (by decide) ?_
  refine sv_iload_n (pc := 12) dX0_goBy_12 rfl rfl ?_
  refine sv_if_le (pc := 13) (tgt := 34) dX0_goBy_13 (by decide) (fun h => absurd h (by decide)) (fun _ => ?_)
  refine sv_aload_n (pc := 16) dX0_goBy_16 rfl rfl ?_
  refine sv_dup (pc := 17) dX0_goBy_17 rfl ?_
  refine sw_getfield (pc := 18) dX0_goBy_18 (gCX0 _ _ _ _ _) 4 (by decide) wF_X0_37 rfl rfl rfl ?_
  refine sv_iconst (pc := 21) (v := 1) dX0_goBy_21 (by decide) ?_
  refine sw_iadd (pc := 22) (v := 2) dX0_goBy_22 (by decide) ?_
  refine sw_putfield (pc := 23) dX0_goBy_23 (gCX0 _ _ _ _ _) 4 (by decide) wF_X0_37 rfl rfl rfl (fun _ => rfl) (fun _ => rfl) rfl ?_
  refine sv_iload_n (pc := 26) dX0_goBy_26 rfl rfl ?_
  refine sv_bipush (pc := 27) (v := 10) dX0_goBy_27 (by decide) ?_
  refine sw_idiv (pc := 29) (v := 123) dX0_goBy_29 (by decide) (by decide) ?_
  refine sv_istore_n (pc := 30) dX0_goBy_30 rfl (by decide) ?_
  refine sv_goto (pc := 31) (tgt := 12) dX0_goBy_31 (by decide) ?_
  refine sv_iload_n (pc := 12) dX0_goBy_12 rfl rfl ?_
  refine sv_if_le (pc := 13) (tgt := 34) dX0_goBy_13 (by decide) (fun h => absurd h (by decide)) (fun _ => ?_)
  refine sv_aload_n (pc := 16) dX0_goBy_16 rfl rfl ?_
  refine sv_dup (pc := 17) dX0_goBy_17 rfl ?_
  refine sw_getfield (pc := 18) dX0_goBy_18 (gCX0 _ _ _ _ _) 4 (by decide) wF_X0_37 rfl rfl rfl ?_
  refine sv_iconst (pc := 21) (v := 1) dX0_goBy_21 (by decide) ?_
  refine sw_iadd (pc := 22) (v := 3) dX0_goBy_22 (by decide) ?_
  refine sw_putfield (pc := 23) dX0_goBy_23 (gCX0 _ _ _ _ _) 4 (by decide) wF_X0_37 rfl rfl rfl (fun _ => rfl) (fun _ => rfl) rfl ?_
  refine sv_iload_n (pc := 26) dX0_goBy_26 rfl rfl ?_
  refine sv_bipush (pc := 27) (v := 10) dX0_goBy_27 (by decide) ?_
  refine sw_idiv (pc := 29) (v := 12) dX0_goBy_29 (by decide) (by decide) ?_
  refine sv_istore_n (pc := 30) dX0_goBy_30 rfl (by decide) ?_
  refine sv_goto (pc := 31) (tgt := 12) dX0_goBy_31 (by decide) ?_
  refine sv_iload_n (pc := 12) dX0_goBy_12 rfl rfl ?_
  refine sv_if_le (pc := 13) (tgt := 34) dX0_goBy_13 (by decide) (fun h => absurd h (by decide)) (fun _ => ?_)
  refine sv_aload_n (pc := 16) dX0_goBy_16 rfl rfl ?_
  refine sv_dup (pc := 17) dX0_goBy_17 rfl ?_
  refine sw_getfield (pc := 18) dX0_goBy_18 (gCX0 _ _ _ _ _) 4 (by decide) wF_X0_37 rfl rfl rfl ?_
  refine sv_iconst (pc := 21) (v := 1) dX0_goBy_21 (by decide) ?_
  refine sw_iadd (pc := 22) (v := 4) dX0_goBy_22 (by decide) ?_
  refine sw_putfield (pc := 23) dX0_goBy_23 (gCX0 _ _ _ _ _) 4 (by decide) wF_X0_37 rfl rfl rfl (fun _ => rfl) (fun _ => rfl) rfl ?_
  refine sv_iload_n (pc := 26) dX0_goBy_26 rfl rfl ?_
  refine sv_bipush (pc := 27) (v := 10) dX0_goBy_27 (by decide) ?_
  refine sw_idiv (pc := 29) (v := 1) dX0_goBy_29 (by decide) (by decide) ?_
  refine sv_istore_n (pc := 30) dX0_goBy_30 rfl (by decide) ?_
  refine sv_goto (pc := 31) (tgt := 12) dX0_goBy_31 (by decide) ?_
  refine sv_iload_n (pc := 12) dX0_goBy_12 rfl rfl ?_
  refine sv_if_le (pc := 13) (tgt := 34) dX0_goBy_13 (by decide) (fun h => absurd h (by decide)) (fun _ => ?_)
  refine sv_aload_n (pc := 16) dX0_goBy_16 rfl rfl ?_
  refine sv_dup (pc := 17) dX0_goBy_17 rfl ?_
  refine sw_getfield (pc := 18) dX0_goBy_18 (gCX0 _ _ _ _ _) 4 (by decide) wF_X0_37 rfl rfl rfl ?_
  refine sv_iconst (pc := 21) (v := 1) dX0_goBy_21 (by decide) ?_
  refine sw_iadd (pc := 22) (v := 5) dX0_goBy_22 (by decide) ?_
  refine sw_putfield (pc := 23) dX0_goBy_23 (gCX0 _ _ _ _ _) 4 (by decide) wF_X0_37 rfl rfl rfl (fun _ => rfl) (fun _ => rfl) rfl ?_
  refine sv_iload_n (pc := 26) dX0_goBy_26 rfl rfl ?_
  refine sv_bipush (pc := 27) (v := 10) dX0_goBy_27 (by decide) ?_
  refine sw_idiv (pc := 29) (v := 0) dX0_goBy_29 (by decide) (by decide) ?_
  refine sv_istore_n (pc := 30) dX0_goBy_30 rfl (by decide) ?_
  refine sv_goto (pc := 31) (tgt := 12) dX0_goBy_31 (by decide) ?_
  refine sv_iload_n (pc := 12) dX0_goBy_12 rfl rfl ?_
  refine sv_if_le (pc := 13) (tgt := 34) dX0_goBy_13 (by decide) (fun _ => ?_) (fun h => absurd (by decide) h)
  refine sv_iload_n (pc := 34) dX0_goBy_34 rfl rfl ?_
  refine sv_istore_n (pc := 35) dX0_goBy_35 rfl (by decide) ?_
  refine sv_aload_n (pc := 36) dX0_goBy_36 rfl rfl ?_
  refine sw_getfield (pc := 37) dX0_goBy_37 (gCX0 _ _ _ _ _) 4 (by decide) wF_X0_37 rfl rfl rfl ?_
  refine sv_iconst (pc := 40) (v := 1) dX0_goBy_40 (by decide) ?_
  refine sw_isub (pc := 41) (v := 4) dX0_goBy_41 (by decide) ?_
  refine sv_istore (pc := 42) dX0_goBy_42 (by decide) ?_
  refine sv_lvG (pc := 44) (lv' := [(0, .ref 0), (1, .int 12345), (2, .int 0), (3, .int 12345), (4, .int 4)]) (List.forall_mem_cons.mpr ⟨rfl, List.forall_mem_cons.mpr ⟨rfl, List.forall_mem_cons.mpr ⟨rfl, List.forall_mem_cons.mpr ⟨rfl, List.forall_mem_cons.mpr ⟨rfl, fun _ h => absurd h List.not_mem_nil⟩⟩⟩⟩⟩) ?_
  refine sv_iload (pc := 44) dX0_goBy_44 rfl ?_
  refine sv_if_lt (pc := 46) (tgt := 71) dX0_goBy_46 (by decide) (fun h => absurd h (by decide)) (fun _ => ?_)
  refine sv_aload_n (pc := 49) dX0_goBy_49 rfl rfl ?_
  refine sw_getfield (pc := 50) dX0_goBy_50 (gCX0 _ _ _ _ _) 0 (by decide) wF_X0_9 rfl rfl rfl ?_
  refine sv_iload (pc := 53) dX0_goBy_53 rfl ?_
  refine sv_iload_n (pc := 55) dX0_goBy_55 rfl rfl ?_
  refine sv_bipush (pc := 56) (v := 10) dX0_goBy_56 (by decide) ?_
  refine sw_irem (pc := 58) (v := 5) dX0_goBy_58 (by decide) (by decide) ?_
  refine sw_iastore (pc := 59) (k := 4) (v := .int 5) dX0_goBy_59 rfl rfl rfl (by decide) (by decide) rfl rfl ?_
  refine sv_iload_n (pc := 60) dX0_goBy_60 rfl rfl ?_
  refine sv_bipush (pc := 61) (v := 10) dX0_goBy_61 (by decide) ?_
  refine sw_idiv (pc := 63) (v := 1234) dX0_goBy_63 (by decide) (by decide) ?_
  refine sv_istore_n (pc := 64) dX0_goBy_64 rfl (by decide) ?_
  refine sw_iinc (pc := 65) (v := 3) dX0_goBy_65 rfl (by decide) (by decide) ?_
  refine sv_goto (pc := 68) (tgt := 44) dX0_goBy_68 (by decide) ?_
  refine sv_iload (pc := 44) dX0_goBy_44 rfl ?_
  refine sv_if_lt (pc := 46) (tgt := 71) dX0_goBy_46 (by decide) (fun h => absurd h (by decide)) (fun _ => ?_)
  refine sv_aload_n (pc := 49) dX0_goBy_49 rfl rfl ?_
  refine sw_getfield (pc := 50) dX0_goBy_50 (gCX0 _ _ _ _ _) 0 (by decide) wF_X0_9 rfl rfl rfl ?_
  refine sv_iload (pc := 53) dX0_goBy_53 rfl ?_
  refine sv_iload_n (pc := 55) dX0_goBy_55 rfl rfl ?_
  refine sv_bipush (pc := 56) (v := 10) dX0_goBy_56 (by decide) ?_
  refine sw_irem (pc := 58) (v := 4) dX0_goBy_58 (by decide) (by decide) ?_
  refine sw_iastore (pc := 59) (k := 3) (v := .int 4) dX0_goBy_59 rfl rfl rfl (by decide) (by decide) rfl rfl ?_
  refine sv_iload_n (pc := 60) dX0_goBy_60 rfl rfl ?_
  refine sv_bipush (pc := 61) (v := 10) dX0_goBy_61 (by decide) ?_
  refine sw_idiv (pc := 63) (v := 123) dX0_goBy_63 (by decide) (by decide) ?_
  refine sv_istore_n (pc := 64) dX0_goBy_64 rfl (by decide) ?_
  refine sw_iinc (pc := 65) (v := 2) dX0_goBy_65 rfl (by decide) (by decide) ?_
  refine sv_goto (pc := 68) (tgt := 44) dX0_goBy_68 (by decide) ?_
  refine sv_iload (pc := 44) dX0_goBy_44 rfl ?_
  refine sv_if_lt (pc := 46) (tgt := 71) dX0_goBy_46 (by decide) (fun h => absurd h (by decide)) (fun _ => ?_)
  refine sv_aload_n (pc := 49) dX0_goBy_49 rfl rfl ?_
  refine sw_getfield (pc := 50) dX0_goBy_50 (gCX0 _ _ _ _ _) 0 (by decide) wF_X0_9 rfl rfl rfl ?_
  refine sv_iload (pc := 53) dX0_goBy_53 rfl ?_
  refine sv_iload_n (pc := 55) dX0_goBy_55 rfl rfl ?_
  refine sv_bipush (pc := 56) (v := 10) dX0_goBy_56 (by decide) ?_
  refine sw_irem (pc := 58) (v := 3) dX0_goBy_58 (by decide) (by decide) ?_
  refine sw_iastore (pc := 59) (k := 2) (v := .int 3) dX0_goBy_59 rfl rfl rfl (by decide) (by decide) rfl rfl ?_
  refine sv_iload_n (pc := 60) dX0_goBy_60 rfl rfl ?_
  refine sv_bipush (pc := 61) (v := 10) dX0_goBy_61 (by decide) ?_
  refine sw_idiv (pc := 63) (v := 12) dX0_goBy_63 (by decide) (by decide) ?_
  refine sv_istore_n (pc := 64) dX0_goBy_64 rfl (by decide) ?_
  refine sw_iinc (pc := 65) (v := 1) dX0_goBy_65 rfl (by decide) (by decide) ?_
  refine sv_goto (pc := 68) (tgt := 44) dX0_goBy_68 (by decide) ?_
  refine sv_iload (pc := 44) dX0_goBy_44 rfl ?_
  refine sv_if_lt (pc := 46) (tgt := 71) dX0_goBy_46 (by decide) (fun h => absurd h (by decide)) (fun _ => ?_)
  refine sv_aload_n (pc := 49) dX0_goBy_49 rfl rfl ?_
  refine sw_getfield (pc := 50) dX0_goBy_50 (gCX0 _ _ _ _ _) 0 (by decide) wF_X0_9 rfl rfl rfl ?_
  refine sv_iload (pc := 53) dX0_goBy_53 rfl ?_
  refine sv_iload_n (pc := 55) dX0_goBy_55 rfl rfl ?_
  refine sv_bipush (pc := 56) (v := 10) dX0_goBy_56 (by decide) ?_
  refine sw_irem (pc := 58) (v := 2) dX0_goBy_58 (by decide) (by decide) ?_
  refine sw_iastore (pc := 59) (k := 1) (v := .int 2) dX0_goBy_59 rfl rfl rfl (by decide) (by decide) rfl rfl ?_
  refine sv_iload_n (pc := 60) dX0_goBy_60 rfl rfl ?_
  refine sv_bipush (pc := 61) (v := 10) dX0_goBy_61 (by decide) ?_
  refine sw_idiv (pc := 63) (v := 1) dX0_goBy_63 (by decide) (by decide) ?_
  refine sv_istore_n (pc := 64) dX0_goBy_64 rfl (by decide) ?_
  refine sw_iinc (pc := 65) (v := 0) dX0_goBy_65 rfl (by decide) (by decide) ?_
  refine sv_lvG (pc := 68) (lv' := [(0, .ref 0), (1, .int 12345), (2, .int 0), (3, .int 1), (4, .int 0)]) (List.forall_mem_cons.mpr ⟨rfl, List.forall_mem_cons.mpr ⟨rfl, List.forall_mem_cons.mpr ⟨rfl, List.forall_mem_cons.mpr ⟨rfl, List.forall_mem_cons.mpr ⟨rfl, fun _ h => absurd h List.not_mem_nil⟩⟩⟩⟩⟩) ?_
  refine sv_goto (pc := 68) (tgt := 44) dX0_goBy_68 (by decide) ?_
  refine sv_iload (pc := 44) dX0_goBy_44 rfl ?_
  refine sv_if_lt (pc := 46) (tgt := 71) dX0_goBy_46 (by decide) (fun h => absurd h (by decide)) (fun _ => ?_)
  refine sv_aload_n (pc := 49) dX0_goBy_49 rfl rfl ?_
  refine sw_getfield (pc := 50) dX0_goBy_50 (gCX0 _ _ _ _ _) 0 (by decide) wF_X0_9 rfl rfl rfl ?_
  refine sv_iload (pc := 53) dX0_goBy_53 rfl ?_
  refine sv_iload_n (pc := 55) dX0_goBy_55 rfl rfl ?_
  refine sv_bipush (pc := 56) (v := 10) dX0_goBy_56 (by decide) ?_
  refine sw_irem (pc := 58) (v := 1) dX0_goBy_58 (by decide) (by decide) ?_
  refine sw_iastore (pc := 59) (k := 0) (v := .int 1) dX0_goBy_59 rfl rfl rfl (by decide) (by decide) rfl rfl ?_
  refine sv_iload_n (pc := 60) dX0_goBy_60 rfl rfl ?_
  refine sv_bipush (pc := 61) (v := 10) dX0_goBy_61 (by decide) ?_
  refine sw_idiv (pc := 63) (v := 0) dX0_goBy_63 (by decide) (by decide) ?_
  refine sv_istore_n (pc := 64) dX0_goBy_64 rfl (by decide) ?_
  refine sw_iinc (pc := 65) (v := (-1)) dX0_goBy_65 rfl (by decide) (by decide) ?_
  refine sv_goto (pc := 68) (tgt := 44) dX0_goBy_68 (by decide) ?_
  refine sv_iload (pc := 44) dX0_goBy_44 rfl ?_
  refine sv_if_lt (pc := 46) (tgt := 71) dX0_goBy_46 (by decide) (fun _ => ?_) (fun h => absurd (by decide) h)
  refine sv_vret (pc := 71) dX0_goBy_71 rfl (le_t rfl) (le_t rfl) ?_
  refine sv_aload_n (pc := 20) dX0_init_20 rfl rfl ?_
  refine sv_bipush (pc := 21) (v := 10) dX0_init_21 (by decide) ?_
  refine sw_newarray (pc := 23) (kd := 0) (a := 2) (n1 := 3) (N := 10) (ce1 := 2) (sl1 := 16) (v := .int 0) dX0_init_23 rfl wA_int rfl (fun U => sI_Cond_int U _) (by decide) (by decide) rfl (fun _ => rfl) rfl rfl rfl rfl rfl rfl ?_
  refine sw_putfinal (pc := 25) dX0_init_25 (gCX0 _ _ _ _ _) 1 (by decide) wF_X0_19 rfl rfl rfl rfl rfl (fun _ => rfl) (fun _ => rfl) rfl ?_
  refine sv_aload_n (pc := 28) dX0_init_28 rfl rfl ?_
  refine sv_bipush (pc := 29) (v := 10) dX0_init_29 (by decide) ?_
  refine sw_newarray (pc := 31) (kd := 0) (a := 3) (n1 := 4) (N := 10) (ce1 := 3) (sl1 := 26) (v := .int 0) dX0_init_31 rfl wA_int rfl (fun U => sI_Cond_int U _) (by decide) (by decide) rfl (fun _ => rfl) rfl rfl rfl rfl rfl rfl ?_
  refine sw_putfinal (pc := 33) dX0_init_33 (gCX0 _ _ _ _ _) 2 (by decide) wF_X0_22 rfl rfl rfl rfl rfl (fun _ => rfl) (fun _ => rfl) rfl ?_
  refine sv_aload_n (pc := 36) dX0_init_36 rfl rfl ?_
  refine sv_bipush (pc := 37) (v := 10) dX0_init_37 (by decide) ?_
  refine sw_anewarray (pc := 39) (kd := 4) (a := 4) (n1 := 5) (N := 10) (ce1 := 4) (sl1 := 36) dX0_init_39 wC_X0_25 rfl (by decide) (by decide) rfl rfl rfl rfl rfl rfl rfl ?_
  refine sw_putfinal (pc := 42) dX0_init_42 (gCX0 _ _ _ _ _) 3 (by decide) wF_X0_27 rfl rfl rfl rfl rfl (fun _ => rfl) (fun _ => rfl) rfl ?_
  refine sv_iconst (pc := 45) (v := 0) dX0_init_45 (by decide) ?_
  refine sv_istore_n (pc := 46) dX0_init_46 rfl (by decide) ?_
  refine sv_iload_n (pc := 47) dX0_init_47 rfl rfl ?_
  refine sv_bipush (pc := 48) (v := 10) dX0_init_48 (by decide) ?_
  refine sv_icmp_ge (pc := 50) (tgt := 87) dX0_init_50 (by decide) (fun h => absurd h (by decide)) (fun _ => ?_)
  refine sv_aload_n (pc := 53) dX0_init_53 rfl rfl ?_
  refine sw_getfield (pc := 54) dX0_init_54 (gCX0 _ _ _ _ _) 1 (by decide) wF_X0_19 rfl rfl rfl ?_
  refine sv_iload_n (pc := 57) dX0_init_57 rfl rfl ?_
  refine sv_iconst (pc := 58) (v := (-1)) dX0_init_58 (by decide) ?_
  refine sw_iastore (pc := 59) (k := 0) (v := .int (-1)) dX0_init_59 rfl rfl rfl (by decide) (by decide) rfl rfl ?_
  refine sv_aload_n (pc := 60) dX0_init_60 rfl rfl ?_
  refine sw_getfield (pc := 61) dX0_init_61 (gCX0 _ _ _ _ _) 2 (by decide) wF_X0_22 rfl rfl rfl ?_
  refine sv_iload_n (pc := 64) dX0_init_64 rfl rfl ?_
  refine sv_ldc (pc := 65) dX0_init_65 wG_X0_31 ?_
  refine sw_iastore (pc := 67) (k := 0) (v := .int (-99999999)) dX0_init_67 rfl rfl rfl (by decide) (by decide) rfl rfl ?_
  refine sv_aload_n (pc := 68) dX0_init_68 rfl rfl ?_
  refine sw_getfield (pc := 69) dX0_init_69 (gCX0 _ _ _ _ _) 3 (by decide) wF_X0_27 rfl rfl rfl ?_
  refine sv_iload_n (pc := 72) dX0_init_72 rfl rfl ?_
  refine sw_new (pc := 73) (a := 5) (n1 := 6) (ce1 := 5) (sl1 := 48) (fs := zX7) dX0_init_73 (gCX7 _ _ _ _ _) wC_X0_25 wN_X7 wI_X7 zX7_ok rfl rfl rfl rfl rfl rfl ?_
  refine sv_dup (pc := 76) dX0_init_76 rfl ?_
  refine sv_callI (pc := 77) (M' := mX7_init) (d' := 4) (C' := 2) (S' := 28) (av := []) ?_ (gOk _ _ _ _ _) dX0_init_77 (tX7_init _ _ _ _ _) rfl rfl wV_X7_init wM_X0_32 ⟨le_t rfl, le_t rfl⟩ ⟨le_t rfl, le_t rfl⟩ rfl (le_t rfl) (fun _ _ h => h)
  refine sC.of rfl (by decide) (le_t rfl) ?_
  refine sv_aload_n (pc := 0) dX7_init_0 rfl rfl ?_
  refine sv_objinit (pc := 1) dX7_init_1 wM_X7_3 wV_obj wK_obj ⟨le_t rfl, le_t rfl⟩ (le_t rfl) ?_
  refine sv_aload_n (pc := 4) dX7_init_4 rfl rfl ?_
  refine sv_bipush (pc := 5) (v := 20) dX7_init_5 (by decide) ?_
  refine sw_newarray (pc := 7) (kd := 0) (a := 6) (n1 := 7) (N := 20) (ce1 := 1) (sl1 := 20) (v := .int 0) dX7_init_7 rfl wA_int rfl (fun U => sI_Cond_int U _) (by decide) (by decide) rfl (fun _ => rfl) rfl rfl rfl rfl rfl rfl ?_
  refine sw_putfinal (pc := 9) dX7_init_9 (gCX7 _ _ _ _ _) 0 (by decide) wF_X7_9 rfl rfl rfl rfl rfl (fun _ => rfl) (fun _ => rfl) rfl ?_
  refine sv_aload_n (pc := 12) dX7_init_12 rfl rfl ?_
  refine sv_bipush (pc := 13) (v := 8) dX7_init_13 (by decide) ?_
  refine sw_newarray (pc := 15) (kd := 0) (a := 7) (n1 := 8) (N := 8) (ce1 := 2) (sl1 := 28) (v := .int 0) dX7_init_15 rfl wA_int rfl (fun U => sI_Cond_int U _) (by decide) (by decide) rfl (fun _ => rfl) rfl rfl rfl rfl rfl rfl ?_
  refine sw_putfinal (pc := 17) dX7_init_17 (gCX7 _ _ _ _ _) 1 (by decide) wF_X7_15 rfl rfl rfl rfl rfl (fun _ => rfl) (fun _ => rfl) rfl ?_
  refine sv_aload_n (pc := 20) dX7_init_20 rfl rfl ?_
  refine sv_iconst (pc := 21) (v := (-1)) dX7_init_21 (by decide) ?_
  refine sw_putfield (pc := 22) dX7_init_22 (gCX7 _ _ _ _ _) 9 (by decide) wF_X7_18 rfl rfl rfl (fun _ => rfl) (fun _ => rfl) rfl ?_
  refine sv_vret (pc := 25) dX7_init_25 rfl (le_t rfl) (le_t rfl) ?_
  refine sw_aastore (pc := 80) (k := 0) dX0_init_80 (gCX7 _ _ _ _ _) rfl rfl rfl (by decide) (by decide) rfl rfl rfl ?_
  refine sw_iinc (pc := 81) (v := 1) dX0_init_81 rfl (by decide) (by decide) ?_
  refine sv_goto (pc := 84) (tgt := 47) dX0_init_84 (by decide) ?_
  refine sv_iload_n (pc := 47) dX0_init_47 rfl rfl ?_
  refine sv_bipush (pc := 48) (v := 10) dX0_init_48 (by decide) ?_
  refine sv_icmp_ge (pc := 50) (tgt := 87) dX0_init_50 (by decide) (fun h => absurd h (by decide)) (fun _ => ?_)
  refine sv_aload_n (pc := 53) dX0_init_53 rfl rfl ?_
  refine sw_getfield (pc := 54) dX0_init_54 (gCX0 _ _ _ _ _) 1 (by decide) wF_X0_19 rfl rfl rfl ?_
  refine sv_iload_n (pc := 57) dX0_init_57 rfl rfl ?_
  refine sv_iconst (pc := 58) (v := (-1)) dX0_init_58 (by decide) ?_
  refine sw_iastore (pc := 59) (k := 1) (v := .int (-1)) dX0_init_59 rfl rfl rfl (by decide) (by decide) rfl rfl ?_
  refine sv_aload_n (pc := 60) dX0_init_60 rfl rfl ?_
  refine sw_getfield (pc := 61) dX0_init_61 (gCX0 _ _ _ _ _) 2 (by decide) wF_X0_22 rfl rfl rfl ?_
  refine sv_iload_n (pc := 64) dX0_init_64 rfl rfl ?_
  refine sv_ldc (pc := 65) dX0_init_65 wG_X0_31 ?_
  refine sw_iastore (pc := 67) (k := 1) (v := .int (-99999999)) dX0_init_67 rfl rfl rfl (by decide) (by decide) rfl rfl ?_
  refine sv_aload_n (pc := 68) dX0_init_68 rfl rfl ?_
  refine sw_getfield (pc := 69) dX0_init_69 (gCX0 _ _ _ _ _) 3 (by decide) wF_X0_27 rfl rfl rfl ?_
  refine sv_iload_n (pc := 72) dX0_init_72 rfl rfl ?_
  refine sw_new (pc := 73) (a := 8) (n1 := 9) (ce1 := 8) (sl1 := 88) (fs := zX7) dX0_init_73 (gCX7 _ _ _ _ _) wC_X0_25 wN_X7 wI_X7 zX7_ok rfl rfl rfl rfl rfl rfl ?_
  refine sv_dup (pc := 76) dX0_init_76 rfl ?_
  refine sv_callI (pc := 77) (M' := mX7_init) (d' := 4) (C' := 2) (S' := 28) (av := []) ?_ (gOk _ _ _ _ _) dX0_init_77 (tX7_init _ _ _ _ _) rfl rfl wV_X7_init wM_X0_32 ⟨le_t rfl, le_t rfl⟩ ⟨le_t rfl, le_t rfl⟩ rfl (le_t rfl) (fun _ _ h => h)
  refine sC.of rfl (by decide) (le_t rfl) ?_
  refine sv_aload_n (pc := 0) dX7_init_0 rfl rfl ?_
  refine sv_objinit (pc := 1) dX7_init_1 wM_X7_3 wV_obj wK_obj ⟨le_t rfl, le_t rfl⟩ (le_t rfl) ?_
  refine sv_aload_n (pc := 4) dX7_init_4 rfl rfl ?_
  refine sv_bipush (pc := 5) (v := 20) dX7_init_5 (by decide) ?_
  refine sw_newarray (pc := 7) (kd := 0) (a := 9) (n1 := 10) (N := 20) (ce1 := 1) (sl1 := 20) (v := .int 0) dX7_init_7 rfl wA_int rfl (fun U => sI_Cond_int U _) (by decide) (by decide) rfl (fun _ => rfl) rfl rfl rfl rfl rfl rfl ?_
  refine sw_putfinal (pc := 9) dX7_init_9 (gCX7 _ _ _ _ _) 0 (by decide) wF_X7_9 rfl rfl rfl rfl rfl (fun _ => rfl) (fun _ => rfl) rfl ?_
  refine sv_aload_n (pc := 12) dX7_init_12 rfl rfl ?_
  refine sv_bipush (pc := 13) (v := 8) dX7_init_13 (by decide) ?_
  refine sw_newarray (pc := 15) (kd := 0) (a := 10) (n1 := 11) (N := 8) (ce1 := 2) (sl1 := 28) (v := .int 0) dX7_init_15 rfl wA_int rfl (fun U => sI_Cond_int U _) (by decide) (by decide) rfl (fun _ => rfl) rfl rfl rfl rfl rfl rfl ?_
  refine sw_putfinal (pc := 17) dX7_init_17 (gCX7 _ _ _ _ _) 1 (by decide) wF_X7_15 rfl rfl rfl rfl rfl (fun _ => rfl) (fun _ => rfl) rfl ?_
  refine sv_aload_n (pc := 20) dX7_init_20 rfl rfl ?_
  refine sv_iconst (pc := 21) (v := (-1)) dX7_init_21 (by decide) ?_
  refine sw_putfield (pc := 22) dX7_init_22 (gCX7 _ _ _ _ _) 9 (by decide) wF_X7_18 rfl rfl rfl (fun _ => rfl) (fun _ => rfl) rfl ?_
  refine sv_vret (pc := 25) dX7_init_25 rfl (le_t rfl) (le_t rfl) ?_
  refine sw_aastore (pc := 80) (k := 1) dX0_init_80 (gCX7 _ _ _ _ _) rfl rfl rfl (by decide) (by decide) rfl rfl rfl ?_
  refine sw_iinc (pc := 81) (v := 2) dX0_init_81 rfl (by decide) (by decide) ?_
  refine sv_goto (pc := 84) (tgt := 47) dX0_init_84 (by decide) ?_
  refine sv_iload_n (pc := 47) dX0_init_47 rfl rfl ?_
  refine sv_bipush (pc := 48) (v := 10) dX0_init_48 (by decide) ?_
  refine sv_icmp_ge (pc := 50) (tgt := 87) dX0_init_50 (by decide) (fun h => absurd h (by decide)) (fun _ => ?_)
  refine sv_aload_n (pc := 53) dX0_init_53 rfl rfl ?_
  refine sw_getfield (pc := 54) dX0_init_54 (gCX0 _ _ _ _ _) 1 (by decide) wF_X0_19 rfl rfl rfl ?_
  refine sv_iload_n (pc := 57) dX0_init_57 rfl rfl ?_
  refine sv_iconst (pc := 58) (v := (-1)) dX0_init_58 (by decide) ?_
  refine sw_iastore (pc := 59) (k := 2) (v := .int (-1)) dX0_init_59 rfl rfl rfl (by decide) (by decide) rfl rfl ?_
  refine sv_aload_n (pc := 60) dX0_init_60 rfl rfl ?_
  refine sw_getfield (pc := 61) dX0_init_61 (gCX0 _ _ _ _ _) 2 (by decide) wF_X0_22 rfl rfl rfl ?_
  refine sv_iload_n (pc := 64) dX0_init_64 rfl rfl ?_
  refine sv_ldc (pc := 65) dX0_init_65 wG_X0_31 ?_
  refine sw_iastore (pc := 67) (k := 2) (v := .int (-99999999)) dX0_init_67 rfl rfl rfl (by decide) (by decide) rfl rfl ?_
  refine sv_aload_n (pc := 68) dX0_init_68 rfl rfl ?_
  refine sw_getfield (pc := 69) dX0_init_69 (gCX0 _ _ _ _ _) 3 (by decide) wF_X0_27 rfl rfl rfl ?_
  refine sv_iload_n (pc := 72) dX0_init_72 rfl rfl ?_
  refine sw_new (pc := 73) (a := 11) (n1 := 12) (ce1 := 11) (sl1 := 128) (fs := zX7) dX0_init_73 (gCX7 _ _ _ _ _) wC_X0_25 wN_X7 wI_X7 zX7_ok rfl rfl rfl rfl rfl rfl ?_
  refine sv_dup (pc := 76) dX0_init_76 rfl ?_
  refine sv_callI (pc := 77) (M' := mX7_init) (d' := 4) (C' := 2) (S' := 28) (av := []) ?_ (gOk _ _ _ _ _) dX0_init_77 (tX7_init _ _ _ _ _) rfl rfl wV_X7_init wM_X0_32 ⟨le_t rfl, le_t rfl⟩ ⟨le_t rfl, le_t rfl⟩ rfl (le_t rfl) (fun _ _ h => h)
  refine sC.of rfl (by decide) (le_t rfl) ?_
  refine sv_aload_n (pc := 0) dX7_init_0 rfl rfl ?_
  refine sv_objinit (pc := 1) dX7_init_1 wM_X7_3 wV_obj wK_obj ⟨le_t rfl, le_t rfl⟩ (le_t rfl) ?_
  refine sv_aload_n (pc := 4) dX7_init_4 rfl rfl ?_
  refine sv_bipush (pc := 5) (v := 20) dX7_init_5 (by decide) ?_
  refine sw_newarray (pc := 7) (kd := 0) (a := 12) (n1 := 13) (N := 20) (ce1 := 1) (sl1 := 20) (v := .int 0) dX7_init_7 rfl wA_int rfl (fun U => sI_Cond_int U _) (by decide) (by decide) rfl (fun _ => rfl) rfl rfl rfl rfl rfl rfl ?_
  refine sw_putfinal (pc := 9) dX7_init_9 (gCX7 _ _ _ _ _) 0 (by decide) wF_X7_9 rfl rfl rfl rfl rfl (fun _ => rfl) (fun _ => rfl) rfl ?_
  refine sv_aload_n (pc := 12) dX7_init_12 rfl rfl ?_
  refine sv_bipush (pc := 13) (v := 8) dX7_init_13 (by decide) ?_
  refine sw_newarray (pc := 15) (kd := 0) (a := 13) (n1 := 14) (N := 8) (ce1 := 2) (sl1 := 28) (v := .int 0) dX7_init_15 rfl wA_int rfl (fun U => sI_Cond_int U _) (by decide) (by decide) rfl (fun _ => rfl) rfl rfl rfl rfl rfl rfl ?_
  refine sw_putfinal (pc := 17) dX7_init_17 (gCX7 _ _ _ _ _) 1 (by decide) wF_X7_15 rfl rfl rfl rfl rfl (fun _ => rfl) (fun _ => rfl) rfl ?_
  refine sv_aload_n (pc := 20) dX7_init_20 rfl rfl ?_
  refine sv_iconst (pc := 21) (v := (-1)) dX7_init_21 (by decide) ?_
  refine sw_putfield (pc := 22) dX7_init_22 (gCX7 _ _ _ _ _) 9 (by decide) wF_X7_18 rfl rfl rfl (fun _ => rfl) (fun _ => rfl) rfl ?_
  refine sv_vret (pc := 25) dX7_init_25 rfl (le_t rfl) (le_t rfl) ?_
  refine sw_aastore (pc := 80) (k := 2) dX0_init_80 (gCX7 _ _ _ _ _) rfl rfl rfl (by decide) (by decide) rfl rfl rfl ?_
  refine sw_iinc (pc := 81) (v := 3) dX0_init_81 rfl (by decide) (by decide) ?_
  refine sv_goto (pc := 84) (tgt := 47) dX0_init_84 (by decide) ?_
  refine sv_iload_n (pc := 47) dX0_init_47 rfl rfl ?_
  refine sv_bipush (pc := 48) (v := 10) dX0_init_48 (by decide) ?_
  refine sv_icmp_ge (pc := 50) (tgt := 87) dX0_init_50 (by decide) (fun h => absurd h (by decide)) (fun _ => ?_)
  refine sv_aload_n (pc := 53) dX0_init_53 rfl rfl ?_
  refine sw_getfield (pc := 54) dX0_init_54 (gCX0 _ _ _ _ _) 1 (by decide) wF_X0_19 rfl rfl rfl ?_
  refine sv_iload_n (pc := 57) dX0_init_57 rfl rfl ?_
  refine sv_iconst (pc := 58) (v := (-1)) dX0_init_58 (by decide) ?_
  refine sw_iastore (pc := 59) (k := 3) (v := .int (-1)) dX0_init_59 rfl rfl rfl (by decide) (by decide) rfl rfl ?_
  refine sv_aload_n (pc := 60) dX0_init_60 rfl rfl ?_
  refine sw_getfield (pc := 61) dX0_init_61 (gCX0 _ _ _ _ _) 2 (by decide) wF_X0_22 rfl rfl rfl ?_
  refine sv_iload_n (pc := 64) dX0_init_64 rfl rfl ?_
  refine sv_ldc (pc := 65) dX0_init_65 wG_X0_31 ?_
  refine sw_iastore (pc := 67) (k := 3) (v := .int (-99999999)) dX0_init_67 rfl rfl rfl (by decide) (by decide) rfl rfl ?_
  refine sv_aload_n (pc := 68) dX0_init_68 rfl rfl ?_
  refine sw_getfield (pc := 69) dX0_init_69 (gCX0 _ _ _ _ _) 3 (by decide) wF_X0_27 rfl rfl rfl ?_
  refine sv_iload_n (pc := 72) dX0_init_72 rfl rfl ?_
  refine sw_new (pc := 73) (a := 14) (n1 := 15) (ce1 := 14) (sl1 := 168) (fs := zX7) dX0_init_73 (gCX7 _ _ _ _ _) wC_X0_25 wN_X7 wI_X7 zX7_ok rfl rfl rfl rfl rfl rfl ?_
  refine sv_dup (pc := 76) dX0_init_76 rfl ?_
  refine sv_callI (pc := 77) (M' := mX7_init) (d' := 4) (C' := 2) (S' := 28) (av := []) ?_ (gOk _ _ _ _ _) dX0_init_77 (tX7_init _ _ _ _ _) rfl rfl wV_X7_init wM_X0_32 ⟨le_t rfl, le_t rfl⟩ ⟨le_t rfl, le_t rfl⟩ rfl (le_t rfl) (fun _ _ h => h)
  refine sC.of rfl (by decide) (le_t rfl) ?_
  refine sv_aload_n (pc := 0) dX7_init_0 rfl rfl ?_
  refine sv_objinit (pc := 1) dX7_init_1 wM_X7_3 wV_obj wK_obj ⟨le_t rfl, le_t rfl⟩ (le_t rfl) ?_
  refine sv_aload_n (pc := 4) dX7_init_4 rfl rfl ?_
  refine sv_bipush (pc := 5) (v := 20) dX7_init_5 (by decide) ?_
  refine sw_newarray (pc := 7) (kd := 0) (a := 15) (n1 := 16) (N := 20) (ce1 := 1) (sl1 := 20) (v := .int 0) dX7_init_7 rfl wA_int rfl (fun U => sI_Cond_int U _) (by decide) (by decide) rfl (fun _ => rfl) rfl rfl rfl rfl rfl rfl ?_
  refine sw_putfinal (pc := 9) dX7_init_9 (gCX7 _ _ _ _ _) 0 (by decide) wF_X7_9 rfl rfl rfl rfl rfl (fun _ => rfl) (fun _ => rfl) rfl ?_
  refine sv_aload_n (pc := 12) dX7_init_12 rfl rfl ?_
  refine sv_bipush (pc := 13) (v := 8) dX7_init_13 (by decide) ?_
  refine sw_newarray (pc := 15) (kd := 0) (a := 16) (n1 := 17) (N := 8) (ce1 := 2) (sl1 := 28) (v := .int 0) dX7_init_15 rfl wA_int rfl (fun U => sI_Cond_int U _) (by decide) (by decide) rfl (fun _ => rfl) rfl rfl rfl rfl rfl rfl ?_
  refine sw_putfinal (pc := 17) dX7_init_17 (gCX7 _ _ _ _ _) 1 (by decide) wF_X7_15 rfl rfl rfl rfl rfl (fun _ => rfl) (fun _ => rfl) rfl ?_
  refine sv_aload_n (pc := 20) dX7_init_20 rfl rfl ?_
  refine sv_iconst (pc := 21) (v := (-1)) dX7_init_21 (by decide) ?_
  refine sw_putfield (pc := 22) dX7_init_22 (gCX7 _ _ _ _ _) 9 (by decide) wF_X7_18 rfl rfl rfl (fun _ => rfl) (fun _ => rfl) rfl ?_
  refine sv_vret (pc := 25) dX7_init_25 rfl (le_t rfl) (le_t rfl) ?_
  refine sw_aastore (pc := 80) (k := 3) dX0_init_80 (gCX7 _ _ _ _ _) rfl rfl rfl (by decide) (by decide) rfl rfl rfl ?_
  refine sw_iinc (pc := 81) (v := 4) dX0_init_81 rfl (by decide) (by decide) ?_
  refine sv_goto (pc := 84) (tgt := 47) dX0_init_84 (by decide) ?_
  refine sv_iload_n (pc := 47) dX0_init_47 rfl rfl ?_
  refine sv_bipush (pc := 48) (v := 10) dX0_init_48 (by decide) ?_
  refine sv_icmp_ge (pc := 50) (tgt := 87) dX0_init_50 (by decide) (fun h => absurd h (by decide)) (fun _ => ?_)
  refine sv_aload_n (pc := 53) dX0_init_53 rfl rfl ?_
  refine sw_getfield (pc := 54) dX0_init_54 (gCX0 _ _ _ _ _) 1 (by decide) wF_X0_19 rfl rfl rfl ?_
  refine sv_iload_n (pc := 57) dX0_init_57 rfl rfl ?_
  refine sv_iconst (pc := 58) (v := (-1)) dX0_init_58 (by decide) ?_
  refine sw_iastore (pc := 59) (k := 4) (v := .int (-1)) dX0_init_59 rfl rfl rfl (by decide) (by decide) rfl rfl ?_
  refine sv_aload_n (pc := 60) dX0_init_60 rfl rfl ?_
  refine sw_getfield (pc := 61) dX0_init_61 (gCX0 _ _ _ _ _) 2 (by decide) wF_X0_22 rfl rfl rfl ?_
  refine sv_iload_n (pc := 64) dX0_init_64 rfl rfl ?_
  refine sv_ldc (pc := 65) dX0_init_65 wG_X0_31 ?_
  refine sw_iastore (pc := 67) (k := 4) (v := .int (-99999999)) dX0_init_67 rfl rfl rfl (by decide) (by decide) rfl rfl ?_
  refine sv_aload_n (pc := 68) dX0_init_68 rfl rfl ?_
  refine sw_getfield (pc := 69) dX0_init_69 (gCX0 _ _ _ _ _) 3 (by decide) wF_X0_27 rfl rfl rfl ?_
  refine sv_iload_n (pc := 72) dX0_init_72 rfl rfl ?_
  refine sw_new (pc := 73) (a := 17) (n1 := 18) (ce1 := 17) (sl1 := 208) (fs := zX7) dX0_init_73 (gCX7 _ _ _ _ _) wC_X0_25 wN_X7 wI_X7 zX7_ok rfl rfl rfl rfl rfl rfl ?_
  refine sv_dup (pc := 76) dX0_init_76 rfl ?_
  refine sv_callI (pc := 77) (M' := mX7_init) (d' := 4) (C' := 2) (S' := 28) (av := []) ?_ (gOk _ _ _ _ _) dX0_init_77 (tX7_init _ _ _ _ _) rfl rfl wV_X7_init wM_X0_32 ⟨le_t rfl, le_t rfl⟩ ⟨le_t rfl, le_t rfl⟩ rfl (le_t rfl) (fun _ _ h => h)
  refine sC.of rfl (by decide) (le_t rfl) ?_
  refine sv_aload_n (pc := 0) dX7_init_0 rfl rfl ?_
  refine sv_objinit (pc := 1) dX7_init_1 wM_X7_3 wV_obj wK_obj ⟨le_t rfl, le_t rfl⟩ (le_t rfl) ?_
  refine sv_aload_n (pc := 4) dX7_init_4 rfl rfl ?_
  refine sv_bipush (pc := 5) (v := 20) dX7_init_5 (by decide) ?_
  refine sw_newarray (pc := 7) (kd := 0) (a := 18) (n1 := 19) (N := 20) (ce1 := 1) (sl1 := 20) (v := .int 0) dX7_init_7 rfl wA_int rfl (fun U => sI_Cond_int U _) (by decide) (by decide) rfl (fun _ => rfl) rfl rfl rfl rfl rfl rfl ?_
  refine sw_putfinal (pc := 9) dX7_init_9 (gCX7 _ _ _ _ _) 0 (by decide) wF_X7_9 rfl rfl rfl rfl rfl (fun _ => rfl) (fun _ => rfl) rfl ?_
  refine sv_aload_n (pc := 12) dX7_init_12 rfl rfl ?_
  refine sv_bipush (pc := 13) (v := 8) dX7_init_13 (by decide) ?_
  refine sw_newarray (pc := 15) (kd := 0) (a := 19) (n1 := 20) (N := 8) (ce1 := 2) (sl1 := 28) (v := .int 0) dX7_init_15 rfl wA_int rfl (fun U => sI_Cond_int U _) (by decide) (by decide) rfl (fun _ => rfl) rfl rfl rfl rfl rfl rfl ?_
  refine sw_putfinal (pc := 17) dX7_init_17 (gCX7 _ _ _ _ _) 1 (by decide) wF_X7_15 rfl rfl rfl rfl rfl (fun _ => rfl) (fun _ => rfl) rfl ?_
  refine sv_aload_n (pc := 20) dX7_init_20 rfl rfl ?_
  refine sv_iconst (pc := 21) (v := (-1)) dX7_init_21 (by decide) ?_
  refine sw_putfield (pc := 22) dX7_init_22 (gCX7 _ _ _ _ _) 9 (by decide) wF_X7_18 rfl rfl rfl (fun _ => rfl) (fun _ => rfl) rfl ?_
  refine sv_vret (pc := 25) dX7_init_25 rfl (le_t rfl) (le_t rfl) ?_
  refine sw_aastore (pc := 80) (k := 4) dX0_init_80 (gCX7 _ _ _ _ _) rfl rfl rfl (by decide) (by decide) rfl rfl rfl ?_
  refine sw_iinc (pc := 81) (v := 5) dX0_init_81 rfl (by decide) (by decide) ?_
  refine sv_goto (pc := 84) (tgt := 47) dX0_init_84 (by decide) ?_
  refine sv_iload_n (pc := 47) dX0_init_47 rfl rfl ?_
  refine sv_bipush (pc := 48) (v := 10) dX0_init_48 (by decide) ?_
  refine sv_icmp_ge (pc := 50) (tgt := 87) dX0_init_50 (by decide) (fun h => absurd h (by decide)) (fun _ => ?_)
  refine sv_aload_n (pc := 53) dX0_init_53 rfl rfl ?_
  refine sw_getfield (pc := 54) dX0_init_54 (gCX0 _ _ _ _ _) 1 (by decide) wF_X0_19 rfl rfl rfl ?_
  refine sv_iload_n (pc := 57) dX0_init_57 rfl rfl ?_
  refine sv_iconst (pc := 58) (v := (-1)) dX0_init_58 (by decide) ?_
  refine sw_iastore (pc := 59) (k := 5) (v := .int (-1)) dX0_init_59 rfl rfl rfl (by decide) (by decide) rfl rfl ?_
  refine sv_aload_n (pc := 60) dX0_init_60 rfl rfl ?_
  refine sw_getfield (pc := 61) dX0_init_61 (gCX0 _ _ _ _ _) 2 (by decide) wF_X0_22 rfl rfl rfl ?_
  refine sv_iload_n (pc := 64) dX0_init_64 rfl rfl ?_
  refine sv_ldc (pc := 65) dX0_init_65 wG_X0_31 ?_
  refine sw_iastore (pc := 67) (k := 5) (v := .int (-99999999)) dX0_init_67 rfl rfl rfl (by decide) (by decide) rfl rfl ?_
  refine sv_aload_n (pc := 68) dX0_init_68 rfl rfl ?_
  refine sw_getfield (pc := 69) dX0_init_69 (gCX0 _ _ _ _ _) 3 (by decide) wF_X0_27 rfl rfl rfl ?_
  refine sv_iload_n (pc := 72) dX0_init_72 rfl rfl ?_
  refine sw_new (pc := 73) (a := 20) (n1 := 21) (ce1 := 20) (sl1 := 248) (fs := zX7) dX0_init_73 (gCX7 _ _ _ _ _) wC_X0_25 wN_X7 wI_X7 zX7_ok rfl rfl rfl rfl rfl rfl ?_
  refine sv_dup (pc := 76) dX0_init_76 rfl ?_
  refine sv_callI (pc := 77) (M' := mX7_init) (d' := 4) (C' := 2) (S' := 28) (av := []) ?_ (gOk _ _ _ _ _) dX0_init_77 (tX7_init _ _ _ _ _) rfl rfl wV_X7_init wM_X0_32 ⟨le_t rfl, le_t rfl⟩ ⟨le_t rfl, le_t rfl⟩ rfl (le_t rfl) (fun _ _ h => h)
  refine sC.of rfl (by decide) (le_t rfl) ?_
  refine sv_aload_n (pc := 0) dX7_init_0 rfl rfl ?_
  refine sv_objinit (pc := 1) dX7_init_1 wM_X7_3 wV_obj wK_obj ⟨le_t rfl, le_t rfl⟩ (le_t rfl) ?_
  refine sv_aload_n (pc := 4) dX7_init_4 rfl rfl ?_
  refine sv_bipush (pc := 5) (v := 20) dX7_init_5 (by decide) ?_
  refine sw_newarray (pc := 7) (kd := 0) (a := 21) (n1 := 22) (N := 20) (ce1 := 1) (sl1 := 20) (v := .int 0) dX7_init_7 rfl wA_int rfl (fun U => sI_Cond_int U _) (by decide) (by decide) rfl (fun _ => rfl) rfl rfl rfl rfl rfl rfl ?_
  refine sw_putfinal (pc := 9) dX7_init_9 (gCX7 _ _ _ _ _) 0 (by decide) wF_X7_9 rfl rfl rfl rfl rfl (fun _ => rfl) (fun _ => rfl) rfl ?_
  refine sv_aload_n (pc := 12) dX7_init_12 rfl rfl ?_
  refine sv_bipush (pc := 13) (v := 8) dX7_init_13 (by decide) ?_
  refine sw_newarray (pc := 15) (kd := 0) (a := 22) (n1 := 23) (N := 8) (ce1 := 2) (sl1 := 28) (v := .int 0) dX7_init_15 rfl wA_int rfl (fun U => sI_Cond_int U _) (by decide) (by decide) rfl (fun _ => rfl) rfl rfl rfl rfl rfl rfl ?_
  refine sw_putfinal (pc := 17) dX7_init_17 (gCX7 _ _ _ _ _) 1 (by decide) wF_X7_15 rfl rfl rfl rfl rfl (fun _ => rfl) (fun _ => rfl) rfl ?_
  refine sv_aload_n (pc := 20) dX7_init_20 rfl rfl ?_
  refine sv_iconst (pc := 21) (v := (-1)) dX7_init_21 (by decide) ?_
  refine sw_putfield (pc := 22) dX7_init_22 (gCX7 _ _ _ _ _) 9 (by decide) wF_X7_18 rfl rfl rfl (fun _ => rfl) (fun _ => rfl) rfl ?_
  refine sv_vret (pc := 25) dX7_init_25 rfl (le_t rfl) (le_t rfl) ?_
  refine sw_aastore (pc := 80) (k := 5) dX0_init_80 (gCX7 _ _ _ _ _) rfl rfl rfl (by decide) (by decide) rfl rfl rfl ?_
  refine sw_iinc (pc := 81) (v := 6) dX0_init_81 rfl (by decide) (by decide) ?_
  refine sv_goto (pc := 84) (tgt := 47) dX0_init_84 (by decide) ?_
  refine sv_iload_n (pc := 47) dX0_init_47 rfl rfl ?_
  refine sv_bipush (pc := 48) (v := 10) dX0_init_48 (by decide) ?_
  refine sv_icmp_ge (pc := 50) (tgt := 87) dX0_init_50 (by decide) (fun h => absurd h (by decide)) (fun _ => ?_)
  refine sv_aload_n (pc := 53) dX0_init_53 rfl rfl ?_
  refine sw_getfield (pc := 54) dX0_init_54 (gCX0 _ _ _ _ _) 1 (by decide) wF_X0_19 rfl rfl rfl ?_
  refine sv_iload_n (pc := 57) dX0_init_57 rfl rfl ?_
  refine sv_iconst (pc := 58) (v := (-1)) dX0_init_58 (by decide) ?_
  refine sw_iastore (pc := 59) (k := 6) (v := .int (-1)) dX0_init_59 rfl rfl rfl (by decide) (by decide) rfl rfl ?_
  refine sv_aload_n (pc := 60) dX0_init_60 rfl rfl ?_
  refine sw_getfield (pc := 61) dX0_init_61 (gCX0 _ _ _ _ _) 2 (by decide) wF_X0_22 rfl rfl rfl ?_
  refine sv_iload_n (pc := 64) dX0_init_64 rfl rfl ?_
  refine sv_ldc (pc := 65) dX0_init_65 wG_X0_31 ?_
  refine sw_iastore (pc := 67) (k := 6) (v := .int (-99999999)) dX0_init_67 rfl rfl rfl (by decide) (by decide) rfl rfl ?_
  refine sv_aload_n (pc := 68) dX0_init_68 rfl rfl ?_
  refine sw_getfield (pc := 69) dX0_init_69 (gCX0 _ _ _ _ _) 3 (by decide) wF_X0_27 rfl rfl rfl ?_
  refine sv_iload_n (pc := 72) dX0_init_72 rfl rfl ?_
  refine sw_new (pc := 73) (a := 23) (n1 := 24) (ce1 := 23) (sl1 := 288) (fs := zX7) dX0_init_73 (gCX7 _ _ _ _ _) wC_X0_25 wN_X7 wI_X7 zX7_ok rfl rfl rfl rfl rfl rfl ?_
  refine sv_dup (pc := 76) dX0_init_76 rfl ?_
  refine sv_callI (pc := 77) (M' := mX7_init) (d' := 4) (C' := 2) (S' := 28) (av := []) ?_ (gOk _ _ _ _ _) dX0_init_77 (tX7_init _ _ _ _ _) rfl rfl wV_X7_init wM_X0_32 ⟨le_t rfl, le_t rfl⟩ ⟨le_t rfl, le_t rfl⟩ rfl (le_t rfl) (fun _ _ h => h)
  refine sC.of rfl (by decide) (le_t rfl) ?_
  refine sv_aload_n (pc := 0) dX7_init_0 rfl rfl ?_
  refine sv_objinit (pc := 1) dX7_init_1 wM_X7_3 wV_obj wK_obj ⟨le_t rfl, le_t rfl⟩ (le_t rfl) ?_
  refine sv_aload_n (pc := 4) dX7_init_4 rfl rfl ?_
  refine sv_bipush (pc := 5) (v := 20) dX7_init_5 (by decide) ?_
  refine sw_newarray (pc := 7) (kd := 0) (a := 24) (n1 := 25) (N := 20) (ce1 := 1) (sl1 := 20) (v := .int 0) dX7_init_7 rfl wA_int rfl (fun U => sI_Cond_int U _) (by decide) (by decide) rfl (fun _ => rfl) rfl rfl rfl rfl rfl rfl ?_
  refine sw_putfinal (pc := 9) dX7_init_9 (gCX7 _ _ _ _ _) 0 (by decide) wF_X7_9 rfl rfl rfl rfl rfl (fun _ => rfl) (fun _ => rfl) rfl ?_
  refine sv_aload_n (pc := 12) dX7_init_12 rfl rfl ?_
  refine sv_bipush (pc := 13) (v := 8) dX7_init_13 (by decide) ?_
  refine sw_newarray (pc := 15) (kd := 0) (a := 25) (n1 := 26) (N := 8) (ce1 := 2) (sl1 := 28) (v := .int 0) dX7_init_15 rfl wA_int rfl (fun U => sI_Cond_int U _) (by decide) (by decide) rfl (fun _ => rfl) rfl rfl rfl rfl rfl rfl ?_
  refine sw_putfinal (pc := 17) dX7_init_17 (gCX7 _ _ _ _ _) 1 (by decide) wF_X7_15 rfl rfl rfl rfl rfl (fun _ => rfl) (fun _ => rfl) rfl ?_
  refine sv_aload_n (pc := 20) dX7_init_20 rfl rfl ?_
  refine sv_iconst (pc := 21) (v := (-1)) dX7_init_21 (by decide) ?_
  refine sw_putfield (pc := 22) dX7_init_22 (gCX7 _ _ _ _ _) 9 (by decide) wF_X7_18 rfl rfl rfl (fun _ => rfl) (fun _ => rfl) rfl ?_
  refine sv_vret (pc := 25) dX7_init_25 rfl (le_t rfl) (le_t rfl) ?_
  refine sw_aastore (pc := 80) (k := 6) dX0_init_80 (gCX7 _ _ _ _ _) rfl rfl rfl (by decide) (by decide) rfl rfl rfl ?_
  refine sw_iinc (pc := 81) (v := 7) dX0_init_81 rfl (by decide) (by decide) ?_
  refine sv_lvG (pc := 84) (lv' := [(0, .ref 0), (1, .int 7)]) (List.forall_mem_cons.mpr ⟨rfl, List.forall_mem_cons.mpr ⟨rfl, fun _ h => absurd h List.not_mem_nil⟩⟩) ?_
  refine sv_goto (pc := 84) (tgt := 47) dX0_init_84 (by decide) ?_
  refine sv_iload_n (pc := 47) dX0_init_47 rfl rfl ?_
  refine sv_bipush (pc := 48) (v := 10) dX0_init_48 (by decide) ?_
  refine sv_icmp_ge (pc := 50) (tgt := 87) dX0_init_50 (by decide) (fun h => absurd h (by decide)) (fun _ => ?_)
  refine sv_aload_n (pc := 53) dX0_init_53 rfl rfl ?_
  refine sw_getfield (pc := 54) dX0_init_54 (gCX0 _ _ _ _ _) 1 (by decide) wF_X0_19 rfl rfl rfl ?_
  refine sv_iload_n (pc := 57) dX0_init_57 rfl rfl ?_
  refine sv_iconst (pc := 58) (v := (-1)) dX0_init_58 (by decide) ?_
  refine sw_iastore (pc := 59) (k := 7) (v := .int (-1)) dX0_init_59 rfl rfl rfl (by decide) (by decide) rfl rfl ?_
  refine sv_aload_n (pc := 60) dX0_init_60 rfl rfl ?_
  refine sw_getfield (pc := 61) dX0_init_61 (gCX0 _ _ _ _ _) 2 (by decide) wF_X0_22 rfl rfl rfl ?_
  refine sv_iload_n (pc := 64) dX0_init_64 rfl rfl ?_
  refine sv_ldc (pc := 65) dX0_init_65 wG_X0_31 ?_
  refine sw_iastore (pc := 67) (k := 7) (v := .int (-99999999)) dX0_init_67 rfl rfl rfl (by decide) (by decide) rfl rfl ?_
  refine sv_aload_n (pc := 68) dX0_init_68 rfl rfl ?_
  refine sw_getfield (pc := 69) dX0_init_69 (gCX0 _ _ _ _ _) 3 (by decide) wF_X0_27 rfl rfl rfl ?_
  refine sv_iload_n (pc := 72) dX0_init_72 rfl rfl ?_
  refine sw_new (pc := 73) (a := 26) (n1 := 27) (ce1 := 26) (sl1 := 328) (fs := zX7) dX0_init_73 (gCX7 _ _ _ _ _) wC_X0_25 wN_X7 wI_X7 zX7_ok rfl rfl rfl rfl rfl rfl ?_
  refine sv_dup (pc := 76) dX0_init_76 rfl ?_
  refine sv_callI (pc := 77) (M' := mX7_init) (d' := 4) (C' := 2) (S' := 28) (av := []) ?_ (gOk _ _ _ _ _) dX0_init_77 (tX7_init _ _ _ _ _) rfl rfl wV_X7_init wM_X0_32 ⟨le_t rfl, le_t rfl⟩ ⟨le_t rfl, le_t rfl⟩ rfl (le_t rfl) (fun _ _ h => h)
  refine sC.of rfl (by decide) (le_t rfl) ?_
  refine sv_aload_n (pc := 0) dX7_init_0 rfl rfl ?_
  refine sv_objinit (pc := 1) dX7_init_1 wM_X7_3 wV_obj wK_obj ⟨le_t rfl, le_t rfl⟩ (le_t rfl) ?_
  refine sv_aload_n (pc := 4) dX7_init_4 rfl rfl ?_
  refine sv_bipush (pc := 5) (v := 20) dX7_init_5 (by decide) ?_
  refine sw_newarray (pc := 7) (kd := 0) (a := 27) (n1 := 28) (N := 20) (ce1 := 1) (sl1 := 20) (v := .int 0) dX7_init_7 rfl wA_int rfl (fun U => sI_Cond_int U _) (by decide) (by decide) rfl (fun _ => rfl) rfl rfl rfl rfl rfl rfl ?_
  refine sw_putfinal (pc := 9) dX7_init_9 (gCX7 _ _ _ _ _) 0 (by decide) wF_X7_9 rfl rfl rfl rfl rfl (fun _ => rfl) (fun _ => rfl) rfl ?_
  refine sv_aload_n (pc := 12) dX7_init_12 rfl rfl ?_
  refine sv_bipush (pc := 13) (v := 8) dX7_init_13 (by decide) ?_
  refine sw_newarray (pc := 15) (kd := 0) (a := 28) (n1 := 29) (N := 8) (ce1 := 2) (sl1 := 28) (v := .int 0) dX7_init_15 rfl wA_int rfl (fun U => sI_Cond_int U _) (by decide) (by decide) rfl (fun _ => rfl) rfl rfl rfl rfl rfl rfl ?_
  refine sw_putfinal (pc := 17) dX7_init_17 (gCX7 _ _ _ _ _) 1 (by decide) wF_X7_15 rfl rfl rfl rfl rfl (fun _ => rfl) (fun _ => rfl) rfl ?_
  refine sv_aload_n (pc := 20) dX7_init_20 rfl rfl ?_
  refine sv_iconst (pc := 21) (v := (-1)) dX7_init_21 (by decide) ?_
  refine sw_putfield (pc := 22) dX7_init_22 (gCX7 _ _ _ _ _) 9 (by decide) wF_X7_18 rfl rfl rfl (fun _ => rfl) (fun _ => rfl) rfl ?_
  refine sv_vret (pc := 25) dX7_init_25 rfl (le_t rfl) (le_t rfl) ?_
  refine sw_aastore (pc := 80) (k := 7) dX0_init_80 (gCX7 _ _ _ _ _) rfl rfl rfl (by decide) (by decide) rfl rfl rfl ?_
  refine sw_iinc (pc := 81) (v := 8) dX0_init_81 rfl (by decide) (by decide) ?_
  refine sv_goto (pc := 84) (tgt := 47) dX0_init_84 (by decide) ?_
  refine sv_iload_n (pc := 47) dX0_init_47 rfl rfl ?_
  refine sv_bipush (pc := 48) (v := 10) dX0_init_48 (by decide) ?_
  refine sv_icmp_ge (pc := 50) (tgt := 87) dX0_init_50 (by decide) (fun h => absurd h (by decide)) (fun _ => ?_)
  refine sv_aload_n (pc := 53) dX0_init_53 rfl rfl ?_
  refine sw_getfield (pc := 54) dX0_init_54 (gCX0 _ _ _ _ _) 1 (by decide) wF_X0_19 rfl rfl rfl ?_
  refine sv_iload_n (pc := 57) dX0_init_57 rfl rfl ?_
  refine sv_iconst (pc := 58) (v := (-1)) dX0_init_58 (by decide) ?_
  refine sw_iastore (pc := 59) (k := 8) (v := .int (-1)) dX0_init_59 rfl rfl rfl (by decide) (by decide) rfl rfl ?_
  refine sv_aload_n (pc := 60) dX0_init_60 rfl rfl ?_
  refine sw_getfield (pc := 61) dX0_init_61 (gCX0 _ _ _ _ _) 2 (by decide) wF_X0_22 rfl rfl rfl ?_
  refine sv_iload_n (pc := 64) dX0_init_64 rfl rfl ?_
  refine sv_ldc (pc := 65) dX0_init_65 wG_X0_31 ?_
  refine sw_iastore (pc := 67) (k := 8) (v := .int (-99999999)) dX0_init_67 rfl rfl rfl (by decide) (by decide) rfl rfl ?_
  refine sv_aload_n (pc := 68) dX0_init_68 rfl rfl ?_
  refine sw_getfield (pc := 69) dX0_init_69 (gCX0 _ _ _ _ _) 3 (by decide) wF_X0_27 rfl rfl rfl ?_
  refine sv_iload_n (pc := 72) dX0_init_72 rfl rfl ?_
  refine sw_new (pc := 73) (a := 29) (n1 := 30) (ce1 := 29) (sl1 := 368) (fs := zX7) dX0_init_73 (gCX7 _ _ _ _ _) wC_X0_25 wN_X7 wI_X7 zX7_ok rfl rfl rfl rfl rfl rfl ?_
  refine sv_dup (pc := 76) dX0_init_76 rfl ?_
  refine sv_callI (pc := 77) (M' := mX7_init) (d' := 4) (C' := 2) (S' := 28) (av := []) ?_ (gOk _ _ _ _ _) dX0_init_77 (tX7_init _ _ _ _ _) rfl rfl wV_X7_init wM_X0_32 ⟨le_t rfl, le_t rfl⟩ ⟨le_t rfl, le_t rfl⟩ rfl (le_t rfl) (fun _ _ h => h)
  refine sC.of rfl (by decide) (le_t rfl) ?_
  refine sv_aload_n (pc := 0) dX7_init_0 rfl rfl ?_
  refine sv_objinit (pc := 1) dX7_init_1 wM_X7_3 wV_obj wK_obj ⟨le_t rfl, le_t rfl⟩ (le_t rfl) ?_
  refine sv_aload_n (pc := 4) dX7_init_4 rfl rfl ?_
  refine sv_bipush (pc := 5) (v := 20) dX7_init_5 (by decide) ?_
  refine sw_newarray (pc := 7) (kd := 0) (a := 30) (n1 := 31) (N := 20) (ce1 := 1) (sl1 := 20) (v := .int 0) dX7_init_7 rfl wA_int rfl (fun U => sI_Cond_int U _) (by decide) (by decide) rfl (fun _ => rfl) rfl rfl rfl rfl rfl rfl ?_
  refine sw_putfinal (pc := 9) dX7_init_9 (gCX7 _ _ _ _ _) 0 (by decide) wF_X7_9 rfl rfl rfl rfl rfl (fun _ => rfl) (fun _ => rfl) rfl ?_
  refine sv_aload_n (pc := 12) dX7_init_12 rfl rfl ?_
  refine sv_bipush (pc := 13) (v := 8) dX7_init_13 (by decide) ?_
  refine sw_newarray (pc := 15) (kd := 0) (a := 31) (n1 := 32) (N := 8) (ce1 := 2) (sl1 := 28) (v := .int 0) dX7_init_15 rfl wA_int rfl (fun U => sI_Cond_int U _) (by decide) (by decide) rfl (fun _ => rfl) rfl rfl rfl rfl rfl rfl ?_
  refine sw_putfinal (pc := 17) dX7_init_17 (gCX7 _ _ _ _ _) 1 (by decide) wF_X7_15 rfl rfl rfl rfl rfl (fun _ => rfl) (fun _ => rfl) rfl ?_
  refine sv_aload_n (pc := 20) dX7_init_20 rfl rfl ?_
  refine sv_iconst (pc := 21) (v := (-1)) dX7_init_21 (by decide) ?_
  refine sw_putfield (pc := 22) dX7_init_22 (gCX7 _ _ _ _ _) 9 (by decide) wF_X7_18 rfl rfl rfl (fun _ => rfl) (fun _ => rfl) rfl ?_
  refine sv_vret (pc := 25) dX7_init_25 rfl (le_t rfl) (le_t rfl) ?_
  refine sw_aastore (pc := 80) (k := 8) dX0_init_80 (gCX7 _ _ _ _ _) rfl rfl rfl (by decide) (by decide) rfl rfl rfl ?_
  refine sw_iinc (pc := 81) (v := 9) dX0_init_81 rfl (by decide) (by decide) ?_
  refine sv_goto (pc := 84) (tgt := 47) dX0_init_84 (by decide) ?_
  refine sv_iload_n (pc := 47) dX0_init_47 rfl rfl ?_
  refine sv_bipush (pc := 48) (v := 10) dX0_init_48 (by decide) ?_
  refine sv_icmp_ge (pc := 50) (tgt := 87) dX0_init_50 (by decide) (fun h => absurd h (by decide)) (fun _ => ?_)
  refine sv_aload_n (pc := 53) dX0_init_53 rfl rfl ?_
  refine sw_getfield (pc := 54) dX0_init_54 (gCX0 _ _ _ _ _) 1 (by decide) wF_X0_19 rfl rfl rfl ?_
  refine sv_iload_n (pc := 57) dX0_init_57 rfl rfl ?_
  refine sv_iconst (pc := 58) (v := (-1)) dX0_init_58 (by decide) ?_
  refine sw_iastore (pc := 59) (k := 9) (v := .int (-1)) dX0_init_59 rfl rfl rfl (by decide) (by decide) rfl rfl ?_
  refine sv_aload_n (pc := 60) dX0_init_60 rfl rfl ?_
  refine sw_getfield (pc := 61) dX0_init_61 (gCX0 _ _ _ _ _) 2 (by decide) wF_X0_22 rfl rfl rfl ?_
  refine sv_iload_n (pc := 64) dX0_init_64 rfl rfl ?_
  refine sv_ldc (pc := 65) dX0_init_65 wG_X0_31 ?_
  refine sw_iastore (pc := 67) (k := 9) (v := .int (-99999999)) dX0_init_67 rfl rfl rfl (by decide) (by decide) rfl rfl ?_
  refine sv_aload_n (pc := 68) dX0_init_68 rfl rfl ?_
  refine sw_getfield (pc := 69) dX0_init_69 (gCX0 _ _ _ _ _) 3 (by decide) wF_X0_27 rfl rfl rfl ?_
  refine sv_iload_n (pc := 72) dX0_init_72 rfl rfl ?_
  refine sw_new (pc := 73) (a := 32) (n1 := 33) (ce1 := 32) (sl1 := 408) (fs := zX7) dX0_init_73 (gCX7 _ _ _ _ _) wC_X0_25 wN_X7 wI_X7 zX7_ok rfl rfl rfl rfl rfl rfl ?_
  refine sv_dup (pc := 76) dX0_init_76 rfl ?_
  refine sv_callI (pc := 77) (M' := mX7_init) (d' := 4) (C' := 2) (S' := 28) (av := []) ?_ (gOk _ _ _ _ _) dX0_init_77 (tX7_init _ _ _ _ _) rfl rfl wV_X7_init wM_X0_32 ⟨le_t rfl, le_t rfl⟩ ⟨le_t rfl, le_t rfl⟩ rfl (le_t rfl) (fun _ _ h => h)
  refine sC.of rfl (by decide) (le_t rfl) ?_
  refine sv_aload_n (pc := 0) dX7_init_0 rfl rfl ?_
  refine sv_objinit (pc := 1) dX7_init_1 wM_X7_3 wV_obj wK_obj ⟨le_t rfl, le_t rfl⟩ (le_t rfl) ?_
  refine sv_aload_n (pc := 4) dX7_init_4 rfl rfl ?_
  refine sv_bipush (pc := 5) (v := 20) dX7_init_5 (by decide) ?_
  refine sw_newarray (pc := 7) (kd := 0) (a := 33) (n1 := 34) (N := 20) (ce1 := 1) (sl1 := 20) (v := .int 0) dX7_init_7 rfl wA_int rfl (fun U => sI_Cond_int U _) (by decide) (by decide) rfl (fun _ => rfl) rfl rfl rfl rfl rfl rfl ?_
  refine sw_putfinal (pc := 9) dX7_init_9 (gCX7 _ _ _ _ _) 0 (by decide) wF_X7_9 rfl rfl rfl rfl rfl (fun _ => rfl) (fun _ => rfl) rfl ?_
  refine sv_aload_n (pc := 12) dX7_init_12 rfl rfl ?_
  refine sv_bipush (pc := 13) (v := 8) dX7_init_13 (by decide) ?_
  refine sw_newarray (pc := 15) (kd := 0) (a := 34) (n1 := 35) (N := 8) (ce1 := 2) (sl1 := 28) (v := .int 0) dX7_init_15 rfl wA_int rfl (fun U => sI_Cond_int U _) (by decide) (by decide) rfl (fun _ => rfl) rfl rfl rfl rfl rfl rfl ?_
  refine sw_putfinal (pc := 17) dX7_init_17 (gCX7 _ _ _ _ _) 1 (by decide) wF_X7_15 rfl rfl rfl rfl rfl (fun _ => rfl) (fun _ => rfl) rfl ?_
  refine sv_aload_n (pc := 20) dX7_init_20 rfl rfl ?_
  refine sv_iconst (pc := 21) (v := (-1)) dX7_init_21 (by decide) ?_
  refine sw_putfield (pc := 22) dX7_init_22 (gCX7 _ _ _ _ _) 9 (by decide) wF_X7_18 rfl rfl rfl (fun _ => rfl) (fun _ => rfl) rfl ?_
  refine sv_vret (pc := 25) dX7_init_25 rfl (le_t rfl) (le_t rfl) ?_
  refine sw_aastore (pc := 80) (k := 9) dX0_init_80 (gCX7 _ _ _ _ _) rfl rfl rfl (by decide) (by decide) rfl rfl rfl ?_
  refine sw_iinc (pc := 81) (v := 10) dX0_init_81 rfl (by decide) (by decide) ?_
  refine sv_goto (pc := 84) (tgt := 47) dX0_init_84 (by decide) ?_
  refine sv_iload_n (pc := 47) dX0_init_47 rfl rfl ?_
  refine sv_bipush (pc := 48) (v := 10) dX0_init_48 (by decide) ?_
  refine sv_icmp_ge (pc := 50) (tgt := 87) dX0_init_50 (by decide) (fun _ => ?_) (fun h => absurd (by decide) h)
  refine sv_vret dX0_init_87 rfl (le_t rfl) (le_t rfl) ⟨rfl, rfl, fun j hj => ?_⟩
  match j, hj with
  | 0, _ => exact rfl
  | 1, _ => exact rfl
  | 2, _ => exact rfl
  | 3, _ => exact rfl
  | 4, _ => exact rfl
  | 5, _ => exact rfl
  | 6, _ => exact rfl
  | 7, _ => exact rfl
  | 8, _ => exact rfl
  | 9, _ => exact rfl
  | 10, _ => exact rfl
  | 11, _ => exact rfl
  | 12, _ => exact rfl
  | 13, _ => exact rfl
  | 14, _ => exact rfl
  | 15, _ => exact rfl
  | 16, _ => exact rfl
  | 17, _ => exact rfl
  | 18, _ => exact rfl
  | 19, _ => exact rfl
  | 20, _ => exact rfl
  | 21, _ => exact rfl
  | 22, _ => exact rfl
  | 23, _ => exact rfl
  | 24, _ => exact rfl
  | 25, _ => exact rfl
  | 26, _ => exact rfl
  | 27, _ => exact rfl
  | 28, _ => exact rfl
  | 29, _ => exact rfl
  | 30, _ => exact rfl
  | 31, _ => exact rfl
  | 32, _ => exact rfl
  | 33, _ => exact rfl
  | 34, _ => exact rfl
  | n + 35, h => exact absurd h (by omega)
/-- the cells of a new object -/
def tX9N (xa xb xk : Int32) : Nat → sE := fun j => match j with
  | 0 => .inr (9, [.int xa, .int xb, .int xk, .ref 1, .ref 2, .ref 3, .int 1, .int 1, .int 0])
  | 1 => .inl (0, 4, updV (updV (updV (updV (fun _ => .int 0) 0 (.int (-99999999))) 1 (.int (-99999999))) 2 (.int (-99999999))) 3 (.int (-99999999)))
  | 2 => .inl (4, 20, updV (updV (updV (updV (updV (updV (updV (updV (updV (updV (updV (updV (updV (updV (updV (updV (updV (updV (updV (updV (fun _ => .null) 0 (.ref 4)) 1 (.ref 10)) 2 (.ref 16)) 3 (.ref 22)) 4 (.ref 28)) 5 (.ref 34)) 6 (.ref 40)) 7 (.ref 46)) 8 (.ref 52)) 9 (.ref 58)) 10 (.ref 64)) 11 (.ref 70)) 12 (.ref 76)) 13 (.ref 82)) 14 (.ref 88)) 15 (.ref 94)) 16 (.ref 100)) 17 (.ref 106)) 18 (.ref 112)) 19 (.ref 118))
  | 3 => .inl (4, 20, updV (updV (updV (updV (updV (updV (updV (updV (updV (updV (updV (updV (updV (updV (updV (updV (updV (updV (updV (updV (fun _ => .null) 0 (.ref 7)) 1 (.ref 13)) 2 (.ref 19)) 3 (.ref 25)) 4 (.ref 31)) 5 (.ref 37)) 6 (.ref 43)) 7 (.ref 49)) 8 (.ref 55)) 9 (.ref 61)) 10 (.ref 67)) 11 (.ref 73)) 12 (.ref 79)) 13 (.ref 85)) 14 (.ref 91)) 15 (.ref 97)) 16 (.ref 103)) 17 (.ref 109)) 18 (.ref 115)) 19 (.ref 121))
  | 4 => .inr (7, [.ref 5, .ref 6, .int 0, .int 0, .int 0, .int 0, .int 0, .int 0, .int 0, .int (-1), .int 0, .int 0])
  | 5 => .inl (0, 20, fun _ => .int 0)
  | 6 => .inl (0, 8, fun _ => .int 0)
  | 7 => .inr (7, [.ref 8, .ref 9, .int 0, .int 0, .int 0, .int 0, .int 0, .int 0, .int 0, .int (-1), .int 0, .int 0])
  | 8 => .inl (0, 20, fun _ => .int 0)
  | 9 => .inl (0, 8, fun _ => .int 0)
  | 10 => .inr (7, [.ref 11, .ref 12, .int 0, .int 0, .int 0, .int 0, .int 0, .int 0, .int 0, .int (-1), .int 0, .int 0])
  | 11 => .inl (0, 20, fun _ => .int 0)
  | 12 => .inl (0, 8, fun _ => .int 0)
  | 13 => .inr (7, [.ref 14, .ref 15, .int 0, .int 0, .int 0, .int 0, .int 0, .int 0, .int 0, .int (-1), .int 0, .int 0])
  | 14 => .inl (0, 20, fun _ => .int 0)
  | 15 => .inl (0, 8, fun _ => .int 0)
  | 16 => .inr (7, [.ref 17, .ref 18, .int 0, .int 0, .int 0, .int 0, .int 0, .int 0, .int 0, .int (-1), .int 0, .int 0])
  | 17 => .inl (0, 20, fun _ => .int 0)
  | 18 => .inl (0, 8, fun _ => .int 0)
  | 19 => .inr (7, [.ref 20, .ref 21, .int 0, .int 0, .int 0, .int 0, .int 0, .int 0, .int 0, .int (-1), .int 0, .int 0])
  | 20 => .inl (0, 20, fun _ => .int 0)
  | 21 => .inl (0, 8, fun _ => .int 0)
  | 22 => .inr (7, [.ref 23, .ref 24, .int 0, .int 0, .int 0, .int 0, .int 0, .int 0, .int 0, .int (-1), .int 0, .int 0])
  | 23 => .inl (0, 20, fun _ => .int 0)
  | 24 => .inl (0, 8, fun _ => .int 0)
  | 25 => .inr (7, [.ref 26, .ref 27, .int 0, .int 0, .int 0, .int 0, .int 0, .int 0, .int 0, .int (-1), .int 0, .int 0])
  | 26 => .inl (0, 20, fun _ => .int 0)
  | 27 => .inl (0, 8, fun _ => .int 0)
  | 28 => .inr (7, [.ref 29, .ref 30, .int 0, .int 0, .int 0, .int 0, .int 0, .int 0, .int 0, .int (-1), .int 0, .int 0])
  | 29 => .inl (0, 20, fun _ => .int 0)
  | 30 => .inl (0, 8, fun _ => .int 0)
  | 31 => .inr (7, [.ref 32, .ref 33, .int 0, .int 0, .int 0, .int 0, .int 0, .int 0, .int 0, .int (-1), .int 0, .int 0])
  | 32 => .inl (0, 20, fun _ => .int 0)
  | 33 => .inl (0, 8, fun _ => .int 0)
  | 34 => .inr (7, [.ref 35, .ref 36, .int 0, .int 0, .int 0, .int 0, .int 0, .int 0, .int 0, .int (-1), .int 0, .int 0])
  | 35 => .inl (0, 20, fun _ => .int 0)
  | 36 => .inl (0, 8, fun _ => .int 0)
  | 37 => .inr (7, [.ref 38, .ref 39, .int 0, .int 0, .int 0, .int 0, .int 0, .int 0, .int 0, .int (-1), .int 0, .int 0])
  | 38 => .inl (0, 20, fun _ => .int 0)
  | 39 => .inl (0, 8, fun _ => .int 0)
  | 40 => .inr (7, [.ref 41, .ref 42, .int 0, .int 0, .int 0, .int 0, .int 0, .int 0, .int 0, .int (-1), .int 0, .int 0])
  | 41 => .inl (0, 20, fun _ => .int 0)
  | 42 => .inl (0, 8, fun _ => .int 0)
  | 43 => .inr (7, [.ref 44, .ref 45, .int 0, .int 0, .int 0, .int 0, .int 0, .int 0, .int 0, .int (-1), .int 0, .int 0])
  | 44 => .inl (0, 20, fun _ => .int 0)
  | 45 => .inl (0, 8, fun _ => .int 0)
  | 46 => .inr (7, [.ref 47, .ref 48, .int 0, .int 0, .int 0, .int 0, .int 0, .int 0, .int 0, .int (-1), .int 0, .int 0])
  | 47 => .inl (0, 20, fun _ => .int 0)
  | 48 => .inl (0, 8, fun _ => .int 0)
  | 49 => .inr (7, [.ref 50, .ref 51, .int 0, .int 0, .int 0, .int 0, .int 0, .int 0, .int 0, .int (-1), .int 0, .int 0])
  | 50 => .inl (0, 20, fun _ => .int 0)
  | 51 => .inl (0, 8, fun _ => .int 0)
  | 52 => .inr (7, [.ref 53, .ref 54, .int 0, .int 0, .int 0, .int 0, .int 0, .int 0, .int 0, .int (-1), .int 0, .int 0])
  | 53 => .inl (0, 20, fun _ => .int 0)
  | 54 => .inl (0, 8, fun _ => .int 0)
  | 55 => .inr (7, [.ref 56, .ref 57, .int 0, .int 0, .int 0, .int 0, .int 0, .int 0, .int 0, .int (-1), .int 0, .int 0])
  | 56 => .inl (0, 20, fun _ => .int 0)
  | 57 => .inl (0, 8, fun _ => .int 0)
  | 58 => .inr (7, [.ref 59, .ref 60, .int 0, .int 0, .int 0, .int 0, .int 0, .int 0, .int 0, .int (-1), .int 0, .int 0])
  | 59 => .inl (0, 20, fun _ => .int 0)
  | 60 => .inl (0, 8, fun _ => .int 0)
  | 61 => .inr (7, [.ref 62, .ref 63, .int 0, .int 0, .int 0, .int 0, .int 0, .int 0, .int 0, .int (-1), .int 0, .int 0])
  | 62 => .inl (0, 20, fun _ => .int 0)
  | 63 => .inl (0, 8, fun _ => .int 0)
  | 64 => .inr (7, [.ref 65, .ref 66, .int 0, .int 0, .int 0, .int 0, .int 0, .int 0, .int 0, .int (-1), .int 0, .int 0])
  | 65 => .inl (0, 20, fun _ => .int 0)
  | 66 => .inl (0, 8, fun _ => .int 0)
  | 67 => .inr (7, [.ref 68, .ref 69, .int 0, .int 0, .int 0, .int 0, .int 0, .int 0, .int 0, .int (-1), .int 0, .int 0])
  | 68 => .inl (0, 20, fun _ => .int 0)
  | 69 => .inl (0, 8, fun _ => .int 0)
  | 70 => .inr (7, [.ref 71, .ref 72, .int 0, .int 0, .int 0, .int 0, .int 0, .int 0, .int 0, .int (-1), .int 0, .int 0])
  | 71 => .inl (0, 20, fun _ => .int 0)
  | 72 => .inl (0, 8, fun _ => .int 0)
  | 73 => .inr (7, [.ref 74, .ref 75, .int 0, .int 0, .int 0, .int 0, .int 0, .int 0, .int 0, .int (-1), .int 0, .int 0])
  | 74 => .inl (0, 20, fun _ => .int 0)
  | 75 => .inl (0, 8, fun _ => .int 0)
  | 76 => .inr (7, [.ref 77, .ref 78, .int 0, .int 0, .int 0, .int 0, .int 0, .int 0, .int 0, .int (-1), .int 0, .int 0])
  | 77 => .inl (0, 20, fun _ => .int 0)
  | 78 => .inl (0, 8, fun _ => .int 0)
  | 79 => .inr (7, [.ref 80, .ref 81, .int 0, .int 0, .int 0, .int 0, .int 0, .int 0, .int 0, .int (-1), .int 0, .int 0])
  | 80 => .inl (0, 20, fun _ => .int 0)
  | 81 => .inl (0, 8, fun _ => .int 0)
  | 82 => .inr (7, [.ref 83, .ref 84, .int 0, .int 0, .int 0, .int 0, .int 0, .int 0, .int 0, .int (-1), .int 0, .int 0])
  | 83 => .inl (0, 20, fun _ => .int 0)
  | 84 => .inl (0, 8, fun _ => .int 0)
  | 85 => .inr (7, [.ref 86, .ref 87, .int 0, .int 0, .int 0, .int 0, .int 0, .int 0, .int 0, .int (-1), .int 0, .int 0])
  | 86 => .inl (0, 20, fun _ => .int 0)
  | 87 => .inl (0, 8, fun _ => .int 0)
  | 88 => .inr (7, [.ref 89, .ref 90, .int 0, .int 0, .int 0, .int 0, .int 0, .int 0, .int 0, .int (-1), .int 0, .int 0])
  | 89 => .inl (0, 20, fun _ => .int 0)
  | 90 => .inl (0, 8, fun _ => .int 0)
  | 91 => .inr (7, [.ref 92, .ref 93, .int 0, .int 0, .int 0, .int 0, .int 0, .int 0, .int 0, .int (-1), .int 0, .int 0])
  | 92 => .inl (0, 20, fun _ => .int 0)
  | 93 => .inl (0, 8, fun _ => .int 0)
  | 94 => .inr (7, [.ref 95, .ref 96, .int 0, .int 0, .int 0, .int 0, .int 0, .int 0, .int 0, .int (-1), .int 0, .int 0])
  | 95 => .inl (0, 20, fun _ => .int 0)
  | 96 => .inl (0, 8, fun _ => .int 0)
  | 97 => .inr (7, [.ref 98, .ref 99, .int 0, .int 0, .int 0, .int 0, .int 0, .int 0, .int 0, .int (-1), .int 0, .int 0])
  | 98 => .inl (0, 20, fun _ => .int 0)
  | 99 => .inl (0, 8, fun _ => .int 0)
  | 100 => .inr (7, [.ref 101, .ref 102, .int 0, .int 0, .int 0, .int 0, .int 0, .int 0, .int 0, .int (-1), .int 0, .int 0])
  | 101 => .inl (0, 20, fun _ => .int 0)
  | 102 => .inl (0, 8, fun _ => .int 0)
  | 103 => .inr (7, [.ref 104, .ref 105, .int 0, .int 0, .int 0, .int 0, .int 0, .int 0, .int 0, .int (-1), .int 0, .int 0])
  | 104 => .inl (0, 20, fun _ => .int 0)
  | 105 => .inl (0, 8, fun _ => .int 0)
  | 106 => .inr (7, [.ref 107, .ref 108, .int 0, .int 0, .int 0, .int 0, .int 0, .int 0, .int 0, .int (-1), .int 0, .int 0])
  | 107 => .inl (0, 20, fun _ => .int 0)
  | 108 => .inl (0, 8, fun _ => .int 0)
  | 109 => .inr (7, [.ref 110, .ref 111, .int 0, .int 0, .int 0, .int 0, .int 0, .int 0, .int 0, .int (-1), .int 0, .int 0])
  | 110 => .inl (0, 20, fun _ => .int 0)
  | 111 => .inl (0, 8, fun _ => .int 0)
  | 112 => .inr (7, [.ref 113, .ref 114, .int 0, .int 0, .int 0, .int 0, .int 0, .int 0, .int 0, .int (-1), .int 0, .int 0])
  | 113 => .inl (0, 20, fun _ => .int 0)
  | 114 => .inl (0, 8, fun _ => .int 0)
  | 115 => .inr (7, [.ref 116, .ref 117, .int 0, .int 0, .int 0, .int 0, .int 0, .int 0, .int 0, .int (-1), .int 0, .int 0])
  | 116 => .inl (0, 20, fun _ => .int 0)
  | 117 => .inl (0, 8, fun _ => .int 0)
  | 118 => .inr (7, [.ref 119, .ref 120, .int 0, .int 0, .int 0, .int 0, .int 0, .int 0, .int 0, .int (-1), .int 0, .int 0])
  | 119 => .inl (0, 20, fun _ => .int 0)
  | 120 => .inl (0, 8, fun _ => .int 0)
  | 121 => .inr (7, [.ref 122, .ref 123, .int 0, .int 0, .int 0, .int 0, .int 0, .int 0, .int 0, .int (-1), .int 0, .int 0])
  | 122 => .inl (0, 20, fun _ => .int 0)
  | 123 => .inl (0, 8, fun _ => .int 0)
  | _ => .inr (0, [])
set_option maxHeartbeats 40000000 in
set_option maxRecDepth 100000 in
theorem ctorX9 (l : Launch) (D : va_G) (c : Nat → ClassId) (H0 : Heap) (sa : Nat × Nat × (Nat → Int32)) (xa xb xk : Int32) : sC (gG l D c H0 sa) mX9_init 5 123 1644 [.ref 0, .int xa, .int xb, .int xk] (1, fun _ => .inr (9, zX9)) (fun r hp => r = none ∧ hp.1 = 124 ∧ ∀ j, j < 124 → hp.2 j = tX9N xa xb xk j) := by
  refine sC.of rfl (by decide) (le_t rfl) ?_
  refine sv_aload_n (pc := 0) dX9_init_0 rfl rfl ?_
  refine sv_objinit (pc := 1) dX9_init_1 wM_X9_3 wV_obj wK_obj ⟨le_t rfl, le_t rfl⟩ (le_t rfl) ?_
  refine sv_aload_n (pc := 4) dX9_init_4 rfl rfl ?_
  refine sv_iload_n (pc := 5) dX9_init_5 rfl rfl ?_
  refine sw_putfinal (pc := 6) dX9_init_6 (gCX9 _ _ _ _ _) 0 (by decide) wF_X9_9 rfl rfl rfl rfl rfl (fun _ => rfl) (fun _ => rfl) rfl ?_
  refine sv_aload_n (pc := 9) dX9_init_9 rfl rfl ?_
  refine sv_iload_n (pc := 10) dX9_init_10 rfl rfl ?_
  refine sw_putfinal (pc := 11) dX9_init_11 (gCX9 _ _ _ _ _) 1 (by decide) wF_X9_15 rfl rfl rfl rfl rfl (fun _ => rfl) (fun _ => rfl) rfl ?_
  refine sv_aload_n (pc := 14) dX9_init_14 rfl rfl ?_
  refine sv_iload_n (pc := 15) dX9_init_15 rfl rfl ?_
  refine sw_putfinal (pc := 16) dX9_init_16 (gCX9 _ _ _ _ _) 2 (by decide) wF_X9_18 rfl rfl rfl rfl rfl (fun _ => rfl) (fun _ => rfl) rfl ?_
  refine sv_aload_n (pc := 19) dX9_init_19 rfl rfl ?_
  refine sv_iconst (pc := 20) (v := 1) dX9_init_20 (by decide) ?_
  refine sw_putfield (pc := 21) dX9_init_21 (gCX9 _ _ _ _ _) 6 (by decide) wF_X9_21 rfl rfl rfl (fun _ => rfl) (fun _ => rfl) rfl ?_
  refine sv_aload_n (pc := 24) dX9_init_24 rfl rfl ?_
  refine sv_iconst (pc := 25) (v := 1) dX9_init_25 (by decide) ?_
  refine sw_putfield (pc := 26) dX9_init_26 (gCX9 _ _ _ _ _) 7 (by decide) wF_X9_25 rfl rfl rfl (fun _ => rfl) (fun _ => rfl) rfl ?_
  refine sv_aload_n (pc := 29) dX9_init_29 rfl rfl ?_
  refine sv_iconst (pc := 30) (v := 4) dX9_init_30 (by decide) ?_
  refine sw_newarray (pc := 31) (kd := 0) (a := 1) (n1 := 2) (N := 4) (ce1 := 1) (sl1 := 4) (v := .int 0) dX9_init_31 rfl wA_int rfl (fun U => sI_Cond_int U _) (by decide) (by decide) rfl (fun _ => rfl) rfl rfl rfl rfl rfl rfl ?_
  refine sv_dup (pc := 33) dX9_init_33 rfl ?_
  refine sv_iconst (pc := 34) (v := 0) dX9_init_34 (by decide) ?_
  refine sv_ldc (pc := 35) dX9_init_35 wG_X9_28 ?_
  refine sw_iastore (pc := 37) (k := 0) (v := .int (-99999999)) dX9_init_37 rfl rfl rfl (by decide) (by decide) rfl rfl ?_
  refine sv_dup (pc := 38) dX9_init_38 rfl ?_
  refine sv_iconst (pc := 39) (v := 1) dX9_init_39 (by decide) ?_
  refine sv_ldc (pc := 40) dX9_init_40 wG_X9_28 ?_
  refine sw_iastore (pc := 42) (k := 1) (v := .int (-99999999)) dX9_init_42 rfl rfl rfl (by decide) (by decide) rfl rfl ?_
  refine sv_dup (pc := 43) dX9_init_43 rfl ?_
  refine sv_iconst (pc := 44) (v := 2) dX9_init_44 (by decide) ?_
  refine sv_ldc (pc := 45) dX9_init_45 wG_X9_28 ?_
  refine sw_iastore (pc := 47) (k := 2) (v := .int (-99999999)) dX9_init_47 rfl rfl rfl (by decide) (by decide) rfl rfl ?_
  refine sv_dup (pc := 48) dX9_init_48 rfl ?_
  refine sv_iconst (pc := 49) (v := 3) dX9_init_49 (by decide) ?_
  refine sv_ldc (pc := 50) dX9_init_50 wG_X9_28 ?_
  refine sw_iastore (pc := 52) (k := 3) (v := .int (-99999999)) dX9_init_52 rfl rfl rfl (by decide) (by decide) rfl rfl ?_
  refine sw_putfinal (pc := 53) dX9_init_53 (gCX9 _ _ _ _ _) 3 (by decide) wF_X9_29 rfl rfl rfl rfl rfl (fun _ => rfl) (fun _ => rfl) rfl ?_
  refine sv_aload_n (pc := 56) dX9_init_56 rfl rfl ?_
  refine sv_bipush (pc := 57) (v := 20) dX9_init_57 (by decide) ?_
  refine sw_anewarray (pc := 59) (kd := 4) (a := 2) (n1 := 3) (N := 20) (ce1 := 2) (sl1 := 24) dX9_init_59 wC_X9_33 rfl (by decide) (by decide) rfl rfl rfl rfl rfl rfl rfl ?_
  refine sw_putfinal (pc := 62) dX9_init_62 (gCX9 _ _ _ _ _) 4 (by decide) wF_X9_35 rfl rfl rfl rfl rfl (fun _ => rfl) (fun _ => rfl) rfl ?_
  refine sv_aload_n (pc := 65) dX9_init_65 rfl rfl ?_
  refine sv_bipush (pc := 66) (v := 20) dX9_init_66 (by decide) ?_
  refine sw_anewarray (pc := 68) (kd := 4) (a := 3) (n1 := 4) (N := 20) (ce1 := 3) (sl1 := 44) dX9_init_68 wC_X9_33 rfl (by decide) (by decide) rfl rfl rfl rfl rfl rfl rfl ?_
  refine sw_putfinal (pc := 71) dX9_init_71 (gCX9 _ _ _ _ _) 5 (by decide) wF_X9_39 rfl rfl rfl rfl rfl (fun _ => rfl) (fun _ => rfl) rfl ?_
  refine sv_iconst (pc := 74) (v := 0) dX9_init_74 (by decide) ?_
  refine sv_istore (pc := 75) dX9_init_75 (by decide) ?_
  refine sv_iload (pc := 77) dX9_init_77 rfl ?_
  refine sv_aload_n (pc := 79) dX9_init_79 rfl rfl ?_
  refine sw_getfield (pc := 80) dX9_init_80 (gCX9 _ _ _ _ _) 4 (by decide) wF_X9_35 rfl rfl rfl ?_
  refine sv_arraylength (pc := 83) (v := 20) (ty := .object RX7) dX9_init_83 rfl (lt_t rfl) rfl (by decide) ?_
  refine sv_icmp_ge (pc := 84) (tgt := 121) dX9_init_84 (by decide) (fun h => absurd h (by decide)) (fun _ => ?_)
  refine sv_aload_n (pc := 87) dX9_init_87 rfl rfl ?_
  refine sw_getfield (pc := 88) dX9_init_88 (gCX9 _ _ _ _ _) 4 (by decide) wF_X9_35 rfl rfl rfl ?_
  refine sv_iload (pc := 91) dX9_init_91 rfl ?_
  refine sw_new (pc := 93) (a := 4) (n1 := 5) (ce1 := 4) (sl1 := 56) (fs := zX7) dX9_init_93 (gCX7 _ _ _ _ _) wC_X9_33 wN_X7 wI_X7 zX7_ok rfl rfl rfl rfl rfl rfl ?_
  refine sv_dup (pc := 96) dX9_init_96 rfl ?_
  refine sv_callI (pc := 97) (M' := mX7_init) (d' := 4) (C' := 2) (S' := 28) (av := []) ?_ (gOk _ _ _ _ _) dX9_init_97 (tX7_init _ _ _ _ _) rfl rfl wV_X7_init wM_X9_42 ⟨le_t rfl, le_t rfl⟩ ⟨le_t rfl, le_t rfl⟩ rfl (le_t rfl) (fun _ _ h => h)
  refine sC.of rfl (by decide) (le_t rfl) ?_
  refine sv_aload_n (pc := 0) dX7_init_0 rfl rfl ?_
  refine sv_objinit (pc := 1) dX7_init_1 wM_X7_3 wV_obj wK_obj ⟨le_t rfl, le_t rfl⟩ (le_t rfl) ?_
  refine sv_aload_n (pc := 4) dX7_init_4 rfl rfl ?_
  refine sv_bipush (pc := 5) (v := 20) dX7_init_5 (by decide) ?_
  refine sw_newarray (pc := 7) (kd := 0) (a := 5) (n1 := 6) (N := 20) (ce1 := 1) (sl1 := 20) (v := .int 0) dX7_init_7 rfl wA_int rfl (fun U => sI_Cond_int U _) (by decide) (by decide) rfl (fun _ => rfl) rfl rfl rfl rfl rfl rfl ?_
  refine sw_putfinal (pc := 9) dX7_init_9 (gCX7 _ _ _ _ _) 0 (by decide) wF_X7_9 rfl rfl rfl rfl rfl (fun _ => rfl) (fun _ => rfl) rfl ?_
  refine sv_aload_n (pc := 12) dX7_init_12 rfl rfl ?_
  refine sv_bipush (pc := 13) (v := 8) dX7_init_13 (by decide) ?_
  refine sw_newarray (pc := 15) (kd := 0) (a := 6) (n1 := 7) (N := 8) (ce1 := 2) (sl1 := 28) (v := .int 0) dX7_init_15 rfl wA_int rfl (fun U => sI_Cond_int U _) (by decide) (by decide) rfl (fun _ => rfl) rfl rfl rfl rfl rfl rfl ?_
  refine sw_putfinal (pc := 17) dX7_init_17 (gCX7 _ _ _ _ _) 1 (by decide) wF_X7_15 rfl rfl rfl rfl rfl (fun _ => rfl) (fun _ => rfl) rfl ?_
  refine sv_aload_n (pc := 20) dX7_init_20 rfl rfl ?_
  refine sv_iconst (pc := 21) (v := (-1)) dX7_init_21 (by decide) ?_
  refine sw_putfield (pc := 22) dX7_init_22 (gCX7 _ _ _ _ _) 9 (by decide) wF_X7_18 rfl rfl rfl (fun _ => rfl) (fun _ => rfl) rfl ?_
  refine sv_vret (pc := 25) dX7_init_25 rfl (le_t rfl) (le_t rfl) ?_
  refine sw_aastore (pc := 100) (k := 0) dX9_init_100 (gCX7 _ _ _ _ _) rfl rfl rfl (by decide) (by decide) rfl rfl rfl ?_
  refine sv_aload_n (pc := 101) dX9_init_101 rfl rfl ?_
  refine sw_getfield (pc := 102) dX9_init_102 (gCX9 _ _ _ _ _) 5 (by decide) wF_X9_39 rfl rfl rfl ?_
  refine sv_iload (pc := 105) dX9_init_105 rfl ?_
  refine sw_new (pc := 107) (a := 7) (n1 := 8) (ce1 := 7) (sl1 := 96) (fs := zX7) dX9_init_107 (gCX7 _ _ _ _ _) wC_X9_33 wN_X7 wI_X7 zX7_ok rfl rfl rfl rfl rfl rfl ?_
  refine sv_dup (pc := 110) dX9_init_110 rfl ?_
  refine sv_callI (pc := 111) (M' := mX7_init) (d' := 4) (C' := 2) (S' := 28) (av := []) ?_ (gOk _ _ _ _ _) dX9_init_111 (tX7_init _ _ _ _ _) rfl rfl wV_X7_init wM_X9_42 ⟨le_t rfl, le_t rfl⟩ ⟨le_t rfl, le_t rfl⟩ rfl (le_t rfl) (fun _ _ h => h)
  refine sC.of rfl (by decide) (le_t rfl) ?_
  refine sv_aload_n (pc := 0) dX7_init_0 rfl rfl ?_
  refine sv_objinit (pc := 1) dX7_init_1 wM_X7_3 wV_obj wK_obj ⟨le_t rfl, le_t rfl⟩ (le_t rfl) ?_
  refine sv_aload_n (pc := 4) dX7_init_4 rfl rfl ?_
  refine sv_bipush (pc := 5) (v := 20) dX7_init_5 (by decide) ?_
  refine sw_newarray (pc := 7) (kd := 0) (a := 8) (n1 := 9) (N := 20) (ce1 := 1) (sl1 := 20) (v := .int 0) dX7_init_7 rfl wA_int rfl (fun U => sI_Cond_int U _) (by decide) (by decide) rfl (fun _ => rfl) rfl rfl rfl rfl rfl rfl ?_
  refine sw_putfinal (pc := 9) dX7_init_9 (gCX7 _ _ _ _ _) 0 (by decide) wF_X7_9 rfl rfl rfl rfl rfl (fun _ => rfl) (fun _ => rfl) rfl ?_
  refine sv_aload_n (pc := 12) dX7_init_12 rfl rfl ?_
  refine sv_bipush (pc := 13) (v := 8) dX7_init_13 (by decide) ?_
  refine sw_newarray (pc := 15) (kd := 0) (a := 9) (n1 := 10) (N := 8) (ce1 := 2) (sl1 := 28) (v := .int 0) dX7_init_15 rfl wA_int rfl (fun U => sI_Cond_int U _) (by decide) (by decide) rfl (fun _ => rfl) rfl rfl rfl rfl rfl rfl ?_
  refine sw_putfinal (pc := 17) dX7_init_17 (gCX7 _ _ _ _ _) 1 (by decide) wF_X7_15 rfl rfl rfl rfl rfl (fun _ => rfl) (fun _ => rfl) rfl ?_
  refine sv_aload_n (pc := 20) dX7_init_20 rfl rfl ?_
  refine sv_iconst (pc := 21) (v := (-1)) dX7_init_21 (by decide) ?_
  refine sw_putfield (pc := 22) dX7_init_22 (gCX7 _ _ _ _ _) 9 (by decide) wF_X7_18 rfl rfl rfl (fun _ => rfl) (fun _ => rfl) rfl ?_
  refine sv_vret (pc := 25) dX7_init_25 rfl (le_t rfl) (le_t rfl) ?_
  refine sw_aastore (pc := 114) (k := 0) dX9_init_114 (gCX7 _ _ _ _ _) rfl rfl rfl (by decide) (by decide) rfl rfl rfl ?_
  refine sw_iinc (pc := 115) (v := 1) dX9_init_115 rfl (by decide) (by decide) ?_
  refine sv_goto (pc := 118) (tgt := 77) dX9_init_118 (by decide) ?_
  refine sv_iload (pc := 77) dX9_init_77 rfl ?_
  refine sv_aload_n (pc := 79) dX9_init_79 rfl rfl ?_
  refine sw_getfield (pc := 80) dX9_init_80 (gCX9 _ _ _ _ _) 4 (by decide) wF_X9_35 rfl rfl rfl ?_
  refine sv_arraylength (pc := 83) (v := 20) (ty := .object RX7) dX9_init_83 rfl (lt_t rfl) rfl (by decide) ?_
  refine sv_icmp_ge (pc := 84) (tgt := 121) dX9_init_84 (by decide) (fun h => absurd h (by decide)) (fun _ => ?_)
  refine sv_aload_n (pc := 87) dX9_init_87 rfl rfl ?_
  refine sw_getfield (pc := 88) dX9_init_88 (gCX9 _ _ _ _ _) 4 (by decide) wF_X9_35 rfl rfl rfl ?_
  refine sv_iload (pc := 91) dX9_init_91 rfl ?_
  refine sw_new (pc := 93) (a := 10) (n1 := 11) (ce1 := 10) (sl1 := 136) (fs := zX7) dX9_init_93 (gCX7 _ _ _ _ _) wC_X9_33 wN_X7 wI_X7 zX7_ok rfl rfl rfl rfl rfl rfl ?_
  refine sv_dup (pc := 96) dX9_init_96 rfl ?_
  refine sv_callI (pc := 97) (M' := mX7_init) (d' := 4) (C' := 2) (S' := 28) (av := []) ?_ (gOk _ _ _ _ _) dX9_init_97 (tX7_init _ _ _ _ _) rfl rfl wV_X7_init wM_X9_42 ⟨le_t rfl, le_t rfl⟩ ⟨le_t rfl, le_t rfl⟩ rfl (le_t rfl) (fun _ _ h => h)
  refine sC.of rfl (by decide) (le_t rfl) ?_
  refine sv_aload_n (pc := 0) dX7_init_0 rfl rfl ?_
  refine sv_objinit (pc := 1) dX7_init_1 wM_X7_3 wV_obj wK_obj ⟨le_t rfl, le_t rfl⟩ (le_t rfl) ?_
  refine sv_aload_n (pc := 4) dX7_init_4 rfl rfl ?_
  refine sv_bipush (pc := 5) (v := 20) dX7_init_5 (by decide) ?_
  refine sw_newarray (pc := 7) (kd := 0) (a := 11) (n1 := 12) (N := 20) (ce1 := 1) (sl1 := 20) (v := .int 0) dX7_init_7 rfl wA_int rfl (fun U => sI_Cond_int U _) (by decide) (by decide) rfl (fun _ => rfl) rfl rfl rfl rfl rfl rfl ?_
  refine sw_putfinal (pc := 9) dX7_init_9 (gCX7 _ _ _ _ _) 0 (by decide) wF_X7_9 rfl rfl rfl rfl rfl (fun _ => rfl) (fun _ => rfl) rfl ?_
  refine sv_aload_n (pc := 12) dX7_init_12 rfl rfl ?_
  refine sv_bipush (pc := 13) (v := 8) dX7_init_13 (by decide) ?_
  refine sw_newarray (pc := 15) (kd := 0) (a := 12) (n1 := 13) (N := 8) (ce1 := 2) (sl1 := 28) (v := .int 0) dX7_init_15 rfl wA_int rfl (fun U => sI_Cond_int U _) (by decide) (by decide) rfl (fun _ => rfl) rfl rfl rfl rfl rfl rfl ?_
  refine sw_putfinal (pc := 17) dX7_init_17 (gCX7 _ _ _ _ _) 1 (by decide) wF_X7_15 rfl rfl rfl rfl rfl (fun _ => rfl) (fun _ => rfl) rfl ?_
  refine sv_aload_n (pc := 20) dX7_init_20 rfl rfl ?_
  refine sv_iconst (pc := 21) (v := (-1)) dX7_init_21 (by decide) ?_
  refine sw_putfield (pc := 22) dX7_init_22 (gCX7 _ _ _ _ _) 9 (by decide) wF_X7_18 rfl rfl rfl (fun _ => rfl) (fun _ => rfl) rfl ?_
  refine sv_vret (pc := 25) dX7_init_25 rfl (le_t rfl) (le_t rfl) ?_
  refine sw_aastore (pc := 100) (k := 1) dX9_init_100 (gCX7 _ _ _ _ _) rfl rfl rfl (by decide) (by decide) rfl rfl rfl ?_
  refine sv_aload_n (pc := 101) dX9_init_101 rfl rfl ?_
  refine sw_getfield (pc := 102) dX9_init_102 (gCX9 _ _ _ _ _) 5 (by decide) wF_X9_39 rfl rfl rfl ?_
  refine sv_iload (pc := 105) dX9_init_105 rfl ?_
  refine sw_new (pc := 107) (a := 13) (n1 := 14) (ce1 := 13) (sl1 := 176) (fs := zX7) dX9_init_107 (gCX7 _ _ _ _ _) wC_X9_33 wN_X7 wI_X7 zX7_ok rfl rfl rfl rfl rfl rfl ?_
  refine sv_dup (pc := 110) dX9_init_110 rfl ?_
  refine sv_callI (pc := 111) (M' := mX7_init) (d' := 4) (C' := 2) (S' := 28) (av := []) ?_ (gOk _ _ _ _ _) dX9_init_111 (tX7_init _ _ _ _ _) rfl rfl wV_X7_init wM_X9_42 ⟨le_t rfl, le_t rfl⟩ ⟨le_t rfl, le_t rfl⟩ rfl (le_t rfl) (fun _ _ h => h)
  refine sC.of rfl (by decide) (le_t rfl) ?_
  refine sv_aload_n (pc := 0) dX7_init_0 rfl rfl ?_
  refine sv_objinit (pc := 1) dX7_init_1 wM_X7_3 wV_obj wK_obj ⟨le_t rfl, le_t rfl⟩ (le_t rfl) ?_
  refine sv_aload_n (pc := 4) dX7_init_4 rfl rfl ?_
  refine sv_bipush (pc := 5) (v := 20) dX7_init_5 (by decide) ?_
  refine sw_newarray (pc := 7) (kd := 0) (a := 14) (n1 := 15) (N := 20) (ce1 := 1) (sl1 := 20) (v := .int 0) dX7_init_7 rfl wA_int rfl (fun U => sI_Cond_int U _) (by decide) (by decide) rfl (fun _ => rfl) rfl rfl rfl rfl rfl rfl ?_
  refine sw_putfinal (pc := 9) dX7_init_9 (gCX7 _ _ _ _ _) 0 (by decide) wF_X7_9 rfl rfl rfl rfl rfl (fun _ => rfl) (fun _ => rfl) rfl ?_
  refine sv_aload_n (pc := 12) dX7_init_12 rfl rfl ?_
  refine sv_bipush (pc := 13) (v := 8) dX7_init_13 (by decide) ?_
  refine sw_newarray (pc := 15) (kd := 0) (a := 15) (n1 := 16) (N := 8) (ce1 := 2) (sl1 := 28) (v := .int 0) dX7_init_15 rfl wA_int rfl (fun U => sI_Cond_int U _) (by decide) (by decide) rfl (fun _ => rfl) rfl rfl rfl rfl rfl rfl ?_
  refine sw_putfinal (pc := 17) dX7_init_17 (gCX7 _ _ _ _ _) 1 (by decide) wF_X7_15 rfl rfl rfl rfl rfl (fun _ => rfl) (fun _ => rfl) rfl ?_
  refine sv_aload_n (pc := 20) dX7_init_20 rfl rfl ?_
  refine sv_iconst (pc := 21) (v := (-1)) dX7_init_21 (by decide) ?_
  refine sw_putfield (pc := 22) dX7_init_22 (gCX7 _ _ _ _ _) 9 (by decide) wF_X7_18 rfl rfl rfl (fun _ => rfl) (fun _ => rfl) rfl ?_
  refine sv_vret (pc := 25) dX7_init_25 rfl (le_t rfl) (le_t rfl) ?_
  refine sw_aastore (pc := 114) (k := 1) dX9_init_114 (gCX7 _ _ _ _ _) rfl rfl rfl (by decide) (by decide) rfl rfl rfl ?_
  refine sw_iinc (pc := 115) (v := 2) dX9_init_115 rfl (by decide) (by decide) ?_
  refine sv_goto (pc := 118) (tgt := 77) dX9_init_118 (by decide) ?_
  refine sv_iload (pc := 77) dX9_init_77 rfl ?_
  refine sv_aload_n (pc := 79) dX9_init_79 rfl rfl ?_
  refine sw_getfield (pc := 80) dX9_init_80 (gCX9 _ _ _ _ _) 4 (by decide) wF_X9_35 rfl rfl rfl ?_
  refine sv_arraylength (pc := 83) (v := 20) (ty := .object RX7) dX9_init_83 rfl (lt_t rfl) rfl (by decide) ?_
  refine sv_icmp_ge (pc := 84) (tgt := 121) dX9_init_84 (by decide) (fun h => absurd h (by decide)) (fun _ => ?_)
  refine sv_aload_n (pc := 87) dX9_init_87 rfl rfl ?_
  refine sw_getfield (pc := 88) dX9_init_88 (gCX9 _ _ _ _ _) 4 (by decide) wF_X9_35 rfl rfl rfl ?_
  refine sv_iload (pc := 91) dX9_init_91 rfl ?_
  refine sw_new (pc := 93) (a := 16) (n1 := 17) (ce1 := 16) (sl1 := 216) (fs := zX7) dX9_init_93 (gCX7 _ _ _ _ _) wC_X9_33 wN_X7 wI_X7 zX7_ok rfl rfl rfl rfl rfl rfl ?_
  refine sv_dup (pc := 96) dX9_init_96 rfl ?_
  refine sv_callI (pc := 97) (M' := mX7_init) (d' := 4) (C' := 2) (S' := 28) (av := []) ?_ (gOk _ _ _ _ _) dX9_init_97 (tX7_init _ _ _ _ _) rfl rfl wV_X7_init wM_X9_42 ⟨le_t rfl, le_t rfl⟩ ⟨le_t rfl, le_t rfl⟩ rfl (le_t rfl) (fun _ _ h => h)
  refine sC.of rfl (by decide) (le_t rfl) ?_
  refine sv_aload_n (pc := 0) dX7_init_0 rfl rfl ?_
  refine sv_objinit (pc := 1) dX7_init_1 wM_X7_3 wV_obj wK_obj ⟨le_t rfl, le_t rfl⟩ (le_t rfl) ?_
  refine sv_aload_n (pc := 4) dX7_init_4 rfl rfl ?_
  refine sv_bipush (pc := 5) (v := 20) dX7_init_5 (by decide) ?_
  refine sw_newarray (pc := 7) (kd := 0) (a := 17) (n1 := 18) (N := 20) (ce1 := 1) (sl1 := 20) (v := .int 0) dX7_init_7 rfl wA_int rfl (fun U => sI_Cond_int U _) (by decide) (by decide) rfl (fun _ => rfl) rfl rfl rfl rfl rfl rfl ?_
  refine sw_putfinal (pc := 9) dX7_init_9 (gCX7 _ _ _ _ _) 0 (by decide) wF_X7_9 rfl rfl rfl rfl rfl (fun _ => rfl) (fun _ => rfl) rfl ?_
  refine sv_aload_n (pc := 12) dX7_init_12 rfl rfl ?_
  refine sv_bipush (pc := 13) (v := 8) dX7_init_13 (by decide) ?_
  refine sw_newarray (pc := 15) (kd := 0) (a := 18) (n1 := 19) (N := 8) (ce1 := 2) (sl1 := 28) (v := .int 0) dX7_init_15 rfl wA_int rfl (fun U => sI_Cond_int U _) (by decide) (by decide) rfl (fun _ => rfl) rfl rfl rfl rfl rfl rfl ?_
  refine sw_putfinal (pc := 17) dX7_init_17 (gCX7 _ _ _ _ _) 1 (by decide) wF_X7_15 rfl rfl rfl rfl rfl (fun _ => rfl) (fun _ => rfl) rfl ?_
  refine sv_aload_n (pc := 20) dX7_init_20 rfl rfl ?_
  refine sv_iconst (pc := 21) (v := (-1)) dX7_init_21 (by decide) ?_
  refine sw_putfield (pc := 22) dX7_init_22 (gCX7 _ _ _ _ _) 9 (by decide) wF_X7_18 rfl rfl rfl (fun _ => rfl) (fun _ => rfl) rfl ?_
  refine sv_vret (pc := 25) dX7_init_25 rfl (le_t rfl) (le_t rfl) ?_
  refine sw_aastore (pc := 100) (k := 2) dX9_init_100 (gCX7 _ _ _ _ _) rfl rfl rfl (by decide) (by decide) rfl rfl rfl ?_
  refine sv_aload_n (pc := 101) dX9_init_101 rfl rfl ?_
  refine sw_getfield (pc := 102) dX9_init_102 (gCX9 _ _ _ _ _) 5 (by decide) wF_X9_39 rfl rfl rfl ?_
  refine sv_iload (pc := 105) dX9_init_105 rfl ?_
  refine sw_new (pc := 107) (a := 19) (n1 := 20) (ce1 := 19) (sl1 := 256) (fs := zX7) dX9_init_107 (gCX7 _ _ _ _ _) wC_X9_33 wN_X7 wI_X7 zX7_ok rfl rfl rfl rfl rfl rfl ?_
  refine sv_dup (pc := 110) dX9_init_110 rfl ?_
  refine sv_callI (pc := 111) (M' := mX7_init) (d' := 4) (C' := 2) (S' := 28) (av := []) ?_ (gOk _ _ _ _ _) dX9_init_111 (tX7_init _ _ _ _ _) rfl rfl wV_X7_init wM_X9_42 ⟨le_t rfl, le_t rfl⟩ ⟨le_t rfl, le_t rfl⟩ rfl (le_t rfl) (fun _ _ h => h)
  refine sC.of rfl (by decide) (le_t rfl) ?_
  refine sv_aload_n (pc := 0) dX7_init_0 rfl rfl ?_
  refine sv_objinit (pc := 1) dX7_init_1 wM_X7_3 wV_obj wK_obj ⟨le_t rfl, le_t rfl⟩ (le_t rfl) ?_
  refine sv_aload_n (pc := 4) dX7_init_4 rfl rfl ?_
  refine sv_bipush (pc := 5) (v := 20) dX7_init_5 (by decide) ?_
  refine sw_newarray (pc := 7) (kd := 0) (a := 20) (n1 := 21) (N := 20) (ce1 := 1) (sl1 := 20) (v := .int 0) dX7_init_7 rfl wA_int rfl (fun U => sI_Cond_int U _) (by decide) (by decide) rfl (fun _ => rfl) rfl rfl rfl rfl rfl rfl ?_
  refine sw_putfinal (pc := 9) dX7_init_9 (gCX7 _ _ _ _ _) 0 (by decide) wF_X7_9 rfl rfl rfl rfl rfl (fun _ => rfl) (fun _ => rfl) rfl ?_
  refine sv_aload_n (pc := 12) dX7_init_12 rfl rfl ?_
  refine sv_bipush (pc := 13) (v := 8) dX7_init_13 (by decide) ?_
  refine sw_newarray (pc := 15) (kd := 0) (a := 21) (n1 := 22) (N := 8) (ce1 := 2) (sl1 := 28) (v := .int 0) dX7_init_15 rfl wA_int rfl (fun U => sI_Cond_int U _) (by decide) (by decide) rfl (fun _ => rfl) rfl rfl rfl rfl rfl rfl ?_
  refine sw_putfinal (pc := 17) dX7_init_17 (gCX7 _ _ _ _ _) 1 (by decide) wF_X7_15 rfl rfl rfl rfl rfl (fun _ => rfl) (fun _ => rfl) rfl ?_
  refine sv_aload_n (pc := 20) dX7_init_20 rfl rfl ?_
  refine sv_iconst (pc := 21) (v := (-1)) dX7_init_21 (by decide) ?_
  refine sw_putfield (pc := 22) dX7_init_22 (gCX7 _ _ _ _ _) 9 (by decide) wF_X7_18 rfl rfl rfl (fun _ => rfl) (fun _ => rfl) rfl ?_
  refine sv_vret (pc := 25) dX7_init_25 rfl (le_t rfl) (le_t rfl) ?_
  refine sw_aastore (pc := 114) (k := 2) dX9_init_114 (gCX7 _ _ _ _ _) rfl rfl rfl (by decide) (by decide) rfl rfl rfl ?_
  refine sw_iinc (pc := 115) (v := 3) dX9_init_115 rfl (by decide) (by decide) ?_
  refine sv_goto (pc := 118) (tgt := 77) dX9_init_118 (by decide) ?_
  refine sv_iload (pc := 77) dX9_init_77 rfl ?_
  refine sv_aload_n (pc := 79) dX9_init_79 rfl rfl ?_
  refine sw_getfield (pc := 80) dX9_init_80 (gCX9 _ _ _ _ _) 4 (by decide) wF_X9_35 rfl rfl rfl ?_
  refine sv_arraylength (pc := 83) (v := 20) (ty := .object RX7) dX9_init_83 rfl (lt_t rfl) rfl (by decide) ?_
  refine sv_icmp_ge (pc := 84) (tgt := 121) dX9_init_84 (by decide) (fun h => absurd h (by decide)) (fun _ => ?_)
  refine sv_aload_n (pc := 87) dX9_init_87 rfl rfl ?_
  refine sw_getfield (pc := 88) dX9_init_88 (gCX9 _ _ _ _ _) 4 (by decide) wF_X9_35 rfl rfl rfl ?_
  refine sv_iload (pc := 91) dX9_init_91 rfl ?_
  refine sw_new (pc := 93) (a := 22) (n1 := 23) (ce1 := 22) (sl1 := 296) (fs := zX7) dX9_init_93 (gCX7 _ _ _ _ _) wC_X9_33 wN_X7 wI_X7 zX7_ok rfl rfl rfl rfl rfl rfl ?_
  refine sv_dup (pc := 96) dX9_init_96 rfl ?_
  refine sv_callI (pc := 97) (M' := mX7_init) (d' := 4) (C' := 2) (S' := 28) (av := []) ?_ (gOk _ _ _ _ _) dX9_init_97 (tX7_init _ _ _ _ _) rfl rfl wV_X7_init wM_X9_42 ⟨le_t rfl, le_t rfl⟩ ⟨le_t rfl, le_t rfl⟩ rfl (le_t rfl) (fun _ _ h => h)
  refine sC.of rfl (by decide) (le_t rfl) ?_
  refine sv_aload_n (pc := 0) dX7_init_0 rfl rfl ?_
  refine sv_objinit (pc := 1) dX7_init_1 wM_X7_3 wV_obj wK_obj ⟨le_t rfl, le_t rfl⟩ (le_t rfl) ?_
  refine sv_aload_n (pc := 4) dX7_init_4 rfl rfl ?_
  refine sv_bipush (pc := 5) (v := 20) dX7_init_5 (by decide) ?_
  refine sw_newarray (pc := 7) (kd := 0) (a := 23) (n1 := 24) (N := 20) (ce1 := 1) (sl1 := 20) (v := .int 0) dX7_init_7 rfl wA_int rfl (fun U => sI_Cond_int U _) (by decide) (by decide) rfl (fun _ => rfl) rfl rfl rfl rfl rfl rfl ?_
  refine sw_putfinal (pc := 9) dX7_init_9 (gCX7 _ _ _ _ _) 0 (by decide) wF_X7_9 rfl rfl rfl rfl rfl (fun _ => rfl) (fun _ => rfl) rfl ?_
  refine sv_aload_n (pc := 12) dX7_init_12 rfl rfl ?_
  refine sv_bipush (pc := 13) (v := 8) dX7_init_13 (by decide) ?_
  refine sw_newarray (pc := 15) (kd := 0) (a := 24) (n1 := 25) (N := 8) (ce1 := 2) (sl1 := 28) (v := .int 0) dX7_init_15 rfl wA_int rfl (fun U => sI_Cond_int U _) (by decide) (by decide) rfl (fun _ => rfl) rfl rfl rfl rfl rfl rfl ?_
  refine sw_putfinal (pc := 17) dX7_init_17 (gCX7 _ _ _ _ _) 1 (by decide) wF_X7_15 rfl rfl rfl rfl rfl (fun _ => rfl) (fun _ => rfl) rfl ?_
  refine sv_aload_n (pc := 20) dX7_init_20 rfl rfl ?_
  refine sv_iconst (pc := 21) (v := (-1)) dX7_init_21 (by decide) ?_
  refine sw_putfield (pc := 22) dX7_init_22 (gCX7 _ _ _ _ _) 9 (by decide) wF_X7_18 rfl rfl rfl (fun _ => rfl) (fun _ => rfl) rfl ?_
  refine sv_vret (pc := 25) dX7_init_25 rfl (le_t rfl) (le_t rfl) ?_
  refine sw_aastore (pc := 100) (k := 3) dX9_init_100 (gCX7 _ _ _ _ _) rfl rfl rfl (by decide) (by decide) rfl rfl rfl ?_
  refine sv_aload_n (pc := 101) dX9_init_101 rfl rfl ?_
  refine sw_getfield (pc := 102) dX9_init_102 (gCX9 _ _ _ _ _) 5 (by decide) wF_X9_39 rfl rfl rfl ?_
  refine sv_iload (pc := 105) dX9_init_105 rfl ?_
  refine sw_new (pc := 107) (a := 25) (n1 := 26) (ce1 := 25) (sl1 := 336) (fs := zX7) dX9_init_107 (gCX7 _ _ _ _ _) wC_X9_33 wN_X7 wI_X7 zX7_ok rfl rfl rfl rfl rfl rfl ?_
  refine sv_dup (pc := 110) dX9_init_110 rfl ?_
  refine sv_callI (pc := 111) (M' := mX7_init) (d' := 4) (C' := 2) (S' := 28) (av := []) ?_ (gOk _ _ _ _ _) dX9_init_111 (tX7_init _ _ _ _ _) rfl rfl wV_X7_init wM_X9_42 ⟨le_t rfl, le_t rfl⟩ ⟨le_t rfl, le_t rfl⟩ rfl (le_t rfl) (fun _ _ h => h)
  refine sC.of rfl (by decide) (le_t rfl) ?_
  refine sv_aload_n (pc := 0) dX7_init_0 rfl rfl ?_
  refine sv_objinit (pc := 1) dX7_init_1 wM_X7_3 wV_obj wK_obj ⟨le_t rfl, le_t rfl⟩ (le_t rfl) ?_
  refine sv_aload_n (pc := 4) dX7_init_4 rfl rfl ?_
  refine sv_bipush (pc := 5) (v := 20) dX7_init_5 (by decide) ?_
  refine sw_newarray (pc := 7) (kd := 0) (a := 26) (n1 := 27) (N := 20) (ce1 := 1) (sl1 := 20) (v := .int 0) dX7_init_7 rfl wA_int rfl (fun U => sI_Cond_int U _) (by decide) (by decide) rfl (fun _ => rfl) rfl rfl rfl rfl rfl rfl ?_
  refine sw_putfinal (pc := 9) dX7_init_9 (gCX7 _ _ _ _ _) 0 (by decide) wF_X7_9 rfl rfl rfl rfl rfl (fun _ => rfl) (fun _ => rfl) rfl ?_
  refine sv_aload_n (pc := 12) dX7_init_12 rfl rfl ?_
  refine sv_bipush (pc := 13) (v := 8) dX7_init_13 (by decide) ?_
  refine sw_newarray (pc := 15) (kd := 0) (a := 27) (n1 := 28) (N := 8) (ce1 := 2) (sl1 := 28) (v := .int 0) dX7_init_15 rfl wA_int rfl (fun U => sI_Cond_int U _) (by decide) (by decide) rfl (fun _ => rfl) rfl rfl rfl rfl rfl rfl ?_
  refine sw_putfinal (pc := 17) dX7_init_17 (gCX7 _ _ _ _ _) 1 (by decide) wF_X7_15 rfl rfl rfl rfl rfl (fun _ => rfl) (fun _ => rfl) rfl ?_
  refine sv_aload_n (pc := 20) dX7_init_20 rfl rfl ?_
  refine sv_iconst (pc := 21) (v := (-1)) dX7_init_21 (by decide) ?_
  refine sw_putfield (pc := 22) dX7_init_22 (gCX7 _ _ _ _ _) 9 (by decide) wF_X7_18 rfl rfl rfl (fun _ => rfl) (fun _ => rfl) rfl ?_
  refine sv_vret (pc := 25) dX7_init_25 rfl (le_t rfl) (le_t rfl) ?_
  refine sw_aastore (pc := 114) (k := 3) dX9_init_114 (gCX7 _ _ _ _ _) rfl rfl rfl (by decide) (by decide) rfl rfl rfl ?_
  refine sw_iinc (pc := 115) (v := 4) dX9_init_115 rfl (by decide) (by decide) ?_
  refine sv_goto (pc := 118) (tgt := 77) dX9_init_118 (by decide) ?_
  refine sv_iload (pc := 77) dX9_init_77 rfl ?_
  refine sv_aload_n (pc := 79) dX9_init_79 rfl rfl ?_
  refine sw_getfield (pc := 80) dX9_init_80 (gCX9 _ _ _ _ _) 4 (by decide) wF_X9_35 rfl rfl rfl ?_
  refine sv_arraylength (pc := 83) (v := 20) (ty := .object RX7) dX9_init_83 rfl (lt_t rfl) rfl (by decide) ?_
  refine sv_icmp_ge (pc := 84) (tgt := 121) dX9_init_84 (by decide) (fun h => absurd h (by decide)) (fun _ => ?_)
  refine sv_aload_n (pc := 87) dX9_init_87 rfl rfl ?_
  refine sw_getfield (pc := 88) dX9_init_88 (gCX9 _ _ _ _ _) 4 (by decide) wF_X9_35 rfl rfl rfl ?_
  refine sv_iload (pc := 91) dX9_init_91 rfl ?_
  refine sw_new (pc := 93) (a := 28) (n1 := 29) (ce1 := 28) (sl1 := 376) (fs := zX7) dX9_init_93 (gCX7 _ _ _ _ _) wC_X9_33 wN_X7 wI_X7 zX7_ok rfl rfl rfl rfl rfl rfl ?_
  refine sv_dup (pc := 96) dX9_init_96 rfl ?_
  refine sv_callI (pc := 97) (M' := mX7_init) (d' := 4) (C' := 2) (S' := 28) (av := []) ?_ (gOk _ _ _ _ _) dX9_init_97 (tX7_init _ _ _ _ _) rfl rfl wV_X7_init wM_X9_42 ⟨le_t rfl, le_t rfl⟩ ⟨le_t rfl, le_t rfl⟩ rfl (le_t rfl) (fun _ _ h => h)
  refine sC.of rfl (by decide) (le_t rfl) ?_
  refine sv_aload_n (pc := 0) dX7_init_0 rfl rfl ?_
  refine sv_objinit (pc := 1) dX7_init_1 wM_X7_3 wV_obj wK_obj ⟨le_t rfl, le_t rfl⟩ (le_t rfl) ?_
  refine sv_aload_n (pc := 4) dX7_init_4 rfl rfl ?_
  refine sv_bipush (pc := 5) (v := 20) dX7_init_5 (by decide) ?_
  refine sw_newarray (pc := 7) (kd := 0) (a := 29) (n1 := 30) (N := 20) (ce1 := 1) (sl1 := 20) (v := .int 0) dX7_init_7 rfl wA_int rfl (fun U => sI_Cond_int U _) (by decide) (by decide) rfl (fun _ => rfl) rfl rfl rfl rfl rfl rfl ?_
  refine sw_putfinal (pc := 9) dX7_init_9 (gCX7 _ _ _ _ _) 0 (by decide) wF_X7_9 rfl rfl rfl rfl rfl (fun _ => rfl) (fun _ => rfl) rfl ?_
  refine sv_aload_n (pc := 12) dX7_init_12 rfl rfl ?_
  refine sv_bipush (pc := 13) (v := 8) dX7_init_13 (by decide) ?_
  refine sw_newarray (pc := 15) (kd := 0) (a := 30) (n1 := 31) (N := 8) (ce1 := 2) (sl1 := 28) (v := .int 0) dX7_init_15 rfl wA_int rfl (fun U => sI_Cond_int U _) (by decide) (by decide) rfl (fun _ => rfl) rfl rfl rfl rfl rfl rfl ?_
  refine sw_putfinal (pc := 17) dX7_init_17 (gCX7 _ _ _ _ _) 1 (by decide) wF_X7_15 rfl rfl rfl rfl rfl (fun _ => rfl) (fun _ => rfl) rfl ?_
  refine sv_aload_n (pc := 20) dX7_init_20 rfl rfl ?_
  refine sv_iconst (pc := 21) (v := (-1)) dX7_init_21 (by decide) ?_
  refine sw_putfield (pc := 22) dX7_init_22 (gCX7 _ _ _ _ _) 9 (by decide) wF_X7_18 rfl rfl rfl (fun _ => rfl) (fun _ => rfl) rfl ?_
  refine sv_vret (pc := 25) dX7_init_25 rfl (le_t rfl) (le_t rfl) ?_
  refine sw_aastore (pc := 100) (k := 4) dX9_init_100 (gCX7 _ _ _ _ _) rfl rfl rfl (by decide) (by decide) rfl rfl rfl ?_
  refine sv_aload_n (pc := 101) dX9_init_101 rfl rfl ?_
  refine sw_getfield (pc := 102) dX9_init_102 (gCX9 _ _ _ _ _) 5 (by decide) wF_X9_39 rfl rfl rfl ?_
  refine sv_iload (pc := 105) dX9_init_105 rfl ?_
  refine sw_new (pc := 107) (a := 31) (n1 := 32) (ce1 := 31) (sl1 := 416) (fs := zX7) dX9_init_107 (gCX7 _ _ _ _ _) wC_X9_33 wN_X7 wI_X7 zX7_ok rfl rfl rfl rfl rfl rfl ?_
  refine sv_dup (pc := 110) dX9_init_110 rfl ?_
  refine sv_callI (pc := 111) (M' := mX7_init) (d' := 4) (C' := 2) (S' := 28) (av := []) ?_ (gOk _ _ _ _ _) dX9_init_111 (tX7_init _ _ _ _ _) rfl rfl wV_X7_init wM_X9_42 ⟨le_t rfl, le_t rfl⟩ ⟨le_t rfl, le_t rfl⟩ rfl (le_t rfl) (fun _ _ h => h)
  refine sC.of rfl (by decide) (le_t rfl) ?_
  refine sv_aload_n (pc := 0) dX7_init_0 rfl rfl ?_
  refine sv_objinit (pc := 1) dX7_init_1 wM_X7_3 wV_obj wK_obj ⟨le_t rfl, le_t rfl⟩ (le_t rfl) ?_
  refine sv_aload_n (pc := 4) dX7_init_4 rfl rfl ?_
  refine sv_bipush (pc := 5) (v := 20) dX7_init_5 (by decide) ?_
  refine sw_newarray (pc := 7) (kd := 0) (a := 32) (n1 := 33) (N := 20) (ce1 := 1) (sl1 := 20) (v := .int 0) dX7_init_7 rfl wA_int rfl (fun U => sI_Cond_int U _) (by decide) (by decide) rfl (fun _ => rfl) rfl rfl rfl rfl rfl rfl ?_
  refine sw_putfinal (pc := 9) dX7_init_9 (gCX7 _ _ _ _ _) 0 (by decide) wF_X7_9 rfl rfl rfl rfl rfl (fun _ => rfl) (fun _ => rfl) rfl ?_
  refine sv_aload_n (pc := 12) dX7_init_12 rfl rfl ?_
  refine sv_bipush (pc := 13) (v := 8) dX7_init_13 (by decide) ?_
  refine sw_newarray (pc := 15) (kd := 0) (a := 33) (n1 := 34) (N := 8) (ce1 := 2) (sl1 := 28) (v := .int 0) dX7_init_15 rfl wA_int rfl (fun U => sI_Cond_int U _) (by decide) (by decide) rfl (fun _ => rfl) rfl rfl rfl rfl rfl rfl ?_
  refine sw_putfinal (pc := 17) dX7_init_17 (gCX7 _ _ _ _ _) 1 (by decide) wF_X7_15 rfl rfl rfl rfl rfl (fun _ => rfl) (fun _ => rfl) rfl ?_
  refine sv_aload_n (pc := 20) dX7_init_20 rfl rfl ?_
  refine sv_iconst (pc := 21) (v := (-1)) dX7_init_21 (by decide) ?_
  refine sw_putfield (pc := 22) dX7_init_22 (gCX7 _ _ _ _ _) 9 (by decide) wF_X7_18 rfl rfl rfl (fun _ => rfl) (fun _ => rfl) rfl ?_
  refine sv_vret (pc := 25) dX7_init_25 rfl (le_t rfl) (le_t rfl) ?_
  refine sw_aastore (pc := 114) (k := 4) dX9_init_114 (gCX7 _ _ _ _ _) rfl rfl rfl (by decide) (by decide) rfl rfl rfl ?_
  refine sw_iinc (pc := 115) (v := 5) dX9_init_115 rfl (by decide) (by decide) ?_
  refine sv_goto (pc := 118) (tgt := 77) dX9_init_118 (by decide) ?_
  refine sv_iload (pc := 77) dX9_init_77 rfl ?_
  refine sv_aload_n (pc := 79) dX9_init_79 rfl rfl ?_
  refine sw_getfield (pc := 80) dX9_init_80 (gCX9 _ _ _ _ _) 4 (by decide) wF_X9_35 rfl rfl rfl ?_
  refine sv_arraylength (pc := 83) (v := 20) (ty := .object RX7) dX9_init_83 rfl (lt_t rfl) rfl (by decide) ?_
  refine sv_icmp_ge (pc := 84) (tgt := 121) dX9_init_84 (by decide) (fun h => absurd h (by decide)) (fun _ => ?_)
  refine sv_aload_n (pc := 87) dX9_init_87 rfl rfl ?_
  refine sw_getfield (pc := 88) dX9_init_88 (gCX9 _ _ _ _ _) 4 (by decide) wF_X9_35 rfl rfl rfl ?_
  refine sv_iload (pc := 91) dX9_init_91 rfl ?_
  refine sw_new (pc := 93) (a := 34) (n1 := 35) (ce1 := 34) (sl1 := 456) (fs := zX7) dX9_init_93 (gCX7 _ _ _ _ _) wC_X9_33 wN_X7 wI_X7 zX7_ok rfl rfl rfl rfl rfl rfl ?_
  refine sv_dup (pc := 96) dX9_init_96 rfl ?_
  refine sv_callI (pc := 97) (M' := mX7_init) (d' := 4) (C' := 2) (S' := 28) (av := []) ?_ (gOk _ _ _ _ _) dX9_init_97 (tX7_init _ _ _ _ _) rfl rfl wV_X7_init wM_X9_42 ⟨le_t rfl, le_t rfl⟩ ⟨le_t rfl, le_t rfl⟩ rfl (le_t rfl) (fun _ _ h => h)
  refine sC.of rfl (by decide) (le_t rfl) ?_
  refine sv_aload_n (pc := 0) dX7_init_0 rfl rfl ?_
  refine sv_objinit (pc := 1) dX7_init_1 wM_X7_3 wV_obj wK_obj ⟨le_t rfl, le_t rfl⟩ (le_t rfl) ?_
  refine sv_aload_n (pc := 4) dX7_init_4 rfl rfl ?_
  refine sv_bipush (pc := 5) (v := 20) dX7_init_5 (by decide) ?_
  refine sw_newarray (pc := 7) (kd := 0) (a := 35) (n1 := 36) (N := 20) (ce1 := 1) (sl1 := 20) (v := .int 0) dX7_init_7 rfl wA_int rfl (fun U => sI_Cond_int U _) (by decide) (by decide) rfl (fun _ => rfl) rfl rfl rfl rfl rfl rfl ?_
  refine sw_putfinal (pc := 9) dX7_init_9 (gCX7 _ _ _ _ _) 0 (by decide) wF_X7_9 rfl rfl rfl rfl rfl (fun _ => rfl) (fun _ => rfl) rfl ?_
  refine sv_aload_n (pc := 12) dX7_init_12 rfl rfl ?_
  refine sv_bipush (pc := 13) (v := 8) dX7_init_13 (by decide) ?_
  refine sw_newarray (pc := 15) (kd := 0) (a := 36) (n1 := 37) (N := 8) (ce1 := 2) (sl1 := 28) (v := .int 0) dX7_init_15 rfl wA_int rfl (fun U => sI_Cond_int U _) (by decide) (by decide) rfl (fun _ => rfl) rfl rfl rfl rfl rfl rfl ?_
  refine sw_putfinal (pc := 17) dX7_init_17 (gCX7 _ _ _ _ _) 1 (by decide) wF_X7_15 rfl rfl rfl rfl rfl (fun _ => rfl) (fun _ => rfl) rfl ?_
  refine sv_aload_n (pc := 20) dX7_init_20 rfl rfl ?_
  refine sv_iconst (pc := 21) (v := (-1)) dX7_init_21 (by decide) ?_
  refine sw_putfield (pc := 22) dX7_init_22 (gCX7 _ _ _ _ _) 9 (by decide) wF_X7_18 rfl rfl rfl (fun _ => rfl) (fun _ => rfl) rfl ?_
  refine sv_vret (pc := 25) dX7_init_25 rfl (le_t rfl) (le_t rfl) ?_
  refine sw_aastore (pc := 100) (k := 5) dX9_init_100 (gCX7 _ _ _ _ _) rfl rfl rfl (by decide) (by decide) rfl rfl rfl ?_
  refine sv_aload_n (pc := 101) dX9_init_101 rfl rfl ?_
  refine sw_getfield (pc := 102) dX9_init_102 (gCX9 _ _ _ _ _) 5 (by decide) wF_X9_39 rfl rfl rfl ?_
  refine sv_iload (pc := 105) dX9_init_105 rfl ?_
  refine sw_new (pc := 107) (a := 37) (n1 := 38) (ce1 := 37) (sl1 := 496) (fs := zX7) dX9_init_107 (gCX7 _ _ _ _ _) wC_X9_33 wN_X7 wI_X7 zX7_ok rfl rfl rfl rfl rfl rfl ?_
  refine sv_dup (pc := 110) dX9_init_110 rfl ?_
  refine sv_callI (pc := 111) (M' := mX7_init) (d' := 4) (C' := 2) (S' := 28) (av := []) ?_ (gOk _ _ _ _ _) dX9_init_111 (tX7_init _ _ _ _ _) rfl rfl wV_X7_init wM_X9_42 ⟨le_t rfl, le_t rfl⟩ ⟨le_t rfl, le_t rfl⟩ rfl (le_t rfl) (fun _ _ h => h)
  refine sC.of rfl (by decide) (le_t rfl) ?_
  refine sv_aload_n (pc := 0) dX7_init_0 rfl rfl ?_
  refine sv_objinit (pc := 1) dX7_init_1 wM_X7_3 wV_obj wK_obj ⟨le_t rfl, le_t rfl⟩ (le_t rfl) ?_
  refine sv_aload_n (pc := 4) dX7_init_4 rfl rfl ?_
  refine sv_bipush (pc := 5) (v := 20) dX7_init_5 (by decide) ?_
  refine sw_newarray (pc := 7) (kd := 0) (a := 38) (n1 := 39) (N := 20) (ce1 := 1) (sl1 := 20) (v := .int 0) dX7_init_7 rfl wA_int rfl (fun U => sI_Cond_int U _) (by decide) (by decide) rfl (fun _ => rfl) rfl rfl rfl rfl rfl rfl ?_
  refine sw_putfinal (pc := 9) dX7_init_9 (gCX7 _ _ _ _ _) 0 (by decide) wF_X7_9 rfl rfl rfl rfl rfl (fun _ => rfl) (fun _ => rfl) rfl ?_
  refine sv_aload_n (pc := 12) dX7_init_12 rfl rfl ?_
  refine sv_bipush (pc := 13) (v := 8) dX7_init_13 (by decide) ?_
  refine sw_newarray (pc := 15) (kd := 0) (a := 39) (n1 := 40) (N := 8) (ce1 := 2) (sl1 := 28) (v := .int 0) dX7_init_15 rfl wA_int rfl (fun U => sI_Cond_int U _) (by decide) (by decide) rfl (fun _ => rfl) rfl rfl rfl rfl rfl rfl ?_
  refine sw_putfinal (pc := 17) dX7_init_17 (gCX7 _ _ _ _ _) 1 (by decide) wF_X7_15 rfl rfl rfl rfl rfl (fun _ => rfl) (fun _ => rfl) rfl ?_
  refine sv_aload_n (pc := 20) dX7_init_20 rfl rfl ?_
  refine sv_iconst (pc := 21) (v := (-1)) dX7_init_21 (by decide) ?_
  refine sw_putfield (pc := 22) dX7_init_22 (gCX7 _ _ _ _ _) 9 (by decide) wF_X7_18 rfl rfl rfl (fun _ => rfl) (fun _ => rfl) rfl ?_
  refine sv_vret (pc := 25) dX7_init_25 rfl (le_t rfl) (le_t rfl) ?_
  refine sw_aastore (pc := 114) (k := 5) dX9_init_114 (gCX7 _ _ _ _ _) rfl rfl rfl (by decide) (by decide) rfl rfl rfl ?_
  refine sw_iinc (pc := 115) (v := 6) dX9_init_115 rfl (by decide) (by decide) ?_
  refine sv_goto (pc := 118) (tgt := 77) dX9_init_118 (by decide) ?_
  refine sv_iload (pc := 77) dX9_init_77 rfl ?_
  refine sv_aload_n (pc := 79) dX9_init_79 rfl rfl ?_
  refine sw_getfield (pc := 80) dX9_init_80 (gCX9 _ _ _ _ _) 4 (by decide) wF_X9_35 rfl rfl rfl ?_
  refine sv_arraylength (pc := 83) (v := 20) (ty := .object RX7) dX9_init_83 rfl (lt_t rfl) rfl (by decide) ?_
  refine sv_icmp_ge (pc := 84) (tgt := 121) dX9_init_84 (by decide) (fun h => absurd h (by decide)) (fun _ => ?_)
  refine sv_aload_n (pc := 87) dX9_init_87 rfl rfl ?_
  refine sw_getfield (pc := 88) dX9_init_88 (gCX9 _ _ _ _ _) 4 (by decide) wF_X9_35 rfl rfl rfl ?_
  refine sv_iload (pc := 91) dX9_init_91 rfl ?_
  refine sw_new (pc := 93) (a := 40) (n1 := 41) (ce1 := 40) (sl1 := 536) (fs := zX7) dX9_init_93 (gCX7 _ _ _ _ _) wC_X9_33 wN_X7 wI_X7 zX7_ok rfl rfl rfl rfl rfl rfl ?_
  refine sv_dup (pc := 96) dX9_init_96 rfl ?_
  refine sv_callI (pc := 97) (M' := mX7_init) (d' := 4) (C' := 2) (S' := 28) (av := []) ?_ (gOk _ _ _ _ _) dX9_init_97 (tX7_init _ _ _ _ _) rfl rfl wV_X7_init wM_X9_42 ⟨le_t rfl, le_t rfl⟩ ⟨le_t rfl, le_t rfl⟩ rfl (le_t rfl) (fun _ _ h => h)
  refine sC.of rfl (by decide) (le_t rfl) ?_
  refine sv_aload_n (pc := 0) dX7_init_0 rfl rfl ?_
  refine sv_objinit (pc := 1) dX7_init_1 wM_X7_3 wV_obj wK_obj ⟨le_t rfl, le_t rfl⟩ (le_t rfl) ?_
  refine sv_aload_n (pc := 4) dX7_init_4 rfl rfl ?_
  refine sv_bipush (pc := 5) (v := 20) dX7_init_5 (by decide) ?_
  refine sw_newarray (pc := 7) (kd := 0) (a := 41) (n1 := 42) (N := 20) (ce1 := 1) (sl1 := 20) (v := .int 0) dX7_init_7 rfl wA_int rfl (fun U => sI_Cond_int U _) (by decide) (by decide) rfl (fun _ => rfl) rfl rfl rfl rfl rfl rfl ?_
  refine sw_putfinal (pc := 9) dX7_init_9 (gCX7 _ _ _ _ _) 0 (by decide) wF_X7_9 rfl rfl rfl rfl rfl (fun _ => rfl) (fun _ => rfl) rfl ?_
  refine sv_aload_n (pc := 12) dX7_init_12 rfl rfl ?_
  refine sv_bipush (pc := 13) (v := 8) dX7_init_13 (by decide) ?_
  refine sw_newarray (pc := 15) (kd := 0) (a := 42) (n1 := 43) (N := 8) (ce1 := 2) (sl1 := 28) (v := .int 0) dX7_init_15 rfl wA_int rfl (fun U => sI_Cond_int U _) (by decide) (by decide) rfl (fun _ => rfl) rfl rfl rfl rfl rfl rfl ?_
  refine sw_putfinal (pc := 17) dX7_init_17 (gCX7 _ _ _ _ _) 1 (by decide) wF_X7_15 rfl rfl rfl rfl rfl (fun _ => rfl) (fun _ => rfl) rfl ?_
  refine sv_aload_n (pc := 20) dX7_init_20 rfl rfl ?_
  refine sv_iconst (pc := 21) (v := (-1)) dX7_init_21 (by decide) ?_
  refine sw_putfield (pc := 22) dX7_init_22 (gCX7 _ _ _ _ _) 9 (by decide) wF_X7_18 rfl rfl rfl (fun _ => rfl) (fun _ => rfl) rfl ?_
  refine sv_vret (pc := 25) dX7_init_25 rfl (le_t rfl) (le_t rfl) ?_
  refine sw_aastore (pc := 100) (k := 6) dX9_init_100 (gCX7 _ _ _ _ _) rfl rfl rfl (by decide) (by decide) rfl rfl rfl ?_
  refine sv_aload_n (pc := 101) dX9_init_101 rfl rfl ?_
  refine sw_getfield (pc := 102) dX9_init_102 (gCX9 _ _ _ _ _) 5 (by decide) wF_X9_39 rfl rfl rfl ?_
  refine sv_iload (pc := 105) dX9_init_105 rfl ?_
  refine sw_new (pc := 107) (a := 43) (n1 := 44) (ce1 := 43) (sl1 := 576) (fs := zX7) dX9_init_107 (gCX7 _ _ _ _ _) wC_X9_33 wN_X7 wI_X7 zX7_ok rfl rfl rfl rfl rfl rfl ?_
  refine sv_dup (pc := 110) dX9_init_110 rfl ?_
  refine sv_callI (pc := 111) (M' := mX7_init) (d' := 4) (C' := 2) (S' := 28) (av := []) ?_ (gOk _ _ _ _ _) dX9_init_111 (tX7_init _ _ _ _ _) rfl rfl wV_X7_init wM_X9_42 ⟨le_t rfl, le_t rfl⟩ ⟨le_t rfl, le_t rfl⟩ rfl (le_t rfl) (fun _ _ h => h)
  refine sC.of rfl (by decide) (le_t rfl) ?_
  refine sv_aload_n (pc := 0) dX7_init_0 rfl rfl ?_
  refine sv_objinit (pc := 1) dX7_init_1 wM_X7_3 wV_obj wK_obj ⟨le_t rfl, le_t rfl⟩ (le_t rfl) ?_
  refine sv_aload_n (pc := 4) dX7_init_4 rfl rfl ?_
  refine sv_bipush (pc := 5) (v := 20) dX7_init_5 (by decide) ?_
  refine sw_newarray (pc := 7) (kd := 0) (a := 44) (n1 := 45) (N := 20) (ce1 := 1) (sl1 := 20) (v := .int 0) dX7_init_7 rfl wA_int rfl (fun U => sI_Cond_int U _) (by decide) (by decide) rfl (fun _ => rfl) rfl rfl rfl rfl rfl rfl ?_
  refine sw_putfinal (pc := 9) dX7_init_9 (gCX7 _ _ _ _ _) 0 (by decide) wF_X7_9 rfl rfl rfl rfl rfl (fun _ => rfl) (fun _ => rfl) rfl ?_
  refine sv_aload_n (pc := 12) dX7_init_12 rfl rfl ?_
  refine sv_bipush (pc := 13) (v := 8) dX7_init_13 (by decide) ?_
  refine sw_newarray (pc := 15) (kd := 0) (a := 45) (n1 := 46) (N := 8) (ce1 := 2) (sl1 := 28) (v := .int 0) dX7_init_15 rfl wA_int rfl (fun U => sI_Cond_int U _) (by decide) (by decide) rfl (fun _ => rfl) rfl rfl rfl rfl rfl rfl ?_
  refine sw_putfinal (pc := 17) dX7_init_17 (gCX7 _ _ _ _ _) 1 (by decide) wF_X7_15 rfl rfl rfl rfl rfl (fun _ => rfl) (fun _ => rfl) rfl ?_
  refine sv_aload_n (pc := 20) dX7_init_20 rfl rfl ?_
  refine sv_iconst (pc := 21) (v := (-1)) dX7_init_21 (by decide) ?_
  refine sw_putfield (pc := 22) dX7_init_22 (gCX7 _ _ _ _ _) 9 (by decide) wF_X7_18 rfl rfl rfl (fun _ => rfl) (fun _ => rfl) rfl ?_
  refine sv_vret (pc := 25) dX7_init_25 rfl (le_t rfl) (le_t rfl) ?_
  refine sw_aastore (pc := 114) (k := 6) dX9_init_114 (gCX7 _ _ _ _ _) rfl rfl rfl (by decide) (by decide) rfl rfl rfl ?_
  refine sw_iinc (pc := 115) (v := 7) dX9_init_115 rfl (by decide) (by decide) ?_
  refine sv_lvG (pc := 118) (lv' := [(0, .ref 0), (1, .int xa), (2, .int xb), (3, .int xk), (4, .int 7)]) (List.forall_mem_cons.mpr ⟨rfl, List.forall_mem_cons.mpr ⟨rfl, List.forall_mem_cons.mpr ⟨rfl, List.forall_mem_cons.mpr ⟨rfl, List.forall_mem_cons.mpr ⟨rfl, fun _ h => absurd h List.not_mem_nil⟩⟩⟩⟩⟩) ?_
  refine sv_goto (pc := 118) (tgt := 77) dX9_init_118 (by decide) ?_
  refine sv_iload (pc := 77) dX9_init_77 rfl ?_
  refine sv_aload_n (pc := 79) dX9_init_79 rfl rfl ?_
  refine sw_getfield (pc := 80) dX9_init_80 (gCX9 _ _ _ _ _) 4 (by decide) wF_X9_35 rfl rfl rfl ?_
  refine sv_arraylength (pc := 83) (v := 20) (ty := .object RX7) dX9_init_83 rfl (lt_t rfl) rfl (by decide) ?_
  refine sv_icmp_ge (pc := 84) (tgt := 121) dX9_init_84 (by decide) (fun h => absurd h (by decide)) (fun _ => ?_)
  refine sv_aload_n (pc := 87) dX9_init_87 rfl rfl ?_
  refine sw_getfield (pc := 88) dX9_init_88 (gCX9 _ _ _ _ _) 4 (by decide) wF_X9_35 rfl rfl rfl ?_
  refine sv_iload (pc := 91) dX9_init_91 rfl ?_
  refine sw_new (pc := 93) (a := 46) (n1 := 47) (ce1 := 46) (sl1 := 616) (fs := zX7) dX9_init_93 (gCX7 _ _ _ _ _) wC_X9_33 wN_X7 wI_X7 zX7_ok rfl rfl rfl rfl rfl rfl ?_
  refine sv_dup (pc := 96) dX9_init_96 rfl ?_
  refine sv_callI (pc := 97) (M' := mX7_init) (d' := 4) (C' := 2) (S' := 28) (av := []) ?_ (gOk _ _ _ _ _) dX9_init_97 (tX7_init _ _ _ _ _) rfl rfl wV_X7_init wM_X9_42 ⟨le_t rfl, le_t rfl⟩ ⟨le_t rfl, le_t rfl⟩ rfl (le_t rfl) (fun _ _ h => h)
  refine sC.of rfl (by decide) (le_t rfl) ?_
  refine sv_aload_n (pc := 0) dX7_init_0 rfl rfl ?_
  refine sv_objinit (pc := 1) dX7_init_1 wM_X7_3 wV_obj wK_obj ⟨le_t rfl, le_t rfl⟩ (le_t rfl) ?_
  refine sv_aload_n (pc := 4) dX7_init_4 rfl rfl ?_
  refine sv_bipush (pc := 5) (v := 20) dX7_init_5 (by decide) ?_
  refine sw_newarray (pc := 7) (kd := 0) (a := 47) (n1 := 48) (N := 20) (ce1 := 1) (sl1 := 20) (v := .int 0) dX7_init_7 rfl wA_int rfl (fun U => sI_Cond_int U _) (by decide) (by decide) rfl (fun _ => rfl) rfl rfl rfl rfl rfl rfl ?_
  refine sw_putfinal (pc := 9) dX7_init_9 (gCX7 _ _ _ _ _) 0 (by decide) wF_X7_9 rfl rfl rfl rfl rfl (fun _ => rfl) (fun _ => rfl) rfl ?_
  refine sv_aload_n (pc := 12) dX7_init_12 rfl rfl ?_
  refine sv_bipush (pc := 13) (v := 8) dX7_init_13 (by decide) ?_
  refine sw_newarray (pc := 15) (kd := 0) (a := 48) (n1 := 49) (N := 8) (ce1 := 2) (sl1 := 28) (v := .int 0) dX7_init_15 rfl wA_int rfl (fun U => sI_Cond_int U _) (by decide) (by decide) rfl (fun _ => rfl) rfl rfl rfl rfl rfl rfl ?_
  refine sw_putfinal (pc := 17) dX7_init_17 (gCX7 _ _ _ _ _) 1 (by decide) wF_X7_15 rfl rfl rfl rfl rfl (fun _ => rfl) (fun _ => rfl) rfl ?_
  refine sv_aload_n (pc := 20) dX7_init_20 rfl rfl ?_
  refine sv_iconst (pc := 21) (v := (-1)) dX7_init_21 (by decide) ?_
  refine sw_putfield (pc := 22) dX7_init_22 (gCX7 _ _ _ _ _) 9 (by decide) wF_X7_18 rfl rfl rfl (fun _ => rfl) (fun _ => rfl) rfl ?_
  refine sv_vret (pc := 25) dX7_init_25 rfl (le_t rfl) (le_t rfl) ?_
  refine sw_aastore (pc := 100) (k := 7) dX9_init_100 (gCX7 _ _ _ _ _) rfl rfl rfl (by decide) (by decide) rfl rfl rfl ?_
  refine sv_aload_n (pc := 101) dX9_init_101 rfl rfl ?_
  refine sw_getfield (pc := 102) dX9_init_102 (gCX9 _ _ _ _ _) 5 (by decide) wF_X9_39 rfl rfl rfl ?_
  refine sv_iload (pc := 105) dX9_init_105 rfl ?_
  refine sw_new (pc := 107) (a := 49) (n1 := 50) (ce1 := 49) (sl1 := 656) (fs := zX7) dX9_init_107 (gCX7 _ _ _ _ _) wC_X9_33 wN_X7 wI_X7 zX7_ok rfl rfl rfl rfl rfl rfl ?_
  refine sv_dup (pc := 110) dX9_init_110 rfl ?_
  refine sv_callI (pc := 111) (M' := mX7_init) (d' := 4) (C' := 2) (S' := 28) (av := []) ?_ (gOk _ _ _ _ _) dX9_init_111 (tX7_init _ _ _ _ _) rfl rfl wV_X7_init wM_X9_42 ⟨le_t rfl, le_t rfl⟩ ⟨le_t rfl, le_t rfl⟩ rfl (le_t rfl) (fun _ _ h => h)
  refine sC.of rfl (by decide) (le_t rfl) ?_
  refine sv_aload_n (pc := 0) dX7_init_0 rfl rfl ?_
  refine sv_objinit (pc := 1) dX7_init_1 wM_X7_3 wV_obj wK_obj ⟨le_t rfl, le_t rfl⟩ (le_t rfl) ?_
  refine sv_aload_n (pc := 4) dX7_init_4 rfl rfl ?_
  refine sv_bipush (pc := 5) (v := 20) dX7_init_5 (by decide) ?_
  refine sw_newarray (pc := 7) (kd := 0) (a := 50) (n1 := 51) (N := 20) (ce1 := 1) (sl1 := 20) (v := .int 0) dX7_init_7 rfl wA_int rfl (fun U => sI_Cond_int U _) (by decide) (by decide) rfl (fun _ => rfl) rfl rfl rfl rfl rfl rfl ?_
  refine sw_putfinal (pc := 9) dX7_init_9 (gCX7 _ _ _ _ _) 0 (by decide) wF_X7_9 rfl rfl rfl rfl rfl (fun _ => rfl) (fun _ => rfl) rfl ?_
  refine sv_aload_n (pc := 12) dX7_init_12 rfl rfl ?_
  refine sv_bipush (pc := 13) (v := 8) dX7_init_13 (by decide) ?_
  refine sw_newarray (pc := 15) (kd := 0) (a := 51) (n1 := 52) (N := 8) (ce1 := 2) (sl1 := 28) (v := .int 0) dX7_init_15 rfl wA_int rfl (fun U => sI_Cond_int U _) (by decide) (by decide) rfl (fun _ => rfl) rfl rfl rfl rfl rfl rfl ?_
  refine sw_putfinal (pc := 17) dX7_init_17 (gCX7 _ _ _ _ _) 1 (by decide) wF_X7_15 rfl rfl rfl rfl rfl (fun _ => rfl) (fun _ => rfl) rfl ?_
  refine sv_aload_n (pc := 20) dX7_init_20 rfl rfl ?_
  refine sv_iconst (pc := 21) (v := (-1)) dX7_init_21 (by decide) ?_
  refine sw_putfield (pc := 22) dX7_init_22 (gCX7 _ _ _ _ _) 9 (by decide) wF_X7_18 rfl rfl rfl (fun _ => rfl) (fun _ => rfl) rfl ?_
  refine sv_vret (pc := 25) dX7_init_25 rfl (le_t rfl) (le_t rfl) ?_
  refine sw_aastore (pc := 114) (k := 7) dX9_init_114 (gCX7 _ _ _ _ _) rfl rfl rfl (by decide) (by decide) rfl rfl rfl ?_
  refine sw_iinc (pc := 115) (v := 8) dX9_init_115 rfl (by decide) (by decide) ?_
  refine sv_goto (pc := 118) (tgt := 77) dX9_init_118 (by decide) ?_
  refine sv_iload (pc := 77) dX9_init_77 rfl ?_
  refine sv_aload_n (pc := 79) dX9_init_79 rfl rfl ?_
  refine sw_getfield (pc := 80) dX9_init_80 (gCX9 _ _ _ _ _) 4 (by decide) wF_X9_35 rfl rfl rfl ?_
  refine sv_arraylength (pc := 83) (v := 20) (ty := .object RX7) dX9_init_83 rfl (lt_t rfl) rfl (by decide) ?_
  refine sv_icmp_ge (pc := 84) (tgt := 121) dX9_init_84 (by decide) (fun h => absurd h (by decide)) (fun _ => ?_)
  refine sv_aload_n (pc := 87) dX9_init_87 rfl rfl ?_
  refine sw_getfield (pc := 88) dX9_init_88 (gCX9 _ _ _ _ _) 4 (by decide) wF_X9_35 rfl rfl rfl ?_
  refine sv_iload (pc := 91) dX9_init_91 rfl ?_
  refine sw_new (pc := 93) (a := 52) (n1 := 53) (ce1 := 52) (sl1 := 696) (fs := zX7) dX9_init_93 (gCX7 _ _ _ _ _) wC_X9_33 wN_X7 wI_X7 zX7_ok rfl rfl rfl rfl rfl rfl ?_
  refine sv_dup (pc := 96) dX9_init_96 rfl ?_
  refine sv_callI (pc := 97) (M' := mX7_init) (d' := 4) (C' := 2) (S' := 28) (av := []) ?_ (gOk _ _ _ _ _) dX9_init_97 (tX7_init _ _ _ _ _) rfl rfl wV_X7_init wM_X9_42 ⟨le_t rfl, le_t rfl⟩ ⟨le_t rfl, le_t rfl⟩ rfl (le_t rfl) (fun _ _ h => h)
  refine sC.of rfl (by decide) (le_t rfl) ?_
  refine sv_aload_n (pc := 0) dX7_init_0 rfl rfl ?_
  refine sv_objinit (pc := 1) dX7_init_1 wM_X7_3 wV_obj wK_obj ⟨le_t rfl, le_t rfl⟩ (le_t rfl) ?_
  refine sv_aload_n (pc := 4) dX7_init_4 rfl rfl ?_
  refine sv_bipush (pc := 5) (v := 20) dX7_init_5 (by decide) ?_
  refine sw_newarray (pc := 7) (kd := 0) (a := 53) (n1 := 54) (N := 20) (ce1 := 1) (sl1 := 20) (v := .int 0) dX7_init_7 rfl wA_int rfl (fun U => sI_Cond_int U _) (by decide) (by decide) rfl (fun _ => rfl) rfl rfl rfl rfl rfl rfl ?_
  refine sw_putfinal (pc := 9) dX7_init_9 (gCX7 _ _ _ _ _) 0 (by decide) wF_X7_9 rfl rfl rfl rfl rfl (fun _ => rfl) (fun _ => rfl) rfl ?_
  refine sv_aload_n (pc := 12) dX7_init_12 rfl rfl ?_
  refine sv_bipush (pc := 13) (v := 8) dX7_init_13 (by decide) ?_
  refine sw_newarray (pc := 15) (kd := 0) (a := 54) (n1 := 55) (N := 8) (ce1 := 2) (sl1 := 28) (v := .int 0) dX7_init_15 rfl wA_int rfl (fun U => sI_Cond_int U _) (by decide) (by decide) rfl (fun _ => rfl) rfl rfl rfl rfl rfl rfl ?_
  refine sw_putfinal (pc := 17) dX7_init_17 (gCX7 _ _ _ _ _) 1 (by decide) wF_X7_15 rfl rfl rfl rfl rfl (fun _ => rfl) (fun _ => rfl) rfl ?_
  refine sv_aload_n (pc := 20) dX7_init_20 rfl rfl ?_
  refine sv_iconst (pc := 21) (v := (-1)) dX7_init_21 (by decide) ?_
  refine sw_putfield (pc := 22) dX7_init_22 (gCX7 _ _ _ _ _) 9 (by decide) wF_X7_18 rfl rfl rfl (fun _ => rfl) (fun _ => rfl) rfl ?_
  refine sv_vret (pc := 25) dX7_init_25 rfl (le_t rfl) (le_t rfl) ?_
  refine sw_aastore (pc := 100) (k := 8) dX9_init_100 (gCX7 _ _ _ _ _) rfl rfl rfl (by decide) (by decide) rfl rfl rfl ?_
  refine sv_aload_n (pc := 101) dX9_init_101 rfl rfl ?_
  refine sw_getfield (pc := 102) dX9_init_102 (gCX9 _ _ _ _ _) 5 (by decide) wF_X9_39 rfl rfl rfl ?_
  refine sv_iload (pc := 105) dX9_init_105 rfl ?_
  refine sw_new (pc := 107) (a := 55) (n1 := 56) (ce1 := 55) (sl1 := 736) (fs := zX7) dX9_init_107 (gCX7 _ _ _ _ _) wC_X9_33 wN_X7 wI_X7 zX7_ok rfl rfl rfl rfl rfl rfl ?_
  refine sv_dup (pc := 110) dX9_init_110 rfl ?_
  refine sv_callI (pc := 111) (M' := mX7_init) (d' := 4) (C' := 2) (S' := 28) (av := []) ?_ (gOk _ _ _ _ _) dX9_init_111 (tX7_init _ _ _ _ _) rfl rfl wV_X7_init wM_X9_42 ⟨le_t rfl, le_t rfl⟩ ⟨le_t rfl, le_t rfl⟩ rfl (le_t rfl) (fun _ _ h => h)
  refine sC.of rfl (by decide) (le_t rfl) ?_
  refine sv_aload_n (pc := 0) dX7_init_0 rfl rfl ?_
  refine sv_objinit (pc := 1) dX7_init_1 wM_X7_3 wV_obj wK_obj ⟨le_t rfl, le_t rfl⟩ (le_t rfl) ?_
  refine sv_aload_n (pc := 4) dX7_init_4 rfl rfl ?_
  refine sv_bipush (pc := 5) (v := 20) dX7_init_5 (by decide) ?_
  refine sw_newarray (pc := 7) (kd := 0) (a := 56) (n1 := 57) (N := 20) (ce1 := 1) (sl1 := 20) (v := .int 0) dX7_init_7 rfl wA_int rfl (fun U => sI_Cond_int U _) (by decide) (by decide) rfl (fun _ => rfl) rfl rfl rfl rfl rfl rfl ?_
  refine sw_putfinal (pc := 9) dX7_init_9 (gCX7 _ _ _ _ _) 0 (by decide) wF_X7_9 rfl rfl rfl rfl rfl (fun _ => rfl) (fun _ => rfl) rfl ?_
  refine sv_aload_n (pc := 12) dX7_init_12 rfl rfl ?_
  refine sv_bipush (pc := 13) (v := 8) dX7_init_13 (by decide) ?_
  refine sw_newarray (pc := 15) (kd := 0) (a := 57) (n1 := 58) (N := 8) (ce1 := 2) (sl1 := 28) (v := .int 0) dX7_init_15 rfl wA_int rfl (fun U => sI_Cond_int U _) (by decide) (by decide) rfl (fun _ => rfl) rfl rfl rfl rfl rfl rfl ?_
  refine sw_putfinal (pc := 17) dX7_init_17 (gCX7 _ _ _ _ _) 1 (by decide) wF_X7_15 rfl rfl rfl rfl rfl (fun _ => rfl) (fun _ => rfl) rfl ?_
  refine sv_aload_n (pc := 20) dX7_init_20 rfl rfl ?_
  refine sv_iconst (pc := 21) (v := (-1)) dX7_init_21 (by decide) ?_
  refine sw_putfield (pc := 22) dX7_init_22 (gCX7 _ _ _ _ _) 9 (by decide) wF_X7_18 rfl rfl rfl (fun _ => rfl) (fun _ => rfl) rfl ?_
  refine sv_vret (pc := 25) dX7_init_25 rfl (le_t rfl) (le_t rfl) ?_
  refine sw_aastore (pc := 114) (k := 8) dX9_init_114 (gCX7 _ _ _ _ _) rfl rfl rfl (by decide) (by decide) rfl rfl rfl ?_
  refine sw_iinc (pc := 115) (v := 9) dX9_init_115 rfl (by decide) (by decide) ?_
  refine sv_goto (pc := 118) (tgt := 77) dX9_init_118 (by decide) ?_
  refine sv_iload (pc := 77) dX9_init_77 rfl ?_
  refine sv_aload_n (pc := 79) dX9_init_79 rfl rfl ?_
  refine sw_getfield (pc := 80) dX9_init_80 (gCX9 _ _ _ _ _) 4 (by decide) wF_X9_35 rfl rfl rfl ?_
  refine sv_arraylength (pc := 83) (v := 20) (ty := .object RX7) dX9_init_83 rfl (lt_t rfl) rfl (by decide) ?_
  refine sv_icmp_ge (pc := 84) (tgt := 121) dX9_init_84 (by decide) (fun h => absurd h (by decide)) (fun _ => ?_)
  refine sv_aload_n (pc := 87) dX9_init_87 rfl rfl ?_
  refine sw_getfield (pc := 88) dX9_init_88 (gCX9 _ _ _ _ _) 4 (by decide) wF_X9_35 rfl rfl rfl ?_
  refine sv_iload (pc := 91) dX9_init_91 rfl ?_
  refine sw_new (pc := 93) (a := 58) (n1 := 59) (ce1 := 58) (sl1 := 776) (fs := zX7) dX9_init_93 (gCX7 _ _ _ _ _) wC_X9_33 wN_X7 wI_X7 zX7_ok rfl rfl rfl rfl rfl rfl ?_
  refine sv_dup (pc := 96) dX9_init_96 rfl ?_
  refine sv_callI (pc := 97) (M' := mX7_init) (d' := 4) (C' := 2) (S' := 28) (av := []) ?_ (gOk _ _ _ _ _) dX9_init_97 (tX7_init _ _ _ _ _) rfl rfl wV_X7_init wM_X9_42 ⟨le_t rfl, le_t rfl⟩ ⟨le_t rfl, le_t rfl⟩ rfl (le_t rfl) (fun _ _ h => h)
  refine sC.of rfl (by decide) (le_t rfl) ?_
  refine sv_aload_n (pc := 0) dX7_init_0 rfl rfl ?_
  refine sv_objinit (pc := 1) dX7_init_1 wM_X7_3 wV_obj wK_obj ⟨le_t rfl, le_t rfl⟩ (le_t rfl) ?_
  refine sv_aload_n (pc := 4) dX7_init_4 rfl rfl ?_
  refine sv_bipush (pc := 5) (v := 20) dX7_init_5 (by decide) ?_
  refine sw_newarray (pc := 7) (kd := 0) (a := 59) (n1 := 60) (N := 20) (ce1 := 1) (sl1 := 20) (v := .int 0) dX7_init_7 rfl wA_int rfl (fun U => sI_Cond_int U _) (by decide) (by decide) rfl (fun _ => rfl) rfl rfl rfl rfl rfl rfl ?_
  refine sw_putfinal (pc := 9) dX7_init_9 (gCX7 _ _ _ _ _) 0 (by decide) wF_X7_9 rfl rfl rfl rfl rfl (fun _ => rfl) (fun _ => rfl) rfl ?_
  refine sv_aload_n (pc := 12) dX7_init_12 rfl rfl ?_
  refine sv_bipush (pc := 13) (v := 8) dX7_init_13 (by decide) ?_
  refine sw_newarray (pc := 15) (kd := 0) (a := 60) (n1 := 61) (N := 8) (ce1 := 2) (sl1 := 28) (v := .int 0) dX7_init_15 rfl wA_int rfl (fun U => sI_Cond_int U _) (by decide) (by decide) rfl (fun _ => rfl) rfl rfl rfl rfl rfl rfl ?_
  refine sw_putfinal (pc := 17) dX7_init_17 (gCX7 _ _ _ _ _) 1 (by decide) wF_X7_15 rfl rfl rfl rfl rfl (fun _ => rfl) (fun _ => rfl) rfl ?_
  refine sv_aload_n (pc := 20) dX7_init_20 rfl rfl ?_
  refine sv_iconst (pc := 21) (v := (-1)) dX7_init_21 (by decide) ?_
  refine sw_putfield (pc := 22) dX7_init_22 (gCX7 _ _ _ _ _) 9 (by decide) wF_X7_18 rfl rfl rfl (fun _ => rfl) (fun _ => rfl) rfl ?_
  refine sv_vret (pc := 25) dX7_init_25 rfl (le_t rfl) (le_t rfl) ?_
  refine sw_aastore (pc := 100) (k := 9) dX9_init_100 (gCX7 _ _ _ _ _) rfl rfl rfl (by decide) (by decide) rfl rfl rfl ?_
  refine sv_aload_n (pc := 101) dX9_init_101 rfl rfl ?_
  refine sw_getfield (pc := 102) dX9_init_102 (gCX9 _ _ _ _ _) 5 (by decide) wF_X9_39 rfl rfl rfl ?_
  refine sv_iload (pc := 105) dX9_init_105 rfl ?_
  refine sw_new (pc := 107) (a := 61) (n1 := 62) (ce1 := 61) (sl1 := 816) (fs := zX7) dX9_init_107 (gCX7 _ _ _ _ _) wC_X9_33 wN_X7 wI_X7 zX7_ok rfl rfl rfl rfl rfl rfl ?_
  refine sv_dup (pc := 110) dX9_init_110 rfl ?_
  refine sv_callI (pc := 111) (M' := mX7_init) (d' := 4) (C' := 2) (S' := 28) (av := []) ?_ (gOk _ _ _ _ _) dX9_init_111 (tX7_init _ _ _ _ _) rfl rfl wV_X7_init wM_X9_42 ⟨le_t rfl, le_t rfl⟩ ⟨le_t rfl, le_t rfl⟩ rfl (le_t rfl) (fun _ _ h => h)
  refine sC.of rfl (by decide) (le_t rfl) ?_
  refine sv_aload_n (pc := 0) dX7_init_0 rfl rfl ?_
  refine sv_objinit (pc := 1) dX7_init_1 wM_X7_3 wV_obj wK_obj ⟨le_t rfl, le_t rfl⟩ (le_t rfl) ?_
  refine sv_aload_n (pc := 4) dX7_init_4 rfl rfl ?_
  refine sv_bipush (pc := 5) (v := 20) dX7_init_5 (by decide) ?_
  refine sw_newarray (pc := 7) (kd := 0) (a := 62) (n1 := 63) (N := 20) (ce1 := 1) (sl1 := 20) (v := .int 0) dX7_init_7 rfl wA_int rfl (fun U => sI_Cond_int U _) (by decide) (by decide) rfl (fun _ => rfl) rfl rfl rfl rfl rfl rfl ?_
  refine sw_putfinal (pc := 9) dX7_init_9 (gCX7 _ _ _ _ _) 0 (by decide) wF_X7_9 rfl rfl rfl rfl rfl (fun _ => rfl) (fun _ => rfl) rfl ?_
  refine sv_aload_n (pc := 12) dX7_init_12 rfl rfl ?_
  refine sv_bipush (pc := 13) (v := 8) dX7_init_13 (by decide) ?_
  refine sw_newarray (pc := 15) (kd := 0) (a := 63) (n1 := 64) (N := 8) (ce1 := 2) (sl1 := 28) (v := .int 0) dX7_init_15 rfl wA_int rfl (fun U => sI_Cond_int U _) (by decide) (by decide) rfl (fun _ => rfl) rfl rfl rfl rfl rfl rfl ?_
  refine sw_putfinal (pc := 17) dX7_init_17 (gCX7 _ _ _ _ _) 1 (by decide) wF_X7_15 rfl rfl rfl rfl rfl (fun _ => rfl) (fun _ => rfl) rfl ?_
  refine sv_aload_n (pc := 20) dX7_init_20 rfl rfl ?_
  refine sv_iconst (pc := 21) (v := (-1)) dX7_init_21 (by decide) ?_
  refine sw_putfield (pc := 22) dX7_init_22 (gCX7 _ _ _ _ _) 9 (by decide) wF_X7_18 rfl rfl rfl (fun _ => rfl) (fun _ => rfl) rfl ?_
  refine sv_vret (pc := 25) dX7_init_25 rfl (le_t rfl) (le_t rfl) ?_
  refine sw_aastore (pc := 114) (k := 9) dX9_init_114 (gCX7 _ _ _ _ _) rfl rfl rfl (by decide) (by decide) rfl rfl rfl ?_
  refine sw_iinc (pc := 115) (v := 10) dX9_init_115 rfl (by decide) (by decide) ?_
  refine sv_goto (pc := 118) (tgt := 77) dX9_init_118 (by decide) ?_
  refine sv_iload (pc := 77) dX9_init_77 rfl ?_
  refine sv_aload_n (pc := 79) dX9_init_79 rfl rfl ?_
  refine sw_getfield (pc := 80) dX9_init_80 (gCX9 _ _ _ _ _) 4 (by decide) wF_X9_35 rfl rfl rfl ?_
  refine sv_arraylength (pc := 83) (v := 20) (ty := .object RX7) dX9_init_83 rfl (lt_t rfl) rfl (by decide) ?_
  refine sv_icmp_ge (pc := 84) (tgt := 121) dX9_init_84 (by decide) (fun h => absurd h (by decide)) (fun _ => ?_)
  refine sv_aload_n (pc := 87) dX9_init_87 rfl rfl ?_
  refine sw_getfield (pc := 88) dX9_init_88 (gCX9 _ _ _ _ _) 4 (by decide) wF_X9_35 rfl rfl rfl ?_
  refine sv_iload (pc := 91) dX9_init_91 rfl ?_
  refine sw_new (pc := 93) (a := 64) (n1 := 65) (ce1 := 64) (sl1 := 856) (fs := zX7) dX9_init_93 (gCX7 _ _ _ _ _) wC_X9_33 wN_X7 wI_X7 zX7_ok rfl rfl rfl rfl rfl rfl ?_
  refine sv_dup (pc := 96) dX9_init_96 rfl ?_
  refine sv_callI (pc := 97) (M' := mX7_init) (d' := 4) (C' := 2) (S' := 28) (av := []) ?_ (gOk _ _ _ _ _) dX9_init_97 (tX7_init _ _ _ _ _) rfl rfl wV_X7_init wM_X9_42 ⟨le_t rfl, le_t rfl⟩ ⟨le_t rfl, le_t rfl⟩ rfl (le_t rfl) (fun _ _ h => h)
  refine sC.of rfl (by decide) (le_t rfl) ?_
  refine sv_aload_n (pc := 0) dX7_init_0 rfl rfl ?_
  refine sv_objinit (pc := 1) dX7_init_1 wM_X7_3 wV_obj wK_obj ⟨le_t rfl, le_t rfl⟩ (le_t rfl) ?_
  refine sv_aload_n (pc := 4) dX7_init_4 rfl rfl ?_
  refine sv_bipush (pc := 5) (v := 20) dX7_init_5 (by decide) ?_
  refine sw_newarray (pc := 7) (kd := 0) (a := 65) (n1 := 66) (N := 20) (ce1 := 1) (sl1 := 20) (v := .int 0) dX7_init_7 rfl wA_int rfl (fun U => sI_Cond_int U _) (by decide) (by decide) rfl (fun _ => rfl) rfl rfl rfl rfl rfl rfl ?_
  refine sw_putfinal (pc := 9) dX7_init_9 (gCX7 _ _ _ _ _) 0 (by decide) wF_X7_9 rfl rfl rfl rfl rfl (fun _ => rfl) (fun _ => rfl) rfl ?_
  refine sv_aload_n (pc := 12) dX7_init_12 rfl rfl ?_
  refine sv_bipush (pc := 13) (v := 8) dX7_init_13 (by decide) ?_
  refine sw_newarray (pc := 15) (kd := 0) (a := 66) (n1 := 67) (N := 8) (ce1 := 2) (sl1 := 28) (v := .int 0) dX7_init_15 rfl wA_int rfl (fun U => sI_Cond_int U _) (by decide) (by decide) rfl (fun _ => rfl) rfl rfl rfl rfl rfl rfl ?_
  refine sw_putfinal (pc := 17) dX7_init_17 (gCX7 _ _ _ _ _) 1 (by decide) wF_X7_15 rfl rfl rfl rfl rfl (fun _ => rfl) (fun _ => rfl) rfl ?_
  refine sv_aload_n (pc := 20) dX7_init_20 rfl rfl ?_
  refine sv_iconst (pc := 21) (v := (-1)) dX7_init_21 (by decide) ?_
  refine sw_putfield (pc := 22) dX7_init_22 (gCX7 _ _ _ _ _) 9 (by decide) wF_X7_18 rfl rfl rfl (fun _ => rfl) (fun _ => rfl) rfl ?_
  refine sv_vret (pc := 25) dX7_init_25 rfl (le_t rfl) (le_t rfl) ?_
  refine sw_aastore (pc := 100) (k := 10) dX9_init_100 (gCX7 _ _ _ _ _) rfl rfl rfl (by decide) (by decide) rfl rfl rfl ?_
  refine sv_aload_n (pc := 101) dX9_init_101 rfl rfl ?_
  refine sw_getfield (pc := 102) dX9_init_102 (gCX9 _ _ _ _ _) 5 (by decide) wF_X9_39 rfl rfl rfl ?_
  refine sv_iload (pc := 105) dX9_init_105 rfl ?_
  refine sw_new (pc := 107) (a := 67) (n1 := 68) (ce1 := 67) (sl1 := 896) (fs := zX7) dX9_init_107 (gCX7 _ _ _ _ _) wC_X9_33 wN_X7 wI_X7 zX7_ok rfl rfl rfl rfl rfl rfl ?_
  refine sv_dup (pc := 110) dX9_init_110 rfl ?_
  refine sv_callI (pc := 111) (M' := mX7_init) (d' := 4) (C' := 2) (S' := 28) (av := []) ?_ (gOk _ _ _ _ _) dX9_init_111 (tX7_init _ _ _ _ _) rfl rfl wV_X7_init wM_X9_42 ⟨le_t rfl, le_t rfl⟩ ⟨le_t rfl, le_t rfl⟩ rfl (le_t rfl) (fun _ _ h => h)
  refine sC.of rfl (by decide) (le_t rfl) ?_
  refine sv_aload_n (pc := 0) dX7_init_0 rfl rfl ?_
  refine sv_objinit (pc := 1) dX7_init_1 wM_X7_3 wV_obj wK_obj ⟨le_t rfl, le_t rfl⟩ (le_t rfl) ?_
  refine sv_aload_n (pc := 4) dX7_init_4 rfl rfl ?_
  refine sv_bipush (pc := 5) (v := 20) dX7_init_5 (by decide) ?_
  refine sw_newarray (pc := 7) (kd := 0) (a := 68) (n1 := 69) (N := 20) (ce1 := 1) (sl1 := 20) (v := .int 0) dX7_init_7 rfl wA_int rfl (fun U => sI_Cond_int U _) (by decide) (by decide) rfl (fun _ => rfl) rfl rfl rfl rfl rfl rfl ?_
  refine sw_putfinal (pc := 9) dX7_init_9 (gCX7 _ _ _ _ _) 0 (by decide) wF_X7_9 rfl rfl rfl rfl rfl (fun _ => rfl) (fun _ => rfl) rfl ?_
  refine sv_aload_n (pc := 12) dX7_init_12 rfl rfl ?_
  refine sv_bipush (pc := 13) (v := 8) dX7_init_13 (by decide) ?_
  refine sw_newarray (pc := 15) (kd := 0) (a := 69) (n1 := 70) (N := 8) (ce1 := 2) (sl1 := 28) (v := .int 0) dX7_init_15 rfl wA_int rfl (fun U => sI_Cond_int U _) (by decide) (by decide) rfl (fun _ => rfl) rfl rfl rfl rfl rfl rfl ?_
  refine sw_putfinal (pc := 17) dX7_init_17 (gCX7 _ _ _ _ _) 1 (by decide) wF_X7_15 rfl rfl rfl rfl rfl (fun _ => rfl) (fun _ => rfl) rfl ?_
  refine sv_aload_n (pc := 20) dX7_init_20 rfl rfl ?_
  refine sv_iconst (pc := 21) (v := (-1)) dX7_init_21 (by decide) ?_
  refine sw_putfield (pc := 22) dX7_init_22 (gCX7 _ _ _ _ _) 9 (by decide) wF_X7_18 rfl rfl rfl (fun _ => rfl) (fun _ => rfl) rfl ?_
  refine sv_vret (pc := 25) dX7_init_25 rfl (le_t rfl) (le_t rfl) ?_
  refine sw_aastore (pc := 114) (k := 10) dX9_init_114 (gCX7 _ _ _ _ _) rfl rfl rfl (by decide) (by decide) rfl rfl rfl ?_
  refine sw_iinc (pc := 115) (v := 11) dX9_init_115 rfl (by decide) (by decide) ?_
  refine sv_goto (pc := 118) (tgt := 77) dX9_init_118 (by decide) ?_
  refine sv_iload (pc := 77) dX9_init_77 rfl ?_
  refine sv_aload_n (pc := 79) dX9_init_79 rfl rfl ?_
  refine sw_getfield (pc := 80) dX9_init_80 (gCX9 _ _ _ _ _) 4 (by decide) wF_X9_35 rfl rfl rfl ?_
  refine sv_arraylength (pc := 83) (v := 20) (ty := .object RX7) dX9_init_83 rfl (lt_t rfl) rfl (by decide) ?_
  refine sv_icmp_ge (pc := 84) (tgt := 121) dX9_init_84 (by decide) (fun h => absurd h (by decide)) (fun _ => ?_)
  refine sv_aload_n (pc := 87) dX9_init_87 rfl rfl ?_
  refine sw_getfield (pc := 88) dX9_init_88 (gCX9 _ _ _ _ _) 4 (by decide) wF_X9_35 rfl rfl rfl ?_
  refine sv_iload (pc := 91) dX9_init_91 rfl ?_
  refine sw_new (pc := 93) (a := 70) (n1 := 71) (ce1 := 70) (sl1 := 936) (fs := zX7) dX9_init_93 (gCX7 _ _ _ _ _) wC_X9_33 wN_X7 wI_X7 zX7_ok rfl rfl rfl rfl rfl rfl ?_
  refine sv_dup (pc := 96) dX9_init_96 rfl ?_
  refine sv_callI (pc := 97) (M' := mX7_init) (d' := 4) (C' := 2) (S' := 28) (av := []) ?_ (gOk _ _ _ _ _) dX9_init_97 (tX7_init _ _ _ _ _) rfl rfl wV_X7_init wM_X9_42 ⟨le_t rfl, le_t rfl⟩ ⟨le_t rfl, le_t rfl⟩ rfl (le_t rfl) (fun _ _ h => h)
  refine sC.of rfl (by decide) (le_t rfl) ?_
  refine sv_aload_n (pc := 0) dX7_init_0 rfl rfl ?_
  refine sv_objinit (pc := 1) dX7_init_1 wM_X7_3 wV_obj wK_obj ⟨le_t rfl, le_t rfl⟩ (le_t rfl) ?_
  refine sv_aload_n (pc := 4) dX7_init_4 rfl rfl ?_
  refine sv_bipush (pc := 5) (v := 20) dX7_init_5 (by decide) ?_
  refine sw_newarray (pc := 7) (kd := 0) (a := 71) (n1 := 72) (N := 20) (ce1 := 1) (sl1 := 20) (v := .int 0) dX7_init_7 rfl wA_int rfl (fun U => sI_Cond_int U _) (by decide) (by decide) rfl (fun _ => rfl) rfl rfl rfl rfl rfl rfl ?_
  refine sw_putfinal (pc := 9) dX7_init_9 (gCX7 _ _ _ _ _) 0 (by decide) wF_X7_9 rfl rfl rfl rfl rfl (fun _ => rfl) (fun _ => rfl) rfl ?_
  refine sv_aload_n (pc := 12) dX7_init_12 rfl rfl ?_
  refine sv_bipush (pc := 13) (v := 8) dX7_init_13 (by decide) ?_
  refine sw_newarray (pc := 15) (kd := 0) (a := 72) (n1 := 73) (N := 8) (ce1 := 2) (sl1 := 28) (v := .int 0) dX7_init_15 rfl wA_int rfl (fun U => sI_Cond_int U _) (by decide) (by decide) rfl (fun _ => rfl) rfl rfl rfl rfl rfl rfl ?_
  refine sw_putfinal (pc := 17) dX7_init_17 (gCX7 _ _ _ _ _) 1 (by decide) wF_X7_15 rfl rfl rfl rfl rfl (fun _ => rfl) (fun _ => rfl) rfl ?_
  refine sv_aload_n (pc := 20) dX7_init_20 rfl rfl ?_
  refine sv_iconst (pc := 21) (v := (-1)) dX7_init_21 (by decide) ?_
  refine sw_putfield (pc := 22) dX7_init_22 (gCX7 _ _ _ _ _) 9 (by decide) wF_X7_18 rfl rfl rfl (fun _ => rfl) (fun _ => rfl) rfl ?_
  refine sv_vret (pc := 25) dX7_init_25 rfl (le_t rfl) (le_t rfl) ?_
  refine sw_aastore (pc := 100) (k := 11) dX9_init_100 (gCX7 _ _ _ _ _) rfl rfl rfl (by decide) (by decide) rfl rfl rfl ?_
  refine sv_aload_n (pc := 101) dX9_init_101 rfl rfl ?_
  refine sw_getfield (pc := 102) dX9_init_102 (gCX9 _ _ _ _ _) 5 (by decide) wF_X9_39 rfl rfl rfl ?_
  refine sv_iload (pc := 105) dX9_init_105 rfl ?_
  refine sw_new (pc := 107) (a := 73) (n1 := 74) (ce1 := 73) (sl1 := 976) (fs := zX7) dX9_init_107 (gCX7 _ _ _ _ _) wC_X9_33 wN_X7 wI_X7 zX7_ok rfl rfl rfl rfl rfl rfl ?_
  refine sv_dup (pc := 110) dX9_init_110 rfl ?_
  refine sv_callI (pc := 111) (M' := mX7_init) (d' := 4) (C' := 2) (S' := 28) (av := []) ?_ (gOk _ _ _ _ _) dX9_init_111 (tX7_init _ _ _ _ _) rfl rfl wV_X7_init wM_X9_42 ⟨le_t rfl, le_t rfl⟩ ⟨le_t rfl, le_t rfl⟩ rfl (le_t rfl) (fun _ _ h => h)
  refine sC.of rfl (by decide) (le_t rfl) ?_
  refine sv_aload_n (pc := 0) dX7_init_0 rfl rfl ?_
  refine sv_objinit (pc := 1) dX7_init_1 wM_X7_3 wV_obj wK_obj ⟨le_t rfl, le_t rfl⟩ (le_t rfl) ?_
  refine sv_aload_n (pc := 4) dX7_init_4 rfl rfl ?_
  refine sv_bipush (pc := 5) (v := 20) dX7_init_5 (by decide) ?_
  refine sw_newarray (pc := 7) (kd := 0) (a := 74) (n1 := 75) (N := 20) (ce1 := 1) (sl1 := 20) (v := .int 0) dX7_init_7 rfl wA_int rfl (fun U => sI_Cond_int U _) (by decide) (by decide) rfl (fun _ => rfl) rfl rfl rfl rfl rfl rfl ?_
  refine sw_putfinal (pc := 9) dX7_init_9 (gCX7 _ _ _ _ _) 0 (by decide) wF_X7_9 rfl rfl rfl rfl rfl (fun _ => rfl) (fun _ => rfl) rfl ?_
  refine sv_aload_n (pc := 12) dX7_init_12 rfl rfl ?_
  refine sv_bipush (pc := 13) (v := 8) dX7_init_13 (by decide) ?_
  refine sw_newarray (pc := 15) (kd := 0) (a := 75) (n1 := 76) (N := 8) (ce1 := 2) (sl1 := 28) (v := .int 0) dX7_init_15 rfl wA_int rfl (fun U => sI_Cond_int U _) (by decide) (by decide) rfl (fun _ => rfl) rfl rfl rfl rfl rfl rfl ?_
  refine sw_putfinal (pc := 17) dX7_init_17 (gCX7 _ _ _ _ _) 1 (by decide) wF_X7_15 rfl rfl rfl rfl rfl (fun _ => rfl) (fun _ => rfl) rfl ?_
  refine sv_aload_n (pc := 20) dX7_init_20 rfl rfl ?_
  refine sv_iconst (pc := 21) (v := (-1)) dX7_init_21 (by decide) ?_
  refine sw_putfield (pc := 22) dX7_init_22 (gCX7 _ _ _ _ _) 9 (by decide) wF_X7_18 rfl rfl rfl (fun _ => rfl) (fun _ => rfl) rfl ?_
  refine sv_vret (pc := 25) dX7_init_25 rfl (le_t rfl) (le_t rfl) ?_
  refine sw_aastore (pc := 114) (k := 11) dX9_init_114 (gCX7 _ _ _ _ _) rfl rfl rfl (by decide) (by decide) rfl rfl rfl ?_
  refine sw_iinc (pc := 115) (v := 12) dX9_init_115 rfl (by decide) (by decide) ?_
  refine sv_goto (pc := 118) (tgt := 77) dX9_init_118 (by decide) ?_
  refine sv_iload (pc := 77) dX9_init_77 rfl ?_
  refine sv_aload_n (pc := 79) dX9_init_79 rfl rfl ?_
  refine sw_getfield (pc := 80) dX9_init_80 (gCX9 _ _ _ _ _) 4 (by decide) wF_X9_35 rfl rfl rfl ?_
  refine sv_arraylength (pc := 83) (v := 20) (ty := .object RX7) dX9_init_83 rfl (lt_t rfl) rfl (by decide) ?_
  refine sv_icmp_ge (pc := 84) (tgt := 121) dX9_init_84 (by decide) (fun h => absurd h (by decide)) (fun _ => ?_)
  refine sv_aload_n (pc := 87) dX9_init_87 rfl rfl ?_
  refine sw_getfield (pc := 88) dX9_init_88 (gCX9 _ _ _ _ _) 4 (by decide) wF_X9_35 rfl rfl rfl ?_
  refine sv_iload (pc := 91) dX9_init_91 rfl ?_
  refine sw_new (pc := 93) (a := 76) (n1 := 77) (ce1 := 76) (sl1 := 1016) (fs := zX7) dX9_init_93 (gCX7 _ _ _ _ _) wC_X9_33 wN_X7 wI_X7 zX7_ok rfl rfl rfl rfl rfl rfl ?_
  refine sv_dup (pc := 96) dX9_init_96 rfl ?_
  refine sv_callI (pc := 97) (M' := mX7_init) (d' := 4) (C' := 2) (S' := 28) (av := []) ?_ (gOk _ _ _ _ _) dX9_init_97 (tX7_init _ _ _ _ _) rfl rfl wV_X7_init wM_X9_42 ⟨le_t rfl, le_t rfl⟩ ⟨le_t rfl, le_t rfl⟩ rfl (le_t rfl) (fun _ _ h => h)
  refine sC.of rfl (by decide) (le_t rfl) ?_
  refine sv_aload_n (pc := 0) dX7_init_0 rfl rfl ?_
  refine sv_objinit (pc := 1) dX7_init_1 wM_X7_3 wV_obj wK_obj ⟨le_t rfl, le_t rfl⟩ (le_t rfl) ?_
  refine sv_aload_n (pc := 4) dX7_init_4 rfl rfl ?_
  refine sv_bipush (pc := 5) (v := 20) dX7_init_5 (by decide) ?_
  refine sw_newarray (pc := 7) (kd := 0) (a := 77) (n1 := 78) (N := 20) (ce1 := 1) (sl1 := 20) (v := .int 0) dX7_init_7 rfl wA_int rfl (fun U => sI_Cond_int U _) (by decide) (by decide) rfl (fun _ => rfl) rfl rfl rfl rfl rfl rfl ?_
  refine sw_putfinal (pc := 9) dX7_init_9 (gCX7 _ _ _ _ _) 0 (by decide) wF_X7_9 rfl rfl rfl rfl rfl (fun _ => rfl) (fun _ => rfl) rfl ?_
  refine sv_aload_n (pc := 12) dX7_init_12 rfl rfl ?_
  refine sv_bipush (pc := 13) (v := 8) dX7_init_13 (by decide) ?_
  refine sw_newarray (pc := 15) (kd := 0) (a := 78) (n1 := 79) (N := 8) (ce1 := 2) (sl1 := 28) (v := .int 0) dX7_init_15 rfl wA_int rfl (fun U => sI_Cond_int U _) (by decide) (by decide) rfl (fun _ => rfl) rfl rfl rfl rfl rfl rfl ?_
  refine sw_putfinal (pc := 17) dX7_init_17 (gCX7 _ _ _ _ _) 1 (by decide) wF_X7_15 rfl rfl rfl rfl rfl (fun _ => rfl) (fun _ => rfl) rfl ?_
  refine sv_aload_n (pc := 20) dX7_init_20 rfl rfl ?_
  refine sv_iconst (pc := 21) (v := (-1)) dX7_init_21 (by decide) ?_
  refine sw_putfield (pc := 22) dX7_init_22 (gCX7 _ _ _ _ _) 9 (by decide) wF_X7_18 rfl rfl rfl (fun _ => rfl) (fun _ => rfl) rfl ?_
  refine sv_vret (pc := 25) dX7_init_25 rfl (le_t rfl) (le_t rfl) ?_
  refine sw_aastore (pc := 100) (k := 12) dX9_init_100 (gCX7 _ _ _ _ _) rfl rfl rfl (by decide) (by decide) rfl rfl rfl ?_
  refine sv_aload_n (pc := 101) dX9_init_101 rfl rfl ?_
  refine sw_getfield (pc := 102) dX9_init_102 (gCX9 _ _ _ _ _) 5 (by decide) wF_X9_39 rfl rfl rfl ?_
  refine sv_iload (pc := 105) dX9_init_105 rfl ?_
  refine sw_new (pc := 107) (a := 79) (n1 := 80) (ce1 := 79) (sl1 := 1056) (fs := zX7) dX9_init_107 (gCX7 _ _ _ _ _) wC_X9_33 wN_X7 wI_X7 zX7_ok rfl rfl rfl rfl rfl rfl ?_
  refine sv_dup (pc := 110) dX9_init_110 rfl ?_
  refine sv_callI (pc := 111) (M' := mX7_init) (d' := 4) (C' := 2) (S' := 28) (av := []) ?_ (gOk _ _ _ _ _) dX9_init_111 (tX7_init _ _ _ _ _) rfl rfl wV_X7_init wM_X9_42 ⟨le_t rfl, le_t rfl⟩ ⟨le_t rfl, le_t rfl⟩ rfl (le_t rfl) (fun _ _ h => h)
  refine sC.of rfl (by decide) (le_t rfl) ?_
  refine sv_aload_n (pc := 0) dX7_init_0 rfl rfl ?_
  refine sv_objinit (pc := 1) dX7_init_1 wM_X7_3 wV_obj wK_obj ⟨le_t rfl, le_t rfl⟩ (le_t rfl) ?_
  refine sv_aload_n (pc := 4) dX7_init_4 rfl rfl ?_
  refine sv_bipush (pc := 5) (v := 20) dX7_init_5 (by decide) ?_
  refine sw_newarray (pc := 7) (kd := 0) (a := 80) (n1 := 81) (N := 20) (ce1 := 1) (sl1 := 20) (v := .int 0) dX7_init_7 rfl wA_int rfl (fun U => sI_Cond_int U _) (by decide) (by decide) rfl (fun _ => rfl) rfl rfl rfl rfl rfl rfl ?_
  refine sw_putfinal (pc := 9) dX7_init_9 (gCX7 _ _ _ _ _) 0 (by decide) wF_X7_9 rfl rfl rfl rfl rfl (fun _ => rfl) (fun _ => rfl) rfl ?_
  refine sv_aload_n (pc := 12) dX7_init_12 rfl rfl ?_
  refine sv_bipush (pc := 13) (v := 8) dX7_init_13 (by decide) ?_
  refine sw_newarray (pc := 15) (kd := 0) (a := 81) (n1 := 82) (N := 8) (ce1 := 2) (sl1 := 28) (v := .int 0) dX7_init_15 rfl wA_int rfl (fun U => sI_Cond_int U _) (by decide) (by decide) rfl (fun _ => rfl) rfl rfl rfl rfl rfl rfl ?_
  refine sw_putfinal (pc := 17) dX7_init_17 (gCX7 _ _ _ _ _) 1 (by decide) wF_X7_15 rfl rfl rfl rfl rfl (fun _ => rfl) (fun _ => rfl) rfl ?_
  refine sv_aload_n (pc := 20) dX7_init_20 rfl rfl ?_
  refine sv_iconst (pc := 21) (v := (-1)) dX7_init_21 (by decide) ?_
  refine sw_putfield (pc := 22) dX7_init_22 (gCX7 _ _ _ _ _) 9 (by decide) wF_X7_18 rfl rfl rfl (fun _ => rfl) (fun _ => rfl) rfl ?_
  refine sv_vret (pc := 25) dX7_init_25 rfl (le_t rfl) (le_t rfl) ?_
  refine sw_aastore (pc := 114) (k := 12) dX9_init_114 (gCX7 _ _ _ _ _) rfl rfl rfl (by decide) (by decide) rfl rfl rfl ?_
  refine sw_iinc (pc := 115) (v := 13) dX9_init_115 rfl (by decide) (by decide) ?_
  refine sv_goto (pc := 118) (tgt := 77) dX9_init_118 (by decide) ?_
  refine sv_iload (pc := 77) dX9_init_77 rfl ?_
  refine sv_aload_n (pc := 79) dX9_init_79 rfl rfl ?_
  refine sw_getfield (pc := 80) dX9_init_80 (gCX9 _ _ _ _ _) 4 (by decide) wF_X9_35 rfl rfl rfl ?_
  refine sv_arraylength (pc := 83) (v := 20) (ty := .object RX7) dX9_init_83 rfl (lt_t rfl) rfl (by decide) ?_
  refine sv_icmp_ge (pc := 84) (tgt := 121) dX9_init_84 (by decide) (fun h => absurd h (by decide)) (fun _ => ?_)
  refine sv_aload_n (pc := 87) dX9_init_87 rfl rfl ?_
  refine sw_getfield (pc := 88) dX9_init_88 (gCX9 _ _ _ _ _) 4 (by decide) wF_X9_35 rfl rfl rfl ?_
  refine sv_iload (pc := 91) dX9_init_91 rfl ?_
  refine sw_new (pc := 93) (a := 82) (n1 := 83) (ce1 := 82) (sl1 := 1096) (fs := zX7) dX9_init_93 (gCX7 _ _ _ _ _) wC_X9_33 wN_X7 wI_X7 zX7_ok rfl rfl rfl rfl rfl rfl ?_
  refine sv_dup (pc := 96) dX9_init_96 rfl ?_
  refine sv_callI (pc := 97) (M' := mX7_init) (d' := 4) (C' := 2) (S' := 28) (av := []) ?_ (gOk _ _ _ _ _) dX9_init_97 (tX7_init _ _ _ _ _) rfl rfl wV_X7_init wM_X9_42 ⟨le_t rfl, le_t rfl⟩ ⟨le_t rfl, le_t rfl⟩ rfl (le_t rfl) (fun _ _ h => h)
  refine sC.of rfl (by decide) (le_t rfl) ?_
  refine sv_aload_n (pc := 0) dX7_init_0 rfl rfl ?_
  refine sv_objinit (pc := 1) dX7_init_1 wM_X7_3 wV_obj wK_obj ⟨le_t rfl, le_t rfl⟩ (le_t rfl) ?_
  refine sv_aload_n (pc := 4) dX7_init_4 rfl rfl ?_
  refine sv_bipush (pc := 5) (v := 20) dX7_init_5 (by decide) ?_
  refine sw_newarray (pc := 7) (kd := 0) (a := 83) (n1 := 84) (N := 20) (ce1 := 1) (sl1 := 20) (v := .int 0) dX7_init_7 rfl wA_int rfl (fun U => sI_Cond_int U _) (by decide) (by decide) rfl (fun _ => rfl) rfl rfl rfl rfl rfl rfl ?_
  refine sw_putfinal (pc := 9) dX7_init_9 (gCX7 _ _ _ _ _) 0 (by decide) wF_X7_9 rfl rfl rfl rfl rfl (fun _ => rfl) (fun _ => rfl) rfl ?_
  refine sv_aload_n (pc := 12) dX7_init_12 rfl rfl ?_
  refine sv_bipush (pc := 13) (v := 8) dX7_init_13 (by decide) ?_
  refine sw_newarray (pc := 15) (kd := 0) (a := 84) (n1 := 85) (N := 8) (ce1 := 2) (sl1 := 28) (v := .int 0) dX7_init_15 rfl wA_int rfl (fun U => sI_Cond_int U _) (by decide) (by decide) rfl (fun _ => rfl) rfl rfl rfl rfl rfl rfl ?_
  refine sw_putfinal (pc := 17) dX7_init_17 (gCX7 _ _ _ _ _) 1 (by decide) wF_X7_15 rfl rfl rfl rfl rfl (fun _ => rfl) (fun _ => rfl) rfl ?_
  refine sv_aload_n (pc := 20) dX7_init_20 rfl rfl ?_
  refine sv_iconst (pc := 21) (v := (-1)) dX7_init_21 (by decide) ?_
  refine sw_putfield (pc := 22) dX7_init_22 (gCX7 _ _ _ _ _) 9 (by decide) wF_X7_18 rfl rfl rfl (fun _ => rfl) (fun _ => rfl) rfl ?_
  refine sv_vret (pc := 25) dX7_init_25 rfl (le_t rfl) (le_t rfl) ?_
  refine sw_aastore (pc := 100) (k := 13) dX9_init_100 (gCX7 _ _ _ _ _) rfl rfl rfl (by decide) (by decide) rfl rfl rfl ?_
  refine sv_aload_n (pc := 101) dX9_init_101 rfl rfl ?_
  refine sw_getfield (pc := 102) dX9_init_102 (gCX9 _ _ _ _ _) 5 (by decide) wF_X9_39 rfl rfl rfl ?_
  refine sv_iload (pc := 105) dX9_init_105 rfl ?_
  refine sw_new (pc := 107) (a := 85) (n1 := 86) (ce1 := 85) (sl1 := 1136) (fs := zX7) dX9_init_107 (gCX7 _ _ _ _ _) wC_X9_33 wN_X7 wI_X7 zX7_ok rfl rfl rfl rfl rfl rfl ?_
  refine sv_dup (pc := 110) dX9_init_110 rfl ?_
  refine sv_callI (pc := 111) (M' := mX7_init) (d' := 4) (C' := 2) (S' := 28) (av := []) ?_ (gOk _ _ _ _ _) dX9_init_111 (tX7_init _ _ _ _ _) rfl rfl wV_X7_init wM_X9_42 ⟨le_t rfl, le_t rfl⟩ ⟨le_t rfl, le_t rfl⟩ rfl (le_t rfl) (fun _ _ h => h)
  refine sC.of rfl (by decide) (le_t rfl) ?_
  refine sv_aload_n (pc := 0) dX7_init_0 rfl rfl ?_
  refine sv_objinit (pc := 1) dX7_init_1 wM_X7_3 wV_obj wK_obj ⟨le_t rfl, le_t rfl⟩ (le_t rfl) ?_
  refine sv_aload_n (pc := 4) dX7_init_4 rfl rfl ?_
  refine sv_bipush (pc := 5) (v := 20) dX7_init_5 (by decide) ?_
  refine sw_newarray (pc := 7) (kd := 0) (a := 86) (n1 := 87) (N := 20) (ce1 := 1) (sl1 := 20) (v := .int 0) dX7_init_7 rfl wA_int rfl (fun U => sI_Cond_int U _) (by decide) (by decide) rfl (fun _ => rfl) rfl rfl rfl rfl rfl rfl ?_
  refine sw_putfinal (pc := 9) dX7_init_9 (gCX7 _ _ _ _ _) 0 (by decide) wF_X7_9 rfl rfl rfl rfl rfl (fun _ => rfl) (fun _ => rfl) rfl ?_
  refine sv_aload_n (pc := 12) dX7_init_12 rfl rfl ?_
  refine sv_bipush (pc := 13) (v := 8) dX7_init_13 (by decide) ?_
  refine sw_newarray (pc := 15) (kd := 0) (a := 87) (n1 := 88) (N := 8) (ce1 := 2) (sl1 := 28) (v := .int 0) dX7_init_15 rfl wA_int rfl (fun U => sI_Cond_int U _) (by decide) (by decide) rfl (fun _ => rfl) rfl rfl rfl rfl rfl rfl ?_
  refine sw_putfinal (pc := 17) dX7_init_17 (gCX7 _ _ _ _ _) 1 (by decide) wF_X7_15 rfl rfl rfl rfl rfl (fun _ => rfl) (fun _ => rfl) rfl ?_
  refine sv_aload_n (pc := 20) dX7_init_20 rfl rfl ?_
  refine sv_iconst (pc := 21) (v := (-1)) dX7_init_21 (by decide) ?_
  refine sw_putfield (pc := 22) dX7_init_22 (gCX7 _ _ _ _ _) 9 (by decide) wF_X7_18 rfl rfl rfl (fun _ => rfl) (fun _ => rfl) rfl ?_
  refine sv_vret (pc := 25) dX7_init_25 rfl (le_t rfl) (le_t rfl) ?_
  refine sw_aastore (pc := 114) (k := 13) dX9_init_114 (gCX7 _ _ _ _ _) rfl rfl rfl (by decide) (by decide) rfl rfl rfl ?_
  refine sw_iinc (pc := 115) (v := 14) dX9_init_115 rfl (by decide) (by decide) ?_
  refine sv_goto (pc := 118) (tgt := 77) dX9_init_118 (by decide) ?_
  refine sv_iload (pc := 77) dX9_init_77 rfl ?_
  refine sv_aload_n (pc := 79) dX9_init_79 rfl rfl ?_
  refine sw_getfield (pc := 80) dX9_init_80 (gCX9 _ _ _ _ _) 4 (by decide) wF_X9_35 rfl rfl rfl ?_
  refine sv_arraylength (pc := 83) (v := 20) (ty := .object RX7) dX9_init_83 rfl (lt_t rfl) rfl (by decide) ?_
  refine sv_icmp_ge (pc := 84) (tgt := 121) dX9_init_84 (by decide) (fun h => absurd h (by decide)) (fun _ => ?_)
  refine sv_aload_n (pc := 87) dX9_init_87 rfl rfl ?_
  refine sw_getfield (pc := 88) dX9_init_88 (gCX9 _ _ _ _ _) 4 (by decide) wF_X9_35 rfl rfl rfl ?_
  refine sv_iload (pc := 91) dX9_init_91 rfl ?_
  refine sw_new (pc := 93) (a := 88) (n1 := 89) (ce1 := 88) (sl1 := 1176) (fs := zX7) dX9_init_93 (gCX7 _ _ _ _ _) wC_X9_33 wN_X7 wI_X7 zX7_ok rfl rfl rfl rfl rfl rfl ?_
  refine sv_dup (pc := 96) dX9_init_96 rfl ?_
  refine sv_callI (pc := 97) (M' := mX7_init) (d' := 4) (C' := 2) (S' := 28) (av := []) ?_ (gOk _ _ _ _ _) dX9_init_97 (tX7_init _ _ _ _ _) rfl rfl wV_X7_init wM_X9_42 ⟨le_t rfl, le_t rfl⟩ ⟨le_t rfl, le_t rfl⟩ rfl (le_t rfl) (fun _ _ h => h)
  refine sC.of rfl (by decide) (le_t rfl) ?_
  refine sv_aload_n (pc := 0) dX7_init_0 rfl rfl ?_
  refine sv_objinit (pc := 1) dX7_init_1 wM_X7_3 wV_obj wK_obj ⟨le_t rfl, le_t rfl⟩ (le_t rfl) ?_
  refine sv_aload_n (pc := 4) dX7_init_4 rfl rfl ?_
  refine sv_bipush (pc := 5) (v := 20) dX7_init_5 (by decide) ?_
  refine sw_newarray (pc := 7) (kd := 0) (a := 89) (n1 := 90) (N := 20) (ce1 := 1) (sl1 := 20) (v := .int 0) dX7_init_7 rfl wA_int rfl (fun U => sI_Cond_int U _) (by decide) (by decide) rfl (fun _ => rfl) rfl rfl rfl rfl rfl rfl ?_
  refine sw_putfinal (pc := 9) dX7_init_9 (gCX7 _ _ _ _ _) 0 (by decide) wF_X7_9 rfl rfl rfl rfl rfl (fun _ => rfl) (fun _ => rfl) rfl ?_
  refine sv_aload_n (pc := 12) dX7_init_12 rfl rfl ?_
  refine sv_bipush (pc := 13) (v := 8) dX7_init_13 (by decide) ?_
  refine sw_newarray (pc := 15) (kd := 0) (a := 90) (n1 := 91) (N := 8) (ce1 := 2) (sl1 := 28) (v := .int 0) dX7_init_15 rfl wA_int rfl (fun U => sI_Cond_int U _) (by decide) (by decide) rfl (fun _ => rfl) rfl rfl rfl rfl rfl rfl ?_
  refine sw_putfinal (pc := 17) dX7_init_17 (gCX7 _ _ _ _ _) 1 (by decide) wF_X7_15 rfl rfl rfl rfl rfl (fun _ => rfl) (fun _ => rfl) rfl ?_
  refine sv_aload_n (pc := 20) dX7_init_20 rfl rfl ?_
  refine sv_iconst (pc := 21) (v := (-1)) dX7_init_21 (by decide) ?_
  refine sw_putfield (pc := 22) dX7_init_22 (gCX7 _ _ _ _ _) 9 (by decide) wF_X7_18 rfl rfl rfl (fun _ => rfl) (fun _ => rfl) rfl ?_
  refine sv_vret (pc := 25) dX7_init_25 rfl (le_t rfl) (le_t rfl) ?_
  refine sw_aastore (pc := 100) (k := 14) dX9_init_100 (gCX7 _ _ _ _ _) rfl rfl rfl (by decide) (by decide) rfl rfl rfl ?_
  refine sv_aload_n (pc := 101) dX9_init_101 rfl rfl ?_
  refine sw_getfield (pc := 102) dX9_init_102 (gCX9 _ _ _ _ _) 5 (by decide) wF_X9_39 rfl rfl rfl ?_
  refine sv_iload (pc := 105) dX9_init_105 rfl ?_
  refine sw_new (pc := 107) (a := 91) (n1 := 92) (ce1 := 91) (sl1 := 1216) (fs := zX7) dX9_init_107 (gCX7 _ _ _ _ _) wC_X9_33 wN_X7 wI_X7 zX7_ok rfl rfl rfl rfl rfl rfl ?_
  refine sv_dup (pc := 110) dX9_init_110 rfl ?_
  refine sv_callI (pc := 111) (M' := mX7_init) (d' := 4) (C' := 2) (S' := 28) (av := []) ?_ (gOk _ _ _ _ _) dX9_init_111 (tX7_init _ _ _ _ _) rfl rfl wV_X7_init wM_X9_42 ⟨le_t rfl, le_t rfl⟩ ⟨le_t rfl, le_t rfl⟩ rfl (le_t rfl) (fun _ _ h => h)
  refine sC.of rfl (by decide) (le_t rfl) ?_
  refine sv_aload_n (pc := 0) dX7_init_0 rfl rfl ?_
  refine sv_objinit (pc := 1) dX7_init_1 wM_X7_3 wV_obj wK_obj ⟨le_t rfl, le_t rfl⟩ (le_t rfl) ?_
  refine sv_aload_n (pc := 4) dX7_init_4 rfl rfl ?_
  refine sv_bipush (pc := 5) (v := 20) dX7_init_5 (by decide) ?_
  refine sw_newarray (pc := 7) (kd := 0) (a := 92) (n1 := 93) (N := 20) (ce1 := 1) (sl1 := 20) (v := .int 0) dX7_init_7 rfl wA_int rfl (fun U => sI_Cond_int U _) (by decide) (by decide) rfl (fun _ => rfl) rfl rfl rfl rfl rfl rfl ?_
  refine sw_putfinal (pc := 9) dX7_init_9 (gCX7 _ _ _ _ _) 0 (by decide) wF_X7_9 rfl rfl rfl rfl rfl (fun _ => rfl) (fun _ => rfl) rfl ?_
  refine sv_aload_n (pc := 12) dX7_init_12 rfl rfl ?_
  refine sv_bipush (pc := 13) (v := 8) dX7_init_13 (by decide) ?_
  refine sw_newarray (pc := 15) (kd := 0) (a := 93) (n1 := 94) (N := 8) (ce1 := 2) (sl1 := 28) (v := .int 0) dX7_init_15 rfl wA_int rfl (fun U => sI_Cond_int U _) (by decide) (by decide) rfl (fun _ => rfl) rfl rfl rfl rfl rfl rfl ?_
  refine sw_putfinal (pc := 17) dX7_init_17 (gCX7 _ _ _ _ _) 1 (by decide) wF_X7_15 rfl rfl rfl rfl rfl (fun _ => rfl) (fun _ => rfl) rfl ?_
  refine sv_aload_n (pc := 20) dX7_init_20 rfl rfl ?_
  refine sv_iconst (pc := 21) (v := (-1)) dX7_init_21 (by decide) ?_
  refine sw_putfield (pc := 22) dX7_init_22 (gCX7 _ _ _ _ _) 9 (by decide) wF_X7_18 rfl rfl rfl (fun _ => rfl) (fun _ => rfl) rfl ?_
  refine sv_vret (pc := 25) dX7_init_25 rfl (le_t rfl) (le_t rfl) ?_
  refine sw_aastore (pc := 114) (k := 14) dX9_init_114 (gCX7 _ _ _ _ _) rfl rfl rfl (by decide) (by decide) rfl rfl rfl ?_
  refine sw_iinc (pc := 115) (v := 15) dX9_init_115 rfl (by decide) (by decide) ?_
  refine sv_lvG (pc := 118) (lv' := [(0, .ref 0), (1, .int xa), (2, .int xb), (3, .int xk), (4, .int 15)]) (List.forall_mem_cons.mpr ⟨rfl, List.forall_mem_cons.mpr ⟨rfl, List.forall_mem_cons.mpr ⟨rfl, List.forall_mem_cons.mpr ⟨rfl, List.forall_mem_cons.mpr ⟨rfl, fun _ h => absurd h List.not_mem_nil⟩⟩⟩⟩⟩) ?_
  refine sv_goto (pc := 118) (tgt := 77) dX9_init_118 (by decide) ?_
  refine sv_iload (pc := 77) dX9_init_77 rfl ?_
  refine sv_aload_n (pc := 79) dX9_init_79 rfl rfl ?_
  refine sw_getfield (pc := 80) dX9_init_80 (gCX9 _ _ _ _ _) 4 (by decide) wF_X9_35 rfl rfl rfl ?_
  refine sv_arraylength (pc := 83) (v := 20) (ty := .object RX7) dX9_init_83 rfl (lt_t rfl) rfl (by decide) ?_
  refine sv_icmp_ge (pc := 84) (tgt := 121) dX9_init_84 (by decide) (fun h => absurd h (by decide)) (fun _ => ?_)
  refine sv_aload_n (pc := 87) dX9_init_87 rfl rfl ?_
  refine sw_getfield (pc := 88) dX9_init_88 (gCX9 _ _ _ _ _) 4 (by decide) wF_X9_35 rfl rfl rfl ?_
  refine sv_iload (pc := 91) dX9_init_91 rfl ?_
  refine sw_new (pc := 93) (a := 94) (n1 := 95) (ce1 := 94) (sl1 := 1256) (fs := zX7) dX9_init_93 (gCX7 _ _ _ _ _) wC_X9_33 wN_X7 wI_X7 zX7_ok rfl rfl rfl rfl rfl rfl ?_
  refine sv_dup (pc := 96) dX9_init_96 rfl ?_
  refine sv_callI (pc := 97) (M' := mX7_init) (d' := 4) (C' := 2) (S' := 28) (av := []) ?_ (gOk _ _ _ _ _) dX9_init_97 (tX7_init _ _ _ _ _) rfl rfl wV_X7_init wM_X9_42 ⟨le_t rfl, le_t rfl⟩ ⟨le_t rfl, le_t rfl⟩ rfl (le_t rfl) (fun _ _ h => h)
  refine sC.of rfl (by decide) (le_t rfl) ?_
  refine sv_aload_n (pc := 0) dX7_init_0 rfl rfl ?_
  refine sv_objinit (pc := 1) dX7_init_1 wM_X7_3 wV_obj wK_obj ⟨le_t rfl, le_t rfl⟩ (le_t rfl) ?_
  refine sv_aload_n (pc := 4) dX7_init_4 rfl rfl ?_
  refine sv_bipush (pc := 5) (v := 20) dX7_init_5 (by decide) ?_
  refine sw_newarray (pc := 7) (kd := 0) (a := 95) (n1 := 96) (N := 20) (ce1 := 1) (sl1 := 20) (v := .int 0) dX7_init_7 rfl wA_int rfl (fun U => sI_Cond_int U _) (by decide) (by decide) rfl (fun _ => rfl) rfl rfl rfl rfl rfl rfl ?_
  refine sw_putfinal (pc := 9) dX7_init_9 (gCX7 _ _ _ _ _) 0 (by decide) wF_X7_9 rfl rfl rfl rfl rfl (fun _ => rfl) (fun _ => rfl) rfl ?_
  refine sv_aload_n (pc := 12) dX7_init_12 rfl rfl ?_
  refine sv_bipush (pc := 13) (v := 8) dX7_init_13 (by decide) ?_
  refine sw_newarray (pc := 15) (kd := 0) (a := 96) (n1 := 97) (N := 8) (ce1 := 2) (sl1 := 28) (v := .int 0) dX7_init_15 rfl wA_int rfl (fun U => sI_Cond_int U _) (by decide) (by decide) rfl (fun _ => rfl) rfl rfl rfl rfl rfl rfl ?_
  refine sw_putfinal (pc := 17) dX7_init_17 (gCX7 _ _ _ _ _) 1 (by decide) wF_X7_15 rfl rfl rfl rfl rfl (fun _ => rfl) (fun _ => rfl) rfl ?_
  refine sv_aload_n (pc := 20) dX7_init_20 rfl rfl ?_
  refine sv_iconst (pc := 21) (v := (-1)) dX7_init_21 (by decide) ?_
  refine sw_putfield (pc := 22) dX7_init_22 (gCX7 _ _ _ _ _) 9 (by decide) wF_X7_18 rfl rfl rfl (fun _ => rfl) (fun _ => rfl) rfl ?_
  refine sv_vret (pc := 25) dX7_init_25 rfl (le_t rfl) (le_t rfl) ?_
  refine sw_aastore (pc := 100) (k := 15) dX9_init_100 (gCX7 _ _ _ _ _) rfl rfl rfl (by decide) (by decide) rfl rfl rfl ?_
  refine sv_aload_n (pc := 101) dX9_init_101 rfl rfl ?_
  refine sw_getfield (pc := 102) dX9_init_102 (gCX9 _ _ _ _ _) 5 (by decide) wF_X9_39 rfl rfl rfl ?_
  refine sv_iload (pc := 105) dX9_init_105 rfl ?_
  refine sw_new (pc := 107) (a := 97) (n1 := 98) (ce1 := 97) (sl1 := 1296) (fs := zX7) dX9_init_107 (gCX7 _ _ _ _ _) wC_X9_33 wN_X7 wI_X7 zX7_ok rfl rfl rfl rfl rfl rfl ?_
  refine sv_dup (pc := 110) dX9_init_110 rfl ?_
  refine sv_callI (pc := 111) (M' := mX7_init) (d' := 4) (C' := 2) (S' := 28) (av := []) ?_ (gOk _ _ _ _ _) dX9_init_111 (tX7_init _ _ _ _ _) rfl rfl wV_X7_init wM_X9_42 ⟨le_t rfl, le_t rfl⟩ ⟨le_t rfl, le_t rfl⟩ rfl (le_t rfl) (fun _ _ h => h)
  refine sC.of rfl (by decide) (le_t rfl) ?_
  refine sv_aload_n (pc := 0) dX7_init_0 rfl rfl ?_
  refine sv_objinit (pc := 1) dX7_init_1 wM_X7_3 wV_obj wK_obj ⟨le_t rfl, le_t rfl⟩ (le_t rfl) ?_
  refine sv_aload_n (pc := 4) dX7_init_4 rfl rfl ?_
  refine sv_bipush (pc := 5) (v := 20) dX7_init_5 (by decide) ?_
  refine sw_newarray (pc := 7) (kd := 0) (a := 98) (n1 := 99) (N := 20) (ce1 := 1) (sl1 := 20) (v := .int 0) dX7_init_7 rfl wA_int rfl (fun U => sI_Cond_int U _) (by decide) (by decide) rfl (fun _ => rfl) rfl rfl rfl rfl rfl rfl ?_
  refine sw_putfinal (pc := 9) dX7_init_9 (gCX7 _ _ _ _ _) 0 (by decide) wF_X7_9 rfl rfl rfl rfl rfl (fun _ => rfl) (fun _ => rfl) rfl ?_
  refine sv_aload_n (pc := 12) dX7_init_12 rfl rfl ?_
  refine sv_bipush (pc := 13) (v := 8) dX7_init_13 (by decide) ?_
  refine sw_newarray (pc := 15) (kd := 0) (a := 99) (n1 := 100) (N := 8) (ce1 := 2) (sl1 := 28) (v := .int 0) dX7_init_15 rfl wA_int rfl (fun U => sI_Cond_int U _) (by decide) (by decide) rfl (fun _ => rfl) rfl rfl rfl rfl rfl rfl ?_
  refine sw_putfinal (pc := 17) dX7_init_17 (gCX7 _ _ _ _ _) 1 (by decide) wF_X7_15 rfl rfl rfl rfl rfl (fun _ => rfl) (fun _ => rfl) rfl ?_
  refine sv_aload_n (pc := 20) dX7_init_20 rfl rfl ?_
  refine sv_iconst (pc := 21) (v := (-1)) dX7_init_21 (by decide) ?_
  refine sw_putfield (pc := 22) dX7_init_22 (gCX7 _ _ _ _ _) 9 (by decide) wF_X7_18 rfl rfl rfl (fun _ => rfl) (fun _ => rfl) rfl ?_
  refine sv_vret (pc := 25) dX7_init_25 rfl (le_t rfl) (le_t rfl) ?_
  refine sw_aastore (pc := 114) (k := 15) dX9_init_114 (gCX7 _ _ _ _ _) rfl rfl rfl (by decide) (by decide) rfl rfl rfl ?_
  refine sw_iinc (pc := 115) (v := 16) dX9_init_115 rfl (by decide) (by decide) ?_
  refine sv_goto (pc := 118) (tgt := 77) dX9_init_118 (by decide) ?_
  refine sv_iload (pc := 77) dX9_init_77 rfl ?_
  refine sv_aload_n (pc := 79) dX9_init_79 rfl rfl ?_
  refine sw_getfield (pc := 80) dX9_init_80 (gCX9 _ _ _ _ _) 4 (by decide) wF_X9_35 rfl rfl rfl ?_
  refine sv_arraylength (pc := 83) (v := 20) (ty := .object RX7) dX9_init_83 rfl (lt_t rfl) rfl (by decide) ?_
  refine sv_icmp_ge (pc := 84) (tgt := 121) dX9_init_84 (by decide) (fun h => absurd h (by decide)) (fun _ => ?_)
  refine sv_aload_n (pc := 87) dX9_init_87 rfl rfl ?_
  refine sw_getfield (pc := 88) dX9_init_88 (gCX9 _ _ _ _ _) 4 (by decide) wF_X9_35 rfl rfl rfl ?_
  refine sv_iload (pc := 91) dX9_init_91 rfl ?_
  refine sw_new (pc := 93) (a := 100) (n1 := 101) (ce1 := 100) (sl1 := 1336) (fs := zX7) dX9_init_93 (gCX7 _ _ _ _ _) wC_X9_33 wN_X7 wI_X7 zX7_ok rfl rfl rfl rfl rfl rfl ?_
  refine sv_dup (pc := 96) dX9_init_96 rfl ?_
  refine sv_callI (pc := 97) (M' := mX7_init) (d' := 4) (C' := 2) (S' := 28) (av := []) ?_ (gOk _ _ _ _ _) dX9_init_97 (tX7_init _ _ _ _ _) rfl rfl wV_X7_init wM_X9_42 ⟨le_t rfl, le_t rfl⟩ ⟨le_t rfl, le_t rfl⟩ rfl (le_t rfl) (fun _ _ h => h)
  refine sC.of rfl (by decide) (le_t rfl) ?_
  refine sv_aload_n (pc := 0) dX7_init_0 rfl rfl ?_
  refine sv_objinit (pc := 1) dX7_init_1 wM_X7_3 wV_obj wK_obj ⟨le_t rfl, le_t rfl⟩ (le_t rfl) ?_
  refine sv_aload_n (pc := 4) dX7_init_4 rfl rfl ?_
  refine sv_bipush (pc := 5) (v := 20) dX7_init_5 (by decide) ?_
  refine sw_newarray (pc := 7) (kd := 0) (a := 101) (n1 := 102) (N := 20) (ce1 := 1) (sl1 := 20) (v := .int 0) dX7_init_7 rfl wA_int rfl (fun U => sI_Cond_int U _) (by decide) (by decide) rfl (fun _ => rfl) rfl rfl rfl rfl rfl rfl ?_
  refine sw_putfinal (pc := 9) dX7_init_9 (gCX7 _ _ _ _ _) 0 (by decide) wF_X7_9 rfl rfl rfl rfl rfl (fun _ => rfl) (fun _ => rfl) rfl ?_
  refine sv_aload_n (pc := 12) dX7_init_12 rfl rfl ?_
  refine sv_bipush (pc := 13) (v := 8) dX7_init_13 (by decide) ?_
  refine sw_newarray (pc := 15) (kd := 0) (a := 102) (n1 := 103) (N := 8) (ce1 := 2) (sl1 := 28) (v := .int 0) dX7_init_15 rfl wA_int rfl (fun U => sI_Cond_int U _) (by decide) (by decide) rfl (fun _ => rfl) rfl rfl rfl rfl rfl rfl ?_
  refine sw_putfinal (pc := 17) dX7_init_17 (gCX7 _ _ _ _ _) 1 (by decide) wF_X7_15 rfl rfl rfl rfl rfl (fun _ => rfl) (fun _ => rfl) rfl ?_
  refine sv_aload_n (pc := 20) dX7_init_20 rfl rfl ?_
  refine sv_iconst (pc := 21) (v := (-1)) dX7_init_21 (by decide) ?_
  refine sw_putfield (pc := 22) dX7_init_22 (gCX7 _ _ _ _ _) 9 (by decide) wF_X7_18 rfl rfl rfl (fun _ => rfl) (fun _ => rfl) rfl ?_
  refine sv_vret (pc := 25) dX7_init_25 rfl (le_t rfl) (le_t rfl) ?_
  refine sw_aastore (pc := 100) (k := 16) dX9_init_100 (gCX7 _ _ _ _ _) rfl rfl rfl (by decide) (by decide) rfl rfl rfl ?_
  refine sv_aload_n (pc := 101) dX9_init_101 rfl rfl ?_
  refine sw_getfield (pc := 102) dX9_init_102 (gCX9 _ _ _ _ _) 5 (by decide) wF_X9_39 rfl rfl rfl ?_
  refine sv_iload (pc := 105) dX9_init_105 rfl ?_
  refine sw_new (pc := 107) (a := 103) (n1 := 104) (ce1 := 103) (sl1 := 1376) (fs := zX7) dX9_init_107 (gCX7 _ _ _ _ _) wC_X9_33 wN_X7 wI_X7 zX7_ok rfl rfl rfl rfl rfl rfl ?_
  refine sv_dup (pc := 110) dX9_init_110 rfl ?_
  refine sv_callI (pc := 111) (M' := mX7_init) (d' := 4) (C' := 2) (S' := 28) (av := []) ?_ (gOk _ _ _ _ _) dX9_init_111 (tX7_init _ _ _ _ _) rfl rfl wV_X7_init wM_X9_42 ⟨le_t rfl, le_t rfl⟩ ⟨le_t rfl, le_t rfl⟩ rfl (le_t rfl) (fun _ _ h => h)
  refine sC.of rfl (by decide) (le_t rfl) ?_
  refine sv_aload_n (pc := 0) dX7_init_0 rfl rfl ?_
  refine sv_objinit (pc := 1) dX7_init_1 wM_X7_3 wV_obj wK_obj ⟨le_t rfl, le_t rfl⟩ (le_t rfl) ?_
  refine sv_aload_n (pc := 4) dX7_init_4 rfl rfl ?_
  refine sv_bipush (pc := 5) (v := 20) dX7_init_5 (by decide) ?_
  refine sw_newarray (pc := 7) (kd := 0) (a := 104) (n1 := 105) (N := 20) (ce1 := 1) (sl1 := 20) (v := .int 0) dX7_init_7 rfl wA_int rfl (fun U => sI_Cond_int U _) (by decide) (by decide) rfl (fun _ => rfl) rfl rfl rfl rfl rfl rfl ?_
  refine sw_putfinal (pc := 9) dX7_init_9 (gCX7 _ _ _ _ _) 0 (by decide) wF_X7_9 rfl rfl rfl rfl rfl (fun _ => rfl) (fun _ => rfl) rfl ?_
  refine sv_aload_n (pc := 12) dX7_init_12 rfl rfl ?_
  refine sv_bipush (pc := 13) (v := 8) dX7_init_13 (by decide) ?_
  refine sw_newarray (pc := 15) (kd := 0) (a := 105) (n1 := 106) (N := 8) (ce1 := 2) (sl1 := 28) (v := .int 0) dX7_init_15 rfl wA_int rfl (fun U => sI_Cond_int U _) (by decide) (by decide) rfl (fun _ => rfl) rfl rfl rfl rfl rfl rfl ?_
  refine sw_putfinal (pc := 17) dX7_init_17 (gCX7 _ _ _ _ _) 1 (by decide) wF_X7_15 rfl rfl rfl rfl rfl (fun _ => rfl) (fun _ => rfl) rfl ?_
  refine sv_aload_n (pc := 20) dX7_init_20 rfl rfl ?_
  refine sv_iconst (pc := 21) (v := (-1)) dX7_init_21 (by decide) ?_
  refine sw_putfield (pc := 22) dX7_init_22 (gCX7 _ _ _ _ _) 9 (by decide) wF_X7_18 rfl rfl rfl (fun _ => rfl) (fun _ => rfl) rfl ?_
  refine sv_vret (pc := 25) dX7_init_25 rfl (le_t rfl) (le_t rfl) ?_
  refine sw_aastore (pc := 114) (k := 16) dX9_init_114 (gCX7 _ _ _ _ _) rfl rfl rfl (by decide) (by decide) rfl rfl rfl ?_
  refine sw_iinc (pc := 115) (v := 17) dX9_init_115 rfl (by decide) (by decide) ?_
  refine sv_goto (pc := 118) (tgt := 77) dX9_init_118 (by decide) ?_
  refine sv_iload (pc := 77) dX9_init_77 rfl ?_
  refine sv_aload_n (pc := 79) dX9_init_79 rfl rfl ?_
  refine sw_getfield (pc := 80) dX9_init_80 (gCX9 _ _ _ _ _) 4 (by decide) wF_X9_35 rfl rfl rfl ?_
  refine sv_arraylength (pc := 83) (v := 20) (ty := .object RX7) dX9_init_83 rfl (lt_t rfl) rfl (by decide) ?_
  refine sv_icmp_ge (pc := 84) (tgt := 121) dX9_init_84 (by decide) (fun h => absurd h (by decide)) (fun _ => ?_)
  refine sv_aload_n (pc := 87) dX9_init_87 rfl rfl ?_
  refine sw_getfield (pc := 88) dX9_init_88 (gCX9 _ _ _ _ _) 4 (by decide) wF_X9_35 rfl rfl rfl ?_
  refine sv_iload (pc := 91) dX9_init_91 rfl ?_
  refine sw_new (pc := 93) (a := 106) (n1 := 107) (ce1 := 106) (sl1 := 1416) (fs := zX7) dX9_init_93 (gCX7 _ _ _ _ _) wC_X9_33 wN_X7 wI_X7 zX7_ok rfl rfl rfl rfl rfl rfl ?_
  refine sv_dup (pc := 96) dX9_init_96 rfl ?_
  refine sv_callI (pc := 97) (M' := mX7_init) (d' := 4) (C' := 2) (S' := 28) (av := []) ?_ (gOk _ _ _ _ _) dX9_init_97 (tX7_init _ _ _ _ _) rfl rfl wV_X7_init wM_X9_42 ⟨le_t rfl, le_t rfl⟩ ⟨le_t rfl, le_t rfl⟩ rfl (le_t rfl) (fun _ _ h => h)
  refine sC.of rfl (by decide) (le_t rfl) ?_
  refine sv_aload_n (pc := 0) dX7_init_0 rfl rfl ?_
  refine sv_objinit (pc := 1) dX7_init_1 wM_X7_3 wV_obj wK_obj ⟨le_t rfl, le_t rfl⟩ (le_t rfl) ?_
  refine sv_aload_n (pc := 4) dX7_init_4 rfl rfl ?_
  refine sv_bipush (pc := 5) (v := 20) dX7_init_5 (by decide) ?_
  refine sw_newarray (pc := 7) (kd := 0) (a := 107) (n1 := 108) (N := 20) (ce1 := 1) (sl1 := 20) (v := .int 0) dX7_init_7 rfl wA_int rfl (fun U => sI_Cond_int U _) (by decide) (by decide) rfl (fun _ => rfl) rfl rfl rfl rfl rfl rfl ?_
  refine sw_putfinal (pc := 9) dX7_init_9 (gCX7 _ _ _ _ _) 0 (by decide) wF_X7_9 rfl rfl rfl rfl rfl (fun _ => rfl) (fun _ => rfl) rfl ?_
  refine sv_aload_n (pc := 12) dX7_init_12 rfl rfl ?_
  refine sv_bipush (pc := 13) (v := 8) dX7_init_13 (by decide) ?_
  refine sw_newarray (pc := 15) (kd := 0) (a := 108) (n1 := 109) (N := 8) (ce1 := 2) (sl1 := 28) (v := .int 0) dX7_init_15 rfl wA_int rfl (fun U => sI_Cond_int U _) (by decide) (by decide) rfl (fun _ => rfl) rfl rfl rfl rfl rfl rfl ?_
  refine sw_putfinal (pc := 17) dX7_init_17 (gCX7 _ _ _ _ _) 1 (by decide) wF_X7_15 rfl rfl rfl rfl rfl (fun _ => rfl) (fun _ => rfl) rfl ?_
  refine sv_aload_n (pc := 20) dX7_init_20 rfl rfl ?_
  refine sv_iconst (pc := 21) (v := (-1)) dX7_init_21 (by decide) ?_
  refine sw_putfield (pc := 22) dX7_init_22 (gCX7 _ _ _ _ _) 9 (by decide) wF_X7_18 rfl rfl rfl (fun _ => rfl) (fun _ => rfl) rfl ?_
  refine sv_vret (pc := 25) dX7_init_25 rfl (le_t rfl) (le_t rfl) ?_
  refine sw_aastore (pc := 100) (k := 17) dX9_init_100 (gCX7 _ _ _ _ _) rfl rfl rfl (by decide) (by decide) rfl rfl rfl ?_
  refine sv_aload_n (pc := 101) dX9_init_101 rfl rfl ?_
  refine sw_getfield (pc := 102) dX9_init_102 (gCX9 _ _ _ _ _) 5 (by decide) wF_X9_39 rfl rfl rfl ?_
  refine sv_iload (pc := 105) dX9_init_105 rfl ?_
  refine sw_new (pc := 107) (a := 109) (n1 := 110) (ce1 := 109) (sl1 := 1456) (fs := zX7) dX9_init_107 (gCX7 _ _ _ _ _) wC_X9_33 wN_X7 wI_X7 zX7_ok rfl rfl rfl rfl rfl rfl ?_
  refine sv_dup (pc := 110) dX9_init_110 rfl ?_
  refine sv_callI (pc := 111) (M' := mX7_init) (d' := 4) (C' := 2) (S' := 28) (av := []) ?_ (gOk _ _ _ _ _) dX9_init_111 (tX7_init _ _ _ _ _) rfl rfl wV_X7_init wM_X9_42 ⟨le_t rfl, le_t rfl⟩ ⟨le_t rfl, le_t rfl⟩ rfl (le_t rfl) (fun _ _ h => h)
  refine sC.of rfl (by decide) (le_t rfl) ?_
  refine sv_aload_n (pc := 0) dX7_init_0 rfl rfl ?_
  refine sv_objinit (pc := 1) dX7_init_1 wM_X7_3 wV_obj wK_obj ⟨le_t rfl, le_t rfl⟩ (le_t rfl) ?_
  refine sv_aload_n (pc := 4) dX7_init_4 rfl rfl ?_
  refine sv_bipush (pc := 5) (v := 20) dX7_init_5 (by decide) ?_
  refine sw_newarray (pc := 7) (kd := 0) (a := 110) (n1 := 111) (N := 20) (ce1 := 1) (sl1 := 20) (v := .int 0) dX7_init_7 rfl wA_int rfl (fun U => sI_Cond_int U _) (by decide) (by decide) rfl (fun _ => rfl) rfl rfl rfl rfl rfl rfl ?_
  refine sw_putfinal (pc := 9) dX7_init_9 (gCX7 _ _ _ _ _) 0 (by decide) wF_X7_9 rfl rfl rfl rfl rfl (fun _ => rfl) (fun _ => rfl) rfl ?_
  refine sv_aload_n (pc := 12) dX7_init_12 rfl rfl ?_
  refine sv_bipush (pc := 13) (v := 8) dX7_init_13 (by decide) ?_
  refine sw_newarray (pc := 15) (kd := 0) (a := 111) (n1 := 112) (N := 8) (ce1 := 2) (sl1 := 28) (v := .int 0) dX7_init_15 rfl wA_int rfl (fun U => sI_Cond_int U _) (by decide) (by decide) rfl (fun _ => rfl) rfl rfl rfl rfl rfl rfl ?_
  refine sw_putfinal (pc := 17) dX7_init_17 (gCX7 _ _ _ _ _) 1 (by decide) wF_X7_15 rfl rfl rfl rfl rfl (fun _ => rfl) (fun _ => rfl) rfl ?_
  refine sv_aload_n (pc := 20) dX7_init_20 rfl rfl ?_
  refine sv_iconst (pc := 21) (v := (-1)) dX7_init_21 (by decide) ?_
  refine sw_putfield (pc := 22) dX7_init_22 (gCX7 _ _ _ _ _) 9 (by decide) wF_X7_18 rfl rfl rfl (fun _ => rfl) (fun _ => rfl) rfl ?_
  refine sv_vret (pc := 25) dX7_init_25 rfl (le_t rfl) (le_t rfl) ?_
  refine sw_aastore (pc := 114) (k := 17) dX9_init_114 (gCX7 _ _ _ _ _) rfl rfl rfl (by decide) (by decide) rfl rfl rfl ?_
  refine sw_iinc (pc := 115) (v := 18) dX9_init_115 rfl (by decide) (by decide) ?_
  refine sv_goto (pc := 118) (tgt := 77) dX9_init_118 (by decide) ?_
  refine sv_iload (pc := 77) dX9_init_77 rfl ?_
  refine sv_aload_n (pc := 79) dX9_init_79 rfl rfl ?_
  refine sw_getfield (pc := 80) dX9_init_80 (gCX9 _ _ _ _ _) 4 (by decide) wF_X9_35 rfl rfl rfl ?_
  refine sv_arraylength (pc := 83) (v := 20) (ty := .object RX7) dX9_init_83 rfl (lt_t rfl) rfl (by decide) ?_
  refine sv_icmp_ge (pc := 84) (tgt := 121) dX9_init_84 (by decide) (fun h => absurd h (by decide)) (fun _ => ?_)
  refine sv_aload_n (pc := 87) dX9_init_87 rfl rfl ?_
  refine sw_getfield (pc := 88) dX9_init_88 (gCX9 _ _ _ _ _) 4 (by decide) wF_X9_35 rfl rfl rfl ?_
  refine sv_iload (pc := 91) dX9_init_91 rfl ?_
  refine sw_new (pc := 93) (a := 112) (n1 := 113) (ce1 := 112) (sl1 := 1496) (fs := zX7) dX9_init_93 (gCX7 _ _ _ _ _) wC_X9_33 wN_X7 wI_X7 zX7_ok rfl rfl rfl rfl rfl rfl ?_
  refine sv_dup (pc := 96) dX9_init_96 rfl ?_
  refine sv_callI (pc := 97) (M' := mX7_init) (d' := 4) (C' := 2) (S' := 28) (av := []) ?_ (gOk _ _ _ _ _) dX9_init_97 (tX7_init _ _ _ _ _) rfl rfl wV_X7_init wM_X9_42 ⟨le_t rfl, le_t rfl⟩ ⟨le_t rfl, le_t rfl⟩ rfl (le_t rfl) (fun _ _ h => h)
  refine sC.of rfl (by decide) (le_t rfl) ?_
  refine sv_aload_n (pc := 0) dX7_init_0 rfl rfl ?_
  refine sv_objinit (pc := 1) dX7_init_1 wM_X7_3 wV_obj wK_obj ⟨le_t rfl, le_t rfl⟩ (le_t rfl) ?_
  refine sv_aload_n (pc := 4) dX7_init_4 rfl rfl ?_
  refine sv_bipush (pc := 5) (v := 20) dX7_init_5 (by decide) ?_
  refine sw_newarray (pc := 7) (kd := 0) (a := 113) (n1 := 114) (N := 20) (ce1 := 1) (sl1 := 20) (v := .int 0) dX7_init_7 rfl wA_int rfl (fun U => sI_Cond_int U _) (by decide) (by decide) rfl (fun _ => rfl) rfl rfl rfl rfl rfl rfl ?_
  refine sw_putfinal (pc := 9) dX7_init_9 (gCX7 _ _ _ _ _) 0 (by decide) wF_X7_9 rfl rfl rfl rfl rfl (fun _ => rfl) (fun _ => rfl) rfl ?_
  refine sv_aload_n (pc := 12) dX7_init_12 rfl rfl ?_
  refine sv_bipush (pc := 13) (v := 8) dX7_init_13 (by decide) ?_
  refine sw_newarray (pc := 15) (kd := 0) (a := 114) (n1 := 115) (N := 8) (ce1 := 2) (sl1 := 28) (v := .int 0) dX7_init_15 rfl wA_int rfl (fun U => sI_Cond_int U _) (by decide) (by decide) rfl (fun _ => rfl) rfl rfl rfl rfl rfl rfl ?_
  refine sw_putfinal (pc := 17) dX7_init_17 (gCX7 _ _ _ _ _) 1 (by decide) wF_X7_15 rfl rfl rfl rfl rfl (fun _ => rfl) (fun _ => rfl) rfl ?_
  refine sv_aload_n (pc := 20) dX7_init_20 rfl rfl ?_
  refine sv_iconst (pc := 21) (v := (-1)) dX7_init_21 (by decide) ?_
  refine sw_putfield (pc := 22) dX7_init_22 (gCX7 _ _ _ _ _) 9 (by decide) wF_X7_18 rfl rfl rfl (fun _ => rfl) (fun _ => rfl) rfl ?_
  refine sv_vret (pc := 25) dX7_init_25 rfl (le_t rfl) (le_t rfl) ?_
  refine sw_aastore (pc := 100) (k := 18) dX9_init_100 (gCX7 _ _ _ _ _) rfl rfl rfl (by decide) (by decide) rfl rfl rfl ?_
  refine sv_aload_n (pc := 101) dX9_init_101 rfl rfl ?_
  refine sw_getfield (pc := 102) dX9_init_102 (gCX9 _ _ _ _ _) 5 (by decide) wF_X9_39 rfl rfl rfl ?_
  refine sv_iload (pc := 105) dX9_init_105 rfl ?_
  refine sw_new (pc := 107) (a := 115) (n1 := 116) (ce1 := 115) (sl1 := 1536) (fs := zX7) dX9_init_107 (gCX7 _ _ _ _ _) wC_X9_33 wN_X7 wI_X7 zX7_ok rfl rfl rfl rfl rfl rfl ?_
  refine sv_dup (pc := 110) dX9_init_110 rfl ?_
  refine sv_callI (pc := 111) (M' := mX7_init) (d' := 4) (C' := 2) (S' := 28) (av := []) ?_ (gOk _ _ _ _ _) dX9_init_111 (tX7_init _ _ _ _ _) rfl rfl wV_X7_init wM_X9_42 ⟨le_t rfl, le_t rfl⟩ ⟨le_t rfl, le_t rfl⟩ rfl (le_t rfl) (fun _ _ h => h)
  refine sC.of rfl (by decide) (le_t rfl) ?_
  refine sv_aload_n (pc := 0) dX7_init_0 rfl rfl ?_
  refine sv_objinit (pc := 1) dX7_init_1 wM_X7_3 wV_obj wK_obj ⟨le_t rfl, le_t rfl⟩ (le_t rfl) ?_
  refine sv_aload_n (pc := 4) dX7_init_4 rfl rfl ?_
  refine sv_bipush (pc := 5) (v := 20) dX7_init_5 (by decide) ?_
  refine sw_newarray (pc := 7) (kd := 0) (a := 116) (n1 := 117) (N := 20) (ce1 := 1) (sl1 := 20) (v := .int 0) dX7_init_7 rfl wA_int rfl (fun U => sI_Cond_int U _) (by decide) (by decide) rfl (fun _ => rfl) rfl rfl rfl rfl rfl rfl ?_
  refine sw_putfinal (pc := 9) dX7_init_9 (gCX7 _ _ _ _ _) 0 (by decide) wF_X7_9 rfl rfl rfl rfl rfl (fun _ => rfl) (fun _ => rfl) rfl ?_
  refine sv_aload_n (pc := 12) dX7_init_12 rfl rfl ?_
  refine sv_bipush (pc := 13) (v := 8) dX7_init_13 (by decide) ?_
  refine sw_newarray (pc := 15) (kd := 0) (a := 117) (n1 := 118) (N := 8) (ce1 := 2) (sl1 := 28) (v := .int 0) dX7_init_15 rfl wA_int rfl (fun U => sI_Cond_int U _) (by decide) (by decide) rfl (fun _ => rfl) rfl rfl rfl rfl rfl rfl ?_
  refine sw_putfinal (pc := 17) dX7_init_17 (gCX7 _ _ _ _ _) 1 (by decide) wF_X7_15 rfl rfl rfl rfl rfl (fun _ => rfl) (fun _ => rfl) rfl ?_
  refine sv_aload_n (pc := 20) dX7_init_20 rfl rfl ?_
  refine sv_iconst (pc := 21) (v := (-1)) dX7_init_21 (by decide) ?_
  refine sw_putfield (pc := 22) dX7_init_22 (gCX7 _ _ _ _ _) 9 (by decide) wF_X7_18 rfl rfl rfl (fun _ => rfl) (fun _ => rfl) rfl ?_
  refine sv_vret (pc := 25) dX7_init_25 rfl (le_t rfl) (le_t rfl) ?_
  refine sw_aastore (pc := 114) (k := 18) dX9_init_114 (gCX7 _ _ _ _ _) rfl rfl rfl (by decide) (by decide) rfl rfl rfl ?_
  refine sw_iinc (pc := 115) (v := 19) dX9_init_115 rfl (by decide) (by decide) ?_
  refine sv_goto (pc := 118) (tgt := 77) dX9_init_118 (by decide) ?_
  refine sv_iload (pc := 77) dX9_init_77 rfl ?_
  refine sv_aload_n (pc := 79) dX9_init_79 rfl rfl ?_
  refine sw_getfield (pc := 80) dX9_init_80 (gCX9 _ _ _ _ _) 4 (by decide) wF_X9_35 rfl rfl rfl ?_
  refine sv_arraylength (pc := 83) (v := 20) (ty := .object RX7) dX9_init_83 rfl (lt_t rfl) rfl (by decide) ?_
  refine sv_icmp_ge (pc := 84) (tgt := 121) dX9_init_84 (by decide) (fun h => absurd h (by decide)) (fun _ => ?_)
  refine sv_aload_n (pc := 87) dX9_init_87 rfl rfl ?_
  refine sw_getfield (pc := 88) dX9_init_88 (gCX9 _ _ _ _ _) 4 (by decide) wF_X9_35 rfl rfl rfl ?_
  refine sv_iload (pc := 91) dX9_init_91 rfl ?_
  refine sw_new (pc := 93) (a := 118) (n1 := 119) (ce1 := 118) (sl1 := 1576) (fs := zX7) dX9_init_93 (gCX7 _ _ _ _ _) wC_X9_33 wN_X7 wI_X7 zX7_ok rfl rfl rfl rfl rfl rfl ?_
  refine sv_dup (pc := 96) dX9_init_96 rfl ?_
  refine sv_callI (pc := 97) (M' := mX7_init) (d' := 4) (C' := 2) (S' := 28) (av := []) ?_ (gOk _ _ _ _ _) dX9_init_97 (tX7_init _ _ _ _ _) rfl rfl wV_X7_init wM_X9_42 ⟨le_t rfl, le_t rfl⟩ ⟨le_t rfl, le_t rfl⟩ rfl (le_t rfl) (fun _ _ h => h)
  refine sC.of rfl (by decide) (le_t rfl) ?_
  refine sv_aload_n (pc := 0) dX7_init_0 rfl rfl ?_
  refine sv_objinit (pc := 1) dX7_init_1 wM_X7_3 wV_obj wK_obj ⟨le_t rfl, le_t rfl⟩ (le_t rfl) ?_
  refine sv_aload_n (pc := 4) dX7_init_4 rfl rfl ?_
  refine sv_bipush (pc := 5) (v := 20) dX7_init_5 (by decide) ?_
  refine sw_newarray (pc := 7) (kd := 0) (a := 119) (n1 := 120) (N := 20) (ce1 := 1) (sl1 := 20) (v := .int 0) dX7_init_7 rfl wA_int rfl (fun U => sI_Cond_int U _) (by decide) (by decide) rfl (fun _ => rfl) rfl rfl rfl rfl rfl rfl ?_
  refine sw_putfinal (pc := 9) dX7_init_9 (gCX7 _ _ _ _ _) 0 (by decide) wF_X7_9 rfl rfl rfl rfl rfl (fun _ => rfl) (fun _ => rfl) rfl ?_
  refine sv_aload_n (pc := 12) dX7_init_12 rfl rfl ?_
  refine sv_bipush (pc := 13) (v := 8) dX7_init_13 (by decide) ?_
  refine sw_newarray (pc := 15) (kd := 0) (a := 120) (n1 := 121) (N := 8) (ce1 := 2) (sl1 := 28) (v := .int 0) dX7_init_15 rfl wA_int rfl (fun U => sI_Cond_int U _) (by decide) (by decide) rfl (fun _ => rfl) rfl rfl rfl rfl rfl rfl ?_
  refine sw_putfinal (pc := 17) dX7_init_17 (gCX7 _ _ _ _ _) 1 (by decide) wF_X7_15 rfl rfl rfl rfl rfl (fun _ => rfl) (fun _ => rfl) rfl ?_
  refine sv_aload_n (pc := 20) dX7_init_20 rfl rfl ?_
  refine sv_iconst (pc := 21) (v := (-1)) dX7_init_21 (by decide) ?_
  refine sw_putfield (pc := 22) dX7_init_22 (gCX7 _ _ _ _ _) 9 (by decide) wF_X7_18 rfl rfl rfl (fun _ => rfl) (fun _ => rfl) rfl ?_
  refine sv_vret (pc := 25) dX7_init_25 rfl (le_t rfl) (le_t rfl) ?_
  refine sw_aastore (pc := 100) (k := 19) dX9_init_100 (gCX7 _ _ _ _ _) rfl rfl rfl (by decide) (by decide) rfl rfl rfl ?_
  refine sv_aload_n (pc := 101) dX9_init_101 rfl rfl ?_
  refine sw_getfield (pc := 102) dX9_init_102 (gCX9 _ _ _ _ _) 5 (by decide) wF_X9_39 rfl rfl rfl ?_
  refine sv_iload (pc := 105) dX9_init_105 rfl ?_
  refine sw_new (pc := 107) (a := 121) (n1 := 122) (ce1 := 121) (sl1 := 1616) (fs := zX7) dX9_init_107 (gCX7 _ _ _ _ _) wC_X9_33 wN_X7 wI_X7 zX7_ok rfl rfl rfl rfl rfl rfl ?_
  refine sv_dup (pc := 110) dX9_init_110 rfl ?_
  refine sv_callI (pc := 111) (M' := mX7_init) (d' := 4) (C' := 2) (S' := 28) (av := []) ?_ (gOk _ _ _ _ _) dX9_init_111 (tX7_init _ _ _ _ _) rfl rfl wV_X7_init wM_X9_42 ⟨le_t rfl, le_t rfl⟩ ⟨le_t rfl, le_t rfl⟩ rfl (le_t rfl) (fun _ _ h => h)
  refine sC.of rfl (by decide) (le_t rfl) ?_
  refine sv_aload_n (pc := 0) dX7_init_0 rfl rfl ?_
  refine sv_objinit (pc := 1) dX7_init_1 wM_X7_3 wV_obj wK_obj ⟨le_t rfl, le_t rfl⟩ (le_t rfl) ?_
  refine sv_aload_n (pc := 4) dX7_init_4 rfl rfl ?_
  refine sv_bipush (pc := 5) (v := 20) dX7_init_5 (by decide) ?_
  refine sw_newarray (pc := 7) (kd := 0) (a := 122) (n1 := 123) (N := 20) (ce1 := 1) (sl1 := 20) (v := .int 0) dX7_init_7 rfl wA_int rfl (fun U => sI_Cond_int U _) (by decide) (by decide) rfl (fun _ => rfl) rfl rfl rfl rfl rfl rfl ?_
  refine sw_putfinal (pc := 9) dX7_init_9 (gCX7 _ _ _ _ _) 0 (by decide) wF_X7_9 rfl rfl rfl rfl rfl (fun _ => rfl) (fun _ => rfl) rfl ?_
  refine sv_aload_n (pc := 12) dX7_init_12 rfl rfl ?_
  refine sv_bipush (pc := 13) (v := 8) dX7_init_13 (by decide) ?_
  refine sw_newarray (pc := 15) (kd := 0) (a := 123) (n1 := 124) (N := 8) (ce1 := 2) (sl1 := 28) (v := .int 0) dX7_init_15 rfl wA_int rfl (fun U => sI_Cond_int U _) (by decide) (by decide) rfl (fun _ => rfl) rfl rfl rfl rfl rfl rfl ?_
  refine sw_putfinal (pc := 17) dX7_init_17 (gCX7 _ _ _ _ _) 1 (by decide) wF_X7_15 rfl rfl rfl rfl rfl (fun _ => rfl) (fun _ => rfl) rfl ?_
  refine sv_aload_n (pc := 20) dX7_init_20 rfl rfl ?_
  refine sv_iconst (pc := 21) (v := (-1)) dX7_init_21 (by decide) ?_
  refine sw_putfield (pc := 22) dX7_init_22 (gCX7 _ _ _ _ _) 9 (by decide) wF_X7_18 rfl rfl rfl (fun _ => rfl) (fun _ => rfl) rfl ?_
  refine sv_vret (pc := 25) dX7_init_25 rfl (le_t rfl) (le_t rfl) ?_
  refine sw_aastore (pc := 114) (k := 19) dX9_init_114 (gCX7 _ _ _ _ _) rfl rfl rfl (by decide) (by decide) rfl rfl rfl ?_
  refine sw_iinc (pc := 115) (v := 20) dX9_init_115 rfl (by decide) (by decide) ?_
  refine sv_goto (pc := 118) (tgt := 77) dX9_init_118 (by decide) ?_
  refine sv_iload (pc := 77) dX9_init_77 rfl ?_
  refine sv_aload_n (pc := 79) dX9_init_79 rfl rfl ?_
  refine sw_getfield (pc := 80) dX9_init_80 (gCX9 _ _ _ _ _) 4 (by decide) wF_X9_35 rfl rfl rfl ?_
  refine sv_arraylength (pc := 83) (v := 20) (ty := .object RX7) dX9_init_83 rfl (lt_t rfl) rfl (by decide) ?_
  refine sv_icmp_ge (pc := 84) (tgt := 121) dX9_init_84 (by decide) (fun _ => ?_) (fun h => absurd (by decide) h)
  refine sv_vret dX9_init_121 rfl (le_t rfl) (le_t rfl) ⟨rfl, rfl, fun j hj => ?_⟩
  match j, hj with
  | 0, _ => exact rfl
  | 1, _ => exact rfl
  | 2, _ => exact rfl
  | 3, _ => exact rfl
  | 4, _ => exact rfl
  | 5, _ => exact rfl
  | 6, _ => exact rfl
  | 7, _ => exact rfl
  | 8, _ => exact rfl
  | 9, _ => exact rfl
  | 10, _ => exact rfl
  | 11, _ => exact rfl
  | 12, _ => exact rfl
  | 13, _ => exact rfl
  | 14, _ => exact rfl
  | 15, _ => exact rfl
  | 16, _ => exact rfl
  | 17, _ => exact rfl
  | 18, _ => exact rfl
  | 19, _ => exact rfl
  | 20, _ => exact rfl
  | 21, _ => exact rfl
  | 22, _ => exact rfl
  | 23, _ => exact rfl
  | 24, _ => exact rfl
  | 25, _ => exact rfl
  | 26, _ => exact rfl
  | 27, _ => exact rfl
  | 28, _ => exact rfl
  | 29, _ => exact rfl
  | 30, _ => exact rfl
  | 31, _ => exact rfl
  | 32, _ => exact rfl
  | 33, _ => exact rfl
  | 34, _ => exact rfl
  | 35, _ => exact rfl
  | 36, _ => exact rfl
  | 37, _ => exact rfl
  | 38, _ => exact rfl
  | 39, _ => exact rfl
  | 40, _ => exact rfl
  | 41, _ => exact rfl
  | 42, _ => exact rfl
  | 43, _ => exact rfl
  | 44, _ => exact rfl
  | 45, _ => exact rfl
  | 46, _ => exact rfl
  | 47, _ => exact rfl
  | 48, _ => exact rfl
  | 49, _ => exact rfl
  | 50, _ => exact rfl
  | 51, _ => exact rfl
  | 52, _ => exact rfl
  | 53, _ => exact rfl
  | 54, _ => exact rfl
  | 55, _ => exact rfl
  | 56, _ => exact rfl
  | 57, _ => exact rfl
  | 58, _ => exact rfl
  | 59, _ => exact rfl
  | 60, _ => exact rfl
  | 61, _ => exact rfl
  | 62, _ => exact rfl
  | 63, _ => exact rfl
  | 64, _ => exact rfl
  | 65, _ => exact rfl
  | 66, _ => exact rfl
  | 67, _ => exact rfl
  | 68, _ => exact rfl
  | 69, _ => exact rfl
  | 70, _ => exact rfl
  | 71, _ => exact rfl
  | 72, _ => exact rfl
  | 73, _ => exact rfl
  | 74, _ => exact rfl
  | 75, _ => exact rfl
  | 76, _ => exact rfl
  | 77, _ => exact rfl
  | 78, _ => exact rfl
  | 79, _ => exact rfl
  | 80, _ => exact rfl
  | 81, _ => exact rfl
  | 82, _ => exact rfl
  | 83, _ => exact rfl
  | 84, _ => exact rfl
  | 85, _ => exact rfl
  | 86, _ => exact rfl
  | 87, _ => exact rfl
  | 88, _ => exact rfl
  | 89, _ => exact rfl
  | 90, _ => exact rfl
  | 91, _ => exact rfl
  | 92, _ => exact rfl
  | 93, _ => exact rfl
  | 94, _ => exact rfl
  | 95, _ => exact rfl
  | 96, _ => exact rfl
  | 97, _ => exact rfl
  | 98, _ => exact rfl
  | 99, _ => exact rfl
  | 100, _ => exact rfl
  | 101, _ => exact rfl
  | 102, _ => exact rfl
  | 103, _ => exact rfl
  | 104, _ => exact rfl
  | 105, _ => exact rfl
  | 106, _ => exact rfl
  | 107, _ => exact rfl
  | 108, _ => exact rfl
  | 109, _ => exact rfl
  | 110, _ => exact rfl
  | 111, _ => exact rfl
  | 112, _ => exact rfl
  | 113, _ => exact rfl
  | 114, _ => exact rfl
  | 115, _ => exact rfl
  | 116, _ => exact rfl
  | 117, _ => exact rfl
  | 118, _ => exact rfl
  | 119, _ => exact rfl
  | 120, _ => exact rfl
  | 121, _ => exact rfl
  | 122, _ => exact rfl
  | 123, _ => exact rfl
  | n + 124, h => exact absurd h (by omega)
end
