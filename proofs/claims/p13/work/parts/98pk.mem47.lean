/-! Nothing was picked: then no candidate is there. -/
def no0 (μ : mM) (n : Int) : Prop := ∀ i : Int, 0 ≤ i → i < n → 0 ≤ μ 126 (160 + 40 * i).toNat → 0 < μ 126 (164 + 40 * i).toNat
def noP (μ : mM) (n : Int) : Prop := ∀ i : Int, 0 ≤ i → i < n → 0 ≤ μ 126 (160 + 40 * i).toNat → μ 126 (164 + 40 * i).toNat ≤ 0
def allNo (μ : mM) (n : Int) : Prop := ∀ i : Int, 0 ≤ i → i < n → μ 126 (160 + 40 * i).toNat < 0
def leftC (μ : mM) (n : Int) : Prop := ∀ i : Int, 0 ≤ i → i < n → 0 ≤ μ 126 (160 + 40 * i).toNat → μ 165 i.toNat = 1
theorem no0.zero {μ : mM} : no0 μ 0 := fun i h0 h1 => by omega
theorem noP.zero {μ : mM} : noP μ 0 := fun i h0 h1 => by omega
theorem leftC.zero {μ : mM} : leftC μ 0 := fun i h0 h1 => by omega
theorem no0.put {μ : mM} {n f g x y : Int} (h : no0 μ n) (hf : f = 160 + 40 * n) (q : μ 126 f.toNat = x) (hg : g = 164 + 40 * n) (qg : μ 126 g.toNat = y) (hv : x < 0 ∨ 0 < y) : no0 μ (n + 1) := fun i h0 h1 hx => by
  by_cases e : i = n
  · subst e
    rw [← hf, q] at hx
    rw [← hg, qg]
    omega
  · exact h i h0 (by omega) hx
theorem noP.put {μ : mM} {n f g x y : Int} (h : noP μ n) (hf : f = 160 + 40 * n) (q : μ 126 f.toNat = x) (hg : g = 164 + 40 * n) (qg : μ 126 g.toNat = y) (hv : x < 0 ∨ y ≤ 0) : noP μ (n + 1) := fun i h0 h1 hx => by
  by_cases e : i = n
  · subst e
    rw [← hf, q] at hx
    rw [← hg, qg]
    omega
  · exact h i h0 (by omega) hx
theorem leftC.put {μ μ1 : mM} {n v f x : Int} (h : leftC μ n) (h0 : 0 ≤ n) (hU : mU μ 165 n.toNat v μ1) (hf : f = 160 + 40 * n) (q : μ1 126 f.toNat = x) (hv : v = 1 ∨ x < 0) : leftC μ1 (n + 1) := fun i hi hin hx => by
  by_cases e : i = n
  · subst e
    rw [← hf, q] at hx
    rw [hU.1]
    omega
  · rw [hU.2 165 i.toNat (Or.inr (by omega))]
    rw [hU.2 126 _ (Or.inl (by decide))] at hx
    exact h i hi (by omega) hx
theorem no0.le {μ : mM} {n m : Int} (h : no0 μ n) (hm : m ≤ n) : no0 μ m := fun i a b => h i a (by omega)
theorem noP.le {μ : mM} {n m : Int} (h : noP μ n) (hm : m ≤ n) : noP μ m := fun i a b => h i a (by omega)
theorem leftC.le {μ : mM} {n m : Int} (h : leftC μ n) (hm : m ≤ n) : leftC μ m := fun i a b => h i a (by omega)
theorem allNo.of {μ : mM} {n : Int} (h : no0 μ n) (k : noP μ n) : allNo μ n := fun i a b => by
  have h1 := h i a b
  have h2 := k i a b
  omega
theorem allNo.best {μ : mM} {n z : Int} (h : leftC μ n) (hb : bestOK μ n z) (hz : z = -99999999) : allNo μ n := fun i a b => by
  refine Int.not_le.mp fun q => ?_
  exact hb.2 hz i a b (h i a b q)
