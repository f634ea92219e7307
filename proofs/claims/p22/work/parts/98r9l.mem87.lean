/-! The class's reader: what each call is to the machine. -/
theorem nsE {s r m x y : Int} (h : ¬ s = -1) : ∀ p : Int, ¬ ((s, p, r, m, x, y) : Cfg).1 = -1 ∧ ((s, p, r, m, x, y) : Cfg).2.1 = p := fun _ => ⟨h, rfl⟩
theorem CSc.bad {μ : mM} {e e' : Int → Cfg} (h : CSc μ e) (hf : ¬ μ 23 18 = 0) : CSc μ e' := by
  rcases h with ⟨h1, _⟩ | h1
  · exact absurd h1 hf
  · exact Or.inr h1
theorem CSc.cg {μ : mM} {s r m x y r' m' x' y' : Int} (h : CSc μ (fun p => (s, p, r, m, x, y))) (er : r = r') (em : m = m') (ex : x = x') (ey : y = y') : CSc μ (fun p => (s, p, r', m', x', y')) := by
  subst er; subst em; subst ex; subst ey; exact h
/-- a number of an address -/
theorem CSc.h9 {μ μ1 : mM} {r m x y z : Int} (h : CSc μ (fun p => (9, p, r, m, x, y))) (hend : μ 24 (μ 23 8).toNat = -1) (tb : tbC μ μ1) (n : nbK μ μ1 0 255 z) : CSc μ1 (fun p => if x = 3 then (11, p, r, m, bOr (bShl y 8) z, 0) else (10, p, r, m, x, bOr (bShl y 8) z)) := by
  have nn : ∀ p t v f q, nxC mskF (μ 23 14) (9, p, r, m, x, y) t v f q = n9 r m x y t v f q := fun _ _ _ _ _ => rfl
  rcases n with ⟨n1, n2⟩ | ⟨n1, n2, n3⟩ | ⟨n1, n2, n3, n4⟩
  · refine h.fail hend tb n2 (by decide) (nsE (by decide)) (fun p v q _ => ?_)
    rw [nn]
    unfold n9
    rw [if_pos n1]
  · refine h.fail hend tb n3 (by decide) (nsE (by decide)) (fun p v q hv => ?_)
    have ev := hv (by rw [n1]; decide)
    rw [nn]
    unfold n9
    rw [if_neg (by rw [n1]; decide), if_pos (by rw [ev]; exact n2)]
  · refine h.mvs tb n4 (by rw [n1]; decide) (nsE (by decide)) (fun p q => ?_)
    rw [nn]
    unfold n9
    rw [if_neg (by rw [n1]; decide), if_neg (by omega), n3]
theorem CSc.h9a {μ μ1 : mM} {r m z : Int} (h : CSc μ (fun p => (9, p, r, m, 0, 0))) (hend : μ 24 (μ 23 8).toNat = -1) (tb : tbC μ μ1) (n : nbK μ μ1 0 255 z) : CSc μ1 (fun p => (10, p, r, m, 0, z)) := by
  have nn : ∀ p t v f q, nxC mskF (μ 23 14) (9, p, r, m, 0, 0) t v f q = n9 r m 0 0 t v f q := fun _ _ _ _ _ => rfl
  rcases n with ⟨n1, n2⟩ | ⟨n1, n2, n3⟩ | ⟨n1, n2, n3, n4⟩
  · refine h.fail hend tb n2 (by decide) (nsE (by decide)) (fun p v q _ => ?_)
    rw [nn]
    unfold n9
    rw [if_pos n1]
  · refine h.fail hend tb n3 (by decide) (nsE (by decide)) (fun p v q hv => ?_)
    have ev := hv (by rw [n1]; decide)
    rw [nn]
    unfold n9
    rw [if_neg (by rw [n1]; decide), if_pos (by rw [ev]; exact n2)]
  · have g := h.h9 hend tb (z := z) (Or.inr (Or.inr ⟨n1, n2, n3, n4⟩))
    rw [or0 (by rw [n3]; exact n2)] at g
    exact g
theorem CSc.h9b {μ μ1 : mM} {r m x y z : Int} (h : CSc μ (fun p => (9, p, r, m, x, y))) (hend : μ 24 (μ 23 8).toNat = -1) (tb : tbC μ μ1) (n : nbK μ μ1 0 255 z) {a b : Int} (e1 : bShl y 8 = a) (e2 : bOr a z = b) : CSc μ1 (fun p => if x = 3 then (11, p, r, m, b, 0) else (10, p, r, m, x, b)) := by
  have g := h.h9 hend tb n
  rw [e1, e2] at g
  exact g
theorem CSc.h10 {μ : mM} {r m x y : Int} (h : CSc μ (fun p => if x = 3 then (11, p, r, m, y, 0) else (10, p, r, m, x, y))) (hx : ¬ x = 3) : CSc μ (fun p => (10, p, r, m, x, y)) := by
  have e : (fun p : Int => if x = 3 then ((11, p, r, m, y, 0) : Cfg) else (10, p, r, m, x, y)) = fun p => (10, p, r, m, x, y) := funext fun p => if_neg hx
  rw [e] at h; exact h
theorem CSc.h11 {μ : mM} {r m x y : Int} (h : CSc μ (fun p => if x = 3 then (11, p, r, m, y, 0) else (10, p, r, m, x, y))) (hx : x = 3) : CSc μ (fun p => (11, p, r, m, y, 0)) := by
  have e : (fun p : Int => if x = 3 then ((11, p, r, m, y, 0) : Cfg) else (10, p, r, m, x, y)) = fun p => (11, p, r, m, y, 0) := funext fun p => if_pos hx
  rw [e] at h; exact h
theorem CSc.in10 {μ : mM} {r m x y : Int} (h : CSc μ (fun p => (10, p, r, m, x, y))) (hx : ¬ x = 3) : CSc μ (fun p => if x = 3 then (11, p, r, m, y, 0) else (10, p, r, m, x, y)) := by
  have e : (fun p : Int => if x = 3 then ((11, p, r, m, y, 0) : Cfg) else (10, p, r, m, x, y)) = fun p => (10, p, r, m, x, y) := funext fun p => if_neg hx
  rw [e]; exact h
theorem CSc.dot {μ μ1 : mM} {r m x y : Int} (h : CSc μ (fun p => (10, p, r, m, x, y))) (hend : μ 24 (μ 23 8).toNat = -1) (tb : tbC μ μ1) (n : exK μ μ1 1046) : CSc μ1 (fun p => (9, p, r, m, x + 1, y)) := by
  refine h.exp hend tb n (by decide) (nsE (by decide)) (fun p v f q => rfl) (fun p t v f q ht _ => ?_)
  show n10 r m x y t f q = _
  unfold n10
  rw [if_neg ht]
theorem CSc.slash {μ μ1 : mM} {r m x y : Int} (h : CSc μ (fun p => (11, p, r, m, x, y))) (hend : μ 24 (μ 23 8).toNat = -1) (tb : tbC μ μ1) (n : exK μ μ1 1047) : CSc μ1 (fun p => (12, p, r, m, x, 0)) := by
  refine h.exp hend tb n (by decide) (nsE (by decide)) (fun p v f q => rfl) (fun p t v f q ht _ => ?_)
  show n11 r m x t f q = _
  unfold n11
  rw [if_neg ht]
theorem CSc.mkF {μ μ1 : mM} {e' : Int → Cfg} {r m x y : Int} (h : CSc μ (fun p => (12, p, r, m, x, y))) (hend : μ 24 (μ 23 8).toNat = -1) (tb : tbC μ μ1) (n : flK μ μ1 3) (ht : cT μ = -2) (hv : 0 ≤ cV μ ∧ cV μ ≤ 32) (hm : ¬ bAnd x (bXor (mskF (cV μ)) (-1)) = 0) : CSc μ1 e' := by
  refine h.fail hend tb n (by decide) (nsE (by decide)) (fun p v q g => ?_)
  have ev := g (by rw [ht]; decide)
  show n12 mskF r m x (cT μ) v (cP μ) q = _
  unfold n12
  rw [if_pos ⟨ht, by rw [ev]; exact hv.1, by rw [ev]; exact hv.2, by rw [ev]; exact hm⟩]
theorem CSc.len {μ μ1 : mM} {r m x y z : Int} (h : CSc μ (fun p => (12, p, r, m, x, y))) (hend : μ 24 (μ 23 8).toNat = -1) (tb : tbC μ μ1) (n : nbK μ μ1 0 32 z) (hm : cT μ = -2 → 0 ≤ cV μ ∧ cV μ ≤ 32 → bAnd x (bXor (mskF (cV μ)) (-1)) = 0) : CSc μ1 (fun p => (13, p, r, m, z, 0)) := by
  have nn : ∀ p t v f q, nxC mskF (μ 23 14) (12, p, r, m, x, y) t v f q = n12 mskF r m x t v f q := fun _ _ _ _ _ => rfl
  rcases n with ⟨n1, n2⟩ | ⟨n1, n2, n3⟩ | ⟨n1, n2, n3, n4⟩
  · refine h.fail hend tb n2 (by decide) (nsE (by decide)) (fun p v q _ => ?_)
    rw [nn]
    unfold n12
    rw [if_neg (fun g => n1 g.1), if_pos n1]
  · refine h.fail hend tb n3 (by decide) (nsE (by decide)) (fun p v q hv => ?_)
    have ev := hv (by rw [n1]; decide)
    rw [nn]
    unfold n12
    rw [if_neg (fun g => by have g2 := g.2.1; have g3 := g.2.2.1; rw [ev] at g2 g3; omega), if_neg (by rw [n1]; decide), if_pos (by rw [ev]; exact n2)]
  · refine h.mvs tb n4 (by rw [n1]; decide) (nsE (by decide)) (fun p q => ?_)
    rw [nn]
    unfold n12
    rw [if_neg (fun g => g.2.2.2 (hm n1 n2)), if_neg (by rw [n1]; decide), if_neg (by omega), n3]
theorem CSc.to {μ μ1 : mM} {r m x y : Int} (h : CSc μ (fun p => (13, p, r, m, x, y))) (tb : tbC μ μ1) (ht : cT μ = 5) (s : stK μ μ1) : CSc μ1 (fun p => (2, p, r, m, x, 32)) := by
  refine h.mvs tb s (by rw [ht]; decide) (nsE (by decide)) (fun p q => ?_)
  rw [ht]; rfl
theorem CSc.noto {μ μ1 : mM} {r m x y : Int} (h : CSc μ (fun p => (13, p, r, m, x, y))) (tb : tbC μ μ1) (ht : ¬ cT μ = 5) (s : smK μ μ1) : CSc μ1 (fun p => (5, p, r, m, 0, 0)) := by
  refine h.stay tb s (nsE (by decide)) (fun p v q => ?_)
  show n13 p r m x (cT μ) q = _
  unfold n13
  rw [if_neg ht]
theorem CSc.opn {μ μ1 : mM} {r m x y : Int} (h : CSc μ (fun p => (14, p, r, m, x, y))) (hend : μ 24 (μ 23 8).toNat = -1) (tb : tbC μ μ1) (n : exK μ μ1 1040) : CSc μ1 (fun p => (15, p, r, m, 1, 0)) := by
  refine h.exp hend tb n (by decide) (nsE (by decide)) (fun p v f q => rfl) (fun p t v f q ht _ => ?_)
  show n14 r m t f q = _
  unfold n14
  rw [if_neg ht]
/-- the token in hand begins no piece and is no bar -/
def ntP (μ : mM) : Prop := ¬ cT μ = -2 ∧ ¬ cT μ = 7 ∧ ¬ cT μ = 1040 ∧ ¬ cT μ = 1124
theorem n15.no {r m x t v f q : Int} (h : ¬ t = -2 ∧ ¬ t = 7 ∧ ¬ t = 1040 ∧ ¬ t = 1124) (ht : ¬ t = 1041) : n15 r m x t v f q = faC 2 t f := by
  unfold n15
  rw [if_neg (by omega), if_neg h.2.2.1, if_neg h.2.2.2, if_neg ht]
theorem CSc.cls {μ μ1 : mM} {r m y : Int} (h : CSc μ (fun p => (15, p, r, m, 1, y))) (hend : μ 24 (μ 23 8).toNat = -1) (nt : ntP μ) (tb : tbC μ μ1) (n : exK μ μ1 1041) : CSc μ1 (fun p => (5, p, r, m, 0, 0)) := by
  refine h.exp hend tb n (by decide) (nsE (by decide)) (fun p v f q => rfl) (fun p t v f q ht e => ?_)
  show n15 r m 1 t v f q = _
  exact n15.no (by rw [e]; exact nt) ht
theorem CSc.gF {μ μ1 : mM} {e' : Int → Cfg} {r m x y : Int} (h : CSc μ (fun p => (15, p, r, m, x, y))) (hend : μ 24 (μ 23 8).toNat = -1) (tb : tbC μ μ1) (n : flK μ μ1 4) (ht : cT μ = 1040) (hx : 6 ≤ x) : CSc μ1 e' := by
  refine h.fail hend tb n (by decide) (nsE (by decide)) (fun p v q _ => ?_)
  show n15 r m x (cT μ) v (cP μ) q = _
  unfold n15
  rw [if_neg (by omega), if_pos ht, if_pos hx]
theorem CSc.gO {μ μ1 : mM} {r m x y : Int} (h : CSc μ (fun p => (15, p, r, m, x, y))) (tb : tbC μ μ1) (s : stK μ μ1) (ht : cT μ = 1040) (hx : x < 6) {x' : Int} (e : x + 1 = x') : CSc μ1 (fun p => (15, p, r, m, x', 0)) := by
  subst e
  refine h.mvs tb s (by rw [ht]; decide) (nsE (by decide)) (fun p q => ?_)
  show n15 r m x (cT μ) (cV μ) (cP μ) q = _
  unfold n15
  rw [if_neg (by omega), if_pos ht, if_neg (by omega)]
theorem CSc.gE {μ μ1 : mM} {r m x y : Int} (h : CSc μ (fun p => (15, p, r, m, x, y))) (tb : tbC μ μ1) (s : stK μ μ1) (ht : cT μ = 1041) (hx : 2 ≤ x) {x' : Int} (e : x - 1 = x') : CSc μ1 (fun p => (16, p, r, m, x', 0)) := by
  subst e
  refine h.mvs tb s (by rw [ht]; decide) (nsE (by decide)) (fun p q => ?_)
  show n15 r m x (cT μ) (cV μ) (cP μ) q = _
  unfold n15
  rw [if_neg (by omega), if_neg (by omega), if_neg (by omega), if_pos ht, if_neg (by omega)]
theorem CSc.gB {μ μ1 : mM} {e' : Int → Cfg} {r m x y : Int} (h : CSc μ (fun p => (15, p, r, m, x, y))) (hend : μ 24 (μ 23 8).toNat = -1) (tb : tbC μ μ1) (n : flK μ μ1 2) (nt : ntP μ) (ht : ¬ cT μ = 1041) : CSc μ1 e' := by
  refine h.fail hend tb n (by decide) (nsE (by decide)) (fun p v q _ => ?_)
  show n15 r m x (cT μ) v (cP μ) q = _
  exact n15.no nt ht
theorem CSc.p3 {μ μ1 : mM} {e' : Int → Cfg} {r m x y : Int} (h : CSc μ (fun p => (15, p, r, m, x, y))) (hend : μ 24 (μ 23 8).toNat = -1) (tb : tbC μ μ1) (n : flK μ μ1 3) (ht : cT μ = -2) (hv : 1000000 < cV μ) : CSc μ1 e' := by
  refine h.fail hend tb n (by decide) (nsE (by decide)) (fun p v q g => ?_)
  have ev := g (by rw [ht]; decide)
  show n15 r m x (cT μ) v (cP μ) q = _
  unfold n15
  rw [if_pos (Or.inl ht), if_pos ⟨ht, by rw [ev]; exact hv⟩]
theorem CSc.p4 {μ μ1 : mM} {e' : Int → Cfg} {r m x y : Int} (h : CSc μ (fun p => (15, p, r, m, x, y))) (hend : μ 24 (μ 23 8).toNat = -1) (tb : tbC μ μ1) (n : flK μ μ1 4) (ht : (cT μ = -2 ∧ cV μ ≤ 1000000) ∨ cT μ = 7) (hm : 40 ≤ m) : CSc μ1 e' := by
  refine h.fail hend tb n (by decide) (nsE (by decide)) (fun p v q g => ?_)
  have hk : ¬ (cT μ = -2 ∧ 1000000 < v) := fun k => by
    have ev := g (by omega)
    omega
  show n15 r m x (cT μ) v (cP μ) q = _
  unfold n15
  rw [if_pos (by omega), if_neg hk, if_pos hm]
theorem CSc.pl {μ μ1 : mM} {r m x y : Int} (h : CSc μ (fun p => (15, p, r, m, x, y))) (tb : tbC μ μ1) (s : stK μ μ1) (ht : (cT μ = -2 ∧ cV μ ≤ 1000000) ∨ cT μ = 7) (hm : m < 40) {m' : Int} (em : m + 1 = m') : CSc μ1 (fun p => (16, p, r, m', x, 0)) := by
  subst em
  refine h.mvs tb s (by omega) (nsE (by decide)) (fun p q => ?_)
  show n15 r m x (cT μ) (cV μ) (cP μ) q = _
  unfold n15
  rw [if_pos (by omega), if_neg (by omega), if_neg (by omega)]
theorem CSc.rep {μ μ1 : mM} {r m x y : Int} (h : CSc μ (fun p => (16, p, r, m, x, y))) (tb : tbC μ μ1) (s : stK μ μ1) (ht : cT μ = 1042 ∨ cT μ = 1043 ∨ cT μ = 1063) : CSc μ1 (fun p => (15, p, r, m, x, 0)) := by
  refine h.mvs tb s (by omega) (nsE (by decide)) (fun p q => ?_)
  show n16 p r m x (cT μ) q = _
  unfold n16
  rw [if_pos ht]
theorem CSc.norep {μ μ1 : mM} {r m x y : Int} (h : CSc μ (fun p => (16, p, r, m, x, y))) (tb : tbC μ μ1) (s : smK μ μ1) (ht : ¬ (cT μ = 1042 ∨ cT μ = 1043 ∨ cT μ = 1063)) : CSc μ1 (fun p => (15, p, r, m, x, 0)) := by
  refine h.stay tb s (nsE (by decide)) (fun p v q => ?_)
  show n16 p r m x (cT μ) q = _
  unfold n16
  rw [if_neg ht]
theorem CSc.bar {μ μ1 : mM} {r m x y : Int} (h : CSc μ (fun p => (15, p, r, m, x, y))) (tb : tbC μ μ1) (s : stK μ μ1) (ht : cT μ = 1124) : CSc μ1 (fun p => (15, p, r, m, x, 0)) := by
  refine h.mvs tb s (by rw [ht]; decide) (nsE (by decide)) (fun p q => ?_)
  rw [ht]; rfl
/-- a row begins -/
theorem CSc.r2 {μ μ1 : mM} {e' : Int → Cfg} {r m x y : Int} (h : CSc μ (fun p => (0, p, r, m, x, y))) (hend : μ 24 (μ 23 8).toNat = -1) (tb : tbC μ μ1) (n : flK μ μ1 2) (ht : ¬ cT μ = -1 ∧ ¬ (cT μ = 0 ∨ isAc (cT μ))) : CSc μ1 e' := by
  refine h.fail hend tb n (by decide) (nsE (by decide)) (fun p v q _ => ?_)
  show n0 p r m (cT μ) (cP μ) q = _
  unfold n0
  rw [if_neg ht.1, if_pos ht.2]
theorem CSc.r4 {μ μ1 : mM} {e' : Int → Cfg} {r m x y : Int} (h : CSc μ (fun p => (0, p, r, m, x, y))) (hend : μ 24 (μ 23 8).toNat = -1) (tb : tbC μ μ1) (n : flK μ μ1 4) (ht : ¬ cT μ = -1 ∧ (cT μ = 0 ∨ isAc (cT μ))) (hr : 30 ≤ r) : CSc μ1 e' := by
  refine h.fail hend tb n (by decide) (nsE (by decide)) (fun p v q _ => ?_)
  show n0 p r m (cT μ) (cP μ) q = _
  unfold n0
  rw [if_neg ht.1, if_neg (fun g => g ht.2), if_pos hr]
theorem CSc.rI {μ μ1 : mM} {r m x y : Int} (h : CSc μ (fun p => (0, p, r, m, x, y))) (tb : tbC μ μ1) (s : stK μ μ1) (ht : cT μ = 0) (hr : r < 30) {r' : Int} (e : r + 1 = r') : CSc μ1 (fun p => (1, p, r', m, 0, 0)) := by
  subst e
  refine h.mvs tb s (by rw [ht]; decide) (nsE (by decide)) (fun p q => ?_)
  show n0 p r m (cT μ) (cP μ) q = _
  unfold n0
  rw [if_neg (by rw [ht]; decide), if_neg (fun g => g (Or.inl ht)), if_neg (by omega), if_pos ht]
theorem CSc.rA {μ μ1 : mM} {r m x y : Int} (h : CSc μ (fun p => (0, p, r, m, x, y))) (tb : tbC μ μ1) (s : smK μ μ1) (ht : ¬ cT μ = 0 ∧ isAc (cT μ)) (hr : r < 30) {r' : Int} (e : r + 1 = r') : CSc μ1 (fun p => (6, p, r', m, 0, 0)) := by
  subst e
  refine h.stay tb s (nsE (by decide)) (fun p v q => ?_)
  show n0 p r m (cT μ) (cP μ) q = _
  unfold n0
  rw [if_neg (by have := ht.2; unfold isAc at this; omega), if_neg (fun g => g (Or.inr ht.2)), if_neg (by omega), if_neg ht.1]
theorem CSc.and1 {μ μ1 : mM} {r m x y : Int} (h : CSc μ (fun p => (5, p, r, m, x, y))) (tb : tbC μ μ1) (s : stK μ μ1) (ht : cT μ = 1) : CSc μ1 (fun p => (1, p, r, m, 0, 0)) := by
  refine h.mvs tb s (by rw [ht]; decide) (nsE (by decide)) (fun p q => ?_)
  rw [ht]; rfl
theorem CSc.then1 {μ μ1 : mM} {r m x y : Int} (h : CSc μ (fun p => (5, p, r, m, x, y))) (hend : μ 24 (μ 23 8).toNat = -1) (nt : ¬ cT μ = 1) (tb : tbC μ μ1) (n : exK μ μ1 2) : CSc μ1 (fun p => (6, p, r, m, 0, 0)) := by
  refine h.exp hend tb n (by decide) (nsE (by decide)) (fun p v f q => rfl) (fun p t v f q ht e => ?_)
  show n5 r m t f q = _
  unfold n5
  rw [if_neg (by rw [e]; exact nt), if_neg ht]
theorem CSc.com {μ μ1 : mM} {r m x y : Int} (h : CSc μ (fun p => (8, p, r, m, x, y))) (tb : tbC μ μ1) (s : stK μ μ1) (ht : cT μ = 1044) : CSc μ1 (fun p => (6, p, r, m, 0, 0)) := by
  refine h.mvs tb s (by rw [ht]; decide) (nsE (by decide)) (fun p q => ?_)
  rw [ht]; rfl
theorem CSc.semi {μ μ1 : mM} {r m x y : Int} (h : CSc μ (fun p => (8, p, r, m, x, y))) (hend : μ 24 (μ 23 8).toNat = -1) (nt : ¬ cT μ = 1044) (tb : tbC μ μ1) (n : exK μ μ1 1059) : CSc μ1 (fun p => (0, p, r, m, 0, 0)) := by
  refine h.exp hend tb n (by decide) (nsE (by decide)) (fun p v f q => rfl) (fun p t v f q ht e => ?_)
  show n8 r m t f q = _
  unfold n8
  rw [if_neg (by rw [e]; exact nt), if_neg ht]
/-- behind a fault the token in hand is the end -/
theorem CSc.cTe {μ : mM} {e : Int → Cfg} (h : CSc μ e) (hf : ¬ μ 23 18 = 0) : cT μ = -1 := by
  rcases h with ⟨h1, _⟩ | ⟨_, h2, h3, _⟩
  · exact absurd h1 hf
  · unfold cT; rw [h2]; exact h3
theorem ntP.e {μ : mM} (h : cT μ = -1) : ntP μ := by unfold ntP; omega
theorem ntP.sm {μ μ1 : mM} (h : ¬ cT μ = -2 ∧ ¬ cT μ = 7 ∧ ¬ cT μ = 1040) (k : ¬ cT μ1 = 1124) (tb : tbC μ μ1) (s : smK μ μ1) : ntP μ1 := by
  have e : cT μ1 = cT μ := by unfold cT; rw [tb.1.1, s.1]
  rw [e] at k
  unfold ntP
  rw [e]
  exact ⟨h.1, h.2.1, h.2.2, k⟩
theorem ntP.fr {μ μ1 : mM} (h : ntP μ) (tb : tbC μ μ1) (s : smK μ μ1) : ntP μ1 := by
  have e : cT μ1 = cT μ := by unfold cT; rw [tb.1.1, s.1]
  unfold ntP at h ⊢
  rw [e]; exact h
theorem cT.sm {μ μ1 : mM} {k : Int} (h : ¬ cT μ = k) (tb : tbC μ μ1) (s : smK μ μ1) : ¬ cT μ1 = k := by
  have e : cT μ1 = cT μ := by unfold cT; rw [tb.1.1, s.1]
  rw [e]; exact h
theorem decN.nn {B : Int → Int} {p : Int} : ∀ n : Nat, (∀ i, p ≤ i → i < p + (n : Int) → isF (B i)) → 0 ≤ decN B p n
  | 0, _ => Int.le_refl 0
  | n + 1, h => by
    have h1 := decN.nn n (fun i a b => h i a (by omega))
    have h2 := h (p + (n : Int)) (by omega) (by omega)
    unfold isF at h2
    show 0 ≤ 10 * decN B p n + (B (p + (n : Int)) - 48)
    omega
theorem TokX.v0 {B : Int → Int} {p v f q : Int} (h : TokX (wrW B) B p (-2) v f q) : 0 ≤ v := by
  obtain ⟨_, h⟩ := h
  rcases h with ⟨_, h, _⟩ | ⟨_, _, h, _⟩ | ⟨_, h2, h⟩ | ⟨h1, h, _⟩
  · omega
  · rcases h with ⟨w, _, h, _⟩ | ⟨h, _⟩ <;> omega
  · rcases h with ⟨_, h, _⟩ | ⟨h1, _, h⟩
    · omega
    · rw [h]
      refine decN.nn _ (fun i a b => h2.2.1 i a ?_)
      have := h2.1
      omega
  · have := h1.1; omega
theorem CSc.v0 {μ : mM} {e : Int → Cfg} (h : CSc μ e) (ht : cT μ = -2) : 0 ≤ cV μ := by
  rcases h with ⟨_, p, h2, _⟩ | ⟨_, h2, h3, _⟩
  · obtain ⟨_, q, g, _⟩ := h2.tok (by rw [show μ 24 (μ 23 9).toNat = -2 from ht]; decide)
    rw [show μ 24 (μ 23 9).toNat = -2 from ht] at g
    exact g.v0
  · rw [show cT μ = -1 from by unfold cT; rw [h2]; exact h3] at ht
    exact absurd ht (by decide)
theorem tbC.refl {μ : mM} : tbC μ μ := ⟨tbK.refl, rfl, rfl, rfl⟩
theorem CSc.barT {μ μ1 : mM} {r m x y z : Int} (h : CSc μ (fun p => (15, p, r, m, x, y))) (hy : y = 0) (tb : tbC μ μ1) (tk : tkK μ μ1 1124 z) : CSc μ1 (fun p => (15, p, r, m, x, 0)) := by
  subst hy
  rcases tk with ⟨_, a, b⟩ | ⟨_, _, b⟩
  · exact h.bar tb b a
  · exact h.same tb b
theorem ntT {μ μ1 : mM} {z : Int} (h : ¬ cT μ = -2 ∧ ¬ cT μ = 7 ∧ ¬ cT μ = 1040) (tk : tkK μ μ1 1124 z) (tb : tbC μ μ1) : z = 1 ∨ ntP μ1 := by
  rcases tk with ⟨a, _, _⟩ | ⟨_, a, b⟩
  · exact Or.inl a
  · exact Or.inr (ntP.sm h (cT.sm a tb b) tb b)
theorem CSc.notT {μ μ1 : mM} {r m z : Int} (h : CSc μ (fun p => (1, p, r, m, 0, 0))) (tb : tbC μ μ1) (tk : tkK μ μ1 3 z) : CSc μ1 (fun p => (1, p, r, m, 0, 0)) := by
  rcases tk with ⟨_, a, b⟩ | ⟨_, _, b⟩
  · refine h.mvs tb b (by rw [a]; decide) (nsE (by decide)) (fun p q => ?_)
    rw [a]; rfl
  · exact h.same tb b
theorem CSc.t2 {μ μ1 : mM} {e' : Int → Cfg} {r m x y : Int} (h : CSc μ (fun p => (1, p, r, m, x, y))) (hend : μ 24 (μ 23 8).toNat = -1) (tb : tbC μ μ1) (n : flK μ μ1 2) (h3 : ¬ cT μ = 3) (ht : ¬ isTs (cT μ)) : CSc μ1 e' := by
  refine h.fail hend tb n (by decide) (nsE (by decide)) (fun p v q _ => ?_)
  show n1 r m (cT μ) (cP μ) q = _
  unfold n1
  rw [if_neg h3, if_pos ht]
def rwA (μ : mM) (r m z : Int) : Prop := (z = 1 ∧ CSc μ (fun p => (1, p, r, m, 0, 0))) ∨ (z = 0 ∧ CSc μ (fun p => (5, p, r, m, 0, 0)) ∧ ¬ cT μ = 1)
def rwC (μ : mM) (r m z : Int) : Prop := (z = 1 ∧ CSc μ (fun p => (6, p, r, m, 0, 0))) ∨ (z = 0 ∧ CSc μ (fun p => (8, p, r, m, 0, 0)) ∧ ¬ cT μ = 1044)
theorem rwA.tk {μ μ1 : mM} {r m z : Int} (h : CSc μ (fun p => (5, p, r, m, 0, 0))) (tb : tbC μ μ1) (tk : tkK μ μ1 1 z) : rwA μ1 r m z := by
  rcases tk with ⟨e, a, b⟩ | ⟨e, a, b⟩
  · exact Or.inl ⟨e, h.and1 tb b a⟩
  · exact Or.inr ⟨e, h.same tb b, cT.sm a tb b⟩
theorem rwC.tk {μ μ1 : mM} {r m z : Int} (h : CSc μ (fun p => (8, p, r, m, 0, 0))) (tb : tbC μ μ1) (tk : tkK μ μ1 1044 z) : rwC μ1 r m z := by
  rcases tk with ⟨e, a, b⟩ | ⟨e, a, b⟩
  · exact Or.inl ⟨e, h.com tb b a⟩
  · exact Or.inr ⟨e, h.same tb b, cT.sm a tb b⟩
theorem rwA.one {μ : mM} {r m z : Int} (h : rwA μ r m z) (hz : z = 1) : CSc μ (fun p => (1, p, r, m, 0, 0)) := by
  rcases h with h | h
  · exact h.2
  · have := h.1; omega
theorem rwA.zero {μ : mM} {r m z : Int} (h : rwA μ r m z) (hz : z = 0) : CSc μ (fun p => (5, p, r, m, 0, 0)) ∧ ¬ cT μ = 1 := by
  rcases h with h | h
  · have := h.1; omega
  · exact h.2
theorem rwA.any {μ : mM} {e' : Int → Cfg} {r m z : Int} (h : rwA μ r m z) (hf : ¬ μ 23 18 = 0) : CSc μ e' := by
  rcases h with h | h
  · exact h.2.bad hf
  · exact h.2.1.bad hf
theorem rwC.one {μ : mM} {r m z : Int} (h : rwC μ r m z) (hz : z = 1) : CSc μ (fun p => (6, p, r, m, 0, 0)) := by
  rcases h with h | h
  · exact h.2
  · have := h.1; omega
theorem rwC.zero {μ : mM} {r m z : Int} (h : rwC μ r m z) (hz : z = 0) : CSc μ (fun p => (8, p, r, m, 0, 0)) ∧ ¬ cT μ = 1044 := by
  rcases h with h | h
  · have := h.1; omega
  · exact h.2
theorem rwC.any {μ : mM} {e' : Int → Cfg} {r m z : Int} (h : rwC μ r m z) (hf : ¬ μ 23 18 = 0) : CSc μ e' := by
  rcases h with h | h
  · exact h.2.bad hf
  · exact h.2.1.bad hf
