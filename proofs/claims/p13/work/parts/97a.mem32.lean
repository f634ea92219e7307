/-! A part of the heap as a heap of its own: contracts at addresses from 0 on, moved behind what stands. -/
def shv (k : Nat) : Value → Value
  | .ref a => .ref (k + a)
  | v => v
def shE (k : Nat) : sE → sE
  | .inl (kd, n, f) => .inl (kd, n, fun i => shv k (f i))
  | .inr (ci, fs) => .inr (ci, fs.map (shv k))
theorem rv_sh (b s k : Nat) (v : Value) : rv (b, s) (shv k v) = rv (b + k, s) v := by
  cases v <;> simp [rv, shv, Nat.add_assoc]
def shH (k : Nat) (f f2 : Nat → sE) : Nat → sE := fun j => if j < k then f j else shE k (f2 (j - k))
theorem vpV_sh (k : Nat) (fs : List Value) (j : Nat) : vp_V (fs.map (shv k)) j = shv k (vp_V fs j) := by
  simp only [vp_V, List.getD, List.getElem?_map]
  cases fs[j]? <;> rfl
theorem sAt.hold {g : sG} {i : Nat} {x : sE} {H H' : Heap} (h : sAt g i x H) (e : H'[sg_b g + i]? = H[sg_b g + i]?) : sAt g i x H' := by
  rcases x with ⟨kd, n, f⟩ | ⟨ci, fs⟩
  · obtain ⟨cA, ty, h1, h2⟩ := h
    exact ⟨cA, ty, h1, e.trans h2⟩
  · obtain ⟨r, h1, h2, cell, h3, h4⟩ := h
    exact ⟨r, h1, h2.kept e, cell, e.trans h3, h4⟩
theorem rv_fk (b b' : Nat × Nat) (k : Nat) : rv b (sg_fk k) = rv b' (sg_fk k) := by cases k <;> rfl
section SHIFT
variable {l : Launch} {D : va_G} {c : Nat → ClassId} {H0 H1 : Heap} {sa : Nat × Nat × (Nat → Int32)}
theorem sAt.sh {k i : Nat} {x : sE} {H : Heap} (hs : H1.size = H0.size + k) : sAt (gG l D c H0 sa) (k + i) (shE k x) H ↔ sAt (gG l D c H1 sa) i x H := by
  have e : ∀ v, rv (H0.size, sa.1) (shv k v) = rv (H1.size, sa.1) v := fun v => by rw [hs]; exact rv_sh _ _ _ v
  have ea : H0.size + (k + i) = H1.size + i := by omega
  rcases x with ⟨kd, n, f⟩ | ⟨ci, fs⟩
  · have ef : (fun j => rv (H0.size, sa.1) (shv k (f j))) = fun j => rv (H1.size, sa.1) (f j) := funext fun j => e _
    show (∃ cA ty, _ ∧ H[H0.size + (k + i)]? = some (arrV cA n (fun j => rv (H0.size, sa.1) (shv k (f j))))) ↔ (∃ cA ty, _ ∧ H[H1.size + i]? = some (arrV cA n (fun j => rv (H1.size, sa.1) (f j))))
    rw [ea, ef]
  · have ef : (fun j => rv (H0.size, sa.1) (vp_V (fs.map (shv k)) j)) = fun j => rv (H1.size, sa.1) (vp_V fs j) := funext fun j => by rw [vpV_sh]; exact e _
    show (∃ r : vw_C, _ ∧ t_OB (H0.size + (k + i)) _ _ _ H (fun j => rv (H0.size, sa.1) (vp_V (fs.map (shv k)) j)) ∧ ∃ cell : Cell, H[H0.size + (k + i)]? = some cell ∧ _) ↔ (∃ r : vw_C, _ ∧ t_OB (H1.size + i) _ _ _ H (fun j => rv (H1.size, sa.1) (vp_V fs j)) ∧ ∃ cell : Cell, H[H1.size + i]? = some cell ∧ _)
    rw [ea, ef]
theorem sC.shift {M : sM} {d C S k n2 : Nat} {av2 : List Value} {f f2 : Nat → sE} {Q : Option Value → sHp → Prop} (hf : ∀ j, j < n2 → f (k + j) = shE k (f2 j)) (h : ∀ H1, sC (gG l D c H1 sa) M d C S av2 (n2, f2) Q) :
    sC (gG l D c H0 sa) M d C S (av2.map (shv k)) (k + n2, f) (fun r hp => ∃ r2 n3 f3, Q r2 (n3, f3) ∧ r = r2.map (shv k) ∧ hp = (k + n3, shH k f f3)) := by
  intro p e ha hc hk s m args below hF h1 h2 h3
  obtain ⟨rfl, hR, hK⟩ := h2
  have hsz : s.heap.size = H0.size + (k + n2) := hR.1
  obtain ⟨H1, eH⟩ : ∃ H1 : Heap, H1 = s.heap.extract 0 (H0.size + k) := ⟨_, rfl⟩
  have hs1 : H1.size = H0.size + k := by rw [eH]; simp; omega
  have hx : ∀ q, q < H0.size + k → H1[q]? = s.heap[q]? := fun q hq => by
    rw [eH, Array.getElem?_extract]
    simp [hsz]; omega
  have hx0 : ∀ q, q < H0.size → H1[q]? = H0[q]? := fun q hq => (hx q (by omega)).trans (hR.2.2 q hq)
  have hR2 : sR (gG l D c H1 sa) (n2, f2) s.heap := by
    refine ⟨by show s.heap.size = H1.size + n2; omega, fun i hi => ?_, fun q hq => (hx q (by have : q < H1.size := hq; omega)).symm⟩
    have q := hR.2.1 (k + i) (by show k + i < k + n2; have : i < n2 := hi; omega)
    rw [show ((k + n2, f) : sHp).2 (k + i) = f (k + i) from rfl, hf i hi] at q
    exact (sAt.sh hs1).mp q
  have hK2 : sK (gG l D c H1 sa) s := by
    refine ⟨hK.1, hK.2.1, ?_, ?_⟩
    · obtain ⟨scr, g1, g2⟩ := hK.2.2.1
      exact ⟨scr, (hx0 _ (Array.getElem?_eq_some_iff.mp g1).1).trans g1, g2⟩
    · have hq : ∀ {P : Nat → Prop}, ∀ a : Nat, a < H0.size → ¬ P a → H1[a]? = H0[a]? := fun a g _ => hx0 a g
      obtain ⟨k1, k2, k3, k4, ⟨f, k5⟩, k6, k7, k8, k9⟩ := hK.2.2.2
      exact ⟨k1, k2.kept hq, k3.kept hq, k4.kept hq, ⟨f, k5.kept hq⟩, k6.kept hq, by
        have e : rv (sg_r (gG l D c H1 sa)) (sg_f (gG l D c H1 sa)) = rv (sg_r (gG l D c H0 sa)) (sg_f (gG l D c H0 sa)) := rv_fk _ _ _
        rw [e]; exact k7.kept hq, k8, k9⟩
  have ea : ((av2.map (shv k)).map (rv (sg_r (gG l D c H0 sa)))).toArray = (av2.map (rv (sg_r (gG l D c H1 sa)))).toArray := by
    congr 1
    rw [List.map_map]
    refine List.map_congr_left fun v _ => ?_
    show rv (H0.size, sa.1) (shv k v) = rv (H1.size, sa.1) v
    rw [hs1]; exact rv_sh _ _ _ v
  obtain ⟨n, o, a1, a2, a3, ⟨⟨r, hp', b1, b2, b3, b4⟩, L, a4, a5⟩⟩ := h H1 p e ha hc hk s m _ below hF h1 ⟨ea, hR2, hK2⟩ h3
  refine ⟨n, o, a1, a2, a3, ⟨⟨r.map (shv k), (k + hp'.1, shH k f hp'.2), ?_, ⟨r, hp'.1, hp'.2, b2, rfl, rfl⟩, ?_, hK.warm a4.2.1⟩, L, a4, fun q hq => Nat.le_trans (by show H0.size ≤ H1.size; omega) (a5 q hq)⟩⟩
  · rw [b1]
    cases r with
    | none => rfl
    | some v =>
      show Outcome.returned (some (rv (H1.size, sa.1) v)) = Outcome.returned (some (rv (H0.size, sa.1) (shv k v)))
      rw [rv_sh, hs1]
  · refine ⟨by have := b3.1; show _ = H0.size + (k + hp'.1); rw [show _ = H1.size + hp'.1 from this]; omega, fun i hi => ?_, fun q hq => ?_⟩
    · by_cases hik : i < k
      · rw [show ((k + hp'.1, shH k f hp'.2) : sHp).2 i = f i from if_pos hik]
        have g0 := hR.2.1 i (by show i < k + n2; omega)
        have ge : (stepsAlone p.tables e n s).heap[H0.size + i]? = s.heap[H0.size + i]? := (b3.2.2 _ (by show H0.size + i < H1.size; omega)).trans (hx _ (by omega))
        exact sAt.hold g0 ge
      · rw [show ((k + hp'.1, shH k f hp'.2) : sHp).2 i = shE k (hp'.2 (i - k)) from if_neg hik]
        have g1 := b3.2.1 (i - k) (by have : i < k + hp'.1 := hi; omega)
        have g2 := (sAt.sh (l := l) (D := D) (c := c) (sa := sa) (H0 := H0) hs1).mpr g1
        rw [show k + (i - k) = i by omega] at g2
        exact g2
    · have hq : q < H0.size := hq
      rw [b3.2.2 q (by show q < H1.size; omega)]
      exact hx0 q hq
end SHIFT
/-- cells that are alike: rows up to their lengths -/
def sEq (x y : sE) : Prop := match x, y with
  | .inl (kd, n, f), .inl (kd', n', f') => kd = kd' ∧ n = n' ∧ ∀ i, i < n → f i = f' i
  | .inr a, .inr b => a = b
  | _, _ => False
theorem arrV_eq {cA : ClassId} {n : Nat} {f f' : Nat → Value} (h : ∀ i, i < n → f i = f' i) : arrV cA n f = arrV cA n f' := by
  unfold arrV
  congr 1
  apply Array.ext
  · simp
  · intro i h1 h2
    simp at h1
    simp [h i h1]
theorem sAt.eqv {g : sG} {i : Nat} {x y : sE} {H : Heap} (e : sEq x y) (h : sAt g i x H) : sAt g i y H := by
  rcases x with ⟨kd, n, f⟩ | ⟨ci, fs⟩ <;> rcases y with ⟨kd', n', f'⟩ | ⟨ci', fs'⟩
  · obtain ⟨rfl, rfl, e⟩ := e
    obtain ⟨cA, ty, h1, h2⟩ := h
    exact ⟨cA, ty, h1, by rw [h2, arrV_eq (fun j hj => by rw [e j hj])]⟩
  · exact e.elim
  · exact e.elim
  · obtain ⟨rfl, rfl⟩ : ci = ci' ∧ fs = fs' := Prod.mk.injEq .. ▸ e
    exact h
theorem sv_heapE {g : sG} {M : sM} {R : Room} {Z : sZT} {pc : Nat} {lv : List (Nat × Value)} {st : List Value} {hp hp' : sHp} {ce sl : Nat} (h1 : hp.1 = hp'.1) (h2 : ∀ j, j < hp'.1 → sEq (hp.2 j) (hp'.2 j)) (k : sV g M R Z pc lv st hp' ce sl) : sV g M R Z pc lv st hp ce sl := by
  intro p e s m args below meth c H locs ls X r hl h
  exact k p e s m args below meth c H locs ls X ⟨by rw [← h1]; exact r.1, fun i hi => (r.2.1 i (by rw [h1]; exact hi)).eqv (h2 i hi), r.2.2⟩ hl h
theorem sv_lvG {g : sG} {M : sM} {R : Room} {Z : sZT} {pc : Nat} {lv lv' : List (Nat × Value)} {st : List Value} {hp : sHp} {ce sl : Nat} (h : ∀ q ∈ lv', sGet q.1 lv = some q.2) (k : sV g M R Z pc lv' st hp ce sl) : sV g M R Z pc lv st hp ce sl := sv_lv (fun q hq => sGet_mem (h q hq)) k
