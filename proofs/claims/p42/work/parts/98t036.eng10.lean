section
/-! The reference's picks. -/
def rvR (μ : mM) (r : Int) : Rt := (μ 126 (40 * r).toNat, μ 126 (40 * r + 1).toNat, μ 126 (40 * r + 2).toNat, μ 126 (40 * r + 3).toNat, rowL (fun k => μ 126 (40 * r + 6 + (k : Int)).toNat) (μ 126 (40 * r + 4).toNat).toNat, rowL (fun k => μ 126 (40 * r + 26 + (k : Int)).toNat) (μ 126 (40 * r + 5).toNat).toNat)
def sdR (μ : mM) (t d : Int) : Int := if μ 110 (2 * t).toNat = d then 0 else 1
def ptR (μ : mM) (t d : Int) : Int := μ 110 (2 * t + 1 - sdR μ t d).toNat
def slR (μ : mM) (t d p : Int) : Int := (2 * t + sdR μ t d) * 10 + p
/-- the row r as what is heard over the tie t -/
def cdX (μ : mM) (d p r t : Int) : Cd := (t, ptR μ t d, μ 154 (slR μ t d p).toNat, rvR μ r)
theorem X12_sideOf_s {w : mW} {μ : mM} {t d : Int} {Q : Int → mM → Prop} (k : Q (sdR μ t d) μ) : WP_X12_sideOf_W w μ t d Q := by
  intro e ee _
  subst ee
  unfold sdR at k
  refine ⟨fun c => ?_, fun c => ?_⟩
  · rw [if_neg c] at k; exact k
  · rw [if_pos c] at k; exact k
theorem sdR.rng {μ : mM} {t d : Int} : 0 ≤ sdR μ t d ∧ sdR μ t d ≤ 1 := by
  unfold sdR
  split <;> omega
theorem X12_partnerOf_s {w : mW} {μ : mM} {t d : Int} {Q : Int → mM → Prop} (k : Q (ptR μ t d) μ) : WP_X12_partnerOf_W w μ t d Q := by
  intro e ee _
  refine X12_sideOf_s fun _ z ez _ => ?_
  subst ez
  exact k
theorem X12_unlike_s {w : mW} {μ : mM} {d x tx y ty p : Int} {Q : Int → mM → Prop} (hd : 0 ≤ d) (rx : rgV (rvR μ x)) (ry : rgV (rvR μ y)) (k : Q (unl (rowL (fun i => μ 163 (6 * d + (i : Int)).toNat) 6) (cdX μ d p x tx) (cdX μ d p y ty)) μ) : WP_X12_unlike_W w μ d x tx y ty p Q := by
  obtain ⟨⟨w1, w2⟩, ⟨o1, o2⟩, ⟨c1, c2⟩⟩ := rx
  obtain ⟨⟨w3, w4⟩, ⟨o3, o4⟩, ⟨c3, c4⟩⟩ := ry
  have w1 : 0 ≤ μ 126 (40 * x + 1).toNat := w1
  have w2 : μ 126 (40 * x + 1).toNat ≤ 1000 := w2
  have w3 : 0 ≤ μ 126 (40 * y + 1).toNat := w3
  have w4 : μ 126 (40 * y + 1).toNat ≤ 1000 := w4
  have o1 : 0 ≤ μ 126 (40 * x + 2).toNat := o1
  have o2 : μ 126 (40 * x + 2).toNat ≤ 2 := o2
  have o3 : 0 ≤ μ 126 (40 * y + 2).toNat := o3
  have o4 : μ 126 (40 * y + 2).toNat ≤ 2 := o4
  have c1 : 0 ≤ μ 126 (40 * x + 3).toNat := c1
  have c2 : μ 126 (40 * x + 3).toNat ≤ 1000000 := c2
  have c3 : 0 ≤ μ 126 (40 * y + 3).toNat := c3
  have c4 : μ 126 (40 * y + 3).toNat ≤ 1000000 := c4
  refine loopF.i (fun s => 0 ≤ s ∧ s ≤ 6 ∧ unl (rowL (fun i => μ 163 (6 * d + (i : Int)).toNat) 6) (cdX μ d p x tx) (cdX μ d p y ty) = unl (rowL (fun i => μ 163 (6 * d + ((s.toNat + i : Nat) : Int)).toNat) (6 - s.toNat)) (cdX μ d p x tx) (cdX μ d p y ty)) (fun s => (6 - s).toNat) ⟨by omega, by omega, by simp⟩ (by omega) ?_
  rintro rc s ⟨s0, s6, h⟩ ih s' e hs
  subst e
  refine ⟨fun g => ?_, fun g v ev hv n en hn => ?_⟩
  · rw [h, show 6 - s.toNat = 0 by omega] at k
    exact k
  have hdd : unl (rowL (fun i => μ 163 (6 * d + (i : Int)).toNat) 6) (cdX μ d p x tx) (cdX μ d p y ty) = (if stD v (cdX μ d p x tx) (cdX μ d p y ty) = 0 then unl (rowL (fun i => μ 163 (6 * d + (((s + 1).toNat + i : Nat) : Int)).toNat) (6 - (s + 1).toNat)) (cdX μ d p x tx) (cdX μ d p y ty) else if stD v (cdX μ d p x tx) (cdX μ d p y ty) < 0 then v else -v) := by
    rw [h, show 6 - s.toNat = (6 - (s + 1).toNat) + 1 by omega, rowL.head]
    have e0 : μ 163 (6 * d + ((s.toNat + 0 : Nat) : Int)).toNat = v := by
      rw [← ev]
      congr 2
      omega
    rw [e0]
    have e1 : (fun i : Nat => μ 163 (6 * d + ((s.toNat + (i + 1) : Nat) : Int)).toNat) = (fun i : Nat => μ 163 (6 * d + (((s + 1).toNat + i : Nat) : Int)).toNat) := by
      funext i
      rw [show s.toNat + (i + 1) = (s + 1).toNat + i by omega]
    rw [e1]
    rfl
  have J7 : ∀ z : Int, z = stD v (cdX μ d p x tx) (cdX μ d p y ty) → WJ_X12_unlike_W_7 μ Q rc s v z := by
    intro z ez _
    refine ⟨fun c => ih _ ⟨by omega, by omega, ?_⟩ (by omega), fun c => ⟨fun c2 => ?_, fun c2 => ?_⟩⟩
    · rw [hdd, if_pos (by omega)]
    · rw [hdd, if_neg (by omega), if_neg (by omega)] at k
      rw [Int.zero_sub]
      exact k
    · rw [hdd, if_neg (by omega), if_pos (by omega)] at k
      exact k
  have J6 : ∀ z : Int, (¬ v = 5 → z = stD v (cdX μ d p x tx) (cdX μ d p y ty)) → WJ_X12_unlike_W_6 w μ d tx ty p Q rc s v z := by
    intro z ez _
    refine ⟨fun c => J7 z (ez c), fun c e ee _ => ?_⟩
    refine X12_sideOf_s fun _ _ a ea _ f ff _ => ?_
    refine X12_sideOf_s fun _ _ b eb _ => J7 _ ?_
    subst c ea eb
    rfl
  have J5 : ∀ (z one : Int), (¬ v = 4 → ¬ v = 5 → ¬ v = 6 → z = stD v (cdX μ d p x tx) (cdX μ d p y ty)) → (v = 4 → z = 0) → (one = 0 ∨ one = 1) → (one = 1 ↔ shF (wOf (rvR μ x)) (wOf (rvR μ y))) → WJ_X12_unlike_W_5 w μ d x tx y ty p Q rc s v one z := by
    intro z one ez e4 h01 ho _
    refine ⟨fun n4 => ⟨fun n6 => J6 z (fun n5 => ez n4 n5 n6), fun c a ea _ b eb _ r hr er => J6 r (fun _ => ?_)⟩, fun c => ⟨fun q a ea _ b eb _ r hr er => J6 r (fun _ => ?_), fun q => J6 z (fun _ => ?_)⟩⟩
    · subst c
      show r = μ 126 (40 * x + 3).toNat - μ 126 (40 * y + 3).toNat
      omega
    · subst c
      show r = cIf (shF (wOf (rvR μ x)) (wOf (rvR μ y))) (μ 126 (40 * x + 3).toNat - μ 126 (40 * y + 3).toNat) 0
      rw [cIf.pos (ho.mp (by omega))]
      omega
    · rw [e4 c]
      subst c
      show 0 = cIf (shF (wOf (rvR μ x)) (wOf (rvR μ y))) (μ 126 (40 * x + 3).toNat - μ 126 (40 * y + 3).toNat) 0
      rw [cIf.neg (fun g => by have := ho.mpr g; omega)]
  have J2 : ∀ one : Int, (one = 0 ∨ one = 1) → (one = 1 ↔ shF (wOf (rvR μ x)) (wOf (rvR μ y))) → WJ_X12_unlike_W_2 w μ d x tx y ty p Q rc s v n one := by
    intro one h01 ho _
    have J4 : ∀ z : Int, (¬ v = 3 → ¬ v = 4 → ¬ v = 5 → ¬ v = 6 → z = stD v (cdX μ d p x tx) (cdX μ d p y ty)) → (v = 4 → z = 0) → WJ_X12_unlike_W_4 w μ d x tx y ty p Q rc s v one z := by
      intro z ez e4 _
      refine ⟨fun n3 => J5 z one (ez n3) e4 h01 ho, fun c a ea _ b eb _ r hr er => J5 r one (fun _ _ _ => ?_) (fun c4 => by omega) h01 ho⟩
      subst c
      show r = μ 126 (40 * x + 2).toNat - μ 126 (40 * y + 2).toNat
      omega
    have J3 : ∀ z : Int, (¬ v = 2 → ¬ v = 3 → ¬ v = 4 → ¬ v = 5 → ¬ v = 6 → z = stD v (cdX μ d p x tx) (cdX μ d p y ty)) → (v = 4 → z = 0) → WJ_X12_unlike_W_3 w μ d x tx y ty p Q rc s v n one z := by
      intro z ez e4 _
      refine ⟨fun n2 => J4 z (ez n2) e4, fun c a ea ha => J4 _ (fun _ _ _ _ => ?_) (fun c4 => by omega)⟩
      have h1 := hn.2.2.1 (by omega)
      have h2 := ha.2.2.1 (by omega)
      subst c
      show n - a = ((rowL (fun k => μ 126 (40 * x + 6 + (k : Int)).toNat) (μ 126 (40 * x + 4).toNat).toNat).length : Int) - (rowL (fun k => μ 126 (40 * y + 6 + (k : Int)).toNat) (μ 126 (40 * y + 4).toNat).toNat).length
      rw [rowL.len, rowL.len]
      omega
    refine ⟨fun n1 => J3 0 (fun n2 n3 n4 n5 n6 => ?_) (fun _ => rfl), fun c a ea _ b eb _ r hr er => J3 r (fun _ _ _ _ _ => ?_) (fun c4 => by omega)⟩
    · apply Classical.byContradiction
      intro g
      have := stD.pos (fun e => g e.symm)
      omega
    · subst c
      show r = μ 126 (40 * y + 1).toNat - μ 126 (40 * x + 1).toNat
      omega
  have h1 := hn.2.2.1 (by omega)
  have sx : shF (wOf (rvR μ x)) (wOf (rvR μ y)) → 0 < n ∧ 0 < μ 126 (40 * y + 4).toNat ∧ μ 126 (40 * x + 6).toNat = μ 126 (40 * y + 6).toNat := fun g => by
    have q := shF.get g
    rw [en] at q
    have q3 : μ 126 (40 * x + 6 + ((0 : Nat) : Int)).toNat = μ 126 (40 * y + 6 + ((0 : Nat) : Int)).toNat := q.2.2
    simp only [Int.natCast_zero, Int.add_zero] at q3
    exact ⟨q.1, q.2.1, q3⟩
  refine ⟨fun c => J2 0 (Or.inl rfl) ⟨fun e => absurd e (by decide), fun e => ?_⟩, fun c m em hm => ⟨fun c2 => J2 0 (Or.inl rfl) ⟨fun e => absurd e (by decide), fun e => ?_⟩, fun c2 a ea _ b eb _ => ⟨fun c3 => J2 0 (Or.inl rfl) ⟨fun e => absurd e (by decide), fun e => ?_⟩, fun c3 => J2 1 (Or.inr rfl) ⟨fun _ => ?_, fun _ => rfl⟩⟩⟩⟩
  · have := sx e
    omega
  · have := sx e
    omega
  · have := sx e
    omega
  · have hm4 := hm.2.2.1 (by omega)
    refine (shF.row (by omega) (by omega)).mpr ⟨by omega, by omega, ?_⟩
    show μ 126 (40 * x + 6 + ((0 : Nat) : Int)).toNat = μ 126 (40 * y + 6 + ((0 : Nat) : Int)).toNat
    simp only [Int.natCast_zero, Int.add_zero]
    rw [ea, eb, c3]
theorem X12_beats_s {w : mW} {μ : mM} {d tx ty p : Int} {Q : Int → mM → Prop} (hd : 0 ≤ d) (rx : rgV (rvR μ (4 + tx))) (ry : rgV (rvR μ (4 + ty))) (k : ∀ z : Int, (z = 1 ↔ bts (rowL (fun i => μ 163 (6 * d + (i : Int)).toNat) 6) (cdX μ d p (4 + tx) tx) (cdX μ d p (4 + ty) ty) = true) → Q z μ) : WP_X12_beats_W w μ d tx ty p Q := by
  refine X12_unlike_s hd rx ry fun _ => ?_
  generalize eu : unl (rowL (fun i => μ 163 (6 * d + (i : Int)).toNat) 6) (cdX μ d p (4 + tx) tx) (cdX μ d p (4 + ty) ty) = u
  refine ⟨fun c => ?_, fun c => ?_⟩
  · have eb : bts (rowL (fun i => μ 163 (6 * d + (i : Int)).toNat) 6) (cdX μ d p (4 + tx) tx) (cdX μ d p (4 + ty) ty) = decide (ptR μ tx d < ptR μ ty d) := by
      unfold bts
      rw [eu, if_pos c]
      rfl
    refine X12_partnerOf_s fun _ => X12_partnerOf_s fun _ => ⟨fun q => k 0 ⟨fun e => absurd e (by decide), fun e => ?_⟩, fun q => k 1 ⟨fun _ => ?_, fun _ => rfl⟩⟩
    · rw [eb] at e
      have := of_decide_eq_true e
      omega
    · rw [eb]
      exact decide_eq_true q
  · have eb : bts (rowL (fun i => μ 163 (6 * d + (i : Int)).toNat) 6) (cdX μ d p (4 + tx) tx) (cdX μ d p (4 + ty) ty) = decide (0 < u) := by
      unfold bts
      rw [eu, if_neg c]
    refine ⟨fun q => k 0 ⟨fun e => absurd e (by decide), fun e => ?_⟩, fun q => k 1 ⟨fun _ => ?_, fun _ => rfl⟩⟩
    · rw [eb] at e
      have := of_decide_eq_true e
      omega
    · rw [eb]
      exact decide_eq_true q
end
section
/-! Lists of what is there; the best of those left. -/
def fmN {α : Type} (f : Nat → Option α) (n : Nat) : List α := (List.range n).filterMap f
theorem fmN.zero {α : Type} {f : Nat → Option α} : fmN f 0 = [] := rfl
theorem fmN.no {α : Type} {f : Nat → Option α} {n : Nat} (h : f n = none) : fmN f (n + 1) = fmN f n := by
  unfold fmN
  rw [List.range_succ, List.filterMap_append]
  simp [h]
theorem fmN.yes {α : Type} {f : Nat → Option α} {n : Nat} {x : α} (h : f n = some x) : fmN f (n + 1) = fmN f n ++ [x] := by
  unfold fmN
  rw [List.range_succ, List.filterMap_append]
  simp [h]
theorem fmN.ext {α : Type} {f g : Nat → Option α} {n : Nat} (h : ∀ i, i < n → f i = g i) : fmN f n = fmN g n := by
  induction n with
  | zero => rfl
  | succ n ih =>
    have e := ih fun i hi => h i (by omega)
    have q := h n (by omega)
    cases c : g n with
    | none => rw [fmN.no (q.trans c), fmN.no c, e]
    | some x => rw [fmN.yes (q.trans c), fmN.yes c, e]
/-- those left: by ties -/
def lfR (μ : mM) (d p : Int) (t : Nat) : Option Cd := if μ 165 t = 0 then none else some (cdX μ d p (4 + (t : Int)) (t : Int))
theorem X12_best_s {w : mW} {μ : mM} {d p : Int} {Q : Int → mM → Prop} (hd : 0 ≤ d) (hr : ∀ t : Nat, (t : Int) < μ 106 6 → ¬ μ 165 t = 0 → rgV (rvR μ (4 + (t : Int))))
    (k : ∀ z : Int, ((z = -99999999 ∧ bst (rowL (fun i => μ 163 (6 * d + (i : Int)).toNat) 6) (fmN (lfR μ d p) (μ 106 6).toNat) none = none) ∨ (0 ≤ z ∧ z < μ 106 6 ∧ ¬ μ 165 z.toNat = 0 ∧ bst (rowL (fun i => μ 163 (6 * d + (i : Int)).toNat) 6) (fmN (lfR μ d p) (μ 106 6).toNat) none = some (cdX μ d p (4 + z) z))) → Q z μ) : WP_X12_best_Wl w μ d p Q := by
  intro n en hn
  subst en
  refine loopF.ii (fun b s => 0 ≤ s ∧ s ≤ μ 106 6 ∧ ((b = -99999999 ∧ bst (rowL (fun i => μ 163 (6 * d + (i : Int)).toNat) 6) (fmN (lfR μ d p) s.toNat) none = none) ∨ (0 ≤ b ∧ b < s ∧ ¬ μ 165 b.toNat = 0 ∧ bst (rowL (fun i => μ 163 (6 * d + (i : Int)).toNat) 6) (fmN (lfR μ d p) s.toNat) none = some (cdX μ d p (4 + b) b)))) (fun _ s => (21 - s).toNat) ⟨by omega, by omega, Or.inl ⟨rfl, rfl⟩⟩ (by omega) ?_
  rintro rc b s ⟨s0, s1, h⟩ ih b' s' e _ _
  cases e
  refine ⟨fun g => ?_, fun g v ev hv => ⟨fun c => ih _ _ ⟨by omega, by omega, ?_⟩ (by omega), fun c => ?_⟩⟩
  · have e : s = μ 106 6 := by omega
    subst e
    exact k b h
  · have f : fmN (lfR μ d p) (s + 1).toNat = fmN (lfR μ d p) s.toNat := by
      rw [show (s + 1).toNat = s.toNat + 1 by omega]
      exact fmN.no (if_pos (ev.trans c))
    rw [f]
    exact h.imp id fun q => ⟨q.1, by omega, q.2.2⟩
  · have hne : ¬ μ 165 s.toNat = 0 := by rw [ev]; exact c
    have f : fmN (lfR μ d p) (s + 1).toNat = fmN (lfR μ d p) s.toNat ++ [cdX μ d p (4 + s) s] := by
      rw [show (s + 1).toNat = s.toNat + 1 by omega]
      refine fmN.yes ?_
      unfold lfR
      rw [if_neg hne, Int.toNat_of_nonneg s0]
    refine ⟨fun q => ih _ _ ⟨by omega, by omega, Or.inr ⟨s0, by omega, hne, ?_⟩⟩ (by omega), fun q => ?_⟩
    · rcases h with ⟨h1, h2⟩ | ⟨h1, _⟩
      · rw [f, bst.app, h2]
        rfl
      · omega
    · rcases h with ⟨h1, h2⟩ | ⟨h1, h2, h3, h4⟩
      · exact absurd h1 q
      · have r1 := hr s.toNat (by omega) hne
        have r2 := hr b.toNat (by omega) h3
        rw [Int.toNat_of_nonneg s0] at r1
        rw [Int.toNat_of_nonneg h1] at r2
        refine X12_beats_s hd r1 r2 fun z hz rz => ⟨fun c2 => ih _ _ ⟨by omega, by omega, Or.inr ⟨h1, by omega, h3, ?_⟩⟩ (by omega), fun c2 => ih _ _ ⟨by omega, by omega, Or.inr ⟨s0, by omega, hne, ?_⟩⟩ (by omega)⟩
        · rw [f, bst.app, h4]
          show (if bts _ (cdX μ d p (4 + s) s) (cdX μ d p (4 + b) b) = true then some (cdX μ d p (4 + s) s) else some (cdX μ d p (4 + b) b)) = _
          rw [if_neg (fun t => by have := hz.mpr t; omega)]
        · rw [f, bst.app, h4]
          show (if bts _ (cdX μ d p (4 + s) s) (cdX μ d p (4 + b) b) = true then some (cdX μ d p (4 + s) s) else some (cdX μ d p (4 + b) b)) = _
          rw [if_pos (hz.mp (by omega))]
end
section
/-! What memory says of the engine: the reference. -/
def mdR (μ : mM) (e : Nat) : Int := if e % 2 = 0 then μ 158 (e / 2) else μ 160 (e / 2)
def atR (μ : mM) (e : Nat) : Int := if e % 2 = 0 then μ 157 (e / 2) else μ 159 (e / 2)
/-- the events, in their order -/
def quR (μ : mM) (q : List Ev) : Prop := (∀ e, e < 800 → 0 ≤ atR μ e → (atR μ e, e) ∈ q) ∧ (∀ x ∈ q, x.2 < 800 ∧ atR μ x.2 = x.1 ∧ 0 ≤ x.1 ∧ mdR μ x.2 < μ 106 72) ∧ q.Pairwise (fun x y => x.1 < y.1 ∨ (x.1 = y.1 ∧ mdR μ x.2 < mdR μ y.2))
def lER : List Nat := [106026, 106027, 106028, 106029, 106030, 106031, 106071, 106072, 106073, 126999, 151999, 152999, 153999, 154999, 155999, 156999, 157999, 158999, 159999, 160999, 161999, 165999]
def lLR : List Nat := lER ++ [106070, 112999, 113999, 114999, 115999, 162999, 163999, 164999]
/-- what through answers, in every memory that differs from μ only there -/
def letR (w : mW) (μ : mM) (E : En) (G : mM → Prop) : Prop := (∀ t i, t < eT E → i < 4 → plO (μ 106 39) (ePl E (4 * t + i))) ∧ ∀ (m : mM) (pl r : Int) (t s : Nat) (x : Rt) (Q : Int → mM → Prop), mT w m → mF lLR w μ m → G m → t < eT E → s < 2 → plO (μ 106 39) pl → 0 ≤ r → r < 2100 → rtR m r = some x → srt (mOf x) → x.1 < (eP E : Int) →
  (∀ z m1, (z = 1 ↔ (eTh E pl (eN E t s) (eN E t (1 - s)) x).1 = true) → rtR m1 r = some (eTh E pl (eN E t s) (eN E t (1 - s)) x).2 → G m1 → (∀ (b i : Nat), ¬ (b = 126 ∧ 40 * r ≤ (i : Int) ∧ (i : Int) < 40 * r + 40) → ¬ b = 151 → ¬ b = 152 → ¬ b = 153 → ¬ (b = 106 ∧ 26 ≤ i ∧ i ≤ 31) → m1 b i = m b i) → Q z m1) → WP_X12_through_W w m pl r (eN E t s) (eN E t (1 - s)) (t : Int) Q
def envR (w : mW) (μ : mM) (E : En) (G : mM → Prop) : Prop :=
  μ 106 6 = (eT E : Int) ∧ μ 106 2 = (eP E : Int) ∧ μ 106 5 = (eD E : Int) ∧
  (∀ t, t < eT E → μ 110 (2 * t) = eA E t ∧ μ 110 (2 * t + 1) = eB E t ∧ μ 112 t = eU E t ∧ μ 113 t = eL E t ∧ μ 114 t = eG E t ∧ ∀ i, i < 4 → μ 115 (4 * t + i) = ePl E (4 * t + i)) ∧
  (∀ d, (d < eD E ∨ d < 10) → (∀ p, p < 10 → μ 162 (10 * d + p) = eOw E (10 * d + p)) ∧ (∃ n, rowL (fun i => μ 163 (6 * d + i)) 6 = eSt E d ++ List.replicate n 0) ∧ μ 164 d = eGr E d) ∧
  letR w μ E G
def snR (μ : mM) (E : En) (S : Sn) : Prop :=
  (∀ s : Nat, (s < 20 * eT E ∨ s < 400) → rtR μ (130 + (s : Int)) = sHd S s ∧ (¬ sHd S s = none → μ 154 s = sHw S s) ∧ rtR μ (530 + (s : Int)) = (sSd S s).1 ∧ (if μ 155 s = 0 then -1 else μ 156 s) = (sSd S s).2 ∧ (0 ≤ μ 157 s → rtR μ (930 + (s : Int)) = (sSd S s).1)) ∧
  (∀ k : Nat, (k < 10 * eD E ∨ k < 100) → μ 161 k = (sPk S k).1 ∧ rtR μ (30 + (k : Int)) = (sPk S k).2) ∧
  quR μ (sQu S) ∧ μ 106 71 = sCk S ∧ (μ 106 73 - sDn S) % 4294967296 = 0 ∧ μ 106 72 = sMd S
end
section
/-! The class: what leaves the state of the engine as it is. -/
def frC (μ m : mM) : Prop := ∀ b i, ¬ (b = 21 ∧ 2 ≤ i ∧ i ≤ 7) → ¬ (b = 32 ∧ i = 9) → ¬ (36 ≤ b ∧ b ≤ 69) → ¬ (73 ≤ b ∧ b ≤ 75) → m b i = μ b i
theorem frC.refl {μ : mM} : frC μ μ := fun _ _ _ _ _ _ => rfl
theorem frC.trans {μ m n : mM} (h : frC μ m) (k : frC m n) : frC μ n := fun b i h1 h2 h3 h4 => (k b i h1 h2 h3 h4).trans (h b i h1 h2 h3 h4)
theorem frC.tb {μ m : mM} (h : frC μ m) (t : Nat) : tbA m t = tbA μ t := by
  unfold tbA
  rw [h _ _ (by omega) (by omega) (by omega) (by omega)]
theorem frC.db {μ m : mM} (h : frC μ m) (t : Nat) : dbA m t = dbA μ t := by
  unfold dbA
  rw [h _ _ (by omega) (by omega) (by omega) (by omega)]
theorem frC.hi {μ m : mM} (h : frC μ m) {b i : Nat} (hb : 76 ≤ b) : m b i = μ b i := h b i (by omega) (by omega) (by omega) (by omega)
theorem frC.rt {μ m : mM} (h : frC μ m) {a : Nat} (ha : 76 ≤ a) : rtC m a = rtC μ a := rtC.of (fun i => h.hi ha) (fun i => h.hi (by omega)) (fun i => h.hi (by omega))
theorem frC.ev {μ m : mM} (h : frC μ m) : evC m = evC μ := by
  rw [evC.eq, evC.eq, h 32 10 (by omega) (by omega) (by omega) (by omega)]
  refine lst.ext fun i _ => ?_
  rw [h 33 i (by omega) (by omega) (by omega) (by omega), h 34 _ (by omega) (by omega) (by omega) (by omega)]
theorem snC.fr {μ m : mM} {E : En} {S : Sn} (h : snC μ E S) (ly : LYC μ (eT E) (eD E)) (f : frC μ m) : snC m E S := by
  obtain ⟨h1, h2, h3, h4, h5, h6, h7⟩ := h
  refine ⟨fun t k ht hk => ?_, fun d p hd hp => ?_, ?_, fun i hi => ?_, ?_, ?_, ?_⟩
  · have a := ly.1 t ht
    have b := h1 t k ht hk
    show rtC m (tbA m t + 4 + 6 * k) = _ ∧ (_ → m (tbA m t + 4 + 6 * k) 9 = _) ∧ rtC m (tbA m t + 7 + 6 * k) = _ ∧ m (tbA m t + 7 + 6 * k) 9 = _
    rw [f.tb, f.rt (by omega), f.hi (b := tbA μ t + 4 + 6 * k) (by omega), f.rt (by omega), f.hi (b := tbA μ t + 7 + 6 * k) (by omega)]
    exact b
  · have a := ly.2.1 d hd
    have b := h2 d p hd hp
    show m (dbA m d + 3) p = _ ∧ rtC m (dbA m d + 5 + 3 * p) = _
    rw [f.db, f.hi (by omega), f.rt (by omega)]
    exact b
  · rw [f.ev]; exact h3
  · rw [f 34 i (by omega) (by omega) (by omega) (by omega)]; exact h4 i hi
  · rw [f 32 11 (by omega) (by omega) (by omega) (by omega)]; exact h5
  · rw [f 32 12 (by omega) (by omega) (by omega) (by omega)]; exact h6
  · rw [rtC.of (fun i => f 70 i (by omega) (by omega) (by omega) (by omega)) (fun i => f 71 i (by omega) (by omega) (by omega) (by omega)) (fun i => f 72 i (by omega) (by omega) (by omega) (by omega))]
    exact h7
/-- something else is said over a tie -/
theorem snC.say {μ m : mM} {E : En} {S : Sn} {t k : Nat} {o : Option Rt} {v : Int} {q : List Ev} (h : snC μ E S) (ly : LYC μ (eT E) (eD E)) (ht : t < eT E) (hk : k < 20)
    (f : ∀ b i, ¬ (b = 21 ∧ 2 ≤ i ∧ i ≤ 7) → ¬ (b = 32 ∧ (i = 9 ∨ i = 10)) → ¬ b = 33 → ¬ b = 34 → ¬ (36 ≤ b ∧ b ≤ 69) → ¬ (73 ≤ b ∧ b ≤ 75) → ¬ (tbA μ t + 7 + 6 * k ≤ b ∧ b ≤ tbA μ t + 9 + 6 * k) → m b i = μ b i)
    (ho : rtC m (tbA μ t + 7 + 6 * k) = o) (hv : m (tbA μ t + 7 + 6 * k) 9 = v) (hq : evC m = q) (hf : ∀ i, i < 800 → (¬ m 34 i = -1 ↔ ∃ x, (x, i) ∈ q)) : snC m E (mk! (sd! S (20 * t + k) (o, v)) q) := by
  obtain ⟨h1, h2, h3, h4, h5, h6, h7⟩ := h
  obtain ⟨l1, l2, l3, l4, l5, l6⟩ := ly
  have tb : ∀ s, tbA m s = tbA μ s := fun s => by
    unfold tbA
    rw [f _ _ (by omega) (by omega) (by omega) (by omega) (by omega) (by omega) (by have := (l1 t ht).2.1; omega)]
  have db : ∀ s, dbA m s = dbA μ s := fun s => by
    unfold dbA
    rw [f _ _ (by omega) (by omega) (by omega) (by omega) (by omega) (by omega) (by have := (l1 t ht).2.1; omega)]
  have at_ : ∀ b i, 192 ≤ b → ¬ (tbA μ t + 7 + 6 * k ≤ b ∧ b ≤ tbA μ t + 9 + 6 * k) → m b i = μ b i := fun b i h8 h9 => f b i (by omega) (by omega) (by omega) (by omega) (by omega) (by omega) h9
  have rt : ∀ a, 192 ≤ a → (a + 2 < tbA μ t + 7 + 6 * k ∨ tbA μ t + 9 + 6 * k < a) → rtC m a = rtC μ a := fun a ha h9 => rtC.of (fun i => at_ a i ha (by omega)) (fun i => at_ (a + 1) i (by omega) (by omega)) (fun i => at_ (a + 2) i (by omega) (by omega))
  refine ⟨fun s j hs hj => ?_, fun d p hd hp => ?_, hq, hf, ?_, ?_, ?_⟩
  · have a := l1 s hs
    have b := h1 s j hs hj
    show rtC m (tbA m s + 4 + 6 * j) = sHd S (20 * s + j) ∧ (¬ sHd S (20 * s + j) = none → m (tbA m s + 4 + 6 * j) 9 = sHw S (20 * s + j)) ∧ rtC m (tbA m s + 7 + 6 * j) = (if 20 * s + j = 20 * t + k then (o, v) else sSd S (20 * s + j)).1 ∧ m (tbA m s + 7 + 6 * j) 9 = (if 20 * s + j = 20 * t + k then (o, v) else sSd S (20 * s + j)).2
    by_cases c : s = t
    · subst c
      rw [tb, rt _ (by omega) (by omega), at_ (tbA μ s + 4 + 6 * j) 9 (by omega) (by omega)]
      refine ⟨b.1, b.2.1, ?_⟩
      by_cases e : j = k
      · subst e
        rw [if_pos rfl]
        exact ⟨ho, hv⟩
      · rw [if_neg (by omega), rt _ (by omega) (by omega), at_ (tbA μ s + 7 + 6 * j) 9 (by omega) (by omega)]
        exact b.2.2
    · have c1 := l3 s t hs ht c
      rw [tb, rt _ (by omega) (by omega), at_ (tbA μ s + 4 + 6 * j) 9 (by omega) (by omega), if_neg (by omega), rt _ (by omega) (by omega), at_ (tbA μ s + 7 + 6 * j) 9 (by omega) (by omega)]
      exact b
  · have a := l2 d hd
    have b := h2 d p hd hp
    have c := l5 t d ht hd
    show m (dbA m d + 3) p = _ ∧ rtC m (dbA m d + 5 + 3 * p) = _
    rw [db, at_ _ _ (by omega) (by omega), rt _ (by omega) (by omega)]
    exact b
  · have a := (l1 t ht).2.1
    rw [f 32 11 (by omega) (by omega) (by omega) (by omega) (by omega) (by omega) (by omega)]; exact h5
  · have a := (l1 t ht).2.1
    rw [f 32 12 (by omega) (by omega) (by omega) (by omega) (by omega) (by omega) (by omega)]; exact h6
  · have a := (l1 t ht).2.1
    rw [rtC.of (fun i => f 70 i (by omega) (by omega) (by omega) (by omega) (by omega) (by omega) (by omega)) (fun i => f 71 i (by omega) (by omega) (by omega) (by omega) (by omega) (by omega) (by omega)) (fun i => f 72 i (by omega) (by omega) (by omega) (by omega) (by omega) (by omega) (by omega))]
    exact h7
end
section
/-! The reference: what leaves the state as it is; candidates. -/
def frT (μ m : mM) (r : Int) : Prop := ∀ (b i : Nat), ¬ (b = 126 ∧ 40 * r ≤ (i : Int) ∧ (i : Int) < 40 * r + 40) → ¬ b = 151 → ¬ b = 152 → ¬ b = 153 → ¬ (b = 106 ∧ 26 ≤ i ∧ i ≤ 31) → m b i = μ b i
def frR (μ m : mM) : Prop := ∀ (b i : Nat), ¬ (b = 126 ∧ 40 ≤ i ∧ i < 960) → ¬ b = 151 → ¬ b = 152 → ¬ b = 153 → ¬ b = 165 → ¬ (b = 106 ∧ 26 ≤ i ∧ i ≤ 31) → m b i = μ b i
theorem frT.refl {μ : mM} {r : Int} : frT μ μ r := fun _ _ _ _ _ _ _ => rfl
theorem frT.trans {μ m n : mM} {r : Int} (h : frT μ m r) (k : frT m n r) : frT μ n r := fun b i h1 h2 h3 h4 h5 => (k b i h1 h2 h3 h4 h5).trans (h b i h1 h2 h3 h4 h5)
theorem frT.on {μ m n : mM} {r : Int} (h : frT μ m r) (k : onR m n r) : frT μ n r := fun b i h1 h2 h3 h4 h5 => (k b i h1).trans (h b i h1 h2 h3 h4 h5)
theorem frT.no {μ m n : mM} {r : Int} (h : frT μ m r) (k : ∀ (b i : Nat), ¬ (b = 126 ∧ (i : Int) = 40 * r) → n b i = m b i) : frT μ n r := fun b i h1 h2 h3 h4 h5 => (k b i (by omega)).trans (h b i h1 h2 h3 h4 h5)
theorem frT.fr {μ m : mM} {r : Int} (h : frT μ m r) (hr : 1 ≤ r ∧ r < 24) : frR μ m := fun b i h1 h2 h3 h4 _ h6 => h b i (by omega) h2 h3 h4 h6
theorem frR.refl {μ : mM} : frR μ μ := fun _ _ _ _ _ _ _ _ => rfl
theorem frR.trans {μ m n : mM} (h : frR μ m) (k : frR m n) : frR μ n := fun b i h1 h2 h3 h4 h5 h6 => (k b i h1 h2 h3 h4 h5 h6).trans (h b i h1 h2 h3 h4 h5 h6)
/-- lengths of rows -/
theorem mT.rb {w : mW} {μ : mM} (hw : mWF w) (h : mT w μ) {r : Int} (hr : 0 ≤ r) : (0 ≤ μ 126 (40 * r + 4).toNat ∧ μ 126 (40 * r + 4).toNat ≤ 20) ∧ (0 ≤ μ 126 (40 * r + 5).toNat ∧ μ 126 (40 * r + 5).toNat ≤ 8) :=
  ⟨(rt7 h (A_126 hw) (e := 40 * r + 4) (by omega) rfl).2.2.1 (by omega), (rt7 h (A_126 hw) (e := 40 * r + 5) (by omega) rfl).2.2.2 (by omega)⟩
theorem frT.rt {w : mW} {μ m : mM} {r s : Int} (h : frT μ m r) (hw : mWF w) (hT : mT w μ) (hs : 0 ≤ s) (hne : ¬ s = r) : rtR m s = rtR μ s := rtR.cg (hT.rb hw hs).1.2 (hT.rb hw hs).2.2 fun k hk => h _ _ (by omega) (by omega) (by omega) (by omega) (by omega)
theorem frR.rt {w : mW} {μ m : mM} {s : Int} (h : frR μ m) (hw : mWF w) (hT : mT w μ) (hs : s = 0 ∨ 24 ≤ s) : rtR m s = rtR μ s := rtR.cg (hT.rb hw (by omega)).1.2 (hT.rb hw (by omega)).2.2 fun k hk => h _ _ (by omega) (by omega) (by omega) (by omega) (by omega) (by omega)
theorem snR.fr {w : mW} {μ m : mM} {E : En} {S : Sn} (h : snR μ E S) (hw : mWF w) (hT : mT w μ) (f : frR μ m) : snR m E S := by
  obtain ⟨h1, h2, h3, h4, h5, h6⟩ := h
  have c : ∀ b i, ¬ b = 126 → ¬ b = 151 → ¬ b = 152 → ¬ b = 153 → ¬ b = 165 → ¬ b = 106 → m b i = μ b i := fun b i a1 a2 a3 a4 a5 a6 => f b i (by omega) a2 a3 a4 a5 (by omega)
  have c6 : ∀ i, 71 ≤ i → m 106 i = μ 106 i := fun i hi => f 106 i (by omega) (by omega) (by omega) (by omega) (by omega) (by omega)
  have ea : ∀ e, atR m e = atR μ e := fun e => by
    unfold atR
    rw [c 157 _ (by decide) (by decide) (by decide) (by decide) (by decide) (by decide), c 159 _ (by decide) (by decide) (by decide) (by decide) (by decide) (by decide)]
  have em : ∀ e, mdR m e = mdR μ e := fun e => by
    unfold mdR
    rw [c 158 _ (by decide) (by decide) (by decide) (by decide) (by decide) (by decide), c 160 _ (by decide) (by decide) (by decide) (by decide) (by decide) (by decide)]
  refine ⟨fun s hs => ?_, fun k hk => ?_, ⟨fun e he h0 => ?_, fun x hx => ?_, ?_⟩, ?_, ?_, ?_⟩
  · rw [f.rt hw hT (by omega), c 154 _ (by decide) (by decide) (by decide) (by decide) (by decide) (by decide), f.rt hw hT (by omega), c 155 _ (by decide) (by decide) (by decide) (by decide) (by decide) (by decide), c 156 _ (by decide) (by decide) (by decide) (by decide) (by decide) (by decide), c 157 _ (by decide) (by decide) (by decide) (by decide) (by decide) (by decide), f.rt hw hT (by omega)]
    exact h1 s hs
  · rw [c 161 _ (by decide) (by decide) (by decide) (by decide) (by decide) (by decide), f.rt hw hT (by omega)]
    exact h2 k hk
  · rw [ea] at h0 ⊢
    exact h3.1 e he h0
  · rw [ea, em, c6 72 (by decide)]
    exact h3.2.1 x hx
  · have e : (fun x y : Ev => x.1 < y.1 ∨ (x.1 = y.1 ∧ mdR m x.2 < mdR m y.2)) = (fun x y : Ev => x.1 < y.1 ∨ (x.1 = y.1 ∧ mdR μ x.2 < mdR μ y.2)) := by
      funext x y
      rw [em, em]
    rw [e]
    exact h3.2.2
  · rw [c6 71 (by decide)]; exact h4
  · rw [c6 73 (by decide)]; exact h5
  · rw [c6 72 (by decide)]; exact h6
/-- ties: two ends that differ, each pair once -/
def tiG (E : En) : Prop := (∀ t, t < eT E → ¬ eA E t = eB E t ∧ (0 ≤ eA E t ∧ eA E t < (eD E : Int)) ∧ (0 ≤ eB E t ∧ eB E t < (eD E : Int))) ∧ (∀ t s, t < eT E → s < eT E → t ≠ s → ¬ ((eA E t = eA E s ∧ eB E t = eB E s) ∨ (eA E t = eB E s ∧ eB E t = eA E s))) ∧ eT E ≤ 20 ∧ eD E ≤ 10 ∧ eP E ≤ 10
/-- the reference's words of a tie's side -/
theorem sdR.of {μ : mM} {E : En} {t s : Nat} {d : Int} (ha : μ 110 (2 * t) = eA E t) (hne : ¬ eA E t = eB E t) (hs : s < 2) (hd : d = eN E t s) : sdR μ (t : Int) d = (s : Int) := by
  unfold sdR
  rw [show (2 * (t : Int)).toNat = 2 * t by omega, ha]
  have z : s = 0 ∨ s = 1 := by omega
  rcases z with q | q <;> subst q
  · rw [if_pos (by rw [hd]; rfl)]
    rfl
  · rw [if_neg (by rw [hd]; exact hne)]
    rfl
theorem ptR.of {μ : mM} {E : En} {t s : Nat} {d : Int} (ha : μ 110 (2 * t) = eA E t) (hb : μ 110 (2 * t + 1) = eB E t) (hne : ¬ eA E t = eB E t) (hs : s < 2) (hd : d = eN E t s) : ptR μ (t : Int) d = eN E t (1 - s) := by
  unfold ptR
  rw [sdR.of ha hne hs hd]
  have z : s = 0 ∨ s = 1 := by omega
  rcases z with q | q <;> subst q
  · rw [show (2 * (t : Int) + 1 - ((0 : Nat) : Int)).toNat = 2 * t + 1 by omega, hb]
    rfl
  · rw [show (2 * (t : Int) + 1 - ((1 : Nat) : Int)).toNat = 2 * t by omega, ha]
    rfl
theorem slR.of {μ : mM} {E : En} {t s p : Nat} {d : Int} (ha : μ 110 (2 * t) = eA E t) (hne : ¬ eA E t = eB E t) (hs : s < 2) (hd : d = eN E t s) : slR μ (t : Int) d (p : Int) = ((slt t s p : Nat) : Int) := by
  unfold slR slt
  rw [sdR.of ha hne hs hd]
  omega
theorem envR.fr {w : mW} {μ m : mM} {E : En} {G : mM → Prop} (hw : mWF w) (h : envR w μ E G) (F : mF lER w μ m) : envR w m E G := by
  obtain ⟨h1, h2, h3, h4, h5, h6⟩ := h
  refine ⟨F.f (A_106 hw) rfl h1, F.f (A_106 hw) rfl h2, F.f (A_106 hw) rfl h3, fun t ht => ?_, fun d hd => ?_, ?_⟩
  · obtain ⟨a1, a2, a3, a4, a5, a6⟩ := h4 t ht
    exact ⟨F.f (A_110 hw) rfl a1, F.f (A_110 hw) rfl a2, F.f (A_112 hw) rfl a3, F.f (A_113 hw) rfl a4, F.f (A_114 hw) rfl a5, fun i hi => F.f (A_115 hw) rfl (a6 i hi)⟩
  · obtain ⟨a1, ⟨n, a2⟩, a3⟩ := h5 d hd
    refine ⟨fun p hp => F.f (A_162 hw) rfl (a1 p hp), ⟨n, ?_⟩, F.f (A_164 hw) rfl a3⟩
    rw [← a2]
    exact rowL.ext fun i _ => F.f (A_163 hw) rfl rfl
  · have n39 : m 106 39 = μ 106 39 := F.f (A_106 hw) rfl rfl
    refine ⟨fun t i ht hi => by rw [n39]; exact h6.1 t i ht hi, ?_⟩
    intro m2 pl r t s x Q hT2 F2
    rw [n39]
    exact h6.2 m2 pl r t s x Q hT2 ((mF.refl.call F rfl).call F2 rfl)
theorem X12_partnerOf_pt_s {w : mW} {μ : mM} {t d : Int} {Q : Int → mM → Prop} (k : Q (ptR μ t d) μ) : WP_X12_partnerOf_Wpt w μ t d Q := by
  intro e ee _ f ef _
  refine X12_sideOf_s fun _ z ez _ => ?_
  subst ez
  exact k
/-- nothing of the engine's own touches G -/
def gSt (G : mM → Prop) : Prop := ∀ m m1 : mM, G m → (∀ (b i : Nat), ¬ b = 126 → ¬ ((112 ≤ b ∧ b ≤ 115) ∨ (151 ≤ b ∧ b ≤ 165)) → ¬ (b = 106 ∧ 70 ≤ i) → m1 b i = m b i) → G m1
section Cand
variable {w : mW} {μ : mM} {E : En} {S : Sn} {G : mM → Prop} {d : Int} {p t s : Nat}
theorem cdAt.some' {x : Cd} (h : cdAt E S d p t s = some x) : ¬ eU E t = 0 ∧ ∃ r, sHd S (slt t s p) = some r ∧ ¬ d ∈ wOf r ∧ (eTh E (ePl E (4 * t + 2 * s)) d (eN E t (1 - s)) r).1 = true ∧ x = ((t : Int), eN E t (1 - s), sHw S (slt t s p), (eTh E (ePl E (4 * t + 2 * s)) d (eN E t (1 - s)) r).2) := by
  unfold cdAt at h
  by_cases c : eU E t = 0
  · rw [if_pos c] at h; cases h
  · rw [if_neg c] at h
    refine ⟨c, ?_⟩
    cases e : sHd S (slt t s p) with
    | none => rw [e] at h; cases h
    | some r =>
      rw [e] at h
      have h : (if d ∈ wOf r then none else if (eTh E (ePl E (4 * t + 2 * s)) d (eN E t (1 - s)) r).1 = true then some ((t : Int), eN E t (1 - s), sHw S (slt t s p), (eTh E (ePl E (4 * t + 2 * s)) d (eN E t (1 - s)) r).2) else none) = some x := h
      by_cases c2 : d ∈ wOf r
      · rw [if_pos c2] at h; cases h
      · rw [if_neg c2] at h
        by_cases c3 : (eTh E (ePl E (4 * t + 2 * s)) d (eN E t (1 - s)) r).1 = true
        · rw [if_pos c3] at h
          exact ⟨r, rfl, c2, c3, (Option.some.inj h).symm⟩
        · rw [if_neg c3] at h; cases h
theorem X12_candidate_s {Q : Int → mM → Prop} (hw : mWF w) (hT : mT w μ) (ev : envR w μ E G) (hG : G μ) (gG : gSt G) (st : snR μ E S) (sn : snG E S) (ti : tiG E) (ht : t < eT E) (hs : s < 2) (hd : d = eN E t s) (hp : p < 10)
    (k : ∀ (z : Int) (m : mM), G m → frT μ m (4 + (t : Int)) → rtR m (4 + (t : Int)) = (cdAt E S d p t s).map (fun x => x.2.2.2) → (z = -99999999 ↔ (eU E t = 0 ∨ sHd S (slt t s p) = none)) → (z = 0 ↔ ¬ cdAt E S d p t s = none) → (z = 9 → ∃ r, sHd S (slt t s p) = some r ∧ d ∈ wOf r) → Q z m) : WP_X12_candidate_W w μ d (t : Int) (p : Int) Q := by
  obtain ⟨h1, h2, h3, h4, h5, h6⟩ := ev
  obtain ⟨a1, a2, a3, a4, a5, a6⟩ := h4 t ht
  have hne := (ti.1 t ht).1
  have t20 := ti.2.2.1
  intro e0 ee0 _ e1 ee1 _ n en hn
  refine X12_sideOf_s ?_
  rw [sdR.of a1 hne hs hd]
  intro _
  refine X12_nothing_s (by omega) fun m1 r1 f1 T1 F1 x1 _ => ?_
  have g1 : G m1 := gG μ m1 hG fun b i h1 h2 h3 => f1 b i (by omega)
  have fr1 : frT μ m1 (4 + (t : Int)) := frT.refl.no f1
  have sl : (2 * (t : Int) + (s : Int)) * 10 + (p : Int) = ((slt t s p : Nat) : Int) := by unfold slt; omega
  show (0 ≤ (2 * (t : Int) + (s : Int)) * 10 + (p : Int) ∧ (2 * (t : Int) + (s : Int)) * 10 + (p : Int) ≤ 449) → _
  rw [sl]
  intro hsl u eu hu
  have eu' : eU E t = u := by
    rw [← eu, f1 112 _ (by omega), ← a3]
    congr 1
  have sb : slt t s p < 20 * eT E := by unfold slt; omega
  obtain ⟨b1, b2, _⟩ := st.1 (slt t s p) (Or.inl sb)
  have rh : rtR m1 (130 + ((slt t s p : Nat) : Int)) = sHd S (slt t s p) := by rw [fr1.rt hw hT (by omega) (by omega), b1]
  refine ⟨fun c => ?_, fun c y ey hy => ?_⟩
  · have cn : cdAt E S d p t s = none := if_pos (eu'.trans c)
    exact k _ m1 g1 fr1 (by rw [r1, cn]; rfl) ⟨fun _ => Or.inl (eu'.trans c), fun _ => rfl⟩ ⟨fun e => absurd e (by decide), fun e => absurd cn e⟩ (fun e => absurd e (by decide))
  refine X12_isThere_s fun z hz rz => ⟨fun c2 => ?_, fun c2 => ?_⟩
  rotate_left 1
  · have hn : sHd S (slt t s p) = none := Classical.byContradiction fun g => by
      have := hz.mpr (by rw [rh]; exact g)
      omega
    have cn : cdAt E S d p t s = none := by
      unfold cdAt
      rw [if_neg (by rw [eu']; exact c), hn]
    exact k _ m1 g1 fr1 (by rw [r1, cn]; rfl) ⟨fun _ => Or.inr hn, fun _ => rfl⟩ ⟨fun e => absurd e (by decide), fun e => absurd cn e⟩ (fun e => absurd e (by decide))
  obtain ⟨r, er⟩ : ∃ r, sHd S (slt t s p) = some r := by
    cases e : sHd S (slt t s p) with
    | none => exact absurd (rh.trans e) (hz.mp (by omega))
    | some r => exact ⟨r, rfl⟩
  have rr := rtR.get (rh.trans er)
  have rg := sn.2.2.1 (slt t s p) r er
  have px : r.1 < (eP E : Int) := by
    have pm : slt t s p % 10 = p := by unfold slt; omega
    have g1 := rg.1
    rw [pm] at g1
    rw [g1]
    have c : ¬ eP E ≤ slt t s p % 10 := fun g => by
      have := (sn.2.2.2.2.2.2.2.2.2 _ g).2.2
      rw [er] at this
      cases this
    omega
  have wy : rowL (fun k => m1 126 (40 * (130 + ((slt t s p : Nat) : Int)) + 6 + (k : Int)).toNat) (m1 126 (40 * (130 + ((slt t s p : Nat) : Int)) + 4).toNat).toNat = wOf r := by rw [rr.2]
  refine X12_isIn_s (by omega) fun z2 hz2 rz2 => ⟨fun c3 => ?_, fun c3 => ?_⟩
  rotate_left 1
  · have hin : d ∈ wOf r := by rw [← wy]; exact hz2.mp (by omega)
    have cn : cdAt E S d p t s = none := by
      unfold cdAt
      rw [if_neg (by rw [eu']; exact c), er]
      show (if d ∈ wOf r then none else _) = none
      rw [if_pos hin]
    exact k _ m1 g1 fr1 (by rw [r1, cn]; rfl) ⟨fun e => absurd e (by decide), fun e => by rcases e with e | e; exact absurd (eu'.symm.trans e) c; rw [er] at e; cases e⟩ ⟨fun e => absurd e (by decide), fun e => absurd cn e⟩ (fun _ => ⟨r, er, hin⟩)
  have hnin : ¬ d ∈ wOf r := fun g => by
    have := hz2.mpr (by rw [wy]; exact g)
    omega
  refine X12_copy_s (by omega) (by omega) (by omega) (T1.rb hw (by omega)).1.2 (T1.rb hw (by omega)).2.2 fun m2 r2 _ f2 T2 F2 x2 _ pl epl hpl po epo hpo => ?_
  have fr2 : frT μ m2 (4 + (t : Int)) := fr1.on f2
  have g2 : G m2 := gG m1 m2 g1 fun b i h1 h2 h3 => f2 b i (by omega)
  have e110 : ∀ i, m2 110 i = μ 110 i := fun i => fr2 110 i (by omega) (by omega) (by omega) (by omega) (by omega)
  have plE : pl = ePl E (4 * t + 2 * s) := by
    rw [← epl, fr2 115 _ (by omega) (by omega) (by omega) (by omega) (by omega), ← a6 (2 * s) (by omega)]
    congr 1
  refine X12_partnerOf_pt_s ?_
  rw [ptR.of ((e110 _).trans a1) ((e110 _).trans a2) hne hs hd, hd]
  intro _
  refine h6.2 m2 pl (4 + (t : Int)) t s r _ T2 ?_ g2 ht hs (by rw [plE]; exact h6.1 _ _ ht (by omega)) (by omega) (by omega) (r2.trans (rh.trans er)) rg.2.1 px fun z3 m3 hz3 r3 g3 f3 T3 F3 rz3 x3 _ => ?_
  · exact (mF.refl.call F1 rfl).call F2 rfl
  have fr3 : frT μ m3 (4 + (t : Int)) := fr2.trans fun b i q1 q2 q3 q4 q5 => f3 b i q1 q2 q3 q4 q5
  rw [plE, ← hd] at hz3 r3
  refine ⟨fun c4 => ?_, fun c4 => ?_⟩
  · refine X12_nothing_s (by omega) fun m4 r4 f4 _ _ x4 _ => ?_
    have cn : cdAt E S d p t s = none := by
      unfold cdAt
      rw [if_neg (by rw [eu']; exact c), er]
      show (if d ∈ wOf r then none else if (eTh E (ePl E (4 * t + 2 * s)) d (eN E t (1 - s)) r).1 = true then _ else none) = none
      rw [if_neg hnin, if_neg (fun g => by have := hz3.mpr g; omega)]
    exact k _ m4 (gG m3 m4 g3 fun b i h1 h2 h3 => f4 b i (by omega)) (fr3.no f4) (by rw [r4, cn]; rfl) ⟨fun e => absurd e (by decide), fun e => by rcases e with e | e; exact absurd (eu'.symm.trans e) c; rw [er] at e; cases e⟩ ⟨fun e => absurd e (by decide), fun e => absurd cn e⟩ (fun e => absurd e (by decide))
  · have cs : cdAt E S d p t s = some ((t : Int), eN E t (1 - s), sHw S (slt t s p), (eTh E (ePl E (4 * t + 2 * s)) d (eN E t (1 - s)) r).2) := by
      unfold cdAt
      rw [if_neg (by rw [eu']; exact c), er]
      show (if d ∈ wOf r then none else if (eTh E (ePl E (4 * t + 2 * s)) d (eN E t (1 - s)) r).1 = true then _ else none) = _
      rw [if_neg hnin, if_pos (hz3.mp (by omega))]
    exact k _ m3 g3 fr3 (by rw [r3, cs]; rfl) ⟨fun e => absurd e (by decide), fun e => by rcases e with e | e; exact absurd (eu'.symm.trans e) c; rw [er] at e; cases e⟩ ⟨fun _ e => (by rw [cs] at e; cases e), fun _ => rfl⟩ (fun e => absurd e (by decide))
end Cand
end
section
/-! The reference: something is said. -/
theorem insQ.mem {e : Ev} : ∀ {q : List Ev} {x : Ev}, x ∈ insQ e q ↔ (x = e ∨ x ∈ q)
  | [], x => by
    show x ∈ [e] ↔ _
    simp
  | y :: l, x => by
    show x ∈ (if e.1 < y.1 then e :: y :: l else y :: insQ e l) ↔ _
    by_cases c : e.1 < y.1
    · rw [if_pos c]
      simp
    · rw [if_neg c, List.mem_cons, insQ.mem, List.mem_cons]
      constructor
      · rintro (h | h | h)
        · exact Or.inr (Or.inl h)
        · exact Or.inl h
        · exact Or.inr (Or.inr h)
      · rintro (h | h | h)
        · exact Or.inr (Or.inl h)
        · exact Or.inl h
        · exact Or.inr (Or.inr h)
theorem remQ.mem {s : Nat} {q : List Ev} {x : Ev} : x ∈ remQ s q ↔ (x ∈ q ∧ ¬ x.2 = s) := by
  unfold remQ
  rw [List.mem_filter]
  simp
theorem insQ.pw {R : Ev → Ev → Prop} {e : Ev} (mo : ∀ x y, R x y → x.1 ≤ y.1) : ∀ {q : List Ev}, q.Pairwise R → (∀ x ∈ q, x.1 ≤ e.1 → R x e) → (∀ x ∈ q, e.1 < x.1 → R e x) → (insQ e q).Pairwise R
  | [], _, _, _ => List.pairwise_singleton R e
  | y :: l, h, h1, h2 => by
    obtain ⟨a, b⟩ := List.pairwise_cons.mp h
    show (if e.1 < y.1 then e :: y :: l else y :: insQ e l).Pairwise R
    by_cases c : e.1 < y.1
    · rw [if_pos c]
      refine List.pairwise_cons.mpr ⟨fun x hx => ?_, h⟩
      rcases List.mem_cons.mp hx with q | q
      · rw [q]; exact h2 y List.mem_cons_self c
      · have := mo y x (a x q)
        exact h2 x (List.mem_cons_of_mem _ q) (by omega)
    · rw [if_neg c]
      refine List.pairwise_cons.mpr ⟨fun x hx => ?_, insQ.pw mo b (fun x hx => h1 x (List.mem_cons_of_mem _ hx)) (fun x hx => h2 x (List.mem_cons_of_mem _ hx))⟩
      rcases insQ.mem.mp hx with q | q
      · rw [q]; exact h1 y List.mem_cons_self (by omega)
      · exact a x q
/-- an event is made -/
theorem quR.put {μ m : mM} {q : List Ev} {s : Nat} {v : Int} (h : quR μ q) (hs : s < 800) (hv : 0 ≤ v) (ea : ∀ e, e < 800 → atR m e = if e = s then v else atR μ e) (em : ∀ e, e < 800 → mdR m e = if e = s then μ 106 72 else mdR μ e) (ek : m 106 72 = μ 106 72 + 1) : quR m (insQ (v, s) (remQ s q)) := by
  obtain ⟨h1, h2, h3⟩ := h
  refine ⟨fun e he h0 => ?_, fun x hx => ?_, ?_⟩
  · rw [ea e he] at h0 ⊢
    by_cases c : e = s
    · rw [if_pos c]
      exact insQ.mem.mpr (Or.inl (by rw [c]))
    · rw [if_neg c] at h0 ⊢
      exact insQ.mem.mpr (Or.inr (remQ.mem.mpr ⟨h1 e he h0, c⟩))
  · rcases insQ.mem.mp hx with c | c
    · subst c
      show s < 800 ∧ atR m s = v ∧ 0 ≤ v ∧ mdR m s < m 106 72
      rw [ea s hs, em s hs, if_pos rfl, if_pos rfl, ek]
      exact ⟨hs, rfl, hv, by omega⟩
    · obtain ⟨c1, c2⟩ := remQ.mem.mp c
      obtain ⟨a1, a2, a3, a4⟩ := h2 x c1
      rw [ea x.2 a1, em x.2 a1, if_neg c2, if_neg c2, ek]
      exact ⟨a1, a2, a3, by omega⟩
  · have hr : (remQ s q).Pairwise (fun x y => x.1 < y.1 ∨ (x.1 = y.1 ∧ mdR m x.2 < mdR m y.2)) := by
      have g : (remQ s q).Pairwise (fun x y => x.1 < y.1 ∨ (x.1 = y.1 ∧ mdR μ x.2 < mdR μ y.2)) := h3.filter _
      refine g.imp_of_mem fun {x y} hx hy r => ?_
      obtain ⟨c1, c2⟩ := remQ.mem.mp hx
      obtain ⟨d1, d2⟩ := remQ.mem.mp hy
      rw [em x.2 (h2 x c1).1, em y.2 (h2 y d1).1, if_neg c2, if_neg d2]
      exact r
    refine insQ.pw (fun x y r => by omega) hr (fun x hx hle => ?_) (fun x hx hlt => Or.inl hlt)
    obtain ⟨c1, c2⟩ := remQ.mem.mp hx
    obtain ⟨a1, a2, a3, a4⟩ := h2 x c1
    show x.1 < v ∨ (x.1 = v ∧ mdR m x.2 < mdR m s)
    rw [em x.2 a1, em s hs, if_neg c2, if_pos rfl]
    have hle : x.1 ≤ v := hle
    omega
theorem quR.has {μ : mM} {q : List Ev} {e : Nat} (h : quR μ q) (he : e < 800) : (∃ m, (m, e) ∈ q) ↔ 0 ≤ atR μ e := by
  constructor
  · rintro ⟨m, hm⟩
    obtain ⟨_, a2, a3, _⟩ := h.2.1 _ hm
    have a2 : atR μ e = m := a2
    have a3 : 0 ≤ m := a3
    omega
  · intro h0
    exact ⟨_, h.1 e he h0⟩
theorem rtR.wish {μ : mM} {r v : Int} {x : Rt} (hr : 0 ≤ r) (hn : μ 126 (40 * r + 4).toNat ≤ 20) (h : rtR μ r = some x) : rtR (mUp μ 126 (40 * r + 1).toNat v) r = some (rtWish x v) ∧ onR μ (mUp μ 126 (40 * r + 1).toNat v) r := by
  obtain ⟨g, e⟩ := rtR.get h
  have o : ∀ j : Int, 0 ≤ j → ¬ j = 1 → mUp μ 126 (40 * r + 1).toNat v 126 (40 * r + j).toNat = μ 126 (40 * r + j).toNat := fun j h0 h1 => mUp.no (by omega)
  have k0 : mUp μ 126 (40 * r + 1).toNat v 126 (40 * r).toNat = μ 126 (40 * r).toNat := mUp.no (by omega)
  refine ⟨?_, fun b i hb => mUp.no (by omega)⟩
  rw [rtR.the (by rw [k0]; exact g), e, k0, o 2 (by decide) (by decide), o 3 (by decide) (by decide), o 4 (by decide) (by decide), o 5 (by decide) (by decide), mUp.yes ⟨rfl, rfl⟩]
  have e6 : rowL (fun k => mUp μ 126 (40 * r + 1).toNat v 126 (40 * r + 6 + (k : Int)).toNat) (μ 126 (40 * r + 4).toNat).toNat = rowL (fun k => μ 126 (40 * r + 6 + (k : Int)).toNat) (μ 126 (40 * r + 4).toNat).toNat := rowL.ext fun i _ => mUp.no (by omega)
  have e7 : rowL (fun k => mUp μ 126 (40 * r + 1).toNat v 126 (40 * r + 26 + (k : Int)).toNat) (μ 126 (40 * r + 5).toNat).toNat = rowL (fun k => μ 126 (40 * r + 26 + (k : Int)).toNat) (μ 126 (40 * r + 5).toNat).toNat := rowL.ext fun i _ => mUp.no (by omega)
  rw [e6, e7]
  rfl
/-- something is said: the tables -/
theorem snR.go {w : mW} {μ m : mM} {E : En} {S : Sn} {s : Nat} {o : Option Rt} {v : Int} (h : snR μ E S) (hw : mWF w) (hT : mT w μ) (hs : s < 20 * eT E) (h20 : eT E ≤ 20) (hD : eD E ≤ 10) (hv : 0 ≤ v)
    (f : ∀ (b i : Nat), ¬ (b = 126 ∧ 40 ≤ i ∧ i < 960) → ¬ (b = 126 ∧ 40 * (530 + (s : Int)) ≤ (i : Int) ∧ (i : Int) < 40 * (530 + (s : Int)) + 40) → ¬ (b = 126 ∧ 40 * (930 + (s : Int)) ≤ (i : Int) ∧ (i : Int) < 40 * (930 + (s : Int)) + 40) → ¬ (b = 155 ∧ i = s) → ¬ (b = 156 ∧ i = s) → ¬ (b = 157 ∧ i = s) → ¬ (b = 158 ∧ i = s) → ¬ (b = 106 ∧ i = 72) → ¬ b = 151 → ¬ b = 152 → ¬ b = 153 → ¬ b = 165 → ¬ (b = 106 ∧ 26 ≤ i ∧ i ≤ 31) → m b i = μ b i)
    (r1 : rtR m (530 + (s : Int)) = o) (r2 : rtR m (930 + (s : Int)) = o) (c1 : m 155 s = 1) (c2 : m 156 s = sCk S) (c3 : m 157 s = v) (c4 : m 158 s = μ 106 72) (c5 : m 106 72 = μ 106 72 + 1) : snR m E (mk! (sd! S s (o, sCk S)) (insQ (v, 2 * s) (remQ (2 * s) (sQu S)))) := by
  obtain ⟨h1, h2, h3, h4, h5, h6⟩ := h
  have c : ∀ b i, ¬ b = 126 → ¬ (155 ≤ b ∧ b ≤ 158) → ¬ b = 151 → ¬ b = 152 → ¬ b = 153 → ¬ b = 165 → ¬ b = 106 → m b i = μ b i := fun b i a1 a2 a3 a4 a5 a6 a7 => f b i (by omega) (by omega) (by omega) (by omega) (by omega) (by omega) (by omega) (by omega) a3 a4 a5 a6 (by omega)
  have cs : ∀ b i, ¬ b = 126 → ¬ i = s → ¬ b = 151 → ¬ b = 152 → ¬ b = 153 → ¬ b = 165 → ¬ b = 106 → m b i = μ b i := fun b i a1 a2 a3 a4 a5 a6 a7 => f b i (by omega) (by omega) (by omega) (by omega) (by omega) (by omega) (by omega) (by omega) a3 a4 a5 a6 (by omega)
  have rt : ∀ r : Int, 24 ≤ r → ¬ r = 530 + (s : Int) → ¬ r = 930 + (s : Int) → rtR m r = rtR μ r := fun r a1 a2 a3 => rtR.cg (hT.rb hw (by omega)).1.2 (hT.rb hw (by omega)).2.2 fun k hk => f _ _ (by omega) (by omega) (by omega) (by omega) (by omega) (by omega) (by omega) (by omega) (by omega) (by omega) (by omega) (by omega) (by omega)
  refine ⟨fun j hj => ?_, fun k hk => ?_, ?_, ?_, ?_, ?_⟩
  · obtain ⟨a1, a2, a3, a4, a5⟩ := h1 j hj
    show rtR m (130 + (j : Int)) = sHd S j ∧ (¬ sHd S j = none → m 154 j = sHw S j) ∧ rtR m (530 + (j : Int)) = (if j = s then (o, sCk S) else sSd S j).1 ∧ (if m 155 j = 0 then -1 else m 156 j) = (if j = s then (o, sCk S) else sSd S j).2 ∧ (0 ≤ m 157 j → rtR m (930 + (j : Int)) = (if j = s then (o, sCk S) else sSd S j).1)
    rw [rt _ (by omega) (by omega) (by omega), c 154 _ (by decide) (by decide) (by decide) (by decide) (by decide) (by decide) (by decide)]
    refine ⟨a1, a2, ?_⟩
    by_cases q : j = s
    · subst q
      rw [if_pos rfl, c1, if_neg (by decide), c2]
      exact ⟨r1, rfl, fun _ => r2⟩
    · rw [if_neg q, rt _ (by omega) (by omega) (by omega), rt _ (by omega) (by omega) (by omega), cs 155 _ (by decide) q (by decide) (by decide) (by decide) (by decide) (by decide), cs 156 _ (by decide) q (by decide) (by decide) (by decide) (by decide) (by decide), cs 157 _ (by decide) q (by decide) (by decide) (by decide) (by decide) (by decide)]
      exact ⟨a3, a4, a5⟩
  · rw [c 161 _ (by decide) (by decide) (by decide) (by decide) (by decide) (by decide) (by decide), rt _ (by omega) (by omega) (by omega)]
    exact h2 k hk
  · refine h3.put (by omega) hv (fun e he => ?_) (fun e he => ?_) c5
    · unfold atR
      by_cases q : e % 2 = 0
      · rw [if_pos q, if_pos q]
        by_cases q2 : e = 2 * s
        · rw [if_pos q2, show e / 2 = s by omega, c3]
        · rw [if_neg q2, cs 157 _ (by decide) (by omega) (by decide) (by decide) (by decide) (by decide) (by decide)]
      · rw [if_neg q, if_neg q, if_neg (by omega), c 159 _ (by decide) (by decide) (by decide) (by decide) (by decide) (by decide) (by decide)]
    · unfold mdR
      by_cases q : e % 2 = 0
      · rw [if_pos q, if_pos q]
        by_cases q2 : e = 2 * s
        · rw [if_pos q2, show e / 2 = s by omega, c4]
        · rw [if_neg q2, cs 158 _ (by decide) (by omega) (by decide) (by decide) (by decide) (by decide) (by decide)]
      · rw [if_neg q, if_neg q, if_neg (by omega), c 160 _ (by decide) (by decide) (by decide) (by decide) (by decide) (by decide) (by decide)]
  · rw [f 106 71 (by omega) (by omega) (by omega) (by omega) (by omega) (by omega) (by omega) (by omega) (by omega) (by omega) (by omega) (by omega) (by omega)]
    exact h4
  · rw [f 106 73 (by omega) (by omega) (by omega) (by omega) (by omega) (by omega) (by omega) (by omega) (by omega) (by omega) (by omega) (by omega) (by omega)]
    exact h5
  · rw [c5, h6]
    rfl
/-- it waits: the tables -/
theorem snR.wait {w : mW} {μ m : mM} {E : En} {S : Sn} {s : Nat} {v : Int} (h : snR μ E S) (hw : mWF w) (hT : mT w μ) (hs : s < 20 * eT E) (h20 : eT E ≤ 20) (hv : 0 ≤ v) (hn : ¬ ∃ x, (x, 2 * s + 1) ∈ sQu S)
    (f : ∀ (b i : Nat), ¬ (b = 126 ∧ 40 ≤ i ∧ i < 960) → ¬ (b = 159 ∧ i = s) → ¬ (b = 160 ∧ i = s) → ¬ (b = 106 ∧ i = 72) → ¬ b = 151 → ¬ b = 152 → ¬ b = 153 → ¬ b = 165 → ¬ (b = 106 ∧ 26 ≤ i ∧ i ≤ 31) → m b i = μ b i)
    (c3 : m 159 s = v) (c4 : m 160 s = μ 106 72) (c5 : m 106 72 = μ 106 72 + 1) : snR m E (mk! S (insQ (v, 2 * s + 1) (sQu S))) := by
  obtain ⟨h1, h2, h3, h4, h5, h6⟩ := h
  have c : ∀ b i, ¬ b = 126 → ¬ b = 159 → ¬ b = 160 → ¬ b = 151 → ¬ b = 152 → ¬ b = 153 → ¬ b = 165 → ¬ b = 106 → m b i = μ b i := fun b i a1 a2 a2' a3 a4 a5 a6 a7 => f b i (by omega) (by omega) (by omega) (by omega) a3 a4 a5 a6 (by omega)
  have rt : ∀ r : Int, 24 ≤ r → rtR m r = rtR μ r := fun r a1 => rtR.cg (hT.rb hw (by omega)).1.2 (hT.rb hw (by omega)).2.2 fun k hk => f _ _ (by omega) (by omega) (by omega) (by omega) (by omega) (by omega) (by omega) (by omega) (by omega)
  refine ⟨fun j hj => ?_, fun k hk => ?_, ?_, ?_, ?_, ?_⟩
  · rw [rt _ (by omega), c 154 _ (by decide) (by decide) (by decide) (by decide) (by decide) (by decide) (by decide) (by decide), rt _ (by omega), c 155 _ (by decide) (by decide) (by decide) (by decide) (by decide) (by decide) (by decide) (by decide), c 156 _ (by decide) (by decide) (by decide) (by decide) (by decide) (by decide) (by decide) (by decide), c 157 _ (by decide) (by decide) (by decide) (by decide) (by decide) (by decide) (by decide) (by decide), rt _ (by omega)]
    exact h1 j hj
  · rw [c 161 _ (by decide) (by decide) (by decide) (by decide) (by decide) (by decide) (by decide) (by decide), rt _ (by omega)]
    exact h2 k hk
  · have g := h3.put (m := m) (s := 2 * s + 1) (by omega) hv (fun e he => ?_) (fun e he => ?_) c5
    · rw [remQ.no (fun x hx q => hn ⟨x.1, by rw [← q]; exact hx⟩)] at g
      exact g
    · unfold atR
      by_cases q : e % 2 = 0
      · rw [if_pos q, if_pos q, if_neg (by omega), c 157 _ (by decide) (by decide) (by decide) (by decide) (by decide) (by decide) (by decide) (by decide)]
      · rw [if_neg q, if_neg q]
        by_cases q2 : e = 2 * s + 1
        · rw [if_pos q2, show e / 2 = s by omega, c3]
        · rw [if_neg q2, f 159 _ (by omega) (by omega) (by omega) (by omega) (by omega) (by omega) (by omega) (by omega) (by omega)]
    · unfold mdR
      by_cases q : e % 2 = 0
      · rw [if_pos q, if_pos q, if_neg (by omega), c 158 _ (by decide) (by decide) (by decide) (by decide) (by decide) (by decide) (by decide) (by decide)]
      · rw [if_neg q, if_neg q]
        by_cases q2 : e = 2 * s + 1
        · rw [if_pos q2, show e / 2 = s by omega, c4]
        · rw [if_neg q2, f 160 _ (by omega) (by omega) (by omega) (by omega) (by omega) (by omega) (by omega) (by omega) (by omega)]
  · rw [f 106 71 (by omega) (by omega) (by omega) (by omega) (by omega) (by omega) (by omega) (by omega) (by omega)]
    exact h4
  · rw [f 106 73 (by omega) (by omega) (by omega) (by omega) (by omega) (by omega) (by omega) (by omega) (by omega)]
    exact h5
  · rw [c5, h6]
    rfl
end
section
/-! The reference says. -/
theorem sayE.same {E : En} {S : Sn} {t s p : Nat} (h : outE E S t s p = (sSd S (slt t s p)).1) : sayE E S t s p = S := by
  unfold sayE
  by_cases c : eU E t = 0
  · rw [if_pos c]
  · rw [if_neg c, cIf.pos h]
theorem sayE.go {E : En} {S : Sn} {t s p : Nat} (hu : ¬ eU E t = 0) (h : ¬ outE E S t s p = (sSd S (slt t s p)).1) (hg : (sSd S (slt t s p)).2 = -1 ∨ (sSd S (slt t s p)).2 + eG E t ≤ sCk S) : sayE E S t s p = mk! (sd! S (slt t s p) (outE E S t s p, sCk S)) (insQ (sCk S + eL E t, 2 * slt t s p) (remQ (2 * slt t s p) (sQu S))) := by
  unfold sayE
  rw [if_neg hu, cIf.neg h, if_neg (by omega)]
theorem sayE.wait {E : En} {S : Sn} {t s p : Nat} (hu : ¬ eU E t = 0) (h : ¬ outE E S t s p = (sSd S (slt t s p)).1) (h1 : ¬ (sSd S (slt t s p)).2 = -1) (h2 : sCk S < (sSd S (slt t s p)).2 + eG E t) : sayE E S t s p = cIf (∃ m, (m, 2 * slt t s p + 1) ∈ sQu S) S (mk! S (insQ ((sSd S (slt t s p)).2 + eG E t, 2 * slt t s p + 1) (sQu S))) := by
  unfold sayE
  rw [if_neg hu, cIf.neg h, if_pos ⟨h1, h2⟩]
section Say
variable {w : mW} {μ : mM} {E : En} {S : Sn} {G : mM → Prop} {d : Int} {p t s : Nat}
theorem X12_say_s {Q : mM → Prop} (hw : mWF w) (hT : mT w μ) (ev : envR w μ E G) (hG : G μ) (gG : gSt G) (st : snR μ E S) (sn : snG E S) (ti : tiG E) (ht : t < eT E) (hs : s < 2) (hd : d = eN E t s) (hp : p < 10) (hup : ¬ eU E t = 0) (hM : 0 ≤ sMd S ∧ sMd S < 2147483647) (tG : thG E)
    (k : ∀ m : mM, snR m E (sayE E S t s p) → G m → (∀ i : Nat, (i < 40 ∨ (960 ≤ i ∧ i < 1200)) → m 126 i = μ 126 i) → Q m) : WP_X12_say_W w μ d (t : Int) (p : Int) Q := by
  obtain ⟨h1, h2, h3, h4, h5, h6⟩ := ev
  obtain ⟨a1, a2, a3, a4, a5, a6⟩ := h4 t ht
  have hne := (ti.1 t ht).1
  have t20 := ti.2.2.1
  have d10 := ti.2.2.2.1
  have dr : 0 ≤ d ∧ d < (eD E : Int) := by
    rw [hd]
    unfold eN
    split
    · exact (ti.1 t ht).2.1
    · exact (ti.1 t ht).2.2
  have sb : slt t s p < 20 * eT E := by unfold slt; omega
  intro e0 ee0 _ e1 ee1 _ n en hn
  refine X12_sideOf_s ?_
  rw [sdR.of a1 hne hs hd]
  intro _
  have sl : (2 * (t : Int) + (s : Int)) * 10 + (p : Int) = ((slt t s p : Nat) : Int) := by unfold slt; omega
  show (0 ≤ (2 * (t : Int) + (s : Int)) * 10 + (p : Int) ∧ (2 * (t : Int) + (s : Int)) * 10 + (p : Int) ≤ 449) → _
  rw [sl]
  intro hsl
  refine X12_nothing_s (by omega) fun m1 r1 f1 T1 F1 x1 _ tie etie htie y ey hy => ?_
  have fr1 : frT μ m1 2 := frT.refl.no f1
  have g1 : G m1 := gG μ m1 hG fun b i q1 q2 q3 => f1 b i (by omega)
  obtain ⟨b1, b2, b3, b4, b5⟩ := st.1 (slt t s p) (Or.inl sb)
  have kb : 10 * d.toNat + p < 10 * eD E := by omega
  obtain ⟨c1, c2⟩ := st.2.1 (10 * d.toNat + p) (Or.inl kb)
  have etie' : (sPk S (10 * d.toNat + p)).1 = tie := by
    rw [← etie, fr1 161 _ (by omega) (by omega) (by omega) (by omega) (by omega), ← c1]
    congr 1
    omega
  have dE : (eN E t s).toNat = d.toNat := by rw [hd]
  have J1 : ∀ m : mM, frT μ m 2 → G m → rtR m 2 = outE E S t s p → WJ_X12_say_W_1 w (t : Int) Q ((slt t s p : Nat) : Int) m1 m := by
    intro m fr gm ro T F
    have stm : snR m E S := st.fr hw hT (fr.fr (by omega))
    obtain ⟨s1, s2, s3, s4, s5⟩ := stm.1 (slt t s p) (Or.inl sb)
    have rows : ∀ i : Nat, (i < 40 ∨ (960 ≤ i ∧ i < 1200)) → m 126 i = μ 126 i := fun i hi => fr 126 i (by omega) (by omega) (by omega) (by omega) (by omega)
    have mck : m 106 71 = sCk S := stm.2.2.2.1
    have mmd : m 106 72 = sMd S := stm.2.2.2.2.2
    refine X12_same_s (T.rb hw (by omega)).1 (T.rb hw (by omega)).1.1 (T.rb hw (by omega)).2 (T.rb hw (by omega)).2.1 fun z hz rz => ⟨fun c => ?_, fun c => ?_⟩
    rotate_left 1
    · have e : outE E S t s p = (sSd S (slt t s p)).1 := by rw [← ro, hz.mp (by omega), s3]
      exact k m (by rw [sayE.same e]; exact stm) gm rows
    have hno : ¬ outE E S t s p = (sSd S (slt t s p)).1 := fun e => by
      have := hz.mpr (by rw [ro, e, s3])
      omega
    have GO : ∀ (m2 m5 : mM) (ck dl md : Int), ck = sCk S → dl = eL E t → md = sMd S → sayE E S t s p = mk! (sd! S (slt t s p) (outE E S t s p, sCk S)) (insQ (sCk S + eL E t, 2 * slt t s p) (remQ (2 * slt t s p) (sQu S))) → rtR m2 (530 + ((slt t s p : Nat) : Int)) = rtR m 2 → onR m m2 (530 + ((slt t s p : Nat) : Int)) → rtR m5 (930 + ((slt t s p : Nat) : Int)) = rtR (mUp (mUp m2 155 (slt t s p) 1) 156 (slt t s p) ck) 2 → onR (mUp (mUp m2 155 (slt t s p) 1) 156 (slt t s p) ck) m5 (930 + ((slt t s p : Nat) : Int)) → mT w m2 → 0 ≤ ck → 0 ≤ dl → mT w (mUp (mUp m2 155 (slt t s p) 1) 156 (slt t s p) ck) → Q (mUp (mUp (mUp m5 157 (slt t s p) (ck + dl)) 158 (slt t s p) md) 106 72 (md + 1)) := by
      intro m2 m5 ck dl md e1 e2 e3 esay q1 q2 q3 q4 T2 k0 d0 T4
      have at_ : ∀ (b i : Nat), ¬ (b = 126 ∧ 40 * (530 + ((slt t s p : Nat) : Int)) ≤ (i : Int) ∧ (i : Int) < 40 * (530 + ((slt t s p : Nat) : Int)) + 40) → ¬ (b = 126 ∧ 40 * (930 + ((slt t s p : Nat) : Int)) ≤ (i : Int) ∧ (i : Int) < 40 * (930 + ((slt t s p : Nat) : Int)) + 40) → ¬ (b = 155 ∧ i = slt t s p) → ¬ (b = 156 ∧ i = slt t s p) → ¬ (b = 157 ∧ i = slt t s p) → ¬ (b = 158 ∧ i = slt t s p) → ¬ (b = 106 ∧ i = 72) → mUp (mUp (mUp m5 157 (slt t s p) (ck + dl)) 158 (slt t s p) md) 106 72 (md + 1) b i = m b i := fun b i w1 w2 w3 w4 w5 w6 w7 => by
        rw [mUp.no (by omega), mUp.no (by omega), mUp.no (by omega), q4 b i w2, mUp.no (by omega), mUp.no (by omega), q2 b i w1]
      have r2o : rtR (mUp (mUp m2 155 (slt t s p) 1) 156 (slt t s p) ck) 2 = outE E S t s p := by
        rw [← ro]
        refine rtR.cg (T.rb hw (by omega)).1.2 (T.rb hw (by omega)).2.2 fun i hi => ?_
        rw [mUp.no (by omega), mUp.no (by omega), q2 126 _ (by omega)]
      have k5 : ∀ r : Int, 0 ≤ r → rtR (mUp (mUp (mUp m5 157 (slt t s p) (ck + dl)) 158 (slt t s p) md) 106 72 (md + 1)) r = rtR m5 r := fun r hr => by
        unfold rtR
        rfl
      have rS : rtR m5 (530 + ((slt t s p : Nat) : Int)) = outE E S t s p := by
        rw [q4.rt (by omega) (by omega) (T4.rb hw (by omega)).1.2 (T4.rb hw (by omega)).2.2]
        have e : rtR (mUp (mUp m2 155 (slt t s p) 1) 156 (slt t s p) ck) (530 + ((slt t s p : Nat) : Int)) = rtR m2 (530 + ((slt t s p : Nat) : Int)) := by
          unfold rtR
          rfl
        rw [e, q1, ro]
      refine k _ ?_ (gG m _ gm fun b i w1 w2 w3 => at_ b i (by omega) (by omega) (by omega) (by omega) (by omega) (by omega) (by omega)) fun i hi => (at_ 126 i (by omega) (by omega) (by omega) (by omega) (by omega) (by omega) (by omega)).trans (rows i hi)
      rw [esay, show sCk S + eL E t = ck + dl by rw [e1, e2]]
      refine stm.go (v := ck + dl) hw T sb t20 d10 (by omega) (fun b i w1 w2 w3 w4 w5 w6 w7 w8 w9 w10 w11 w12 w13 => at_ b i w2 w3 w4 w5 w6 w7 w8) ((k5 _ (by omega)).trans rS) ((k5 _ (by omega)).trans (q3.trans r2o)) ?_ ?_ ?_ ?_ ?_
      · rw [mUp.no (by omega), mUp.no (by omega), mUp.no (by omega), q4 155 _ (by omega), mUp.no (by omega), mUp.yes ⟨rfl, rfl⟩]
      · rw [mUp.no (by omega), mUp.no (by omega), mUp.no (by omega), q4 156 _ (by omega), mUp.yes ⟨rfl, rfl⟩, e1]
      · rw [mUp.no (by omega), mUp.no (by omega), mUp.yes ⟨rfl, rfl⟩]
      · rw [mUp.no (by omega), mUp.yes ⟨rfl, rfl⟩, e3, mmd]
      · rw [mUp.yes ⟨rfl, rfl⟩, e3, mmd]
    have tn : (((slt t s p : Nat) : Int)).toNat = slt t s p := by omega
    have tt : ((t : Int)).toNat = t := by omega
    have m155 : (if m 155 (slt t s p) = 0 then -1 else m 156 (slt t s p)) = (sSd S (slt t s p)).2 := s4
    intro u eu hu
    rw [tn] at eu
    refine ⟨fun cu x2 _ _ => ?_, fun cu ck eck hck v evv hv g eg hg => ⟨fun cg x2 _ _ => ?_, fun cg wt ewt hwt => ⟨fun cw => ?_, fun cw m2 u2 _ md emd hmd m3 u3 _ md2 hr2 he2 m4 u4 _ => ?_⟩⟩⟩
    · rw [if_pos (eu.trans cu)] at m155
      refine X12_copy_s (by omega) (by omega) (by omega) (T.rb hw (by omega)).1.2 (T.rb hw (by omega)).2.2 fun m2 q1 _ q2 T2 F2 x3 _ m3 u3 _ ck eck hck m4 u4 T4 => ?_
      rw [tn] at u3 u4
      obtain rfl := u3.is
      obtain rfl := u4.is
      have eck' : ck = sCk S := by rw [← eck, mUp.no (by omega), q2 106 71 (by omega), mck]
      refine X12_copy_s (by omega) (by omega) (by omega) (T4.rb hw (by omega)).1.2 (T4.rb hw (by omega)).2.2 fun m5 q3 _ q4 T5 F5 x4 _ dl edl hdl m6 u6 _ md emd hmd m7 u7 _ md2 hr2 he2 m8 u8 _ => ?_
      rw [tn] at u6 u7
      obtain rfl := u6.is
      obtain rfl := u7.is
      have emd' : md = sMd S := by rw [← emd, mUp.no (by omega), q4 106 72 (by omega), mUp.no (by omega), mUp.no (by omega), q2 106 72 (by omega), mmd]
      have edl' : dl = eL E t := by rw [← edl, tt, q4 113 _ (by omega), mUp.no (by omega), mUp.no (by omega), q2 113 _ (by omega), fr 113 _ (by omega) (by omega) (by omega) (by omega) (by omega), a4]
      have : md2 = md + 1 := by omega
      subst this
      obtain rfl := u8.is
      exact GO m2 m5 ck dl md eck' edl' emd' (sayE.go hup hno (Or.inl m155.symm)) q1 q2 q3 q4 T2 hck.1 hdl.1 T4
    · rw [if_neg (by rw [eu]; exact cu)] at m155
      rw [tn] at evv
      rw [tt] at eg
      have eck' : ck = sCk S := eck.symm.trans mck
      have evv' : v = (sSd S (slt t s p)).2 := evv.symm.trans m155
      have eg' : g = eG E t := by rw [← eg, fr 114 _ (by omega) (by omega) (by omega) (by omega) (by omega), a5]
      refine X12_copy_s (by omega) (by omega) (by omega) (T.rb hw (by omega)).1.2 (T.rb hw (by omega)).2.2 fun m2 q1 _ q2 T2 F2 x3 _ m3 u3 _ m4 u4 T4 => ?_
      rw [tn] at u3 u4
      obtain rfl := u3.is
      obtain rfl := u4.is
      refine X12_copy_s (by omega) (by omega) (by omega) (T4.rb hw (by omega)).1.2 (T4.rb hw (by omega)).2.2 fun m5 q3 _ q4 T5 F5 x4 _ dl edl hdl m6 u6 _ md emd hmd m7 u7 _ md2 hr2 he2 m8 u8 _ => ?_
      rw [tn] at u6 u7
      obtain rfl := u6.is
      obtain rfl := u7.is
      have emd' : md = sMd S := by rw [← emd, mUp.no (by omega), q4 106 72 (by omega), mUp.no (by omega), mUp.no (by omega), q2 106 72 (by omega), mmd]
      have edl' : dl = eL E t := by rw [← edl, tt, q4 113 _ (by omega), mUp.no (by omega), mUp.no (by omega), q2 113 _ (by omega), fr 113 _ (by omega) (by omega) (by omega) (by omega) (by omega), a4]
      have : md2 = md + 1 := by omega
      subst this
      obtain rfl := u8.is
      exact GO m2 m5 ck dl md eck' edl' emd' (sayE.go hup hno (Or.inr (by omega))) q1 q2 q3 q4 T2 hck.1 hdl.1 T4
    · rw [if_neg (by rw [eu]; exact cu)] at m155
      rw [tn] at evv ewt
      rw [tt] at eg
      have eck' : ck = sCk S := eck.symm.trans mck
      have evv' : v = (sSd S (slt t s p)).2 := evv.symm.trans m155
      have eg' : g = eG E t := by rw [← eg, fr 114 _ (by omega) (by omega) (by omega) (by omega) (by omega), a5]
      have hq : ∃ x, (x, 2 * slt t s p + 1) ∈ sQu S := (stm.2.2.1.has (by omega)).mpr (by
        unfold atR
        rw [if_neg (by omega), show (2 * slt t s p + 1) / 2 = slt t s p by omega, ewt]
        exact cw)
      refine k m ?_ gm rows
      rw [sayE.wait hup hno (by omega) (by omega), cIf.pos hq]
      exact stm
    · rw [if_neg (by rw [eu]; exact cu)] at m155
      rw [tn] at evv ewt u2 u3
      rw [tt] at eg
      have eck' : ck = sCk S := eck.symm.trans mck
      have evv' : v = (sSd S (slt t s p)).2 := evv.symm.trans m155
      have eg' : g = eG E t := by rw [← eg, fr 114 _ (by omega) (by omega) (by omega) (by omega) (by omega), a5]
      have hq : ¬ ∃ x, (x, 2 * slt t s p + 1) ∈ sQu S := fun hx => by
        have := (stm.2.2.1.has (by omega)).mp hx
        unfold atR at this
        rw [if_neg (by omega), show (2 * slt t s p + 1) / 2 = slt t s p by omega, ewt] at this
        omega
      obtain rfl := u2.is
      obtain rfl := u3.is
      have emd' : md = sMd S := by rw [← emd, mUp.no (by omega), mmd]
      have : md2 = md + 1 := by omega
      subst this
      obtain rfl := u4.is
      have at_ : ∀ (b i : Nat), ¬ (b = 159 ∧ i = slt t s p) → ¬ (b = 160 ∧ i = slt t s p) → ¬ (b = 106 ∧ i = 72) → mUp (mUp (mUp m 159 (slt t s p) (v + g)) 160 (slt t s p) md) 106 72 (md + 1) b i = m b i := fun b i w1 w2 w3 => by
        rw [mUp.no (by omega), mUp.no (by omega), mUp.no (by omega)]
      refine k _ ?_ (gG m _ gm fun b i w1 w2 w3 => at_ b i (by omega) (by omega) (by omega)) fun i hi => (at_ 126 i (by omega) (by omega) (by omega)).trans (rows i hi)
      rw [sayE.wait hup hno (by omega) (by omega), cIf.neg hq, ← evv', ← eg']
      refine stm.wait hw T sb t20 (by omega) hq (fun b i w1 w2 w3 w4 w5 w6 w7 w8 w9 => at_ b i w2 w3 w4) ?_ ?_ ?_
      · rw [mUp.no (by omega), mUp.no (by omega), mUp.yes ⟨rfl, rfl⟩]
      · rw [mUp.no (by omega), mUp.yes ⟨rfl, rfl⟩, emd', mmd]
      · rw [mUp.yes ⟨rfl, rfl⟩, emd', mmd]
  have pn : tie = -99999999 ↔ (sPk S (10 * d.toNat + p)).2 = none := by rw [← etie']; exact sn.2.2.2.2.2.2.1 _
  refine ⟨fun c => J1 m1 fr1 g1 ?_, fun c => ⟨fun ct => J1 m1 fr1 g1 ?_, fun ct => ?_⟩⟩
  · rw [r1]
    unfold outE
    rw [dE, pn.mp c]
  · rw [r1]
    unfold outE
    rw [dE]
    cases e : (sPk S (10 * d.toNat + p)).2 with
    | none => rfl
    | some r =>
      show none = (if (sPk S (10 * d.toNat + p)).1 = (t : Int) ∨ 20 ≤ (wOf r).length then none else _)
      rw [if_pos (Or.inl (etie'.trans ct))]
  obtain ⟨r, er⟩ : ∃ r, (sPk S (10 * d.toNat + p)).2 = some r := by
    cases e : (sPk S (10 * d.toNat + p)).2 with
    | none => exact absurd (pn.mpr e) c
    | some r => exact ⟨r, rfl⟩
  have rg := sn.1 (10 * d.toNat + p) r er
  have hK : (30 + (10 * d + (p : Int)) : Int) = 30 + ((10 * d.toNat + p : Nat) : Int) := by omega
  rw [hK]
  refine X12_copy_s (by omega) (by omega) (by omega) (T1.rb hw (by omega)).1.2 (T1.rb hw (by omega)).2.2 fun m2 q2 _ o2 T2 F2 x2 _ m3 u3 T3 => ?_
  have rp : rtR m2 2 = some r := by rw [q2, fr1.rt hw hT (by omega) (by omega), c2, er]
  have w3 := rtR.wish (v := 100) (r := 2) (by omega) (T2.rb hw (by omega)).1.2 rp
  obtain rfl : m3 = mUp m2 126 (40 * 2 + 1 : Int).toNat 100 := u3.is
  obtain ⟨w3a, w3b⟩ := w3
  have fr3 : frT μ (mUp m2 126 (40 * 2 + 1 : Int).toNat 100) 2 := (fr1.on o2).on w3b
  have out_no : ∀ r', (sPk S (10 * d.toNat + p)).2 = some r' → (20 ≤ (wOf r').length ∨ ¬ (eTh E (ePl E (4 * t + 2 * s + 1)) (eN E t s) (eN E t (1 - s)) (rtWish (rtWay r' (eN E t s :: wOf r')) 100)).1 = true) → outE E S t s p = none := fun r' e h => by
    unfold outE
    rw [dE, e]
    show (if (sPk S (10 * d.toNat + p)).1 = (t : Int) ∨ 20 ≤ (wOf r').length then none else if (eTh E (ePl E (4 * t + 2 * s + 1)) (eN E t s) (eN E t (1 - s)) (rtWish (rtWay r' (eN E t s :: wOf r')) 100)).1 = true then _ else none) = none
    by_cases q : 20 ≤ (wOf r').length
    · rw [if_pos (Or.inr q)]
    · rw [if_neg (by rw [etie']; rintro (x | x); exact ct x; exact q x), if_neg (h.resolve_left q)]
  have J2 : ∀ (b : Int) (m mm : mM), frT μ m 2 → mT w m → G m → (b = 0 → ∃ x, rtR m 2 = x) → (b = 0 → outE E S t s p = none) → (¬ b = 0 → ∃ x, rtR m 2 = some x ∧ outE E S t s p = some (rtWish x 100)) → WJ_X12_say_W_2 w (t : Int) Q ((slt t s p : Nat) : Int) m1 mm b m := by
    intro b m mm fr Tm gm _ hb0 hb1 _ T F m6 u6 T6
    have e81 : ((81 : Int)).toNat = (40 * 2 + 1 : Int).toNat := rfl
    obtain rfl : m6 = mUp m 126 (40 * 2 + 1 : Int).toNat 100 := u6.is
    have o6 : onR m (mUp m 126 (40 * 2 + 1 : Int).toNat 100) 2 := fun b i hb => mUp.no (by omega)
    have g6 : G (mUp m 126 (40 * 2 + 1 : Int).toNat 100) := gG m _ gm fun b i w1 w2 w3 => o6 b i (by omega)
    refine ⟨fun c => ?_, fun c => ?_⟩
    · obtain ⟨x, e1, e2⟩ := hb1 c
      exact J1 _ (fr.on o6) g6 (by rw [(rtR.wish (v := 100) (r := 2) (by omega) (T.rb hw (by omega)).1.2 e1).1, e2])
    · refine X12_nothing_s (by omega) fun m7 r7 f7 _ _ x7 _ => J1 m7 ((fr.on o6).no f7) (gG _ m7 g6 fun b i w1 w2 w3 => f7 b i (by omega)) (by rw [r7, hb0 c])
  have g2 : G m2 := gG m1 m2 g1 fun b i q1 q2 q3 => o2 b i (by omega)
  have g3 : G (mUp m2 126 (40 * 2 + 1 : Int).toNat 100) := gG m2 _ g2 fun b i q1 q2 q3 => w3b b i (by omega)
  have n3 : (wOf (rtWish r 100)).length = (wOf r).length := rfl
  have l3 : ((wOf r).length : Int) = mUp m2 126 (40 * 2 + 1 : Int).toNat 100 126 (40 * 2 + 4 : Int).toNat := by
    have g := (rtR.get w3a).2
    have e : wOf (rtWish r 100) = rowL (fun k => mUp m2 126 (40 * 2 + 1 : Int).toNat 100 126 (40 * 2 + 6 + (k : Int)).toNat) (mUp m2 126 (40 * 2 + 1 : Int).toNat 100 126 (40 * 2 + 4 : Int).toNat).toNat := by rw [g]
    rw [← n3, e, rowL.len]
    have := (T3.rb hw (r := 2) (by omega)).1
    omega
  refine X12_front_s (by omega) (fun e _ _ _ => ⟨fun _ => ?_, fun q => absurd rfl q⟩) fun m4 hn4 cf T4 F4 _ => ⟨fun q => absurd q (by decide), fun _ pl epl hpl po epo hpo => ?_⟩
  · exact J2 0 _ _ fr3 T3 g3 (fun _ => ⟨_, rfl⟩) (fun _ => out_no r er (Or.inl (by omega))) (fun q => absurd rfl q)
  have w4 := rtR.front (by omega) w3a hn4 (T3.rb hw (by omega)).2.2 cf
  have fr4 : frT μ m4 2 := fr3.on w4.2
  have g4 : G m4 := gG _ m4 g3 fun b i q1 q2 q3 => w4.2 b i (by omega)
  have plE : pl = ePl E (4 * t + (2 * s + 1)) := by
    rw [← epl, fr4 115 _ (by omega) (by omega) (by omega) (by omega) (by omega), ← a6 (2 * s + 1) (by omega)]
    congr 1
  refine X12_partnerOf_pt_s ?_
  have e110 : ∀ i, m4 110 i = μ 110 i := fun i => fr4 110 i (by omega) (by omega) (by omega) (by omega) (by omega)
  rw [ptR.of ((e110 _).trans a1) ((e110 _).trans a2) hne hs hd]
  intro _
  have rw4 : rtR m4 2 = some (rtWish (rtWay r (eN E t s :: wOf r)) 100) := by rw [w4.1, hd]; rfl
  have Fm : mF lER w μ m4 := by
    have F3 : mF lER w m2 (mUp m2 126 (40 * 2 + 1 : Int).toNat 100) := mF.refl.up (A_126 hw) mUp_ok rfl
    exact ((((mF.refl.call F1 rfl).call F2 rfl).call F3 rfl)).call F4 rfl
  have px : (rtWish (rtWay r (eN E t s :: wOf r)) 100).1 < (eP E : Int) := by
    show r.1 < (eP E : Int)
    have pm : (10 * d.toNat + p) % 10 = p := by omega
    have g1 := sn.1 (10 * d.toNat + p) r er
    rw [pm] at g1
    rw [g1.1]
    have c : ¬ eP E ≤ (10 * d.toNat + p) % 10 := fun g => by
      have := (sn.2.2.2.2.2.2.2.2.2 _ g).1
      rw [er] at this
      cases this
    omega
  have go := h6.2 m4 pl 2 t s (rtWish (rtWay r (eN E t s :: wOf r)) 100)
  rw [hd]
  refine go _ T4 (mF.refl.call Fm rfl) g4 ht hs (by rw [plE]; exact h6.1 _ _ ht (by omega)) (by omega) (by omega) rw4 rg.2.1 px fun z5 m5 hz5 r5 g5 f5 T5 F5 rz5 x5 _ => ?_
  have fr5 : frT μ m5 2 := fr4.trans fun b i q1 q2 q3 q4 q5 => f5 b i q1 q2 q3 q4 q5
  rw [plE] at hz5 r5
  have ePlE : ePl E (4 * t + (2 * s + 1)) = ePl E (4 * t + 2 * s + 1) := by rw [show 4 * t + (2 * s + 1) = 4 * t + 2 * s + 1 by omega]
  rw [ePlE] at hz5 r5
  refine ⟨fun q => J2 0 m5 _ fr5 T5 g5 (fun _ => ⟨_, rfl⟩) (fun _ => out_no r er (Or.inr fun g => by have := hz5.mpr g; omega)) (fun q => absurd rfl q), fun q => J2 1 m5 _ fr5 T5 g5 (fun q => absurd q (by decide)) (fun q => absurd q (by decide)) fun _ => ⟨_, r5, ?_⟩⟩
  unfold outE
  rw [dE, er]
  show (if (sPk S (10 * d.toNat + p)).1 = (t : Int) ∨ 20 ≤ (wOf r).length then none else if (eTh E (ePl E (4 * t + 2 * s + 1)) (eN E t s) (eN E t (1 - s)) (rtWish (rtWay r (eN E t s :: wOf r)) 100)).1 = true then _ else none) = _
  rw [if_neg (by rw [etie']; rintro (x | x); exact ct x; omega), if_pos (hz5.mp (by omega))]
end Say
end
section
/-! The class gathers candidates. -/
theorem rtC.up9 {m : mM} {a k : Nat} {z : Int} (hk : 9 ≤ k) : rtC (mUp m a k z) a = rtC m a := by
  unfold rtC
  rw [mUp.no (by omega), mUp.no (by omega), mUp.no (by omega), mUp.no (by omega), mUp.no (by omega), mUp.no (by omega), mUp.no (by omega), rowL.ext (f := m (a + 1)) (fun i _ => mUp.no (by omega)), rowL.ext (f := m (a + 2)) (fun i _ => mUp.no (by omega))]
theorem rtC.val {m : mM} {a : Nat} {r : Rt} (h : rtC m a = some r) : r = rtv m a := (rtC.get h).2
theorem X9_sideOf_s {w : mW} {μ : mM} {a : Nat} {d : Int} {Q : Int → mM → Prop} (k : Q (sdI (μ a 0) (μ a 1) d) μ) : WP_X9_sideOf_W w μ a d Q := by
  intro x ex _
  subst ex
  unfold sdI at k
  refine ⟨fun c y ey _ => ?_, fun c => ?_⟩
  · subst ey
    rw [if_neg (fun e => c e.symm)] at k
    refine ⟨fun c2 => ?_, fun c2 => ?_⟩
    · rw [if_neg (fun e => c2 e.symm)] at k; exact k
    · rw [if_pos c2.symm] at k; exact k
  · rw [if_pos c.symm] at k; exact k
theorem X9_end_s {w : mW} {μ : mM} {a : Nat} {s : Int} {Q : Int → mM → Prop} (k : Q (if s = 0 then μ a 0 else μ a 1) μ) : WP_X9_end_W w μ a s Q := by
  refine ⟨fun c x ex _ => ?_, fun c x ex _ => ?_⟩
  · rw [if_neg c] at k
    subst ex
    exact k
  · rw [if_pos c] at k
    subst ex
    exact k
theorem envC.fr {w : mW} {μ m : mM} {E : En} (hw : mWF w) (hT : mT w μ) (h : envC w μ E) (F : mF lEC w μ m) : envC w m E := by
  obtain ⟨h1, h2, h3, h4, h5, h6, h7⟩ := h
  obtain ⟨l1, l2, l3, l4, l5, l6⟩ := h4
  have tb : ∀ t, tbA m t = tbA μ t := fun t => congrArg Int.toNat (F.f (A_11 hw) rfl rfl)
  have db : ∀ d, dbA m d = dbA μ d := fun d => congrArg Int.toNat (F.f (A_10 hw) rfl rfl)
  have n1 : (eT E : Int) = w.2.2.2 1 := by
    have g : μ 6 16 = w.2.2.2 1 ∧ 0 ≤ μ 6 16 ∧ μ 6 16 ≤ 20 := hT 6 6 (A_6 hw) 16
    rw [← h1]; exact g.1
  have n0 : (eD E : Int) = w.2.2.2 0 := by
    have g : μ 6 15 = w.2.2.2 0 ∧ 0 ≤ μ 6 15 ∧ μ 6 15 ≤ 10 := hT 6 6 (A_6 hw) 15
    rw [← h3]; exact g.1
  have At : ∀ t, t < eT E → mAt w (tbA μ t) 220 := fun t ht => by
    have g : (((t : Nat) : Int) < w.2.2.2 1 → 0 ≤ μ 11 t ∧ mAt w (μ 11 t).toNat 220) ∧ (¬ ((t : Nat) : Int) < w.2.2.2 1 → μ 11 t = -1) := hT 11 11 (A_11 hw) t
    exact (g.1 (by omega)).2
  have Ad : ∀ d, d < eD E → mAt w (dbA μ d) 210 := fun d hd => by
    have g : (((d : Nat) : Int) < w.2.2.2 0 → 0 ≤ μ 10 d ∧ mAt w (μ 10 d).toNat 210) ∧ (¬ ((d : Nat) : Int) < w.2.2.2 0 → μ 10 d = -1) := hT 10 10 (A_10 hw) d
    exact (g.1 (by omega)).2
  have o1 : ∀ {a : Nat}, mAt w a 220 → mAt w (a + 1) 221 ∧ mAt w (a + 2) 222 ∧ mAt w (a + 3) 223 := fun {a} hA => ⟨(hT a 220 hA 3).2, (hT a 220 hA 4).2, (hT a 220 hA 5).2⟩
  have o0 : ∀ {a : Nat}, mAt w a 210 → mAt w (a + 1) 211 ∧ mAt w (a + 2) 212 ∧ mAt w (a + 4) 214 := fun {a} hA => ⟨(hT a 210 hA 0).2, (hT a 210 hA 1).2, (hT a 210 hA 3).2⟩
  refine ⟨F.f (A_6 hw) rfl h1, F.f (A_6 hw) rfl h2, F.f (A_6 hw) rfl h3, ⟨fun t ht => ?_, fun d hd => ?_, fun t s ht hs hne => ?_, fun t s ht hs hne => ?_, fun t d ht hd => ?_, fun i hi => F.f (A_35 hw) rfl (l6 i hi)⟩, fun t ht => ?_, fun d hd => ?_, ?_⟩
  · obtain ⟨a1, a2, a3⟩ := l1 t ht
    rw [tb]
    exact ⟨F.f (A_11 hw) rfl a1, a2, fun k hk => ⟨F.f (o1 (At t ht)).2.1 rfl (a3 k hk).1, F.f (o1 (At t ht)).2.2 rfl (a3 k hk).2⟩⟩
  · obtain ⟨a1, a2, a3⟩ := l2 d hd
    rw [db]
    exact ⟨F.f (A_10 hw) rfl a1, a2, fun k hk => F.f (o0 (Ad d hd)).2.2 rfl (a3 k hk)⟩
  · rw [tb, tb]; exact l3 t s ht hs hne
  · rw [db, db]; exact l4 t s ht hs hne
  · rw [tb, db]; exact l5 t d ht hd
  · obtain ⟨a1, a2, a3, a4, a5, a6⟩ := h5 t ht
    rw [tb]
    exact ⟨F.f (At t ht) rfl a1, F.f (At t ht) rfl a2, F.f (At t ht) rfl a3, F.f (At t ht) rfl a4, F.f (At t ht) rfl a5, fun i hi => F.f (o1 (At t ht)).1 rfl (a6 i hi)⟩
  · obtain ⟨a1, a2, a3⟩ := h6 d hd
    rw [db]
    refine ⟨fun p hp => F.f (o0 (Ad d hd)).2.1 rfl (a1 p hp), ?_, F.f (Ad d hd) rfl a3⟩
    rw [← a2, F.f (Ad d hd) rfl (rfl : μ (dbA μ d) 4 = _)]
    exact rowL.ext fun i _ => F.f (o0 (Ad d hd)).1 rfl rfl
  · have n8 : m 21 8 = μ 21 8 := F.f (A_21 hw) rfl rfl
    refine ⟨fun t i ht hi => by rw [n8]; exact h7.1 t i ht hi, ?_⟩
    intro m2 pl a t s r Q hT2 F2 ht hs hpl hr hsr hA kk
    rw [tb]
    rw [n8] at hpl
    exact h7.2 m2 pl a t s r Q hT2 ((mF.refl.call F rfl).call F2 rfl) ht hs hpl hr hsr hA kk
section Gat
variable {w : mW} {μ : mM} {E : En} {S : Sn} {d : Int} {p : Nat}
theorem X8_gather_s {Q : mM → Prop} (hw : mWF w) (hT : mT w μ) (ev : envC w μ E) (st : snC μ E S) (sn : snG E S) (ti : tiG E) (hp : p < 10) (hl : ∀ n, n ≤ eT E → (cdsN E S d p n).length ≤ 9)
    (k : ∀ m : mM, frC μ m → mT w m → mF lEC w μ m → m 32 9 = ((cdsN E S d p (eT E)).length : Int) → lst (cdC m) (cdsN E S d p (eT E)).length = cdsN E S d p (eT E) → (∀ i, i < (cdsN E S d p (eT E)).length → ¬ m (36 + 3 * i) 2 = 0) → Q m) : WP_X8_gather_W w μ d (p : Int) Q := by
  have ev0 := ev
  obtain ⟨h1, h2, h3, h4, h5, h6, h7⟩ := ev
  obtain ⟨l1, l2, l3, l4, l5, l6⟩ := h4
  intro m0 u0 T0
  obtain rfl := u0.is
  have F0 : mF lEC w μ (mUp μ 32 9 0) := mF.refl.up (A_32 hw) mUp_ok rfl
  refine loopF.im (fun z m => 0 ≤ z ∧ z ≤ (eT E : Int) ∧ frC μ m ∧ m 32 9 = ((cdsN E S d p z.toNat).length : Int) ∧ lst (cdC m) (cdsN E S d p z.toNat).length = cdsN E S d p z.toNat ∧ ∀ i, i < (cdsN E S d p z.toNat).length → ¬ m (36 + 3 * i) 2 = 0) (fun z => (21 - z).toNat) ⟨by omega, by omega, fun b i q1 q2 q3 q4 => mUp.no (by omega), mUp.yes ⟨rfl, rfl⟩, rfl, fun i hi => absurd hi (Nat.not_lt_zero i)⟩ (by omega) ?_
  rintro rc z m ⟨z0, z1, fr, hc, hL, hV⟩ ih z' m' e hz T F n en hn
  cases e
  have Fm : mF lEC w μ m := F0.call F rfl
  have e6 : m 6 16 = (eT E : Int) := Fm.f (A_6 hw) rfl h1
  rw [e6] at en
  subst en
  have step : ∀ m2 : mM, frC μ m2 → m2 32 9 = ((cdsN E S d p (z.toNat + 1)).length : Int) → lst (cdC m2) (cdsN E S d p (z.toNat + 1)).length = cdsN E S d p (z.toNat + 1) → (∀ i, i < (cdsN E S d p (z.toNat + 1)).length → ¬ m2 (36 + 3 * i) 2 = 0) → z < (eT E : Int) → rc (z + 1, m2) := fun m2 a1 a2 a3 a5 a4 => ih _ _ ⟨by omega, by omega, a1, by rw [show (z + 1).toNat = z.toNat + 1 by omega]; exact a2, by rw [show (z + 1).toNat = z.toNat + 1 by omega]; exact a3, by rw [show (z + 1).toNat = z.toNat + 1 by omega]; exact a5⟩ (by omega)
  refine ⟨fun g => ?_, fun g b eb hb => ?_⟩
  · have e : z.toNat = eT E := by omega
    rw [e] at hc hL hV
    exact k m fr T Fm hc hL hV
  have zt : z.toNat < eT E := by omega
  obtain ⟨t1, t2, t3⟩ := l1 z.toNat zt
  have eb' : b = tbA μ z.toNat := by
    have g1 : m 11 z.toNat = (tbA μ z.toNat : Int) := Fm.f (A_11 hw) rfl t1
    omega
  subst eb'
  obtain ⟨a1, a2, a3, a4, a5, a6⟩ := h5 z.toNat zt
  have hiF : ∀ {c i : Nat}, 76 ≤ c → m c i = μ c i := fun h => fr.hi h
  have no : ∀ {x : Option Cd}, cdE E S d p z.toNat = none → cdsN E S d p (z.toNat + 1) = cdsN E S d p z.toNat := fun h => fmN.no h
  have skip : cdE E S d p z.toNat = none → rc (z + 1, m) := fun h => by
    have e : cdsN E S d p (z.toNat + 1) = cdsN E S d p z.toNat := fmN.no h
    exact step m fr (by rw [e]; exact hc) (by rw [e]; exact hL) (by rw [e]; exact hV) g
  refine X9_sideOf_s ?_
  rw [hiF (by omega), hiF (by omega), a1, a2]
  have es : sdI (eA E z.toNat) (eB E z.toNat) d = sdE E d z.toNat := rfl
  rw [es]
  intro rs
  refine ⟨fun c _ _ => skip (if_pos c), fun c up eup hup => ?_⟩
  obtain ⟨s, hs, hs2⟩ : ∃ s : Nat, sdE E d z.toNat = (s : Int) ∧ s < 2 := ⟨(sdE E d z.toNat).toNat, by omega, by omega⟩
  have cE : cdE E S d p z.toNat = cdAt E S d p z.toNat s := by
    unfold cdE
    rw [if_neg (by omega), hs, Int.toNat_natCast]
  have dN : d = eN E z.toNat s := by
    have g : sdI (eA E z.toNat) (eB E z.toNat) d = (s : Int) := hs
    unfold sdI at g
    unfold eN
    by_cases q : eA E z.toNat = d
    · rw [if_pos q] at g
      rw [if_pos (by omega)]; exact q.symm
    · rw [if_neg q] at g
      by_cases q2 : eB E z.toNat = d
      · rw [if_pos q2] at g
        rw [if_neg (by omega)]; exact q2.symm
      · rw [if_neg q2] at g
        omega
  rw [hiF (by omega), a3] at eup
  refine ⟨fun q _ _ => skip (by rw [cE]; exact if_pos (eup.trans q)), fun q cc ec hcc => ?_⟩
  have c9 := hl z.toNat (by omega)
  rw [hc] at ec
  refine ⟨fun q10 => ?_, fun q10 => by omega⟩
  show (0 ≤ sdE E d z.toNat * 10 + (p : Int) ∧ sdE E d z.toNat * 10 + (p : Int) ≤ 19) → _
  rw [hs]
  intro hpl h eh hh th eth hth
  have pk20 : 10 * s + p < 20 := by omega
  have eh' : h = heA μ z.toNat (10 * s + p) := by
    have g1 := (t3 (10 * s + p) pk20).1
    rw [hiF (by omega), show ((s : Int) * 10 + (p : Int)).toNat = 10 * s + p by omega, g1] at eh
    have e2 : ((tbA μ z.toNat + 4 + 6 * (10 * s + p) : Nat) : Int) = (h : Int) := eh
    show h = tbA μ z.toNat + 4 + 6 * (10 * s + p)
    omega
  subst eh'
  obtain ⟨s1, s2, s3, s4⟩ := st.1 z.toNat (10 * s + p) zt pk20
  have sE : slt z.toNat s p = 20 * z.toNat + (10 * s + p) := by unfold slt; omega
  rw [← sE] at s1 s2
  have hr : rtC m (heA μ z.toNat (10 * s + p)) = sHd S (slt z.toNat s p) := by rw [fr.rt (by show 76 ≤ tbA μ z.toNat + 4 + 6 * (10 * s + p); omega), s1]
  refine ⟨fun q2 _ _ => skip ?_, fun q2 => ?_⟩
  · have e : sHd S (slt z.toNat s p) = none := by rw [← hr]; exact rtC.nil (eth.trans q2)
    rw [cE]
    unfold cdAt
    rw [if_neg (by rw [eup]; exact q), e]
  obtain ⟨r, er⟩ : ∃ r, sHd S (slt z.toNat s p) = some r := by
    cases e : sHd S (slt z.toNat s p) with
    | none => exact absurd (eth.symm.trans (rtC.no (hr.trans e))) q2
    | some r => exact ⟨r, rfl⟩
  have rg := sn.2.2.1 (slt z.toNat s p) r er
  have wy : rowL (m (heA μ z.toNat (10 * s + p) + 1)) (m (heA μ z.toNat (10 * s + p)) 7).toNat = wOf r := by rw [(rtC.get (hr.trans er)).2]
  refine X7_passes_s fun y hy ry => ⟨fun q3 a ea ha => ?_, fun q3 _ _ => skip ?_⟩
  rotate_left 1
  · have hin : d ∈ wOf r := by rw [← wy]; exact hy.mp (by omega)
    rw [cE]
    unfold cdAt
    rw [if_neg (by rw [eup]; exact q), er]
    show (if d ∈ wOf r then none else _) = none
    rw [if_pos hin]
  have hnin : ¬ d ∈ wOf r := fun g => by
    have := hy.mpr (by rw [wy]; exact g)
    omega
  have ea' : a = 36 + 3 * (cdsN E S d p z.toNat).length := by
    have g1 := l6 (cdsN E S d p z.toNat).length (by omega)
    rw [← Fm.f (A_35 hw) rfl (rfl : μ 35 (cdsN E S d p z.toNat).length = _)] at g1
    rw [← ec, Int.toNat_natCast, g1] at ea
    omega
  have hb192 : 192 ≤ tbA μ z.toNat := t2
  have ap : apr a (heA μ z.toNat (10 * s + p)) := by
    show a ≠ tbA μ z.toNat + 4 + 6 * (10 * s + p) ∧ _
    have hE : heA μ z.toNat (10 * s + p) = tbA μ z.toNat + 4 + 6 * (10 * s + p) := rfl
    refine ⟨?_, ?_, ?_, ?_, ?_, ?_, ?_⟩ <;> omega
  refine X7_become_s ap fun m2 r2 o2 T2 F2 wn ewn hwn m3 u3 T3 m4 u4 T4 => ?_
  obtain rfl := u3.is
  obtain rfl := u4.is
  have ra : ∀ b i, ¬ (a ≤ b ∧ b ≤ a + 2) → mUp (mUp m2 a 9 wn) a 10 z b i = m b i := fun b i hb => by
    rw [mUp.no (by omega), mUp.no (by omega), o2 b i (by omega) (by omega) (by omega)]
  refine X9_end_s ?_
  rw [ra _ _ (by omega), ra _ _ (by omega), hiF (by omega), hiF (by omega), a1, a2]
  have ep : (if 1 - (s : Int) = 0 then eA E z.toNat else eB E z.toNat) = eN E z.toNat (1 - s) := by
    unfold eN
    have z2 : s = 0 ∨ s = 1 := by omega
    rcases z2 with v | v <;> subst v
    · rw [if_neg (by omega), if_neg (by omega)]
    · rw [if_pos (by omega), if_pos (by omega)]
  rw [ep]
  intro _ m5 u5 T5 pol epol hpol
  obtain rfl := u5.is
  have wn' : wn = sHw S (slt z.toNat s p) := by
    have hE : heA μ z.toNat (10 * s + p) = tbA μ z.toNat + 4 + 6 * (10 * s + p) := rfl
    rw [← ewn, o2 _ _ (by omega) (by omega) (by omega), hiF (by omega), s2 (by rw [er]; exact fun x => by cases x)]
  have rb : ∀ b i, ¬ (a ≤ b ∧ b ≤ a + 2) → mUp (mUp (mUp m2 a 9 wn) a 10 z) a 11 (eN E z.toNat (1 - s)) b i = m b i := fun b i hb => by
    rw [mUp.no (by omega), ra b i hb]
  have r5 : rtC (mUp (mUp (mUp m2 a 9 wn) a 10 z) a 11 (eN E z.toNat (1 - s))) a = some r := by
    rw [rtC.up9 (by omega), rtC.up9 (by omega), rtC.up9 (by omega), r2, hr, er]
  have plE : pol = ePl E (4 * z.toNat + 2 * s) := by
    rw [rb _ _ (by omega), hiF (by omega), show ((s : Int) * 2 + 0).toNat = 2 * s by omega, a6 (2 * s) (by omega)] at epol
    exact epol.symm
  have F5 : mF lEC w μ (mUp (mUp (mUp m2 a 9 wn) a 10 z) a 11 (eN E z.toNat (1 - s))) := ((((Fm.call F2 rfl).up ha mUp_ok rfl).up ha mUp_ok rfl).up ha mUp_ok rfl)
  refine h7.2 _ pol a z.toNat s r _ T5 (mF.refl.call F5 rfl) zt hs2 (by rw [plE]; exact h7.1 _ _ zt (by omega)) r5 rg.2.1 ha fun z6 m6 hz6 r6 f6 T6 F6 rz6 => ?_
  rw [plE, ← dN] at hz6 r6
  have fr6 : ∀ b i, ¬ (a ≤ b ∧ b ≤ a + 2) → ¬ (b = 21 ∧ 2 ≤ i ∧ i ≤ 7) → m6 b i = m b i := fun b i hb hb2 => by
    rw [f6 b i (by omega) (by omega) (by omega) hb2, rb b i hb]
  have frC6 : frC μ m6 := fun b i q1 q2 q3 q4 => (fr6 b i (by omega) q1).trans (fr b i q1 q2 q3 q4)
  have old : ∀ i, i < (cdsN E S d p z.toNat).length → cdC m6 i = cdC m i := fun i hi => cdv.of (fun j => fr6 _ _ (by omega) (by omega)) (fun j => fr6 _ _ (by omega) (by omega)) (fun j => fr6 _ _ (by omega) (by omega))
  refine ⟨fun q4 _ _ => ?_, fun q4 m7 u7 T7 _ _ => ?_⟩
  · have cn : cdE E S d p z.toNat = none := by
      rw [cE]
      unfold cdAt
      rw [if_neg (by rw [eup]; exact q), er]
      show (if d ∈ wOf r then none else if (eTh E (ePl E (4 * z.toNat + 2 * s)) d (eN E z.toNat (1 - s)) r).1 = true then _ else none) = none
      rw [if_neg hnin, if_neg (fun g => by have := hz6.mpr g; omega)]
    have e : cdsN E S d p (z.toNat + 1) = cdsN E S d p z.toNat := fmN.no cn
    refine step m6 frC6 ?_ ?_ ?_ g
    · rw [e, fr6 32 9 (by omega) (by omega)]; exact hc
    · rw [e, lst.ext old]; exact hL
    · rw [e]
      intro i hi
      rw [fr6 _ _ (by omega) (by omega)]
      exact hV i hi
  · obtain rfl := u7.is
    have cs : cdE E S d p z.toNat = some ((z.toNat : Int), eN E z.toNat (1 - s), sHw S (slt z.toNat s p), (eTh E (ePl E (4 * z.toNat + 2 * s)) d (eN E z.toNat (1 - s)) r).2) := by
      rw [cE]
      unfold cdAt
      rw [if_neg (by rw [eup]; exact q), er]
      show (if d ∈ wOf r then none else if (eTh E (ePl E (4 * z.toNat + 2 * s)) d (eN E z.toNat (1 - s)) r).1 = true then _ else none) = _
      rw [if_neg hnin, if_pos (hz6.mp (by omega))]
    have e : cdsN E S d p (z.toNat + 1) = cdsN E S d p z.toNat ++ [((z.toNat : Int), eN E z.toNat (1 - s), sHw S (slt z.toNat s p), (eTh E (ePl E (4 * z.toNat + 2 * s)) d (eN E z.toNat (1 - s)) r).2)] := fmN.yes cs
    have el : (cdsN E S d p (z.toNat + 1)).length = (cdsN E S d p z.toNat).length + 1 := by rw [e, List.length_append]; rfl
    have u9 : ∀ b i, ¬ (b = 32 ∧ i = 9) → mUp m6 32 9 (cc + 1) b i = m6 b i := fun b i hb => mUp.no hb
    refine step _ (fun b i q1 q2 q3 q4 => (u9 b i q2).trans (frC6 b i q1 q2 q3 q4)) ?_ ?_ ?_ g
    · rw [mUp.yes ⟨rfl, rfl⟩, el, ← ec]
      omega
    · rw [el, lst.succ]
      have e1 : lst (cdC (mUp m6 32 9 (cc + 1))) (cdsN E S d p z.toNat).length = cdsN E S d p z.toNat := by
        rw [← hL]
        have e2 : (lst (cdC m) (cdsN E S d p z.toNat).length).length = (cdsN E S d p z.toNat).length := by rw [hL]
        rw [e2]
        exact lst.ext fun i hi => (cdv.of (fun j => u9 _ _ (by omega)) (fun j => u9 _ _ (by omega)) (fun j => u9 _ _ (by omega))).trans (old i hi)
      rw [e1, e]
      congr 2
      have e3 : cdC (mUp m6 32 9 (cc + 1)) (cdsN E S d p z.toNat).length = cdv m6 a := by
        rw [ea']
        exact cdv.of (fun j => u9 _ _ (by omega)) (fun j => u9 _ _ (by omega)) (fun j => u9 _ _ (by omega))
      rw [e3]
      have f9 : ∀ i, 9 ≤ i → m6 a i = mUp (mUp (mUp m2 a 9 wn) a 10 z) a 11 (eN E z.toNat (1 - s)) a i := fun i hi => f6 a i (by omega) (by omega) (by omega) (by omega)
      show (m6 a 10, m6 a 11, m6 a 9, rtv m6 a) = _
      rw [f9 10 (by omega), f9 11 (by omega), f9 9 (by omega), mUp.no (by omega), mUp.yes ⟨rfl, rfl⟩, mUp.yes ⟨rfl, rfl⟩, mUp.no (by omega), mUp.no (by omega), mUp.yes ⟨rfl, rfl⟩, ← rtC.val r6, wn']
      rw [Int.toNat_of_nonneg z0]
    · rw [el]
      intro i hi
      rw [u9 _ _ (by omega)]
      by_cases c7 : i = (cdsN E S d p z.toNat).length
      · rw [c7, ← ea']
        exact (rtC.get r6).1
      · rw [fr6 _ _ (by omega) (by omega)]
        exact hV i (by omega)
end Gat
end
