section
/-! The reference looks. -/
section LookR
variable {w : mW} {μ : mM} {E : En} {S : Sn} {G : mM → Prop} {d p : Nat}
theorem frR.lo {m : mM} (h : frR μ m) : loR μ m := fun i hi => h 126 i (by omega) (by omega) (by omega) (by omega) (by omega) (by omega)
theorem gSt.fr {m : mM} (gG : gSt G) (hG : G μ) (h : ∀ (b i : Nat), ¬ b = 126 → ¬ ((112 ≤ b ∧ b ≤ 115) ∨ (151 ≤ b ∧ b ≤ 165)) → ¬ (b = 106 ∧ 70 ≤ i) → m b i = μ b i) : G m := gG μ m hG h
theorem X12_lookJ_s {Q : mM → Prop} {m : mM} {v : Int} (hw : mWF w) (hT : mT w μ) (ev : envR w μ E G) (hG : G m) (gG : gSt G) (st : snR μ E S) (sn : snG E S) (ti : tiG E) (tG : thG E) (pa : paG E) (hd : d < eD E) (hp : p < 10) (ho : eOw E (10 * d + p) ≤ 2) (hM : 0 ≤ sMd S ∧ sMd S + 20 < 2147483647)
    (fr : frR μ m) (hn : newP E S (d : Int) p = (v, rtR m 3)) (k : ∀ m : mM, snR m E (lookE E S (d : Int) p) → G m → loR μ m → Q m) : WJ_X12_look_W_1 w μ (d : Int) (p : Int) Q v m := by
  intro _ T F z73 _ _ z78 e78 _
  have t20 := ti.2.2.1
  have d10 := ti.2.2.2.1
  have F0 : mF lER w μ m := mF.refl.call F rfl
  have e10 : (10 * (d : Int) + (p : Int)).toNat = 10 * d + p := by omega
  have c10 : (30 : Int) + (10 * (d : Int) + (p : Int)) = 30 + ((10 * d + p : Nat) : Int) := by omega
  rw [e10] at e78 ⊢
  rw [c10]
  have sp := st.2.1 (10 * d + p) (by omega)
  have e78' : z78 = (sPk S (10 * d + p)).1 := by
    rw [← e78, fr 161 _ (by omega) (by omega) (by omega) (by omega) (by omega) (by omega)]; exact sp.1
  have sm : snR m E S := st.fr hw hT fr
  have good := newP.good (d := d) sn tG hp ho
  have m10 : (10 * d + p) % 10 = p := by omega
  have rp : rtR m (30 + ((10 * d + p : Nat) : Int)) = (sPk S (10 * d + p)).2 := (sm.2.1 (10 * d + p) (by omega)).2
  have go : ¬ newP E S (d : Int) p = sPk S (10 * d + p) → ∀ m3 : mM, rtR m3 (30 + ((10 * d + p : Nat) : Int)) = rtR (mUp m 161 (10 * d + p) v) 3 → onR (mUp m 161 (10 * d + p) v) m3 (30 + ((10 * d + p : Nat) : Int)) → mF [126999] w (mUp m 161 (10 * d + p) v) m3 → loopF (WL_X12_look_W_2 w (d : Int) (p : Int) Q m3) False 22 (0, m3) := by
    intro hne m3 r3 o3 F3
    have rb : rtR (mUp m 161 (10 * d + p) v) 3 = rtR m 3 := rtR.cg (T.rb hw (by omega)).1.2 (T.rb hw (by omega)).2.2 fun j hj => mUp.no (by omega)
    rw [rb] at r3
    have all : ∀ (b i : Nat), ¬ (b = 161 ∧ i = 10 * d + p) → ¬ (b = 126 ∧ 40 * (30 + (10 * d + p)) ≤ i ∧ i < 40 * (30 + (10 * d + p)) + 40) → m3 b i = m b i := fun b i q1 q2 => by
      rw [o3 b i (by omega), mUp.no q1]
    have s3 : snR m3 E (pk! S (10 * d + p) (v, rtR m 3)) := st.pick hw hT (by omega) d10 (fun b i h1 h2 h3 h4 h5 h6 h7 h8 => (all b i h7 h8).trans (fr b i h1 h2 h3 h4 h5 h6)) (by rw [o3 _ _ (by omega), mUp.yes ⟨rfl, rfl⟩]) r3
    have g3 : snG E (pk! S (10 * d + p) (v, rtR m 3)) := by
      have px := newP.px (d := d) sn tG hd hp
      rw [hn] at good px
      exact sn.pick (by rw [m10]; exact good.1) good.2 (by rw [m10]; exact px)
    have F4 : mF lER w μ m3 := (F0.up (A_161 hw) mUp_ok rfl).call F3 rfl
    refine X12_lookL_s hw (ev.fr hw F4) (gG.fr hG fun b i q1 q2 q3 => all b i (by omega) (by omega)) gG s3 g3 ti tG pa hp hM fun m4 s4 g4 l4 => k m4 ?_ g4 fun i hi => ?_
    · rw [lookE.new hne, hn]; exact s4
    · rw [l4 i hi, all 126 i (by omega) (by omega)]
      exact fr.lo i hi
  refine ⟨fun c m2 u2 T2 => ?_, fun c => ?_⟩
  · obtain rfl := u2.is
    refine X12_copy_s (by omega) (by omega) (by omega) (T2.rb hw (by omega)).1.2 (T2.rb hw (by omega)).2.2 fun m3 r3 _ o3 T3 F3 x3 _ => go (fun q => c ?_) m3 r3 o3 F3
    rw [e78', ← q, hn]
  · refine X12_same_s (T.rb hw (by omega)).1 (T.rb hw (by omega)).1.1 (T.rb hw (by omega)).2 (T.rb hw (by omega)).2.1 fun y hy ry => ⟨fun c2 m2 u2 T2 => ?_, fun c2 => ?_⟩
    · obtain rfl := u2.is
      refine X12_copy_s (by omega) (by omega) (by omega) (T2.rb hw (by omega)).1.2 (T2.rb hw (by omega)).2.2 fun m3 r3 _ o3 T3 F3 x3 _ => go (fun q => ?_) m3 r3 o3 F3
      have : y = 1 := hy.mpr (by rw [rp, ← q, hn])
      omega
    · have e := hy.mp (by omega)
      refine k m ?_ hG fr.lo
      rw [lookE.same]
      · exact sm
      · rw [hn, e, rp, c, e78']
theorem X12_look_s {Q : mM → Prop} (hw : mWF w) (hT : mT w μ) (ev : envR w μ E G) (hG : G μ) (gG : gSt G) (st : snR μ E S) (sn : snG E S) (ti : tiG E) (tG : thG E) (pa : paG E) (hd : d < eD E) (hp : p < 10) (hM : 0 ≤ sMd S ∧ sMd S + 20 < 2147483647)
    (k : ∀ m : mM, snR m E (lookE E S (d : Int) p) → G m → loR μ m → Q m) : WP_X12_look_W w μ (d : Int) (p : Int) Q := by
  have t20 := ti.2.2.1
  intro z1 e1 r1
  have eo : eOw E (10 * d + p) = z1 := by
    rw [← (ev.2.2.2.2.1 d (Or.inl hd)).1 p hp, ← e1, show (10 * (d : Int) + (p : Int)).toNat = 10 * d + p by omega]
  have ho : eOw E (10 * d + p) ≤ 2 := by omega
  refine ⟨fun c n en hn => ?_, fun c m1 u1 T1 m2 u2 T2 m3 u3 T3 m4 u4 T4 m5 u5 T5 m6 u6 T6 => ?_⟩
  · have hN : ¬ 0 ≤ eOw E (10 * d + p) := by omega
    refine X12_pick_s hw hT ev hG gG st sn ti tG hd hp fun z m g fr hz T F rz => ⟨fun q x ex hx => ?_, fun q => ?_⟩
    · rcases hz with ⟨hz, _⟩ | ⟨t, cd, e2, ht, hr, hz⟩
      · exact absurd hz q
      refine X12_copy_s (by omega) (by omega) (by omega) (T.rb hw (by omega)).1.2 (T.rb hw (by omega)).2.2 fun m2 r2 _ o2 T2 F2 x2 _ => ?_
      refine X12_lookJ_s hw hT ev (gG.fr g fun b i q1 q2 q3 => o2 b i (by omega)) gG st sn ti tG pa hd hp ho hM (fun b i h1 h2 h3 h4 h5 h6 => (o2 b i (by omega)).trans (fr b i h1 h2 h3 h4 h5 h6)) ?_ k
      have c1 := (cdE.ptn hr.1).1
      rw [newP.yes hN hz, r2, e2, hr.2, c1]
    · rcases hz with ⟨_, hz⟩ | ⟨t, cd, e2, _⟩
      · refine X12_nothing_s (by omega) fun m2 r2 o2 T2 F2 x2 _ => ?_
        rw [q]
        refine X12_lookJ_s hw hT ev (gG.fr g fun b i q1 q2 q3 => o2 b i (by omega)) gG st sn ti tG pa hd hp ho hM (fun b i h1 h2 h3 h4 h5 h6 => (o2 b i (by omega)).trans (fr b i h1 h2 h3 h4 h5 h6)) ?_ k
        rw [newP.no hN hz, r2]
      · omega
  · obtain rfl := u1.is
    obtain rfl := u2.is
    obtain rfl := u3.is
    obtain rfl := u4.is
    obtain rfl := u5.is
    obtain rfl := u6.is
    have hP : 0 ≤ eOw E (10 * d + p) := by omega
    have f6 : ∀ (b i : Nat), ¬ (b = 126 ∧ 120 ≤ i ∧ i ≤ 125) → mUp (mUp (mUp (mUp (mUp (mUp μ 126 120 (p : Int)) 126 121 100) 126 122 z1) 126 123 0) 126 124 0) 126 125 0 b i = μ b i := fun b i q => by
      rw [mUp.no (by omega), mUp.no (by omega), mUp.no (by omega), mUp.no (by omega), mUp.no (by omega), mUp.no (by omega)]
    refine X12_lookJ_s hw hT ev (gG.fr hG fun b i q1 q2 q3 => f6 b i (by omega)) gG st sn ti tG pa hd hp ho hM (fun b i h1 h2 h3 h4 h5 h6 => f6 b i (by omega)) ?_ k
    rw [newP.own hP, eo]
    have e0 : rtR (mUp (mUp (mUp (mUp (mUp (mUp μ 126 120 (p : Int)) 126 121 100) 126 122 z1) 126 123 0) 126 124 0) 126 125 0) 3 = some ((p : Int), 100, z1, 0, [], []) := by
      have a0 : mUp (mUp (mUp (mUp (mUp (mUp μ 126 120 (p : Int)) 126 121 100) 126 122 z1) 126 123 0) 126 124 0) 126 125 0 126 120 = (p : Int) := by rw [mUp.no (by omega), mUp.no (by omega), mUp.no (by omega), mUp.no (by omega), mUp.no (by omega), mUp.yes ⟨rfl, rfl⟩]
      have a1 : mUp (mUp (mUp (mUp (mUp (mUp μ 126 120 (p : Int)) 126 121 100) 126 122 z1) 126 123 0) 126 124 0) 126 125 0 126 121 = 100 := by rw [mUp.no (by omega), mUp.no (by omega), mUp.no (by omega), mUp.no (by omega), mUp.yes ⟨rfl, rfl⟩]
      have a2 : mUp (mUp (mUp (mUp (mUp (mUp μ 126 120 (p : Int)) 126 121 100) 126 122 z1) 126 123 0) 126 124 0) 126 125 0 126 122 = z1 := by rw [mUp.no (by omega), mUp.no (by omega), mUp.no (by omega), mUp.yes ⟨rfl, rfl⟩]
      have a3 : mUp (mUp (mUp (mUp (mUp (mUp μ 126 120 (p : Int)) 126 121 100) 126 122 z1) 126 123 0) 126 124 0) 126 125 0 126 123 = 0 := by rw [mUp.no (by omega), mUp.no (by omega), mUp.yes ⟨rfl, rfl⟩]
      have a4 : mUp (mUp (mUp (mUp (mUp (mUp μ 126 120 (p : Int)) 126 121 100) 126 122 z1) 126 123 0) 126 124 0) 126 125 0 126 124 = 0 := by rw [mUp.no (by omega), mUp.yes ⟨rfl, rfl⟩]
      have a5 : mUp (mUp (mUp (mUp (mUp (mUp μ 126 120 (p : Int)) 126 121 100) 126 122 z1) 126 123 0) 126 124 0) 126 125 0 126 125 = 0 := by rw [mUp.yes ⟨rfl, rfl⟩]
      rw [rtR.the (r := 3) (by
        show ¬ mUp (mUp (mUp (mUp (mUp (mUp μ 126 120 (p : Int)) 126 121 100) 126 122 z1) 126 123 0) 126 124 0) 126 125 0 126 120 < 0
        rw [a0]
        omega)]
      show some (mUp (mUp (mUp (mUp (mUp (mUp μ 126 120 (p : Int)) 126 121 100) 126 122 z1) 126 123 0) 126 124 0) 126 125 0 126 120, mUp (mUp (mUp (mUp (mUp (mUp μ 126 120 (p : Int)) 126 121 100) 126 122 z1) 126 123 0) 126 124 0) 126 125 0 126 121, mUp (mUp (mUp (mUp (mUp (mUp μ 126 120 (p : Int)) 126 121 100) 126 122 z1) 126 123 0) 126 124 0) 126 125 0 126 122, mUp (mUp (mUp (mUp (mUp (mUp μ 126 120 (p : Int)) 126 121 100) 126 122 z1) 126 123 0) 126 124 0) 126 125 0 126 123, rowL _ (mUp (mUp (mUp (mUp (mUp (mUp μ 126 120 (p : Int)) 126 121 100) 126 122 z1) 126 123 0) 126 124 0) 126 125 0 126 124).toNat, rowL _ (mUp (mUp (mUp (mUp (mUp (mUp μ 126 120 (p : Int)) 126 121 100) 126 122 z1) 126 123 0) 126 124 0) 126 125 0 126 125).toNat) = _
      rw [a0, a1, a2, a3, a4, a5]
      rfl
    exact congrArg _ e0.symm
end LookR
end
section
/-! All prefixes, all domains: the class. -/
theorem forN.inv {α : Type} {f : Nat → α → α} {a : α} {n : Nat} (P : Nat → α → Prop) (h0 : P 0 a) (hs : ∀ i x, i < n → P i x → P (i + 1) (f i x)) : ∀ k, k ≤ n → P k (forN f k a) := by
  intro k
  induction k with
  | zero => exact fun _ => h0
  | succ k ih => exact fun h => hs k _ (by omega) (ih (by omega))
/-- domains that aren't there: they begin nothing, their steps are those of a new one -/
def ubE (E : En) : Prop := ∀ d, eD E ≤ d → (∀ p, p < 10 → eOw E (10 * d + p) = -1) ∧ eSt E d = [1, 2, 3, 4, 5] ∧ eGr E d = 0
def owG (E : En) : Prop := (∀ d p, d < eD E → p < 10 → eOw E (10 * d + p) ≤ 2) ∧ ubE E
/-- beyond what is there, all stays -/
def uS (E : En) (S T : Sn) : Prop := (∀ k, 20 * eT E ≤ k → sHd T k = sHd S k ∧ sSd T k = sSd S k) ∧ ∀ k, 10 * eD E ≤ k → sPk T k = sPk S k
theorem uS.refl {E : En} {S : Sn} : uS E S S := ⟨fun _ _ => ⟨rfl, rfl⟩, fun _ _ => rfl⟩
theorem uS.trans {E : En} {S T U : Sn} (h : uS E S T) (g : uS E T U) : uS E S U := ⟨fun k hk => ⟨(g.1 k hk).1.trans (h.1 k hk).1, (g.1 k hk).2.trans (h.1 k hk).2⟩, fun k hk => (g.2 k hk).trans (h.2 k hk)⟩
def ubS (E : En) (S : Sn) : Prop := (∀ k, 20 * eT E ≤ k → sHd S k = none ∧ sSd S k = (none, -1)) ∧ ∀ k, 10 * eD E ≤ k → sPk S k = (-99999999, none)
theorem ubS.go {E : En} {S T : Sn} (h : ubS E S) (g : uS E S T) : ubS E T := ⟨fun k hk => ⟨(g.1 k hk).1.trans (h.1 k hk).1, (g.1 k hk).2.trans (h.1 k hk).2⟩, fun k hk => (g.2 k hk).trans (h.2 k hk)⟩
theorem sayE.us {E : En} {S : Sn} {t s p : Nat} (ht : t < eT E) (hs : s < 2) (hp : p < 10) : uS E S (sayE E S t s p) := by
  have sb : slt t s p < 20 * eT E := by unfold slt; omega
  unfold sayE
  by_cases hu : eU E t = 0
  · rw [if_pos hu]; exact uS.refl
  · rw [if_neg hu]
    by_cases ho : outE E S t s p = (sSd S (slt t s p)).1
    · rw [cIf.pos ho]; exact uS.refl
    · rw [cIf.neg ho]
      split
      · by_cases hx : ∃ m, (m, 2 * slt t s p + 1) ∈ sQu S
        · rw [cIf.pos hx]; exact uS.refl
        · rw [cIf.neg hx]; exact ⟨fun _ _ => ⟨rfl, rfl⟩, fun _ _ => rfl⟩
      · exact ⟨fun k hk => ⟨rfl, if_neg (by omega)⟩, fun _ _ => rfl⟩
theorem sayD.us {E : En} {S : Sn} {d : Int} {t p : Nat} (ht : t < eT E) (hp : p < 10) : uS E S (sayD E d p t S) := by
  unfold sayD
  by_cases c : sdE E d t < 0
  · rw [if_pos c]; exact uS.refl
  · rw [if_neg c]
    obtain ⟨s, h1, h2, _⟩ := sdE.side c
    rw [h1, Int.toNat_natCast]
    exact sayE.us ht h2 hp
theorem lookE.us {E : En} {S : Sn} {d p : Nat} (hd : d < eD E) (hp : p < 10) : uS E S (lookE E S (d : Int) p) := by
  by_cases c : newP E S (d : Int) p = sPk S (10 * d + p)
  · rw [lookE.same c]; exact uS.refl
  · rw [lookE.new c]
    have g : uS E S (pk! S (10 * d + p) (newP E S (d : Int) p)) := ⟨fun _ _ => ⟨rfl, rfl⟩, fun k hk => if_neg (by omega)⟩
    exact forN.inv (n := eT E) (fun _ T => uS E S T) g (fun i x hi h => h.trans (sayD.us hi hp)) (eT E) (Nat.le_refl _)
def enG (E : En) : Prop := tiG E ∧ thG E ∧ paG E ∧ owG E
/-- in order, and not too many events were made -/
def mdG (E : En) (S : Sn) (n : Int) (T : Sn) : Prop := snG E T ∧ sMd S ≤ sMd T ∧ sMd T ≤ sMd S + n ∧ uS E S T
theorem mdG.refl {E : En} {S : Sn} (h : snG E S) : mdG E S 0 S := ⟨h, Int.le_refl _, by omega, uS.refl⟩
theorem mdG.trans {E : En} {S T U : Sn} {a b : Int} (h : mdG E S a T) (k : mdG E T b U) : mdG E S (a + b) U := ⟨k.1, Int.le_trans h.2.1 k.2.1, by have := h.2.2.1; have := k.2.2.1; omega, h.2.2.2.trans k.2.2.2⟩
theorem mdG.le {E : En} {S T : Sn} {a b : Int} (h : mdG E S a T) (hab : a ≤ b) : mdG E S b T := ⟨h.1, h.2.1, by have := h.2.2.1; omega, h.2.2.2⟩
theorem sayE.cn {E : En} {S : Sn} {t s p : Nat} (sn : snG E S) (en : enG E) (ht : t < eT E) (hs : s < 2) (hp : p < 10) : mdG E S 1 (sayE E S t s p) := ⟨sayE.sn sn en.2.1 en.2.2.1 ht hs hp, sayE.md.1, sayE.md.2, sayE.us ht hs hp⟩
theorem lookE.cn {E : En} {S : Sn} {d p : Nat} (sn : snG E S) (en : enG E) (hd : d < eD E) (hp : p < 10) : mdG E S 20 (lookE E S (d : Int) p) := by
  have h := lookE.sn (d := d) sn en.2.1 en.2.2.1 hd hp (en.2.2.2.1 d p hd hp)
  have t := en.1.2.2.1
  exact ⟨h.1, h.2.1, by have := h.2.2; omega, lookE.us hd hp⟩
theorem lookA.mdN {E : En} {S : Sn} {d : Nat} (sn : snG E S) (en : enG E) (hd : d < eD E) (n : Nat) (hn : n ≤ 10) : mdG E S (20 * (n : Int)) (forN (fun p S => lookE E S (d : Int) p) n S) :=
  forN.inv (n := 10) (fun k T => mdG E S (20 * (k : Int)) T) ((mdG.refl sn).le (by omega)) (fun i x hi h => (h.trans (lookE.cn h.1 en hd hi)).le (by omega)) n hn
theorem sayA.mdN {E : En} {S : Sn} {t s : Nat} (sn : snG E S) (en : enG E) (ht : t < eT E) (hs : s < 2) (n : Nat) (hn : n ≤ 10) : mdG E S (n : Int) (forN (fun p S => sayE E S t s p) n S) :=
  forN.inv (n := 10) (fun k T => mdG E S (k : Int) T) (mdG.refl sn) (fun i x hi h => (h.trans (sayE.cn h.1 en ht hs hi)).le (by omega)) n hn
theorem lookA.cn {E : En} {S : Sn} {d : Nat} (sn : snG E S) (en : enG E) (hd : d < eD E) : mdG E S 200 (lookA E S (d : Int)) := (lookA.mdN sn en hd (eP E) en.1.2.2.2.2).le (by have := en.1.2.2.2.2; omega)
theorem sayA.cn {E : En} {S : Sn} {t s : Nat} (sn : snG E S) (en : enG E) (ht : t < eT E) (hs : s < 2) : mdG E S 10 (sayA E S t s) := (sayA.mdN sn en ht hs (eP E) en.1.2.2.2.2).le (by have := en.1.2.2.2.2; omega)
/-- what a domain says over a tie -/
noncomputable def sayT (E : En) (d : Int) (t : Nat) (S : Sn) : Sn := if sdE E d t < 0 then S else sayA E S t (sdE E d t).toNat
theorem sayT.cn {E : En} {S : Sn} {d : Int} {t : Nat} (sn : snG E S) (en : enG E) (ht : t < eT E) : mdG E S 10 (sayT E d t S) := by
  unfold sayT
  by_cases c : sdE E d t < 0
  · rw [if_pos c]; exact (mdG.refl sn).le (by omega)
  · rw [if_neg c]
    obtain ⟨s, h1, h2, _⟩ := sdE.side c
    rw [h1, Int.toNat_natCast]
    exact sayA.cn sn en ht h2
theorem sayT.mdN {E : En} {S : Sn} {d : Int} (sn : snG E S) (en : enG E) (n : Nat) (hn : n ≤ eT E) : mdG E S (10 * (n : Int)) (forN (sayT E d) n S) :=
  forN.inv (n := eT E) (fun k T => mdG E S (10 * (k : Int)) T) ((mdG.refl sn).le (by omega)) (fun i x hi h => (h.trans (sayT.cn h.1 en hi)).le (by omega)) n hn
theorem lookAA.mdN {E : En} {S : Sn} (sn : snG E S) (en : enG E) (n : Nat) (hn : n ≤ eD E) : mdG E S (200 * (n : Int)) (forN (fun d S => lookA E S (d : Int)) n S) :=
  forN.inv (n := eD E) (fun k T => mdG E S (200 * (k : Int)) T) ((mdG.refl sn).le (by omega)) (fun i x hi h => (h.trans (lookA.cn h.1 en hi)).le (by omega)) n hn
theorem sayTT.mdN {E : En} {S : Sn} (sn : snG E S) (en : enG E) (n : Nat) (hn : n ≤ eD E) : mdG E S (200 * (n : Int)) (forN (fun d S => forN (sayT E (d : Int)) (eT E) S) n S) :=
  forN.inv (n := eD E) (fun k T => mdG E S (200 * (k : Int)) T) ((mdG.refl sn).le (by omega)) (fun i x hi h => (h.trans (sayT.mdN h.1 en (eT E) (Nat.le_refl _))).le (by have := en.1.2.2.1; omega)) n hn
theorem anew.eq {E : En} {S : Sn} : anew E S = forN (fun d S => forN (sayT E (d : Int)) (eT E) S) (eD E) (forN (fun d S => lookA E S (d : Int)) (eD E) S) := rfl
theorem anew.cn {E : En} {S : Sn} (sn : snG E S) (en : enG E) : mdG E S 4000 (anew E S) := by
  have d10 := en.1.2.2.2.1
  have a := lookAA.mdN sn en (eD E) (Nat.le_refl _)
  have b := sayTT.mdN a.1 en (eD E) (Nat.le_refl _)
  exact (a.trans b).le (by omega)
section AllC
variable {w : mW} {μ : mM} {E : En} {S : Sn}
theorem X8_lookAtAll_s {d : Nat} {Q : mM → Prop} (hw : mWF w) (hT : mT w μ) (ev : envC w μ E) (st : snC μ E S) (sn : snG E S) (en : enG E) (hd : d < eD E)
    (k : ∀ m : mM, snC m E (lookA E S (d : Int)) → loC μ m → Q m) : WP_X8_lookAtAll_W w μ (d : Int) Q := by
  have p10 := en.1.2.2.2.2
  refine loopF.im (fun z m => 0 ≤ z ∧ z ≤ (eP E : Int) ∧ loC μ m ∧ snC m E (forN (fun p S => lookE E S (d : Int) p) z.toNat S)) (fun z => (11 - z).toNat) ⟨by omega, by omega, fun _ _ _ _ _ _ _ _ _ => rfl, st⟩ (by omega) ?_
  rintro rc z m ⟨z0, z1, lo, hs⟩ ih z' m' e hz T F n en' hn
  cases e
  have evm := envC.fr hw hT ev (mF.refl.call F rfl)
  rw [evm.2.1] at en'
  subst en'
  refine ⟨fun g => k m (by unfold lookA; rw [show eP E = z.toNat by omega]; exact hs) lo, fun g => ?_⟩
  have snm := (lookA.mdN (d := d) sn en hd z.toNat (by omega)).1
  have key : ∀ L : List Nat, WP_X8_look_W w m (d : Int) ((z.toNat : Nat) : Int) (fun m2 => mT w m2 → mF L w m m2 → rc (z + 1, m2)) := fun L => X8_look_s hw T evm hs snm en.1 en.2.1 en.2.2.1 hd (by omega) fun m2 s2 l2 _ _ => ih _ _ ⟨by omega, by omega, lo.trans l2, by rw [show (z + 1).toNat = z.toNat + 1 by omega]; exact s2⟩ (by omega)
  rw [Int.toNat_of_nonneg z0] at key
  exact key _
theorem X8_sayAll_s {t s : Nat} {Q : mM → Prop} (hw : mWF w) (hT : mT w μ) (ev : envC w μ E) (st : snC μ E S) (sn : snG E S) (en : enG E) (ht : t < eT E) (hs2 : s < 2)
    (k : ∀ m : mM, snC m E (sayA E S t s) → loC μ m → Q m) : WP_X8_sayAll_W w μ (t : Int) (s : Int) Q := by
  have p10 := en.1.2.2.2.2
  refine loopF.im (fun z m => 0 ≤ z ∧ z ≤ (eP E : Int) ∧ loC μ m ∧ snC m E (forN (fun p S => sayE E S t s p) z.toNat S)) (fun z => (11 - z).toNat) ⟨by omega, by omega, fun _ _ _ _ _ _ _ _ _ => rfl, st⟩ (by omega) ?_
  rintro rc z m ⟨z0, z1, lo, hs⟩ ih z' m' e hz T F n en' hn
  cases e
  have evm := envC.fr hw hT ev (mF.refl.call F rfl)
  rw [evm.2.1] at en'
  subst en'
  refine ⟨fun g => k m (by unfold sayA; rw [show eP E = z.toNat by omega]; exact hs) lo, fun g => ?_⟩
  have snm := (sayA.mdN sn en ht hs2 z.toNat (by omega)).1
  have key : ∀ L : List Nat, WP_X8_say_W w m (t : Int) (s : Int) ((z.toNat : Nat) : Int) (fun m2 => mT w m2 → mF L w m m2 → rc (z + 1, m2)) := fun L => X8_say_s hw T evm hs snm en.1 en.2.1 ht hs2 (by omega) (en.2.2.1 t ht) snm.2.2.2.2.2.2.2.1 fun m2 s2 l2 _ _ => ih _ _ ⟨by omega, by omega, lo.trans l2, by rw [show (z + 1).toNat = z.toNat + 1 by omega]; exact s2⟩ (by omega)
  rw [Int.toNat_of_nonneg z0] at key
  exact key _
theorem X8_tellAllAnew_s {Q : mM → Prop} (hw : mWF w) (hT : mT w μ) (ev : envC w μ E) (st : snC μ E S) (sn : snG E S) (en : enG E)
    (k : ∀ m : mM, snC m E (anew E S) → loC μ m → Q m) : WP_X8_tellAllAnew_W w μ Q := by
  have p10 := en.1.2.2.2.2
  have d10 := en.1.2.2.2.1
  have t20 := en.1.2.2.1
  refine loopF.im (fun z m => 0 ≤ z ∧ z ≤ (eD E : Int) ∧ loC μ m ∧ snC m E (forN (fun d S => lookA E S (d : Int)) z.toNat S)) (fun z => (11 - z).toNat) ⟨by omega, by omega, fun _ _ _ _ _ _ _ _ _ => rfl, st⟩ (by omega) ?_
  rintro rc z m ⟨z0, z1, lo, hs⟩ ih z' m' e hz T F n en' hn
  cases e
  have evm := envC.fr hw hT ev (mF.refl.call F rfl)
  rw [evm.2.2.1] at en'
  subst en'
  have snm := (lookAA.mdN sn en z.toNat (by omega)).1
  refine ⟨fun g => ?_, fun g => ?_⟩
  · -- then all say
    rw [show z.toNat = eD E by omega] at hs snm
    refine loopF.im (fun y q => 0 ≤ y ∧ y ≤ (eD E : Int) ∧ loC m q ∧ snC q E (forN (fun d S => forN (sayT E (d : Int)) (eT E) S) y.toNat (forN (fun d S => lookA E S (d : Int)) (eD E) S))) (fun y => (11 - y).toNat) ⟨by omega, by omega, fun _ _ _ _ _ _ _ _ _ => rfl, hs⟩ (by omega) ?_
    rintro rc2 y q ⟨y0, y1, lo2, hs2⟩ ih2 y' q' e hy T2 F2
    cases e
    have ev2 := envC.fr hw T evm (mF.refl.call F2 rfl)
    have sn2 := (sayTT.mdN snm en y.toNat (by omega)).1
    refine ⟨fun g2 => k q (by rw [anew.eq]; rw [show y.toNat = eD E by omega] at hs2; exact hs2) (lo.trans lo2), fun g2 => ?_⟩
    refine loopF.im (fun x r => 0 ≤ x ∧ x ≤ (eT E : Int) ∧ loC q r ∧ snC r E (forN (sayT E ((y.toNat : Nat) : Int)) x.toNat (forN (fun d S => forN (sayT E (d : Int)) (eT E) S) y.toNat (forN (fun d S => lookA E S (d : Int)) (eD E) S)))) (fun x => (21 - x).toNat) ⟨by omega, by omega, fun _ _ _ _ _ _ _ _ _ => rfl, hs2⟩ (by omega) ?_
    rintro rc3 x r ⟨x0, x1, lo3, hs3⟩ ih3 x' r' e hx T3 F3 n3 en3 hn3
    cases e
    have ev3 := envC.fr hw T2 ev2 (mF.refl.call F3 rfl)
    rw [ev3.1] at en3
    subst en3
    have sn3 := (sayT.mdN (d := ((y.toNat : Nat) : Int)) sn2 en x.toNat (by omega)).1
    refine ⟨fun g3 => ih2 _ _ ⟨by omega, by omega, lo2.trans lo3, ?_⟩ (by omega), fun g3 b eb hb => ?_⟩
    · rw [show (y + 1).toNat = y.toNat + 1 by omega]
      rw [show x.toNat = eT E by omega] at hs3
      exact hs3
    have xt : x.toNat < eT E := by omega
    have yc : ((y.toNat : Nat) : Int) = y := by omega
    obtain ⟨a1, a2, _⟩ := ev3.2.2.2.2.1 x.toNat xt
    have eb' : b = tbA r x.toNat := by
      have t1 := (ev3.2.2.2.1.1 x.toNat xt).1
      omega
    subst eb'
    refine X9_sideOf_s ?_
    rw [a1, a2]
    have es : sdI (eA E x.toNat) (eB E x.toNat) y = sdE E ((y.toNat : Nat) : Int) x.toNat := by rw [yc]; rfl
    rw [es]
    intro rs
    have x2 : (x + 1).toNat = x.toNat + 1 := by omega
    refine ⟨fun c => ih3 _ _ ⟨by omega, by omega, lo3, ?_⟩ (by omega), fun c => ?_⟩
    · rw [x2]
      show snC r E (sayT E ((y.toNat : Nat) : Int) x.toNat _)
      unfold sayT
      rw [if_pos c]
      exact hs3
    obtain ⟨s, hs1, hss, _⟩ := sdE.side (show ¬ sdE E ((y.toNat : Nat) : Int) x.toNat < 0 by omega)
    have key : ∀ L : List Nat, WP_X8_sayAll_W w r ((x.toNat : Nat) : Int) (s : Int) (fun m2 => mT w m2 → mF L w r m2 → rc3 (x + 1, m2)) := fun L => X8_sayAll_s hw T3 ev3 hs3 sn3 en xt hss fun m2 s2 l2 _ _ => ih3 _ _ ⟨by omega, by omega, lo3.trans l2, by
      rw [x2]
      show snC m2 E (sayT E ((y.toNat : Nat) : Int) x.toNat _)
      unfold sayT
      rw [if_neg (by omega), hs1, Int.toNat_natCast]
      exact s2⟩ (by omega)
    rw [Int.toNat_of_nonneg x0, ← hs1] at key
    exact key _
  · -- a domain looks
    refine loopF.im (fun y q => 0 ≤ y ∧ y ≤ (eP E : Int) ∧ loC m q ∧ snC q E (forN (fun p S => lookE E S ((z.toNat : Nat) : Int) p) y.toNat (forN (fun d S => lookA E S (d : Int)) z.toNat S))) (fun y => (11 - y).toNat) ⟨by omega, by omega, fun _ _ _ _ _ _ _ _ _ => rfl, hs⟩ (by omega) ?_
    rintro rc2 y q ⟨y0, y1, lo2, hs2⟩ ih2 y' q' e hy T2 F2 n2 en2 hn2
    cases e
    have ev2 := envC.fr hw T evm (mF.refl.call F2 rfl)
    rw [ev2.2.1] at en2
    subst en2
    have sn2 := (lookA.mdN (d := z.toNat) snm en (by omega) y.toNat (by omega)).1
    refine ⟨fun g2 => ih _ _ ⟨by omega, by omega, lo.trans lo2, ?_⟩ (by omega), fun g2 => ?_⟩
    · rw [show (z + 1).toNat = z.toNat + 1 by omega]
      show snC q E (lookA E (forN (fun d S => lookA E S (d : Int)) z.toNat S) ((z.toNat : Nat) : Int))
      unfold lookA
      rw [show y.toNat = eP E by omega] at hs2
      exact hs2
    · have key : ∀ L : List Nat, WP_X8_look_W w q ((z.toNat : Nat) : Int) ((y.toNat : Nat) : Int) (fun m2 => mT w m2 → mF L w q m2 → rc2 (y + 1, m2)) := fun L => X8_look_s hw T2 ev2 hs2 sn2 en.1 en.2.1 en.2.2.1 (by omega) (by omega) fun m2 s2 l2 _ _ => ih2 _ _ ⟨by omega, by omega, lo2.trans l2, by rw [show (y + 1).toNat = y.toNat + 1 by omega]; exact s2⟩ (by omega)
      rw [Int.toNat_of_nonneg z0, Int.toNat_of_nonneg y0] at key
      exact key _
end AllC
end
section
/-! All prefixes, all domains: the reference. -/
section AllR
variable {w : mW} {μ : mM} {E : En} {S : Sn} {G : mM → Prop}
theorem loR.trans {m n : mM} (h : loR μ m) (k : loR m n) : loR μ n := fun i hi => (k i hi).trans (h i hi)
theorem X12_lookAll_s {d : Nat} {Q : mM → Prop} (hw : mWF w) (ev : envR w μ E G) (hG : G μ) (gG : gSt G) (st : snR μ E S) (sn : snG E S) (en : enG E) (hd : d < eD E) (hM : 0 ≤ sMd S ∧ sMd S + 200 < 2147483647)
    (k : ∀ m : mM, snR m E (lookA E S (d : Int)) → G m → loR μ m → Q m) : WP_X12_lookAll_W w μ (d : Int) Q := by
  have p10 := en.1.2.2.2.2
  refine loopF.im (fun z m => 0 ≤ z ∧ z ≤ (eP E : Int) ∧ G m ∧ loR μ m ∧ snR m E (forN (fun p S => lookE E S (d : Int) p) z.toNat S)) (fun z => (11 - z).toNat) ⟨by omega, by omega, hG, fun _ _ => rfl, st⟩ (by omega) ?_
  rintro rc z m ⟨z0, z1, gm, lo, hs⟩ ih z' m' e hz T F n en' hn
  cases e
  have evm := ev.fr hw (mF.refl.call F rfl)
  rw [evm.2.1] at en'
  subst en'
  refine ⟨fun g => k m (by unfold lookA; rw [show eP E = z.toNat by omega]; exact hs) gm lo, fun g => ?_⟩
  have snm := lookA.mdN (d := d) sn en hd z.toNat (by omega)
  have m1 := snm.2.1
  have m2 := snm.2.2
  have key : ∀ L : List Nat, WP_X12_look_W w m (d : Int) ((z.toNat : Nat) : Int) (fun m2 => mT w m2 → mF L w m m2 → rc (z + 1, m2)) := fun L => X12_look_s hw T evm gm gG hs snm.1 en.1 en.2.1 en.2.2.1 hd (by omega) (by omega) fun m2 s2 g2 l2 _ _ => ih _ _ ⟨by omega, by omega, g2, lo.trans l2, by rw [show (z + 1).toNat = z.toNat + 1 by omega]; exact s2⟩ (by omega)
  rw [Int.toNat_of_nonneg z0] at key
  exact key _
theorem sayA.down {t s : Nat} (h : eU E t = 0) : ∀ n, forN (fun p S => sayE E S t s p) n S = S := by
  intro n
  induction n with
  | zero => rfl
  | succ n ih =>
    show sayE E (forN (fun p S => sayE E S t s p) n S) t s n = S
    rw [ih]
    unfold sayE
    rw [if_pos h]
theorem X12_sayAll_s {t s : Nat} {d : Int} {Q : mM → Prop} (hw : mWF w) (ev : envR w μ E G) (hG : G μ) (gG : gSt G) (st : snR μ E S) (sn : snG E S) (en : enG E) (ht : t < eT E) (hs2 : s < 2) (hd : d = eN E t s) (hM : 0 ≤ sMd S ∧ sMd S + 10 < 2147483647)
    (k : ∀ m : mM, snR m E (sayA E S t s) → G m → loR μ m → Q m) : WP_X12_sayAll_W w μ d (t : Int) Q := by
  have p10 := en.1.2.2.2.2
  intro e0 _ _ e1 _ _ n0 _ _
  refine loopF.im (fun z m => 0 ≤ z ∧ z ≤ (eP E : Int) ∧ G m ∧ loR μ m ∧ snR m E (forN (fun p S => sayE E S t s p) z.toNat S)) (fun z => (11 - z).toNat) ⟨by omega, by omega, hG, fun _ _ => rfl, st⟩ (by omega) ?_
  rintro rc z m ⟨z0, z1, gm, lo, hs⟩ ih z' m' e hz T F n en' hn
  cases e
  have evm := ev.fr hw (mF.refl.call F rfl)
  rw [evm.2.1] at en'
  subst en'
  refine ⟨fun g => k m (by unfold sayA; rw [show eP E = z.toNat by omega]; exact hs) gm lo, fun g u eu hu => ?_⟩
  have a3 := (evm.2.2.2.1 t ht).2.2.1
  have eu' : eU E t = u := by
    rw [← eu, ← a3]
    rfl
  have snm := sayA.mdN sn en ht hs2 z.toNat (by omega)
  have m1 := snm.2.1
  have m2 := snm.2.2
  refine ⟨fun q => k m ?_ gm lo, fun q => ?_⟩
  · unfold sayA
    rw [sayA.down (eu'.trans q)]
    rw [sayA.down (eu'.trans q)] at hs
    exact hs
  · have key : ∀ L : List Nat, WP_X12_say_W w m d (t : Int) ((z.toNat : Nat) : Int) (fun m2 => mT w m2 → mF L w m m2 → rc (z + 1, m2)) := fun L => X12_say_s hw T evm gm gG hs snm.1 en.1 ht hs2 hd (by omega) (by rw [eu']; exact q) (by omega) en.2.1 fun m2 s2 g2 l2 _ _ => ih _ _ ⟨by omega, by omega, g2, lo.trans l2, by rw [show (z + 1).toNat = z.toNat + 1 by omega]; exact s2⟩ (by omega)
    rw [Int.toNat_of_nonneg z0] at key
    exact key _
theorem X12_rethink_s {Q : mM → Prop} (hw : mWF w) (ev : envR w μ E G) (hG : G μ) (gG : gSt G) (st : snR μ E S) (sn : snG E S) (en : enG E) (hM : 0 ≤ sMd S ∧ sMd S + 4200 < 2147483647)
    (k : ∀ m : mM, snR m E (anew E S) → G m → loR μ m → Q m) : WP_X12_rethink_W w μ Q := by
  have p10 := en.1.2.2.2.2
  have d10 := en.1.2.2.2.1
  have t20 := en.1.2.2.1
  refine loopF.im (fun z m => 0 ≤ z ∧ z ≤ (eD E : Int) ∧ G m ∧ loR μ m ∧ snR m E (forN (fun d S => lookA E S (d : Int)) z.toNat S)) (fun z => (11 - z).toNat) ⟨by omega, by omega, hG, fun _ _ => rfl, st⟩ (by omega) ?_
  rintro rc z m ⟨z0, z1, gm, lo, hs⟩ ih z' m' e hz T F n en' hn
  cases e
  have evm := ev.fr hw (mF.refl.call F rfl)
  rw [evm.2.2.1] at en'
  subst en'
  have snm := lookAA.mdN sn en z.toNat (by omega)
  have ma := snm.2.1
  have mb := snm.2.2
  refine ⟨fun g => ?_, fun g => ?_⟩
  · rw [show z.toNat = eD E by omega] at hs snm ma mb
    refine loopF.im (fun y q => 0 ≤ y ∧ y ≤ (eD E : Int) ∧ G q ∧ loR m q ∧ snR q E (forN (fun d S => forN (sayT E (d : Int)) (eT E) S) y.toNat (forN (fun d S => lookA E S (d : Int)) (eD E) S))) (fun y => (11 - y).toNat) ⟨by omega, by omega, gm, fun _ _ => rfl, hs⟩ (by omega) ?_
    rintro rc2 y q ⟨y0, y1, gq, lo2, hs2⟩ ih2 y' q' e hy T2 F2
    cases e
    have ev2 := evm.fr hw (mF.refl.call F2 rfl)
    have sn2 := sayTT.mdN snm.1 en y.toNat (by omega)
    have mc := sn2.2.1
    have md := sn2.2.2
    refine ⟨fun g2 => k q (by rw [anew.eq]; rw [show y.toNat = eD E by omega] at hs2; exact hs2) gq (lo.trans lo2), fun g2 => ?_⟩
    refine loopF.im (fun x r => 0 ≤ x ∧ x ≤ (eT E : Int) ∧ G r ∧ loR q r ∧ snR r E (forN (sayT E ((y.toNat : Nat) : Int)) x.toNat (forN (fun d S => forN (sayT E (d : Int)) (eT E) S) y.toNat (forN (fun d S => lookA E S (d : Int)) (eD E) S)))) (fun x => (21 - x).toNat) ⟨by omega, by omega, gq, fun _ _ => rfl, hs2⟩ (by omega) ?_
    rintro rc3 x r ⟨x0, x1, gr, lo3, hs3⟩ ih3 x' r' e hx T3 F3 n3 en3 hn3
    cases e
    have ev3 := ev2.fr hw (mF.refl.call F3 rfl)
    rw [ev3.1] at en3
    subst en3
    have sn3 := sayT.mdN (d := ((y.toNat : Nat) : Int)) sn2.1 en x.toNat (by omega)
    have me := sn3.2.1
    have mf := sn3.2.2
    refine ⟨fun g3 => ih2 _ _ ⟨by omega, by omega, gr, lo2.trans lo3, ?_⟩ (by omega), fun g3 a ea _ b eb _ => ?_⟩
    · rw [show (y + 1).toNat = y.toNat + 1 by omega]
      rw [show x.toNat = eT E by omega] at hs3
      exact hs3
    have xt : x.toNat < eT E := by omega
    have xc : ((x.toNat : Nat) : Int) = x := by omega
    have yc : ((y.toNat : Nat) : Int) = y := by omega
    obtain ⟨a1, a2, _⟩ := ev3.2.2.2.1 x.toNat xt
    have x2 : (x + 1).toNat = x.toNat + 1 := by omega
    refine X12_isAt_s fun v hv rv => ?_
    rw [show (2 * x).toNat = 2 * x.toNat by omega, show (2 * x + 1).toNat = 2 * x.toNat + 1 by omega, a1, a2] at hv
    refine ⟨fun c => ih3 _ _ ⟨by omega, by omega, gr, lo3, ?_⟩ (by omega), fun c => ?_⟩
    · have ns : sdE E ((y.toNat : Nat) : Int) x.toNat < 0 := by
        rw [yc]
        unfold sdE sdI
        rw [if_neg (fun e => by have := hv.mpr (Or.inl e); omega), if_neg (fun e => by have := hv.mpr (Or.inr e); omega)]
        decide
      rw [x2]
      show snR r E (sayT E ((y.toNat : Nat) : Int) x.toNat _)
      unfold sayT
      rw [if_pos ns]
      exact hs3
    · have nn : ¬ sdE E ((y.toNat : Nat) : Int) x.toNat < 0 := by
        rw [yc]
        unfold sdE sdI
        rcases hv.mp (by omega) with e | e
        · rw [if_pos e]; decide
        · by_cases q1 : eA E x.toNat = y
          · rw [if_pos q1]; decide
          · rw [if_neg q1, if_pos e]; decide
      obtain ⟨s, hs1, hss, hd⟩ := sdE.side nn
      have key : ∀ L : List Nat, WP_X12_sayAll_W w r ((y.toNat : Nat) : Int) ((x.toNat : Nat) : Int) (fun m2 => mT w m2 → mF L w r m2 → rc3 (x + 1, m2)) := fun L => X12_sayAll_s hw ev3 gr gG hs3 sn3.1 en xt hss hd (by omega) fun m2 s2 g2 l2 _ _ => ih3 _ _ ⟨by omega, by omega, g2, lo3.trans l2, by
        rw [x2]
        show snR m2 E (sayT E ((y.toNat : Nat) : Int) x.toNat _)
        unfold sayT
        rw [if_neg nn, hs1, Int.toNat_natCast]
        exact s2⟩ (by omega)
      rw [xc, yc] at key
      exact key _
  · have key : ∀ L : List Nat, WP_X12_lookAll_W w m ((z.toNat : Nat) : Int) (fun m2 => mT w m2 → mF L w m m2 → rc (z + 1, m2)) := fun L => X12_lookAll_s hw evm gm gG hs snm.1 en (by omega) (by omega) fun m2 s2 g2 l2 _ _ => ih _ _ ⟨by omega, by omega, g2, lo.trans l2, by rw [show (z + 1).toNat = z.toNat + 1 by omega]; exact s2⟩ (by omega)
    rw [Int.toNat_of_nonneg z0] at key
    exact key _
end AllR
end
section
/-! The class does an event. -/
/-- the clock, the queue, how many are done -/
theorem snC.step {μ m : mM} {E : En} {S : Sn} {v : Int} {q : List Ev} (h : snC μ E S) (ly : LYC μ (eT E) (eD E)) (f : ∀ b i, ¬ (b = 32 ∧ (i = 10 ∨ i = 11 ∨ i = 12)) → ¬ b = 33 → ¬ b = 34 → m b i = μ b i)
    (hq : evC m = q) (hf : ∀ i, i < 800 → (¬ m 34 i = -1 ↔ ∃ x, (x, i) ∈ q)) (hv : m 32 11 = v) (hd : (m 32 12 - (μ 32 12 + 1)) % 4294967296 = 0) : snC m E (qu! (dn! (ck! S v)) q) := by
  obtain ⟨h1, h2, h3, h4, h5, h6, h7⟩ := h
  have tb : ∀ s, tbA m s = tbA μ s := fun s => congrArg Int.toNat (f 11 s (by omega) (by omega) (by omega))
  have db : ∀ s, dbA m s = dbA μ s := fun s => congrArg Int.toNat (f 10 s (by omega) (by omega) (by omega))
  have rt : ∀ a, 35 ≤ a → rtC m a = rtC μ a := fun a ha => rtC.of (fun i => f _ _ (by omega) (by omega) (by omega)) (fun i => f _ _ (by omega) (by omega) (by omega)) (fun i => f _ _ (by omega) (by omega) (by omega))
  refine ⟨fun s j hs hj => ?_, fun d p hd hp => ?_, hq, hf, hv, ?_, ?_⟩
  · have a := ly.1 s hs
    show rtC m (tbA m s + 4 + 6 * j) = _ ∧ (_ → m (tbA m s + 4 + 6 * j) 9 = _) ∧ rtC m (tbA m s + 7 + 6 * j) = _ ∧ m (tbA m s + 7 + 6 * j) 9 = _
    rw [tb, rt _ (by omega), f (tbA μ s + 4 + 6 * j) 9 (by omega) (by omega) (by omega), rt _ (by omega), f (tbA μ s + 7 + 6 * j) 9 (by omega) (by omega) (by omega)]
    exact h1 s j hs hj
  · have a := ly.2.1 d hd
    show m (dbA m d + 3) p = _ ∧ rtC m (dbA m d + 5 + 3 * p) = _
    rw [db, f _ _ (by omega) (by omega) (by omega), rt _ (by omega)]
    exact h2 d p hd hp
  · show (m 32 12 - (sDn S + 1)) % 4294967296 = 0
    omega
  · rw [rt 70 (by omega)]; exact h7
/-- something is heard -/
theorem snC.hear {μ m : mM} {E : En} {S : Sn} {t k : Nat} {o : Option Rt} {v : Int} (h : snC μ E S) (ly : LYC μ (eT E) (eD E)) (ht : t < eT E) (hk : k < 20)
    (f : ∀ b i, ¬ (tbA μ t + 4 + 6 * k ≤ b ∧ b ≤ tbA μ t + 6 + 6 * k) → m b i = μ b i) (ho : rtC m (tbA μ t + 4 + 6 * k) = o) (hv : m (tbA μ t + 4 + 6 * k) 9 = v) : snC m E (hd! S (20 * t + k) o v) := by
  obtain ⟨h1, h2, h3, h4, h5, h6, h7⟩ := h
  obtain ⟨l1, l2, l3, l4, l5, l6⟩ := ly
  have big := (l1 t ht).2.1
  have tb : ∀ s, tbA m s = tbA μ s := fun s => congrArg Int.toNat (f 11 s (by omega))
  have db : ∀ s, dbA m s = dbA μ s := fun s => congrArg Int.toNat (f 10 s (by omega))
  have rt : ∀ a, (a + 2 < tbA μ t + 4 + 6 * k ∨ tbA μ t + 6 + 6 * k < a) → rtC m a = rtC μ a := fun a h9 => rtC.of (fun i => f _ _ (by omega)) (fun i => f _ _ (by omega)) (fun i => f _ _ (by omega))
  refine ⟨fun s j hs hj => ?_, fun d p hd hp => ?_, ?_, fun i hi => ?_, ?_, ?_, ?_⟩
  · have a := l1 s hs
    have b := h1 s j hs hj
    show rtC m (tbA m s + 4 + 6 * j) = (if 20 * s + j = 20 * t + k then o else sHd S (20 * s + j)) ∧ (¬ (if 20 * s + j = 20 * t + k then o else sHd S (20 * s + j)) = none → m (tbA m s + 4 + 6 * j) 9 = (if 20 * s + j = 20 * t + k then v else sHw S (20 * s + j))) ∧ rtC m (tbA m s + 7 + 6 * j) = (sSd S (20 * s + j)).1 ∧ m (tbA m s + 7 + 6 * j) 9 = (sSd S (20 * s + j)).2
    rw [tb]
    by_cases c : s = t
    · subst c
      by_cases e : j = k
      · subst e
        rw [if_pos rfl, if_pos rfl, rt (tbA μ s + 7 + 6 * j) (by omega), f (tbA μ s + 7 + 6 * j) 9 (by omega)]
        exact ⟨ho, fun _ => hv, b.2.2⟩
      · rw [if_neg (by omega), if_neg (by omega), rt _ (by omega), f (tbA μ s + 4 + 6 * j) 9 (by omega), rt (tbA μ s + 7 + 6 * j) (by omega), f (tbA μ s + 7 + 6 * j) 9 (by omega)]
        exact b
    · have c1 := l3 s t hs ht c
      rw [if_neg (by omega), if_neg (by omega), rt _ (by omega), f (tbA μ s + 4 + 6 * j) 9 (by omega), rt (tbA μ s + 7 + 6 * j) (by omega), f (tbA μ s + 7 + 6 * j) 9 (by omega)]
      exact b
  · have a := l2 d hd
    have c := l5 t d ht hd
    show m (dbA m d + 3) p = _ ∧ rtC m (dbA m d + 5 + 3 * p) = _
    rw [db, f _ _ (by omega), rt _ (by omega)]
    exact h2 d p hd hp
  · have e : evC m = evC μ := by
      rw [evC.eq, evC.eq, f 32 10 (by omega)]
      refine lst.ext fun i _ => ?_
      rw [f 33 i (by omega), f 34 _ (by omega)]
    rw [e]; exact h3
  · rw [f 34 i (by omega)]; exact h4 i hi
  · rw [f 32 11 (by omega)]; exact h5
  · rw [f 32 12 (by omega)]; exact h6
  · rw [rt 70 (by omega)]; exact h7
theorem snG.step {E : En} {S : Sn} {v : Int} {e : Nat} (h : snG E S) (hv : 0 ≤ v) : snG E (qu! (dn! (ck! S v)) (remQ e (sQu S))) := by
  obtain ⟨s1, s2, s3, s4, s5, s6, s7, s8, s9, s0⟩ := h
  exact ⟨s1, s2, s3, s4.filter _, s5.sublist ((List.filter_sublist).map _), fun x hx => s6 x (remQ.mem.mp hx).1, s7, hv, s9, s0⟩
theorem snG.hear {E : En} {S : Sn} {k : Nat} {o : Option Rt} {v : Int} (h : snG E S) (ho : rtO (k % 10) o) (hx : eP E ≤ k % 10 → o = none) : snG E (hd! S k o v) := by
  obtain ⟨s1, s2, s3, s4, s5, s6, s7, s8, s9, s0⟩ := h
  refine ⟨s1, s2, fun j => ?_, s4, s5, s6, s7, s8, s9, fun j hj => ?_⟩
  · show rtO (j % 10) (if j = k then o else sHd S j)
    by_cases c : j = k
    · rw [if_pos c, c]; exact ho
    · rw [if_neg c]; exact s3 j
  · obtain ⟨b1, b2, b3⟩ := s0 j hj
    refine ⟨b1, b2, ?_⟩
    show (if j = k then o else sHd S j) = none
    by_cases c : j = k
    · rw [if_pos c]; rw [c] at hj; exact hx hj
    · rw [if_neg c]; exact b3
/-- what events leave alone below 192 -/
def loD (μ m : mM) : Prop := ∀ b i, b < 192 → ¬ (b = 21 ∧ 2 ≤ i ∧ i ≤ 7) → ¬ (b = 32 ∧ 9 ≤ i ∧ i ≤ 12) → ¬ b = 33 → ¬ b = 34 → ¬ (36 ≤ b ∧ b ≤ 69) → ¬ (73 ≤ b ∧ b ≤ 75) → m b i = μ b i
theorem loD.refl {μ : mM} : loD μ μ := fun _ _ _ _ _ _ _ _ _ => rfl
theorem loD.trans {μ m n : mM} (h : loD μ m) (k : loD m n) : loD μ n := fun b i h0 h1 h2 h3 h4 h5 h6 => (k b i h0 h1 h2 h3 h4 h5 h6).trans (h b i h0 h1 h2 h3 h4 h5 h6)
theorem loC.d {μ m : mM} (h : loC μ m) : loD μ m := fun b i h0 h1 h2 h3 h4 h5 h6 => h b i h0 h1 (by omega) h3 h4 h5 h6
theorem eN.dom {E : En} {t s : Nat} (ti : tiG E) (ht : t < eT E) : ∃ d : Nat, eN E t s = (d : Int) ∧ d < eD E := by
  have h := ti.1 t ht
  by_cases c : s = 0
  · have e : eN E t s = eA E t := if_pos c
    exact ⟨(eA E t).toNat, by rw [e]; omega, by omega⟩
  · have e : eN E t s = eB E t := if_neg c
    exact ⟨(eB E t).toNat, by rw [e]; omega, by omega⟩
theorem nextE.nil {E : En} {S : Sn} {v : Int} (h : sQu S = []) : nextE E v S = none := by
  unfold nextE
  rw [h]
theorem nextE.late {E : En} {S : Sn} {v : Int} {e : Ev} {q : List Ev} (h : sQu S = e :: q) (hv : v < e.1) : nextE E v S = none := by
  unfold nextE
  rw [h]
  exact if_pos hv
theorem nextE.go {E : En} {S : Sn} {v : Int} {e : Ev} {q : List Ev} (h : sQu S = e :: q) (hv : e.1 ≤ v) : nextE E v S = some (doEv E S e) := by
  unfold nextE
  rw [h]
  exact if_neg (by omega)
theorem doEv.say {E : En} {S : Sn} {e : Ev} (h : e.2 % 2 = 1) : doEv E S e = sayE E (qu! (dn! (ck! S e.1)) (remQ e.2 (sQu S))) (e.2 / 40) (e.2 / 20 % 2) (e.2 / 2 % 10) := if_pos h
theorem doEv.hear {E : En} {S : Sn} {e : Ev} (h : ¬ e.2 % 2 = 1) : doEv E S e = lookE E (hd! (qu! (dn! (ck! S e.1)) (remQ e.2 (sQu S))) (slt (e.2 / 40) (1 - e.2 / 20 % 2) (e.2 / 2 % 10)) (sSd S (e.2 / 2)).1 e.1) (eN E (e.2 / 40) (1 - e.2 / 20 % 2)) (e.2 / 2 % 10) := if_neg h
/-- a state in which an event's route has come -/
theorem snG.come {E : En} {S : Sn} {e : Ev} (h : snG E S) (he : 0 ≤ e.1) : snG E (hd! (qu! (dn! (ck! S e.1)) (remQ e.2 (sQu S))) (slt (e.2 / 40) (1 - e.2 / 20 % 2) (e.2 / 2 % 10)) (sSd S (e.2 / 2)).1 e.1) := by
  have em : slt (e.2 / 40) (1 - e.2 / 20 % 2) (e.2 / 2 % 10) % 10 = e.2 / 2 % 10 := by unfold slt; omega
  refine (h.step he).hear ?_ fun hk => ?_
  · have g := h.2.1 (e.2 / 2)
    rw [em]
    exact g
  · rw [em] at hk
    exact (h.2.2.2.2.2.2.2.2.2 (e.2 / 2) hk).2.1
theorem doEv.cn {E : En} {S : Sn} {e : Ev} (h : snG E S) (en : enG E) (he : 0 ≤ e.1 ∧ e.2 < 40 * eT E) : mdG E S 20 (doEv E S e) := by
  by_cases c : e.2 % 2 = 1
  · rw [doEv.say c]
    exact (sayE.cn (h.step he.1) en (by omega) (by omega) (by omega)).le (by omega)
  · rw [doEv.hear c]
    obtain ⟨d, ed, hd⟩ := eN.dom (s := 1 - e.2 / 20 % 2) en.1 (show e.2 / 40 < eT E by omega)
    rw [ed]
    have g := lookE.cn (h.come he.1) en hd (show e.2 / 2 % 10 < 10 by omega)
    have sb : slt (e.2 / 40) (1 - e.2 / 20 % 2) (e.2 / 2 % 10) < 20 * eT E := by unfold slt; omega
    have u : uS E S (hd! (qu! (dn! (ck! S e.1)) (remQ e.2 (sQu S))) (slt (e.2 / 40) (1 - e.2 / 20 % 2) (e.2 / 2 % 10)) (sSd S (e.2 / 2)).1 e.1) := ⟨fun k hk => ⟨if_neg (by omega), rfl⟩, fun _ _ => rfl⟩
    exact ⟨g.1, g.2.1, g.2.2.1, u.trans g.2.2.2⟩
section EvC
variable {w : mW} {μ : mM} {E : En} {S : Sn}
theorem X8_handOver_s {t s p : Nat} {Q : mM → Prop} (ev : envC w μ E) (st : snC μ E S) (ht : t < eT E) (hs : s < 2) (hp : p < 10)
    (k : ∀ m : mM, snC m E (hd! S (slt t (1 - s) p) (sSd S (slt t s p)).1 (sCk S)) → (∀ b i, b < 192 → m b i = μ b i) → Q m) : WP_X8_handOver_W w μ (tbA μ t) (s : Int) (p : Int) Q := by
  have ly := ev.2.2.2.1
  obtain ⟨l1, l2, l3, l4, l5, l6⟩ := ev.2.2.2.1
  obtain ⟨t1, t2, t3⟩ := l1 t ht
  intro _ b7 e7 _ _ b16 e16 _
  have e7' : b7 = tbA μ t + 4 + 6 * (10 * (1 - s) + p) := by
    rw [show ((1 - (s : Int)) * 10 + (p : Int)).toNat = 10 * (1 - s) + p by omega, (t3 _ (by omega)).1] at e7
    omega
  have e16' : b16 = tbA μ t + 7 + 6 * (10 * s + p) := by
    rw [show ((s : Int) * 10 + (p : Int)).toNat = 10 * s + p by omega, (t3 _ (by omega)).2] at e16
    omega
  subst e7' e16'
  have ap : apr (tbA μ t + 4 + 6 * (10 * (1 - s) + p)) (tbA μ t + 7 + 6 * (10 * s + p)) := by refine ⟨?_, ?_, ?_, ?_, ?_, ?_, ?_⟩ <;> omega
  refine X7_become_s ap fun m r o T F z ez _ m2 u2 T2 => ?_
  obtain rfl := u2.is
  have ez' : z = sCk S := by
    rw [← ez, o 32 11 (by omega) (by omega) (by omega)]
    exact st.2.2.2.2.1
  have so := (st.1 t (10 * s + p) ht (by omega)).2.2.1
  have g := snC.hear (m := mUp m (tbA μ t + 4 + 6 * (10 * (1 - s) + p)) 9 z) (k := 10 * (1 - s) + p) (v := z) (o := (sSd S (20 * t + (10 * s + p))).1) st ly ht (by omega) (fun b i q => by
    rw [mUp.no (by omega)]
    exact o b i (by omega) (by omega) (by omega)) (by rw [rtC.up9 (by omega), r]; exact so) (mUp.yes ⟨rfl, rfl⟩)
  have e1 : slt t (1 - s) p = 20 * t + (10 * (1 - s) + p) := by unfold slt; omega
  have e2 : slt t s p = 20 * t + (10 * s + p) := by unfold slt; omega
  refine k _ ?_ (fun b i hb => ?_)
  · rw [e1, e2, ← ez']; exact g
  · rw [mUp.no (by omega)]
    exact o b i (by omega) (by omega) (by omega)
theorem X8_doNext_s {v : Int} {Q : Int → mM → Prop} (hw : mWF w) (hT : mT w μ) (ev : envC w μ E) (st : snC μ E S) (sn : snG E S) (en : enG E)
    (k0 : nextE E v S = none → Q 0 μ) (k1 : ∀ (m : mM) (S1 : Sn), nextE E v S = some S1 → snC m E S1 → loD μ m → Q 1 m) : WP_X8_doNext_W w μ v Q := by
  have ly := ev.2.2.2.1
  have eq0 := st.2.2.1
  rw [evC.eq] at eq0
  intro z1 e1 r1
  refine ⟨fun c => k0 (nextE.nil ?_), fun c z8 e8 r8 z12 e12 r12 => ?_⟩
  · rw [← eq0, e1, c]; rfl
  obtain ⟨n, en1⟩ : ∃ n, (μ 32 10).toNat = n + 1 := ⟨(μ 32 10).toNat - 1, by omega⟩
  rw [en1, lst.head] at eq0
  have e8' : μ 33 0 = z8 := e8
  obtain ⟨i, ei⟩ : ∃ i : Nat, z8 = (i : Int) := ⟨z8.toNat, by omega⟩
  subst ei
  rw [e8', Int.toNat_natCast] at eq0
  rw [Int.toNat_natCast] at e12
  rw [e12] at eq0
  have hin : (z12, i) ∈ sQu S := by rw [← eq0]; exact List.mem_cons_self
  have h6 := sn.2.2.2.2.2.1 _ hin
  have hi : i < 40 * eT E := h6.1
  have h0 : 0 ≤ z12 := h6.2.1
  have t20 := en.1.2.2.1
  refine ⟨fun g m17 u17 T17 => ?_, fun g => k0 (nextE.late eq0.symm g)⟩
  obtain rfl := u17.is
  have nx : nextE E v S = some (doEv E S (z12, i)) := nextE.go eq0.symm g
  have ev17 : evC (mUp μ 32 11 z12) = sQu S := by
    have e : evC (mUp μ 32 11 z12) = evC μ := by
      rw [evC.eq, evC.eq, mUp.no (by omega)]
      refine lst.ext fun j _ => ?_
      rw [mUp.no (by omega), mUp.no (by omega)]
    rw [e]; exact st.2.2.1
  refine X8_canc_s hw T17 ev17 sn.2.2.2.2.1 (fun j hj => by rw [mUp.no (by omega)]; exact st.2.2.2.1 j hj) (by omega) fun m20 q20 f20 o20 T20 F20 z24 e24 _ z27 r27 e27 m30 u30 T30 z33 e33 z36 e36 z39 e39 z42 e42 z45 e45 z48 e48 z51 e51 z54 e54 z57 e57 => ?_
  obtain rfl := u30.is
  have F30 : mF lEC w μ (mUp m20 32 12 z27) := (((mF.refl.up (A_32 hw) mUp_ok rfl).call F20 rfl).up (A_32 hw) mUp_ok rfl)
  have ev30 := envC.fr hw hT ev F30
  have a30 : ∀ b j, ¬ (b = 32 ∧ (j = 10 ∨ j = 11 ∨ j = 12)) → ¬ b = 33 → ¬ b = 34 → mUp m20 32 12 z27 b j = μ b j := fun b j q1 q2 q3 => by
    rw [mUp.no (by omega), o20 b j q2 (by omega) (by omega), mUp.no (by omega)]
  have e24' : μ 32 12 = z24 := by
    rw [← e24, o20 32 12 (by omega) (by omega) (by omega), mUp.no (by omega)]
  have ev2 : evC (mUp m20 32 12 z27) = remQ i (sQu S) := by
    rw [← q20, evC.eq, evC.eq, mUp.no (by omega)]
    refine lst.ext fun j _ => ?_
    rw [mUp.no (by omega), mUp.no (by omega)]
  have s30 : snC (mUp m20 32 12 z27) E (qu! (dn! (ck! S z12)) (remQ i (sQu S))) := st.step ly a30 ev2 (fun j hj => by rw [mUp.no (by omega)]; exact f20 j hj) (by rw [mUp.no (by omega), o20 32 11 (by omega) (by omega) (by omega), mUp.yes ⟨rfl, rfl⟩]) (by rw [mUp.yes ⟨rfl, rfl⟩, e24']; exact e27)
  have g30 := sn.step (v := z12) (e := i) h0
  have lo30 : loD μ (mUp m20 32 12 z27) := fun b j h0 h1 h2 h3 h4 h5 h6 => a30 b j (by omega) h3 h4
  have x36 : z36 = ((i / 2 % 10 : Nat) : Int) := by omega
  have x45 : z45 = ((i / 20 % 2 : Nat) : Int) := by omega
  have x54 : z54 = ((i / 40 : Nat) : Int) := by omega
  subst x36 x45 x54
  have ht : i / 40 < eT E := by omega
  refine ⟨fun c2 b84 e84 h84 => ?_, fun c2 => ?_⟩
  · have hb : b84 = tbA (mUp m20 32 12 z27) (i / 40) := by
      have t1 := (ev30.2.2.2.1.1 (i / 40) ht).1
      rw [Int.toNat_natCast] at e84
      omega
    subst hb
    have odd : ¬ i % 2 = 1 := by omega
    refine X8_handOver_s ev30 s30 ht (by omega) (by omega) fun m87 s87 f87 T87 F87 => ?_
    have ev87 := envC.fr hw T30 ev30 (mF.refl.call F87 rfl)
    have tb : tbA m87 (i / 40) = tbA (mUp m20 32 12 z27) (i / 40) := congrArg Int.toNat (f87 11 _ (by omega))
    obtain ⟨a1, a2, _⟩ := ev87.2.2.2.2.1 (i / 40) ht
    rw [tb] at a1 a2
    refine X9_end_s ?_
    rw [a1, a2]
    have ep : (if 1 - ((i / 20 % 2 : Nat) : Int) = 0 then eA E (i / 40) else eB E (i / 40)) = eN E (i / 40) (1 - i / 20 % 2) := by
      unfold eN
      have z2 : i / 20 % 2 = 0 ∨ i / 20 % 2 = 1 := by omega
      rcases z2 with q | q
      · rw [q, if_neg (by omega), if_neg (by omega)]
      · rw [q, if_pos (by omega), if_pos (by omega)]
    rw [ep]
    obtain ⟨d, ed, hd⟩ := eN.dom (s := 1 - i / 20 % 2) en.1 ht
    have dv := doEv.hear (E := E) (S := S) (e := (z12, i)) odd
    have sl : slt (i / 40) (i / 20 % 2) (i / 2 % 10) = i / 2 := by unfold slt; omega
    rw [sl] at s87
    have s87 : snC m87 E (hd! (qu! (dn! (ck! S z12)) (remQ i (sQu S))) (slt (i / 40) (1 - i / 20 % 2) (i / 2 % 10)) (sSd S (i / 2)).1 z12) := s87
    have g87 := snG.come (e := (z12, i)) sn h0
    rw [ed] at dv ⊢
    intro _
    refine X8_look_s hw T87 ev87 s87 g87 en.1 en.2.1 en.2.2.1 hd (by omega) fun m s l _ _ => k1 m _ nx ?_ ?_
    · rw [dv]; exact s
    · exact (lo30.trans fun b j h0 _ _ _ _ _ _ => f87 b j h0).trans l.d
  · have odd : i % 2 = 1 := by omega
    refine X8_say_s hw T30 ev30 s30 g30 en.1 en.2.1 ht (by omega) (by omega) (en.2.2.1 _ ht) h0 fun m s l _ _ => k1 m _ nx ?_ ?_
    · rw [doEv.say (e := (z12, i)) odd]; exact s
    · exact lo30.trans (loC.d l)
end EvC
end
section
/-! The reference does an event. -/
/-- its number of an event, and ours -/
def evX (x : Nat) : Nat := if x < 400 then 2 * x else 2 * (x - 400) + 1
def xEv (e : Nat) : Nat := if e % 2 = 0 then e / 2 else 400 + e / 2
theorem evX.lt {x : Nat} (h : x < 800) : evX x < 800 := by
  unfold evX
  split <;> omega
theorem xEv.lt {e : Nat} (h : e < 800) : xEv e < 800 := by
  unfold xEv
  split <;> omega
theorem evX.inv {e : Nat} (h : e < 800) : evX (xEv e) = e := by
  have e0 : evX (xEv e) = (if xEv e < 400 then 2 * xEv e else 2 * (xEv e - 400) + 1) := rfl
  have e1 : xEv e = (if e % 2 = 0 then e / 2 else 400 + e / 2) := rfl
  rw [e0, e1]
  by_cases c : e % 2 = 0
  · rw [if_pos c, if_pos (by omega)]; omega
  · rw [if_neg c, if_neg (by omega)]; omega
theorem atR.lo {μ : mM} {x : Nat} (h : x < 400) : atR μ (evX x) = μ 157 x ∧ mdR μ (evX x) = μ 158 x := by
  unfold atR mdR evX
  rw [if_pos h, if_pos (by omega), if_pos (by omega), show 2 * x / 2 = x by omega]
  exact ⟨rfl, rfl⟩
theorem atR.hi {μ : mM} {x : Nat} (h : ¬ x < 400) : atR μ (evX x) = μ 159 (x - 400) ∧ mdR μ (evX x) = μ 160 (x - 400) := by
  unfold atR mdR evX
  rw [if_neg h, if_neg (by omega), if_neg (by omega), show (2 * (x - 400) + 1) / 2 = x - 400 by omega]
  exact ⟨rfl, rfl⟩
theorem loopF.i4 {B : (Int × Int × Int × Int → Prop) → Int × Int × Int × Int → Prop} (I : Int → Int → Int → Int → Prop) (m : Int → Nat) {n : Nat} {a b c z : Int} (h : I a b c z) (hm : m z < n) (step : ∀ (rc : Int × Int × Int × Int → Prop) (a b c z : Int), I a b c z → (∀ a' b' c' z', I a' b' c' z' → m z' < m z → rc (a', b', c', z')) → B rc (a, b, c, z)) : loopF B False n (a, b, c, z) := loopF.ind (fun s => I s.1 s.2.1 s.2.2.1 s.2.2.2) (fun s => m s.2.2.2) (fun rc s hI ih => step rc s.1 s.2.1 s.2.2.1 s.2.2.2 hI fun a' b' c' z' => ih (a', b', c', z')) n (a, b, c, z) h hm
section EvR
variable {w : mW} {μ : mM} {E : En} {S : Sn} {G : mM → Prop}
theorem X12_nextEvent_ev_s {q : List Ev} {Q : Int → mM → Prop} (hq : quR μ q) (k0 : (∀ e ∈ q, 2000000000 < e.1) → Q (-99999999) μ) (k1 : ∀ (x : Nat) (e : Ev) (r : List Ev), q = e :: r → e.1 ≤ 2000000000 → x < 800 → evX x = e.2 → Q (x : Int) μ) : WP_X12_nextEvent_Wev w μ Q := by
  refine loopF.i4 (fun b v y z => 0 ≤ z ∧ z ≤ 800 ∧ ((b = -99999999 ∧ ∀ x : Nat, (x : Int) < z → atR μ (evX x) < 0 ∨ 2000000000 < atR μ (evX x)) ∨ (0 ≤ b ∧ b < z ∧ v = atR μ (evX b.toNat) ∧ y = mdR μ (evX b.toNat) ∧ 0 ≤ v ∧ v ≤ 2000000000 ∧ ∀ x : Nat, (x : Int) < z → 0 ≤ atR μ (evX x) → atR μ (evX x) ≤ 2000000000 → v < atR μ (evX x) ∨ (v = atR μ (evX x) ∧ y ≤ mdR μ (evX x))))) (fun z => (801 - z).toNat) ⟨by omega, by omega, Or.inl ⟨rfl, fun x hx => by omega⟩⟩ (by omega) ?_
  rintro rc b v y z ⟨z0, z1, h⟩ ih b' v' y' z' e hb hv hy hz
  cases e
  have fin : ∀ u t : Int, u = atR μ (evX z.toNat) → t = mdR μ (evX z.toNat) → z < 800 → ((u < 0) → rc (b, v, y, (z + 1))) ∧ ((0 ≤ u) → ((2000000000 < u) → rc (b, v, y, (z + 1))) ∧ ((u ≤ 2000000000) → ((b = (-99999999)) → rc (z, u, t, (z + 1))) ∧ ((¬ b = (-99999999)) → ((u < v) → rc (z, u, t, (z + 1))) ∧ ((v ≤ u) → ((¬ u = v) → rc (b, v, y, (z + 1))) ∧ ((u = v) → ((y ≤ t) → rc (b, v, y, (z + 1))) ∧ ((t < y) → rc (z, u, t, (z + 1)))))))) := by
    intro u t eu et hz8
    have keep : (¬ (0 ≤ u ∧ u ≤ 2000000000) ∨ (¬ b = -99999999 ∧ (v < u ∨ (v = u ∧ y ≤ t)))) → rc (b, v, y, z + 1) := fun g => ih _ _ _ _ ⟨by omega, by omega, by
      rcases h with ⟨h1, h2⟩ | ⟨h1, h2, h3, h4, h5, h6, h7⟩
      · refine Or.inl ⟨h1, fun x hx => ?_⟩
        by_cases c : (x : Int) = z
        · have e : x = z.toNat := by omega
          rw [e, ← eu]
          omega
        · exact h2 x (by omega)
      · refine Or.inr ⟨h1, by omega, h3, h4, h5, h6, fun x hx q1 q2 => ?_⟩
        by_cases c : (x : Int) = z
        · have e : x = z.toNat := by omega
          rw [e, ← eu] at q1 q2
          rw [e, ← eu, ← et]
          omega
        · exact h7 x (by omega) q1 q2⟩ (by omega)
    have take : 0 ≤ u → u ≤ 2000000000 → (b = -99999999 ∨ u < v ∨ (u = v ∧ t < y)) → rc (z, u, t, z + 1) := fun g0 g1 g => ih _ _ _ _ ⟨by omega, by omega, Or.inr ⟨z0, by omega, eu, et, g0, g1, fun x hx q1 q2 => by
      by_cases c : (x : Int) = z
      · have e : x = z.toNat := by omega
        rw [e, ← eu, ← et]
        exact Or.inr ⟨rfl, Int.le_refl _⟩
      · rcases h with ⟨h1, h2⟩ | ⟨h1, h2, h3, h4, h5, h6, h7⟩
        · have := h2 x (by omega)
          omega
        · have := h7 x (by omega) q1 q2
          omega⟩⟩ (by omega)
    exact ⟨fun c => keep (by omega), fun c => ⟨fun c1 => keep (by omega), fun c1 => ⟨fun c2 => take c c1 (Or.inl c2), fun c2 => ⟨fun c3 => take c c1 (Or.inr (Or.inl c3)), fun c3 => ⟨fun c4 => keep (Or.inr ⟨c2, by omega⟩), fun c4 => ⟨fun c5 => keep (Or.inr ⟨c2, by omega⟩), fun c5 => take c c1 (Or.inr (Or.inr ⟨c4, c5⟩))⟩⟩⟩⟩⟩⟩
  refine ⟨fun g => ?_, fun g => ⟨fun c u eu _ t et _ => ?_, fun c u eu _ t et _ => ?_⟩⟩
  · have zz : z = 800 := by omega
    subst zz
    have tk : ∀ e ∈ q, e.2 < 800 ∧ atR μ (evX (xEv e.2)) = e.1 ∧ 0 ≤ e.1 ∧ evX (xEv e.2) = e.2 := fun e he => by
      obtain ⟨a1, a2, a3, _⟩ := hq.2.1 e he
      have x := evX.inv a1
      exact ⟨a1, by rw [x]; exact a2, a3, x⟩
    rcases h with ⟨h1, h2⟩ | ⟨h1, h2, h3, h4, h5, h6, h7⟩
    · subst h1
      refine k0 fun e he => ?_
      obtain ⟨a1, a2, a3, a4⟩ := tk e he
      have := h2 (xEv e.2) (by have := xEv.lt a1; omega)
      omega
    · have hin : (v, evX b.toNat) ∈ q := by
        rw [h3]
        exact hq.1 _ (evX.lt (by omega)) (by omega)
      have pw := hq.2.2
      cases q with
      | nil => cases hin
      | cons e r =>
        have pw := List.pairwise_cons.mp pw
        obtain ⟨a1, a2, a3, a4⟩ := tk e List.mem_cons_self
        have eb : e = (v, evX b.toNat) := by
          rcases List.mem_cons.mp hin with c | c
          · exact c.symm
          · have o := pw.1 _ c
            have o : e.1 < v ∨ (e.1 = v ∧ mdR μ e.2 < mdR μ (evX b.toNat)) := o
            have := h7 (xEv e.2) (by have := xEv.lt a1; omega) (by omega) (by omega)
            rw [a2, a4] at this
            omega
        have kk := k1 b.toNat e r rfl (by rw [eb]; exact h6) (by omega) (by rw [eb])
        rw [Int.toNat_of_nonneg h1] at kk
        exact kk
  · have a := atR.hi (μ := μ) (x := z.toNat) (by omega)
    refine fin u t ?_ ?_ g
    · rw [a.1, ← eu, show (z - 400).toNat = z.toNat - 400 by omega]
    · rw [a.2, ← et, show (z - 400).toNat = z.toNat - 400 by omega]
  · have a := atR.lo (μ := μ) (x := z.toNat) (by omega)
    exact fin u t (by rw [a.1, ← eu]) (by rw [a.2, ← et]) g
/-- the clock, the queue, how many are done -/
theorem snR.step {m : mM} {v : Int} {e : Nat} (h : snR μ E S) (hw : mWF w) (hT : mT w μ) (he : e < 800)
    (f : ∀ (b i : Nat), ¬ (b = 106 ∧ (i = 71 ∨ i = 73)) → ¬ (b = 157 ∧ e = 2 * i) → ¬ (b = 159 ∧ e = 2 * i + 1) → m b i = μ b i) (ha : atR m e = -1) (hv : m 106 71 = v) (hd : (m 106 73 - (μ 106 73 + 1)) % 4294967296 = 0) : snR m E (qu! (dn! (ck! S v)) (remQ e (sQu S))) := by
  obtain ⟨h1, h2, h3, h4, h5, h6⟩ := h
  have rt : ∀ r : Int, 0 ≤ r → rtR m r = rtR μ r := fun r hr => rtR.cg (hT.rb hw hr).1.2 (hT.rb hw hr).2.2 fun k hk => f _ _ (by omega) (by omega) (by omega)
  have ea : ∀ e', ¬ e' = e → atR m e' = atR μ e' := fun e' hne => by
    unfold atR
    by_cases c : e' % 2 = 0
    · rw [if_pos c, if_pos c, f 157 _ (by omega) (by omega) (by omega)]
    · rw [if_neg c, if_neg c, f 159 _ (by omega) (by omega) (by omega)]
  have em : ∀ e', mdR m e' = mdR μ e' := fun e' => by
    unfold mdR
    rw [f 158 _ (by omega) (by omega) (by omega), f 160 _ (by omega) (by omega) (by omega)]
  refine ⟨fun s hs => ?_, fun k hk => ?_, ⟨fun e' he' h0 => ?_, fun x hx => ?_, ?_⟩, hv, ?_, ?_⟩
  · obtain ⟨a1, a2, a3, a4, a5⟩ := h1 s hs
    show rtR m (130 + (s : Int)) = sHd S s ∧ (¬ sHd S s = none → m 154 s = sHw S s) ∧ rtR m (530 + (s : Int)) = (sSd S s).1 ∧ (if m 155 s = 0 then -1 else m 156 s) = (sSd S s).2 ∧ (0 ≤ m 157 s → rtR m (930 + (s : Int)) = (sSd S s).1)
    rw [rt _ (by omega), rt _ (by omega), rt _ (by omega), f 154 _ (by omega) (by omega) (by omega), f 155 _ (by omega) (by omega) (by omega), f 156 _ (by omega) (by omega) (by omega)]
    refine ⟨a1, a2, a3, a4, fun h0 => ?_⟩
    by_cases c : e = 2 * s
    · subst c
      unfold atR at ha
      rw [if_pos (by omega), show 2 * s / 2 = s by omega] at ha
      omega
    · rw [f 157 _ (by omega) (by omega) (by omega)] at h0
      exact a5 h0
  · show m 161 k = (sPk S k).1 ∧ rtR m (30 + (k : Int)) = (sPk S k).2
    rw [f 161 _ (by omega) (by omega) (by omega), rt _ (by omega)]
    exact h2 k hk
  · have hne : ¬ e' = e := fun c => by rw [c, ha] at h0; omega
    rw [ea e' hne] at h0 ⊢
    exact remQ.mem.mpr ⟨h3.1 e' he' h0, hne⟩
  · obtain ⟨hx1, hx2⟩ := remQ.mem.mp hx
    rw [ea _ hx2, em, f 106 72 (by omega) (by omega) (by omega)]
    exact h3.2.1 x hx1
  · have p := h3.2.2.filter (fun x => decide (¬ x.2 = e))
    refine List.Pairwise.imp (fun {x y} q => ?_) p
    rw [em, em]
    exact q
  · show (m 106 73 - (sDn S + 1)) % 4294967296 = 0
    omega
  · show m 106 72 = sMd S
    rw [f 106 72 (by omega) (by omega) (by omega)]; exact h6
/-- something is heard -/
theorem snR.hear {m : mM} {k : Nat} {o : Option Rt} {v : Int} (h : snR μ E S) (hw : mWF w) (hT : mT w μ) (hk : k < 400) (h20 : eT E ≤ 20) (hD : eD E ≤ 10)
    (f : ∀ (b i : Nat), ¬ (b = 126 ∧ 40 * (130 + (k : Int)) ≤ (i : Int) ∧ (i : Int) < 40 * (130 + (k : Int)) + 40) → ¬ (b = 154 ∧ i = k) → m b i = μ b i) (ho : rtR m (130 + (k : Int)) = o) (hv : m 154 k = v) : snR m E (hd! S k o v) := by
  obtain ⟨h1, h2, h3, h4, h5, h6⟩ := h
  have rt : ∀ r : Int, 0 ≤ r → ¬ r = 130 + (k : Int) → rtR m r = rtR μ r := fun r hr hne => rtR.cg (hT.rb hw hr).1.2 (hT.rb hw hr).2.2 fun j hj => f _ _ (by omega) (by omega)
  have c : ∀ (b i : Nat), ¬ b = 126 → ¬ b = 154 → m b i = μ b i := fun b i a1 a2 => f b i (by omega) (by omega)
  have ea : ∀ e, atR m e = atR μ e := fun e => by
    unfold atR
    rw [c 157 _ (by omega) (by omega), c 159 _ (by omega) (by omega)]
  have em : ∀ e, mdR m e = mdR μ e := fun e => by
    unfold mdR
    rw [c 158 _ (by omega) (by omega), c 160 _ (by omega) (by omega)]
  refine ⟨fun s hs => ?_, fun j hj => ?_, ⟨fun e he h0 => ?_, fun x hx => ?_, ?_⟩, ?_, ?_, ?_⟩
  · obtain ⟨a1, a2, a3, a4, a5⟩ := h1 s hs
    show rtR m (130 + (s : Int)) = (if s = k then o else sHd S s) ∧ (¬ (if s = k then o else sHd S s) = none → m 154 s = (if s = k then v else sHw S s)) ∧ rtR m (530 + (s : Int)) = (sSd S s).1 ∧ (if m 155 s = 0 then -1 else m 156 s) = (sSd S s).2 ∧ (0 ≤ m 157 s → rtR m (930 + (s : Int)) = (sSd S s).1)
    rw [rt (530 + (s : Int)) (by omega) (by omega), rt (930 + (s : Int)) (by omega) (by omega), c 155 _ (by omega) (by omega), c 156 _ (by omega) (by omega), c 157 _ (by omega) (by omega)]
    by_cases q : s = k
    · subst q
      rw [if_pos rfl, if_pos rfl]
      exact ⟨ho, fun _ => hv, a3, a4, a5⟩
    · rw [if_neg q, if_neg q, rt _ (by omega) (by omega), f 154 s (by omega) (by omega)]
      exact ⟨a1, a2, a3, a4, a5⟩
  · show m 161 j = (sPk S j).1 ∧ rtR m (30 + (j : Int)) = (sPk S j).2
    rw [c 161 _ (by omega) (by omega), rt _ (by omega) (by omega)]
    exact h2 j hj
  · rw [ea] at h0 ⊢
    exact h3.1 e he h0
  · rw [ea, em, c 106 72 (by omega) (by omega)]
    exact h3.2.1 x hx
  · refine List.Pairwise.imp (fun {x y} q => ?_) h3.2.2
    rw [em, em]
    exact q
  · rw [c 106 71 (by omega) (by omega)]; exact h4
  · rw [c 106 73 (by omega) (by omega)]; exact h5
  · rw [c 106 72 (by omega) (by omega)]; exact h6
theorem X12_eventAt_f_s {x : Nat} {Q : Int → mM → Prop} (k : Q (atR μ (evX x)) μ) : WP_X12_eventAt_Wf w μ (x : Int) Q := by
  refine ⟨fun c z ez _ => ?_, fun c z ez _ => ?_⟩
  · rw [(atR.hi (by omega)).1] at k
    rw [show ((x : Int) - 400).toNat = x - 400 by omega] at ez
    rw [← ez]; exact k
  · rw [(atR.lo (by omega)).1] at k
    rw [Int.toNat_natCast] at ez
    rw [← ez]; exact k
theorem X12_doEvent_s {x : Nat} {e : Ev} {q : List Ev} {Q : mM → Prop} (hw : mWF w) (hT : mT w μ) (ev : envR w μ E G) (hG : G μ) (gG : gSt G) (st : snR μ E S) (sn : snG E S) (en : enG E) (hM : 0 ≤ sMd S ∧ sMd S + 20 < 2147483647)
    (hq : sQu S = e :: q) (hx : x < 800) (hxe : evX x = e.2) (k : ∀ m : mM, snR m E (doEv E S e) → G m → loR μ m → Q m) : WP_X12_doEvent_W w μ (x : Int) Q := by
  have t20 := en.1.2.2.1
  have d10 := en.1.2.2.2.1
  have hin : e ∈ sQu S := by rw [hq]; exact List.mem_cons_self
  obtain ⟨hi, h0, hup⟩ := sn.2.2.2.2.2.1 _ hin
  obtain ⟨b1, b2, b3, b4⟩ := st.2.2.1.2.1 e hin
  obtain ⟨v, i⟩ := e
  have hi : i < 40 * eT E := hi
  have h0 : 0 ≤ v := h0
  have hup : ¬ eU E (i / 40) = 0 := hup
  have b2 : atR μ i = v := b2
  have hxe : evX x = i := hxe
  intro n en0 hn
  refine X12_eventAt_f_s ?_
  rw [hxe, b2]
  intro _ m1 u1 T1 z71 e71 _ z74 r74 e74 m2 u2 T2 z80 e80 z84 e84 z87 e87 z90 e90 z93 e93
  obtain rfl := u1.is
  obtain rfl := u2.is
  have hs2 : i / 2 = x % 400 ∧ (i % 2 = 1 ↔ 400 ≤ x) := by
    unfold evX at hxe
    by_cases c : x < 400
    · rw [if_pos c] at hxe; omega
    · rw [if_neg c] at hxe; omega
  have x80 : z80 = ((i / 2 : Nat) : Int) := by omega
  have x84 : z84 = ((i / 40 : Nat) : Int) := by omega
  have x90 : z90 = ((i / 20 % 2 : Nat) : Int) := by omega
  have x93 : z93 = ((i / 2 % 10 : Nat) : Int) := by omega
  subst x80 x84 x90 x93
  have ht : i / 40 < eT E := by omega
  have hne := (en.1.1 _ ht).1
  obtain ⟨a1, a2, a3, a4, a5, a6⟩ := ev.2.2.2.1 _ ht
  have z71e : z71 = μ 106 73 := by rw [← e71, mUp.no (by omega)]
  have lowM : ∀ (b j : Nat), ¬ (b = 106 ∧ (j = 71 ∨ j = 73)) → mUp (mUp μ 106 71 v) 106 73 z74 b j = μ b j := fun b j c => by rw [mUp.no (by omega), mUp.no (by omega)]
  have F2 : mF lER w μ (mUp (mUp μ 106 71 v) 106 73 z74) := ((mF.refl.up (A_106 hw) mUp_ok rfl).up (A_106 hw) mUp_ok rfl)
  refine ⟨fun c m3 u3 T3 => ?_, fun c m3 u3 T3 za ea _ zb eb _ => ?_⟩
  · obtain rfl := u3.is
    have even : ¬ i % 2 = 1 := by omega
    have s3 : snR (mUp (mUp (mUp μ 106 71 v) 106 73 z74) 157 ((i / 2 : Nat) : Int).toNat (-1)) E (qu! (dn! (ck! S v)) (remQ i (sQu S))) := st.step hw hT b1 (fun b j q1 q2 q3 => by rw [mUp.no (by omega)]; exact lowM b j q1) (by
      unfold atR
      rw [if_pos (by omega), mUp.yes ⟨rfl, by omega⟩]) (by rw [mUp.no (by omega), mUp.no (by omega), mUp.yes ⟨rfl, rfl⟩]) (by rw [mUp.no (by omega), mUp.yes ⟨rfl, rfl⟩, ← z71e]; exact e74)
    have F3 : mF lER w μ (mUp (mUp (mUp μ 106 71 v) 106 73 z74) 157 ((i / 2 : Nat) : Int).toNat (-1)) := F2.up (A_157 hw) mUp_ok rfl
    have sl : (2 * ((i / 40 : Nat) : Int) + (1 - ((i / 20 % 2 : Nat) : Int))) * 10 + ((i / 2 % 10 : Nat) : Int) = ((slt (i / 40) (1 - i / 20 % 2) (i / 2 % 10) : Nat) : Int) := by unfold slt; omega
    show (0 ≤ (2 * ((i / 40 : Nat) : Int) + (1 - ((i / 20 % 2 : Nat) : Int))) * 10 + ((i / 2 % 10 : Nat) : Int) ∧ (2 * ((i / 40 : Nat) : Int) + (1 - ((i / 20 % 2 : Nat) : Int))) * 10 + ((i / 2 % 10 : Nat) : Int) ≤ 449) → _
    rw [sl]
    intro r9 z9 _ _
    have s400 : slt (i / 40) (1 - i / 20 % 2) (i / 2 % 10) < 400 := by unfold slt; omega
    refine X12_copy_s (by omega) (by omega) (by omega) (T3.rb hw (by omega)).1.2 (T3.rb hw (by omega)).2.2 fun m4 r4 _ o4 T4 F4 y4 _ m5 u5 T5 zd ed _ => ?_
    obtain rfl := u5.is
    have said : rtR (mUp (mUp (mUp μ 106 71 v) 106 73 z74) 157 ((i / 2 : Nat) : Int).toNat (-1)) (930 + ((i / 2 : Nat) : Int)) = (sSd S (i / 2)).1 := by
      have g := (st.1 (i / 2) (by omega)).2.2.2.2
      have at_ : 0 ≤ μ 157 (i / 2) := by
        unfold atR at b2
        rw [if_pos (by omega)] at b2
        omega
      rw [← g at_]
      exact rtR.cg (hT.rb hw (by omega)).1.2 (hT.rb hw (by omega)).2.2 fun j hj => by rw [mUp.no (by omega)]; exact lowM _ _ (by omega)
    have s5 := snR.hear (m := mUp m4 154 ((slt (i / 40) (1 - i / 20 % 2) (i / 2 % 10) : Nat) : Int).toNat v) (k := slt (i / 40) (1 - i / 20 % 2) (i / 2 % 10)) (o := (sSd S (i / 2)).1) (v := v) s3 hw T3 s400 t20 d10 (fun b j q1 q2 => by
      rw [mUp.no (by omega)]
      exact o4 b j q1) (by
      rw [rtR.cg (μ := m4) (s := 130 + ((slt (i / 40) (1 - i / 20 % 2) (i / 2 % 10) : Nat) : Int)) (T4.rb hw (by omega)).1.2 (T4.rb hw (by omega)).2.2 (fun j hj => mUp.no (by omega)), r4]
      exact said) (mUp.yes ⟨rfl, by omega⟩)
    have g5 : G (mUp m4 154 ((slt (i / 40) (1 - i / 20 % 2) (i / 2 % 10) : Nat) : Int).toNat v) := gG μ _ hG fun b j q1 q2 q3 => by
      rw [mUp.no (by omega), o4 b j (by omega), mUp.no (by omega)]
      exact lowM b j (by omega)
    have F5 : mF lER w μ (mUp m4 154 ((slt (i / 40) (1 - i / 20 % 2) (i / 2 % 10) : Nat) : Int).toNat v) := (F3.call F4 rfl).up (A_154 hw) mUp_ok rfl
    have ev5 := ev.fr hw F5
    obtain ⟨c1, c2, _⟩ := ev5.2.2.2.1 _ ht
    have ed' : eN E (i / 40) (1 - i / 20 % 2) = zd := by
      rw [← ed]
      have z2 : i / 20 % 2 = 0 ∨ i / 20 % 2 = 1 := by omega
      rcases z2 with q | q
      · have e1 : eN E (i / 40) (1 - i / 20 % 2) = eB E (i / 40) := if_neg (by omega)
        have c2' := c2
        rw [e1, show (2 * ((i / 40 : Nat) : Int) + 1 - ((i / 20 % 2 : Nat) : Int)).toNat = 2 * (i / 40) + 1 by omega]
        exact c2'.symm
      · have e1 : eN E (i / 40) (1 - i / 20 % 2) = eA E (i / 40) := if_pos (by omega)
        have c1' := c1
        rw [e1, show (2 * ((i / 40 : Nat) : Int) + 1 - ((i / 20 % 2 : Nat) : Int)).toNat = 2 * (i / 40) by omega]
        exact c1'.symm
    obtain ⟨d, edd, hd⟩ := eN.dom (s := 1 - i / 20 % 2) en.1 ht
    have dv := doEv.hear (E := E) (S := S) (e := (v, i)) even
    rw [← ed', edd]
    rw [edd] at dv
    refine X12_look_s hw T5 ev5 g5 gG s5 (snG.come (e := (v, i)) sn h0) en.1 en.2.1 en.2.2.1 hd (by omega) hM fun m s g l _ _ => k m ?_ g fun j hj => ?_
    · rw [dv]; exact s
    · rw [l j hj, mUp.no (by omega), o4 126 j (by unfold slt; omega), mUp.no (by omega)]
      exact lowM _ _ (by omega)
  · obtain rfl := u3.is
    have odd : i % 2 = 1 := by omega
    have s3 : snR (mUp (mUp (mUp μ 106 71 v) 106 73 z74) 159 ((i / 2 : Nat) : Int).toNat (-1)) E (qu! (dn! (ck! S v)) (remQ i (sQu S))) := st.step hw hT b1 (fun b j q1 q2 q3 => by rw [mUp.no (by omega)]; exact lowM b j q1) (by
      unfold atR
      rw [if_neg (by omega), mUp.yes ⟨rfl, by omega⟩]) (by rw [mUp.no (by omega), mUp.no (by omega), mUp.yes ⟨rfl, rfl⟩]) (by rw [mUp.no (by omega), mUp.yes ⟨rfl, rfl⟩, ← z71e]; exact e74)
    have F3 : mF lER w μ (mUp (mUp (mUp μ 106 71 v) 106 73 z74) 159 ((i / 2 : Nat) : Int).toNat (-1)) := F2.up (A_159 hw) mUp_ok rfl
    have g3 : G (mUp (mUp (mUp μ 106 71 v) 106 73 z74) 159 ((i / 2 : Nat) : Int).toNat (-1)) := gG μ _ hG fun b j q1 q2 q3 => by
      rw [mUp.no (by omega)]
      exact lowM b j (by omega)
    have ev3 := ev.fr hw F3
    obtain ⟨c1, c2, c3, _⟩ := ev3.2.2.2.1 _ ht
    have dv := doEv.say (E := E) (S := S) (e := (v, i)) odd
    have lo3 : loR μ (mUp (mUp (mUp μ 106 71 v) 106 73 z74) 159 ((i / 2 : Nat) : Int).toNat (-1)) := fun j hj => by
      rw [mUp.no (by omega)]
      exact lowM _ _ (by omega)
    have eza : za = eA E (i / 40) := by
      rw [← ea, ← c1]
      congr 1
    have ezb : zb = eB E (i / 40) := by
      rw [← eb, ← c2]
      congr 1
    have up : ∀ (L : List Nat) (dd : Int), dd = eN E (i / 40) (i / 20 % 2) → WP_X12_say_W w (mUp (mUp (mUp μ 106 71 v) 106 73 z74) 159 ((i / 2 : Nat) : Int).toNat (-1)) dd ((i / 40 : Nat) : Int) ((i / 2 % 10 : Nat) : Int) (fun m => mT w m → mF L w (mUp (mUp (mUp μ 106 71 v) 106 73 z74) 159 ((i / 2 : Nat) : Int).toNat (-1)) m → Q m) := fun L dd hdd => X12_say_s hw T3 ev3 g3 gG s3 (sn.step h0) en.1 ht (by omega) hdd (by omega) hup ⟨hM.1, by have := hM.2; show sMd S < 2147483647; omega⟩ en.2.1 fun m s g l _ _ => k m (by rw [dv]; exact s) g (lo3.trans l)
    refine ⟨fun q2 => up _ _ ?_, fun q2 => up _ _ ?_⟩
    · rw [eza]
      unfold eN
      rw [if_pos (by omega)]
    · rw [ezb]
      unfold eN
      rw [if_neg (by omega)]
end EvR
end
section
/-! Going on: so many events; up to a moment. -/
theorem snC.clock {μ : mM} {E : En} {S : Sn} {v : Int} (h : snC μ E S) (ly : LYC μ (eT E) (eD E)) : snC (mUp μ 32 11 v) E (ck! S v) := by
  obtain ⟨h1, h2, h3, h4, h5, h6, h7⟩ := h
  have f : ∀ b i, ¬ (b = 32 ∧ i = 11) → mUp μ 32 11 v b i = μ b i := fun b i q => mUp.no q
  have tb : ∀ s, tbA (mUp μ 32 11 v) s = tbA μ s := fun s => congrArg Int.toNat (f 11 s (by omega))
  have db : ∀ s, dbA (mUp μ 32 11 v) s = dbA μ s := fun s => congrArg Int.toNat (f 10 s (by omega))
  have rt : ∀ a, 35 ≤ a → rtC (mUp μ 32 11 v) a = rtC μ a := fun a ha => rtC.of (fun i => f _ _ (by omega)) (fun i => f _ _ (by omega)) (fun i => f _ _ (by omega))
  refine ⟨fun s j hs hj => ?_, fun d p hd hp => ?_, ?_, fun i hi => ?_, mUp.yes ⟨rfl, rfl⟩, ?_, ?_⟩
  · have a := ly.1 s hs
    show rtC (mUp μ 32 11 v) (tbA (mUp μ 32 11 v) s + 4 + 6 * j) = _ ∧ (_ → mUp μ 32 11 v (tbA (mUp μ 32 11 v) s + 4 + 6 * j) 9 = _) ∧ rtC (mUp μ 32 11 v) (tbA (mUp μ 32 11 v) s + 7 + 6 * j) = _ ∧ mUp μ 32 11 v (tbA (mUp μ 32 11 v) s + 7 + 6 * j) 9 = _
    rw [tb, rt _ (by omega), f (tbA μ s + 4 + 6 * j) 9 (by omega), rt _ (by omega), f (tbA μ s + 7 + 6 * j) 9 (by omega)]
    exact h1 s j hs hj
  · have a := ly.2.1 d hd
    show mUp μ 32 11 v (dbA (mUp μ 32 11 v) d + 3) p = _ ∧ rtC (mUp μ 32 11 v) (dbA (mUp μ 32 11 v) d + 5 + 3 * p) = _
    rw [db, f _ _ (by omega), rt _ (by omega)]
    exact h2 d p hd hp
  · have e : evC (mUp μ 32 11 v) = evC μ := by
      rw [evC.eq, evC.eq, f 32 10 (by omega)]
      refine lst.ext fun i _ => ?_
      rw [f 33 i (by omega), f 34 _ (by omega)]
    rw [e]; exact h3
  · rw [f 34 i (by omega)]; exact h4 i hi
  · rw [f 32 12 (by omega)]; exact h6
  · rw [rt 70 (by omega)]; exact h7
theorem snR.clock {μ : mM} {E : En} {S : Sn} {v : Int} {w : mW} (h : snR μ E S) (hw : mWF w) (hT : mT w μ) : snR (mUp μ 106 71 v) E (ck! S v) := by
  obtain ⟨h1, h2, h3, h4, h5, h6⟩ := h
  have f : ∀ b i, ¬ (b = 106 ∧ i = 71) → mUp μ 106 71 v b i = μ b i := fun b i q => mUp.no q
  have rt : ∀ r : Int, 0 ≤ r → rtR (mUp μ 106 71 v) r = rtR μ r := fun r hr => rtR.cg (hT.rb hw hr).1.2 (hT.rb hw hr).2.2 fun k hk => f _ _ (by omega)
  have ea : ∀ e, atR (mUp μ 106 71 v) e = atR μ e := fun e => by
    unfold atR
    rw [f 157 _ (by omega), f 159 _ (by omega)]
  have em : ∀ e, mdR (mUp μ 106 71 v) e = mdR μ e := fun e => by
    unfold mdR
    rw [f 158 _ (by omega), f 160 _ (by omega)]
  refine ⟨fun s hs => ?_, fun k hk => ?_, ⟨fun e he h0 => ?_, fun x hx => ?_, ?_⟩, mUp.yes ⟨rfl, rfl⟩, ?_, ?_⟩
  · rw [rt _ (by omega), rt _ (by omega), rt _ (by omega), f 154 _ (by omega), f 155 _ (by omega), f 156 _ (by omega), f 157 _ (by omega)]
    exact h1 s hs
  · rw [f 161 _ (by omega), rt _ (by omega)]
    exact h2 k hk
  · rw [ea] at h0 ⊢
    exact h3.1 e he h0
  · rw [ea, em, f 106 72 (by omega)]
    exact h3.2.1 x hx
  · refine List.Pairwise.imp (fun {x y} q => ?_) h3.2.2
    rw [em, em]
    exact q
  · rw [f 106 73 (by omega)]; exact h5
  · rw [f 106 72 (by omega)]; exact h6
theorem goE.stop {E : En} {m : Int} {n : Nat} {S : Sn} (h : nextE E m S = none) : goE E m n S = (0, S) := by
  cases n with
  | zero => rfl
  | succ n =>
    show (match nextE E m S with | none => (0, S) | some S1 => ((goE E m n S1).1 + 1, (goE E m n S1).2)) = (0, S)
    rw [h]
theorem goE.more {E : En} {m : Int} {n : Nat} {S S1 : Sn} (h : nextE E m S = some S1) : goE E m (n + 1) S = ((goE E m n S1).1 + 1, (goE E m n S1).2) := by
  show (match nextE E m S with | none => (0, S) | some S1 => ((goE E m n S1).1 + 1, (goE E m n S1).2)) = _
  rw [h]
/-- where a run stands after i events: what is left of it -/
def goAt (E : En) (m : Int) (n : Nat) (S : Sn) (i : Nat) (T : Sn) : Prop := i ≤ n ∧ mdG E S (20 * (i : Int)) T ∧ (goE E m n S).1 = i + (goE E m (n - i) T).1 ∧ (goE E m n S).2 = (goE E m (n - i) T).2
theorem goAt.zero {E : En} {m : Int} {n : Nat} {S : Sn} (h : snG E S) : goAt E m n S 0 S := ⟨Nat.zero_le _, (mdG.refl h).le (by omega), by rw [Nat.sub_zero, Nat.zero_add], by rw [Nat.sub_zero]⟩
theorem goAt.all {E : En} {m : Int} {n : Nat} {S T : Sn} (h : goAt E m n S n T) : (goE E m n S).1 = n ∧ (goE E m n S).2 = T := by
  obtain ⟨_, _, h3, h4⟩ := h
  rw [Nat.sub_self] at h3 h4
  exact ⟨h3, h4⟩
theorem goAt.stop {E : En} {m : Int} {n i : Nat} {S T : Sn} (h : goAt E m n S i T) (e : nextE E m T = none) : (goE E m n S).1 = i ∧ (goE E m n S).2 = T := by
  obtain ⟨_, _, h3, h4⟩ := h
  rw [goE.stop e] at h3 h4
  exact ⟨h3, h4⟩
theorem nextE.of {E : En} {m : Int} {S T : Sn} (h : nextE E m S = some T) : ∃ e q, sQu S = e :: q ∧ e.1 ≤ m ∧ T = doEv E S e := by
  cases c : sQu S with
  | nil => rw [nextE.nil c] at h; cases h
  | cons e q =>
    by_cases g : m < e.1
    · rw [nextE.late c g] at h; cases h
    · rw [nextE.go c (by omega)] at h
      cases h
      exact ⟨e, q, rfl, by omega, rfl⟩
theorem goAt.next {E : En} {m : Int} {n i : Nat} {S T U : Sn} (en : enG E) (h : goAt E m n S i T) (hi : i < n) (e : nextE E m T = some U) : goAt E m n S (i + 1) U := by
  obtain ⟨_, h2, h3, h4⟩ := h
  rw [show n - i = (n - (i + 1)) + 1 by omega, goE.more e] at h3 h4
  obtain ⟨x, q, e1, _, e3⟩ := nextE.of e
  have hx := h2.1.2.2.2.2.2.1 x (by rw [e1]; exact List.mem_cons_self)
  refine ⟨hi, ?_, ?_, h4⟩
  · rw [e3]
    exact (h2.trans (doEv.cn h2.1 en ⟨hx.2.1, hx.1⟩)).le (by omega)
  · have h3 : (goE E m n S).1 = i + ((goE E m (n - (i + 1)) U).1 + 1) := h3
    omega
/-- the clock passes to a moment if nothing waits up to it -/
noncomputable def passE (E : En) (v : Int) (S : Sn) : Sn := cIf (nextE E v S = none) (ck! S v) S
section GoC
variable {w : mW} {μ : mM} {E : En} {S : Sn}
theorem X11_go_s {n : Int} {Q : Int → mM → Prop} (hw : mWF w) (hT : mT w μ) (ev : envC w μ E) (st : snC μ E S) (sn : snG E S) (en : enG E) (k0 : ¬ (1 ≤ n ∧ n ≤ 500) → Q (-1) μ)
    (k1 : 1 ≤ n → n ≤ 500 → ∀ m : mM, snC m E (goE E 2000000000 n.toNat S).2 → loD μ m → Q ((goE E 2000000000 n.toNat S).1 : Int) m) : WP_X11_go_W w μ n Q := by
  refine ⟨fun c => k0 (by omega), fun c => ⟨fun c2 => ?_, fun c2 => k0 (by omega)⟩⟩
  refine loopF.im (fun z m => 0 ≤ z ∧ z ≤ n ∧ loD μ m ∧ ∃ T, snC m E T ∧ goAt E 2000000000 n.toNat S z.toNat T) (fun z => (501 - z).toNat) ⟨by omega, by omega, loD.refl, S, st, goAt.zero sn⟩ (by omega) ?_
  rintro rc z m ⟨z0, z1, lo, U, hs, hg⟩ ih z' m' e hz T F
  cases e
  have evm := envC.fr hw hT ev (mF.refl.call F rfl)
  refine ⟨fun g => ?_, fun g => ?_⟩
  · have e : z.toNat = n.toNat := by omega
    rw [e] at hg
    have a := hg.all
    have kk := k1 c c2 m (by rw [a.2]; exact hs) lo
    rw [a.1, show ((n.toNat : Nat) : Int) = z by omega] at kk
    exact kk
  · refine X8_doNext_s hw T evm hs hg.2.1.1 en (fun e _ _ _ => ⟨fun _ => ?_, fun q => absurd rfl q⟩) (fun m2 U2 e s2 l2 _ _ _ => ⟨fun q => absurd q (by decide), fun _ => ih _ _ ⟨by omega, by omega, lo.trans l2, U2, s2, ?_⟩ (by omega)⟩)
    · have a := hg.stop e
      have kk := k1 c c2 m (by rw [a.2]; exact hs) lo
      rw [a.1, Int.toNat_of_nonneg z0] at kk
      exact kk
    · rw [show (z + 1).toNat = z.toNat + 1 by omega]
      exact hg.next en (by omega) e
theorem X8_passTo_s {v : Int} {Q : mM → Prop} (ev : envC w μ E) (st : snC μ E S) (k : ∀ m : mM, snC m E (passE E v S) → (∀ b i, ¬ (b = 32 ∧ i = 11) → m b i = μ b i) → Q m) : WP_X8_passTo_W w μ v Q := by
  have ly := ev.2.2.2.1
  have eq0 := st.2.2.1
  rw [evC.eq] at eq0
  have pass : nextE E v S = none → ∀ m : mM, mU μ 32 11 v m → Q m := fun e m u => by
    obtain rfl := u.is
    refine k _ ?_ (fun b i q => mUp.no q)
    unfold passE
    rw [cIf.pos e]
    exact st.clock ly
  intro z1 e1 r1
  refine ⟨fun c m u _ => pass (nextE.nil ?_) m u, fun c z8 e8 r8 z12 e12 r12 => ?_⟩
  · rw [← eq0, e1, c]; rfl
  obtain ⟨n, en1⟩ : ∃ n, (μ 32 10).toNat = n + 1 := ⟨(μ 32 10).toNat - 1, by omega⟩
  rw [en1, lst.head] at eq0
  have e8' : μ 33 0 = z8 := e8
  rw [e8', e12] at eq0
  refine ⟨fun g => k μ ?_ (fun _ _ _ => rfl), fun g m u _ => pass (nextE.late eq0.symm g) m u⟩
  unfold passE
  rw [cIf.neg (by rw [nextE.go eq0.symm g]; exact fun q => by cases q)]
  exact st
theorem X11_until_s {v : Int} {Q : Int → mM → Prop} (hw : mWF w) (hT : mT w μ) (ev : envC w μ E) (st : snC μ E S) (sn : snG E S) (en : enG E) (k0 : ¬ (sCk S ≤ v ∧ v ≤ 1000000000) → Q (-1) μ)
    (k1 : sCk S ≤ v → v ≤ 1000000000 → ∀ m : mM, snC m E (passE E v (goE E v 500 S).2) → loD μ m → Q ((goE E v 500 S).1 : Int) m) : WP_X11_until_W w μ v Q := by
  intro z1 e1 _
  rw [st.2.2.2.2.1] at e1
  subst e1
  refine ⟨fun c => k0 (by omega), fun c => ⟨fun c2 => ?_, fun c2 => k0 (by omega)⟩⟩
  refine loopF.im (fun z m => 0 ≤ z ∧ z ≤ 500 ∧ loD μ m ∧ ∃ T, snC m E T ∧ goAt E v 500 S z.toNat T) (fun z => (501 - z).toNat) ⟨by omega, by omega, loD.refl, S, st, goAt.zero sn⟩ (by omega) ?_
  rintro rc z m ⟨z0, z1, lo, U, hs, hg⟩ ih z' m' e hz T F
  cases e
  have evm := envC.fr hw hT ev (mF.refl.call F rfl)
  have fin : (goE E v 500 S).1 = z.toNat ∧ (goE E v 500 S).2 = U → ∀ L : List Nat, WP_X8_passTo_W w m v (fun m2 => mT w m2 → mF L w m m2 → Q z m2) := fun a L => X8_passTo_s evm hs fun m2 s2 f2 _ _ => by
    have kk := k1 c c2 m2 (by rw [a.2]; exact s2) (lo.trans fun b i h0 h1 h2 h3 h4 h5 h6 => f2 b i (by omega))
    rw [a.1, Int.toNat_of_nonneg z0] at kk
    exact kk
  refine ⟨fun g => ?_, fun g => ?_⟩
  · have e : z.toNat = 500 := by omega
    rw [e] at hg
    exact fin (by rw [e]; exact hg.all) _
  · refine X8_doNext_s hw T evm hs hg.2.1.1 en (fun e _ _ _ => ⟨fun _ => fin (hg.stop e) _, fun q => absurd rfl q⟩) (fun m2 U2 e s2 l2 _ _ _ => ⟨fun q => absurd q (by decide), fun _ => ih _ _ ⟨by omega, by omega, lo.trans l2, U2, s2, ?_⟩ (by omega)⟩)
    rw [show (z + 1).toNat = z.toNat + 1 by omega]
    exact hg.next en (by omega) e
end GoC
section GoR
variable {w : mW} {μ : mM} {E : En} {S : Sn} {G : mM → Prop}
theorem X12_in_s {x a b : Int} {Q : Int → mM → Prop} (k : ∀ z : Int, (z = 1 ↔ (a ≤ x ∧ x ≤ b)) → Q z μ) : WP_X12_in_W w μ x a b Q := by
  refine ⟨fun c => k 0 ⟨fun e => absurd e (by decide), fun e => by omega⟩, fun c => ⟨fun c2 => k 0 ⟨fun e => absurd e (by decide), fun e => by omega⟩, fun c2 => k 1 ⟨fun _ => ⟨by omega, by omega⟩, fun _ => rfl⟩⟩⟩
/-- what comes next, as the reference tells it -/
def cmR (q : List Ev) (b : Int) : Prop := (b = -99999999 ∧ ∀ e ∈ q, 2000000000 < e.1) ∨ ∃ (x : Nat) (e : Ev) (r : List Ev), b = (x : Int) ∧ q = e :: r ∧ e.1 ≤ 2000000000 ∧ x < 800 ∧ evX x = e.2
theorem X12_nextEvent_n_s {q : List Ev} {Q : Int → mM → Prop} (hq : quR μ q) (k : ∀ z : Int, cmR q z → Q z μ) : WP_X12_nextEvent_Wev w μ Q := X12_nextEvent_ev_s hq (fun h => k _ (Or.inl ⟨rfl, h⟩)) (fun x e r h1 h2 h3 h4 => k _ (Or.inr ⟨x, e, r, rfl, h1, h2, h3, h4⟩))
theorem cmR.none' {q : List Ev} (h : cmR q (-99999999)) : ∀ e ∈ q, 2000000000 < e.1 := by
  rcases h with ⟨_, h⟩ | ⟨x, e, r, h, _⟩
  · exact h
  · omega
theorem nextE.far {E : En} {S : Sn} {v : Int} (hv : v ≤ 2000000000) (h : ∀ e ∈ sQu S, 2000000000 < e.1) : nextE E v S = none := by
  cases c : sQu S with
  | nil => exact nextE.nil c
  | cons e q => exact nextE.late c (by have := h e (by rw [c]; exact List.mem_cons_self); omega)
theorem X12_go_s {n : Int} {Q : Int → mM → Prop} (hw : mWF w) (ev : envR w μ E G) (hG : G μ) (gG : gSt G) (st : snR μ E S) (sn : snG E S) (en : enG E) (hM : 0 ≤ sMd S ∧ sMd S + 10100 < 2147483647) (k0 : ¬ (1 ≤ n ∧ n ≤ 500) → Q (-1) μ)
    (k1 : 1 ≤ n → n ≤ 500 → ∀ m : mM, snR m E (goE E 2000000000 n.toNat S).2 → G m → loR μ m → Q ((goE E 2000000000 n.toNat S).1 : Int) m) : WP_X12_go_W w μ n Q := by
  refine X12_in_s fun y hy ry => ⟨fun cy => ?_, fun cy => k0 fun q => by have := hy.mpr q; omega⟩
  obtain ⟨c, c2⟩ := hy.mp (by omega)
  refine loopF.im (fun z m => 0 ≤ z ∧ z ≤ n ∧ G m ∧ loR μ m ∧ ∃ T, snR m E T ∧ goAt E 2000000000 n.toNat S z.toNat T) (fun z => (501 - z).toNat) ⟨by omega, by omega, hG, fun _ _ => rfl, S, st, goAt.zero sn⟩ (by omega) ?_
  rintro rc z m ⟨z0, z1, gm, lo, U, hs, hg⟩ ih z' m' e hz T F
  cases e
  have evm := ev.fr hw (mF.refl.call F rfl)
  refine ⟨fun g => ?_, fun g => ?_⟩
  · have e : z.toNat = n.toNat := by omega
    rw [e] at hg
    have a := hg.all
    have kk := k1 c c2 m (by rw [a.2]; exact hs) gm lo
    rw [a.1, show ((n.toNat : Nat) : Int) = z by omega] at kk
    exact kk
  refine X12_nextEvent_n_s hs.2.2.1 fun b hb _ => ⟨fun q => ?_, fun q => X12_nextEvent_n_s hs.2.2.1 fun b2 hb2 _ ti eti hti => ?_⟩
  · rw [q] at hb
    have a := hg.stop (nextE.far (Int.le_refl _) hb.none')
    have kk := k1 c c2 m (by rw [a.2]; exact hs) gm lo
    rw [a.1, Int.toNat_of_nonneg z0] at kk
    exact kk
  · rcases hb2 with ⟨_, h2⟩ | ⟨x, e, r, h1, h2, h3, h4, h5⟩
    · rcases hb with ⟨h1, _⟩ | ⟨x, e, r, h1, h2', h3, _⟩
      · exact absurd h1 q
      · have := h2 e (by rw [h2']; exact List.mem_cons_self)
        omega
    · subst h1
      have m1 := hg.2.1.2.1
      have m2 := hg.2.1.2.2
      refine X12_doEvent_s hw T evm gm gG hs hg.2.1.1 en ⟨by omega, by omega⟩ h2 h4 h5 fun m2 s2 g2 l2 _ _ => ih _ _ ⟨by omega, by omega, g2, lo.trans l2, _, s2, ?_⟩ (by omega)
      rw [show (z + 1).toNat = z.toNat + 1 by omega]
      exact hg.next en (by omega) (nextE.go h2 h3)
theorem X12_eventAt_s {x : Nat} {Q : Int → mM → Prop} (k : Q (atR μ (evX x)) μ) : WP_X12_eventAt_W w μ (x : Int) Q := by
  refine ⟨fun c z ez _ => ?_, fun c z ez _ => ?_⟩
  · rw [(atR.hi (by omega)).1] at k
    rw [show ((x : Int) - 400).toNat = x - 400 by omega] at ez
    rw [← ez]; exact k
  · rw [(atR.lo (by omega)).1] at k
    rw [Int.toNat_natCast] at ez
    rw [← ez]; exact k
theorem X12_until_s {v : Int} {Q : Int → mM → Prop} (hw : mWF w) (hT : mT w μ) (ev : envR w μ E G) (hG : G μ) (gG : gSt G) (st : snR μ E S) (sn : snG E S) (en : enG E) (hM : 0 ≤ sMd S ∧ sMd S + 10100 < 2147483647) (k0 : ¬ (sCk S ≤ v ∧ v ≤ 1000000000) → Q (-1) μ)
    (k1 : sCk S ≤ v → v ≤ 1000000000 → ∀ m : mM, snR m E (passE E v (goE E v 500 S).2) → G m → loR μ m → Q ((goE E v 500 S).1 : Int) m) : WP_X12_until_W w μ v Q := by
  intro z1 e1 _
  rw [st.2.2.2.1] at e1
  subst e1
  refine ⟨fun c => k0 (by omega), fun c => ⟨fun c2 => ?_, fun c2 => k0 (by omega)⟩⟩
  refine X12_nextEvent_n_s st.2.2.1 fun b0 hb0 rb0 => ?_
  refine loopF.iim (fun z b m => 0 ≤ z ∧ z ≤ 500 ∧ G m ∧ loR μ m ∧ ∃ T, snR m E T ∧ cmR (sQu T) b ∧ goAt E v 500 S z.toNat T) (fun z _ => (501 - z).toNat) ⟨by omega, by omega, hG, fun _ _ => rfl, S, st, hb0, goAt.zero sn⟩ (by omega) ?_
  rintro rc z b m ⟨z0, z1, gm, lo, U, hs, hb, hg⟩ ih z' b' m' e hz hbb T F
  cases e
  have evm := ev.fr hw (mF.refl.call F rfl)
  have at_ : ∀ (x : Nat) (e : Ev) (r : List Ev), sQu U = e :: r → evX x = e.2 → atR m (evX x) = e.1 := fun x e r h1 h2 => by
    rw [h2]
    exact (hs.2.2.1.2.1 e (by rw [h1]; exact List.mem_cons_self)).2.1
  have fin : (goE E v 500 S).1 = z.toNat ∧ (goE E v 500 S).2 = U → ∀ m2 : mM, snR m2 E (passE E v U) → G m2 → loR m m2 → Q z m2 := fun a m2 s2 g2 l2 => by
    have kk := k1 c c2 m2 (by rw [a.2]; exact s2) g2 (lo.trans l2)
    rw [a.1, Int.toNat_of_nonneg z0] at kk
    exact kk
  have pass : (goE E v 500 S).1 = z.toNat ∧ (goE E v 500 S).2 = U → nextE E v U = none → ∀ m2 : mM, mU m 106 71 v m2 → Q z m2 := fun a e m2 u => by
    obtain rfl := u.is
    refine fin a _ ?_ (gG m _ gm fun b i q1 q2 q3 => mUp.no (by omega)) (fun i hi => mUp.no (by omega))
    unfold passE
    rw [cIf.pos e]
    exact hs.clock hw T
  have J : (goE E v 500 S).1 = z.toNat ∧ (goE E v 500 S).2 = U → WJ_X12_until_W_2 w v Q z b m := fun a => by
    refine ⟨fun q m2 u2 _ => ?_, fun q => ?_⟩
    · rw [q] at hb
      exact pass a (nextE.far (by omega) hb.none') m2 u2
    · rcases hb with ⟨h1, _⟩ | ⟨x, e, r, h1, h2, h3, h4, h5⟩
      · exact absurd h1 q
      subst h1
      refine X12_eventAt_s ?_
      rw [at_ x e r h2 h5]
      intro _
      refine ⟨fun g => fin a m ?_ gm (fun _ _ => rfl), fun g m2 u2 _ => pass a (nextE.late h2 g) m2 u2⟩
      unfold passE
      rw [cIf.neg (by rw [nextE.go h2 g]; exact fun q => by cases q)]
      exact hs
  refine ⟨fun g => J ?_, fun g => ⟨fun q => J (hg.stop ?_), fun q => ?_⟩⟩
  · have e : z.toNat = 500 := by omega
    rw [e] at hg ⊢
    exact hg.all
  · rw [q] at hb
    exact nextE.far (by omega) hb.none'
  · rcases hb with ⟨h1, _⟩ | ⟨x, e, r, h1, h2, h3, h4, h5⟩
    · exact absurd h1 q
    subst h1
    refine X12_eventAt_s ?_
    rw [at_ x e r h2 h5]
    intro _
    refine ⟨fun g2 => J (hg.stop (nextE.late h2 g2)), fun g2 ti eti hti => ?_⟩
    have m1 := hg.2.1.2.1
    have m2 := hg.2.1.2.2
    refine X12_doEvent_s hw T evm gm gG hs hg.2.1.1 en ⟨by omega, by omega⟩ h2 h4 h5 fun m2 s2 g3 l2 _ _ => X12_nextEvent_n_s s2.2.2.1 fun b2 hb2 _ => ih _ _ _ ⟨by omega, by omega, g3, lo.trans l2, _, s2, hb2, ?_⟩ (by omega)
    rw [show (z + 1).toNat = z.toNat + 1 by omega]
    exact hg.next en (by omega) (nextE.go h2 g2)
end GoR
end
