/-! The class's domain and tie. -/
section MV36
variable {l : Launch} {D : va_G} {c : Nat → ClassId} {H0 : Heap} {sa : Nat × Nat × (Nat → Int32)} {w : mW} {μ : mM}
theorem mX.le {l l' : List Nat} {w w1 : mW} {μ μ1 : mM} (h : mX l w μ w1 μ1) (hs : (l.all fun x => l'.elem x) = true) : mX l' w μ w1 μ1 := by
  refine ⟨h.1, fun a i ha hl => h.2 a i ha ?_⟩
  cases hq : l.elem (mRg w a i) with
  | false => rfl
  | true =>
    have := (List.all_eq_true.mp hs) _ (List.elem_iff.mp hq)
    rw [hl] at this; cases this
theorem c_X11_domain (hw : mWF w) (hT : mT w μ) {n : Int} (q : μ 6 15 = n) : sC (gG l D c H0 sa) mX11_domain 7 35 442 [.ref 0] (mk w μ) (qIx w [6015, 10999] μ (fun z w1 μ1 => (n = 10 ∧ z = -3 ∧ w1 = w ∧ μ1 = μ) ∨ (n ≤ 9 ∧ z = n ∧ w1.2.2.2 = (wCt w 0).2.2.2 ∧ w1.1 = w.1 + 35 ∧ szW w1 = szW w + 442 ∧ μ1 6 15 = n + 1))) := by
  have h6 : μ 6 15 = w.2.2.2 0 ∧ 0 ≤ μ 6 15 ∧ μ 6 15 ≤ 10 := hT 6 6 (A_6 hw) 15
  refine sC.of rfl (by decide) (le_t rfl) ?_
  refine sv_aload_n (pc := 0) dX11_domain_0 rfl rfl ?_
  refine gf_X11_3 (pc := 1) dX11_domain_1 wF_X11_26 (A_0 hw) hT ?_
  refine gk_X10_15 (pc := 4) dX11_domain_4 wF_X11_98 (A_6 hw) q ?_
  refine mr_bipush (pc := 7) (z := 10) dX11_domain_7 (by decide) ?_
  refine mr_icmp_lt (pc := 9) (tgt := 15) dX11_domain_9 (by decide) ⟨by omega, by omega⟩ (by decide) (fun h1 => ?_) (fun h1 => ?_)
  · refine sv_aload_n (pc := 15) dX11_domain_15 rfl rfl ?_
    refine gf_X11_3 (pc := 16) dX11_domain_16 wF_X11_26 (A_0 hw) hT ?_
    refine mr_cVIX (pc := 19) (c_X10_addDomain hw hT q (by omega)) (gOk _ _ _ _ _) dX11_domain_19 (tX10_addDomain _ _ _ _ _) ⟨wV_X10_addDomain, wL_X10_addDomain⟩ wM_X11_101 (gCX10 _ _ _ _ _) rfl (A_6 hw) rfl ⟨le_t rfl, le_t rfl⟩ ⟨le_t rfl, le_t rfl⟩ rfl (le_t rfl) fun z w1 μ1 hw1 T1 X1 P1 => ?_
    exact mr_iretX (pc := 22) dX11_domain_22 rfl (le_t rfl) (le_t rfl) hw1 T1 X1 (Or.inr ⟨by omega, P1⟩)
  · refine mr_bipush (pc := 12) (z := -3) dX11_domain_12 (by decide) ?_
    exact mr_iretX (pc := 14) dX11_domain_14 rfl (le_t rfl) (le_t rfl) hw hT mX.refl (Or.inl ⟨by omega, rfl, rfl, rfl⟩)
theorem c_X11_tie (hw : mWF w) (hT : mT w μ) {p1 p2 p3 : Int} (hp1 : -2147483648 ≤ p1 ∧ p1 ≤ 2147483647) (hp2 : -2147483648 ≤ p2 ∧ p2 ≤ 2147483647) (hp3 : -2147483648 ≤ p3 ∧ p3 ≤ 2147483647) : sC (gG l D c H0 sa) mX11_tie 7 124 1653 [.ref 0, iv p1, iv p2, iv p3] (mk w μ) (qIx w [6016, 11999] μ (fun z w1 μ1 => (-2147483648 ≤ z ∧ z ≤ 2147483647) ∧ ((w1 = w ∧ μ1 = μ) ∨ (w1.2.2.2 = (wCt w 1).2.2.2 ∧ w1.1 = w.1 + 124 ∧ szW w1 = szW w + 1653)))) := by
  have h5 : μ 6 15 = w.2.2.2 0 ∧ 0 ≤ μ 6 15 ∧ μ 6 15 ≤ 10 := hT 6 6 (A_6 hw) 15
  have h6 : μ 6 16 = w.2.2.2 1 ∧ 0 ≤ μ 6 16 ∧ μ 6 16 ≤ 20 := hT 6 6 (A_6 hw) 16
  have same : ∀ {z : Int}, (-2147483648 ≤ z ∧ z ≤ 2147483647) → (-2147483648 ≤ z ∧ z ≤ 2147483647) ∧ ((w = w ∧ μ = μ) ∨ (w.2.2.2 = (wCt w 1).2.2.2 ∧ w.1 = w.1 + 124 ∧ szW w = szW w + 1653)) := fun h => ⟨h, Or.inl ⟨rfl, rfl⟩⟩
  refine sC.of rfl (by decide) (le_t rfl) ?_
  refine mr_lvE (lv' := [(0, .ref 0), (1, iv p1), (2, iv p2), (3, iv p3)]) rfl ?_
  have bad : sV (gG l D c H0 sa) mX11_tie (sRm 7 124 1653) (sZ (gG l D c H0 sa) 124 1653 (qIx w [6016, 11999] μ (fun z w1 μ1 => (-2147483648 ≤ z ∧ z ≤ 2147483647) ∧ ((w1 = w ∧ μ1 = μ) ∨ (w1.2.2.2 = (wCt w 1).2.2.2 ∧ w1.1 = w.1 + 124 ∧ szW w1 = szW w + 1653))))) 30 [(0, .ref 0), (1, iv p1), (2, iv p2), (3, iv p3)] [] (mk w μ) 0 0 := by
    refine mr_iconst (pc := 30) (z := -1) dX11_tie_30 ?_
    exact mr_iretX (pc := 31) dX11_tie_31 rfl (le_t rfl) (le_t rfl) hw hT mX.refl (same (by decide))
  refine sv_aload_n (pc := 0) dX11_tie_0 rfl rfl ?_
  refine mr_iload_n (pc := 1) (z := p1) dX11_tie_1 rfl rfl ?_
  refine mr_cVP (pc := 2) (c_X11_isDomain hw hT hp1 rfl) (gOk _ _ _ _ _) dX11_tie_2 (tX11_isDomain _ _ _ _ _) ⟨wV_X11_isDomain, wL_X11_isDomain⟩ wM_X11_105 (gCX11 _ _ _ _ _) rfl (A_0 hw) rfl ⟨le_t rfl, le_t rfl⟩ ⟨le_t rfl, le_t rfl⟩ rfl (le_t rfl) fun z1 h1 => ?_
  refine mr_if_eq (pc := 5) (tgt := 30) dX11_tie_5 (by decide) ⟨by omega, by omega⟩ (fun _ => bad) (fun e1 => ?_)
  refine sv_aload_n (pc := 8) dX11_tie_8 rfl rfl ?_
  refine mr_iload_n (pc := 9) (z := p2) dX11_tie_9 rfl rfl ?_
  refine mr_cVP (pc := 10) (c_X11_isDomain hw hT hp2 rfl) (gOk _ _ _ _ _) dX11_tie_10 (tX11_isDomain _ _ _ _ _) ⟨wV_X11_isDomain, wL_X11_isDomain⟩ wM_X11_105 (gCX11 _ _ _ _ _) rfl (A_0 hw) rfl ⟨le_t rfl, le_t rfl⟩ ⟨le_t rfl, le_t rfl⟩ rfl (le_t rfl) fun z2 h2 => ?_
  refine mr_if_eq (pc := 13) (tgt := 30) dX11_tie_13 (by decide) ⟨by omega, by omega⟩ (fun _ => bad) (fun e2 => ?_)
  refine mr_iload_n (pc := 16) (z := p1) dX11_tie_16 rfl rfl ?_
  refine mr_iload_n (pc := 17) (z := p2) dX11_tie_17 rfl rfl ?_
  refine mr_icmp_eq (pc := 18) (tgt := 30) dX11_tie_18 (by decide) hp1 hp2 (fun _ => bad) (fun _ => ?_)
  refine mr_iload_n (pc := 21) (z := p3) dX11_tie_21 rfl rfl ?_
  refine mr_if_lt (pc := 22) (tgt := 30) dX11_tie_22 (by decide) hp3 (fun _ => bad) (fun e3 => ?_)
  refine mr_iload_n (pc := 25) (z := p3) dX11_tie_25 rfl rfl ?_
  refine mr_iconst (pc := 26) (z := 2) dX11_tie_26 ?_
  refine mr_icmp_le (pc := 27) (tgt := 32) dX11_tie_27 (by decide) hp3 (by decide) (fun e4 => ?_) (fun _ => bad)
  refine sv_aload_n (pc := 32) dX11_tie_32 rfl rfl ?_
  refine gf_X11_3 (pc := 33) dX11_tie_33 wF_X11_26 (A_0 hw) hT ?_
  refine mr_iload_n (pc := 36) (z := p1) dX11_tie_36 rfl rfl ?_
  refine mr_iload_n (pc := 37) (z := p2) dX11_tie_37 rfl rfl ?_
  refine mr_cVP (pc := 38) (c_X10_tieBetween hw hT hp1 hp2) (gOk _ _ _ _ _) dX11_tie_38 (tX10_tieBetween _ _ _ _ _) ⟨wV_X10_tieBetween, wL_X10_tieBetween⟩ wM_X11_109 (gCX10 _ _ _ _ _) rfl (A_6 hw) rfl ⟨le_t rfl, le_t rfl⟩ ⟨le_t rfl, le_t rfl⟩ rfl (le_t rfl) fun z3 h3 => ?_
  refine mr_if_lt (pc := 41) (tgt := 47) dX11_tie_41 (by decide) ⟨by omega, by omega⟩ (fun _ => ?_) (fun _ => ?_)
  · refine sv_aload_n (pc := 47) dX11_tie_47 rfl rfl ?_
    refine gf_X11_3 (pc := 48) dX11_tie_48 wF_X11_26 (A_0 hw) hT ?_
    refine gk_X10_16 (pc := 51) dX11_tie_51 wF_X11_112 (A_6 hw) rfl ?_
    refine mr_bipush (pc := 54) (z := 20) dX11_tie_54 (by decide) ?_
    refine mr_icmp_lt (pc := 56) (tgt := 62) dX11_tie_56 (by decide) ⟨by omega, by omega⟩ (by decide) (fun h7 => ?_) (fun _ => ?_)
    · refine sv_aload_n (pc := 62) dX11_tie_62 rfl rfl ?_
      refine gf_X11_3 (pc := 63) dX11_tie_63 wF_X11_26 (A_0 hw) hT ?_
      refine mr_iload_n (pc := 66) (z := p1) dX11_tie_66 rfl rfl ?_
      refine mr_iload_n (pc := 67) (z := p2) dX11_tie_67 rfl rfl ?_
      refine mr_iload_n (pc := 68) (z := p3) dX11_tie_68 rfl rfl ?_
      have g1 := h1.2.1 (by omega)
      have g2 := h2.2.1 (by omega)
      refine mr_cVIX (pc := 69) (c_X10_addTie hw hT rfl (by omega) (x := p1) (y := p2) (z := p3) ⟨g1.1, by omega, by omega⟩ ⟨g2.1, by omega, by omega⟩ ⟨e3, e4⟩) (gOk _ _ _ _ _) dX11_tie_69 (tX10_addTie _ _ _ _ _) ⟨wV_X10_addTie, wL_X10_addTie⟩ wM_X11_115 (gCX10 _ _ _ _ _) rfl (A_6 hw) rfl ⟨le_t rfl, le_t rfl⟩ ⟨le_t rfl, le_t rfl⟩ rfl (le_t rfl) fun z w1 μ1 hw1 T1 X1 P1 => ?_
      exact mr_iretX (pc := 72) dX11_tie_72 rfl (le_t rfl) (le_t rfl) hw1 T1 X1 ⟨by have := P1.1; omega, Or.inr ⟨P1.2.1, P1.2.2.1, P1.2.2.2.1⟩⟩
    · refine mr_bipush (pc := 59) (z := -3) dX11_tie_59 (by decide) ?_
      exact mr_iretX (pc := 61) dX11_tie_61 rfl (le_t rfl) (le_t rfl) hw hT mX.refl (same (by decide))
  · refine mr_bipush (pc := 44) (z := -2) dX11_tie_44 (by decide) ?_
    exact mr_iretX (pc := 46) dX11_tie_46 rfl (le_t rfl) (le_t rfl) hw hT mX.refl (same (by decide))
end MV36
